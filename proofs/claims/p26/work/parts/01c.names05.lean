set_option maxRecDepth 20000 in
theorem ggX0_init_X4_init : GoodIn wsX0_init wsX4_init := goodIn_r _ [19, 20, 2, 3, 21, 22, 23, 24, 25, 26, 27, 28, 29, 30, 40] (by decide +kernel) (by decide +kernel)
set_option maxRecDepth 20000 in
theorem gX0_init_X4_init : GoodIn wsX0_init (wsX4_init) := ggX0_init_X4_init
set_option maxRecDepth 20000 in
theorem ggX0_init_X1_init : GoodIn wsX0_init wsX1_init := goodIn_r _ [33, 34, 2, 3, 35, 36, 37, 22, 23, 24, 25, 38, 39, 28, 29, 30, 48, 49, 50] (by decide +kernel) (by decide +kernel)
set_option maxRecDepth 20000 in
theorem gX0_init_X1_init : GoodIn wsX0_init (wsX1_init) := ggX0_init_X1_init
theorem dX0_init_0 : decode cX0_init 0 = .ok (.aload_n 0, 1) := by decide +kernel
theorem dX0_init_1 : decode cX0_init 1 = .ok (.invokespecial 3, 3) := by decide +kernel
theorem dX0_init_4 : decode cX0_init 4 = .ok (.aload_n 0, 1) := by decide +kernel
theorem dX0_init_5 : decode cX0_init 5 = .ok (.new 9, 3) := by decide +kernel
theorem dX0_init_8 : decode cX0_init 8 = .ok (.dup, 1) := by decide +kernel
theorem dX0_init_9 : decode cX0_init 9 = .ok (.bipush 80, 2) := by decide +kernel
theorem dX0_init_11 : decode cX0_init 11 = .ok (.iconst 0, 1) := by decide +kernel
theorem dX0_init_12 : decode cX0_init 12 = .ok (.invokespecial 11, 3) := by decide +kernel
theorem dX0_init_15 : decode cX0_init 15 = .ok (.putfield 14, 3) := by decide +kernel
theorem dX0_init_18 : decode cX0_init 18 = .ok (.aload_n 0, 1) := by decide +kernel
theorem dX0_init_19 : decode cX0_init 19 = .ok (.new 20, 3) := by decide +kernel
theorem dX0_init_22 : decode cX0_init 22 = .ok (.dup, 1) := by decide +kernel
theorem dX0_init_23 : decode cX0_init 23 = .ok (.bipush 80, 2) := by decide +kernel
theorem dX0_init_25 : decode cX0_init 25 = .ok (.iconst 3, 1) := by decide +kernel
theorem dX0_init_26 : decode cX0_init 26 = .ok (.iconst (-1), 1) := by decide +kernel
theorem dX0_init_27 : decode cX0_init 27 = .ok (.invokespecial 22, 3) := by decide +kernel
theorem dX0_init_30 : decode cX0_init 30 = .ok (.putfield 25, 3) := by decide +kernel
theorem dX0_init_33 : decode cX0_init 33 = .ok (.aload_n 0, 1) := by decide +kernel
theorem dX0_init_34 : decode cX0_init 34 = .ok (.new 20, 3) := by decide +kernel
theorem dX0_init_37 : decode cX0_init 37 = .ok (.dup, 1) := by decide +kernel
theorem dX0_init_38 : decode cX0_init 38 = .ok (.bipush 80, 2) := by decide +kernel
theorem dX0_init_40 : decode cX0_init 40 = .ok (.iconst 4, 1) := by decide +kernel
theorem dX0_init_41 : decode cX0_init 41 = .ok (.iconst (-1), 1) := by decide +kernel
theorem dX0_init_42 : decode cX0_init 42 = .ok (.invokespecial 22, 3) := by decide +kernel
theorem dX0_init_45 : decode cX0_init 45 = .ok (.putfield 29, 3) := by decide +kernel
theorem dX0_init_48 : decode cX0_init 48 = .ok (.aload_n 0, 1) := by decide +kernel
theorem dX0_init_49 : decode cX0_init 49 = .ok (.new 20, 3) := by decide +kernel
theorem dX0_init_52 : decode cX0_init 52 = .ok (.dup, 1) := by decide +kernel
theorem dX0_init_53 : decode cX0_init 53 = .ok (.bipush 80, 2) := by decide +kernel
theorem dX0_init_55 : decode cX0_init 55 = .ok (.iconst 4, 1) := by decide +kernel
theorem dX0_init_56 : decode cX0_init 56 = .ok (.iconst (-1), 1) := by decide +kernel
theorem dX0_init_57 : decode cX0_init 57 = .ok (.invokespecial 22, 3) := by decide +kernel
theorem dX0_init_60 : decode cX0_init 60 = .ok (.putfield 32, 3) := by decide +kernel
theorem dX0_init_63 : decode cX0_init 63 = .ok (.aload_n 0, 1) := by decide +kernel
theorem dX0_init_64 : decode cX0_init 64 = .ok (.new 20, 3) := by decide +kernel
theorem dX0_init_67 : decode cX0_init 67 = .ok (.dup, 1) := by decide +kernel
theorem dX0_init_68 : decode cX0_init 68 = .ok (.bipush 80, 2) := by decide +kernel
theorem dX0_init_70 : decode cX0_init 70 = .ok (.iconst 4, 1) := by decide +kernel
theorem dX0_init_71 : decode cX0_init 71 = .ok (.iconst 0, 1) := by decide +kernel
theorem dX0_init_72 : decode cX0_init 72 = .ok (.invokespecial 22, 3) := by decide +kernel
theorem dX0_init_75 : decode cX0_init 75 = .ok (.putfield 35, 3) := by decide +kernel
theorem dX0_init_78 : decode cX0_init 78 = .ok (.aload_n 0, 1) := by decide +kernel
theorem dX0_init_79 : decode cX0_init 79 = .ok (.new 9, 3) := by decide +kernel
theorem dX0_init_82 : decode cX0_init 82 = .ok (.dup, 1) := by decide +kernel
theorem dX0_init_83 : decode cX0_init 83 = .ok (.bipush 80, 2) := by decide +kernel
theorem dX0_init_85 : decode cX0_init 85 = .ok (.iconst 0, 1) := by decide +kernel
theorem dX0_init_86 : decode cX0_init 86 = .ok (.invokespecial 11, 3) := by decide +kernel
theorem dX0_init_89 : decode cX0_init 89 = .ok (.putfield 38, 3) := by decide +kernel
theorem dX0_init_92 : decode cX0_init 92 = .ok (.aload_n 0, 1) := by decide +kernel
theorem dX0_init_93 : decode cX0_init 93 = .ok (.new 9, 3) := by decide +kernel
theorem dX0_init_96 : decode cX0_init 96 = .ok (.dup, 1) := by decide +kernel
theorem dX0_init_97 : decode cX0_init 97 = .ok (.bipush 80, 2) := by decide +kernel
theorem dX0_init_99 : decode cX0_init 99 = .ok (.iconst (-1), 1) := by decide +kernel
theorem dX0_init_100 : decode cX0_init 100 = .ok (.invokespecial 11, 3) := by decide +kernel
theorem dX0_init_103 : decode cX0_init 103 = .ok (.putfield 41, 3) := by decide +kernel
theorem dX0_init_106 : decode cX0_init 106 = .ok (.return_, 1) := by decide +kernel
set_option maxRecDepth 20000 in
theorem ggX0_clear_X4_fill : GoodIn wsX0_clear wsX4_fill := goodIn_r _ [12, 13, 14, 15, 16, 17, 32] (by decide +kernel) (by decide +kernel)
set_option maxRecDepth 20000 in
theorem gX0_clear_X4_fill : GoodIn wsX0_clear (wsV RX0 44 RX4 yX4_fill wsX4_fill) := goodIn_app (goodIn_of _ (by decide +kernel)) ggX0_clear_X4_fill
set_option maxRecDepth 20000 in
theorem ggX0_clear_X1_fill : GoodIn wsX0_clear wsX1_fill := goodIn_r _ [22, 23, 24, 15, 16, 17, 33, 34, 35] (by decide +kernel) (by decide +kernel)
set_option maxRecDepth 20000 in
theorem gX0_clear_X1_fill : GoodIn wsX0_clear (wsV RX0 48 RX1 yX1_fill wsX1_fill) := goodIn_app (goodIn_of _ (by decide +kernel)) ggX0_clear_X1_fill
theorem dX0_clear_0 : decode cX0_clear 0 = .ok (.aload_n 0, 1) := by decide +kernel
theorem dX0_clear_1 : decode cX0_clear 1 = .ok (.getfield 14, 3) := by decide +kernel
theorem dX0_clear_4 : decode cX0_clear 4 = .ok (.iconst 0, 1) := by decide +kernel
theorem dX0_clear_5 : decode cX0_clear 5 = .ok (.invokevirtual 44, 3) := by decide +kernel
theorem dX0_clear_8 : decode cX0_clear 8 = .ok (.aload_n 0, 1) := by decide +kernel
theorem dX0_clear_9 : decode cX0_clear 9 = .ok (.getfield 25, 3) := by decide +kernel
theorem dX0_clear_12 : decode cX0_clear 12 = .ok (.iconst (-1), 1) := by decide +kernel
theorem dX0_clear_13 : decode cX0_clear 13 = .ok (.invokevirtual 48, 3) := by decide +kernel
theorem dX0_clear_16 : decode cX0_clear 16 = .ok (.aload_n 0, 1) := by decide +kernel
theorem dX0_clear_17 : decode cX0_clear 17 = .ok (.getfield 29, 3) := by decide +kernel
theorem dX0_clear_20 : decode cX0_clear 20 = .ok (.iconst (-1), 1) := by decide +kernel
theorem dX0_clear_21 : decode cX0_clear 21 = .ok (.invokevirtual 48, 3) := by decide +kernel
theorem dX0_clear_24 : decode cX0_clear 24 = .ok (.aload_n 0, 1) := by decide +kernel
theorem dX0_clear_25 : decode cX0_clear 25 = .ok (.getfield 32, 3) := by decide +kernel
theorem dX0_clear_28 : decode cX0_clear 28 = .ok (.iconst (-1), 1) := by decide +kernel
theorem dX0_clear_29 : decode cX0_clear 29 = .ok (.invokevirtual 48, 3) := by decide +kernel
theorem dX0_clear_32 : decode cX0_clear 32 = .ok (.aload_n 0, 1) := by decide +kernel
theorem dX0_clear_33 : decode cX0_clear 33 = .ok (.getfield 35, 3) := by decide +kernel
theorem dX0_clear_36 : decode cX0_clear 36 = .ok (.iconst 0, 1) := by decide +kernel
theorem dX0_clear_37 : decode cX0_clear 37 = .ok (.invokevirtual 48, 3) := by decide +kernel
theorem dX0_clear_40 : decode cX0_clear 40 = .ok (.aload_n 0, 1) := by decide +kernel
theorem dX0_clear_41 : decode cX0_clear 41 = .ok (.getfield 38, 3) := by decide +kernel
theorem dX0_clear_44 : decode cX0_clear 44 = .ok (.iconst 0, 1) := by decide +kernel
theorem dX0_clear_45 : decode cX0_clear 45 = .ok (.invokevirtual 44, 3) := by decide +kernel
theorem dX0_clear_48 : decode cX0_clear 48 = .ok (.aload_n 0, 1) := by decide +kernel
theorem dX0_clear_49 : decode cX0_clear 49 = .ok (.getfield 41, 3) := by decide +kernel
theorem dX0_clear_52 : decode cX0_clear 52 = .ok (.iconst (-1), 1) := by decide +kernel
theorem dX0_clear_53 : decode cX0_clear 53 = .ok (.invokevirtual 44, 3) := by decide +kernel
theorem dX0_clear_56 : decode cX0_clear 56 = .ok (.return_, 1) := by decide +kernel
set_option maxRecDepth 20000 in
theorem ggX0_has_X4_get : GoodIn wsX0_has wsX4_get := goodIn_r _ [6, 7, 15] (by decide +kernel) (by decide +kernel)
set_option maxRecDepth 20000 in
theorem gX0_has_X4_get : GoodIn wsX0_has (wsV RX0 49 RX4 yX4_get wsX4_get) := goodIn_app (goodIn_of _ (by decide +kernel)) ggX0_has_X4_get
theorem dX0_has_0 : decode cX0_has 0 = .ok (.aload_n 0, 1) := by decide +kernel
theorem dX0_has_1 : decode cX0_has 1 = .ok (.getfield 14, 3) := by decide +kernel
theorem dX0_has_4 : decode cX0_has 4 = .ok (.iload_n 1, 1) := by decide +kernel
theorem dX0_has_5 : decode cX0_has 5 = .ok (.invokevirtual 49, 3) := by decide +kernel
theorem dX0_has_8 : decode cX0_has 8 = .ok (.iconst 1, 1) := by decide +kernel
theorem dX0_has_9 : decode cX0_has 9 = .ok (.if_icmp .ne 7, 3) := by decide +kernel
theorem dX0_has_12 : decode cX0_has 12 = .ok (.iconst 1, 1) := by decide +kernel
theorem dX0_has_13 : decode cX0_has 13 = .ok (.goto 4, 3) := by decide +kernel
theorem dX0_has_16 : decode cX0_has 16 = .ok (.iconst 0, 1) := by decide +kernel
theorem dX0_has_17 : decode cX0_has 17 = .ok (.ireturn, 1) := by decide +kernel
set_option maxRecDepth 20000 in
theorem ggX0_count_X0_has : GoodIn wsX0_count wsX0_has := goodIn_r _ [5, 6, 7, 8, 9, 10, 11, 12, 13, 14, 15, 16, 17, 18, 19, 20] (by decide +kernel) (by decide +kernel)
set_option maxRecDepth 20000 in
theorem gX0_count_X0_has : GoodIn wsX0_count (wsV RX0 53 RX0 yX0_has wsX0_has) := goodIn_app (goodIn_of _ (by decide +kernel)) ggX0_count_X0_has
theorem dX0_count_0 : decode cX0_count 0 = .ok (.iconst 0, 1) := by decide +kernel
theorem dX0_count_1 : decode cX0_count 1 = .ok (.istore_n 1, 1) := by decide +kernel
theorem dX0_count_2 : decode cX0_count 2 = .ok (.iconst 0, 1) := by decide +kernel
theorem dX0_count_3 : decode cX0_count 3 = .ok (.istore_n 2, 1) := by decide +kernel
theorem dX0_count_4 : decode cX0_count 4 = .ok (.iload_n 2, 1) := by decide +kernel
theorem dX0_count_5 : decode cX0_count 5 = .ok (.bipush 80, 2) := by decide +kernel
theorem dX0_count_7 : decode cX0_count 7 = .ok (.if_icmp .ge 20, 3) := by decide +kernel
theorem dX0_count_10 : decode cX0_count 10 = .ok (.aload_n 0, 1) := by decide +kernel
theorem dX0_count_11 : decode cX0_count 11 = .ok (.iload_n 2, 1) := by decide +kernel
theorem dX0_count_12 : decode cX0_count 12 = .ok (.invokevirtual 53, 3) := by decide +kernel
theorem dX0_count_15 : decode cX0_count 15 = .ok (.ifCond .eq 6, 3) := by decide +kernel
theorem dX0_count_18 : decode cX0_count 18 = .ok (.iinc 1 1, 3) := by decide +kernel
theorem dX0_count_21 : decode cX0_count 21 = .ok (.iinc 2 1, 3) := by decide +kernel
theorem dX0_count_24 : decode cX0_count 24 = .ok (.goto (-20), 3) := by decide +kernel
theorem dX0_count_27 : decode cX0_count 27 = .ok (.iload_n 1, 1) := by decide +kernel
theorem dX0_count_28 : decode cX0_count 28 = .ok (.ireturn, 1) := by decide +kernel
set_option maxRecDepth 20000 in
theorem ggX0_take_X3_isLeftOut : GoodIn wsX0_take wsX3_isLeftOut := goodIn_r _ [7, 8, 9, 10, 11, 12, 13, 14, 15, 69, 70, 71, 72, 73, 74, 75, 76] (by decide +kernel) (by decide +kernel)
set_option maxRecDepth 20000 in
theorem gX0_take_X3_isLeftOut : GoodIn wsX0_take (wsV RX0 57 RX3 yX3_isLeftOut wsX3_isLeftOut) := goodIn_app (goodIn_of _ (by decide +kernel)) ggX0_take_X3_isLeftOut
set_option maxRecDepth 20000 in
theorem ggX0_take_X0_target : GoodIn wsX0_take wsX0_target := goodIn_r _ [20, 21, 11, 12, 13, 14, 15, 22, 23, 24, 25, 26, 27, 28, 29, 30, 31, 32, 19, 33, 1, 34, 77, 78, 79, 69, 70, 71, 72, 73, 74, 75, 76, 80, 81, 82, 62, 63, 64, 65, 66, 67, 68] (by decide +kernel) (by decide +kernel)
set_option maxRecDepth 20000 in
theorem gX0_take_X0_target : GoodIn wsX0_take (wsV RX0 62 RX0 yX0_target wsX0_target) := goodIn_app (goodIn_of _ (by decide +kernel)) ggX0_take_X0_target
set_option maxRecDepth 20000 in
theorem ggX0_take_X4_set : GoodIn wsX0_take wsX4_set := goodIn_r _ [38, 15, 76] (by decide +kernel) (by decide +kernel)
set_option maxRecDepth 20000 in
theorem gX0_take_X4_set : GoodIn wsX0_take (wsV RX0 66 RX4 yX4_set wsX4_set) := goodIn_app (goodIn_of _ (by decide +kernel)) ggX0_take_X4_set
set_option maxRecDepth 20000 in
theorem ggX0_take_X0_layKeys : GoodIn wsX0_take wsX0_layKeys := goodIn_r _ [42, 34, 22, 23, 24, 25, 26, 27, 28, 29, 43, 44, 45, 46, 62, 63, 64, 65, 66, 67, 68, 69, 70, 71, 72, 73, 74, 75, 80, 81, 82] (by decide +kernel) (by decide +kernel)
set_option maxRecDepth 20000 in
theorem gX0_take_X0_layKeys : GoodIn wsX0_take (wsV RX0 69 RX0 yX0_layKeys wsX0_layKeys) := goodIn_app (goodIn_of _ (by decide +kernel)) ggX0_take_X0_layKeys
set_option maxRecDepth 20000 in
theorem ggX0_take_X0_layFields : GoodIn wsX0_take wsX0_layFields := goodIn_r _ [50, 51, 52, 53, 21, 11, 12, 13, 14, 15, 22, 23, 24, 25, 26, 27, 28, 29, 54, 55, 56, 57, 58, 59, 60, 61, 43, 44, 45, 46, 69, 70, 71, 72, 73, 74, 75, 62, 63, 64, 65, 66, 67, 68, 76, 80, 81, 82, 77, 78, 79] (by decide +kernel) (by decide +kernel)
set_option maxRecDepth 20000 in
theorem gX0_take_X0_layFields : GoodIn wsX0_take (wsV RX0 73 RX0 yX0_layFields wsX0_layFields) := goodIn_app (goodIn_of _ (by decide +kernel)) ggX0_take_X0_layFields
theorem dX0_take_0 : decode cX0_take 0 = .ok (.aload_n 2, 1) := by decide +kernel
theorem dX0_take_1 : decode cX0_take 1 = .ok (.iload_n 3, 1) := by decide +kernel
theorem dX0_take_2 : decode cX0_take 2 = .ok (.invokevirtual 57, 3) := by decide +kernel
theorem dX0_take_5 : decode cX0_take 5 = .ok (.ifCond .eq 7, 3) := by decide +kernel
theorem dX0_take_8 : decode cX0_take 8 = .ok (.iconst (-1), 1) := by decide +kernel
theorem dX0_take_9 : decode cX0_take 9 = .ok (.goto 10, 3) := by decide +kernel
theorem dX0_take_12 : decode cX0_take 12 = .ok (.aload_n 0, 1) := by decide +kernel
theorem dX0_take_13 : decode cX0_take 13 = .ok (.aload_n 1, 1) := by decide +kernel
theorem dX0_take_14 : decode cX0_take 14 = .ok (.aload_n 2, 1) := by decide +kernel
theorem dX0_take_15 : decode cX0_take 15 = .ok (.iload_n 3, 1) := by decide +kernel
theorem dX0_take_16 : decode cX0_take 16 = .ok (.invokevirtual 62, 3) := by decide +kernel
theorem dX0_take_19 : decode cX0_take 19 = .ok (.istore 4, 2) := by decide +kernel
theorem dX0_take_21 : decode cX0_take 21 = .ok (.iload 4, 2) := by decide +kernel
theorem dX0_take_23 : decode cX0_take 23 = .ok (.ifCond .lt 30, 3) := by decide +kernel
theorem dX0_take_26 : decode cX0_take 26 = .ok (.aload_n 0, 1) := by decide +kernel
theorem dX0_take_27 : decode cX0_take 27 = .ok (.getfield 14, 3) := by decide +kernel
theorem dX0_take_30 : decode cX0_take 30 = .ok (.iload 4, 2) := by decide +kernel
theorem dX0_take_32 : decode cX0_take 32 = .ok (.iconst 1, 1) := by decide +kernel
theorem dX0_take_33 : decode cX0_take 33 = .ok (.invokevirtual 66, 3) := by decide +kernel
theorem dX0_take_36 : decode cX0_take 36 = .ok (.aload_n 0, 1) := by decide +kernel
theorem dX0_take_37 : decode cX0_take 37 = .ok (.aload_n 2, 1) := by decide +kernel
theorem dX0_take_38 : decode cX0_take 38 = .ok (.iload_n 3, 1) := by decide +kernel
theorem dX0_take_39 : decode cX0_take 39 = .ok (.iload 4, 2) := by decide +kernel
theorem dX0_take_41 : decode cX0_take 41 = .ok (.invokevirtual 69, 3) := by decide +kernel
theorem dX0_take_44 : decode cX0_take 44 = .ok (.aload_n 0, 1) := by decide +kernel
theorem dX0_take_45 : decode cX0_take 45 = .ok (.aload_n 1, 1) := by decide +kernel
theorem dX0_take_46 : decode cX0_take 46 = .ok (.aload_n 2, 1) := by decide +kernel
theorem dX0_take_47 : decode cX0_take 47 = .ok (.iload_n 3, 1) := by decide +kernel
theorem dX0_take_48 : decode cX0_take 48 = .ok (.iload 4, 2) := by decide +kernel
theorem dX0_take_50 : decode cX0_take 50 = .ok (.invokevirtual 73, 3) := by decide +kernel
theorem dX0_take_53 : decode cX0_take 53 = .ok (.aload_n 0, 1) := by decide +kernel
theorem dX0_take_54 : decode cX0_take 54 = .ok (.getfield 41, 3) := by decide +kernel
theorem dX0_take_57 : decode cX0_take 57 = .ok (.iload_n 3, 1) := by decide +kernel
theorem dX0_take_58 : decode cX0_take 58 = .ok (.iload 4, 2) := by decide +kernel
theorem dX0_take_60 : decode cX0_take 60 = .ok (.invokevirtual 66, 3) := by decide +kernel
theorem dX0_take_63 : decode cX0_take 63 = .ok (.iload 4, 2) := by decide +kernel
theorem dX0_take_65 : decode cX0_take 65 = .ok (.ireturn, 1) := by decide +kernel
set_option maxRecDepth 20000 in
theorem ggX0_target_X4_get : GoodIn wsX0_target wsX4_get := goodIn_r _ [5, 6, 32] (by decide +kernel) (by decide +kernel)
set_option maxRecDepth 20000 in
theorem gX0_target_X4_get : GoodIn wsX0_target (wsV RX0 49 RX4 yX4_get wsX4_get) := goodIn_app (goodIn_of _ (by decide +kernel)) ggX0_target_X4_get
set_option maxRecDepth 20000 in
theorem ggX0_target_X1_get : GoodIn wsX0_target wsX1_get := goodIn_r _ [11, 12, 13, 14, 33, 34, 35] (by decide +kernel) (by decide +kernel)
set_option maxRecDepth 20000 in
theorem gX0_target_X1_get : GoodIn wsX0_target (wsV RX0 83 RX1 yX1_get wsX1_get) := goodIn_app (goodIn_of _ (by decide +kernel)) ggX0_target_X1_get
set_option maxRecDepth 20000 in
theorem ggX0_target_X0_find : GoodIn wsX0_target wsX0_find := goodIn_r _ [19, 20, 21, 1, 2, 3, 4, 5, 6, 7, 8, 9, 10, 11, 12, 13, 14, 36, 37, 38, 39, 40, 41, 42, 32, 33, 34, 35] (by decide +kernel) (by decide +kernel)
set_option maxRecDepth 20000 in
theorem gX0_target_X0_find : GoodIn wsX0_target (wsV RX0 86 RX0 yX0_find wsX0_find) := goodIn_app (goodIn_of _ (by decide +kernel)) ggX0_target_X0_find
theorem dX0_target_0 : decode cX0_target 0 = .ok (.iconst 0, 1) := by decide +kernel
theorem dX0_target_1 : decode cX0_target 1 = .ok (.istore 4, 2) := by decide +kernel
theorem dX0_target_3 : decode cX0_target 3 = .ok (.iload 4, 2) := by decide +kernel
theorem dX0_target_5 : decode cX0_target 5 = .ok (.iconst 3, 1) := by decide +kernel
theorem dX0_target_6 : decode cX0_target 6 = .ok (.if_icmp .ge 47, 3) := by decide +kernel
theorem dX0_target_9 : decode cX0_target 9 = .ok (.aload_n 1, 1) := by decide +kernel
theorem dX0_target_10 : decode cX0_target 10 = .ok (.getfield 77, 3) := by decide +kernel
theorem dX0_target_13 : decode cX0_target 13 = .ok (.iload 4, 2) := by decide +kernel
theorem dX0_target_15 : decode cX0_target 15 = .ok (.invokevirtual 49, 3) := by decide +kernel
theorem dX0_target_18 : decode cX0_target 18 = .ok (.istore 5, 2) := by decide +kernel
theorem dX0_target_20 : decode cX0_target 20 = .ok (.aload_n 0, 1) := by decide +kernel
theorem dX0_target_21 : decode cX0_target 21 = .ok (.iload 5, 2) := by decide +kernel
theorem dX0_target_23 : decode cX0_target 23 = .ok (.aload_n 2, 1) := by decide +kernel
theorem dX0_target_24 : decode cX0_target 24 = .ok (.getfield 82, 3) := by decide +kernel
theorem dX0_target_27 : decode cX0_target 27 = .ok (.iload_n 3, 1) := by decide +kernel
theorem dX0_target_28 : decode cX0_target 28 = .ok (.iload 5, 2) := by decide +kernel
theorem dX0_target_30 : decode cX0_target 30 = .ok (.invokevirtual 83, 3) := by decide +kernel
theorem dX0_target_33 : decode cX0_target 33 = .ok (.invokevirtual 86, 3) := by decide +kernel
theorem dX0_target_36 : decode cX0_target 36 = .ok (.istore 6, 2) := by decide +kernel
theorem dX0_target_38 : decode cX0_target 38 = .ok (.iload 6, 2) := by decide +kernel
theorem dX0_target_40 : decode cX0_target 40 = .ok (.iconst (-1), 1) := by decide +kernel
theorem dX0_target_41 : decode cX0_target 41 = .ok (.if_icmp .eq 6, 3) := by decide +kernel
theorem dX0_target_44 : decode cX0_target 44 = .ok (.iload 6, 2) := by decide +kernel
theorem dX0_target_46 : decode cX0_target 46 = .ok (.ireturn, 1) := by decide +kernel
theorem dX0_target_47 : decode cX0_target 47 = .ok (.iinc 4 1, 3) := by decide +kernel
theorem dX0_target_50 : decode cX0_target 50 = .ok (.goto (-47), 3) := by decide +kernel
theorem dX0_target_53 : decode cX0_target 53 = .ok (.iload_n 3, 1) := by decide +kernel
theorem dX0_target_54 : decode cX0_target 54 = .ok (.ireturn, 1) := by decide +kernel
set_option maxRecDepth 20000 in
theorem ggX0_find_X4_get : GoodIn wsX0_find wsX4_get := goodIn_r _ [7, 8, 24] (by decide +kernel) (by decide +kernel)
set_option maxRecDepth 20000 in
theorem gX0_find_X4_get : GoodIn wsX0_find (wsV RX0 49 RX4 yX4_get wsX4_get) := goodIn_app (goodIn_of _ (by decide +kernel)) ggX0_find_X4_get
set_option maxRecDepth 20000 in
theorem ggX0_find_X1_get : GoodIn wsX0_find wsX1_get := goodIn_r _ [13, 14, 15, 16, 25, 26, 27] (by decide +kernel) (by decide +kernel)
set_option maxRecDepth 20000 in
theorem gX0_find_X1_get : GoodIn wsX0_find (wsV RX0 83 RX1 yX1_get wsX1_get) := goodIn_app (goodIn_of _ (by decide +kernel)) ggX0_find_X1_get
theorem dX0_find_0 : decode cX0_find 0 = .ok (.iload_n 2, 1) := by decide +kernel
theorem dX0_find_1 : decode cX0_find 1 = .ok (.iconst (-1), 1) := by decide +kernel
theorem dX0_find_2 : decode cX0_find 2 = .ok (.if_icmp .ne 5, 3) := by decide +kernel
theorem dX0_find_5 : decode cX0_find 5 = .ok (.iconst (-1), 1) := by decide +kernel
theorem dX0_find_6 : decode cX0_find 6 = .ok (.ireturn, 1) := by decide +kernel
theorem dX0_find_7 : decode cX0_find 7 = .ok (.iconst (-1), 1) := by decide +kernel
theorem dX0_find_8 : decode cX0_find 8 = .ok (.istore_n 3, 1) := by decide +kernel
theorem dX0_find_9 : decode cX0_find 9 = .ok (.iconst 0, 1) := by decide +kernel
theorem dX0_find_10 : decode cX0_find 10 = .ok (.istore 4, 2) := by decide +kernel
theorem dX0_find_12 : decode cX0_find 12 = .ok (.iload 4, 2) := by decide +kernel
theorem dX0_find_14 : decode cX0_find 14 = .ok (.bipush 80, 2) := by decide +kernel
theorem dX0_find_16 : decode cX0_find 16 = .ok (.if_icmp .ge 47, 3) := by decide +kernel
theorem dX0_find_19 : decode cX0_find 19 = .ok (.aload_n 0, 1) := by decide +kernel
theorem dX0_find_20 : decode cX0_find 20 = .ok (.getfield 14, 3) := by decide +kernel
theorem dX0_find_23 : decode cX0_find 23 = .ok (.iload 4, 2) := by decide +kernel
theorem dX0_find_25 : decode cX0_find 25 = .ok (.invokevirtual 49, 3) := by decide +kernel
theorem dX0_find_28 : decode cX0_find 28 = .ok (.iconst 1, 1) := by decide +kernel
theorem dX0_find_29 : decode cX0_find 29 = .ok (.if_icmp .ne 28, 3) := by decide +kernel
theorem dX0_find_32 : decode cX0_find 32 = .ok (.aload_n 0, 1) := by decide +kernel
theorem dX0_find_33 : decode cX0_find 33 = .ok (.getfield 25, 3) := by decide +kernel
theorem dX0_find_36 : decode cX0_find 36 = .ok (.iload 4, 2) := by decide +kernel
theorem dX0_find_38 : decode cX0_find 38 = .ok (.iload_n 1, 1) := by decide +kernel
theorem dX0_find_39 : decode cX0_find 39 = .ok (.invokevirtual 83, 3) := by decide +kernel
theorem dX0_find_42 : decode cX0_find 42 = .ok (.iload_n 2, 1) := by decide +kernel
theorem dX0_find_43 : decode cX0_find 43 = .ok (.if_icmp .ne 14, 3) := by decide +kernel
theorem dX0_find_46 : decode cX0_find 46 = .ok (.iload_n 3, 1) := by decide +kernel
theorem dX0_find_47 : decode cX0_find 47 = .ok (.iconst (-1), 1) := by decide +kernel
theorem dX0_find_48 : decode cX0_find 48 = .ok (.if_icmp .eq 6, 3) := by decide +kernel
theorem dX0_find_51 : decode cX0_find 51 = .ok (.bipush (-2), 2) := by decide +kernel
theorem dX0_find_53 : decode cX0_find 53 = .ok (.ireturn, 1) := by decide +kernel
theorem dX0_find_54 : decode cX0_find 54 = .ok (.iload 4, 2) := by decide +kernel
theorem dX0_find_56 : decode cX0_find 56 = .ok (.istore_n 3, 1) := by decide +kernel
theorem dX0_find_57 : decode cX0_find 57 = .ok (.iinc 4 1, 3) := by decide +kernel
theorem dX0_find_60 : decode cX0_find 60 = .ok (.goto (-48), 3) := by decide +kernel
theorem dX0_find_63 : decode cX0_find 63 = .ok (.iload_n 3, 1) := by decide +kernel
theorem dX0_find_64 : decode cX0_find 64 = .ok (.ireturn, 1) := by decide +kernel
set_option maxRecDepth 20000 in
theorem ggX0_layKeys_X1_get : GoodIn wsX0_layKeys wsX1_get := goodIn_r _ [6, 7, 8, 9, 28, 29, 30] (by decide +kernel) (by decide +kernel)
set_option maxRecDepth 20000 in
theorem gX0_layKeys_X1_get : GoodIn wsX0_layKeys (wsV RX0 83 RX1 yX1_get wsX1_get) := goodIn_app (goodIn_of _ (by decide +kernel)) ggX0_layKeys_X1_get
set_option maxRecDepth 20000 in
theorem ggX0_layKeys_X1_set : GoodIn wsX0_layKeys wsX1_set := goodIn_r _ [13, 7, 8, 9, 28, 29, 30] (by decide +kernel) (by decide +kernel)
set_option maxRecDepth 20000 in
theorem gX0_layKeys_X1_set : GoodIn wsX0_layKeys (wsV RX0 89 RX1 yX1_set wsX1_set) := goodIn_app (goodIn_of _ (by decide +kernel)) ggX0_layKeys_X1_set
theorem dX0_layKeys_0 : decode cX0_layKeys 0 = .ok (.iconst 0, 1) := by decide +kernel
theorem dX0_layKeys_1 : decode cX0_layKeys 1 = .ok (.istore 4, 2) := by decide +kernel
theorem dX0_layKeys_3 : decode cX0_layKeys 3 = .ok (.iload 4, 2) := by decide +kernel
theorem dX0_layKeys_5 : decode cX0_layKeys 5 = .ok (.iconst 3, 1) := by decide +kernel
theorem dX0_layKeys_6 : decode cX0_layKeys 6 = .ok (.if_icmp .ge 43, 3) := by decide +kernel
theorem dX0_layKeys_9 : decode cX0_layKeys 9 = .ok (.aload_n 0, 1) := by decide +kernel
theorem dX0_layKeys_10 : decode cX0_layKeys 10 = .ok (.getfield 25, 3) := by decide +kernel
theorem dX0_layKeys_13 : decode cX0_layKeys 13 = .ok (.iload_n 3, 1) := by decide +kernel
theorem dX0_layKeys_14 : decode cX0_layKeys 14 = .ok (.iload 4, 2) := by decide +kernel
theorem dX0_layKeys_16 : decode cX0_layKeys 16 = .ok (.invokevirtual 83, 3) := by decide +kernel
theorem dX0_layKeys_19 : decode cX0_layKeys 19 = .ok (.iconst (-1), 1) := by decide +kernel
theorem dX0_layKeys_20 : decode cX0_layKeys 20 = .ok (.if_icmp .ne 23, 3) := by decide +kernel
theorem dX0_layKeys_23 : decode cX0_layKeys 23 = .ok (.aload_n 0, 1) := by decide +kernel
theorem dX0_layKeys_24 : decode cX0_layKeys 24 = .ok (.getfield 25, 3) := by decide +kernel
theorem dX0_layKeys_27 : decode cX0_layKeys 27 = .ok (.iload_n 3, 1) := by decide +kernel
theorem dX0_layKeys_28 : decode cX0_layKeys 28 = .ok (.iload 4, 2) := by decide +kernel
theorem dX0_layKeys_30 : decode cX0_layKeys 30 = .ok (.aload_n 1, 1) := by decide +kernel
theorem dX0_layKeys_31 : decode cX0_layKeys 31 = .ok (.getfield 82, 3) := by decide +kernel
theorem dX0_layKeys_34 : decode cX0_layKeys 34 = .ok (.iload_n 2, 1) := by decide +kernel
theorem dX0_layKeys_35 : decode cX0_layKeys 35 = .ok (.iload 4, 2) := by decide +kernel
theorem dX0_layKeys_37 : decode cX0_layKeys 37 = .ok (.invokevirtual 83, 3) := by decide +kernel
theorem dX0_layKeys_40 : decode cX0_layKeys 40 = .ok (.invokevirtual 89, 3) := by decide +kernel
theorem dX0_layKeys_43 : decode cX0_layKeys 43 = .ok (.iinc 4 1, 3) := by decide +kernel
theorem dX0_layKeys_46 : decode cX0_layKeys 46 = .ok (.goto (-43), 3) := by decide +kernel
theorem dX0_layKeys_49 : decode cX0_layKeys 49 = .ok (.return_, 1) := by decide +kernel
set_option maxRecDepth 20000 in
theorem ggX0_layFields_X4_get : GoodIn wsX0_layFields wsX4_get := goodIn_r _ [8, 9, 44] (by decide +kernel) (by decide +kernel)
set_option maxRecDepth 20000 in
theorem gX0_layFields_X4_get : GoodIn wsX0_layFields (wsV RX0 49 RX4 yX4_get wsX4_get) := goodIn_app (goodIn_of _ (by decide +kernel)) ggX0_layFields_X4_get
set_option maxRecDepth 20000 in
theorem ggX0_layFields_X1_get : GoodIn wsX0_layFields wsX1_get := goodIn_r _ [14, 15, 16, 17, 45, 46, 47] (by decide +kernel) (by decide +kernel)
set_option maxRecDepth 20000 in
theorem gX0_layFields_X1_get : GoodIn wsX0_layFields (wsV RX0 83 RX1 yX1_get wsX1_get) := goodIn_app (goodIn_of _ (by decide +kernel)) ggX0_layFields_X1_get
set_option maxRecDepth 20000 in
theorem ggX0_layFields_X5_replaces : GoodIn wsX0_layFields wsX5_replaces := goodIn_r _ [22, 23, 24, 25, 5, 6, 7, 8, 9, 48, 49, 50, 44] (by decide +kernel) (by decide +kernel)
set_option maxRecDepth 20000 in
theorem gX0_layFields_X5_replaces : GoodIn wsX0_layFields (wsV RX0 94 RX5 yX5_replaces wsX5_replaces) := goodIn_app (goodIn_of _ (by decide +kernel)) ggX0_layFields_X5_replaces
set_option maxRecDepth 20000 in
theorem ggX0_layFields_X1_set : GoodIn wsX0_layFields wsX1_set := goodIn_r _ [29, 15, 16, 17, 45, 46, 47] (by decide +kernel) (by decide +kernel)
set_option maxRecDepth 20000 in
theorem gX0_layFields_X1_set : GoodIn wsX0_layFields (wsV RX0 89 RX1 yX1_set wsX1_set) := goodIn_app (goodIn_of _ (by decide +kernel)) ggX0_layFields_X1_set
theorem dX0_layFields_0 : decode cX0_layFields 0 = .ok (.aload_n 2, 1) := by decide +kernel
theorem dX0_layFields_1 : decode cX0_layFields 1 = .ok (.getfield 91, 3) := by decide +kernel
theorem dX0_layFields_4 : decode cX0_layFields 4 = .ok (.iload_n 3, 1) := by decide +kernel
theorem dX0_layFields_5 : decode cX0_layFields 5 = .ok (.invokevirtual 49, 3) := by decide +kernel
theorem dX0_layFields_8 : decode cX0_layFields 8 = .ok (.istore 5, 2) := by decide +kernel
theorem dX0_layFields_10 : decode cX0_layFields 10 = .ok (.iconst 0, 1) := by decide +kernel
theorem dX0_layFields_11 : decode cX0_layFields 11 = .ok (.istore 6, 2) := by decide +kernel
theorem dX0_layFields_13 : decode cX0_layFields 13 = .ok (.iload 6, 2) := by decide +kernel
theorem dX0_layFields_15 : decode cX0_layFields 15 = .ok (.iconst 4, 1) := by decide +kernel
theorem dX0_layFields_16 : decode cX0_layFields 16 = .ok (.if_icmp .ge 104, 3) := by decide +kernel
theorem dX0_layFields_19 : decode cX0_layFields 19 = .ok (.aload_n 2, 1) := by decide +kernel
theorem dX0_layFields_20 : decode cX0_layFields 20 = .ok (.getfield 93, 3) := by decide +kernel
theorem dX0_layFields_23 : decode cX0_layFields 23 = .ok (.iload_n 3, 1) := by decide +kernel
theorem dX0_layFields_24 : decode cX0_layFields 24 = .ok (.iload 6, 2) := by decide +kernel
theorem dX0_layFields_26 : decode cX0_layFields 26 = .ok (.invokevirtual 83, 3) := by decide +kernel
theorem dX0_layFields_29 : decode cX0_layFields 29 = .ok (.istore 7, 2) := by decide +kernel
theorem dX0_layFields_31 : decode cX0_layFields 31 = .ok (.iload 7, 2) := by decide +kernel
theorem dX0_layFields_33 : decode cX0_layFields 33 = .ok (.iconst (-1), 1) := by decide +kernel
theorem dX0_layFields_34 : decode cX0_layFields 34 = .ok (.if_icmp .eq 80, 3) := by decide +kernel
theorem dX0_layFields_37 : decode cX0_layFields 37 = .ok (.aload_n 0, 1) := by decide +kernel
theorem dX0_layFields_38 : decode cX0_layFields 38 = .ok (.getfield 35, 3) := by decide +kernel
theorem dX0_layFields_41 : decode cX0_layFields 41 = .ok (.iload 4, 2) := by decide +kernel
theorem dX0_layFields_43 : decode cX0_layFields 43 = .ok (.iload 6, 2) := by decide +kernel
theorem dX0_layFields_45 : decode cX0_layFields 45 = .ok (.invokevirtual 83, 3) := by decide +kernel
theorem dX0_layFields_48 : decode cX0_layFields 48 = .ok (.ifCond .ne 66, 3) := by decide +kernel
theorem dX0_layFields_51 : decode cX0_layFields 51 = .ok (.aload_n 0, 1) := by decide +kernel
theorem dX0_layFields_52 : decode cX0_layFields 52 = .ok (.getfield 29, 3) := by decide +kernel
theorem dX0_layFields_55 : decode cX0_layFields 55 = .ok (.iload 4, 2) := by decide +kernel
theorem dX0_layFields_57 : decode cX0_layFields 57 = .ok (.iload 6, 2) := by decide +kernel
theorem dX0_layFields_59 : decode cX0_layFields 59 = .ok (.invokevirtual 83, 3) := by decide +kernel
theorem dX0_layFields_62 : decode cX0_layFields 62 = .ok (.iconst (-1), 1) := by decide +kernel
theorem dX0_layFields_63 : decode cX0_layFields 63 = .ok (.if_icmp .eq 25, 3) := by decide +kernel
theorem dX0_layFields_66 : decode cX0_layFields 66 = .ok (.aload_n 1, 1) := by decide +kernel
theorem dX0_layFields_67 : decode cX0_layFields 67 = .ok (.iload 6, 2) := by decide +kernel
theorem dX0_layFields_69 : decode cX0_layFields 69 = .ok (.iload 5, 2) := by decide +kernel
theorem dX0_layFields_71 : decode cX0_layFields 71 = .ok (.aload_n 0, 1) := by decide +kernel
theorem dX0_layFields_72 : decode cX0_layFields 72 = .ok (.getfield 32, 3) := by decide +kernel
theorem dX0_layFields_75 : decode cX0_layFields 75 = .ok (.iload 4, 2) := by decide +kernel
theorem dX0_layFields_77 : decode cX0_layFields 77 = .ok (.iload 6, 2) := by decide +kernel
theorem dX0_layFields_79 : decode cX0_layFields 79 = .ok (.invokevirtual 83, 3) := by decide +kernel
theorem dX0_layFields_82 : decode cX0_layFields 82 = .ok (.invokevirtual 94, 3) := by decide +kernel
theorem dX0_layFields_85 : decode cX0_layFields 85 = .ok (.ifCond .eq 29, 3) := by decide +kernel
theorem dX0_layFields_88 : decode cX0_layFields 88 = .ok (.aload_n 0, 1) := by decide +kernel
theorem dX0_layFields_89 : decode cX0_layFields 89 = .ok (.getfield 29, 3) := by decide +kernel
theorem dX0_layFields_92 : decode cX0_layFields 92 = .ok (.iload 4, 2) := by decide +kernel
theorem dX0_layFields_94 : decode cX0_layFields 94 = .ok (.iload 6, 2) := by decide +kernel
theorem dX0_layFields_96 : decode cX0_layFields 96 = .ok (.iload 7, 2) := by decide +kernel
theorem dX0_layFields_98 : decode cX0_layFields 98 = .ok (.invokevirtual 89, 3) := by decide +kernel
theorem dX0_layFields_101 : decode cX0_layFields 101 = .ok (.aload_n 0, 1) := by decide +kernel
theorem dX0_layFields_102 : decode cX0_layFields 102 = .ok (.getfield 32, 3) := by decide +kernel
theorem dX0_layFields_105 : decode cX0_layFields 105 = .ok (.iload 4, 2) := by decide +kernel
theorem dX0_layFields_107 : decode cX0_layFields 107 = .ok (.iload 6, 2) := by decide +kernel
theorem dX0_layFields_109 : decode cX0_layFields 109 = .ok (.iload 5, 2) := by decide +kernel
theorem dX0_layFields_111 : decode cX0_layFields 111 = .ok (.invokevirtual 89, 3) := by decide +kernel
theorem dX0_layFields_114 : decode cX0_layFields 114 = .ok (.iinc 6 1, 3) := by decide +kernel
theorem dX0_layFields_117 : decode cX0_layFields 117 = .ok (.goto (-104), 3) := by decide +kernel
theorem dX0_layFields_120 : decode cX0_layFields 120 = .ok (.return_, 1) := by decide +kernel
set_option maxRecDepth 20000 in
theorem ggX0_guard_X0_has : GoodIn wsX0_guard wsX0_has := goodIn_r _ [6, 7, 8, 9, 10, 11, 12, 13, 26, 27, 28, 29, 30, 31, 32, 33] (by decide +kernel) (by decide +kernel)
set_option maxRecDepth 20000 in
theorem gX0_guard_X0_has : GoodIn wsX0_guard (wsV RX0 53 RX0 yX0_has wsX0_has) := goodIn_app (goodIn_of _ (by decide +kernel)) ggX0_guard_X0_has
set_option maxRecDepth 20000 in
theorem ggX0_guard_X1_get : GoodIn wsX0_guard wsX1_get := goodIn_r _ [18, 19, 20, 21, 34, 35, 36] (by decide +kernel) (by decide +kernel)
set_option maxRecDepth 20000 in
theorem gX0_guard_X1_get : GoodIn wsX0_guard (wsV RX0 83 RX1 yX1_get wsX1_get) := goodIn_app (goodIn_of _ (by decide +kernel)) ggX0_guard_X1_get
set_option maxRecDepth 20000 in
theorem ggX0_guard_X1_set : GoodIn wsX0_guard wsX1_set := goodIn_r _ [25, 19, 20, 21, 34, 35, 36] (by decide +kernel) (by decide +kernel)
set_option maxRecDepth 20000 in
theorem gX0_guard_X1_set : GoodIn wsX0_guard (wsV RX0 89 RX1 yX1_set wsX1_set) := goodIn_app (goodIn_of _ (by decide +kernel)) ggX0_guard_X1_set
theorem dX0_guard_0 : decode cX0_guard 0 = .ok (.aload_n 0, 1) := by decide +kernel
theorem dX0_guard_1 : decode cX0_guard 1 = .ok (.iload_n 1, 1) := by decide +kernel
theorem dX0_guard_2 : decode cX0_guard 2 = .ok (.invokevirtual 53, 3) := by decide +kernel
theorem dX0_guard_5 : decode cX0_guard 5 = .ok (.ifCond .ne 5, 3) := by decide +kernel
theorem dX0_guard_8 : decode cX0_guard 8 = .ok (.iconst 0, 1) := by decide +kernel
theorem dX0_guard_9 : decode cX0_guard 9 = .ok (.ireturn, 1) := by decide +kernel
theorem dX0_guard_10 : decode cX0_guard 10 = .ok (.aload_n 0, 1) := by decide +kernel
theorem dX0_guard_11 : decode cX0_guard 11 = .ok (.getfield 35, 3) := by decide +kernel
theorem dX0_guard_14 : decode cX0_guard 14 = .ok (.iload_n 1, 1) := by decide +kernel
theorem dX0_guard_15 : decode cX0_guard 15 = .ok (.iload_n 2, 1) := by decide +kernel
theorem dX0_guard_16 : decode cX0_guard 16 = .ok (.invokevirtual 83, 3) := by decide +kernel
theorem dX0_guard_19 : decode cX0_guard 19 = .ok (.istore 4, 2) := by decide +kernel
theorem dX0_guard_21 : decode cX0_guard 21 = .ok (.aload_n 0, 1) := by decide +kernel
theorem dX0_guard_22 : decode cX0_guard 22 = .ok (.getfield 35, 3) := by decide +kernel
theorem dX0_guard_25 : decode cX0_guard 25 = .ok (.iload_n 1, 1) := by decide +kernel
theorem dX0_guard_26 : decode cX0_guard 26 = .ok (.iload_n 2, 1) := by decide +kernel
theorem dX0_guard_27 : decode cX0_guard 27 = .ok (.iload_n 3, 1) := by decide +kernel
theorem dX0_guard_28 : decode cX0_guard 28 = .ok (.invokevirtual 89, 3) := by decide +kernel
theorem dX0_guard_31 : decode cX0_guard 31 = .ok (.iload 4, 2) := by decide +kernel
theorem dX0_guard_33 : decode cX0_guard 33 = .ok (.ireturn, 1) := by decide +kernel
set_option maxRecDepth 20000 in
theorem ggX0_addHoldings_X0_has : GoodIn wsX0_addHoldings wsX0_has := goodIn_r _ [6, 7, 8, 9, 10, 11, 12, 13, 18, 19, 20, 21, 22, 23, 24, 25] (by decide +kernel) (by decide +kernel)
set_option maxRecDepth 20000 in
theorem gX0_addHoldings_X0_has : GoodIn wsX0_addHoldings (wsV RX0 53 RX0 yX0_has wsX0_has) := goodIn_app (goodIn_of _ (by decide +kernel)) ggX0_addHoldings_X0_has
set_option maxRecDepth 20000 in
theorem ggX0_addHoldings_X4_get : GoodIn wsX0_addHoldings wsX4_get := goodIn_r _ [12, 13, 25] (by decide +kernel) (by decide +kernel)
set_option maxRecDepth 20000 in
theorem gX0_addHoldings_X4_get : GoodIn wsX0_addHoldings (wsV RX0 49 RX4 yX4_get wsX4_get) := goodIn_app (goodIn_of _ (by decide +kernel)) ggX0_addHoldings_X4_get
set_option maxRecDepth 20000 in
theorem ggX0_addHoldings_X4_set : GoodIn wsX0_addHoldings wsX4_set := goodIn_r _ [17, 13, 25] (by decide +kernel) (by decide +kernel)
set_option maxRecDepth 20000 in
theorem gX0_addHoldings_X4_set : GoodIn wsX0_addHoldings (wsV RX0 66 RX4 yX4_set wsX4_set) := goodIn_app (goodIn_of _ (by decide +kernel)) ggX0_addHoldings_X4_set
theorem dX0_addHoldings_0 : decode cX0_addHoldings 0 = .ok (.aload_n 0, 1) := by decide +kernel
theorem dX0_addHoldings_1 : decode cX0_addHoldings 1 = .ok (.iload_n 1, 1) := by decide +kernel
theorem dX0_addHoldings_2 : decode cX0_addHoldings 2 = .ok (.invokevirtual 53, 3) := by decide +kernel
theorem dX0_addHoldings_5 : decode cX0_addHoldings 5 = .ok (.ifCond .ne 5, 3) := by decide +kernel
theorem dX0_addHoldings_8 : decode cX0_addHoldings 8 = .ok (.iconst 0, 1) := by decide +kernel
theorem dX0_addHoldings_9 : decode cX0_addHoldings 9 = .ok (.ireturn, 1) := by decide +kernel
theorem dX0_addHoldings_10 : decode cX0_addHoldings 10 = .ok (.aload_n 0, 1) := by decide +kernel
theorem dX0_addHoldings_11 : decode cX0_addHoldings 11 = .ok (.getfield 38, 3) := by decide +kernel
theorem dX0_addHoldings_14 : decode cX0_addHoldings 14 = .ok (.iload_n 1, 1) := by decide +kernel
theorem dX0_addHoldings_15 : decode cX0_addHoldings 15 = .ok (.aload_n 0, 1) := by decide +kernel
theorem dX0_addHoldings_16 : decode cX0_addHoldings 16 = .ok (.getfield 38, 3) := by decide +kernel
theorem dX0_addHoldings_19 : decode cX0_addHoldings 19 = .ok (.iload_n 1, 1) := by decide +kernel
theorem dX0_addHoldings_20 : decode cX0_addHoldings 20 = .ok (.invokevirtual 49, 3) := by decide +kernel
theorem dX0_addHoldings_23 : decode cX0_addHoldings 23 = .ok (.iload_n 2, 1) := by decide +kernel
theorem dX0_addHoldings_24 : decode cX0_addHoldings 24 = .ok (.iadd, 1) := by decide +kernel
theorem dX0_addHoldings_25 : decode cX0_addHoldings 25 = .ok (.invokevirtual 66, 3) := by decide +kernel
theorem dX0_addHoldings_28 : decode cX0_addHoldings 28 = .ok (.aload_n 0, 1) := by decide +kernel
theorem dX0_addHoldings_29 : decode cX0_addHoldings 29 = .ok (.getfield 38, 3) := by decide +kernel
theorem dX0_addHoldings_32 : decode cX0_addHoldings 32 = .ok (.iload_n 1, 1) := by decide +kernel
theorem dX0_addHoldings_33 : decode cX0_addHoldings 33 = .ok (.invokevirtual 49, 3) := by decide +kernel
theorem dX0_addHoldings_36 : decode cX0_addHoldings 36 = .ok (.ireturn, 1) := by decide +kernel
set_option maxRecDepth 20000 in
theorem ggX0_join_X0_has : GoodIn wsX0_join wsX0_has := goodIn_r _ [10, 4, 11, 12, 13, 14, 15, 16, 37, 38, 39, 40, 41, 42, 43, 44] (by decide +kernel) (by decide +kernel)
set_option maxRecDepth 20000 in
theorem gX0_join_X0_has : GoodIn wsX0_join (wsV RX0 53 RX0 yX0_has wsX0_has) := goodIn_app (goodIn_of _ (by decide +kernel)) ggX0_join_X0_has
set_option maxRecDepth 20000 in
theorem ggX0_join_X1_get : GoodIn wsX0_join wsX1_get := goodIn_r _ [21, 22, 23, 24, 45, 46, 47] (by decide +kernel) (by decide +kernel)
set_option maxRecDepth 20000 in
theorem gX0_join_X1_get : GoodIn wsX0_join (wsV RX0 83 RX1 yX1_get wsX1_get) := goodIn_app (goodIn_of _ (by decide +kernel)) ggX0_join_X1_get
set_option maxRecDepth 20000 in
theorem ggX0_join_X1_set : GoodIn wsX0_join wsX1_set := goodIn_r _ [28, 22, 23, 24, 45, 46, 47] (by decide +kernel) (by decide +kernel)
set_option maxRecDepth 20000 in
theorem gX0_join_X1_set : GoodIn wsX0_join (wsV RX0 89 RX1 yX1_set wsX1_set) := goodIn_app (goodIn_of _ (by decide +kernel)) ggX0_join_X1_set
set_option maxRecDepth 20000 in
theorem ggX0_join_X4_set : GoodIn wsX0_join wsX4_set := goodIn_r _ [32, 16, 44] (by decide +kernel) (by decide +kernel)
set_option maxRecDepth 20000 in
theorem gX0_join_X4_set : GoodIn wsX0_join (wsV RX0 66 RX4 yX4_set wsX4_set) := goodIn_app (goodIn_of _ (by decide +kernel)) ggX0_join_X4_set
set_option maxRecDepth 20000 in
theorem ggX0_join_X4_get : GoodIn wsX0_join wsX4_get := goodIn_r _ [15, 16, 44] (by decide +kernel) (by decide +kernel)
set_option maxRecDepth 20000 in
theorem gX0_join_X4_get : GoodIn wsX0_join (wsV RX0 49 RX4 yX4_get wsX4_get) := goodIn_app (goodIn_of _ (by decide +kernel)) ggX0_join_X4_get
set_option maxRecDepth 20000 in
theorem ggX0_join_X0_addHoldings : GoodIn wsX0_join wsX0_addHoldings := goodIn_r _ [36, 5, 6, 7, 8, 9, 10, 4, 11, 12, 13, 14, 15, 16, 29, 30, 31, 32, 37, 38, 39, 40, 41, 42, 43, 44] (by decide +kernel) (by decide +kernel)
set_option maxRecDepth 20000 in
theorem gX0_join_X0_addHoldings : GoodIn wsX0_join (wsV RX0 98 RX0 yX0_addHoldings wsX0_addHoldings) := goodIn_app (goodIn_of _ (by decide +kernel)) ggX0_join_X0_addHoldings
theorem dX0_join_0 : decode cX0_join 0 = .ok (.aload_n 0, 1) := by decide +kernel
theorem dX0_join_1 : decode cX0_join 1 = .ok (.iload_n 1, 1) := by decide +kernel
theorem dX0_join_2 : decode cX0_join 2 = .ok (.invokevirtual 53, 3) := by decide +kernel
theorem dX0_join_5 : decode cX0_join 5 = .ok (.ifCond .eq 11, 3) := by decide +kernel
theorem dX0_join_8 : decode cX0_join 8 = .ok (.aload_n 0, 1) := by decide +kernel
theorem dX0_join_9 : decode cX0_join 9 = .ok (.iload_n 2, 1) := by decide +kernel
theorem dX0_join_10 : decode cX0_join 10 = .ok (.invokevirtual 53, 3) := by decide +kernel
theorem dX0_join_13 : decode cX0_join 13 = .ok (.ifCond .ne 5, 3) := by decide +kernel
theorem dX0_join_16 : decode cX0_join 16 = .ok (.iconst 0, 1) := by decide +kernel
theorem dX0_join_17 : decode cX0_join 17 = .ok (.ireturn, 1) := by decide +kernel
theorem dX0_join_18 : decode cX0_join 18 = .ok (.iconst 0, 1) := by decide +kernel
theorem dX0_join_19 : decode cX0_join 19 = .ok (.istore_n 3, 1) := by decide +kernel
theorem dX0_join_20 : decode cX0_join 20 = .ok (.iload_n 3, 1) := by decide +kernel
theorem dX0_join_21 : decode cX0_join 21 = .ok (.iconst 3, 1) := by decide +kernel
theorem dX0_join_22 : decode cX0_join 22 = .ok (.if_icmp .ge 40, 3) := by decide +kernel
theorem dX0_join_25 : decode cX0_join 25 = .ok (.aload_n 0, 1) := by decide +kernel
theorem dX0_join_26 : decode cX0_join 26 = .ok (.getfield 25, 3) := by decide +kernel
theorem dX0_join_29 : decode cX0_join 29 = .ok (.iload_n 2, 1) := by decide +kernel
theorem dX0_join_30 : decode cX0_join 30 = .ok (.iload_n 3, 1) := by decide +kernel
theorem dX0_join_31 : decode cX0_join 31 = .ok (.invokevirtual 83, 3) := by decide +kernel
theorem dX0_join_34 : decode cX0_join 34 = .ok (.iconst (-1), 1) := by decide +kernel
theorem dX0_join_35 : decode cX0_join 35 = .ok (.if_icmp .ne 21, 3) := by decide +kernel
theorem dX0_join_38 : decode cX0_join 38 = .ok (.aload_n 0, 1) := by decide +kernel
theorem dX0_join_39 : decode cX0_join 39 = .ok (.getfield 25, 3) := by decide +kernel
theorem dX0_join_42 : decode cX0_join 42 = .ok (.iload_n 2, 1) := by decide +kernel
theorem dX0_join_43 : decode cX0_join 43 = .ok (.iload_n 3, 1) := by decide +kernel
theorem dX0_join_44 : decode cX0_join 44 = .ok (.aload_n 0, 1) := by decide +kernel
theorem dX0_join_45 : decode cX0_join 45 = .ok (.getfield 25, 3) := by decide +kernel
theorem dX0_join_48 : decode cX0_join 48 = .ok (.iload_n 1, 1) := by decide +kernel
theorem dX0_join_49 : decode cX0_join 49 = .ok (.iload_n 3, 1) := by decide +kernel
theorem dX0_join_50 : decode cX0_join 50 = .ok (.invokevirtual 83, 3) := by decide +kernel
theorem dX0_join_53 : decode cX0_join 53 = .ok (.invokevirtual 89, 3) := by decide +kernel
theorem dX0_join_56 : decode cX0_join 56 = .ok (.iinc 3 1, 3) := by decide +kernel
theorem dX0_join_59 : decode cX0_join 59 = .ok (.goto (-39), 3) := by decide +kernel
theorem dX0_join_62 : decode cX0_join 62 = .ok (.iconst 0, 1) := by decide +kernel
theorem dX0_join_63 : decode cX0_join 63 = .ok (.istore_n 3, 1) := by decide +kernel
theorem dX0_join_64 : decode cX0_join 64 = .ok (.iload_n 3, 1) := by decide +kernel
theorem dX0_join_65 : decode cX0_join 65 = .ok (.iconst 4, 1) := by decide +kernel
theorem dX0_join_66 : decode cX0_join 66 = .ok (.if_icmp .ge 58, 3) := by decide +kernel
theorem dX0_join_69 : decode cX0_join 69 = .ok (.aload_n 0, 1) := by decide +kernel
theorem dX0_join_70 : decode cX0_join 70 = .ok (.getfield 29, 3) := by decide +kernel
theorem dX0_join_73 : decode cX0_join 73 = .ok (.iload_n 2, 1) := by decide +kernel
theorem dX0_join_74 : decode cX0_join 74 = .ok (.iload_n 3, 1) := by decide +kernel
theorem dX0_join_75 : decode cX0_join 75 = .ok (.invokevirtual 83, 3) := by decide +kernel
theorem dX0_join_78 : decode cX0_join 78 = .ok (.iconst (-1), 1) := by decide +kernel
theorem dX0_join_79 : decode cX0_join 79 = .ok (.if_icmp .ne 39, 3) := by decide +kernel
theorem dX0_join_82 : decode cX0_join 82 = .ok (.aload_n 0, 1) := by decide +kernel
theorem dX0_join_83 : decode cX0_join 83 = .ok (.getfield 29, 3) := by decide +kernel
theorem dX0_join_86 : decode cX0_join 86 = .ok (.iload_n 2, 1) := by decide +kernel
theorem dX0_join_87 : decode cX0_join 87 = .ok (.iload_n 3, 1) := by decide +kernel
theorem dX0_join_88 : decode cX0_join 88 = .ok (.aload_n 0, 1) := by decide +kernel
theorem dX0_join_89 : decode cX0_join 89 = .ok (.getfield 29, 3) := by decide +kernel
theorem dX0_join_92 : decode cX0_join 92 = .ok (.iload_n 1, 1) := by decide +kernel
theorem dX0_join_93 : decode cX0_join 93 = .ok (.iload_n 3, 1) := by decide +kernel
theorem dX0_join_94 : decode cX0_join 94 = .ok (.invokevirtual 83, 3) := by decide +kernel
theorem dX0_join_97 : decode cX0_join 97 = .ok (.invokevirtual 89, 3) := by decide +kernel
theorem dX0_join_100 : decode cX0_join 100 = .ok (.aload_n 0, 1) := by decide +kernel
theorem dX0_join_101 : decode cX0_join 101 = .ok (.getfield 32, 3) := by decide +kernel
theorem dX0_join_104 : decode cX0_join 104 = .ok (.iload_n 2, 1) := by decide +kernel
theorem dX0_join_105 : decode cX0_join 105 = .ok (.iload_n 3, 1) := by decide +kernel
theorem dX0_join_106 : decode cX0_join 106 = .ok (.aload_n 0, 1) := by decide +kernel
theorem dX0_join_107 : decode cX0_join 107 = .ok (.getfield 32, 3) := by decide +kernel
theorem dX0_join_110 : decode cX0_join 110 = .ok (.iload_n 1, 1) := by decide +kernel
theorem dX0_join_111 : decode cX0_join 111 = .ok (.iload_n 3, 1) := by decide +kernel
theorem dX0_join_112 : decode cX0_join 112 = .ok (.invokevirtual 83, 3) := by decide +kernel
theorem dX0_join_115 : decode cX0_join 115 = .ok (.invokevirtual 89, 3) := by decide +kernel
theorem dX0_join_118 : decode cX0_join 118 = .ok (.iinc 3 1, 3) := by decide +kernel
theorem dX0_join_121 : decode cX0_join 121 = .ok (.goto (-57), 3) := by decide +kernel
theorem dX0_join_124 : decode cX0_join 124 = .ok (.aload_n 0, 1) := by decide +kernel
theorem dX0_join_125 : decode cX0_join 125 = .ok (.getfield 14, 3) := by decide +kernel
theorem dX0_join_128 : decode cX0_join 128 = .ok (.iload_n 1, 1) := by decide +kernel
theorem dX0_join_129 : decode cX0_join 129 = .ok (.iconst 0, 1) := by decide +kernel
theorem dX0_join_130 : decode cX0_join 130 = .ok (.invokevirtual 66, 3) := by decide +kernel
theorem dX0_join_133 : decode cX0_join 133 = .ok (.aload_n 0, 1) := by decide +kernel
theorem dX0_join_134 : decode cX0_join 134 = .ok (.iload_n 2, 1) := by decide +kernel
theorem dX0_join_135 : decode cX0_join 135 = .ok (.aload_n 0, 1) := by decide +kernel
theorem dX0_join_136 : decode cX0_join 136 = .ok (.getfield 38, 3) := by decide +kernel
theorem dX0_join_139 : decode cX0_join 139 = .ok (.iload_n 1, 1) := by decide +kernel
theorem dX0_join_140 : decode cX0_join 140 = .ok (.invokevirtual 49, 3) := by decide +kernel
theorem dX0_join_143 : decode cX0_join 143 = .ok (.invokevirtual 98, 3) := by decide +kernel
theorem dX0_join_146 : decode cX0_join 146 = .ok (.ireturn, 1) := by decide +kernel
set_option maxRecDepth 20000 in
theorem ggX0_sum_X0_has : GoodIn wsX0_sum wsX0_has := goodIn_r _ [6, 7, 8, 9, 10, 11, 12, 13, 32, 33, 34, 35, 36, 37, 38, 39] (by decide +kernel) (by decide +kernel)
set_option maxRecDepth 20000 in
theorem gX0_sum_X0_has : GoodIn wsX0_sum (wsV RX0 53 RX0 yX0_has wsX0_has) := goodIn_app (goodIn_of _ (by decide +kernel)) ggX0_sum_X0_has
set_option maxRecDepth 20000 in
theorem ggX0_sum_X0_values : GoodIn wsX0_sum wsX0_values := goodIn_r _ [17, 18, 19, 20, 21, 22, 23, 24, 25, 26, 27, 28, 29, 30, 31, 32, 33, 34, 35, 36, 37, 38, 40, 41, 42] (by decide +kernel) (by decide +kernel)
set_option maxRecDepth 20000 in
theorem gX0_sum_X0_values : GoodIn wsX0_sum (wsV RX0 101 RX0 yX0_values wsX0_values) := goodIn_app (goodIn_of _ (by decide +kernel)) ggX0_sum_X0_values
set_option maxRecDepth 20000 in
theorem ggX0_sum_X4_get : GoodIn wsX0_sum wsX4_get := goodIn_r _ [12, 13, 39] (by decide +kernel) (by decide +kernel)
set_option maxRecDepth 20000 in
theorem gX0_sum_X4_get : GoodIn wsX0_sum (wsV RX0 49 RX4 yX4_get wsX4_get) := goodIn_app (goodIn_of _ (by decide +kernel)) ggX0_sum_X4_get
theorem dX0_sum_0 : decode cX0_sum 0 = .ok (.iconst 0, 1) := by decide +kernel
theorem dX0_sum_1 : decode cX0_sum 1 = .ok (.istore_n 1, 1) := by decide +kernel
theorem dX0_sum_2 : decode cX0_sum 2 = .ok (.iconst 0, 1) := by decide +kernel
theorem dX0_sum_3 : decode cX0_sum 3 = .ok (.istore_n 2, 1) := by decide +kernel
theorem dX0_sum_4 : decode cX0_sum 4 = .ok (.iload_n 2, 1) := by decide +kernel
theorem dX0_sum_5 : decode cX0_sum 5 = .ok (.bipush 80, 2) := by decide +kernel
theorem dX0_sum_7 : decode cX0_sum 7 = .ok (.if_icmp .ge 38, 3) := by decide +kernel
theorem dX0_sum_10 : decode cX0_sum 10 = .ok (.aload_n 0, 1) := by decide +kernel
theorem dX0_sum_11 : decode cX0_sum 11 = .ok (.iload_n 2, 1) := by decide +kernel
theorem dX0_sum_12 : decode cX0_sum 12 = .ok (.invokevirtual 53, 3) := by decide +kernel
theorem dX0_sum_15 : decode cX0_sum 15 = .ok (.ifCond .eq 24, 3) := by decide +kernel
theorem dX0_sum_18 : decode cX0_sum 18 = .ok (.iload_n 1, 1) := by decide +kernel
theorem dX0_sum_19 : decode cX0_sum 19 = .ok (.iconst 1, 1) := by decide +kernel
theorem dX0_sum_20 : decode cX0_sum 20 = .ok (.iload_n 2, 1) := by decide +kernel
theorem dX0_sum_21 : decode cX0_sum 21 = .ok (.iadd, 1) := by decide +kernel
theorem dX0_sum_22 : decode cX0_sum 22 = .ok (.aload_n 0, 1) := by decide +kernel
theorem dX0_sum_23 : decode cX0_sum 23 = .ok (.iload_n 2, 1) := by decide +kernel
theorem dX0_sum_24 : decode cX0_sum 24 = .ok (.invokevirtual 101, 3) := by decide +kernel
theorem dX0_sum_27 : decode cX0_sum 27 = .ok (.imul, 1) := by decide +kernel
theorem dX0_sum_28 : decode cX0_sum 28 = .ok (.aload_n 0, 1) := by decide +kernel
theorem dX0_sum_29 : decode cX0_sum 29 = .ok (.getfield 38, 3) := by decide +kernel
theorem dX0_sum_32 : decode cX0_sum 32 = .ok (.iload_n 2, 1) := by decide +kernel
theorem dX0_sum_33 : decode cX0_sum 33 = .ok (.invokevirtual 49, 3) := by decide +kernel
theorem dX0_sum_36 : decode cX0_sum 36 = .ok (.iadd, 1) := by decide +kernel
theorem dX0_sum_37 : decode cX0_sum 37 = .ok (.iadd, 1) := by decide +kernel
theorem dX0_sum_38 : decode cX0_sum 38 = .ok (.istore_n 1, 1) := by decide +kernel
theorem dX0_sum_39 : decode cX0_sum 39 = .ok (.iinc 2 1, 3) := by decide +kernel
theorem dX0_sum_42 : decode cX0_sum 42 = .ok (.goto (-38), 3) := by decide +kernel
theorem dX0_sum_45 : decode cX0_sum 45 = .ok (.iload_n 1, 1) := by decide +kernel
theorem dX0_sum_46 : decode cX0_sum 46 = .ok (.ireturn, 1) := by decide +kernel
set_option maxRecDepth 20000 in
theorem ggX0_values_X1_get : GoodIn wsX0_values wsX1_get := goodIn_r _ [11, 12, 13, 14, 22, 23, 24] (by decide +kernel) (by decide +kernel)
set_option maxRecDepth 20000 in
theorem gX0_values_X1_get : GoodIn wsX0_values (wsV RX0 83 RX1 yX1_get wsX1_get) := goodIn_app (goodIn_of _ (by decide +kernel)) ggX0_values_X1_get
theorem dX0_values_0 : decode cX0_values 0 = .ok (.iconst 0, 1) := by decide +kernel
theorem dX0_values_1 : decode cX0_values 1 = .ok (.istore_n 2, 1) := by decide +kernel
theorem dX0_values_2 : decode cX0_values 2 = .ok (.iconst 0, 1) := by decide +kernel
theorem dX0_values_3 : decode cX0_values 3 = .ok (.istore_n 3, 1) := by decide +kernel
theorem dX0_values_4 : decode cX0_values 4 = .ok (.iload_n 3, 1) := by decide +kernel
theorem dX0_values_5 : decode cX0_values 5 = .ok (.iconst 3, 1) := by decide +kernel
theorem dX0_values_6 : decode cX0_values 6 = .ok (.if_icmp .ge 25, 3) := by decide +kernel
theorem dX0_values_9 : decode cX0_values 9 = .ok (.iload_n 2, 1) := by decide +kernel
theorem dX0_values_10 : decode cX0_values 10 = .ok (.iconst 0, 1) := by decide +kernel
theorem dX0_values_11 : decode cX0_values 11 = .ok (.aload_n 0, 1) := by decide +kernel
theorem dX0_values_12 : decode cX0_values 12 = .ok (.getfield 25, 3) := by decide +kernel
theorem dX0_values_15 : decode cX0_values 15 = .ok (.iload_n 1, 1) := by decide +kernel
theorem dX0_values_16 : decode cX0_values 16 = .ok (.iload_n 3, 1) := by decide +kernel
theorem dX0_values_17 : decode cX0_values 17 = .ok (.invokevirtual 83, 3) := by decide +kernel
theorem dX0_values_20 : decode cX0_values 20 = .ok (.invokestatic 104, 3) := by decide +kernel
theorem dX0_values_23 : decode cX0_values 23 = .ok (.iadd, 1) := by decide +kernel
theorem dX0_values_24 : decode cX0_values 24 = .ok (.istore_n 2, 1) := by decide +kernel
theorem dX0_values_25 : decode cX0_values 25 = .ok (.iinc 3 1, 3) := by decide +kernel
theorem dX0_values_28 : decode cX0_values 28 = .ok (.goto (-24), 3) := by decide +kernel
theorem dX0_values_31 : decode cX0_values 31 = .ok (.iconst 0, 1) := by decide +kernel
theorem dX0_values_32 : decode cX0_values 32 = .ok (.istore_n 3, 1) := by decide +kernel
theorem dX0_values_33 : decode cX0_values 33 = .ok (.iload_n 3, 1) := by decide +kernel
theorem dX0_values_34 : decode cX0_values 34 = .ok (.iconst 4, 1) := by decide +kernel
theorem dX0_values_35 : decode cX0_values 35 = .ok (.if_icmp .ge 25, 3) := by decide +kernel
theorem dX0_values_38 : decode cX0_values 38 = .ok (.iload_n 2, 1) := by decide +kernel
theorem dX0_values_39 : decode cX0_values 39 = .ok (.iconst 0, 1) := by decide +kernel
theorem dX0_values_40 : decode cX0_values 40 = .ok (.aload_n 0, 1) := by decide +kernel
theorem dX0_values_41 : decode cX0_values 41 = .ok (.getfield 29, 3) := by decide +kernel
theorem dX0_values_44 : decode cX0_values 44 = .ok (.iload_n 1, 1) := by decide +kernel
theorem dX0_values_45 : decode cX0_values 45 = .ok (.iload_n 3, 1) := by decide +kernel
theorem dX0_values_46 : decode cX0_values 46 = .ok (.invokevirtual 83, 3) := by decide +kernel
theorem dX0_values_49 : decode cX0_values 49 = .ok (.invokestatic 104, 3) := by decide +kernel
theorem dX0_values_52 : decode cX0_values 52 = .ok (.iadd, 1) := by decide +kernel
theorem dX0_values_53 : decode cX0_values 53 = .ok (.istore_n 2, 1) := by decide +kernel
theorem dX0_values_54 : decode cX0_values 54 = .ok (.iinc 3 1, 3) := by decide +kernel
theorem dX0_values_57 : decode cX0_values 57 = .ok (.goto (-24), 3) := by decide +kernel
theorem dX0_values_60 : decode cX0_values 60 = .ok (.iload_n 2, 1) := by decide +kernel
theorem dX0_values_61 : decode cX0_values 61 = .ok (.ireturn, 1) := by decide +kernel
set_option maxRecDepth 20000 in
theorem ggX1_init_J7_fill_53178 : GoodIn wsX1_init wsJ7_fill_53178 := goodIn_r _ [15] (by decide +kernel) (by decide +kernel)
set_option maxRecDepth 20000 in
theorem gX1_init_J7_fill_53178 : GoodIn wsX1_init (va_wsS RX1 28 yJ7_fill_53178 wsJ7_fill_53178) := goodIn_app (goodIn_of _ (by decide +kernel)) ggX1_init_J7_fill_53178
theorem dX1_init_0 : decode cX1_init 0 = .ok (.aload_n 0, 1) := by decide +kernel
theorem dX1_init_1 : decode cX1_init 1 = .ok (.invokespecial 3, 3) := by decide +kernel
theorem dX1_init_4 : decode cX1_init 4 = .ok (.aload_n 0, 1) := by decide +kernel
theorem dX1_init_5 : decode cX1_init 5 = .ok (.iload_n 1, 1) := by decide +kernel
theorem dX1_init_6 : decode cX1_init 6 = .ok (.putfield 9, 3) := by decide +kernel
theorem dX1_init_9 : decode cX1_init 9 = .ok (.aload_n 0, 1) := by decide +kernel
theorem dX1_init_10 : decode cX1_init 10 = .ok (.iload_n 2, 1) := by decide +kernel
theorem dX1_init_11 : decode cX1_init 11 = .ok (.putfield 15, 3) := by decide +kernel
theorem dX1_init_14 : decode cX1_init 14 = .ok (.aload_n 0, 1) := by decide +kernel
theorem dX1_init_15 : decode cX1_init 15 = .ok (.iconst 0, 1) := by decide +kernel
theorem dX1_init_16 : decode cX1_init 16 = .ok (.iload_n 1, 1) := by decide +kernel
theorem dX1_init_17 : decode cX1_init 17 = .ok (.iload_n 2, 1) := by decide +kernel
theorem dX1_init_18 : decode cX1_init 18 = .ok (.imul, 1) := by decide +kernel
theorem dX1_init_19 : decode cX1_init 19 = .ok (.invokestatic 18, 3) := by decide +kernel
theorem dX1_init_22 : decode cX1_init 22 = .ok (.newarray .int, 2) := by decide +kernel
theorem dX1_init_24 : decode cX1_init 24 = .ok (.putfield 24, 3) := by decide +kernel
theorem dX1_init_27 : decode cX1_init 27 = .ok (.aload_n 0, 1) := by decide +kernel
theorem dX1_init_28 : decode cX1_init 28 = .ok (.getfield 24, 3) := by decide +kernel
theorem dX1_init_31 : decode cX1_init 31 = .ok (.iload_n 3, 1) := by decide +kernel
theorem dX1_init_32 : decode cX1_init 32 = .ok (.invokestatic 28, 3) := by decide +kernel
theorem dX1_init_35 : decode cX1_init 35 = .ok (.return_, 1) := by decide +kernel
theorem dX1_get_0 : decode cX1_get 0 = .ok (.iload_n 1, 1) := by decide +kernel
theorem dX1_get_1 : decode cX1_get 1 = .ok (.ifCond .lt 23, 3) := by decide +kernel
theorem dX1_get_4 : decode cX1_get 4 = .ok (.iload_n 1, 1) := by decide +kernel
theorem dX1_get_5 : decode cX1_get 5 = .ok (.aload_n 0, 1) := by decide +kernel
theorem dX1_get_6 : decode cX1_get 6 = .ok (.getfield 9, 3) := by decide +kernel
theorem dX1_get_9 : decode cX1_get 9 = .ok (.if_icmp .ge 15, 3) := by decide +kernel
theorem dX1_get_12 : decode cX1_get 12 = .ok (.iload_n 2, 1) := by decide +kernel
theorem dX1_get_13 : decode cX1_get 13 = .ok (.ifCond .lt 11, 3) := by decide +kernel
theorem dX1_get_16 : decode cX1_get 16 = .ok (.iload_n 2, 1) := by decide +kernel
theorem dX1_get_17 : decode cX1_get 17 = .ok (.aload_n 0, 1) := by decide +kernel
theorem dX1_get_18 : decode cX1_get 18 = .ok (.getfield 15, 3) := by decide +kernel
theorem dX1_get_21 : decode cX1_get 21 = .ok (.if_icmp .lt 5, 3) := by decide +kernel
theorem dX1_get_24 : decode cX1_get 24 = .ok (.iconst (-1), 1) := by decide +kernel
theorem dX1_get_25 : decode cX1_get 25 = .ok (.ireturn, 1) := by decide +kernel
theorem dX1_get_26 : decode cX1_get 26 = .ok (.iload_n 1, 1) := by decide +kernel
theorem dX1_get_27 : decode cX1_get 27 = .ok (.aload_n 0, 1) := by decide +kernel
theorem dX1_get_28 : decode cX1_get 28 = .ok (.getfield 15, 3) := by decide +kernel
theorem dX1_get_31 : decode cX1_get 31 = .ok (.imul, 1) := by decide +kernel
theorem dX1_get_32 : decode cX1_get 32 = .ok (.iload_n 2, 1) := by decide +kernel
theorem dX1_get_33 : decode cX1_get 33 = .ok (.iadd, 1) := by decide +kernel
theorem dX1_get_34 : decode cX1_get 34 = .ok (.istore_n 3, 1) := by decide +kernel
theorem dX1_get_35 : decode cX1_get 35 = .ok (.iload_n 3, 1) := by decide +kernel
theorem dX1_get_36 : decode cX1_get 36 = .ok (.ifCond .lt 21, 3) := by decide +kernel
theorem dX1_get_39 : decode cX1_get 39 = .ok (.iload_n 3, 1) := by decide +kernel
theorem dX1_get_40 : decode cX1_get 40 = .ok (.aload_n 0, 1) := by decide +kernel
theorem dX1_get_41 : decode cX1_get 41 = .ok (.getfield 24, 3) := by decide +kernel
theorem dX1_get_44 : decode cX1_get 44 = .ok (.arraylength, 1) := by decide +kernel
theorem dX1_get_45 : decode cX1_get 45 = .ok (.if_icmp .ge 12, 3) := by decide +kernel
theorem dX1_get_48 : decode cX1_get 48 = .ok (.aload_n 0, 1) := by decide +kernel
theorem dX1_get_49 : decode cX1_get 49 = .ok (.getfield 24, 3) := by decide +kernel
theorem dX1_get_52 : decode cX1_get 52 = .ok (.iload_n 3, 1) := by decide +kernel
theorem dX1_get_53 : decode cX1_get 53 = .ok (.iaload, 1) := by decide +kernel
theorem dX1_get_54 : decode cX1_get 54 = .ok (.goto 4, 3) := by decide +kernel
theorem dX1_get_57 : decode cX1_get 57 = .ok (.iconst (-1), 1) := by decide +kernel
theorem dX1_get_58 : decode cX1_get 58 = .ok (.ireturn, 1) := by decide +kernel
theorem dX1_set_0 : decode cX1_set 0 = .ok (.iload_n 1, 1) := by decide +kernel
theorem dX1_set_1 : decode cX1_set 1 = .ok (.ifCond .lt 23, 3) := by decide +kernel
theorem dX1_set_4 : decode cX1_set 4 = .ok (.iload_n 1, 1) := by decide +kernel
theorem dX1_set_5 : decode cX1_set 5 = .ok (.aload_n 0, 1) := by decide +kernel
theorem dX1_set_6 : decode cX1_set 6 = .ok (.getfield 9, 3) := by decide +kernel
theorem dX1_set_9 : decode cX1_set 9 = .ok (.if_icmp .ge 15, 3) := by decide +kernel
theorem dX1_set_12 : decode cX1_set 12 = .ok (.iload_n 2, 1) := by decide +kernel
theorem dX1_set_13 : decode cX1_set 13 = .ok (.ifCond .lt 11, 3) := by decide +kernel
theorem dX1_set_16 : decode cX1_set 16 = .ok (.iload_n 2, 1) := by decide +kernel
theorem dX1_set_17 : decode cX1_set 17 = .ok (.aload_n 0, 1) := by decide +kernel
theorem dX1_set_18 : decode cX1_set 18 = .ok (.getfield 15, 3) := by decide +kernel
theorem dX1_set_21 : decode cX1_set 21 = .ok (.if_icmp .lt 4, 3) := by decide +kernel
theorem dX1_set_24 : decode cX1_set 24 = .ok (.return_, 1) := by decide +kernel
theorem dX1_set_25 : decode cX1_set 25 = .ok (.iload_n 1, 1) := by decide +kernel
theorem dX1_set_26 : decode cX1_set 26 = .ok (.aload_n 0, 1) := by decide +kernel
theorem dX1_set_27 : decode cX1_set 27 = .ok (.getfield 15, 3) := by decide +kernel
theorem dX1_set_30 : decode cX1_set 30 = .ok (.imul, 1) := by decide +kernel
theorem dX1_set_31 : decode cX1_set 31 = .ok (.iload_n 2, 1) := by decide +kernel
theorem dX1_set_32 : decode cX1_set 32 = .ok (.iadd, 1) := by decide +kernel
theorem dX1_set_33 : decode cX1_set 33 = .ok (.istore 4, 2) := by decide +kernel
theorem dX1_set_35 : decode cX1_set 35 = .ok (.iload 4, 2) := by decide +kernel
theorem dX1_set_37 : decode cX1_set 37 = .ok (.ifCond .lt 21, 3) := by decide +kernel
theorem dX1_set_40 : decode cX1_set 40 = .ok (.iload 4, 2) := by decide +kernel
theorem dX1_set_42 : decode cX1_set 42 = .ok (.aload_n 0, 1) := by decide +kernel
theorem dX1_set_43 : decode cX1_set 43 = .ok (.getfield 24, 3) := by decide +kernel
theorem dX1_set_46 : decode cX1_set 46 = .ok (.arraylength, 1) := by decide +kernel
theorem dX1_set_47 : decode cX1_set 47 = .ok (.if_icmp .ge 11, 3) := by decide +kernel
theorem dX1_set_50 : decode cX1_set 50 = .ok (.aload_n 0, 1) := by decide +kernel
theorem dX1_set_51 : decode cX1_set 51 = .ok (.getfield 24, 3) := by decide +kernel
theorem dX1_set_54 : decode cX1_set 54 = .ok (.iload 4, 2) := by decide +kernel
theorem dX1_set_56 : decode cX1_set 56 = .ok (.iload_n 3, 1) := by decide +kernel
theorem dX1_set_57 : decode cX1_set 57 = .ok (.iastore, 1) := by decide +kernel
theorem dX1_set_58 : decode cX1_set 58 = .ok (.return_, 1) := by decide +kernel
set_option maxRecDepth 20000 in
theorem ggX1_fill_J7_fill_53178 : GoodIn wsX1_fill wsJ7_fill_53178 := goodIn_r _ [5] (by decide +kernel) (by decide +kernel)
set_option maxRecDepth 20000 in
theorem gX1_fill_J7_fill_53178 : GoodIn wsX1_fill (va_wsS RX1 28 yJ7_fill_53178 wsJ7_fill_53178) := goodIn_app (goodIn_of _ (by decide +kernel)) ggX1_fill_J7_fill_53178
theorem dX1_fill_0 : decode cX1_fill 0 = .ok (.aload_n 0, 1) := by decide +kernel
theorem dX1_fill_1 : decode cX1_fill 1 = .ok (.getfield 24, 3) := by decide +kernel
theorem dX1_fill_4 : decode cX1_fill 4 = .ok (.iload_n 1, 1) := by decide +kernel
theorem dX1_fill_5 : decode cX1_fill 5 = .ok (.invokestatic 28, 3) := by decide +kernel
theorem dX1_fill_8 : decode cX1_fill 8 = .ok (.return_, 1) := by decide +kernel
set_option maxRecDepth 20000 in
theorem ggX2_init_X4_init : GoodIn wsX2_init wsX4_init := goodIn_r _ [15, 16, 2, 3, 17, 18, 19, 20, 21, 22, 23, 24, 25, 26, 27] (by decide +kernel) (by decide +kernel)
set_option maxRecDepth 20000 in
theorem gX2_init_X4_init : GoodIn wsX2_init (wsX4_init) := ggX2_init_X4_init
theorem dX2_init_0 : decode cX2_init 0 = .ok (.aload_n 0, 1) := by decide +kernel
theorem dX2_init_1 : decode cX2_init 1 = .ok (.invokespecial 3, 3) := by decide +kernel
theorem dX2_init_4 : decode cX2_init 4 = .ok (.aload_n 0, 1) := by decide +kernel
theorem dX2_init_5 : decode cX2_init 5 = .ok (.new 9, 3) := by decide +kernel
theorem dX2_init_8 : decode cX2_init 8 = .ok (.dup, 1) := by decide +kernel
theorem dX2_init_9 : decode cX2_init 9 = .ok (.sipush 180, 3) := by decide +kernel
theorem dX2_init_12 : decode cX2_init 12 = .ok (.iconst (-1), 1) := by decide +kernel
theorem dX2_init_13 : decode cX2_init 13 = .ok (.invokespecial 11, 3) := by decide +kernel
theorem dX2_init_16 : decode cX2_init 16 = .ok (.putfield 14, 3) := by decide +kernel
theorem dX2_init_19 : decode cX2_init 19 = .ok (.aload_n 0, 1) := by decide +kernel
theorem dX2_init_20 : decode cX2_init 20 = .ok (.new 9, 3) := by decide +kernel
theorem dX2_init_23 : decode cX2_init 23 = .ok (.dup, 1) := by decide +kernel
theorem dX2_init_24 : decode cX2_init 24 = .ok (.sipush 180, 3) := by decide +kernel
theorem dX2_init_27 : decode cX2_init 27 = .ok (.iconst (-1), 1) := by decide +kernel
theorem dX2_init_28 : decode cX2_init 28 = .ok (.invokespecial 11, 3) := by decide +kernel
theorem dX2_init_31 : decode cX2_init 31 = .ok (.putfield 20, 3) := by decide +kernel
theorem dX2_init_34 : decode cX2_init 34 = .ok (.aload_n 0, 1) := by decide +kernel
theorem dX2_init_35 : decode cX2_init 35 = .ok (.new 9, 3) := by decide +kernel
theorem dX2_init_38 : decode cX2_init 38 = .ok (.dup, 1) := by decide +kernel
theorem dX2_init_39 : decode cX2_init 39 = .ok (.sipush 180, 3) := by decide +kernel
theorem dX2_init_42 : decode cX2_init 42 = .ok (.iconst (-1), 1) := by decide +kernel
theorem dX2_init_43 : decode cX2_init 43 = .ok (.invokespecial 11, 3) := by decide +kernel
theorem dX2_init_46 : decode cX2_init 46 = .ok (.putfield 23, 3) := by decide +kernel
theorem dX2_init_49 : decode cX2_init 49 = .ok (.aload_n 0, 1) := by decide +kernel
theorem dX2_init_50 : decode cX2_init 50 = .ok (.new 9, 3) := by decide +kernel
theorem dX2_init_53 : decode cX2_init 53 = .ok (.dup, 1) := by decide +kernel
theorem dX2_init_54 : decode cX2_init 54 = .ok (.sipush 180, 3) := by decide +kernel
theorem dX2_init_57 : decode cX2_init 57 = .ok (.iconst (-1), 1) := by decide +kernel
theorem dX2_init_58 : decode cX2_init 58 = .ok (.invokespecial 11, 3) := by decide +kernel
theorem dX2_init_61 : decode cX2_init 61 = .ok (.putfield 26, 3) := by decide +kernel
theorem dX2_init_64 : decode cX2_init 64 = .ok (.aload_n 0, 1) := by decide +kernel
theorem dX2_init_65 : decode cX2_init 65 = .ok (.iconst 0, 1) := by decide +kernel
theorem dX2_init_66 : decode cX2_init 66 = .ok (.putfield 29, 3) := by decide +kernel
theorem dX2_init_69 : decode cX2_init 69 = .ok (.aload_n 0, 1) := by decide +kernel
theorem dX2_init_70 : decode cX2_init 70 = .ok (.iconst 0, 1) := by decide +kernel
theorem dX2_init_71 : decode cX2_init 71 = .ok (.putfield 33, 3) := by decide +kernel
theorem dX2_init_74 : decode cX2_init 74 = .ok (.return_, 1) := by decide +kernel
set_option maxRecDepth 20000 in
theorem ggX2_append_X4_set : GoodIn wsX2_append wsX4_set := goodIn_r _ [11, 12, 19] (by decide +kernel) (by decide +kernel)
set_option maxRecDepth 20000 in
theorem gX2_append_X4_set : GoodIn wsX2_append (wsV RX2 36 RX4 yX4_set wsX4_set) := goodIn_app (goodIn_of _ (by decide +kernel)) ggX2_append_X4_set
theorem dX2_append_0 : decode cX2_append 0 = .ok (.aload_n 0, 1) := by decide +kernel
theorem dX2_append_1 : decode cX2_append 1 = .ok (.getfield 14, 3) := by decide +kernel
theorem dX2_append_4 : decode cX2_append 4 = .ok (.aload_n 0, 1) := by decide +kernel
theorem dX2_append_5 : decode cX2_append 5 = .ok (.getfield 29, 3) := by decide +kernel
theorem dX2_append_8 : decode cX2_append 8 = .ok (.iload_n 1, 1) := by decide +kernel
theorem dX2_append_9 : decode cX2_append 9 = .ok (.invokevirtual 36, 3) := by decide +kernel
theorem dX2_append_12 : decode cX2_append 12 = .ok (.aload_n 0, 1) := by decide +kernel
theorem dX2_append_13 : decode cX2_append 13 = .ok (.getfield 20, 3) := by decide +kernel
theorem dX2_append_16 : decode cX2_append 16 = .ok (.aload_n 0, 1) := by decide +kernel
theorem dX2_append_17 : decode cX2_append 17 = .ok (.getfield 29, 3) := by decide +kernel
theorem dX2_append_20 : decode cX2_append 20 = .ok (.iload_n 2, 1) := by decide +kernel
theorem dX2_append_21 : decode cX2_append 21 = .ok (.invokevirtual 36, 3) := by decide +kernel
theorem dX2_append_24 : decode cX2_append 24 = .ok (.aload_n 0, 1) := by decide +kernel
theorem dX2_append_25 : decode cX2_append 25 = .ok (.getfield 23, 3) := by decide +kernel
theorem dX2_append_28 : decode cX2_append 28 = .ok (.aload_n 0, 1) := by decide +kernel
theorem dX2_append_29 : decode cX2_append 29 = .ok (.getfield 29, 3) := by decide +kernel
theorem dX2_append_32 : decode cX2_append 32 = .ok (.iload_n 3, 1) := by decide +kernel
theorem dX2_append_33 : decode cX2_append 33 = .ok (.invokevirtual 36, 3) := by decide +kernel
theorem dX2_append_36 : decode cX2_append 36 = .ok (.aload_n 0, 1) := by decide +kernel
theorem dX2_append_37 : decode cX2_append 37 = .ok (.getfield 26, 3) := by decide +kernel
theorem dX2_append_40 : decode cX2_append 40 = .ok (.aload_n 0, 1) := by decide +kernel
theorem dX2_append_41 : decode cX2_append 41 = .ok (.getfield 29, 3) := by decide +kernel
theorem dX2_append_44 : decode cX2_append 44 = .ok (.iload 4, 2) := by decide +kernel
theorem dX2_append_46 : decode cX2_append 46 = .ok (.invokevirtual 36, 3) := by decide +kernel
theorem dX2_append_49 : decode cX2_append 49 = .ok (.aload_n 0, 1) := by decide +kernel
theorem dX2_append_50 : decode cX2_append 50 = .ok (.dup, 1) := by decide +kernel
theorem dX2_append_51 : decode cX2_append 51 = .ok (.getfield 29, 3) := by decide +kernel
theorem dX2_append_54 : decode cX2_append 54 = .ok (.iconst 1, 1) := by decide +kernel
theorem dX2_append_55 : decode cX2_append 55 = .ok (.iadd, 1) := by decide +kernel
theorem dX2_append_56 : decode cX2_append 56 = .ok (.putfield 29, 3) := by decide +kernel
theorem dX2_append_59 : decode cX2_append 59 = .ok (.iload_n 1, 1) := by decide +kernel
theorem dX2_append_60 : decode cX2_append 60 = .ok (.ifCond .ne 13, 3) := by decide +kernel
theorem dX2_append_63 : decode cX2_append 63 = .ok (.aload_n 0, 1) := by decide +kernel
theorem dX2_append_64 : decode cX2_append 64 = .ok (.dup, 1) := by decide +kernel
theorem dX2_append_65 : decode cX2_append 65 = .ok (.getfield 33, 3) := by decide +kernel
theorem dX2_append_68 : decode cX2_append 68 = .ok (.iconst 1, 1) := by decide +kernel
theorem dX2_append_69 : decode cX2_append 69 = .ok (.iadd, 1) := by decide +kernel
theorem dX2_append_70 : decode cX2_append 70 = .ok (.putfield 33, 3) := by decide +kernel
theorem dX2_append_73 : decode cX2_append 73 = .ok (.return_, 1) := by decide +kernel
theorem dX2_acts_0 : decode cX2_acts 0 = .ok (.aload_n 0, 1) := by decide +kernel
theorem dX2_acts_1 : decode cX2_acts 1 = .ok (.getfield 29, 3) := by decide +kernel
theorem dX2_acts_4 : decode cX2_acts 4 = .ok (.aload_n 0, 1) := by decide +kernel
theorem dX2_acts_5 : decode cX2_acts 5 = .ok (.getfield 33, 3) := by decide +kernel
theorem dX2_acts_8 : decode cX2_acts 8 = .ok (.isub, 1) := by decide +kernel
theorem dX2_acts_9 : decode cX2_acts 9 = .ok (.ireturn, 1) := by decide +kernel
set_option maxRecDepth 20000 in
theorem ggX3_init_X1_init : GoodIn wsX3_init wsX1_init := goodIn_r _ [19, 20, 2, 3, 21, 22, 23, 24, 25, 26, 27, 28, 29, 30, 31, 32, 40, 41, 42] (by decide +kernel) (by decide +kernel)
set_option maxRecDepth 20000 in
theorem gX3_init_X1_init : GoodIn wsX3_init (wsX1_init) := ggX3_init_X1_init
set_option maxRecDepth 20000 in
theorem ggX3_init_X4_init : GoodIn wsX3_init wsX4_init := goodIn_r _ [35, 36, 2, 3, 37, 24, 25, 26, 27, 38, 39, 30, 31, 32, 50] (by decide +kernel) (by decide +kernel)
set_option maxRecDepth 20000 in
theorem gX3_init_X4_init : GoodIn wsX3_init (wsX4_init) := ggX3_init_X4_init
theorem dX3_init_0 : decode cX3_init 0 = .ok (.aload_n 0, 1) := by decide +kernel
theorem dX3_init_1 : decode cX3_init 1 = .ok (.invokespecial 3, 3) := by decide +kernel
theorem dX3_init_4 : decode cX3_init 4 = .ok (.aload_n 0, 1) := by decide +kernel
theorem dX3_init_5 : decode cX3_init 5 = .ok (.new 9, 3) := by decide +kernel
theorem dX3_init_8 : decode cX3_init 8 = .ok (.dup, 1) := by decide +kernel
theorem dX3_init_9 : decode cX3_init 9 = .ok (.bipush 81, 2) := by decide +kernel
theorem dX3_init_11 : decode cX3_init 11 = .ok (.iconst 3, 1) := by decide +kernel
theorem dX3_init_12 : decode cX3_init 12 = .ok (.iconst (-1), 1) := by decide +kernel
theorem dX3_init_13 : decode cX3_init 13 = .ok (.invokespecial 11, 3) := by decide +kernel
theorem dX3_init_16 : decode cX3_init 16 = .ok (.putfield 14, 3) := by decide +kernel
theorem dX3_init_19 : decode cX3_init 19 = .ok (.aload_n 0, 1) := by decide +kernel
theorem dX3_init_20 : decode cX3_init 20 = .ok (.new 9, 3) := by decide +kernel
theorem dX3_init_23 : decode cX3_init 23 = .ok (.dup, 1) := by decide +kernel
theorem dX3_init_24 : decode cX3_init 24 = .ok (.bipush 81, 2) := by decide +kernel
theorem dX3_init_26 : decode cX3_init 26 = .ok (.iconst 4, 1) := by decide +kernel
theorem dX3_init_27 : decode cX3_init 27 = .ok (.iconst (-1), 1) := by decide +kernel
theorem dX3_init_28 : decode cX3_init 28 = .ok (.invokespecial 11, 3) := by decide +kernel
theorem dX3_init_31 : decode cX3_init 31 = .ok (.putfield 20, 3) := by decide +kernel
theorem dX3_init_34 : decode cX3_init 34 = .ok (.aload_n 0, 1) := by decide +kernel
theorem dX3_init_35 : decode cX3_init 35 = .ok (.new 23, 3) := by decide +kernel
theorem dX3_init_38 : decode cX3_init 38 = .ok (.dup, 1) := by decide +kernel
theorem dX3_init_39 : decode cX3_init 39 = .ok (.bipush 80, 2) := by decide +kernel
theorem dX3_init_41 : decode cX3_init 41 = .ok (.iconst (-1), 1) := by decide +kernel
theorem dX3_init_42 : decode cX3_init 42 = .ok (.invokespecial 25, 3) := by decide +kernel
theorem dX3_init_45 : decode cX3_init 45 = .ok (.putfield 28, 3) := by decide +kernel
theorem dX3_init_48 : decode cX3_init 48 = .ok (.aload_n 0, 1) := by decide +kernel
theorem dX3_init_49 : decode cX3_init 49 = .ok (.new 23, 3) := by decide +kernel
theorem dX3_init_52 : decode cX3_init 52 = .ok (.dup, 1) := by decide +kernel
theorem dX3_init_53 : decode cX3_init 53 = .ok (.bipush 80, 2) := by decide +kernel
theorem dX3_init_55 : decode cX3_init 55 = .ok (.iconst (-1), 1) := by decide +kernel
theorem dX3_init_56 : decode cX3_init 56 = .ok (.invokespecial 25, 3) := by decide +kernel
theorem dX3_init_59 : decode cX3_init 59 = .ok (.putfield 32, 3) := by decide +kernel
theorem dX3_init_62 : decode cX3_init 62 = .ok (.aload_n 0, 1) := by decide +kernel
theorem dX3_init_63 : decode cX3_init 63 = .ok (.new 23, 3) := by decide +kernel
theorem dX3_init_66 : decode cX3_init 66 = .ok (.dup, 1) := by decide +kernel
theorem dX3_init_67 : decode cX3_init 67 = .ok (.bipush 10, 2) := by decide +kernel
theorem dX3_init_69 : decode cX3_init 69 = .ok (.iconst 0, 1) := by decide +kernel
theorem dX3_init_70 : decode cX3_init 70 = .ok (.invokespecial 25, 3) := by decide +kernel
theorem dX3_init_73 : decode cX3_init 73 = .ok (.putfield 35, 3) := by decide +kernel
theorem dX3_init_76 : decode cX3_init 76 = .ok (.aload_n 0, 1) := by decide +kernel
theorem dX3_init_77 : decode cX3_init 77 = .ok (.iconst 0, 1) := by decide +kernel
theorem dX3_init_78 : decode cX3_init 78 = .ok (.putfield 38, 3) := by decide +kernel
theorem dX3_init_81 : decode cX3_init 81 = .ok (.aload_n 0, 1) := by decide +kernel
theorem dX3_init_82 : decode cX3_init 82 = .ok (.iconst 0, 1) := by decide +kernel
theorem dX3_init_83 : decode cX3_init 83 = .ok (.putfield 42, 3) := by decide +kernel
theorem dX3_init_86 : decode cX3_init 86 = .ok (.return_, 1) := by decide +kernel
theorem dX3_begin_0 : decode cX3_begin 0 = .ok (.aload_n 0, 1) := by decide +kernel
theorem dX3_begin_1 : decode cX3_begin 1 = .ok (.getfield 42, 3) := by decide +kernel
theorem dX3_begin_4 : decode cX3_begin 4 = .ok (.istore_n 1, 1) := by decide +kernel
theorem dX3_begin_5 : decode cX3_begin 5 = .ok (.aload_n 0, 1) := by decide +kernel
theorem dX3_begin_6 : decode cX3_begin 6 = .ok (.dup, 1) := by decide +kernel
theorem dX3_begin_7 : decode cX3_begin 7 = .ok (.getfield 42, 3) := by decide +kernel
theorem dX3_begin_10 : decode cX3_begin 10 = .ok (.iconst 1, 1) := by decide +kernel
theorem dX3_begin_11 : decode cX3_begin 11 = .ok (.iadd, 1) := by decide +kernel
theorem dX3_begin_12 : decode cX3_begin 12 = .ok (.putfield 42, 3) := by decide +kernel
theorem dX3_begin_15 : decode cX3_begin 15 = .ok (.iload_n 1, 1) := by decide +kernel
theorem dX3_begin_16 : decode cX3_begin 16 = .ok (.ireturn, 1) := by decide +kernel
set_option maxRecDepth 20000 in
theorem ggX3_close_X4_set : GoodIn wsX3_close wsX4_set := goodIn_r _ [9, 10, 18] (by decide +kernel) (by decide +kernel)
set_option maxRecDepth 20000 in
theorem gX3_close_X4_set : GoodIn wsX3_close (wsV RX3 45 RX4 yX4_set wsX4_set) := goodIn_app (goodIn_of _ (by decide +kernel)) ggX3_close_X4_set
theorem dX3_close_0 : decode cX3_close 0 = .ok (.aload_n 0, 1) := by decide +kernel
theorem dX3_close_1 : decode cX3_close 1 = .ok (.getfield 38, 3) := by decide +kernel
theorem dX3_close_4 : decode cX3_close 4 = .ok (.istore_n 2, 1) := by decide +kernel
theorem dX3_close_5 : decode cX3_close 5 = .ok (.aload_n 0, 1) := by decide +kernel
theorem dX3_close_6 : decode cX3_close 6 = .ok (.getfield 28, 3) := by decide +kernel
theorem dX3_close_9 : decode cX3_close 9 = .ok (.iload_n 2, 1) := by decide +kernel
theorem dX3_close_10 : decode cX3_close 10 = .ok (.iload_n 1, 1) := by decide +kernel
theorem dX3_close_11 : decode cX3_close 11 = .ok (.invokevirtual 45, 3) := by decide +kernel
theorem dX3_close_14 : decode cX3_close 14 = .ok (.aload_n 0, 1) := by decide +kernel
theorem dX3_close_15 : decode cX3_close 15 = .ok (.getfield 32, 3) := by decide +kernel
theorem dX3_close_18 : decode cX3_close 18 = .ok (.iload_n 2, 1) := by decide +kernel
theorem dX3_close_19 : decode cX3_close 19 = .ok (.aload_n 0, 1) := by decide +kernel
theorem dX3_close_20 : decode cX3_close 20 = .ok (.getfield 42, 3) := by decide +kernel
theorem dX3_close_23 : decode cX3_close 23 = .ok (.iconst 1, 1) := by decide +kernel
theorem dX3_close_24 : decode cX3_close 24 = .ok (.isub, 1) := by decide +kernel
theorem dX3_close_25 : decode cX3_close 25 = .ok (.invokevirtual 45, 3) := by decide +kernel
theorem dX3_close_28 : decode cX3_close 28 = .ok (.aload_n 0, 1) := by decide +kernel
theorem dX3_close_29 : decode cX3_close 29 = .ok (.dup, 1) := by decide +kernel
theorem dX3_close_30 : decode cX3_close 30 = .ok (.getfield 38, 3) := by decide +kernel
theorem dX3_close_33 : decode cX3_close 33 = .ok (.iconst 1, 1) := by decide +kernel
theorem dX3_close_34 : decode cX3_close 34 = .ok (.iadd, 1) := by decide +kernel
theorem dX3_close_35 : decode cX3_close 35 = .ok (.putfield 38, 3) := by decide +kernel
theorem dX3_close_38 : decode cX3_close 38 = .ok (.iload_n 2, 1) := by decide +kernel
theorem dX3_close_39 : decode cX3_close 39 = .ok (.ireturn, 1) := by decide +kernel
set_option maxRecDepth 20000 in
theorem ggX3_isLeftOut_X4_get : GoodIn wsX3_isLeftOut wsX4_get := goodIn_r _ [7, 8, 16] (by decide +kernel) (by decide +kernel)
set_option maxRecDepth 20000 in
theorem gX3_isLeftOut_X4_get : GoodIn wsX3_isLeftOut (wsV RX3 48 RX4 yX4_get wsX4_get) := goodIn_app (goodIn_of _ (by decide +kernel)) ggX3_isLeftOut_X4_get
theorem dX3_isLeftOut_0 : decode cX3_isLeftOut 0 = .ok (.aload_n 0, 1) := by decide +kernel
theorem dX3_isLeftOut_1 : decode cX3_isLeftOut 1 = .ok (.getfield 35, 3) := by decide +kernel
theorem dX3_isLeftOut_4 : decode cX3_isLeftOut 4 = .ok (.aload_n 0, 1) := by decide +kernel
theorem dX3_isLeftOut_5 : decode cX3_isLeftOut 5 = .ok (.getfield 32, 3) := by decide +kernel
theorem dX3_isLeftOut_8 : decode cX3_isLeftOut 8 = .ok (.iload_n 1, 1) := by decide +kernel
theorem dX3_isLeftOut_9 : decode cX3_isLeftOut 9 = .ok (.invokevirtual 48, 3) := by decide +kernel
theorem dX3_isLeftOut_12 : decode cX3_isLeftOut 12 = .ok (.invokevirtual 48, 3) := by decide +kernel
theorem dX3_isLeftOut_15 : decode cX3_isLeftOut 15 = .ok (.iconst 1, 1) := by decide +kernel
theorem dX3_isLeftOut_16 : decode cX3_isLeftOut 16 = .ok (.if_icmp .ne 7, 3) := by decide +kernel
theorem dX3_isLeftOut_19 : decode cX3_isLeftOut 19 = .ok (.iconst 1, 1) := by decide +kernel
theorem dX3_isLeftOut_20 : decode cX3_isLeftOut 20 = .ok (.goto 4, 3) := by decide +kernel
theorem dX3_isLeftOut_23 : decode cX3_isLeftOut 23 = .ok (.iconst 0, 1) := by decide +kernel
theorem dX3_isLeftOut_24 : decode cX3_isLeftOut 24 = .ok (.ireturn, 1) := by decide +kernel
set_option maxRecDepth 20000 in
theorem ggX4_init_J7_fill_53178 : GoodIn wsX4_init wsJ7_fill_53178 := goodIn_r _ [13] (by decide +kernel) (by decide +kernel)
set_option maxRecDepth 20000 in
theorem gX4_init_J7_fill_53178 : GoodIn wsX4_init (va_wsS RX4 21 yJ7_fill_53178 wsJ7_fill_53178) := goodIn_app (goodIn_of _ (by decide +kernel)) ggX4_init_J7_fill_53178
theorem dX4_init_0 : decode cX4_init 0 = .ok (.aload_n 0, 1) := by decide +kernel
theorem dX4_init_1 : decode cX4_init 1 = .ok (.invokespecial 3, 3) := by decide +kernel
theorem dX4_init_4 : decode cX4_init 4 = .ok (.aload_n 0, 1) := by decide +kernel
theorem dX4_init_5 : decode cX4_init 5 = .ok (.iconst 0, 1) := by decide +kernel
theorem dX4_init_6 : decode cX4_init 6 = .ok (.iload_n 1, 1) := by decide +kernel
theorem dX4_init_7 : decode cX4_init 7 = .ok (.invokestatic 9, 3) := by decide +kernel
theorem dX4_init_10 : decode cX4_init 10 = .ok (.newarray .int, 2) := by decide +kernel
theorem dX4_init_12 : decode cX4_init 12 = .ok (.putfield 15, 3) := by decide +kernel
theorem dX4_init_15 : decode cX4_init 15 = .ok (.aload_n 0, 1) := by decide +kernel
theorem dX4_init_16 : decode cX4_init 16 = .ok (.getfield 15, 3) := by decide +kernel
theorem dX4_init_19 : decode cX4_init 19 = .ok (.iload_n 2, 1) := by decide +kernel
theorem dX4_init_20 : decode cX4_init 20 = .ok (.invokestatic 21, 3) := by decide +kernel
theorem dX4_init_23 : decode cX4_init 23 = .ok (.return_, 1) := by decide +kernel
theorem dX4_get_0 : decode cX4_get 0 = .ok (.iload_n 1, 1) := by decide +kernel
theorem dX4_get_1 : decode cX4_get 1 = .ok (.ifCond .lt 21, 3) := by decide +kernel
theorem dX4_get_4 : decode cX4_get 4 = .ok (.iload_n 1, 1) := by decide +kernel
theorem dX4_get_5 : decode cX4_get 5 = .ok (.aload_n 0, 1) := by decide +kernel
theorem dX4_get_6 : decode cX4_get 6 = .ok (.getfield 15, 3) := by decide +kernel
theorem dX4_get_9 : decode cX4_get 9 = .ok (.arraylength, 1) := by decide +kernel
theorem dX4_get_10 : decode cX4_get 10 = .ok (.if_icmp .ge 12, 3) := by decide +kernel
theorem dX4_get_13 : decode cX4_get 13 = .ok (.aload_n 0, 1) := by decide +kernel
theorem dX4_get_14 : decode cX4_get 14 = .ok (.getfield 15, 3) := by decide +kernel
theorem dX4_get_17 : decode cX4_get 17 = .ok (.iload_n 1, 1) := by decide +kernel
theorem dX4_get_18 : decode cX4_get 18 = .ok (.iaload, 1) := by decide +kernel
theorem dX4_get_19 : decode cX4_get 19 = .ok (.goto 4, 3) := by decide +kernel
theorem dX4_get_22 : decode cX4_get 22 = .ok (.iconst (-1), 1) := by decide +kernel
theorem dX4_get_23 : decode cX4_get 23 = .ok (.ireturn, 1) := by decide +kernel
theorem dX4_set_0 : decode cX4_set 0 = .ok (.iload_n 1, 1) := by decide +kernel
theorem dX4_set_1 : decode cX4_set 1 = .ok (.ifCond .lt 19, 3) := by decide +kernel
theorem dX4_set_4 : decode cX4_set 4 = .ok (.iload_n 1, 1) := by decide +kernel
theorem dX4_set_5 : decode cX4_set 5 = .ok (.aload_n 0, 1) := by decide +kernel
theorem dX4_set_6 : decode cX4_set 6 = .ok (.getfield 15, 3) := by decide +kernel
theorem dX4_set_9 : decode cX4_set 9 = .ok (.arraylength, 1) := by decide +kernel
theorem dX4_set_10 : decode cX4_set 10 = .ok (.if_icmp .ge 10, 3) := by decide +kernel
theorem dX4_set_13 : decode cX4_set 13 = .ok (.aload_n 0, 1) := by decide +kernel
theorem dX4_set_14 : decode cX4_set 14 = .ok (.getfield 15, 3) := by decide +kernel
theorem dX4_set_17 : decode cX4_set 17 = .ok (.iload_n 1, 1) := by decide +kernel
theorem dX4_set_18 : decode cX4_set 18 = .ok (.iload_n 2, 1) := by decide +kernel
theorem dX4_set_19 : decode cX4_set 19 = .ok (.iastore, 1) := by decide +kernel
theorem dX4_set_20 : decode cX4_set 20 = .ok (.return_, 1) := by decide +kernel
set_option maxRecDepth 20000 in
theorem ggX4_fill_J7_fill_53178 : GoodIn wsX4_fill wsJ7_fill_53178 := goodIn_r _ [5] (by decide +kernel) (by decide +kernel)
set_option maxRecDepth 20000 in
theorem gX4_fill_J7_fill_53178 : GoodIn wsX4_fill (va_wsS RX4 21 yJ7_fill_53178 wsJ7_fill_53178) := goodIn_app (goodIn_of _ (by decide +kernel)) ggX4_fill_J7_fill_53178
theorem dX4_fill_0 : decode cX4_fill 0 = .ok (.aload_n 0, 1) := by decide +kernel
theorem dX4_fill_1 : decode cX4_fill 1 = .ok (.getfield 15, 3) := by decide +kernel
theorem dX4_fill_4 : decode cX4_fill 4 = .ok (.iload_n 1, 1) := by decide +kernel
theorem dX4_fill_5 : decode cX4_fill 5 = .ok (.invokestatic 21, 3) := by decide +kernel
theorem dX4_fill_8 : decode cX4_fill 8 = .ok (.return_, 1) := by decide +kernel
set_option maxRecDepth 20000 in
theorem ggX5_init_X4_init : GoodIn wsX5_init wsX4_init := goodIn_r _ [12, 13, 2, 3, 14, 15, 16, 17, 18, 19, 20, 21, 22, 23, 28] (by decide +kernel) (by decide +kernel)
set_option maxRecDepth 20000 in
theorem gX5_init_X4_init : GoodIn wsX5_init (wsX4_init) := ggX5_init_X4_init
set_option maxRecDepth 20000 in
theorem ggX5_init_X4_set : GoodIn wsX5_init wsX4_set := goodIn_r _ [27, 19, 28] (by decide +kernel) (by decide +kernel)
set_option maxRecDepth 20000 in
theorem gX5_init_X4_set : GoodIn wsX5_init (wsV RX5 20 RX4 yX4_set wsX4_set) := goodIn_app (goodIn_of _ (by decide +kernel)) ggX5_init_X4_set
theorem dX5_init_0 : decode cX5_init 0 = .ok (.aload_n 0, 1) := by decide +kernel
theorem dX5_init_1 : decode cX5_init 1 = .ok (.invokespecial 3, 3) := by decide +kernel
theorem dX5_init_4 : decode cX5_init 4 = .ok (.aload_n 0, 1) := by decide +kernel
theorem dX5_init_5 : decode cX5_init 5 = .ok (.new 9, 3) := by decide +kernel
theorem dX5_init_8 : decode cX5_init 8 = .ok (.dup, 1) := by decide +kernel
theorem dX5_init_9 : decode cX5_init 9 = .ok (.iconst 5, 1) := by decide +kernel
theorem dX5_init_10 : decode cX5_init 10 = .ok (.iconst 0, 1) := by decide +kernel
theorem dX5_init_11 : decode cX5_init 11 = .ok (.invokespecial 11, 3) := by decide +kernel
theorem dX5_init_14 : decode cX5_init 14 = .ok (.putfield 14, 3) := by decide +kernel
theorem dX5_init_17 : decode cX5_init 17 = .ok (.iconst 0, 1) := by decide +kernel
theorem dX5_init_18 : decode cX5_init 18 = .ok (.istore_n 1, 1) := by decide +kernel
theorem dX5_init_19 : decode cX5_init 19 = .ok (.iload_n 1, 1) := by decide +kernel
theorem dX5_init_20 : decode cX5_init 20 = .ok (.iconst 5, 1) := by decide +kernel
theorem dX5_init_21 : decode cX5_init 21 = .ok (.if_icmp .ge 18, 3) := by decide +kernel
theorem dX5_init_24 : decode cX5_init 24 = .ok (.aload_n 0, 1) := by decide +kernel
theorem dX5_init_25 : decode cX5_init 25 = .ok (.getfield 14, 3) := by decide +kernel
theorem dX5_init_28 : decode cX5_init 28 = .ok (.iload_n 1, 1) := by decide +kernel
theorem dX5_init_29 : decode cX5_init 29 = .ok (.iload_n 1, 1) := by decide +kernel
theorem dX5_init_30 : decode cX5_init 30 = .ok (.invokevirtual 20, 3) := by decide +kernel
theorem dX5_init_33 : decode cX5_init 33 = .ok (.iinc 1 1, 3) := by decide +kernel
theorem dX5_init_36 : decode cX5_init 36 = .ok (.goto (-17), 3) := by decide +kernel
theorem dX5_init_39 : decode cX5_init 39 = .ok (.aload_n 0, 1) := by decide +kernel
theorem dX5_init_40 : decode cX5_init 40 = .ok (.new 9, 3) := by decide +kernel
theorem dX5_init_43 : decode cX5_init 43 = .ok (.dup, 1) := by decide +kernel
theorem dX5_init_44 : decode cX5_init 44 = .ok (.iconst 4, 1) := by decide +kernel
theorem dX5_init_45 : decode cX5_init 45 = .ok (.iconst 1, 1) := by decide +kernel
theorem dX5_init_46 : decode cX5_init 46 = .ok (.invokespecial 11, 3) := by decide +kernel
theorem dX5_init_49 : decode cX5_init 49 = .ok (.putfield 23, 3) := by decide +kernel
theorem dX5_init_52 : decode cX5_init 52 = .ok (.aload_n 0, 1) := by decide +kernel
theorem dX5_init_53 : decode cX5_init 53 = .ok (.new 9, 3) := by decide +kernel
theorem dX5_init_56 : decode cX5_init 56 = .ok (.dup, 1) := by decide +kernel
theorem dX5_init_57 : decode cX5_init 57 = .ok (.iconst 3, 1) := by decide +kernel
theorem dX5_init_58 : decode cX5_init 58 = .ok (.iconst 0, 1) := by decide +kernel
theorem dX5_init_59 : decode cX5_init 59 = .ok (.invokespecial 11, 3) := by decide +kernel
theorem dX5_init_62 : decode cX5_init 62 = .ok (.putfield 26, 3) := by decide +kernel
theorem dX5_init_65 : decode cX5_init 65 = .ok (.iconst 0, 1) := by decide +kernel
theorem dX5_init_66 : decode cX5_init 66 = .ok (.istore_n 1, 1) := by decide +kernel
theorem dX5_init_67 : decode cX5_init 67 = .ok (.iload_n 1, 1) := by decide +kernel
theorem dX5_init_68 : decode cX5_init 68 = .ok (.iconst 3, 1) := by decide +kernel
theorem dX5_init_69 : decode cX5_init 69 = .ok (.if_icmp .ge 18, 3) := by decide +kernel
theorem dX5_init_72 : decode cX5_init 72 = .ok (.aload_n 0, 1) := by decide +kernel
theorem dX5_init_73 : decode cX5_init 73 = .ok (.getfield 26, 3) := by decide +kernel
theorem dX5_init_76 : decode cX5_init 76 = .ok (.iload_n 1, 1) := by decide +kernel
theorem dX5_init_77 : decode cX5_init 77 = .ok (.iload_n 1, 1) := by decide +kernel
theorem dX5_init_78 : decode cX5_init 78 = .ok (.invokevirtual 20, 3) := by decide +kernel
theorem dX5_init_81 : decode cX5_init 81 = .ok (.iinc 1 1, 3) := by decide +kernel
theorem dX5_init_84 : decode cX5_init 84 = .ok (.goto (-17), 3) := by decide +kernel
theorem dX5_init_87 : decode cX5_init 87 = .ok (.return_, 1) := by decide +kernel
set_option maxRecDepth 20000 in
theorem ggX5_replaces_X4_get : GoodIn wsX5_replaces wsX4_get := goodIn_r _ [7, 8, 12] (by decide +kernel) (by decide +kernel)
set_option maxRecDepth 20000 in
theorem gX5_replaces_X4_get : GoodIn wsX5_replaces (wsV RX5 29 RX4 yX4_get wsX4_get) := goodIn_app (goodIn_of _ (by decide +kernel)) ggX5_replaces_X4_get
theorem dX5_replaces_0 : decode cX5_replaces 0 = .ok (.aload_n 0, 1) := by decide +kernel
theorem dX5_replaces_1 : decode cX5_replaces 1 = .ok (.getfield 23, 3) := by decide +kernel
theorem dX5_replaces_4 : decode cX5_replaces 4 = .ok (.iload_n 1, 1) := by decide +kernel
theorem dX5_replaces_5 : decode cX5_replaces 5 = .ok (.invokevirtual 29, 3) := by decide +kernel
theorem dX5_replaces_8 : decode cX5_replaces 8 = .ok (.lookupswitch 32 #[(0, 28), (2, 30)], 28) := by decide +kernel
theorem dX5_replaces_36 : decode cX5_replaces 36 = .ok (.iconst 0, 1) := by decide +kernel
theorem dX5_replaces_37 : decode cX5_replaces 37 = .ok (.ireturn, 1) := by decide +kernel
theorem dX5_replaces_38 : decode cX5_replaces 38 = .ok (.iconst 1, 1) := by decide +kernel
theorem dX5_replaces_39 : decode cX5_replaces 39 = .ok (.ireturn, 1) := by decide +kernel
theorem dX5_replaces_40 : decode cX5_replaces 40 = .ok (.aload_n 0, 1) := by decide +kernel
theorem dX5_replaces_41 : decode cX5_replaces 41 = .ok (.getfield 14, 3) := by decide +kernel
theorem dX5_replaces_44 : decode cX5_replaces 44 = .ok (.iload_n 2, 1) := by decide +kernel
theorem dX5_replaces_45 : decode cX5_replaces 45 = .ok (.invokevirtual 29, 3) := by decide +kernel
theorem dX5_replaces_48 : decode cX5_replaces 48 = .ok (.aload_n 0, 1) := by decide +kernel
theorem dX5_replaces_49 : decode cX5_replaces 49 = .ok (.getfield 14, 3) := by decide +kernel
theorem dX5_replaces_52 : decode cX5_replaces 52 = .ok (.iload_n 3, 1) := by decide +kernel
theorem dX5_replaces_53 : decode cX5_replaces 53 = .ok (.invokevirtual 29, 3) := by decide +kernel
theorem dX5_replaces_56 : decode cX5_replaces 56 = .ok (.if_icmp .lt 7, 3) := by decide +kernel
theorem dX5_replaces_59 : decode cX5_replaces 59 = .ok (.iconst 1, 1) := by decide +kernel
theorem dX5_replaces_60 : decode cX5_replaces 60 = .ok (.goto 4, 3) := by decide +kernel
theorem dX5_replaces_63 : decode cX5_replaces 63 = .ok (.iconst 0, 1) := by decide +kernel
theorem dX5_replaces_64 : decode cX5_replaces 64 = .ok (.ireturn, 1) := by decide +kernel
theorem dJ9_max_7cf53_0 : decode cJ9_max_7cf53 0 = .ok (.iload_n 0, 1) := by decide +kernel
theorem dJ9_max_7cf53_1 : decode cJ9_max_7cf53 1 = .ok (.iload_n 1, 1) := by decide +kernel
theorem dJ9_max_7cf53_2 : decode cJ9_max_7cf53 2 = .ok (.if_icmp .lt 7, 3) := by decide +kernel
theorem dJ9_max_7cf53_5 : decode cJ9_max_7cf53 5 = .ok (.iload_n 0, 1) := by decide +kernel
theorem dJ9_max_7cf53_6 : decode cJ9_max_7cf53 6 = .ok (.goto 4, 3) := by decide +kernel
theorem dJ9_max_7cf53_9 : decode cJ9_max_7cf53 9 = .ok (.iload_n 1, 1) := by decide +kernel
theorem dJ9_max_7cf53_10 : decode cJ9_max_7cf53 10 = .ok (.ireturn, 1) := by decide +kernel
theorem dJ7_fill_53178_0 : decode cJ7_fill_53178 0 = .ok (.iconst 0, 1) := by decide +kernel
theorem dJ7_fill_53178_1 : decode cJ7_fill_53178 1 = .ok (.istore_n 2, 1) := by decide +kernel
theorem dJ7_fill_53178_2 : decode cJ7_fill_53178 2 = .ok (.aload_n 0, 1) := by decide +kernel
theorem dJ7_fill_53178_3 : decode cJ7_fill_53178 3 = .ok (.arraylength, 1) := by decide +kernel
theorem dJ7_fill_53178_4 : decode cJ7_fill_53178 4 = .ok (.istore_n 3, 1) := by decide +kernel
theorem dJ7_fill_53178_5 : decode cJ7_fill_53178 5 = .ok (.iload_n 2, 1) := by decide +kernel
theorem dJ7_fill_53178_6 : decode cJ7_fill_53178 6 = .ok (.iload_n 3, 1) := by decide +kernel
theorem dJ7_fill_53178_7 : decode cJ7_fill_53178 7 = .ok (.if_icmp .ge 13, 3) := by decide +kernel
theorem dJ7_fill_53178_10 : decode cJ7_fill_53178 10 = .ok (.aload_n 0, 1) := by decide +kernel
theorem dJ7_fill_53178_11 : decode cJ7_fill_53178 11 = .ok (.iload_n 2, 1) := by decide +kernel
theorem dJ7_fill_53178_12 : decode cJ7_fill_53178 12 = .ok (.iload_n 1, 1) := by decide +kernel
theorem dJ7_fill_53178_13 : decode cJ7_fill_53178 13 = .ok (.iastore, 1) := by decide +kernel
theorem dJ7_fill_53178_14 : decode cJ7_fill_53178 14 = .ok (.iinc 2 1, 3) := by decide +kernel
theorem dJ7_fill_53178_17 : decode cJ7_fill_53178 17 = .ok (.goto (-12), 3) := by decide +kernel
theorem dJ7_fill_53178_20 : decode cJ7_fill_53178 20 = .ok (.return_, 1) := by decide +kernel
