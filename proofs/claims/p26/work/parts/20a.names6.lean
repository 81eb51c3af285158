set_option maxRecDepth 20000 in
theorem ggX6_init_X5_init : GoodIn wsX6_init wsX5_init := goodIn_r _ [23, 24, 2, 3, 25, 26, 27, 28, 29, 30, 31, 32, 33, 34, 35, 36, 37, 38, 39, 40, 41, 42, 43, 44, 45, 46, 47, 48, 129, 101, 102, 103] (by decide +kernel) (by decide +kernel)
set_option maxRecDepth 20000 in
theorem gX6_init_X5_init : GoodIn wsX6_init (wsX5_init) := ggX6_init_X5_init
set_option maxRecDepth 20000 in
theorem ggX6_init_X3_init : GoodIn wsX6_init wsX3_init := goodIn_r _ [51, 52, 2, 3, 53, 54, 55, 56, 57, 58, 26, 27, 59, 60, 61, 62, 63, 64, 65, 66, 67, 68, 69, 70, 36, 37, 38, 39, 71, 72, 42, 43, 44, 73, 32, 33, 34, 35, 40, 41, 130, 131, 132, 109, 110, 111, 112, 113, 114, 115, 129] (by decide +kernel) (by decide +kernel)
set_option maxRecDepth 20000 in
theorem gX6_init_X3_init : GoodIn wsX6_init (wsX3_init) := ggX6_init_X3_init
set_option maxRecDepth 20000 in
theorem ggX6_init_X2_init : GoodIn wsX6_init wsX2_init := goodIn_r _ [76, 77, 2, 3, 78, 26, 27, 79, 80, 81, 82, 83, 84, 85, 32, 33, 34, 35, 36, 37, 38, 39, 40, 41, 42, 43, 44, 129, 116, 117, 118, 119, 120, 121] (by decide +kernel) (by decide +kernel)
set_option maxRecDepth 20000 in
theorem gX6_init_X2_init : GoodIn wsX6_init (wsX2_init) := ggX6_init_X2_init
set_option maxRecDepth 20000 in
theorem ggX6_init_X0_init : GoodIn wsX6_init wsX0_init := goodIn_r _ [88, 89, 2, 3, 90, 26, 27, 91, 92, 54, 55, 93, 94, 95, 96, 97, 98, 99, 32, 33, 34, 35, 36, 37, 38, 39, 40, 41, 42, 43, 44, 100, 65, 66, 67, 68, 69, 70, 71, 72, 129, 122, 123, 124, 125, 126, 127, 128, 130, 131, 132] (by decide +kernel) (by decide +kernel)
set_option maxRecDepth 20000 in
theorem gX6_init_X0_init : GoodIn wsX6_init (wsX0_init) := ggX6_init_X0_init
theorem dX6_init_0 : decode cX6_init 0 = .ok (.aload_n 0, 1) := by decide +kernel
theorem dX6_init_1 : decode cX6_init 1 = .ok (.invokespecial 1, 3) := by decide +kernel
theorem dX6_init_4 : decode cX6_init 4 = .ok (.aload_n 0, 1) := by decide +kernel
theorem dX6_init_5 : decode cX6_init 5 = .ok (.new 7, 3) := by decide +kernel
theorem dX6_init_8 : decode cX6_init 8 = .ok (.dup, 1) := by decide +kernel
theorem dX6_init_9 : decode cX6_init 9 = .ok (.invokespecial 9, 3) := by decide +kernel
theorem dX6_init_12 : decode cX6_init 12 = .ok (.putfield 10, 3) := by decide +kernel
theorem dX6_init_15 : decode cX6_init 15 = .ok (.aload_n 0, 1) := by decide +kernel
theorem dX6_init_16 : decode cX6_init 16 = .ok (.new 16, 3) := by decide +kernel
theorem dX6_init_19 : decode cX6_init 19 = .ok (.dup, 1) := by decide +kernel
theorem dX6_init_20 : decode cX6_init 20 = .ok (.invokespecial 18, 3) := by decide +kernel
theorem dX6_init_23 : decode cX6_init 23 = .ok (.putfield 19, 3) := by decide +kernel
theorem dX6_init_26 : decode cX6_init 26 = .ok (.aload_n 0, 1) := by decide +kernel
theorem dX6_init_27 : decode cX6_init 27 = .ok (.new 23, 3) := by decide +kernel
theorem dX6_init_30 : decode cX6_init 30 = .ok (.dup, 1) := by decide +kernel
theorem dX6_init_31 : decode cX6_init 31 = .ok (.invokespecial 25, 3) := by decide +kernel
theorem dX6_init_34 : decode cX6_init 34 = .ok (.putfield 26, 3) := by decide +kernel
theorem dX6_init_37 : decode cX6_init 37 = .ok (.aload_n 0, 1) := by decide +kernel
theorem dX6_init_38 : decode cX6_init 38 = .ok (.new 30, 3) := by decide +kernel
theorem dX6_init_41 : decode cX6_init 41 = .ok (.dup, 1) := by decide +kernel
theorem dX6_init_42 : decode cX6_init 42 = .ok (.invokespecial 32, 3) := by decide +kernel
theorem dX6_init_45 : decode cX6_init 45 = .ok (.putfield 33, 3) := by decide +kernel
theorem dX6_init_48 : decode cX6_init 48 = .ok (.aload_n 0, 1) := by decide +kernel
theorem dX6_init_49 : decode cX6_init 49 = .ok (.new 30, 3) := by decide +kernel
theorem dX6_init_52 : decode cX6_init 52 = .ok (.dup, 1) := by decide +kernel
theorem dX6_init_53 : decode cX6_init 53 = .ok (.invokespecial 32, 3) := by decide +kernel
theorem dX6_init_56 : decode cX6_init 56 = .ok (.putfield 37, 3) := by decide +kernel
theorem dX6_init_59 : decode cX6_init 59 = .ok (.return_, 1) := by decide +kernel
set_option maxRecDepth 20000 in
theorem ggX6_setRank_X6_needIndex : GoodIn wsX6_setRank wsX6_needIndex := goodIn_ca (goodIn_r _ [5, 6, 7] (by decide +kernel) (by decide +kernel)) (goodIn_sub (fun _ h => List.mem_cons_of_mem _ (List.mem_append_left _ (List.mem_append_left _ (List.mem_append_right _ h)))) (by decide +kernel))
set_option maxRecDepth 20000 in
theorem gX6_setRank_X6_needIndex : GoodIn wsX6_setRank (va_wsS RX6 40 yX6_needIndex wsX6_needIndex) := goodIn_app (goodIn_of _ (by decide +kernel)) ggX6_setRank_X6_needIndex
set_option maxRecDepth 20000 in
theorem ggX6_setRank_X6_needValue : GoodIn wsX6_setRank wsX6_needValue := goodIn_ca (goodIn_r _ [10, 11, 12] (by decide +kernel) (by decide +kernel)) (goodIn_sub (fun _ h => List.mem_cons_of_mem _ (List.mem_append_left _ (List.mem_append_right _ h))) (by decide +kernel))
set_option maxRecDepth 20000 in
theorem gX6_setRank_X6_needValue : GoodIn wsX6_setRank (va_wsS RX6 44 yX6_needValue wsX6_needValue) := goodIn_app (goodIn_of _ (by decide +kernel)) ggX6_setRank_X6_needValue
set_option maxRecDepth 20000 in
theorem ggX6_setRank_X6_needNothingLoaded : GoodIn wsX6_setRank wsX6_needNothingLoaded := goodIn_ca (goodIn_r _ [16, 17, 18, 19, 30, 31, 32, 33, 34, 38, 39, 40, 41, 42, 43, 44] (by decide +kernel) (by decide +kernel)) (goodIn_sub (fun _ h => List.mem_cons_of_mem _ (List.mem_append_right _ h)) (by decide +kernel))
set_option maxRecDepth 20000 in
theorem gX6_setRank_X6_needNothingLoaded : GoodIn wsX6_setRank (wsV RX6 48 RX6 yX6_needNothingLoaded wsX6_needNothingLoaded) := goodIn_app (goodIn_of _ (by decide +kernel)) ggX6_setRank_X6_needNothingLoaded
set_option maxRecDepth 20000 in
theorem ggX6_setRank_X4_get : GoodIn wsX6_setRank wsX4_get := goodIn_r _ [24, 25, 45] (by decide +kernel) (by decide +kernel)
set_option maxRecDepth 20000 in
theorem gX6_setRank_X4_get : GoodIn wsX6_setRank (wsV RX6 55 RX4 yX4_get wsX4_get) := goodIn_app (goodIn_of _ (by decide +kernel)) ggX6_setRank_X4_get
set_option maxRecDepth 20000 in
theorem ggX6_setRank_X4_set : GoodIn wsX6_setRank wsX4_set := goodIn_r _ [29, 25, 45] (by decide +kernel) (by decide +kernel)
set_option maxRecDepth 20000 in
theorem gX6_setRank_X4_set : GoodIn wsX6_setRank (wsV RX6 61 RX4 yX4_set wsX4_set) := goodIn_app (goodIn_of _ (by decide +kernel)) ggX6_setRank_X4_set
theorem dX6_setRank_0 : decode cX6_setRank 0 = .ok (.iload_n 1, 1) := by decide +kernel
theorem dX6_setRank_1 : decode cX6_setRank 1 = .ok (.iconst 5, 1) := by decide +kernel
theorem dX6_setRank_2 : decode cX6_setRank 2 = .ok (.invokestatic 40, 3) := by decide +kernel
theorem dX6_setRank_5 : decode cX6_setRank 5 = .ok (.iload_n 2, 1) := by decide +kernel
theorem dX6_setRank_6 : decode cX6_setRank 6 = .ok (.iconst 0, 1) := by decide +kernel
theorem dX6_setRank_7 : decode cX6_setRank 7 = .ok (.bipush 10, 2) := by decide +kernel
theorem dX6_setRank_9 : decode cX6_setRank 9 = .ok (.invokestatic 44, 3) := by decide +kernel
theorem dX6_setRank_12 : decode cX6_setRank 12 = .ok (.aload_n 0, 1) := by decide +kernel
theorem dX6_setRank_13 : decode cX6_setRank 13 = .ok (.invokevirtual 48, 3) := by decide +kernel
theorem dX6_setRank_16 : decode cX6_setRank 16 = .ok (.aload_n 0, 1) := by decide +kernel
theorem dX6_setRank_17 : decode cX6_setRank 17 = .ok (.getfield 10, 3) := by decide +kernel
theorem dX6_setRank_20 : decode cX6_setRank 20 = .ok (.getfield 51, 3) := by decide +kernel
theorem dX6_setRank_23 : decode cX6_setRank 23 = .ok (.iload_n 1, 1) := by decide +kernel
theorem dX6_setRank_24 : decode cX6_setRank 24 = .ok (.invokevirtual 55, 3) := by decide +kernel
theorem dX6_setRank_27 : decode cX6_setRank 27 = .ok (.istore_n 3, 1) := by decide +kernel
theorem dX6_setRank_28 : decode cX6_setRank 28 = .ok (.aload_n 0, 1) := by decide +kernel
theorem dX6_setRank_29 : decode cX6_setRank 29 = .ok (.getfield 10, 3) := by decide +kernel
theorem dX6_setRank_32 : decode cX6_setRank 32 = .ok (.getfield 51, 3) := by decide +kernel
theorem dX6_setRank_35 : decode cX6_setRank 35 = .ok (.iload_n 1, 1) := by decide +kernel
theorem dX6_setRank_36 : decode cX6_setRank 36 = .ok (.iload_n 2, 1) := by decide +kernel
theorem dX6_setRank_37 : decode cX6_setRank 37 = .ok (.invokevirtual 61, 3) := by decide +kernel
theorem dX6_setRank_40 : decode cX6_setRank 40 = .ok (.iload_n 3, 1) := by decide +kernel
theorem dX6_setRank_41 : decode cX6_setRank 41 = .ok (.ireturn, 1) := by decide +kernel
set_option maxRecDepth 20000 in
theorem ggX6_setRule_X6_needIndex : GoodIn wsX6_setRule wsX6_needIndex := goodIn_ca (goodIn_r _ [5, 6, 7] (by decide +kernel) (by decide +kernel)) (goodIn_sub (fun _ h => List.mem_cons_of_mem _ (List.mem_append_left _ (List.mem_append_left _ (List.mem_append_right _ h)))) (by decide +kernel))
set_option maxRecDepth 20000 in
theorem gX6_setRule_X6_needIndex : GoodIn wsX6_setRule (va_wsS RX6 40 yX6_needIndex wsX6_needIndex) := goodIn_app (goodIn_of _ (by decide +kernel)) ggX6_setRule_X6_needIndex
set_option maxRecDepth 20000 in
theorem ggX6_setRule_X6_needValue : GoodIn wsX6_setRule wsX6_needValue := goodIn_ca (goodIn_r _ [10, 11, 12] (by decide +kernel) (by decide +kernel)) (goodIn_sub (fun _ h => List.mem_cons_of_mem _ (List.mem_append_left _ (List.mem_append_right _ h))) (by decide +kernel))
set_option maxRecDepth 20000 in
theorem gX6_setRule_X6_needValue : GoodIn wsX6_setRule (va_wsS RX6 44 yX6_needValue wsX6_needValue) := goodIn_app (goodIn_of _ (by decide +kernel)) ggX6_setRule_X6_needValue
set_option maxRecDepth 20000 in
theorem ggX6_setRule_X6_needNothingLoaded : GoodIn wsX6_setRule wsX6_needNothingLoaded := goodIn_ca (goodIn_r _ [16, 17, 18, 19, 30, 31, 32, 33, 34, 38, 39, 40, 41, 42, 43, 44] (by decide +kernel) (by decide +kernel)) (goodIn_sub (fun _ h => List.mem_cons_of_mem _ (List.mem_append_right _ h)) (by decide +kernel))
set_option maxRecDepth 20000 in
theorem gX6_setRule_X6_needNothingLoaded : GoodIn wsX6_setRule (wsV RX6 48 RX6 yX6_needNothingLoaded wsX6_needNothingLoaded) := goodIn_app (goodIn_of _ (by decide +kernel)) ggX6_setRule_X6_needNothingLoaded
set_option maxRecDepth 20000 in
theorem ggX6_setRule_X4_get : GoodIn wsX6_setRule wsX4_get := goodIn_r _ [24, 25, 45] (by decide +kernel) (by decide +kernel)
set_option maxRecDepth 20000 in
theorem gX6_setRule_X4_get : GoodIn wsX6_setRule (wsV RX6 55 RX4 yX4_get wsX4_get) := goodIn_app (goodIn_of _ (by decide +kernel)) ggX6_setRule_X4_get
set_option maxRecDepth 20000 in
theorem ggX6_setRule_X4_set : GoodIn wsX6_setRule wsX4_set := goodIn_r _ [29, 25, 45] (by decide +kernel) (by decide +kernel)
set_option maxRecDepth 20000 in
theorem gX6_setRule_X4_set : GoodIn wsX6_setRule (wsV RX6 61 RX4 yX4_set wsX4_set) := goodIn_app (goodIn_of _ (by decide +kernel)) ggX6_setRule_X4_set
theorem dX6_setRule_0 : decode cX6_setRule 0 = .ok (.iload_n 1, 1) := by decide +kernel
theorem dX6_setRule_1 : decode cX6_setRule 1 = .ok (.iconst 4, 1) := by decide +kernel
theorem dX6_setRule_2 : decode cX6_setRule 2 = .ok (.invokestatic 40, 3) := by decide +kernel
theorem dX6_setRule_5 : decode cX6_setRule 5 = .ok (.iload_n 2, 1) := by decide +kernel
theorem dX6_setRule_6 : decode cX6_setRule 6 = .ok (.iconst 0, 1) := by decide +kernel
theorem dX6_setRule_7 : decode cX6_setRule 7 = .ok (.iconst 3, 1) := by decide +kernel
theorem dX6_setRule_8 : decode cX6_setRule 8 = .ok (.invokestatic 44, 3) := by decide +kernel
theorem dX6_setRule_11 : decode cX6_setRule 11 = .ok (.aload_n 0, 1) := by decide +kernel
theorem dX6_setRule_12 : decode cX6_setRule 12 = .ok (.invokevirtual 48, 3) := by decide +kernel
theorem dX6_setRule_15 : decode cX6_setRule 15 = .ok (.aload_n 0, 1) := by decide +kernel
theorem dX6_setRule_16 : decode cX6_setRule 16 = .ok (.getfield 10, 3) := by decide +kernel
theorem dX6_setRule_19 : decode cX6_setRule 19 = .ok (.getfield 64, 3) := by decide +kernel
theorem dX6_setRule_22 : decode cX6_setRule 22 = .ok (.iload_n 1, 1) := by decide +kernel
theorem dX6_setRule_23 : decode cX6_setRule 23 = .ok (.invokevirtual 55, 3) := by decide +kernel
theorem dX6_setRule_26 : decode cX6_setRule 26 = .ok (.istore_n 3, 1) := by decide +kernel
theorem dX6_setRule_27 : decode cX6_setRule 27 = .ok (.aload_n 0, 1) := by decide +kernel
theorem dX6_setRule_28 : decode cX6_setRule 28 = .ok (.getfield 10, 3) := by decide +kernel
theorem dX6_setRule_31 : decode cX6_setRule 31 = .ok (.getfield 64, 3) := by decide +kernel
theorem dX6_setRule_34 : decode cX6_setRule 34 = .ok (.iload_n 1, 1) := by decide +kernel
theorem dX6_setRule_35 : decode cX6_setRule 35 = .ok (.iload_n 2, 1) := by decide +kernel
theorem dX6_setRule_36 : decode cX6_setRule 36 = .ok (.invokevirtual 61, 3) := by decide +kernel
theorem dX6_setRule_39 : decode cX6_setRule 39 = .ok (.iload_n 3, 1) := by decide +kernel
theorem dX6_setRule_40 : decode cX6_setRule 40 = .ok (.ireturn, 1) := by decide +kernel
set_option maxRecDepth 20000 in
theorem ggX6_setOrder_X6_needValue : GoodIn wsX6_setOrder wsX6_needValue := goodIn_ca (goodIn_r _ [7, 1, 2] (by decide +kernel) (by decide +kernel)) (goodIn_sub (fun _ h => List.mem_cons_of_mem _ (List.mem_append_left _ (List.mem_append_right _ h))) (by decide +kernel))
set_option maxRecDepth 20000 in
theorem gX6_setOrder_X6_needValue : GoodIn wsX6_setOrder (va_wsS RX6 44 yX6_needValue wsX6_needValue) := goodIn_app (goodIn_of _ (by decide +kernel)) ggX6_setOrder_X6_needValue
set_option maxRecDepth 20000 in
theorem ggX6_setOrder_X6_needNothingLoaded : GoodIn wsX6_setOrder wsX6_needNothingLoaded := goodIn_ca (goodIn_r _ [11, 12, 13, 14, 21, 22, 23, 24, 25, 29, 30, 31, 32, 33, 34, 35] (by decide +kernel) (by decide +kernel)) (goodIn_sub (fun _ h => List.mem_cons_of_mem _ (List.mem_append_right _ h)) (by decide +kernel))
set_option maxRecDepth 20000 in
theorem gX6_setOrder_X6_needNothingLoaded : GoodIn wsX6_setOrder (wsV RX6 48 RX6 yX6_needNothingLoaded wsX6_needNothingLoaded) := goodIn_app (goodIn_of _ (by decide +kernel)) ggX6_setOrder_X6_needNothingLoaded
set_option maxRecDepth 20000 in
theorem ggX6_setOrder_X4_set : GoodIn wsX6_setOrder wsX4_set := goodIn_r _ [19, 20, 36] (by decide +kernel) (by decide +kernel)
set_option maxRecDepth 20000 in
theorem gX6_setOrder_X4_set : GoodIn wsX6_setOrder (wsV RX6 61 RX4 yX4_set wsX4_set) := goodIn_app (goodIn_of _ (by decide +kernel)) ggX6_setOrder_X4_set
theorem dX6_setOrder_0 : decode cX6_setOrder 0 = .ok (.iload_n 1, 1) := by decide +kernel
theorem dX6_setOrder_1 : decode cX6_setOrder 1 = .ok (.iconst 0, 1) := by decide +kernel
theorem dX6_setOrder_2 : decode cX6_setOrder 2 = .ok (.iconst 3, 1) := by decide +kernel
theorem dX6_setOrder_3 : decode cX6_setOrder 3 = .ok (.invokestatic 44, 3) := by decide +kernel
theorem dX6_setOrder_6 : decode cX6_setOrder 6 = .ok (.iload_n 2, 1) := by decide +kernel
theorem dX6_setOrder_7 : decode cX6_setOrder 7 = .ok (.iconst 0, 1) := by decide +kernel
theorem dX6_setOrder_8 : decode cX6_setOrder 8 = .ok (.iconst 3, 1) := by decide +kernel
theorem dX6_setOrder_9 : decode cX6_setOrder 9 = .ok (.invokestatic 44, 3) := by decide +kernel
theorem dX6_setOrder_12 : decode cX6_setOrder 12 = .ok (.iload_n 3, 1) := by decide +kernel
theorem dX6_setOrder_13 : decode cX6_setOrder 13 = .ok (.iconst 0, 1) := by decide +kernel
theorem dX6_setOrder_14 : decode cX6_setOrder 14 = .ok (.iconst 3, 1) := by decide +kernel
theorem dX6_setOrder_15 : decode cX6_setOrder 15 = .ok (.invokestatic 44, 3) := by decide +kernel
theorem dX6_setOrder_18 : decode cX6_setOrder 18 = .ok (.iload_n 1, 1) := by decide +kernel
theorem dX6_setOrder_19 : decode cX6_setOrder 19 = .ok (.iload_n 2, 1) := by decide +kernel
theorem dX6_setOrder_20 : decode cX6_setOrder 20 = .ok (.if_icmp .eq 13, 3) := by decide +kernel
theorem dX6_setOrder_23 : decode cX6_setOrder 23 = .ok (.iload_n 2, 1) := by decide +kernel
theorem dX6_setOrder_24 : decode cX6_setOrder 24 = .ok (.iload_n 3, 1) := by decide +kernel
theorem dX6_setOrder_25 : decode cX6_setOrder 25 = .ok (.if_icmp .eq 8, 3) := by decide +kernel
theorem dX6_setOrder_28 : decode cX6_setOrder 28 = .ok (.iload_n 1, 1) := by decide +kernel
theorem dX6_setOrder_29 : decode cX6_setOrder 29 = .ok (.iload_n 3, 1) := by decide +kernel
theorem dX6_setOrder_30 : decode cX6_setOrder 30 = .ok (.if_icmp .ne 13, 3) := by decide +kernel
theorem dX6_setOrder_33 : decode cX6_setOrder 33 = .ok (.new 67, 3) := by decide +kernel
theorem dX6_setOrder_36 : decode cX6_setOrder 36 = .ok (.dup, 1) := by decide +kernel
theorem dX6_setOrder_37 : decode cX6_setOrder 37 = .ok (.ldc 69, 2) := by decide +kernel
theorem dX6_setOrder_39 : decode cX6_setOrder 39 = .ok (.invokespecial 71, 3) := by decide +kernel
theorem dX6_setOrder_42 : decode cX6_setOrder 42 = .ok (.athrow, 1) := by decide +kernel
theorem dX6_setOrder_43 : decode cX6_setOrder 43 = .ok (.aload_n 0, 1) := by decide +kernel
theorem dX6_setOrder_44 : decode cX6_setOrder 44 = .ok (.invokevirtual 48, 3) := by decide +kernel
theorem dX6_setOrder_47 : decode cX6_setOrder 47 = .ok (.aload_n 0, 1) := by decide +kernel
theorem dX6_setOrder_48 : decode cX6_setOrder 48 = .ok (.getfield 10, 3) := by decide +kernel
theorem dX6_setOrder_51 : decode cX6_setOrder 51 = .ok (.getfield 74, 3) := by decide +kernel
theorem dX6_setOrder_54 : decode cX6_setOrder 54 = .ok (.iconst 0, 1) := by decide +kernel
theorem dX6_setOrder_55 : decode cX6_setOrder 55 = .ok (.iload_n 1, 1) := by decide +kernel
theorem dX6_setOrder_56 : decode cX6_setOrder 56 = .ok (.invokevirtual 61, 3) := by decide +kernel
theorem dX6_setOrder_59 : decode cX6_setOrder 59 = .ok (.aload_n 0, 1) := by decide +kernel
theorem dX6_setOrder_60 : decode cX6_setOrder 60 = .ok (.getfield 10, 3) := by decide +kernel
theorem dX6_setOrder_63 : decode cX6_setOrder 63 = .ok (.getfield 74, 3) := by decide +kernel
theorem dX6_setOrder_66 : decode cX6_setOrder 66 = .ok (.iconst 1, 1) := by decide +kernel
theorem dX6_setOrder_67 : decode cX6_setOrder 67 = .ok (.iload_n 2, 1) := by decide +kernel
theorem dX6_setOrder_68 : decode cX6_setOrder 68 = .ok (.invokevirtual 61, 3) := by decide +kernel
theorem dX6_setOrder_71 : decode cX6_setOrder 71 = .ok (.aload_n 0, 1) := by decide +kernel
theorem dX6_setOrder_72 : decode cX6_setOrder 72 = .ok (.getfield 10, 3) := by decide +kernel
theorem dX6_setOrder_75 : decode cX6_setOrder 75 = .ok (.getfield 74, 3) := by decide +kernel
theorem dX6_setOrder_78 : decode cX6_setOrder 78 = .ok (.iconst 2, 1) := by decide +kernel
theorem dX6_setOrder_79 : decode cX6_setOrder 79 = .ok (.iload_n 3, 1) := by decide +kernel
theorem dX6_setOrder_80 : decode cX6_setOrder 80 = .ok (.invokevirtual 61, 3) := by decide +kernel
theorem dX6_setOrder_83 : decode cX6_setOrder 83 = .ok (.return_, 1) := by decide +kernel
set_option maxRecDepth 20000 in
theorem ggX6_beginBatch_X3_begin : GoodIn wsX6_beginBatch wsX3_begin := goodIn_r _ [8, 9, 15, 16, 17, 18, 19, 20, 21] (by decide +kernel) (by decide +kernel)
set_option maxRecDepth 20000 in
theorem gX6_beginBatch_X3_begin : GoodIn wsX6_beginBatch (wsV RX6 86 RX3 yX3_begin wsX3_begin) := goodIn_app (goodIn_of _ (by decide +kernel)) ggX6_beginBatch_X3_begin
theorem dX6_beginBatch_0 : decode cX6_beginBatch 0 = .ok (.aload_n 0, 1) := by decide +kernel
theorem dX6_beginBatch_1 : decode cX6_beginBatch 1 = .ok (.getfield 19, 3) := by decide +kernel
theorem dX6_beginBatch_4 : decode cX6_beginBatch 4 = .ok (.getfield 77, 3) := by decide +kernel
theorem dX6_beginBatch_7 : decode cX6_beginBatch 7 = .ok (.bipush 10, 2) := by decide +kernel
theorem dX6_beginBatch_9 : decode cX6_beginBatch 9 = .ok (.if_icmp .lt 13, 3) := by decide +kernel
theorem dX6_beginBatch_12 : decode cX6_beginBatch 12 = .ok (.new 81, 3) := by decide +kernel
theorem dX6_beginBatch_15 : decode cX6_beginBatch 15 = .ok (.dup, 1) := by decide +kernel
theorem dX6_beginBatch_16 : decode cX6_beginBatch 16 = .ok (.ldc 83, 2) := by decide +kernel
theorem dX6_beginBatch_18 : decode cX6_beginBatch 18 = .ok (.invokespecial 85, 3) := by decide +kernel
theorem dX6_beginBatch_21 : decode cX6_beginBatch 21 = .ok (.athrow, 1) := by decide +kernel
theorem dX6_beginBatch_22 : decode cX6_beginBatch 22 = .ok (.aload_n 0, 1) := by decide +kernel
theorem dX6_beginBatch_23 : decode cX6_beginBatch 23 = .ok (.getfield 19, 3) := by decide +kernel
theorem dX6_beginBatch_26 : decode cX6_beginBatch 26 = .ok (.invokevirtual 86, 3) := by decide +kernel
theorem dX6_beginBatch_29 : decode cX6_beginBatch 29 = .ok (.ireturn, 1) := by decide +kernel
set_option maxRecDepth 20000 in
theorem ggX6_key_X6_needIndex : GoodIn wsX6_key wsX6_needIndex := goodIn_ca (goodIn_r _ [5, 6, 7] (by decide +kernel) (by decide +kernel)) (goodIn_sub (fun _ h => List.mem_cons_of_mem _ (List.mem_append_left _ (List.mem_append_right _ h))) (by decide +kernel))
set_option maxRecDepth 20000 in
theorem gX6_key_X6_needIndex : GoodIn wsX6_key (va_wsS RX6 40 yX6_needIndex wsX6_needIndex) := goodIn_app (goodIn_of _ (by decide +kernel)) ggX6_key_X6_needIndex
set_option maxRecDepth 20000 in
theorem ggX6_key_X6_needValue : GoodIn wsX6_key wsX6_needValue := goodIn_ca (goodIn_r _ [10, 11, 12] (by decide +kernel) (by decide +kernel)) (goodIn_sub (fun _ h => List.mem_cons_of_mem _ (List.mem_append_right _ h)) (by decide +kernel))
set_option maxRecDepth 20000 in
theorem gX6_key_X6_needValue : GoodIn wsX6_key (va_wsS RX6 44 yX6_needValue wsX6_needValue) := goodIn_app (goodIn_of _ (by decide +kernel)) ggX6_key_X6_needValue
set_option maxRecDepth 20000 in
theorem ggX6_key_X1_get : GoodIn wsX6_key wsX1_get := goodIn_r _ [17, 18, 19, 20, 37, 38, 39] (by decide +kernel) (by decide +kernel)
set_option maxRecDepth 20000 in
theorem gX6_key_X1_get : GoodIn wsX6_key (wsV RX6 97 RX1 yX1_get wsX1_get) := goodIn_app (goodIn_of _ (by decide +kernel)) ggX6_key_X1_get
set_option maxRecDepth 20000 in
theorem ggX6_key_X1_set : GoodIn wsX6_key wsX1_set := goodIn_r _ [24, 18, 19, 20, 37, 38, 39] (by decide +kernel) (by decide +kernel)
set_option maxRecDepth 20000 in
theorem gX6_key_X1_set : GoodIn wsX6_key (wsV RX6 102 RX1 yX1_set wsX1_set) := goodIn_app (goodIn_of _ (by decide +kernel)) ggX6_key_X1_set
theorem dX6_key_0 : decode cX6_key 0 = .ok (.iload_n 1, 1) := by decide +kernel
theorem dX6_key_1 : decode cX6_key 1 = .ok (.iconst 3, 1) := by decide +kernel
theorem dX6_key_2 : decode cX6_key 2 = .ok (.invokestatic 40, 3) := by decide +kernel
theorem dX6_key_5 : decode cX6_key 5 = .ok (.iload_n 2, 1) := by decide +kernel
theorem dX6_key_6 : decode cX6_key 6 = .ok (.iconst (-1), 1) := by decide +kernel
theorem dX6_key_7 : decode cX6_key 7 = .ok (.bipush 50, 2) := by decide +kernel
theorem dX6_key_9 : decode cX6_key 9 = .ok (.invokestatic 44, 3) := by decide +kernel
theorem dX6_key_12 : decode cX6_key 12 = .ok (.aload_n 0, 1) := by decide +kernel
theorem dX6_key_13 : decode cX6_key 13 = .ok (.getfield 19, 3) := by decide +kernel
theorem dX6_key_16 : decode cX6_key 16 = .ok (.getfield 90, 3) := by decide +kernel
theorem dX6_key_19 : decode cX6_key 19 = .ok (.aload_n 0, 1) := by decide +kernel
theorem dX6_key_20 : decode cX6_key 20 = .ok (.getfield 19, 3) := by decide +kernel
theorem dX6_key_23 : decode cX6_key 23 = .ok (.getfield 94, 3) := by decide +kernel
theorem dX6_key_26 : decode cX6_key 26 = .ok (.iload_n 1, 1) := by decide +kernel
theorem dX6_key_27 : decode cX6_key 27 = .ok (.invokevirtual 97, 3) := by decide +kernel
theorem dX6_key_30 : decode cX6_key 30 = .ok (.istore_n 3, 1) := by decide +kernel
theorem dX6_key_31 : decode cX6_key 31 = .ok (.aload_n 0, 1) := by decide +kernel
theorem dX6_key_32 : decode cX6_key 32 = .ok (.getfield 19, 3) := by decide +kernel
theorem dX6_key_35 : decode cX6_key 35 = .ok (.getfield 90, 3) := by decide +kernel
theorem dX6_key_38 : decode cX6_key 38 = .ok (.aload_n 0, 1) := by decide +kernel
theorem dX6_key_39 : decode cX6_key 39 = .ok (.getfield 19, 3) := by decide +kernel
theorem dX6_key_42 : decode cX6_key 42 = .ok (.getfield 94, 3) := by decide +kernel
theorem dX6_key_45 : decode cX6_key 45 = .ok (.iload_n 1, 1) := by decide +kernel
theorem dX6_key_46 : decode cX6_key 46 = .ok (.iload_n 2, 1) := by decide +kernel
theorem dX6_key_47 : decode cX6_key 47 = .ok (.invokevirtual 102, 3) := by decide +kernel
theorem dX6_key_50 : decode cX6_key 50 = .ok (.iload_n 3, 1) := by decide +kernel
theorem dX6_key_51 : decode cX6_key 51 = .ok (.ireturn, 1) := by decide +kernel
set_option maxRecDepth 20000 in
theorem ggX6_field_X6_needIndex : GoodIn wsX6_field wsX6_needIndex := goodIn_ca (goodIn_r _ [5, 6, 7] (by decide +kernel) (by decide +kernel)) (goodIn_sub (fun _ h => List.mem_cons_of_mem _ (List.mem_append_left _ (List.mem_append_right _ h))) (by decide +kernel))
set_option maxRecDepth 20000 in
theorem gX6_field_X6_needIndex : GoodIn wsX6_field (va_wsS RX6 40 yX6_needIndex wsX6_needIndex) := goodIn_app (goodIn_of _ (by decide +kernel)) ggX6_field_X6_needIndex
set_option maxRecDepth 20000 in
theorem ggX6_field_X6_needValue : GoodIn wsX6_field wsX6_needValue := goodIn_ca (goodIn_r _ [10, 11, 12] (by decide +kernel) (by decide +kernel)) (goodIn_sub (fun _ h => List.mem_cons_of_mem _ (List.mem_append_right _ h)) (by decide +kernel))
set_option maxRecDepth 20000 in
theorem gX6_field_X6_needValue : GoodIn wsX6_field (va_wsS RX6 44 yX6_needValue wsX6_needValue) := goodIn_app (goodIn_of _ (by decide +kernel)) ggX6_field_X6_needValue
set_option maxRecDepth 20000 in
theorem ggX6_field_X1_get : GoodIn wsX6_field wsX1_get := goodIn_r _ [17, 18, 19, 20, 37, 38, 39] (by decide +kernel) (by decide +kernel)
set_option maxRecDepth 20000 in
theorem gX6_field_X1_get : GoodIn wsX6_field (wsV RX6 97 RX1 yX1_get wsX1_get) := goodIn_app (goodIn_of _ (by decide +kernel)) ggX6_field_X1_get
set_option maxRecDepth 20000 in
theorem ggX6_field_X1_set : GoodIn wsX6_field wsX1_set := goodIn_r _ [24, 18, 19, 20, 37, 38, 39] (by decide +kernel) (by decide +kernel)
set_option maxRecDepth 20000 in
theorem gX6_field_X1_set : GoodIn wsX6_field (wsV RX6 102 RX1 yX1_set wsX1_set) := goodIn_app (goodIn_of _ (by decide +kernel)) ggX6_field_X1_set
theorem dX6_field_0 : decode cX6_field 0 = .ok (.iload_n 1, 1) := by decide +kernel
theorem dX6_field_1 : decode cX6_field 1 = .ok (.iconst 4, 1) := by decide +kernel
theorem dX6_field_2 : decode cX6_field 2 = .ok (.invokestatic 40, 3) := by decide +kernel
theorem dX6_field_5 : decode cX6_field 5 = .ok (.iload_n 2, 1) := by decide +kernel
theorem dX6_field_6 : decode cX6_field 6 = .ok (.iconst (-1), 1) := by decide +kernel
theorem dX6_field_7 : decode cX6_field 7 = .ok (.bipush 100, 2) := by decide +kernel
theorem dX6_field_9 : decode cX6_field 9 = .ok (.invokestatic 44, 3) := by decide +kernel
theorem dX6_field_12 : decode cX6_field 12 = .ok (.aload_n 0, 1) := by decide +kernel
theorem dX6_field_13 : decode cX6_field 13 = .ok (.getfield 19, 3) := by decide +kernel
theorem dX6_field_16 : decode cX6_field 16 = .ok (.getfield 104, 3) := by decide +kernel
theorem dX6_field_19 : decode cX6_field 19 = .ok (.aload_n 0, 1) := by decide +kernel
theorem dX6_field_20 : decode cX6_field 20 = .ok (.getfield 19, 3) := by decide +kernel
theorem dX6_field_23 : decode cX6_field 23 = .ok (.getfield 94, 3) := by decide +kernel
theorem dX6_field_26 : decode cX6_field 26 = .ok (.iload_n 1, 1) := by decide +kernel
theorem dX6_field_27 : decode cX6_field 27 = .ok (.invokevirtual 97, 3) := by decide +kernel
theorem dX6_field_30 : decode cX6_field 30 = .ok (.istore_n 3, 1) := by decide +kernel
theorem dX6_field_31 : decode cX6_field 31 = .ok (.aload_n 0, 1) := by decide +kernel
theorem dX6_field_32 : decode cX6_field 32 = .ok (.getfield 19, 3) := by decide +kernel
theorem dX6_field_35 : decode cX6_field 35 = .ok (.getfield 104, 3) := by decide +kernel
theorem dX6_field_38 : decode cX6_field 38 = .ok (.aload_n 0, 1) := by decide +kernel
theorem dX6_field_39 : decode cX6_field 39 = .ok (.getfield 19, 3) := by decide +kernel
theorem dX6_field_42 : decode cX6_field 42 = .ok (.getfield 94, 3) := by decide +kernel
theorem dX6_field_45 : decode cX6_field 45 = .ok (.iload_n 1, 1) := by decide +kernel
theorem dX6_field_46 : decode cX6_field 46 = .ok (.iload_n 2, 1) := by decide +kernel
theorem dX6_field_47 : decode cX6_field 47 = .ok (.invokevirtual 102, 3) := by decide +kernel
theorem dX6_field_50 : decode cX6_field 50 = .ok (.iload_n 3, 1) := by decide +kernel
theorem dX6_field_51 : decode cX6_field 51 = .ok (.ireturn, 1) := by decide +kernel
set_option maxRecDepth 20000 in
theorem ggX6_load_X6_needIndex : GoodIn wsX6_load wsX6_needIndex := goodIn_ca (goodIn_r _ [10, 11, 12] (by decide +kernel) (by decide +kernel)) (goodIn_sub (fun _ h => List.mem_cons_of_mem _ (List.mem_append_right _ h)) (by decide +kernel))
set_option maxRecDepth 20000 in
theorem gX6_load_X6_needIndex : GoodIn wsX6_load (va_wsS RX6 40 yX6_needIndex wsX6_needIndex) := goodIn_app (goodIn_of _ (by decide +kernel)) ggX6_load_X6_needIndex
set_option maxRecDepth 20000 in
theorem ggX6_load_X3_close : GoodIn wsX6_load wsX3_close := goodIn_r _ [17, 18, 19, 20, 21, 22, 23, 24, 25, 26, 27, 103, 104, 105, 106, 107, 108, 109, 110] (by decide +kernel) (by decide +kernel)
set_option maxRecDepth 20000 in
theorem gX6_load_X3_close : GoodIn wsX6_load (wsV RX6 111 RX3 yX3_close wsX3_close) := goodIn_app (goodIn_of _ (by decide +kernel)) ggX6_load_X3_close
set_option maxRecDepth 20000 in
theorem ggX6_load_X2_append : GoodIn wsX6_load wsX2_append := goodIn_r _ [32, 33, 34, 35, 36, 37, 38, 39, 23, 24, 25, 26, 27, 111, 112, 113, 114, 115, 116, 110] (by decide +kernel) (by decide +kernel)
set_option maxRecDepth 20000 in
theorem gX6_load_X2_append : GoodIn wsX6_load (wsV RX6 114 RX2 yX2_append wsX2_append) := goodIn_app (goodIn_of _ (by decide +kernel)) ggX6_load_X2_append
set_option maxRecDepth 20000 in
theorem ggX6_load_X0_take : GoodIn wsX6_load wsX0_take := goodIn_r _ [44, 45, 46, 47, 48, 49, 16, 50, 51, 20, 52, 53, 54, 25, 55, 27, 56, 57, 58, 43, 59, 60, 61, 62, 63, 64, 65, 66, 67, 68, 69, 70, 71, 72, 73, 74, 23, 24, 26, 75, 76, 77, 78, 79, 80, 81, 82, 83, 84, 85, 86, 87, 88, 89, 90, 91, 92, 93, 94, 95, 96, 97, 117, 118, 119, 120, 121, 122, 123, 103, 104, 105, 106, 107, 108, 109, 110, 124, 125, 126, 127, 128, 129] (by decide +kernel) (by decide +kernel)
set_option maxRecDepth 20000 in
theorem gX6_load_X0_take : GoodIn wsX6_load (wsV RX6 118 RX0 yX0_take wsX0_take) := goodIn_app (goodIn_of _ (by decide +kernel)) ggX6_load_X0_take
theorem dX6_load_0 : decode cX6_load 0 = .ok (.iload_n 1, 1) := by decide +kernel
theorem dX6_load_1 : decode cX6_load 1 = .ok (.iconst 5, 1) := by decide +kernel
theorem dX6_load_2 : decode cX6_load 2 = .ok (.invokestatic 40, 3) := by decide +kernel
theorem dX6_load_5 : decode cX6_load 5 = .ok (.aload_n 0, 1) := by decide +kernel
theorem dX6_load_6 : decode cX6_load 6 = .ok (.getfield 19, 3) := by decide +kernel
theorem dX6_load_9 : decode cX6_load 9 = .ok (.getfield 77, 3) := by decide +kernel
theorem dX6_load_12 : decode cX6_load 12 = .ok (.ifCond .ne 13, 3) := by decide +kernel
theorem dX6_load_15 : decode cX6_load 15 = .ok (.new 81, 3) := by decide +kernel
theorem dX6_load_18 : decode cX6_load 18 = .ok (.dup, 1) := by decide +kernel
theorem dX6_load_19 : decode cX6_load 19 = .ok (.ldc 107, 2) := by decide +kernel
theorem dX6_load_21 : decode cX6_load 21 = .ok (.invokespecial 85, 3) := by decide +kernel
theorem dX6_load_24 : decode cX6_load 24 = .ok (.athrow, 1) := by decide +kernel
theorem dX6_load_25 : decode cX6_load 25 = .ok (.aload_n 0, 1) := by decide +kernel
theorem dX6_load_26 : decode cX6_load 26 = .ok (.getfield 19, 3) := by decide +kernel
theorem dX6_load_29 : decode cX6_load 29 = .ok (.getfield 94, 3) := by decide +kernel
theorem dX6_load_32 : decode cX6_load 32 = .ok (.bipush 80, 2) := by decide +kernel
theorem dX6_load_34 : decode cX6_load 34 = .ok (.if_icmp .lt 13, 3) := by decide +kernel
theorem dX6_load_37 : decode cX6_load 37 = .ok (.new 81, 3) := by decide +kernel
theorem dX6_load_40 : decode cX6_load 40 = .ok (.dup, 1) := by decide +kernel
theorem dX6_load_41 : decode cX6_load 41 = .ok (.ldc 109, 2) := by decide +kernel
theorem dX6_load_43 : decode cX6_load 43 = .ok (.invokespecial 85, 3) := by decide +kernel
theorem dX6_load_46 : decode cX6_load 46 = .ok (.athrow, 1) := by decide +kernel
theorem dX6_load_47 : decode cX6_load 47 = .ok (.aload_n 0, 1) := by decide +kernel
theorem dX6_load_48 : decode cX6_load 48 = .ok (.getfield 19, 3) := by decide +kernel
theorem dX6_load_51 : decode cX6_load 51 = .ok (.iload_n 1, 1) := by decide +kernel
theorem dX6_load_52 : decode cX6_load 52 = .ok (.invokevirtual 111, 3) := by decide +kernel
theorem dX6_load_55 : decode cX6_load 55 = .ok (.istore_n 2, 1) := by decide +kernel
theorem dX6_load_56 : decode cX6_load 56 = .ok (.aload_n 0, 1) := by decide +kernel
theorem dX6_load_57 : decode cX6_load 57 = .ok (.getfield 26, 3) := by decide +kernel
theorem dX6_load_60 : decode cX6_load 60 = .ok (.iconst 0, 1) := by decide +kernel
theorem dX6_load_61 : decode cX6_load 61 = .ok (.iload_n 2, 1) := by decide +kernel
theorem dX6_load_62 : decode cX6_load 62 = .ok (.iconst (-1), 1) := by decide +kernel
theorem dX6_load_63 : decode cX6_load 63 = .ok (.iconst (-1), 1) := by decide +kernel
theorem dX6_load_64 : decode cX6_load 64 = .ok (.invokevirtual 114, 3) := by decide +kernel
theorem dX6_load_67 : decode cX6_load 67 = .ok (.aload_n 0, 1) := by decide +kernel
theorem dX6_load_68 : decode cX6_load 68 = .ok (.getfield 33, 3) := by decide +kernel
theorem dX6_load_71 : decode cX6_load 71 = .ok (.aload_n 0, 1) := by decide +kernel
theorem dX6_load_72 : decode cX6_load 72 = .ok (.getfield 10, 3) := by decide +kernel
theorem dX6_load_75 : decode cX6_load 75 = .ok (.aload_n 0, 1) := by decide +kernel
theorem dX6_load_76 : decode cX6_load 76 = .ok (.getfield 19, 3) := by decide +kernel
theorem dX6_load_79 : decode cX6_load 79 = .ok (.iload_n 2, 1) := by decide +kernel
theorem dX6_load_80 : decode cX6_load 80 = .ok (.invokevirtual 118, 3) := by decide +kernel
theorem dX6_load_83 : decode cX6_load 83 = .ok (.ireturn, 1) := by decide +kernel
set_option maxRecDepth 20000 in
theorem ggX6_protect_X6_needRecord : GoodIn wsX6_protect wsX6_needRecord := goodIn_ca (goodIn_r _ [7, 8, 9, 2, 10, 11, 12, 13, 14, 15, 16, 17, 18, 19, 20, 21, 68, 69, 70, 71, 72, 73, 74, 75, 76, 77, 78, 79, 80] (by decide +kernel) (by decide +kernel)) (goodIn_sub (fun _ h => List.mem_cons_of_mem _ (List.mem_append_left _ (List.mem_append_right _ h))) (by decide +kernel))
set_option maxRecDepth 20000 in
theorem gX6_protect_X6_needRecord : GoodIn wsX6_protect (wsV RX6 122 RX6 yX6_needRecord wsX6_needRecord) := goodIn_app (goodIn_of _ (by decide +kernel)) ggX6_protect_X6_needRecord
set_option maxRecDepth 20000 in
theorem ggX6_protect_X6_needIndex : GoodIn wsX6_protect wsX6_needIndex := goodIn_ca (goodIn_r _ [24, 8, 9] (by decide +kernel) (by decide +kernel)) (goodIn_sub (fun _ h => List.mem_cons_of_mem _ (List.mem_append_left _ (List.mem_append_right _ h))) (by decide +kernel))
set_option maxRecDepth 20000 in
theorem gX6_protect_X6_needIndex : GoodIn wsX6_protect (va_wsS RX6 40 yX6_needIndex wsX6_needIndex) := goodIn_app (goodIn_of _ (by decide +kernel)) ggX6_protect_X6_needIndex
set_option maxRecDepth 20000 in
theorem ggX6_protect_X6_needActLeft : GoodIn wsX6_protect wsX6_needActLeft := goodIn_ca (goodIn_r _ [28, 29, 30, 1, 31, 32, 33, 34, 35, 36, 37, 68, 69, 70, 71, 72, 81, 82, 83, 84, 85, 86] (by decide +kernel) (by decide +kernel)) (goodIn_sub (fun _ h => List.mem_cons_of_mem _ (List.mem_append_right _ h)) (by decide +kernel))
set_option maxRecDepth 20000 in
theorem gX6_protect_X6_needActLeft : GoodIn wsX6_protect (wsV RX6 126 RX6 yX6_needActLeft wsX6_needActLeft) := goodIn_app (goodIn_of _ (by decide +kernel)) ggX6_protect_X6_needActLeft
set_option maxRecDepth 20000 in
theorem ggX6_protect_X2_append : GoodIn wsX6_protect wsX2_append := goodIn_r _ [41, 42, 36, 43, 44, 45, 37, 46, 47, 48, 19, 49, 21, 81, 82, 83, 84, 85, 86, 80] (by decide +kernel) (by decide +kernel)
set_option maxRecDepth 20000 in
theorem gX6_protect_X2_append : GoodIn wsX6_protect (wsV RX6 114 RX2 yX2_append wsX2_append) := goodIn_app (goodIn_of _ (by decide +kernel)) ggX6_protect_X2_append
set_option maxRecDepth 20000 in
theorem ggX6_protect_X0_guard : GoodIn wsX6_protect wsX0_guard := goodIn_r _ [53, 54, 55, 11, 12, 13, 14, 15, 16, 17, 18, 19, 20, 21, 56, 57, 58, 59, 60, 61, 62, 63, 64, 65, 66, 67, 73, 74, 75, 76, 77, 78, 79, 80, 87, 88, 89] (by decide +kernel) (by decide +kernel)
set_option maxRecDepth 20000 in
theorem gX6_protect_X0_guard : GoodIn wsX6_protect (wsV RX6 129 RX0 yX0_guard wsX0_guard) := goodIn_app (goodIn_of _ (by decide +kernel)) ggX6_protect_X0_guard
theorem dX6_protect_0 : decode cX6_protect 0 = .ok (.aload_n 0, 1) := by decide +kernel
theorem dX6_protect_1 : decode cX6_protect 1 = .ok (.iload_n 1, 1) := by decide +kernel
theorem dX6_protect_2 : decode cX6_protect 2 = .ok (.invokevirtual 122, 3) := by decide +kernel
theorem dX6_protect_5 : decode cX6_protect 5 = .ok (.iload_n 2, 1) := by decide +kernel
theorem dX6_protect_6 : decode cX6_protect 6 = .ok (.iconst 4, 1) := by decide +kernel
theorem dX6_protect_7 : decode cX6_protect 7 = .ok (.invokestatic 40, 3) := by decide +kernel
theorem dX6_protect_10 : decode cX6_protect 10 = .ok (.aload_n 0, 1) := by decide +kernel
theorem dX6_protect_11 : decode cX6_protect 11 = .ok (.invokevirtual 126, 3) := by decide +kernel
theorem dX6_protect_14 : decode cX6_protect 14 = .ok (.iload_n 3, 1) := by decide +kernel
theorem dX6_protect_15 : decode cX6_protect 15 = .ok (.ifCond .eq 7, 3) := by decide +kernel
theorem dX6_protect_18 : decode cX6_protect 18 = .ok (.iconst 1, 1) := by decide +kernel
theorem dX6_protect_19 : decode cX6_protect 19 = .ok (.goto 4, 3) := by decide +kernel
theorem dX6_protect_22 : decode cX6_protect 22 = .ok (.iconst 0, 1) := by decide +kernel
theorem dX6_protect_23 : decode cX6_protect 23 = .ok (.istore 4, 2) := by decide +kernel
theorem dX6_protect_25 : decode cX6_protect 25 = .ok (.aload_n 0, 1) := by decide +kernel
theorem dX6_protect_26 : decode cX6_protect 26 = .ok (.getfield 26, 3) := by decide +kernel
theorem dX6_protect_29 : decode cX6_protect 29 = .ok (.iconst 1, 1) := by decide +kernel
theorem dX6_protect_30 : decode cX6_protect 30 = .ok (.iload_n 1, 1) := by decide +kernel
theorem dX6_protect_31 : decode cX6_protect 31 = .ok (.iload_n 2, 1) := by decide +kernel
theorem dX6_protect_32 : decode cX6_protect 32 = .ok (.iload 4, 2) := by decide +kernel
theorem dX6_protect_34 : decode cX6_protect 34 = .ok (.invokevirtual 114, 3) := by decide +kernel
theorem dX6_protect_37 : decode cX6_protect 37 = .ok (.aload_n 0, 1) := by decide +kernel
theorem dX6_protect_38 : decode cX6_protect 38 = .ok (.getfield 33, 3) := by decide +kernel
theorem dX6_protect_41 : decode cX6_protect 41 = .ok (.iload_n 1, 1) := by decide +kernel
theorem dX6_protect_42 : decode cX6_protect 42 = .ok (.iload_n 2, 1) := by decide +kernel
theorem dX6_protect_43 : decode cX6_protect 43 = .ok (.iload 4, 2) := by decide +kernel
theorem dX6_protect_45 : decode cX6_protect 45 = .ok (.invokevirtual 129, 3) := by decide +kernel
theorem dX6_protect_48 : decode cX6_protect 48 = .ok (.iconst 1, 1) := by decide +kernel
theorem dX6_protect_49 : decode cX6_protect 49 = .ok (.if_icmp .ne 7, 3) := by decide +kernel
theorem dX6_protect_52 : decode cX6_protect 52 = .ok (.iconst 1, 1) := by decide +kernel
theorem dX6_protect_53 : decode cX6_protect 53 = .ok (.goto 4, 3) := by decide +kernel
theorem dX6_protect_56 : decode cX6_protect 56 = .ok (.iconst 0, 1) := by decide +kernel
theorem dX6_protect_57 : decode cX6_protect 57 = .ok (.ireturn, 1) := by decide +kernel
set_option maxRecDepth 20000 in
theorem ggX6_hold_X6_needRecord : GoodIn wsX6_hold wsX6_needRecord := goodIn_ca (goodIn_r _ [7, 8, 9, 2, 10, 11, 12, 13, 14, 15, 16, 17, 18, 19, 20, 21, 54, 55, 56, 57, 58, 59, 60, 61, 62, 63, 64, 65, 66] (by decide +kernel) (by decide +kernel)) (goodIn_sub (fun _ h => List.mem_cons_of_mem _ (List.mem_append_left _ (List.mem_append_right _ h))) (by decide +kernel))
set_option maxRecDepth 20000 in
theorem gX6_hold_X6_needRecord : GoodIn wsX6_hold (wsV RX6 122 RX6 yX6_needRecord wsX6_needRecord) := goodIn_app (goodIn_of _ (by decide +kernel)) ggX6_hold_X6_needRecord
set_option maxRecDepth 20000 in
theorem ggX6_hold_X6_needActLeft : GoodIn wsX6_hold wsX6_needActLeft := goodIn_ca (goodIn_r _ [25, 26, 27, 1, 28, 29, 30, 31, 32, 33, 34, 54, 55, 56, 57, 58, 67, 68, 69, 70, 71, 72] (by decide +kernel) (by decide +kernel)) (goodIn_sub (fun _ h => List.mem_cons_of_mem _ (List.mem_append_right _ h)) (by decide +kernel))
set_option maxRecDepth 20000 in
theorem gX6_hold_X6_needActLeft : GoodIn wsX6_hold (wsV RX6 126 RX6 yX6_needActLeft wsX6_needActLeft) := goodIn_app (goodIn_of _ (by decide +kernel)) ggX6_hold_X6_needActLeft
set_option maxRecDepth 20000 in
theorem ggX6_hold_X2_append : GoodIn wsX6_hold wsX2_append := goodIn_r _ [38, 39, 33, 40, 41, 42, 34, 43, 44, 45, 19, 46, 21, 67, 68, 69, 70, 71, 72, 66] (by decide +kernel) (by decide +kernel)
set_option maxRecDepth 20000 in
theorem gX6_hold_X2_append : GoodIn wsX6_hold (wsV RX6 114 RX2 yX2_append wsX2_append) := goodIn_app (goodIn_of _ (by decide +kernel)) ggX6_hold_X2_append
set_option maxRecDepth 20000 in
theorem ggX6_hold_X0_addHoldings : GoodIn wsX6_hold wsX0_addHoldings := goodIn_r _ [50, 51, 52, 11, 12, 13, 14, 15, 16, 17, 18, 19, 20, 21, 53, 44, 45, 46, 59, 60, 61, 62, 63, 64, 65, 66] (by decide +kernel) (by decide +kernel)
set_option maxRecDepth 20000 in
theorem gX6_hold_X0_addHoldings : GoodIn wsX6_hold (wsV RX6 133 RX0 yX0_addHoldings wsX0_addHoldings) := goodIn_app (goodIn_of _ (by decide +kernel)) ggX6_hold_X0_addHoldings
theorem dX6_hold_0 : decode cX6_hold 0 = .ok (.aload_n 0, 1) := by decide +kernel
theorem dX6_hold_1 : decode cX6_hold 1 = .ok (.iload_n 1, 1) := by decide +kernel
theorem dX6_hold_2 : decode cX6_hold 2 = .ok (.invokevirtual 122, 3) := by decide +kernel
theorem dX6_hold_5 : decode cX6_hold 5 = .ok (.aload_n 0, 1) := by decide +kernel
theorem dX6_hold_6 : decode cX6_hold 6 = .ok (.invokevirtual 126, 3) := by decide +kernel
theorem dX6_hold_9 : decode cX6_hold 9 = .ok (.aload_n 0, 1) := by decide +kernel
theorem dX6_hold_10 : decode cX6_hold 10 = .ok (.getfield 26, 3) := by decide +kernel
theorem dX6_hold_13 : decode cX6_hold 13 = .ok (.iconst 2, 1) := by decide +kernel
theorem dX6_hold_14 : decode cX6_hold 14 = .ok (.iload_n 1, 1) := by decide +kernel
theorem dX6_hold_15 : decode cX6_hold 15 = .ok (.iconst (-1), 1) := by decide +kernel
theorem dX6_hold_16 : decode cX6_hold 16 = .ok (.iconst (-1), 1) := by decide +kernel
theorem dX6_hold_17 : decode cX6_hold 17 = .ok (.invokevirtual 114, 3) := by decide +kernel
theorem dX6_hold_20 : decode cX6_hold 20 = .ok (.aload_n 0, 1) := by decide +kernel
theorem dX6_hold_21 : decode cX6_hold 21 = .ok (.getfield 33, 3) := by decide +kernel
theorem dX6_hold_24 : decode cX6_hold 24 = .ok (.iload_n 1, 1) := by decide +kernel
theorem dX6_hold_25 : decode cX6_hold 25 = .ok (.iconst 1, 1) := by decide +kernel
theorem dX6_hold_26 : decode cX6_hold 26 = .ok (.invokevirtual 133, 3) := by decide +kernel
theorem dX6_hold_29 : decode cX6_hold 29 = .ok (.ireturn, 1) := by decide +kernel
set_option maxRecDepth 20000 in
theorem ggX6_merge_X6_needRecord : GoodIn wsX6_merge wsX6_needRecord := goodIn_ca (goodIn_r _ [9, 10, 11, 4, 12, 13, 14, 15, 16, 17, 18, 19, 20, 21, 22, 23, 75, 76, 77, 78, 79, 80, 81, 82, 83, 84, 85, 86, 87] (by decide +kernel) (by decide +kernel)) (goodIn_sub (fun _ h => List.mem_cons_of_mem _ (List.mem_append_left _ (List.mem_append_right _ h))) (by decide +kernel))
set_option maxRecDepth 20000 in
theorem gX6_merge_X6_needRecord : GoodIn wsX6_merge (wsV RX6 122 RX6 yX6_needRecord wsX6_needRecord) := goodIn_app (goodIn_of _ (by decide +kernel)) ggX6_merge_X6_needRecord
set_option maxRecDepth 20000 in
theorem ggX6_merge_X6_needActLeft : GoodIn wsX6_merge wsX6_needActLeft := goodIn_ca (goodIn_r _ [27, 28, 29, 3, 30, 31, 32, 33, 34, 35, 36, 75, 76, 77, 78, 79, 88, 89, 90, 91, 92, 93] (by decide +kernel) (by decide +kernel)) (goodIn_sub (fun _ h => List.mem_cons_of_mem _ (List.mem_append_right _ h)) (by decide +kernel))
set_option maxRecDepth 20000 in
theorem gX6_merge_X6_needActLeft : GoodIn wsX6_merge (wsV RX6 126 RX6 yX6_needActLeft wsX6_needActLeft) := goodIn_app (goodIn_of _ (by decide +kernel)) ggX6_merge_X6_needActLeft
set_option maxRecDepth 20000 in
theorem ggX6_merge_X2_append : GoodIn wsX6_merge wsX2_append := goodIn_r _ [40, 41, 35, 42, 43, 44, 36, 45, 46, 47, 21, 48, 23, 88, 89, 90, 91, 92, 93, 87] (by decide +kernel) (by decide +kernel)
set_option maxRecDepth 20000 in
theorem gX6_merge_X2_append : GoodIn wsX6_merge (wsV RX6 114 RX2 yX2_append wsX2_append) := goodIn_app (goodIn_of _ (by decide +kernel)) ggX6_merge_X2_append
set_option maxRecDepth 20000 in
theorem ggX6_merge_X0_join : GoodIn wsX6_merge wsX0_join := goodIn_r _ [52, 53, 54, 55, 17, 56, 57, 13, 14, 15, 16, 18, 19, 20, 21, 22, 23, 58, 59, 60, 61, 62, 63, 64, 65, 66, 67, 68, 69, 70, 46, 47, 48, 71, 72, 73, 74, 80, 81, 82, 83, 84, 85, 86, 87, 94, 95, 96] (by decide +kernel) (by decide +kernel)
set_option maxRecDepth 20000 in
theorem gX6_merge_X0_join : GoodIn wsX6_merge (wsV RX6 138 RX0 yX0_join wsX0_join) := goodIn_app (goodIn_of _ (by decide +kernel)) ggX6_merge_X0_join
theorem dX6_merge_0 : decode cX6_merge 0 = .ok (.aload_n 0, 1) := by decide +kernel
theorem dX6_merge_1 : decode cX6_merge 1 = .ok (.iload_n 1, 1) := by decide +kernel
theorem dX6_merge_2 : decode cX6_merge 2 = .ok (.invokevirtual 122, 3) := by decide +kernel
theorem dX6_merge_5 : decode cX6_merge 5 = .ok (.aload_n 0, 1) := by decide +kernel
theorem dX6_merge_6 : decode cX6_merge 6 = .ok (.iload_n 2, 1) := by decide +kernel
theorem dX6_merge_7 : decode cX6_merge 7 = .ok (.invokevirtual 122, 3) := by decide +kernel
theorem dX6_merge_10 : decode cX6_merge 10 = .ok (.iload_n 1, 1) := by decide +kernel
theorem dX6_merge_11 : decode cX6_merge 11 = .ok (.iload_n 2, 1) := by decide +kernel
theorem dX6_merge_12 : decode cX6_merge 12 = .ok (.if_icmp .ne 13, 3) := by decide +kernel
theorem dX6_merge_15 : decode cX6_merge 15 = .ok (.new 67, 3) := by decide +kernel
theorem dX6_merge_18 : decode cX6_merge 18 = .ok (.dup, 1) := by decide +kernel
theorem dX6_merge_19 : decode cX6_merge 19 = .ok (.ldc 136, 2) := by decide +kernel
theorem dX6_merge_21 : decode cX6_merge 21 = .ok (.invokespecial 71, 3) := by decide +kernel
theorem dX6_merge_24 : decode cX6_merge 24 = .ok (.athrow, 1) := by decide +kernel
theorem dX6_merge_25 : decode cX6_merge 25 = .ok (.aload_n 0, 1) := by decide +kernel
theorem dX6_merge_26 : decode cX6_merge 26 = .ok (.invokevirtual 126, 3) := by decide +kernel
theorem dX6_merge_29 : decode cX6_merge 29 = .ok (.aload_n 0, 1) := by decide +kernel
theorem dX6_merge_30 : decode cX6_merge 30 = .ok (.getfield 26, 3) := by decide +kernel
theorem dX6_merge_33 : decode cX6_merge 33 = .ok (.iconst 3, 1) := by decide +kernel
theorem dX6_merge_34 : decode cX6_merge 34 = .ok (.iload_n 1, 1) := by decide +kernel
theorem dX6_merge_35 : decode cX6_merge 35 = .ok (.iload_n 2, 1) := by decide +kernel
theorem dX6_merge_36 : decode cX6_merge 36 = .ok (.iconst (-1), 1) := by decide +kernel
theorem dX6_merge_37 : decode cX6_merge 37 = .ok (.invokevirtual 114, 3) := by decide +kernel
theorem dX6_merge_40 : decode cX6_merge 40 = .ok (.aload_n 0, 1) := by decide +kernel
theorem dX6_merge_41 : decode cX6_merge 41 = .ok (.getfield 33, 3) := by decide +kernel
theorem dX6_merge_44 : decode cX6_merge 44 = .ok (.iload_n 1, 1) := by decide +kernel
theorem dX6_merge_45 : decode cX6_merge 45 = .ok (.iload_n 2, 1) := by decide +kernel
theorem dX6_merge_46 : decode cX6_merge 46 = .ok (.invokevirtual 138, 3) := by decide +kernel
theorem dX6_merge_49 : decode cX6_merge 49 = .ok (.ireturn, 1) := by decide +kernel
set_option maxRecDepth 20000 in
theorem ggX6_undo_X6_needIndex : GoodIn wsX6_undo wsX6_needIndex := goodIn_ca (goodIn_r _ [8, 9, 10] (by decide +kernel) (by decide +kernel)) (goodIn_sub (fun _ h => List.mem_cons_of_mem _ (List.mem_append_right _ h)) (by decide +kernel))
set_option maxRecDepth 20000 in
theorem gX6_undo_X6_needIndex : GoodIn wsX6_undo (va_wsS RX6 40 yX6_needIndex wsX6_needIndex) := goodIn_app (goodIn_of _ (by decide +kernel)) ggX6_undo_X6_needIndex
set_option maxRecDepth 20000 in
theorem ggX6_undo_X4_get : GoodIn wsX6_undo wsX4_get := goodIn_r _ [15, 16, 139] (by decide +kernel) (by decide +kernel)
set_option maxRecDepth 20000 in
theorem gX6_undo_X4_get : GoodIn wsX6_undo (wsV RX6 55 RX4 yX4_get wsX4_get) := goodIn_app (goodIn_of _ (by decide +kernel)) ggX6_undo_X4_get
set_option maxRecDepth 20000 in
theorem ggX6_undo_X4_set : GoodIn wsX6_undo wsX4_set := goodIn_r _ [20, 16, 139] (by decide +kernel) (by decide +kernel)
set_option maxRecDepth 20000 in
theorem gX6_undo_X4_set : GoodIn wsX6_undo (wsV RX6 61 RX4 yX4_set wsX4_set) := goodIn_app (goodIn_of _ (by decide +kernel)) ggX6_undo_X4_set
set_option maxRecDepth 20000 in
theorem ggX6_undo_X6_doAllAnew : GoodIn wsX6_undo wsX6_doAllAnew := goodIn_r _ [24, 25, 26, 27, 28, 29, 30, 31, 32, 33, 34, 35, 36, 37, 38, 39, 40, 14, 41, 16, 42, 43, 44, 45, 46, 47, 48, 49, 50, 51, 52, 53, 54, 55, 7, 56, 57, 3, 11, 12, 13, 15, 58, 59, 60, 61, 62, 63, 64, 65, 66, 67, 68, 69, 70, 71, 72, 73, 74, 75, 76, 77, 78, 79, 80, 81, 82, 83, 84, 85, 18, 19, 20, 86, 87, 88, 89, 90, 91, 92, 93, 94, 95, 96, 97, 98, 99, 100, 101, 102, 103, 104, 105, 106, 107, 108, 109, 110, 111, 112, 113, 114, 115, 116, 117, 118, 119, 120, 121, 122, 127, 128, 129, 130, 131, 140, 141, 142, 143, 144, 145, 146, 147, 148, 149, 150, 151, 152, 139, 153, 154, 155, 132, 133, 134, 135, 136, 137, 138, 156, 157, 158] (by decide +kernel) (by decide +kernel)
set_option maxRecDepth 20000 in
theorem gX6_undo_X6_doAllAnew : GoodIn wsX6_undo (wsV RX6 146 RX6 yX6_doAllAnew wsX6_doAllAnew) := goodIn_app (goodIn_of _ (by decide +kernel)) ggX6_undo_X6_doAllAnew
set_option maxRecDepth 20000 in
theorem ggX6_undo_X0_count : GoodIn wsX6_undo wsX0_count := goodIn_r _ [126, 110, 111, 112, 29, 113, 31, 74, 12, 13, 14, 15, 16, 146, 147, 148, 149, 150, 151, 152, 139] (by decide +kernel) (by decide +kernel)
set_option maxRecDepth 20000 in
theorem gX6_undo_X0_count : GoodIn wsX6_undo (wsV RX6 150 RX0 yX0_count wsX0_count) := goodIn_app (goodIn_of _ (by decide +kernel)) ggX6_undo_X0_count
theorem dX6_undo_0 : decode cX6_undo 0 = .ok (.iload_n 1, 1) := by decide +kernel
theorem dX6_undo_1 : decode cX6_undo 1 = .ok (.aload_n 0, 1) := by decide +kernel
theorem dX6_undo_2 : decode cX6_undo 2 = .ok (.getfield 19, 3) := by decide +kernel
theorem dX6_undo_5 : decode cX6_undo 5 = .ok (.getfield 77, 3) := by decide +kernel
theorem dX6_undo_8 : decode cX6_undo 8 = .ok (.invokestatic 40, 3) := by decide +kernel
theorem dX6_undo_11 : decode cX6_undo 11 = .ok (.iload_n 2, 1) := by decide +kernel
theorem dX6_undo_12 : decode cX6_undo 12 = .ok (.ifCond .eq 7, 3) := by decide +kernel
theorem dX6_undo_15 : decode cX6_undo 15 = .ok (.iconst 1, 1) := by decide +kernel
theorem dX6_undo_16 : decode cX6_undo 16 = .ok (.goto 4, 3) := by decide +kernel
theorem dX6_undo_19 : decode cX6_undo 19 = .ok (.iconst 0, 1) := by decide +kernel
theorem dX6_undo_20 : decode cX6_undo 20 = .ok (.istore_n 3, 1) := by decide +kernel
theorem dX6_undo_21 : decode cX6_undo 21 = .ok (.aload_n 0, 1) := by decide +kernel
theorem dX6_undo_22 : decode cX6_undo 22 = .ok (.getfield 19, 3) := by decide +kernel
theorem dX6_undo_25 : decode cX6_undo 25 = .ok (.getfield 141, 3) := by decide +kernel
theorem dX6_undo_28 : decode cX6_undo 28 = .ok (.iload_n 1, 1) := by decide +kernel
theorem dX6_undo_29 : decode cX6_undo 29 = .ok (.invokevirtual 55, 3) := by decide +kernel
theorem dX6_undo_32 : decode cX6_undo 32 = .ok (.iload_n 3, 1) := by decide +kernel
theorem dX6_undo_33 : decode cX6_undo 33 = .ok (.if_icmp .ne 13, 3) := by decide +kernel
theorem dX6_undo_36 : decode cX6_undo 36 = .ok (.new 81, 3) := by decide +kernel
theorem dX6_undo_39 : decode cX6_undo 39 = .ok (.dup, 1) := by decide +kernel
theorem dX6_undo_40 : decode cX6_undo 40 = .ok (.ldc 144, 2) := by decide +kernel
theorem dX6_undo_42 : decode cX6_undo 42 = .ok (.invokespecial 85, 3) := by decide +kernel
theorem dX6_undo_45 : decode cX6_undo 45 = .ok (.athrow, 1) := by decide +kernel
theorem dX6_undo_46 : decode cX6_undo 46 = .ok (.aload_n 0, 1) := by decide +kernel
theorem dX6_undo_47 : decode cX6_undo 47 = .ok (.getfield 19, 3) := by decide +kernel
theorem dX6_undo_50 : decode cX6_undo 50 = .ok (.getfield 141, 3) := by decide +kernel
theorem dX6_undo_53 : decode cX6_undo 53 = .ok (.iload_n 1, 1) := by decide +kernel
theorem dX6_undo_54 : decode cX6_undo 54 = .ok (.iload_n 3, 1) := by decide +kernel
theorem dX6_undo_55 : decode cX6_undo 55 = .ok (.invokevirtual 61, 3) := by decide +kernel
theorem dX6_undo_58 : decode cX6_undo 58 = .ok (.aload_n 0, 1) := by decide +kernel
theorem dX6_undo_59 : decode cX6_undo 59 = .ok (.aload_n 0, 1) := by decide +kernel
theorem dX6_undo_60 : decode cX6_undo 60 = .ok (.getfield 33, 3) := by decide +kernel
theorem dX6_undo_63 : decode cX6_undo 63 = .ok (.invokevirtual 146, 3) := by decide +kernel
theorem dX6_undo_66 : decode cX6_undo 66 = .ok (.aload_n 0, 1) := by decide +kernel
theorem dX6_undo_67 : decode cX6_undo 67 = .ok (.getfield 33, 3) := by decide +kernel
theorem dX6_undo_70 : decode cX6_undo 70 = .ok (.invokevirtual 150, 3) := by decide +kernel
theorem dX6_undo_73 : decode cX6_undo 73 = .ok (.ireturn, 1) := by decide +kernel
theorem dX6_batches_0 : decode cX6_batches 0 = .ok (.aload_n 0, 1) := by decide +kernel
theorem dX6_batches_1 : decode cX6_batches 1 = .ok (.getfield 19, 3) := by decide +kernel
theorem dX6_batches_4 : decode cX6_batches 4 = .ok (.getfield 77, 3) := by decide +kernel
theorem dX6_batches_7 : decode cX6_batches 7 = .ok (.ireturn, 1) := by decide +kernel
theorem dX6_loads_0 : decode cX6_loads 0 = .ok (.aload_n 0, 1) := by decide +kernel
theorem dX6_loads_1 : decode cX6_loads 1 = .ok (.getfield 19, 3) := by decide +kernel
theorem dX6_loads_4 : decode cX6_loads 4 = .ok (.getfield 94, 3) := by decide +kernel
theorem dX6_loads_7 : decode cX6_loads 7 = .ok (.ireturn, 1) := by decide +kernel
set_option maxRecDepth 20000 in
theorem ggX6_records_X0_count : GoodIn wsX6_records wsX0_count := goodIn_r _ [6, 7, 8, 9, 5, 10, 11, 12, 13, 14, 15, 16, 17, 23, 24, 25, 26, 27, 28, 29, 30] (by decide +kernel) (by decide +kernel)
set_option maxRecDepth 20000 in
theorem gX6_records_X0_count : GoodIn wsX6_records (wsV RX6 150 RX0 yX0_count wsX0_count) := goodIn_app (goodIn_of _ (by decide +kernel)) ggX6_records_X0_count
theorem dX6_records_0 : decode cX6_records 0 = .ok (.aload_n 0, 1) := by decide +kernel
theorem dX6_records_1 : decode cX6_records 1 = .ok (.getfield 33, 3) := by decide +kernel
theorem dX6_records_4 : decode cX6_records 4 = .ok (.invokevirtual 150, 3) := by decide +kernel
theorem dX6_records_7 : decode cX6_records 7 = .ok (.ireturn, 1) := by decide +kernel
set_option maxRecDepth 20000 in
theorem ggX6_isUndone_X6_needIndex : GoodIn wsX6_isUndone wsX6_needIndex := goodIn_ca (goodIn_r _ [5, 6, 7] (by decide +kernel) (by decide +kernel)) (goodIn_sub (fun _ h => List.mem_cons_of_mem _ (List.mem_append_right _ h)) (by decide +kernel))
set_option maxRecDepth 20000 in
theorem gX6_isUndone_X6_needIndex : GoodIn wsX6_isUndone (va_wsS RX6 40 yX6_needIndex wsX6_needIndex) := goodIn_app (goodIn_of _ (by decide +kernel)) ggX6_isUndone_X6_needIndex
set_option maxRecDepth 20000 in
theorem ggX6_isUndone_X4_get : GoodIn wsX6_isUndone wsX4_get := goodIn_r _ [12, 13, 26] (by decide +kernel) (by decide +kernel)
set_option maxRecDepth 20000 in
theorem gX6_isUndone_X4_get : GoodIn wsX6_isUndone (wsV RX6 55 RX4 yX4_get wsX4_get) := goodIn_app (goodIn_of _ (by decide +kernel)) ggX6_isUndone_X4_get
theorem dX6_isUndone_0 : decode cX6_isUndone 0 = .ok (.iload_n 1, 1) := by decide +kernel
theorem dX6_isUndone_1 : decode cX6_isUndone 1 = .ok (.aload_n 0, 1) := by decide +kernel
theorem dX6_isUndone_2 : decode cX6_isUndone 2 = .ok (.getfield 19, 3) := by decide +kernel
theorem dX6_isUndone_5 : decode cX6_isUndone 5 = .ok (.getfield 77, 3) := by decide +kernel
theorem dX6_isUndone_8 : decode cX6_isUndone 8 = .ok (.invokestatic 40, 3) := by decide +kernel
theorem dX6_isUndone_11 : decode cX6_isUndone 11 = .ok (.aload_n 0, 1) := by decide +kernel
theorem dX6_isUndone_12 : decode cX6_isUndone 12 = .ok (.getfield 19, 3) := by decide +kernel
theorem dX6_isUndone_15 : decode cX6_isUndone 15 = .ok (.getfield 141, 3) := by decide +kernel
theorem dX6_isUndone_18 : decode cX6_isUndone 18 = .ok (.iload_n 1, 1) := by decide +kernel
theorem dX6_isUndone_19 : decode cX6_isUndone 19 = .ok (.invokevirtual 55, 3) := by decide +kernel
theorem dX6_isUndone_22 : decode cX6_isUndone 22 = .ok (.iconst 1, 1) := by decide +kernel
theorem dX6_isUndone_23 : decode cX6_isUndone 23 = .ok (.if_icmp .ne 7, 3) := by decide +kernel
theorem dX6_isUndone_26 : decode cX6_isUndone 26 = .ok (.iconst 1, 1) := by decide +kernel
theorem dX6_isUndone_27 : decode cX6_isUndone 27 = .ok (.goto 4, 3) := by decide +kernel
theorem dX6_isUndone_30 : decode cX6_isUndone 30 = .ok (.iconst 0, 1) := by decide +kernel
theorem dX6_isUndone_31 : decode cX6_isUndone 31 = .ok (.ireturn, 1) := by decide +kernel
set_option maxRecDepth 20000 in
theorem ggX6_isThere_X0_has : GoodIn wsX6_isThere wsX0_has := goodIn_r _ [6, 7, 8, 9, 10, 11, 12, 13, 19, 20, 21, 22, 23, 24, 25, 26] (by decide +kernel) (by decide +kernel)
set_option maxRecDepth 20000 in
theorem gX6_isThere_X0_has : GoodIn wsX6_isThere (wsV RX6 152 RX0 yX0_has wsX0_has) := goodIn_app (goodIn_of _ (by decide +kernel)) ggX6_isThere_X0_has
theorem dX6_isThere_0 : decode cX6_isThere 0 = .ok (.aload_n 0, 1) := by decide +kernel
theorem dX6_isThere_1 : decode cX6_isThere 1 = .ok (.getfield 33, 3) := by decide +kernel
theorem dX6_isThere_4 : decode cX6_isThere 4 = .ok (.iload_n 1, 1) := by decide +kernel
theorem dX6_isThere_5 : decode cX6_isThere 5 = .ok (.invokevirtual 152, 3) := by decide +kernel
theorem dX6_isThere_8 : decode cX6_isThere 8 = .ok (.ireturn, 1) := by decide +kernel
set_option maxRecDepth 20000 in
theorem ggX6_hit_X6_needIndex : GoodIn wsX6_hit wsX6_needIndex := goodIn_ca (goodIn_r _ [6, 7, 8] (by decide +kernel) (by decide +kernel)) (goodIn_sub (fun _ h => List.mem_cons_of_mem _ (List.mem_append_right _ h)) (by decide +kernel))
set_option maxRecDepth 20000 in
theorem gX6_hit_X6_needIndex : GoodIn wsX6_hit (va_wsS RX6 40 yX6_needIndex wsX6_needIndex) := goodIn_app (goodIn_of _ (by decide +kernel)) ggX6_hit_X6_needIndex
set_option maxRecDepth 20000 in
theorem ggX6_hit_X4_get : GoodIn wsX6_hit wsX4_get := goodIn_r _ [13, 14, 34] (by decide +kernel) (by decide +kernel)
set_option maxRecDepth 20000 in
theorem gX6_hit_X4_get : GoodIn wsX6_hit (wsV RX6 55 RX4 yX4_get wsX4_get) := goodIn_app (goodIn_of _ (by decide +kernel)) ggX6_hit_X4_get
theorem dX6_hit_0 : decode cX6_hit 0 = .ok (.iload_n 1, 1) := by decide +kernel
theorem dX6_hit_1 : decode cX6_hit 1 = .ok (.aload_n 0, 1) := by decide +kernel
theorem dX6_hit_2 : decode cX6_hit 2 = .ok (.getfield 19, 3) := by decide +kernel
theorem dX6_hit_5 : decode cX6_hit 5 = .ok (.getfield 94, 3) := by decide +kernel
theorem dX6_hit_8 : decode cX6_hit 8 = .ok (.invokestatic 40, 3) := by decide +kernel
theorem dX6_hit_11 : decode cX6_hit 11 = .ok (.aload_n 0, 1) := by decide +kernel
theorem dX6_hit_12 : decode cX6_hit 12 = .ok (.getfield 33, 3) := by decide +kernel
theorem dX6_hit_15 : decode cX6_hit 15 = .ok (.getfield 156, 3) := by decide +kernel
theorem dX6_hit_18 : decode cX6_hit 18 = .ok (.iload_n 1, 1) := by decide +kernel
theorem dX6_hit_19 : decode cX6_hit 19 = .ok (.invokevirtual 55, 3) := by decide +kernel
theorem dX6_hit_22 : decode cX6_hit 22 = .ok (.ireturn, 1) := by decide +kernel
set_option maxRecDepth 20000 in
theorem ggX6_keyOf_X6_needRecord : GoodIn wsX6_keyOf wsX6_needRecord := goodIn_ca (goodIn_r _ [6, 7, 8, 1, 9, 10, 11, 12, 13, 14, 15, 16, 17, 18, 19, 20, 32, 33, 34, 35, 36, 37, 38, 39, 40, 41, 42, 43, 44] (by decide +kernel) (by decide +kernel)) (goodIn_sub (fun _ h => List.mem_cons_of_mem _ (List.mem_append_right _ h)) (by decide +kernel))
set_option maxRecDepth 20000 in
theorem gX6_keyOf_X6_needRecord : GoodIn wsX6_keyOf (wsV RX6 122 RX6 yX6_needRecord wsX6_needRecord) := goodIn_app (goodIn_of _ (by decide +kernel)) ggX6_keyOf_X6_needRecord
set_option maxRecDepth 20000 in
theorem ggX6_keyOf_X6_needIndex : GoodIn wsX6_keyOf wsX6_needIndex := goodIn_ca (goodIn_r _ [23, 7, 8] (by decide +kernel) (by decide +kernel)) (goodIn_sub (fun _ h => List.mem_cons_of_mem _ (List.mem_append_right _ h)) (by decide +kernel))
set_option maxRecDepth 20000 in
theorem gX6_keyOf_X6_needIndex : GoodIn wsX6_keyOf (va_wsS RX6 40 yX6_needIndex wsX6_needIndex) := goodIn_app (goodIn_of _ (by decide +kernel)) ggX6_keyOf_X6_needIndex
set_option maxRecDepth 20000 in
theorem ggX6_keyOf_X1_get : GoodIn wsX6_keyOf wsX1_get := goodIn_r _ [28, 29, 30, 31, 45, 46, 47] (by decide +kernel) (by decide +kernel)
set_option maxRecDepth 20000 in
theorem gX6_keyOf_X1_get : GoodIn wsX6_keyOf (wsV RX6 97 RX1 yX1_get wsX1_get) := goodIn_app (goodIn_of _ (by decide +kernel)) ggX6_keyOf_X1_get
theorem dX6_keyOf_0 : decode cX6_keyOf 0 = .ok (.aload_n 0, 1) := by decide +kernel
theorem dX6_keyOf_1 : decode cX6_keyOf 1 = .ok (.iload_n 1, 1) := by decide +kernel
theorem dX6_keyOf_2 : decode cX6_keyOf 2 = .ok (.invokevirtual 122, 3) := by decide +kernel
theorem dX6_keyOf_5 : decode cX6_keyOf 5 = .ok (.iload_n 2, 1) := by decide +kernel
theorem dX6_keyOf_6 : decode cX6_keyOf 6 = .ok (.iconst 3, 1) := by decide +kernel
theorem dX6_keyOf_7 : decode cX6_keyOf 7 = .ok (.invokestatic 40, 3) := by decide +kernel
theorem dX6_keyOf_10 : decode cX6_keyOf 10 = .ok (.aload_n 0, 1) := by decide +kernel
theorem dX6_keyOf_11 : decode cX6_keyOf 11 = .ok (.getfield 33, 3) := by decide +kernel
theorem dX6_keyOf_14 : decode cX6_keyOf 14 = .ok (.getfield 159, 3) := by decide +kernel
theorem dX6_keyOf_17 : decode cX6_keyOf 17 = .ok (.iload_n 1, 1) := by decide +kernel
theorem dX6_keyOf_18 : decode cX6_keyOf 18 = .ok (.iload_n 2, 1) := by decide +kernel
theorem dX6_keyOf_19 : decode cX6_keyOf 19 = .ok (.invokevirtual 97, 3) := by decide +kernel
theorem dX6_keyOf_22 : decode cX6_keyOf 22 = .ok (.ireturn, 1) := by decide +kernel
set_option maxRecDepth 20000 in
theorem ggX6_fieldOf_X6_needRecord : GoodIn wsX6_fieldOf wsX6_needRecord := goodIn_ca (goodIn_r _ [6, 7, 8, 1, 9, 10, 11, 12, 13, 14, 15, 16, 17, 18, 19, 20, 32, 33, 34, 35, 36, 37, 38, 39, 40, 41, 42, 43, 44] (by decide +kernel) (by decide +kernel)) (goodIn_sub (fun _ h => List.mem_cons_of_mem _ (List.mem_append_right _ h)) (by decide +kernel))
set_option maxRecDepth 20000 in
theorem gX6_fieldOf_X6_needRecord : GoodIn wsX6_fieldOf (wsV RX6 122 RX6 yX6_needRecord wsX6_needRecord) := goodIn_app (goodIn_of _ (by decide +kernel)) ggX6_fieldOf_X6_needRecord
set_option maxRecDepth 20000 in
theorem ggX6_fieldOf_X6_needIndex : GoodIn wsX6_fieldOf wsX6_needIndex := goodIn_ca (goodIn_r _ [23, 7, 8] (by decide +kernel) (by decide +kernel)) (goodIn_sub (fun _ h => List.mem_cons_of_mem _ (List.mem_append_right _ h)) (by decide +kernel))
set_option maxRecDepth 20000 in
theorem gX6_fieldOf_X6_needIndex : GoodIn wsX6_fieldOf (va_wsS RX6 40 yX6_needIndex wsX6_needIndex) := goodIn_app (goodIn_of _ (by decide +kernel)) ggX6_fieldOf_X6_needIndex
set_option maxRecDepth 20000 in
theorem ggX6_fieldOf_X1_get : GoodIn wsX6_fieldOf wsX1_get := goodIn_r _ [28, 29, 30, 31, 45, 46, 47] (by decide +kernel) (by decide +kernel)
set_option maxRecDepth 20000 in
theorem gX6_fieldOf_X1_get : GoodIn wsX6_fieldOf (wsV RX6 97 RX1 yX1_get wsX1_get) := goodIn_app (goodIn_of _ (by decide +kernel)) ggX6_fieldOf_X1_get
theorem dX6_fieldOf_0 : decode cX6_fieldOf 0 = .ok (.aload_n 0, 1) := by decide +kernel
theorem dX6_fieldOf_1 : decode cX6_fieldOf 1 = .ok (.iload_n 1, 1) := by decide +kernel
theorem dX6_fieldOf_2 : decode cX6_fieldOf 2 = .ok (.invokevirtual 122, 3) := by decide +kernel
theorem dX6_fieldOf_5 : decode cX6_fieldOf 5 = .ok (.iload_n 2, 1) := by decide +kernel
theorem dX6_fieldOf_6 : decode cX6_fieldOf 6 = .ok (.iconst 4, 1) := by decide +kernel
theorem dX6_fieldOf_7 : decode cX6_fieldOf 7 = .ok (.invokestatic 40, 3) := by decide +kernel
theorem dX6_fieldOf_10 : decode cX6_fieldOf 10 = .ok (.aload_n 0, 1) := by decide +kernel
theorem dX6_fieldOf_11 : decode cX6_fieldOf 11 = .ok (.getfield 33, 3) := by decide +kernel
theorem dX6_fieldOf_14 : decode cX6_fieldOf 14 = .ok (.getfield 160, 3) := by decide +kernel
theorem dX6_fieldOf_17 : decode cX6_fieldOf 17 = .ok (.iload_n 1, 1) := by decide +kernel
theorem dX6_fieldOf_18 : decode cX6_fieldOf 18 = .ok (.iload_n 2, 1) := by decide +kernel
theorem dX6_fieldOf_19 : decode cX6_fieldOf 19 = .ok (.invokevirtual 97, 3) := by decide +kernel
theorem dX6_fieldOf_22 : decode cX6_fieldOf 22 = .ok (.ireturn, 1) := by decide +kernel
set_option maxRecDepth 20000 in
theorem ggX6_sourceOf_X6_needRecord : GoodIn wsX6_sourceOf wsX6_needRecord := goodIn_ca (goodIn_r _ [6, 7, 8, 1, 9, 10, 11, 12, 13, 14, 15, 16, 17, 18, 19, 20, 32, 33, 34, 35, 36, 37, 38, 39, 40, 41, 42, 43, 44] (by decide +kernel) (by decide +kernel)) (goodIn_sub (fun _ h => List.mem_cons_of_mem _ (List.mem_append_right _ h)) (by decide +kernel))
set_option maxRecDepth 20000 in
theorem gX6_sourceOf_X6_needRecord : GoodIn wsX6_sourceOf (wsV RX6 122 RX6 yX6_needRecord wsX6_needRecord) := goodIn_app (goodIn_of _ (by decide +kernel)) ggX6_sourceOf_X6_needRecord
set_option maxRecDepth 20000 in
theorem ggX6_sourceOf_X6_needIndex : GoodIn wsX6_sourceOf wsX6_needIndex := goodIn_ca (goodIn_r _ [23, 7, 8] (by decide +kernel) (by decide +kernel)) (goodIn_sub (fun _ h => List.mem_cons_of_mem _ (List.mem_append_right _ h)) (by decide +kernel))
set_option maxRecDepth 20000 in
theorem gX6_sourceOf_X6_needIndex : GoodIn wsX6_sourceOf (va_wsS RX6 40 yX6_needIndex wsX6_needIndex) := goodIn_app (goodIn_of _ (by decide +kernel)) ggX6_sourceOf_X6_needIndex
set_option maxRecDepth 20000 in
theorem ggX6_sourceOf_X1_get : GoodIn wsX6_sourceOf wsX1_get := goodIn_r _ [28, 29, 30, 31, 45, 46, 47] (by decide +kernel) (by decide +kernel)
set_option maxRecDepth 20000 in
theorem gX6_sourceOf_X1_get : GoodIn wsX6_sourceOf (wsV RX6 97 RX1 yX1_get wsX1_get) := goodIn_app (goodIn_of _ (by decide +kernel)) ggX6_sourceOf_X1_get
theorem dX6_sourceOf_0 : decode cX6_sourceOf 0 = .ok (.aload_n 0, 1) := by decide +kernel
theorem dX6_sourceOf_1 : decode cX6_sourceOf 1 = .ok (.iload_n 1, 1) := by decide +kernel
theorem dX6_sourceOf_2 : decode cX6_sourceOf 2 = .ok (.invokevirtual 122, 3) := by decide +kernel
theorem dX6_sourceOf_5 : decode cX6_sourceOf 5 = .ok (.iload_n 2, 1) := by decide +kernel
theorem dX6_sourceOf_6 : decode cX6_sourceOf 6 = .ok (.iconst 4, 1) := by decide +kernel
theorem dX6_sourceOf_7 : decode cX6_sourceOf 7 = .ok (.invokestatic 40, 3) := by decide +kernel
theorem dX6_sourceOf_10 : decode cX6_sourceOf 10 = .ok (.aload_n 0, 1) := by decide +kernel
theorem dX6_sourceOf_11 : decode cX6_sourceOf 11 = .ok (.getfield 33, 3) := by decide +kernel
theorem dX6_sourceOf_14 : decode cX6_sourceOf 14 = .ok (.getfield 161, 3) := by decide +kernel
theorem dX6_sourceOf_17 : decode cX6_sourceOf 17 = .ok (.iload_n 1, 1) := by decide +kernel
theorem dX6_sourceOf_18 : decode cX6_sourceOf 18 = .ok (.iload_n 2, 1) := by decide +kernel
theorem dX6_sourceOf_19 : decode cX6_sourceOf 19 = .ok (.invokevirtual 97, 3) := by decide +kernel
theorem dX6_sourceOf_22 : decode cX6_sourceOf 22 = .ok (.ireturn, 1) := by decide +kernel
set_option maxRecDepth 20000 in
theorem ggX6_holdings_X6_needRecord : GoodIn wsX6_holdings wsX6_needRecord := goodIn_ca (goodIn_r _ [6, 7, 8, 1, 9, 10, 11, 12, 13, 14, 15, 16, 17, 18, 19, 20, 22, 23, 24, 25, 26, 27, 28, 29, 30, 31, 32, 33, 34] (by decide +kernel) (by decide +kernel)) (goodIn_sub (fun _ h => List.mem_cons_of_mem _ (List.mem_append_right _ h)) (by decide +kernel))
set_option maxRecDepth 20000 in
theorem gX6_holdings_X6_needRecord : GoodIn wsX6_holdings (wsV RX6 122 RX6 yX6_needRecord wsX6_needRecord) := goodIn_app (goodIn_of _ (by decide +kernel)) ggX6_holdings_X6_needRecord
set_option maxRecDepth 20000 in
theorem ggX6_holdings_X4_get : GoodIn wsX6_holdings wsX4_get := goodIn_r _ [19, 20, 34] (by decide +kernel) (by decide +kernel)
set_option maxRecDepth 20000 in
theorem gX6_holdings_X4_get : GoodIn wsX6_holdings (wsV RX6 55 RX4 yX4_get wsX4_get) := goodIn_app (goodIn_of _ (by decide +kernel)) ggX6_holdings_X4_get
theorem dX6_holdings_0 : decode cX6_holdings 0 = .ok (.aload_n 0, 1) := by decide +kernel
theorem dX6_holdings_1 : decode cX6_holdings 1 = .ok (.iload_n 1, 1) := by decide +kernel
theorem dX6_holdings_2 : decode cX6_holdings 2 = .ok (.invokevirtual 122, 3) := by decide +kernel
theorem dX6_holdings_5 : decode cX6_holdings 5 = .ok (.aload_n 0, 1) := by decide +kernel
theorem dX6_holdings_6 : decode cX6_holdings 6 = .ok (.getfield 33, 3) := by decide +kernel
theorem dX6_holdings_9 : decode cX6_holdings 9 = .ok (.getfield 164, 3) := by decide +kernel
theorem dX6_holdings_12 : decode cX6_holdings 12 = .ok (.iload_n 1, 1) := by decide +kernel
theorem dX6_holdings_13 : decode cX6_holdings 13 = .ok (.invokevirtual 55, 3) := by decide +kernel
theorem dX6_holdings_16 : decode cX6_holdings 16 = .ok (.ireturn, 1) := by decide +kernel
set_option maxRecDepth 20000 in
theorem ggX6_digest_X0_sum : GoodIn wsX6_digest wsX0_sum := goodIn_r _ [6, 7, 8, 9, 10, 5, 11, 12, 13, 14, 15, 16, 17, 18, 19, 20, 21, 22, 23, 24, 25, 26, 27, 28, 29, 30, 31, 32, 33, 34, 35, 36, 42, 43, 44, 45, 46, 47, 48, 49, 50, 51, 52] (by decide +kernel) (by decide +kernel)
set_option maxRecDepth 20000 in
theorem gX6_digest_X0_sum : GoodIn wsX6_digest (wsV RX6 167 RX0 yX0_sum wsX0_sum) := goodIn_app (goodIn_of _ (by decide +kernel)) ggX6_digest_X0_sum
theorem dX6_digest_0 : decode cX6_digest 0 = .ok (.aload_n 0, 1) := by decide +kernel
theorem dX6_digest_1 : decode cX6_digest 1 = .ok (.getfield 33, 3) := by decide +kernel
theorem dX6_digest_4 : decode cX6_digest 4 = .ok (.invokevirtual 167, 3) := by decide +kernel
theorem dX6_digest_7 : decode cX6_digest 7 = .ok (.ireturn, 1) := by decide +kernel
set_option maxRecDepth 20000 in
theorem ggX6_digestAnew_X6_doAllAnew : GoodIn wsX6_digestAnew wsX6_doAllAnew := goodIn_r _ [6, 7, 8, 9, 10, 11, 12, 13, 14, 15, 16, 17, 18, 19, 20, 21, 22, 23, 24, 25, 26, 27, 28, 29, 30, 31, 32, 33, 34, 35, 36, 37, 38, 39, 5, 40, 41, 42, 43, 44, 45, 46, 47, 48, 49, 50, 51, 52, 53, 54, 55, 56, 57, 58, 59, 60, 61, 62, 63, 64, 65, 66, 67, 68, 69, 70, 71, 72, 73, 74, 75, 76, 77, 78, 79, 80, 81, 82, 83, 84, 85, 86, 87, 88, 89, 90, 91, 92, 93, 94, 95, 96, 97, 98, 99, 100, 101, 102, 103, 104, 105, 106, 107, 108, 109, 110, 111, 112, 113, 114, 127, 128, 129, 130, 131, 132, 133, 134, 135, 136, 137, 138, 139, 140, 141, 142, 143, 144, 145, 146, 147, 148, 149, 150, 151, 152, 153, 154, 155, 156, 157, 158] (by decide +kernel) (by decide +kernel)
set_option maxRecDepth 20000 in
theorem gX6_digestAnew_X6_doAllAnew : GoodIn wsX6_digestAnew (wsV RX6 146 RX6 yX6_doAllAnew wsX6_doAllAnew) := goodIn_app (goodIn_of _ (by decide +kernel)) ggX6_digestAnew_X6_doAllAnew
set_option maxRecDepth 20000 in
theorem ggX6_digestAnew_X0_sum : GoodIn wsX6_digestAnew wsX0_sum := goodIn_r _ [118, 18, 102, 103, 104, 11, 105, 13, 63, 44, 45, 23, 46, 25, 119, 120, 121, 122, 14, 123, 124, 125, 126, 15, 64, 65, 66, 33, 67, 68, 69, 35, 138, 139, 140, 141, 142, 143, 144, 145, 146, 147, 148] (by decide +kernel) (by decide +kernel)
set_option maxRecDepth 20000 in
theorem gX6_digestAnew_X0_sum : GoodIn wsX6_digestAnew (wsV RX6 167 RX0 yX0_sum wsX0_sum) := goodIn_app (goodIn_of _ (by decide +kernel)) ggX6_digestAnew_X0_sum
theorem dX6_digestAnew_0 : decode cX6_digestAnew 0 = .ok (.aload_n 0, 1) := by decide +kernel
theorem dX6_digestAnew_1 : decode cX6_digestAnew 1 = .ok (.aload_n 0, 1) := by decide +kernel
theorem dX6_digestAnew_2 : decode cX6_digestAnew 2 = .ok (.getfield 37, 3) := by decide +kernel
theorem dX6_digestAnew_5 : decode cX6_digestAnew 5 = .ok (.invokevirtual 146, 3) := by decide +kernel
theorem dX6_digestAnew_8 : decode cX6_digestAnew 8 = .ok (.aload_n 0, 1) := by decide +kernel
theorem dX6_digestAnew_9 : decode cX6_digestAnew 9 = .ok (.getfield 37, 3) := by decide +kernel
theorem dX6_digestAnew_12 : decode cX6_digestAnew 12 = .ok (.invokevirtual 167, 3) := by decide +kernel
theorem dX6_digestAnew_15 : decode cX6_digestAnew 15 = .ok (.ireturn, 1) := by decide +kernel
theorem dX6_needIndex_0 : decode cX6_needIndex 0 = .ok (.iload_n 0, 1) := by decide +kernel
theorem dX6_needIndex_1 : decode cX6_needIndex 1 = .ok (.ifCond .lt 8, 3) := by decide +kernel
theorem dX6_needIndex_4 : decode cX6_needIndex 4 = .ok (.iload_n 0, 1) := by decide +kernel
theorem dX6_needIndex_5 : decode cX6_needIndex 5 = .ok (.iload_n 1, 1) := by decide +kernel
theorem dX6_needIndex_6 : decode cX6_needIndex 6 = .ok (.if_icmp .lt 13, 3) := by decide +kernel
theorem dX6_needIndex_9 : decode cX6_needIndex 9 = .ok (.new 170, 3) := by decide +kernel
theorem dX6_needIndex_12 : decode cX6_needIndex 12 = .ok (.dup, 1) := by decide +kernel
theorem dX6_needIndex_13 : decode cX6_needIndex 13 = .ok (.ldc 172, 2) := by decide +kernel
theorem dX6_needIndex_15 : decode cX6_needIndex 15 = .ok (.invokespecial 174, 3) := by decide +kernel
theorem dX6_needIndex_18 : decode cX6_needIndex 18 = .ok (.athrow, 1) := by decide +kernel
theorem dX6_needIndex_19 : decode cX6_needIndex 19 = .ok (.return_, 1) := by decide +kernel
theorem dX6_needValue_0 : decode cX6_needValue 0 = .ok (.iload_n 0, 1) := by decide +kernel
theorem dX6_needValue_1 : decode cX6_needValue 1 = .ok (.iload_n 1, 1) := by decide +kernel
theorem dX6_needValue_2 : decode cX6_needValue 2 = .ok (.if_icmp .lt 8, 3) := by decide +kernel
theorem dX6_needValue_5 : decode cX6_needValue 5 = .ok (.iload_n 0, 1) := by decide +kernel
theorem dX6_needValue_6 : decode cX6_needValue 6 = .ok (.iload_n 2, 1) := by decide +kernel
theorem dX6_needValue_7 : decode cX6_needValue 7 = .ok (.if_icmp .lt 13, 3) := by decide +kernel
theorem dX6_needValue_10 : decode cX6_needValue 10 = .ok (.new 67, 3) := by decide +kernel
theorem dX6_needValue_13 : decode cX6_needValue 13 = .ok (.dup, 1) := by decide +kernel
theorem dX6_needValue_14 : decode cX6_needValue 14 = .ok (.ldc 175, 2) := by decide +kernel
theorem dX6_needValue_16 : decode cX6_needValue 16 = .ok (.invokespecial 71, 3) := by decide +kernel
theorem dX6_needValue_19 : decode cX6_needValue 19 = .ok (.athrow, 1) := by decide +kernel
theorem dX6_needValue_20 : decode cX6_needValue 20 = .ok (.return_, 1) := by decide +kernel
set_option maxRecDepth 20000 in
theorem ggX6_needRecord_X0_has : GoodIn wsX6_needRecord wsX0_has := goodIn_r _ [8, 9, 10, 11, 12, 13, 14, 15, 21, 22, 23, 24, 25, 26, 27, 28] (by decide +kernel) (by decide +kernel)
set_option maxRecDepth 20000 in
theorem gX6_needRecord_X0_has : GoodIn wsX6_needRecord (wsV RX6 152 RX0 yX0_has wsX0_has) := goodIn_app (goodIn_of _ (by decide +kernel)) ggX6_needRecord_X0_has
theorem dX6_needRecord_0 : decode cX6_needRecord 0 = .ok (.aload_n 0, 1) := by decide +kernel
theorem dX6_needRecord_1 : decode cX6_needRecord 1 = .ok (.getfield 33, 3) := by decide +kernel
theorem dX6_needRecord_4 : decode cX6_needRecord 4 = .ok (.iload_n 1, 1) := by decide +kernel
theorem dX6_needRecord_5 : decode cX6_needRecord 5 = .ok (.invokevirtual 152, 3) := by decide +kernel
theorem dX6_needRecord_8 : decode cX6_needRecord 8 = .ok (.ifCond .ne 13, 3) := by decide +kernel
theorem dX6_needRecord_11 : decode cX6_needRecord 11 = .ok (.new 170, 3) := by decide +kernel
theorem dX6_needRecord_14 : decode cX6_needRecord 14 = .ok (.dup, 1) := by decide +kernel
theorem dX6_needRecord_15 : decode cX6_needRecord 15 = .ok (.ldc 177, 2) := by decide +kernel
theorem dX6_needRecord_17 : decode cX6_needRecord 17 = .ok (.invokespecial 174, 3) := by decide +kernel
theorem dX6_needRecord_20 : decode cX6_needRecord 20 = .ok (.athrow, 1) := by decide +kernel
theorem dX6_needRecord_21 : decode cX6_needRecord 21 = .ok (.return_, 1) := by decide +kernel
theorem dX6_needNothingLoaded_0 : decode cX6_needNothingLoaded 0 = .ok (.aload_n 0, 1) := by decide +kernel
theorem dX6_needNothingLoaded_1 : decode cX6_needNothingLoaded 1 = .ok (.getfield 19, 3) := by decide +kernel
theorem dX6_needNothingLoaded_4 : decode cX6_needNothingLoaded 4 = .ok (.getfield 94, 3) := by decide +kernel
theorem dX6_needNothingLoaded_7 : decode cX6_needNothingLoaded 7 = .ok (.ifCond .le 13, 3) := by decide +kernel
theorem dX6_needNothingLoaded_10 : decode cX6_needNothingLoaded 10 = .ok (.new 81, 3) := by decide +kernel
theorem dX6_needNothingLoaded_13 : decode cX6_needNothingLoaded 13 = .ok (.dup, 1) := by decide +kernel
theorem dX6_needNothingLoaded_14 : decode cX6_needNothingLoaded 14 = .ok (.ldc 179, 2) := by decide +kernel
theorem dX6_needNothingLoaded_16 : decode cX6_needNothingLoaded 16 = .ok (.invokespecial 85, 3) := by decide +kernel
theorem dX6_needNothingLoaded_19 : decode cX6_needNothingLoaded 19 = .ok (.athrow, 1) := by decide +kernel
theorem dX6_needNothingLoaded_20 : decode cX6_needNothingLoaded 20 = .ok (.return_, 1) := by decide +kernel
set_option maxRecDepth 20000 in
theorem ggX6_needActLeft_X2_acts : GoodIn wsX6_needActLeft wsX2_acts := goodIn_r _ [8, 9, 10, 16, 17, 18, 19, 20, 21] (by decide +kernel) (by decide +kernel)
set_option maxRecDepth 20000 in
theorem gX6_needActLeft_X2_acts : GoodIn wsX6_needActLeft (wsV RX6 181 RX2 yX2_acts wsX2_acts) := goodIn_app (goodIn_of _ (by decide +kernel)) ggX6_needActLeft_X2_acts
theorem dX6_needActLeft_0 : decode cX6_needActLeft 0 = .ok (.aload_n 0, 1) := by decide +kernel
theorem dX6_needActLeft_1 : decode cX6_needActLeft 1 = .ok (.getfield 26, 3) := by decide +kernel
theorem dX6_needActLeft_4 : decode cX6_needActLeft 4 = .ok (.invokevirtual 181, 3) := by decide +kernel
theorem dX6_needActLeft_7 : decode cX6_needActLeft 7 = .ok (.bipush 100, 2) := by decide +kernel
theorem dX6_needActLeft_9 : decode cX6_needActLeft 9 = .ok (.if_icmp .lt 13, 3) := by decide +kernel
theorem dX6_needActLeft_12 : decode cX6_needActLeft 12 = .ok (.new 81, 3) := by decide +kernel
theorem dX6_needActLeft_15 : decode cX6_needActLeft 15 = .ok (.dup, 1) := by decide +kernel
theorem dX6_needActLeft_16 : decode cX6_needActLeft 16 = .ok (.ldc 184, 2) := by decide +kernel
theorem dX6_needActLeft_18 : decode cX6_needActLeft 18 = .ok (.invokespecial 85, 3) := by decide +kernel
theorem dX6_needActLeft_21 : decode cX6_needActLeft 21 = .ok (.athrow, 1) := by decide +kernel
theorem dX6_needActLeft_22 : decode cX6_needActLeft 22 = .ok (.return_, 1) := by decide +kernel
set_option maxRecDepth 20000 in
theorem ggX6_doAllAnew_X0_clear : GoodIn wsX6_doAllAnew wsX0_clear := goodIn_r _ [6, 7, 8, 9, 10, 11, 12, 13, 14, 15, 16, 17, 18, 19, 20, 21, 22, 23, 24, 25, 26, 27, 28, 29, 30, 121, 122, 123, 124, 125, 126, 127, 128, 129, 130, 131] (by decide +kernel) (by decide +kernel)
set_option maxRecDepth 20000 in
theorem gX6_doAllAnew_X0_clear : GoodIn wsX6_doAllAnew (wsV RX6 186 RX0 yX0_clear wsX0_clear) := goodIn_app (goodIn_of _ (by decide +kernel)) ggX6_doAllAnew_X0_clear
set_option maxRecDepth 20000 in
theorem ggX6_doAllAnew_X6_doStep : GoodIn wsX6_doAllAnew wsX6_doStep := goodIn_r _ [35, 1, 36, 37, 38, 39, 40, 17, 41, 19, 42, 43, 44, 5, 45, 7, 13, 46, 47, 48, 49, 50, 51, 52, 53, 54, 55, 56, 57, 58, 59, 60, 61, 27, 62, 63, 64, 29, 65, 66, 67, 68, 8, 69, 70, 71, 72, 73, 74, 75, 76, 77, 78, 79, 80, 81, 82, 83, 84, 11, 9, 10, 85, 86, 87, 88, 89, 90, 91, 92, 93, 94, 95, 96, 97, 98, 99, 100, 101, 102, 103, 104, 12, 105, 106, 107, 108, 109, 110, 111, 112, 113, 114, 115, 116, 117, 118, 119, 120, 128, 121, 122, 123, 124, 125, 126, 127, 132, 133, 134, 135, 136, 137, 138, 139, 140, 141, 129, 130, 131] (by decide +kernel) (by decide +kernel)
set_option maxRecDepth 20000 in
theorem gX6_doAllAnew_X6_doStep : GoodIn wsX6_doAllAnew (wsV RX6 190 RX6 yX6_doStep wsX6_doStep) := goodIn_app (goodIn_of _ (by decide +kernel)) ggX6_doAllAnew_X6_doStep
theorem dX6_doAllAnew_0 : decode cX6_doAllAnew 0 = .ok (.aload_n 1, 1) := by decide +kernel
theorem dX6_doAllAnew_1 : decode cX6_doAllAnew 1 = .ok (.invokevirtual 186, 3) := by decide +kernel
theorem dX6_doAllAnew_4 : decode cX6_doAllAnew 4 = .ok (.iconst 0, 1) := by decide +kernel
theorem dX6_doAllAnew_5 : decode cX6_doAllAnew 5 = .ok (.istore_n 2, 1) := by decide +kernel
theorem dX6_doAllAnew_6 : decode cX6_doAllAnew 6 = .ok (.iload_n 2, 1) := by decide +kernel
theorem dX6_doAllAnew_7 : decode cX6_doAllAnew 7 = .ok (.aload_n 0, 1) := by decide +kernel
theorem dX6_doAllAnew_8 : decode cX6_doAllAnew 8 = .ok (.getfield 26, 3) := by decide +kernel
theorem dX6_doAllAnew_11 : decode cX6_doAllAnew 11 = .ok (.getfield 189, 3) := by decide +kernel
theorem dX6_doAllAnew_14 : decode cX6_doAllAnew 14 = .ok (.if_icmp .ge 15, 3) := by decide +kernel
theorem dX6_doAllAnew_17 : decode cX6_doAllAnew 17 = .ok (.aload_n 0, 1) := by decide +kernel
theorem dX6_doAllAnew_18 : decode cX6_doAllAnew 18 = .ok (.aload_n 1, 1) := by decide +kernel
theorem dX6_doAllAnew_19 : decode cX6_doAllAnew 19 = .ok (.iload_n 2, 1) := by decide +kernel
theorem dX6_doAllAnew_20 : decode cX6_doAllAnew 20 = .ok (.invokevirtual 190, 3) := by decide +kernel
theorem dX6_doAllAnew_23 : decode cX6_doAllAnew 23 = .ok (.iinc 2 1, 3) := by decide +kernel
theorem dX6_doAllAnew_26 : decode cX6_doAllAnew 26 = .ok (.goto (-20), 3) := by decide +kernel
theorem dX6_doAllAnew_29 : decode cX6_doAllAnew 29 = .ok (.return_, 1) := by decide +kernel
set_option maxRecDepth 20000 in
theorem ggX6_doStep_X4_get : GoodIn wsX6_doStep wsX4_get := goodIn_r _ [8, 9, 99] (by decide +kernel) (by decide +kernel)
set_option maxRecDepth 20000 in
theorem gX6_doStep_X4_get : GoodIn wsX6_doStep (wsV RX6 55 RX4 yX4_get wsX4_get) := goodIn_app (goodIn_of _ (by decide +kernel)) ggX6_doStep_X4_get
set_option maxRecDepth 20000 in
theorem ggX6_doStep_X0_take : GoodIn wsX6_doStep wsX0_take := goodIn_r _ [14, 15, 16, 17, 18, 19, 20, 21, 22, 23, 24, 5, 6, 7, 8, 9, 25, 26, 27, 13, 28, 29, 30, 31, 32, 33, 34, 35, 36, 37, 38, 39, 40, 41, 42, 43, 44, 45, 46, 47, 48, 49, 50, 51, 52, 53, 54, 55, 56, 57, 58, 59, 60, 61, 62, 63, 64, 65, 66, 67, 68, 69, 100, 101, 102, 103, 104, 105, 106, 107, 108, 109, 110, 111, 112, 113, 99, 114, 115, 116, 117, 118, 119] (by decide +kernel) (by decide +kernel)
set_option maxRecDepth 20000 in
theorem gX6_doStep_X0_take : GoodIn wsX6_doStep (wsV RX6 118 RX0 yX0_take wsX0_take) := goodIn_app (goodIn_of _ (by decide +kernel)) ggX6_doStep_X0_take
set_option maxRecDepth 20000 in
theorem ggX6_doStep_X0_guard : GoodIn wsX6_doStep wsX0_guard := goodIn_r _ [73, 59, 74, 75, 76, 13, 77, 15, 29, 5, 6, 7, 8, 9, 30, 31, 32, 33, 34, 35, 36, 37, 51, 52, 53, 54, 100, 101, 102, 103, 104, 105, 106, 99, 117, 118, 119] (by decide +kernel) (by decide +kernel)
set_option maxRecDepth 20000 in
theorem gX6_doStep_X0_guard : GoodIn wsX6_doStep (wsV RX6 129 RX0 yX0_guard wsX0_guard) := goodIn_app (goodIn_of _ (by decide +kernel)) ggX6_doStep_X0_guard
set_option maxRecDepth 20000 in
theorem ggX6_doStep_X0_addHoldings : GoodIn wsX6_doStep wsX0_addHoldings := goodIn_r _ [81, 82, 74, 75, 76, 13, 77, 15, 29, 5, 6, 7, 8, 9, 43, 44, 45, 46, 100, 101, 102, 103, 104, 105, 106, 99] (by decide +kernel) (by decide +kernel)
set_option maxRecDepth 20000 in
theorem gX6_doStep_X0_addHoldings : GoodIn wsX6_doStep (wsV RX6 133 RX0 yX0_addHoldings wsX0_addHoldings) := goodIn_app (goodIn_of _ (by decide +kernel)) ggX6_doStep_X0_addHoldings
set_option maxRecDepth 20000 in
theorem ggX6_doStep_X0_join : GoodIn wsX6_doStep wsX0_join := goodIn_r _ [86, 42, 60, 61, 15, 82, 74, 75, 76, 13, 77, 29, 5, 6, 7, 8, 9, 30, 31, 32, 33, 34, 35, 36, 37, 51, 52, 53, 54, 43, 44, 45, 46, 87, 79, 80, 81, 100, 101, 102, 103, 104, 105, 106, 99, 117, 118, 119] (by decide +kernel) (by decide +kernel)
set_option maxRecDepth 20000 in
theorem gX6_doStep_X0_join : GoodIn wsX6_doStep (wsV RX6 138 RX0 yX0_join wsX0_join) := goodIn_app (goodIn_of _ (by decide +kernel)) ggX6_doStep_X0_join
theorem dX6_doStep_0 : decode cX6_doStep 0 = .ok (.aload_n 0, 1) := by decide +kernel
theorem dX6_doStep_1 : decode cX6_doStep 1 = .ok (.getfield 26, 3) := by decide +kernel
theorem dX6_doStep_4 : decode cX6_doStep 4 = .ok (.getfield 194, 3) := by decide +kernel
theorem dX6_doStep_7 : decode cX6_doStep 7 = .ok (.iload_n 2, 1) := by decide +kernel
theorem dX6_doStep_8 : decode cX6_doStep 8 = .ok (.invokevirtual 55, 3) := by decide +kernel
theorem dX6_doStep_11 : decode cX6_doStep 11 = .ok (.istore_n 3, 1) := by decide +kernel
theorem dX6_doStep_12 : decode cX6_doStep 12 = .ok (.aload_n 0, 1) := by decide +kernel
theorem dX6_doStep_13 : decode cX6_doStep 13 = .ok (.getfield 26, 3) := by decide +kernel
theorem dX6_doStep_16 : decode cX6_doStep 16 = .ok (.getfield 197, 3) := by decide +kernel
theorem dX6_doStep_19 : decode cX6_doStep 19 = .ok (.iload_n 2, 1) := by decide +kernel
theorem dX6_doStep_20 : decode cX6_doStep 20 = .ok (.invokevirtual 55, 3) := by decide +kernel
theorem dX6_doStep_23 : decode cX6_doStep 23 = .ok (.istore 4, 2) := by decide +kernel
theorem dX6_doStep_25 : decode cX6_doStep 25 = .ok (.aload_n 0, 1) := by decide +kernel
theorem dX6_doStep_26 : decode cX6_doStep 26 = .ok (.getfield 26, 3) := by decide +kernel
theorem dX6_doStep_29 : decode cX6_doStep 29 = .ok (.getfield 200, 3) := by decide +kernel
theorem dX6_doStep_32 : decode cX6_doStep 32 = .ok (.iload_n 2, 1) := by decide +kernel
theorem dX6_doStep_33 : decode cX6_doStep 33 = .ok (.invokevirtual 55, 3) := by decide +kernel
theorem dX6_doStep_36 : decode cX6_doStep 36 = .ok (.tableswitch 92 0 3 #[32, 49, 71, 81], 32) := by decide +kernel
theorem dX6_doStep_68 : decode cX6_doStep 68 = .ok (.aload_n 1, 1) := by decide +kernel
theorem dX6_doStep_69 : decode cX6_doStep 69 = .ok (.aload_n 0, 1) := by decide +kernel
theorem dX6_doStep_70 : decode cX6_doStep 70 = .ok (.getfield 10, 3) := by decide +kernel
theorem dX6_doStep_73 : decode cX6_doStep 73 = .ok (.aload_n 0, 1) := by decide +kernel
theorem dX6_doStep_74 : decode cX6_doStep 74 = .ok (.getfield 19, 3) := by decide +kernel
theorem dX6_doStep_77 : decode cX6_doStep 77 = .ok (.iload_n 3, 1) := by decide +kernel
theorem dX6_doStep_78 : decode cX6_doStep 78 = .ok (.invokevirtual 118, 3) := by decide +kernel
theorem dX6_doStep_81 : decode cX6_doStep 81 = .ok (.pop, 1) := by decide +kernel
theorem dX6_doStep_82 : decode cX6_doStep 82 = .ok (.goto 46, 3) := by decide +kernel
theorem dX6_doStep_85 : decode cX6_doStep 85 = .ok (.aload_n 1, 1) := by decide +kernel
theorem dX6_doStep_86 : decode cX6_doStep 86 = .ok (.iload_n 3, 1) := by decide +kernel
theorem dX6_doStep_87 : decode cX6_doStep 87 = .ok (.iload 4, 2) := by decide +kernel
theorem dX6_doStep_89 : decode cX6_doStep 89 = .ok (.aload_n 0, 1) := by decide +kernel
theorem dX6_doStep_90 : decode cX6_doStep 90 = .ok (.getfield 26, 3) := by decide +kernel
theorem dX6_doStep_93 : decode cX6_doStep 93 = .ok (.getfield 203, 3) := by decide +kernel
theorem dX6_doStep_96 : decode cX6_doStep 96 = .ok (.iload_n 2, 1) := by decide +kernel
theorem dX6_doStep_97 : decode cX6_doStep 97 = .ok (.invokevirtual 55, 3) := by decide +kernel
theorem dX6_doStep_100 : decode cX6_doStep 100 = .ok (.invokevirtual 129, 3) := by decide +kernel
theorem dX6_doStep_103 : decode cX6_doStep 103 = .ok (.pop, 1) := by decide +kernel
theorem dX6_doStep_104 : decode cX6_doStep 104 = .ok (.goto 24, 3) := by decide +kernel
theorem dX6_doStep_107 : decode cX6_doStep 107 = .ok (.aload_n 1, 1) := by decide +kernel
theorem dX6_doStep_108 : decode cX6_doStep 108 = .ok (.iload_n 3, 1) := by decide +kernel
theorem dX6_doStep_109 : decode cX6_doStep 109 = .ok (.iconst 1, 1) := by decide +kernel
theorem dX6_doStep_110 : decode cX6_doStep 110 = .ok (.invokevirtual 133, 3) := by decide +kernel
theorem dX6_doStep_113 : decode cX6_doStep 113 = .ok (.pop, 1) := by decide +kernel
theorem dX6_doStep_114 : decode cX6_doStep 114 = .ok (.goto 14, 3) := by decide +kernel
theorem dX6_doStep_117 : decode cX6_doStep 117 = .ok (.aload_n 1, 1) := by decide +kernel
theorem dX6_doStep_118 : decode cX6_doStep 118 = .ok (.iload_n 3, 1) := by decide +kernel
theorem dX6_doStep_119 : decode cX6_doStep 119 = .ok (.iload 4, 2) := by decide +kernel
theorem dX6_doStep_121 : decode cX6_doStep 121 = .ok (.invokevirtual 138, 3) := by decide +kernel
theorem dX6_doStep_124 : decode cX6_doStep 124 = .ok (.pop, 1) := by decide +kernel
theorem dX6_doStep_125 : decode cX6_doStep 125 = .ok (.goto 3, 3) := by decide +kernel
theorem dX6_doStep_128 : decode cX6_doStep 128 = .ok (.return_, 1) := by decide +kernel
