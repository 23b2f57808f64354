theorem ggX1_init_X5_init : GoodIn wsX1_init wsX5_init := goodIn_r _ [13, 14, 2, 3, 15, 16, 17, 18, 19] (by decide +kernel) (by decide +kernel)
set_option maxRecDepth 20000 in
theorem gX1_init_X5_init_n11 : GoodIn wsX1_init (wsX5_init) := ggX1_init_X5_init
theorem dX1_init_0 : decode cX1_init 0 = .ok (.aload_n 0, 1) := by decide +kernel
theorem dX1_init_1 : decode cX1_init 1 = .ok (.invokespecial 3, 3) := by decide +kernel
theorem dX1_init_4 : decode cX1_init 4 = .ok (.aload_n 0, 1) := by decide +kernel
theorem dX1_init_5 : decode cX1_init 5 = .ok (.new 9, 3) := by decide +kernel
theorem dX1_init_8 : decode cX1_init 8 = .ok (.dup, 1) := by decide +kernel
theorem dX1_init_9 : decode cX1_init 9 = .ok (.invokespecial 11, 3) := by decide +kernel
theorem dX1_init_12 : decode cX1_init 12 = .ok (.putfield 12, 3) := by decide +kernel
theorem dX1_init_15 : decode cX1_init 15 = .ok (.aload_n 0, 1) := by decide +kernel
theorem dX1_init_16 : decode cX1_init 16 = .ok (.new 9, 3) := by decide +kernel
theorem dX1_init_19 : decode cX1_init 19 = .ok (.dup, 1) := by decide +kernel
theorem dX1_init_20 : decode cX1_init 20 = .ok (.invokespecial 11, 3) := by decide +kernel
theorem dX1_init_23 : decode cX1_init 23 = .ok (.putfield 18, 3) := by decide +kernel
theorem dX1_init_26 : decode cX1_init 26 = .ok (.aload_n 0, 1) := by decide +kernel
theorem dX1_init_27 : decode cX1_init 27 = .ok (.new 9, 3) := by decide +kernel
theorem dX1_init_30 : decode cX1_init 30 = .ok (.dup, 1) := by decide +kernel
theorem dX1_init_31 : decode cX1_init 31 = .ok (.invokespecial 11, 3) := by decide +kernel
theorem dX1_init_34 : decode cX1_init 34 = .ok (.putfield 21, 3) := by decide +kernel
theorem dX1_init_37 : decode cX1_init 37 = .ok (.aload_n 0, 1) := by decide +kernel
theorem dX1_init_38 : decode cX1_init 38 = .ok (.iconst 4, 1) := by decide +kernel
theorem dX1_init_39 : decode cX1_init 39 = .ok (.newarray .int, 2) := by decide +kernel
theorem dX1_init_41 : decode cX1_init 41 = .ok (.putfield 24, 3) := by decide +kernel
theorem dX1_init_44 : decode cX1_init 44 = .ok (.return_, 1) := by decide +kernel
set_option maxRecDepth 20000 in
theorem ggX1_dayByDay_X5_clear : GoodIn wsX1_dayByDay wsX5_clear := goodIn_ca (goodIn_r _ [7, 8, 9, 54, 55] (by decide +kernel) (by decide +kernel)) (goodIn_sub (fun _ h => List.mem_cons_of_mem _ (List.mem_append_left _ (List.mem_append_right _ h))) (by decide +kernel))
set_option maxRecDepth 20000 in
theorem gX1_dayByDay_X5_clear : GoodIn wsX1_dayByDay (wsV RX1 28 RX5 yX5_clear wsX5_clear) := goodIn_app (goodIn_of _ (by decide +kernel)) ggX1_dayByDay_X5_clear
set_option maxRecDepth 20000 in
theorem ggX1_dayByDay_X5_add : GoodIn wsX1_dayByDay wsX5_add := goodIn_ca (goodIn_ca (goodIn_r _ [13, 9, 8, 14, 15, 16, 17, 18, 19, 6, 20, 54, 55] (by decide +kernel) (by decide +kernel)) (goodIn_sub (fun _ h => List.mem_cons_of_mem _ (List.mem_append_left _ (List.mem_append_right _ h))) (by decide +kernel))) (goodIn_sub (fun _ h => List.mem_cons_of_mem _ (List.mem_append_right _ h)) (by decide +kernel))
set_option maxRecDepth 20000 in
theorem gX1_dayByDay_X5_add : GoodIn wsX1_dayByDay (wsV RX1 37 RX5 yX5_add wsX5_add) := goodIn_app (goodIn_of _ (by decide +kernel)) ggX1_dayByDay_X5_add
set_option maxRecDepth 20000 in
theorem ggX1_dayByDay_X1_spread : GoodIn wsX1_dayByDay wsX1_spread := goodIn_ca (goodIn_ca (goodIn_r _ [25, 2, 1, 26, 27, 28, 16, 29, 30, 31, 15, 17, 32, 33, 34, 6, 35, 8, 14, 36, 37, 38, 39, 40, 41, 42, 43, 9, 10, 11, 12, 13, 18, 19, 20, 48, 49, 50, 51, 52, 53, 54, 55] (by decide +kernel) (by decide +kernel)) (goodIn_sub (fun _ h => List.mem_cons_of_mem _ (List.mem_append_left _ (List.mem_append_right _ h))) (by decide +kernel))) (goodIn_sub (fun _ h => List.mem_cons_of_mem _ (List.mem_append_right _ h)) (by decide +kernel))
set_option maxRecDepth 20000 in
theorem gX1_dayByDay_X1_spread : GoodIn wsX1_dayByDay (wsV RX1 41 RX1 yX1_spread wsX1_spread) := goodIn_app (goodIn_of _ (by decide +kernel)) ggX1_dayByDay_X1_spread
set_option maxRecDepth 20000 in
theorem ggX1_dayByDay_X5_copyFrom : GoodIn wsX1_dayByDay wsX5_copyFrom := goodIn_ca (goodIn_r _ [47, 8, 9, 54, 55] (by decide +kernel) (by decide +kernel)) (goodIn_sub (fun _ h => List.mem_cons_of_mem _ (List.mem_append_left _ (List.mem_append_right _ h))) (by decide +kernel))
set_option maxRecDepth 20000 in
theorem gX1_dayByDay_X5_copyFrom : GoodIn wsX1_dayByDay (wsV RX1 45 RX5 yX5_copyFrom wsX5_copyFrom) := goodIn_app (goodIn_of _ (by decide +kernel)) ggX1_dayByDay_X5_copyFrom
theorem dX1_dayByDay_0 : decode cX1_dayByDay 0 = .ok (.aload_n 0, 1) := by decide +kernel
theorem dX1_dayByDay_1 : decode cX1_dayByDay 1 = .ok (.getfield 12, 3) := by decide +kernel
theorem dX1_dayByDay_4 : decode cX1_dayByDay 4 = .ok (.invokevirtual 28, 3) := by decide +kernel
theorem dX1_dayByDay_7 : decode cX1_dayByDay 7 = .ok (.aload_n 0, 1) := by decide +kernel
theorem dX1_dayByDay_8 : decode cX1_dayByDay 8 = .ok (.getfield 12, 3) := by decide +kernel
theorem dX1_dayByDay_11 : decode cX1_dayByDay 11 = .ok (.aload_n 1, 1) := by decide +kernel
theorem dX1_dayByDay_12 : decode cX1_dayByDay 12 = .ok (.getfield 31, 3) := by decide +kernel
theorem dX1_dayByDay_15 : decode cX1_dayByDay 15 = .ok (.lconst 1, 1) := by decide +kernel
theorem dX1_dayByDay_16 : decode cX1_dayByDay 16 = .ok (.lconst 1, 1) := by decide +kernel
theorem dX1_dayByDay_17 : decode cX1_dayByDay 17 = .ok (.invokevirtual 37, 3) := by decide +kernel
theorem dX1_dayByDay_20 : decode cX1_dayByDay 20 = .ok (.iconst 0, 1) := by decide +kernel
theorem dX1_dayByDay_21 : decode cX1_dayByDay 21 = .ok (.istore_n 3, 1) := by decide +kernel
theorem dX1_dayByDay_22 : decode cX1_dayByDay 22 = .ok (.iload_n 3, 1) := by decide +kernel
theorem dX1_dayByDay_23 : decode cX1_dayByDay 23 = .ok (.iload_n 2, 1) := by decide +kernel
theorem dX1_dayByDay_24 : decode cX1_dayByDay 24 = .ok (.if_icmp .ge 54, 3) := by decide +kernel
theorem dX1_dayByDay_27 : decode cX1_dayByDay 27 = .ok (.iload_n 3, 1) := by decide +kernel
theorem dX1_dayByDay_28 : decode cX1_dayByDay 28 = .ok (.iconst 3, 1) := by decide +kernel
theorem dX1_dayByDay_29 : decode cX1_dayByDay 29 = .ok (.if_icmp .ge 49, 3) := by decide +kernel
theorem dX1_dayByDay_32 : decode cX1_dayByDay 32 = .ok (.aload_n 0, 1) := by decide +kernel
theorem dX1_dayByDay_33 : decode cX1_dayByDay 33 = .ok (.getfield 18, 3) := by decide +kernel
theorem dX1_dayByDay_36 : decode cX1_dayByDay 36 = .ok (.invokevirtual 28, 3) := by decide +kernel
theorem dX1_dayByDay_39 : decode cX1_dayByDay 39 = .ok (.iconst 0, 1) := by decide +kernel
theorem dX1_dayByDay_40 : decode cX1_dayByDay 40 = .ok (.istore 4, 2) := by decide +kernel
theorem dX1_dayByDay_42 : decode cX1_dayByDay 42 = .ok (.iload 4, 2) := by decide +kernel
theorem dX1_dayByDay_44 : decode cX1_dayByDay 44 = .ok (.iconst 4, 1) := by decide +kernel
theorem dX1_dayByDay_45 : decode cX1_dayByDay 45 = .ok (.if_icmp .ge 16, 3) := by decide +kernel
theorem dX1_dayByDay_48 : decode cX1_dayByDay 48 = .ok (.aload_n 0, 1) := by decide +kernel
theorem dX1_dayByDay_49 : decode cX1_dayByDay 49 = .ok (.aload_n 1, 1) := by decide +kernel
theorem dX1_dayByDay_50 : decode cX1_dayByDay 50 = .ok (.iload 4, 2) := by decide +kernel
theorem dX1_dayByDay_52 : decode cX1_dayByDay 52 = .ok (.invokevirtual 41, 3) := by decide +kernel
theorem dX1_dayByDay_55 : decode cX1_dayByDay 55 = .ok (.iinc 4 1, 3) := by decide +kernel
theorem dX1_dayByDay_58 : decode cX1_dayByDay 58 = .ok (.goto (-16), 3) := by decide +kernel
theorem dX1_dayByDay_61 : decode cX1_dayByDay 61 = .ok (.aload_n 0, 1) := by decide +kernel
theorem dX1_dayByDay_62 : decode cX1_dayByDay 62 = .ok (.getfield 12, 3) := by decide +kernel
theorem dX1_dayByDay_65 : decode cX1_dayByDay 65 = .ok (.aload_n 0, 1) := by decide +kernel
theorem dX1_dayByDay_66 : decode cX1_dayByDay 66 = .ok (.getfield 18, 3) := by decide +kernel
theorem dX1_dayByDay_69 : decode cX1_dayByDay 69 = .ok (.invokevirtual 45, 3) := by decide +kernel
theorem dX1_dayByDay_72 : decode cX1_dayByDay 72 = .ok (.iinc 3 1, 3) := by decide +kernel
theorem dX1_dayByDay_75 : decode cX1_dayByDay 75 = .ok (.goto (-53), 3) := by decide +kernel
theorem dX1_dayByDay_78 : decode cX1_dayByDay 78 = .ok (.aload_n 0, 1) := by decide +kernel
theorem dX1_dayByDay_79 : decode cX1_dayByDay 79 = .ok (.getfield 12, 3) := by decide +kernel
theorem dX1_dayByDay_82 : decode cX1_dayByDay 82 = .ok (.areturn, 1) := by decide +kernel
set_option maxRecDepth 20000 in
theorem ggX1_spread_X2_weightSum : GoodIn wsX1_spread wsX2_weightSum := goodIn_ca (goodIn_r _ [7, 8, 9, 10, 6, 11, 39, 40] (by decide +kernel) (by decide +kernel)) (goodIn_sub (fun _ h => List.mem_cons_of_mem _ (List.mem_append_left _ (List.mem_append_right _ h))) (by decide +kernel))
set_option maxRecDepth 20000 in
theorem gX1_spread_X2_weightSum : GoodIn wsX1_spread (wsV RX1 49 RX2 yX2_weightSum wsX2_weightSum) := goodIn_app (goodIn_of _ (by decide +kernel)) ggX1_spread_X2_weightSum
set_option maxRecDepth 20000 in
theorem ggX1_spread_X5_numerator : GoodIn wsX1_spread wsX5_numerator := goodIn_ca (goodIn_r _ [16, 17, 18, 10, 6, 11, 41, 42] (by decide +kernel) (by decide +kernel)) (goodIn_sub (fun _ h => List.mem_cons_of_mem _ (List.mem_append_left _ (List.mem_append_right _ h))) (by decide +kernel))
set_option maxRecDepth 20000 in
theorem gX1_spread_X5_numerator : GoodIn wsX1_spread (wsV RX1 53 RX5 yX5_numerator wsX5_numerator) := goodIn_app (goodIn_of _ (by decide +kernel)) ggX1_spread_X5_numerator
set_option maxRecDepth 20000 in
theorem ggX1_spread_X2_weight : GoodIn wsX1_spread wsX2_weight := goodIn_ca (goodIn_r _ [22, 8, 9, 10, 6, 11, 39, 40] (by decide +kernel) (by decide +kernel)) (goodIn_sub (fun _ h => List.mem_cons_of_mem _ (List.mem_append_left _ (List.mem_append_right _ h))) (by decide +kernel))
set_option maxRecDepth 20000 in
theorem gX1_spread_X2_weight : GoodIn wsX1_spread (wsV RX1 57 RX2 yX2_weight wsX2_weight) := goodIn_app (goodIn_of _ (by decide +kernel)) ggX1_spread_X2_weight
set_option maxRecDepth 20000 in
theorem ggX1_spread_X5_denominator : GoodIn wsX1_spread wsX5_denominator := goodIn_ca (goodIn_r _ [26, 27, 18, 10, 6, 11, 41, 42] (by decide +kernel) (by decide +kernel)) (goodIn_sub (fun _ h => List.mem_cons_of_mem _ (List.mem_append_left _ (List.mem_append_right _ h))) (by decide +kernel))
set_option maxRecDepth 20000 in
theorem gX1_spread_X5_denominator : GoodIn wsX1_spread (wsV RX1 61 RX5 yX5_denominator wsX5_denominator) := goodIn_app (goodIn_of _ (by decide +kernel)) ggX1_spread_X5_denominator
set_option maxRecDepth 20000 in
theorem ggX1_spread_X5_add : GoodIn wsX1_spread wsX5_add := goodIn_ca (goodIn_ca (goodIn_r _ [31, 27, 17, 18, 10, 6, 11, 32, 33, 15, 34, 41, 42] (by decide +kernel) (by decide +kernel)) (goodIn_sub (fun _ h => List.mem_cons_of_mem _ (List.mem_append_left _ (List.mem_append_right _ h))) (by decide +kernel))) (goodIn_sub (fun _ h => List.mem_cons_of_mem _ (List.mem_append_right _ h)) (by decide +kernel))
set_option maxRecDepth 20000 in
theorem gX1_spread_X5_add : GoodIn wsX1_spread (wsV RX1 37 RX5 yX5_add wsX5_add) := goodIn_app (goodIn_of _ (by decide +kernel)) ggX1_spread_X5_add
theorem dX1_spread_0 : decode cX1_spread 0 = .ok (.aload_n 1, 1) := by decide +kernel
theorem dX1_spread_1 : decode cX1_spread 1 = .ok (.iload_n 2, 1) := by decide +kernel
theorem dX1_spread_2 : decode cX1_spread 2 = .ok (.invokevirtual 49, 3) := by decide +kernel
theorem dX1_spread_5 : decode cX1_spread 5 = .ok (.istore_n 3, 1) := by decide +kernel
theorem dX1_spread_6 : decode cX1_spread 6 = .ok (.iconst 0, 1) := by decide +kernel
theorem dX1_spread_7 : decode cX1_spread 7 = .ok (.istore 4, 2) := by decide +kernel
theorem dX1_spread_9 : decode cX1_spread 9 = .ok (.iload 4, 2) := by decide +kernel
theorem dX1_spread_11 : decode cX1_spread 11 = .ok (.iconst 4, 1) := by decide +kernel
theorem dX1_spread_12 : decode cX1_spread 12 = .ok (.if_icmp .ge 46, 3) := by decide +kernel
theorem dX1_spread_15 : decode cX1_spread 15 = .ok (.aload_n 0, 1) := by decide +kernel
theorem dX1_spread_16 : decode cX1_spread 16 = .ok (.getfield 18, 3) := by decide +kernel
theorem dX1_spread_19 : decode cX1_spread 19 = .ok (.iload 4, 2) := by decide +kernel
theorem dX1_spread_21 : decode cX1_spread 21 = .ok (.aload_n 0, 1) := by decide +kernel
theorem dX1_spread_22 : decode cX1_spread 22 = .ok (.getfield 12, 3) := by decide +kernel
theorem dX1_spread_25 : decode cX1_spread 25 = .ok (.iload_n 2, 1) := by decide +kernel
theorem dX1_spread_26 : decode cX1_spread 26 = .ok (.invokevirtual 53, 3) := by decide +kernel
theorem dX1_spread_29 : decode cX1_spread 29 = .ok (.aload_n 1, 1) := by decide +kernel
theorem dX1_spread_30 : decode cX1_spread 30 = .ok (.iload_n 2, 1) := by decide +kernel
theorem dX1_spread_31 : decode cX1_spread 31 = .ok (.iload 4, 2) := by decide +kernel
theorem dX1_spread_33 : decode cX1_spread 33 = .ok (.invokevirtual 57, 3) := by decide +kernel
theorem dX1_spread_36 : decode cX1_spread 36 = .ok (.i2l, 1) := by decide +kernel
theorem dX1_spread_37 : decode cX1_spread 37 = .ok (.lmul, 1) := by decide +kernel
theorem dX1_spread_38 : decode cX1_spread 38 = .ok (.aload_n 0, 1) := by decide +kernel
theorem dX1_spread_39 : decode cX1_spread 39 = .ok (.getfield 12, 3) := by decide +kernel
theorem dX1_spread_42 : decode cX1_spread 42 = .ok (.iload_n 2, 1) := by decide +kernel
theorem dX1_spread_43 : decode cX1_spread 43 = .ok (.invokevirtual 61, 3) := by decide +kernel
theorem dX1_spread_46 : decode cX1_spread 46 = .ok (.iload_n 3, 1) := by decide +kernel
theorem dX1_spread_47 : decode cX1_spread 47 = .ok (.i2l, 1) := by decide +kernel
theorem dX1_spread_48 : decode cX1_spread 48 = .ok (.lmul, 1) := by decide +kernel
theorem dX1_spread_49 : decode cX1_spread 49 = .ok (.invokevirtual 37, 3) := by decide +kernel
theorem dX1_spread_52 : decode cX1_spread 52 = .ok (.iinc 4 1, 3) := by decide +kernel
theorem dX1_spread_55 : decode cX1_spread 55 = .ok (.goto (-46), 3) := by decide +kernel
theorem dX1_spread_58 : decode cX1_spread 58 = .ok (.return_, 1) := by decide +kernel
set_option maxRecDepth 20000 in
theorem ggX1_branchByBranch_X5_clear : GoodIn wsX1_branchByBranch wsX5_clear := goodIn_ca (goodIn_r _ [7, 8, 9, 41, 42] (by decide +kernel) (by decide +kernel)) (goodIn_sub (fun _ h => List.mem_cons_of_mem _ (List.mem_append_left _ (List.mem_append_right _ h))) (by decide +kernel))
set_option maxRecDepth 20000 in
theorem gX1_branchByBranch_X5_clear : GoodIn wsX1_branchByBranch (wsV RX1 28 RX5 yX5_clear wsX5_clear) := goodIn_app (goodIn_of _ (by decide +kernel)) ggX1_branchByBranch_X5_clear
set_option maxRecDepth 20000 in
theorem ggX1_branchByBranch_X1_follow : GoodIn wsX1_branchByBranch wsX1_follow := goodIn_ca (goodIn_ca (goodIn_r _ [14, 1, 2, 15, 16, 17, 18, 19, 20, 21, 22, 23, 24, 25, 26, 27, 28, 29, 30, 31, 6, 32, 9, 8, 33, 34, 35, 36, 43, 44, 37, 38, 39, 40, 41, 42] (by decide +kernel) (by decide +kernel)) (goodIn_sub (fun _ h => List.mem_cons_of_mem _ (List.mem_append_left _ (List.mem_append_right _ h))) (by decide +kernel))) (goodIn_sub (fun _ h => List.mem_cons_of_mem _ (List.mem_append_right _ h)) (by decide +kernel))
set_option maxRecDepth 20000 in
theorem gX1_branchByBranch_X1_follow : GoodIn wsX1_branchByBranch (wsV RX1 64 RX1 yX1_follow wsX1_follow) := goodIn_app (goodIn_of _ (by decide +kernel)) ggX1_branchByBranch_X1_follow
theorem dX1_branchByBranch_0 : decode cX1_branchByBranch 0 = .ok (.aload_n 0, 1) := by decide +kernel
theorem dX1_branchByBranch_1 : decode cX1_branchByBranch 1 = .ok (.getfield 21, 3) := by decide +kernel
theorem dX1_branchByBranch_4 : decode cX1_branchByBranch 4 = .ok (.invokevirtual 28, 3) := by decide +kernel
theorem dX1_branchByBranch_7 : decode cX1_branchByBranch 7 = .ok (.iconst 1, 1) := by decide +kernel
theorem dX1_branchByBranch_8 : decode cX1_branchByBranch 8 = .ok (.istore_n 3, 1) := by decide +kernel
theorem dX1_branchByBranch_9 : decode cX1_branchByBranch 9 = .ok (.iconst 0, 1) := by decide +kernel
theorem dX1_branchByBranch_10 : decode cX1_branchByBranch 10 = .ok (.istore 4, 2) := by decide +kernel
theorem dX1_branchByBranch_12 : decode cX1_branchByBranch 12 = .ok (.iload 4, 2) := by decide +kernel
theorem dX1_branchByBranch_14 : decode cX1_branchByBranch 14 = .ok (.iload_n 2, 1) := by decide +kernel
theorem dX1_branchByBranch_15 : decode cX1_branchByBranch 15 = .ok (.if_icmp .ge 19, 3) := by decide +kernel
theorem dX1_branchByBranch_18 : decode cX1_branchByBranch 18 = .ok (.iload 4, 2) := by decide +kernel
theorem dX1_branchByBranch_20 : decode cX1_branchByBranch 20 = .ok (.iconst 3, 1) := by decide +kernel
theorem dX1_branchByBranch_21 : decode cX1_branchByBranch 21 = .ok (.if_icmp .ge 13, 3) := by decide +kernel
theorem dX1_branchByBranch_24 : decode cX1_branchByBranch 24 = .ok (.iload_n 3, 1) := by decide +kernel
theorem dX1_branchByBranch_25 : decode cX1_branchByBranch 25 = .ok (.iconst 4, 1) := by decide +kernel
theorem dX1_branchByBranch_26 : decode cX1_branchByBranch 26 = .ok (.imul, 1) := by decide +kernel
theorem dX1_branchByBranch_27 : decode cX1_branchByBranch 27 = .ok (.istore_n 3, 1) := by decide +kernel
theorem dX1_branchByBranch_28 : decode cX1_branchByBranch 28 = .ok (.iinc 4 1, 3) := by decide +kernel
theorem dX1_branchByBranch_31 : decode cX1_branchByBranch 31 = .ok (.goto (-19), 3) := by decide +kernel
theorem dX1_branchByBranch_34 : decode cX1_branchByBranch 34 = .ok (.iconst 0, 1) := by decide +kernel
theorem dX1_branchByBranch_35 : decode cX1_branchByBranch 35 = .ok (.istore 4, 2) := by decide +kernel
theorem dX1_branchByBranch_37 : decode cX1_branchByBranch 37 = .ok (.iload 4, 2) := by decide +kernel
theorem dX1_branchByBranch_39 : decode cX1_branchByBranch 39 = .ok (.iconst 4, 1) := by decide +kernel
theorem dX1_branchByBranch_40 : decode cX1_branchByBranch 40 = .ok (.if_icmp .ge 17, 3) := by decide +kernel
theorem dX1_branchByBranch_43 : decode cX1_branchByBranch 43 = .ok (.aload_n 0, 1) := by decide +kernel
theorem dX1_branchByBranch_44 : decode cX1_branchByBranch 44 = .ok (.getfield 24, 3) := by decide +kernel
theorem dX1_branchByBranch_47 : decode cX1_branchByBranch 47 = .ok (.iload 4, 2) := by decide +kernel
theorem dX1_branchByBranch_49 : decode cX1_branchByBranch 49 = .ok (.iconst 0, 1) := by decide +kernel
theorem dX1_branchByBranch_50 : decode cX1_branchByBranch 50 = .ok (.iastore, 1) := by decide +kernel
theorem dX1_branchByBranch_51 : decode cX1_branchByBranch 51 = .ok (.iinc 4 1, 3) := by decide +kernel
theorem dX1_branchByBranch_54 : decode cX1_branchByBranch 54 = .ok (.goto (-17), 3) := by decide +kernel
theorem dX1_branchByBranch_57 : decode cX1_branchByBranch 57 = .ok (.iconst 0, 1) := by decide +kernel
theorem dX1_branchByBranch_58 : decode cX1_branchByBranch 58 = .ok (.istore 4, 2) := by decide +kernel
theorem dX1_branchByBranch_60 : decode cX1_branchByBranch 60 = .ok (.iload 4, 2) := by decide +kernel
theorem dX1_branchByBranch_62 : decode cX1_branchByBranch 62 = .ok (.iload_n 3, 1) := by decide +kernel
theorem dX1_branchByBranch_63 : decode cX1_branchByBranch 63 = .ok (.if_icmp .ge 17, 3) := by decide +kernel
theorem dX1_branchByBranch_66 : decode cX1_branchByBranch 66 = .ok (.aload_n 0, 1) := by decide +kernel
theorem dX1_branchByBranch_67 : decode cX1_branchByBranch 67 = .ok (.aload_n 1, 1) := by decide +kernel
theorem dX1_branchByBranch_68 : decode cX1_branchByBranch 68 = .ok (.iload_n 2, 1) := by decide +kernel
theorem dX1_branchByBranch_69 : decode cX1_branchByBranch 69 = .ok (.iload 4, 2) := by decide +kernel
theorem dX1_branchByBranch_71 : decode cX1_branchByBranch 71 = .ok (.invokevirtual 64, 3) := by decide +kernel
theorem dX1_branchByBranch_74 : decode cX1_branchByBranch 74 = .ok (.iinc 4 1, 3) := by decide +kernel
theorem dX1_branchByBranch_77 : decode cX1_branchByBranch 77 = .ok (.goto (-17), 3) := by decide +kernel
theorem dX1_branchByBranch_80 : decode cX1_branchByBranch 80 = .ok (.aload_n 0, 1) := by decide +kernel
theorem dX1_branchByBranch_81 : decode cX1_branchByBranch 81 = .ok (.getfield 21, 3) := by decide +kernel
theorem dX1_branchByBranch_84 : decode cX1_branchByBranch 84 = .ok (.areturn, 1) := by decide +kernel
set_option maxRecDepth 20000 in
theorem ggX1_follow_X2_weight : GoodIn wsX1_follow wsX2_weight := goodIn_ca (goodIn_r _ [7, 8, 9, 10, 6, 11, 28, 29] (by decide +kernel) (by decide +kernel)) (goodIn_sub (fun _ h => List.mem_cons_of_mem _ (List.mem_append_left _ (List.mem_append_right _ h))) (by decide +kernel))
set_option maxRecDepth 20000 in
theorem gX1_follow_X2_weight : GoodIn wsX1_follow (wsV RX1 57 RX2 yX2_weight wsX2_weight) := goodIn_app (goodIn_of _ (by decide +kernel)) ggX1_follow_X2_weight
set_option maxRecDepth 20000 in
theorem ggX1_follow_X2_weightSum : GoodIn wsX1_follow wsX2_weightSum := goodIn_ca (goodIn_r _ [15, 8, 9, 10, 6, 11, 28, 29] (by decide +kernel) (by decide +kernel)) (goodIn_sub (fun _ h => List.mem_cons_of_mem _ (List.mem_append_left _ (List.mem_append_right _ h))) (by decide +kernel))
set_option maxRecDepth 20000 in
theorem gX1_follow_X2_weightSum : GoodIn wsX1_follow (wsV RX1 49 RX2 yX2_weightSum wsX2_weightSum) := goodIn_app (goodIn_of _ (by decide +kernel)) ggX1_follow_X2_weightSum
set_option maxRecDepth 20000 in
theorem ggX1_follow_X2_isWeather : GoodIn wsX1_follow wsX2_isWeather := goodIn_r _ [11] (by decide +kernel) (by decide +kernel)
set_option maxRecDepth 20000 in
theorem gX1_follow_X2_isWeather : GoodIn wsX1_follow (va_wsS RX1 68 yX2_isWeather wsX2_isWeather) := goodIn_app (goodIn_of _ (by decide +kernel)) ggX1_follow_X2_isWeather
set_option maxRecDepth 20000 in
theorem ggX1_follow_X5_add : GoodIn wsX1_follow wsX5_add := goodIn_ca (goodIn_ca (goodIn_r _ [21, 22, 23, 24, 10, 6, 11, 25, 26, 20, 27, 34, 35] (by decide +kernel) (by decide +kernel)) (goodIn_sub (fun _ h => List.mem_cons_of_mem _ (List.mem_append_left _ (List.mem_append_right _ h))) (by decide +kernel))) (goodIn_sub (fun _ h => List.mem_cons_of_mem _ (List.mem_append_right _ h)) (by decide +kernel))
set_option maxRecDepth 20000 in
theorem gX1_follow_X5_add : GoodIn wsX1_follow (wsV RX1 37 RX5 yX5_add wsX5_add) := goodIn_app (goodIn_of _ (by decide +kernel)) ggX1_follow_X5_add
theorem dX1_follow_0 : decode cX1_follow 0 = .ok (.aload_n 1, 1) := by decide +kernel
theorem dX1_follow_1 : decode cX1_follow 1 = .ok (.getfield 31, 3) := by decide +kernel
theorem dX1_follow_4 : decode cX1_follow 4 = .ok (.istore 4, 2) := by decide +kernel
theorem dX1_follow_6 : decode cX1_follow 6 = .ok (.lconst 1, 1) := by decide +kernel
theorem dX1_follow_7 : decode cX1_follow 7 = .ok (.lstore 5, 2) := by decide +kernel
theorem dX1_follow_9 : decode cX1_follow 9 = .ok (.lconst 1, 1) := by decide +kernel
theorem dX1_follow_10 : decode cX1_follow 10 = .ok (.lstore 7, 2) := by decide +kernel
theorem dX1_follow_12 : decode cX1_follow 12 = .ok (.iload_n 3, 1) := by decide +kernel
theorem dX1_follow_13 : decode cX1_follow 13 = .ok (.istore 9, 2) := by decide +kernel
theorem dX1_follow_15 : decode cX1_follow 15 = .ok (.iconst 0, 1) := by decide +kernel
theorem dX1_follow_16 : decode cX1_follow 16 = .ok (.istore 10, 2) := by decide +kernel
theorem dX1_follow_18 : decode cX1_follow 18 = .ok (.iload 10, 2) := by decide +kernel
theorem dX1_follow_20 : decode cX1_follow 20 = .ok (.iload_n 2, 1) := by decide +kernel
theorem dX1_follow_21 : decode cX1_follow 21 = .ok (.if_icmp .ge 57, 3) := by decide +kernel
theorem dX1_follow_24 : decode cX1_follow 24 = .ok (.iload 10, 2) := by decide +kernel
theorem dX1_follow_26 : decode cX1_follow 26 = .ok (.iconst 3, 1) := by decide +kernel
theorem dX1_follow_27 : decode cX1_follow 27 = .ok (.if_icmp .ge 51, 3) := by decide +kernel
theorem dX1_follow_30 : decode cX1_follow 30 = .ok (.iload 9, 2) := by decide +kernel
theorem dX1_follow_32 : decode cX1_follow 32 = .ok (.iconst 4, 1) := by decide +kernel
theorem dX1_follow_33 : decode cX1_follow 33 = .ok (.irem, 1) := by decide +kernel
theorem dX1_follow_34 : decode cX1_follow 34 = .ok (.istore 11, 2) := by decide +kernel
theorem dX1_follow_36 : decode cX1_follow 36 = .ok (.iload 9, 2) := by decide +kernel
theorem dX1_follow_38 : decode cX1_follow 38 = .ok (.iconst 4, 1) := by decide +kernel
theorem dX1_follow_39 : decode cX1_follow 39 = .ok (.idiv, 1) := by decide +kernel
theorem dX1_follow_40 : decode cX1_follow 40 = .ok (.istore 9, 2) := by decide +kernel
theorem dX1_follow_42 : decode cX1_follow 42 = .ok (.lload 5, 2) := by decide +kernel
theorem dX1_follow_44 : decode cX1_follow 44 = .ok (.aload_n 1, 1) := by decide +kernel
theorem dX1_follow_45 : decode cX1_follow 45 = .ok (.iload 4, 2) := by decide +kernel
theorem dX1_follow_47 : decode cX1_follow 47 = .ok (.iload 11, 2) := by decide +kernel
theorem dX1_follow_49 : decode cX1_follow 49 = .ok (.invokevirtual 57, 3) := by decide +kernel
theorem dX1_follow_52 : decode cX1_follow 52 = .ok (.i2l, 1) := by decide +kernel
theorem dX1_follow_53 : decode cX1_follow 53 = .ok (.lmul, 1) := by decide +kernel
theorem dX1_follow_54 : decode cX1_follow 54 = .ok (.lstore 5, 2) := by decide +kernel
theorem dX1_follow_56 : decode cX1_follow 56 = .ok (.lload 7, 2) := by decide +kernel
theorem dX1_follow_58 : decode cX1_follow 58 = .ok (.aload_n 1, 1) := by decide +kernel
theorem dX1_follow_59 : decode cX1_follow 59 = .ok (.iload 4, 2) := by decide +kernel
theorem dX1_follow_61 : decode cX1_follow 61 = .ok (.invokevirtual 49, 3) := by decide +kernel
theorem dX1_follow_64 : decode cX1_follow 64 = .ok (.i2l, 1) := by decide +kernel
theorem dX1_follow_65 : decode cX1_follow 65 = .ok (.lmul, 1) := by decide +kernel
theorem dX1_follow_66 : decode cX1_follow 66 = .ok (.lstore 7, 2) := by decide +kernel
theorem dX1_follow_68 : decode cX1_follow 68 = .ok (.iload 11, 2) := by decide +kernel
theorem dX1_follow_70 : decode cX1_follow 70 = .ok (.istore 4, 2) := by decide +kernel
theorem dX1_follow_72 : decode cX1_follow 72 = .ok (.iinc 10 1, 3) := by decide +kernel
theorem dX1_follow_75 : decode cX1_follow 75 = .ok (.goto (-57), 3) := by decide +kernel
theorem dX1_follow_78 : decode cX1_follow 78 = .ok (.lload 5, 2) := by decide +kernel
theorem dX1_follow_80 : decode cX1_follow 80 = .ok (.lconst 0, 1) := by decide +kernel
theorem dX1_follow_81 : decode cX1_follow 81 = .ok (.lcmp, 1) := by decide +kernel
theorem dX1_follow_82 : decode cX1_follow 82 = .ok (.ifCond .le 35, 3) := by decide +kernel
theorem dX1_follow_85 : decode cX1_follow 85 = .ok (.iload 4, 2) := by decide +kernel
theorem dX1_follow_87 : decode cX1_follow 87 = .ok (.invokestatic 68, 3) := by decide +kernel
theorem dX1_follow_90 : decode cX1_follow 90 = .ok (.ifCond .eq 27, 3) := by decide +kernel
theorem dX1_follow_93 : decode cX1_follow 93 = .ok (.aload_n 0, 1) := by decide +kernel
theorem dX1_follow_94 : decode cX1_follow 94 = .ok (.getfield 21, 3) := by decide +kernel
theorem dX1_follow_97 : decode cX1_follow 97 = .ok (.iload 4, 2) := by decide +kernel
theorem dX1_follow_99 : decode cX1_follow 99 = .ok (.lload 5, 2) := by decide +kernel
theorem dX1_follow_101 : decode cX1_follow 101 = .ok (.lload 7, 2) := by decide +kernel
theorem dX1_follow_103 : decode cX1_follow 103 = .ok (.invokevirtual 37, 3) := by decide +kernel
theorem dX1_follow_106 : decode cX1_follow 106 = .ok (.aload_n 0, 1) := by decide +kernel
theorem dX1_follow_107 : decode cX1_follow 107 = .ok (.getfield 24, 3) := by decide +kernel
theorem dX1_follow_110 : decode cX1_follow 110 = .ok (.iload 4, 2) := by decide +kernel
theorem dX1_follow_112 : decode cX1_follow 112 = .ok (.dup2, 1) := by decide +kernel
theorem dX1_follow_113 : decode cX1_follow 113 = .ok (.iaload, 1) := by decide +kernel
theorem dX1_follow_114 : decode cX1_follow 114 = .ok (.iconst 1, 1) := by decide +kernel
theorem dX1_follow_115 : decode cX1_follow 115 = .ok (.iadd, 1) := by decide +kernel
theorem dX1_follow_116 : decode cX1_follow 116 = .ok (.iastore, 1) := by decide +kernel
theorem dX1_follow_117 : decode cX1_follow 117 = .ok (.return_, 1) := by decide +kernel
set_option maxRecDepth 20000 in
theorem ggX1_sequencesTo_X2_isWeather : GoodIn wsX1_sequencesTo wsX2_isWeather := goodIn_r _ [5] (by decide +kernel) (by decide +kernel)
set_option maxRecDepth 20000 in
theorem gX1_sequencesTo_X2_isWeather : GoodIn wsX1_sequencesTo (va_wsS RX1 68 yX2_isWeather wsX2_isWeather) := goodIn_app (goodIn_of _ (by decide +kernel)) ggX1_sequencesTo_X2_isWeather
theorem dX1_sequencesTo_0 : decode cX1_sequencesTo 0 = .ok (.iload_n 1, 1) := by decide +kernel
theorem dX1_sequencesTo_1 : decode cX1_sequencesTo 1 = .ok (.invokestatic 68, 3) := by decide +kernel
theorem dX1_sequencesTo_4 : decode cX1_sequencesTo 4 = .ok (.ifCond .eq 12, 3) := by decide +kernel
theorem dX1_sequencesTo_7 : decode cX1_sequencesTo 7 = .ok (.aload_n 0, 1) := by decide +kernel
theorem dX1_sequencesTo_8 : decode cX1_sequencesTo 8 = .ok (.getfield 24, 3) := by decide +kernel
theorem dX1_sequencesTo_11 : decode cX1_sequencesTo 11 = .ok (.iload_n 1, 1) := by decide +kernel
theorem dX1_sequencesTo_12 : decode cX1_sequencesTo 12 = .ok (.iaload, 1) := by decide +kernel
theorem dX1_sequencesTo_13 : decode cX1_sequencesTo 13 = .ok (.goto 4, 3) := by decide +kernel
theorem dX1_sequencesTo_16 : decode cX1_sequencesTo 16 = .ok (.iconst 0, 1) := by decide +kernel
theorem dX1_sequencesTo_17 : decode cX1_sequencesTo 17 = .ok (.ireturn, 1) := by decide +kernel
theorem dX2_init_0 : decode cX2_init 0 = .ok (.aload_n 0, 1) := by decide +kernel
theorem dX2_init_1 : decode cX2_init 1 = .ok (.invokespecial 3, 3) := by decide +kernel
theorem dX2_init_4 : decode cX2_init 4 = .ok (.aload_n 0, 1) := by decide +kernel
theorem dX2_init_5 : decode cX2_init 5 = .ok (.bipush 16, 2) := by decide +kernel
theorem dX2_init_7 : decode cX2_init 7 = .ok (.newarray .int, 2) := by decide +kernel
theorem dX2_init_9 : decode cX2_init 9 = .ok (.putfield 9, 3) := by decide +kernel
theorem dX2_init_12 : decode cX2_init 12 = .ok (.aload_n 0, 1) := by decide +kernel
theorem dX2_init_13 : decode cX2_init 13 = .ok (.iconst 0, 1) := by decide +kernel
theorem dX2_init_14 : decode cX2_init 14 = .ok (.putfield 15, 3) := by decide +kernel
theorem dX2_init_17 : decode cX2_init 17 = .ok (.iconst 0, 1) := by decide +kernel
theorem dX2_init_18 : decode cX2_init 18 = .ok (.istore_n 1, 1) := by decide +kernel
theorem dX2_init_19 : decode cX2_init 19 = .ok (.iload_n 1, 1) := by decide +kernel
theorem dX2_init_20 : decode cX2_init 20 = .ok (.bipush 16, 2) := by decide +kernel
theorem dX2_init_22 : decode cX2_init 22 = .ok (.if_icmp .ge 16, 3) := by decide +kernel
theorem dX2_init_25 : decode cX2_init 25 = .ok (.aload_n 0, 1) := by decide +kernel
theorem dX2_init_26 : decode cX2_init 26 = .ok (.getfield 9, 3) := by decide +kernel
theorem dX2_init_29 : decode cX2_init 29 = .ok (.iload_n 1, 1) := by decide +kernel
theorem dX2_init_30 : decode cX2_init 30 = .ok (.iconst 1, 1) := by decide +kernel
theorem dX2_init_31 : decode cX2_init 31 = .ok (.iastore, 1) := by decide +kernel
theorem dX2_init_32 : decode cX2_init 32 = .ok (.iinc 1 1, 3) := by decide +kernel
theorem dX2_init_35 : decode cX2_init 35 = .ok (.goto (-16), 3) := by decide +kernel
theorem dX2_init_38 : decode cX2_init 38 = .ok (.return_, 1) := by decide +kernel
theorem dX2_isWeather_0 : decode cX2_isWeather 0 = .ok (.iload_n 0, 1) := by decide +kernel
theorem dX2_isWeather_1 : decode cX2_isWeather 1 = .ok (.ifCond .lt 12, 3) := by decide +kernel
theorem dX2_isWeather_4 : decode cX2_isWeather 4 = .ok (.iload_n 0, 1) := by decide +kernel
theorem dX2_isWeather_5 : decode cX2_isWeather 5 = .ok (.iconst 4, 1) := by decide +kernel
theorem dX2_isWeather_6 : decode cX2_isWeather 6 = .ok (.if_icmp .ge 7, 3) := by decide +kernel
theorem dX2_isWeather_9 : decode cX2_isWeather 9 = .ok (.iconst 1, 1) := by decide +kernel
theorem dX2_isWeather_10 : decode cX2_isWeather 10 = .ok (.goto 4, 3) := by decide +kernel
theorem dX2_isWeather_13 : decode cX2_isWeather 13 = .ok (.iconst 0, 1) := by decide +kernel
theorem dX2_isWeather_14 : decode cX2_isWeather 14 = .ok (.ireturn, 1) := by decide +kernel
theorem dX2_isWeight_0 : decode cX2_isWeight 0 = .ok (.iload_n 0, 1) := by decide +kernel
theorem dX2_isWeight_1 : decode cX2_isWeight 1 = .ok (.ifCond .lt 12, 3) := by decide +kernel
theorem dX2_isWeight_4 : decode cX2_isWeight 4 = .ok (.iload_n 0, 1) := by decide +kernel
theorem dX2_isWeight_5 : decode cX2_isWeight 5 = .ok (.iconst 3, 1) := by decide +kernel
theorem dX2_isWeight_6 : decode cX2_isWeight 6 = .ok (.if_icmp .gt 7, 3) := by decide +kernel
theorem dX2_isWeight_9 : decode cX2_isWeight 9 = .ok (.iconst 1, 1) := by decide +kernel
theorem dX2_isWeight_10 : decode cX2_isWeight 10 = .ok (.goto 4, 3) := by decide +kernel
theorem dX2_isWeight_13 : decode cX2_isWeight 13 = .ok (.iconst 0, 1) := by decide +kernel
theorem dX2_isWeight_14 : decode cX2_isWeight 14 = .ok (.ireturn, 1) := by decide +kernel
theorem dX2_isAhead_0 : decode cX2_isAhead 0 = .ok (.iload_n 0, 1) := by decide +kernel
theorem dX2_isAhead_1 : decode cX2_isAhead 1 = .ok (.iconst 1, 1) := by decide +kernel
theorem dX2_isAhead_2 : decode cX2_isAhead 2 = .ok (.if_icmp .lt 12, 3) := by decide +kernel
theorem dX2_isAhead_5 : decode cX2_isAhead 5 = .ok (.iload_n 0, 1) := by decide +kernel
theorem dX2_isAhead_6 : decode cX2_isAhead 6 = .ok (.iconst 3, 1) := by decide +kernel
theorem dX2_isAhead_7 : decode cX2_isAhead 7 = .ok (.if_icmp .gt 7, 3) := by decide +kernel
theorem dX2_isAhead_10 : decode cX2_isAhead 10 = .ok (.iconst 1, 1) := by decide +kernel
theorem dX2_isAhead_11 : decode cX2_isAhead 11 = .ok (.goto 4, 3) := by decide +kernel
theorem dX2_isAhead_14 : decode cX2_isAhead 14 = .ok (.iconst 0, 1) := by decide +kernel
theorem dX2_isAhead_15 : decode cX2_isAhead 15 = .ok (.ireturn, 1) := by decide +kernel
theorem dX2_nameOf_0 : decode cX2_nameOf 0 = .ok (.iload_n 0, 1) := by decide +kernel
theorem dX2_nameOf_1 : decode cX2_nameOf 1 = .ok (.tableswitch 36 0 2 #[27, 30, 33], 27) := by decide +kernel
theorem dX2_nameOf_28 : decode cX2_nameOf 28 = .ok (.ldc 19, 2) := by decide +kernel
theorem dX2_nameOf_30 : decode cX2_nameOf 30 = .ok (.areturn, 1) := by decide +kernel
theorem dX2_nameOf_31 : decode cX2_nameOf 31 = .ok (.ldc 21, 2) := by decide +kernel
theorem dX2_nameOf_33 : decode cX2_nameOf 33 = .ok (.areturn, 1) := by decide +kernel
theorem dX2_nameOf_34 : decode cX2_nameOf 34 = .ok (.ldc 23, 2) := by decide +kernel
theorem dX2_nameOf_36 : decode cX2_nameOf 36 = .ok (.areturn, 1) := by decide +kernel
theorem dX2_nameOf_37 : decode cX2_nameOf 37 = .ok (.ldc 25, 2) := by decide +kernel
theorem dX2_nameOf_39 : decode cX2_nameOf 39 = .ok (.areturn, 1) := by decide +kernel
theorem dX2_copyFrom_0 : decode cX2_copyFrom 0 = .ok (.iconst 0, 1) := by decide +kernel
theorem dX2_copyFrom_1 : decode cX2_copyFrom 1 = .ok (.istore_n 2, 1) := by decide +kernel
theorem dX2_copyFrom_2 : decode cX2_copyFrom 2 = .ok (.iload_n 2, 1) := by decide +kernel
theorem dX2_copyFrom_3 : decode cX2_copyFrom 3 = .ok (.bipush 16, 2) := by decide +kernel
theorem dX2_copyFrom_5 : decode cX2_copyFrom 5 = .ok (.if_icmp .ge 21, 3) := by decide +kernel
theorem dX2_copyFrom_8 : decode cX2_copyFrom 8 = .ok (.aload_n 0, 1) := by decide +kernel
theorem dX2_copyFrom_9 : decode cX2_copyFrom 9 = .ok (.getfield 9, 3) := by decide +kernel
theorem dX2_copyFrom_12 : decode cX2_copyFrom 12 = .ok (.iload_n 2, 1) := by decide +kernel
theorem dX2_copyFrom_13 : decode cX2_copyFrom 13 = .ok (.aload_n 1, 1) := by decide +kernel
theorem dX2_copyFrom_14 : decode cX2_copyFrom 14 = .ok (.getfield 9, 3) := by decide +kernel
theorem dX2_copyFrom_17 : decode cX2_copyFrom 17 = .ok (.iload_n 2, 1) := by decide +kernel
theorem dX2_copyFrom_18 : decode cX2_copyFrom 18 = .ok (.iaload, 1) := by decide +kernel
theorem dX2_copyFrom_19 : decode cX2_copyFrom 19 = .ok (.iastore, 1) := by decide +kernel
theorem dX2_copyFrom_20 : decode cX2_copyFrom 20 = .ok (.iinc 2 1, 3) := by decide +kernel
theorem dX2_copyFrom_23 : decode cX2_copyFrom 23 = .ok (.goto (-21), 3) := by decide +kernel
theorem dX2_copyFrom_26 : decode cX2_copyFrom 26 = .ok (.aload_n 0, 1) := by decide +kernel
theorem dX2_copyFrom_27 : decode cX2_copyFrom 27 = .ok (.aload_n 1, 1) := by decide +kernel
theorem dX2_copyFrom_28 : decode cX2_copyFrom 28 = .ok (.getfield 15, 3) := by decide +kernel
theorem dX2_copyFrom_31 : decode cX2_copyFrom 31 = .ok (.putfield 15, 3) := by decide +kernel
theorem dX2_copyFrom_34 : decode cX2_copyFrom 34 = .ok (.return_, 1) := by decide +kernel
set_option maxRecDepth 20000 in
theorem ggX2_weight_X2_isWeather : GoodIn wsX2_weight wsX2_isWeather := goodIn_r _ [5] (by decide +kernel) (by decide +kernel)
set_option maxRecDepth 20000 in
theorem gX2_weight_X2_isWeather : GoodIn wsX2_weight (va_wsS RX2 27 yX2_isWeather wsX2_isWeather) := goodIn_app (goodIn_of _ (by decide +kernel)) ggX2_weight_X2_isWeather
theorem dX2_weight_0 : decode cX2_weight 0 = .ok (.iload_n 1, 1) := by decide +kernel
theorem dX2_weight_1 : decode cX2_weight 1 = .ok (.invokestatic 27, 3) := by decide +kernel
theorem dX2_weight_4 : decode cX2_weight 4 = .ok (.ifCond .eq 23, 3) := by decide +kernel
theorem dX2_weight_7 : decode cX2_weight 7 = .ok (.iload_n 2, 1) := by decide +kernel
theorem dX2_weight_8 : decode cX2_weight 8 = .ok (.invokestatic 27, 3) := by decide +kernel
theorem dX2_weight_11 : decode cX2_weight 11 = .ok (.ifCond .eq 16, 3) := by decide +kernel
theorem dX2_weight_14 : decode cX2_weight 14 = .ok (.aload_n 0, 1) := by decide +kernel
theorem dX2_weight_15 : decode cX2_weight 15 = .ok (.getfield 9, 3) := by decide +kernel
theorem dX2_weight_18 : decode cX2_weight 18 = .ok (.iload_n 1, 1) := by decide +kernel
theorem dX2_weight_19 : decode cX2_weight 19 = .ok (.iconst 4, 1) := by decide +kernel
theorem dX2_weight_20 : decode cX2_weight 20 = .ok (.imul, 1) := by decide +kernel
theorem dX2_weight_21 : decode cX2_weight 21 = .ok (.iload_n 2, 1) := by decide +kernel
theorem dX2_weight_22 : decode cX2_weight 22 = .ok (.iadd, 1) := by decide +kernel
theorem dX2_weight_23 : decode cX2_weight 23 = .ok (.iaload, 1) := by decide +kernel
theorem dX2_weight_24 : decode cX2_weight 24 = .ok (.goto 4, 3) := by decide +kernel
theorem dX2_weight_27 : decode cX2_weight 27 = .ok (.iconst 0, 1) := by decide +kernel
theorem dX2_weight_28 : decode cX2_weight 28 = .ok (.ireturn, 1) := by decide +kernel
set_option maxRecDepth 20000 in
theorem ggX2_putWeight_X2_isWeather : GoodIn wsX2_putWeight wsX2_isWeather := goodIn_r _ [5] (by decide +kernel) (by decide +kernel)
set_option maxRecDepth 20000 in
theorem gX2_putWeight_X2_isWeather : GoodIn wsX2_putWeight (va_wsS RX2 27 yX2_isWeather wsX2_isWeather) := goodIn_app (goodIn_of _ (by decide +kernel)) ggX2_putWeight_X2_isWeather
theorem dX2_putWeight_0 : decode cX2_putWeight 0 = .ok (.iload_n 1, 1) := by decide +kernel
theorem dX2_putWeight_1 : decode cX2_putWeight 1 = .ok (.invokestatic 27, 3) := by decide +kernel
theorem dX2_putWeight_4 : decode cX2_putWeight 4 = .ok (.ifCond .eq 21, 3) := by decide +kernel
theorem dX2_putWeight_7 : decode cX2_putWeight 7 = .ok (.iload_n 2, 1) := by decide +kernel
theorem dX2_putWeight_8 : decode cX2_putWeight 8 = .ok (.invokestatic 27, 3) := by decide +kernel
theorem dX2_putWeight_11 : decode cX2_putWeight 11 = .ok (.ifCond .eq 14, 3) := by decide +kernel
theorem dX2_putWeight_14 : decode cX2_putWeight 14 = .ok (.aload_n 0, 1) := by decide +kernel
theorem dX2_putWeight_15 : decode cX2_putWeight 15 = .ok (.getfield 9, 3) := by decide +kernel
theorem dX2_putWeight_18 : decode cX2_putWeight 18 = .ok (.iload_n 1, 1) := by decide +kernel
theorem dX2_putWeight_19 : decode cX2_putWeight 19 = .ok (.iconst 4, 1) := by decide +kernel
theorem dX2_putWeight_20 : decode cX2_putWeight 20 = .ok (.imul, 1) := by decide +kernel
theorem dX2_putWeight_21 : decode cX2_putWeight 21 = .ok (.iload_n 2, 1) := by decide +kernel
theorem dX2_putWeight_22 : decode cX2_putWeight 22 = .ok (.iadd, 1) := by decide +kernel
theorem dX2_putWeight_23 : decode cX2_putWeight 23 = .ok (.iload_n 3, 1) := by decide +kernel
theorem dX2_putWeight_24 : decode cX2_putWeight 24 = .ok (.iastore, 1) := by decide +kernel
theorem dX2_putWeight_25 : decode cX2_putWeight 25 = .ok (.return_, 1) := by decide +kernel
set_option maxRecDepth 20000 in
theorem ggX2_weightSum_X2_isWeather : GoodIn wsX2_weightSum wsX2_isWeather := goodIn_r _ [5] (by decide +kernel) (by decide +kernel)
set_option maxRecDepth 20000 in
theorem gX2_weightSum_X2_isWeather : GoodIn wsX2_weightSum (va_wsS RX2 27 yX2_isWeather wsX2_isWeather) := goodIn_app (goodIn_of _ (by decide +kernel)) ggX2_weightSum_X2_isWeather
theorem dX2_weightSum_0 : decode cX2_weightSum 0 = .ok (.iconst 0, 1) := by decide +kernel
theorem dX2_weightSum_1 : decode cX2_weightSum 1 = .ok (.istore_n 2, 1) := by decide +kernel
theorem dX2_weightSum_2 : decode cX2_weightSum 2 = .ok (.iconst 0, 1) := by decide +kernel
theorem dX2_weightSum_3 : decode cX2_weightSum 3 = .ok (.istore_n 3, 1) := by decide +kernel
theorem dX2_weightSum_4 : decode cX2_weightSum 4 = .ok (.iload_n 3, 1) := by decide +kernel
theorem dX2_weightSum_5 : decode cX2_weightSum 5 = .ok (.iconst 4, 1) := by decide +kernel
theorem dX2_weightSum_6 : decode cX2_weightSum 6 = .ok (.if_icmp .ge 29, 3) := by decide +kernel
theorem dX2_weightSum_9 : decode cX2_weightSum 9 = .ok (.iload_n 1, 1) := by decide +kernel
theorem dX2_weightSum_10 : decode cX2_weightSum 10 = .ok (.invokestatic 27, 3) := by decide +kernel
theorem dX2_weightSum_13 : decode cX2_weightSum 13 = .ok (.ifCond .eq 22, 3) := by decide +kernel
theorem dX2_weightSum_16 : decode cX2_weightSum 16 = .ok (.iload_n 2, 1) := by decide +kernel
theorem dX2_weightSum_17 : decode cX2_weightSum 17 = .ok (.aload_n 0, 1) := by decide +kernel
theorem dX2_weightSum_18 : decode cX2_weightSum 18 = .ok (.getfield 9, 3) := by decide +kernel
theorem dX2_weightSum_21 : decode cX2_weightSum 21 = .ok (.iload_n 1, 1) := by decide +kernel
theorem dX2_weightSum_22 : decode cX2_weightSum 22 = .ok (.iconst 4, 1) := by decide +kernel
theorem dX2_weightSum_23 : decode cX2_weightSum 23 = .ok (.imul, 1) := by decide +kernel
theorem dX2_weightSum_24 : decode cX2_weightSum 24 = .ok (.iload_n 3, 1) := by decide +kernel
theorem dX2_weightSum_25 : decode cX2_weightSum 25 = .ok (.iadd, 1) := by decide +kernel
theorem dX2_weightSum_26 : decode cX2_weightSum 26 = .ok (.iaload, 1) := by decide +kernel
theorem dX2_weightSum_27 : decode cX2_weightSum 27 = .ok (.iadd, 1) := by decide +kernel
theorem dX2_weightSum_28 : decode cX2_weightSum 28 = .ok (.istore_n 2, 1) := by decide +kernel
theorem dX2_weightSum_29 : decode cX2_weightSum 29 = .ok (.iinc 3 1, 3) := by decide +kernel
theorem dX2_weightSum_32 : decode cX2_weightSum 32 = .ok (.goto (-28), 3) := by decide +kernel
theorem dX2_weightSum_35 : decode cX2_weightSum 35 = .ok (.iload_n 2, 1) := by decide +kernel
theorem dX2_weightSum_36 : decode cX2_weightSum 36 = .ok (.ireturn, 1) := by decide +kernel
set_option maxRecDepth 20000 in
theorem ggX2_keepsAChange_X2_weightSum : GoodIn wsX2_keepsAChange wsX2_weightSum := goodIn_ca (goodIn_r _ [5, 6, 7, 8, 4, 9, 14, 15] (by decide +kernel) (by decide +kernel)) (goodIn_sub (fun _ h => List.mem_cons_of_mem _ (List.mem_append_right _ h)) (by decide +kernel))
set_option maxRecDepth 20000 in
theorem gX2_keepsAChange_X2_weightSum : GoodIn wsX2_keepsAChange (wsV RX2 31 RX2 yX2_weightSum wsX2_weightSum) := goodIn_app (goodIn_of _ (by decide +kernel)) ggX2_keepsAChange_X2_weightSum
set_option maxRecDepth 20000 in
theorem ggX2_keepsAChange_X2_weight : GoodIn wsX2_keepsAChange wsX2_weight := goodIn_ca (goodIn_r _ [13, 6, 7, 8, 4, 9, 14, 15] (by decide +kernel) (by decide +kernel)) (goodIn_sub (fun _ h => List.mem_cons_of_mem _ (List.mem_append_right _ h)) (by decide +kernel))
set_option maxRecDepth 20000 in
theorem gX2_keepsAChange_X2_weight : GoodIn wsX2_keepsAChange (wsV RX2 35 RX2 yX2_weight wsX2_weight) := goodIn_app (goodIn_of _ (by decide +kernel)) ggX2_keepsAChange_X2_weight
theorem dX2_keepsAChange_0 : decode cX2_keepsAChange 0 = .ok (.aload_n 0, 1) := by decide +kernel
theorem dX2_keepsAChange_1 : decode cX2_keepsAChange 1 = .ok (.iload_n 1, 1) := by decide +kernel
theorem dX2_keepsAChange_2 : decode cX2_keepsAChange 2 = .ok (.invokevirtual 31, 3) := by decide +kernel
theorem dX2_keepsAChange_5 : decode cX2_keepsAChange 5 = .ok (.aload_n 0, 1) := by decide +kernel
theorem dX2_keepsAChange_6 : decode cX2_keepsAChange 6 = .ok (.iload_n 1, 1) := by decide +kernel
theorem dX2_keepsAChange_7 : decode cX2_keepsAChange 7 = .ok (.iload_n 2, 1) := by decide +kernel
theorem dX2_keepsAChange_8 : decode cX2_keepsAChange 8 = .ok (.invokevirtual 35, 3) := by decide +kernel
theorem dX2_keepsAChange_11 : decode cX2_keepsAChange 11 = .ok (.isub, 1) := by decide +kernel
theorem dX2_keepsAChange_12 : decode cX2_keepsAChange 12 = .ok (.iload_n 3, 1) := by decide +kernel
theorem dX2_keepsAChange_13 : decode cX2_keepsAChange 13 = .ok (.iadd, 1) := by decide +kernel
theorem dX2_keepsAChange_14 : decode cX2_keepsAChange 14 = .ok (.ifCond .le 7, 3) := by decide +kernel
theorem dX2_keepsAChange_17 : decode cX2_keepsAChange 17 = .ok (.iconst 1, 1) := by decide +kernel
theorem dX2_keepsAChange_18 : decode cX2_keepsAChange 18 = .ok (.goto 4, 3) := by decide +kernel
theorem dX2_keepsAChange_21 : decode cX2_keepsAChange 21 = .ok (.iconst 0, 1) := by decide +kernel
theorem dX2_keepsAChange_22 : decode cX2_keepsAChange 22 = .ok (.ireturn, 1) := by decide +kernel
set_option maxRecDepth 20000 in
theorem ggX2_changeTo_X2_weight : GoodIn wsX2_changeTo wsX2_weight := goodIn_ca (goodIn_r _ [6, 7, 8, 9, 5, 10, 15, 16] (by decide +kernel) (by decide +kernel)) (goodIn_sub (fun _ h => List.mem_cons_of_mem _ (List.mem_append_right _ h)) (by decide +kernel))
set_option maxRecDepth 20000 in
theorem gX2_changeTo_X2_weight : GoodIn wsX2_changeTo (wsV RX2 35 RX2 yX2_weight wsX2_weight) := goodIn_app (goodIn_of _ (by decide +kernel)) ggX2_changeTo_X2_weight
set_option maxRecDepth 20000 in
theorem ggX2_changeTo_X2_putWeight : GoodIn wsX2_changeTo wsX2_putWeight := goodIn_ca (goodIn_r _ [14, 7, 8, 9, 5, 10, 15, 16] (by decide +kernel) (by decide +kernel)) (goodIn_sub (fun _ h => List.mem_cons_of_mem _ (List.mem_append_right _ h)) (by decide +kernel))
set_option maxRecDepth 20000 in
theorem gX2_changeTo_X2_putWeight : GoodIn wsX2_changeTo (wsV RX2 39 RX2 yX2_putWeight wsX2_putWeight) := goodIn_app (goodIn_of _ (by decide +kernel)) ggX2_changeTo_X2_putWeight
theorem dX2_changeTo_0 : decode cX2_changeTo 0 = .ok (.aload_n 0, 1) := by decide +kernel
theorem dX2_changeTo_1 : decode cX2_changeTo 1 = .ok (.aload_n 0, 1) := by decide +kernel
theorem dX2_changeTo_2 : decode cX2_changeTo 2 = .ok (.getfield 15, 3) := by decide +kernel
theorem dX2_changeTo_5 : decode cX2_changeTo 5 = .ok (.iload_n 1, 1) := by decide +kernel
theorem dX2_changeTo_6 : decode cX2_changeTo 6 = .ok (.invokevirtual 35, 3) := by decide +kernel
theorem dX2_changeTo_9 : decode cX2_changeTo 9 = .ok (.istore_n 2, 1) := by decide +kernel
theorem dX2_changeTo_10 : decode cX2_changeTo 10 = .ok (.iload_n 2, 1) := by decide +kernel
theorem dX2_changeTo_11 : decode cX2_changeTo 11 = .ok (.iconst 3, 1) := by decide +kernel
theorem dX2_changeTo_12 : decode cX2_changeTo 12 = .ok (.if_icmp .ge 15, 3) := by decide +kernel
theorem dX2_changeTo_15 : decode cX2_changeTo 15 = .ok (.aload_n 0, 1) := by decide +kernel
theorem dX2_changeTo_16 : decode cX2_changeTo 16 = .ok (.aload_n 0, 1) := by decide +kernel
theorem dX2_changeTo_17 : decode cX2_changeTo 17 = .ok (.getfield 15, 3) := by decide +kernel
theorem dX2_changeTo_20 : decode cX2_changeTo 20 = .ok (.iload_n 1, 1) := by decide +kernel
theorem dX2_changeTo_21 : decode cX2_changeTo 21 = .ok (.iload_n 2, 1) := by decide +kernel
theorem dX2_changeTo_22 : decode cX2_changeTo 22 = .ok (.iconst 1, 1) := by decide +kernel
theorem dX2_changeTo_23 : decode cX2_changeTo 23 = .ok (.iadd, 1) := by decide +kernel
theorem dX2_changeTo_24 : decode cX2_changeTo 24 = .ok (.invokevirtual 39, 3) := by decide +kernel
theorem dX2_changeTo_27 : decode cX2_changeTo 27 = .ok (.aload_n 0, 1) := by decide +kernel
theorem dX2_changeTo_28 : decode cX2_changeTo 28 = .ok (.iload_n 1, 1) := by decide +kernel
theorem dX2_changeTo_29 : decode cX2_changeTo 29 = .ok (.putfield 15, 3) := by decide +kernel
theorem dX2_changeTo_32 : decode cX2_changeTo 32 = .ok (.return_, 1) := by decide +kernel
theorem dX3_init_0 : decode cX3_init 0 = .ok (.aload_n 0, 1) := by decide +kernel
theorem dX3_init_1 : decode cX3_init 1 = .ok (.invokespecial 3, 3) := by decide +kernel
theorem dX3_init_4 : decode cX3_init 4 = .ok (.aload_n 0, 1) := by decide +kernel
theorem dX3_init_5 : decode cX3_init 5 = .ok (.bipush 60, 2) := by decide +kernel
theorem dX3_init_7 : decode cX3_init 7 = .ok (.newarray .char, 2) := by decide +kernel
theorem dX3_init_9 : decode cX3_init 9 = .ok (.putfield 9, 3) := by decide +kernel
theorem dX3_init_12 : decode cX3_init 12 = .ok (.aload_n 0, 1) := by decide +kernel
theorem dX3_init_13 : decode cX3_init 13 = .ok (.iconst 0, 1) := by decide +kernel
theorem dX3_init_14 : decode cX3_init 14 = .ok (.putfield 15, 3) := by decide +kernel
theorem dX3_init_17 : decode cX3_init 17 = .ok (.aload_n 0, 1) := by decide +kernel
theorem dX3_init_18 : decode cX3_init 18 = .ok (.iconst 0, 1) := by decide +kernel
theorem dX3_init_19 : decode cX3_init 19 = .ok (.putfield 19, 3) := by decide +kernel
theorem dX3_init_22 : decode cX3_init 22 = .ok (.aload_n 0, 1) := by decide +kernel
theorem dX3_init_23 : decode cX3_init 23 = .ok (.bipush 15, 2) := by decide +kernel
theorem dX3_init_25 : decode cX3_init 25 = .ok (.anewarray 22, 3) := by decide +kernel
theorem dX3_init_28 : decode cX3_init 28 = .ok (.putfield 24, 3) := by decide +kernel
theorem dX3_init_31 : decode cX3_init 31 = .ok (.aload_n 0, 1) := by decide +kernel
theorem dX3_init_32 : decode cX3_init 32 = .ok (.bipush 15, 2) := by decide +kernel
theorem dX3_init_34 : decode cX3_init 34 = .ok (.iconst 3, 1) := by decide +kernel
theorem dX3_init_35 : decode cX3_init 35 = .ok (.multianewarray 28 2, 4) := by decide +kernel
theorem dX3_init_39 : decode cX3_init 39 = .ok (.putfield 30, 3) := by decide +kernel
theorem dX3_init_42 : decode cX3_init 42 = .ok (.aload_n 0, 1) := by decide +kernel
theorem dX3_init_43 : decode cX3_init 43 = .ok (.iconst 0, 1) := by decide +kernel
theorem dX3_init_44 : decode cX3_init 44 = .ok (.putfield 33, 3) := by decide +kernel
theorem dX3_init_47 : decode cX3_init 47 = .ok (.iconst 0, 1) := by decide +kernel
theorem dX3_init_48 : decode cX3_init 48 = .ok (.istore_n 1, 1) := by decide +kernel
theorem dX3_init_49 : decode cX3_init 49 = .ok (.iload_n 1, 1) := by decide +kernel
theorem dX3_init_50 : decode cX3_init 50 = .ok (.bipush 15, 2) := by decide +kernel
theorem dX3_init_52 : decode cX3_init 52 = .ok (.if_icmp .ge 18, 3) := by decide +kernel
theorem dX3_init_55 : decode cX3_init 55 = .ok (.aload_n 0, 1) := by decide +kernel
theorem dX3_init_56 : decode cX3_init 56 = .ok (.getfield 24, 3) := by decide +kernel
theorem dX3_init_59 : decode cX3_init 59 = .ok (.iload_n 1, 1) := by decide +kernel
theorem dX3_init_60 : decode cX3_init 60 = .ok (.getstatic 36, 3) := by decide +kernel
theorem dX3_init_63 : decode cX3_init 63 = .ok (.aastore, 1) := by decide +kernel
theorem dX3_init_64 : decode cX3_init 64 = .ok (.iinc 1 1, 3) := by decide +kernel
theorem dX3_init_67 : decode cX3_init 67 = .ok (.goto (-18), 3) := by decide +kernel
theorem dX3_init_70 : decode cX3_init 70 = .ok (.return_, 1) := by decide +kernel
theorem dX3_hasRoom_0 : decode cX3_hasRoom 0 = .ok (.aload_n 0, 1) := by decide +kernel
theorem dX3_hasRoom_1 : decode cX3_hasRoom 1 = .ok (.getfield 15, 3) := by decide +kernel
theorem dX3_hasRoom_4 : decode cX3_hasRoom 4 = .ok (.ifCond .lt 16, 3) := by decide +kernel
theorem dX3_hasRoom_7 : decode cX3_hasRoom 7 = .ok (.aload_n 0, 1) := by decide +kernel
theorem dX3_hasRoom_8 : decode cX3_hasRoom 8 = .ok (.getfield 15, 3) := by decide +kernel
theorem dX3_hasRoom_11 : decode cX3_hasRoom 11 = .ok (.bipush 60, 2) := by decide +kernel
theorem dX3_hasRoom_13 : decode cX3_hasRoom 13 = .ok (.if_icmp .ge 7, 3) := by decide +kernel
theorem dX3_hasRoom_16 : decode cX3_hasRoom 16 = .ok (.iconst 1, 1) := by decide +kernel
theorem dX3_hasRoom_17 : decode cX3_hasRoom 17 = .ok (.goto 4, 3) := by decide +kernel
theorem dX3_hasRoom_20 : decode cX3_hasRoom 20 = .ok (.iconst 0, 1) := by decide +kernel
theorem dX3_hasRoom_21 : decode cX3_hasRoom 21 = .ok (.ireturn, 1) := by decide +kernel
set_option maxRecDepth 20000 in
theorem ggX3_append_X3_hasRoom : GoodIn wsX3_append wsX3_hasRoom := goodIn_r _ [7, 2, 8, 9, 10, 11, 12, 13] (by decide +kernel) (by decide +kernel)
set_option maxRecDepth 20000 in
theorem gX3_append_X3_hasRoom : GoodIn wsX3_append (wsV RX3 40 RX3 yX3_hasRoom wsX3_hasRoom) := goodIn_app (goodIn_of _ (by decide +kernel)) ggX3_append_X3_hasRoom
theorem dX3_append_0 : decode cX3_append 0 = .ok (.aload_n 0, 1) := by decide +kernel
theorem dX3_append_1 : decode cX3_append 1 = .ok (.invokevirtual 40, 3) := by decide +kernel
theorem dX3_append_4 : decode cX3_append 4 = .ok (.ifCond .eq 23, 3) := by decide +kernel
theorem dX3_append_7 : decode cX3_append 7 = .ok (.aload_n 0, 1) := by decide +kernel
theorem dX3_append_8 : decode cX3_append 8 = .ok (.getfield 9, 3) := by decide +kernel
theorem dX3_append_11 : decode cX3_append 11 = .ok (.aload_n 0, 1) := by decide +kernel
theorem dX3_append_12 : decode cX3_append 12 = .ok (.getfield 15, 3) := by decide +kernel
theorem dX3_append_15 : decode cX3_append 15 = .ok (.iload_n 1, 1) := by decide +kernel
theorem dX3_append_16 : decode cX3_append 16 = .ok (.castore, 1) := by decide +kernel
theorem dX3_append_17 : decode cX3_append 17 = .ok (.aload_n 0, 1) := by decide +kernel
theorem dX3_append_18 : decode cX3_append 18 = .ok (.dup, 1) := by decide +kernel
theorem dX3_append_19 : decode cX3_append 19 = .ok (.getfield 15, 3) := by decide +kernel
theorem dX3_append_22 : decode cX3_append 22 = .ok (.iconst 1, 1) := by decide +kernel
theorem dX3_append_23 : decode cX3_append 23 = .ok (.iadd, 1) := by decide +kernel
theorem dX3_append_24 : decode cX3_append 24 = .ok (.putfield 15, 3) := by decide +kernel
theorem dX3_append_27 : decode cX3_append 27 = .ok (.return_, 1) := by decide +kernel
theorem dX3_clear_0 : decode cX3_clear 0 = .ok (.aload_n 0, 1) := by decide +kernel
theorem dX3_clear_1 : decode cX3_clear 1 = .ok (.iconst 0, 1) := by decide +kernel
theorem dX3_clear_2 : decode cX3_clear 2 = .ok (.putfield 15, 3) := by decide +kernel
theorem dX3_clear_5 : decode cX3_clear 5 = .ok (.return_, 1) := by decide +kernel
set_option maxRecDepth 20000 in
theorem ggX3_kindAt_X3_isPlace : GoodIn wsX3_kindAt wsX3_isPlace := goodIn_r _ [6] (by decide +kernel) (by decide +kernel)
set_option maxRecDepth 20000 in
theorem gX3_kindAt_X3_isPlace : GoodIn wsX3_kindAt (va_wsS RX3 44 yX3_isPlace wsX3_isPlace) := goodIn_app (goodIn_of _ (by decide +kernel)) ggX3_kindAt_X3_isPlace
theorem dX3_kindAt_0 : decode cX3_kindAt 0 = .ok (.iload_n 1, 1) := by decide +kernel
theorem dX3_kindAt_1 : decode cX3_kindAt 1 = .ok (.invokestatic 44, 3) := by decide +kernel
theorem dX3_kindAt_4 : decode cX3_kindAt 4 = .ok (.ifCond .eq 12, 3) := by decide +kernel
theorem dX3_kindAt_7 : decode cX3_kindAt 7 = .ok (.aload_n 0, 1) := by decide +kernel
theorem dX3_kindAt_8 : decode cX3_kindAt 8 = .ok (.getfield 24, 3) := by decide +kernel
theorem dX3_kindAt_11 : decode cX3_kindAt 11 = .ok (.iload_n 1, 1) := by decide +kernel
theorem dX3_kindAt_12 : decode cX3_kindAt 12 = .ok (.aaload, 1) := by decide +kernel
theorem dX3_kindAt_13 : decode cX3_kindAt 13 = .ok (.goto 6, 3) := by decide +kernel
theorem dX3_kindAt_16 : decode cX3_kindAt 16 = .ok (.getstatic 36, 3) := by decide +kernel
theorem dX3_kindAt_19 : decode cX3_kindAt 19 = .ok (.areturn, 1) := by decide +kernel
set_option maxRecDepth 20000 in
theorem ggX3_valueAt_X3_isPlace : GoodIn wsX3_valueAt wsX3_isPlace := goodIn_r _ [5] (by decide +kernel) (by decide +kernel)
set_option maxRecDepth 20000 in
theorem gX3_valueAt_X3_isPlace : GoodIn wsX3_valueAt (va_wsS RX3 44 yX3_isPlace wsX3_isPlace) := goodIn_app (goodIn_of _ (by decide +kernel)) ggX3_valueAt_X3_isPlace
theorem dX3_valueAt_0 : decode cX3_valueAt 0 = .ok (.iload_n 1, 1) := by decide +kernel
theorem dX3_valueAt_1 : decode cX3_valueAt 1 = .ok (.invokestatic 44, 3) := by decide +kernel
theorem dX3_valueAt_4 : decode cX3_valueAt 4 = .ok (.ifCond .eq 23, 3) := by decide +kernel
theorem dX3_valueAt_7 : decode cX3_valueAt 7 = .ok (.iload_n 2, 1) := by decide +kernel
theorem dX3_valueAt_8 : decode cX3_valueAt 8 = .ok (.ifCond .lt 19, 3) := by decide +kernel
theorem dX3_valueAt_11 : decode cX3_valueAt 11 = .ok (.iload_n 2, 1) := by decide +kernel
theorem dX3_valueAt_12 : decode cX3_valueAt 12 = .ok (.iconst 3, 1) := by decide +kernel
theorem dX3_valueAt_13 : decode cX3_valueAt 13 = .ok (.if_icmp .ge 14, 3) := by decide +kernel
theorem dX3_valueAt_16 : decode cX3_valueAt 16 = .ok (.aload_n 0, 1) := by decide +kernel
theorem dX3_valueAt_17 : decode cX3_valueAt 17 = .ok (.getfield 30, 3) := by decide +kernel
theorem dX3_valueAt_20 : decode cX3_valueAt 20 = .ok (.iload_n 1, 1) := by decide +kernel
theorem dX3_valueAt_21 : decode cX3_valueAt 21 = .ok (.aaload, 1) := by decide +kernel
theorem dX3_valueAt_22 : decode cX3_valueAt 22 = .ok (.iload_n 2, 1) := by decide +kernel
theorem dX3_valueAt_23 : decode cX3_valueAt 23 = .ok (.iaload, 1) := by decide +kernel
theorem dX3_valueAt_24 : decode cX3_valueAt 24 = .ok (.goto 4, 3) := by decide +kernel
theorem dX3_valueAt_27 : decode cX3_valueAt 27 = .ok (.iconst 0, 1) := by decide +kernel
theorem dX3_valueAt_28 : decode cX3_valueAt 28 = .ok (.ireturn, 1) := by decide +kernel
theorem dX3_isPlace_0 : decode cX3_isPlace 0 = .ok (.iload_n 0, 1) := by decide +kernel
theorem dX3_isPlace_1 : decode cX3_isPlace 1 = .ok (.ifCond .lt 13, 3) := by decide +kernel
theorem dX3_isPlace_4 : decode cX3_isPlace 4 = .ok (.iload_n 0, 1) := by decide +kernel
theorem dX3_isPlace_5 : decode cX3_isPlace 5 = .ok (.bipush 15, 2) := by decide +kernel
theorem dX3_isPlace_7 : decode cX3_isPlace 7 = .ok (.if_icmp .ge 7, 3) := by decide +kernel
theorem dX3_isPlace_10 : decode cX3_isPlace 10 = .ok (.iconst 1, 1) := by decide +kernel
theorem dX3_isPlace_11 : decode cX3_isPlace 11 = .ok (.goto 4, 3) := by decide +kernel
theorem dX3_isPlace_14 : decode cX3_isPlace 14 = .ok (.iconst 0, 1) := by decide +kernel
theorem dX3_isPlace_15 : decode cX3_isPlace 15 = .ok (.ireturn, 1) := by decide +kernel
set_option maxRecDepth 20000 in
theorem ggX3_parse_X3_readCommand : GoodIn wsX3_parse wsX3_readCommand := goodIn_ca (goodIn_r _ [8, 9, 10, 11, 12, 13, 7, 14, 15, 16, 17, 18, 1, 19, 20, 21, 22, 23, 24, 25, 26, 27, 28, 29, 30, 31, 32, 33, 34, 35, 36, 37, 38, 39, 40, 41, 42, 43, 44, 45, 46, 47, 48, 49, 50, 51, 52, 53, 54, 55, 56, 57, 58, 59, 60, 61, 62, 63, 64, 65, 66, 67, 68, 69, 70, 71, 72, 73, 74, 75, 76, 77, 78, 79, 3, 80, 81, 82, 83, 84, 85, 86, 87, 88, 89, 90, 91, 92, 93, 94, 95, 96, 97, 98, 99, 100, 101, 102, 103, 104, 105, 106, 107, 108, 109, 110, 111] (by decide +kernel) (by decide +kernel)) (goodIn_sub (fun _ h => List.mem_cons_of_mem _ (List.mem_append_right _ h)) (by decide +kernel))
set_option maxRecDepth 20000 in
theorem gX3_parse_X3_readCommand : GoodIn wsX3_parse (wsV RX3 48 RX3 yX3_readCommand wsX3_readCommand) := goodIn_app (goodIn_of _ (by decide +kernel)) ggX3_parse_X3_readCommand
set_option maxRecDepth 20000 in
theorem ggX3_parse_X3_readSign : GoodIn wsX3_parse wsX3_readSign := goodIn_ca (goodIn_r _ [99, 1, 72, 73, 74, 7, 75, 76, 77, 78, 79, 3, 80, 104, 105, 106, 107, 108, 109] (by decide +kernel) (by decide +kernel)) (goodIn_sub (fun _ h => List.mem_cons_of_mem _ (List.mem_append_right _ h)) (by decide +kernel))
set_option maxRecDepth 20000 in
theorem gX3_parse_X3_readSign : GoodIn wsX3_parse (wsV RX3 51 RX3 yX3_readSign wsX3_readSign) := goodIn_app (goodIn_of _ (by decide +kernel)) ggX3_parse_X3_readSign
theorem dX3_parse_0 : decode cX3_parse 0 = .ok (.aload_n 0, 1) := by decide +kernel
theorem dX3_parse_1 : decode cX3_parse 1 = .ok (.iconst 0, 1) := by decide +kernel
theorem dX3_parse_2 : decode cX3_parse 2 = .ok (.putfield 19, 3) := by decide +kernel
theorem dX3_parse_5 : decode cX3_parse 5 = .ok (.aload_n 0, 1) := by decide +kernel
theorem dX3_parse_6 : decode cX3_parse 6 = .ok (.iconst 0, 1) := by decide +kernel
theorem dX3_parse_7 : decode cX3_parse 7 = .ok (.putfield 33, 3) := by decide +kernel
theorem dX3_parse_10 : decode cX3_parse 10 = .ok (.iconst 0, 1) := by decide +kernel
theorem dX3_parse_11 : decode cX3_parse 11 = .ok (.istore_n 1, 1) := by decide +kernel
theorem dX3_parse_12 : decode cX3_parse 12 = .ok (.iload_n 1, 1) := by decide +kernel
theorem dX3_parse_13 : decode cX3_parse 13 = .ok (.bipush 15, 2) := by decide +kernel
theorem dX3_parse_15 : decode cX3_parse 15 = .ok (.if_icmp .ge 59, 3) := by decide +kernel
theorem dX3_parse_18 : decode cX3_parse 18 = .ok (.aload_n 0, 1) := by decide +kernel
theorem dX3_parse_19 : decode cX3_parse 19 = .ok (.iload_n 1, 1) := by decide +kernel
theorem dX3_parse_20 : decode cX3_parse 20 = .ok (.invokevirtual 48, 3) := by decide +kernel
theorem dX3_parse_23 : decode cX3_parse 23 = .ok (.ifCond .ne 8, 3) := by decide +kernel
theorem dX3_parse_26 : decode cX3_parse 26 = .ok (.aload_n 0, 1) := by decide +kernel
theorem dX3_parse_27 : decode cX3_parse 27 = .ok (.getfield 19, 3) := by decide +kernel
theorem dX3_parse_30 : decode cX3_parse 30 = .ok (.ireturn, 1) := by decide +kernel
theorem dX3_parse_31 : decode cX3_parse 31 = .ok (.aload_n 0, 1) := by decide +kernel
theorem dX3_parse_32 : decode cX3_parse 32 = .ok (.dup, 1) := by decide +kernel
theorem dX3_parse_33 : decode cX3_parse 33 = .ok (.getfield 33, 3) := by decide +kernel
theorem dX3_parse_36 : decode cX3_parse 36 = .ok (.iconst 1, 1) := by decide +kernel
theorem dX3_parse_37 : decode cX3_parse 37 = .ok (.iadd, 1) := by decide +kernel
theorem dX3_parse_38 : decode cX3_parse 38 = .ok (.putfield 33, 3) := by decide +kernel
theorem dX3_parse_41 : decode cX3_parse 41 = .ok (.aload_n 0, 1) := by decide +kernel
theorem dX3_parse_42 : decode cX3_parse 42 = .ok (.getfield 19, 3) := by decide +kernel
theorem dX3_parse_45 : decode cX3_parse 45 = .ok (.aload_n 0, 1) := by decide +kernel
theorem dX3_parse_46 : decode cX3_parse 46 = .ok (.getfield 15, 3) := by decide +kernel
theorem dX3_parse_49 : decode cX3_parse 49 = .ok (.if_icmp .lt 5, 3) := by decide +kernel
theorem dX3_parse_52 : decode cX3_parse 52 = .ok (.iconst (-1), 1) := by decide +kernel
theorem dX3_parse_53 : decode cX3_parse 53 = .ok (.ireturn, 1) := by decide +kernel
theorem dX3_parse_54 : decode cX3_parse 54 = .ok (.aload_n 0, 1) := by decide +kernel
theorem dX3_parse_55 : decode cX3_parse 55 = .ok (.bipush 59, 2) := by decide +kernel
theorem dX3_parse_57 : decode cX3_parse 57 = .ok (.invokevirtual 51, 3) := by decide +kernel
theorem dX3_parse_60 : decode cX3_parse 60 = .ok (.ifCond .ne 8, 3) := by decide +kernel
theorem dX3_parse_63 : decode cX3_parse 63 = .ok (.aload_n 0, 1) := by decide +kernel
theorem dX3_parse_64 : decode cX3_parse 64 = .ok (.getfield 19, 3) := by decide +kernel
theorem dX3_parse_67 : decode cX3_parse 67 = .ok (.ireturn, 1) := by decide +kernel
theorem dX3_parse_68 : decode cX3_parse 68 = .ok (.iinc 1 1, 3) := by decide +kernel
theorem dX3_parse_71 : decode cX3_parse 71 = .ok (.goto (-59), 3) := by decide +kernel
theorem dX3_parse_74 : decode cX3_parse 74 = .ok (.aload_n 0, 1) := by decide +kernel
theorem dX3_parse_75 : decode cX3_parse 75 = .ok (.getfield 19, 3) := by decide +kernel
theorem dX3_parse_78 : decode cX3_parse 78 = .ok (.ireturn, 1) := by decide +kernel
set_option maxRecDepth 20000 in
theorem ggX3_readCommand_X3_readWord : GoodIn wsX3_readCommand wsX3_readWord := goodIn_ca (goodIn_r _ [7, 8, 9, 10, 11, 12, 13, 14, 15, 6, 16, 17, 18, 19, 20, 21, 22, 23, 24, 25, 26, 27, 28, 29, 30, 31, 32, 33, 34, 35, 36, 37, 38, 39, 40, 41, 42, 43, 44, 45, 46, 47, 48, 49, 50, 51, 52, 53, 54, 55, 56, 57, 58, 59, 60, 61, 62, 63, 64, 65, 66, 67, 68, 69, 70, 71, 72, 73, 74, 75, 99, 100, 101, 102, 103, 104, 105, 106] (by decide +kernel) (by decide +kernel)) (goodIn_sub (fun _ h => List.mem_cons_of_mem _ (List.mem_append_right _ h)) (by decide +kernel))
set_option maxRecDepth 20000 in
theorem gX3_readCommand_X3_readWord : GoodIn wsX3_readCommand (wsV RX3 55 RX3 yX3_readWord wsX3_readWord) := goodIn_app (goodIn_of _ (by decide +kernel)) ggX3_readCommand_X3_readWord
set_option maxRecDepth 20000 in
theorem ggX3_readCommand_X3_isPlace : GoodIn wsX3_readCommand wsX3_isPlace := goodIn_r _ [78] (by decide +kernel) (by decide +kernel)
set_option maxRecDepth 20000 in
theorem gX3_readCommand_X3_isPlace : GoodIn wsX3_readCommand (va_wsS RX3 44 yX3_isPlace wsX3_isPlace) := goodIn_app (goodIn_of _ (by decide +kernel)) ggX3_readCommand_X3_isPlace
set_option maxRecDepth 20000 in
theorem ggX3_readCommand_J0_length_8abf5 : GoodIn wsX3_readCommand wsJ0_length_8abf5 := goodIn_r _ [21, 22, 23, 24, 25, 20, 26, 27, 28, 105, 106] (by decide +kernel) (by decide +kernel)
set_option maxRecDepth 20000 in
theorem gX3_readCommand_J0_length_8abf5 : GoodIn wsX3_readCommand (wsV RX3 63 RJ0 yJ0_length_8abf5 wsJ0_length_8abf5) := goodIn_app (goodIn_of _ (by decide +kernel)) ggX3_readCommand_J0_length_8abf5
set_option maxRecDepth 20000 in
theorem ggX3_readCommand_J0_charAt_5068e : GoodIn wsX3_readCommand wsJ0_charAt_5068e := goodIn_r _ [32, 22, 33, 34, 35, 20, 36, 27, 28, 37, 38, 39, 40, 41, 42, 43, 44, 45, 46, 47, 48, 49, 50, 51, 52, 53, 54, 55, 56, 57, 58, 59, 60, 61, 62, 63, 64, 65, 105, 106] (by decide +kernel) (by decide +kernel)
set_option maxRecDepth 20000 in
theorem gX3_readCommand_J0_charAt_5068e : GoodIn wsX3_readCommand (wsV RX3 68 RJ0 yJ0_charAt_5068e wsJ0_charAt_5068e) := goodIn_app (goodIn_of _ (by decide +kernel)) ggX3_readCommand_J0_charAt_5068e
set_option maxRecDepth 20000 in
theorem ggX3_readCommand_X3_readParameter : GoodIn wsX3_readCommand wsX3_readParameter := goodIn_ca (goodIn_r _ [82, 83, 84, 85, 6, 86, 12, 70, 71, 72, 73, 74, 75, 87, 88, 89, 90, 91, 92, 93, 94, 66, 67, 68, 69, 95, 96, 97, 98, 99, 100, 101, 102, 103, 104] (by decide +kernel) (by decide +kernel)) (goodIn_sub (fun _ h => List.mem_cons_of_mem _ (List.mem_append_right _ h)) (by decide +kernel))
set_option maxRecDepth 20000 in
theorem gX3_readCommand_X3_readParameter : GoodIn wsX3_readCommand (wsV RX3 72 RX3 yX3_readParameter wsX3_readParameter) := goodIn_app (goodIn_of _ (by decide +kernel)) ggX3_readCommand_X3_readParameter
theorem dX3_readCommand_0 : decode cX3_readCommand 0 = .ok (.aload_n 0, 1) := by decide +kernel
theorem dX3_readCommand_1 : decode cX3_readCommand 1 = .ok (.invokevirtual 55, 3) := by decide +kernel
theorem dX3_readCommand_4 : decode cX3_readCommand 4 = .ok (.astore_n 2, 1) := by decide +kernel
theorem dX3_readCommand_5 : decode cX3_readCommand 5 = .ok (.aload_n 2, 1) := by decide +kernel
theorem dX3_readCommand_6 : decode cX3_readCommand 6 = .ok (.ifnull 10, 3) := by decide +kernel
theorem dX3_readCommand_9 : decode cX3_readCommand 9 = .ok (.iload_n 1, 1) := by decide +kernel
theorem dX3_readCommand_10 : decode cX3_readCommand 10 = .ok (.invokestatic 44, 3) := by decide +kernel
theorem dX3_readCommand_13 : decode cX3_readCommand 13 = .ok (.ifCond .ne 5, 3) := by decide +kernel
theorem dX3_readCommand_16 : decode cX3_readCommand 16 = .ok (.iconst 0, 1) := by decide +kernel
theorem dX3_readCommand_17 : decode cX3_readCommand 17 = .ok (.ireturn, 1) := by decide +kernel
theorem dX3_readCommand_18 : decode cX3_readCommand 18 = .ok (.aload_n 0, 1) := by decide +kernel
theorem dX3_readCommand_19 : decode cX3_readCommand 19 = .ok (.getfield 24, 3) := by decide +kernel
theorem dX3_readCommand_22 : decode cX3_readCommand 22 = .ok (.iload_n 1, 1) := by decide +kernel
theorem dX3_readCommand_23 : decode cX3_readCommand 23 = .ok (.aload_n 2, 1) := by decide +kernel
theorem dX3_readCommand_24 : decode cX3_readCommand 24 = .ok (.aastore, 1) := by decide +kernel
theorem dX3_readCommand_25 : decode cX3_readCommand 25 = .ok (.iconst 0, 1) := by decide +kernel
theorem dX3_readCommand_26 : decode cX3_readCommand 26 = .ok (.istore_n 3, 1) := by decide +kernel
theorem dX3_readCommand_27 : decode cX3_readCommand 27 = .ok (.iload_n 3, 1) := by decide +kernel
theorem dX3_readCommand_28 : decode cX3_readCommand 28 = .ok (.aload_n 2, 1) := by decide +kernel
theorem dX3_readCommand_29 : decode cX3_readCommand 29 = .ok (.getfield 59, 3) := by decide +kernel
theorem dX3_readCommand_32 : decode cX3_readCommand 32 = .ok (.invokevirtual 63, 3) := by decide +kernel
theorem dX3_readCommand_35 : decode cX3_readCommand 35 = .ok (.if_icmp .ge 46, 3) := by decide +kernel
theorem dX3_readCommand_38 : decode cX3_readCommand 38 = .ok (.iload_n 3, 1) := by decide +kernel
theorem dX3_readCommand_39 : decode cX3_readCommand 39 = .ok (.iconst 3, 1) := by decide +kernel
theorem dX3_readCommand_40 : decode cX3_readCommand 40 = .ok (.if_icmp .ge 41, 3) := by decide +kernel
theorem dX3_readCommand_43 : decode cX3_readCommand 43 = .ok (.aload_n 0, 1) := by decide +kernel
theorem dX3_readCommand_44 : decode cX3_readCommand 44 = .ok (.aload_n 2, 1) := by decide +kernel
theorem dX3_readCommand_45 : decode cX3_readCommand 45 = .ok (.getfield 59, 3) := by decide +kernel
theorem dX3_readCommand_48 : decode cX3_readCommand 48 = .ok (.iload_n 3, 1) := by decide +kernel
theorem dX3_readCommand_49 : decode cX3_readCommand 49 = .ok (.invokevirtual 68, 3) := by decide +kernel
theorem dX3_readCommand_52 : decode cX3_readCommand 52 = .ok (.invokevirtual 72, 3) := by decide +kernel
theorem dX3_readCommand_55 : decode cX3_readCommand 55 = .ok (.istore 4, 2) := by decide +kernel
theorem dX3_readCommand_57 : decode cX3_readCommand 57 = .ok (.iload 4, 2) := by decide +kernel
theorem dX3_readCommand_59 : decode cX3_readCommand 59 = .ok (.iconst (-1), 1) := by decide +kernel
theorem dX3_readCommand_60 : decode cX3_readCommand 60 = .ok (.if_icmp .ne 5, 3) := by decide +kernel
theorem dX3_readCommand_63 : decode cX3_readCommand 63 = .ok (.iconst 0, 1) := by decide +kernel
theorem dX3_readCommand_64 : decode cX3_readCommand 64 = .ok (.ireturn, 1) := by decide +kernel
theorem dX3_readCommand_65 : decode cX3_readCommand 65 = .ok (.aload_n 0, 1) := by decide +kernel
theorem dX3_readCommand_66 : decode cX3_readCommand 66 = .ok (.getfield 30, 3) := by decide +kernel
theorem dX3_readCommand_69 : decode cX3_readCommand 69 = .ok (.iload_n 1, 1) := by decide +kernel
theorem dX3_readCommand_70 : decode cX3_readCommand 70 = .ok (.aaload, 1) := by decide +kernel
theorem dX3_readCommand_71 : decode cX3_readCommand 71 = .ok (.iload_n 3, 1) := by decide +kernel
theorem dX3_readCommand_72 : decode cX3_readCommand 72 = .ok (.iload 4, 2) := by decide +kernel
theorem dX3_readCommand_74 : decode cX3_readCommand 74 = .ok (.iastore, 1) := by decide +kernel
theorem dX3_readCommand_75 : decode cX3_readCommand 75 = .ok (.iinc 3 1, 3) := by decide +kernel
theorem dX3_readCommand_78 : decode cX3_readCommand 78 = .ok (.goto (-51), 3) := by decide +kernel
theorem dX3_readCommand_81 : decode cX3_readCommand 81 = .ok (.iconst 1, 1) := by decide +kernel
theorem dX3_readCommand_82 : decode cX3_readCommand 82 = .ok (.ireturn, 1) := by decide +kernel
set_option maxRecDepth 20000 in
theorem ggX3_readWord_X3_fittingLength : GoodIn wsX3_readWord wsX3_fittingLength := goodIn_ca (goodIn_r _ [10, 5, 11, 12, 13, 14, 15, 16, 17, 18, 19, 20, 21, 22, 23, 24, 25, 26, 27, 28, 29, 30, 31, 32, 33, 34, 35, 36, 37, 38, 39, 40, 41, 42, 43, 44, 45, 46, 47, 48, 49, 50, 51, 52, 53, 54, 55, 56, 57, 58, 59, 60, 61, 62, 9, 63, 64, 65, 66, 67, 68, 69, 70, 71, 72, 73, 74, 75, 76, 77] (by decide +kernel) (by decide +kernel)) (goodIn_sub (fun _ h => List.mem_cons_of_mem _ (List.mem_append_right _ h)) (by decide +kernel))
set_option maxRecDepth 20000 in
theorem gX3_readWord_X3_fittingLength : GoodIn wsX3_readWord (wsV RX3 82 RX3 yX3_fittingLength wsX3_fittingLength) := goodIn_app (goodIn_of _ (by decide +kernel)) ggX3_readWord_X3_fittingLength
set_option maxRecDepth 20000 in
theorem ggX3_readWord_J0_length_8abf5 : GoodIn wsX3_readWord wsJ0_length_8abf5 := goodIn_r _ [15, 16, 17, 18, 19, 14, 20, 21, 22, 76, 77] (by decide +kernel) (by decide +kernel)
set_option maxRecDepth 20000 in
theorem gX3_readWord_J0_length_8abf5 : GoodIn wsX3_readWord (wsV RX3 63 RJ0 yJ0_length_8abf5 wsJ0_length_8abf5) := goodIn_app (goodIn_of _ (by decide +kernel)) ggX3_readWord_J0_length_8abf5
theorem dX3_readWord_0 : decode cX3_readWord 0 = .ok (.aconst_null, 1) := by decide +kernel
theorem dX3_readWord_1 : decode cX3_readWord 1 = .ok (.astore_n 1, 1) := by decide +kernel
theorem dX3_readWord_2 : decode cX3_readWord 2 = .ok (.iconst 0, 1) := by decide +kernel
theorem dX3_readWord_3 : decode cX3_readWord 3 = .ok (.istore_n 2, 1) := by decide +kernel
theorem dX3_readWord_4 : decode cX3_readWord 4 = .ok (.iconst 0, 1) := by decide +kernel
theorem dX3_readWord_5 : decode cX3_readWord 5 = .ok (.istore_n 3, 1) := by decide +kernel
theorem dX3_readWord_6 : decode cX3_readWord 6 = .ok (.iload_n 3, 1) := by decide +kernel
theorem dX3_readWord_7 : decode cX3_readWord 7 = .ok (.getstatic 76, 3) := by decide +kernel
theorem dX3_readWord_10 : decode cX3_readWord 10 = .ok (.arraylength, 1) := by decide +kernel
theorem dX3_readWord_11 : decode cX3_readWord 11 = .ok (.if_icmp .ge 50, 3) := by decide +kernel
theorem dX3_readWord_14 : decode cX3_readWord 14 = .ok (.getstatic 76, 3) := by decide +kernel
theorem dX3_readWord_17 : decode cX3_readWord 17 = .ok (.iload_n 3, 1) := by decide +kernel
theorem dX3_readWord_18 : decode cX3_readWord 18 = .ok (.aaload, 1) := by decide +kernel
theorem dX3_readWord_19 : decode cX3_readWord 19 = .ok (.getfield 79, 3) := by decide +kernel
theorem dX3_readWord_22 : decode cX3_readWord 22 = .ok (.astore 4, 2) := by decide +kernel
theorem dX3_readWord_24 : decode cX3_readWord 24 = .ok (.aload_n 0, 1) := by decide +kernel
theorem dX3_readWord_25 : decode cX3_readWord 25 = .ok (.aload 4, 2) := by decide +kernel
theorem dX3_readWord_27 : decode cX3_readWord 27 = .ok (.invokevirtual 82, 3) := by decide +kernel
theorem dX3_readWord_30 : decode cX3_readWord 30 = .ok (.istore 5, 2) := by decide +kernel
theorem dX3_readWord_32 : decode cX3_readWord 32 = .ok (.iload_n 2, 1) := by decide +kernel
theorem dX3_readWord_33 : decode cX3_readWord 33 = .ok (.iload 5, 2) := by decide +kernel
theorem dX3_readWord_35 : decode cX3_readWord 35 = .ok (.invokestatic 86, 3) := by decide +kernel
theorem dX3_readWord_38 : decode cX3_readWord 38 = .ok (.istore_n 2, 1) := by decide +kernel
theorem dX3_readWord_39 : decode cX3_readWord 39 = .ok (.iload 5, 2) := by decide +kernel
theorem dX3_readWord_41 : decode cX3_readWord 41 = .ok (.aload 4, 2) := by decide +kernel
theorem dX3_readWord_43 : decode cX3_readWord 43 = .ok (.invokevirtual 63, 3) := by decide +kernel
theorem dX3_readWord_46 : decode cX3_readWord 46 = .ok (.if_icmp .ne 9, 3) := by decide +kernel
theorem dX3_readWord_49 : decode cX3_readWord 49 = .ok (.getstatic 76, 3) := by decide +kernel
theorem dX3_readWord_52 : decode cX3_readWord 52 = .ok (.iload_n 3, 1) := by decide +kernel
theorem dX3_readWord_53 : decode cX3_readWord 53 = .ok (.aaload, 1) := by decide +kernel
theorem dX3_readWord_54 : decode cX3_readWord 54 = .ok (.astore_n 1, 1) := by decide +kernel
theorem dX3_readWord_55 : decode cX3_readWord 55 = .ok (.iinc 3 1, 3) := by decide +kernel
theorem dX3_readWord_58 : decode cX3_readWord 58 = .ok (.goto (-52), 3) := by decide +kernel
theorem dX3_readWord_61 : decode cX3_readWord 61 = .ok (.aload_n 0, 1) := by decide +kernel
theorem dX3_readWord_62 : decode cX3_readWord 62 = .ok (.dup, 1) := by decide +kernel
theorem dX3_readWord_63 : decode cX3_readWord 63 = .ok (.getfield 19, 3) := by decide +kernel
theorem dX3_readWord_66 : decode cX3_readWord 66 = .ok (.iload_n 2, 1) := by decide +kernel
theorem dX3_readWord_67 : decode cX3_readWord 67 = .ok (.iadd, 1) := by decide +kernel
theorem dX3_readWord_68 : decode cX3_readWord 68 = .ok (.putfield 19, 3) := by decide +kernel
theorem dX3_readWord_71 : decode cX3_readWord 71 = .ok (.aload_n 1, 1) := by decide +kernel
theorem dX3_readWord_72 : decode cX3_readWord 72 = .ok (.areturn, 1) := by decide +kernel
set_option maxRecDepth 20000 in
theorem ggX3_fittingLength_J0_length_8abf5 : GoodIn wsX3_fittingLength wsJ0_length_8abf5 := goodIn_r _ [6, 7, 8, 9, 10, 5, 11, 12, 13, 68, 69] (by decide +kernel) (by decide +kernel)
set_option maxRecDepth 20000 in
theorem gX3_fittingLength_J0_length_8abf5 : GoodIn wsX3_fittingLength (wsV RX3 63 RJ0 yJ0_length_8abf5 wsJ0_length_8abf5) := goodIn_app (goodIn_of _ (by decide +kernel)) ggX3_fittingLength_J0_length_8abf5
set_option maxRecDepth 20000 in
theorem ggX3_fittingLength_J0_charAt_5068e : GoodIn wsX3_fittingLength wsJ0_charAt_5068e := goodIn_r _ [17, 7, 18, 19, 20, 5, 21, 12, 13, 22, 23, 24, 25, 26, 27, 28, 29, 30, 31, 32, 33, 34, 35, 36, 37, 38, 39, 40, 41, 42, 43, 44, 45, 46, 47, 48, 49, 50, 68, 69] (by decide +kernel) (by decide +kernel)
set_option maxRecDepth 20000 in
theorem gX3_fittingLength_J0_charAt_5068e : GoodIn wsX3_fittingLength (wsV RX3 68 RJ0 yJ0_charAt_5068e wsJ0_charAt_5068e) := goodIn_app (goodIn_of _ (by decide +kernel)) ggX3_fittingLength_J0_charAt_5068e
set_option maxRecDepth 20000 in
theorem ggX3_fittingLength_X3_isSignAt : GoodIn wsX3_fittingLength wsX3_isSignAt := goodIn_ca (goodIn_r _ [55, 56, 57, 58, 54, 59, 60, 61, 62, 63, 64, 65, 66, 67] (by decide +kernel) (by decide +kernel)) (goodIn_sub (fun _ h => List.mem_cons_of_mem _ (List.mem_append_right _ h)) (by decide +kernel))
set_option maxRecDepth 20000 in
theorem gX3_fittingLength_X3_isSignAt : GoodIn wsX3_fittingLength (wsV RX3 92 RX3 yX3_isSignAt wsX3_isSignAt) := goodIn_app (goodIn_of _ (by decide +kernel)) ggX3_fittingLength_X3_isSignAt
theorem dX3_fittingLength_0 : decode cX3_fittingLength 0 = .ok (.iconst 0, 1) := by decide +kernel
theorem dX3_fittingLength_1 : decode cX3_fittingLength 1 = .ok (.istore_n 2, 1) := by decide +kernel
theorem dX3_fittingLength_2 : decode cX3_fittingLength 2 = .ok (.iconst 0, 1) := by decide +kernel
theorem dX3_fittingLength_3 : decode cX3_fittingLength 3 = .ok (.istore_n 3, 1) := by decide +kernel
theorem dX3_fittingLength_4 : decode cX3_fittingLength 4 = .ok (.iload_n 3, 1) := by decide +kernel
theorem dX3_fittingLength_5 : decode cX3_fittingLength 5 = .ok (.aload_n 1, 1) := by decide +kernel
theorem dX3_fittingLength_6 : decode cX3_fittingLength 6 = .ok (.invokevirtual 63, 3) := by decide +kernel
theorem dX3_fittingLength_9 : decode cX3_fittingLength 9 = .ok (.if_icmp .ge 35, 3) := by decide +kernel
theorem dX3_fittingLength_12 : decode cX3_fittingLength 12 = .ok (.iload_n 2, 1) := by decide +kernel
theorem dX3_fittingLength_13 : decode cX3_fittingLength 13 = .ok (.iload_n 3, 1) := by decide +kernel
theorem dX3_fittingLength_14 : decode cX3_fittingLength 14 = .ok (.if_icmp .ne 24, 3) := by decide +kernel
theorem dX3_fittingLength_17 : decode cX3_fittingLength 17 = .ok (.aload_n 0, 1) := by decide +kernel
theorem dX3_fittingLength_18 : decode cX3_fittingLength 18 = .ok (.aload_n 0, 1) := by decide +kernel
theorem dX3_fittingLength_19 : decode cX3_fittingLength 19 = .ok (.getfield 19, 3) := by decide +kernel
theorem dX3_fittingLength_22 : decode cX3_fittingLength 22 = .ok (.iload_n 3, 1) := by decide +kernel
theorem dX3_fittingLength_23 : decode cX3_fittingLength 23 = .ok (.iadd, 1) := by decide +kernel
theorem dX3_fittingLength_24 : decode cX3_fittingLength 24 = .ok (.aload_n 1, 1) := by decide +kernel
theorem dX3_fittingLength_25 : decode cX3_fittingLength 25 = .ok (.iload_n 3, 1) := by decide +kernel
theorem dX3_fittingLength_26 : decode cX3_fittingLength 26 = .ok (.invokevirtual 68, 3) := by decide +kernel
theorem dX3_fittingLength_29 : decode cX3_fittingLength 29 = .ok (.invokevirtual 92, 3) := by decide +kernel
theorem dX3_fittingLength_32 : decode cX3_fittingLength 32 = .ok (.ifCond .eq 6, 3) := by decide +kernel
theorem dX3_fittingLength_35 : decode cX3_fittingLength 35 = .ok (.iinc 2 1, 3) := by decide +kernel
theorem dX3_fittingLength_38 : decode cX3_fittingLength 38 = .ok (.iinc 3 1, 3) := by decide +kernel
theorem dX3_fittingLength_41 : decode cX3_fittingLength 41 = .ok (.goto (-37), 3) := by decide +kernel
theorem dX3_fittingLength_44 : decode cX3_fittingLength 44 = .ok (.iload_n 2, 1) := by decide +kernel
theorem dX3_fittingLength_45 : decode cX3_fittingLength 45 = .ok (.ireturn, 1) := by decide +kernel
set_option maxRecDepth 20000 in
theorem ggX3_readParameter_X3_readDirection : GoodIn wsX3_readParameter wsX3_readDirection := goodIn_ca (goodIn_r _ [5, 6, 7, 8, 9, 4, 10, 11, 12, 13, 14, 15, 16, 29, 30, 31, 32, 33, 34] (by decide +kernel) (by decide +kernel)) (goodIn_sub (fun _ h => List.mem_cons_of_mem _ (List.mem_append_right _ h)) (by decide +kernel))
set_option maxRecDepth 20000 in
theorem gX3_readParameter_X3_readDirection : GoodIn wsX3_readParameter (wsV RX3 96 RX3 yX3_readDirection wsX3_readDirection) := goodIn_app (goodIn_of _ (by decide +kernel)) ggX3_readParameter_X3_readDirection
set_option maxRecDepth 20000 in
theorem ggX3_readParameter_X3_readSign : GoodIn wsX3_readParameter wsX3_readSign := goodIn_ca (goodIn_r _ [20, 6, 21, 22, 23, 4, 24, 7, 8, 9, 10, 11, 12, 29, 30, 31, 32, 33, 34] (by decide +kernel) (by decide +kernel)) (goodIn_sub (fun _ h => List.mem_cons_of_mem _ (List.mem_append_right _ h)) (by decide +kernel))
set_option maxRecDepth 20000 in
theorem gX3_readParameter_X3_readSign : GoodIn wsX3_readParameter (wsV RX3 51 RX3 yX3_readSign wsX3_readSign) := goodIn_app (goodIn_of _ (by decide +kernel)) ggX3_readParameter_X3_readSign
set_option maxRecDepth 20000 in
theorem ggX3_readParameter_X3_readDigit : GoodIn wsX3_readParameter wsX3_readDigit := goodIn_ca (goodIn_r _ [28, 6, 7, 8, 9, 4, 10, 11, 12, 29, 30, 31, 32, 33, 34] (by decide +kernel) (by decide +kernel)) (goodIn_sub (fun _ h => List.mem_cons_of_mem _ (List.mem_append_right _ h)) (by decide +kernel))
set_option maxRecDepth 20000 in
theorem gX3_readParameter_X3_readDigit : GoodIn wsX3_readParameter (wsV RX3 99 RX3 yX3_readDigit wsX3_readDigit) := goodIn_app (goodIn_of _ (by decide +kernel)) ggX3_readParameter_X3_readDigit
theorem dX3_readParameter_0 : decode cX3_readParameter 0 = .ok (.iload_n 1, 1) := by decide +kernel
theorem dX3_readParameter_1 : decode cX3_readParameter 1 = .ok (.bipush 99, 2) := by decide +kernel
theorem dX3_readParameter_3 : decode cX3_readParameter 3 = .ok (.if_icmp .ne 8, 3) := by decide +kernel
theorem dX3_readParameter_6 : decode cX3_readParameter 6 = .ok (.aload_n 0, 1) := by decide +kernel
theorem dX3_readParameter_7 : decode cX3_readParameter 7 = .ok (.invokevirtual 96, 3) := by decide +kernel
theorem dX3_readParameter_10 : decode cX3_readParameter 10 = .ok (.ireturn, 1) := by decide +kernel
theorem dX3_readParameter_11 : decode cX3_readParameter 11 = .ok (.aload_n 0, 1) := by decide +kernel
theorem dX3_readParameter_12 : decode cX3_readParameter 12 = .ok (.bipush 32, 2) := by decide +kernel
theorem dX3_readParameter_14 : decode cX3_readParameter 14 = .ok (.invokevirtual 51, 3) := by decide +kernel
theorem dX3_readParameter_17 : decode cX3_readParameter 17 = .ok (.ifCond .ne 5, 3) := by decide +kernel
theorem dX3_readParameter_20 : decode cX3_readParameter 20 = .ok (.iconst (-1), 1) := by decide +kernel
theorem dX3_readParameter_21 : decode cX3_readParameter 21 = .ok (.ireturn, 1) := by decide +kernel
theorem dX3_readParameter_22 : decode cX3_readParameter 22 = .ok (.aload_n 0, 1) := by decide +kernel
theorem dX3_readParameter_23 : decode cX3_readParameter 23 = .ok (.invokevirtual 99, 3) := by decide +kernel
theorem dX3_readParameter_26 : decode cX3_readParameter 26 = .ok (.istore_n 2, 1) := by decide +kernel
theorem dX3_readParameter_27 : decode cX3_readParameter 27 = .ok (.iload_n 1, 1) := by decide +kernel
theorem dX3_readParameter_28 : decode cX3_readParameter 28 = .ok (.bipush 110, 2) := by decide +kernel
theorem dX3_readParameter_30 : decode cX3_readParameter 30 = .ok (.if_icmp .ne 29, 3) := by decide +kernel
theorem dX3_readParameter_33 : decode cX3_readParameter 33 = .ok (.iload_n 2, 1) := by decide +kernel
theorem dX3_readParameter_34 : decode cX3_readParameter 34 = .ok (.iconst (-1), 1) := by decide +kernel
theorem dX3_readParameter_35 : decode cX3_readParameter 35 = .ok (.if_icmp .eq 24, 3) := by decide +kernel
theorem dX3_readParameter_38 : decode cX3_readParameter 38 = .ok (.aload_n 0, 1) := by decide +kernel
theorem dX3_readParameter_39 : decode cX3_readParameter 39 = .ok (.invokevirtual 99, 3) := by decide +kernel
theorem dX3_readParameter_42 : decode cX3_readParameter 42 = .ok (.istore_n 3, 1) := by decide +kernel
theorem dX3_readParameter_43 : decode cX3_readParameter 43 = .ok (.iload_n 3, 1) := by decide +kernel
theorem dX3_readParameter_44 : decode cX3_readParameter 44 = .ok (.iconst (-1), 1) := by decide +kernel
theorem dX3_readParameter_45 : decode cX3_readParameter 45 = .ok (.if_icmp .ne 7, 3) := by decide +kernel
theorem dX3_readParameter_48 : decode cX3_readParameter 48 = .ok (.iload_n 2, 1) := by decide +kernel
theorem dX3_readParameter_49 : decode cX3_readParameter 49 = .ok (.goto 9, 3) := by decide +kernel
theorem dX3_readParameter_52 : decode cX3_readParameter 52 = .ok (.iload_n 2, 1) := by decide +kernel
theorem dX3_readParameter_53 : decode cX3_readParameter 53 = .ok (.bipush 10, 2) := by decide +kernel
theorem dX3_readParameter_55 : decode cX3_readParameter 55 = .ok (.imul, 1) := by decide +kernel
theorem dX3_readParameter_56 : decode cX3_readParameter 56 = .ok (.iload_n 3, 1) := by decide +kernel
theorem dX3_readParameter_57 : decode cX3_readParameter 57 = .ok (.iadd, 1) := by decide +kernel
theorem dX3_readParameter_58 : decode cX3_readParameter 58 = .ok (.ireturn, 1) := by decide +kernel
theorem dX3_readParameter_59 : decode cX3_readParameter 59 = .ok (.iload_n 2, 1) := by decide +kernel
theorem dX3_readParameter_60 : decode cX3_readParameter 60 = .ok (.ireturn, 1) := by decide +kernel
set_option maxRecDepth 20000 in
theorem ggX3_readDirection_X3_signAt : GoodIn wsX3_readDirection wsX3_signAt := goodIn_ca (goodIn_r _ [6, 7, 8, 13, 14, 15, 16, 17, 18] (by decide +kernel) (by decide +kernel)) (goodIn_sub (fun _ h => List.mem_cons_of_mem _ (List.mem_append_right _ h)) (by decide +kernel))
set_option maxRecDepth 20000 in
theorem gX3_readDirection_X3_signAt : GoodIn wsX3_readDirection (wsV RX3 102 RX3 yX3_signAt wsX3_signAt) := goodIn_app (goodIn_of _ (by decide +kernel)) ggX3_readDirection_X3_signAt
set_option maxRecDepth 20000 in
theorem ggX3_readDirection_X10_isDirection : GoodIn wsX3_readDirection wsX10_isDirection := goodIn_r _ [12] (by decide +kernel) (by decide +kernel)
set_option maxRecDepth 20000 in
theorem gX3_readDirection_X10_isDirection : GoodIn wsX3_readDirection (va_wsS RX3 105 yX10_isDirection wsX10_isDirection) := goodIn_app (goodIn_of _ (by decide +kernel)) ggX3_readDirection_X10_isDirection
theorem dX3_readDirection_0 : decode cX3_readDirection 0 = .ok (.aload_n 0, 1) := by decide +kernel
theorem dX3_readDirection_1 : decode cX3_readDirection 1 = .ok (.aload_n 0, 1) := by decide +kernel
theorem dX3_readDirection_2 : decode cX3_readDirection 2 = .ok (.getfield 19, 3) := by decide +kernel
theorem dX3_readDirection_5 : decode cX3_readDirection 5 = .ok (.invokevirtual 102, 3) := by decide +kernel
theorem dX3_readDirection_8 : decode cX3_readDirection 8 = .ok (.istore_n 1, 1) := by decide +kernel
theorem dX3_readDirection_9 : decode cX3_readDirection 9 = .ok (.iload_n 1, 1) := by decide +kernel
theorem dX3_readDirection_10 : decode cX3_readDirection 10 = .ok (.invokestatic 105, 3) := by decide +kernel
theorem dX3_readDirection_13 : decode cX3_readDirection 13 = .ok (.ifCond .ne 5, 3) := by decide +kernel
theorem dX3_readDirection_16 : decode cX3_readDirection 16 = .ok (.iconst (-1), 1) := by decide +kernel
theorem dX3_readDirection_17 : decode cX3_readDirection 17 = .ok (.ireturn, 1) := by decide +kernel
theorem dX3_readDirection_18 : decode cX3_readDirection 18 = .ok (.aload_n 0, 1) := by decide +kernel
theorem dX3_readDirection_19 : decode cX3_readDirection 19 = .ok (.dup, 1) := by decide +kernel
theorem dX3_readDirection_20 : decode cX3_readDirection 20 = .ok (.getfield 19, 3) := by decide +kernel
theorem dX3_readDirection_23 : decode cX3_readDirection 23 = .ok (.iconst 1, 1) := by decide +kernel
theorem dX3_readDirection_24 : decode cX3_readDirection 24 = .ok (.iadd, 1) := by decide +kernel
theorem dX3_readDirection_25 : decode cX3_readDirection 25 = .ok (.putfield 19, 3) := by decide +kernel
theorem dX3_readDirection_28 : decode cX3_readDirection 28 = .ok (.iload_n 1, 1) := by decide +kernel
theorem dX3_readDirection_29 : decode cX3_readDirection 29 = .ok (.ireturn, 1) := by decide +kernel
set_option maxRecDepth 20000 in
theorem ggX3_readDigit_X3_signAt : GoodIn wsX3_readDigit wsX3_signAt := goodIn_ca (goodIn_r _ [6, 7, 8, 9, 10, 11, 12, 13, 14] (by decide +kernel) (by decide +kernel)) (goodIn_sub (fun _ h => List.mem_cons_of_mem _ (List.mem_append_right _ h)) (by decide +kernel))
set_option maxRecDepth 20000 in
theorem gX3_readDigit_X3_signAt : GoodIn wsX3_readDigit (wsV RX3 102 RX3 yX3_signAt wsX3_signAt) := goodIn_app (goodIn_of _ (by decide +kernel)) ggX3_readDigit_X3_signAt
theorem dX3_readDigit_0 : decode cX3_readDigit 0 = .ok (.aload_n 0, 1) := by decide +kernel
theorem dX3_readDigit_1 : decode cX3_readDigit 1 = .ok (.aload_n 0, 1) := by decide +kernel
theorem dX3_readDigit_2 : decode cX3_readDigit 2 = .ok (.getfield 19, 3) := by decide +kernel
theorem dX3_readDigit_5 : decode cX3_readDigit 5 = .ok (.invokevirtual 102, 3) := by decide +kernel
theorem dX3_readDigit_8 : decode cX3_readDigit 8 = .ok (.istore_n 1, 1) := by decide +kernel
theorem dX3_readDigit_9 : decode cX3_readDigit 9 = .ok (.iload_n 1, 1) := by decide +kernel
theorem dX3_readDigit_10 : decode cX3_readDigit 10 = .ok (.bipush 48, 2) := by decide +kernel
theorem dX3_readDigit_12 : decode cX3_readDigit 12 = .ok (.if_icmp .lt 9, 3) := by decide +kernel
theorem dX3_readDigit_15 : decode cX3_readDigit 15 = .ok (.iload_n 1, 1) := by decide +kernel
theorem dX3_readDigit_16 : decode cX3_readDigit 16 = .ok (.bipush 57, 2) := by decide +kernel
theorem dX3_readDigit_18 : decode cX3_readDigit 18 = .ok (.if_icmp .le 5, 3) := by decide +kernel
theorem dX3_readDigit_21 : decode cX3_readDigit 21 = .ok (.iconst (-1), 1) := by decide +kernel
theorem dX3_readDigit_22 : decode cX3_readDigit 22 = .ok (.ireturn, 1) := by decide +kernel
theorem dX3_readDigit_23 : decode cX3_readDigit 23 = .ok (.aload_n 0, 1) := by decide +kernel
theorem dX3_readDigit_24 : decode cX3_readDigit 24 = .ok (.dup, 1) := by decide +kernel
theorem dX3_readDigit_25 : decode cX3_readDigit 25 = .ok (.getfield 19, 3) := by decide +kernel
theorem dX3_readDigit_28 : decode cX3_readDigit 28 = .ok (.iconst 1, 1) := by decide +kernel
theorem dX3_readDigit_29 : decode cX3_readDigit 29 = .ok (.iadd, 1) := by decide +kernel
theorem dX3_readDigit_30 : decode cX3_readDigit 30 = .ok (.putfield 19, 3) := by decide +kernel
theorem dX3_readDigit_33 : decode cX3_readDigit 33 = .ok (.iload_n 1, 1) := by decide +kernel
theorem dX3_readDigit_34 : decode cX3_readDigit 34 = .ok (.bipush 48, 2) := by decide +kernel
theorem dX3_readDigit_36 : decode cX3_readDigit 36 = .ok (.isub, 1) := by decide +kernel
theorem dX3_readDigit_37 : decode cX3_readDigit 37 = .ok (.ireturn, 1) := by decide +kernel
set_option maxRecDepth 20000 in
theorem ggX3_readSign_X3_isSignAt : GoodIn wsX3_readSign wsX3_isSignAt := goodIn_ca (goodIn_r _ [6, 7, 8, 9, 5, 10, 11, 12, 13, 14, 15, 16, 17, 18] (by decide +kernel) (by decide +kernel)) (goodIn_sub (fun _ h => List.mem_cons_of_mem _ (List.mem_append_right _ h)) (by decide +kernel))
set_option maxRecDepth 20000 in
theorem gX3_readSign_X3_isSignAt : GoodIn wsX3_readSign (wsV RX3 92 RX3 yX3_isSignAt wsX3_isSignAt) := goodIn_app (goodIn_of _ (by decide +kernel)) ggX3_readSign_X3_isSignAt
theorem dX3_readSign_0 : decode cX3_readSign 0 = .ok (.aload_n 0, 1) := by decide +kernel
theorem dX3_readSign_1 : decode cX3_readSign 1 = .ok (.aload_n 0, 1) := by decide +kernel
theorem dX3_readSign_2 : decode cX3_readSign 2 = .ok (.getfield 19, 3) := by decide +kernel
theorem dX3_readSign_5 : decode cX3_readSign 5 = .ok (.iload_n 1, 1) := by decide +kernel
theorem dX3_readSign_6 : decode cX3_readSign 6 = .ok (.invokevirtual 92, 3) := by decide +kernel
theorem dX3_readSign_9 : decode cX3_readSign 9 = .ok (.ifCond .ne 5, 3) := by decide +kernel
theorem dX3_readSign_12 : decode cX3_readSign 12 = .ok (.iconst 0, 1) := by decide +kernel
theorem dX3_readSign_13 : decode cX3_readSign 13 = .ok (.ireturn, 1) := by decide +kernel
theorem dX3_readSign_14 : decode cX3_readSign 14 = .ok (.aload_n 0, 1) := by decide +kernel
theorem dX3_readSign_15 : decode cX3_readSign 15 = .ok (.dup, 1) := by decide +kernel
theorem dX3_readSign_16 : decode cX3_readSign 16 = .ok (.getfield 19, 3) := by decide +kernel
theorem dX3_readSign_19 : decode cX3_readSign 19 = .ok (.iconst 1, 1) := by decide +kernel
theorem dX3_readSign_20 : decode cX3_readSign 20 = .ok (.iadd, 1) := by decide +kernel
theorem dX3_readSign_21 : decode cX3_readSign 21 = .ok (.putfield 19, 3) := by decide +kernel
theorem dX3_readSign_24 : decode cX3_readSign 24 = .ok (.iconst 1, 1) := by decide +kernel
theorem dX3_readSign_25 : decode cX3_readSign 25 = .ok (.ireturn, 1) := by decide +kernel
set_option maxRecDepth 20000 in
theorem ggX3_isSignAt_X3_signAt : GoodIn wsX3_isSignAt wsX3_signAt := goodIn_ca (goodIn_r _ [5, 6, 7, 8, 9, 10, 11, 12, 13] (by decide +kernel) (by decide +kernel)) (goodIn_sub (fun _ h => List.mem_cons_of_mem _ (List.mem_append_right _ h)) (by decide +kernel))
set_option maxRecDepth 20000 in
theorem gX3_isSignAt_X3_signAt : GoodIn wsX3_isSignAt (wsV RX3 102 RX3 yX3_signAt wsX3_signAt) := goodIn_app (goodIn_of _ (by decide +kernel)) ggX3_isSignAt_X3_signAt
theorem dX3_isSignAt_0 : decode cX3_isSignAt 0 = .ok (.aload_n 0, 1) := by decide +kernel
theorem dX3_isSignAt_1 : decode cX3_isSignAt 1 = .ok (.iload_n 1, 1) := by decide +kernel
theorem dX3_isSignAt_2 : decode cX3_isSignAt 2 = .ok (.invokevirtual 102, 3) := by decide +kernel
theorem dX3_isSignAt_5 : decode cX3_isSignAt 5 = .ok (.iload_n 2, 1) := by decide +kernel
theorem dX3_isSignAt_6 : decode cX3_isSignAt 6 = .ok (.if_icmp .ne 7, 3) := by decide +kernel
theorem dX3_isSignAt_9 : decode cX3_isSignAt 9 = .ok (.iconst 1, 1) := by decide +kernel
theorem dX3_isSignAt_10 : decode cX3_isSignAt 10 = .ok (.goto 4, 3) := by decide +kernel
theorem dX3_isSignAt_13 : decode cX3_isSignAt 13 = .ok (.iconst 0, 1) := by decide +kernel
theorem dX3_isSignAt_14 : decode cX3_isSignAt 14 = .ok (.ireturn, 1) := by decide +kernel
theorem dX3_signAt_0 : decode cX3_signAt 0 = .ok (.iload_n 1, 1) := by decide +kernel
theorem dX3_signAt_1 : decode cX3_signAt 1 = .ok (.ifCond .lt 26, 3) := by decide +kernel
theorem dX3_signAt_4 : decode cX3_signAt 4 = .ok (.iload_n 1, 1) := by decide +kernel
theorem dX3_signAt_5 : decode cX3_signAt 5 = .ok (.aload_n 0, 1) := by decide +kernel
theorem dX3_signAt_6 : decode cX3_signAt 6 = .ok (.getfield 15, 3) := by decide +kernel
theorem dX3_signAt_9 : decode cX3_signAt 9 = .ok (.if_icmp .ge 18, 3) := by decide +kernel
theorem dX3_signAt_12 : decode cX3_signAt 12 = .ok (.iload_n 1, 1) := by decide +kernel
theorem dX3_signAt_13 : decode cX3_signAt 13 = .ok (.bipush 60, 2) := by decide +kernel
theorem dX3_signAt_15 : decode cX3_signAt 15 = .ok (.if_icmp .ge 12, 3) := by decide +kernel
theorem dX3_signAt_18 : decode cX3_signAt 18 = .ok (.aload_n 0, 1) := by decide +kernel
theorem dX3_signAt_19 : decode cX3_signAt 19 = .ok (.getfield 9, 3) := by decide +kernel
theorem dX3_signAt_22 : decode cX3_signAt 22 = .ok (.iload_n 1, 1) := by decide +kernel
theorem dX3_signAt_23 : decode cX3_signAt 23 = .ok (.caload, 1) := by decide +kernel
theorem dX3_signAt_24 : decode cX3_signAt 24 = .ok (.goto 4, 3) := by decide +kernel
theorem dX3_signAt_27 : decode cX3_signAt 27 = .ok (.iconst 0, 1) := by decide +kernel
theorem dX3_signAt_28 : decode cX3_signAt 28 = .ok (.ireturn, 1) := by decide +kernel
theorem dX4_init_0 : decode cX4_init 0 = .ok (.aload_n 0, 1) := by decide +kernel
theorem dX4_init_1 : decode cX4_init 1 = .ok (.invokespecial 3, 3) := by decide +kernel
theorem dX4_init_4 : decode cX4_init 4 = .ok (.aload_n 0, 1) := by decide +kernel
theorem dX4_init_5 : decode cX4_init 5 = .ok (.bipush 6, 2) := by decide +kernel
theorem dX4_init_7 : decode cX4_init 7 = .ok (.newarray .int, 2) := by decide +kernel
theorem dX4_init_9 : decode cX4_init 9 = .ok (.putfield 9, 3) := by decide +kernel
theorem dX4_init_12 : decode cX4_init 12 = .ok (.aload_n 0, 1) := by decide +kernel
theorem dX4_init_13 : decode cX4_init 13 = .ok (.bipush 6, 2) := by decide +kernel
theorem dX4_init_15 : decode cX4_init 15 = .ok (.newarray .int, 2) := by decide +kernel
theorem dX4_init_17 : decode cX4_init 17 = .ok (.putfield 15, 3) := by decide +kernel
theorem dX4_init_20 : decode cX4_init 20 = .ok (.aload_n 0, 1) := by decide +kernel
theorem dX4_init_21 : decode cX4_init 21 = .ok (.iconst 0, 1) := by decide +kernel
theorem dX4_init_22 : decode cX4_init 22 = .ok (.putfield 18, 3) := by decide +kernel
theorem dX4_init_25 : decode cX4_init 25 = .ok (.aload_n 0, 1) := by decide +kernel
theorem dX4_init_26 : decode cX4_init 26 = .ok (.iconst 0, 1) := by decide +kernel
theorem dX4_init_27 : decode cX4_init 27 = .ok (.putfield 22, 3) := by decide +kernel
theorem dX4_init_30 : decode cX4_init 30 = .ok (.aload_n 0, 1) := by decide +kernel
theorem dX4_init_31 : decode cX4_init 31 = .ok (.iconst 0, 1) := by decide +kernel
theorem dX4_init_32 : decode cX4_init 32 = .ok (.putfield 25, 3) := by decide +kernel
theorem dX4_init_35 : decode cX4_init 35 = .ok (.aload_n 0, 1) := by decide +kernel
theorem dX4_init_36 : decode cX4_init 36 = .ok (.iconst 0, 1) := by decide +kernel
theorem dX4_init_37 : decode cX4_init 37 = .ok (.putfield 28, 3) := by decide +kernel
theorem dX4_init_40 : decode cX4_init 40 = .ok (.return_, 1) := by decide +kernel
theorem dX4_copyFrom_0 : decode cX4_copyFrom 0 = .ok (.iconst 0, 1) := by decide +kernel
theorem dX4_copyFrom_1 : decode cX4_copyFrom 1 = .ok (.istore_n 2, 1) := by decide +kernel
theorem dX4_copyFrom_2 : decode cX4_copyFrom 2 = .ok (.iload_n 2, 1) := by decide +kernel
theorem dX4_copyFrom_3 : decode cX4_copyFrom 3 = .ok (.bipush 6, 2) := by decide +kernel
theorem dX4_copyFrom_5 : decode cX4_copyFrom 5 = .ok (.if_icmp .ge 33, 3) := by decide +kernel
theorem dX4_copyFrom_8 : decode cX4_copyFrom 8 = .ok (.aload_n 0, 1) := by decide +kernel
theorem dX4_copyFrom_9 : decode cX4_copyFrom 9 = .ok (.getfield 9, 3) := by decide +kernel
theorem dX4_copyFrom_12 : decode cX4_copyFrom 12 = .ok (.iload_n 2, 1) := by decide +kernel
theorem dX4_copyFrom_13 : decode cX4_copyFrom 13 = .ok (.aload_n 1, 1) := by decide +kernel
theorem dX4_copyFrom_14 : decode cX4_copyFrom 14 = .ok (.getfield 9, 3) := by decide +kernel
theorem dX4_copyFrom_17 : decode cX4_copyFrom 17 = .ok (.iload_n 2, 1) := by decide +kernel
theorem dX4_copyFrom_18 : decode cX4_copyFrom 18 = .ok (.iaload, 1) := by decide +kernel
theorem dX4_copyFrom_19 : decode cX4_copyFrom 19 = .ok (.iastore, 1) := by decide +kernel
theorem dX4_copyFrom_20 : decode cX4_copyFrom 20 = .ok (.aload_n 0, 1) := by decide +kernel
theorem dX4_copyFrom_21 : decode cX4_copyFrom 21 = .ok (.getfield 15, 3) := by decide +kernel
theorem dX4_copyFrom_24 : decode cX4_copyFrom 24 = .ok (.iload_n 2, 1) := by decide +kernel
theorem dX4_copyFrom_25 : decode cX4_copyFrom 25 = .ok (.aload_n 1, 1) := by decide +kernel
theorem dX4_copyFrom_26 : decode cX4_copyFrom 26 = .ok (.getfield 15, 3) := by decide +kernel
theorem dX4_copyFrom_29 : decode cX4_copyFrom 29 = .ok (.iload_n 2, 1) := by decide +kernel
theorem dX4_copyFrom_30 : decode cX4_copyFrom 30 = .ok (.iaload, 1) := by decide +kernel
theorem dX4_copyFrom_31 : decode cX4_copyFrom 31 = .ok (.iastore, 1) := by decide +kernel
theorem dX4_copyFrom_32 : decode cX4_copyFrom 32 = .ok (.iinc 2 1, 3) := by decide +kernel
theorem dX4_copyFrom_35 : decode cX4_copyFrom 35 = .ok (.goto (-33), 3) := by decide +kernel
theorem dX4_copyFrom_38 : decode cX4_copyFrom 38 = .ok (.aload_n 0, 1) := by decide +kernel
theorem dX4_copyFrom_39 : decode cX4_copyFrom 39 = .ok (.aload_n 1, 1) := by decide +kernel
theorem dX4_copyFrom_40 : decode cX4_copyFrom 40 = .ok (.getfield 18, 3) := by decide +kernel
theorem dX4_copyFrom_43 : decode cX4_copyFrom 43 = .ok (.putfield 18, 3) := by decide +kernel
theorem dX4_copyFrom_46 : decode cX4_copyFrom 46 = .ok (.aload_n 0, 1) := by decide +kernel
theorem dX4_copyFrom_47 : decode cX4_copyFrom 47 = .ok (.aload_n 1, 1) := by decide +kernel
theorem dX4_copyFrom_48 : decode cX4_copyFrom 48 = .ok (.getfield 22, 3) := by decide +kernel
theorem dX4_copyFrom_51 : decode cX4_copyFrom 51 = .ok (.putfield 22, 3) := by decide +kernel
theorem dX4_copyFrom_54 : decode cX4_copyFrom 54 = .ok (.aload_n 0, 1) := by decide +kernel
theorem dX4_copyFrom_55 : decode cX4_copyFrom 55 = .ok (.aload_n 1, 1) := by decide +kernel
theorem dX4_copyFrom_56 : decode cX4_copyFrom 56 = .ok (.getfield 25, 3) := by decide +kernel
theorem dX4_copyFrom_59 : decode cX4_copyFrom 59 = .ok (.putfield 25, 3) := by decide +kernel
theorem dX4_copyFrom_62 : decode cX4_copyFrom 62 = .ok (.aload_n 0, 1) := by decide +kernel
theorem dX4_copyFrom_63 : decode cX4_copyFrom 63 = .ok (.aload_n 1, 1) := by decide +kernel
theorem dX4_copyFrom_64 : decode cX4_copyFrom 64 = .ok (.getfield 28, 3) := by decide +kernel
theorem dX4_copyFrom_67 : decode cX4_copyFrom 67 = .ok (.putfield 28, 3) := by decide +kernel
theorem dX4_copyFrom_70 : decode cX4_copyFrom 70 = .ok (.return_, 1) := by decide +kernel
theorem dX4_has_0 : decode cX4_has 0 = .ok (.iload_n 1, 1) := by decide +kernel
theorem dX4_has_1 : decode cX4_has 1 = .ok (.ifCond .lt 21, 3) := by decide +kernel
theorem dX4_has_4 : decode cX4_has 4 = .ok (.iload_n 1, 1) := by decide +kernel
theorem dX4_has_5 : decode cX4_has 5 = .ok (.aload_n 0, 1) := by decide +kernel
theorem dX4_has_6 : decode cX4_has 6 = .ok (.getfield 18, 3) := by decide +kernel
theorem dX4_has_9 : decode cX4_has 9 = .ok (.if_icmp .ge 13, 3) := by decide +kernel
theorem dX4_has_12 : decode cX4_has 12 = .ok (.iload_n 1, 1) := by decide +kernel
theorem dX4_has_13 : decode cX4_has 13 = .ok (.bipush 6, 2) := by decide +kernel
theorem dX4_has_15 : decode cX4_has 15 = .ok (.if_icmp .ge 7, 3) := by decide +kernel
theorem dX4_has_18 : decode cX4_has 18 = .ok (.iconst 1, 1) := by decide +kernel
theorem dX4_has_19 : decode cX4_has 19 = .ok (.goto 4, 3) := by decide +kernel
theorem dX4_has_22 : decode cX4_has 22 = .ok (.iconst 0, 1) := by decide +kernel
theorem dX4_has_23 : decode cX4_has 23 = .ok (.ireturn, 1) := by decide +kernel
theorem dX4_hasRoom_0 : decode cX4_hasRoom 0 = .ok (.aload_n 0, 1) := by decide +kernel
theorem dX4_hasRoom_1 : decode cX4_hasRoom 1 = .ok (.getfield 18, 3) := by decide +kernel
theorem dX4_hasRoom_4 : decode cX4_hasRoom 4 = .ok (.ifCond .lt 16, 3) := by decide +kernel
theorem dX4_hasRoom_7 : decode cX4_hasRoom 7 = .ok (.aload_n 0, 1) := by decide +kernel
theorem dX4_hasRoom_8 : decode cX4_hasRoom 8 = .ok (.getfield 18, 3) := by decide +kernel
theorem dX4_hasRoom_11 : decode cX4_hasRoom 11 = .ok (.bipush 6, 2) := by decide +kernel
theorem dX4_hasRoom_13 : decode cX4_hasRoom 13 = .ok (.if_icmp .ge 7, 3) := by decide +kernel
theorem dX4_hasRoom_16 : decode cX4_hasRoom 16 = .ok (.iconst 1, 1) := by decide +kernel
theorem dX4_hasRoom_17 : decode cX4_hasRoom 17 = .ok (.goto 4, 3) := by decide +kernel
theorem dX4_hasRoom_20 : decode cX4_hasRoom 20 = .ok (.iconst 0, 1) := by decide +kernel
theorem dX4_hasRoom_21 : decode cX4_hasRoom 21 = .ok (.ireturn, 1) := by decide +kernel
set_option maxRecDepth 20000 in
theorem ggX4_dayAt_X4_has : GoodIn wsX4_dayAt wsX4_has := goodIn_r _ [6, 7, 8, 9, 10, 11, 12, 13] (by decide +kernel) (by decide +kernel)
set_option maxRecDepth 20000 in
theorem gX4_dayAt_X4_has : GoodIn wsX4_dayAt (wsV RX4 31 RX4 yX4_has wsX4_has) := goodIn_app (goodIn_of _ (by decide +kernel)) ggX4_dayAt_X4_has
theorem dX4_dayAt_0 : decode cX4_dayAt 0 = .ok (.aload_n 0, 1) := by decide +kernel
theorem dX4_dayAt_1 : decode cX4_dayAt 1 = .ok (.iload_n 1, 1) := by decide +kernel
theorem dX4_dayAt_2 : decode cX4_dayAt 2 = .ok (.invokevirtual 31, 3) := by decide +kernel
theorem dX4_dayAt_5 : decode cX4_dayAt 5 = .ok (.ifCond .eq 12, 3) := by decide +kernel
theorem dX4_dayAt_8 : decode cX4_dayAt 8 = .ok (.aload_n 0, 1) := by decide +kernel
theorem dX4_dayAt_9 : decode cX4_dayAt 9 = .ok (.getfield 9, 3) := by decide +kernel
theorem dX4_dayAt_12 : decode cX4_dayAt 12 = .ok (.iload_n 1, 1) := by decide +kernel
theorem dX4_dayAt_13 : decode cX4_dayAt 13 = .ok (.iaload, 1) := by decide +kernel
theorem dX4_dayAt_14 : decode cX4_dayAt 14 = .ok (.goto 4, 3) := by decide +kernel
theorem dX4_dayAt_17 : decode cX4_dayAt 17 = .ok (.iconst 0, 1) := by decide +kernel
theorem dX4_dayAt_18 : decode cX4_dayAt 18 = .ok (.ireturn, 1) := by decide +kernel
set_option maxRecDepth 20000 in
theorem ggX4_weatherAt_X4_has : GoodIn wsX4_weatherAt wsX4_has := goodIn_r _ [6, 7, 8, 9, 10, 11, 12, 13] (by decide +kernel) (by decide +kernel)
set_option maxRecDepth 20000 in
theorem gX4_weatherAt_X4_has : GoodIn wsX4_weatherAt (wsV RX4 31 RX4 yX4_has wsX4_has) := goodIn_app (goodIn_of _ (by decide +kernel)) ggX4_weatherAt_X4_has
theorem dX4_weatherAt_0 : decode cX4_weatherAt 0 = .ok (.aload_n 0, 1) := by decide +kernel
theorem dX4_weatherAt_1 : decode cX4_weatherAt 1 = .ok (.iload_n 1, 1) := by decide +kernel
theorem dX4_weatherAt_2 : decode cX4_weatherAt 2 = .ok (.invokevirtual 31, 3) := by decide +kernel
theorem dX4_weatherAt_5 : decode cX4_weatherAt 5 = .ok (.ifCond .eq 12, 3) := by decide +kernel
theorem dX4_weatherAt_8 : decode cX4_weatherAt 8 = .ok (.aload_n 0, 1) := by decide +kernel
theorem dX4_weatherAt_9 : decode cX4_weatherAt 9 = .ok (.getfield 15, 3) := by decide +kernel
theorem dX4_weatherAt_12 : decode cX4_weatherAt 12 = .ok (.iload_n 1, 1) := by decide +kernel
theorem dX4_weatherAt_13 : decode cX4_weatherAt 13 = .ok (.iaload, 1) := by decide +kernel
theorem dX4_weatherAt_14 : decode cX4_weatherAt 14 = .ok (.goto 4, 3) := by decide +kernel
theorem dX4_weatherAt_17 : decode cX4_weatherAt 17 = .ok (.iconst 0, 1) := by decide +kernel
theorem dX4_weatherAt_18 : decode cX4_weatherAt 18 = .ok (.ireturn, 1) := by decide +kernel
set_option maxRecDepth 20000 in
theorem ggX4_add_X4_hasRoom : GoodIn wsX4_add wsX4_hasRoom := goodIn_r _ [8, 2, 9, 10, 11, 12, 13, 14] (by decide +kernel) (by decide +kernel)
set_option maxRecDepth 20000 in
theorem gX4_add_X4_hasRoom : GoodIn wsX4_add (wsV RX4 35 RX4 yX4_hasRoom wsX4_hasRoom) := goodIn_app (goodIn_of _ (by decide +kernel)) ggX4_add_X4_hasRoom
theorem dX4_add_0 : decode cX4_add 0 = .ok (.aload_n 0, 1) := by decide +kernel
theorem dX4_add_1 : decode cX4_add 1 = .ok (.invokevirtual 35, 3) := by decide +kernel
theorem dX4_add_4 : decode cX4_add 4 = .ok (.ifCond .eq 33, 3) := by decide +kernel
theorem dX4_add_7 : decode cX4_add 7 = .ok (.aload_n 0, 1) := by decide +kernel
theorem dX4_add_8 : decode cX4_add 8 = .ok (.getfield 9, 3) := by decide +kernel
theorem dX4_add_11 : decode cX4_add 11 = .ok (.aload_n 0, 1) := by decide +kernel
theorem dX4_add_12 : decode cX4_add 12 = .ok (.getfield 18, 3) := by decide +kernel
theorem dX4_add_15 : decode cX4_add 15 = .ok (.iload_n 1, 1) := by decide +kernel
theorem dX4_add_16 : decode cX4_add 16 = .ok (.iastore, 1) := by decide +kernel
theorem dX4_add_17 : decode cX4_add 17 = .ok (.aload_n 0, 1) := by decide +kernel
theorem dX4_add_18 : decode cX4_add 18 = .ok (.getfield 15, 3) := by decide +kernel
theorem dX4_add_21 : decode cX4_add 21 = .ok (.aload_n 0, 1) := by decide +kernel
theorem dX4_add_22 : decode cX4_add 22 = .ok (.getfield 18, 3) := by decide +kernel
theorem dX4_add_25 : decode cX4_add 25 = .ok (.iload_n 2, 1) := by decide +kernel
theorem dX4_add_26 : decode cX4_add 26 = .ok (.iastore, 1) := by decide +kernel
theorem dX4_add_27 : decode cX4_add 27 = .ok (.aload_n 0, 1) := by decide +kernel
theorem dX4_add_28 : decode cX4_add 28 = .ok (.dup, 1) := by decide +kernel
theorem dX4_add_29 : decode cX4_add 29 = .ok (.getfield 18, 3) := by decide +kernel
theorem dX4_add_32 : decode cX4_add 32 = .ok (.iconst 1, 1) := by decide +kernel
theorem dX4_add_33 : decode cX4_add 33 = .ok (.iadd, 1) := by decide +kernel
theorem dX4_add_34 : decode cX4_add 34 = .ok (.putfield 18, 3) := by decide +kernel
theorem dX4_add_37 : decode cX4_add 37 = .ok (.return_, 1) := by decide +kernel
set_option maxRecDepth 20000 in
theorem ggX4_remove_X4_has : GoodIn wsX4_remove wsX4_has := goodIn_r _ [8, 1, 9, 10, 11, 12, 13, 14] (by decide +kernel) (by decide +kernel)
set_option maxRecDepth 20000 in
theorem gX4_remove_X4_has : GoodIn wsX4_remove (wsV RX4 31 RX4 yX4_has wsX4_has) := goodIn_app (goodIn_of _ (by decide +kernel)) ggX4_remove_X4_has
theorem dX4_remove_0 : decode cX4_remove 0 = .ok (.aload_n 0, 1) := by decide +kernel
theorem dX4_remove_1 : decode cX4_remove 1 = .ok (.iload_n 1, 1) := by decide +kernel
theorem dX4_remove_2 : decode cX4_remove 2 = .ok (.invokevirtual 31, 3) := by decide +kernel
theorem dX4_remove_5 : decode cX4_remove 5 = .ok (.ifCond .ne 4, 3) := by decide +kernel
theorem dX4_remove_8 : decode cX4_remove 8 = .ok (.return_, 1) := by decide +kernel
theorem dX4_remove_9 : decode cX4_remove 9 = .ok (.iload_n 1, 1) := by decide +kernel
theorem dX4_remove_10 : decode cX4_remove 10 = .ok (.iconst 1, 1) := by decide +kernel
theorem dX4_remove_11 : decode cX4_remove 11 = .ok (.iadd, 1) := by decide +kernel
theorem dX4_remove_12 : decode cX4_remove 12 = .ok (.istore_n 2, 1) := by decide +kernel
theorem dX4_remove_13 : decode cX4_remove 13 = .ok (.iload_n 2, 1) := by decide +kernel
theorem dX4_remove_14 : decode cX4_remove 14 = .ok (.aload_n 0, 1) := by decide +kernel
theorem dX4_remove_15 : decode cX4_remove 15 = .ok (.getfield 18, 3) := by decide +kernel
theorem dX4_remove_18 : decode cX4_remove 18 = .ok (.if_icmp .ge 43, 3) := by decide +kernel
theorem dX4_remove_21 : decode cX4_remove 21 = .ok (.iload_n 2, 1) := by decide +kernel
theorem dX4_remove_22 : decode cX4_remove 22 = .ok (.bipush 6, 2) := by decide +kernel
theorem dX4_remove_24 : decode cX4_remove 24 = .ok (.if_icmp .ge 37, 3) := by decide +kernel
theorem dX4_remove_27 : decode cX4_remove 27 = .ok (.aload_n 0, 1) := by decide +kernel
theorem dX4_remove_28 : decode cX4_remove 28 = .ok (.getfield 9, 3) := by decide +kernel
theorem dX4_remove_31 : decode cX4_remove 31 = .ok (.iload_n 2, 1) := by decide +kernel
theorem dX4_remove_32 : decode cX4_remove 32 = .ok (.iconst 1, 1) := by decide +kernel
theorem dX4_remove_33 : decode cX4_remove 33 = .ok (.isub, 1) := by decide +kernel
theorem dX4_remove_34 : decode cX4_remove 34 = .ok (.aload_n 0, 1) := by decide +kernel
theorem dX4_remove_35 : decode cX4_remove 35 = .ok (.getfield 9, 3) := by decide +kernel
theorem dX4_remove_38 : decode cX4_remove 38 = .ok (.iload_n 2, 1) := by decide +kernel
theorem dX4_remove_39 : decode cX4_remove 39 = .ok (.iaload, 1) := by decide +kernel
theorem dX4_remove_40 : decode cX4_remove 40 = .ok (.iastore, 1) := by decide +kernel
theorem dX4_remove_41 : decode cX4_remove 41 = .ok (.aload_n 0, 1) := by decide +kernel
theorem dX4_remove_42 : decode cX4_remove 42 = .ok (.getfield 15, 3) := by decide +kernel
theorem dX4_remove_45 : decode cX4_remove 45 = .ok (.iload_n 2, 1) := by decide +kernel
theorem dX4_remove_46 : decode cX4_remove 46 = .ok (.iconst 1, 1) := by decide +kernel
theorem dX4_remove_47 : decode cX4_remove 47 = .ok (.isub, 1) := by decide +kernel
theorem dX4_remove_48 : decode cX4_remove 48 = .ok (.aload_n 0, 1) := by decide +kernel
theorem dX4_remove_49 : decode cX4_remove 49 = .ok (.getfield 15, 3) := by decide +kernel
theorem dX4_remove_52 : decode cX4_remove 52 = .ok (.iload_n 2, 1) := by decide +kernel
theorem dX4_remove_53 : decode cX4_remove 53 = .ok (.iaload, 1) := by decide +kernel
theorem dX4_remove_54 : decode cX4_remove 54 = .ok (.iastore, 1) := by decide +kernel
theorem dX4_remove_55 : decode cX4_remove 55 = .ok (.iinc 2 1, 3) := by decide +kernel
theorem dX4_remove_58 : decode cX4_remove 58 = .ok (.goto (-45), 3) := by decide +kernel
theorem dX4_remove_61 : decode cX4_remove 61 = .ok (.aload_n 0, 1) := by decide +kernel
theorem dX4_remove_62 : decode cX4_remove 62 = .ok (.dup, 1) := by decide +kernel
theorem dX4_remove_63 : decode cX4_remove 63 = .ok (.getfield 18, 3) := by decide +kernel
theorem dX4_remove_66 : decode cX4_remove 66 = .ok (.iconst 1, 1) := by decide +kernel
theorem dX4_remove_67 : decode cX4_remove 67 = .ok (.isub, 1) := by decide +kernel
theorem dX4_remove_68 : decode cX4_remove 68 = .ok (.putfield 18, 3) := by decide +kernel
theorem dX4_remove_71 : decode cX4_remove 71 = .ok (.return_, 1) := by decide +kernel
set_option maxRecDepth 20000 in
theorem ggX4_score_X4_dayAt : GoodIn wsX4_score wsX4_dayAt := goodIn_ca (goodIn_r _ [13, 14, 15, 16, 17, 12, 18, 1, 28, 29, 30, 31, 32, 33] (by decide +kernel) (by decide +kernel)) (goodIn_sub (fun _ h => List.mem_cons_of_mem _ (List.mem_append_right _ h)) (by decide +kernel))
set_option maxRecDepth 20000 in
theorem gX4_score_X4_dayAt : GoodIn wsX4_score (wsV RX4 39 RX4 yX4_dayAt wsX4_dayAt) := goodIn_app (goodIn_of _ (by decide +kernel)) ggX4_score_X4_dayAt
set_option maxRecDepth 20000 in
theorem ggX4_score_X4_weatherAt : GoodIn wsX4_score wsX4_weatherAt := goodIn_ca (goodIn_r _ [22, 23, 15, 16, 17, 12, 18, 1, 28, 29, 30, 31, 32, 33] (by decide +kernel) (by decide +kernel)) (goodIn_sub (fun _ h => List.mem_cons_of_mem _ (List.mem_append_right _ h)) (by decide +kernel))
set_option maxRecDepth 20000 in
theorem gX4_score_X4_weatherAt : GoodIn wsX4_score (wsV RX4 43 RX4 yX4_weatherAt wsX4_weatherAt) := goodIn_app (goodIn_of _ (by decide +kernel)) ggX4_score_X4_weatherAt
set_option maxRecDepth 20000 in
theorem ggX4_score_X4_remove : GoodIn wsX4_score wsX4_remove := goodIn_ca (goodIn_r _ [27, 1, 14, 23, 15, 16, 17, 12, 18, 28, 29, 30, 31, 32, 33] (by decide +kernel) (by decide +kernel)) (goodIn_sub (fun _ h => List.mem_cons_of_mem _ (List.mem_append_right _ h)) (by decide +kernel))
set_option maxRecDepth 20000 in
theorem gX4_score_X4_remove : GoodIn wsX4_score (wsV RX4 51 RX4 yX4_remove wsX4_remove) := goodIn_app (goodIn_of _ (by decide +kernel)) ggX4_score_X4_remove
theorem dX4_score_0 : decode cX4_score 0 = .ok (.iconst 0, 1) := by decide +kernel
theorem dX4_score_1 : decode cX4_score 1 = .ok (.istore_n 3, 1) := by decide +kernel
theorem dX4_score_2 : decode cX4_score 2 = .ok (.aload_n 0, 1) := by decide +kernel
theorem dX4_score_3 : decode cX4_score 3 = .ok (.getfield 18, 3) := by decide +kernel
theorem dX4_score_6 : decode cX4_score 6 = .ok (.iconst 1, 1) := by decide +kernel
theorem dX4_score_7 : decode cX4_score 7 = .ok (.isub, 1) := by decide +kernel
theorem dX4_score_8 : decode cX4_score 8 = .ok (.istore 4, 2) := by decide +kernel
theorem dX4_score_10 : decode cX4_score 10 = .ok (.iload 4, 2) := by decide +kernel
theorem dX4_score_12 : decode cX4_score 12 = .ok (.ifCond .lt 72, 3) := by decide +kernel
theorem dX4_score_15 : decode cX4_score 15 = .ok (.aload_n 0, 1) := by decide +kernel
theorem dX4_score_16 : decode cX4_score 16 = .ok (.iload 4, 2) := by decide +kernel
theorem dX4_score_18 : decode cX4_score 18 = .ok (.invokevirtual 39, 3) := by decide +kernel
theorem dX4_score_21 : decode cX4_score 21 = .ok (.iload_n 1, 1) := by decide +kernel
theorem dX4_score_22 : decode cX4_score 22 = .ok (.if_icmp .ne 56, 3) := by decide +kernel
theorem dX4_score_25 : decode cX4_score 25 = .ok (.aload_n 0, 1) := by decide +kernel
theorem dX4_score_26 : decode cX4_score 26 = .ok (.iload 4, 2) := by decide +kernel
theorem dX4_score_28 : decode cX4_score 28 = .ok (.invokevirtual 43, 3) := by decide +kernel
theorem dX4_score_31 : decode cX4_score 31 = .ok (.iload_n 2, 1) := by decide +kernel
theorem dX4_score_32 : decode cX4_score 32 = .ok (.isub, 1) := by decide +kernel
theorem dX4_score_33 : decode cX4_score 33 = .ok (.invokestatic 46, 3) := by decide +kernel
theorem dX4_score_36 : decode cX4_score 36 = .ok (.istore 5, 2) := by decide +kernel
theorem dX4_score_38 : decode cX4_score 38 = .ok (.iload_n 3, 1) := by decide +kernel
theorem dX4_score_39 : decode cX4_score 39 = .ok (.iload 5, 2) := by decide +kernel
theorem dX4_score_41 : decode cX4_score 41 = .ok (.iadd, 1) := by decide +kernel
theorem dX4_score_42 : decode cX4_score 42 = .ok (.istore_n 3, 1) := by decide +kernel
theorem dX4_score_43 : decode cX4_score 43 = .ok (.aload_n 0, 1) := by decide +kernel
theorem dX4_score_44 : decode cX4_score 44 = .ok (.dup, 1) := by decide +kernel
theorem dX4_score_45 : decode cX4_score 45 = .ok (.getfield 22, 3) := by decide +kernel
theorem dX4_score_48 : decode cX4_score 48 = .ok (.iconst 1, 1) := by decide +kernel
theorem dX4_score_49 : decode cX4_score 49 = .ok (.iadd, 1) := by decide +kernel
theorem dX4_score_50 : decode cX4_score 50 = .ok (.putfield 22, 3) := by decide +kernel
theorem dX4_score_53 : decode cX4_score 53 = .ok (.aload_n 0, 1) := by decide +kernel
theorem dX4_score_54 : decode cX4_score 54 = .ok (.dup, 1) := by decide +kernel
theorem dX4_score_55 : decode cX4_score 55 = .ok (.getfield 28, 3) := by decide +kernel
theorem dX4_score_58 : decode cX4_score 58 = .ok (.iload 5, 2) := by decide +kernel
theorem dX4_score_60 : decode cX4_score 60 = .ok (.ifCond .ne 7, 3) := by decide +kernel
theorem dX4_score_63 : decode cX4_score 63 = .ok (.iconst 1, 1) := by decide +kernel
theorem dX4_score_64 : decode cX4_score 64 = .ok (.goto 4, 3) := by decide +kernel
theorem dX4_score_67 : decode cX4_score 67 = .ok (.iconst 0, 1) := by decide +kernel
theorem dX4_score_68 : decode cX4_score 68 = .ok (.iadd, 1) := by decide +kernel
theorem dX4_score_69 : decode cX4_score 69 = .ok (.putfield 28, 3) := by decide +kernel
theorem dX4_score_72 : decode cX4_score 72 = .ok (.aload_n 0, 1) := by decide +kernel
theorem dX4_score_73 : decode cX4_score 73 = .ok (.iload 4, 2) := by decide +kernel
theorem dX4_score_75 : decode cX4_score 75 = .ok (.invokevirtual 51, 3) := by decide +kernel
theorem dX4_score_78 : decode cX4_score 78 = .ok (.iinc 4 (-1), 3) := by decide +kernel
theorem dX4_score_81 : decode cX4_score 81 = .ok (.goto (-71), 3) := by decide +kernel
theorem dX4_score_84 : decode cX4_score 84 = .ok (.aload_n 0, 1) := by decide +kernel
theorem dX4_score_85 : decode cX4_score 85 = .ok (.dup, 1) := by decide +kernel
theorem dX4_score_86 : decode cX4_score 86 = .ok (.getfield 25, 3) := by decide +kernel
theorem dX4_score_89 : decode cX4_score 89 = .ok (.iload_n 3, 1) := by decide +kernel
theorem dX4_score_90 : decode cX4_score 90 = .ok (.iadd, 1) := by decide +kernel
theorem dX4_score_91 : decode cX4_score 91 = .ok (.putfield 25, 3) := by decide +kernel
theorem dX4_score_94 : decode cX4_score 94 = .ok (.iload_n 3, 1) := by decide +kernel
theorem dX4_score_95 : decode cX4_score 95 = .ok (.ireturn, 1) := by decide +kernel
theorem dX5_init_0 : decode cX5_init 0 = .ok (.aload_n 0, 1) := by decide +kernel
theorem dX5_init_1 : decode cX5_init 1 = .ok (.invokespecial 3, 3) := by decide +kernel
theorem dX5_init_4 : decode cX5_init 4 = .ok (.aload_n 0, 1) := by decide +kernel
theorem dX5_init_5 : decode cX5_init 5 = .ok (.iconst 4, 1) := by decide +kernel
theorem dX5_init_6 : decode cX5_init 6 = .ok (.newarray .long, 2) := by decide +kernel
theorem dX5_init_8 : decode cX5_init 8 = .ok (.putfield 9, 3) := by decide +kernel
theorem dX5_init_11 : decode cX5_init 11 = .ok (.aload_n 0, 1) := by decide +kernel
theorem dX5_init_12 : decode cX5_init 12 = .ok (.iconst 4, 1) := by decide +kernel
theorem dX5_init_13 : decode cX5_init 13 = .ok (.newarray .long, 2) := by decide +kernel
theorem dX5_init_15 : decode cX5_init 15 = .ok (.putfield 15, 3) := by decide +kernel
theorem dX5_init_18 : decode cX5_init 18 = .ok (.return_, 1) := by decide +kernel
theorem dX5_clear_0 : decode cX5_clear 0 = .ok (.iconst 0, 1) := by decide +kernel
theorem dX5_clear_1 : decode cX5_clear 1 = .ok (.istore_n 1, 1) := by decide +kernel
theorem dX5_clear_2 : decode cX5_clear 2 = .ok (.iload_n 1, 1) := by decide +kernel
theorem dX5_clear_3 : decode cX5_clear 3 = .ok (.iconst 4, 1) := by decide +kernel
theorem dX5_clear_4 : decode cX5_clear 4 = .ok (.if_icmp .ge 23, 3) := by decide +kernel
theorem dX5_clear_7 : decode cX5_clear 7 = .ok (.aload_n 0, 1) := by decide +kernel
theorem dX5_clear_8 : decode cX5_clear 8 = .ok (.getfield 9, 3) := by decide +kernel
theorem dX5_clear_11 : decode cX5_clear 11 = .ok (.iload_n 1, 1) := by decide +kernel
theorem dX5_clear_12 : decode cX5_clear 12 = .ok (.lconst 0, 1) := by decide +kernel
theorem dX5_clear_13 : decode cX5_clear 13 = .ok (.lastore, 1) := by decide +kernel
theorem dX5_clear_14 : decode cX5_clear 14 = .ok (.aload_n 0, 1) := by decide +kernel
theorem dX5_clear_15 : decode cX5_clear 15 = .ok (.getfield 15, 3) := by decide +kernel
theorem dX5_clear_18 : decode cX5_clear 18 = .ok (.iload_n 1, 1) := by decide +kernel
theorem dX5_clear_19 : decode cX5_clear 19 = .ok (.lconst 1, 1) := by decide +kernel
theorem dX5_clear_20 : decode cX5_clear 20 = .ok (.lastore, 1) := by decide +kernel
theorem dX5_clear_21 : decode cX5_clear 21 = .ok (.iinc 1 1, 3) := by decide +kernel
theorem dX5_clear_24 : decode cX5_clear 24 = .ok (.goto (-22), 3) := by decide +kernel
theorem dX5_clear_27 : decode cX5_clear 27 = .ok (.return_, 1) := by decide +kernel
theorem dX5_copyFrom_0 : decode cX5_copyFrom 0 = .ok (.iconst 0, 1) := by decide +kernel
theorem dX5_copyFrom_1 : decode cX5_copyFrom 1 = .ok (.istore_n 2, 1) := by decide +kernel
theorem dX5_copyFrom_2 : decode cX5_copyFrom 2 = .ok (.iload_n 2, 1) := by decide +kernel
theorem dX5_copyFrom_3 : decode cX5_copyFrom 3 = .ok (.iconst 4, 1) := by decide +kernel
theorem dX5_copyFrom_4 : decode cX5_copyFrom 4 = .ok (.if_icmp .ge 33, 3) := by decide +kernel
theorem dX5_copyFrom_7 : decode cX5_copyFrom 7 = .ok (.aload_n 0, 1) := by decide +kernel
theorem dX5_copyFrom_8 : decode cX5_copyFrom 8 = .ok (.getfield 9, 3) := by decide +kernel
theorem dX5_copyFrom_11 : decode cX5_copyFrom 11 = .ok (.iload_n 2, 1) := by decide +kernel
theorem dX5_copyFrom_12 : decode cX5_copyFrom 12 = .ok (.aload_n 1, 1) := by decide +kernel
theorem dX5_copyFrom_13 : decode cX5_copyFrom 13 = .ok (.getfield 9, 3) := by decide +kernel
theorem dX5_copyFrom_16 : decode cX5_copyFrom 16 = .ok (.iload_n 2, 1) := by decide +kernel
theorem dX5_copyFrom_17 : decode cX5_copyFrom 17 = .ok (.laload, 1) := by decide +kernel
theorem dX5_copyFrom_18 : decode cX5_copyFrom 18 = .ok (.lastore, 1) := by decide +kernel
theorem dX5_copyFrom_19 : decode cX5_copyFrom 19 = .ok (.aload_n 0, 1) := by decide +kernel
theorem dX5_copyFrom_20 : decode cX5_copyFrom 20 = .ok (.getfield 15, 3) := by decide +kernel
theorem dX5_copyFrom_23 : decode cX5_copyFrom 23 = .ok (.iload_n 2, 1) := by decide +kernel
theorem dX5_copyFrom_24 : decode cX5_copyFrom 24 = .ok (.aload_n 1, 1) := by decide +kernel
theorem dX5_copyFrom_25 : decode cX5_copyFrom 25 = .ok (.getfield 15, 3) := by decide +kernel
theorem dX5_copyFrom_28 : decode cX5_copyFrom 28 = .ok (.iload_n 2, 1) := by decide +kernel
theorem dX5_copyFrom_29 : decode cX5_copyFrom 29 = .ok (.laload, 1) := by decide +kernel
theorem dX5_copyFrom_30 : decode cX5_copyFrom 30 = .ok (.lastore, 1) := by decide +kernel
theorem dX5_copyFrom_31 : decode cX5_copyFrom 31 = .ok (.iinc 2 1, 3) := by decide +kernel
theorem dX5_copyFrom_34 : decode cX5_copyFrom 34 = .ok (.goto (-32), 3) := by decide +kernel
theorem dX5_copyFrom_37 : decode cX5_copyFrom 37 = .ok (.return_, 1) := by decide +kernel
set_option maxRecDepth 20000 in
theorem ggX5_numerator_X2_isWeather : GoodIn wsX5_numerator wsX2_isWeather := goodIn_r _ [5] (by decide +kernel) (by decide +kernel)
set_option maxRecDepth 20000 in
theorem gX5_numerator_X2_isWeather : GoodIn wsX5_numerator (va_wsS RX5 18 yX2_isWeather wsX2_isWeather) := goodIn_app (goodIn_of _ (by decide +kernel)) ggX5_numerator_X2_isWeather
theorem dX5_numerator_0 : decode cX5_numerator 0 = .ok (.iload_n 1, 1) := by decide +kernel
theorem dX5_numerator_1 : decode cX5_numerator 1 = .ok (.invokestatic 18, 3) := by decide +kernel
theorem dX5_numerator_4 : decode cX5_numerator 4 = .ok (.ifCond .eq 12, 3) := by decide +kernel
theorem dX5_numerator_7 : decode cX5_numerator 7 = .ok (.aload_n 0, 1) := by decide +kernel
theorem dX5_numerator_8 : decode cX5_numerator 8 = .ok (.getfield 9, 3) := by decide +kernel
theorem dX5_numerator_11 : decode cX5_numerator 11 = .ok (.iload_n 1, 1) := by decide +kernel
theorem dX5_numerator_12 : decode cX5_numerator 12 = .ok (.laload, 1) := by decide +kernel
theorem dX5_numerator_13 : decode cX5_numerator 13 = .ok (.goto 4, 3) := by decide +kernel
theorem dX5_numerator_16 : decode cX5_numerator 16 = .ok (.lconst 0, 1) := by decide +kernel
theorem dX5_numerator_17 : decode cX5_numerator 17 = .ok (.lreturn, 1) := by decide +kernel
set_option maxRecDepth 20000 in
theorem ggX5_denominator_X2_isWeather : GoodIn wsX5_denominator wsX2_isWeather := goodIn_r _ [5] (by decide +kernel) (by decide +kernel)
set_option maxRecDepth 20000 in
theorem gX5_denominator_X2_isWeather : GoodIn wsX5_denominator (va_wsS RX5 18 yX2_isWeather wsX2_isWeather) := goodIn_app (goodIn_of _ (by decide +kernel)) ggX5_denominator_X2_isWeather
theorem dX5_denominator_0 : decode cX5_denominator 0 = .ok (.iload_n 1, 1) := by decide +kernel
theorem dX5_denominator_1 : decode cX5_denominator 1 = .ok (.invokestatic 18, 3) := by decide +kernel
theorem dX5_denominator_4 : decode cX5_denominator 4 = .ok (.ifCond .eq 12, 3) := by decide +kernel
theorem dX5_denominator_7 : decode cX5_denominator 7 = .ok (.aload_n 0, 1) := by decide +kernel
theorem dX5_denominator_8 : decode cX5_denominator 8 = .ok (.getfield 15, 3) := by decide +kernel
theorem dX5_denominator_11 : decode cX5_denominator 11 = .ok (.iload_n 1, 1) := by decide +kernel
theorem dX5_denominator_12 : decode cX5_denominator 12 = .ok (.laload, 1) := by decide +kernel
theorem dX5_denominator_13 : decode cX5_denominator 13 = .ok (.goto 4, 3) := by decide +kernel
theorem dX5_denominator_16 : decode cX5_denominator 16 = .ok (.lconst 1, 1) := by decide +kernel
theorem dX5_denominator_17 : decode cX5_denominator 17 = .ok (.lreturn, 1) := by decide +kernel
set_option maxRecDepth 20000 in
theorem ggX5_add_X2_isWeather : GoodIn wsX5_add wsX2_isWeather := goodIn_r _ [6] (by decide +kernel) (by decide +kernel)
set_option maxRecDepth 20000 in
theorem gX5_add_X2_isWeather : GoodIn wsX5_add (va_wsS RX5 18 yX2_isWeather wsX2_isWeather) := goodIn_app (goodIn_of _ (by decide +kernel)) ggX5_add_X2_isWeather
set_option maxRecDepth 20000 in
theorem ggX5_add_X5_greatestDivisor : GoodIn wsX5_add wsX5_greatestDivisor := goodIn_ca (goodIn_r _ [10] (by decide +kernel) (by decide +kernel)) (goodIn_sub (fun _ h => List.mem_cons_of_mem _ (List.mem_append_right _ h)) (by decide +kernel))
set_option maxRecDepth 20000 in
theorem gX5_add_X5_greatestDivisor : GoodIn wsX5_add (va_wsS RX5 24 yX5_greatestDivisor wsX5_greatestDivisor) := goodIn_app (goodIn_of _ (by decide +kernel)) ggX5_add_X5_greatestDivisor
theorem dX5_add_0 : decode cX5_add 0 = .ok (.iload_n 1, 1) := by decide +kernel
theorem dX5_add_1 : decode cX5_add 1 = .ok (.invokestatic 18, 3) := by decide +kernel
theorem dX5_add_4 : decode cX5_add 4 = .ok (.ifCond .eq 9, 3) := by decide +kernel
theorem dX5_add_7 : decode cX5_add 7 = .ok (.lload_n 2, 1) := by decide +kernel
theorem dX5_add_8 : decode cX5_add 8 = .ok (.lconst 0, 1) := by decide +kernel
theorem dX5_add_9 : decode cX5_add 9 = .ok (.lcmp, 1) := by decide +kernel
theorem dX5_add_10 : decode cX5_add 10 = .ok (.ifCond .ne 4, 3) := by decide +kernel
theorem dX5_add_13 : decode cX5_add 13 = .ok (.return_, 1) := by decide +kernel
theorem dX5_add_14 : decode cX5_add 14 = .ok (.aload_n 0, 1) := by decide +kernel
theorem dX5_add_15 : decode cX5_add 15 = .ok (.getfield 15, 3) := by decide +kernel
theorem dX5_add_18 : decode cX5_add 18 = .ok (.iload_n 1, 1) := by decide +kernel
theorem dX5_add_19 : decode cX5_add 19 = .ok (.laload, 1) := by decide +kernel
theorem dX5_add_20 : decode cX5_add 20 = .ok (.lload 4, 2) := by decide +kernel
theorem dX5_add_22 : decode cX5_add 22 = .ok (.invokestatic 24, 3) := by decide +kernel
theorem dX5_add_25 : decode cX5_add 25 = .ok (.lstore 6, 2) := by decide +kernel
theorem dX5_add_27 : decode cX5_add 27 = .ok (.lload 4, 2) := by decide +kernel
theorem dX5_add_29 : decode cX5_add 29 = .ok (.lload 6, 2) := by decide +kernel
theorem dX5_add_31 : decode cX5_add 31 = .ok (.ldiv, 1) := by decide +kernel
theorem dX5_add_32 : decode cX5_add 32 = .ok (.lstore 8, 2) := by decide +kernel
theorem dX5_add_34 : decode cX5_add 34 = .ok (.aload_n 0, 1) := by decide +kernel
theorem dX5_add_35 : decode cX5_add 35 = .ok (.getfield 15, 3) := by decide +kernel
theorem dX5_add_38 : decode cX5_add 38 = .ok (.iload_n 1, 1) := by decide +kernel
theorem dX5_add_39 : decode cX5_add 39 = .ok (.laload, 1) := by decide +kernel
theorem dX5_add_40 : decode cX5_add 40 = .ok (.lload 6, 2) := by decide +kernel
theorem dX5_add_42 : decode cX5_add 42 = .ok (.ldiv, 1) := by decide +kernel
theorem dX5_add_43 : decode cX5_add 43 = .ok (.lstore 10, 2) := by decide +kernel
theorem dX5_add_45 : decode cX5_add 45 = .ok (.aload_n 0, 1) := by decide +kernel
theorem dX5_add_46 : decode cX5_add 46 = .ok (.getfield 9, 3) := by decide +kernel
theorem dX5_add_49 : decode cX5_add 49 = .ok (.iload_n 1, 1) := by decide +kernel
theorem dX5_add_50 : decode cX5_add 50 = .ok (.laload, 1) := by decide +kernel
theorem dX5_add_51 : decode cX5_add 51 = .ok (.lload 8, 2) := by decide +kernel
theorem dX5_add_53 : decode cX5_add 53 = .ok (.lmul, 1) := by decide +kernel
theorem dX5_add_54 : decode cX5_add 54 = .ok (.lload_n 2, 1) := by decide +kernel
theorem dX5_add_55 : decode cX5_add 55 = .ok (.lload 10, 2) := by decide +kernel
theorem dX5_add_57 : decode cX5_add 57 = .ok (.lmul, 1) := by decide +kernel
theorem dX5_add_58 : decode cX5_add 58 = .ok (.ladd, 1) := by decide +kernel
theorem dX5_add_59 : decode cX5_add 59 = .ok (.lstore 12, 2) := by decide +kernel
theorem dX5_add_61 : decode cX5_add 61 = .ok (.lload 10, 2) := by decide +kernel
theorem dX5_add_63 : decode cX5_add 63 = .ok (.lload 4, 2) := by decide +kernel
theorem dX5_add_65 : decode cX5_add 65 = .ok (.lmul, 1) := by decide +kernel
theorem dX5_add_66 : decode cX5_add 66 = .ok (.lstore 14, 2) := by decide +kernel
theorem dX5_add_68 : decode cX5_add 68 = .ok (.lload 12, 2) := by decide +kernel
theorem dX5_add_70 : decode cX5_add 70 = .ok (.lload 14, 2) := by decide +kernel
theorem dX5_add_72 : decode cX5_add 72 = .ok (.invokestatic 24, 3) := by decide +kernel
theorem dX5_add_75 : decode cX5_add 75 = .ok (.lstore 16, 2) := by decide +kernel
theorem dX5_add_77 : decode cX5_add 77 = .ok (.aload_n 0, 1) := by decide +kernel
theorem dX5_add_78 : decode cX5_add 78 = .ok (.getfield 9, 3) := by decide +kernel
theorem dX5_add_81 : decode cX5_add 81 = .ok (.iload_n 1, 1) := by decide +kernel
theorem dX5_add_82 : decode cX5_add 82 = .ok (.lload 12, 2) := by decide +kernel
theorem dX5_add_84 : decode cX5_add 84 = .ok (.lload 16, 2) := by decide +kernel
theorem dX5_add_86 : decode cX5_add 86 = .ok (.ldiv, 1) := by decide +kernel
theorem dX5_add_87 : decode cX5_add 87 = .ok (.lastore, 1) := by decide +kernel
theorem dX5_add_88 : decode cX5_add 88 = .ok (.aload_n 0, 1) := by decide +kernel
theorem dX5_add_89 : decode cX5_add 89 = .ok (.getfield 15, 3) := by decide +kernel
theorem dX5_add_92 : decode cX5_add 92 = .ok (.iload_n 1, 1) := by decide +kernel
theorem dX5_add_93 : decode cX5_add 93 = .ok (.lload 14, 2) := by decide +kernel
theorem dX5_add_95 : decode cX5_add 95 = .ok (.lload 16, 2) := by decide +kernel
theorem dX5_add_97 : decode cX5_add 97 = .ok (.ldiv, 1) := by decide +kernel
theorem dX5_add_98 : decode cX5_add 98 = .ok (.lastore, 1) := by decide +kernel
theorem dX5_add_99 : decode cX5_add 99 = .ok (.return_, 1) := by decide +kernel
theorem dX5_greatestDivisor_0 : decode cX5_greatestDivisor 0 = .ok (.lload_n 0, 1) := by decide +kernel
theorem dX5_greatestDivisor_1 : decode cX5_greatestDivisor 1 = .ok (.lstore 4, 2) := by decide +kernel
theorem dX5_greatestDivisor_3 : decode cX5_greatestDivisor 3 = .ok (.lload_n 2, 1) := by decide +kernel
theorem dX5_greatestDivisor_4 : decode cX5_greatestDivisor 4 = .ok (.lstore 6, 2) := by decide +kernel
theorem dX5_greatestDivisor_6 : decode cX5_greatestDivisor 6 = .ok (.iconst 0, 1) := by decide +kernel
theorem dX5_greatestDivisor_7 : decode cX5_greatestDivisor 7 = .ok (.istore 8, 2) := by decide +kernel
theorem dX5_greatestDivisor_9 : decode cX5_greatestDivisor 9 = .ok (.iload 8, 2) := by decide +kernel
theorem dX5_greatestDivisor_11 : decode cX5_greatestDivisor 11 = .ok (.bipush 100, 2) := by decide +kernel
theorem dX5_greatestDivisor_13 : decode cX5_greatestDivisor 13 = .ok (.if_icmp .ge 31, 3) := by decide +kernel
theorem dX5_greatestDivisor_16 : decode cX5_greatestDivisor 16 = .ok (.lload 6, 2) := by decide +kernel
theorem dX5_greatestDivisor_18 : decode cX5_greatestDivisor 18 = .ok (.lconst 0, 1) := by decide +kernel
theorem dX5_greatestDivisor_19 : decode cX5_greatestDivisor 19 = .ok (.lcmp, 1) := by decide +kernel
theorem dX5_greatestDivisor_20 : decode cX5_greatestDivisor 20 = .ok (.ifCond .eq 24, 3) := by decide +kernel
theorem dX5_greatestDivisor_23 : decode cX5_greatestDivisor 23 = .ok (.lload 4, 2) := by decide +kernel
theorem dX5_greatestDivisor_25 : decode cX5_greatestDivisor 25 = .ok (.lload 6, 2) := by decide +kernel
theorem dX5_greatestDivisor_27 : decode cX5_greatestDivisor 27 = .ok (.lrem, 1) := by decide +kernel
theorem dX5_greatestDivisor_28 : decode cX5_greatestDivisor 28 = .ok (.lstore 9, 2) := by decide +kernel
theorem dX5_greatestDivisor_30 : decode cX5_greatestDivisor 30 = .ok (.lload 6, 2) := by decide +kernel
theorem dX5_greatestDivisor_32 : decode cX5_greatestDivisor 32 = .ok (.lstore 4, 2) := by decide +kernel
theorem dX5_greatestDivisor_34 : decode cX5_greatestDivisor 34 = .ok (.lload 9, 2) := by decide +kernel
theorem dX5_greatestDivisor_36 : decode cX5_greatestDivisor 36 = .ok (.lstore 6, 2) := by decide +kernel
theorem dX5_greatestDivisor_38 : decode cX5_greatestDivisor 38 = .ok (.iinc 8 1, 3) := by decide +kernel
theorem dX5_greatestDivisor_41 : decode cX5_greatestDivisor 41 = .ok (.goto (-32), 3) := by decide +kernel
theorem dX5_greatestDivisor_44 : decode cX5_greatestDivisor 44 = .ok (.lload 4, 2) := by decide +kernel
theorem dX5_greatestDivisor_46 : decode cX5_greatestDivisor 46 = .ok (.lconst 0, 1) := by decide +kernel
theorem dX5_greatestDivisor_47 : decode cX5_greatestDivisor 47 = .ok (.lcmp, 1) := by decide +kernel
theorem dX5_greatestDivisor_48 : decode cX5_greatestDivisor 48 = .ok (.ifCond .le 8, 3) := by decide +kernel
theorem dX5_greatestDivisor_51 : decode cX5_greatestDivisor 51 = .ok (.lload 4, 2) := by decide +kernel
theorem dX5_greatestDivisor_53 : decode cX5_greatestDivisor 53 = .ok (.goto 4, 3) := by decide +kernel
theorem dX5_greatestDivisor_56 : decode cX5_greatestDivisor 56 = .ok (.lconst 1, 1) := by decide +kernel
theorem dX5_greatestDivisor_57 : decode cX5_greatestDivisor 57 = .ok (.lreturn, 1) := by decide +kernel
set_option maxRecDepth 20000 in
theorem ggX5_greatest_X5_denominator : GoodIn wsX5_greatest wsX5_denominator := goodIn_ca (goodIn_r _ [7, 2, 8, 9, 10, 11, 16, 17] (by decide +kernel) (by decide +kernel)) (goodIn_sub (fun _ h => List.mem_cons_of_mem _ (List.mem_append_right _ h)) (by decide +kernel))
set_option maxRecDepth 20000 in
theorem gX5_greatest_X5_denominator : GoodIn wsX5_greatest (wsV RX5 28 RX5 yX5_denominator wsX5_denominator) := goodIn_app (goodIn_of _ (by decide +kernel)) ggX5_greatest_X5_denominator
set_option maxRecDepth 20000 in
theorem ggX5_greatest_X5_numerator : GoodIn wsX5_greatest wsX5_numerator := goodIn_ca (goodIn_r _ [15, 1, 8, 9, 10, 11, 16, 17] (by decide +kernel) (by decide +kernel)) (goodIn_sub (fun _ h => List.mem_cons_of_mem _ (List.mem_append_right _ h)) (by decide +kernel))
set_option maxRecDepth 20000 in
theorem gX5_greatest_X5_numerator : GoodIn wsX5_greatest (wsV RX5 32 RX5 yX5_numerator wsX5_numerator) := goodIn_app (goodIn_of _ (by decide +kernel)) ggX5_greatest_X5_numerator
theorem dX5_greatest_0 : decode cX5_greatest 0 = .ok (.iconst 0, 1) := by decide +kernel
theorem dX5_greatest_1 : decode cX5_greatest 1 = .ok (.istore_n 1, 1) := by decide +kernel
theorem dX5_greatest_2 : decode cX5_greatest 2 = .ok (.iconst 1, 1) := by decide +kernel
theorem dX5_greatest_3 : decode cX5_greatest 3 = .ok (.istore_n 2, 1) := by decide +kernel
theorem dX5_greatest_4 : decode cX5_greatest 4 = .ok (.iload_n 2, 1) := by decide +kernel
theorem dX5_greatest_5 : decode cX5_greatest 5 = .ok (.iconst 4, 1) := by decide +kernel
theorem dX5_greatest_6 : decode cX5_greatest 6 = .ok (.if_icmp .ge 39, 3) := by decide +kernel
theorem dX5_greatest_9 : decode cX5_greatest 9 = .ok (.aload_n 0, 1) := by decide +kernel
theorem dX5_greatest_10 : decode cX5_greatest 10 = .ok (.getfield 9, 3) := by decide +kernel
theorem dX5_greatest_13 : decode cX5_greatest 13 = .ok (.iload_n 2, 1) := by decide +kernel
theorem dX5_greatest_14 : decode cX5_greatest 14 = .ok (.laload, 1) := by decide +kernel
theorem dX5_greatest_15 : decode cX5_greatest 15 = .ok (.aload_n 0, 1) := by decide +kernel
theorem dX5_greatest_16 : decode cX5_greatest 16 = .ok (.iload_n 1, 1) := by decide +kernel
theorem dX5_greatest_17 : decode cX5_greatest 17 = .ok (.invokevirtual 28, 3) := by decide +kernel
theorem dX5_greatest_20 : decode cX5_greatest 20 = .ok (.lmul, 1) := by decide +kernel
theorem dX5_greatest_21 : decode cX5_greatest 21 = .ok (.aload_n 0, 1) := by decide +kernel
theorem dX5_greatest_22 : decode cX5_greatest 22 = .ok (.iload_n 1, 1) := by decide +kernel
theorem dX5_greatest_23 : decode cX5_greatest 23 = .ok (.invokevirtual 32, 3) := by decide +kernel
theorem dX5_greatest_26 : decode cX5_greatest 26 = .ok (.aload_n 0, 1) := by decide +kernel
theorem dX5_greatest_27 : decode cX5_greatest 27 = .ok (.getfield 15, 3) := by decide +kernel
theorem dX5_greatest_30 : decode cX5_greatest 30 = .ok (.iload_n 2, 1) := by decide +kernel
theorem dX5_greatest_31 : decode cX5_greatest 31 = .ok (.laload, 1) := by decide +kernel
theorem dX5_greatest_32 : decode cX5_greatest 32 = .ok (.lmul, 1) := by decide +kernel
theorem dX5_greatest_33 : decode cX5_greatest 33 = .ok (.lcmp, 1) := by decide +kernel
theorem dX5_greatest_34 : decode cX5_greatest 34 = .ok (.ifCond .le 5, 3) := by decide +kernel
theorem dX5_greatest_37 : decode cX5_greatest 37 = .ok (.iload_n 2, 1) := by decide +kernel
theorem dX5_greatest_38 : decode cX5_greatest 38 = .ok (.istore_n 1, 1) := by decide +kernel
theorem dX5_greatest_39 : decode cX5_greatest 39 = .ok (.iinc 2 1, 3) := by decide +kernel
theorem dX5_greatest_42 : decode cX5_greatest 42 = .ok (.goto (-38), 3) := by decide +kernel
theorem dX5_greatest_45 : decode cX5_greatest 45 = .ok (.iload_n 1, 1) := by decide +kernel
theorem dX5_greatest_46 : decode cX5_greatest 46 = .ok (.ireturn, 1) := by decide +kernel
theorem dX5_equalsEach_0 : decode cX5_equalsEach 0 = .ok (.iconst 1, 1) := by decide +kernel
theorem dX5_equalsEach_1 : decode cX5_equalsEach 1 = .ok (.istore_n 2, 1) := by decide +kernel
theorem dX5_equalsEach_2 : decode cX5_equalsEach 2 = .ok (.iconst 0, 1) := by decide +kernel
theorem dX5_equalsEach_3 : decode cX5_equalsEach 3 = .ok (.istore_n 3, 1) := by decide +kernel
theorem dX5_equalsEach_4 : decode cX5_equalsEach 4 = .ok (.iload_n 3, 1) := by decide +kernel
theorem dX5_equalsEach_5 : decode cX5_equalsEach 5 = .ok (.iconst 4, 1) := by decide +kernel
theorem dX5_equalsEach_6 : decode cX5_equalsEach 6 = .ok (.if_icmp .ge 51, 3) := by decide +kernel
theorem dX5_equalsEach_9 : decode cX5_equalsEach 9 = .ok (.iload_n 2, 1) := by decide +kernel
theorem dX5_equalsEach_10 : decode cX5_equalsEach 10 = .ok (.ifCond .eq 39, 3) := by decide +kernel
theorem dX5_equalsEach_13 : decode cX5_equalsEach 13 = .ok (.aload_n 0, 1) := by decide +kernel
theorem dX5_equalsEach_14 : decode cX5_equalsEach 14 = .ok (.getfield 9, 3) := by decide +kernel
theorem dX5_equalsEach_17 : decode cX5_equalsEach 17 = .ok (.iload_n 3, 1) := by decide +kernel
theorem dX5_equalsEach_18 : decode cX5_equalsEach 18 = .ok (.laload, 1) := by decide +kernel
theorem dX5_equalsEach_19 : decode cX5_equalsEach 19 = .ok (.aload_n 1, 1) := by decide +kernel
theorem dX5_equalsEach_20 : decode cX5_equalsEach 20 = .ok (.getfield 9, 3) := by decide +kernel
theorem dX5_equalsEach_23 : decode cX5_equalsEach 23 = .ok (.iload_n 3, 1) := by decide +kernel
theorem dX5_equalsEach_24 : decode cX5_equalsEach 24 = .ok (.laload, 1) := by decide +kernel
theorem dX5_equalsEach_25 : decode cX5_equalsEach 25 = .ok (.lcmp, 1) := by decide +kernel
theorem dX5_equalsEach_26 : decode cX5_equalsEach 26 = .ok (.ifCond .ne 23, 3) := by decide +kernel
theorem dX5_equalsEach_29 : decode cX5_equalsEach 29 = .ok (.aload_n 0, 1) := by decide +kernel
theorem dX5_equalsEach_30 : decode cX5_equalsEach 30 = .ok (.getfield 15, 3) := by decide +kernel
theorem dX5_equalsEach_33 : decode cX5_equalsEach 33 = .ok (.iload_n 3, 1) := by decide +kernel
theorem dX5_equalsEach_34 : decode cX5_equalsEach 34 = .ok (.laload, 1) := by decide +kernel
theorem dX5_equalsEach_35 : decode cX5_equalsEach 35 = .ok (.aload_n 1, 1) := by decide +kernel
theorem dX5_equalsEach_36 : decode cX5_equalsEach 36 = .ok (.getfield 15, 3) := by decide +kernel
theorem dX5_equalsEach_39 : decode cX5_equalsEach 39 = .ok (.iload_n 3, 1) := by decide +kernel
theorem dX5_equalsEach_40 : decode cX5_equalsEach 40 = .ok (.laload, 1) := by decide +kernel
theorem dX5_equalsEach_41 : decode cX5_equalsEach 41 = .ok (.lcmp, 1) := by decide +kernel
theorem dX5_equalsEach_42 : decode cX5_equalsEach 42 = .ok (.ifCond .ne 7, 3) := by decide +kernel
theorem dX5_equalsEach_45 : decode cX5_equalsEach 45 = .ok (.iconst 1, 1) := by decide +kernel
theorem dX5_equalsEach_46 : decode cX5_equalsEach 46 = .ok (.goto 4, 3) := by decide +kernel
theorem dX5_equalsEach_49 : decode cX5_equalsEach 49 = .ok (.iconst 0, 1) := by decide +kernel
theorem dX5_equalsEach_50 : decode cX5_equalsEach 50 = .ok (.istore_n 2, 1) := by decide +kernel
theorem dX5_equalsEach_51 : decode cX5_equalsEach 51 = .ok (.iinc 3 1, 3) := by decide +kernel
theorem dX5_equalsEach_54 : decode cX5_equalsEach 54 = .ok (.goto (-50), 3) := by decide +kernel
theorem dX5_equalsEach_57 : decode cX5_equalsEach 57 = .ok (.iload_n 2, 1) := by decide +kernel
theorem dX5_equalsEach_58 : decode cX5_equalsEach 58 = .ok (.ireturn, 1) := by decide +kernel
set_option maxRecDepth 20000 in
theorem ggX5_addUpToOne_X5_greatestDivisor : GoodIn wsX5_addUpToOne wsX5_greatestDivisor := goodIn_ca (goodIn_r _ [6] (by decide +kernel) (by decide +kernel)) (goodIn_sub (fun _ h => List.mem_cons_of_mem _ (List.mem_append_right _ h)) (by decide +kernel))
set_option maxRecDepth 20000 in
theorem gX5_addUpToOne_X5_greatestDivisor : GoodIn wsX5_addUpToOne (va_wsS RX5 24 yX5_greatestDivisor wsX5_greatestDivisor) := goodIn_app (goodIn_of _ (by decide +kernel)) ggX5_addUpToOne_X5_greatestDivisor
theorem dX5_addUpToOne_0 : decode cX5_addUpToOne 0 = .ok (.lconst 0, 1) := by decide +kernel
theorem dX5_addUpToOne_1 : decode cX5_addUpToOne 1 = .ok (.lstore_n 1, 1) := by decide +kernel
theorem dX5_addUpToOne_2 : decode cX5_addUpToOne 2 = .ok (.lconst 1, 1) := by decide +kernel
theorem dX5_addUpToOne_3 : decode cX5_addUpToOne 3 = .ok (.lstore_n 3, 1) := by decide +kernel
theorem dX5_addUpToOne_4 : decode cX5_addUpToOne 4 = .ok (.iconst 0, 1) := by decide +kernel
theorem dX5_addUpToOne_5 : decode cX5_addUpToOne 5 = .ok (.istore 5, 2) := by decide +kernel
theorem dX5_addUpToOne_7 : decode cX5_addUpToOne 7 = .ok (.iload 5, 2) := by decide +kernel
theorem dX5_addUpToOne_9 : decode cX5_addUpToOne 9 = .ok (.iconst 4, 1) := by decide +kernel
theorem dX5_addUpToOne_10 : decode cX5_addUpToOne 10 = .ok (.if_icmp .ge 57, 3) := by decide +kernel
theorem dX5_addUpToOne_13 : decode cX5_addUpToOne 13 = .ok (.lload_n 3, 1) := by decide +kernel
theorem dX5_addUpToOne_14 : decode cX5_addUpToOne 14 = .ok (.aload_n 0, 1) := by decide +kernel
theorem dX5_addUpToOne_15 : decode cX5_addUpToOne 15 = .ok (.getfield 15, 3) := by decide +kernel
theorem dX5_addUpToOne_18 : decode cX5_addUpToOne 18 = .ok (.iload 5, 2) := by decide +kernel
theorem dX5_addUpToOne_20 : decode cX5_addUpToOne 20 = .ok (.laload, 1) := by decide +kernel
theorem dX5_addUpToOne_21 : decode cX5_addUpToOne 21 = .ok (.invokestatic 24, 3) := by decide +kernel
theorem dX5_addUpToOne_24 : decode cX5_addUpToOne 24 = .ok (.lstore 6, 2) := by decide +kernel
theorem dX5_addUpToOne_26 : decode cX5_addUpToOne 26 = .ok (.aload_n 0, 1) := by decide +kernel
theorem dX5_addUpToOne_27 : decode cX5_addUpToOne 27 = .ok (.getfield 15, 3) := by decide +kernel
theorem dX5_addUpToOne_30 : decode cX5_addUpToOne 30 = .ok (.iload 5, 2) := by decide +kernel
theorem dX5_addUpToOne_32 : decode cX5_addUpToOne 32 = .ok (.laload, 1) := by decide +kernel
theorem dX5_addUpToOne_33 : decode cX5_addUpToOne 33 = .ok (.lload 6, 2) := by decide +kernel
theorem dX5_addUpToOne_35 : decode cX5_addUpToOne 35 = .ok (.ldiv, 1) := by decide +kernel
theorem dX5_addUpToOne_36 : decode cX5_addUpToOne 36 = .ok (.lstore 8, 2) := by decide +kernel
theorem dX5_addUpToOne_38 : decode cX5_addUpToOne 38 = .ok (.lload_n 1, 1) := by decide +kernel
theorem dX5_addUpToOne_39 : decode cX5_addUpToOne 39 = .ok (.lload 8, 2) := by decide +kernel
theorem dX5_addUpToOne_41 : decode cX5_addUpToOne 41 = .ok (.lmul, 1) := by decide +kernel
theorem dX5_addUpToOne_42 : decode cX5_addUpToOne 42 = .ok (.aload_n 0, 1) := by decide +kernel
theorem dX5_addUpToOne_43 : decode cX5_addUpToOne 43 = .ok (.getfield 9, 3) := by decide +kernel
theorem dX5_addUpToOne_46 : decode cX5_addUpToOne 46 = .ok (.iload 5, 2) := by decide +kernel
theorem dX5_addUpToOne_48 : decode cX5_addUpToOne 48 = .ok (.laload, 1) := by decide +kernel
theorem dX5_addUpToOne_49 : decode cX5_addUpToOne 49 = .ok (.lload_n 3, 1) := by decide +kernel
theorem dX5_addUpToOne_50 : decode cX5_addUpToOne 50 = .ok (.lload 6, 2) := by decide +kernel
theorem dX5_addUpToOne_52 : decode cX5_addUpToOne 52 = .ok (.ldiv, 1) := by decide +kernel
theorem dX5_addUpToOne_53 : decode cX5_addUpToOne 53 = .ok (.lmul, 1) := by decide +kernel
theorem dX5_addUpToOne_54 : decode cX5_addUpToOne 54 = .ok (.ladd, 1) := by decide +kernel
theorem dX5_addUpToOne_55 : decode cX5_addUpToOne 55 = .ok (.lstore_n 1, 1) := by decide +kernel
theorem dX5_addUpToOne_56 : decode cX5_addUpToOne 56 = .ok (.lload_n 3, 1) := by decide +kernel
theorem dX5_addUpToOne_57 : decode cX5_addUpToOne 57 = .ok (.lload 8, 2) := by decide +kernel
theorem dX5_addUpToOne_59 : decode cX5_addUpToOne 59 = .ok (.lmul, 1) := by decide +kernel
theorem dX5_addUpToOne_60 : decode cX5_addUpToOne 60 = .ok (.lstore_n 3, 1) := by decide +kernel
theorem dX5_addUpToOne_61 : decode cX5_addUpToOne 61 = .ok (.iinc 5 1, 3) := by decide +kernel
theorem dX5_addUpToOne_64 : decode cX5_addUpToOne 64 = .ok (.goto (-57), 3) := by decide +kernel
theorem dX5_addUpToOne_67 : decode cX5_addUpToOne 67 = .ok (.lload_n 1, 1) := by decide +kernel
theorem dX5_addUpToOne_68 : decode cX5_addUpToOne 68 = .ok (.lload_n 3, 1) := by decide +kernel
theorem dX5_addUpToOne_69 : decode cX5_addUpToOne 69 = .ok (.lcmp, 1) := by decide +kernel
theorem dX5_addUpToOne_70 : decode cX5_addUpToOne 70 = .ok (.ifCond .ne 7, 3) := by decide +kernel
theorem dX5_addUpToOne_73 : decode cX5_addUpToOne 73 = .ok (.iconst 1, 1) := by decide +kernel
theorem dX5_addUpToOne_74 : decode cX5_addUpToOne 74 = .ok (.goto 4, 3) := by decide +kernel
theorem dX5_addUpToOne_77 : decode cX5_addUpToOne 77 = .ok (.iconst 0, 1) := by decide +kernel
theorem dX5_addUpToOne_78 : decode cX5_addUpToOne 78 = .ok (.ireturn, 1) := by decide +kernel
set_option maxRecDepth 20000 in
theorem ggX6_init_X11_init : GoodIn wsX6_init wsX11_init := goodIn_ca (goodIn_r _ [11, 12, 2, 3, 13, 14, 15, 16, 17, 18, 19, 20, 21, 22, 23, 24, 25, 26, 27, 28, 29, 30, 31, 32, 33, 34, 35, 36, 37, 38, 39, 40, 41, 42, 43, 44, 45, 46, 47, 55, 56, 51, 52, 53, 54, 57, 58, 59, 60, 61, 62, 63, 64] (by decide +kernel) (by decide +kernel)) (goodIn_sub (fun _ h => List.mem_cons_of_mem _ (List.mem_append_right _ h)) (by decide +kernel))
set_option maxRecDepth 20000 in
theorem gX6_init_X11_init_n24 : GoodIn wsX6_init (wsX11_init) := ggX6_init_X11_init
theorem dX6_init_0 : decode cX6_init 0 = .ok (.aload_n 0, 1) := by decide +kernel
theorem dX6_init_1 : decode cX6_init 1 = .ok (.invokespecial 3, 3) := by decide +kernel
theorem dX6_init_4 : decode cX6_init 4 = .ok (.aload_n 0, 1) := by decide +kernel
theorem dX6_init_5 : decode cX6_init 5 = .ok (.bipush 8, 2) := by decide +kernel
theorem dX6_init_7 : decode cX6_init 7 = .ok (.anewarray 9, 3) := by decide +kernel
theorem dX6_init_10 : decode cX6_init 10 = .ok (.putfield 11, 3) := by decide +kernel
theorem dX6_init_13 : decode cX6_init 13 = .ok (.aload_n 0, 1) := by decide +kernel
theorem dX6_init_14 : decode cX6_init 14 = .ok (.iconst 0, 1) := by decide +kernel
theorem dX6_init_15 : decode cX6_init 15 = .ok (.putfield 17, 3) := by decide +kernel
theorem dX6_init_18 : decode cX6_init 18 = .ok (.aload_n 0, 1) := by decide +kernel
theorem dX6_init_19 : decode cX6_init 19 = .ok (.iconst 0, 1) := by decide +kernel
theorem dX6_init_20 : decode cX6_init 20 = .ok (.putfield 21, 3) := by decide +kernel
theorem dX6_init_23 : decode cX6_init 23 = .ok (.iconst 0, 1) := by decide +kernel
theorem dX6_init_24 : decode cX6_init 24 = .ok (.istore_n 1, 1) := by decide +kernel
theorem dX6_init_25 : decode cX6_init 25 = .ok (.iload_n 1, 1) := by decide +kernel
theorem dX6_init_26 : decode cX6_init 26 = .ok (.bipush 8, 2) := by decide +kernel
theorem dX6_init_28 : decode cX6_init 28 = .ok (.if_icmp .ge 22, 3) := by decide +kernel
theorem dX6_init_31 : decode cX6_init 31 = .ok (.aload_n 0, 1) := by decide +kernel
theorem dX6_init_32 : decode cX6_init 32 = .ok (.getfield 11, 3) := by decide +kernel
theorem dX6_init_35 : decode cX6_init 35 = .ok (.iload_n 1, 1) := by decide +kernel
theorem dX6_init_36 : decode cX6_init 36 = .ok (.new 9, 3) := by decide +kernel
theorem dX6_init_39 : decode cX6_init 39 = .ok (.dup, 1) := by decide +kernel
theorem dX6_init_40 : decode cX6_init 40 = .ok (.invokespecial 24, 3) := by decide +kernel
theorem dX6_init_43 : decode cX6_init 43 = .ok (.aastore, 1) := by decide +kernel
theorem dX6_init_44 : decode cX6_init 44 = .ok (.iinc 1 1, 3) := by decide +kernel
theorem dX6_init_47 : decode cX6_init 47 = .ok (.goto (-22), 3) := by decide +kernel
theorem dX6_init_50 : decode cX6_init 50 = .ok (.return_, 1) := by decide +kernel
set_option maxRecDepth 20000 in
theorem ggX6_remember_X11_copyFrom : GoodIn wsX6_remember wsX11_copyFrom := goodIn_ca (goodIn_r _ [12, 13, 14, 15, 16, 17, 18, 19, 20, 21, 22, 23, 24, 25, 26, 27, 28, 29, 30, 31, 32, 33, 34, 35, 36, 37, 38, 39, 40, 41, 45, 46, 47, 48, 49, 50, 51, 52, 53, 54, 55, 56, 57, 58] (by decide +kernel) (by decide +kernel)) (goodIn_sub (fun _ h => List.mem_cons_of_mem _ (List.mem_append_right _ h)) (by decide +kernel))
set_option maxRecDepth 20000 in
theorem gX6_remember_X11_copyFrom : GoodIn wsX6_remember (wsV RX6 25 RX11 yX11_copyFrom wsX11_copyFrom) := goodIn_app (goodIn_of _ (by decide +kernel)) ggX6_remember_X11_copyFrom
theorem dX6_remember_0 : decode cX6_remember 0 = .ok (.aload_n 0, 1) := by decide +kernel
theorem dX6_remember_1 : decode cX6_remember 1 = .ok (.getfield 17, 3) := by decide +kernel
theorem dX6_remember_4 : decode cX6_remember 4 = .ok (.ifCond .lt 53, 3) := by decide +kernel
theorem dX6_remember_7 : decode cX6_remember 7 = .ok (.aload_n 0, 1) := by decide +kernel
theorem dX6_remember_8 : decode cX6_remember 8 = .ok (.getfield 17, 3) := by decide +kernel
theorem dX6_remember_11 : decode cX6_remember 11 = .ok (.bipush 8, 2) := by decide +kernel
theorem dX6_remember_13 : decode cX6_remember 13 = .ok (.if_icmp .ge 44, 3) := by decide +kernel
theorem dX6_remember_16 : decode cX6_remember 16 = .ok (.aload_n 0, 1) := by decide +kernel
theorem dX6_remember_17 : decode cX6_remember 17 = .ok (.getfield 11, 3) := by decide +kernel
theorem dX6_remember_20 : decode cX6_remember 20 = .ok (.aload_n 0, 1) := by decide +kernel
theorem dX6_remember_21 : decode cX6_remember 21 = .ok (.getfield 17, 3) := by decide +kernel
theorem dX6_remember_24 : decode cX6_remember 24 = .ok (.aaload, 1) := by decide +kernel
theorem dX6_remember_25 : decode cX6_remember 25 = .ok (.aload_n 1, 1) := by decide +kernel
theorem dX6_remember_26 : decode cX6_remember 26 = .ok (.invokevirtual 25, 3) := by decide +kernel
theorem dX6_remember_29 : decode cX6_remember 29 = .ok (.aload_n 0, 1) := by decide +kernel
theorem dX6_remember_30 : decode cX6_remember 30 = .ok (.aload_n 0, 1) := by decide +kernel
theorem dX6_remember_31 : decode cX6_remember 31 = .ok (.getfield 17, 3) := by decide +kernel
theorem dX6_remember_34 : decode cX6_remember 34 = .ok (.iconst 1, 1) := by decide +kernel
theorem dX6_remember_35 : decode cX6_remember 35 = .ok (.iadd, 1) := by decide +kernel
theorem dX6_remember_36 : decode cX6_remember 36 = .ok (.bipush 8, 2) := by decide +kernel
theorem dX6_remember_38 : decode cX6_remember 38 = .ok (.irem, 1) := by decide +kernel
theorem dX6_remember_39 : decode cX6_remember 39 = .ok (.putfield 17, 3) := by decide +kernel
theorem dX6_remember_42 : decode cX6_remember 42 = .ok (.aload_n 0, 1) := by decide +kernel
theorem dX6_remember_43 : decode cX6_remember 43 = .ok (.aload_n 0, 1) := by decide +kernel
theorem dX6_remember_44 : decode cX6_remember 44 = .ok (.getfield 21, 3) := by decide +kernel
theorem dX6_remember_47 : decode cX6_remember 47 = .ok (.iconst 1, 1) := by decide +kernel
theorem dX6_remember_48 : decode cX6_remember 48 = .ok (.iadd, 1) := by decide +kernel
theorem dX6_remember_49 : decode cX6_remember 49 = .ok (.bipush 8, 2) := by decide +kernel
theorem dX6_remember_51 : decode cX6_remember 51 = .ok (.invokestatic 29, 3) := by decide +kernel
theorem dX6_remember_54 : decode cX6_remember 54 = .ok (.putfield 21, 3) := by decide +kernel
theorem dX6_remember_57 : decode cX6_remember 57 = .ok (.return_, 1) := by decide +kernel
set_option maxRecDepth 20000 in
theorem ggX6_takeBack_X11_copyFrom : GoodIn wsX6_takeBack wsX11_copyFrom := goodIn_ca (goodIn_r _ [8, 9, 10, 11, 12, 13, 14, 15, 16, 17, 18, 19, 20, 21, 22, 23, 24, 25, 26, 27, 28, 29, 30, 31, 32, 33, 34, 35, 36, 37, 41, 42, 43, 44, 45, 46, 47, 48, 49, 50, 51, 52, 53, 54] (by decide +kernel) (by decide +kernel)) (goodIn_sub (fun _ h => List.mem_cons_of_mem _ (List.mem_append_right _ h)) (by decide +kernel))
set_option maxRecDepth 20000 in
theorem gX6_takeBack_X11_copyFrom : GoodIn wsX6_takeBack (wsV RX6 25 RX11 yX11_copyFrom wsX11_copyFrom) := goodIn_app (goodIn_of _ (by decide +kernel)) ggX6_takeBack_X11_copyFrom
theorem dX6_takeBack_0 : decode cX6_takeBack 0 = .ok (.aload_n 0, 1) := by decide +kernel
theorem dX6_takeBack_1 : decode cX6_takeBack 1 = .ok (.getfield 17, 3) := by decide +kernel
theorem dX6_takeBack_4 : decode cX6_takeBack 4 = .ok (.bipush 8, 2) := by decide +kernel
theorem dX6_takeBack_6 : decode cX6_takeBack 6 = .ok (.iadd, 1) := by decide +kernel
theorem dX6_takeBack_7 : decode cX6_takeBack 7 = .ok (.iconst 1, 1) := by decide +kernel
theorem dX6_takeBack_8 : decode cX6_takeBack 8 = .ok (.isub, 1) := by decide +kernel
theorem dX6_takeBack_9 : decode cX6_takeBack 9 = .ok (.bipush 8, 2) := by decide +kernel
theorem dX6_takeBack_11 : decode cX6_takeBack 11 = .ok (.irem, 1) := by decide +kernel
theorem dX6_takeBack_12 : decode cX6_takeBack 12 = .ok (.istore_n 2, 1) := by decide +kernel
theorem dX6_takeBack_13 : decode cX6_takeBack 13 = .ok (.aload_n 0, 1) := by decide +kernel
theorem dX6_takeBack_14 : decode cX6_takeBack 14 = .ok (.getfield 21, 3) := by decide +kernel
theorem dX6_takeBack_17 : decode cX6_takeBack 17 = .ok (.ifCond .le 32, 3) := by decide +kernel
theorem dX6_takeBack_20 : decode cX6_takeBack 20 = .ok (.iload_n 2, 1) := by decide +kernel
theorem dX6_takeBack_21 : decode cX6_takeBack 21 = .ok (.ifCond .lt 28, 3) := by decide +kernel
theorem dX6_takeBack_24 : decode cX6_takeBack 24 = .ok (.aload_n 1, 1) := by decide +kernel
theorem dX6_takeBack_25 : decode cX6_takeBack 25 = .ok (.aload_n 0, 1) := by decide +kernel
theorem dX6_takeBack_26 : decode cX6_takeBack 26 = .ok (.getfield 11, 3) := by decide +kernel
theorem dX6_takeBack_29 : decode cX6_takeBack 29 = .ok (.iload_n 2, 1) := by decide +kernel
theorem dX6_takeBack_30 : decode cX6_takeBack 30 = .ok (.aaload, 1) := by decide +kernel
theorem dX6_takeBack_31 : decode cX6_takeBack 31 = .ok (.invokevirtual 25, 3) := by decide +kernel
theorem dX6_takeBack_34 : decode cX6_takeBack 34 = .ok (.aload_n 0, 1) := by decide +kernel
theorem dX6_takeBack_35 : decode cX6_takeBack 35 = .ok (.iload_n 2, 1) := by decide +kernel
theorem dX6_takeBack_36 : decode cX6_takeBack 36 = .ok (.putfield 17, 3) := by decide +kernel
theorem dX6_takeBack_39 : decode cX6_takeBack 39 = .ok (.aload_n 0, 1) := by decide +kernel
theorem dX6_takeBack_40 : decode cX6_takeBack 40 = .ok (.dup, 1) := by decide +kernel
theorem dX6_takeBack_41 : decode cX6_takeBack 41 = .ok (.getfield 21, 3) := by decide +kernel
theorem dX6_takeBack_44 : decode cX6_takeBack 44 = .ok (.iconst 1, 1) := by decide +kernel
theorem dX6_takeBack_45 : decode cX6_takeBack 45 = .ok (.isub, 1) := by decide +kernel
theorem dX6_takeBack_46 : decode cX6_takeBack 46 = .ok (.putfield 21, 3) := by decide +kernel
theorem dX6_takeBack_49 : decode cX6_takeBack 49 = .ok (.return_, 1) := by decide +kernel
theorem dX6_clear_0 : decode cX6_clear 0 = .ok (.aload_n 0, 1) := by decide +kernel
theorem dX6_clear_1 : decode cX6_clear 1 = .ok (.iconst 0, 1) := by decide +kernel
theorem dX6_clear_2 : decode cX6_clear 2 = .ok (.putfield 21, 3) := by decide +kernel
theorem dX6_clear_5 : decode cX6_clear 5 = .ok (.return_, 1) := by decide +kernel
theorem dX8_init_0 : decode cX8_init 0 = .ok (.aload_n 0, 1) := by decide +kernel
theorem dX8_init_1 : decode cX8_init 1 = .ok (.invokespecial 3, 3) := by decide +kernel
theorem dX8_init_4 : decode cX8_init 4 = .ok (.aload_n 0, 1) := by decide +kernel
theorem dX8_init_5 : decode cX8_init 5 = .ok (.sipush 160, 3) := by decide +kernel
theorem dX8_init_8 : decode cX8_init 8 = .ok (.newarray .char, 2) := by decide +kernel
theorem dX8_init_10 : decode cX8_init 10 = .ok (.putfield 9, 3) := by decide +kernel
theorem dX8_init_13 : decode cX8_init 13 = .ok (.aload_n 0, 1) := by decide +kernel
theorem dX8_init_14 : decode cX8_init 14 = .ok (.iconst 0, 1) := by decide +kernel
theorem dX8_init_15 : decode cX8_init 15 = .ok (.putfield 15, 3) := by decide +kernel
theorem dX8_init_18 : decode cX8_init 18 = .ok (.return_, 1) := by decide +kernel
theorem dX8_clear_0 : decode cX8_clear 0 = .ok (.aload_n 0, 1) := by decide +kernel
theorem dX8_clear_1 : decode cX8_clear 1 = .ok (.iconst 0, 1) := by decide +kernel
theorem dX8_clear_2 : decode cX8_clear 2 = .ok (.putfield 15, 3) := by decide +kernel
theorem dX8_clear_5 : decode cX8_clear 5 = .ok (.return_, 1) := by decide +kernel
theorem dX8_has_0 : decode cX8_has 0 = .ok (.iload_n 1, 1) := by decide +kernel
theorem dX8_has_1 : decode cX8_has 1 = .ok (.ifCond .lt 22, 3) := by decide +kernel
theorem dX8_has_4 : decode cX8_has 4 = .ok (.iload_n 1, 1) := by decide +kernel
theorem dX8_has_5 : decode cX8_has 5 = .ok (.aload_n 0, 1) := by decide +kernel
theorem dX8_has_6 : decode cX8_has 6 = .ok (.getfield 15, 3) := by decide +kernel
theorem dX8_has_9 : decode cX8_has 9 = .ok (.if_icmp .ge 14, 3) := by decide +kernel
theorem dX8_has_12 : decode cX8_has 12 = .ok (.iload_n 1, 1) := by decide +kernel
theorem dX8_has_13 : decode cX8_has 13 = .ok (.sipush 160, 3) := by decide +kernel
theorem dX8_has_16 : decode cX8_has 16 = .ok (.if_icmp .ge 7, 3) := by decide +kernel
theorem dX8_has_19 : decode cX8_has 19 = .ok (.iconst 1, 1) := by decide +kernel
theorem dX8_has_20 : decode cX8_has 20 = .ok (.goto 4, 3) := by decide +kernel
theorem dX8_has_23 : decode cX8_has 23 = .ok (.iconst 0, 1) := by decide +kernel
theorem dX8_has_24 : decode cX8_has 24 = .ok (.ireturn, 1) := by decide +kernel
set_option maxRecDepth 20000 in
theorem ggX8_signAt_X8_has : GoodIn wsX8_signAt wsX8_has := goodIn_r _ [6, 7, 8, 9] (by decide +kernel) (by decide +kernel)
set_option maxRecDepth 20000 in
theorem gX8_signAt_X8_has : GoodIn wsX8_signAt (wsV RX8 19 RX8 yX8_has wsX8_has) := goodIn_app (goodIn_of _ (by decide +kernel)) ggX8_signAt_X8_has
theorem dX8_signAt_0 : decode cX8_signAt 0 = .ok (.aload_n 0, 1) := by decide +kernel
theorem dX8_signAt_1 : decode cX8_signAt 1 = .ok (.iload_n 1, 1) := by decide +kernel
theorem dX8_signAt_2 : decode cX8_signAt 2 = .ok (.invokevirtual 19, 3) := by decide +kernel
theorem dX8_signAt_5 : decode cX8_signAt 5 = .ok (.ifCond .eq 12, 3) := by decide +kernel
theorem dX8_signAt_8 : decode cX8_signAt 8 = .ok (.aload_n 0, 1) := by decide +kernel
theorem dX8_signAt_9 : decode cX8_signAt 9 = .ok (.getfield 9, 3) := by decide +kernel
theorem dX8_signAt_12 : decode cX8_signAt 12 = .ok (.iload_n 1, 1) := by decide +kernel
theorem dX8_signAt_13 : decode cX8_signAt 13 = .ok (.caload, 1) := by decide +kernel
theorem dX8_signAt_14 : decode cX8_signAt 14 = .ok (.goto 4, 3) := by decide +kernel
theorem dX8_signAt_17 : decode cX8_signAt 17 = .ok (.iconst 0, 1) := by decide +kernel
theorem dX8_signAt_18 : decode cX8_signAt 18 = .ok (.ireturn, 1) := by decide +kernel
theorem dX8_put_0 : decode cX8_put 0 = .ok (.aload_n 0, 1) := by decide +kernel
theorem dX8_put_1 : decode cX8_put 1 = .ok (.getfield 15, 3) := by decide +kernel
theorem dX8_put_4 : decode cX8_put 4 = .ok (.ifCond .lt 33, 3) := by decide +kernel
theorem dX8_put_7 : decode cX8_put 7 = .ok (.aload_n 0, 1) := by decide +kernel
theorem dX8_put_8 : decode cX8_put 8 = .ok (.getfield 15, 3) := by decide +kernel
theorem dX8_put_11 : decode cX8_put 11 = .ok (.sipush 160, 3) := by decide +kernel
theorem dX8_put_14 : decode cX8_put 14 = .ok (.if_icmp .ge 23, 3) := by decide +kernel
theorem dX8_put_17 : decode cX8_put 17 = .ok (.aload_n 0, 1) := by decide +kernel
theorem dX8_put_18 : decode cX8_put 18 = .ok (.getfield 9, 3) := by decide +kernel
theorem dX8_put_21 : decode cX8_put 21 = .ok (.aload_n 0, 1) := by decide +kernel
theorem dX8_put_22 : decode cX8_put 22 = .ok (.getfield 15, 3) := by decide +kernel
theorem dX8_put_25 : decode cX8_put 25 = .ok (.iload_n 1, 1) := by decide +kernel
theorem dX8_put_26 : decode cX8_put 26 = .ok (.castore, 1) := by decide +kernel
theorem dX8_put_27 : decode cX8_put 27 = .ok (.aload_n 0, 1) := by decide +kernel
theorem dX8_put_28 : decode cX8_put 28 = .ok (.dup, 1) := by decide +kernel
theorem dX8_put_29 : decode cX8_put 29 = .ok (.getfield 15, 3) := by decide +kernel
theorem dX8_put_32 : decode cX8_put 32 = .ok (.iconst 1, 1) := by decide +kernel
theorem dX8_put_33 : decode cX8_put 33 = .ok (.iadd, 1) := by decide +kernel
theorem dX8_put_34 : decode cX8_put 34 = .ok (.putfield 15, 3) := by decide +kernel
theorem dX8_put_37 : decode cX8_put 37 = .ok (.return_, 1) := by decide +kernel
set_option maxRecDepth 20000 in
theorem ggX8_putAll_J0_length_8abf5 : GoodIn wsX8_putAll wsJ0_length_8abf5 := goodIn_r _ [5, 6, 7, 8, 9, 4, 10, 11, 12, 57, 58] (by decide +kernel) (by decide +kernel)
set_option maxRecDepth 20000 in
theorem gX8_putAll_J0_length_8abf5 : GoodIn wsX8_putAll (wsV RX8 23 RJ0 yJ0_length_8abf5 wsJ0_length_8abf5) := goodIn_app (goodIn_of _ (by decide +kernel)) ggX8_putAll_J0_length_8abf5
set_option maxRecDepth 20000 in
theorem ggX8_putAll_J0_charAt_5068e : GoodIn wsX8_putAll wsJ0_charAt_5068e := goodIn_r _ [16, 6, 17, 18, 19, 4, 20, 11, 12, 21, 22, 23, 24, 25, 26, 27, 28, 29, 30, 31, 32, 33, 34, 35, 36, 37, 38, 39, 40, 41, 42, 43, 44, 45, 46, 47, 48, 49, 57, 58] (by decide +kernel) (by decide +kernel)
set_option maxRecDepth 20000 in
theorem gX8_putAll_J0_charAt_5068e : GoodIn wsX8_putAll (wsV RX8 28 RJ0 yJ0_charAt_5068e wsJ0_charAt_5068e) := goodIn_app (goodIn_of _ (by decide +kernel)) ggX8_putAll_J0_charAt_5068e
set_option maxRecDepth 20000 in
theorem ggX8_putAll_X8_put : GoodIn wsX8_putAll wsX8_put := goodIn_ca (goodIn_r _ [54, 55, 56, 59, 60] (by decide +kernel) (by decide +kernel)) (goodIn_sub (fun _ h => List.mem_cons_of_mem _ (List.mem_append_right _ h)) (by decide +kernel))
set_option maxRecDepth 20000 in
theorem gX8_putAll_X8_put : GoodIn wsX8_putAll (wsV RX8 32 RX8 yX8_put wsX8_put) := goodIn_app (goodIn_of _ (by decide +kernel)) ggX8_putAll_X8_put
theorem dX8_putAll_0 : decode cX8_putAll 0 = .ok (.iconst 0, 1) := by decide +kernel
theorem dX8_putAll_1 : decode cX8_putAll 1 = .ok (.istore_n 2, 1) := by decide +kernel
theorem dX8_putAll_2 : decode cX8_putAll 2 = .ok (.iload_n 2, 1) := by decide +kernel
theorem dX8_putAll_3 : decode cX8_putAll 3 = .ok (.aload_n 1, 1) := by decide +kernel
theorem dX8_putAll_4 : decode cX8_putAll 4 = .ok (.invokevirtual 23, 3) := by decide +kernel
theorem dX8_putAll_7 : decode cX8_putAll 7 = .ok (.if_icmp .ge 18, 3) := by decide +kernel
theorem dX8_putAll_10 : decode cX8_putAll 10 = .ok (.aload_n 0, 1) := by decide +kernel
theorem dX8_putAll_11 : decode cX8_putAll 11 = .ok (.aload_n 1, 1) := by decide +kernel
theorem dX8_putAll_12 : decode cX8_putAll 12 = .ok (.iload_n 2, 1) := by decide +kernel
theorem dX8_putAll_13 : decode cX8_putAll 13 = .ok (.invokevirtual 28, 3) := by decide +kernel
theorem dX8_putAll_16 : decode cX8_putAll 16 = .ok (.invokevirtual 32, 3) := by decide +kernel
theorem dX8_putAll_19 : decode cX8_putAll 19 = .ok (.iinc 2 1, 3) := by decide +kernel
theorem dX8_putAll_22 : decode cX8_putAll 22 = .ok (.goto (-20), 3) := by decide +kernel
theorem dX8_putAll_25 : decode cX8_putAll 25 = .ok (.return_, 1) := by decide +kernel
set_option maxRecDepth 20000 in
theorem ggX8_putNumber_X8_put : GoodIn wsX8_putNumber wsX8_put := goodIn_ca (goodIn_r _ [7, 8, 9, 10, 11] (by decide +kernel) (by decide +kernel)) (goodIn_sub (fun _ h => List.mem_cons_of_mem _ (List.mem_append_right _ h)) (by decide +kernel))
set_option maxRecDepth 20000 in
theorem gX8_putNumber_X8_put : GoodIn wsX8_putNumber (wsV RX8 32 RX8 yX8_put wsX8_put) := goodIn_app (goodIn_of _ (by decide +kernel)) ggX8_putNumber_X8_put
theorem dX8_putNumber_0 : decode cX8_putNumber 0 = .ok (.lconst 1, 1) := by decide +kernel
theorem dX8_putNumber_1 : decode cX8_putNumber 1 = .ok (.lstore_n 3, 1) := by decide +kernel
theorem dX8_putNumber_2 : decode cX8_putNumber 2 = .ok (.iconst 1, 1) := by decide +kernel
theorem dX8_putNumber_3 : decode cX8_putNumber 3 = .ok (.istore 5, 2) := by decide +kernel
theorem dX8_putNumber_5 : decode cX8_putNumber 5 = .ok (.iload 5, 2) := by decide +kernel
theorem dX8_putNumber_7 : decode cX8_putNumber 7 = .ok (.bipush 18, 2) := by decide +kernel
theorem dX8_putNumber_9 : decode cX8_putNumber 9 = .ok (.if_icmp .ge 25, 3) := by decide +kernel
theorem dX8_putNumber_12 : decode cX8_putNumber 12 = .ok (.lload_n 3, 1) := by decide +kernel
theorem dX8_putNumber_13 : decode cX8_putNumber 13 = .ok (.lload_n 1, 1) := by decide +kernel
theorem dX8_putNumber_14 : decode cX8_putNumber 14 = .ok (.ldc2_w 36, 3) := by decide +kernel
theorem dX8_putNumber_17 : decode cX8_putNumber 17 = .ok (.ldiv, 1) := by decide +kernel
theorem dX8_putNumber_18 : decode cX8_putNumber 18 = .ok (.lcmp, 1) := by decide +kernel
theorem dX8_putNumber_19 : decode cX8_putNumber 19 = .ok (.ifCond .gt 15, 3) := by decide +kernel
theorem dX8_putNumber_22 : decode cX8_putNumber 22 = .ok (.lload_n 3, 1) := by decide +kernel
theorem dX8_putNumber_23 : decode cX8_putNumber 23 = .ok (.ldc2_w 36, 3) := by decide +kernel
theorem dX8_putNumber_26 : decode cX8_putNumber 26 = .ok (.lmul, 1) := by decide +kernel
theorem dX8_putNumber_27 : decode cX8_putNumber 27 = .ok (.lstore_n 3, 1) := by decide +kernel
theorem dX8_putNumber_28 : decode cX8_putNumber 28 = .ok (.iinc 5 1, 3) := by decide +kernel
theorem dX8_putNumber_31 : decode cX8_putNumber 31 = .ok (.goto (-26), 3) := by decide +kernel
theorem dX8_putNumber_34 : decode cX8_putNumber 34 = .ok (.lload_n 3, 1) := by decide +kernel
theorem dX8_putNumber_35 : decode cX8_putNumber 35 = .ok (.lconst 0, 1) := by decide +kernel
theorem dX8_putNumber_36 : decode cX8_putNumber 36 = .ok (.lcmp, 1) := by decide +kernel
theorem dX8_putNumber_37 : decode cX8_putNumber 37 = .ok (.ifCond .le 29, 3) := by decide +kernel
theorem dX8_putNumber_40 : decode cX8_putNumber 40 = .ok (.aload_n 0, 1) := by decide +kernel
theorem dX8_putNumber_41 : decode cX8_putNumber 41 = .ok (.ldc2_w 38, 3) := by decide +kernel
theorem dX8_putNumber_44 : decode cX8_putNumber 44 = .ok (.lload_n 1, 1) := by decide +kernel
theorem dX8_putNumber_45 : decode cX8_putNumber 45 = .ok (.lload_n 3, 1) := by decide +kernel
theorem dX8_putNumber_46 : decode cX8_putNumber 46 = .ok (.ldiv, 1) := by decide +kernel
theorem dX8_putNumber_47 : decode cX8_putNumber 47 = .ok (.ldc2_w 36, 3) := by decide +kernel
theorem dX8_putNumber_50 : decode cX8_putNumber 50 = .ok (.lrem, 1) := by decide +kernel
theorem dX8_putNumber_51 : decode cX8_putNumber 51 = .ok (.ladd, 1) := by decide +kernel
theorem dX8_putNumber_52 : decode cX8_putNumber 52 = .ok (.l2i, 1) := by decide +kernel
theorem dX8_putNumber_53 : decode cX8_putNumber 53 = .ok (.i2c, 1) := by decide +kernel
theorem dX8_putNumber_54 : decode cX8_putNumber 54 = .ok (.invokevirtual 32, 3) := by decide +kernel
theorem dX8_putNumber_57 : decode cX8_putNumber 57 = .ok (.lload_n 3, 1) := by decide +kernel
theorem dX8_putNumber_58 : decode cX8_putNumber 58 = .ok (.ldc2_w 36, 3) := by decide +kernel
theorem dX8_putNumber_61 : decode cX8_putNumber 61 = .ok (.ldiv, 1) := by decide +kernel
theorem dX8_putNumber_62 : decode cX8_putNumber 62 = .ok (.lstore_n 3, 1) := by decide +kernel
theorem dX8_putNumber_63 : decode cX8_putNumber 63 = .ok (.goto (-29), 3) := by decide +kernel
theorem dX8_putNumber_66 : decode cX8_putNumber 66 = .ok (.return_, 1) := by decide +kernel
theorem dX9_init_0 : decode cX9_init 0 = .ok (.aload_n 0, 1) := by decide +kernel
theorem dX9_init_1 : decode cX9_init 1 = .ok (.invokespecial 3, 3) := by decide +kernel
theorem dX9_init_4 : decode cX9_init 4 = .ok (.aload_n 0, 1) := by decide +kernel
theorem dX9_init_5 : decode cX9_init 5 = .ok (.bipush 25, 2) := by decide +kernel
theorem dX9_init_7 : decode cX9_init 7 = .ok (.newarray .int, 2) := by decide +kernel
theorem dX9_init_9 : decode cX9_init 9 = .ok (.putfield 9, 3) := by decide +kernel
theorem dX9_init_12 : decode cX9_init 12 = .ok (.aload_n 0, 1) := by decide +kernel
theorem dX9_init_13 : decode cX9_init 13 = .ok (.bipush 25, 2) := by decide +kernel
theorem dX9_init_15 : decode cX9_init 15 = .ok (.newarray .int, 2) := by decide +kernel
theorem dX9_init_17 : decode cX9_init 17 = .ok (.putfield 15, 3) := by decide +kernel
theorem dX9_init_20 : decode cX9_init 20 = .ok (.aload_n 0, 1) := by decide +kernel
theorem dX9_init_21 : decode cX9_init 21 = .ok (.iconst 0, 1) := by decide +kernel
theorem dX9_init_22 : decode cX9_init 22 = .ok (.putfield 18, 3) := by decide +kernel
theorem dX9_init_25 : decode cX9_init 25 = .ok (.aload_n 0, 1) := by decide +kernel
theorem dX9_init_26 : decode cX9_init 26 = .ok (.bipush 25, 2) := by decide +kernel
theorem dX9_init_28 : decode cX9_init 28 = .ok (.newarray .int, 2) := by decide +kernel
theorem dX9_init_30 : decode cX9_init 30 = .ok (.putfield 22, 3) := by decide +kernel
theorem dX9_init_33 : decode cX9_init 33 = .ok (.return_, 1) := by decide +kernel
set_option maxRecDepth 20000 in
theorem ggX9_flood_X9_firstUnreached : GoodIn wsX9_flood wsX9_firstUnreached := goodIn_ca (goodIn_r _ [8, 1, 38, 39, 40, 41] (by decide +kernel) (by decide +kernel)) (goodIn_sub (fun _ h => List.mem_cons_of_mem _ (List.mem_append_right _ h)) (by decide +kernel))
set_option maxRecDepth 20000 in
theorem gX9_flood_X9_firstUnreached : GoodIn wsX9_flood (wsV RX9 25 RX9 yX9_firstUnreached wsX9_firstUnreached) := goodIn_app (goodIn_of _ (by decide +kernel)) ggX9_flood_X9_firstUnreached
set_option maxRecDepth 20000 in
theorem ggX9_flood_X9_enter : GoodIn wsX9_flood wsX9_enter := goodIn_ca (goodIn_r _ [12, 2, 1, 3, 38, 39, 40, 41] (by decide +kernel) (by decide +kernel)) (goodIn_sub (fun _ h => List.mem_cons_of_mem _ (List.mem_append_right _ h)) (by decide +kernel))
set_option maxRecDepth 20000 in
theorem gX9_flood_X9_enter : GoodIn wsX9_flood (wsV RX9 29 RX9 yX9_enter wsX9_enter) := goodIn_app (goodIn_of _ (by decide +kernel)) ggX9_flood_X9_enter
set_option maxRecDepth 20000 in
theorem ggX9_flood_X9_step : GoodIn wsX9_flood wsX9_step := goodIn_ca (goodIn_r _ [16, 17, 18, 19, 20, 21, 22, 23, 24, 25, 26, 7, 27, 1, 28, 29, 30, 31, 32, 33, 34, 35, 36, 37, 9, 10, 11, 12, 2, 3, 38, 39, 40, 41, 42, 43] (by decide +kernel) (by decide +kernel)) (goodIn_sub (fun _ h => List.mem_cons_of_mem _ (List.mem_append_right _ h)) (by decide +kernel))
set_option maxRecDepth 20000 in
theorem gX9_flood_X9_step : GoodIn wsX9_flood (wsV RX9 33 RX9 yX9_step wsX9_step) := goodIn_app (goodIn_of _ (by decide +kernel)) ggX9_flood_X9_step
theorem dX9_flood_0 : decode cX9_flood 0 = .ok (.iconst 0, 1) := by decide +kernel
theorem dX9_flood_1 : decode cX9_flood 1 = .ok (.istore_n 2, 1) := by decide +kernel
theorem dX9_flood_2 : decode cX9_flood 2 = .ok (.iload_n 2, 1) := by decide +kernel
theorem dX9_flood_3 : decode cX9_flood 3 = .ok (.bipush 25, 2) := by decide +kernel
theorem dX9_flood_5 : decode cX9_flood 5 = .ok (.if_icmp .ge 16, 3) := by decide +kernel
theorem dX9_flood_8 : decode cX9_flood 8 = .ok (.aload_n 0, 1) := by decide +kernel
theorem dX9_flood_9 : decode cX9_flood 9 = .ok (.getfield 9, 3) := by decide +kernel
theorem dX9_flood_12 : decode cX9_flood 12 = .ok (.iload_n 2, 1) := by decide +kernel
theorem dX9_flood_13 : decode cX9_flood 13 = .ok (.iconst (-1), 1) := by decide +kernel
theorem dX9_flood_14 : decode cX9_flood 14 = .ok (.iastore, 1) := by decide +kernel
theorem dX9_flood_15 : decode cX9_flood 15 = .ok (.iinc 2 1, 3) := by decide +kernel
theorem dX9_flood_18 : decode cX9_flood 18 = .ok (.goto (-16), 3) := by decide +kernel
theorem dX9_flood_21 : decode cX9_flood 21 = .ok (.aload_n 0, 1) := by decide +kernel
theorem dX9_flood_22 : decode cX9_flood 22 = .ok (.iconst 0, 1) := by decide +kernel
theorem dX9_flood_23 : decode cX9_flood 23 = .ok (.putfield 18, 3) := by decide +kernel
theorem dX9_flood_26 : decode cX9_flood 26 = .ok (.iconst 0, 1) := by decide +kernel
theorem dX9_flood_27 : decode cX9_flood 27 = .ok (.istore_n 2, 1) := by decide +kernel
theorem dX9_flood_28 : decode cX9_flood 28 = .ok (.iconst 0, 1) := by decide +kernel
theorem dX9_flood_29 : decode cX9_flood 29 = .ok (.istore_n 3, 1) := by decide +kernel
theorem dX9_flood_30 : decode cX9_flood 30 = .ok (.iload_n 3, 1) := by decide +kernel
theorem dX9_flood_31 : decode cX9_flood 31 = .ok (.bipush 25, 2) := by decide +kernel
theorem dX9_flood_33 : decode cX9_flood 33 = .ok (.if_icmp .ge 101, 3) := by decide +kernel
theorem dX9_flood_36 : decode cX9_flood 36 = .ok (.iload_n 3, 1) := by decide +kernel
theorem dX9_flood_37 : decode cX9_flood 37 = .ok (.aload_n 0, 1) := by decide +kernel
theorem dX9_flood_38 : decode cX9_flood 38 = .ok (.getfield 18, 3) := by decide +kernel
theorem dX9_flood_41 : decode cX9_flood 41 = .ok (.if_icmp .ne 15, 3) := by decide +kernel
theorem dX9_flood_44 : decode cX9_flood 44 = .ok (.aload_n 0, 1) := by decide +kernel
theorem dX9_flood_45 : decode cX9_flood 45 = .ok (.aload_n 0, 1) := by decide +kernel
theorem dX9_flood_46 : decode cX9_flood 46 = .ok (.invokevirtual 25, 3) := by decide +kernel
theorem dX9_flood_49 : decode cX9_flood 49 = .ok (.iload_n 2, 1) := by decide +kernel
theorem dX9_flood_50 : decode cX9_flood 50 = .ok (.invokevirtual 29, 3) := by decide +kernel
theorem dX9_flood_53 : decode cX9_flood 53 = .ok (.iinc 2 1, 3) := by decide +kernel
theorem dX9_flood_56 : decode cX9_flood 56 = .ok (.aload_n 0, 1) := by decide +kernel
theorem dX9_flood_57 : decode cX9_flood 57 = .ok (.getfield 15, 3) := by decide +kernel
theorem dX9_flood_60 : decode cX9_flood 60 = .ok (.iload_n 3, 1) := by decide +kernel
theorem dX9_flood_61 : decode cX9_flood 61 = .ok (.iaload, 1) := by decide +kernel
theorem dX9_flood_62 : decode cX9_flood 62 = .ok (.istore 4, 2) := by decide +kernel
theorem dX9_flood_64 : decode cX9_flood 64 = .ok (.iload 4, 2) := by decide +kernel
theorem dX9_flood_66 : decode cX9_flood 66 = .ok (.iconst 5, 1) := by decide +kernel
theorem dX9_flood_67 : decode cX9_flood 67 = .ok (.idiv, 1) := by decide +kernel
theorem dX9_flood_68 : decode cX9_flood 68 = .ok (.istore 5, 2) := by decide +kernel
theorem dX9_flood_70 : decode cX9_flood 70 = .ok (.iload 4, 2) := by decide +kernel
theorem dX9_flood_72 : decode cX9_flood 72 = .ok (.iconst 5, 1) := by decide +kernel
theorem dX9_flood_73 : decode cX9_flood 73 = .ok (.irem, 1) := by decide +kernel
theorem dX9_flood_74 : decode cX9_flood 74 = .ok (.istore 6, 2) := by decide +kernel
theorem dX9_flood_76 : decode cX9_flood 76 = .ok (.aload_n 0, 1) := by decide +kernel
theorem dX9_flood_77 : decode cX9_flood 77 = .ok (.aload_n 1, 1) := by decide +kernel
theorem dX9_flood_78 : decode cX9_flood 78 = .ok (.iload 4, 2) := by decide +kernel
theorem dX9_flood_80 : decode cX9_flood 80 = .ok (.iload 5, 2) := by decide +kernel
theorem dX9_flood_82 : decode cX9_flood 82 = .ok (.iconst 1, 1) := by decide +kernel
theorem dX9_flood_83 : decode cX9_flood 83 = .ok (.isub, 1) := by decide +kernel
theorem dX9_flood_84 : decode cX9_flood 84 = .ok (.iload 6, 2) := by decide +kernel
theorem dX9_flood_86 : decode cX9_flood 86 = .ok (.invokevirtual 33, 3) := by decide +kernel
theorem dX9_flood_89 : decode cX9_flood 89 = .ok (.aload_n 0, 1) := by decide +kernel
theorem dX9_flood_90 : decode cX9_flood 90 = .ok (.aload_n 1, 1) := by decide +kernel
theorem dX9_flood_91 : decode cX9_flood 91 = .ok (.iload 4, 2) := by decide +kernel
theorem dX9_flood_93 : decode cX9_flood 93 = .ok (.iload 5, 2) := by decide +kernel
theorem dX9_flood_95 : decode cX9_flood 95 = .ok (.iconst 1, 1) := by decide +kernel
theorem dX9_flood_96 : decode cX9_flood 96 = .ok (.iadd, 1) := by decide +kernel
theorem dX9_flood_97 : decode cX9_flood 97 = .ok (.iload 6, 2) := by decide +kernel
theorem dX9_flood_99 : decode cX9_flood 99 = .ok (.invokevirtual 33, 3) := by decide +kernel
theorem dX9_flood_102 : decode cX9_flood 102 = .ok (.aload_n 0, 1) := by decide +kernel
theorem dX9_flood_103 : decode cX9_flood 103 = .ok (.aload_n 1, 1) := by decide +kernel
theorem dX9_flood_104 : decode cX9_flood 104 = .ok (.iload 4, 2) := by decide +kernel
theorem dX9_flood_106 : decode cX9_flood 106 = .ok (.iload 5, 2) := by decide +kernel
theorem dX9_flood_108 : decode cX9_flood 108 = .ok (.iload 6, 2) := by decide +kernel
theorem dX9_flood_110 : decode cX9_flood 110 = .ok (.iconst 1, 1) := by decide +kernel
theorem dX9_flood_111 : decode cX9_flood 111 = .ok (.isub, 1) := by decide +kernel
theorem dX9_flood_112 : decode cX9_flood 112 = .ok (.invokevirtual 33, 3) := by decide +kernel
theorem dX9_flood_115 : decode cX9_flood 115 = .ok (.aload_n 0, 1) := by decide +kernel
theorem dX9_flood_116 : decode cX9_flood 116 = .ok (.aload_n 1, 1) := by decide +kernel
theorem dX9_flood_117 : decode cX9_flood 117 = .ok (.iload 4, 2) := by decide +kernel
theorem dX9_flood_119 : decode cX9_flood 119 = .ok (.iload 5, 2) := by decide +kernel
theorem dX9_flood_121 : decode cX9_flood 121 = .ok (.iload 6, 2) := by decide +kernel
theorem dX9_flood_123 : decode cX9_flood 123 = .ok (.iconst 1, 1) := by decide +kernel
theorem dX9_flood_124 : decode cX9_flood 124 = .ok (.iadd, 1) := by decide +kernel
theorem dX9_flood_125 : decode cX9_flood 125 = .ok (.invokevirtual 33, 3) := by decide +kernel
theorem dX9_flood_128 : decode cX9_flood 128 = .ok (.iinc 3 1, 3) := by decide +kernel
theorem dX9_flood_131 : decode cX9_flood 131 = .ok (.goto (-101), 3) := by decide +kernel
theorem dX9_flood_134 : decode cX9_flood 134 = .ok (.iload_n 2, 1) := by decide +kernel
theorem dX9_flood_135 : decode cX9_flood 135 = .ok (.ireturn, 1) := by decide +kernel
theorem dX9_firstUnreached_0 : decode cX9_firstUnreached 0 = .ok (.iconst 0, 1) := by decide +kernel
theorem dX9_firstUnreached_1 : decode cX9_firstUnreached 1 = .ok (.istore_n 1, 1) := by decide +kernel
theorem dX9_firstUnreached_2 : decode cX9_firstUnreached 2 = .ok (.bipush 24, 2) := by decide +kernel
theorem dX9_firstUnreached_4 : decode cX9_firstUnreached 4 = .ok (.istore_n 2, 1) := by decide +kernel
theorem dX9_firstUnreached_5 : decode cX9_firstUnreached 5 = .ok (.iload_n 2, 1) := by decide +kernel
theorem dX9_firstUnreached_6 : decode cX9_firstUnreached 6 = .ok (.ifCond .lt 21, 3) := by decide +kernel
theorem dX9_firstUnreached_9 : decode cX9_firstUnreached 9 = .ok (.aload_n 0, 1) := by decide +kernel
theorem dX9_firstUnreached_10 : decode cX9_firstUnreached 10 = .ok (.getfield 9, 3) := by decide +kernel
theorem dX9_firstUnreached_13 : decode cX9_firstUnreached 13 = .ok (.iload_n 2, 1) := by decide +kernel
theorem dX9_firstUnreached_14 : decode cX9_firstUnreached 14 = .ok (.iaload, 1) := by decide +kernel
theorem dX9_firstUnreached_15 : decode cX9_firstUnreached 15 = .ok (.iconst (-1), 1) := by decide +kernel
theorem dX9_firstUnreached_16 : decode cX9_firstUnreached 16 = .ok (.if_icmp .ne 5, 3) := by decide +kernel
theorem dX9_firstUnreached_19 : decode cX9_firstUnreached 19 = .ok (.iload_n 2, 1) := by decide +kernel
theorem dX9_firstUnreached_20 : decode cX9_firstUnreached 20 = .ok (.istore_n 1, 1) := by decide +kernel
theorem dX9_firstUnreached_21 : decode cX9_firstUnreached 21 = .ok (.iinc 2 (-1), 3) := by decide +kernel
theorem dX9_firstUnreached_24 : decode cX9_firstUnreached 24 = .ok (.goto (-19), 3) := by decide +kernel
theorem dX9_firstUnreached_27 : decode cX9_firstUnreached 27 = .ok (.iload_n 1, 1) := by decide +kernel
theorem dX9_firstUnreached_28 : decode cX9_firstUnreached 28 = .ok (.ireturn, 1) := by decide +kernel
set_option maxRecDepth 20000 in
theorem ggX9_step_X10_isCell : GoodIn wsX9_step wsX10_isCell := goodIn_r _ [4] (by decide +kernel) (by decide +kernel)
set_option maxRecDepth 20000 in
theorem gX9_step_X10_isCell : GoodIn wsX9_step (va_wsS RX9 37 yX10_isCell wsX10_isCell) := goodIn_app (goodIn_of _ (by decide +kernel)) ggX9_step_X10_isCell
set_option maxRecDepth 20000 in
theorem ggX9_step_X10_cellOf : GoodIn wsX9_step wsX10_cellOf := goodIn_r _ [7] (by decide +kernel) (by decide +kernel)
set_option maxRecDepth 20000 in
theorem gX9_step_X10_cellOf : GoodIn wsX9_step (va_wsS RX9 43 yX10_cellOf wsX10_cellOf) := goodIn_app (goodIn_of _ (by decide +kernel)) ggX9_step_X10_cellOf
set_option maxRecDepth 20000 in
theorem ggX9_step_X9_regionOf : GoodIn wsX9_step wsX9_regionOf := goodIn_ca (goodIn_r _ [12, 13, 30, 31, 32, 33] (by decide +kernel) (by decide +kernel)) (goodIn_sub (fun _ h => List.mem_cons_of_mem _ (List.mem_append_right _ h)) (by decide +kernel))
set_option maxRecDepth 20000 in
theorem gX9_step_X9_regionOf : GoodIn wsX9_step (wsV RX9 47 RX9 yX9_regionOf wsX9_regionOf) := goodIn_app (goodIn_of _ (by decide +kernel)) ggX9_step_X9_regionOf
set_option maxRecDepth 20000 in
theorem ggX9_step_X10_hasFront : GoodIn wsX9_step wsX10_hasFront := goodIn_ca (goodIn_r _ [17, 18, 19, 20, 21, 3, 22, 23, 34, 35] (by decide +kernel) (by decide +kernel)) (goodIn_sub (fun _ h => List.mem_cons_of_mem _ (List.mem_append_right _ h)) (by decide +kernel))
set_option maxRecDepth 20000 in
theorem gX9_step_X10_hasFront : GoodIn wsX9_step (wsV RX9 51 RX10 yX10_hasFront wsX10_hasFront) := goodIn_app (goodIn_of _ (by decide +kernel)) ggX9_step_X10_hasFront
set_option maxRecDepth 20000 in
theorem ggX9_step_X9_enter : GoodIn wsX9_step wsX9_enter := goodIn_ca (goodIn_r _ [27, 28, 13, 29, 30, 31, 32, 33] (by decide +kernel) (by decide +kernel)) (goodIn_sub (fun _ h => List.mem_cons_of_mem _ (List.mem_append_right _ h)) (by decide +kernel))
set_option maxRecDepth 20000 in
theorem gX9_step_X9_enter : GoodIn wsX9_step (wsV RX9 29 RX9 yX9_enter wsX9_enter) := goodIn_app (goodIn_of _ (by decide +kernel)) ggX9_step_X9_enter
theorem dX9_step_0 : decode cX9_step 0 = .ok (.iload_n 3, 1) := by decide +kernel
theorem dX9_step_1 : decode cX9_step 1 = .ok (.iload 4, 2) := by decide +kernel
theorem dX9_step_3 : decode cX9_step 3 = .ok (.invokestatic 37, 3) := by decide +kernel
theorem dX9_step_6 : decode cX9_step 6 = .ok (.ifCond .ne 4, 3) := by decide +kernel
theorem dX9_step_9 : decode cX9_step 9 = .ok (.return_, 1) := by decide +kernel
theorem dX9_step_10 : decode cX9_step 10 = .ok (.iload_n 3, 1) := by decide +kernel
theorem dX9_step_11 : decode cX9_step 11 = .ok (.iload 4, 2) := by decide +kernel
theorem dX9_step_13 : decode cX9_step 13 = .ok (.invokestatic 43, 3) := by decide +kernel
theorem dX9_step_16 : decode cX9_step 16 = .ok (.istore 5, 2) := by decide +kernel
theorem dX9_step_18 : decode cX9_step 18 = .ok (.aload_n 0, 1) := by decide +kernel
theorem dX9_step_19 : decode cX9_step 19 = .ok (.iload 5, 2) := by decide +kernel
theorem dX9_step_21 : decode cX9_step 21 = .ok (.invokevirtual 47, 3) := by decide +kernel
theorem dX9_step_24 : decode cX9_step 24 = .ok (.iconst (-1), 1) := by decide +kernel
theorem dX9_step_25 : decode cX9_step 25 = .ok (.if_icmp .ne 24, 3) := by decide +kernel
theorem dX9_step_28 : decode cX9_step 28 = .ok (.aload_n 1, 1) := by decide +kernel
theorem dX9_step_29 : decode cX9_step 29 = .ok (.iload_n 2, 1) := by decide +kernel
theorem dX9_step_30 : decode cX9_step 30 = .ok (.iload 5, 2) := by decide +kernel
theorem dX9_step_32 : decode cX9_step 32 = .ok (.invokevirtual 51, 3) := by decide +kernel
theorem dX9_step_35 : decode cX9_step 35 = .ok (.ifCond .ne 14, 3) := by decide +kernel
theorem dX9_step_38 : decode cX9_step 38 = .ok (.aload_n 0, 1) := by decide +kernel
theorem dX9_step_39 : decode cX9_step 39 = .ok (.iload 5, 2) := by decide +kernel
theorem dX9_step_41 : decode cX9_step 41 = .ok (.aload_n 0, 1) := by decide +kernel
theorem dX9_step_42 : decode cX9_step 42 = .ok (.iload_n 2, 1) := by decide +kernel
theorem dX9_step_43 : decode cX9_step 43 = .ok (.invokevirtual 47, 3) := by decide +kernel
theorem dX9_step_46 : decode cX9_step 46 = .ok (.invokevirtual 29, 3) := by decide +kernel
theorem dX9_step_49 : decode cX9_step 49 = .ok (.return_, 1) := by decide +kernel
theorem dX9_enter_0 : decode cX9_enter 0 = .ok (.iload_n 1, 1) := by decide +kernel
theorem dX9_enter_1 : decode cX9_enter 1 = .ok (.ifCond .lt 52, 3) := by decide +kernel
theorem dX9_enter_4 : decode cX9_enter 4 = .ok (.iload_n 1, 1) := by decide +kernel
theorem dX9_enter_5 : decode cX9_enter 5 = .ok (.bipush 25, 2) := by decide +kernel
theorem dX9_enter_7 : decode cX9_enter 7 = .ok (.if_icmp .ge 46, 3) := by decide +kernel
theorem dX9_enter_10 : decode cX9_enter 10 = .ok (.aload_n 0, 1) := by decide +kernel
theorem dX9_enter_11 : decode cX9_enter 11 = .ok (.getfield 18, 3) := by decide +kernel
theorem dX9_enter_14 : decode cX9_enter 14 = .ok (.ifCond .lt 39, 3) := by decide +kernel
theorem dX9_enter_17 : decode cX9_enter 17 = .ok (.aload_n 0, 1) := by decide +kernel
theorem dX9_enter_18 : decode cX9_enter 18 = .ok (.getfield 18, 3) := by decide +kernel
theorem dX9_enter_21 : decode cX9_enter 21 = .ok (.bipush 25, 2) := by decide +kernel
theorem dX9_enter_23 : decode cX9_enter 23 = .ok (.if_icmp .ge 30, 3) := by decide +kernel
theorem dX9_enter_26 : decode cX9_enter 26 = .ok (.aload_n 0, 1) := by decide +kernel
theorem dX9_enter_27 : decode cX9_enter 27 = .ok (.getfield 9, 3) := by decide +kernel
theorem dX9_enter_30 : decode cX9_enter 30 = .ok (.iload_n 1, 1) := by decide +kernel
theorem dX9_enter_31 : decode cX9_enter 31 = .ok (.iload_n 2, 1) := by decide +kernel
theorem dX9_enter_32 : decode cX9_enter 32 = .ok (.iastore, 1) := by decide +kernel
theorem dX9_enter_33 : decode cX9_enter 33 = .ok (.aload_n 0, 1) := by decide +kernel
theorem dX9_enter_34 : decode cX9_enter 34 = .ok (.getfield 15, 3) := by decide +kernel
theorem dX9_enter_37 : decode cX9_enter 37 = .ok (.aload_n 0, 1) := by decide +kernel
theorem dX9_enter_38 : decode cX9_enter 38 = .ok (.getfield 18, 3) := by decide +kernel
theorem dX9_enter_41 : decode cX9_enter 41 = .ok (.iload_n 1, 1) := by decide +kernel
theorem dX9_enter_42 : decode cX9_enter 42 = .ok (.iastore, 1) := by decide +kernel
theorem dX9_enter_43 : decode cX9_enter 43 = .ok (.aload_n 0, 1) := by decide +kernel
theorem dX9_enter_44 : decode cX9_enter 44 = .ok (.dup, 1) := by decide +kernel
theorem dX9_enter_45 : decode cX9_enter 45 = .ok (.getfield 18, 3) := by decide +kernel
theorem dX9_enter_48 : decode cX9_enter 48 = .ok (.iconst 1, 1) := by decide +kernel
theorem dX9_enter_49 : decode cX9_enter 49 = .ok (.iadd, 1) := by decide +kernel
theorem dX9_enter_50 : decode cX9_enter 50 = .ok (.putfield 18, 3) := by decide +kernel
theorem dX9_enter_53 : decode cX9_enter 53 = .ok (.return_, 1) := by decide +kernel
theorem dX9_regionOf_0 : decode cX9_regionOf 0 = .ok (.iload_n 1, 1) := by decide +kernel
theorem dX9_regionOf_1 : decode cX9_regionOf 1 = .ok (.ifCond .lt 18, 3) := by decide +kernel
theorem dX9_regionOf_4 : decode cX9_regionOf 4 = .ok (.iload_n 1, 1) := by decide +kernel
theorem dX9_regionOf_5 : decode cX9_regionOf 5 = .ok (.bipush 25, 2) := by decide +kernel
theorem dX9_regionOf_7 : decode cX9_regionOf 7 = .ok (.if_icmp .ge 12, 3) := by decide +kernel
theorem dX9_regionOf_10 : decode cX9_regionOf 10 = .ok (.aload_n 0, 1) := by decide +kernel
theorem dX9_regionOf_11 : decode cX9_regionOf 11 = .ok (.getfield 9, 3) := by decide +kernel
theorem dX9_regionOf_14 : decode cX9_regionOf 14 = .ok (.iload_n 1, 1) := by decide +kernel
theorem dX9_regionOf_15 : decode cX9_regionOf 15 = .ok (.iaload, 1) := by decide +kernel
theorem dX9_regionOf_16 : decode cX9_regionOf 16 = .ok (.goto 4, 3) := by decide +kernel
theorem dX9_regionOf_19 : decode cX9_regionOf 19 = .ok (.iconst (-1), 1) := by decide +kernel
theorem dX9_regionOf_20 : decode cX9_regionOf 20 = .ok (.ireturn, 1) := by decide +kernel
set_option maxRecDepth 20000 in
theorem ggX9_sizeAround_X9_regionOf : GoodIn wsX9_sizeAround wsX9_regionOf := goodIn_ca (goodIn_r _ [6, 1, 7, 8, 9, 10] (by decide +kernel) (by decide +kernel)) (goodIn_sub (fun _ h => List.mem_cons_of_mem _ (List.mem_append_right _ h)) (by decide +kernel))
set_option maxRecDepth 20000 in
theorem gX9_sizeAround_X9_regionOf : GoodIn wsX9_sizeAround (wsV RX9 47 RX9 yX9_regionOf wsX9_regionOf) := goodIn_app (goodIn_of _ (by decide +kernel)) ggX9_sizeAround_X9_regionOf
theorem dX9_sizeAround_0 : decode cX9_sizeAround 0 = .ok (.aload_n 0, 1) := by decide +kernel
theorem dX9_sizeAround_1 : decode cX9_sizeAround 1 = .ok (.iload_n 1, 1) := by decide +kernel
theorem dX9_sizeAround_2 : decode cX9_sizeAround 2 = .ok (.invokevirtual 47, 3) := by decide +kernel
theorem dX9_sizeAround_5 : decode cX9_sizeAround 5 = .ok (.istore_n 2, 1) := by decide +kernel
theorem dX9_sizeAround_6 : decode cX9_sizeAround 6 = .ok (.iconst 0, 1) := by decide +kernel
theorem dX9_sizeAround_7 : decode cX9_sizeAround 7 = .ok (.istore_n 3, 1) := by decide +kernel
theorem dX9_sizeAround_8 : decode cX9_sizeAround 8 = .ok (.iconst 0, 1) := by decide +kernel
theorem dX9_sizeAround_9 : decode cX9_sizeAround 9 = .ok (.istore 4, 2) := by decide +kernel
theorem dX9_sizeAround_11 : decode cX9_sizeAround 11 = .ok (.iload 4, 2) := by decide +kernel
theorem dX9_sizeAround_13 : decode cX9_sizeAround 13 = .ok (.bipush 25, 2) := by decide +kernel
theorem dX9_sizeAround_15 : decode cX9_sizeAround 15 = .ok (.if_icmp .ge 23, 3) := by decide +kernel
theorem dX9_sizeAround_18 : decode cX9_sizeAround 18 = .ok (.aload_n 0, 1) := by decide +kernel
theorem dX9_sizeAround_19 : decode cX9_sizeAround 19 = .ok (.getfield 9, 3) := by decide +kernel
theorem dX9_sizeAround_22 : decode cX9_sizeAround 22 = .ok (.iload 4, 2) := by decide +kernel
theorem dX9_sizeAround_24 : decode cX9_sizeAround 24 = .ok (.iaload, 1) := by decide +kernel
theorem dX9_sizeAround_25 : decode cX9_sizeAround 25 = .ok (.iload_n 2, 1) := by decide +kernel
theorem dX9_sizeAround_26 : decode cX9_sizeAround 26 = .ok (.if_icmp .ne 6, 3) := by decide +kernel
theorem dX9_sizeAround_29 : decode cX9_sizeAround 29 = .ok (.iinc 3 1, 3) := by decide +kernel
theorem dX9_sizeAround_32 : decode cX9_sizeAround 32 = .ok (.iinc 4 1, 3) := by decide +kernel
theorem dX9_sizeAround_35 : decode cX9_sizeAround 35 = .ok (.goto (-24), 3) := by decide +kernel
theorem dX9_sizeAround_38 : decode cX9_sizeAround 38 = .ok (.iload_n 3, 1) := by decide +kernel
theorem dX9_sizeAround_39 : decode cX9_sizeAround 39 = .ok (.ireturn, 1) := by decide +kernel
set_option maxRecDepth 20000 in
theorem ggX9_unite_X10_hasRightNeighbour : GoodIn wsX9_unite wsX10_hasRightNeighbour := goodIn_r _ [5] (by decide +kernel) (by decide +kernel)
set_option maxRecDepth 20000 in
theorem gX9_unite_X10_hasRightNeighbour : GoodIn wsX9_unite (va_wsS RX9 54 yX10_hasRightNeighbour wsX10_hasRightNeighbour) := goodIn_app (goodIn_of _ (by decide +kernel)) ggX9_unite_X10_hasRightNeighbour
set_option maxRecDepth 20000 in
theorem ggX9_unite_X10_hasFront : GoodIn wsX9_unite wsX10_hasFront := goodIn_ca (goodIn_r _ [9, 10, 11, 12, 13, 4, 14, 15, 28, 29] (by decide +kernel) (by decide +kernel)) (goodIn_sub (fun _ h => List.mem_cons_of_mem _ (List.mem_append_right _ h)) (by decide +kernel))
set_option maxRecDepth 20000 in
theorem gX9_unite_X10_hasFront : GoodIn wsX9_unite (wsV RX9 51 RX10 yX10_hasFront wsX10_hasFront) := goodIn_app (goodIn_of _ (by decide +kernel)) ggX9_unite_X10_hasFront
set_option maxRecDepth 20000 in
theorem ggX9_unite_X9_join : GoodIn wsX9_unite wsX9_join := goodIn_ca (goodIn_r _ [20, 1, 24, 25, 26, 27] (by decide +kernel) (by decide +kernel)) (goodIn_sub (fun _ h => List.mem_cons_of_mem _ (List.mem_append_right _ h)) (by decide +kernel))
set_option maxRecDepth 20000 in
theorem gX9_unite_X9_join : GoodIn wsX9_unite (wsV RX9 58 RX9 yX9_join wsX9_join) := goodIn_app (goodIn_of _ (by decide +kernel)) ggX9_unite_X9_join
set_option maxRecDepth 20000 in
theorem ggX9_unite_X10_hasLowerNeighbour : GoodIn wsX9_unite wsX10_hasLowerNeighbour := goodIn_r _ [23] (by decide +kernel) (by decide +kernel)
set_option maxRecDepth 20000 in
theorem gX9_unite_X10_hasLowerNeighbour : GoodIn wsX9_unite (va_wsS RX9 61 yX10_hasLowerNeighbour wsX10_hasLowerNeighbour) := goodIn_app (goodIn_of _ (by decide +kernel)) ggX9_unite_X10_hasLowerNeighbour
theorem dX9_unite_0 : decode cX9_unite 0 = .ok (.iconst 0, 1) := by decide +kernel
theorem dX9_unite_1 : decode cX9_unite 1 = .ok (.istore_n 2, 1) := by decide +kernel
theorem dX9_unite_2 : decode cX9_unite 2 = .ok (.iload_n 2, 1) := by decide +kernel
theorem dX9_unite_3 : decode cX9_unite 3 = .ok (.bipush 25, 2) := by decide +kernel
theorem dX9_unite_5 : decode cX9_unite 5 = .ok (.if_icmp .ge 16, 3) := by decide +kernel
theorem dX9_unite_8 : decode cX9_unite 8 = .ok (.aload_n 0, 1) := by decide +kernel
theorem dX9_unite_9 : decode cX9_unite 9 = .ok (.getfield 22, 3) := by decide +kernel
theorem dX9_unite_12 : decode cX9_unite 12 = .ok (.iload_n 2, 1) := by decide +kernel
theorem dX9_unite_13 : decode cX9_unite 13 = .ok (.iload_n 2, 1) := by decide +kernel
theorem dX9_unite_14 : decode cX9_unite 14 = .ok (.iastore, 1) := by decide +kernel
theorem dX9_unite_15 : decode cX9_unite 15 = .ok (.iinc 2 1, 3) := by decide +kernel
theorem dX9_unite_18 : decode cX9_unite 18 = .ok (.goto (-16), 3) := by decide +kernel
theorem dX9_unite_21 : decode cX9_unite 21 = .ok (.bipush 25, 2) := by decide +kernel
theorem dX9_unite_23 : decode cX9_unite 23 = .ok (.istore_n 2, 1) := by decide +kernel
theorem dX9_unite_24 : decode cX9_unite 24 = .ok (.iconst 0, 1) := by decide +kernel
theorem dX9_unite_25 : decode cX9_unite 25 = .ok (.istore_n 3, 1) := by decide +kernel
theorem dX9_unite_26 : decode cX9_unite 26 = .ok (.iload_n 3, 1) := by decide +kernel
theorem dX9_unite_27 : decode cX9_unite 27 = .ok (.bipush 25, 2) := by decide +kernel
theorem dX9_unite_29 : decode cX9_unite 29 = .ok (.if_icmp .ge 67, 3) := by decide +kernel
theorem dX9_unite_32 : decode cX9_unite 32 = .ok (.iload_n 3, 1) := by decide +kernel
theorem dX9_unite_33 : decode cX9_unite 33 = .ok (.invokestatic 54, 3) := by decide +kernel
theorem dX9_unite_36 : decode cX9_unite 36 = .ok (.ifCond .eq 25, 3) := by decide +kernel
theorem dX9_unite_39 : decode cX9_unite 39 = .ok (.aload_n 1, 1) := by decide +kernel
theorem dX9_unite_40 : decode cX9_unite 40 = .ok (.iload_n 3, 1) := by decide +kernel
theorem dX9_unite_41 : decode cX9_unite 41 = .ok (.iload_n 3, 1) := by decide +kernel
theorem dX9_unite_42 : decode cX9_unite 42 = .ok (.iconst 1, 1) := by decide +kernel
theorem dX9_unite_43 : decode cX9_unite 43 = .ok (.iadd, 1) := by decide +kernel
theorem dX9_unite_44 : decode cX9_unite 44 = .ok (.invokevirtual 51, 3) := by decide +kernel
theorem dX9_unite_47 : decode cX9_unite 47 = .ok (.ifCond .ne 14, 3) := by decide +kernel
theorem dX9_unite_50 : decode cX9_unite 50 = .ok (.iload_n 2, 1) := by decide +kernel
theorem dX9_unite_51 : decode cX9_unite 51 = .ok (.aload_n 0, 1) := by decide +kernel
theorem dX9_unite_52 : decode cX9_unite 52 = .ok (.iload_n 3, 1) := by decide +kernel
theorem dX9_unite_53 : decode cX9_unite 53 = .ok (.iload_n 3, 1) := by decide +kernel
theorem dX9_unite_54 : decode cX9_unite 54 = .ok (.iconst 1, 1) := by decide +kernel
theorem dX9_unite_55 : decode cX9_unite 55 = .ok (.iadd, 1) := by decide +kernel
theorem dX9_unite_56 : decode cX9_unite 56 = .ok (.invokevirtual 58, 3) := by decide +kernel
theorem dX9_unite_59 : decode cX9_unite 59 = .ok (.isub, 1) := by decide +kernel
theorem dX9_unite_60 : decode cX9_unite 60 = .ok (.istore_n 2, 1) := by decide +kernel
theorem dX9_unite_61 : decode cX9_unite 61 = .ok (.iload_n 3, 1) := by decide +kernel
theorem dX9_unite_62 : decode cX9_unite 62 = .ok (.invokestatic 61, 3) := by decide +kernel
theorem dX9_unite_65 : decode cX9_unite 65 = .ok (.ifCond .eq 25, 3) := by decide +kernel
theorem dX9_unite_68 : decode cX9_unite 68 = .ok (.aload_n 1, 1) := by decide +kernel
theorem dX9_unite_69 : decode cX9_unite 69 = .ok (.iload_n 3, 1) := by decide +kernel
theorem dX9_unite_70 : decode cX9_unite 70 = .ok (.iload_n 3, 1) := by decide +kernel
theorem dX9_unite_71 : decode cX9_unite 71 = .ok (.iconst 5, 1) := by decide +kernel
theorem dX9_unite_72 : decode cX9_unite 72 = .ok (.iadd, 1) := by decide +kernel
theorem dX9_unite_73 : decode cX9_unite 73 = .ok (.invokevirtual 51, 3) := by decide +kernel
theorem dX9_unite_76 : decode cX9_unite 76 = .ok (.ifCond .ne 14, 3) := by decide +kernel
theorem dX9_unite_79 : decode cX9_unite 79 = .ok (.iload_n 2, 1) := by decide +kernel
theorem dX9_unite_80 : decode cX9_unite 80 = .ok (.aload_n 0, 1) := by decide +kernel
theorem dX9_unite_81 : decode cX9_unite 81 = .ok (.iload_n 3, 1) := by decide +kernel
theorem dX9_unite_82 : decode cX9_unite 82 = .ok (.iload_n 3, 1) := by decide +kernel
theorem dX9_unite_83 : decode cX9_unite 83 = .ok (.iconst 5, 1) := by decide +kernel
theorem dX9_unite_84 : decode cX9_unite 84 = .ok (.iadd, 1) := by decide +kernel
theorem dX9_unite_85 : decode cX9_unite 85 = .ok (.invokevirtual 58, 3) := by decide +kernel
theorem dX9_unite_88 : decode cX9_unite 88 = .ok (.isub, 1) := by decide +kernel
theorem dX9_unite_89 : decode cX9_unite 89 = .ok (.istore_n 2, 1) := by decide +kernel
theorem dX9_unite_90 : decode cX9_unite 90 = .ok (.iinc 3 1, 3) := by decide +kernel
theorem dX9_unite_93 : decode cX9_unite 93 = .ok (.goto (-67), 3) := by decide +kernel
theorem dX9_unite_96 : decode cX9_unite 96 = .ok (.iload_n 2, 1) := by decide +kernel
theorem dX9_unite_97 : decode cX9_unite 97 = .ok (.ireturn, 1) := by decide +kernel
theorem dX9_join_0 : decode cX9_join 0 = .ok (.iload_n 1, 1) := by decide +kernel
theorem dX9_join_1 : decode cX9_join 1 = .ok (.ifCond .lt 19, 3) := by decide +kernel
theorem dX9_join_4 : decode cX9_join 4 = .ok (.iload_n 1, 1) := by decide +kernel
theorem dX9_join_5 : decode cX9_join 5 = .ok (.bipush 25, 2) := by decide +kernel
theorem dX9_join_7 : decode cX9_join 7 = .ok (.if_icmp .ge 13, 3) := by decide +kernel
theorem dX9_join_10 : decode cX9_join 10 = .ok (.iload_n 2, 1) := by decide +kernel
theorem dX9_join_11 : decode cX9_join 11 = .ok (.ifCond .lt 9, 3) := by decide +kernel
theorem dX9_join_14 : decode cX9_join 14 = .ok (.iload_n 2, 1) := by decide +kernel
theorem dX9_join_15 : decode cX9_join 15 = .ok (.bipush 25, 2) := by decide +kernel
theorem dX9_join_17 : decode cX9_join 17 = .ok (.if_icmp .lt 5, 3) := by decide +kernel
theorem dX9_join_20 : decode cX9_join 20 = .ok (.iconst 0, 1) := by decide +kernel
theorem dX9_join_21 : decode cX9_join 21 = .ok (.ireturn, 1) := by decide +kernel
theorem dX9_join_22 : decode cX9_join 22 = .ok (.aload_n 0, 1) := by decide +kernel
theorem dX9_join_23 : decode cX9_join 23 = .ok (.getfield 22, 3) := by decide +kernel
theorem dX9_join_26 : decode cX9_join 26 = .ok (.iload_n 1, 1) := by decide +kernel
theorem dX9_join_27 : decode cX9_join 27 = .ok (.iaload, 1) := by decide +kernel
theorem dX9_join_28 : decode cX9_join 28 = .ok (.istore_n 3, 1) := by decide +kernel
theorem dX9_join_29 : decode cX9_join 29 = .ok (.aload_n 0, 1) := by decide +kernel
theorem dX9_join_30 : decode cX9_join 30 = .ok (.getfield 22, 3) := by decide +kernel
theorem dX9_join_33 : decode cX9_join 33 = .ok (.iload_n 2, 1) := by decide +kernel
theorem dX9_join_34 : decode cX9_join 34 = .ok (.iaload, 1) := by decide +kernel
theorem dX9_join_35 : decode cX9_join 35 = .ok (.istore 4, 2) := by decide +kernel
theorem dX9_join_37 : decode cX9_join 37 = .ok (.iload_n 3, 1) := by decide +kernel
theorem dX9_join_38 : decode cX9_join 38 = .ok (.iload 4, 2) := by decide +kernel
theorem dX9_join_40 : decode cX9_join 40 = .ok (.if_icmp .ne 5, 3) := by decide +kernel
theorem dX9_join_43 : decode cX9_join 43 = .ok (.iconst 0, 1) := by decide +kernel
theorem dX9_join_44 : decode cX9_join 44 = .ok (.ireturn, 1) := by decide +kernel
theorem dX9_join_45 : decode cX9_join 45 = .ok (.iconst 0, 1) := by decide +kernel
theorem dX9_join_46 : decode cX9_join 46 = .ok (.istore 5, 2) := by decide +kernel
theorem dX9_join_48 : decode cX9_join 48 = .ok (.iload 5, 2) := by decide +kernel
theorem dX9_join_50 : decode cX9_join 50 = .ok (.bipush 25, 2) := by decide +kernel
theorem dX9_join_52 : decode cX9_join 52 = .ok (.if_icmp .ge 29, 3) := by decide +kernel
theorem dX9_join_55 : decode cX9_join 55 = .ok (.aload_n 0, 1) := by decide +kernel
theorem dX9_join_56 : decode cX9_join 56 = .ok (.getfield 22, 3) := by decide +kernel
theorem dX9_join_59 : decode cX9_join 59 = .ok (.iload 5, 2) := by decide +kernel
theorem dX9_join_61 : decode cX9_join 61 = .ok (.iaload, 1) := by decide +kernel
theorem dX9_join_62 : decode cX9_join 62 = .ok (.iload 4, 2) := by decide +kernel
theorem dX9_join_64 : decode cX9_join 64 = .ok (.if_icmp .ne 11, 3) := by decide +kernel
theorem dX9_join_67 : decode cX9_join 67 = .ok (.aload_n 0, 1) := by decide +kernel
theorem dX9_join_68 : decode cX9_join 68 = .ok (.getfield 22, 3) := by decide +kernel
theorem dX9_join_71 : decode cX9_join 71 = .ok (.iload 5, 2) := by decide +kernel
theorem dX9_join_73 : decode cX9_join 73 = .ok (.iload_n 3, 1) := by decide +kernel
theorem dX9_join_74 : decode cX9_join 74 = .ok (.iastore, 1) := by decide +kernel
theorem dX9_join_75 : decode cX9_join 75 = .ok (.iinc 5 1, 3) := by decide +kernel
theorem dX9_join_78 : decode cX9_join 78 = .ok (.goto (-30), 3) := by decide +kernel
theorem dX9_join_81 : decode cX9_join 81 = .ok (.iconst 1, 1) := by decide +kernel
theorem dX9_join_82 : decode cX9_join 82 = .ok (.ireturn, 1) := by decide +kernel
theorem dX10_init_0 : decode cX10_init 0 = .ok (.aload_n 0, 1) := by decide +kernel
theorem dX10_init_1 : decode cX10_init 1 = .ok (.invokespecial 3, 3) := by decide +kernel
theorem dX10_init_4 : decode cX10_init 4 = .ok (.aload_n 0, 1) := by decide +kernel
theorem dX10_init_5 : decode cX10_init 5 = .ok (.bipush 25, 2) := by decide +kernel
theorem dX10_init_7 : decode cX10_init 7 = .ok (.newarray .int, 2) := by decide +kernel
theorem dX10_init_9 : decode cX10_init 9 = .ok (.putfield 9, 3) := by decide +kernel
theorem dX10_init_12 : decode cX10_init 12 = .ok (.aload_n 0, 1) := by decide +kernel
theorem dX10_init_13 : decode cX10_init 13 = .ok (.bipush 20, 2) := by decide +kernel
theorem dX10_init_15 : decode cX10_init 15 = .ok (.putfield 15, 3) := by decide +kernel
theorem dX10_init_18 : decode cX10_init 18 = .ok (.iconst 0, 1) := by decide +kernel
theorem dX10_init_19 : decode cX10_init 19 = .ok (.istore_n 1, 1) := by decide +kernel
theorem dX10_init_20 : decode cX10_init 20 = .ok (.iload_n 1, 1) := by decide +kernel
theorem dX10_init_21 : decode cX10_init 21 = .ok (.bipush 25, 2) := by decide +kernel
theorem dX10_init_23 : decode cX10_init 23 = .ok (.if_icmp .ge 17, 3) := by decide +kernel
theorem dX10_init_26 : decode cX10_init 26 = .ok (.aload_n 0, 1) := by decide +kernel
theorem dX10_init_27 : decode cX10_init 27 = .ok (.getfield 9, 3) := by decide +kernel
theorem dX10_init_30 : decode cX10_init 30 = .ok (.iload_n 1, 1) := by decide +kernel
theorem dX10_init_31 : decode cX10_init 31 = .ok (.bipush 50, 2) := by decide +kernel
theorem dX10_init_33 : decode cX10_init 33 = .ok (.iastore, 1) := by decide +kernel
theorem dX10_init_34 : decode cX10_init 34 = .ok (.iinc 1 1, 3) := by decide +kernel
theorem dX10_init_37 : decode cX10_init 37 = .ok (.goto (-17), 3) := by decide +kernel
theorem dX10_init_40 : decode cX10_init 40 = .ok (.return_, 1) := by decide +kernel
theorem dX10_isCell_0 : decode cX10_isCell 0 = .ok (.iload_n 0, 1) := by decide +kernel
theorem dX10_isCell_1 : decode cX10_isCell 1 = .ok (.ifCond .lt 21, 3) := by decide +kernel
theorem dX10_isCell_4 : decode cX10_isCell 4 = .ok (.iload_n 0, 1) := by decide +kernel
theorem dX10_isCell_5 : decode cX10_isCell 5 = .ok (.iconst 5, 1) := by decide +kernel
theorem dX10_isCell_6 : decode cX10_isCell 6 = .ok (.if_icmp .ge 16, 3) := by decide +kernel
theorem dX10_isCell_9 : decode cX10_isCell 9 = .ok (.iload_n 1, 1) := by decide +kernel
theorem dX10_isCell_10 : decode cX10_isCell 10 = .ok (.ifCond .lt 12, 3) := by decide +kernel
theorem dX10_isCell_13 : decode cX10_isCell 13 = .ok (.iload_n 1, 1) := by decide +kernel
theorem dX10_isCell_14 : decode cX10_isCell 14 = .ok (.iconst 5, 1) := by decide +kernel
theorem dX10_isCell_15 : decode cX10_isCell 15 = .ok (.if_icmp .ge 7, 3) := by decide +kernel
theorem dX10_isCell_18 : decode cX10_isCell 18 = .ok (.iconst 1, 1) := by decide +kernel
theorem dX10_isCell_19 : decode cX10_isCell 19 = .ok (.goto 4, 3) := by decide +kernel
theorem dX10_isCell_22 : decode cX10_isCell 22 = .ok (.iconst 0, 1) := by decide +kernel
theorem dX10_isCell_23 : decode cX10_isCell 23 = .ok (.ireturn, 1) := by decide +kernel
theorem dX10_isPressure_0 : decode cX10_isPressure 0 = .ok (.iload_n 0, 1) := by decide +kernel
theorem dX10_isPressure_1 : decode cX10_isPressure 1 = .ok (.ifCond .lt 13, 3) := by decide +kernel
theorem dX10_isPressure_4 : decode cX10_isPressure 4 = .ok (.iload_n 0, 1) := by decide +kernel
theorem dX10_isPressure_5 : decode cX10_isPressure 5 = .ok (.bipush 99, 2) := by decide +kernel
theorem dX10_isPressure_7 : decode cX10_isPressure 7 = .ok (.if_icmp .gt 7, 3) := by decide +kernel
theorem dX10_isPressure_10 : decode cX10_isPressure 10 = .ok (.iconst 1, 1) := by decide +kernel
theorem dX10_isPressure_11 : decode cX10_isPressure 11 = .ok (.goto 4, 3) := by decide +kernel
theorem dX10_isPressure_14 : decode cX10_isPressure 14 = .ok (.iconst 0, 1) := by decide +kernel
theorem dX10_isPressure_15 : decode cX10_isPressure 15 = .ok (.ireturn, 1) := by decide +kernel
theorem dX10_isFold_0 : decode cX10_isFold 0 = .ok (.iload_n 0, 1) := by decide +kernel
theorem dX10_isFold_1 : decode cX10_isFold 1 = .ok (.iconst 1, 1) := by decide +kernel
theorem dX10_isFold_2 : decode cX10_isFold 2 = .ok (.if_icmp .lt 12, 3) := by decide +kernel
theorem dX10_isFold_5 : decode cX10_isFold 5 = .ok (.iload_n 0, 1) := by decide +kernel
theorem dX10_isFold_6 : decode cX10_isFold 6 = .ok (.iconst 3, 1) := by decide +kernel
theorem dX10_isFold_7 : decode cX10_isFold 7 = .ok (.if_icmp .gt 7, 3) := by decide +kernel
theorem dX10_isFold_10 : decode cX10_isFold 10 = .ok (.iconst 1, 1) := by decide +kernel
theorem dX10_isFold_11 : decode cX10_isFold 11 = .ok (.goto 4, 3) := by decide +kernel
theorem dX10_isFold_14 : decode cX10_isFold 14 = .ok (.iconst 0, 1) := by decide +kernel
theorem dX10_isFold_15 : decode cX10_isFold 15 = .ok (.ireturn, 1) := by decide +kernel
theorem dX10_isDirection_0 : decode cX10_isDirection 0 = .ok (.iload_n 0, 1) := by decide +kernel
theorem dX10_isDirection_1 : decode cX10_isDirection 1 = .ok (.bipush 110, 2) := by decide +kernel
theorem dX10_isDirection_3 : decode cX10_isDirection 3 = .ok (.if_icmp .eq 21, 3) := by decide +kernel
theorem dX10_isDirection_6 : decode cX10_isDirection 6 = .ok (.iload_n 0, 1) := by decide +kernel
theorem dX10_isDirection_7 : decode cX10_isDirection 7 = .ok (.bipush 101, 2) := by decide +kernel
theorem dX10_isDirection_9 : decode cX10_isDirection 9 = .ok (.if_icmp .eq 15, 3) := by decide +kernel
theorem dX10_isDirection_12 : decode cX10_isDirection 12 = .ok (.iload_n 0, 1) := by decide +kernel
theorem dX10_isDirection_13 : decode cX10_isDirection 13 = .ok (.bipush 115, 2) := by decide +kernel
theorem dX10_isDirection_15 : decode cX10_isDirection 15 = .ok (.if_icmp .eq 9, 3) := by decide +kernel
theorem dX10_isDirection_18 : decode cX10_isDirection 18 = .ok (.iload_n 0, 1) := by decide +kernel
theorem dX10_isDirection_19 : decode cX10_isDirection 19 = .ok (.bipush 119, 2) := by decide +kernel
theorem dX10_isDirection_21 : decode cX10_isDirection 21 = .ok (.if_icmp .ne 7, 3) := by decide +kernel
theorem dX10_isDirection_24 : decode cX10_isDirection 24 = .ok (.iconst 1, 1) := by decide +kernel
theorem dX10_isDirection_25 : decode cX10_isDirection 25 = .ok (.goto 4, 3) := by decide +kernel
theorem dX10_isDirection_28 : decode cX10_isDirection 28 = .ok (.iconst 0, 1) := by decide +kernel
theorem dX10_isDirection_29 : decode cX10_isDirection 29 = .ok (.ireturn, 1) := by decide +kernel
theorem dX10_isThreshold_0 : decode cX10_isThreshold 0 = .ok (.iload_n 0, 1) := by decide +kernel
theorem dX10_isThreshold_1 : decode cX10_isThreshold 1 = .ok (.iconst 1, 1) := by decide +kernel
theorem dX10_isThreshold_2 : decode cX10_isThreshold 2 = .ok (.if_icmp .lt 13, 3) := by decide +kernel
theorem dX10_isThreshold_5 : decode cX10_isThreshold 5 = .ok (.iload_n 0, 1) := by decide +kernel
theorem dX10_isThreshold_6 : decode cX10_isThreshold 6 = .ok (.bipush 50, 2) := by decide +kernel
theorem dX10_isThreshold_8 : decode cX10_isThreshold 8 = .ok (.if_icmp .gt 7, 3) := by decide +kernel
theorem dX10_isThreshold_11 : decode cX10_isThreshold 11 = .ok (.iconst 1, 1) := by decide +kernel
theorem dX10_isThreshold_12 : decode cX10_isThreshold 12 = .ok (.goto 4, 3) := by decide +kernel
theorem dX10_isThreshold_15 : decode cX10_isThreshold 15 = .ok (.iconst 0, 1) := by decide +kernel
theorem dX10_isThreshold_16 : decode cX10_isThreshold 16 = .ok (.ireturn, 1) := by decide +kernel
theorem dX10_cellOf_0 : decode cX10_cellOf 0 = .ok (.iload_n 0, 1) := by decide +kernel
theorem dX10_cellOf_1 : decode cX10_cellOf 1 = .ok (.iconst 5, 1) := by decide +kernel
theorem dX10_cellOf_2 : decode cX10_cellOf 2 = .ok (.imul, 1) := by decide +kernel
theorem dX10_cellOf_3 : decode cX10_cellOf 3 = .ok (.iload_n 1, 1) := by decide +kernel
theorem dX10_cellOf_4 : decode cX10_cellOf 4 = .ok (.iadd, 1) := by decide +kernel
theorem dX10_cellOf_5 : decode cX10_cellOf 5 = .ok (.ireturn, 1) := by decide +kernel
theorem dX10_hasRightNeighbour_0 : decode cX10_hasRightNeighbour 0 = .ok (.iload_n 0, 1) := by decide +kernel
theorem dX10_hasRightNeighbour_1 : decode cX10_hasRightNeighbour 1 = .ok (.iconst 5, 1) := by decide +kernel
theorem dX10_hasRightNeighbour_2 : decode cX10_hasRightNeighbour 2 = .ok (.irem, 1) := by decide +kernel
theorem dX10_hasRightNeighbour_3 : decode cX10_hasRightNeighbour 3 = .ok (.iconst 4, 1) := by decide +kernel
theorem dX10_hasRightNeighbour_4 : decode cX10_hasRightNeighbour 4 = .ok (.if_icmp .ge 7, 3) := by decide +kernel
theorem dX10_hasRightNeighbour_7 : decode cX10_hasRightNeighbour 7 = .ok (.iconst 1, 1) := by decide +kernel
theorem dX10_hasRightNeighbour_8 : decode cX10_hasRightNeighbour 8 = .ok (.goto 4, 3) := by decide +kernel
theorem dX10_hasRightNeighbour_11 : decode cX10_hasRightNeighbour 11 = .ok (.iconst 0, 1) := by decide +kernel
theorem dX10_hasRightNeighbour_12 : decode cX10_hasRightNeighbour 12 = .ok (.ireturn, 1) := by decide +kernel
theorem dX10_hasLowerNeighbour_0 : decode cX10_hasLowerNeighbour 0 = .ok (.iload_n 0, 1) := by decide +kernel
theorem dX10_hasLowerNeighbour_1 : decode cX10_hasLowerNeighbour 1 = .ok (.bipush 20, 2) := by decide +kernel
theorem dX10_hasLowerNeighbour_3 : decode cX10_hasLowerNeighbour 3 = .ok (.if_icmp .ge 7, 3) := by decide +kernel
theorem dX10_hasLowerNeighbour_6 : decode cX10_hasLowerNeighbour 6 = .ok (.iconst 1, 1) := by decide +kernel
theorem dX10_hasLowerNeighbour_7 : decode cX10_hasLowerNeighbour 7 = .ok (.goto 4, 3) := by decide +kernel
theorem dX10_hasLowerNeighbour_10 : decode cX10_hasLowerNeighbour 10 = .ok (.iconst 0, 1) := by decide +kernel
theorem dX10_hasLowerNeighbour_11 : decode cX10_hasLowerNeighbour 11 = .ok (.ireturn, 1) := by decide +kernel
theorem dX10_copyFrom_0 : decode cX10_copyFrom 0 = .ok (.iconst 0, 1) := by decide +kernel
theorem dX10_copyFrom_1 : decode cX10_copyFrom 1 = .ok (.istore_n 2, 1) := by decide +kernel
theorem dX10_copyFrom_2 : decode cX10_copyFrom 2 = .ok (.iload_n 2, 1) := by decide +kernel
theorem dX10_copyFrom_3 : decode cX10_copyFrom 3 = .ok (.bipush 25, 2) := by decide +kernel
theorem dX10_copyFrom_5 : decode cX10_copyFrom 5 = .ok (.if_icmp .ge 21, 3) := by decide +kernel
theorem dX10_copyFrom_8 : decode cX10_copyFrom 8 = .ok (.aload_n 0, 1) := by decide +kernel
theorem dX10_copyFrom_9 : decode cX10_copyFrom 9 = .ok (.getfield 9, 3) := by decide +kernel
theorem dX10_copyFrom_12 : decode cX10_copyFrom 12 = .ok (.iload_n 2, 1) := by decide +kernel
theorem dX10_copyFrom_13 : decode cX10_copyFrom 13 = .ok (.aload_n 1, 1) := by decide +kernel
theorem dX10_copyFrom_14 : decode cX10_copyFrom 14 = .ok (.getfield 9, 3) := by decide +kernel
theorem dX10_copyFrom_17 : decode cX10_copyFrom 17 = .ok (.iload_n 2, 1) := by decide +kernel
theorem dX10_copyFrom_18 : decode cX10_copyFrom 18 = .ok (.iaload, 1) := by decide +kernel
theorem dX10_copyFrom_19 : decode cX10_copyFrom 19 = .ok (.iastore, 1) := by decide +kernel
theorem dX10_copyFrom_20 : decode cX10_copyFrom 20 = .ok (.iinc 2 1, 3) := by decide +kernel
theorem dX10_copyFrom_23 : decode cX10_copyFrom 23 = .ok (.goto (-21), 3) := by decide +kernel
theorem dX10_copyFrom_26 : decode cX10_copyFrom 26 = .ok (.aload_n 0, 1) := by decide +kernel
theorem dX10_copyFrom_27 : decode cX10_copyFrom 27 = .ok (.aload_n 1, 1) := by decide +kernel
theorem dX10_copyFrom_28 : decode cX10_copyFrom 28 = .ok (.getfield 15, 3) := by decide +kernel
theorem dX10_copyFrom_31 : decode cX10_copyFrom 31 = .ok (.putfield 15, 3) := by decide +kernel
theorem dX10_copyFrom_34 : decode cX10_copyFrom 34 = .ok (.return_, 1) := by decide +kernel
theorem dX10_at_0 : decode cX10_at 0 = .ok (.iload_n 1, 1) := by decide +kernel
theorem dX10_at_1 : decode cX10_at 1 = .ok (.ifCond .lt 18, 3) := by decide +kernel
theorem dX10_at_4 : decode cX10_at 4 = .ok (.iload_n 1, 1) := by decide +kernel
theorem dX10_at_5 : decode cX10_at 5 = .ok (.bipush 25, 2) := by decide +kernel
theorem dX10_at_7 : decode cX10_at 7 = .ok (.if_icmp .ge 12, 3) := by decide +kernel
theorem dX10_at_10 : decode cX10_at 10 = .ok (.aload_n 0, 1) := by decide +kernel
theorem dX10_at_11 : decode cX10_at 11 = .ok (.getfield 9, 3) := by decide +kernel
theorem dX10_at_14 : decode cX10_at 14 = .ok (.iload_n 1, 1) := by decide +kernel
theorem dX10_at_15 : decode cX10_at 15 = .ok (.iaload, 1) := by decide +kernel
theorem dX10_at_16 : decode cX10_at 16 = .ok (.goto 4, 3) := by decide +kernel
theorem dX10_at_19 : decode cX10_at 19 = .ok (.iconst 0, 1) := by decide +kernel
theorem dX10_at_20 : decode cX10_at 20 = .ok (.ireturn, 1) := by decide +kernel
theorem dX10_put_0 : decode cX10_put 0 = .ok (.iload_n 1, 1) := by decide +kernel
theorem dX10_put_1 : decode cX10_put 1 = .ok (.ifCond .lt 9, 3) := by decide +kernel
theorem dX10_put_4 : decode cX10_put 4 = .ok (.iload_n 1, 1) := by decide +kernel
theorem dX10_put_5 : decode cX10_put 5 = .ok (.bipush 25, 2) := by decide +kernel
theorem dX10_put_7 : decode cX10_put 7 = .ok (.if_icmp .lt 5, 3) := by decide +kernel
theorem dX10_put_10 : decode cX10_put 10 = .ok (.iconst 0, 1) := by decide +kernel
theorem dX10_put_11 : decode cX10_put 11 = .ok (.ireturn, 1) := by decide +kernel
theorem dX10_put_12 : decode cX10_put 12 = .ok (.aload_n 0, 1) := by decide +kernel
theorem dX10_put_13 : decode cX10_put 13 = .ok (.getfield 9, 3) := by decide +kernel
theorem dX10_put_16 : decode cX10_put 16 = .ok (.iload_n 1, 1) := by decide +kernel
theorem dX10_put_17 : decode cX10_put 17 = .ok (.iaload, 1) := by decide +kernel
theorem dX10_put_18 : decode cX10_put 18 = .ok (.iload_n 2, 1) := by decide +kernel
theorem dX10_put_19 : decode cX10_put 19 = .ok (.if_icmp .ne 7, 3) := by decide +kernel
theorem dX10_put_22 : decode cX10_put 22 = .ok (.iconst 0, 1) := by decide +kernel
theorem dX10_put_23 : decode cX10_put 23 = .ok (.goto 4, 3) := by decide +kernel
theorem dX10_put_26 : decode cX10_put 26 = .ok (.iconst 1, 1) := by decide +kernel
theorem dX10_put_27 : decode cX10_put 27 = .ok (.istore_n 3, 1) := by decide +kernel
theorem dX10_put_28 : decode cX10_put 28 = .ok (.aload_n 0, 1) := by decide +kernel
theorem dX10_put_29 : decode cX10_put 29 = .ok (.getfield 9, 3) := by decide +kernel
theorem dX10_put_32 : decode cX10_put 32 = .ok (.iload_n 1, 1) := by decide +kernel
theorem dX10_put_33 : decode cX10_put 33 = .ok (.iload_n 2, 1) := by decide +kernel
theorem dX10_put_34 : decode cX10_put 34 = .ok (.iastore, 1) := by decide +kernel
theorem dX10_put_35 : decode cX10_put 35 = .ok (.iload_n 3, 1) := by decide +kernel
theorem dX10_put_36 : decode cX10_put 36 = .ok (.ireturn, 1) := by decide +kernel
theorem dX10_sum_0 : decode cX10_sum 0 = .ok (.iconst 0, 1) := by decide +kernel
theorem dX10_sum_1 : decode cX10_sum 1 = .ok (.istore_n 1, 1) := by decide +kernel
theorem dX10_sum_2 : decode cX10_sum 2 = .ok (.iconst 0, 1) := by decide +kernel
theorem dX10_sum_3 : decode cX10_sum 3 = .ok (.istore_n 2, 1) := by decide +kernel
theorem dX10_sum_4 : decode cX10_sum 4 = .ok (.iload_n 2, 1) := by decide +kernel
theorem dX10_sum_5 : decode cX10_sum 5 = .ok (.bipush 25, 2) := by decide +kernel
theorem dX10_sum_7 : decode cX10_sum 7 = .ok (.if_icmp .ge 18, 3) := by decide +kernel
theorem dX10_sum_10 : decode cX10_sum 10 = .ok (.iload_n 1, 1) := by decide +kernel
theorem dX10_sum_11 : decode cX10_sum 11 = .ok (.aload_n 0, 1) := by decide +kernel
theorem dX10_sum_12 : decode cX10_sum 12 = .ok (.getfield 9, 3) := by decide +kernel
theorem dX10_sum_15 : decode cX10_sum 15 = .ok (.iload_n 2, 1) := by decide +kernel
theorem dX10_sum_16 : decode cX10_sum 16 = .ok (.iaload, 1) := by decide +kernel
theorem dX10_sum_17 : decode cX10_sum 17 = .ok (.iadd, 1) := by decide +kernel
theorem dX10_sum_18 : decode cX10_sum 18 = .ok (.istore_n 1, 1) := by decide +kernel
theorem dX10_sum_19 : decode cX10_sum 19 = .ok (.iinc 2 1, 3) := by decide +kernel
theorem dX10_sum_22 : decode cX10_sum 22 = .ok (.goto (-18), 3) := by decide +kernel
theorem dX10_sum_25 : decode cX10_sum 25 = .ok (.iload_n 1, 1) := by decide +kernel
theorem dX10_sum_26 : decode cX10_sum 26 = .ok (.ireturn, 1) := by decide +kernel
set_option maxRecDepth 20000 in
theorem ggX10_foldAlongRow_X10_cellOf : GoodIn wsX10_foldAlongRow wsX10_cellOf := goodIn_r _ [4] (by decide +kernel) (by decide +kernel)
set_option maxRecDepth 20000 in
theorem gX10_foldAlongRow_X10_cellOf : GoodIn wsX10_foldAlongRow (va_wsS RX10 19 yX10_cellOf wsX10_cellOf) := goodIn_app (goodIn_of _ (by decide +kernel)) ggX10_foldAlongRow_X10_cellOf
set_option maxRecDepth 20000 in
theorem ggX10_foldAlongRow_X10_level : GoodIn wsX10_foldAlongRow wsX10_level := goodIn_ca (goodIn_r _ [8, 9, 10, 11, 3, 12, 13, 14, 15, 16, 17, 18, 19] (by decide +kernel) (by decide +kernel)) (goodIn_sub (fun _ h => List.mem_cons_of_mem _ (List.mem_append_right _ h)) (by decide +kernel))
set_option maxRecDepth 20000 in
theorem gX10_foldAlongRow_X10_level : GoodIn wsX10_foldAlongRow (wsV RX10 23 RX10 yX10_level wsX10_level) := goodIn_app (goodIn_of _ (by decide +kernel)) ggX10_foldAlongRow_X10_level
theorem dX10_foldAlongRow_0 : decode cX10_foldAlongRow 0 = .ok (.iconst 0, 1) := by decide +kernel
theorem dX10_foldAlongRow_1 : decode cX10_foldAlongRow 1 = .ok (.istore_n 2, 1) := by decide +kernel
theorem dX10_foldAlongRow_2 : decode cX10_foldAlongRow 2 = .ok (.iconst 1, 1) := by decide +kernel
theorem dX10_foldAlongRow_3 : decode cX10_foldAlongRow 3 = .ok (.istore_n 3, 1) := by decide +kernel
theorem dX10_foldAlongRow_4 : decode cX10_foldAlongRow 4 = .ok (.iload_n 1, 1) := by decide +kernel
theorem dX10_foldAlongRow_5 : decode cX10_foldAlongRow 5 = .ok (.iload_n 3, 1) := by decide +kernel
theorem dX10_foldAlongRow_6 : decode cX10_foldAlongRow 6 = .ok (.isub, 1) := by decide +kernel
theorem dX10_foldAlongRow_7 : decode cX10_foldAlongRow 7 = .ok (.ifCond .lt 54, 3) := by decide +kernel
theorem dX10_foldAlongRow_10 : decode cX10_foldAlongRow 10 = .ok (.iload_n 1, 1) := by decide +kernel
theorem dX10_foldAlongRow_11 : decode cX10_foldAlongRow 11 = .ok (.iload_n 3, 1) := by decide +kernel
theorem dX10_foldAlongRow_12 : decode cX10_foldAlongRow 12 = .ok (.iadd, 1) := by decide +kernel
theorem dX10_foldAlongRow_13 : decode cX10_foldAlongRow 13 = .ok (.iconst 5, 1) := by decide +kernel
theorem dX10_foldAlongRow_14 : decode cX10_foldAlongRow 14 = .ok (.if_icmp .ge 47, 3) := by decide +kernel
theorem dX10_foldAlongRow_17 : decode cX10_foldAlongRow 17 = .ok (.iconst 0, 1) := by decide +kernel
theorem dX10_foldAlongRow_18 : decode cX10_foldAlongRow 18 = .ok (.istore 4, 2) := by decide +kernel
theorem dX10_foldAlongRow_20 : decode cX10_foldAlongRow 20 = .ok (.iload 4, 2) := by decide +kernel
theorem dX10_foldAlongRow_22 : decode cX10_foldAlongRow 22 = .ok (.iconst 5, 1) := by decide +kernel
theorem dX10_foldAlongRow_23 : decode cX10_foldAlongRow 23 = .ok (.if_icmp .ge 32, 3) := by decide +kernel
theorem dX10_foldAlongRow_26 : decode cX10_foldAlongRow 26 = .ok (.iload_n 2, 1) := by decide +kernel
theorem dX10_foldAlongRow_27 : decode cX10_foldAlongRow 27 = .ok (.aload_n 0, 1) := by decide +kernel
theorem dX10_foldAlongRow_28 : decode cX10_foldAlongRow 28 = .ok (.iload_n 1, 1) := by decide +kernel
theorem dX10_foldAlongRow_29 : decode cX10_foldAlongRow 29 = .ok (.iload_n 3, 1) := by decide +kernel
theorem dX10_foldAlongRow_30 : decode cX10_foldAlongRow 30 = .ok (.isub, 1) := by decide +kernel
theorem dX10_foldAlongRow_31 : decode cX10_foldAlongRow 31 = .ok (.iload 4, 2) := by decide +kernel
theorem dX10_foldAlongRow_33 : decode cX10_foldAlongRow 33 = .ok (.invokestatic 19, 3) := by decide +kernel
theorem dX10_foldAlongRow_36 : decode cX10_foldAlongRow 36 = .ok (.iload_n 1, 1) := by decide +kernel
theorem dX10_foldAlongRow_37 : decode cX10_foldAlongRow 37 = .ok (.iload_n 3, 1) := by decide +kernel
theorem dX10_foldAlongRow_38 : decode cX10_foldAlongRow 38 = .ok (.iadd, 1) := by decide +kernel
theorem dX10_foldAlongRow_39 : decode cX10_foldAlongRow 39 = .ok (.iload 4, 2) := by decide +kernel
theorem dX10_foldAlongRow_41 : decode cX10_foldAlongRow 41 = .ok (.invokestatic 19, 3) := by decide +kernel
theorem dX10_foldAlongRow_44 : decode cX10_foldAlongRow 44 = .ok (.invokevirtual 23, 3) := by decide +kernel
theorem dX10_foldAlongRow_47 : decode cX10_foldAlongRow 47 = .ok (.iadd, 1) := by decide +kernel
theorem dX10_foldAlongRow_48 : decode cX10_foldAlongRow 48 = .ok (.istore_n 2, 1) := by decide +kernel
theorem dX10_foldAlongRow_49 : decode cX10_foldAlongRow 49 = .ok (.iinc 4 1, 3) := by decide +kernel
theorem dX10_foldAlongRow_52 : decode cX10_foldAlongRow 52 = .ok (.goto (-32), 3) := by decide +kernel
theorem dX10_foldAlongRow_55 : decode cX10_foldAlongRow 55 = .ok (.iinc 3 1, 3) := by decide +kernel
theorem dX10_foldAlongRow_58 : decode cX10_foldAlongRow 58 = .ok (.goto (-54), 3) := by decide +kernel
theorem dX10_foldAlongRow_61 : decode cX10_foldAlongRow 61 = .ok (.iload_n 2, 1) := by decide +kernel
theorem dX10_foldAlongRow_62 : decode cX10_foldAlongRow 62 = .ok (.ireturn, 1) := by decide +kernel
set_option maxRecDepth 20000 in
theorem ggX10_foldAlongColumn_X10_cellOf : GoodIn wsX10_foldAlongColumn wsX10_cellOf := goodIn_r _ [4] (by decide +kernel) (by decide +kernel)
set_option maxRecDepth 20000 in
theorem gX10_foldAlongColumn_X10_cellOf : GoodIn wsX10_foldAlongColumn (va_wsS RX10 19 yX10_cellOf wsX10_cellOf) := goodIn_app (goodIn_of _ (by decide +kernel)) ggX10_foldAlongColumn_X10_cellOf
set_option maxRecDepth 20000 in
theorem ggX10_foldAlongColumn_X10_level : GoodIn wsX10_foldAlongColumn wsX10_level := goodIn_ca (goodIn_r _ [8, 9, 10, 11, 3, 12, 13, 14, 15, 16, 17, 18, 19] (by decide +kernel) (by decide +kernel)) (goodIn_sub (fun _ h => List.mem_cons_of_mem _ (List.mem_append_right _ h)) (by decide +kernel))
set_option maxRecDepth 20000 in
theorem gX10_foldAlongColumn_X10_level : GoodIn wsX10_foldAlongColumn (wsV RX10 23 RX10 yX10_level wsX10_level) := goodIn_app (goodIn_of _ (by decide +kernel)) ggX10_foldAlongColumn_X10_level
theorem dX10_foldAlongColumn_0 : decode cX10_foldAlongColumn 0 = .ok (.iconst 0, 1) := by decide +kernel
theorem dX10_foldAlongColumn_1 : decode cX10_foldAlongColumn 1 = .ok (.istore_n 2, 1) := by decide +kernel
theorem dX10_foldAlongColumn_2 : decode cX10_foldAlongColumn 2 = .ok (.iconst 1, 1) := by decide +kernel
theorem dX10_foldAlongColumn_3 : decode cX10_foldAlongColumn 3 = .ok (.istore_n 3, 1) := by decide +kernel
theorem dX10_foldAlongColumn_4 : decode cX10_foldAlongColumn 4 = .ok (.iload_n 1, 1) := by decide +kernel
theorem dX10_foldAlongColumn_5 : decode cX10_foldAlongColumn 5 = .ok (.iload_n 3, 1) := by decide +kernel
theorem dX10_foldAlongColumn_6 : decode cX10_foldAlongColumn 6 = .ok (.isub, 1) := by decide +kernel
theorem dX10_foldAlongColumn_7 : decode cX10_foldAlongColumn 7 = .ok (.ifCond .lt 54, 3) := by decide +kernel
theorem dX10_foldAlongColumn_10 : decode cX10_foldAlongColumn 10 = .ok (.iload_n 1, 1) := by decide +kernel
theorem dX10_foldAlongColumn_11 : decode cX10_foldAlongColumn 11 = .ok (.iload_n 3, 1) := by decide +kernel
theorem dX10_foldAlongColumn_12 : decode cX10_foldAlongColumn 12 = .ok (.iadd, 1) := by decide +kernel
theorem dX10_foldAlongColumn_13 : decode cX10_foldAlongColumn 13 = .ok (.iconst 5, 1) := by decide +kernel
theorem dX10_foldAlongColumn_14 : decode cX10_foldAlongColumn 14 = .ok (.if_icmp .ge 47, 3) := by decide +kernel
theorem dX10_foldAlongColumn_17 : decode cX10_foldAlongColumn 17 = .ok (.iconst 0, 1) := by decide +kernel
theorem dX10_foldAlongColumn_18 : decode cX10_foldAlongColumn 18 = .ok (.istore 4, 2) := by decide +kernel
theorem dX10_foldAlongColumn_20 : decode cX10_foldAlongColumn 20 = .ok (.iload 4, 2) := by decide +kernel
theorem dX10_foldAlongColumn_22 : decode cX10_foldAlongColumn 22 = .ok (.iconst 5, 1) := by decide +kernel
theorem dX10_foldAlongColumn_23 : decode cX10_foldAlongColumn 23 = .ok (.if_icmp .ge 32, 3) := by decide +kernel
theorem dX10_foldAlongColumn_26 : decode cX10_foldAlongColumn 26 = .ok (.iload_n 2, 1) := by decide +kernel
theorem dX10_foldAlongColumn_27 : decode cX10_foldAlongColumn 27 = .ok (.aload_n 0, 1) := by decide +kernel
theorem dX10_foldAlongColumn_28 : decode cX10_foldAlongColumn 28 = .ok (.iload 4, 2) := by decide +kernel
theorem dX10_foldAlongColumn_30 : decode cX10_foldAlongColumn 30 = .ok (.iload_n 1, 1) := by decide +kernel
theorem dX10_foldAlongColumn_31 : decode cX10_foldAlongColumn 31 = .ok (.iload_n 3, 1) := by decide +kernel
theorem dX10_foldAlongColumn_32 : decode cX10_foldAlongColumn 32 = .ok (.isub, 1) := by decide +kernel
theorem dX10_foldAlongColumn_33 : decode cX10_foldAlongColumn 33 = .ok (.invokestatic 19, 3) := by decide +kernel
theorem dX10_foldAlongColumn_36 : decode cX10_foldAlongColumn 36 = .ok (.iload 4, 2) := by decide +kernel
theorem dX10_foldAlongColumn_38 : decode cX10_foldAlongColumn 38 = .ok (.iload_n 1, 1) := by decide +kernel
theorem dX10_foldAlongColumn_39 : decode cX10_foldAlongColumn 39 = .ok (.iload_n 3, 1) := by decide +kernel
theorem dX10_foldAlongColumn_40 : decode cX10_foldAlongColumn 40 = .ok (.iadd, 1) := by decide +kernel
theorem dX10_foldAlongColumn_41 : decode cX10_foldAlongColumn 41 = .ok (.invokestatic 19, 3) := by decide +kernel
theorem dX10_foldAlongColumn_44 : decode cX10_foldAlongColumn 44 = .ok (.invokevirtual 23, 3) := by decide +kernel
theorem dX10_foldAlongColumn_47 : decode cX10_foldAlongColumn 47 = .ok (.iadd, 1) := by decide +kernel
theorem dX10_foldAlongColumn_48 : decode cX10_foldAlongColumn 48 = .ok (.istore_n 2, 1) := by decide +kernel
theorem dX10_foldAlongColumn_49 : decode cX10_foldAlongColumn 49 = .ok (.iinc 4 1, 3) := by decide +kernel
theorem dX10_foldAlongColumn_52 : decode cX10_foldAlongColumn 52 = .ok (.goto (-32), 3) := by decide +kernel
theorem dX10_foldAlongColumn_55 : decode cX10_foldAlongColumn 55 = .ok (.iinc 3 1, 3) := by decide +kernel
theorem dX10_foldAlongColumn_58 : decode cX10_foldAlongColumn 58 = .ok (.goto (-54), 3) := by decide +kernel
theorem dX10_foldAlongColumn_61 : decode cX10_foldAlongColumn 61 = .ok (.iload_n 2, 1) := by decide +kernel
theorem dX10_foldAlongColumn_62 : decode cX10_foldAlongColumn 62 = .ok (.ireturn, 1) := by decide +kernel
set_option maxRecDepth 20000 in
theorem ggX10_level_X10_at : GoodIn wsX10_level wsX10_at := goodIn_ca (goodIn_r _ [5, 6, 11, 12] (by decide +kernel) (by decide +kernel)) (goodIn_sub (fun _ h => List.mem_cons_of_mem _ (List.mem_append_right _ h)) (by decide +kernel))
set_option maxRecDepth 20000 in
theorem gX10_level_X10_at : GoodIn wsX10_level (wsV RX10 26 RX10 yX10_at wsX10_at) := goodIn_app (goodIn_of _ (by decide +kernel)) ggX10_level_X10_at
set_option maxRecDepth 20000 in
theorem ggX10_level_X10_put : GoodIn wsX10_level wsX10_put := goodIn_ca (goodIn_r _ [10, 6, 11, 12] (by decide +kernel) (by decide +kernel)) (goodIn_sub (fun _ h => List.mem_cons_of_mem _ (List.mem_append_right _ h)) (by decide +kernel))
set_option maxRecDepth 20000 in
theorem gX10_level_X10_put : GoodIn wsX10_level (wsV RX10 30 RX10 yX10_put wsX10_put) := goodIn_app (goodIn_of _ (by decide +kernel)) ggX10_level_X10_put
theorem dX10_level_0 : decode cX10_level 0 = .ok (.aload_n 0, 1) := by decide +kernel
theorem dX10_level_1 : decode cX10_level 1 = .ok (.iload_n 1, 1) := by decide +kernel
theorem dX10_level_2 : decode cX10_level 2 = .ok (.invokevirtual 26, 3) := by decide +kernel
theorem dX10_level_5 : decode cX10_level 5 = .ok (.aload_n 0, 1) := by decide +kernel
theorem dX10_level_6 : decode cX10_level 6 = .ok (.iload_n 2, 1) := by decide +kernel
theorem dX10_level_7 : decode cX10_level 7 = .ok (.invokevirtual 26, 3) := by decide +kernel
theorem dX10_level_10 : decode cX10_level 10 = .ok (.iadd, 1) := by decide +kernel
theorem dX10_level_11 : decode cX10_level 11 = .ok (.istore_n 3, 1) := by decide +kernel
theorem dX10_level_12 : decode cX10_level 12 = .ok (.aload_n 0, 1) := by decide +kernel
theorem dX10_level_13 : decode cX10_level 13 = .ok (.iload_n 1, 1) := by decide +kernel
theorem dX10_level_14 : decode cX10_level 14 = .ok (.iload_n 3, 1) := by decide +kernel
theorem dX10_level_15 : decode cX10_level 15 = .ok (.iconst 1, 1) := by decide +kernel
theorem dX10_level_16 : decode cX10_level 16 = .ok (.iadd, 1) := by decide +kernel
theorem dX10_level_17 : decode cX10_level 17 = .ok (.iconst 2, 1) := by decide +kernel
theorem dX10_level_18 : decode cX10_level 18 = .ok (.idiv, 1) := by decide +kernel
theorem dX10_level_19 : decode cX10_level 19 = .ok (.invokevirtual 30, 3) := by decide +kernel
theorem dX10_level_22 : decode cX10_level 22 = .ok (.aload_n 0, 1) := by decide +kernel
theorem dX10_level_23 : decode cX10_level 23 = .ok (.iload_n 2, 1) := by decide +kernel
theorem dX10_level_24 : decode cX10_level 24 = .ok (.iload_n 3, 1) := by decide +kernel
theorem dX10_level_25 : decode cX10_level 25 = .ok (.iconst 2, 1) := by decide +kernel
theorem dX10_level_26 : decode cX10_level 26 = .ok (.idiv, 1) := by decide +kernel
theorem dX10_level_27 : decode cX10_level 27 = .ok (.invokevirtual 30, 3) := by decide +kernel
theorem dX10_level_30 : decode cX10_level 30 = .ok (.iadd, 1) := by decide +kernel
theorem dX10_level_31 : decode cX10_level 31 = .ok (.ireturn, 1) := by decide +kernel
set_option maxRecDepth 20000 in
theorem ggX10_slide_X10_cellOf : GoodIn wsX10_slide wsX10_cellOf := goodIn_r _ [4] (by decide +kernel) (by decide +kernel)
set_option maxRecDepth 20000 in
theorem gX10_slide_X10_cellOf : GoodIn wsX10_slide (va_wsS RX10 19 yX10_cellOf wsX10_cellOf) := goodIn_app (goodIn_of _ (by decide +kernel)) ggX10_slide_X10_cellOf
set_option maxRecDepth 20000 in
theorem ggX10_slide_X10_slideLine : GoodIn wsX10_slide wsX10_slideLine := goodIn_ca (goodIn_r _ [8, 9, 10, 11, 3, 12, 13, 14, 15, 16, 17, 18, 19] (by decide +kernel) (by decide +kernel)) (goodIn_sub (fun _ h => List.mem_cons_of_mem _ (List.mem_append_right _ h)) (by decide +kernel))
set_option maxRecDepth 20000 in
theorem gX10_slide_X10_slideLine : GoodIn wsX10_slide (wsV RX10 33 RX10 yX10_slideLine wsX10_slideLine) := goodIn_app (goodIn_of _ (by decide +kernel)) ggX10_slide_X10_slideLine
theorem dX10_slide_0 : decode cX10_slide 0 = .ok (.iconst 0, 1) := by decide +kernel
theorem dX10_slide_1 : decode cX10_slide 1 = .ok (.istore_n 2, 1) := by decide +kernel
theorem dX10_slide_2 : decode cX10_slide 2 = .ok (.iconst 0, 1) := by decide +kernel
theorem dX10_slide_3 : decode cX10_slide 3 = .ok (.istore_n 3, 1) := by decide +kernel
theorem dX10_slide_4 : decode cX10_slide 4 = .ok (.iload_n 3, 1) := by decide +kernel
theorem dX10_slide_5 : decode cX10_slide 5 = .ok (.iconst 5, 1) := by decide +kernel
theorem dX10_slide_6 : decode cX10_slide 6 = .ok (.if_icmp .ge 106, 3) := by decide +kernel
theorem dX10_slide_9 : decode cX10_slide 9 = .ok (.iload_n 1, 1) := by decide +kernel
theorem dX10_slide_10 : decode cX10_slide 10 = .ok (.lookupswitch 83 #[(101, 51), (110, 34), (115, 67)], 34) := by decide +kernel
theorem dX10_slide_44 : decode cX10_slide 44 = .ok (.iload_n 2, 1) := by decide +kernel
theorem dX10_slide_45 : decode cX10_slide 45 = .ok (.aload_n 0, 1) := by decide +kernel
theorem dX10_slide_46 : decode cX10_slide 46 = .ok (.iconst 4, 1) := by decide +kernel
theorem dX10_slide_47 : decode cX10_slide 47 = .ok (.iload_n 3, 1) := by decide +kernel
theorem dX10_slide_48 : decode cX10_slide 48 = .ok (.invokestatic 19, 3) := by decide +kernel
theorem dX10_slide_51 : decode cX10_slide 51 = .ok (.bipush (-5), 2) := by decide +kernel
theorem dX10_slide_53 : decode cX10_slide 53 = .ok (.invokevirtual 33, 3) := by decide +kernel
theorem dX10_slide_56 : decode cX10_slide 56 = .ok (.iadd, 1) := by decide +kernel
theorem dX10_slide_57 : decode cX10_slide 57 = .ok (.istore_n 2, 1) := by decide +kernel
theorem dX10_slide_58 : decode cX10_slide 58 = .ok (.goto 48, 3) := by decide +kernel
theorem dX10_slide_61 : decode cX10_slide 61 = .ok (.iload_n 2, 1) := by decide +kernel
theorem dX10_slide_62 : decode cX10_slide 62 = .ok (.aload_n 0, 1) := by decide +kernel
theorem dX10_slide_63 : decode cX10_slide 63 = .ok (.iload_n 3, 1) := by decide +kernel
theorem dX10_slide_64 : decode cX10_slide 64 = .ok (.iconst 0, 1) := by decide +kernel
theorem dX10_slide_65 : decode cX10_slide 65 = .ok (.invokestatic 19, 3) := by decide +kernel
theorem dX10_slide_68 : decode cX10_slide 68 = .ok (.iconst 1, 1) := by decide +kernel
theorem dX10_slide_69 : decode cX10_slide 69 = .ok (.invokevirtual 33, 3) := by decide +kernel
theorem dX10_slide_72 : decode cX10_slide 72 = .ok (.iadd, 1) := by decide +kernel
theorem dX10_slide_73 : decode cX10_slide 73 = .ok (.istore_n 2, 1) := by decide +kernel
theorem dX10_slide_74 : decode cX10_slide 74 = .ok (.goto 32, 3) := by decide +kernel
theorem dX10_slide_77 : decode cX10_slide 77 = .ok (.iload_n 2, 1) := by decide +kernel
theorem dX10_slide_78 : decode cX10_slide 78 = .ok (.aload_n 0, 1) := by decide +kernel
theorem dX10_slide_79 : decode cX10_slide 79 = .ok (.iconst 0, 1) := by decide +kernel
theorem dX10_slide_80 : decode cX10_slide 80 = .ok (.iload_n 3, 1) := by decide +kernel
theorem dX10_slide_81 : decode cX10_slide 81 = .ok (.invokestatic 19, 3) := by decide +kernel
theorem dX10_slide_84 : decode cX10_slide 84 = .ok (.iconst 5, 1) := by decide +kernel
theorem dX10_slide_85 : decode cX10_slide 85 = .ok (.invokevirtual 33, 3) := by decide +kernel
theorem dX10_slide_88 : decode cX10_slide 88 = .ok (.iadd, 1) := by decide +kernel
theorem dX10_slide_89 : decode cX10_slide 89 = .ok (.istore_n 2, 1) := by decide +kernel
theorem dX10_slide_90 : decode cX10_slide 90 = .ok (.goto 16, 3) := by decide +kernel
theorem dX10_slide_93 : decode cX10_slide 93 = .ok (.iload_n 2, 1) := by decide +kernel
theorem dX10_slide_94 : decode cX10_slide 94 = .ok (.aload_n 0, 1) := by decide +kernel
theorem dX10_slide_95 : decode cX10_slide 95 = .ok (.iload_n 3, 1) := by decide +kernel
theorem dX10_slide_96 : decode cX10_slide 96 = .ok (.iconst 4, 1) := by decide +kernel
theorem dX10_slide_97 : decode cX10_slide 97 = .ok (.invokestatic 19, 3) := by decide +kernel
theorem dX10_slide_100 : decode cX10_slide 100 = .ok (.iconst (-1), 1) := by decide +kernel
theorem dX10_slide_101 : decode cX10_slide 101 = .ok (.invokevirtual 33, 3) := by decide +kernel
theorem dX10_slide_104 : decode cX10_slide 104 = .ok (.iadd, 1) := by decide +kernel
theorem dX10_slide_105 : decode cX10_slide 105 = .ok (.istore_n 2, 1) := by decide +kernel
theorem dX10_slide_106 : decode cX10_slide 106 = .ok (.iinc 3 1, 3) := by decide +kernel
theorem dX10_slide_109 : decode cX10_slide 109 = .ok (.goto (-105), 3) := by decide +kernel
theorem dX10_slide_112 : decode cX10_slide 112 = .ok (.iload_n 2, 1) := by decide +kernel
theorem dX10_slide_113 : decode cX10_slide 113 = .ok (.ireturn, 1) := by decide +kernel
set_option maxRecDepth 20000 in
theorem ggX10_slideLine_X10_at : GoodIn wsX10_slideLine wsX10_at := goodIn_ca (goodIn_r _ [5, 6, 11, 12] (by decide +kernel) (by decide +kernel)) (goodIn_sub (fun _ h => List.mem_cons_of_mem _ (List.mem_append_right _ h)) (by decide +kernel))
set_option maxRecDepth 20000 in
theorem gX10_slideLine_X10_at : GoodIn wsX10_slideLine (wsV RX10 26 RX10 yX10_at wsX10_at) := goodIn_app (goodIn_of _ (by decide +kernel)) ggX10_slideLine_X10_at
set_option maxRecDepth 20000 in
theorem ggX10_slideLine_X10_put : GoodIn wsX10_slideLine wsX10_put := goodIn_ca (goodIn_r _ [10, 6, 11, 12] (by decide +kernel) (by decide +kernel)) (goodIn_sub (fun _ h => List.mem_cons_of_mem _ (List.mem_append_right _ h)) (by decide +kernel))
set_option maxRecDepth 20000 in
theorem gX10_slideLine_X10_put : GoodIn wsX10_slideLine (wsV RX10 30 RX10 yX10_put wsX10_put) := goodIn_app (goodIn_of _ (by decide +kernel)) ggX10_slideLine_X10_put
theorem dX10_slideLine_0 : decode cX10_slideLine 0 = .ok (.iconst 0, 1) := by decide +kernel
theorem dX10_slideLine_1 : decode cX10_slideLine 1 = .ok (.istore_n 3, 1) := by decide +kernel
theorem dX10_slideLine_2 : decode cX10_slideLine 2 = .ok (.aload_n 0, 1) := by decide +kernel
theorem dX10_slideLine_3 : decode cX10_slideLine 3 = .ok (.iload_n 1, 1) := by decide +kernel
theorem dX10_slideLine_4 : decode cX10_slideLine 4 = .ok (.iconst 4, 1) := by decide +kernel
theorem dX10_slideLine_5 : decode cX10_slideLine 5 = .ok (.iload_n 2, 1) := by decide +kernel
theorem dX10_slideLine_6 : decode cX10_slideLine 6 = .ok (.imul, 1) := by decide +kernel
theorem dX10_slideLine_7 : decode cX10_slideLine 7 = .ok (.iadd, 1) := by decide +kernel
theorem dX10_slideLine_8 : decode cX10_slideLine 8 = .ok (.invokevirtual 26, 3) := by decide +kernel
theorem dX10_slideLine_11 : decode cX10_slideLine 11 = .ok (.istore 4, 2) := by decide +kernel
theorem dX10_slideLine_13 : decode cX10_slideLine 13 = .ok (.iconst 0, 1) := by decide +kernel
theorem dX10_slideLine_14 : decode cX10_slideLine 14 = .ok (.istore 5, 2) := by decide +kernel
theorem dX10_slideLine_16 : decode cX10_slideLine 16 = .ok (.iload 5, 2) := by decide +kernel
theorem dX10_slideLine_18 : decode cX10_slideLine 18 = .ok (.iconst 5, 1) := by decide +kernel
theorem dX10_slideLine_19 : decode cX10_slideLine 19 = .ok (.if_icmp .ge 40, 3) := by decide +kernel
theorem dX10_slideLine_22 : decode cX10_slideLine 22 = .ok (.iload_n 1, 1) := by decide +kernel
theorem dX10_slideLine_23 : decode cX10_slideLine 23 = .ok (.iload 5, 2) := by decide +kernel
theorem dX10_slideLine_25 : decode cX10_slideLine 25 = .ok (.iload_n 2, 1) := by decide +kernel
theorem dX10_slideLine_26 : decode cX10_slideLine 26 = .ok (.imul, 1) := by decide +kernel
theorem dX10_slideLine_27 : decode cX10_slideLine 27 = .ok (.iadd, 1) := by decide +kernel
theorem dX10_slideLine_28 : decode cX10_slideLine 28 = .ok (.istore 6, 2) := by decide +kernel
theorem dX10_slideLine_30 : decode cX10_slideLine 30 = .ok (.aload_n 0, 1) := by decide +kernel
theorem dX10_slideLine_31 : decode cX10_slideLine 31 = .ok (.iload 6, 2) := by decide +kernel
theorem dX10_slideLine_33 : decode cX10_slideLine 33 = .ok (.invokevirtual 26, 3) := by decide +kernel
theorem dX10_slideLine_36 : decode cX10_slideLine 36 = .ok (.istore 7, 2) := by decide +kernel
theorem dX10_slideLine_38 : decode cX10_slideLine 38 = .ok (.iload_n 3, 1) := by decide +kernel
theorem dX10_slideLine_39 : decode cX10_slideLine 39 = .ok (.aload_n 0, 1) := by decide +kernel
theorem dX10_slideLine_40 : decode cX10_slideLine 40 = .ok (.iload 6, 2) := by decide +kernel
theorem dX10_slideLine_42 : decode cX10_slideLine 42 = .ok (.iload 4, 2) := by decide +kernel
theorem dX10_slideLine_44 : decode cX10_slideLine 44 = .ok (.invokevirtual 30, 3) := by decide +kernel
theorem dX10_slideLine_47 : decode cX10_slideLine 47 = .ok (.iadd, 1) := by decide +kernel
theorem dX10_slideLine_48 : decode cX10_slideLine 48 = .ok (.istore_n 3, 1) := by decide +kernel
theorem dX10_slideLine_49 : decode cX10_slideLine 49 = .ok (.iload 7, 2) := by decide +kernel
theorem dX10_slideLine_51 : decode cX10_slideLine 51 = .ok (.istore 4, 2) := by decide +kernel
theorem dX10_slideLine_53 : decode cX10_slideLine 53 = .ok (.iinc 5 1, 3) := by decide +kernel
theorem dX10_slideLine_56 : decode cX10_slideLine 56 = .ok (.goto (-40), 3) := by decide +kernel
theorem dX10_slideLine_59 : decode cX10_slideLine 59 = .ok (.iload_n 3, 1) := by decide +kernel
theorem dX10_slideLine_60 : decode cX10_slideLine 60 = .ok (.ireturn, 1) := by decide +kernel
theorem dX10_difference_0 : decode cX10_difference 0 = .ok (.iload_n 1, 1) := by decide +kernel
theorem dX10_difference_1 : decode cX10_difference 1 = .ok (.ifCond .lt 19, 3) := by decide +kernel
theorem dX10_difference_4 : decode cX10_difference 4 = .ok (.iload_n 1, 1) := by decide +kernel
theorem dX10_difference_5 : decode cX10_difference 5 = .ok (.bipush 25, 2) := by decide +kernel
theorem dX10_difference_7 : decode cX10_difference 7 = .ok (.if_icmp .ge 13, 3) := by decide +kernel
theorem dX10_difference_10 : decode cX10_difference 10 = .ok (.iload_n 2, 1) := by decide +kernel
theorem dX10_difference_11 : decode cX10_difference 11 = .ok (.ifCond .lt 9, 3) := by decide +kernel
theorem dX10_difference_14 : decode cX10_difference 14 = .ok (.iload_n 2, 1) := by decide +kernel
theorem dX10_difference_15 : decode cX10_difference 15 = .ok (.bipush 25, 2) := by decide +kernel
theorem dX10_difference_17 : decode cX10_difference 17 = .ok (.if_icmp .lt 5, 3) := by decide +kernel
theorem dX10_difference_20 : decode cX10_difference 20 = .ok (.iconst 0, 1) := by decide +kernel
theorem dX10_difference_21 : decode cX10_difference 21 = .ok (.ireturn, 1) := by decide +kernel
theorem dX10_difference_22 : decode cX10_difference 22 = .ok (.aload_n 0, 1) := by decide +kernel
theorem dX10_difference_23 : decode cX10_difference 23 = .ok (.getfield 9, 3) := by decide +kernel
theorem dX10_difference_26 : decode cX10_difference 26 = .ok (.iload_n 1, 1) := by decide +kernel
theorem dX10_difference_27 : decode cX10_difference 27 = .ok (.iaload, 1) := by decide +kernel
theorem dX10_difference_28 : decode cX10_difference 28 = .ok (.aload_n 0, 1) := by decide +kernel
theorem dX10_difference_29 : decode cX10_difference 29 = .ok (.getfield 9, 3) := by decide +kernel
theorem dX10_difference_32 : decode cX10_difference 32 = .ok (.iload_n 2, 1) := by decide +kernel
theorem dX10_difference_33 : decode cX10_difference 33 = .ok (.iaload, 1) := by decide +kernel
theorem dX10_difference_34 : decode cX10_difference 34 = .ok (.isub, 1) := by decide +kernel
theorem dX10_difference_35 : decode cX10_difference 35 = .ok (.istore_n 3, 1) := by decide +kernel
theorem dX10_difference_36 : decode cX10_difference 36 = .ok (.iload_n 3, 1) := by decide +kernel
theorem dX10_difference_37 : decode cX10_difference 37 = .ok (.ifCond .ge 8, 3) := by decide +kernel
theorem dX10_difference_40 : decode cX10_difference 40 = .ok (.iload_n 3, 1) := by decide +kernel
theorem dX10_difference_41 : decode cX10_difference 41 = .ok (.ineg, 1) := by decide +kernel
theorem dX10_difference_42 : decode cX10_difference 42 = .ok (.goto 4, 3) := by decide +kernel
theorem dX10_difference_45 : decode cX10_difference 45 = .ok (.iload_n 3, 1) := by decide +kernel
theorem dX10_difference_46 : decode cX10_difference 46 = .ok (.ireturn, 1) := by decide +kernel
set_option maxRecDepth 20000 in
theorem ggX10_hasFront_X10_difference : GoodIn wsX10_hasFront wsX10_difference := goodIn_ca (goodIn_r _ [6, 7, 8, 9] (by decide +kernel) (by decide +kernel)) (goodIn_sub (fun _ h => List.mem_cons_of_mem _ (List.mem_append_right _ h)) (by decide +kernel))
set_option maxRecDepth 20000 in
theorem gX10_hasFront_X10_difference : GoodIn wsX10_hasFront (wsV RX10 36 RX10 yX10_difference wsX10_difference) := goodIn_app (goodIn_of _ (by decide +kernel)) ggX10_hasFront_X10_difference
theorem dX10_hasFront_0 : decode cX10_hasFront 0 = .ok (.aload_n 0, 1) := by decide +kernel
theorem dX10_hasFront_1 : decode cX10_hasFront 1 = .ok (.iload_n 1, 1) := by decide +kernel
theorem dX10_hasFront_2 : decode cX10_hasFront 2 = .ok (.iload_n 2, 1) := by decide +kernel
theorem dX10_hasFront_3 : decode cX10_hasFront 3 = .ok (.invokevirtual 36, 3) := by decide +kernel
theorem dX10_hasFront_6 : decode cX10_hasFront 6 = .ok (.aload_n 0, 1) := by decide +kernel
theorem dX10_hasFront_7 : decode cX10_hasFront 7 = .ok (.getfield 15, 3) := by decide +kernel
theorem dX10_hasFront_10 : decode cX10_hasFront 10 = .ok (.if_icmp .lt 7, 3) := by decide +kernel
theorem dX10_hasFront_13 : decode cX10_hasFront 13 = .ok (.iconst 1, 1) := by decide +kernel
theorem dX10_hasFront_14 : decode cX10_hasFront 14 = .ok (.goto 4, 3) := by decide +kernel
theorem dX10_hasFront_17 : decode cX10_hasFront 17 = .ok (.iconst 0, 1) := by decide +kernel
theorem dX10_hasFront_18 : decode cX10_hasFront 18 = .ok (.ireturn, 1) := by decide +kernel
set_option maxRecDepth 20000 in
theorem ggX10_countFronts_X10_hasRightNeighbour : GoodIn wsX10_countFronts wsX10_hasRightNeighbour := goodIn_r _ [4] (by decide +kernel) (by decide +kernel)
set_option maxRecDepth 20000 in
theorem gX10_countFronts_X10_hasRightNeighbour : GoodIn wsX10_countFronts (va_wsS RX10 39 yX10_hasRightNeighbour wsX10_hasRightNeighbour) := goodIn_app (goodIn_of _ (by decide +kernel)) ggX10_countFronts_X10_hasRightNeighbour
set_option maxRecDepth 20000 in
theorem ggX10_countFronts_X10_hasFront : GoodIn wsX10_countFronts wsX10_hasFront := goodIn_ca (goodIn_r _ [8, 9, 10, 11, 12, 3, 13, 14, 18, 19] (by decide +kernel) (by decide +kernel)) (goodIn_sub (fun _ h => List.mem_cons_of_mem _ (List.mem_append_right _ h)) (by decide +kernel))
set_option maxRecDepth 20000 in
theorem gX10_countFronts_X10_hasFront : GoodIn wsX10_countFronts (wsV RX10 43 RX10 yX10_hasFront wsX10_hasFront) := goodIn_app (goodIn_of _ (by decide +kernel)) ggX10_countFronts_X10_hasFront
set_option maxRecDepth 20000 in
theorem ggX10_countFronts_X10_hasLowerNeighbour : GoodIn wsX10_countFronts wsX10_hasLowerNeighbour := goodIn_r _ [17] (by decide +kernel) (by decide +kernel)
set_option maxRecDepth 20000 in
theorem gX10_countFronts_X10_hasLowerNeighbour : GoodIn wsX10_countFronts (va_wsS RX10 47 yX10_hasLowerNeighbour wsX10_hasLowerNeighbour) := goodIn_app (goodIn_of _ (by decide +kernel)) ggX10_countFronts_X10_hasLowerNeighbour
theorem dX10_countFronts_0 : decode cX10_countFronts 0 = .ok (.iconst 0, 1) := by decide +kernel
theorem dX10_countFronts_1 : decode cX10_countFronts 1 = .ok (.istore_n 1, 1) := by decide +kernel
theorem dX10_countFronts_2 : decode cX10_countFronts 2 = .ok (.iconst 0, 1) := by decide +kernel
theorem dX10_countFronts_3 : decode cX10_countFronts 3 = .ok (.istore_n 2, 1) := by decide +kernel
theorem dX10_countFronts_4 : decode cX10_countFronts 4 = .ok (.iload_n 2, 1) := by decide +kernel
theorem dX10_countFronts_5 : decode cX10_countFronts 5 = .ok (.bipush 25, 2) := by decide +kernel
theorem dX10_countFronts_7 : decode cX10_countFronts 7 = .ok (.if_icmp .ge 51, 3) := by decide +kernel
theorem dX10_countFronts_10 : decode cX10_countFronts 10 = .ok (.iload_n 2, 1) := by decide +kernel
theorem dX10_countFronts_11 : decode cX10_countFronts 11 = .ok (.invokestatic 39, 3) := by decide +kernel
theorem dX10_countFronts_14 : decode cX10_countFronts 14 = .ok (.ifCond .eq 17, 3) := by decide +kernel
theorem dX10_countFronts_17 : decode cX10_countFronts 17 = .ok (.aload_n 0, 1) := by decide +kernel
theorem dX10_countFronts_18 : decode cX10_countFronts 18 = .ok (.iload_n 2, 1) := by decide +kernel
theorem dX10_countFronts_19 : decode cX10_countFronts 19 = .ok (.iload_n 2, 1) := by decide +kernel
theorem dX10_countFronts_20 : decode cX10_countFronts 20 = .ok (.iconst 1, 1) := by decide +kernel
theorem dX10_countFronts_21 : decode cX10_countFronts 21 = .ok (.iadd, 1) := by decide +kernel
theorem dX10_countFronts_22 : decode cX10_countFronts 22 = .ok (.invokevirtual 43, 3) := by decide +kernel
theorem dX10_countFronts_25 : decode cX10_countFronts 25 = .ok (.ifCond .eq 6, 3) := by decide +kernel
theorem dX10_countFronts_28 : decode cX10_countFronts 28 = .ok (.iinc 1 1, 3) := by decide +kernel
theorem dX10_countFronts_31 : decode cX10_countFronts 31 = .ok (.iload_n 2, 1) := by decide +kernel
theorem dX10_countFronts_32 : decode cX10_countFronts 32 = .ok (.invokestatic 47, 3) := by decide +kernel
theorem dX10_countFronts_35 : decode cX10_countFronts 35 = .ok (.ifCond .eq 17, 3) := by decide +kernel
theorem dX10_countFronts_38 : decode cX10_countFronts 38 = .ok (.aload_n 0, 1) := by decide +kernel
theorem dX10_countFronts_39 : decode cX10_countFronts 39 = .ok (.iload_n 2, 1) := by decide +kernel
theorem dX10_countFronts_40 : decode cX10_countFronts 40 = .ok (.iload_n 2, 1) := by decide +kernel
theorem dX10_countFronts_41 : decode cX10_countFronts 41 = .ok (.iconst 5, 1) := by decide +kernel
theorem dX10_countFronts_42 : decode cX10_countFronts 42 = .ok (.iadd, 1) := by decide +kernel
theorem dX10_countFronts_43 : decode cX10_countFronts 43 = .ok (.invokevirtual 43, 3) := by decide +kernel
theorem dX10_countFronts_46 : decode cX10_countFronts 46 = .ok (.ifCond .eq 6, 3) := by decide +kernel
theorem dX10_countFronts_49 : decode cX10_countFronts 49 = .ok (.iinc 1 1, 3) := by decide +kernel
theorem dX10_countFronts_52 : decode cX10_countFronts 52 = .ok (.iinc 2 1, 3) := by decide +kernel
theorem dX10_countFronts_55 : decode cX10_countFronts 55 = .ok (.goto (-51), 3) := by decide +kernel
theorem dX10_countFronts_58 : decode cX10_countFronts 58 = .ok (.iload_n 1, 1) := by decide +kernel
theorem dX10_countFronts_59 : decode cX10_countFronts 59 = .ok (.ireturn, 1) := by decide +kernel
set_option maxRecDepth 20000 in
theorem ggX10_greatestStep_X10_hasRightNeighbour : GoodIn wsX10_greatestStep wsX10_hasRightNeighbour := goodIn_r _ [8] (by decide +kernel) (by decide +kernel)
set_option maxRecDepth 20000 in
theorem gX10_greatestStep_X10_hasRightNeighbour : GoodIn wsX10_greatestStep (va_wsS RX10 39 yX10_hasRightNeighbour wsX10_hasRightNeighbour) := goodIn_app (goodIn_of _ (by decide +kernel)) ggX10_greatestStep_X10_hasRightNeighbour
set_option maxRecDepth 20000 in
theorem ggX10_greatestStep_X10_difference : GoodIn wsX10_greatestStep wsX10_difference := goodIn_ca (goodIn_r _ [12, 13, 17, 18] (by decide +kernel) (by decide +kernel)) (goodIn_sub (fun _ h => List.mem_cons_of_mem _ (List.mem_append_right _ h)) (by decide +kernel))
set_option maxRecDepth 20000 in
theorem gX10_greatestStep_X10_difference : GoodIn wsX10_greatestStep (wsV RX10 36 RX10 yX10_difference wsX10_difference) := goodIn_app (goodIn_of _ (by decide +kernel)) ggX10_greatestStep_X10_difference
set_option maxRecDepth 20000 in
theorem ggX10_greatestStep_X10_hasLowerNeighbour : GoodIn wsX10_greatestStep wsX10_hasLowerNeighbour := goodIn_r _ [16] (by decide +kernel) (by decide +kernel)
set_option maxRecDepth 20000 in
theorem gX10_greatestStep_X10_hasLowerNeighbour : GoodIn wsX10_greatestStep (va_wsS RX10 47 yX10_hasLowerNeighbour wsX10_hasLowerNeighbour) := goodIn_app (goodIn_of _ (by decide +kernel)) ggX10_greatestStep_X10_hasLowerNeighbour
theorem dX10_greatestStep_0 : decode cX10_greatestStep 0 = .ok (.iconst 0, 1) := by decide +kernel
theorem dX10_greatestStep_1 : decode cX10_greatestStep 1 = .ok (.istore_n 1, 1) := by decide +kernel
theorem dX10_greatestStep_2 : decode cX10_greatestStep 2 = .ok (.iconst 0, 1) := by decide +kernel
theorem dX10_greatestStep_3 : decode cX10_greatestStep 3 = .ok (.istore_n 2, 1) := by decide +kernel
theorem dX10_greatestStep_4 : decode cX10_greatestStep 4 = .ok (.iload_n 2, 1) := by decide +kernel
theorem dX10_greatestStep_5 : decode cX10_greatestStep 5 = .ok (.bipush 25, 2) := by decide +kernel
theorem dX10_greatestStep_7 : decode cX10_greatestStep 7 = .ok (.if_icmp .ge 49, 3) := by decide +kernel
theorem dX10_greatestStep_10 : decode cX10_greatestStep 10 = .ok (.iload_n 2, 1) := by decide +kernel
theorem dX10_greatestStep_11 : decode cX10_greatestStep 11 = .ok (.invokestatic 39, 3) := by decide +kernel
theorem dX10_greatestStep_14 : decode cX10_greatestStep 14 = .ok (.ifCond .eq 16, 3) := by decide +kernel
theorem dX10_greatestStep_17 : decode cX10_greatestStep 17 = .ok (.iload_n 1, 1) := by decide +kernel
theorem dX10_greatestStep_18 : decode cX10_greatestStep 18 = .ok (.aload_n 0, 1) := by decide +kernel
theorem dX10_greatestStep_19 : decode cX10_greatestStep 19 = .ok (.iload_n 2, 1) := by decide +kernel
theorem dX10_greatestStep_20 : decode cX10_greatestStep 20 = .ok (.iload_n 2, 1) := by decide +kernel
theorem dX10_greatestStep_21 : decode cX10_greatestStep 21 = .ok (.iconst 1, 1) := by decide +kernel
theorem dX10_greatestStep_22 : decode cX10_greatestStep 22 = .ok (.iadd, 1) := by decide +kernel
theorem dX10_greatestStep_23 : decode cX10_greatestStep 23 = .ok (.invokevirtual 36, 3) := by decide +kernel
theorem dX10_greatestStep_26 : decode cX10_greatestStep 26 = .ok (.invokestatic 50, 3) := by decide +kernel
theorem dX10_greatestStep_29 : decode cX10_greatestStep 29 = .ok (.istore_n 1, 1) := by decide +kernel
theorem dX10_greatestStep_30 : decode cX10_greatestStep 30 = .ok (.iload_n 2, 1) := by decide +kernel
theorem dX10_greatestStep_31 : decode cX10_greatestStep 31 = .ok (.invokestatic 47, 3) := by decide +kernel
theorem dX10_greatestStep_34 : decode cX10_greatestStep 34 = .ok (.ifCond .eq 16, 3) := by decide +kernel
theorem dX10_greatestStep_37 : decode cX10_greatestStep 37 = .ok (.iload_n 1, 1) := by decide +kernel
theorem dX10_greatestStep_38 : decode cX10_greatestStep 38 = .ok (.aload_n 0, 1) := by decide +kernel
theorem dX10_greatestStep_39 : decode cX10_greatestStep 39 = .ok (.iload_n 2, 1) := by decide +kernel
theorem dX10_greatestStep_40 : decode cX10_greatestStep 40 = .ok (.iload_n 2, 1) := by decide +kernel
theorem dX10_greatestStep_41 : decode cX10_greatestStep 41 = .ok (.iconst 5, 1) := by decide +kernel
theorem dX10_greatestStep_42 : decode cX10_greatestStep 42 = .ok (.iadd, 1) := by decide +kernel
theorem dX10_greatestStep_43 : decode cX10_greatestStep 43 = .ok (.invokevirtual 36, 3) := by decide +kernel
theorem dX10_greatestStep_46 : decode cX10_greatestStep 46 = .ok (.invokestatic 50, 3) := by decide +kernel
theorem dX10_greatestStep_49 : decode cX10_greatestStep 49 = .ok (.istore_n 1, 1) := by decide +kernel
theorem dX10_greatestStep_50 : decode cX10_greatestStep 50 = .ok (.iinc 2 1, 3) := by decide +kernel
theorem dX10_greatestStep_53 : decode cX10_greatestStep 53 = .ok (.goto (-49), 3) := by decide +kernel
theorem dX10_greatestStep_56 : decode cX10_greatestStep 56 = .ok (.iload_n 1, 1) := by decide +kernel
theorem dX10_greatestStep_57 : decode cX10_greatestStep 57 = .ok (.ireturn, 1) := by decide +kernel
set_option maxRecDepth 20000 in
theorem ggX11_init_X10_init : GoodIn wsX11_init wsX10_init := goodIn_ca (goodIn_r _ [19, 20, 2, 3, 21, 22, 23, 39, 40] (by decide +kernel) (by decide +kernel)) (goodIn_sub (fun _ h => List.mem_cons_of_mem _ (List.mem_append_right _ h)) (by decide +kernel))
set_option maxRecDepth 20000 in
theorem gX11_init_X10_init : GoodIn wsX11_init (wsX10_init) := ggX11_init_X10_init
set_option maxRecDepth 20000 in
theorem ggX11_init_X2_init : GoodIn wsX11_init wsX2_init := goodIn_ca (goodIn_r _ [26, 27, 2, 3, 21, 28, 29, 45, 46] (by decide +kernel) (by decide +kernel)) (goodIn_sub (fun _ h => List.mem_cons_of_mem _ (List.mem_append_right _ h)) (by decide +kernel))
set_option maxRecDepth 20000 in
theorem gX11_init_X2_init : GoodIn wsX11_init (wsX2_init) := ggX11_init_X2_init
set_option maxRecDepth 20000 in
theorem ggX11_init_X4_init : GoodIn wsX11_init wsX4_init := goodIn_r _ [31, 32, 2, 3, 21, 33, 34, 35, 36, 37, 38, 47, 48, 49, 50, 51, 52] (by decide +kernel) (by decide +kernel)
set_option maxRecDepth 20000 in
theorem gX11_init_X4_init_n25 : GoodIn wsX11_init (wsX4_init) := ggX11_init_X4_init
theorem dX11_init_0 : decode cX11_init 0 = .ok (.aload_n 0, 1) := by decide +kernel
theorem dX11_init_1 : decode cX11_init 1 = .ok (.invokespecial 1, 3) := by decide +kernel
theorem dX11_init_4 : decode cX11_init 4 = .ok (.aload_n 0, 1) := by decide +kernel
theorem dX11_init_5 : decode cX11_init 5 = .ok (.new 7, 3) := by decide +kernel
theorem dX11_init_8 : decode cX11_init 8 = .ok (.dup, 1) := by decide +kernel
theorem dX11_init_9 : decode cX11_init 9 = .ok (.invokespecial 9, 3) := by decide +kernel
theorem dX11_init_12 : decode cX11_init 12 = .ok (.putfield 10, 3) := by decide +kernel
theorem dX11_init_15 : decode cX11_init 15 = .ok (.aload_n 0, 1) := by decide +kernel
theorem dX11_init_16 : decode cX11_init 16 = .ok (.new 16, 3) := by decide +kernel
theorem dX11_init_19 : decode cX11_init 19 = .ok (.dup, 1) := by decide +kernel
theorem dX11_init_20 : decode cX11_init 20 = .ok (.invokespecial 18, 3) := by decide +kernel
theorem dX11_init_23 : decode cX11_init 23 = .ok (.putfield 19, 3) := by decide +kernel
theorem dX11_init_26 : decode cX11_init 26 = .ok (.aload_n 0, 1) := by decide +kernel
theorem dX11_init_27 : decode cX11_init 27 = .ok (.new 23, 3) := by decide +kernel
theorem dX11_init_30 : decode cX11_init 30 = .ok (.dup, 1) := by decide +kernel
theorem dX11_init_31 : decode cX11_init 31 = .ok (.invokespecial 25, 3) := by decide +kernel
theorem dX11_init_34 : decode cX11_init 34 = .ok (.putfield 26, 3) := by decide +kernel
theorem dX11_init_37 : decode cX11_init 37 = .ok (.aload_n 0, 1) := by decide +kernel
theorem dX11_init_38 : decode cX11_init 38 = .ok (.iconst 0, 1) := by decide +kernel
theorem dX11_init_39 : decode cX11_init 39 = .ok (.putfield 30, 3) := by decide +kernel
theorem dX11_init_42 : decode cX11_init 42 = .ok (.return_, 1) := by decide +kernel
set_option maxRecDepth 20000 in
theorem ggX11_copyFrom_X10_copyFrom : GoodIn wsX11_copyFrom wsX10_copyFrom := goodIn_ca (goodIn_r _ [9, 10, 11, 34, 35] (by decide +kernel) (by decide +kernel)) (goodIn_sub (fun _ h => List.mem_cons_of_mem _ (List.mem_append_right _ h)) (by decide +kernel))
set_option maxRecDepth 20000 in
theorem gX11_copyFrom_X10_copyFrom : GoodIn wsX11_copyFrom (wsV RX11 34 RX10 yX10_copyFrom wsX10_copyFrom) := goodIn_app (goodIn_of _ (by decide +kernel)) ggX11_copyFrom_X10_copyFrom
set_option maxRecDepth 20000 in
theorem ggX11_copyFrom_X2_copyFrom : GoodIn wsX11_copyFrom wsX2_copyFrom := goodIn_ca (goodIn_r _ [16, 17, 18, 36, 37] (by decide +kernel) (by decide +kernel)) (goodIn_sub (fun _ h => List.mem_cons_of_mem _ (List.mem_append_right _ h)) (by decide +kernel))
set_option maxRecDepth 20000 in
theorem gX11_copyFrom_X2_copyFrom : GoodIn wsX11_copyFrom (wsV RX11 38 RX2 yX2_copyFrom wsX2_copyFrom) := goodIn_app (goodIn_of _ (by decide +kernel)) ggX11_copyFrom_X2_copyFrom
set_option maxRecDepth 20000 in
theorem ggX11_copyFrom_X4_copyFrom : GoodIn wsX11_copyFrom wsX4_copyFrom := goodIn_ca (goodIn_r _ [23, 24, 25, 26, 27, 28, 29, 38, 39, 40, 41, 42, 43] (by decide +kernel) (by decide +kernel)) (goodIn_sub (fun _ h => List.mem_cons_of_mem _ (List.mem_append_right _ h)) (by decide +kernel))
set_option maxRecDepth 20000 in
theorem gX11_copyFrom_X4_copyFrom : GoodIn wsX11_copyFrom (wsV RX11 41 RX4 yX4_copyFrom wsX4_copyFrom) := goodIn_app (goodIn_of _ (by decide +kernel)) ggX11_copyFrom_X4_copyFrom
theorem dX11_copyFrom_0 : decode cX11_copyFrom 0 = .ok (.aload_n 0, 1) := by decide +kernel
theorem dX11_copyFrom_1 : decode cX11_copyFrom 1 = .ok (.getfield 10, 3) := by decide +kernel
theorem dX11_copyFrom_4 : decode cX11_copyFrom 4 = .ok (.aload_n 1, 1) := by decide +kernel
theorem dX11_copyFrom_5 : decode cX11_copyFrom 5 = .ok (.getfield 10, 3) := by decide +kernel
theorem dX11_copyFrom_8 : decode cX11_copyFrom 8 = .ok (.invokevirtual 34, 3) := by decide +kernel
theorem dX11_copyFrom_11 : decode cX11_copyFrom 11 = .ok (.aload_n 0, 1) := by decide +kernel
theorem dX11_copyFrom_12 : decode cX11_copyFrom 12 = .ok (.getfield 19, 3) := by decide +kernel
theorem dX11_copyFrom_15 : decode cX11_copyFrom 15 = .ok (.aload_n 1, 1) := by decide +kernel
theorem dX11_copyFrom_16 : decode cX11_copyFrom 16 = .ok (.getfield 19, 3) := by decide +kernel
theorem dX11_copyFrom_19 : decode cX11_copyFrom 19 = .ok (.invokevirtual 38, 3) := by decide +kernel
theorem dX11_copyFrom_22 : decode cX11_copyFrom 22 = .ok (.aload_n 0, 1) := by decide +kernel
theorem dX11_copyFrom_23 : decode cX11_copyFrom 23 = .ok (.getfield 26, 3) := by decide +kernel
theorem dX11_copyFrom_26 : decode cX11_copyFrom 26 = .ok (.aload_n 1, 1) := by decide +kernel
theorem dX11_copyFrom_27 : decode cX11_copyFrom 27 = .ok (.getfield 26, 3) := by decide +kernel
theorem dX11_copyFrom_30 : decode cX11_copyFrom 30 = .ok (.invokevirtual 41, 3) := by decide +kernel
theorem dX11_copyFrom_33 : decode cX11_copyFrom 33 = .ok (.aload_n 0, 1) := by decide +kernel
theorem dX11_copyFrom_34 : decode cX11_copyFrom 34 = .ok (.aload_n 1, 1) := by decide +kernel
theorem dX11_copyFrom_35 : decode cX11_copyFrom 35 = .ok (.getfield 30, 3) := by decide +kernel
theorem dX11_copyFrom_38 : decode cX11_copyFrom 38 = .ok (.putfield 30, 3) := by decide +kernel
theorem dX11_copyFrom_41 : decode cX11_copyFrom 41 = .ok (.return_, 1) := by decide +kernel
set_option maxRecDepth 20000 in
theorem ggX11_passDay_X2_changeTo : GoodIn wsX11_passDay wsX2_changeTo := goodIn_ca (goodIn_r _ [8, 9, 10, 11, 12, 7, 13, 14, 15, 16, 17, 18, 19, 20, 21, 57, 58] (by decide +kernel) (by decide +kernel)) (goodIn_sub (fun _ h => List.mem_cons_of_mem _ (List.mem_append_right _ h)) (by decide +kernel))
set_option maxRecDepth 20000 in
theorem gX11_passDay_X2_changeTo : GoodIn wsX11_passDay (wsV RX11 44 RX2 yX2_changeTo wsX2_changeTo) := goodIn_app (goodIn_of _ (by decide +kernel)) ggX11_passDay_X2_changeTo
set_option maxRecDepth 20000 in
theorem ggX11_passDay_X4_score : GoodIn wsX11_passDay wsX4_score := goodIn_ca (goodIn_r _ [26, 27, 28, 29, 30, 31, 32, 33, 34, 35, 36, 37, 25, 38, 39, 40, 41, 42, 43, 44, 45, 46, 47, 48, 49, 50, 51, 52, 59, 60, 61, 62, 63, 64] (by decide +kernel) (by decide +kernel)) (goodIn_sub (fun _ h => List.mem_cons_of_mem _ (List.mem_append_right _ h)) (by decide +kernel))
set_option maxRecDepth 20000 in
theorem gX11_passDay_X4_score : GoodIn wsX11_passDay (wsV RX11 48 RX4 yX4_score wsX4_score) := goodIn_app (goodIn_of _ (by decide +kernel)) ggX11_passDay_X4_score
theorem dX11_passDay_0 : decode cX11_passDay 0 = .ok (.aload_n 0, 1) := by decide +kernel
theorem dX11_passDay_1 : decode cX11_passDay 1 = .ok (.dup, 1) := by decide +kernel
theorem dX11_passDay_2 : decode cX11_passDay 2 = .ok (.getfield 30, 3) := by decide +kernel
theorem dX11_passDay_5 : decode cX11_passDay 5 = .ok (.iconst 1, 1) := by decide +kernel
theorem dX11_passDay_6 : decode cX11_passDay 6 = .ok (.iadd, 1) := by decide +kernel
theorem dX11_passDay_7 : decode cX11_passDay 7 = .ok (.putfield 30, 3) := by decide +kernel
theorem dX11_passDay_10 : decode cX11_passDay 10 = .ok (.aload_n 0, 1) := by decide +kernel
theorem dX11_passDay_11 : decode cX11_passDay 11 = .ok (.getfield 19, 3) := by decide +kernel
theorem dX11_passDay_14 : decode cX11_passDay 14 = .ok (.iload_n 1, 1) := by decide +kernel
theorem dX11_passDay_15 : decode cX11_passDay 15 = .ok (.invokevirtual 44, 3) := by decide +kernel
theorem dX11_passDay_18 : decode cX11_passDay 18 = .ok (.aload_n 0, 1) := by decide +kernel
theorem dX11_passDay_19 : decode cX11_passDay 19 = .ok (.getfield 26, 3) := by decide +kernel
theorem dX11_passDay_22 : decode cX11_passDay 22 = .ok (.aload_n 0, 1) := by decide +kernel
theorem dX11_passDay_23 : decode cX11_passDay 23 = .ok (.getfield 30, 3) := by decide +kernel
theorem dX11_passDay_26 : decode cX11_passDay 26 = .ok (.iload_n 1, 1) := by decide +kernel
theorem dX11_passDay_27 : decode cX11_passDay 27 = .ok (.invokevirtual 48, 3) := by decide +kernel
theorem dX11_passDay_30 : decode cX11_passDay 30 = .ok (.ireturn, 1) := by decide +kernel
