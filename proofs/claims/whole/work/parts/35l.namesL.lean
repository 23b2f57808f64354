set_option maxRecDepth 20000 in
theorem gL_setWeight_X12_setWeight : GoodIn wsL_setWeight (wsV RL 51 RX12 yX12_setWeight wsX12_setWeight) := goodIn_app (goodIn_of _ (by decide +kernel)) ggL_setWeight_X12_setWeight
theorem dL_setWeight_0 : decode cL_setWeight 0 = .ok (.aload 4, 2) := by decide +kernel
theorem dL_setWeight_2 : decode cL_setWeight 2 = .ok (.iconst 0, 1) := by decide +kernel
theorem dL_setWeight_3 : decode cL_setWeight 3 = .ok (.aload_n 0, 1) := by decide +kernel
theorem dL_setWeight_4 : decode cL_setWeight 4 = .ok (.iload_n 1, 1) := by decide +kernel
theorem dL_setWeight_5 : decode cL_setWeight 5 = .ok (.iload_n 2, 1) := by decide +kernel
theorem dL_setWeight_6 : decode cL_setWeight 6 = .ok (.iload_n 3, 1) := by decide +kernel
theorem dL_setWeight_7 : decode cL_setWeight 7 = .ok (.invokevirtual 51, 3) := by decide +kernel
theorem dL_setWeight_10 : decode cL_setWeight 10 = .ok (.i2l, 1) := by decide +kernel
theorem dL_setWeight_11 : decode cL_setWeight 11 = .ok (.lastore, 1) := by decide +kernel
theorem dL_setWeight_12 : decode cL_setWeight 12 = .ok (.goto 11, 3) := by decide +kernel
theorem dL_setWeight_15 : decode cL_setWeight 15 = .ok (.astore 5, 2) := by decide +kernel
theorem dL_setWeight_17 : decode cL_setWeight 17 = .ok (.iconst 1, 1) := by decide +kernel
theorem dL_setWeight_18 : decode cL_setWeight 18 = .ok (.ireturn, 1) := by decide +kernel
theorem dL_setWeight_19 : decode cL_setWeight 19 = .ok (.astore 5, 2) := by decide +kernel
theorem dL_setWeight_21 : decode cL_setWeight 21 = .ok (.iconst 2, 1) := by decide +kernel
theorem dL_setWeight_22 : decode cL_setWeight 22 = .ok (.ireturn, 1) := by decide +kernel
theorem dL_setWeight_23 : decode cL_setWeight 23 = .ok (.iconst 0, 1) := by decide +kernel
theorem dL_setWeight_24 : decode cL_setWeight 24 = .ok (.ireturn, 1) := by decide +kernel
set_option maxRecDepth 20000 in
theorem ggL_weightOf_X12_weightOf : GoodIn wsL_weightOf wsX12_weightOf := goodIn_ca (goodIn_ca (goodIn_r _ [6, 7, 8, 9, 5, 10, 11, 12, 13, 14, 15, 16, 17, 18, 19, 20, 21, 22, 23, 24, 25, 26, 27, 28, 29, 30, 31, 32, 33, 34, 35, 36, 37, 38, 39] (by decide +kernel) (by decide +kernel)) (goodIn_sub (fun _ h => List.mem_cons_of_mem _ (List.mem_append_right _ h)) (by decide +kernel))) (goodIn_sub (fun _ h => List.mem_cons_of_mem _ (List.mem_append_left _ (List.mem_append_right _ h))) (by decide +kernel))
set_option maxRecDepth 20000 in
theorem gL_weightOf_X12_weightOf : GoodIn wsL_weightOf (wsV RL 56 RX12 yX12_weightOf wsX12_weightOf) := goodIn_app (goodIn_of _ (by decide +kernel)) ggL_weightOf_X12_weightOf
theorem dL_weightOf_0 : decode cL_weightOf 0 = .ok (.aload_n 3, 1) := by decide +kernel
theorem dL_weightOf_1 : decode cL_weightOf 1 = .ok (.iconst 0, 1) := by decide +kernel
theorem dL_weightOf_2 : decode cL_weightOf 2 = .ok (.aload_n 0, 1) := by decide +kernel
theorem dL_weightOf_3 : decode cL_weightOf 3 = .ok (.iload_n 1, 1) := by decide +kernel
theorem dL_weightOf_4 : decode cL_weightOf 4 = .ok (.iload_n 2, 1) := by decide +kernel
theorem dL_weightOf_5 : decode cL_weightOf 5 = .ok (.invokevirtual 56, 3) := by decide +kernel
theorem dL_weightOf_8 : decode cL_weightOf 8 = .ok (.i2l, 1) := by decide +kernel
theorem dL_weightOf_9 : decode cL_weightOf 9 = .ok (.lastore, 1) := by decide +kernel
theorem dL_weightOf_10 : decode cL_weightOf 10 = .ok (.goto 7, 3) := by decide +kernel
theorem dL_weightOf_13 : decode cL_weightOf 13 = .ok (.astore 4, 2) := by decide +kernel
theorem dL_weightOf_15 : decode cL_weightOf 15 = .ok (.iconst 1, 1) := by decide +kernel
theorem dL_weightOf_16 : decode cL_weightOf 16 = .ok (.ireturn, 1) := by decide +kernel
theorem dL_weightOf_17 : decode cL_weightOf 17 = .ok (.iconst 0, 1) := by decide +kernel
theorem dL_weightOf_18 : decode cL_weightOf 18 = .ok (.ireturn, 1) := by decide +kernel
set_option maxRecDepth 20000 in
theorem ggL_chanceNumerator_X12_chanceNumerator : GoodIn wsL_chanceNumerator wsX12_chanceNumerator := goodIn_ca (goodIn_ca (goodIn_ca (goodIn_r _ [6, 7, 8, 9, 10, 5, 11, 12, 13, 14, 15, 16, 17, 18, 19, 20, 21, 22, 23, 24, 25, 26, 27, 28, 29, 30, 31, 32, 33, 34, 35, 36, 37, 38, 39, 40, 41, 42, 43, 44, 45, 46, 47, 48, 49, 50, 51, 52, 53, 54, 55, 56, 57, 58, 59, 60, 61, 62, 63, 64, 65, 66, 67, 68, 69, 70, 71, 72, 73, 74, 75, 76, 77, 78, 79, 80, 81, 82, 83, 84, 85, 86, 87, 88, 89, 90, 91, 92] (by decide +kernel) (by decide +kernel)) (goodIn_sub (fun _ h => List.mem_cons_of_mem _ (List.mem_append_left _ (List.mem_append_right _ h))) (by decide +kernel))) (goodIn_sub (fun _ h => List.mem_cons_of_mem _ (List.mem_append_left _ (List.mem_append_left _ (List.mem_append_right _ h)))) (by decide +kernel))) (goodIn_sub (fun _ h => List.mem_cons_of_mem _ (List.mem_append_right _ h)) (by decide +kernel))
set_option maxRecDepth 20000 in
theorem gL_chanceNumerator_X12_chanceNumerator : GoodIn wsL_chanceNumerator (wsV RL 59 RX12 yX12_chanceNumerator wsX12_chanceNumerator) := goodIn_app (goodIn_of _ (by decide +kernel)) ggL_chanceNumerator_X12_chanceNumerator
theorem dL_chanceNumerator_0 : decode cL_chanceNumerator 0 = .ok (.aload_n 3, 1) := by decide +kernel
theorem dL_chanceNumerator_1 : decode cL_chanceNumerator 1 = .ok (.iconst 0, 1) := by decide +kernel
theorem dL_chanceNumerator_2 : decode cL_chanceNumerator 2 = .ok (.aload_n 0, 1) := by decide +kernel
theorem dL_chanceNumerator_3 : decode cL_chanceNumerator 3 = .ok (.iload_n 1, 1) := by decide +kernel
theorem dL_chanceNumerator_4 : decode cL_chanceNumerator 4 = .ok (.iload_n 2, 1) := by decide +kernel
theorem dL_chanceNumerator_5 : decode cL_chanceNumerator 5 = .ok (.invokevirtual 59, 3) := by decide +kernel
theorem dL_chanceNumerator_8 : decode cL_chanceNumerator 8 = .ok (.lastore, 1) := by decide +kernel
theorem dL_chanceNumerator_9 : decode cL_chanceNumerator 9 = .ok (.goto 7, 3) := by decide +kernel
theorem dL_chanceNumerator_12 : decode cL_chanceNumerator 12 = .ok (.astore 4, 2) := by decide +kernel
theorem dL_chanceNumerator_14 : decode cL_chanceNumerator 14 = .ok (.iconst 1, 1) := by decide +kernel
theorem dL_chanceNumerator_15 : decode cL_chanceNumerator 15 = .ok (.ireturn, 1) := by decide +kernel
theorem dL_chanceNumerator_16 : decode cL_chanceNumerator 16 = .ok (.iconst 0, 1) := by decide +kernel
theorem dL_chanceNumerator_17 : decode cL_chanceNumerator 17 = .ok (.ireturn, 1) := by decide +kernel
set_option maxRecDepth 20000 in
theorem ggL_chanceDenominator_X12_chanceDenominator : GoodIn wsL_chanceDenominator wsX12_chanceDenominator := goodIn_ca (goodIn_ca (goodIn_ca (goodIn_r _ [6, 7, 8, 9, 10, 5, 11, 12, 13, 14, 15, 16, 17, 18, 19, 20, 21, 22, 23, 24, 25, 26, 27, 28, 29, 30, 31, 32, 33, 34, 35, 36, 37, 38, 39, 40, 41, 42, 43, 44, 45, 46, 47, 48, 49, 50, 51, 52, 53, 54, 55, 56, 57, 58, 59, 60, 61, 62, 63, 64, 65, 66, 67, 68, 69, 70, 71, 72, 73, 74, 75, 76, 77, 78, 79, 80, 81, 82, 83, 84, 85, 86, 87, 88, 89, 90, 91, 92] (by decide +kernel) (by decide +kernel)) (goodIn_sub (fun _ h => List.mem_cons_of_mem _ (List.mem_append_left _ (List.mem_append_right _ h))) (by decide +kernel))) (goodIn_sub (fun _ h => List.mem_cons_of_mem _ (List.mem_append_left _ (List.mem_append_left _ (List.mem_append_right _ h)))) (by decide +kernel))) (goodIn_sub (fun _ h => List.mem_cons_of_mem _ (List.mem_append_right _ h)) (by decide +kernel))
set_option maxRecDepth 20000 in
theorem gL_chanceDenominator_X12_chanceDenominator : GoodIn wsL_chanceDenominator (wsV RL 63 RX12 yX12_chanceDenominator wsX12_chanceDenominator) := goodIn_app (goodIn_of _ (by decide +kernel)) ggL_chanceDenominator_X12_chanceDenominator
theorem dL_chanceDenominator_0 : decode cL_chanceDenominator 0 = .ok (.aload_n 3, 1) := by decide +kernel
theorem dL_chanceDenominator_1 : decode cL_chanceDenominator 1 = .ok (.iconst 0, 1) := by decide +kernel
theorem dL_chanceDenominator_2 : decode cL_chanceDenominator 2 = .ok (.aload_n 0, 1) := by decide +kernel
theorem dL_chanceDenominator_3 : decode cL_chanceDenominator 3 = .ok (.iload_n 1, 1) := by decide +kernel
theorem dL_chanceDenominator_4 : decode cL_chanceDenominator 4 = .ok (.iload_n 2, 1) := by decide +kernel
theorem dL_chanceDenominator_5 : decode cL_chanceDenominator 5 = .ok (.invokevirtual 63, 3) := by decide +kernel
theorem dL_chanceDenominator_8 : decode cL_chanceDenominator 8 = .ok (.lastore, 1) := by decide +kernel
theorem dL_chanceDenominator_9 : decode cL_chanceDenominator 9 = .ok (.goto 7, 3) := by decide +kernel
theorem dL_chanceDenominator_12 : decode cL_chanceDenominator 12 = .ok (.astore 4, 2) := by decide +kernel
theorem dL_chanceDenominator_14 : decode cL_chanceDenominator 14 = .ok (.iconst 1, 1) := by decide +kernel
theorem dL_chanceDenominator_15 : decode cL_chanceDenominator 15 = .ok (.ireturn, 1) := by decide +kernel
theorem dL_chanceDenominator_16 : decode cL_chanceDenominator 16 = .ok (.iconst 0, 1) := by decide +kernel
theorem dL_chanceDenominator_17 : decode cL_chanceDenominator 17 = .ok (.ireturn, 1) := by decide +kernel
set_option maxRecDepth 20000 in
theorem ggL_numeratorByBranches_X12_numeratorByBranches : GoodIn wsL_numeratorByBranches wsX12_numeratorByBranches := goodIn_ca (goodIn_ca (goodIn_ca (goodIn_r _ [6, 7, 8, 9, 10, 5, 11, 12, 13, 14, 15, 16, 17, 18, 19, 20, 21, 22, 23, 24, 25, 26, 27, 28, 29, 30, 31, 32, 33, 34, 35, 36, 37, 38, 39, 40, 41, 42, 43, 44, 45, 46, 47, 48, 49, 50, 51, 52, 53, 54, 55, 56, 57, 58, 59, 60, 61, 62, 63, 64, 65, 66, 67, 68, 69, 70, 71, 72, 73, 74, 75, 76, 77, 78, 79, 80, 81, 82, 83, 84] (by decide +kernel) (by decide +kernel)) (goodIn_sub (fun _ h => List.mem_cons_of_mem _ (List.mem_append_left _ (List.mem_append_right _ h))) (by decide +kernel))) (goodIn_sub (fun _ h => List.mem_cons_of_mem _ (List.mem_append_left _ (List.mem_append_left _ (List.mem_append_right _ h)))) (by decide +kernel))) (goodIn_sub (fun _ h => List.mem_cons_of_mem _ (List.mem_append_right _ h)) (by decide +kernel))
set_option maxRecDepth 20000 in
theorem gL_numeratorByBranches_X12_numeratorByBranches : GoodIn wsL_numeratorByBranches (wsV RL 66 RX12 yX12_numeratorByBranches wsX12_numeratorByBranches) := goodIn_app (goodIn_of _ (by decide +kernel)) ggL_numeratorByBranches_X12_numeratorByBranches
theorem dL_numeratorByBranches_0 : decode cL_numeratorByBranches 0 = .ok (.aload_n 3, 1) := by decide +kernel
theorem dL_numeratorByBranches_1 : decode cL_numeratorByBranches 1 = .ok (.iconst 0, 1) := by decide +kernel
theorem dL_numeratorByBranches_2 : decode cL_numeratorByBranches 2 = .ok (.aload_n 0, 1) := by decide +kernel
theorem dL_numeratorByBranches_3 : decode cL_numeratorByBranches 3 = .ok (.iload_n 1, 1) := by decide +kernel
theorem dL_numeratorByBranches_4 : decode cL_numeratorByBranches 4 = .ok (.iload_n 2, 1) := by decide +kernel
theorem dL_numeratorByBranches_5 : decode cL_numeratorByBranches 5 = .ok (.invokevirtual 66, 3) := by decide +kernel
theorem dL_numeratorByBranches_8 : decode cL_numeratorByBranches 8 = .ok (.lastore, 1) := by decide +kernel
theorem dL_numeratorByBranches_9 : decode cL_numeratorByBranches 9 = .ok (.goto 7, 3) := by decide +kernel
theorem dL_numeratorByBranches_12 : decode cL_numeratorByBranches 12 = .ok (.astore 4, 2) := by decide +kernel
theorem dL_numeratorByBranches_14 : decode cL_numeratorByBranches 14 = .ok (.iconst 1, 1) := by decide +kernel
theorem dL_numeratorByBranches_15 : decode cL_numeratorByBranches 15 = .ok (.ireturn, 1) := by decide +kernel
theorem dL_numeratorByBranches_16 : decode cL_numeratorByBranches 16 = .ok (.iconst 0, 1) := by decide +kernel
theorem dL_numeratorByBranches_17 : decode cL_numeratorByBranches 17 = .ok (.ireturn, 1) := by decide +kernel
set_option maxRecDepth 20000 in
theorem ggL_denominatorByBranches_X12_denominatorByBranches : GoodIn wsL_denominatorByBranches wsX12_denominatorByBranches := goodIn_ca (goodIn_ca (goodIn_ca (goodIn_r _ [6, 7, 8, 9, 10, 5, 11, 12, 13, 14, 15, 16, 17, 18, 19, 20, 21, 22, 23, 24, 25, 26, 27, 28, 29, 30, 31, 32, 33, 34, 35, 36, 37, 38, 39, 40, 41, 42, 43, 44, 45, 46, 47, 48, 49, 50, 51, 52, 53, 54, 55, 56, 57, 58, 59, 60, 61, 62, 63, 64, 65, 66, 67, 68, 69, 70, 71, 72, 73, 74, 75, 76, 77, 78, 79, 80, 81, 82, 83, 84] (by decide +kernel) (by decide +kernel)) (goodIn_sub (fun _ h => List.mem_cons_of_mem _ (List.mem_append_left _ (List.mem_append_right _ h))) (by decide +kernel))) (goodIn_sub (fun _ h => List.mem_cons_of_mem _ (List.mem_append_left _ (List.mem_append_left _ (List.mem_append_right _ h)))) (by decide +kernel))) (goodIn_sub (fun _ h => List.mem_cons_of_mem _ (List.mem_append_right _ h)) (by decide +kernel))
set_option maxRecDepth 20000 in
theorem gL_denominatorByBranches_X12_denominatorByBranches : GoodIn wsL_denominatorByBranches (wsV RL 69 RX12 yX12_denominatorByBranches wsX12_denominatorByBranches) := goodIn_app (goodIn_of _ (by decide +kernel)) ggL_denominatorByBranches_X12_denominatorByBranches
theorem dL_denominatorByBranches_0 : decode cL_denominatorByBranches 0 = .ok (.aload_n 3, 1) := by decide +kernel
theorem dL_denominatorByBranches_1 : decode cL_denominatorByBranches 1 = .ok (.iconst 0, 1) := by decide +kernel
theorem dL_denominatorByBranches_2 : decode cL_denominatorByBranches 2 = .ok (.aload_n 0, 1) := by decide +kernel
theorem dL_denominatorByBranches_3 : decode cL_denominatorByBranches 3 = .ok (.iload_n 1, 1) := by decide +kernel
theorem dL_denominatorByBranches_4 : decode cL_denominatorByBranches 4 = .ok (.iload_n 2, 1) := by decide +kernel
theorem dL_denominatorByBranches_5 : decode cL_denominatorByBranches 5 = .ok (.invokevirtual 69, 3) := by decide +kernel
theorem dL_denominatorByBranches_8 : decode cL_denominatorByBranches 8 = .ok (.lastore, 1) := by decide +kernel
theorem dL_denominatorByBranches_9 : decode cL_denominatorByBranches 9 = .ok (.goto 7, 3) := by decide +kernel
theorem dL_denominatorByBranches_12 : decode cL_denominatorByBranches 12 = .ok (.astore 4, 2) := by decide +kernel
theorem dL_denominatorByBranches_14 : decode cL_denominatorByBranches 14 = .ok (.iconst 1, 1) := by decide +kernel
theorem dL_denominatorByBranches_15 : decode cL_denominatorByBranches 15 = .ok (.ireturn, 1) := by decide +kernel
theorem dL_denominatorByBranches_16 : decode cL_denominatorByBranches 16 = .ok (.iconst 0, 1) := by decide +kernel
theorem dL_denominatorByBranches_17 : decode cL_denominatorByBranches 17 = .ok (.ireturn, 1) := by decide +kernel
set_option maxRecDepth 20000 in
theorem ggL_sequenceCount_X12_sequenceCount : GoodIn wsL_sequenceCount wsX12_sequenceCount := goodIn_ca (goodIn_ca (goodIn_ca (goodIn_r _ [6, 7, 8, 9, 10, 5, 11, 12, 13, 14, 15, 16, 17, 18, 19, 20, 21, 22, 23, 24, 25, 26, 27, 28, 29, 30, 31, 32, 33, 34, 35, 36, 37, 38, 39, 40, 41, 42, 43, 44, 45, 46, 47, 48, 49, 50, 51, 52, 53, 54, 55, 56, 57, 58, 59, 60, 61, 62, 63, 64, 65, 66, 67, 68, 69, 70, 71, 72, 73, 74, 75, 76, 77, 78, 79, 80, 81, 82, 83, 84] (by decide +kernel) (by decide +kernel)) (goodIn_sub (fun _ h => List.mem_cons_of_mem _ (List.mem_append_left _ (List.mem_append_right _ h))) (by decide +kernel))) (goodIn_sub (fun _ h => List.mem_cons_of_mem _ (List.mem_append_left _ (List.mem_append_left _ (List.mem_append_right _ h)))) (by decide +kernel))) (goodIn_sub (fun _ h => List.mem_cons_of_mem _ (List.mem_append_right _ h)) (by decide +kernel))
set_option maxRecDepth 20000 in
theorem gL_sequenceCount_X12_sequenceCount : GoodIn wsL_sequenceCount (wsV RL 72 RX12 yX12_sequenceCount wsX12_sequenceCount) := goodIn_app (goodIn_of _ (by decide +kernel)) ggL_sequenceCount_X12_sequenceCount
theorem dL_sequenceCount_0 : decode cL_sequenceCount 0 = .ok (.aload_n 3, 1) := by decide +kernel
theorem dL_sequenceCount_1 : decode cL_sequenceCount 1 = .ok (.iconst 0, 1) := by decide +kernel
theorem dL_sequenceCount_2 : decode cL_sequenceCount 2 = .ok (.aload_n 0, 1) := by decide +kernel
theorem dL_sequenceCount_3 : decode cL_sequenceCount 3 = .ok (.iload_n 1, 1) := by decide +kernel
theorem dL_sequenceCount_4 : decode cL_sequenceCount 4 = .ok (.iload_n 2, 1) := by decide +kernel
theorem dL_sequenceCount_5 : decode cL_sequenceCount 5 = .ok (.invokevirtual 72, 3) := by decide +kernel
theorem dL_sequenceCount_8 : decode cL_sequenceCount 8 = .ok (.i2l, 1) := by decide +kernel
theorem dL_sequenceCount_9 : decode cL_sequenceCount 9 = .ok (.lastore, 1) := by decide +kernel
theorem dL_sequenceCount_10 : decode cL_sequenceCount 10 = .ok (.goto 7, 3) := by decide +kernel
theorem dL_sequenceCount_13 : decode cL_sequenceCount 13 = .ok (.astore 4, 2) := by decide +kernel
theorem dL_sequenceCount_15 : decode cL_sequenceCount 15 = .ok (.iconst 1, 1) := by decide +kernel
theorem dL_sequenceCount_16 : decode cL_sequenceCount 16 = .ok (.ireturn, 1) := by decide +kernel
theorem dL_sequenceCount_17 : decode cL_sequenceCount 17 = .ok (.iconst 0, 1) := by decide +kernel
theorem dL_sequenceCount_18 : decode cL_sequenceCount 18 = .ok (.ireturn, 1) := by decide +kernel
set_option maxRecDepth 20000 in
theorem ggL_likeliest_X12_likeliest : GoodIn wsL_likeliest wsX12_likeliest := goodIn_ca (goodIn_ca (goodIn_ca (goodIn_r _ [6, 7, 8, 9, 10, 5, 11, 12, 13, 14, 15, 16, 17, 18, 19, 20, 21, 22, 23, 24, 25, 26, 27, 28, 29, 30, 31, 32, 33, 34, 35, 36, 37, 38, 39, 40, 41, 42, 43, 44, 45, 46, 47, 48, 49, 50, 51, 52, 53, 54, 55, 56, 57, 58, 59, 60, 61, 62, 63, 64, 65, 66, 67, 68, 69, 70, 71, 72, 73, 74, 75, 76, 77, 78, 79, 80, 81, 82, 83, 84, 85, 86, 87, 88, 89, 90, 91, 92, 93] (by decide +kernel) (by decide +kernel)) (goodIn_sub (fun _ h => List.mem_cons_of_mem _ (List.mem_append_left _ (List.mem_append_right _ h))) (by decide +kernel))) (goodIn_sub (fun _ h => List.mem_cons_of_mem _ (List.mem_append_left _ (List.mem_append_left _ (List.mem_append_right _ h)))) (by decide +kernel))) (goodIn_sub (fun _ h => List.mem_cons_of_mem _ (List.mem_append_right _ h)) (by decide +kernel))
set_option maxRecDepth 20000 in
theorem gL_likeliest_X12_likeliest : GoodIn wsL_likeliest (wsV RL 75 RX12 yX12_likeliest wsX12_likeliest) := goodIn_app (goodIn_of _ (by decide +kernel)) ggL_likeliest_X12_likeliest
theorem dL_likeliest_0 : decode cL_likeliest 0 = .ok (.aload_n 2, 1) := by decide +kernel
theorem dL_likeliest_1 : decode cL_likeliest 1 = .ok (.iconst 0, 1) := by decide +kernel
theorem dL_likeliest_2 : decode cL_likeliest 2 = .ok (.aload_n 0, 1) := by decide +kernel
theorem dL_likeliest_3 : decode cL_likeliest 3 = .ok (.iload_n 1, 1) := by decide +kernel
theorem dL_likeliest_4 : decode cL_likeliest 4 = .ok (.invokevirtual 75, 3) := by decide +kernel
theorem dL_likeliest_7 : decode cL_likeliest 7 = .ok (.i2l, 1) := by decide +kernel
theorem dL_likeliest_8 : decode cL_likeliest 8 = .ok (.lastore, 1) := by decide +kernel
theorem dL_likeliest_9 : decode cL_likeliest 9 = .ok (.goto 6, 3) := by decide +kernel
theorem dL_likeliest_12 : decode cL_likeliest 12 = .ok (.astore_n 3, 1) := by decide +kernel
theorem dL_likeliest_13 : decode cL_likeliest 13 = .ok (.iconst 1, 1) := by decide +kernel
theorem dL_likeliest_14 : decode cL_likeliest 14 = .ok (.ireturn, 1) := by decide +kernel
theorem dL_likeliest_15 : decode cL_likeliest 15 = .ok (.iconst 0, 1) := by decide +kernel
theorem dL_likeliest_16 : decode cL_likeliest 16 = .ok (.ireturn, 1) := by decide +kernel
