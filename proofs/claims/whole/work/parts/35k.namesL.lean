set_option maxRecDepth 20000 in
theorem ggL_setPressure_X12_setPressure : GoodIn wsL_setPressure wsX12_setPressure := goodIn_ca (goodIn_ca (goodIn_ca (goodIn_r _ [6, 7, 8, 9, 10, 11, 12, 5, 13, 14, 15, 16, 17, 18, 19, 20, 21, 22, 23, 24, 25, 26, 27, 28, 29, 30, 31, 32, 33, 34, 35, 36, 37, 38, 39, 40, 41, 42, 43, 44, 45, 46, 47, 48, 49, 50, 51, 52, 53, 54, 55, 56, 57, 58, 59, 60, 61, 62, 63, 64, 65, 66, 67, 68, 69, 70, 71, 72, 73, 74, 75, 76, 77, 78, 79, 80, 81, 82, 83, 84, 85, 86, 87, 88, 89, 90, 91, 92, 93, 94, 95, 96, 97, 98, 99, 100, 101, 102, 103, 104, 105, 106] (by decide +kernel) (by decide +kernel)) (goodIn_sub (fun _ h => List.mem_cons_of_mem _ (List.mem_append_left _ (List.mem_append_right _ h))) (by decide +kernel))) (goodIn_sub (fun _ h => List.mem_cons_of_mem _ (List.mem_append_right _ h)) (by decide +kernel))) (goodIn_sub (fun _ h => List.mem_cons_of_mem _ (List.mem_append_left _ (List.mem_append_left _ (List.mem_append_right _ h)))) (by decide +kernel))
set_option maxRecDepth 20000 in
theorem gL_setPressure_X12_setPressure : GoodIn wsL_setPressure (wsV RL 7 RX12 yX12_setPressure wsX12_setPressure) := goodIn_app (goodIn_of _ (by decide +kernel)) ggL_setPressure_X12_setPressure
theorem dL_setPressure_0 : decode cL_setPressure 0 = .ok (.aload 4, 2) := by decide +kernel
theorem dL_setPressure_2 : decode cL_setPressure 2 = .ok (.iconst 0, 1) := by decide +kernel
theorem dL_setPressure_3 : decode cL_setPressure 3 = .ok (.aload_n 0, 1) := by decide +kernel
theorem dL_setPressure_4 : decode cL_setPressure 4 = .ok (.iload_n 1, 1) := by decide +kernel
theorem dL_setPressure_5 : decode cL_setPressure 5 = .ok (.iload_n 2, 1) := by decide +kernel
theorem dL_setPressure_6 : decode cL_setPressure 6 = .ok (.iload_n 3, 1) := by decide +kernel
theorem dL_setPressure_7 : decode cL_setPressure 7 = .ok (.invokevirtual 7, 3) := by decide +kernel
theorem dL_setPressure_10 : decode cL_setPressure 10 = .ok (.i2l, 1) := by decide +kernel
theorem dL_setPressure_11 : decode cL_setPressure 11 = .ok (.lastore, 1) := by decide +kernel
theorem dL_setPressure_12 : decode cL_setPressure 12 = .ok (.goto 11, 3) := by decide +kernel
theorem dL_setPressure_15 : decode cL_setPressure 15 = .ok (.astore 5, 2) := by decide +kernel
theorem dL_setPressure_17 : decode cL_setPressure 17 = .ok (.iconst 1, 1) := by decide +kernel
theorem dL_setPressure_18 : decode cL_setPressure 18 = .ok (.ireturn, 1) := by decide +kernel
theorem dL_setPressure_19 : decode cL_setPressure 19 = .ok (.astore 5, 2) := by decide +kernel
theorem dL_setPressure_21 : decode cL_setPressure 21 = .ok (.iconst 2, 1) := by decide +kernel
theorem dL_setPressure_22 : decode cL_setPressure 22 = .ok (.ireturn, 1) := by decide +kernel
theorem dL_setPressure_23 : decode cL_setPressure 23 = .ok (.iconst 0, 1) := by decide +kernel
theorem dL_setPressure_24 : decode cL_setPressure 24 = .ok (.ireturn, 1) := by decide +kernel
set_option maxRecDepth 20000 in
theorem ggL_pressureAt_X12_pressureAt : GoodIn wsL_pressureAt wsX12_pressureAt := goodIn_ca (goodIn_ca (goodIn_r _ [6, 7, 8, 9, 5, 10, 11, 12, 13, 14, 15, 16, 17, 18, 19, 20, 21, 22, 23, 24, 25, 26, 27, 28, 29, 30, 31, 32, 33, 34, 35, 36, 37, 38, 39, 40, 41] (by decide +kernel) (by decide +kernel)) (goodIn_sub (fun _ h => List.mem_cons_of_mem _ (List.mem_append_right _ h)) (by decide +kernel))) (goodIn_sub (fun _ h => List.mem_cons_of_mem _ (List.mem_append_left _ (List.mem_append_right _ h))) (by decide +kernel))
set_option maxRecDepth 20000 in
theorem gL_pressureAt_X12_pressureAt : GoodIn wsL_pressureAt (wsV RL 17 RX12 yX12_pressureAt wsX12_pressureAt) := goodIn_app (goodIn_of _ (by decide +kernel)) ggL_pressureAt_X12_pressureAt
theorem dL_pressureAt_0 : decode cL_pressureAt 0 = .ok (.aload_n 3, 1) := by decide +kernel
theorem dL_pressureAt_1 : decode cL_pressureAt 1 = .ok (.iconst 0, 1) := by decide +kernel
theorem dL_pressureAt_2 : decode cL_pressureAt 2 = .ok (.aload_n 0, 1) := by decide +kernel
theorem dL_pressureAt_3 : decode cL_pressureAt 3 = .ok (.iload_n 1, 1) := by decide +kernel
theorem dL_pressureAt_4 : decode cL_pressureAt 4 = .ok (.iload_n 2, 1) := by decide +kernel
theorem dL_pressureAt_5 : decode cL_pressureAt 5 = .ok (.invokevirtual 17, 3) := by decide +kernel
theorem dL_pressureAt_8 : decode cL_pressureAt 8 = .ok (.i2l, 1) := by decide +kernel
theorem dL_pressureAt_9 : decode cL_pressureAt 9 = .ok (.lastore, 1) := by decide +kernel
theorem dL_pressureAt_10 : decode cL_pressureAt 10 = .ok (.goto 7, 3) := by decide +kernel
theorem dL_pressureAt_13 : decode cL_pressureAt 13 = .ok (.astore 4, 2) := by decide +kernel
theorem dL_pressureAt_15 : decode cL_pressureAt 15 = .ok (.iconst 1, 1) := by decide +kernel
theorem dL_pressureAt_16 : decode cL_pressureAt 16 = .ok (.ireturn, 1) := by decide +kernel
theorem dL_pressureAt_17 : decode cL_pressureAt 17 = .ok (.iconst 0, 1) := by decide +kernel
theorem dL_pressureAt_18 : decode cL_pressureAt 18 = .ok (.ireturn, 1) := by decide +kernel
set_option maxRecDepth 20000 in
theorem ggL_foldRow_X12_foldRow : GoodIn wsL_foldRow wsX12_foldRow := goodIn_ca (goodIn_ca (goodIn_r _ [6, 7, 8, 9, 10, 5, 11, 12, 13, 14, 15, 16, 17, 18, 19, 20, 21, 22, 23, 24, 25, 26, 27, 28, 29, 30, 31, 32, 33, 34, 35, 36, 37, 38, 39, 40, 41, 42, 43, 44, 45, 46, 47, 48, 49, 50, 51, 52, 53, 54, 55, 56, 57, 58, 59, 60, 61, 62, 63, 64, 65, 66, 67, 68, 69, 70, 71, 72, 73, 74, 75, 76, 77, 78, 79, 80, 81, 82, 83, 84, 85, 86, 87, 88, 89, 90, 91, 92, 93, 94, 95, 96, 97, 98, 99, 100, 101, 102, 103, 104, 105, 106, 107, 108, 109] (by decide +kernel) (by decide +kernel)) (goodIn_sub (fun _ h => List.mem_cons_of_mem _ (List.mem_append_right _ h)) (by decide +kernel))) (goodIn_sub (fun _ h => List.mem_cons_of_mem _ (List.mem_append_left _ (List.mem_append_right _ h))) (by decide +kernel))
set_option maxRecDepth 20000 in
theorem gL_foldRow_X12_foldRow : GoodIn wsL_foldRow (wsV RL 21 RX12 yX12_foldRow wsX12_foldRow) := goodIn_app (goodIn_of _ (by decide +kernel)) ggL_foldRow_X12_foldRow
theorem dL_foldRow_0 : decode cL_foldRow 0 = .ok (.aload_n 2, 1) := by decide +kernel
theorem dL_foldRow_1 : decode cL_foldRow 1 = .ok (.iconst 0, 1) := by decide +kernel
theorem dL_foldRow_2 : decode cL_foldRow 2 = .ok (.aload_n 0, 1) := by decide +kernel
theorem dL_foldRow_3 : decode cL_foldRow 3 = .ok (.iload_n 1, 1) := by decide +kernel
theorem dL_foldRow_4 : decode cL_foldRow 4 = .ok (.invokevirtual 21, 3) := by decide +kernel
theorem dL_foldRow_7 : decode cL_foldRow 7 = .ok (.i2l, 1) := by decide +kernel
theorem dL_foldRow_8 : decode cL_foldRow 8 = .ok (.lastore, 1) := by decide +kernel
theorem dL_foldRow_9 : decode cL_foldRow 9 = .ok (.goto 6, 3) := by decide +kernel
theorem dL_foldRow_12 : decode cL_foldRow 12 = .ok (.astore_n 3, 1) := by decide +kernel
theorem dL_foldRow_13 : decode cL_foldRow 13 = .ok (.iconst 1, 1) := by decide +kernel
theorem dL_foldRow_14 : decode cL_foldRow 14 = .ok (.ireturn, 1) := by decide +kernel
theorem dL_foldRow_15 : decode cL_foldRow 15 = .ok (.iconst 0, 1) := by decide +kernel
theorem dL_foldRow_16 : decode cL_foldRow 16 = .ok (.ireturn, 1) := by decide +kernel
set_option maxRecDepth 20000 in
theorem ggL_foldColumn_X12_foldColumn : GoodIn wsL_foldColumn wsX12_foldColumn := goodIn_ca (goodIn_ca (goodIn_r _ [6, 7, 8, 9, 10, 5, 11, 12, 13, 14, 15, 16, 17, 18, 19, 20, 21, 22, 23, 24, 25, 26, 27, 28, 29, 30, 31, 32, 33, 34, 35, 36, 37, 38, 39, 40, 41, 42, 43, 44, 45, 46, 47, 48, 49, 50, 51, 52, 53, 54, 55, 56, 57, 58, 59, 60, 61, 62, 63, 64, 65, 66, 67, 68, 69, 70, 71, 72, 73, 74, 75, 76, 77, 78, 79, 80, 81, 82, 83, 84, 85, 86, 87, 88, 89, 90, 91, 92, 93, 94, 95, 96, 97, 98, 99, 100, 101, 102, 103, 104, 105, 106, 107, 108, 109] (by decide +kernel) (by decide +kernel)) (goodIn_sub (fun _ h => List.mem_cons_of_mem _ (List.mem_append_right _ h)) (by decide +kernel))) (goodIn_sub (fun _ h => List.mem_cons_of_mem _ (List.mem_append_left _ (List.mem_append_right _ h))) (by decide +kernel))
set_option maxRecDepth 20000 in
theorem gL_foldColumn_X12_foldColumn : GoodIn wsL_foldColumn (wsV RL 25 RX12 yX12_foldColumn wsX12_foldColumn) := goodIn_app (goodIn_of _ (by decide +kernel)) ggL_foldColumn_X12_foldColumn
theorem dL_foldColumn_0 : decode cL_foldColumn 0 = .ok (.aload_n 2, 1) := by decide +kernel
theorem dL_foldColumn_1 : decode cL_foldColumn 1 = .ok (.iconst 0, 1) := by decide +kernel
theorem dL_foldColumn_2 : decode cL_foldColumn 2 = .ok (.aload_n 0, 1) := by decide +kernel
theorem dL_foldColumn_3 : decode cL_foldColumn 3 = .ok (.iload_n 1, 1) := by decide +kernel
theorem dL_foldColumn_4 : decode cL_foldColumn 4 = .ok (.invokevirtual 25, 3) := by decide +kernel
theorem dL_foldColumn_7 : decode cL_foldColumn 7 = .ok (.i2l, 1) := by decide +kernel
theorem dL_foldColumn_8 : decode cL_foldColumn 8 = .ok (.lastore, 1) := by decide +kernel
theorem dL_foldColumn_9 : decode cL_foldColumn 9 = .ok (.goto 6, 3) := by decide +kernel
theorem dL_foldColumn_12 : decode cL_foldColumn 12 = .ok (.astore_n 3, 1) := by decide +kernel
theorem dL_foldColumn_13 : decode cL_foldColumn 13 = .ok (.iconst 1, 1) := by decide +kernel
theorem dL_foldColumn_14 : decode cL_foldColumn 14 = .ok (.ireturn, 1) := by decide +kernel
theorem dL_foldColumn_15 : decode cL_foldColumn 15 = .ok (.iconst 0, 1) := by decide +kernel
theorem dL_foldColumn_16 : decode cL_foldColumn 16 = .ok (.ireturn, 1) := by decide +kernel
set_option maxRecDepth 20000 in
theorem ggL_shift_X12_shift : GoodIn wsL_shift wsX12_shift := goodIn_ca (goodIn_ca (goodIn_r _ [6, 7, 8, 9, 10, 11, 12, 13, 14, 15, 16, 17, 18, 19, 20, 21, 22, 23, 24, 25, 26, 27, 28, 29, 30, 31, 32, 33, 34, 35, 36, 37, 38, 39, 40, 41, 42, 43, 44, 45, 46, 47, 48, 49, 50, 51, 52, 53, 54, 55, 56, 57, 58, 59, 60, 61, 62, 63, 64, 65, 66, 67, 68, 69, 70, 71, 72, 73, 74, 75, 76, 77, 78, 79, 80, 81, 82, 83, 84, 85, 86, 87, 88, 89, 90, 91, 92, 93, 94, 95, 96, 97, 98, 99, 100, 101, 102, 103, 104, 105, 106] (by decide +kernel) (by decide +kernel)) (goodIn_sub (fun _ h => List.mem_cons_of_mem _ (List.mem_append_right _ h)) (by decide +kernel))) (goodIn_sub (fun _ h => List.mem_cons_of_mem _ (List.mem_append_left _ (List.mem_append_right _ h))) (by decide +kernel))
set_option maxRecDepth 20000 in
theorem gL_shift_X12_shift : GoodIn wsL_shift (wsV RL 28 RX12 yX12_shift wsX12_shift) := goodIn_app (goodIn_of _ (by decide +kernel)) ggL_shift_X12_shift
theorem dL_shift_0 : decode cL_shift 0 = .ok (.aload_n 2, 1) := by decide +kernel
theorem dL_shift_1 : decode cL_shift 1 = .ok (.iconst 0, 1) := by decide +kernel
theorem dL_shift_2 : decode cL_shift 2 = .ok (.aload_n 0, 1) := by decide +kernel
theorem dL_shift_3 : decode cL_shift 3 = .ok (.iload_n 1, 1) := by decide +kernel
theorem dL_shift_4 : decode cL_shift 4 = .ok (.invokevirtual 28, 3) := by decide +kernel
theorem dL_shift_7 : decode cL_shift 7 = .ok (.i2l, 1) := by decide +kernel
theorem dL_shift_8 : decode cL_shift 8 = .ok (.lastore, 1) := by decide +kernel
theorem dL_shift_9 : decode cL_shift 9 = .ok (.goto 6, 3) := by decide +kernel
theorem dL_shift_12 : decode cL_shift 12 = .ok (.astore_n 3, 1) := by decide +kernel
theorem dL_shift_13 : decode cL_shift 13 = .ok (.iconst 1, 1) := by decide +kernel
theorem dL_shift_14 : decode cL_shift 14 = .ok (.ireturn, 1) := by decide +kernel
theorem dL_shift_15 : decode cL_shift 15 = .ok (.iconst 0, 1) := by decide +kernel
theorem dL_shift_16 : decode cL_shift 16 = .ok (.ireturn, 1) := by decide +kernel
set_option maxRecDepth 20000 in
theorem ggL_setThreshold_X12_setThreshold : GoodIn wsL_setThreshold wsX12_setThreshold := goodIn_ca (goodIn_ca (goodIn_r _ [6, 7, 8, 9, 10, 11, 12, 13, 14, 15, 16, 17, 18, 19, 20, 21, 22, 23, 24, 25, 26, 27, 28, 29, 30, 31, 32, 33, 34, 35, 36, 37, 38, 39, 40, 41, 42, 43, 44, 45, 46, 47, 48, 49, 50, 51, 52, 53, 54, 55, 56, 57, 58, 59, 60, 61, 62, 63, 64, 65, 66, 67, 68, 69, 70, 71, 72, 73, 74, 75, 76, 77, 78, 79, 80, 81, 82, 83, 84, 85, 86, 87] (by decide +kernel) (by decide +kernel)) (goodIn_sub (fun _ h => List.mem_cons_of_mem _ (List.mem_append_right _ h)) (by decide +kernel))) (goodIn_sub (fun _ h => List.mem_cons_of_mem _ (List.mem_append_left _ (List.mem_append_right _ h))) (by decide +kernel))
set_option maxRecDepth 20000 in
theorem gL_setThreshold_X12_setThreshold : GoodIn wsL_setThreshold (wsV RL 32 RX12 yX12_setThreshold wsX12_setThreshold) := goodIn_app (goodIn_of _ (by decide +kernel)) ggL_setThreshold_X12_setThreshold
theorem dL_setThreshold_0 : decode cL_setThreshold 0 = .ok (.aload_n 2, 1) := by decide +kernel
theorem dL_setThreshold_1 : decode cL_setThreshold 1 = .ok (.iconst 0, 1) := by decide +kernel
theorem dL_setThreshold_2 : decode cL_setThreshold 2 = .ok (.aload_n 0, 1) := by decide +kernel
theorem dL_setThreshold_3 : decode cL_setThreshold 3 = .ok (.iload_n 1, 1) := by decide +kernel
theorem dL_setThreshold_4 : decode cL_setThreshold 4 = .ok (.invokevirtual 32, 3) := by decide +kernel
theorem dL_setThreshold_7 : decode cL_setThreshold 7 = .ok (.i2l, 1) := by decide +kernel
theorem dL_setThreshold_8 : decode cL_setThreshold 8 = .ok (.lastore, 1) := by decide +kernel
theorem dL_setThreshold_9 : decode cL_setThreshold 9 = .ok (.goto 6, 3) := by decide +kernel
theorem dL_setThreshold_12 : decode cL_setThreshold 12 = .ok (.astore_n 3, 1) := by decide +kernel
theorem dL_setThreshold_13 : decode cL_setThreshold 13 = .ok (.iconst 1, 1) := by decide +kernel
theorem dL_setThreshold_14 : decode cL_setThreshold 14 = .ok (.ireturn, 1) := by decide +kernel
theorem dL_setThreshold_15 : decode cL_setThreshold 15 = .ok (.iconst 0, 1) := by decide +kernel
theorem dL_setThreshold_16 : decode cL_setThreshold 16 = .ok (.ireturn, 1) := by decide +kernel
set_option maxRecDepth 20000 in
theorem ggL_isFrontRight_X12_isFrontRight : GoodIn wsL_isFrontRight wsX12_isFrontRight := goodIn_ca (goodIn_ca (goodIn_ca (goodIn_r _ [6, 7, 8, 9, 10, 11, 5, 12, 13, 14, 15, 16, 17, 18, 19, 20, 21, 22, 23, 24, 25, 26, 27, 28, 29, 30, 31, 32, 33, 34, 35, 36, 37, 38, 39, 40, 41, 42, 43, 44, 45, 46, 47, 48] (by decide +kernel) (by decide +kernel)) (goodIn_sub (fun _ h => List.mem_cons_of_mem _ (List.mem_append_left _ (List.mem_append_right _ h))) (by decide +kernel))) (goodIn_sub (fun _ h => List.mem_cons_of_mem _ (List.mem_append_right _ h)) (by decide +kernel))) (goodIn_sub (fun _ h => List.mem_cons_of_mem _ (List.mem_append_left _ (List.mem_append_left _ (List.mem_append_right _ h)))) (by decide +kernel))
set_option maxRecDepth 20000 in
theorem gL_isFrontRight_X12_isFrontRight : GoodIn wsL_isFrontRight (wsV RL 35 RX12 yX12_isFrontRight wsX12_isFrontRight) := goodIn_app (goodIn_of _ (by decide +kernel)) ggL_isFrontRight_X12_isFrontRight
theorem dL_isFrontRight_0 : decode cL_isFrontRight 0 = .ok (.aload_n 3, 1) := by decide +kernel
theorem dL_isFrontRight_1 : decode cL_isFrontRight 1 = .ok (.iconst 0, 1) := by decide +kernel
theorem dL_isFrontRight_2 : decode cL_isFrontRight 2 = .ok (.aload_n 0, 1) := by decide +kernel
theorem dL_isFrontRight_3 : decode cL_isFrontRight 3 = .ok (.iload_n 1, 1) := by decide +kernel
theorem dL_isFrontRight_4 : decode cL_isFrontRight 4 = .ok (.iload_n 2, 1) := by decide +kernel
theorem dL_isFrontRight_5 : decode cL_isFrontRight 5 = .ok (.invokevirtual 35, 3) := by decide +kernel
theorem dL_isFrontRight_8 : decode cL_isFrontRight 8 = .ok (.ifCond .eq 7, 3) := by decide +kernel
theorem dL_isFrontRight_11 : decode cL_isFrontRight 11 = .ok (.lconst 1, 1) := by decide +kernel
theorem dL_isFrontRight_12 : decode cL_isFrontRight 12 = .ok (.goto 4, 3) := by decide +kernel
theorem dL_isFrontRight_15 : decode cL_isFrontRight 15 = .ok (.lconst 0, 1) := by decide +kernel
theorem dL_isFrontRight_16 : decode cL_isFrontRight 16 = .ok (.lastore, 1) := by decide +kernel
theorem dL_isFrontRight_17 : decode cL_isFrontRight 17 = .ok (.goto 11, 3) := by decide +kernel
theorem dL_isFrontRight_20 : decode cL_isFrontRight 20 = .ok (.astore 4, 2) := by decide +kernel
theorem dL_isFrontRight_22 : decode cL_isFrontRight 22 = .ok (.iconst 1, 1) := by decide +kernel
theorem dL_isFrontRight_23 : decode cL_isFrontRight 23 = .ok (.ireturn, 1) := by decide +kernel
theorem dL_isFrontRight_24 : decode cL_isFrontRight 24 = .ok (.astore 4, 2) := by decide +kernel
theorem dL_isFrontRight_26 : decode cL_isFrontRight 26 = .ok (.iconst 2, 1) := by decide +kernel
theorem dL_isFrontRight_27 : decode cL_isFrontRight 27 = .ok (.ireturn, 1) := by decide +kernel
theorem dL_isFrontRight_28 : decode cL_isFrontRight 28 = .ok (.iconst 0, 1) := by decide +kernel
theorem dL_isFrontRight_29 : decode cL_isFrontRight 29 = .ok (.ireturn, 1) := by decide +kernel
set_option maxRecDepth 20000 in
theorem ggL_isFrontBelow_X12_isFrontBelow : GoodIn wsL_isFrontBelow wsX12_isFrontBelow := goodIn_ca (goodIn_ca (goodIn_ca (goodIn_r _ [6, 7, 8, 9, 10, 11, 5, 12, 13, 14, 15, 16, 17, 18, 19, 20, 21, 22, 23, 24, 25, 26, 27, 28, 29, 30, 31, 32, 33, 34, 35, 36, 37, 38, 39, 40, 41, 42, 43, 44, 45, 46, 47, 48] (by decide +kernel) (by decide +kernel)) (goodIn_sub (fun _ h => List.mem_cons_of_mem _ (List.mem_append_left _ (List.mem_append_right _ h))) (by decide +kernel))) (goodIn_sub (fun _ h => List.mem_cons_of_mem _ (List.mem_append_right _ h)) (by decide +kernel))) (goodIn_sub (fun _ h => List.mem_cons_of_mem _ (List.mem_append_left _ (List.mem_append_left _ (List.mem_append_right _ h)))) (by decide +kernel))
set_option maxRecDepth 20000 in
theorem gL_isFrontBelow_X12_isFrontBelow : GoodIn wsL_isFrontBelow (wsV RL 41 RX12 yX12_isFrontBelow wsX12_isFrontBelow) := goodIn_app (goodIn_of _ (by decide +kernel)) ggL_isFrontBelow_X12_isFrontBelow
theorem dL_isFrontBelow_0 : decode cL_isFrontBelow 0 = .ok (.aload_n 3, 1) := by decide +kernel
theorem dL_isFrontBelow_1 : decode cL_isFrontBelow 1 = .ok (.iconst 0, 1) := by decide +kernel
theorem dL_isFrontBelow_2 : decode cL_isFrontBelow 2 = .ok (.aload_n 0, 1) := by decide +kernel
theorem dL_isFrontBelow_3 : decode cL_isFrontBelow 3 = .ok (.iload_n 1, 1) := by decide +kernel
theorem dL_isFrontBelow_4 : decode cL_isFrontBelow 4 = .ok (.iload_n 2, 1) := by decide +kernel
theorem dL_isFrontBelow_5 : decode cL_isFrontBelow 5 = .ok (.invokevirtual 41, 3) := by decide +kernel
theorem dL_isFrontBelow_8 : decode cL_isFrontBelow 8 = .ok (.ifCond .eq 7, 3) := by decide +kernel
theorem dL_isFrontBelow_11 : decode cL_isFrontBelow 11 = .ok (.lconst 1, 1) := by decide +kernel
theorem dL_isFrontBelow_12 : decode cL_isFrontBelow 12 = .ok (.goto 4, 3) := by decide +kernel
theorem dL_isFrontBelow_15 : decode cL_isFrontBelow 15 = .ok (.lconst 0, 1) := by decide +kernel
theorem dL_isFrontBelow_16 : decode cL_isFrontBelow 16 = .ok (.lastore, 1) := by decide +kernel
theorem dL_isFrontBelow_17 : decode cL_isFrontBelow 17 = .ok (.goto 11, 3) := by decide +kernel
theorem dL_isFrontBelow_20 : decode cL_isFrontBelow 20 = .ok (.astore 4, 2) := by decide +kernel
theorem dL_isFrontBelow_22 : decode cL_isFrontBelow 22 = .ok (.iconst 1, 1) := by decide +kernel
theorem dL_isFrontBelow_23 : decode cL_isFrontBelow 23 = .ok (.ireturn, 1) := by decide +kernel
theorem dL_isFrontBelow_24 : decode cL_isFrontBelow 24 = .ok (.astore 4, 2) := by decide +kernel
theorem dL_isFrontBelow_26 : decode cL_isFrontBelow 26 = .ok (.iconst 2, 1) := by decide +kernel
theorem dL_isFrontBelow_27 : decode cL_isFrontBelow 27 = .ok (.ireturn, 1) := by decide +kernel
theorem dL_isFrontBelow_28 : decode cL_isFrontBelow 28 = .ok (.iconst 0, 1) := by decide +kernel
theorem dL_isFrontBelow_29 : decode cL_isFrontBelow 29 = .ok (.ireturn, 1) := by decide +kernel
set_option maxRecDepth 20000 in
theorem ggL_regionSize_X12_regionSize : GoodIn wsL_regionSize wsX12_regionSize := goodIn_ca (goodIn_ca (goodIn_r _ [6, 7, 8, 9, 10, 5, 11, 12, 13, 14, 15, 16, 17, 18, 19, 20, 21, 22, 23, 24, 25, 26, 27, 28, 29, 30, 31, 32, 33, 34, 35, 36, 37, 38, 39, 40, 41, 42, 43, 44, 45, 46, 47, 48, 49, 50, 51, 52, 53, 54, 55, 56, 57, 58, 59, 60, 61, 62, 63, 64, 65, 66, 67, 68, 69, 70, 71, 72, 73, 74, 75, 76, 77, 78, 79, 80, 81] (by decide +kernel) (by decide +kernel)) (goodIn_sub (fun _ h => List.mem_cons_of_mem _ (List.mem_append_right _ h)) (by decide +kernel))) (goodIn_sub (fun _ h => List.mem_cons_of_mem _ (List.mem_append_left _ (List.mem_append_right _ h))) (by decide +kernel))
set_option maxRecDepth 20000 in
theorem gL_regionSize_X12_regionSize : GoodIn wsL_regionSize (wsV RL 44 RX12 yX12_regionSize wsX12_regionSize) := goodIn_app (goodIn_of _ (by decide +kernel)) ggL_regionSize_X12_regionSize
theorem dL_regionSize_0 : decode cL_regionSize 0 = .ok (.aload_n 3, 1) := by decide +kernel
theorem dL_regionSize_1 : decode cL_regionSize 1 = .ok (.iconst 0, 1) := by decide +kernel
theorem dL_regionSize_2 : decode cL_regionSize 2 = .ok (.aload_n 0, 1) := by decide +kernel
theorem dL_regionSize_3 : decode cL_regionSize 3 = .ok (.iload_n 1, 1) := by decide +kernel
theorem dL_regionSize_4 : decode cL_regionSize 4 = .ok (.iload_n 2, 1) := by decide +kernel
theorem dL_regionSize_5 : decode cL_regionSize 5 = .ok (.invokevirtual 44, 3) := by decide +kernel
theorem dL_regionSize_8 : decode cL_regionSize 8 = .ok (.i2l, 1) := by decide +kernel
theorem dL_regionSize_9 : decode cL_regionSize 9 = .ok (.lastore, 1) := by decide +kernel
theorem dL_regionSize_10 : decode cL_regionSize 10 = .ok (.goto 7, 3) := by decide +kernel
theorem dL_regionSize_13 : decode cL_regionSize 13 = .ok (.astore 4, 2) := by decide +kernel
theorem dL_regionSize_15 : decode cL_regionSize 15 = .ok (.iconst 1, 1) := by decide +kernel
theorem dL_regionSize_16 : decode cL_regionSize 16 = .ok (.ireturn, 1) := by decide +kernel
theorem dL_regionSize_17 : decode cL_regionSize 17 = .ok (.iconst 0, 1) := by decide +kernel
theorem dL_regionSize_18 : decode cL_regionSize 18 = .ok (.ireturn, 1) := by decide +kernel
set_option maxRecDepth 20000 in
theorem ggL_isSameRegion_X12_isSameRegion : GoodIn wsL_isSameRegion wsX12_isSameRegion := goodIn_ca (goodIn_ca (goodIn_r _ [6, 7, 8, 9, 10, 5, 11, 12, 13, 14, 15, 16, 17, 18, 19, 20, 21, 22, 23, 24, 25, 26, 27, 28, 29, 30, 31, 32, 33, 34, 35, 36, 37, 38, 39, 40, 41, 42, 43, 44, 45, 46, 47, 48, 49, 50, 51, 52, 53, 54, 55, 56, 57, 58, 59, 60, 61, 62, 63, 64, 65, 66, 67, 68, 69, 70, 71, 72, 73, 74, 75, 76, 77, 78] (by decide +kernel) (by decide +kernel)) (goodIn_sub (fun _ h => List.mem_cons_of_mem _ (List.mem_append_right _ h)) (by decide +kernel))) (goodIn_sub (fun _ h => List.mem_cons_of_mem _ (List.mem_append_left _ (List.mem_append_right _ h))) (by decide +kernel))
set_option maxRecDepth 20000 in
theorem gL_isSameRegion_X12_isSameRegion : GoodIn wsL_isSameRegion (wsV RL 47 RX12 yX12_isSameRegion wsX12_isSameRegion) := goodIn_app (goodIn_of _ (by decide +kernel)) ggL_isSameRegion_X12_isSameRegion
theorem dL_isSameRegion_0 : decode cL_isSameRegion 0 = .ok (.aload 5, 2) := by decide +kernel
theorem dL_isSameRegion_2 : decode cL_isSameRegion 2 = .ok (.iconst 0, 1) := by decide +kernel
theorem dL_isSameRegion_3 : decode cL_isSameRegion 3 = .ok (.aload_n 0, 1) := by decide +kernel
theorem dL_isSameRegion_4 : decode cL_isSameRegion 4 = .ok (.iload_n 1, 1) := by decide +kernel
theorem dL_isSameRegion_5 : decode cL_isSameRegion 5 = .ok (.iload_n 2, 1) := by decide +kernel
theorem dL_isSameRegion_6 : decode cL_isSameRegion 6 = .ok (.iload_n 3, 1) := by decide +kernel
theorem dL_isSameRegion_7 : decode cL_isSameRegion 7 = .ok (.iload 4, 2) := by decide +kernel
theorem dL_isSameRegion_9 : decode cL_isSameRegion 9 = .ok (.invokevirtual 47, 3) := by decide +kernel
theorem dL_isSameRegion_12 : decode cL_isSameRegion 12 = .ok (.ifCond .eq 7, 3) := by decide +kernel
theorem dL_isSameRegion_15 : decode cL_isSameRegion 15 = .ok (.lconst 1, 1) := by decide +kernel
theorem dL_isSameRegion_16 : decode cL_isSameRegion 16 = .ok (.goto 4, 3) := by decide +kernel
theorem dL_isSameRegion_19 : decode cL_isSameRegion 19 = .ok (.lconst 0, 1) := by decide +kernel
theorem dL_isSameRegion_20 : decode cL_isSameRegion 20 = .ok (.lastore, 1) := by decide +kernel
theorem dL_isSameRegion_21 : decode cL_isSameRegion 21 = .ok (.goto 7, 3) := by decide +kernel
theorem dL_isSameRegion_24 : decode cL_isSameRegion 24 = .ok (.astore 6, 2) := by decide +kernel
theorem dL_isSameRegion_26 : decode cL_isSameRegion 26 = .ok (.iconst 1, 1) := by decide +kernel
theorem dL_isSameRegion_27 : decode cL_isSameRegion 27 = .ok (.ireturn, 1) := by decide +kernel
theorem dL_isSameRegion_28 : decode cL_isSameRegion 28 = .ok (.iconst 0, 1) := by decide +kernel
theorem dL_isSameRegion_29 : decode cL_isSameRegion 29 = .ok (.ireturn, 1) := by decide +kernel
set_option maxRecDepth 20000 in
theorem ggL_setWeight_X12_setWeight : GoodIn wsL_setWeight wsX12_setWeight := goodIn_ca (goodIn_ca (goodIn_ca (goodIn_r _ [6, 7, 8, 9, 10, 11, 12, 13, 14, 5, 15, 16, 17, 18, 19, 20, 21, 22, 23, 24, 25, 26, 27, 28, 29, 30, 31, 32, 33, 34, 35, 36, 37, 38, 39, 40, 41, 42, 43, 44, 45, 46, 47, 48, 49, 50, 51, 52, 53, 54, 55, 56, 57, 58, 59, 60, 61, 62, 63, 64, 65, 66, 67, 68, 69, 70, 71, 72, 73, 74, 75, 76, 77, 78, 79, 80, 81, 82, 83, 84, 85, 86, 87, 88, 89, 90, 91, 92, 93, 94, 95, 96, 97, 98, 99, 100, 101, 102, 103, 104, 105, 106, 107, 108, 109, 110, 111, 112, 113] (by decide +kernel) (by decide +kernel)) (goodIn_sub (fun _ h => List.mem_cons_of_mem _ (List.mem_append_left _ (List.mem_append_right _ h))) (by decide +kernel))) (goodIn_sub (fun _ h => List.mem_cons_of_mem _ (List.mem_append_right _ h)) (by decide +kernel))) (goodIn_sub (fun _ h => List.mem_cons_of_mem _ (List.mem_append_left _ (List.mem_append_left _ (List.mem_append_right _ h)))) (by decide +kernel))
