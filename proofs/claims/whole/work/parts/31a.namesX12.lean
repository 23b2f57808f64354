set_option maxRecDepth 20000 in
theorem ggX12_init_X11_init : GoodIn wsX12_init wsX11_init := goodIn_ca (goodIn_r _ [34, 35, 2, 3, 36, 37, 38, 39, 40, 41, 42, 43, 44, 45, 46, 47, 48, 49, 50, 51, 52, 53, 54, 55, 56, 57, 58, 59, 60, 61, 62, 63, 64, 65, 66, 67, 68, 69, 70, 155, 156, 121, 122, 123, 124, 157, 158, 159, 160, 161, 162, 163, 164] (by decide +kernel) (by decide +kernel)) (goodIn_sub (fun _ h => List.mem_cons_of_mem _ (List.mem_append_right _ h)) (by decide +kernel))
set_option maxRecDepth 20000 in
theorem gX12_init_X11_init_n11 : GoodIn wsX12_init (wsX11_init) := ggX12_init_X11_init
set_option maxRecDepth 20000 in
theorem ggX12_init_X6_init : GoodIn wsX12_init wsX6_init := goodIn_ca (goodIn_r _ [73, 74, 2, 3, 75, 76, 77, 78, 5, 6, 33, 34, 35, 36, 37, 38, 39, 40, 41, 42, 43, 44, 45, 46, 47, 48, 49, 50, 51, 52, 53, 54, 55, 56, 57, 58, 59, 60, 61, 62, 63, 64, 65, 66, 67, 68, 69, 70, 136, 137, 138, 121, 122, 123, 124, 155, 156, 157, 158, 159, 160, 161, 162, 163, 164] (by decide +kernel) (by decide +kernel)) (goodIn_sub (fun _ h => List.mem_cons_of_mem _ (List.mem_append_right _ h)) (by decide +kernel))
set_option maxRecDepth 20000 in
theorem gX12_init_X6_init : GoodIn wsX12_init (wsX6_init) := ggX12_init_X6_init
set_option maxRecDepth 20000 in
theorem ggX12_init_X9_init : GoodIn wsX12_init wsX9_init := goodIn_r _ [80, 81, 2, 3, 53, 82, 83, 84, 85, 139, 140, 141, 142] (by decide +kernel) (by decide +kernel)
set_option maxRecDepth 20000 in
theorem gX12_init_X9_init_n35 : GoodIn wsX12_init (wsX9_init) := ggX12_init_X9_init
set_option maxRecDepth 20000 in
theorem ggX12_init_X1_init : GoodIn wsX12_init wsX1_init := goodIn_r _ [87, 88, 2, 3, 89, 90, 91, 92, 93, 94, 53, 95, 96, 97, 98, 99, 100, 101, 165, 166, 143, 144, 145, 146] (by decide +kernel) (by decide +kernel)
set_option maxRecDepth 20000 in
theorem gX12_init_X1_init_n42 : GoodIn wsX12_init (wsX1_init) := ggX12_init_X1_init
set_option maxRecDepth 20000 in
theorem ggX12_init_X3_init : GoodIn wsX12_init wsX3_init := goodIn_r _ [104, 105, 2, 3, 106, 107, 108, 109, 110, 111, 112, 53, 113, 114, 115, 147, 148, 149, 150, 151, 152] (by decide +kernel) (by decide +kernel)
set_option maxRecDepth 20000 in
theorem gX12_init_X3_init : GoodIn wsX12_init (wsX3_init) := ggX12_init_X3_init
set_option maxRecDepth 20000 in
theorem ggX12_init_X8_init : GoodIn wsX12_init wsX8_init := goodIn_r _ [117, 118, 2, 3, 106, 119, 120, 153, 154] (by decide +kernel) (by decide +kernel)
set_option maxRecDepth 20000 in
theorem gX12_init_X8_init_n56 : GoodIn wsX12_init (wsX8_init) := ggX12_init_X8_init
theorem dX12_init_0 : decode cX12_init 0 = .ok (.aload_n 0, 1) := by decide +kernel
theorem dX12_init_1 : decode cX12_init 1 = .ok (.invokespecial 3, 3) := by decide +kernel
theorem dX12_init_4 : decode cX12_init 4 = .ok (.aload_n 0, 1) := by decide +kernel
theorem dX12_init_5 : decode cX12_init 5 = .ok (.new 9, 3) := by decide +kernel
theorem dX12_init_8 : decode cX12_init 8 = .ok (.dup, 1) := by decide +kernel
theorem dX12_init_9 : decode cX12_init 9 = .ok (.invokespecial 11, 3) := by decide +kernel
theorem dX12_init_12 : decode cX12_init 12 = .ok (.putfield 12, 3) := by decide +kernel
theorem dX12_init_15 : decode cX12_init 15 = .ok (.aload_n 0, 1) := by decide +kernel
theorem dX12_init_16 : decode cX12_init 16 = .ok (.new 9, 3) := by decide +kernel
theorem dX12_init_19 : decode cX12_init 19 = .ok (.dup, 1) := by decide +kernel
theorem dX12_init_20 : decode cX12_init 20 = .ok (.invokespecial 11, 3) := by decide +kernel
theorem dX12_init_23 : decode cX12_init 23 = .ok (.putfield 16, 3) := by decide +kernel
theorem dX12_init_26 : decode cX12_init 26 = .ok (.aload_n 0, 1) := by decide +kernel
theorem dX12_init_27 : decode cX12_init 27 = .ok (.new 9, 3) := by decide +kernel
theorem dX12_init_30 : decode cX12_init 30 = .ok (.dup, 1) := by decide +kernel
theorem dX12_init_31 : decode cX12_init 31 = .ok (.invokespecial 11, 3) := by decide +kernel
theorem dX12_init_34 : decode cX12_init 34 = .ok (.putfield 19, 3) := by decide +kernel
theorem dX12_init_37 : decode cX12_init 37 = .ok (.aload_n 0, 1) := by decide +kernel
theorem dX12_init_38 : decode cX12_init 38 = .ok (.iconst 0, 1) := by decide +kernel
theorem dX12_init_39 : decode cX12_init 39 = .ok (.putfield 22, 3) := by decide +kernel
theorem dX12_init_42 : decode cX12_init 42 = .ok (.aload_n 0, 1) := by decide +kernel
theorem dX12_init_43 : decode cX12_init 43 = .ok (.new 26, 3) := by decide +kernel
theorem dX12_init_46 : decode cX12_init 46 = .ok (.dup, 1) := by decide +kernel
theorem dX12_init_47 : decode cX12_init 47 = .ok (.invokespecial 28, 3) := by decide +kernel
theorem dX12_init_50 : decode cX12_init 50 = .ok (.putfield 29, 3) := by decide +kernel
theorem dX12_init_53 : decode cX12_init 53 = .ok (.aload_n 0, 1) := by decide +kernel
theorem dX12_init_54 : decode cX12_init 54 = .ok (.new 33, 3) := by decide +kernel
theorem dX12_init_57 : decode cX12_init 57 = .ok (.dup, 1) := by decide +kernel
theorem dX12_init_58 : decode cX12_init 58 = .ok (.invokespecial 35, 3) := by decide +kernel
theorem dX12_init_61 : decode cX12_init 61 = .ok (.putfield 36, 3) := by decide +kernel
theorem dX12_init_64 : decode cX12_init 64 = .ok (.aload_n 0, 1) := by decide +kernel
theorem dX12_init_65 : decode cX12_init 65 = .ok (.new 40, 3) := by decide +kernel
theorem dX12_init_68 : decode cX12_init 68 = .ok (.dup, 1) := by decide +kernel
theorem dX12_init_69 : decode cX12_init 69 = .ok (.invokespecial 42, 3) := by decide +kernel
theorem dX12_init_72 : decode cX12_init 72 = .ok (.putfield 43, 3) := by decide +kernel
theorem dX12_init_75 : decode cX12_init 75 = .ok (.aload_n 0, 1) := by decide +kernel
theorem dX12_init_76 : decode cX12_init 76 = .ok (.new 47, 3) := by decide +kernel
theorem dX12_init_79 : decode cX12_init 79 = .ok (.dup, 1) := by decide +kernel
theorem dX12_init_80 : decode cX12_init 80 = .ok (.invokespecial 49, 3) := by decide +kernel
theorem dX12_init_83 : decode cX12_init 83 = .ok (.putfield 50, 3) := by decide +kernel
theorem dX12_init_86 : decode cX12_init 86 = .ok (.aload_n 0, 1) := by decide +kernel
theorem dX12_init_87 : decode cX12_init 87 = .ok (.new 54, 3) := by decide +kernel
theorem dX12_init_90 : decode cX12_init 90 = .ok (.dup, 1) := by decide +kernel
theorem dX12_init_91 : decode cX12_init 91 = .ok (.invokespecial 56, 3) := by decide +kernel
theorem dX12_init_94 : decode cX12_init 94 = .ok (.putfield 57, 3) := by decide +kernel
theorem dX12_init_97 : decode cX12_init 97 = .ok (.aload_n 0, 1) := by decide +kernel
theorem dX12_init_98 : decode cX12_init 98 = .ok (.iconst (-1), 1) := by decide +kernel
theorem dX12_init_99 : decode cX12_init 99 = .ok (.putfield 61, 3) := by decide +kernel
theorem dX12_init_102 : decode cX12_init 102 = .ok (.aload_n 0, 1) := by decide +kernel
theorem dX12_init_103 : decode cX12_init 103 = .ok (.iconst (-1), 1) := by decide +kernel
theorem dX12_init_104 : decode cX12_init 104 = .ok (.putfield 65, 3) := by decide +kernel
theorem dX12_init_107 : decode cX12_init 107 = .ok (.return_, 1) := by decide +kernel
set_option maxRecDepth 20000 in
theorem ggX12_setPressure_X12_requireCell : GoodIn wsX12_setPressure wsX12_requireCell := goodIn_ca (goodIn_r _ [8, 9, 10, 11, 12, 13, 14] (by decide +kernel) (by decide +kernel)) (goodIn_sub (fun _ h => List.mem_cons_of_mem _ (List.mem_append_left _ (List.mem_append_right _ h))) (by decide +kernel))
set_option maxRecDepth 20000 in
theorem gX12_setPressure_X12_requireCell : GoodIn wsX12_setPressure (va_wsS RX12 68 yX12_requireCell wsX12_requireCell) := goodIn_app (goodIn_of _ (by decide +kernel)) ggX12_setPressure_X12_requireCell
set_option maxRecDepth 20000 in
theorem ggX12_setPressure_X10_isPressure : GoodIn wsX12_setPressure wsX10_isPressure := goodIn_r _ [17] (by decide +kernel) (by decide +kernel)
set_option maxRecDepth 20000 in
theorem gX12_setPressure_X10_isPressure : GoodIn wsX12_setPressure (va_wsS RX12 72 yX10_isPressure wsX10_isPressure) := goodIn_app (goodIn_of _ (by decide +kernel)) ggX12_setPressure_X10_isPressure
set_option maxRecDepth 20000 in
theorem ggX12_setPressure_X6_remember : GoodIn wsX12_setPressure wsX6_remember := goodIn_ca (goodIn_r _ [22, 23, 24, 25, 26, 27, 28, 29, 30, 31, 32, 33, 34, 35, 36, 37, 38, 39, 40, 41, 13, 42, 43, 44, 45, 46, 47, 48, 49, 50, 51, 52, 53, 54, 55, 56, 57, 58, 59, 60, 61, 62, 89, 90, 91, 85, 86, 87, 88, 92, 93, 94, 95, 96, 97, 98, 99, 100, 101] (by decide +kernel) (by decide +kernel)) (goodIn_sub (fun _ h => List.mem_cons_of_mem _ (List.mem_append_right _ h)) (by decide +kernel))
set_option maxRecDepth 20000 in
theorem gX12_setPressure_X6_remember : GoodIn wsX12_setPressure (wsV RX12 85 RX6 yX6_remember wsX6_remember) := goodIn_app (goodIn_of _ (by decide +kernel)) ggX12_setPressure_X6_remember
set_option maxRecDepth 20000 in
theorem ggX12_setPressure_X10_cellOf : GoodIn wsX12_setPressure wsX10_cellOf := goodIn_r _ [65] (by decide +kernel) (by decide +kernel)
set_option maxRecDepth 20000 in
theorem gX12_setPressure_X10_cellOf : GoodIn wsX12_setPressure (va_wsS RX12 93 yX10_cellOf wsX10_cellOf) := goodIn_app (goodIn_of _ (by decide +kernel)) ggX12_setPressure_X10_cellOf
set_option maxRecDepth 20000 in
theorem ggX12_setPressure_X10_at : GoodIn wsX12_setPressure wsX10_at := goodIn_ca (goodIn_r _ [69, 43, 92, 93] (by decide +kernel) (by decide +kernel)) (goodIn_sub (fun _ h => List.mem_cons_of_mem _ (List.mem_append_right _ h)) (by decide +kernel))
set_option maxRecDepth 20000 in
theorem gX12_setPressure_X10_at : GoodIn wsX12_setPressure (wsV RX12 97 RX10 yX10_at wsX10_at) := goodIn_app (goodIn_of _ (by decide +kernel)) ggX12_setPressure_X10_at
set_option maxRecDepth 20000 in
theorem ggX12_setPressure_X10_put : GoodIn wsX12_setPressure wsX10_put := goodIn_ca (goodIn_r _ [73, 43, 92, 93] (by decide +kernel) (by decide +kernel)) (goodIn_sub (fun _ h => List.mem_cons_of_mem _ (List.mem_append_right _ h)) (by decide +kernel))
set_option maxRecDepth 20000 in
theorem gX12_setPressure_X10_put : GoodIn wsX12_setPressure (wsV RX12 101 RX10 yX10_put wsX10_put) := goodIn_app (goodIn_of _ (by decide +kernel)) ggX12_setPressure_X10_put
theorem dX12_setPressure_0 : decode cX12_setPressure 0 = .ok (.iload_n 1, 1) := by decide +kernel
theorem dX12_setPressure_1 : decode cX12_setPressure 1 = .ok (.iload_n 2, 1) := by decide +kernel
theorem dX12_setPressure_2 : decode cX12_setPressure 2 = .ok (.invokestatic 68, 3) := by decide +kernel
theorem dX12_setPressure_5 : decode cX12_setPressure 5 = .ok (.iload_n 3, 1) := by decide +kernel
theorem dX12_setPressure_6 : decode cX12_setPressure 6 = .ok (.invokestatic 72, 3) := by decide +kernel
theorem dX12_setPressure_9 : decode cX12_setPressure 9 = .ok (.ifCond .ne 13, 3) := by decide +kernel
theorem dX12_setPressure_12 : decode cX12_setPressure 12 = .ok (.new 78, 3) := by decide +kernel
theorem dX12_setPressure_15 : decode cX12_setPressure 15 = .ok (.dup, 1) := by decide +kernel
theorem dX12_setPressure_16 : decode cX12_setPressure 16 = .ok (.ldc 80, 2) := by decide +kernel
theorem dX12_setPressure_18 : decode cX12_setPressure 18 = .ok (.invokespecial 82, 3) := by decide +kernel
theorem dX12_setPressure_21 : decode cX12_setPressure 21 = .ok (.athrow, 1) := by decide +kernel
theorem dX12_setPressure_22 : decode cX12_setPressure 22 = .ok (.aload_n 0, 1) := by decide +kernel
theorem dX12_setPressure_23 : decode cX12_setPressure 23 = .ok (.getfield 29, 3) := by decide +kernel
theorem dX12_setPressure_26 : decode cX12_setPressure 26 = .ok (.aload_n 0, 1) := by decide +kernel
theorem dX12_setPressure_27 : decode cX12_setPressure 27 = .ok (.getfield 12, 3) := by decide +kernel
theorem dX12_setPressure_30 : decode cX12_setPressure 30 = .ok (.invokevirtual 85, 3) := by decide +kernel
theorem dX12_setPressure_33 : decode cX12_setPressure 33 = .ok (.aload_n 0, 1) := by decide +kernel
theorem dX12_setPressure_34 : decode cX12_setPressure 34 = .ok (.getfield 12, 3) := by decide +kernel
theorem dX12_setPressure_37 : decode cX12_setPressure 37 = .ok (.getfield 89, 3) := by decide +kernel
theorem dX12_setPressure_40 : decode cX12_setPressure 40 = .ok (.iload_n 1, 1) := by decide +kernel
theorem dX12_setPressure_41 : decode cX12_setPressure 41 = .ok (.iload_n 2, 1) := by decide +kernel
theorem dX12_setPressure_42 : decode cX12_setPressure 42 = .ok (.invokestatic 93, 3) := by decide +kernel
theorem dX12_setPressure_45 : decode cX12_setPressure 45 = .ok (.invokevirtual 97, 3) := by decide +kernel
theorem dX12_setPressure_48 : decode cX12_setPressure 48 = .ok (.istore 4, 2) := by decide +kernel
theorem dX12_setPressure_50 : decode cX12_setPressure 50 = .ok (.aload_n 0, 1) := by decide +kernel
theorem dX12_setPressure_51 : decode cX12_setPressure 51 = .ok (.getfield 12, 3) := by decide +kernel
theorem dX12_setPressure_54 : decode cX12_setPressure 54 = .ok (.getfield 89, 3) := by decide +kernel
theorem dX12_setPressure_57 : decode cX12_setPressure 57 = .ok (.iload_n 1, 1) := by decide +kernel
theorem dX12_setPressure_58 : decode cX12_setPressure 58 = .ok (.iload_n 2, 1) := by decide +kernel
theorem dX12_setPressure_59 : decode cX12_setPressure 59 = .ok (.invokestatic 93, 3) := by decide +kernel
theorem dX12_setPressure_62 : decode cX12_setPressure 62 = .ok (.iload_n 3, 1) := by decide +kernel
theorem dX12_setPressure_63 : decode cX12_setPressure 63 = .ok (.invokevirtual 101, 3) := by decide +kernel
theorem dX12_setPressure_66 : decode cX12_setPressure 66 = .ok (.pop, 1) := by decide +kernel
theorem dX12_setPressure_67 : decode cX12_setPressure 67 = .ok (.iload 4, 2) := by decide +kernel
theorem dX12_setPressure_69 : decode cX12_setPressure 69 = .ok (.ireturn, 1) := by decide +kernel
set_option maxRecDepth 20000 in
theorem ggX12_pressureAt_X12_requireCell : GoodIn wsX12_pressureAt wsX12_requireCell := goodIn_ca (goodIn_r _ [5, 6, 7, 8, 9, 10, 11] (by decide +kernel) (by decide +kernel)) (goodIn_sub (fun _ h => List.mem_cons_of_mem _ (List.mem_append_left _ (List.mem_append_right _ h))) (by decide +kernel))
set_option maxRecDepth 20000 in
theorem gX12_pressureAt_X12_requireCell : GoodIn wsX12_pressureAt (va_wsS RX12 68 yX12_requireCell wsX12_requireCell) := goodIn_app (goodIn_of _ (by decide +kernel)) ggX12_pressureAt_X12_requireCell
set_option maxRecDepth 20000 in
theorem ggX12_pressureAt_X10_cellOf : GoodIn wsX12_pressureAt wsX10_cellOf := goodIn_r _ [14] (by decide +kernel) (by decide +kernel)
set_option maxRecDepth 20000 in
theorem gX12_pressureAt_X10_cellOf : GoodIn wsX12_pressureAt (va_wsS RX12 93 yX10_cellOf wsX10_cellOf) := goodIn_app (goodIn_of _ (by decide +kernel)) ggX12_pressureAt_X10_cellOf
set_option maxRecDepth 20000 in
theorem ggX12_pressureAt_X10_at : GoodIn wsX12_pressureAt wsX10_at := goodIn_ca (goodIn_r _ [18, 19, 35, 36] (by decide +kernel) (by decide +kernel)) (goodIn_sub (fun _ h => List.mem_cons_of_mem _ (List.mem_append_right _ h)) (by decide +kernel))
set_option maxRecDepth 20000 in
theorem gX12_pressureAt_X10_at : GoodIn wsX12_pressureAt (wsV RX12 97 RX10 yX10_at wsX10_at) := goodIn_app (goodIn_of _ (by decide +kernel)) ggX12_pressureAt_X10_at
theorem dX12_pressureAt_0 : decode cX12_pressureAt 0 = .ok (.iload_n 1, 1) := by decide +kernel
theorem dX12_pressureAt_1 : decode cX12_pressureAt 1 = .ok (.iload_n 2, 1) := by decide +kernel
theorem dX12_pressureAt_2 : decode cX12_pressureAt 2 = .ok (.invokestatic 68, 3) := by decide +kernel
theorem dX12_pressureAt_5 : decode cX12_pressureAt 5 = .ok (.aload_n 0, 1) := by decide +kernel
theorem dX12_pressureAt_6 : decode cX12_pressureAt 6 = .ok (.getfield 12, 3) := by decide +kernel
theorem dX12_pressureAt_9 : decode cX12_pressureAt 9 = .ok (.getfield 89, 3) := by decide +kernel
theorem dX12_pressureAt_12 : decode cX12_pressureAt 12 = .ok (.iload_n 1, 1) := by decide +kernel
theorem dX12_pressureAt_13 : decode cX12_pressureAt 13 = .ok (.iload_n 2, 1) := by decide +kernel
theorem dX12_pressureAt_14 : decode cX12_pressureAt 14 = .ok (.invokestatic 93, 3) := by decide +kernel
theorem dX12_pressureAt_17 : decode cX12_pressureAt 17 = .ok (.invokevirtual 97, 3) := by decide +kernel
theorem dX12_pressureAt_20 : decode cX12_pressureAt 20 = .ok (.ireturn, 1) := by decide +kernel
set_option maxRecDepth 20000 in
theorem ggX12_totalPressure_X10_sum : GoodIn wsX12_totalPressure wsX10_sum := goodIn_ca (goodIn_r _ [6, 7, 23, 24] (by decide +kernel) (by decide +kernel)) (goodIn_sub (fun _ h => List.mem_cons_of_mem _ (List.mem_append_right _ h)) (by decide +kernel))
set_option maxRecDepth 20000 in
theorem gX12_totalPressure_X10_sum : GoodIn wsX12_totalPressure (wsV RX12 104 RX10 yX10_sum wsX10_sum) := goodIn_app (goodIn_of _ (by decide +kernel)) ggX12_totalPressure_X10_sum
theorem dX12_totalPressure_0 : decode cX12_totalPressure 0 = .ok (.aload_n 0, 1) := by decide +kernel
theorem dX12_totalPressure_1 : decode cX12_totalPressure 1 = .ok (.getfield 12, 3) := by decide +kernel
theorem dX12_totalPressure_4 : decode cX12_totalPressure 4 = .ok (.getfield 89, 3) := by decide +kernel
theorem dX12_totalPressure_7 : decode cX12_totalPressure 7 = .ok (.invokevirtual 104, 3) := by decide +kernel
theorem dX12_totalPressure_10 : decode cX12_totalPressure 10 = .ok (.ireturn, 1) := by decide +kernel
set_option maxRecDepth 20000 in
theorem ggX12_foldRow_X12_requireFold : GoodIn wsX12_foldRow wsX12_requireFold := goodIn_ca (goodIn_r _ [6, 7, 8, 9, 10, 11, 12] (by decide +kernel) (by decide +kernel)) (goodIn_sub (fun _ h => List.mem_cons_of_mem _ (List.mem_append_left _ (List.mem_append_right _ h))) (by decide +kernel))
set_option maxRecDepth 20000 in
theorem gX12_foldRow_X12_requireFold : GoodIn wsX12_foldRow (va_wsS RX12 108 yX12_requireFold wsX12_requireFold) := goodIn_app (goodIn_of _ (by decide +kernel)) ggX12_foldRow_X12_requireFold
set_option maxRecDepth 20000 in
theorem ggX12_foldRow_X6_remember : GoodIn wsX12_foldRow wsX6_remember := goodIn_ca (goodIn_r _ [17, 18, 19, 20, 21, 22, 23, 24, 25, 26, 27, 28, 29, 30, 31, 32, 33, 34, 35, 36, 11, 37, 38, 39, 40, 41, 42, 43, 44, 45, 46, 47, 48, 49, 50, 51, 52, 53, 54, 55, 56, 57, 92, 93, 94, 88, 89, 90, 91, 95, 96, 97, 98, 99, 100, 101, 102, 103, 104] (by decide +kernel) (by decide +kernel)) (goodIn_sub (fun _ h => List.mem_cons_of_mem _ (List.mem_append_right _ h)) (by decide +kernel))
set_option maxRecDepth 20000 in
theorem gX12_foldRow_X6_remember : GoodIn wsX12_foldRow (wsV RX12 85 RX6 yX6_remember wsX6_remember) := goodIn_app (goodIn_of _ (by decide +kernel)) ggX12_foldRow_X6_remember
set_option maxRecDepth 20000 in
theorem ggX12_foldRow_X10_foldAlongRow : GoodIn wsX12_foldRow wsX10_foldAlongRow := goodIn_ca (goodIn_r _ [61, 62, 63, 11, 64, 65, 66, 67, 68, 69, 70, 71, 72, 38, 73, 74, 75, 76, 95, 96] (by decide +kernel) (by decide +kernel)) (goodIn_sub (fun _ h => List.mem_cons_of_mem _ (List.mem_append_right _ h)) (by decide +kernel))
set_option maxRecDepth 20000 in
theorem gX12_foldRow_X10_foldAlongRow : GoodIn wsX12_foldRow (wsV RX12 112 RX10 yX10_foldAlongRow wsX10_foldAlongRow) := goodIn_app (goodIn_of _ (by decide +kernel)) ggX12_foldRow_X10_foldAlongRow
theorem dX12_foldRow_0 : decode cX12_foldRow 0 = .ok (.iload_n 1, 1) := by decide +kernel
theorem dX12_foldRow_1 : decode cX12_foldRow 1 = .ok (.invokestatic 108, 3) := by decide +kernel
theorem dX12_foldRow_4 : decode cX12_foldRow 4 = .ok (.aload_n 0, 1) := by decide +kernel
theorem dX12_foldRow_5 : decode cX12_foldRow 5 = .ok (.getfield 29, 3) := by decide +kernel
theorem dX12_foldRow_8 : decode cX12_foldRow 8 = .ok (.aload_n 0, 1) := by decide +kernel
theorem dX12_foldRow_9 : decode cX12_foldRow 9 = .ok (.getfield 12, 3) := by decide +kernel
theorem dX12_foldRow_12 : decode cX12_foldRow 12 = .ok (.invokevirtual 85, 3) := by decide +kernel
theorem dX12_foldRow_15 : decode cX12_foldRow 15 = .ok (.aload_n 0, 1) := by decide +kernel
theorem dX12_foldRow_16 : decode cX12_foldRow 16 = .ok (.getfield 12, 3) := by decide +kernel
theorem dX12_foldRow_19 : decode cX12_foldRow 19 = .ok (.getfield 89, 3) := by decide +kernel
theorem dX12_foldRow_22 : decode cX12_foldRow 22 = .ok (.iload_n 1, 1) := by decide +kernel
theorem dX12_foldRow_23 : decode cX12_foldRow 23 = .ok (.invokevirtual 112, 3) := by decide +kernel
theorem dX12_foldRow_26 : decode cX12_foldRow 26 = .ok (.ireturn, 1) := by decide +kernel
set_option maxRecDepth 20000 in
theorem ggX12_foldColumn_X12_requireFold : GoodIn wsX12_foldColumn wsX12_requireFold := goodIn_ca (goodIn_r _ [6, 7, 8, 9, 10, 11, 12] (by decide +kernel) (by decide +kernel)) (goodIn_sub (fun _ h => List.mem_cons_of_mem _ (List.mem_append_left _ (List.mem_append_right _ h))) (by decide +kernel))
set_option maxRecDepth 20000 in
theorem gX12_foldColumn_X12_requireFold : GoodIn wsX12_foldColumn (va_wsS RX12 108 yX12_requireFold wsX12_requireFold) := goodIn_app (goodIn_of _ (by decide +kernel)) ggX12_foldColumn_X12_requireFold
set_option maxRecDepth 20000 in
theorem ggX12_foldColumn_X6_remember : GoodIn wsX12_foldColumn wsX6_remember := goodIn_ca (goodIn_r _ [17, 18, 19, 20, 21, 22, 23, 24, 25, 26, 27, 28, 29, 30, 31, 32, 33, 34, 35, 36, 11, 37, 38, 39, 40, 41, 42, 43, 44, 45, 46, 47, 48, 49, 50, 51, 52, 53, 54, 55, 56, 57, 92, 93, 94, 88, 89, 90, 91, 95, 96, 97, 98, 99, 100, 101, 102, 103, 104] (by decide +kernel) (by decide +kernel)) (goodIn_sub (fun _ h => List.mem_cons_of_mem _ (List.mem_append_right _ h)) (by decide +kernel))
set_option maxRecDepth 20000 in
theorem gX12_foldColumn_X6_remember : GoodIn wsX12_foldColumn (wsV RX12 85 RX6 yX6_remember wsX6_remember) := goodIn_app (goodIn_of _ (by decide +kernel)) ggX12_foldColumn_X6_remember
set_option maxRecDepth 20000 in
theorem ggX12_foldColumn_X10_foldAlongColumn : GoodIn wsX12_foldColumn wsX10_foldAlongColumn := goodIn_ca (goodIn_r _ [61, 62, 63, 11, 64, 65, 66, 67, 68, 69, 70, 71, 72, 38, 73, 74, 75, 76, 95, 96] (by decide +kernel) (by decide +kernel)) (goodIn_sub (fun _ h => List.mem_cons_of_mem _ (List.mem_append_right _ h)) (by decide +kernel))
set_option maxRecDepth 20000 in
theorem gX12_foldColumn_X10_foldAlongColumn : GoodIn wsX12_foldColumn (wsV RX12 115 RX10 yX10_foldAlongColumn wsX10_foldAlongColumn) := goodIn_app (goodIn_of _ (by decide +kernel)) ggX12_foldColumn_X10_foldAlongColumn
theorem dX12_foldColumn_0 : decode cX12_foldColumn 0 = .ok (.iload_n 1, 1) := by decide +kernel
theorem dX12_foldColumn_1 : decode cX12_foldColumn 1 = .ok (.invokestatic 108, 3) := by decide +kernel
theorem dX12_foldColumn_4 : decode cX12_foldColumn 4 = .ok (.aload_n 0, 1) := by decide +kernel
theorem dX12_foldColumn_5 : decode cX12_foldColumn 5 = .ok (.getfield 29, 3) := by decide +kernel
theorem dX12_foldColumn_8 : decode cX12_foldColumn 8 = .ok (.aload_n 0, 1) := by decide +kernel
theorem dX12_foldColumn_9 : decode cX12_foldColumn 9 = .ok (.getfield 12, 3) := by decide +kernel
theorem dX12_foldColumn_12 : decode cX12_foldColumn 12 = .ok (.invokevirtual 85, 3) := by decide +kernel
theorem dX12_foldColumn_15 : decode cX12_foldColumn 15 = .ok (.aload_n 0, 1) := by decide +kernel
theorem dX12_foldColumn_16 : decode cX12_foldColumn 16 = .ok (.getfield 12, 3) := by decide +kernel
theorem dX12_foldColumn_19 : decode cX12_foldColumn 19 = .ok (.getfield 89, 3) := by decide +kernel
theorem dX12_foldColumn_22 : decode cX12_foldColumn 22 = .ok (.iload_n 1, 1) := by decide +kernel
theorem dX12_foldColumn_23 : decode cX12_foldColumn 23 = .ok (.invokevirtual 115, 3) := by decide +kernel
theorem dX12_foldColumn_26 : decode cX12_foldColumn 26 = .ok (.ireturn, 1) := by decide +kernel
set_option maxRecDepth 20000 in
theorem ggX12_shift_X10_isDirection : GoodIn wsX12_shift wsX10_isDirection := goodIn_r _ [8] (by decide +kernel) (by decide +kernel)
set_option maxRecDepth 20000 in
theorem gX12_shift_X10_isDirection : GoodIn wsX12_shift (va_wsS RX12 118 yX10_isDirection wsX10_isDirection) := goodIn_app (goodIn_of _ (by decide +kernel)) ggX12_shift_X10_isDirection
set_option maxRecDepth 20000 in
theorem ggX12_shift_X6_remember : GoodIn wsX12_shift wsX6_remember := goodIn_ca (goodIn_r _ [13, 14, 15, 16, 17, 18, 19, 20, 21, 22, 23, 24, 25, 26, 27, 28, 29, 30, 31, 32, 7, 33, 34, 35, 36, 37, 38, 39, 40, 41, 42, 43, 44, 45, 46, 47, 48, 49, 50, 51, 52, 53, 88, 89, 90, 84, 85, 86, 87, 91, 92, 93, 94, 95, 96, 97, 98, 99, 100] (by decide +kernel) (by decide +kernel)) (goodIn_sub (fun _ h => List.mem_cons_of_mem _ (List.mem_append_right _ h)) (by decide +kernel))
set_option maxRecDepth 20000 in
theorem gX12_shift_X6_remember : GoodIn wsX12_shift (wsV RX12 85 RX6 yX6_remember wsX6_remember) := goodIn_app (goodIn_of _ (by decide +kernel)) ggX12_shift_X6_remember
set_option maxRecDepth 20000 in
theorem ggX12_shift_X10_slide : GoodIn wsX12_shift wsX10_slide := goodIn_ca (goodIn_r _ [57, 58, 59, 7, 60, 61, 62, 63, 64, 65, 66, 67, 68, 34, 69, 70, 71, 72, 91, 92] (by decide +kernel) (by decide +kernel)) (goodIn_sub (fun _ h => List.mem_cons_of_mem _ (List.mem_append_right _ h)) (by decide +kernel))
set_option maxRecDepth 20000 in
theorem gX12_shift_X10_slide : GoodIn wsX12_shift (wsV RX12 124 RX10 yX10_slide wsX10_slide) := goodIn_app (goodIn_of _ (by decide +kernel)) ggX12_shift_X10_slide
theorem dX12_shift_0 : decode cX12_shift 0 = .ok (.iload_n 1, 1) := by decide +kernel
theorem dX12_shift_1 : decode cX12_shift 1 = .ok (.invokestatic 118, 3) := by decide +kernel
theorem dX12_shift_4 : decode cX12_shift 4 = .ok (.ifCond .ne 13, 3) := by decide +kernel
theorem dX12_shift_7 : decode cX12_shift 7 = .ok (.new 78, 3) := by decide +kernel
theorem dX12_shift_10 : decode cX12_shift 10 = .ok (.dup, 1) := by decide +kernel
theorem dX12_shift_11 : decode cX12_shift 11 = .ok (.ldc 122, 2) := by decide +kernel
theorem dX12_shift_13 : decode cX12_shift 13 = .ok (.invokespecial 82, 3) := by decide +kernel
theorem dX12_shift_16 : decode cX12_shift 16 = .ok (.athrow, 1) := by decide +kernel
theorem dX12_shift_17 : decode cX12_shift 17 = .ok (.aload_n 0, 1) := by decide +kernel
theorem dX12_shift_18 : decode cX12_shift 18 = .ok (.getfield 29, 3) := by decide +kernel
theorem dX12_shift_21 : decode cX12_shift 21 = .ok (.aload_n 0, 1) := by decide +kernel
theorem dX12_shift_22 : decode cX12_shift 22 = .ok (.getfield 12, 3) := by decide +kernel
theorem dX12_shift_25 : decode cX12_shift 25 = .ok (.invokevirtual 85, 3) := by decide +kernel
theorem dX12_shift_28 : decode cX12_shift 28 = .ok (.aload_n 0, 1) := by decide +kernel
theorem dX12_shift_29 : decode cX12_shift 29 = .ok (.getfield 12, 3) := by decide +kernel
theorem dX12_shift_32 : decode cX12_shift 32 = .ok (.getfield 89, 3) := by decide +kernel
theorem dX12_shift_35 : decode cX12_shift 35 = .ok (.iload_n 1, 1) := by decide +kernel
theorem dX12_shift_36 : decode cX12_shift 36 = .ok (.invokevirtual 124, 3) := by decide +kernel
theorem dX12_shift_39 : decode cX12_shift 39 = .ok (.ireturn, 1) := by decide +kernel
set_option maxRecDepth 20000 in
theorem ggX12_setThreshold_X10_isThreshold : GoodIn wsX12_setThreshold wsX10_isThreshold := goodIn_r _ [8] (by decide +kernel) (by decide +kernel)
set_option maxRecDepth 20000 in
theorem gX12_setThreshold_X10_isThreshold : GoodIn wsX12_setThreshold (va_wsS RX12 128 yX10_isThreshold wsX10_isThreshold) := goodIn_app (goodIn_of _ (by decide +kernel)) ggX12_setThreshold_X10_isThreshold
set_option maxRecDepth 20000 in
theorem ggX12_setThreshold_X6_remember : GoodIn wsX12_setThreshold wsX6_remember := goodIn_ca (goodIn_r _ [13, 14, 15, 16, 17, 18, 19, 20, 21, 22, 23, 24, 25, 26, 27, 28, 29, 30, 31, 32, 7, 33, 34, 35, 36, 37, 38, 39, 40, 41, 42, 43, 44, 45, 46, 47, 48, 49, 50, 51, 52, 53, 71, 72, 73, 65, 66, 67, 68, 69, 70, 74, 75, 76, 77, 78, 79, 80, 81] (by decide +kernel) (by decide +kernel)) (goodIn_sub (fun _ h => List.mem_cons_of_mem _ (List.mem_append_right _ h)) (by decide +kernel))
set_option maxRecDepth 20000 in
theorem gX12_setThreshold_X6_remember : GoodIn wsX12_setThreshold (wsV RX12 85 RX6 yX6_remember wsX6_remember) := goodIn_app (goodIn_of _ (by decide +kernel)) ggX12_setThreshold_X6_remember
theorem dX12_setThreshold_0 : decode cX12_setThreshold 0 = .ok (.iload_n 1, 1) := by decide +kernel
theorem dX12_setThreshold_1 : decode cX12_setThreshold 1 = .ok (.invokestatic 128, 3) := by decide +kernel
theorem dX12_setThreshold_4 : decode cX12_setThreshold 4 = .ok (.ifCond .ne 13, 3) := by decide +kernel
theorem dX12_setThreshold_7 : decode cX12_setThreshold 7 = .ok (.new 78, 3) := by decide +kernel
theorem dX12_setThreshold_10 : decode cX12_setThreshold 10 = .ok (.dup, 1) := by decide +kernel
theorem dX12_setThreshold_11 : decode cX12_setThreshold 11 = .ok (.ldc 131, 2) := by decide +kernel
theorem dX12_setThreshold_13 : decode cX12_setThreshold 13 = .ok (.invokespecial 82, 3) := by decide +kernel
theorem dX12_setThreshold_16 : decode cX12_setThreshold 16 = .ok (.athrow, 1) := by decide +kernel
theorem dX12_setThreshold_17 : decode cX12_setThreshold 17 = .ok (.aload_n 0, 1) := by decide +kernel
theorem dX12_setThreshold_18 : decode cX12_setThreshold 18 = .ok (.getfield 29, 3) := by decide +kernel
theorem dX12_setThreshold_21 : decode cX12_setThreshold 21 = .ok (.aload_n 0, 1) := by decide +kernel
theorem dX12_setThreshold_22 : decode cX12_setThreshold 22 = .ok (.getfield 12, 3) := by decide +kernel
theorem dX12_setThreshold_25 : decode cX12_setThreshold 25 = .ok (.invokevirtual 85, 3) := by decide +kernel
theorem dX12_setThreshold_28 : decode cX12_setThreshold 28 = .ok (.aload_n 0, 1) := by decide +kernel
theorem dX12_setThreshold_29 : decode cX12_setThreshold 29 = .ok (.getfield 12, 3) := by decide +kernel
theorem dX12_setThreshold_32 : decode cX12_setThreshold 32 = .ok (.getfield 89, 3) := by decide +kernel
theorem dX12_setThreshold_35 : decode cX12_setThreshold 35 = .ok (.getfield 133, 3) := by decide +kernel
theorem dX12_setThreshold_38 : decode cX12_setThreshold 38 = .ok (.istore_n 2, 1) := by decide +kernel
theorem dX12_setThreshold_39 : decode cX12_setThreshold 39 = .ok (.aload_n 0, 1) := by decide +kernel
theorem dX12_setThreshold_40 : decode cX12_setThreshold 40 = .ok (.getfield 12, 3) := by decide +kernel
theorem dX12_setThreshold_43 : decode cX12_setThreshold 43 = .ok (.getfield 89, 3) := by decide +kernel
theorem dX12_setThreshold_46 : decode cX12_setThreshold 46 = .ok (.iload_n 1, 1) := by decide +kernel
theorem dX12_setThreshold_47 : decode cX12_setThreshold 47 = .ok (.putfield 133, 3) := by decide +kernel
theorem dX12_setThreshold_50 : decode cX12_setThreshold 50 = .ok (.iload_n 2, 1) := by decide +kernel
theorem dX12_setThreshold_51 : decode cX12_setThreshold 51 = .ok (.ireturn, 1) := by decide +kernel
theorem dX12_threshold_0 : decode cX12_threshold 0 = .ok (.aload_n 0, 1) := by decide +kernel
theorem dX12_threshold_1 : decode cX12_threshold 1 = .ok (.getfield 12, 3) := by decide +kernel
theorem dX12_threshold_4 : decode cX12_threshold 4 = .ok (.getfield 89, 3) := by decide +kernel
theorem dX12_threshold_7 : decode cX12_threshold 7 = .ok (.getfield 133, 3) := by decide +kernel
theorem dX12_threshold_10 : decode cX12_threshold 10 = .ok (.ireturn, 1) := by decide +kernel
set_option maxRecDepth 20000 in
theorem ggX12_isFrontRight_X12_requireCell : GoodIn wsX12_isFrontRight wsX12_requireCell := goodIn_ca (goodIn_r _ [7, 8, 9, 10, 11, 12, 13] (by decide +kernel) (by decide +kernel)) (goodIn_sub (fun _ h => List.mem_cons_of_mem _ (List.mem_append_left _ (List.mem_append_right _ h))) (by decide +kernel))
set_option maxRecDepth 20000 in
theorem gX12_isFrontRight_X12_requireCell : GoodIn wsX12_isFrontRight (va_wsS RX12 68 yX12_requireCell wsX12_requireCell) := goodIn_app (goodIn_of _ (by decide +kernel)) ggX12_isFrontRight_X12_requireCell
set_option maxRecDepth 20000 in
theorem ggX12_isFrontRight_X10_isCell : GoodIn wsX12_isFrontRight wsX10_isCell := goodIn_r _ [13] (by decide +kernel) (by decide +kernel)
set_option maxRecDepth 20000 in
theorem gX12_isFrontRight_X10_isCell : GoodIn wsX12_isFrontRight (va_wsS RX12 136 yX10_isCell wsX10_isCell) := goodIn_app (goodIn_of _ (by decide +kernel)) ggX12_isFrontRight_X10_isCell
set_option maxRecDepth 20000 in
theorem ggX12_isFrontRight_X10_cellOf : GoodIn wsX12_isFrontRight wsX10_cellOf := goodIn_r _ [16] (by decide +kernel) (by decide +kernel)
set_option maxRecDepth 20000 in
theorem gX12_isFrontRight_X10_cellOf : GoodIn wsX12_isFrontRight (va_wsS RX12 93 yX10_cellOf wsX10_cellOf) := goodIn_app (goodIn_of _ (by decide +kernel)) ggX12_isFrontRight_X10_cellOf
set_option maxRecDepth 20000 in
theorem ggX12_isFrontRight_X10_hasFront : GoodIn wsX12_isFrontRight wsX10_hasFront := goodIn_ca (goodIn_r _ [20, 21, 22, 23, 24, 12, 25, 26, 42, 43] (by decide +kernel) (by decide +kernel)) (goodIn_sub (fun _ h => List.mem_cons_of_mem _ (List.mem_append_right _ h)) (by decide +kernel))
set_option maxRecDepth 20000 in
theorem gX12_isFrontRight_X10_hasFront : GoodIn wsX12_isFrontRight (wsV RX12 145 RX10 yX10_hasFront wsX10_hasFront) := goodIn_app (goodIn_of _ (by decide +kernel)) ggX12_isFrontRight_X10_hasFront
theorem dX12_isFrontRight_0 : decode cX12_isFrontRight 0 = .ok (.iload_n 1, 1) := by decide +kernel
theorem dX12_isFrontRight_1 : decode cX12_isFrontRight 1 = .ok (.iload_n 2, 1) := by decide +kernel
theorem dX12_isFrontRight_2 : decode cX12_isFrontRight 2 = .ok (.invokestatic 68, 3) := by decide +kernel
theorem dX12_isFrontRight_5 : decode cX12_isFrontRight 5 = .ok (.iload_n 1, 1) := by decide +kernel
theorem dX12_isFrontRight_6 : decode cX12_isFrontRight 6 = .ok (.iload_n 2, 1) := by decide +kernel
theorem dX12_isFrontRight_7 : decode cX12_isFrontRight 7 = .ok (.iconst 1, 1) := by decide +kernel
theorem dX12_isFrontRight_8 : decode cX12_isFrontRight 8 = .ok (.iadd, 1) := by decide +kernel
theorem dX12_isFrontRight_9 : decode cX12_isFrontRight 9 = .ok (.invokestatic 136, 3) := by decide +kernel
theorem dX12_isFrontRight_12 : decode cX12_isFrontRight 12 = .ok (.ifCond .ne 13, 3) := by decide +kernel
theorem dX12_isFrontRight_15 : decode cX12_isFrontRight 15 = .ok (.new 140, 3) := by decide +kernel
theorem dX12_isFrontRight_18 : decode cX12_isFrontRight 18 = .ok (.dup, 1) := by decide +kernel
theorem dX12_isFrontRight_19 : decode cX12_isFrontRight 19 = .ok (.ldc 142, 2) := by decide +kernel
theorem dX12_isFrontRight_21 : decode cX12_isFrontRight 21 = .ok (.invokespecial 144, 3) := by decide +kernel
theorem dX12_isFrontRight_24 : decode cX12_isFrontRight 24 = .ok (.athrow, 1) := by decide +kernel
theorem dX12_isFrontRight_25 : decode cX12_isFrontRight 25 = .ok (.aload_n 0, 1) := by decide +kernel
theorem dX12_isFrontRight_26 : decode cX12_isFrontRight 26 = .ok (.getfield 12, 3) := by decide +kernel
theorem dX12_isFrontRight_29 : decode cX12_isFrontRight 29 = .ok (.getfield 89, 3) := by decide +kernel
theorem dX12_isFrontRight_32 : decode cX12_isFrontRight 32 = .ok (.iload_n 1, 1) := by decide +kernel
theorem dX12_isFrontRight_33 : decode cX12_isFrontRight 33 = .ok (.iload_n 2, 1) := by decide +kernel
theorem dX12_isFrontRight_34 : decode cX12_isFrontRight 34 = .ok (.invokestatic 93, 3) := by decide +kernel
theorem dX12_isFrontRight_37 : decode cX12_isFrontRight 37 = .ok (.iload_n 1, 1) := by decide +kernel
theorem dX12_isFrontRight_38 : decode cX12_isFrontRight 38 = .ok (.iload_n 2, 1) := by decide +kernel
theorem dX12_isFrontRight_39 : decode cX12_isFrontRight 39 = .ok (.iconst 1, 1) := by decide +kernel
theorem dX12_isFrontRight_40 : decode cX12_isFrontRight 40 = .ok (.iadd, 1) := by decide +kernel
theorem dX12_isFrontRight_41 : decode cX12_isFrontRight 41 = .ok (.invokestatic 93, 3) := by decide +kernel
theorem dX12_isFrontRight_44 : decode cX12_isFrontRight 44 = .ok (.invokevirtual 145, 3) := by decide +kernel
theorem dX12_isFrontRight_47 : decode cX12_isFrontRight 47 = .ok (.ireturn, 1) := by decide +kernel
set_option maxRecDepth 20000 in
theorem ggX12_isFrontBelow_X12_requireCell : GoodIn wsX12_isFrontBelow wsX12_requireCell := goodIn_ca (goodIn_r _ [7, 8, 9, 10, 11, 12, 13] (by decide +kernel) (by decide +kernel)) (goodIn_sub (fun _ h => List.mem_cons_of_mem _ (List.mem_append_left _ (List.mem_append_right _ h))) (by decide +kernel))
set_option maxRecDepth 20000 in
theorem gX12_isFrontBelow_X12_requireCell : GoodIn wsX12_isFrontBelow (va_wsS RX12 68 yX12_requireCell wsX12_requireCell) := goodIn_app (goodIn_of _ (by decide +kernel)) ggX12_isFrontBelow_X12_requireCell
set_option maxRecDepth 20000 in
theorem ggX12_isFrontBelow_X10_isCell : GoodIn wsX12_isFrontBelow wsX10_isCell := goodIn_r _ [13] (by decide +kernel) (by decide +kernel)
set_option maxRecDepth 20000 in
theorem gX12_isFrontBelow_X10_isCell : GoodIn wsX12_isFrontBelow (va_wsS RX12 136 yX10_isCell wsX10_isCell) := goodIn_app (goodIn_of _ (by decide +kernel)) ggX12_isFrontBelow_X10_isCell
set_option maxRecDepth 20000 in
theorem ggX12_isFrontBelow_X10_cellOf : GoodIn wsX12_isFrontBelow wsX10_cellOf := goodIn_r _ [16] (by decide +kernel) (by decide +kernel)
set_option maxRecDepth 20000 in
theorem gX12_isFrontBelow_X10_cellOf : GoodIn wsX12_isFrontBelow (va_wsS RX12 93 yX10_cellOf wsX10_cellOf) := goodIn_app (goodIn_of _ (by decide +kernel)) ggX12_isFrontBelow_X10_cellOf
set_option maxRecDepth 20000 in
theorem ggX12_isFrontBelow_X10_hasFront : GoodIn wsX12_isFrontBelow wsX10_hasFront := goodIn_ca (goodIn_r _ [20, 21, 22, 23, 24, 12, 25, 26, 42, 43] (by decide +kernel) (by decide +kernel)) (goodIn_sub (fun _ h => List.mem_cons_of_mem _ (List.mem_append_right _ h)) (by decide +kernel))
set_option maxRecDepth 20000 in
theorem gX12_isFrontBelow_X10_hasFront : GoodIn wsX12_isFrontBelow (wsV RX12 145 RX10 yX10_hasFront wsX10_hasFront) := goodIn_app (goodIn_of _ (by decide +kernel)) ggX12_isFrontBelow_X10_hasFront
theorem dX12_isFrontBelow_0 : decode cX12_isFrontBelow 0 = .ok (.iload_n 1, 1) := by decide +kernel
theorem dX12_isFrontBelow_1 : decode cX12_isFrontBelow 1 = .ok (.iload_n 2, 1) := by decide +kernel
theorem dX12_isFrontBelow_2 : decode cX12_isFrontBelow 2 = .ok (.invokestatic 68, 3) := by decide +kernel
theorem dX12_isFrontBelow_5 : decode cX12_isFrontBelow 5 = .ok (.iload_n 1, 1) := by decide +kernel
theorem dX12_isFrontBelow_6 : decode cX12_isFrontBelow 6 = .ok (.iconst 1, 1) := by decide +kernel
theorem dX12_isFrontBelow_7 : decode cX12_isFrontBelow 7 = .ok (.iadd, 1) := by decide +kernel
theorem dX12_isFrontBelow_8 : decode cX12_isFrontBelow 8 = .ok (.iload_n 2, 1) := by decide +kernel
theorem dX12_isFrontBelow_9 : decode cX12_isFrontBelow 9 = .ok (.invokestatic 136, 3) := by decide +kernel
theorem dX12_isFrontBelow_12 : decode cX12_isFrontBelow 12 = .ok (.ifCond .ne 13, 3) := by decide +kernel
theorem dX12_isFrontBelow_15 : decode cX12_isFrontBelow 15 = .ok (.new 140, 3) := by decide +kernel
theorem dX12_isFrontBelow_18 : decode cX12_isFrontBelow 18 = .ok (.dup, 1) := by decide +kernel
theorem dX12_isFrontBelow_19 : decode cX12_isFrontBelow 19 = .ok (.ldc 148, 2) := by decide +kernel
theorem dX12_isFrontBelow_21 : decode cX12_isFrontBelow 21 = .ok (.invokespecial 144, 3) := by decide +kernel
theorem dX12_isFrontBelow_24 : decode cX12_isFrontBelow 24 = .ok (.athrow, 1) := by decide +kernel
theorem dX12_isFrontBelow_25 : decode cX12_isFrontBelow 25 = .ok (.aload_n 0, 1) := by decide +kernel
theorem dX12_isFrontBelow_26 : decode cX12_isFrontBelow 26 = .ok (.getfield 12, 3) := by decide +kernel
theorem dX12_isFrontBelow_29 : decode cX12_isFrontBelow 29 = .ok (.getfield 89, 3) := by decide +kernel
theorem dX12_isFrontBelow_32 : decode cX12_isFrontBelow 32 = .ok (.iload_n 1, 1) := by decide +kernel
theorem dX12_isFrontBelow_33 : decode cX12_isFrontBelow 33 = .ok (.iload_n 2, 1) := by decide +kernel
theorem dX12_isFrontBelow_34 : decode cX12_isFrontBelow 34 = .ok (.invokestatic 93, 3) := by decide +kernel
theorem dX12_isFrontBelow_37 : decode cX12_isFrontBelow 37 = .ok (.iload_n 1, 1) := by decide +kernel
theorem dX12_isFrontBelow_38 : decode cX12_isFrontBelow 38 = .ok (.iconst 1, 1) := by decide +kernel
theorem dX12_isFrontBelow_39 : decode cX12_isFrontBelow 39 = .ok (.iadd, 1) := by decide +kernel
theorem dX12_isFrontBelow_40 : decode cX12_isFrontBelow 40 = .ok (.iload_n 2, 1) := by decide +kernel
theorem dX12_isFrontBelow_41 : decode cX12_isFrontBelow 41 = .ok (.invokestatic 93, 3) := by decide +kernel
theorem dX12_isFrontBelow_44 : decode cX12_isFrontBelow 44 = .ok (.invokevirtual 145, 3) := by decide +kernel
theorem dX12_isFrontBelow_47 : decode cX12_isFrontBelow 47 = .ok (.ireturn, 1) := by decide +kernel
set_option maxRecDepth 20000 in
theorem ggX12_frontCount_X10_countFronts : GoodIn wsX12_frontCount wsX10_countFronts := goodIn_ca (goodIn_r _ [6, 7, 8, 5, 9, 10, 11, 12, 13, 14, 15, 16, 17, 18, 19, 20, 21, 22, 38, 39] (by decide +kernel) (by decide +kernel)) (goodIn_sub (fun _ h => List.mem_cons_of_mem _ (List.mem_append_right _ h)) (by decide +kernel))
set_option maxRecDepth 20000 in
theorem gX12_frontCount_X10_countFronts : GoodIn wsX12_frontCount (wsV RX12 150 RX10 yX10_countFronts wsX10_countFronts) := goodIn_app (goodIn_of _ (by decide +kernel)) ggX12_frontCount_X10_countFronts
theorem dX12_frontCount_0 : decode cX12_frontCount 0 = .ok (.aload_n 0, 1) := by decide +kernel
theorem dX12_frontCount_1 : decode cX12_frontCount 1 = .ok (.getfield 12, 3) := by decide +kernel
theorem dX12_frontCount_4 : decode cX12_frontCount 4 = .ok (.getfield 89, 3) := by decide +kernel
theorem dX12_frontCount_7 : decode cX12_frontCount 7 = .ok (.invokevirtual 150, 3) := by decide +kernel
theorem dX12_frontCount_10 : decode cX12_frontCount 10 = .ok (.ireturn, 1) := by decide +kernel
set_option maxRecDepth 20000 in
theorem ggX12_steepest_X10_greatestStep : GoodIn wsX12_steepest wsX10_greatestStep := goodIn_ca (goodIn_r _ [6, 7, 8, 9, 10, 11, 12, 5, 13, 14, 15, 16, 17, 18, 19, 20, 21, 37, 38] (by decide +kernel) (by decide +kernel)) (goodIn_sub (fun _ h => List.mem_cons_of_mem _ (List.mem_append_right _ h)) (by decide +kernel))
set_option maxRecDepth 20000 in
theorem gX12_steepest_X10_greatestStep : GoodIn wsX12_steepest (wsV RX12 153 RX10 yX10_greatestStep wsX10_greatestStep) := goodIn_app (goodIn_of _ (by decide +kernel)) ggX12_steepest_X10_greatestStep
theorem dX12_steepest_0 : decode cX12_steepest 0 = .ok (.aload_n 0, 1) := by decide +kernel
theorem dX12_steepest_1 : decode cX12_steepest 1 = .ok (.getfield 12, 3) := by decide +kernel
theorem dX12_steepest_4 : decode cX12_steepest 4 = .ok (.getfield 89, 3) := by decide +kernel
theorem dX12_steepest_7 : decode cX12_steepest 7 = .ok (.invokevirtual 153, 3) := by decide +kernel
theorem dX12_steepest_10 : decode cX12_steepest 10 = .ok (.ireturn, 1) := by decide +kernel
set_option maxRecDepth 20000 in
theorem ggX12_regionCount_X9_flood : GoodIn wsX12_regionCount wsX9_flood := goodIn_ca (goodIn_r _ [7, 8, 9, 10, 11, 12, 13, 6, 14, 15, 16, 17, 18, 19, 20, 21, 22, 23, 24, 25, 26, 27, 28, 29, 30, 31, 32, 33, 34, 35, 36, 37, 38, 39, 40, 41, 42, 43, 59, 60, 61, 62, 63, 64] (by decide +kernel) (by decide +kernel)) (goodIn_sub (fun _ h => List.mem_cons_of_mem _ (List.mem_append_right _ h)) (by decide +kernel))
set_option maxRecDepth 20000 in
theorem gX12_regionCount_X9_flood : GoodIn wsX12_regionCount (wsV RX12 156 RX9 yX9_flood wsX9_flood) := goodIn_app (goodIn_of _ (by decide +kernel)) ggX12_regionCount_X9_flood
theorem dX12_regionCount_0 : decode cX12_regionCount 0 = .ok (.aload_n 0, 1) := by decide +kernel
theorem dX12_regionCount_1 : decode cX12_regionCount 1 = .ok (.getfield 36, 3) := by decide +kernel
theorem dX12_regionCount_4 : decode cX12_regionCount 4 = .ok (.aload_n 0, 1) := by decide +kernel
theorem dX12_regionCount_5 : decode cX12_regionCount 5 = .ok (.getfield 12, 3) := by decide +kernel
theorem dX12_regionCount_8 : decode cX12_regionCount 8 = .ok (.getfield 89, 3) := by decide +kernel
theorem dX12_regionCount_11 : decode cX12_regionCount 11 = .ok (.invokevirtual 156, 3) := by decide +kernel
theorem dX12_regionCount_14 : decode cX12_regionCount 14 = .ok (.ireturn, 1) := by decide +kernel
set_option maxRecDepth 20000 in
theorem ggX12_regionCountByUnion_X9_unite : GoodIn wsX12_regionCountByUnion wsX9_unite := goodIn_ca (goodIn_r _ [7, 8, 9, 10, 11, 12, 13, 14, 15, 16, 17, 18, 19, 20, 21, 22, 23, 24, 25, 6, 26, 27, 28, 29, 45, 46, 47, 48, 49, 50] (by decide +kernel) (by decide +kernel)) (goodIn_sub (fun _ h => List.mem_cons_of_mem _ (List.mem_append_right _ h)) (by decide +kernel))
set_option maxRecDepth 20000 in
theorem gX12_regionCountByUnion_X9_unite : GoodIn wsX12_regionCountByUnion (wsV RX12 160 RX9 yX9_unite wsX9_unite) := goodIn_app (goodIn_of _ (by decide +kernel)) ggX12_regionCountByUnion_X9_unite
theorem dX12_regionCountByUnion_0 : decode cX12_regionCountByUnion 0 = .ok (.aload_n 0, 1) := by decide +kernel
theorem dX12_regionCountByUnion_1 : decode cX12_regionCountByUnion 1 = .ok (.getfield 36, 3) := by decide +kernel
theorem dX12_regionCountByUnion_4 : decode cX12_regionCountByUnion 4 = .ok (.aload_n 0, 1) := by decide +kernel
theorem dX12_regionCountByUnion_5 : decode cX12_regionCountByUnion 5 = .ok (.getfield 12, 3) := by decide +kernel
theorem dX12_regionCountByUnion_8 : decode cX12_regionCountByUnion 8 = .ok (.getfield 89, 3) := by decide +kernel
theorem dX12_regionCountByUnion_11 : decode cX12_regionCountByUnion 11 = .ok (.invokevirtual 160, 3) := by decide +kernel
theorem dX12_regionCountByUnion_14 : decode cX12_regionCountByUnion 14 = .ok (.ireturn, 1) := by decide +kernel
set_option maxRecDepth 20000 in
theorem ggX12_regionSize_X12_requireCell : GoodIn wsX12_regionSize wsX12_requireCell := goodIn_ca (goodIn_r _ [6, 7, 8, 9, 10, 11, 12] (by decide +kernel) (by decide +kernel)) (goodIn_sub (fun _ h => List.mem_cons_of_mem _ (List.mem_append_left _ (List.mem_append_right _ h))) (by decide +kernel))
set_option maxRecDepth 20000 in
theorem gX12_regionSize_X12_requireCell : GoodIn wsX12_regionSize (va_wsS RX12 68 yX12_requireCell wsX12_requireCell) := goodIn_app (goodIn_of _ (by decide +kernel)) ggX12_regionSize_X12_requireCell
set_option maxRecDepth 20000 in
theorem ggX12_regionSize_X9_flood : GoodIn wsX12_regionSize wsX9_flood := goodIn_ca (goodIn_r _ [17, 18, 19, 20, 21, 22, 23, 16, 24, 25, 26, 27, 28, 29, 30, 31, 32, 33, 10, 11, 12, 34, 35, 36, 37, 38, 39, 40, 41, 42, 43, 44, 45, 46, 47, 48, 49, 50, 71, 72, 73, 74, 75, 76] (by decide +kernel) (by decide +kernel)) (goodIn_sub (fun _ h => List.mem_cons_of_mem _ (List.mem_append_right _ h)) (by decide +kernel))
set_option maxRecDepth 20000 in
theorem gX12_regionSize_X9_flood : GoodIn wsX12_regionSize (wsV RX12 156 RX9 yX9_flood wsX9_flood) := goodIn_app (goodIn_of _ (by decide +kernel)) ggX12_regionSize_X9_flood
set_option maxRecDepth 20000 in
theorem ggX12_regionSize_X10_cellOf : GoodIn wsX12_regionSize wsX10_cellOf := goodIn_r _ [36] (by decide +kernel) (by decide +kernel)
set_option maxRecDepth 20000 in
theorem gX12_regionSize_X10_cellOf : GoodIn wsX12_regionSize (va_wsS RX12 93 yX10_cellOf wsX10_cellOf) := goodIn_app (goodIn_of _ (by decide +kernel)) ggX12_regionSize_X10_cellOf
set_option maxRecDepth 20000 in
theorem ggX12_regionSize_X9_sizeAround : GoodIn wsX12_regionSize wsX9_sizeAround := goodIn_ca (goodIn_r _ [55, 18, 37, 38, 39, 16, 40, 71, 72, 73, 74] (by decide +kernel) (by decide +kernel)) (goodIn_sub (fun _ h => List.mem_cons_of_mem _ (List.mem_append_right _ h)) (by decide +kernel))
set_option maxRecDepth 20000 in
theorem gX12_regionSize_X9_sizeAround : GoodIn wsX12_regionSize (wsV RX12 163 RX9 yX9_sizeAround wsX9_sizeAround) := goodIn_app (goodIn_of _ (by decide +kernel)) ggX12_regionSize_X9_sizeAround
theorem dX12_regionSize_0 : decode cX12_regionSize 0 = .ok (.iload_n 1, 1) := by decide +kernel
theorem dX12_regionSize_1 : decode cX12_regionSize 1 = .ok (.iload_n 2, 1) := by decide +kernel
theorem dX12_regionSize_2 : decode cX12_regionSize 2 = .ok (.invokestatic 68, 3) := by decide +kernel
theorem dX12_regionSize_5 : decode cX12_regionSize 5 = .ok (.aload_n 0, 1) := by decide +kernel
theorem dX12_regionSize_6 : decode cX12_regionSize 6 = .ok (.getfield 36, 3) := by decide +kernel
theorem dX12_regionSize_9 : decode cX12_regionSize 9 = .ok (.aload_n 0, 1) := by decide +kernel
theorem dX12_regionSize_10 : decode cX12_regionSize 10 = .ok (.getfield 12, 3) := by decide +kernel
theorem dX12_regionSize_13 : decode cX12_regionSize 13 = .ok (.getfield 89, 3) := by decide +kernel
theorem dX12_regionSize_16 : decode cX12_regionSize 16 = .ok (.invokevirtual 156, 3) := by decide +kernel
theorem dX12_regionSize_19 : decode cX12_regionSize 19 = .ok (.pop, 1) := by decide +kernel
theorem dX12_regionSize_20 : decode cX12_regionSize 20 = .ok (.aload_n 0, 1) := by decide +kernel
theorem dX12_regionSize_21 : decode cX12_regionSize 21 = .ok (.getfield 36, 3) := by decide +kernel
theorem dX12_regionSize_24 : decode cX12_regionSize 24 = .ok (.iload_n 1, 1) := by decide +kernel
theorem dX12_regionSize_25 : decode cX12_regionSize 25 = .ok (.iload_n 2, 1) := by decide +kernel
theorem dX12_regionSize_26 : decode cX12_regionSize 26 = .ok (.invokestatic 93, 3) := by decide +kernel
theorem dX12_regionSize_29 : decode cX12_regionSize 29 = .ok (.invokevirtual 163, 3) := by decide +kernel
theorem dX12_regionSize_32 : decode cX12_regionSize 32 = .ok (.ireturn, 1) := by decide +kernel
set_option maxRecDepth 20000 in
theorem ggX12_isSameRegion_X12_requireCell : GoodIn wsX12_isSameRegion wsX12_requireCell := goodIn_ca (goodIn_r _ [6, 7, 8, 9, 10, 11, 12] (by decide +kernel) (by decide +kernel)) (goodIn_sub (fun _ h => List.mem_cons_of_mem _ (List.mem_append_left _ (List.mem_append_right _ h))) (by decide +kernel))
set_option maxRecDepth 20000 in
theorem gX12_isSameRegion_X12_requireCell : GoodIn wsX12_isSameRegion (va_wsS RX12 68 yX12_requireCell wsX12_requireCell) := goodIn_app (goodIn_of _ (by decide +kernel)) ggX12_isSameRegion_X12_requireCell
set_option maxRecDepth 20000 in
theorem ggX12_isSameRegion_X9_flood : GoodIn wsX12_isSameRegion wsX9_flood := goodIn_ca (goodIn_r _ [17, 18, 19, 20, 21, 22, 23, 16, 24, 25, 26, 27, 28, 29, 30, 31, 32, 33, 10, 11, 12, 34, 35, 36, 37, 38, 39, 40, 41, 42, 43, 44, 45, 46, 47, 48, 49, 50, 68, 69, 70, 71, 72, 73] (by decide +kernel) (by decide +kernel)) (goodIn_sub (fun _ h => List.mem_cons_of_mem _ (List.mem_append_right _ h)) (by decide +kernel))
set_option maxRecDepth 20000 in
theorem gX12_isSameRegion_X9_flood : GoodIn wsX12_isSameRegion (wsV RX12 156 RX9 yX9_flood wsX9_flood) := goodIn_app (goodIn_of _ (by decide +kernel)) ggX12_isSameRegion_X9_flood
set_option maxRecDepth 20000 in
theorem ggX12_isSameRegion_X10_cellOf : GoodIn wsX12_isSameRegion wsX10_cellOf := goodIn_r _ [36] (by decide +kernel) (by decide +kernel)
set_option maxRecDepth 20000 in
theorem gX12_isSameRegion_X10_cellOf : GoodIn wsX12_isSameRegion (va_wsS RX12 93 yX10_cellOf wsX10_cellOf) := goodIn_app (goodIn_of _ (by decide +kernel)) ggX12_isSameRegion_X10_cellOf
set_option maxRecDepth 20000 in
theorem ggX12_isSameRegion_X9_regionOf : GoodIn wsX12_isSameRegion wsX9_regionOf := goodIn_ca (goodIn_r _ [40, 18, 68, 69, 70, 71] (by decide +kernel) (by decide +kernel)) (goodIn_sub (fun _ h => List.mem_cons_of_mem _ (List.mem_append_right _ h)) (by decide +kernel))
set_option maxRecDepth 20000 in
theorem gX12_isSameRegion_X9_regionOf : GoodIn wsX12_isSameRegion (wsV RX12 166 RX9 yX9_regionOf wsX9_regionOf) := goodIn_app (goodIn_of _ (by decide +kernel)) ggX12_isSameRegion_X9_regionOf
theorem dX12_isSameRegion_0 : decode cX12_isSameRegion 0 = .ok (.iload_n 1, 1) := by decide +kernel
theorem dX12_isSameRegion_1 : decode cX12_isSameRegion 1 = .ok (.iload_n 2, 1) := by decide +kernel
theorem dX12_isSameRegion_2 : decode cX12_isSameRegion 2 = .ok (.invokestatic 68, 3) := by decide +kernel
theorem dX12_isSameRegion_5 : decode cX12_isSameRegion 5 = .ok (.iload_n 3, 1) := by decide +kernel
theorem dX12_isSameRegion_6 : decode cX12_isSameRegion 6 = .ok (.iload 4, 2) := by decide +kernel
theorem dX12_isSameRegion_8 : decode cX12_isSameRegion 8 = .ok (.invokestatic 68, 3) := by decide +kernel
theorem dX12_isSameRegion_11 : decode cX12_isSameRegion 11 = .ok (.aload_n 0, 1) := by decide +kernel
theorem dX12_isSameRegion_12 : decode cX12_isSameRegion 12 = .ok (.getfield 36, 3) := by decide +kernel
theorem dX12_isSameRegion_15 : decode cX12_isSameRegion 15 = .ok (.aload_n 0, 1) := by decide +kernel
theorem dX12_isSameRegion_16 : decode cX12_isSameRegion 16 = .ok (.getfield 12, 3) := by decide +kernel
theorem dX12_isSameRegion_19 : decode cX12_isSameRegion 19 = .ok (.getfield 89, 3) := by decide +kernel
theorem dX12_isSameRegion_22 : decode cX12_isSameRegion 22 = .ok (.invokevirtual 156, 3) := by decide +kernel
theorem dX12_isSameRegion_25 : decode cX12_isSameRegion 25 = .ok (.pop, 1) := by decide +kernel
theorem dX12_isSameRegion_26 : decode cX12_isSameRegion 26 = .ok (.aload_n 0, 1) := by decide +kernel
theorem dX12_isSameRegion_27 : decode cX12_isSameRegion 27 = .ok (.getfield 36, 3) := by decide +kernel
theorem dX12_isSameRegion_30 : decode cX12_isSameRegion 30 = .ok (.iload_n 1, 1) := by decide +kernel
theorem dX12_isSameRegion_31 : decode cX12_isSameRegion 31 = .ok (.iload_n 2, 1) := by decide +kernel
theorem dX12_isSameRegion_32 : decode cX12_isSameRegion 32 = .ok (.invokestatic 93, 3) := by decide +kernel
theorem dX12_isSameRegion_35 : decode cX12_isSameRegion 35 = .ok (.invokevirtual 166, 3) := by decide +kernel
theorem dX12_isSameRegion_38 : decode cX12_isSameRegion 38 = .ok (.aload_n 0, 1) := by decide +kernel
theorem dX12_isSameRegion_39 : decode cX12_isSameRegion 39 = .ok (.getfield 36, 3) := by decide +kernel
theorem dX12_isSameRegion_42 : decode cX12_isSameRegion 42 = .ok (.iload_n 3, 1) := by decide +kernel
theorem dX12_isSameRegion_43 : decode cX12_isSameRegion 43 = .ok (.iload 4, 2) := by decide +kernel
theorem dX12_isSameRegion_45 : decode cX12_isSameRegion 45 = .ok (.invokestatic 93, 3) := by decide +kernel
theorem dX12_isSameRegion_48 : decode cX12_isSameRegion 48 = .ok (.invokevirtual 166, 3) := by decide +kernel
theorem dX12_isSameRegion_51 : decode cX12_isSameRegion 51 = .ok (.if_icmp .ne 7, 3) := by decide +kernel
theorem dX12_isSameRegion_54 : decode cX12_isSameRegion 54 = .ok (.iconst 1, 1) := by decide +kernel
theorem dX12_isSameRegion_55 : decode cX12_isSameRegion 55 = .ok (.goto 4, 3) := by decide +kernel
theorem dX12_isSameRegion_58 : decode cX12_isSameRegion 58 = .ok (.iconst 0, 1) := by decide +kernel
theorem dX12_isSameRegion_59 : decode cX12_isSameRegion 59 = .ok (.ireturn, 1) := by decide +kernel
set_option maxRecDepth 20000 in
theorem ggX12_setWeight_X12_requireWeather : GoodIn wsX12_setWeight wsX12_requireWeather := goodIn_ca (goodIn_r _ [10, 1, 2, 11, 12, 13, 14] (by decide +kernel) (by decide +kernel)) (goodIn_sub (fun _ h => List.mem_cons_of_mem _ (List.mem_append_left _ (List.mem_append_left _ (List.mem_append_right _ h)))) (by decide +kernel))
set_option maxRecDepth 20000 in
theorem gX12_setWeight_X12_requireWeather : GoodIn wsX12_setWeight (va_wsS RX12 169 yX12_requireWeather wsX12_requireWeather) := goodIn_app (goodIn_of _ (by decide +kernel)) ggX12_setWeight_X12_requireWeather
set_option maxRecDepth 20000 in
theorem ggX12_setWeight_X2_isWeight : GoodIn wsX12_setWeight wsX2_isWeight := goodIn_r _ [17] (by decide +kernel) (by decide +kernel)
set_option maxRecDepth 20000 in
theorem gX12_setWeight_X2_isWeight : GoodIn wsX12_setWeight (va_wsS RX12 172 yX2_isWeight wsX2_isWeight) := goodIn_app (goodIn_of _ (by decide +kernel)) ggX12_setWeight_X2_isWeight
set_option maxRecDepth 20000 in
theorem ggX12_setWeight_X2_keepsAChange : GoodIn wsX12_setWeight wsX2_keepsAChange := goodIn_ca (goodIn_r _ [21, 22, 23, 24, 13, 25, 26, 27, 12, 14, 28, 29, 30, 31, 96, 97] (by decide +kernel) (by decide +kernel)) (goodIn_sub (fun _ h => List.mem_cons_of_mem _ (List.mem_append_right _ h)) (by decide +kernel))
set_option maxRecDepth 20000 in
theorem gX12_setWeight_X2_keepsAChange : GoodIn wsX12_setWeight (wsV RX12 183 RX2 yX2_keepsAChange wsX2_keepsAChange) := goodIn_app (goodIn_of _ (by decide +kernel)) ggX12_setWeight_X2_keepsAChange
set_option maxRecDepth 20000 in
theorem ggX12_setWeight_X6_remember : GoodIn wsX12_setWeight wsX6_remember := goodIn_ca (goodIn_r _ [36, 37, 38, 39, 40, 41, 42, 43, 44, 45, 46, 47, 48, 49, 50, 51, 52, 53, 54, 55, 56, 57, 58, 59, 60, 61, 62, 13, 63, 26, 64, 65, 66, 67, 68, 69, 70, 71, 72, 73, 74, 75, 98, 99, 100, 92, 93, 94, 95, 101, 102, 96, 97, 103, 104, 105, 106, 107, 108] (by decide +kernel) (by decide +kernel)) (goodIn_sub (fun _ h => List.mem_cons_of_mem _ (List.mem_append_right _ h)) (by decide +kernel))
set_option maxRecDepth 20000 in
theorem gX12_setWeight_X6_remember : GoodIn wsX12_setWeight (wsV RX12 85 RX6 yX6_remember wsX6_remember) := goodIn_app (goodIn_of _ (by decide +kernel)) ggX12_setWeight_X6_remember
set_option maxRecDepth 20000 in
theorem ggX12_setWeight_X2_weight : GoodIn wsX12_setWeight wsX2_weight := goodIn_ca (goodIn_r _ [31, 26, 27, 12, 13, 14, 96, 97] (by decide +kernel) (by decide +kernel)) (goodIn_sub (fun _ h => List.mem_cons_of_mem _ (List.mem_append_right _ h)) (by decide +kernel))
set_option maxRecDepth 20000 in
theorem gX12_setWeight_X2_weight : GoodIn wsX12_setWeight (wsV RX12 192 RX2 yX2_weight wsX2_weight) := goodIn_app (goodIn_of _ (by decide +kernel)) ggX12_setWeight_X2_weight
set_option maxRecDepth 20000 in
theorem ggX12_setWeight_X2_putWeight : GoodIn wsX12_setWeight wsX2_putWeight := goodIn_ca (goodIn_r _ [80, 26, 27, 12, 13, 14, 96, 97] (by decide +kernel) (by decide +kernel)) (goodIn_sub (fun _ h => List.mem_cons_of_mem _ (List.mem_append_right _ h)) (by decide +kernel))
set_option maxRecDepth 20000 in
theorem gX12_setWeight_X2_putWeight : GoodIn wsX12_setWeight (wsV RX12 195 RX2 yX2_putWeight wsX2_putWeight) := goodIn_app (goodIn_of _ (by decide +kernel)) ggX12_setWeight_X2_putWeight
theorem dX12_setWeight_0 : decode cX12_setWeight 0 = .ok (.iload_n 1, 1) := by decide +kernel
theorem dX12_setWeight_1 : decode cX12_setWeight 1 = .ok (.invokestatic 169, 3) := by decide +kernel
theorem dX12_setWeight_4 : decode cX12_setWeight 4 = .ok (.iload_n 2, 1) := by decide +kernel
theorem dX12_setWeight_5 : decode cX12_setWeight 5 = .ok (.invokestatic 169, 3) := by decide +kernel
theorem dX12_setWeight_8 : decode cX12_setWeight 8 = .ok (.iload_n 3, 1) := by decide +kernel
theorem dX12_setWeight_9 : decode cX12_setWeight 9 = .ok (.invokestatic 172, 3) := by decide +kernel
theorem dX12_setWeight_12 : decode cX12_setWeight 12 = .ok (.ifCond .ne 13, 3) := by decide +kernel
theorem dX12_setWeight_15 : decode cX12_setWeight 15 = .ok (.new 78, 3) := by decide +kernel
theorem dX12_setWeight_18 : decode cX12_setWeight 18 = .ok (.dup, 1) := by decide +kernel
theorem dX12_setWeight_19 : decode cX12_setWeight 19 = .ok (.ldc 177, 2) := by decide +kernel
theorem dX12_setWeight_21 : decode cX12_setWeight 21 = .ok (.invokespecial 82, 3) := by decide +kernel
theorem dX12_setWeight_24 : decode cX12_setWeight 24 = .ok (.athrow, 1) := by decide +kernel
theorem dX12_setWeight_25 : decode cX12_setWeight 25 = .ok (.aload_n 0, 1) := by decide +kernel
theorem dX12_setWeight_26 : decode cX12_setWeight 26 = .ok (.getfield 12, 3) := by decide +kernel
theorem dX12_setWeight_29 : decode cX12_setWeight 29 = .ok (.getfield 179, 3) := by decide +kernel
theorem dX12_setWeight_32 : decode cX12_setWeight 32 = .ok (.iload_n 1, 1) := by decide +kernel
theorem dX12_setWeight_33 : decode cX12_setWeight 33 = .ok (.iload_n 2, 1) := by decide +kernel
theorem dX12_setWeight_34 : decode cX12_setWeight 34 = .ok (.iload_n 3, 1) := by decide +kernel
theorem dX12_setWeight_35 : decode cX12_setWeight 35 = .ok (.invokevirtual 183, 3) := by decide +kernel
theorem dX12_setWeight_38 : decode cX12_setWeight 38 = .ok (.ifCond .ne 13, 3) := by decide +kernel
theorem dX12_setWeight_41 : decode cX12_setWeight 41 = .ok (.new 187, 3) := by decide +kernel
theorem dX12_setWeight_44 : decode cX12_setWeight 44 = .ok (.dup, 1) := by decide +kernel
theorem dX12_setWeight_45 : decode cX12_setWeight 45 = .ok (.ldc 189, 2) := by decide +kernel
theorem dX12_setWeight_47 : decode cX12_setWeight 47 = .ok (.invokespecial 191, 3) := by decide +kernel
theorem dX12_setWeight_50 : decode cX12_setWeight 50 = .ok (.athrow, 1) := by decide +kernel
theorem dX12_setWeight_51 : decode cX12_setWeight 51 = .ok (.aload_n 0, 1) := by decide +kernel
theorem dX12_setWeight_52 : decode cX12_setWeight 52 = .ok (.getfield 29, 3) := by decide +kernel
theorem dX12_setWeight_55 : decode cX12_setWeight 55 = .ok (.aload_n 0, 1) := by decide +kernel
theorem dX12_setWeight_56 : decode cX12_setWeight 56 = .ok (.getfield 12, 3) := by decide +kernel
theorem dX12_setWeight_59 : decode cX12_setWeight 59 = .ok (.invokevirtual 85, 3) := by decide +kernel
theorem dX12_setWeight_62 : decode cX12_setWeight 62 = .ok (.aload_n 0, 1) := by decide +kernel
theorem dX12_setWeight_63 : decode cX12_setWeight 63 = .ok (.getfield 12, 3) := by decide +kernel
theorem dX12_setWeight_66 : decode cX12_setWeight 66 = .ok (.getfield 179, 3) := by decide +kernel
theorem dX12_setWeight_69 : decode cX12_setWeight 69 = .ok (.iload_n 1, 1) := by decide +kernel
theorem dX12_setWeight_70 : decode cX12_setWeight 70 = .ok (.iload_n 2, 1) := by decide +kernel
theorem dX12_setWeight_71 : decode cX12_setWeight 71 = .ok (.invokevirtual 192, 3) := by decide +kernel
theorem dX12_setWeight_74 : decode cX12_setWeight 74 = .ok (.istore 4, 2) := by decide +kernel
theorem dX12_setWeight_76 : decode cX12_setWeight 76 = .ok (.aload_n 0, 1) := by decide +kernel
theorem dX12_setWeight_77 : decode cX12_setWeight 77 = .ok (.getfield 12, 3) := by decide +kernel
theorem dX12_setWeight_80 : decode cX12_setWeight 80 = .ok (.getfield 179, 3) := by decide +kernel
theorem dX12_setWeight_83 : decode cX12_setWeight 83 = .ok (.iload_n 1, 1) := by decide +kernel
theorem dX12_setWeight_84 : decode cX12_setWeight 84 = .ok (.iload_n 2, 1) := by decide +kernel
theorem dX12_setWeight_85 : decode cX12_setWeight 85 = .ok (.iload_n 3, 1) := by decide +kernel
theorem dX12_setWeight_86 : decode cX12_setWeight 86 = .ok (.invokevirtual 195, 3) := by decide +kernel
theorem dX12_setWeight_89 : decode cX12_setWeight 89 = .ok (.iload 4, 2) := by decide +kernel
theorem dX12_setWeight_91 : decode cX12_setWeight 91 = .ok (.ireturn, 1) := by decide +kernel
set_option maxRecDepth 20000 in
theorem ggX12_weightOf_X12_requireWeather : GoodIn wsX12_weightOf wsX12_requireWeather := goodIn_ca (goodIn_r _ [5, 6, 7, 8, 9, 10, 11] (by decide +kernel) (by decide +kernel)) (goodIn_sub (fun _ h => List.mem_cons_of_mem _ (List.mem_append_left _ (List.mem_append_right _ h))) (by decide +kernel))
set_option maxRecDepth 20000 in
theorem gX12_weightOf_X12_requireWeather : GoodIn wsX12_weightOf (va_wsS RX12 169 yX12_requireWeather wsX12_requireWeather) := goodIn_app (goodIn_of _ (by decide +kernel)) ggX12_weightOf_X12_requireWeather
set_option maxRecDepth 20000 in
theorem ggX12_weightOf_X2_weight : GoodIn wsX12_weightOf wsX2_weight := goodIn_ca (goodIn_r _ [15, 16, 17, 9, 10, 11, 33, 34] (by decide +kernel) (by decide +kernel)) (goodIn_sub (fun _ h => List.mem_cons_of_mem _ (List.mem_append_right _ h)) (by decide +kernel))
set_option maxRecDepth 20000 in
theorem gX12_weightOf_X2_weight : GoodIn wsX12_weightOf (wsV RX12 192 RX2 yX2_weight wsX2_weight) := goodIn_app (goodIn_of _ (by decide +kernel)) ggX12_weightOf_X2_weight
theorem dX12_weightOf_0 : decode cX12_weightOf 0 = .ok (.iload_n 1, 1) := by decide +kernel
theorem dX12_weightOf_1 : decode cX12_weightOf 1 = .ok (.invokestatic 169, 3) := by decide +kernel
theorem dX12_weightOf_4 : decode cX12_weightOf 4 = .ok (.iload_n 2, 1) := by decide +kernel
theorem dX12_weightOf_5 : decode cX12_weightOf 5 = .ok (.invokestatic 169, 3) := by decide +kernel
theorem dX12_weightOf_8 : decode cX12_weightOf 8 = .ok (.aload_n 0, 1) := by decide +kernel
theorem dX12_weightOf_9 : decode cX12_weightOf 9 = .ok (.getfield 12, 3) := by decide +kernel
theorem dX12_weightOf_12 : decode cX12_weightOf 12 = .ok (.getfield 179, 3) := by decide +kernel
theorem dX12_weightOf_15 : decode cX12_weightOf 15 = .ok (.iload_n 1, 1) := by decide +kernel
theorem dX12_weightOf_16 : decode cX12_weightOf 16 = .ok (.iload_n 2, 1) := by decide +kernel
theorem dX12_weightOf_17 : decode cX12_weightOf 17 = .ok (.invokevirtual 192, 3) := by decide +kernel
theorem dX12_weightOf_20 : decode cX12_weightOf 20 = .ok (.ireturn, 1) := by decide +kernel
theorem dX12_weather_0 : decode cX12_weather 0 = .ok (.aload_n 0, 1) := by decide +kernel
theorem dX12_weather_1 : decode cX12_weather 1 = .ok (.getfield 12, 3) := by decide +kernel
theorem dX12_weather_4 : decode cX12_weather 4 = .ok (.getfield 179, 3) := by decide +kernel
theorem dX12_weather_7 : decode cX12_weather 7 = .ok (.getfield 199, 3) := by decide +kernel
theorem dX12_weather_10 : decode cX12_weather 10 = .ok (.ireturn, 1) := by decide +kernel
theorem dX12_day_0 : decode cX12_day 0 = .ok (.aload_n 0, 1) := by decide +kernel
theorem dX12_day_1 : decode cX12_day 1 = .ok (.getfield 12, 3) := by decide +kernel
theorem dX12_day_4 : decode cX12_day 4 = .ok (.getfield 202, 3) := by decide +kernel
theorem dX12_day_7 : decode cX12_day 7 = .ok (.ireturn, 1) := by decide +kernel
set_option maxRecDepth 20000 in
theorem ggX12_chanceNumerator_X12_requireDays : GoodIn wsX12_chanceNumerator wsX12_requireDays := goodIn_ca (goodIn_r _ [6, 7, 8] (by decide +kernel) (by decide +kernel)) (goodIn_sub (fun _ h => List.mem_cons_of_mem _ (List.mem_append_left _ (List.mem_append_left _ (List.mem_append_right _ h)))) (by decide +kernel))
set_option maxRecDepth 20000 in
theorem gX12_chanceNumerator_X12_requireDays : GoodIn wsX12_chanceNumerator (va_wsS RX12 205 yX12_requireDays wsX12_requireDays) := goodIn_app (goodIn_of _ (by decide +kernel)) ggX12_chanceNumerator_X12_requireDays
set_option maxRecDepth 20000 in
theorem ggX12_chanceNumerator_X12_requireWeather : GoodIn wsX12_chanceNumerator wsX12_requireWeather := goodIn_ca (goodIn_r _ [11, 7, 8, 12, 13, 14, 15] (by decide +kernel) (by decide +kernel)) (goodIn_sub (fun _ h => List.mem_cons_of_mem _ (List.mem_append_left _ (List.mem_append_left _ (List.mem_append_right _ h)))) (by decide +kernel))
set_option maxRecDepth 20000 in
theorem gX12_chanceNumerator_X12_requireWeather : GoodIn wsX12_chanceNumerator (va_wsS RX12 169 yX12_requireWeather wsX12_requireWeather) := goodIn_app (goodIn_of _ (by decide +kernel)) ggX12_chanceNumerator_X12_requireWeather
set_option maxRecDepth 20000 in
theorem ggX12_chanceNumerator_X1_dayByDay : GoodIn wsX12_chanceNumerator wsX1_dayByDay := goodIn_ca (goodIn_ca (goodIn_r _ [20, 21, 22, 23, 24, 25, 26, 27, 28, 29, 30, 31, 32, 33, 34, 13, 14, 15, 35, 36, 37, 38, 39, 40, 19, 41, 42, 43, 44, 45, 46, 47, 48, 49, 50, 51, 52, 53, 54, 55, 56, 57, 58, 59, 60, 61, 62, 63, 80, 81, 82, 83, 84, 85, 86, 87] (by decide +kernel) (by decide +kernel)) (goodIn_sub (fun _ h => List.mem_cons_of_mem _ (List.mem_append_left _ (List.mem_append_right _ h))) (by decide +kernel))) (goodIn_sub (fun _ h => List.mem_cons_of_mem _ (List.mem_append_right _ h)) (by decide +kernel))
set_option maxRecDepth 20000 in
theorem gX12_chanceNumerator_X1_dayByDay : GoodIn wsX12_chanceNumerator (wsV RX12 208 RX1 yX1_dayByDay wsX1_dayByDay) := goodIn_app (goodIn_of _ (by decide +kernel)) ggX12_chanceNumerator_X1_dayByDay
set_option maxRecDepth 20000 in
theorem ggX12_chanceNumerator_X5_numerator : GoodIn wsX12_chanceNumerator wsX5_numerator := goodIn_ca (goodIn_r _ [51, 28, 34, 13, 14, 15, 86, 87] (by decide +kernel) (by decide +kernel)) (goodIn_sub (fun _ h => List.mem_cons_of_mem _ (List.mem_append_left _ (List.mem_append_right _ h))) (by decide +kernel))
set_option maxRecDepth 20000 in
theorem gX12_chanceNumerator_X5_numerator : GoodIn wsX12_chanceNumerator (wsV RX12 212 RX5 yX5_numerator wsX5_numerator) := goodIn_app (goodIn_of _ (by decide +kernel)) ggX12_chanceNumerator_X5_numerator
theorem dX12_chanceNumerator_0 : decode cX12_chanceNumerator 0 = .ok (.iload_n 1, 1) := by decide +kernel
theorem dX12_chanceNumerator_1 : decode cX12_chanceNumerator 1 = .ok (.invokestatic 205, 3) := by decide +kernel
theorem dX12_chanceNumerator_4 : decode cX12_chanceNumerator 4 = .ok (.iload_n 2, 1) := by decide +kernel
theorem dX12_chanceNumerator_5 : decode cX12_chanceNumerator 5 = .ok (.invokestatic 169, 3) := by decide +kernel
theorem dX12_chanceNumerator_8 : decode cX12_chanceNumerator 8 = .ok (.aload_n 0, 1) := by decide +kernel
theorem dX12_chanceNumerator_9 : decode cX12_chanceNumerator 9 = .ok (.getfield 43, 3) := by decide +kernel
theorem dX12_chanceNumerator_12 : decode cX12_chanceNumerator 12 = .ok (.aload_n 0, 1) := by decide +kernel
theorem dX12_chanceNumerator_13 : decode cX12_chanceNumerator 13 = .ok (.getfield 12, 3) := by decide +kernel
theorem dX12_chanceNumerator_16 : decode cX12_chanceNumerator 16 = .ok (.getfield 179, 3) := by decide +kernel
theorem dX12_chanceNumerator_19 : decode cX12_chanceNumerator 19 = .ok (.iload_n 1, 1) := by decide +kernel
theorem dX12_chanceNumerator_20 : decode cX12_chanceNumerator 20 = .ok (.invokevirtual 208, 3) := by decide +kernel
theorem dX12_chanceNumerator_23 : decode cX12_chanceNumerator 23 = .ok (.iload_n 2, 1) := by decide +kernel
theorem dX12_chanceNumerator_24 : decode cX12_chanceNumerator 24 = .ok (.invokevirtual 212, 3) := by decide +kernel
theorem dX12_chanceNumerator_27 : decode cX12_chanceNumerator 27 = .ok (.lreturn, 1) := by decide +kernel
set_option maxRecDepth 20000 in
theorem ggX12_chanceDenominator_X12_requireDays : GoodIn wsX12_chanceDenominator wsX12_requireDays := goodIn_ca (goodIn_r _ [6, 7, 8] (by decide +kernel) (by decide +kernel)) (goodIn_sub (fun _ h => List.mem_cons_of_mem _ (List.mem_append_left _ (List.mem_append_left _ (List.mem_append_right _ h)))) (by decide +kernel))
set_option maxRecDepth 20000 in
theorem gX12_chanceDenominator_X12_requireDays : GoodIn wsX12_chanceDenominator (va_wsS RX12 205 yX12_requireDays wsX12_requireDays) := goodIn_app (goodIn_of _ (by decide +kernel)) ggX12_chanceDenominator_X12_requireDays
set_option maxRecDepth 20000 in
theorem ggX12_chanceDenominator_X12_requireWeather : GoodIn wsX12_chanceDenominator wsX12_requireWeather := goodIn_ca (goodIn_r _ [11, 7, 8, 12, 13, 14, 15] (by decide +kernel) (by decide +kernel)) (goodIn_sub (fun _ h => List.mem_cons_of_mem _ (List.mem_append_left _ (List.mem_append_left _ (List.mem_append_right _ h)))) (by decide +kernel))
set_option maxRecDepth 20000 in
theorem gX12_chanceDenominator_X12_requireWeather : GoodIn wsX12_chanceDenominator (va_wsS RX12 169 yX12_requireWeather wsX12_requireWeather) := goodIn_app (goodIn_of _ (by decide +kernel)) ggX12_chanceDenominator_X12_requireWeather
set_option maxRecDepth 20000 in
theorem ggX12_chanceDenominator_X1_dayByDay : GoodIn wsX12_chanceDenominator wsX1_dayByDay := goodIn_ca (goodIn_ca (goodIn_r _ [20, 21, 22, 23, 24, 25, 26, 27, 28, 29, 30, 31, 32, 33, 34, 13, 14, 15, 35, 36, 37, 38, 39, 40, 19, 41, 42, 43, 44, 45, 46, 47, 48, 49, 50, 51, 52, 53, 54, 55, 56, 57, 58, 59, 60, 61, 62, 63, 80, 81, 82, 83, 84, 85, 86, 87] (by decide +kernel) (by decide +kernel)) (goodIn_sub (fun _ h => List.mem_cons_of_mem _ (List.mem_append_left _ (List.mem_append_right _ h))) (by decide +kernel))) (goodIn_sub (fun _ h => List.mem_cons_of_mem _ (List.mem_append_right _ h)) (by decide +kernel))
set_option maxRecDepth 20000 in
theorem gX12_chanceDenominator_X1_dayByDay : GoodIn wsX12_chanceDenominator (wsV RX12 208 RX1 yX1_dayByDay wsX1_dayByDay) := goodIn_app (goodIn_of _ (by decide +kernel)) ggX12_chanceDenominator_X1_dayByDay
set_option maxRecDepth 20000 in
theorem ggX12_chanceDenominator_X5_denominator : GoodIn wsX12_chanceDenominator wsX5_denominator := goodIn_ca (goodIn_r _ [59, 29, 34, 13, 14, 15, 86, 87] (by decide +kernel) (by decide +kernel)) (goodIn_sub (fun _ h => List.mem_cons_of_mem _ (List.mem_append_left _ (List.mem_append_right _ h))) (by decide +kernel))
set_option maxRecDepth 20000 in
theorem gX12_chanceDenominator_X5_denominator : GoodIn wsX12_chanceDenominator (wsV RX12 218 RX5 yX5_denominator wsX5_denominator) := goodIn_app (goodIn_of _ (by decide +kernel)) ggX12_chanceDenominator_X5_denominator
theorem dX12_chanceDenominator_0 : decode cX12_chanceDenominator 0 = .ok (.iload_n 1, 1) := by decide +kernel
theorem dX12_chanceDenominator_1 : decode cX12_chanceDenominator 1 = .ok (.invokestatic 205, 3) := by decide +kernel
theorem dX12_chanceDenominator_4 : decode cX12_chanceDenominator 4 = .ok (.iload_n 2, 1) := by decide +kernel
theorem dX12_chanceDenominator_5 : decode cX12_chanceDenominator 5 = .ok (.invokestatic 169, 3) := by decide +kernel
theorem dX12_chanceDenominator_8 : decode cX12_chanceDenominator 8 = .ok (.aload_n 0, 1) := by decide +kernel
theorem dX12_chanceDenominator_9 : decode cX12_chanceDenominator 9 = .ok (.getfield 43, 3) := by decide +kernel
theorem dX12_chanceDenominator_12 : decode cX12_chanceDenominator 12 = .ok (.aload_n 0, 1) := by decide +kernel
theorem dX12_chanceDenominator_13 : decode cX12_chanceDenominator 13 = .ok (.getfield 12, 3) := by decide +kernel
theorem dX12_chanceDenominator_16 : decode cX12_chanceDenominator 16 = .ok (.getfield 179, 3) := by decide +kernel
theorem dX12_chanceDenominator_19 : decode cX12_chanceDenominator 19 = .ok (.iload_n 1, 1) := by decide +kernel
theorem dX12_chanceDenominator_20 : decode cX12_chanceDenominator 20 = .ok (.invokevirtual 208, 3) := by decide +kernel
theorem dX12_chanceDenominator_23 : decode cX12_chanceDenominator 23 = .ok (.iload_n 2, 1) := by decide +kernel
theorem dX12_chanceDenominator_24 : decode cX12_chanceDenominator 24 = .ok (.invokevirtual 218, 3) := by decide +kernel
theorem dX12_chanceDenominator_27 : decode cX12_chanceDenominator 27 = .ok (.lreturn, 1) := by decide +kernel
set_option maxRecDepth 20000 in
theorem ggX12_numeratorByBranches_X12_requireDays : GoodIn wsX12_numeratorByBranches wsX12_requireDays := goodIn_ca (goodIn_r _ [6, 7, 8] (by decide +kernel) (by decide +kernel)) (goodIn_sub (fun _ h => List.mem_cons_of_mem _ (List.mem_append_left _ (List.mem_append_left _ (List.mem_append_right _ h)))) (by decide +kernel))
set_option maxRecDepth 20000 in
theorem gX12_numeratorByBranches_X12_requireDays : GoodIn wsX12_numeratorByBranches (va_wsS RX12 205 yX12_requireDays wsX12_requireDays) := goodIn_app (goodIn_of _ (by decide +kernel)) ggX12_numeratorByBranches_X12_requireDays
set_option maxRecDepth 20000 in
theorem ggX12_numeratorByBranches_X12_requireWeather : GoodIn wsX12_numeratorByBranches wsX12_requireWeather := goodIn_ca (goodIn_r _ [11, 7, 8, 12, 13, 14, 15] (by decide +kernel) (by decide +kernel)) (goodIn_sub (fun _ h => List.mem_cons_of_mem _ (List.mem_append_left _ (List.mem_append_left _ (List.mem_append_right _ h)))) (by decide +kernel))
set_option maxRecDepth 20000 in
theorem gX12_numeratorByBranches_X12_requireWeather : GoodIn wsX12_numeratorByBranches (va_wsS RX12 169 yX12_requireWeather wsX12_requireWeather) := goodIn_app (goodIn_of _ (by decide +kernel)) ggX12_numeratorByBranches_X12_requireWeather
set_option maxRecDepth 20000 in
theorem ggX12_numeratorByBranches_X1_branchByBranch : GoodIn wsX12_numeratorByBranches wsX1_branchByBranch := goodIn_ca (goodIn_ca (goodIn_r _ [20, 21, 22, 23, 24, 25, 26, 27, 28, 29, 30, 31, 32, 19, 33, 34, 35, 36, 14, 37, 38, 39, 13, 15, 40, 41, 42, 43, 44, 45, 46, 47, 48, 49, 50, 51, 52, 72, 73, 74, 75, 76, 77, 78, 79] (by decide +kernel) (by decide +kernel)) (goodIn_sub (fun _ h => List.mem_cons_of_mem _ (List.mem_append_left _ (List.mem_append_right _ h))) (by decide +kernel))) (goodIn_sub (fun _ h => List.mem_cons_of_mem _ (List.mem_append_right _ h)) (by decide +kernel))
set_option maxRecDepth 20000 in
theorem gX12_numeratorByBranches_X1_branchByBranch : GoodIn wsX12_numeratorByBranches (wsV RX12 221 RX1 yX1_branchByBranch wsX1_branchByBranch) := goodIn_app (goodIn_of _ (by decide +kernel)) ggX12_numeratorByBranches_X1_branchByBranch
set_option maxRecDepth 20000 in
theorem ggX12_numeratorByBranches_X5_numerator : GoodIn wsX12_numeratorByBranches wsX5_numerator := goodIn_ca (goodIn_r _ [56, 28, 49, 13, 14, 15, 76, 77] (by decide +kernel) (by decide +kernel)) (goodIn_sub (fun _ h => List.mem_cons_of_mem _ (List.mem_append_left _ (List.mem_append_right _ h))) (by decide +kernel))
set_option maxRecDepth 20000 in
theorem gX12_numeratorByBranches_X5_numerator : GoodIn wsX12_numeratorByBranches (wsV RX12 212 RX5 yX5_numerator wsX5_numerator) := goodIn_app (goodIn_of _ (by decide +kernel)) ggX12_numeratorByBranches_X5_numerator
theorem dX12_numeratorByBranches_0 : decode cX12_numeratorByBranches 0 = .ok (.iload_n 1, 1) := by decide +kernel
theorem dX12_numeratorByBranches_1 : decode cX12_numeratorByBranches 1 = .ok (.invokestatic 205, 3) := by decide +kernel
theorem dX12_numeratorByBranches_4 : decode cX12_numeratorByBranches 4 = .ok (.iload_n 2, 1) := by decide +kernel
theorem dX12_numeratorByBranches_5 : decode cX12_numeratorByBranches 5 = .ok (.invokestatic 169, 3) := by decide +kernel
theorem dX12_numeratorByBranches_8 : decode cX12_numeratorByBranches 8 = .ok (.aload_n 0, 1) := by decide +kernel
theorem dX12_numeratorByBranches_9 : decode cX12_numeratorByBranches 9 = .ok (.getfield 43, 3) := by decide +kernel
theorem dX12_numeratorByBranches_12 : decode cX12_numeratorByBranches 12 = .ok (.aload_n 0, 1) := by decide +kernel
theorem dX12_numeratorByBranches_13 : decode cX12_numeratorByBranches 13 = .ok (.getfield 12, 3) := by decide +kernel
theorem dX12_numeratorByBranches_16 : decode cX12_numeratorByBranches 16 = .ok (.getfield 179, 3) := by decide +kernel
theorem dX12_numeratorByBranches_19 : decode cX12_numeratorByBranches 19 = .ok (.iload_n 1, 1) := by decide +kernel
theorem dX12_numeratorByBranches_20 : decode cX12_numeratorByBranches 20 = .ok (.invokevirtual 221, 3) := by decide +kernel
theorem dX12_numeratorByBranches_23 : decode cX12_numeratorByBranches 23 = .ok (.iload_n 2, 1) := by decide +kernel
theorem dX12_numeratorByBranches_24 : decode cX12_numeratorByBranches 24 = .ok (.invokevirtual 212, 3) := by decide +kernel
theorem dX12_numeratorByBranches_27 : decode cX12_numeratorByBranches 27 = .ok (.lreturn, 1) := by decide +kernel
set_option maxRecDepth 20000 in
theorem ggX12_denominatorByBranches_X12_requireDays : GoodIn wsX12_denominatorByBranches wsX12_requireDays := goodIn_ca (goodIn_r _ [6, 7, 8] (by decide +kernel) (by decide +kernel)) (goodIn_sub (fun _ h => List.mem_cons_of_mem _ (List.mem_append_left _ (List.mem_append_left _ (List.mem_append_right _ h)))) (by decide +kernel))
set_option maxRecDepth 20000 in
theorem gX12_denominatorByBranches_X12_requireDays : GoodIn wsX12_denominatorByBranches (va_wsS RX12 205 yX12_requireDays wsX12_requireDays) := goodIn_app (goodIn_of _ (by decide +kernel)) ggX12_denominatorByBranches_X12_requireDays
set_option maxRecDepth 20000 in
theorem ggX12_denominatorByBranches_X12_requireWeather : GoodIn wsX12_denominatorByBranches wsX12_requireWeather := goodIn_ca (goodIn_r _ [11, 7, 8, 12, 13, 14, 15] (by decide +kernel) (by decide +kernel)) (goodIn_sub (fun _ h => List.mem_cons_of_mem _ (List.mem_append_left _ (List.mem_append_left _ (List.mem_append_right _ h)))) (by decide +kernel))
set_option maxRecDepth 20000 in
theorem gX12_denominatorByBranches_X12_requireWeather : GoodIn wsX12_denominatorByBranches (va_wsS RX12 169 yX12_requireWeather wsX12_requireWeather) := goodIn_app (goodIn_of _ (by decide +kernel)) ggX12_denominatorByBranches_X12_requireWeather
set_option maxRecDepth 20000 in
theorem ggX12_denominatorByBranches_X1_branchByBranch : GoodIn wsX12_denominatorByBranches wsX1_branchByBranch := goodIn_ca (goodIn_ca (goodIn_r _ [20, 21, 22, 23, 24, 25, 26, 27, 28, 29, 30, 31, 32, 19, 33, 34, 35, 36, 14, 37, 38, 39, 13, 15, 40, 41, 42, 43, 44, 45, 46, 47, 48, 49, 50, 51, 52, 72, 73, 74, 75, 76, 77, 78, 79] (by decide +kernel) (by decide +kernel)) (goodIn_sub (fun _ h => List.mem_cons_of_mem _ (List.mem_append_left _ (List.mem_append_right _ h))) (by decide +kernel))) (goodIn_sub (fun _ h => List.mem_cons_of_mem _ (List.mem_append_right _ h)) (by decide +kernel))
set_option maxRecDepth 20000 in
theorem gX12_denominatorByBranches_X1_branchByBranch : GoodIn wsX12_denominatorByBranches (wsV RX12 221 RX1 yX1_branchByBranch wsX1_branchByBranch) := goodIn_app (goodIn_of _ (by decide +kernel)) ggX12_denominatorByBranches_X1_branchByBranch
set_option maxRecDepth 20000 in
theorem ggX12_denominatorByBranches_X5_denominator : GoodIn wsX12_denominatorByBranches wsX5_denominator := goodIn_ca (goodIn_r _ [56, 29, 49, 13, 14, 15, 76, 77] (by decide +kernel) (by decide +kernel)) (goodIn_sub (fun _ h => List.mem_cons_of_mem _ (List.mem_append_left _ (List.mem_append_right _ h))) (by decide +kernel))
set_option maxRecDepth 20000 in
theorem gX12_denominatorByBranches_X5_denominator : GoodIn wsX12_denominatorByBranches (wsV RX12 218 RX5 yX5_denominator wsX5_denominator) := goodIn_app (goodIn_of _ (by decide +kernel)) ggX12_denominatorByBranches_X5_denominator
theorem dX12_denominatorByBranches_0 : decode cX12_denominatorByBranches 0 = .ok (.iload_n 1, 1) := by decide +kernel
theorem dX12_denominatorByBranches_1 : decode cX12_denominatorByBranches 1 = .ok (.invokestatic 205, 3) := by decide +kernel
theorem dX12_denominatorByBranches_4 : decode cX12_denominatorByBranches 4 = .ok (.iload_n 2, 1) := by decide +kernel
theorem dX12_denominatorByBranches_5 : decode cX12_denominatorByBranches 5 = .ok (.invokestatic 169, 3) := by decide +kernel
theorem dX12_denominatorByBranches_8 : decode cX12_denominatorByBranches 8 = .ok (.aload_n 0, 1) := by decide +kernel
theorem dX12_denominatorByBranches_9 : decode cX12_denominatorByBranches 9 = .ok (.getfield 43, 3) := by decide +kernel
theorem dX12_denominatorByBranches_12 : decode cX12_denominatorByBranches 12 = .ok (.aload_n 0, 1) := by decide +kernel
theorem dX12_denominatorByBranches_13 : decode cX12_denominatorByBranches 13 = .ok (.getfield 12, 3) := by decide +kernel
theorem dX12_denominatorByBranches_16 : decode cX12_denominatorByBranches 16 = .ok (.getfield 179, 3) := by decide +kernel
theorem dX12_denominatorByBranches_19 : decode cX12_denominatorByBranches 19 = .ok (.iload_n 1, 1) := by decide +kernel
theorem dX12_denominatorByBranches_20 : decode cX12_denominatorByBranches 20 = .ok (.invokevirtual 221, 3) := by decide +kernel
theorem dX12_denominatorByBranches_23 : decode cX12_denominatorByBranches 23 = .ok (.iload_n 2, 1) := by decide +kernel
theorem dX12_denominatorByBranches_24 : decode cX12_denominatorByBranches 24 = .ok (.invokevirtual 218, 3) := by decide +kernel
theorem dX12_denominatorByBranches_27 : decode cX12_denominatorByBranches 27 = .ok (.lreturn, 1) := by decide +kernel
set_option maxRecDepth 20000 in
theorem ggX12_sequenceCount_X12_requireDays : GoodIn wsX12_sequenceCount wsX12_requireDays := goodIn_ca (goodIn_r _ [6, 7, 8] (by decide +kernel) (by decide +kernel)) (goodIn_sub (fun _ h => List.mem_cons_of_mem _ (List.mem_append_left _ (List.mem_append_left _ (List.mem_append_right _ h)))) (by decide +kernel))
set_option maxRecDepth 20000 in
theorem gX12_sequenceCount_X12_requireDays : GoodIn wsX12_sequenceCount (va_wsS RX12 205 yX12_requireDays wsX12_requireDays) := goodIn_app (goodIn_of _ (by decide +kernel)) ggX12_sequenceCount_X12_requireDays
set_option maxRecDepth 20000 in
theorem ggX12_sequenceCount_X12_requireWeather : GoodIn wsX12_sequenceCount wsX12_requireWeather := goodIn_ca (goodIn_r _ [11, 7, 8, 12, 13, 14, 15] (by decide +kernel) (by decide +kernel)) (goodIn_sub (fun _ h => List.mem_cons_of_mem _ (List.mem_append_left _ (List.mem_append_left _ (List.mem_append_right _ h)))) (by decide +kernel))
set_option maxRecDepth 20000 in
theorem gX12_sequenceCount_X12_requireWeather : GoodIn wsX12_sequenceCount (va_wsS RX12 169 yX12_requireWeather wsX12_requireWeather) := goodIn_app (goodIn_of _ (by decide +kernel)) ggX12_sequenceCount_X12_requireWeather
set_option maxRecDepth 20000 in
theorem ggX12_sequenceCount_X1_branchByBranch : GoodIn wsX12_sequenceCount wsX1_branchByBranch := goodIn_ca (goodIn_ca (goodIn_r _ [20, 21, 22, 23, 24, 25, 26, 27, 28, 29, 30, 31, 32, 19, 33, 34, 35, 36, 14, 37, 38, 39, 13, 15, 40, 41, 42, 43, 44, 45, 46, 47, 48, 49, 50, 51, 52, 72, 73, 74, 75, 76, 77, 78, 79] (by decide +kernel) (by decide +kernel)) (goodIn_sub (fun _ h => List.mem_cons_of_mem _ (List.mem_append_left _ (List.mem_append_right _ h))) (by decide +kernel))) (goodIn_sub (fun _ h => List.mem_cons_of_mem _ (List.mem_append_right _ h)) (by decide +kernel))
set_option maxRecDepth 20000 in
theorem gX12_sequenceCount_X1_branchByBranch : GoodIn wsX12_sequenceCount (wsV RX12 221 RX1 yX1_branchByBranch wsX1_branchByBranch) := goodIn_app (goodIn_of _ (by decide +kernel)) ggX12_sequenceCount_X1_branchByBranch
set_option maxRecDepth 20000 in
theorem ggX12_sequenceCount_X1_sequencesTo : GoodIn wsX12_sequenceCount wsX1_sequencesTo := goodIn_ca (goodIn_r _ [56, 22, 44, 13, 14, 15, 72, 73, 74, 75] (by decide +kernel) (by decide +kernel)) (goodIn_sub (fun _ h => List.mem_cons_of_mem _ (List.mem_append_left _ (List.mem_append_right _ h))) (by decide +kernel))
set_option maxRecDepth 20000 in
theorem gX12_sequenceCount_X1_sequencesTo : GoodIn wsX12_sequenceCount (wsV RX12 224 RX1 yX1_sequencesTo wsX1_sequencesTo) := goodIn_app (goodIn_of _ (by decide +kernel)) ggX12_sequenceCount_X1_sequencesTo
theorem dX12_sequenceCount_0 : decode cX12_sequenceCount 0 = .ok (.iload_n 1, 1) := by decide +kernel
theorem dX12_sequenceCount_1 : decode cX12_sequenceCount 1 = .ok (.invokestatic 205, 3) := by decide +kernel
theorem dX12_sequenceCount_4 : decode cX12_sequenceCount 4 = .ok (.iload_n 2, 1) := by decide +kernel
theorem dX12_sequenceCount_5 : decode cX12_sequenceCount 5 = .ok (.invokestatic 169, 3) := by decide +kernel
theorem dX12_sequenceCount_8 : decode cX12_sequenceCount 8 = .ok (.aload_n 0, 1) := by decide +kernel
theorem dX12_sequenceCount_9 : decode cX12_sequenceCount 9 = .ok (.getfield 43, 3) := by decide +kernel
theorem dX12_sequenceCount_12 : decode cX12_sequenceCount 12 = .ok (.aload_n 0, 1) := by decide +kernel
theorem dX12_sequenceCount_13 : decode cX12_sequenceCount 13 = .ok (.getfield 12, 3) := by decide +kernel
theorem dX12_sequenceCount_16 : decode cX12_sequenceCount 16 = .ok (.getfield 179, 3) := by decide +kernel
theorem dX12_sequenceCount_19 : decode cX12_sequenceCount 19 = .ok (.iload_n 1, 1) := by decide +kernel
theorem dX12_sequenceCount_20 : decode cX12_sequenceCount 20 = .ok (.invokevirtual 221, 3) := by decide +kernel
theorem dX12_sequenceCount_23 : decode cX12_sequenceCount 23 = .ok (.pop, 1) := by decide +kernel
theorem dX12_sequenceCount_24 : decode cX12_sequenceCount 24 = .ok (.aload_n 0, 1) := by decide +kernel
theorem dX12_sequenceCount_25 : decode cX12_sequenceCount 25 = .ok (.getfield 43, 3) := by decide +kernel
theorem dX12_sequenceCount_28 : decode cX12_sequenceCount 28 = .ok (.iload_n 2, 1) := by decide +kernel
theorem dX12_sequenceCount_29 : decode cX12_sequenceCount 29 = .ok (.invokevirtual 224, 3) := by decide +kernel
theorem dX12_sequenceCount_32 : decode cX12_sequenceCount 32 = .ok (.ireturn, 1) := by decide +kernel
set_option maxRecDepth 20000 in
theorem ggX12_likeliest_X12_requireDays : GoodIn wsX12_likeliest wsX12_requireDays := goodIn_ca (goodIn_r _ [6, 7, 8] (by decide +kernel) (by decide +kernel)) (goodIn_sub (fun _ h => List.mem_cons_of_mem _ (List.mem_append_left _ (List.mem_append_left _ (List.mem_append_right _ h)))) (by decide +kernel))
set_option maxRecDepth 20000 in
theorem gX12_likeliest_X12_requireDays : GoodIn wsX12_likeliest (va_wsS RX12 205 yX12_requireDays wsX12_requireDays) := goodIn_app (goodIn_of _ (by decide +kernel)) ggX12_likeliest_X12_requireDays
set_option maxRecDepth 20000 in
theorem ggX12_likeliest_X1_dayByDay : GoodIn wsX12_likeliest wsX1_dayByDay := goodIn_ca (goodIn_ca (goodIn_r _ [13, 14, 15, 16, 17, 18, 19, 20, 21, 22, 23, 24, 25, 26, 27, 28, 29, 30, 31, 32, 33, 34, 35, 36, 12, 37, 38, 39, 40, 41, 42, 43, 44, 45, 46, 47, 48, 49, 50, 51, 52, 53, 54, 55, 56, 57, 58, 59, 81, 82, 83, 84, 85, 86, 87, 88] (by decide +kernel) (by decide +kernel)) (goodIn_sub (fun _ h => List.mem_cons_of_mem _ (List.mem_append_left _ (List.mem_append_right _ h))) (by decide +kernel))) (goodIn_sub (fun _ h => List.mem_cons_of_mem _ (List.mem_append_right _ h)) (by decide +kernel))
set_option maxRecDepth 20000 in
theorem gX12_likeliest_X1_dayByDay : GoodIn wsX12_likeliest (wsV RX12 208 RX1 yX1_dayByDay wsX1_dayByDay) := goodIn_app (goodIn_of _ (by decide +kernel)) ggX12_likeliest_X1_dayByDay
set_option maxRecDepth 20000 in
theorem ggX12_likeliest_X5_greatest : GoodIn wsX12_likeliest wsX5_greatest := goodIn_ca (goodIn_r _ [63, 21, 22, 64, 53, 54, 19, 55, 27, 28, 29, 30, 65, 45, 46, 47, 87, 88] (by decide +kernel) (by decide +kernel)) (goodIn_sub (fun _ h => List.mem_cons_of_mem _ (List.mem_append_left _ (List.mem_append_right _ h))) (by decide +kernel))
set_option maxRecDepth 20000 in
theorem gX12_likeliest_X5_greatest : GoodIn wsX12_likeliest (wsV RX12 227 RX5 yX5_greatest wsX5_greatest) := goodIn_app (goodIn_of _ (by decide +kernel)) ggX12_likeliest_X5_greatest
theorem dX12_likeliest_0 : decode cX12_likeliest 0 = .ok (.iload_n 1, 1) := by decide +kernel
theorem dX12_likeliest_1 : decode cX12_likeliest 1 = .ok (.invokestatic 205, 3) := by decide +kernel
theorem dX12_likeliest_4 : decode cX12_likeliest 4 = .ok (.aload_n 0, 1) := by decide +kernel
theorem dX12_likeliest_5 : decode cX12_likeliest 5 = .ok (.getfield 43, 3) := by decide +kernel
theorem dX12_likeliest_8 : decode cX12_likeliest 8 = .ok (.aload_n 0, 1) := by decide +kernel
theorem dX12_likeliest_9 : decode cX12_likeliest 9 = .ok (.getfield 12, 3) := by decide +kernel
theorem dX12_likeliest_12 : decode cX12_likeliest 12 = .ok (.getfield 179, 3) := by decide +kernel
theorem dX12_likeliest_15 : decode cX12_likeliest 15 = .ok (.iload_n 1, 1) := by decide +kernel
theorem dX12_likeliest_16 : decode cX12_likeliest 16 = .ok (.invokevirtual 208, 3) := by decide +kernel
theorem dX12_likeliest_19 : decode cX12_likeliest 19 = .ok (.invokevirtual 227, 3) := by decide +kernel
theorem dX12_likeliest_22 : decode cX12_likeliest 22 = .ok (.ireturn, 1) := by decide +kernel
set_option maxRecDepth 20000 in
theorem ggX12_shownWeather_X9_flood : GoodIn wsX12_shownWeather wsX9_flood := goodIn_ca (goodIn_r _ [7, 8, 9, 10, 11, 12, 13, 6, 14, 15, 16, 17, 18, 19, 20, 21, 22, 23, 24, 25, 26, 27, 28, 29, 30, 31, 32, 33, 34, 35, 36, 37, 38, 39, 40, 41, 42, 43, 59, 60, 61, 62, 63, 64] (by decide +kernel) (by decide +kernel)) (goodIn_sub (fun _ h => List.mem_cons_of_mem _ (List.mem_append_right _ h)) (by decide +kernel))
set_option maxRecDepth 20000 in
theorem gX12_shownWeather_X9_flood : GoodIn wsX12_shownWeather (wsV RX12 156 RX9 yX9_flood wsX9_flood) := goodIn_app (goodIn_of _ (by decide +kernel)) ggX12_shownWeather_X9_flood
theorem dX12_shownWeather_0 : decode cX12_shownWeather 0 = .ok (.aload_n 0, 1) := by decide +kernel
theorem dX12_shownWeather_1 : decode cX12_shownWeather 1 = .ok (.getfield 36, 3) := by decide +kernel
theorem dX12_shownWeather_4 : decode cX12_shownWeather 4 = .ok (.aload_n 0, 1) := by decide +kernel
theorem dX12_shownWeather_5 : decode cX12_shownWeather 5 = .ok (.getfield 12, 3) := by decide +kernel
theorem dX12_shownWeather_8 : decode cX12_shownWeather 8 = .ok (.getfield 89, 3) := by decide +kernel
theorem dX12_shownWeather_11 : decode cX12_shownWeather 11 = .ok (.invokevirtual 156, 3) := by decide +kernel
theorem dX12_shownWeather_14 : decode cX12_shownWeather 14 = .ok (.istore_n 1, 1) := by decide +kernel
theorem dX12_shownWeather_15 : decode cX12_shownWeather 15 = .ok (.iload_n 1, 1) := by decide +kernel
theorem dX12_shownWeather_16 : decode cX12_shownWeather 16 = .ok (.bipush 8, 2) := by decide +kernel
theorem dX12_shownWeather_18 : decode cX12_shownWeather 18 = .ok (.if_icmp .lt 5, 3) := by decide +kernel
theorem dX12_shownWeather_21 : decode cX12_shownWeather 21 = .ok (.iconst 3, 1) := by decide +kernel
theorem dX12_shownWeather_22 : decode cX12_shownWeather 22 = .ok (.ireturn, 1) := by decide +kernel
theorem dX12_shownWeather_23 : decode cX12_shownWeather 23 = .ok (.iload_n 1, 1) := by decide +kernel
theorem dX12_shownWeather_24 : decode cX12_shownWeather 24 = .ok (.iconst 4, 1) := by decide +kernel
theorem dX12_shownWeather_25 : decode cX12_shownWeather 25 = .ok (.if_icmp .lt 5, 3) := by decide +kernel
theorem dX12_shownWeather_28 : decode cX12_shownWeather 28 = .ok (.iconst 2, 1) := by decide +kernel
theorem dX12_shownWeather_29 : decode cX12_shownWeather 29 = .ok (.ireturn, 1) := by decide +kernel
theorem dX12_shownWeather_30 : decode cX12_shownWeather 30 = .ok (.iload_n 1, 1) := by decide +kernel
theorem dX12_shownWeather_31 : decode cX12_shownWeather 31 = .ok (.iconst 2, 1) := by decide +kernel
theorem dX12_shownWeather_32 : decode cX12_shownWeather 32 = .ok (.if_icmp .lt 7, 3) := by decide +kernel
theorem dX12_shownWeather_35 : decode cX12_shownWeather 35 = .ok (.iconst 1, 1) := by decide +kernel
theorem dX12_shownWeather_36 : decode cX12_shownWeather 36 = .ok (.goto 4, 3) := by decide +kernel
theorem dX12_shownWeather_39 : decode cX12_shownWeather 39 = .ok (.iconst 0, 1) := by decide +kernel
theorem dX12_shownWeather_40 : decode cX12_shownWeather 40 = .ok (.ireturn, 1) := by decide +kernel
set_option maxRecDepth 20000 in
theorem ggX12_issue_X2_isAhead : GoodIn wsX12_issue wsX2_isAhead := goodIn_r _ [10] (by decide +kernel) (by decide +kernel)
set_option maxRecDepth 20000 in
theorem gX12_issue_X2_isAhead : GoodIn wsX12_issue (va_wsS RX12 230 yX2_isAhead wsX2_isAhead) := goodIn_app (goodIn_of _ (by decide +kernel)) ggX12_issue_X2_isAhead
set_option maxRecDepth 20000 in
theorem ggX12_issue_X4_hasRoom : GoodIn wsX12_issue wsX4_hasRoom := goodIn_r _ [15, 16, 141, 142, 143, 144, 145, 146] (by decide +kernel) (by decide +kernel)
set_option maxRecDepth 20000 in
theorem gX12_issue_X4_hasRoom : GoodIn wsX12_issue (wsV RX12 239 RX4 yX4_hasRoom wsX4_hasRoom) := goodIn_app (goodIn_of _ (by decide +kernel)) ggX12_issue_X4_hasRoom
set_option maxRecDepth 20000 in
theorem ggX12_issue_X6_remember : GoodIn wsX12_issue wsX6_remember := goodIn_ca (goodIn_r _ [21, 22, 23, 24, 25, 26, 27, 28, 29, 30, 31, 32, 33, 34, 35, 36, 37, 38, 39, 40, 41, 42, 43, 44, 45, 46, 47, 9, 48, 49, 50, 51, 52, 53, 14, 54, 55, 56, 16, 57, 58, 59, 147, 148, 149, 137, 138, 139, 140, 150, 151, 152, 153, 141, 142, 143, 144, 145, 146] (by decide +kernel) (by decide +kernel)) (goodIn_sub (fun _ h => List.mem_cons_of_mem _ (List.mem_append_left _ (List.mem_append_right _ h))) (by decide +kernel))
set_option maxRecDepth 20000 in
theorem gX12_issue_X6_remember : GoodIn wsX12_issue (wsV RX12 85 RX6 yX6_remember wsX6_remember) := goodIn_app (goodIn_of _ (by decide +kernel)) ggX12_issue_X6_remember
set_option maxRecDepth 20000 in
theorem ggX12_issue_X12_foretell : GoodIn wsX12_issue wsX12_foretell := goodIn_ca (goodIn_ca (goodIn_r _ [64, 65, 5, 66, 67, 68, 69, 70, 71, 72, 73, 74, 75, 76, 77, 78, 79, 80, 81, 82, 83, 84, 85, 9, 86, 87, 88, 89, 90, 91, 92, 93, 94, 95, 96, 97, 49, 98, 99, 100, 101, 102, 103, 104, 105, 106, 107, 108, 109, 110, 111, 112, 113, 114, 115, 116, 117, 118, 119, 120, 121, 122, 123, 14, 124, 55, 16, 56, 125, 12, 13, 15, 126, 127, 128, 129, 130, 131, 132, 133, 134, 135, 136, 137, 138, 139, 140, 154, 155, 156, 157, 152, 153, 158, 159, 141, 142, 143, 144, 145, 146] (by decide +kernel) (by decide +kernel)) (goodIn_sub (fun _ h => List.mem_cons_of_mem _ (List.mem_append_left _ (List.mem_append_right _ h))) (by decide +kernel))) (goodIn_sub (fun _ h => List.mem_cons_of_mem _ (List.mem_append_right _ h)) (by decide +kernel))
set_option maxRecDepth 20000 in
theorem gX12_issue_X12_foretell : GoodIn wsX12_issue (wsV RX12 247 RX12 yX12_foretell wsX12_foretell) := goodIn_app (goodIn_of _ (by decide +kernel)) ggX12_issue_X12_foretell
theorem dX12_issue_0 : decode cX12_issue 0 = .ok (.iload_n 1, 1) := by decide +kernel
theorem dX12_issue_1 : decode cX12_issue 1 = .ok (.invokestatic 230, 3) := by decide +kernel
theorem dX12_issue_4 : decode cX12_issue 4 = .ok (.ifCond .ne 13, 3) := by decide +kernel
theorem dX12_issue_7 : decode cX12_issue 7 = .ok (.new 78, 3) := by decide +kernel
theorem dX12_issue_10 : decode cX12_issue 10 = .ok (.dup, 1) := by decide +kernel
theorem dX12_issue_11 : decode cX12_issue 11 = .ok (.ldc 233, 2) := by decide +kernel
theorem dX12_issue_13 : decode cX12_issue 13 = .ok (.invokespecial 82, 3) := by decide +kernel
theorem dX12_issue_16 : decode cX12_issue 16 = .ok (.athrow, 1) := by decide +kernel
theorem dX12_issue_17 : decode cX12_issue 17 = .ok (.aload_n 0, 1) := by decide +kernel
theorem dX12_issue_18 : decode cX12_issue 18 = .ok (.getfield 12, 3) := by decide +kernel
theorem dX12_issue_21 : decode cX12_issue 21 = .ok (.getfield 235, 3) := by decide +kernel
theorem dX12_issue_24 : decode cX12_issue 24 = .ok (.invokevirtual 239, 3) := by decide +kernel
theorem dX12_issue_27 : decode cX12_issue 27 = .ok (.ifCond .ne 13, 3) := by decide +kernel
theorem dX12_issue_30 : decode cX12_issue 30 = .ok (.new 187, 3) := by decide +kernel
theorem dX12_issue_33 : decode cX12_issue 33 = .ok (.dup, 1) := by decide +kernel
theorem dX12_issue_34 : decode cX12_issue 34 = .ok (.ldc 245, 2) := by decide +kernel
theorem dX12_issue_36 : decode cX12_issue 36 = .ok (.invokespecial 191, 3) := by decide +kernel
theorem dX12_issue_39 : decode cX12_issue 39 = .ok (.athrow, 1) := by decide +kernel
theorem dX12_issue_40 : decode cX12_issue 40 = .ok (.aload_n 0, 1) := by decide +kernel
theorem dX12_issue_41 : decode cX12_issue 41 = .ok (.getfield 29, 3) := by decide +kernel
theorem dX12_issue_44 : decode cX12_issue 44 = .ok (.aload_n 0, 1) := by decide +kernel
theorem dX12_issue_45 : decode cX12_issue 45 = .ok (.getfield 12, 3) := by decide +kernel
theorem dX12_issue_48 : decode cX12_issue 48 = .ok (.invokevirtual 85, 3) := by decide +kernel
theorem dX12_issue_51 : decode cX12_issue 51 = .ok (.aload_n 0, 1) := by decide +kernel
theorem dX12_issue_52 : decode cX12_issue 52 = .ok (.iload_n 1, 1) := by decide +kernel
theorem dX12_issue_53 : decode cX12_issue 53 = .ok (.invokevirtual 247, 3) := by decide +kernel
theorem dX12_issue_56 : decode cX12_issue 56 = .ok (.aload_n 0, 1) := by decide +kernel
theorem dX12_issue_57 : decode cX12_issue 57 = .ok (.getfield 12, 3) := by decide +kernel
theorem dX12_issue_60 : decode cX12_issue 60 = .ok (.getfield 235, 3) := by decide +kernel
theorem dX12_issue_63 : decode cX12_issue 63 = .ok (.getfield 250, 3) := by decide +kernel
theorem dX12_issue_66 : decode cX12_issue 66 = .ok (.iconst 1, 1) := by decide +kernel
theorem dX12_issue_67 : decode cX12_issue 67 = .ok (.isub, 1) := by decide +kernel
theorem dX12_issue_68 : decode cX12_issue 68 = .ok (.ireturn, 1) := by decide +kernel
set_option maxRecDepth 20000 in
theorem ggX12_withdraw_X12_requireForecast : GoodIn wsX12_withdraw wsX12_requireForecast := goodIn_ca (goodIn_r _ [7, 8, 9, 2, 10, 11, 12, 13, 14, 15, 65, 66, 67, 68, 69, 70, 71, 72, 73, 74, 75, 76, 77, 78, 79, 80, 81, 82, 83, 84, 85] (by decide +kernel) (by decide +kernel)) (goodIn_sub (fun _ h => List.mem_cons_of_mem _ (List.mem_append_left _ (List.mem_append_right _ h))) (by decide +kernel))
set_option maxRecDepth 20000 in
theorem gX12_withdraw_X12_requireForecast : GoodIn wsX12_withdraw (wsV RX12 253 RX12 yX12_requireForecast wsX12_requireForecast) := goodIn_app (goodIn_of _ (by decide +kernel)) ggX12_withdraw_X12_requireForecast
set_option maxRecDepth 20000 in
theorem ggX12_withdraw_X6_remember : GoodIn wsX12_withdraw wsX6_remember := goodIn_ca (goodIn_r _ [20, 21, 22, 23, 24, 25, 26, 27, 28, 29, 30, 31, 32, 33, 34, 35, 36, 37, 38, 39, 40, 41, 42, 43, 44, 45, 46, 47, 48, 49, 50, 51, 52, 53, 13, 54, 55, 56, 15, 57, 58, 59, 86, 87, 88, 76, 77, 78, 79, 89, 90, 91, 92, 80, 81, 82, 83, 84, 85] (by decide +kernel) (by decide +kernel)) (goodIn_sub (fun _ h => List.mem_cons_of_mem _ (List.mem_append_right _ h)) (by decide +kernel))
set_option maxRecDepth 20000 in
theorem gX12_withdraw_X6_remember : GoodIn wsX12_withdraw (wsV RX12 85 RX6 yX6_remember wsX6_remember) := goodIn_app (goodIn_of _ (by decide +kernel)) ggX12_withdraw_X6_remember
set_option maxRecDepth 20000 in
theorem ggX12_withdraw_X4_remove : GoodIn wsX12_withdraw wsX4_remove := goodIn_ca (goodIn_r _ [63, 15, 55, 56, 64, 11, 12, 13, 14, 80, 81, 82, 83, 84, 85] (by decide +kernel) (by decide +kernel)) (goodIn_sub (fun _ h => List.mem_cons_of_mem _ (List.mem_append_right _ h)) (by decide +kernel))
set_option maxRecDepth 20000 in
theorem gX12_withdraw_X4_remove : GoodIn wsX12_withdraw (wsV RX12 256 RX4 yX4_remove wsX4_remove) := goodIn_app (goodIn_of _ (by decide +kernel)) ggX12_withdraw_X4_remove
theorem dX12_withdraw_0 : decode cX12_withdraw 0 = .ok (.aload_n 0, 1) := by decide +kernel
theorem dX12_withdraw_1 : decode cX12_withdraw 1 = .ok (.iload_n 1, 1) := by decide +kernel
theorem dX12_withdraw_2 : decode cX12_withdraw 2 = .ok (.invokevirtual 253, 3) := by decide +kernel
theorem dX12_withdraw_5 : decode cX12_withdraw 5 = .ok (.aload_n 0, 1) := by decide +kernel
theorem dX12_withdraw_6 : decode cX12_withdraw 6 = .ok (.getfield 29, 3) := by decide +kernel
theorem dX12_withdraw_9 : decode cX12_withdraw 9 = .ok (.aload_n 0, 1) := by decide +kernel
theorem dX12_withdraw_10 : decode cX12_withdraw 10 = .ok (.getfield 12, 3) := by decide +kernel
theorem dX12_withdraw_13 : decode cX12_withdraw 13 = .ok (.invokevirtual 85, 3) := by decide +kernel
theorem dX12_withdraw_16 : decode cX12_withdraw 16 = .ok (.aload_n 0, 1) := by decide +kernel
theorem dX12_withdraw_17 : decode cX12_withdraw 17 = .ok (.getfield 12, 3) := by decide +kernel
theorem dX12_withdraw_20 : decode cX12_withdraw 20 = .ok (.getfield 235, 3) := by decide +kernel
theorem dX12_withdraw_23 : decode cX12_withdraw 23 = .ok (.iload_n 1, 1) := by decide +kernel
theorem dX12_withdraw_24 : decode cX12_withdraw 24 = .ok (.invokevirtual 256, 3) := by decide +kernel
theorem dX12_withdraw_27 : decode cX12_withdraw 27 = .ok (.aload_n 0, 1) := by decide +kernel
theorem dX12_withdraw_28 : decode cX12_withdraw 28 = .ok (.getfield 12, 3) := by decide +kernel
theorem dX12_withdraw_31 : decode cX12_withdraw 31 = .ok (.getfield 235, 3) := by decide +kernel
theorem dX12_withdraw_34 : decode cX12_withdraw 34 = .ok (.getfield 250, 3) := by decide +kernel
theorem dX12_withdraw_37 : decode cX12_withdraw 37 = .ok (.ireturn, 1) := by decide +kernel
set_option maxRecDepth 20000 in
theorem ggX12_observe_X12_requireWeather : GoodIn wsX12_observe wsX12_requireWeather := goodIn_ca (goodIn_r _ [6, 7, 8, 9, 10, 11, 12] (by decide +kernel) (by decide +kernel)) (goodIn_sub (fun _ h => List.mem_cons_of_mem _ (List.mem_append_left _ (List.mem_append_right _ h))) (by decide +kernel))
set_option maxRecDepth 20000 in
theorem gX12_observe_X12_requireWeather : GoodIn wsX12_observe (va_wsS RX12 169 yX12_requireWeather wsX12_requireWeather) := goodIn_app (goodIn_of _ (by decide +kernel)) ggX12_observe_X12_requireWeather
set_option maxRecDepth 20000 in
theorem ggX12_observe_X6_remember : GoodIn wsX12_observe wsX6_remember := goodIn_ca (goodIn_r _ [17, 18, 19, 20, 21, 22, 23, 24, 25, 26, 27, 28, 29, 30, 31, 32, 33, 34, 35, 36, 37, 38, 39, 40, 41, 42, 43, 11, 44, 45, 46, 47, 48, 49, 50, 51, 52, 53, 54, 55, 56, 57, 109, 110, 111, 112, 113, 114, 115, 116, 117, 118, 119, 120, 121, 122, 123, 124, 125] (by decide +kernel) (by decide +kernel)) (goodIn_sub (fun _ h => List.mem_cons_of_mem _ (List.mem_append_right _ h)) (by decide +kernel))
set_option maxRecDepth 20000 in
theorem gX12_observe_X6_remember : GoodIn wsX12_observe (wsV RX12 85 RX6 yX6_remember wsX6_remember) := goodIn_app (goodIn_of _ (by decide +kernel)) ggX12_observe_X6_remember
set_option maxRecDepth 20000 in
theorem ggX12_observe_X11_passDay : GoodIn wsX12_observe wsX11_passDay := goodIn_ca (goodIn_r _ [61, 33, 31, 32, 62, 63, 64, 11, 65, 46, 66, 67, 68, 69, 45, 70, 10, 12, 71, 72, 73, 74, 75, 76, 77, 50, 78, 54, 79, 80, 23, 81, 55, 57, 56, 82, 83, 84, 85, 52, 86, 87, 88, 89, 90, 91, 92, 93, 53, 94, 95, 96, 97, 112, 113, 114, 115, 118, 119, 120, 121, 122, 123, 124, 125] (by decide +kernel) (by decide +kernel)) (goodIn_sub (fun _ h => List.mem_cons_of_mem _ (List.mem_append_right _ h)) (by decide +kernel))
set_option maxRecDepth 20000 in
theorem gX12_observe_X11_passDay : GoodIn wsX12_observe (wsV RX12 259 RX11 yX11_passDay wsX11_passDay) := goodIn_app (goodIn_of _ (by decide +kernel)) ggX12_observe_X11_passDay
theorem dX12_observe_0 : decode cX12_observe 0 = .ok (.iload_n 1, 1) := by decide +kernel
theorem dX12_observe_1 : decode cX12_observe 1 = .ok (.invokestatic 169, 3) := by decide +kernel
theorem dX12_observe_4 : decode cX12_observe 4 = .ok (.aload_n 0, 1) := by decide +kernel
theorem dX12_observe_5 : decode cX12_observe 5 = .ok (.getfield 29, 3) := by decide +kernel
theorem dX12_observe_8 : decode cX12_observe 8 = .ok (.aload_n 0, 1) := by decide +kernel
theorem dX12_observe_9 : decode cX12_observe 9 = .ok (.getfield 12, 3) := by decide +kernel
theorem dX12_observe_12 : decode cX12_observe 12 = .ok (.invokevirtual 85, 3) := by decide +kernel
theorem dX12_observe_15 : decode cX12_observe 15 = .ok (.aload_n 0, 1) := by decide +kernel
theorem dX12_observe_16 : decode cX12_observe 16 = .ok (.getfield 12, 3) := by decide +kernel
theorem dX12_observe_19 : decode cX12_observe 19 = .ok (.iload_n 1, 1) := by decide +kernel
theorem dX12_observe_20 : decode cX12_observe 20 = .ok (.invokevirtual 259, 3) := by decide +kernel
theorem dX12_observe_23 : decode cX12_observe 23 = .ok (.ireturn, 1) := by decide +kernel
theorem dX12_forecastCount_0 : decode cX12_forecastCount 0 = .ok (.aload_n 0, 1) := by decide +kernel
theorem dX12_forecastCount_1 : decode cX12_forecastCount 1 = .ok (.getfield 12, 3) := by decide +kernel
theorem dX12_forecastCount_4 : decode cX12_forecastCount 4 = .ok (.getfield 235, 3) := by decide +kernel
theorem dX12_forecastCount_7 : decode cX12_forecastCount 7 = .ok (.getfield 250, 3) := by decide +kernel
theorem dX12_forecastCount_10 : decode cX12_forecastCount 10 = .ok (.ireturn, 1) := by decide +kernel
set_option maxRecDepth 20000 in
theorem ggX12_dayOf_X12_requireForecast : GoodIn wsX12_dayOf wsX12_requireForecast := goodIn_ca (goodIn_r _ [6, 7, 8, 1, 9, 10, 11, 12, 13, 14, 21, 22, 23, 24, 25, 26, 27, 28, 29, 30, 31, 32, 33, 34, 35, 36, 37, 38, 39, 40, 41] (by decide +kernel) (by decide +kernel)) (goodIn_sub (fun _ h => List.mem_cons_of_mem _ (List.mem_append_left _ (List.mem_append_right _ h))) (by decide +kernel))
set_option maxRecDepth 20000 in
theorem gX12_dayOf_X12_requireForecast : GoodIn wsX12_dayOf (wsV RX12 253 RX12 yX12_requireForecast wsX12_requireForecast) := goodIn_app (goodIn_of _ (by decide +kernel)) ggX12_dayOf_X12_requireForecast
set_option maxRecDepth 20000 in
theorem ggX12_dayOf_X4_dayAt : GoodIn wsX12_dayOf wsX4_dayAt := goodIn_ca (goodIn_r _ [18, 19, 20, 10, 11, 12, 13, 14, 36, 37, 38, 39, 40, 41] (by decide +kernel) (by decide +kernel)) (goodIn_sub (fun _ h => List.mem_cons_of_mem _ (List.mem_append_right _ h)) (by decide +kernel))
set_option maxRecDepth 20000 in
theorem gX12_dayOf_X4_dayAt : GoodIn wsX12_dayOf (wsV RX12 262 RX4 yX4_dayAt wsX4_dayAt) := goodIn_app (goodIn_of _ (by decide +kernel)) ggX12_dayOf_X4_dayAt
theorem dX12_dayOf_0 : decode cX12_dayOf 0 = .ok (.aload_n 0, 1) := by decide +kernel
theorem dX12_dayOf_1 : decode cX12_dayOf 1 = .ok (.iload_n 1, 1) := by decide +kernel
theorem dX12_dayOf_2 : decode cX12_dayOf 2 = .ok (.invokevirtual 253, 3) := by decide +kernel
theorem dX12_dayOf_5 : decode cX12_dayOf 5 = .ok (.aload_n 0, 1) := by decide +kernel
theorem dX12_dayOf_6 : decode cX12_dayOf 6 = .ok (.getfield 12, 3) := by decide +kernel
theorem dX12_dayOf_9 : decode cX12_dayOf 9 = .ok (.getfield 235, 3) := by decide +kernel
theorem dX12_dayOf_12 : decode cX12_dayOf 12 = .ok (.iload_n 1, 1) := by decide +kernel
theorem dX12_dayOf_13 : decode cX12_dayOf 13 = .ok (.invokevirtual 262, 3) := by decide +kernel
theorem dX12_dayOf_16 : decode cX12_dayOf 16 = .ok (.ireturn, 1) := by decide +kernel
set_option maxRecDepth 20000 in
theorem ggX12_weatherOf_X12_requireForecast : GoodIn wsX12_weatherOf wsX12_requireForecast := goodIn_ca (goodIn_r _ [6, 7, 8, 1, 9, 10, 11, 12, 13, 14, 21, 22, 23, 24, 25, 26, 27, 28, 29, 30, 31, 32, 33, 34, 35, 36, 37, 38, 39, 40, 41] (by decide +kernel) (by decide +kernel)) (goodIn_sub (fun _ h => List.mem_cons_of_mem _ (List.mem_append_left _ (List.mem_append_right _ h))) (by decide +kernel))
set_option maxRecDepth 20000 in
theorem gX12_weatherOf_X12_requireForecast : GoodIn wsX12_weatherOf (wsV RX12 253 RX12 yX12_requireForecast wsX12_requireForecast) := goodIn_app (goodIn_of _ (by decide +kernel)) ggX12_weatherOf_X12_requireForecast
set_option maxRecDepth 20000 in
theorem ggX12_weatherOf_X4_weatherAt : GoodIn wsX12_weatherOf wsX4_weatherAt := goodIn_ca (goodIn_r _ [18, 19, 20, 10, 11, 12, 13, 14, 36, 37, 38, 39, 40, 41] (by decide +kernel) (by decide +kernel)) (goodIn_sub (fun _ h => List.mem_cons_of_mem _ (List.mem_append_right _ h)) (by decide +kernel))
set_option maxRecDepth 20000 in
theorem gX12_weatherOf_X4_weatherAt : GoodIn wsX12_weatherOf (wsV RX12 265 RX4 yX4_weatherAt wsX4_weatherAt) := goodIn_app (goodIn_of _ (by decide +kernel)) ggX12_weatherOf_X4_weatherAt
theorem dX12_weatherOf_0 : decode cX12_weatherOf 0 = .ok (.aload_n 0, 1) := by decide +kernel
theorem dX12_weatherOf_1 : decode cX12_weatherOf 1 = .ok (.iload_n 1, 1) := by decide +kernel
theorem dX12_weatherOf_2 : decode cX12_weatherOf 2 = .ok (.invokevirtual 253, 3) := by decide +kernel
theorem dX12_weatherOf_5 : decode cX12_weatherOf 5 = .ok (.aload_n 0, 1) := by decide +kernel
theorem dX12_weatherOf_6 : decode cX12_weatherOf 6 = .ok (.getfield 12, 3) := by decide +kernel
theorem dX12_weatherOf_9 : decode cX12_weatherOf 9 = .ok (.getfield 235, 3) := by decide +kernel
theorem dX12_weatherOf_12 : decode cX12_weatherOf 12 = .ok (.iload_n 1, 1) := by decide +kernel
theorem dX12_weatherOf_13 : decode cX12_weatherOf 13 = .ok (.invokevirtual 265, 3) := by decide +kernel
theorem dX12_weatherOf_16 : decode cX12_weatherOf 16 = .ok (.ireturn, 1) := by decide +kernel
theorem dX12_scoredCount_0 : decode cX12_scoredCount 0 = .ok (.aload_n 0, 1) := by decide +kernel
theorem dX12_scoredCount_1 : decode cX12_scoredCount 1 = .ok (.getfield 12, 3) := by decide +kernel
theorem dX12_scoredCount_4 : decode cX12_scoredCount 4 = .ok (.getfield 235, 3) := by decide +kernel
theorem dX12_scoredCount_7 : decode cX12_scoredCount 7 = .ok (.getfield 268, 3) := by decide +kernel
theorem dX12_scoredCount_10 : decode cX12_scoredCount 10 = .ok (.ireturn, 1) := by decide +kernel
theorem dX12_totalError_0 : decode cX12_totalError 0 = .ok (.aload_n 0, 1) := by decide +kernel
theorem dX12_totalError_1 : decode cX12_totalError 1 = .ok (.getfield 12, 3) := by decide +kernel
theorem dX12_totalError_4 : decode cX12_totalError 4 = .ok (.getfield 235, 3) := by decide +kernel
theorem dX12_totalError_7 : decode cX12_totalError 7 = .ok (.getfield 271, 3) := by decide +kernel
theorem dX12_totalError_10 : decode cX12_totalError 10 = .ok (.ireturn, 1) := by decide +kernel
set_option maxRecDepth 20000 in
theorem ggX12_meanError_X12_requireScored : GoodIn wsX12_meanError wsX12_requireScored := goodIn_ca (goodIn_r _ [6, 7, 8, 1, 9, 10, 11, 12, 13, 14, 15, 16, 17, 18, 19, 20, 21, 22, 23, 24, 25, 26, 27, 28, 29] (by decide +kernel) (by decide +kernel)) (goodIn_sub (fun _ h => List.mem_cons_of_mem _ (List.mem_append_right _ h)) (by decide +kernel))
set_option maxRecDepth 20000 in
theorem gX12_meanError_X12_requireScored : GoodIn wsX12_meanError (wsV RX12 274 RX12 yX12_requireScored wsX12_requireScored) := goodIn_app (goodIn_of _ (by decide +kernel)) ggX12_meanError_X12_requireScored
theorem dX12_meanError_0 : decode cX12_meanError 0 = .ok (.aload_n 0, 1) := by decide +kernel
theorem dX12_meanError_1 : decode cX12_meanError 1 = .ok (.invokevirtual 274, 3) := by decide +kernel
theorem dX12_meanError_4 : decode cX12_meanError 4 = .ok (.aload_n 0, 1) := by decide +kernel
theorem dX12_meanError_5 : decode cX12_meanError 5 = .ok (.getfield 12, 3) := by decide +kernel
theorem dX12_meanError_8 : decode cX12_meanError 8 = .ok (.getfield 235, 3) := by decide +kernel
theorem dX12_meanError_11 : decode cX12_meanError 11 = .ok (.getfield 271, 3) := by decide +kernel
theorem dX12_meanError_14 : decode cX12_meanError 14 = .ok (.i2d, 1) := by decide +kernel
theorem dX12_meanError_15 : decode cX12_meanError 15 = .ok (.aload_n 0, 1) := by decide +kernel
theorem dX12_meanError_16 : decode cX12_meanError 16 = .ok (.getfield 12, 3) := by decide +kernel
theorem dX12_meanError_19 : decode cX12_meanError 19 = .ok (.getfield 235, 3) := by decide +kernel
theorem dX12_meanError_22 : decode cX12_meanError 22 = .ok (.getfield 268, 3) := by decide +kernel
theorem dX12_meanError_25 : decode cX12_meanError 25 = .ok (.i2d, 1) := by decide +kernel
theorem dX12_meanError_26 : decode cX12_meanError 26 = .ok (.ddiv, 1) := by decide +kernel
theorem dX12_meanError_27 : decode cX12_meanError 27 = .ok (.dreturn, 1) := by decide +kernel
set_option maxRecDepth 20000 in
theorem ggX12_hitShare_X12_requireScored : GoodIn wsX12_hitShare wsX12_requireScored := goodIn_ca (goodIn_r _ [6, 7, 8, 1, 9, 10, 11, 12, 13, 14, 15, 16, 17, 18, 19, 20, 21, 22, 23, 24, 25, 26, 27, 28, 29] (by decide +kernel) (by decide +kernel)) (goodIn_sub (fun _ h => List.mem_cons_of_mem _ (List.mem_append_right _ h)) (by decide +kernel))
set_option maxRecDepth 20000 in
theorem gX12_hitShare_X12_requireScored : GoodIn wsX12_hitShare (wsV RX12 274 RX12 yX12_requireScored wsX12_requireScored) := goodIn_app (goodIn_of _ (by decide +kernel)) ggX12_hitShare_X12_requireScored
theorem dX12_hitShare_0 : decode cX12_hitShare 0 = .ok (.aload_n 0, 1) := by decide +kernel
theorem dX12_hitShare_1 : decode cX12_hitShare 1 = .ok (.invokevirtual 274, 3) := by decide +kernel
theorem dX12_hitShare_4 : decode cX12_hitShare 4 = .ok (.aload_n 0, 1) := by decide +kernel
theorem dX12_hitShare_5 : decode cX12_hitShare 5 = .ok (.getfield 12, 3) := by decide +kernel
theorem dX12_hitShare_8 : decode cX12_hitShare 8 = .ok (.getfield 235, 3) := by decide +kernel
theorem dX12_hitShare_11 : decode cX12_hitShare 11 = .ok (.getfield 277, 3) := by decide +kernel
theorem dX12_hitShare_14 : decode cX12_hitShare 14 = .ok (.i2f, 1) := by decide +kernel
theorem dX12_hitShare_15 : decode cX12_hitShare 15 = .ok (.aload_n 0, 1) := by decide +kernel
theorem dX12_hitShare_16 : decode cX12_hitShare 16 = .ok (.getfield 12, 3) := by decide +kernel
theorem dX12_hitShare_19 : decode cX12_hitShare 19 = .ok (.getfield 235, 3) := by decide +kernel
theorem dX12_hitShare_22 : decode cX12_hitShare 22 = .ok (.getfield 268, 3) := by decide +kernel
theorem dX12_hitShare_25 : decode cX12_hitShare 25 = .ok (.i2f, 1) := by decide +kernel
theorem dX12_hitShare_26 : decode cX12_hitShare 26 = .ok (.fdiv, 1) := by decide +kernel
theorem dX12_hitShare_27 : decode cX12_hitShare 27 = .ok (.freturn, 1) := by decide +kernel
set_option maxRecDepth 20000 in
theorem ggX12_writeRow_X12_requireCell : GoodIn wsX12_writeRow wsX12_requireCell := goodIn_ca (goodIn_r _ [6, 7, 8, 9, 10, 11, 12] (by decide +kernel) (by decide +kernel)) (goodIn_sub (fun _ h => List.mem_cons_of_mem _ (List.mem_append_left _ (List.mem_append_left _ (List.mem_append_right _ h)))) (by decide +kernel))
set_option maxRecDepth 20000 in
theorem gX12_writeRow_X12_requireCell : GoodIn wsX12_writeRow (va_wsS RX12 68 yX12_requireCell wsX12_requireCell) := goodIn_app (goodIn_of _ (by decide +kernel)) ggX12_writeRow_X12_requireCell
set_option maxRecDepth 20000 in
theorem ggX12_writeRow_X8_clear : GoodIn wsX12_writeRow wsX8_clear := goodIn_r _ [17, 18, 63, 64] (by decide +kernel) (by decide +kernel)
set_option maxRecDepth 20000 in
theorem gX12_writeRow_X8_clear : GoodIn wsX12_writeRow (wsV RX12 280 RX8 yX8_clear wsX8_clear) := goodIn_app (goodIn_of _ (by decide +kernel)) ggX12_writeRow_X8_clear
set_option maxRecDepth 20000 in
theorem ggX12_writeRow_X10_cellOf : GoodIn wsX12_writeRow wsX10_cellOf := goodIn_r _ [21] (by decide +kernel) (by decide +kernel)
set_option maxRecDepth 20000 in
theorem gX12_writeRow_X10_cellOf : GoodIn wsX12_writeRow (va_wsS RX12 93 yX10_cellOf wsX10_cellOf) := goodIn_app (goodIn_of _ (by decide +kernel)) ggX12_writeRow_X10_cellOf
set_option maxRecDepth 20000 in
theorem ggX12_writeRow_X10_hasFront : GoodIn wsX12_writeRow wsX10_hasFront := goodIn_ca (goodIn_r _ [25, 26, 27, 28, 29, 11, 30, 31, 65, 66] (by decide +kernel) (by decide +kernel)) (goodIn_sub (fun _ h => List.mem_cons_of_mem _ (List.mem_append_left _ (List.mem_append_right _ h))) (by decide +kernel))
set_option maxRecDepth 20000 in
theorem gX12_writeRow_X10_hasFront : GoodIn wsX12_writeRow (wsV RX12 145 RX10 yX10_hasFront wsX10_hasFront) := goodIn_app (goodIn_of _ (by decide +kernel)) ggX12_writeRow_X10_hasFront
set_option maxRecDepth 20000 in
theorem ggX12_writeRow_X8_put : GoodIn wsX12_writeRow wsX8_put := goodIn_ca (goodIn_r _ [35, 18, 36, 63, 64] (by decide +kernel) (by decide +kernel)) (goodIn_sub (fun _ h => List.mem_cons_of_mem _ (List.mem_append_left _ (List.mem_append_right _ h))) (by decide +kernel))
set_option maxRecDepth 20000 in
theorem gX12_writeRow_X8_put : GoodIn wsX12_writeRow (wsV RX12 283 RX8 yX8_put wsX8_put) := goodIn_app (goodIn_of _ (by decide +kernel)) ggX12_writeRow_X8_put
set_option maxRecDepth 20000 in
theorem ggX12_writeRow_X10_at : GoodIn wsX12_writeRow wsX10_at := goodIn_ca (goodIn_r _ [40, 31, 65, 66] (by decide +kernel) (by decide +kernel)) (goodIn_sub (fun _ h => List.mem_cons_of_mem _ (List.mem_append_left _ (List.mem_append_right _ h))) (by decide +kernel))
set_option maxRecDepth 20000 in
theorem gX12_writeRow_X10_at : GoodIn wsX12_writeRow (wsV RX12 97 RX10 yX10_at wsX10_at) := goodIn_app (goodIn_of _ (by decide +kernel)) ggX12_writeRow_X10_at
set_option maxRecDepth 20000 in
theorem ggX12_writeRow_X8_putNumber : GoodIn wsX12_writeRow wsX8_putNumber := goodIn_ca (goodIn_ca (goodIn_r _ [44, 45, 46, 47, 33, 34, 16, 35, 18, 36, 63, 64] (by decide +kernel) (by decide +kernel)) (goodIn_sub (fun _ h => List.mem_cons_of_mem _ (List.mem_append_right _ h)) (by decide +kernel))) (goodIn_sub (fun _ h => List.mem_cons_of_mem _ (List.mem_append_left _ (List.mem_append_right _ h))) (by decide +kernel))
set_option maxRecDepth 20000 in
theorem gX12_writeRow_X8_putNumber : GoodIn wsX12_writeRow (wsV RX12 286 RX8 yX8_putNumber wsX8_putNumber) := goodIn_app (goodIn_of _ (by decide +kernel)) ggX12_writeRow_X8_putNumber
theorem dX12_writeRow_0 : decode cX12_writeRow 0 = .ok (.iload_n 1, 1) := by decide +kernel
theorem dX12_writeRow_1 : decode cX12_writeRow 1 = .ok (.iconst 0, 1) := by decide +kernel
theorem dX12_writeRow_2 : decode cX12_writeRow 2 = .ok (.invokestatic 68, 3) := by decide +kernel
theorem dX12_writeRow_5 : decode cX12_writeRow 5 = .ok (.aload_n 0, 1) := by decide +kernel
theorem dX12_writeRow_6 : decode cX12_writeRow 6 = .ok (.getfield 57, 3) := by decide +kernel
theorem dX12_writeRow_9 : decode cX12_writeRow 9 = .ok (.invokevirtual 280, 3) := by decide +kernel
theorem dX12_writeRow_12 : decode cX12_writeRow 12 = .ok (.iconst 0, 1) := by decide +kernel
theorem dX12_writeRow_13 : decode cX12_writeRow 13 = .ok (.istore_n 2, 1) := by decide +kernel
theorem dX12_writeRow_14 : decode cX12_writeRow 14 = .ok (.iload_n 2, 1) := by decide +kernel
theorem dX12_writeRow_15 : decode cX12_writeRow 15 = .ok (.iconst 5, 1) := by decide +kernel
theorem dX12_writeRow_16 : decode cX12_writeRow 16 = .ok (.if_icmp .ge 69, 3) := by decide +kernel
theorem dX12_writeRow_19 : decode cX12_writeRow 19 = .ok (.iload_n 1, 1) := by decide +kernel
theorem dX12_writeRow_20 : decode cX12_writeRow 20 = .ok (.iload_n 2, 1) := by decide +kernel
theorem dX12_writeRow_21 : decode cX12_writeRow 21 = .ok (.invokestatic 93, 3) := by decide +kernel
theorem dX12_writeRow_24 : decode cX12_writeRow 24 = .ok (.istore_n 3, 1) := by decide +kernel
theorem dX12_writeRow_25 : decode cX12_writeRow 25 = .ok (.iload_n 2, 1) := by decide +kernel
theorem dX12_writeRow_26 : decode cX12_writeRow 26 = .ok (.ifCond .le 34, 3) := by decide +kernel
theorem dX12_writeRow_29 : decode cX12_writeRow 29 = .ok (.aload_n 0, 1) := by decide +kernel
theorem dX12_writeRow_30 : decode cX12_writeRow 30 = .ok (.getfield 57, 3) := by decide +kernel
theorem dX12_writeRow_33 : decode cX12_writeRow 33 = .ok (.aload_n 0, 1) := by decide +kernel
theorem dX12_writeRow_34 : decode cX12_writeRow 34 = .ok (.getfield 12, 3) := by decide +kernel
theorem dX12_writeRow_37 : decode cX12_writeRow 37 = .ok (.getfield 89, 3) := by decide +kernel
theorem dX12_writeRow_40 : decode cX12_writeRow 40 = .ok (.iload_n 3, 1) := by decide +kernel
theorem dX12_writeRow_41 : decode cX12_writeRow 41 = .ok (.iconst 1, 1) := by decide +kernel
theorem dX12_writeRow_42 : decode cX12_writeRow 42 = .ok (.isub, 1) := by decide +kernel
theorem dX12_writeRow_43 : decode cX12_writeRow 43 = .ok (.iload_n 3, 1) := by decide +kernel
theorem dX12_writeRow_44 : decode cX12_writeRow 44 = .ok (.invokevirtual 145, 3) := by decide +kernel
theorem dX12_writeRow_47 : decode cX12_writeRow 47 = .ok (.ifCond .eq 8, 3) := by decide +kernel
theorem dX12_writeRow_50 : decode cX12_writeRow 50 = .ok (.bipush 124, 2) := by decide +kernel
theorem dX12_writeRow_52 : decode cX12_writeRow 52 = .ok (.goto 5, 3) := by decide +kernel
theorem dX12_writeRow_55 : decode cX12_writeRow 55 = .ok (.bipush 32, 2) := by decide +kernel
theorem dX12_writeRow_57 : decode cX12_writeRow 57 = .ok (.invokevirtual 283, 3) := by decide +kernel
theorem dX12_writeRow_60 : decode cX12_writeRow 60 = .ok (.aload_n 0, 1) := by decide +kernel
theorem dX12_writeRow_61 : decode cX12_writeRow 61 = .ok (.getfield 57, 3) := by decide +kernel
theorem dX12_writeRow_64 : decode cX12_writeRow 64 = .ok (.aload_n 0, 1) := by decide +kernel
theorem dX12_writeRow_65 : decode cX12_writeRow 65 = .ok (.getfield 12, 3) := by decide +kernel
theorem dX12_writeRow_68 : decode cX12_writeRow 68 = .ok (.getfield 89, 3) := by decide +kernel
theorem dX12_writeRow_71 : decode cX12_writeRow 71 = .ok (.iload_n 3, 1) := by decide +kernel
theorem dX12_writeRow_72 : decode cX12_writeRow 72 = .ok (.invokevirtual 97, 3) := by decide +kernel
theorem dX12_writeRow_75 : decode cX12_writeRow 75 = .ok (.i2l, 1) := by decide +kernel
theorem dX12_writeRow_76 : decode cX12_writeRow 76 = .ok (.invokevirtual 286, 3) := by decide +kernel
theorem dX12_writeRow_79 : decode cX12_writeRow 79 = .ok (.iinc 2 1, 3) := by decide +kernel
theorem dX12_writeRow_82 : decode cX12_writeRow 82 = .ok (.goto (-68), 3) := by decide +kernel
theorem dX12_writeRow_85 : decode cX12_writeRow 85 = .ok (.aload_n 0, 1) := by decide +kernel
theorem dX12_writeRow_86 : decode cX12_writeRow 86 = .ok (.getfield 57, 3) := by decide +kernel
theorem dX12_writeRow_89 : decode cX12_writeRow 89 = .ok (.getfield 290, 3) := by decide +kernel
theorem dX12_writeRow_92 : decode cX12_writeRow 92 = .ok (.ireturn, 1) := by decide +kernel
set_option maxRecDepth 20000 in
theorem ggX12_writeChances_X12_requireDays : GoodIn wsX12_writeChances wsX12_requireDays := goodIn_ca (goodIn_r _ [7, 8, 9] (by decide +kernel) (by decide +kernel)) (goodIn_sub (fun _ h => List.mem_cons_of_mem _ (List.mem_append_left _ (List.mem_append_left _ (List.mem_append_right _ h)))) (by decide +kernel))
set_option maxRecDepth 20000 in
theorem gX12_writeChances_X12_requireDays : GoodIn wsX12_writeChances (va_wsS RX12 205 yX12_requireDays wsX12_requireDays) := goodIn_app (goodIn_of _ (by decide +kernel)) ggX12_writeChances_X12_requireDays
set_option maxRecDepth 20000 in
theorem ggX12_writeChances_X1_dayByDay : GoodIn wsX12_writeChances wsX1_dayByDay := goodIn_ca (goodIn_ca (goodIn_r _ [14, 15, 16, 17, 18, 19, 20, 21, 22, 23, 24, 25, 26, 27, 28, 29, 30, 31, 32, 33, 34, 35, 36, 37, 13, 38, 39, 40, 41, 42, 43, 44, 45, 46, 47, 48, 49, 50, 51, 52, 53, 54, 55, 56, 57, 58, 59, 60, 154, 155, 156, 157, 158, 159, 160, 161] (by decide +kernel) (by decide +kernel)) (goodIn_sub (fun _ h => List.mem_cons_of_mem _ (List.mem_append_left _ (List.mem_append_right _ h))) (by decide +kernel))) (goodIn_sub (fun _ h => List.mem_cons_of_mem _ (List.mem_append_right _ h)) (by decide +kernel))
set_option maxRecDepth 20000 in
theorem gX12_writeChances_X1_dayByDay : GoodIn wsX12_writeChances (wsV RX12 208 RX1 yX1_dayByDay wsX1_dayByDay) := goodIn_app (goodIn_of _ (by decide +kernel)) ggX12_writeChances_X1_dayByDay
set_option maxRecDepth 20000 in
theorem ggX12_writeChances_X8_clear : GoodIn wsX12_writeChances wsX8_clear := goodIn_r _ [65, 66, 152, 153] (by decide +kernel) (by decide +kernel)
set_option maxRecDepth 20000 in
theorem gX12_writeChances_X8_clear : GoodIn wsX12_writeChances (wsV RX12 280 RX8 yX8_clear wsX8_clear) := goodIn_app (goodIn_of _ (by decide +kernel)) ggX12_writeChances_X8_clear
set_option maxRecDepth 20000 in
theorem ggX12_writeChances_X8_put : GoodIn wsX12_writeChances wsX8_put := goodIn_ca (goodIn_r _ [70, 66, 71, 152, 153] (by decide +kernel) (by decide +kernel)) (goodIn_sub (fun _ h => List.mem_cons_of_mem _ (List.mem_append_left _ (List.mem_append_right _ h))) (by decide +kernel))
set_option maxRecDepth 20000 in
theorem gX12_writeChances_X8_put : GoodIn wsX12_writeChances (wsV RX12 283 RX8 yX8_put wsX8_put) := goodIn_app (goodIn_of _ (by decide +kernel)) ggX12_writeChances_X8_put
set_option maxRecDepth 20000 in
theorem ggX12_writeChances_X2_nameOf : GoodIn wsX12_writeChances wsX2_nameOf := goodIn_r _ [74] (by decide +kernel) (by decide +kernel)
set_option maxRecDepth 20000 in
theorem gX12_writeChances_X2_nameOf : GoodIn wsX12_writeChances (va_wsS RX12 293 yX2_nameOf wsX2_nameOf) := goodIn_app (goodIn_of _ (by decide +kernel)) ggX12_writeChances_X2_nameOf
set_option maxRecDepth 20000 in
theorem ggX12_writeChances_X8_putAll : GoodIn wsX12_writeChances wsX8_putAll := goodIn_ca (goodIn_r _ [78, 79, 80, 81, 82, 83, 84, 85, 86, 87, 88, 89, 90, 91, 92, 93, 94, 95, 96, 97, 98, 99, 100, 101, 102, 103, 104, 105, 106, 107, 108, 109, 110, 111, 112, 113, 114, 115, 116, 117, 118, 119, 120, 121, 122, 123, 124, 125, 126, 127, 128, 68, 69, 64, 70, 66, 71, 162, 163, 152, 153] (by decide +kernel) (by decide +kernel)) (goodIn_sub (fun _ h => List.mem_cons_of_mem _ (List.mem_append_left _ (List.mem_append_right _ h))) (by decide +kernel))
set_option maxRecDepth 20000 in
theorem gX12_writeChances_X8_putAll : GoodIn wsX12_writeChances (wsV RX12 297 RX8 yX8_putAll wsX8_putAll) := goodIn_app (goodIn_of _ (by decide +kernel)) ggX12_writeChances_X8_putAll
set_option maxRecDepth 20000 in
theorem ggX12_writeChances_X5_numerator : GoodIn wsX12_writeChances wsX5_numerator := goodIn_ca (goodIn_r _ [48, 22, 28, 29, 30, 31, 160, 161] (by decide +kernel) (by decide +kernel)) (goodIn_sub (fun _ h => List.mem_cons_of_mem _ (List.mem_append_left _ (List.mem_append_right _ h))) (by decide +kernel))
set_option maxRecDepth 20000 in
theorem gX12_writeChances_X5_numerator : GoodIn wsX12_writeChances (wsV RX12 212 RX5 yX5_numerator wsX5_numerator) := goodIn_app (goodIn_of _ (by decide +kernel)) ggX12_writeChances_X5_numerator
set_option maxRecDepth 20000 in
theorem ggX12_writeChances_X8_putNumber : GoodIn wsX12_writeChances wsX8_putNumber := goodIn_ca (goodIn_ca (goodIn_r _ [133, 134, 135, 128, 68, 69, 64, 70, 66, 71, 152, 153] (by decide +kernel) (by decide +kernel)) (goodIn_sub (fun _ h => List.mem_cons_of_mem _ (List.mem_append_right _ h)) (by decide +kernel))) (goodIn_sub (fun _ h => List.mem_cons_of_mem _ (List.mem_append_left _ (List.mem_append_right _ h))) (by decide +kernel))
set_option maxRecDepth 20000 in
theorem gX12_writeChances_X8_putNumber : GoodIn wsX12_writeChances (wsV RX12 286 RX8 yX8_putNumber wsX8_putNumber) := goodIn_app (goodIn_of _ (by decide +kernel)) ggX12_writeChances_X8_putNumber
set_option maxRecDepth 20000 in
theorem ggX12_writeChances_X5_denominator : GoodIn wsX12_writeChances wsX5_denominator := goodIn_ca (goodIn_r _ [56, 23, 28, 29, 30, 31, 160, 161] (by decide +kernel) (by decide +kernel)) (goodIn_sub (fun _ h => List.mem_cons_of_mem _ (List.mem_append_left _ (List.mem_append_right _ h))) (by decide +kernel))
set_option maxRecDepth 20000 in
theorem gX12_writeChances_X5_denominator : GoodIn wsX12_writeChances (wsV RX12 218 RX5 yX5_denominator wsX5_denominator) := goodIn_app (goodIn_of _ (by decide +kernel)) ggX12_writeChances_X5_denominator
theorem dX12_writeChances_0 : decode cX12_writeChances 0 = .ok (.iload_n 1, 1) := by decide +kernel
theorem dX12_writeChances_1 : decode cX12_writeChances 1 = .ok (.invokestatic 205, 3) := by decide +kernel
theorem dX12_writeChances_4 : decode cX12_writeChances 4 = .ok (.aload_n 0, 1) := by decide +kernel
theorem dX12_writeChances_5 : decode cX12_writeChances 5 = .ok (.getfield 43, 3) := by decide +kernel
theorem dX12_writeChances_8 : decode cX12_writeChances 8 = .ok (.aload_n 0, 1) := by decide +kernel
theorem dX12_writeChances_9 : decode cX12_writeChances 9 = .ok (.getfield 12, 3) := by decide +kernel
theorem dX12_writeChances_12 : decode cX12_writeChances 12 = .ok (.getfield 179, 3) := by decide +kernel
theorem dX12_writeChances_15 : decode cX12_writeChances 15 = .ok (.iload_n 1, 1) := by decide +kernel
theorem dX12_writeChances_16 : decode cX12_writeChances 16 = .ok (.invokevirtual 208, 3) := by decide +kernel
theorem dX12_writeChances_19 : decode cX12_writeChances 19 = .ok (.astore_n 2, 1) := by decide +kernel
theorem dX12_writeChances_20 : decode cX12_writeChances 20 = .ok (.aload_n 0, 1) := by decide +kernel
theorem dX12_writeChances_21 : decode cX12_writeChances 21 = .ok (.getfield 57, 3) := by decide +kernel
theorem dX12_writeChances_24 : decode cX12_writeChances 24 = .ok (.invokevirtual 280, 3) := by decide +kernel
theorem dX12_writeChances_27 : decode cX12_writeChances 27 = .ok (.iconst 0, 1) := by decide +kernel
theorem dX12_writeChances_28 : decode cX12_writeChances 28 = .ok (.istore_n 3, 1) := by decide +kernel
theorem dX12_writeChances_29 : decode cX12_writeChances 29 = .ok (.iload_n 3, 1) := by decide +kernel
theorem dX12_writeChances_30 : decode cX12_writeChances 30 = .ok (.iconst 4, 1) := by decide +kernel
theorem dX12_writeChances_31 : decode cX12_writeChances 31 = .ok (.if_icmp .ge 75, 3) := by decide +kernel
theorem dX12_writeChances_34 : decode cX12_writeChances 34 = .ok (.iload_n 3, 1) := by decide +kernel
theorem dX12_writeChances_35 : decode cX12_writeChances 35 = .ok (.ifCond .le 12, 3) := by decide +kernel
theorem dX12_writeChances_38 : decode cX12_writeChances 38 = .ok (.aload_n 0, 1) := by decide +kernel
theorem dX12_writeChances_39 : decode cX12_writeChances 39 = .ok (.getfield 57, 3) := by decide +kernel
theorem dX12_writeChances_42 : decode cX12_writeChances 42 = .ok (.bipush 32, 2) := by decide +kernel
theorem dX12_writeChances_44 : decode cX12_writeChances 44 = .ok (.invokevirtual 283, 3) := by decide +kernel
theorem dX12_writeChances_47 : decode cX12_writeChances 47 = .ok (.aload_n 0, 1) := by decide +kernel
theorem dX12_writeChances_48 : decode cX12_writeChances 48 = .ok (.getfield 57, 3) := by decide +kernel
theorem dX12_writeChances_51 : decode cX12_writeChances 51 = .ok (.iload_n 3, 1) := by decide +kernel
theorem dX12_writeChances_52 : decode cX12_writeChances 52 = .ok (.invokestatic 293, 3) := by decide +kernel
theorem dX12_writeChances_55 : decode cX12_writeChances 55 = .ok (.invokevirtual 297, 3) := by decide +kernel
theorem dX12_writeChances_58 : decode cX12_writeChances 58 = .ok (.aload_n 0, 1) := by decide +kernel
theorem dX12_writeChances_59 : decode cX12_writeChances 59 = .ok (.getfield 57, 3) := by decide +kernel
theorem dX12_writeChances_62 : decode cX12_writeChances 62 = .ok (.bipush 61, 2) := by decide +kernel
theorem dX12_writeChances_64 : decode cX12_writeChances 64 = .ok (.invokevirtual 283, 3) := by decide +kernel
theorem dX12_writeChances_67 : decode cX12_writeChances 67 = .ok (.aload_n 0, 1) := by decide +kernel
theorem dX12_writeChances_68 : decode cX12_writeChances 68 = .ok (.getfield 57, 3) := by decide +kernel
theorem dX12_writeChances_71 : decode cX12_writeChances 71 = .ok (.aload_n 2, 1) := by decide +kernel
theorem dX12_writeChances_72 : decode cX12_writeChances 72 = .ok (.iload_n 3, 1) := by decide +kernel
theorem dX12_writeChances_73 : decode cX12_writeChances 73 = .ok (.invokevirtual 212, 3) := by decide +kernel
theorem dX12_writeChances_76 : decode cX12_writeChances 76 = .ok (.invokevirtual 286, 3) := by decide +kernel
theorem dX12_writeChances_79 : decode cX12_writeChances 79 = .ok (.aload_n 0, 1) := by decide +kernel
theorem dX12_writeChances_80 : decode cX12_writeChances 80 = .ok (.getfield 57, 3) := by decide +kernel
theorem dX12_writeChances_83 : decode cX12_writeChances 83 = .ok (.bipush 47, 2) := by decide +kernel
theorem dX12_writeChances_85 : decode cX12_writeChances 85 = .ok (.invokevirtual 283, 3) := by decide +kernel
theorem dX12_writeChances_88 : decode cX12_writeChances 88 = .ok (.aload_n 0, 1) := by decide +kernel
theorem dX12_writeChances_89 : decode cX12_writeChances 89 = .ok (.getfield 57, 3) := by decide +kernel
theorem dX12_writeChances_92 : decode cX12_writeChances 92 = .ok (.aload_n 2, 1) := by decide +kernel
theorem dX12_writeChances_93 : decode cX12_writeChances 93 = .ok (.iload_n 3, 1) := by decide +kernel
theorem dX12_writeChances_94 : decode cX12_writeChances 94 = .ok (.invokevirtual 218, 3) := by decide +kernel
theorem dX12_writeChances_97 : decode cX12_writeChances 97 = .ok (.invokevirtual 286, 3) := by decide +kernel
theorem dX12_writeChances_100 : decode cX12_writeChances 100 = .ok (.iinc 3 1, 3) := by decide +kernel
theorem dX12_writeChances_103 : decode cX12_writeChances 103 = .ok (.goto (-74), 3) := by decide +kernel
theorem dX12_writeChances_106 : decode cX12_writeChances 106 = .ok (.aload_n 0, 1) := by decide +kernel
theorem dX12_writeChances_107 : decode cX12_writeChances 107 = .ok (.getfield 57, 3) := by decide +kernel
theorem dX12_writeChances_110 : decode cX12_writeChances 110 = .ok (.getfield 290, 3) := by decide +kernel
theorem dX12_writeChances_113 : decode cX12_writeChances 113 = .ok (.ireturn, 1) := by decide +kernel
set_option maxRecDepth 20000 in
theorem ggX12_lineAt_X8_has : GoodIn wsX12_lineAt wsX8_has := goodIn_r _ [8, 9, 27, 28] (by decide +kernel) (by decide +kernel)
set_option maxRecDepth 20000 in
theorem gX12_lineAt_X8_has : GoodIn wsX12_lineAt (wsV RX12 300 RX8 yX8_has wsX8_has) := goodIn_app (goodIn_of _ (by decide +kernel)) ggX12_lineAt_X8_has
set_option maxRecDepth 20000 in
theorem ggX12_lineAt_X8_signAt : GoodIn wsX12_lineAt wsX8_signAt := goodIn_ca (goodIn_r _ [13, 14, 15, 5, 6, 7, 8, 9, 27, 28] (by decide +kernel) (by decide +kernel)) (goodIn_sub (fun _ h => List.mem_cons_of_mem _ (List.mem_append_right _ h)) (by decide +kernel))
set_option maxRecDepth 20000 in
theorem gX12_lineAt_X8_signAt : GoodIn wsX12_lineAt (wsV RX12 308 RX8 yX8_signAt wsX8_signAt) := goodIn_app (goodIn_of _ (by decide +kernel)) ggX12_lineAt_X8_signAt
theorem dX12_lineAt_0 : decode cX12_lineAt 0 = .ok (.aload_n 0, 1) := by decide +kernel
theorem dX12_lineAt_1 : decode cX12_lineAt 1 = .ok (.getfield 57, 3) := by decide +kernel
theorem dX12_lineAt_4 : decode cX12_lineAt 4 = .ok (.iload_n 1, 1) := by decide +kernel
theorem dX12_lineAt_5 : decode cX12_lineAt 5 = .ok (.invokevirtual 300, 3) := by decide +kernel
theorem dX12_lineAt_8 : decode cX12_lineAt 8 = .ok (.ifCond .ne 14, 3) := by decide +kernel
theorem dX12_lineAt_11 : decode cX12_lineAt 11 = .ok (.new 303, 3) := by decide +kernel
theorem dX12_lineAt_14 : decode cX12_lineAt 14 = .ok (.dup, 1) := by decide +kernel
theorem dX12_lineAt_15 : decode cX12_lineAt 15 = .ok (.ldc_w 305, 3) := by decide +kernel
theorem dX12_lineAt_18 : decode cX12_lineAt 18 = .ok (.invokespecial 307, 3) := by decide +kernel
theorem dX12_lineAt_21 : decode cX12_lineAt 21 = .ok (.athrow, 1) := by decide +kernel
theorem dX12_lineAt_22 : decode cX12_lineAt 22 = .ok (.aload_n 0, 1) := by decide +kernel
theorem dX12_lineAt_23 : decode cX12_lineAt 23 = .ok (.getfield 57, 3) := by decide +kernel
theorem dX12_lineAt_26 : decode cX12_lineAt 26 = .ok (.iload_n 1, 1) := by decide +kernel
theorem dX12_lineAt_27 : decode cX12_lineAt 27 = .ok (.invokevirtual 308, 3) := by decide +kernel
theorem dX12_lineAt_30 : decode cX12_lineAt 30 = .ok (.ireturn, 1) := by decide +kernel
set_option maxRecDepth 20000 in
theorem ggX12_isConsistent_X9_flood : GoodIn wsX12_isConsistent wsX9_flood := goodIn_ca (goodIn_r _ [8, 9, 10, 11, 12, 13, 14, 7, 15, 16, 17, 18, 19, 20, 21, 22, 23, 24, 25, 26, 27, 28, 29, 30, 31, 32, 33, 34, 35, 36, 37, 38, 39, 40, 41, 42, 43, 44, 145, 146, 147, 148, 149, 150] (by decide +kernel) (by decide +kernel)) (goodIn_sub (fun _ h => List.mem_cons_of_mem _ (List.mem_append_left _ (List.mem_append_right _ h))) (by decide +kernel))
set_option maxRecDepth 20000 in
theorem gX12_isConsistent_X9_flood : GoodIn wsX12_isConsistent (wsV RX12 156 RX9 yX9_flood wsX9_flood) := goodIn_app (goodIn_of _ (by decide +kernel)) ggX12_isConsistent_X9_flood
set_option maxRecDepth 20000 in
theorem ggX12_isConsistent_X9_unite : GoodIn wsX12_isConsistent wsX9_unite := goodIn_ca (goodIn_r _ [48, 49, 50, 51, 26, 52, 35, 36, 37, 38, 39, 40, 41, 42, 43, 44, 53, 54, 55, 7, 56, 57, 58, 59, 145, 146, 147, 148, 149, 150] (by decide +kernel) (by decide +kernel)) (goodIn_sub (fun _ h => List.mem_cons_of_mem _ (List.mem_append_left _ (List.mem_append_right _ h))) (by decide +kernel))
set_option maxRecDepth 20000 in
theorem gX12_isConsistent_X9_unite : GoodIn wsX12_isConsistent (wsV RX12 160 RX9 yX9_unite wsX9_unite) := goodIn_app (goodIn_of _ (by decide +kernel)) ggX12_isConsistent_X9_unite
set_option maxRecDepth 20000 in
theorem ggX12_isConsistent_X1_dayByDay : GoodIn wsX12_isConsistent wsX1_dayByDay := goodIn_ca (goodIn_ca (goodIn_r _ [64, 65, 66, 67, 68, 69, 70, 71, 72, 73, 74, 75, 76, 77, 78, 79, 80, 81, 82, 83, 84, 85, 86, 87, 63, 88, 89, 90, 91, 92, 93, 94, 95, 96, 97, 98, 99, 100, 101, 102, 103, 104, 105, 106, 107, 108, 109, 110, 151, 152, 153, 154, 155, 156, 157, 158] (by decide +kernel) (by decide +kernel)) (goodIn_sub (fun _ h => List.mem_cons_of_mem _ (List.mem_append_left _ (List.mem_append_right _ h))) (by decide +kernel))) (goodIn_sub (fun _ h => List.mem_cons_of_mem _ (List.mem_append_right _ h)) (by decide +kernel))
set_option maxRecDepth 20000 in
theorem gX12_isConsistent_X1_dayByDay : GoodIn wsX12_isConsistent (wsV RX12 208 RX1 yX1_dayByDay wsX1_dayByDay) := goodIn_app (goodIn_of _ (by decide +kernel)) ggX12_isConsistent_X1_dayByDay
set_option maxRecDepth 20000 in
theorem ggX12_isConsistent_X1_branchByBranch : GoodIn wsX12_isConsistent wsX1_branchByBranch := goodIn_ca (goodIn_ca (goodIn_r _ [114, 115, 116, 67, 68, 69, 70, 71, 72, 73, 117, 118, 119, 63, 120, 99, 100, 101, 80, 102, 93, 94, 79, 81, 89, 90, 91, 92, 121, 74, 75, 76, 77, 78, 82, 83, 84, 151, 152, 153, 154, 157, 158, 155, 156] (by decide +kernel) (by decide +kernel)) (goodIn_sub (fun _ h => List.mem_cons_of_mem _ (List.mem_append_left _ (List.mem_append_right _ h))) (by decide +kernel))) (goodIn_sub (fun _ h => List.mem_cons_of_mem _ (List.mem_append_right _ h)) (by decide +kernel))
set_option maxRecDepth 20000 in
theorem gX12_isConsistent_X1_branchByBranch : GoodIn wsX12_isConsistent (wsV RX12 221 RX1 yX1_branchByBranch wsX1_branchByBranch) := goodIn_app (goodIn_of _ (by decide +kernel)) ggX12_isConsistent_X1_branchByBranch
set_option maxRecDepth 20000 in
theorem ggX12_isConsistent_X5_equalsEach : GoodIn wsX12_isConsistent wsX5_equalsEach := goodIn_ca (goodIn_r _ [125, 72, 73, 157, 158] (by decide +kernel) (by decide +kernel)) (goodIn_sub (fun _ h => List.mem_cons_of_mem _ (List.mem_append_left _ (List.mem_append_right _ h))) (by decide +kernel))
set_option maxRecDepth 20000 in
theorem gX12_isConsistent_X5_equalsEach : GoodIn wsX12_isConsistent (wsV RX12 312 RX5 yX5_equalsEach wsX5_equalsEach) := goodIn_app (goodIn_of _ (by decide +kernel)) ggX12_isConsistent_X5_equalsEach
set_option maxRecDepth 20000 in
theorem ggX12_isConsistent_X5_addUpToOne : GoodIn wsX12_isConsistent wsX5_addUpToOne := goodIn_ca (goodIn_ca (goodIn_r _ [129, 73, 72, 82, 83, 70, 84, 157, 158] (by decide +kernel) (by decide +kernel)) (goodIn_sub (fun _ h => List.mem_cons_of_mem _ (List.mem_append_left _ (List.mem_append_right _ h))) (by decide +kernel))) (goodIn_sub (fun _ h => List.mem_cons_of_mem _ (List.mem_append_right _ h)) (by decide +kernel))
set_option maxRecDepth 20000 in
theorem gX12_isConsistent_X5_addUpToOne : GoodIn wsX12_isConsistent (wsV RX12 316 RX5 yX5_addUpToOne wsX5_addUpToOne) := goodIn_app (goodIn_of _ (by decide +kernel)) ggX12_isConsistent_X5_addUpToOne
theorem dX12_isConsistent_0 : decode cX12_isConsistent 0 = .ok (.aload_n 0, 1) := by decide +kernel
theorem dX12_isConsistent_1 : decode cX12_isConsistent 1 = .ok (.getfield 36, 3) := by decide +kernel
theorem dX12_isConsistent_4 : decode cX12_isConsistent 4 = .ok (.aload_n 0, 1) := by decide +kernel
theorem dX12_isConsistent_5 : decode cX12_isConsistent 5 = .ok (.getfield 12, 3) := by decide +kernel
theorem dX12_isConsistent_8 : decode cX12_isConsistent 8 = .ok (.getfield 89, 3) := by decide +kernel
theorem dX12_isConsistent_11 : decode cX12_isConsistent 11 = .ok (.invokevirtual 156, 3) := by decide +kernel
theorem dX12_isConsistent_14 : decode cX12_isConsistent 14 = .ok (.aload_n 0, 1) := by decide +kernel
theorem dX12_isConsistent_15 : decode cX12_isConsistent 15 = .ok (.getfield 36, 3) := by decide +kernel
theorem dX12_isConsistent_18 : decode cX12_isConsistent 18 = .ok (.aload_n 0, 1) := by decide +kernel
theorem dX12_isConsistent_19 : decode cX12_isConsistent 19 = .ok (.getfield 12, 3) := by decide +kernel
theorem dX12_isConsistent_22 : decode cX12_isConsistent 22 = .ok (.getfield 89, 3) := by decide +kernel
theorem dX12_isConsistent_25 : decode cX12_isConsistent 25 = .ok (.invokevirtual 160, 3) := by decide +kernel
theorem dX12_isConsistent_28 : decode cX12_isConsistent 28 = .ok (.if_icmp .ne 7, 3) := by decide +kernel
theorem dX12_isConsistent_31 : decode cX12_isConsistent 31 = .ok (.iconst 1, 1) := by decide +kernel
theorem dX12_isConsistent_32 : decode cX12_isConsistent 32 = .ok (.goto 4, 3) := by decide +kernel
theorem dX12_isConsistent_35 : decode cX12_isConsistent 35 = .ok (.iconst 0, 1) := by decide +kernel
theorem dX12_isConsistent_36 : decode cX12_isConsistent 36 = .ok (.istore_n 1, 1) := by decide +kernel
theorem dX12_isConsistent_37 : decode cX12_isConsistent 37 = .ok (.iconst 0, 1) := by decide +kernel
theorem dX12_isConsistent_38 : decode cX12_isConsistent 38 = .ok (.istore_n 2, 1) := by decide +kernel
theorem dX12_isConsistent_39 : decode cX12_isConsistent 39 = .ok (.iload_n 2, 1) := by decide +kernel
theorem dX12_isConsistent_40 : decode cX12_isConsistent 40 = .ok (.iconst 3, 1) := by decide +kernel
theorem dX12_isConsistent_41 : decode cX12_isConsistent 41 = .ok (.if_icmp .gt 68, 3) := by decide +kernel
theorem dX12_isConsistent_44 : decode cX12_isConsistent 44 = .ok (.aload_n 0, 1) := by decide +kernel
theorem dX12_isConsistent_45 : decode cX12_isConsistent 45 = .ok (.getfield 43, 3) := by decide +kernel
theorem dX12_isConsistent_48 : decode cX12_isConsistent 48 = .ok (.aload_n 0, 1) := by decide +kernel
theorem dX12_isConsistent_49 : decode cX12_isConsistent 49 = .ok (.getfield 12, 3) := by decide +kernel
theorem dX12_isConsistent_52 : decode cX12_isConsistent 52 = .ok (.getfield 179, 3) := by decide +kernel
theorem dX12_isConsistent_55 : decode cX12_isConsistent 55 = .ok (.iload_n 2, 1) := by decide +kernel
theorem dX12_isConsistent_56 : decode cX12_isConsistent 56 = .ok (.invokevirtual 208, 3) := by decide +kernel
theorem dX12_isConsistent_59 : decode cX12_isConsistent 59 = .ok (.astore_n 3, 1) := by decide +kernel
theorem dX12_isConsistent_60 : decode cX12_isConsistent 60 = .ok (.aload_n 0, 1) := by decide +kernel
theorem dX12_isConsistent_61 : decode cX12_isConsistent 61 = .ok (.getfield 43, 3) := by decide +kernel
theorem dX12_isConsistent_64 : decode cX12_isConsistent 64 = .ok (.aload_n 0, 1) := by decide +kernel
theorem dX12_isConsistent_65 : decode cX12_isConsistent 65 = .ok (.getfield 12, 3) := by decide +kernel
theorem dX12_isConsistent_68 : decode cX12_isConsistent 68 = .ok (.getfield 179, 3) := by decide +kernel
theorem dX12_isConsistent_71 : decode cX12_isConsistent 71 = .ok (.iload_n 2, 1) := by decide +kernel
theorem dX12_isConsistent_72 : decode cX12_isConsistent 72 = .ok (.invokevirtual 221, 3) := by decide +kernel
theorem dX12_isConsistent_75 : decode cX12_isConsistent 75 = .ok (.astore 4, 2) := by decide +kernel
theorem dX12_isConsistent_77 : decode cX12_isConsistent 77 = .ok (.iload_n 1, 1) := by decide +kernel
theorem dX12_isConsistent_78 : decode cX12_isConsistent 78 = .ok (.ifCond .eq 23, 3) := by decide +kernel
theorem dX12_isConsistent_81 : decode cX12_isConsistent 81 = .ok (.aload_n 3, 1) := by decide +kernel
theorem dX12_isConsistent_82 : decode cX12_isConsistent 82 = .ok (.aload 4, 2) := by decide +kernel
theorem dX12_isConsistent_84 : decode cX12_isConsistent 84 = .ok (.invokevirtual 312, 3) := by decide +kernel
theorem dX12_isConsistent_87 : decode cX12_isConsistent 87 = .ok (.ifCond .eq 14, 3) := by decide +kernel
theorem dX12_isConsistent_90 : decode cX12_isConsistent 90 = .ok (.aload_n 3, 1) := by decide +kernel
theorem dX12_isConsistent_91 : decode cX12_isConsistent 91 = .ok (.invokevirtual 316, 3) := by decide +kernel
theorem dX12_isConsistent_94 : decode cX12_isConsistent 94 = .ok (.ifCond .eq 7, 3) := by decide +kernel
theorem dX12_isConsistent_97 : decode cX12_isConsistent 97 = .ok (.iconst 1, 1) := by decide +kernel
theorem dX12_isConsistent_98 : decode cX12_isConsistent 98 = .ok (.goto 4, 3) := by decide +kernel
theorem dX12_isConsistent_101 : decode cX12_isConsistent 101 = .ok (.iconst 0, 1) := by decide +kernel
theorem dX12_isConsistent_102 : decode cX12_isConsistent 102 = .ok (.istore_n 1, 1) := by decide +kernel
theorem dX12_isConsistent_103 : decode cX12_isConsistent 103 = .ok (.iinc 2 1, 3) := by decide +kernel
theorem dX12_isConsistent_106 : decode cX12_isConsistent 106 = .ok (.goto (-67), 3) := by decide +kernel
theorem dX12_isConsistent_109 : decode cX12_isConsistent 109 = .ok (.iload_n 1, 1) := by decide +kernel
theorem dX12_isConsistent_110 : decode cX12_isConsistent 110 = .ok (.ireturn, 1) := by decide +kernel
set_option maxRecDepth 20000 in
theorem ggX12_type_X3_hasRoom : GoodIn wsX12_type wsX3_hasRoom := goodIn_r _ [10, 11, 29, 30, 31, 32, 33, 34] (by decide +kernel) (by decide +kernel)
set_option maxRecDepth 20000 in
theorem gX12_type_X3_hasRoom : GoodIn wsX12_type (wsV RX12 321 RX3 yX3_hasRoom wsX3_hasRoom) := goodIn_app (goodIn_of _ (by decide +kernel)) ggX12_type_X3_hasRoom
set_option maxRecDepth 20000 in
theorem ggX12_type_X3_append : GoodIn wsX12_type wsX3_append := goodIn_ca (goodIn_r _ [15, 16, 11, 17, 7, 8, 9, 10, 29, 30, 31, 32, 33, 34] (by decide +kernel) (by decide +kernel)) (goodIn_sub (fun _ h => List.mem_cons_of_mem _ (List.mem_append_right _ h)) (by decide +kernel))
set_option maxRecDepth 20000 in
theorem gX12_type_X3_append : GoodIn wsX12_type (wsV RX12 324 RX3 yX3_append wsX3_append) := goodIn_app (goodIn_of _ (by decide +kernel)) ggX12_type_X3_append
theorem dX12_type_0 : decode cX12_type 0 = .ok (.iload_n 1, 1) := by decide +kernel
theorem dX12_type_1 : decode cX12_type 1 = .ok (.bipush 32, 2) := by decide +kernel
theorem dX12_type_3 : decode cX12_type 3 = .ok (.if_icmp .lt 9, 3) := by decide +kernel
theorem dX12_type_6 : decode cX12_type 6 = .ok (.iload_n 1, 1) := by decide +kernel
theorem dX12_type_7 : decode cX12_type 7 = .ok (.bipush 126, 2) := by decide +kernel
theorem dX12_type_9 : decode cX12_type 9 = .ok (.if_icmp .le 14, 3) := by decide +kernel
theorem dX12_type_12 : decode cX12_type 12 = .ok (.new 78, 3) := by decide +kernel
theorem dX12_type_15 : decode cX12_type 15 = .ok (.dup, 1) := by decide +kernel
theorem dX12_type_16 : decode cX12_type 16 = .ok (.ldc_w 319, 3) := by decide +kernel
theorem dX12_type_19 : decode cX12_type 19 = .ok (.invokespecial 82, 3) := by decide +kernel
theorem dX12_type_22 : decode cX12_type 22 = .ok (.athrow, 1) := by decide +kernel
theorem dX12_type_23 : decode cX12_type 23 = .ok (.aload_n 0, 1) := by decide +kernel
theorem dX12_type_24 : decode cX12_type 24 = .ok (.getfield 50, 3) := by decide +kernel
theorem dX12_type_27 : decode cX12_type 27 = .ok (.invokevirtual 321, 3) := by decide +kernel
theorem dX12_type_30 : decode cX12_type 30 = .ok (.ifCond .ne 14, 3) := by decide +kernel
theorem dX12_type_33 : decode cX12_type 33 = .ok (.new 187, 3) := by decide +kernel
theorem dX12_type_36 : decode cX12_type 36 = .ok (.dup, 1) := by decide +kernel
theorem dX12_type_37 : decode cX12_type 37 = .ok (.ldc_w 322, 3) := by decide +kernel
theorem dX12_type_40 : decode cX12_type 40 = .ok (.invokespecial 191, 3) := by decide +kernel
theorem dX12_type_43 : decode cX12_type 43 = .ok (.athrow, 1) := by decide +kernel
theorem dX12_type_44 : decode cX12_type 44 = .ok (.aload_n 0, 1) := by decide +kernel
theorem dX12_type_45 : decode cX12_type 45 = .ok (.getfield 50, 3) := by decide +kernel
theorem dX12_type_48 : decode cX12_type 48 = .ok (.iload_n 1, 1) := by decide +kernel
theorem dX12_type_49 : decode cX12_type 49 = .ok (.invokevirtual 324, 3) := by decide +kernel
theorem dX12_type_52 : decode cX12_type 52 = .ok (.aload_n 0, 1) := by decide +kernel
theorem dX12_type_53 : decode cX12_type 53 = .ok (.getfield 50, 3) := by decide +kernel
theorem dX12_type_56 : decode cX12_type 56 = .ok (.getfield 327, 3) := by decide +kernel
theorem dX12_type_59 : decode cX12_type 59 = .ok (.ireturn, 1) := by decide +kernel
set_option maxRecDepth 20000 in
theorem ggX12_execute_X3_parse : GoodIn wsX12_execute wsX3_parse := goodIn_ca (goodIn_r _ [15, 16, 17, 18, 19, 20, 21, 14, 22, 23, 24, 25, 26, 27, 28, 29, 30, 31, 32, 33, 34, 35, 36, 37, 38, 39, 40, 41, 42, 43, 44, 45, 46, 47, 48, 49, 50, 51, 52, 53, 54, 55, 56, 57, 58, 59, 60, 61, 62, 63, 64, 65, 66, 67, 68, 69, 70, 71, 72, 73, 74, 75, 76, 77, 78, 79, 80, 81, 82, 83, 84, 85, 86, 87, 88, 89, 90, 91, 92, 93, 94, 95, 96, 97, 98, 99, 100, 101, 102, 103, 104, 105, 106, 107, 108, 109, 110, 111, 112, 113, 114, 115, 116, 117, 409, 410, 411, 412, 413, 414, 415, 416] (by decide +kernel) (by decide +kernel)) (goodIn_sub (fun _ h => List.mem_cons_of_mem _ (List.mem_append_left _ (List.mem_append_right _ h))) (by decide +kernel))
set_option maxRecDepth 20000 in
theorem gX12_execute_X3_parse : GoodIn wsX12_execute (wsV RX12 328 RX3 yX3_parse wsX3_parse) := goodIn_app (goodIn_of _ (by decide +kernel)) ggX12_execute_X3_parse
set_option maxRecDepth 20000 in
theorem ggX12_execute_X3_clear : GoodIn wsX12_execute wsX3_clear := goodIn_r _ [121, 18, 409, 410, 411, 412, 413, 414] (by decide +kernel) (by decide +kernel)
set_option maxRecDepth 20000 in
theorem gX12_execute_X3_clear : GoodIn wsX12_execute (wsV RX12 331 RX3 yX3_clear wsX3_clear) := goodIn_app (goodIn_of _ (by decide +kernel)) ggX12_execute_X3_clear
set_option maxRecDepth 20000 in
theorem ggX12_execute_X11_copyFrom : GoodIn wsX12_execute wsX11_copyFrom := goodIn_ca (goodIn_r _ [126, 127, 128, 129, 130, 131, 132, 133, 108, 134, 135, 136, 137, 138, 139, 140, 141, 142, 143, 144, 145, 146, 147, 148, 149, 150, 151, 152, 153, 154, 417, 418, 419, 420, 421, 422, 423, 424, 425, 426, 427, 428, 429, 430] (by decide +kernel) (by decide +kernel)) (goodIn_sub (fun _ h => List.mem_cons_of_mem _ (List.mem_append_left _ (List.mem_append_right _ h))) (by decide +kernel))
set_option maxRecDepth 20000 in
theorem gX12_execute_X11_copyFrom : GoodIn wsX12_execute (wsV RX12 334 RX11 yX11_copyFrom wsX11_copyFrom) := goodIn_app (goodIn_of _ (by decide +kernel)) ggX12_execute_X11_copyFrom
set_option maxRecDepth 20000 in
theorem ggX12_execute_X12_isAllowed : GoodIn wsX12_execute wsX12_isAllowed := goodIn_ca (goodIn_r _ [159, 5, 160, 8, 161, 162, 163, 14, 164, 24, 95, 96, 97, 165, 166, 167, 168, 23, 169, 170, 171, 172, 173, 174, 175, 176, 177, 178, 108, 179, 180, 181, 182, 183, 184, 185, 186, 107, 109, 187, 188, 189, 190, 191, 140, 192, 193, 194, 195, 196, 197, 198, 199, 200, 201, 202, 203, 142, 204, 205, 206, 207, 208, 209, 210, 211, 212, 213, 214, 147, 215, 151, 216, 217, 218, 219, 398, 399, 400, 401, 402, 403, 404, 405, 406, 407, 408, 417, 418, 419, 420, 409, 410, 411, 412, 413, 414, 423, 424, 425, 426, 427, 428, 429, 430] (by decide +kernel) (by decide +kernel)) (goodIn_sub (fun _ h => List.mem_cons_of_mem _ (List.mem_append_left _ (List.mem_append_right _ h))) (by decide +kernel))
set_option maxRecDepth 20000 in
theorem gX12_execute_X12_isAllowed : GoodIn wsX12_execute (wsV RX12 340 RX12 yX12_isAllowed wsX12_isAllowed) := goodIn_app (goodIn_of _ (by decide +kernel)) ggX12_execute_X12_isAllowed
set_option maxRecDepth 20000 in
theorem ggX12_execute_X12_perform : GoodIn wsX12_execute wsX12_perform := goodIn_ca (goodIn_ca (goodIn_r _ [223, 5, 160, 8, 161, 162, 163, 14, 164, 24, 95, 96, 97, 165, 166, 167, 168, 23, 169, 170, 171, 172, 173, 174, 175, 176, 224, 225, 108, 226, 227, 228, 229, 230, 135, 231, 232, 233, 234, 235, 236, 237, 238, 239, 240, 241, 242, 243, 244, 245, 246, 247, 248, 249, 250, 251, 252, 253, 254, 255, 256, 257, 258, 259, 140, 260, 142, 204, 191, 192, 261, 262, 263, 158, 264, 265, 266, 267, 268, 269, 270, 271, 272, 273, 274, 275, 276, 277, 278, 279, 280, 281, 282, 283, 284, 285, 286, 287, 288, 289, 290, 291, 292, 201, 202, 203, 293, 294, 295, 296, 297, 206, 207, 208, 298, 299, 300, 301, 302, 303, 304, 305, 306, 307, 308, 309, 310, 311, 312, 313, 314, 147, 315, 149, 151, 150, 316, 213, 214, 215, 317, 318, 319, 320, 321, 217, 218, 219, 322, 323, 324, 125, 325, 130, 128, 129, 326, 327, 328, 329, 143, 205, 330, 331, 332, 333, 334, 335, 336, 31, 337, 152, 154, 153, 338, 339, 340, 341, 342, 343, 344, 345, 346, 347, 348, 349, 350, 351, 352, 353, 354, 355, 356, 357, 358, 359, 360, 361, 362, 363, 364, 365, 366, 367, 368, 369, 370, 371, 372, 178, 179, 373, 374, 375, 376, 377, 378, 379, 380, 381, 136, 382, 383, 384, 385, 398, 399, 400, 401, 402, 403, 404, 405, 406, 407, 408, 417, 418, 419, 420, 421, 422, 409, 410, 411, 412, 413, 414, 423, 424, 431, 432, 433, 434, 435, 436, 425, 426, 427, 428, 429, 430, 437, 438, 439, 440] (by decide +kernel) (by decide +kernel)) (goodIn_sub (fun _ h => List.mem_cons_of_mem _ (List.mem_append_left _ (List.mem_append_right _ h))) (by decide +kernel))) (goodIn_sub (fun _ h => List.mem_cons_of_mem _ (List.mem_append_right _ h)) (by decide +kernel))
set_option maxRecDepth 20000 in
theorem gX12_execute_X12_perform : GoodIn wsX12_execute (wsV RX12 345 RX12 yX12_perform wsX12_perform) := goodIn_app (goodIn_of _ (by decide +kernel)) ggX12_execute_X12_perform
set_option maxRecDepth 20000 in
theorem ggX12_execute_X6_remember : GoodIn wsX12_execute wsX6_remember := goodIn_ca (goodIn_r _ [390, 391, 392, 393, 394, 395, 31, 396, 397, 123, 124, 125, 126, 127, 128, 129, 130, 131, 132, 133, 108, 134, 135, 136, 137, 138, 139, 140, 141, 142, 143, 144, 145, 146, 147, 148, 149, 150, 151, 152, 153, 154, 441, 442, 443, 417, 418, 419, 420, 421, 422, 423, 424, 425, 426, 427, 428, 429, 430] (by decide +kernel) (by decide +kernel)) (goodIn_sub (fun _ h => List.mem_cons_of_mem _ (List.mem_append_left _ (List.mem_append_right _ h))) (by decide +kernel))
set_option maxRecDepth 20000 in
theorem gX12_execute_X6_remember : GoodIn wsX12_execute (wsV RX12 85 RX6 yX6_remember wsX6_remember) := goodIn_app (goodIn_of _ (by decide +kernel)) ggX12_execute_X6_remember
theorem dX12_execute_0 : decode cX12_execute 0 = .ok (.aload_n 0, 1) := by decide +kernel
theorem dX12_execute_1 : decode cX12_execute 1 = .ok (.getfield 50, 3) := by decide +kernel
theorem dX12_execute_4 : decode cX12_execute 4 = .ok (.invokevirtual 328, 3) := by decide +kernel
theorem dX12_execute_7 : decode cX12_execute 7 = .ok (.istore_n 1, 1) := by decide +kernel
theorem dX12_execute_8 : decode cX12_execute 8 = .ok (.aload_n 0, 1) := by decide +kernel
theorem dX12_execute_9 : decode cX12_execute 9 = .ok (.getfield 50, 3) := by decide +kernel
theorem dX12_execute_12 : decode cX12_execute 12 = .ok (.invokevirtual 331, 3) := by decide +kernel
theorem dX12_execute_15 : decode cX12_execute 15 = .ok (.iload_n 1, 1) := by decide +kernel
theorem dX12_execute_16 : decode cX12_execute 16 = .ok (.iconst (-1), 1) := by decide +kernel
theorem dX12_execute_17 : decode cX12_execute 17 = .ok (.if_icmp .eq 19, 3) := by decide +kernel
theorem dX12_execute_20 : decode cX12_execute 20 = .ok (.aload_n 0, 1) := by decide +kernel
theorem dX12_execute_21 : decode cX12_execute 21 = .ok (.iload_n 1, 1) := by decide +kernel
theorem dX12_execute_22 : decode cX12_execute 22 = .ok (.putfield 61, 3) := by decide +kernel
theorem dX12_execute_25 : decode cX12_execute 25 = .ok (.new 78, 3) := by decide +kernel
theorem dX12_execute_28 : decode cX12_execute 28 = .ok (.dup, 1) := by decide +kernel
theorem dX12_execute_29 : decode cX12_execute 29 = .ok (.ldc_w 332, 3) := by decide +kernel
theorem dX12_execute_32 : decode cX12_execute 32 = .ok (.invokespecial 82, 3) := by decide +kernel
theorem dX12_execute_35 : decode cX12_execute 35 = .ok (.athrow, 1) := by decide +kernel
theorem dX12_execute_36 : decode cX12_execute 36 = .ok (.aload_n 0, 1) := by decide +kernel
theorem dX12_execute_37 : decode cX12_execute 37 = .ok (.getfield 16, 3) := by decide +kernel
theorem dX12_execute_40 : decode cX12_execute 40 = .ok (.aload_n 0, 1) := by decide +kernel
theorem dX12_execute_41 : decode cX12_execute 41 = .ok (.getfield 12, 3) := by decide +kernel
theorem dX12_execute_44 : decode cX12_execute 44 = .ok (.invokevirtual 334, 3) := by decide +kernel
theorem dX12_execute_47 : decode cX12_execute 47 = .ok (.iconst 0, 1) := by decide +kernel
theorem dX12_execute_48 : decode cX12_execute 48 = .ok (.istore_n 2, 1) := by decide +kernel
theorem dX12_execute_49 : decode cX12_execute 49 = .ok (.iload_n 2, 1) := by decide +kernel
theorem dX12_execute_50 : decode cX12_execute 50 = .ok (.aload_n 0, 1) := by decide +kernel
theorem dX12_execute_51 : decode cX12_execute 51 = .ok (.getfield 50, 3) := by decide +kernel
theorem dX12_execute_54 : decode cX12_execute 54 = .ok (.getfield 337, 3) := by decide +kernel
theorem dX12_execute_57 : decode cX12_execute 57 = .ok (.if_icmp .ge 49, 3) := by decide +kernel
theorem dX12_execute_60 : decode cX12_execute 60 = .ok (.aload_n 0, 1) := by decide +kernel
theorem dX12_execute_61 : decode cX12_execute 61 = .ok (.iload_n 2, 1) := by decide +kernel
theorem dX12_execute_62 : decode cX12_execute 62 = .ok (.invokevirtual 340, 3) := by decide +kernel
theorem dX12_execute_65 : decode cX12_execute 65 = .ok (.ifCond .ne 30, 3) := by decide +kernel
theorem dX12_execute_68 : decode cX12_execute 68 = .ok (.aload_n 0, 1) := by decide +kernel
theorem dX12_execute_69 : decode cX12_execute 69 = .ok (.getfield 12, 3) := by decide +kernel
theorem dX12_execute_72 : decode cX12_execute 72 = .ok (.aload_n 0, 1) := by decide +kernel
theorem dX12_execute_73 : decode cX12_execute 73 = .ok (.getfield 16, 3) := by decide +kernel
theorem dX12_execute_76 : decode cX12_execute 76 = .ok (.invokevirtual 334, 3) := by decide +kernel
theorem dX12_execute_79 : decode cX12_execute 79 = .ok (.aload_n 0, 1) := by decide +kernel
theorem dX12_execute_80 : decode cX12_execute 80 = .ok (.iload_n 2, 1) := by decide +kernel
theorem dX12_execute_81 : decode cX12_execute 81 = .ok (.putfield 65, 3) := by decide +kernel
theorem dX12_execute_84 : decode cX12_execute 84 = .ok (.new 187, 3) := by decide +kernel
theorem dX12_execute_87 : decode cX12_execute 87 = .ok (.dup, 1) := by decide +kernel
theorem dX12_execute_88 : decode cX12_execute 88 = .ok (.ldc_w 343, 3) := by decide +kernel
theorem dX12_execute_91 : decode cX12_execute 91 = .ok (.invokespecial 191, 3) := by decide +kernel
theorem dX12_execute_94 : decode cX12_execute 94 = .ok (.athrow, 1) := by decide +kernel
theorem dX12_execute_95 : decode cX12_execute 95 = .ok (.aload_n 0, 1) := by decide +kernel
theorem dX12_execute_96 : decode cX12_execute 96 = .ok (.iload_n 2, 1) := by decide +kernel
theorem dX12_execute_97 : decode cX12_execute 97 = .ok (.invokevirtual 345, 3) := by decide +kernel
theorem dX12_execute_100 : decode cX12_execute 100 = .ok (.iinc 2 1, 3) := by decide +kernel
theorem dX12_execute_103 : decode cX12_execute 103 = .ok (.goto (-54), 3) := by decide +kernel
theorem dX12_execute_106 : decode cX12_execute 106 = .ok (.aload_n 0, 1) := by decide +kernel
theorem dX12_execute_107 : decode cX12_execute 107 = .ok (.getfield 29, 3) := by decide +kernel
theorem dX12_execute_110 : decode cX12_execute 110 = .ok (.aload_n 0, 1) := by decide +kernel
theorem dX12_execute_111 : decode cX12_execute 111 = .ok (.getfield 16, 3) := by decide +kernel
theorem dX12_execute_114 : decode cX12_execute 114 = .ok (.invokevirtual 85, 3) := by decide +kernel
theorem dX12_execute_117 : decode cX12_execute 117 = .ok (.aload_n 0, 1) := by decide +kernel
theorem dX12_execute_118 : decode cX12_execute 118 = .ok (.getfield 50, 3) := by decide +kernel
theorem dX12_execute_121 : decode cX12_execute 121 = .ok (.getfield 337, 3) := by decide +kernel
theorem dX12_execute_124 : decode cX12_execute 124 = .ok (.ireturn, 1) := by decide +kernel
theorem dX12_errorPosition_0 : decode cX12_errorPosition 0 = .ok (.aload_n 0, 1) := by decide +kernel
theorem dX12_errorPosition_1 : decode cX12_errorPosition 1 = .ok (.getfield 61, 3) := by decide +kernel
theorem dX12_errorPosition_4 : decode cX12_errorPosition 4 = .ok (.iconst (-1), 1) := by decide +kernel
theorem dX12_errorPosition_5 : decode cX12_errorPosition 5 = .ok (.if_icmp .ne 14, 3) := by decide +kernel
theorem dX12_errorPosition_8 : decode cX12_errorPosition 8 = .ok (.new 140, 3) := by decide +kernel
theorem dX12_errorPosition_11 : decode cX12_errorPosition 11 = .ok (.dup, 1) := by decide +kernel
theorem dX12_errorPosition_12 : decode cX12_errorPosition 12 = .ok (.ldc_w 348, 3) := by decide +kernel
theorem dX12_errorPosition_15 : decode cX12_errorPosition 15 = .ok (.invokespecial 144, 3) := by decide +kernel
theorem dX12_errorPosition_18 : decode cX12_errorPosition 18 = .ok (.athrow, 1) := by decide +kernel
theorem dX12_errorPosition_19 : decode cX12_errorPosition 19 = .ok (.aload_n 0, 1) := by decide +kernel
theorem dX12_errorPosition_20 : decode cX12_errorPosition 20 = .ok (.getfield 61, 3) := by decide +kernel
theorem dX12_errorPosition_23 : decode cX12_errorPosition 23 = .ok (.ireturn, 1) := by decide +kernel
theorem dX12_failedCommand_0 : decode cX12_failedCommand 0 = .ok (.aload_n 0, 1) := by decide +kernel
theorem dX12_failedCommand_1 : decode cX12_failedCommand 1 = .ok (.getfield 65, 3) := by decide +kernel
theorem dX12_failedCommand_4 : decode cX12_failedCommand 4 = .ok (.iconst (-1), 1) := by decide +kernel
theorem dX12_failedCommand_5 : decode cX12_failedCommand 5 = .ok (.if_icmp .ne 14, 3) := by decide +kernel
theorem dX12_failedCommand_8 : decode cX12_failedCommand 8 = .ok (.new 140, 3) := by decide +kernel
theorem dX12_failedCommand_11 : decode cX12_failedCommand 11 = .ok (.dup, 1) := by decide +kernel
theorem dX12_failedCommand_12 : decode cX12_failedCommand 12 = .ok (.ldc_w 350, 3) := by decide +kernel
theorem dX12_failedCommand_15 : decode cX12_failedCommand 15 = .ok (.invokespecial 144, 3) := by decide +kernel
theorem dX12_failedCommand_18 : decode cX12_failedCommand 18 = .ok (.athrow, 1) := by decide +kernel
theorem dX12_failedCommand_19 : decode cX12_failedCommand 19 = .ok (.aload_n 0, 1) := by decide +kernel
theorem dX12_failedCommand_20 : decode cX12_failedCommand 20 = .ok (.getfield 65, 3) := by decide +kernel
theorem dX12_failedCommand_23 : decode cX12_failedCommand 23 = .ok (.ireturn, 1) := by decide +kernel
set_option maxRecDepth 20000 in
theorem ggX12_undo_X6_takeBack : GoodIn wsX12_undo wsX6_takeBack := goodIn_ca (goodIn_r _ [9, 10, 11, 12, 13, 14, 15, 16, 17, 18, 19, 20, 21, 22, 23, 24, 25, 26, 27, 28, 29, 30, 31, 32, 33, 34, 35, 36, 37, 38, 39, 40, 41, 42, 43, 44, 45, 46, 58, 59, 60, 61, 62, 63, 64, 65, 66, 67, 68, 69, 70, 71, 72, 73, 74] (by decide +kernel) (by decide +kernel)) (goodIn_sub (fun _ h => List.mem_cons_of_mem _ (List.mem_append_right _ h)) (by decide +kernel))
set_option maxRecDepth 20000 in
theorem gX12_undo_X6_takeBack : GoodIn wsX12_undo (wsV RX12 355 RX6 yX6_takeBack wsX6_takeBack) := goodIn_app (goodIn_of _ (by decide +kernel)) ggX12_undo_X6_takeBack
theorem dX12_undo_0 : decode cX12_undo 0 = .ok (.aload_n 0, 1) := by decide +kernel
theorem dX12_undo_1 : decode cX12_undo 1 = .ok (.getfield 29, 3) := by decide +kernel
theorem dX12_undo_4 : decode cX12_undo 4 = .ok (.getfield 352, 3) := by decide +kernel
theorem dX12_undo_7 : decode cX12_undo 7 = .ok (.ifCond .ne 14, 3) := by decide +kernel
theorem dX12_undo_10 : decode cX12_undo 10 = .ok (.new 187, 3) := by decide +kernel
theorem dX12_undo_13 : decode cX12_undo 13 = .ok (.dup, 1) := by decide +kernel
theorem dX12_undo_14 : decode cX12_undo 14 = .ok (.ldc_w 353, 3) := by decide +kernel
theorem dX12_undo_17 : decode cX12_undo 17 = .ok (.invokespecial 191, 3) := by decide +kernel
theorem dX12_undo_20 : decode cX12_undo 20 = .ok (.athrow, 1) := by decide +kernel
theorem dX12_undo_21 : decode cX12_undo 21 = .ok (.aload_n 0, 1) := by decide +kernel
theorem dX12_undo_22 : decode cX12_undo 22 = .ok (.getfield 29, 3) := by decide +kernel
theorem dX12_undo_25 : decode cX12_undo 25 = .ok (.aload_n 0, 1) := by decide +kernel
theorem dX12_undo_26 : decode cX12_undo 26 = .ok (.getfield 12, 3) := by decide +kernel
theorem dX12_undo_29 : decode cX12_undo 29 = .ok (.invokevirtual 355, 3) := by decide +kernel
theorem dX12_undo_32 : decode cX12_undo 32 = .ok (.aload_n 0, 1) := by decide +kernel
theorem dX12_undo_33 : decode cX12_undo 33 = .ok (.getfield 29, 3) := by decide +kernel
theorem dX12_undo_36 : decode cX12_undo 36 = .ok (.getfield 352, 3) := by decide +kernel
theorem dX12_undo_39 : decode cX12_undo 39 = .ok (.ireturn, 1) := by decide +kernel
set_option maxRecDepth 20000 in
theorem ggX12_save_X11_copyFrom : GoodIn wsX12_save wsX11_copyFrom := goodIn_ca (goodIn_r _ [8, 9, 10, 11, 12, 13, 14, 15, 16, 17, 18, 19, 20, 21, 22, 23, 24, 25, 26, 27, 28, 29, 30, 31, 32, 33, 34, 35, 36, 37, 49, 50, 51, 52, 53, 54, 55, 56, 57, 58, 59, 60, 61, 62] (by decide +kernel) (by decide +kernel)) (goodIn_sub (fun _ h => List.mem_cons_of_mem _ (List.mem_append_right _ h)) (by decide +kernel))
set_option maxRecDepth 20000 in
theorem gX12_save_X11_copyFrom : GoodIn wsX12_save (wsV RX12 334 RX11 yX11_copyFrom wsX11_copyFrom) := goodIn_app (goodIn_of _ (by decide +kernel)) ggX12_save_X11_copyFrom
theorem dX12_save_0 : decode cX12_save 0 = .ok (.aload_n 0, 1) := by decide +kernel
theorem dX12_save_1 : decode cX12_save 1 = .ok (.getfield 19, 3) := by decide +kernel
theorem dX12_save_4 : decode cX12_save 4 = .ok (.aload_n 0, 1) := by decide +kernel
theorem dX12_save_5 : decode cX12_save 5 = .ok (.getfield 12, 3) := by decide +kernel
theorem dX12_save_8 : decode cX12_save 8 = .ok (.invokevirtual 334, 3) := by decide +kernel
theorem dX12_save_11 : decode cX12_save 11 = .ok (.aload_n 0, 1) := by decide +kernel
theorem dX12_save_12 : decode cX12_save 12 = .ok (.iconst 1, 1) := by decide +kernel
theorem dX12_save_13 : decode cX12_save 13 = .ok (.putfield 22, 3) := by decide +kernel
theorem dX12_save_16 : decode cX12_save 16 = .ok (.aload_n 0, 1) := by decide +kernel
theorem dX12_save_17 : decode cX12_save 17 = .ok (.getfield 12, 3) := by decide +kernel
theorem dX12_save_20 : decode cX12_save 20 = .ok (.getfield 202, 3) := by decide +kernel
theorem dX12_save_23 : decode cX12_save 23 = .ok (.ireturn, 1) := by decide +kernel
set_option maxRecDepth 20000 in
theorem ggX12_restore_X11_copyFrom : GoodIn wsX12_restore wsX11_copyFrom := goodIn_ca (goodIn_r _ [11, 12, 13, 14, 15, 16, 17, 18, 19, 20, 21, 22, 23, 24, 25, 26, 27, 28, 29, 30, 31, 32, 33, 34, 35, 36, 37, 38, 39, 40, 58, 59, 60, 61, 62, 63, 64, 65, 66, 67, 68, 69, 70, 71] (by decide +kernel) (by decide +kernel)) (goodIn_sub (fun _ h => List.mem_cons_of_mem _ (List.mem_append_right _ h)) (by decide +kernel))
set_option maxRecDepth 20000 in
theorem gX12_restore_X11_copyFrom : GoodIn wsX12_restore (wsV RX12 334 RX11 yX11_copyFrom wsX11_copyFrom) := goodIn_app (goodIn_of _ (by decide +kernel)) ggX12_restore_X11_copyFrom
set_option maxRecDepth 20000 in
theorem ggX12_restore_X6_clear : GoodIn wsX12_restore wsX6_clear := goodIn_r _ [45, 46, 72, 73, 74] (by decide +kernel) (by decide +kernel)
set_option maxRecDepth 20000 in
theorem gX12_restore_X6_clear : GoodIn wsX12_restore (wsV RX12 360 RX6 yX6_clear wsX6_clear) := goodIn_app (goodIn_of _ (by decide +kernel)) ggX12_restore_X6_clear
theorem dX12_restore_0 : decode cX12_restore 0 = .ok (.aload_n 0, 1) := by decide +kernel
theorem dX12_restore_1 : decode cX12_restore 1 = .ok (.getfield 22, 3) := by decide +kernel
theorem dX12_restore_4 : decode cX12_restore 4 = .ok (.ifCond .ne 14, 3) := by decide +kernel
theorem dX12_restore_7 : decode cX12_restore 7 = .ok (.new 187, 3) := by decide +kernel
theorem dX12_restore_10 : decode cX12_restore 10 = .ok (.dup, 1) := by decide +kernel
theorem dX12_restore_11 : decode cX12_restore 11 = .ok (.ldc_w 358, 3) := by decide +kernel
theorem dX12_restore_14 : decode cX12_restore 14 = .ok (.invokespecial 191, 3) := by decide +kernel
theorem dX12_restore_17 : decode cX12_restore 17 = .ok (.athrow, 1) := by decide +kernel
theorem dX12_restore_18 : decode cX12_restore 18 = .ok (.aload_n 0, 1) := by decide +kernel
theorem dX12_restore_19 : decode cX12_restore 19 = .ok (.getfield 12, 3) := by decide +kernel
theorem dX12_restore_22 : decode cX12_restore 22 = .ok (.aload_n 0, 1) := by decide +kernel
theorem dX12_restore_23 : decode cX12_restore 23 = .ok (.getfield 19, 3) := by decide +kernel
theorem dX12_restore_26 : decode cX12_restore 26 = .ok (.invokevirtual 334, 3) := by decide +kernel
theorem dX12_restore_29 : decode cX12_restore 29 = .ok (.aload_n 0, 1) := by decide +kernel
theorem dX12_restore_30 : decode cX12_restore 30 = .ok (.getfield 29, 3) := by decide +kernel
theorem dX12_restore_33 : decode cX12_restore 33 = .ok (.invokevirtual 360, 3) := by decide +kernel
theorem dX12_restore_36 : decode cX12_restore 36 = .ok (.aload_n 0, 1) := by decide +kernel
theorem dX12_restore_37 : decode cX12_restore 37 = .ok (.getfield 12, 3) := by decide +kernel
theorem dX12_restore_40 : decode cX12_restore 40 = .ok (.getfield 202, 3) := by decide +kernel
theorem dX12_restore_43 : decode cX12_restore 43 = .ok (.ireturn, 1) := by decide +kernel
set_option maxRecDepth 20000 in
theorem ggX12_requireCell_X10_isCell : GoodIn wsX12_requireCell wsX10_isCell := goodIn_r _ [6] (by decide +kernel) (by decide +kernel)
set_option maxRecDepth 20000 in
theorem gX12_requireCell_X10_isCell : GoodIn wsX12_requireCell (va_wsS RX12 136 yX10_isCell wsX10_isCell) := goodIn_app (goodIn_of _ (by decide +kernel)) ggX12_requireCell_X10_isCell
theorem dX12_requireCell_0 : decode cX12_requireCell 0 = .ok (.iload_n 0, 1) := by decide +kernel
theorem dX12_requireCell_1 : decode cX12_requireCell 1 = .ok (.iload_n 1, 1) := by decide +kernel
theorem dX12_requireCell_2 : decode cX12_requireCell 2 = .ok (.invokestatic 136, 3) := by decide +kernel
theorem dX12_requireCell_5 : decode cX12_requireCell 5 = .ok (.ifCond .ne 14, 3) := by decide +kernel
theorem dX12_requireCell_8 : decode cX12_requireCell 8 = .ok (.new 303, 3) := by decide +kernel
theorem dX12_requireCell_11 : decode cX12_requireCell 11 = .ok (.dup, 1) := by decide +kernel
theorem dX12_requireCell_12 : decode cX12_requireCell 12 = .ok (.ldc_w 361, 3) := by decide +kernel
theorem dX12_requireCell_15 : decode cX12_requireCell 15 = .ok (.invokespecial 307, 3) := by decide +kernel
theorem dX12_requireCell_18 : decode cX12_requireCell 18 = .ok (.athrow, 1) := by decide +kernel
theorem dX12_requireCell_19 : decode cX12_requireCell 19 = .ok (.return_, 1) := by decide +kernel
set_option maxRecDepth 20000 in
theorem ggX12_requireFold_X10_isFold : GoodIn wsX12_requireFold wsX10_isFold := goodIn_r _ [6] (by decide +kernel) (by decide +kernel)
set_option maxRecDepth 20000 in
theorem gX12_requireFold_X10_isFold : GoodIn wsX12_requireFold (va_wsS RX12 363 yX10_isFold wsX10_isFold) := goodIn_app (goodIn_of _ (by decide +kernel)) ggX12_requireFold_X10_isFold
theorem dX12_requireFold_0 : decode cX12_requireFold 0 = .ok (.iload_n 0, 1) := by decide +kernel
theorem dX12_requireFold_1 : decode cX12_requireFold 1 = .ok (.invokestatic 363, 3) := by decide +kernel
theorem dX12_requireFold_4 : decode cX12_requireFold 4 = .ok (.ifCond .ne 14, 3) := by decide +kernel
theorem dX12_requireFold_7 : decode cX12_requireFold 7 = .ok (.new 303, 3) := by decide +kernel
theorem dX12_requireFold_10 : decode cX12_requireFold 10 = .ok (.dup, 1) := by decide +kernel
theorem dX12_requireFold_11 : decode cX12_requireFold 11 = .ok (.ldc_w 366, 3) := by decide +kernel
theorem dX12_requireFold_14 : decode cX12_requireFold 14 = .ok (.invokespecial 307, 3) := by decide +kernel
theorem dX12_requireFold_17 : decode cX12_requireFold 17 = .ok (.athrow, 1) := by decide +kernel
theorem dX12_requireFold_18 : decode cX12_requireFold 18 = .ok (.return_, 1) := by decide +kernel
set_option maxRecDepth 20000 in
theorem ggX12_requireWeather_X2_isWeather : GoodIn wsX12_requireWeather wsX2_isWeather := goodIn_r _ [6] (by decide +kernel) (by decide +kernel)
set_option maxRecDepth 20000 in
theorem gX12_requireWeather_X2_isWeather : GoodIn wsX12_requireWeather (va_wsS RX12 368 yX2_isWeather wsX2_isWeather) := goodIn_app (goodIn_of _ (by decide +kernel)) ggX12_requireWeather_X2_isWeather
theorem dX12_requireWeather_0 : decode cX12_requireWeather 0 = .ok (.iload_n 0, 1) := by decide +kernel
theorem dX12_requireWeather_1 : decode cX12_requireWeather 1 = .ok (.invokestatic 368, 3) := by decide +kernel
theorem dX12_requireWeather_4 : decode cX12_requireWeather 4 = .ok (.ifCond .ne 14, 3) := by decide +kernel
theorem dX12_requireWeather_7 : decode cX12_requireWeather 7 = .ok (.new 78, 3) := by decide +kernel
theorem dX12_requireWeather_10 : decode cX12_requireWeather 10 = .ok (.dup, 1) := by decide +kernel
theorem dX12_requireWeather_11 : decode cX12_requireWeather 11 = .ok (.ldc_w 371, 3) := by decide +kernel
theorem dX12_requireWeather_14 : decode cX12_requireWeather 14 = .ok (.invokespecial 82, 3) := by decide +kernel
theorem dX12_requireWeather_17 : decode cX12_requireWeather 17 = .ok (.athrow, 1) := by decide +kernel
theorem dX12_requireWeather_18 : decode cX12_requireWeather 18 = .ok (.return_, 1) := by decide +kernel
theorem dX12_requireDays_0 : decode cX12_requireDays 0 = .ok (.iload_n 0, 1) := by decide +kernel
theorem dX12_requireDays_1 : decode cX12_requireDays 1 = .ok (.ifCond .lt 8, 3) := by decide +kernel
theorem dX12_requireDays_4 : decode cX12_requireDays 4 = .ok (.iload_n 0, 1) := by decide +kernel
theorem dX12_requireDays_5 : decode cX12_requireDays 5 = .ok (.iconst 3, 1) := by decide +kernel
theorem dX12_requireDays_6 : decode cX12_requireDays 6 = .ok (.if_icmp .le 14, 3) := by decide +kernel
theorem dX12_requireDays_9 : decode cX12_requireDays 9 = .ok (.new 78, 3) := by decide +kernel
theorem dX12_requireDays_12 : decode cX12_requireDays 12 = .ok (.dup, 1) := by decide +kernel
theorem dX12_requireDays_13 : decode cX12_requireDays 13 = .ok (.ldc_w 373, 3) := by decide +kernel
theorem dX12_requireDays_16 : decode cX12_requireDays 16 = .ok (.invokespecial 82, 3) := by decide +kernel
theorem dX12_requireDays_19 : decode cX12_requireDays 19 = .ok (.athrow, 1) := by decide +kernel
theorem dX12_requireDays_20 : decode cX12_requireDays 20 = .ok (.return_, 1) := by decide +kernel
set_option maxRecDepth 20000 in
theorem ggX12_requireForecast_X4_has : GoodIn wsX12_requireForecast wsX4_has := goodIn_r _ [8, 9, 25, 26, 27, 28, 29, 30] (by decide +kernel) (by decide +kernel)
set_option maxRecDepth 20000 in
theorem gX12_requireForecast_X4_has : GoodIn wsX12_requireForecast (wsV RX12 375 RX4 yX4_has wsX4_has) := goodIn_app (goodIn_of _ (by decide +kernel)) ggX12_requireForecast_X4_has
theorem dX12_requireForecast_0 : decode cX12_requireForecast 0 = .ok (.aload_n 0, 1) := by decide +kernel
theorem dX12_requireForecast_1 : decode cX12_requireForecast 1 = .ok (.getfield 12, 3) := by decide +kernel
theorem dX12_requireForecast_4 : decode cX12_requireForecast 4 = .ok (.getfield 235, 3) := by decide +kernel
theorem dX12_requireForecast_7 : decode cX12_requireForecast 7 = .ok (.iload_n 1, 1) := by decide +kernel
theorem dX12_requireForecast_8 : decode cX12_requireForecast 8 = .ok (.invokevirtual 375, 3) := by decide +kernel
theorem dX12_requireForecast_11 : decode cX12_requireForecast 11 = .ok (.ifCond .ne 14, 3) := by decide +kernel
theorem dX12_requireForecast_14 : decode cX12_requireForecast 14 = .ok (.new 303, 3) := by decide +kernel
theorem dX12_requireForecast_17 : decode cX12_requireForecast 17 = .ok (.dup, 1) := by decide +kernel
theorem dX12_requireForecast_18 : decode cX12_requireForecast 18 = .ok (.ldc_w 376, 3) := by decide +kernel
theorem dX12_requireForecast_21 : decode cX12_requireForecast 21 = .ok (.invokespecial 307, 3) := by decide +kernel
theorem dX12_requireForecast_24 : decode cX12_requireForecast 24 = .ok (.athrow, 1) := by decide +kernel
theorem dX12_requireForecast_25 : decode cX12_requireForecast 25 = .ok (.return_, 1) := by decide +kernel
theorem dX12_requireScored_0 : decode cX12_requireScored 0 = .ok (.aload_n 0, 1) := by decide +kernel
theorem dX12_requireScored_1 : decode cX12_requireScored 1 = .ok (.getfield 12, 3) := by decide +kernel
theorem dX12_requireScored_4 : decode cX12_requireScored 4 = .ok (.getfield 235, 3) := by decide +kernel
theorem dX12_requireScored_7 : decode cX12_requireScored 7 = .ok (.getfield 268, 3) := by decide +kernel
theorem dX12_requireScored_10 : decode cX12_requireScored 10 = .ok (.ifCond .ne 14, 3) := by decide +kernel
theorem dX12_requireScored_13 : decode cX12_requireScored 13 = .ok (.new 378, 3) := by decide +kernel
theorem dX12_requireScored_16 : decode cX12_requireScored 16 = .ok (.dup, 1) := by decide +kernel
theorem dX12_requireScored_17 : decode cX12_requireScored 17 = .ok (.ldc_w 380, 3) := by decide +kernel
theorem dX12_requireScored_20 : decode cX12_requireScored 20 = .ok (.invokespecial 382, 3) := by decide +kernel
theorem dX12_requireScored_23 : decode cX12_requireScored 23 = .ok (.athrow, 1) := by decide +kernel
theorem dX12_requireScored_24 : decode cX12_requireScored 24 = .ok (.return_, 1) := by decide +kernel
set_option maxRecDepth 20000 in
theorem ggX12_foretell_X1_dayByDay : GoodIn wsX12_foretell wsX1_dayByDay := goodIn_ca (goodIn_ca (goodIn_r _ [7, 8, 9, 10, 11, 12, 13, 14, 15, 16, 17, 18, 19, 20, 21, 22, 23, 24, 25, 26, 27, 28, 29, 30, 6, 31, 32, 33, 34, 35, 36, 37, 38, 39, 40, 41, 42, 43, 44, 45, 46, 47, 48, 49, 50, 51, 52, 53, 87, 88, 89, 90, 91, 92, 93, 94] (by decide +kernel) (by decide +kernel)) (goodIn_sub (fun _ h => List.mem_cons_of_mem _ (List.mem_append_left _ (List.mem_append_right _ h))) (by decide +kernel))) (goodIn_sub (fun _ h => List.mem_cons_of_mem _ (List.mem_append_right _ h)) (by decide +kernel))
set_option maxRecDepth 20000 in
theorem gX12_foretell_X1_dayByDay : GoodIn wsX12_foretell (wsV RX12 208 RX1 yX1_dayByDay wsX1_dayByDay) := goodIn_app (goodIn_of _ (by decide +kernel)) ggX12_foretell_X1_dayByDay
set_option maxRecDepth 20000 in
theorem ggX12_foretell_X5_greatest : GoodIn wsX12_foretell wsX5_greatest := goodIn_ca (goodIn_r _ [57, 15, 16, 58, 47, 48, 13, 49, 21, 22, 23, 24, 59, 39, 40, 41, 93, 94] (by decide +kernel) (by decide +kernel)) (goodIn_sub (fun _ h => List.mem_cons_of_mem _ (List.mem_append_left _ (List.mem_append_right _ h))) (by decide +kernel))
set_option maxRecDepth 20000 in
theorem gX12_foretell_X5_greatest : GoodIn wsX12_foretell (wsV RX12 227 RX5 yX5_greatest wsX5_greatest) := goodIn_app (goodIn_of _ (by decide +kernel)) ggX12_foretell_X5_greatest
set_option maxRecDepth 20000 in
theorem ggX12_foretell_X4_add : GoodIn wsX12_foretell wsX4_add := goodIn_ca (goodIn_r _ [64, 65, 66, 67, 68, 69, 70, 63, 71, 95, 96, 97, 98, 99, 100] (by decide +kernel) (by decide +kernel)) (goodIn_sub (fun _ h => List.mem_cons_of_mem _ (List.mem_append_left _ (List.mem_append_right _ h))) (by decide +kernel))
set_option maxRecDepth 20000 in
theorem gX12_foretell_X4_add : GoodIn wsX12_foretell (wsV RX12 383 RX4 yX4_add wsX4_add) := goodIn_app (goodIn_of _ (by decide +kernel)) ggX12_foretell_X4_add
theorem dX12_foretell_0 : decode cX12_foretell 0 = .ok (.aload_n 0, 1) := by decide +kernel
theorem dX12_foretell_1 : decode cX12_foretell 1 = .ok (.getfield 43, 3) := by decide +kernel
theorem dX12_foretell_4 : decode cX12_foretell 4 = .ok (.aload_n 0, 1) := by decide +kernel
theorem dX12_foretell_5 : decode cX12_foretell 5 = .ok (.getfield 12, 3) := by decide +kernel
theorem dX12_foretell_8 : decode cX12_foretell 8 = .ok (.getfield 179, 3) := by decide +kernel
theorem dX12_foretell_11 : decode cX12_foretell 11 = .ok (.iload_n 1, 1) := by decide +kernel
theorem dX12_foretell_12 : decode cX12_foretell 12 = .ok (.invokevirtual 208, 3) := by decide +kernel
theorem dX12_foretell_15 : decode cX12_foretell 15 = .ok (.invokevirtual 227, 3) := by decide +kernel
theorem dX12_foretell_18 : decode cX12_foretell 18 = .ok (.istore_n 2, 1) := by decide +kernel
theorem dX12_foretell_19 : decode cX12_foretell 19 = .ok (.aload_n 0, 1) := by decide +kernel
theorem dX12_foretell_20 : decode cX12_foretell 20 = .ok (.getfield 12, 3) := by decide +kernel
theorem dX12_foretell_23 : decode cX12_foretell 23 = .ok (.getfield 235, 3) := by decide +kernel
theorem dX12_foretell_26 : decode cX12_foretell 26 = .ok (.aload_n 0, 1) := by decide +kernel
theorem dX12_foretell_27 : decode cX12_foretell 27 = .ok (.getfield 12, 3) := by decide +kernel
theorem dX12_foretell_30 : decode cX12_foretell 30 = .ok (.getfield 202, 3) := by decide +kernel
theorem dX12_foretell_33 : decode cX12_foretell 33 = .ok (.iload_n 1, 1) := by decide +kernel
theorem dX12_foretell_34 : decode cX12_foretell 34 = .ok (.iadd, 1) := by decide +kernel
theorem dX12_foretell_35 : decode cX12_foretell 35 = .ok (.iload_n 2, 1) := by decide +kernel
theorem dX12_foretell_36 : decode cX12_foretell 36 = .ok (.invokevirtual 383, 3) := by decide +kernel
theorem dX12_foretell_39 : decode cX12_foretell 39 = .ok (.return_, 1) := by decide +kernel
set_option maxRecDepth 20000 in
theorem ggX12_isAllowed_X3_valueAt : GoodIn wsX12_isAllowed wsX3_valueAt := goodIn_ca (goodIn_r _ [8, 9, 10, 11, 7, 12, 91, 92, 93, 94, 95, 96] (by decide +kernel) (by decide +kernel)) (goodIn_sub (fun _ h => List.mem_cons_of_mem _ (List.mem_append_right _ h)) (by decide +kernel))
set_option maxRecDepth 20000 in
theorem gX12_isAllowed_X3_valueAt : GoodIn wsX12_isAllowed (wsV RX12 386 RX3 yX3_valueAt wsX3_valueAt) := goodIn_app (goodIn_of _ (by decide +kernel)) ggX12_isAllowed_X3_valueAt
set_option maxRecDepth 20000 in
theorem ggX12_isAllowed_X3_kindAt : GoodIn wsX12_isAllowed wsX3_kindAt := goodIn_r _ [16, 17, 18, 10, 11, 7, 12, 91, 92, 93, 94, 95, 96] (by decide +kernel) (by decide +kernel)
set_option maxRecDepth 20000 in
theorem gX12_isAllowed_X3_kindAt : GoodIn wsX12_isAllowed (wsV RX12 395 RX3 yX3_kindAt wsX3_kindAt) := goodIn_app (goodIn_of _ (by decide +kernel)) ggX12_isAllowed_X3_kindAt
set_option maxRecDepth 20000 in
theorem ggX12_isAllowed_Jx29ce0_ordinal_8abf5 : GoodIn wsX12_isAllowed wsJx29ce0_ordinal_8abf5 := goodIn_r _ [24, 25] (by decide +kernel) (by decide +kernel)
set_option maxRecDepth 20000 in
theorem gX12_isAllowed_Jx29ce0_ordinal_8abf5_u399X7 : GoodIn wsX12_isAllowed (va_wsU RX12 399 RX7 "java/lang/Enum" ⟨"PaperStorm$Kind", "ordinal", "()I"⟩ yJx29ce0_ordinal_8abf5 wsJx29ce0_ordinal_8abf5) := goodIn_app (goodIn_of _ (by decide +kernel)) ggX12_isAllowed_Jx29ce0_ordinal_8abf5
set_option maxRecDepth 20000 in
theorem ggX12_isAllowed_X10_isCell : GoodIn wsX12_isAllowed wsX10_isCell := goodIn_r _ [29] (by decide +kernel) (by decide +kernel)
set_option maxRecDepth 20000 in
theorem gX12_isAllowed_X10_isCell : GoodIn wsX12_isAllowed (va_wsS RX12 136 yX10_isCell wsX10_isCell) := goodIn_app (goodIn_of _ (by decide +kernel)) ggX12_isAllowed_X10_isCell
set_option maxRecDepth 20000 in
theorem ggX12_isAllowed_X10_isPressure : GoodIn wsX12_isAllowed wsX10_isPressure := goodIn_r _ [32] (by decide +kernel) (by decide +kernel)
set_option maxRecDepth 20000 in
theorem gX12_isAllowed_X10_isPressure : GoodIn wsX12_isAllowed (va_wsS RX12 72 yX10_isPressure wsX10_isPressure) := goodIn_app (goodIn_of _ (by decide +kernel)) ggX12_isAllowed_X10_isPressure
set_option maxRecDepth 20000 in
theorem ggX12_isAllowed_X10_isFold : GoodIn wsX12_isAllowed wsX10_isFold := goodIn_r _ [35] (by decide +kernel) (by decide +kernel)
set_option maxRecDepth 20000 in
theorem gX12_isAllowed_X10_isFold : GoodIn wsX12_isAllowed (va_wsS RX12 363 yX10_isFold wsX10_isFold) := goodIn_app (goodIn_of _ (by decide +kernel)) ggX12_isAllowed_X10_isFold
set_option maxRecDepth 20000 in
theorem ggX12_isAllowed_X10_isDirection : GoodIn wsX12_isAllowed wsX10_isDirection := goodIn_r _ [38] (by decide +kernel) (by decide +kernel)
set_option maxRecDepth 20000 in
theorem gX12_isAllowed_X10_isDirection : GoodIn wsX12_isAllowed (va_wsS RX12 118 yX10_isDirection wsX10_isDirection) := goodIn_app (goodIn_of _ (by decide +kernel)) ggX12_isAllowed_X10_isDirection
set_option maxRecDepth 20000 in
theorem ggX12_isAllowed_X10_isThreshold : GoodIn wsX12_isAllowed wsX10_isThreshold := goodIn_r _ [41] (by decide +kernel) (by decide +kernel)
set_option maxRecDepth 20000 in
theorem gX12_isAllowed_X10_isThreshold : GoodIn wsX12_isAllowed (va_wsS RX12 128 yX10_isThreshold wsX10_isThreshold) := goodIn_app (goodIn_of _ (by decide +kernel)) ggX12_isAllowed_X10_isThreshold
set_option maxRecDepth 20000 in
theorem ggX12_isAllowed_X2_isWeather : GoodIn wsX12_isAllowed wsX2_isWeather := goodIn_r _ [45] (by decide +kernel) (by decide +kernel)
set_option maxRecDepth 20000 in
theorem gX12_isAllowed_X2_isWeather : GoodIn wsX12_isAllowed (va_wsS RX12 368 yX2_isWeather wsX2_isWeather) := goodIn_app (goodIn_of _ (by decide +kernel)) ggX12_isAllowed_X2_isWeather
set_option maxRecDepth 20000 in
theorem ggX12_isAllowed_X2_isWeight : GoodIn wsX12_isAllowed wsX2_isWeight := goodIn_r _ [48] (by decide +kernel) (by decide +kernel)
set_option maxRecDepth 20000 in
theorem gX12_isAllowed_X2_isWeight : GoodIn wsX12_isAllowed (va_wsS RX12 172 yX2_isWeight wsX2_isWeight) := goodIn_app (goodIn_of _ (by decide +kernel)) ggX12_isAllowed_X2_isWeight
set_option maxRecDepth 20000 in
theorem ggX12_isAllowed_X2_keepsAChange : GoodIn wsX12_isAllowed wsX2_keepsAChange := goodIn_ca (goodIn_r _ [52, 53, 54, 55, 44, 56, 57, 58, 43, 45, 59, 60, 61, 62, 97, 98] (by decide +kernel) (by decide +kernel)) (goodIn_sub (fun _ h => List.mem_cons_of_mem _ (List.mem_append_right _ h)) (by decide +kernel))
set_option maxRecDepth 20000 in
theorem gX12_isAllowed_X2_keepsAChange : GoodIn wsX12_isAllowed (wsV RX12 183 RX2 yX2_keepsAChange wsX2_keepsAChange) := goodIn_app (goodIn_of _ (by decide +kernel)) ggX12_isAllowed_X2_keepsAChange
set_option maxRecDepth 20000 in
theorem ggX12_isAllowed_X2_isAhead : GoodIn wsX12_isAllowed wsX2_isAhead := goodIn_r _ [65] (by decide +kernel) (by decide +kernel)
set_option maxRecDepth 20000 in
theorem gX12_isAllowed_X2_isAhead : GoodIn wsX12_isAllowed (va_wsS RX12 230 yX2_isAhead wsX2_isAhead) := goodIn_app (goodIn_of _ (by decide +kernel)) ggX12_isAllowed_X2_isAhead
set_option maxRecDepth 20000 in
theorem ggX12_isAllowed_X4_hasRoom : GoodIn wsX12_isAllowed wsX4_hasRoom := goodIn_r _ [70, 71, 99, 100, 101, 102, 103, 104] (by decide +kernel) (by decide +kernel)
set_option maxRecDepth 20000 in
theorem gX12_isAllowed_X4_hasRoom : GoodIn wsX12_isAllowed (wsV RX12 239 RX4 yX4_hasRoom wsX4_hasRoom) := goodIn_app (goodIn_of _ (by decide +kernel)) ggX12_isAllowed_X4_hasRoom
set_option maxRecDepth 20000 in
theorem ggX12_isAllowed_X4_has : GoodIn wsX12_isAllowed wsX4_has := goodIn_r _ [75, 71, 99, 100, 101, 102, 103, 104] (by decide +kernel) (by decide +kernel)
set_option maxRecDepth 20000 in
theorem gX12_isAllowed_X4_has : GoodIn wsX12_isAllowed (wsV RX12 375 RX4 yX4_has wsX4_has) := goodIn_app (goodIn_of _ (by decide +kernel)) ggX12_isAllowed_X4_has
theorem dX12_isAllowed_0 : decode cX12_isAllowed 0 = .ok (.aload_n 0, 1) := by decide +kernel
theorem dX12_isAllowed_1 : decode cX12_isAllowed 1 = .ok (.getfield 50, 3) := by decide +kernel
theorem dX12_isAllowed_4 : decode cX12_isAllowed 4 = .ok (.iload_n 1, 1) := by decide +kernel
theorem dX12_isAllowed_5 : decode cX12_isAllowed 5 = .ok (.iconst 0, 1) := by decide +kernel
theorem dX12_isAllowed_6 : decode cX12_isAllowed 6 = .ok (.invokevirtual 386, 3) := by decide +kernel
theorem dX12_isAllowed_9 : decode cX12_isAllowed 9 = .ok (.istore_n 2, 1) := by decide +kernel
theorem dX12_isAllowed_10 : decode cX12_isAllowed 10 = .ok (.aload_n 0, 1) := by decide +kernel
theorem dX12_isAllowed_11 : decode cX12_isAllowed 11 = .ok (.getfield 50, 3) := by decide +kernel
theorem dX12_isAllowed_14 : decode cX12_isAllowed 14 = .ok (.iload_n 1, 1) := by decide +kernel
theorem dX12_isAllowed_15 : decode cX12_isAllowed 15 = .ok (.iconst 1, 1) := by decide +kernel
theorem dX12_isAllowed_16 : decode cX12_isAllowed 16 = .ok (.invokevirtual 386, 3) := by decide +kernel
theorem dX12_isAllowed_19 : decode cX12_isAllowed 19 = .ok (.istore_n 3, 1) := by decide +kernel
theorem dX12_isAllowed_20 : decode cX12_isAllowed 20 = .ok (.aload_n 0, 1) := by decide +kernel
theorem dX12_isAllowed_21 : decode cX12_isAllowed 21 = .ok (.getfield 50, 3) := by decide +kernel
theorem dX12_isAllowed_24 : decode cX12_isAllowed 24 = .ok (.iload_n 1, 1) := by decide +kernel
theorem dX12_isAllowed_25 : decode cX12_isAllowed 25 = .ok (.iconst 2, 1) := by decide +kernel
theorem dX12_isAllowed_26 : decode cX12_isAllowed 26 = .ok (.invokevirtual 386, 3) := by decide +kernel
theorem dX12_isAllowed_29 : decode cX12_isAllowed 29 = .ok (.istore 4, 2) := by decide +kernel
theorem dX12_isAllowed_31 : decode cX12_isAllowed 31 = .ok (.getstatic 389, 3) := by decide +kernel
theorem dX12_isAllowed_34 : decode cX12_isAllowed 34 = .ok (.aload_n 0, 1) := by decide +kernel
theorem dX12_isAllowed_35 : decode cX12_isAllowed 35 = .ok (.getfield 50, 3) := by decide +kernel
theorem dX12_isAllowed_38 : decode cX12_isAllowed 38 = .ok (.iload_n 1, 1) := by decide +kernel
theorem dX12_isAllowed_39 : decode cX12_isAllowed 39 = .ok (.invokevirtual 395, 3) := by decide +kernel
theorem dX12_isAllowed_42 : decode cX12_isAllowed 42 = .ok (.invokevirtual 399, 3) := by decide +kernel
theorem dX12_isAllowed_45 : decode cX12_isAllowed 45 = .ok (.iaload, 1) := by decide +kernel
theorem dX12_isAllowed_46 : decode cX12_isAllowed 46 = .ok (.tableswitch 176 1 9 #[50, 72, 72, 77, 83, 88, 133, 159, 171], 50) := by decide +kernel
theorem dX12_isAllowed_96 : decode cX12_isAllowed 96 = .ok (.iload_n 2, 1) := by decide +kernel
theorem dX12_isAllowed_97 : decode cX12_isAllowed 97 = .ok (.iload_n 3, 1) := by decide +kernel
theorem dX12_isAllowed_98 : decode cX12_isAllowed 98 = .ok (.invokestatic 136, 3) := by decide +kernel
theorem dX12_isAllowed_101 : decode cX12_isAllowed 101 = .ok (.ifCond .eq 15, 3) := by decide +kernel
theorem dX12_isAllowed_104 : decode cX12_isAllowed 104 = .ok (.iload 4, 2) := by decide +kernel
theorem dX12_isAllowed_106 : decode cX12_isAllowed 106 = .ok (.invokestatic 72, 3) := by decide +kernel
theorem dX12_isAllowed_109 : decode cX12_isAllowed 109 = .ok (.ifCond .eq 7, 3) := by decide +kernel
theorem dX12_isAllowed_112 : decode cX12_isAllowed 112 = .ok (.iconst 1, 1) := by decide +kernel
theorem dX12_isAllowed_113 : decode cX12_isAllowed 113 = .ok (.goto 4, 3) := by decide +kernel
theorem dX12_isAllowed_116 : decode cX12_isAllowed 116 = .ok (.iconst 0, 1) := by decide +kernel
theorem dX12_isAllowed_117 : decode cX12_isAllowed 117 = .ok (.ireturn, 1) := by decide +kernel
theorem dX12_isAllowed_118 : decode cX12_isAllowed 118 = .ok (.iload_n 2, 1) := by decide +kernel
theorem dX12_isAllowed_119 : decode cX12_isAllowed 119 = .ok (.invokestatic 363, 3) := by decide +kernel
theorem dX12_isAllowed_122 : decode cX12_isAllowed 122 = .ok (.ireturn, 1) := by decide +kernel
theorem dX12_isAllowed_123 : decode cX12_isAllowed 123 = .ok (.iload_n 2, 1) := by decide +kernel
theorem dX12_isAllowed_124 : decode cX12_isAllowed 124 = .ok (.i2c, 1) := by decide +kernel
theorem dX12_isAllowed_125 : decode cX12_isAllowed 125 = .ok (.invokestatic 118, 3) := by decide +kernel
theorem dX12_isAllowed_128 : decode cX12_isAllowed 128 = .ok (.ireturn, 1) := by decide +kernel
theorem dX12_isAllowed_129 : decode cX12_isAllowed 129 = .ok (.iload_n 2, 1) := by decide +kernel
theorem dX12_isAllowed_130 : decode cX12_isAllowed 130 = .ok (.invokestatic 128, 3) := by decide +kernel
theorem dX12_isAllowed_133 : decode cX12_isAllowed 133 = .ok (.ireturn, 1) := by decide +kernel
theorem dX12_isAllowed_134 : decode cX12_isAllowed 134 = .ok (.iload_n 2, 1) := by decide +kernel
theorem dX12_isAllowed_135 : decode cX12_isAllowed 135 = .ok (.invokestatic 368, 3) := by decide +kernel
theorem dX12_isAllowed_138 : decode cX12_isAllowed 138 = .ok (.ifCond .eq 39, 3) := by decide +kernel
theorem dX12_isAllowed_141 : decode cX12_isAllowed 141 = .ok (.iload_n 3, 1) := by decide +kernel
theorem dX12_isAllowed_142 : decode cX12_isAllowed 142 = .ok (.invokestatic 368, 3) := by decide +kernel
theorem dX12_isAllowed_145 : decode cX12_isAllowed 145 = .ok (.ifCond .eq 32, 3) := by decide +kernel
theorem dX12_isAllowed_148 : decode cX12_isAllowed 148 = .ok (.iload 4, 2) := by decide +kernel
theorem dX12_isAllowed_150 : decode cX12_isAllowed 150 = .ok (.invokestatic 172, 3) := by decide +kernel
theorem dX12_isAllowed_153 : decode cX12_isAllowed 153 = .ok (.ifCond .eq 24, 3) := by decide +kernel
theorem dX12_isAllowed_156 : decode cX12_isAllowed 156 = .ok (.aload_n 0, 1) := by decide +kernel
theorem dX12_isAllowed_157 : decode cX12_isAllowed 157 = .ok (.getfield 12, 3) := by decide +kernel
theorem dX12_isAllowed_160 : decode cX12_isAllowed 160 = .ok (.getfield 179, 3) := by decide +kernel
theorem dX12_isAllowed_163 : decode cX12_isAllowed 163 = .ok (.iload_n 2, 1) := by decide +kernel
theorem dX12_isAllowed_164 : decode cX12_isAllowed 164 = .ok (.iload_n 3, 1) := by decide +kernel
theorem dX12_isAllowed_165 : decode cX12_isAllowed 165 = .ok (.iload 4, 2) := by decide +kernel
theorem dX12_isAllowed_167 : decode cX12_isAllowed 167 = .ok (.invokevirtual 183, 3) := by decide +kernel
theorem dX12_isAllowed_170 : decode cX12_isAllowed 170 = .ok (.ifCond .eq 7, 3) := by decide +kernel
theorem dX12_isAllowed_173 : decode cX12_isAllowed 173 = .ok (.iconst 1, 1) := by decide +kernel
theorem dX12_isAllowed_174 : decode cX12_isAllowed 174 = .ok (.goto 4, 3) := by decide +kernel
theorem dX12_isAllowed_177 : decode cX12_isAllowed 177 = .ok (.iconst 0, 1) := by decide +kernel
theorem dX12_isAllowed_178 : decode cX12_isAllowed 178 = .ok (.ireturn, 1) := by decide +kernel
theorem dX12_isAllowed_179 : decode cX12_isAllowed 179 = .ok (.iload_n 2, 1) := by decide +kernel
theorem dX12_isAllowed_180 : decode cX12_isAllowed 180 = .ok (.invokestatic 230, 3) := by decide +kernel
theorem dX12_isAllowed_183 : decode cX12_isAllowed 183 = .ok (.ifCond .eq 20, 3) := by decide +kernel
theorem dX12_isAllowed_186 : decode cX12_isAllowed 186 = .ok (.aload_n 0, 1) := by decide +kernel
theorem dX12_isAllowed_187 : decode cX12_isAllowed 187 = .ok (.getfield 12, 3) := by decide +kernel
theorem dX12_isAllowed_190 : decode cX12_isAllowed 190 = .ok (.getfield 235, 3) := by decide +kernel
theorem dX12_isAllowed_193 : decode cX12_isAllowed 193 = .ok (.invokevirtual 239, 3) := by decide +kernel
theorem dX12_isAllowed_196 : decode cX12_isAllowed 196 = .ok (.ifCond .eq 7, 3) := by decide +kernel
theorem dX12_isAllowed_199 : decode cX12_isAllowed 199 = .ok (.iconst 1, 1) := by decide +kernel
theorem dX12_isAllowed_200 : decode cX12_isAllowed 200 = .ok (.goto 4, 3) := by decide +kernel
theorem dX12_isAllowed_203 : decode cX12_isAllowed 203 = .ok (.iconst 0, 1) := by decide +kernel
theorem dX12_isAllowed_204 : decode cX12_isAllowed 204 = .ok (.ireturn, 1) := by decide +kernel
theorem dX12_isAllowed_205 : decode cX12_isAllowed 205 = .ok (.aload_n 0, 1) := by decide +kernel
theorem dX12_isAllowed_206 : decode cX12_isAllowed 206 = .ok (.getfield 12, 3) := by decide +kernel
theorem dX12_isAllowed_209 : decode cX12_isAllowed 209 = .ok (.getfield 235, 3) := by decide +kernel
theorem dX12_isAllowed_212 : decode cX12_isAllowed 212 = .ok (.iload_n 2, 1) := by decide +kernel
theorem dX12_isAllowed_213 : decode cX12_isAllowed 213 = .ok (.invokevirtual 375, 3) := by decide +kernel
theorem dX12_isAllowed_216 : decode cX12_isAllowed 216 = .ok (.ireturn, 1) := by decide +kernel
theorem dX12_isAllowed_217 : decode cX12_isAllowed 217 = .ok (.iload_n 2, 1) := by decide +kernel
theorem dX12_isAllowed_218 : decode cX12_isAllowed 218 = .ok (.invokestatic 368, 3) := by decide +kernel
theorem dX12_isAllowed_221 : decode cX12_isAllowed 221 = .ok (.ireturn, 1) := by decide +kernel
theorem dX12_isAllowed_222 : decode cX12_isAllowed 222 = .ok (.iconst 1, 1) := by decide +kernel
theorem dX12_isAllowed_223 : decode cX12_isAllowed 223 = .ok (.ireturn, 1) := by decide +kernel
set_option maxRecDepth 20000 in
theorem ggX12_perform_X3_valueAt : GoodIn wsX12_perform wsX3_valueAt := goodIn_ca (goodIn_r _ [8, 9, 10, 11, 7, 12, 242, 243, 244, 245, 246, 247] (by decide +kernel) (by decide +kernel)) (goodIn_sub (fun _ h => List.mem_cons_of_mem _ (List.mem_append_left _ (List.mem_append_right _ h))) (by decide +kernel))
set_option maxRecDepth 20000 in
theorem gX12_perform_X3_valueAt : GoodIn wsX12_perform (wsV RX12 386 RX3 yX3_valueAt wsX3_valueAt) := goodIn_app (goodIn_of _ (by decide +kernel)) ggX12_perform_X3_valueAt
set_option maxRecDepth 20000 in
theorem ggX12_perform_X3_kindAt : GoodIn wsX12_perform wsX3_kindAt := goodIn_r _ [16, 17, 18, 10, 11, 7, 12, 242, 243, 244, 245, 246, 247] (by decide +kernel) (by decide +kernel)
set_option maxRecDepth 20000 in
theorem gX12_perform_X3_kindAt : GoodIn wsX12_perform (wsV RX12 395 RX3 yX3_kindAt wsX3_kindAt) := goodIn_app (goodIn_of _ (by decide +kernel)) ggX12_perform_X3_kindAt
set_option maxRecDepth 20000 in
theorem ggX12_perform_Jx29ce0_ordinal_8abf5 : GoodIn wsX12_perform wsJx29ce0_ordinal_8abf5 := goodIn_r _ [24, 25] (by decide +kernel) (by decide +kernel)
set_option maxRecDepth 20000 in
theorem gX12_perform_Jx29ce0_ordinal_8abf5_u399X7 : GoodIn wsX12_perform (va_wsU RX12 399 RX7 "java/lang/Enum" ⟨"PaperStorm$Kind", "ordinal", "()I"⟩ yJx29ce0_ordinal_8abf5 wsJx29ce0_ordinal_8abf5) := goodIn_app (goodIn_of _ (by decide +kernel)) ggX12_perform_Jx29ce0_ordinal_8abf5
set_option maxRecDepth 20000 in
theorem ggX12_perform_X10_cellOf : GoodIn wsX12_perform wsX10_cellOf := goodIn_r _ [29] (by decide +kernel) (by decide +kernel)
set_option maxRecDepth 20000 in
theorem gX12_perform_X10_cellOf : GoodIn wsX12_perform (va_wsS RX12 93 yX10_cellOf wsX10_cellOf) := goodIn_app (goodIn_of _ (by decide +kernel)) ggX12_perform_X10_cellOf
set_option maxRecDepth 20000 in
theorem ggX12_perform_X10_put : GoodIn wsX12_perform wsX10_put := goodIn_ca (goodIn_r _ [33, 34, 240, 241] (by decide +kernel) (by decide +kernel)) (goodIn_sub (fun _ h => List.mem_cons_of_mem _ (List.mem_append_left _ (List.mem_append_right _ h))) (by decide +kernel))
set_option maxRecDepth 20000 in
theorem gX12_perform_X10_put : GoodIn wsX12_perform (wsV RX12 101 RX10 yX10_put wsX10_put) := goodIn_app (goodIn_of _ (by decide +kernel)) ggX12_perform_X10_put
set_option maxRecDepth 20000 in
theorem ggX12_perform_X10_foldAlongRow : GoodIn wsX12_perform wsX10_foldAlongRow := goodIn_ca (goodIn_r _ [38, 39, 27, 28, 29, 40, 41, 42, 43, 44, 45, 46, 47, 34, 48, 31, 32, 33, 240, 241] (by decide +kernel) (by decide +kernel)) (goodIn_sub (fun _ h => List.mem_cons_of_mem _ (List.mem_append_left _ (List.mem_append_right _ h))) (by decide +kernel))
set_option maxRecDepth 20000 in
theorem gX12_perform_X10_foldAlongRow : GoodIn wsX12_perform (wsV RX12 112 RX10 yX10_foldAlongRow wsX10_foldAlongRow) := goodIn_app (goodIn_of _ (by decide +kernel)) ggX12_perform_X10_foldAlongRow
set_option maxRecDepth 20000 in
theorem ggX12_perform_X10_foldAlongColumn : GoodIn wsX12_perform wsX10_foldAlongColumn := goodIn_ca (goodIn_r _ [52, 39, 27, 28, 29, 40, 41, 42, 43, 44, 45, 46, 47, 34, 48, 31, 32, 33, 240, 241] (by decide +kernel) (by decide +kernel)) (goodIn_sub (fun _ h => List.mem_cons_of_mem _ (List.mem_append_left _ (List.mem_append_right _ h))) (by decide +kernel))
set_option maxRecDepth 20000 in
theorem gX12_perform_X10_foldAlongColumn : GoodIn wsX12_perform (wsV RX12 115 RX10 yX10_foldAlongColumn wsX10_foldAlongColumn) := goodIn_app (goodIn_of _ (by decide +kernel)) ggX12_perform_X10_foldAlongColumn
set_option maxRecDepth 20000 in
theorem ggX12_perform_X10_slide : GoodIn wsX12_perform wsX10_slide := goodIn_ca (goodIn_r _ [56, 39, 27, 28, 29, 57, 58, 59, 60, 44, 45, 46, 47, 34, 48, 31, 32, 33, 240, 241] (by decide +kernel) (by decide +kernel)) (goodIn_sub (fun _ h => List.mem_cons_of_mem _ (List.mem_append_left _ (List.mem_append_right _ h))) (by decide +kernel))
set_option maxRecDepth 20000 in
theorem gX12_perform_X10_slide : GoodIn wsX12_perform (wsV RX12 124 RX10 yX10_slide wsX10_slide) := goodIn_app (goodIn_of _ (by decide +kernel)) ggX12_perform_X10_slide
set_option maxRecDepth 20000 in
theorem ggX12_perform_X2_putWeight : GoodIn wsX12_perform wsX2_putWeight := goodIn_ca (goodIn_r _ [65, 66, 67, 68, 64, 69, 248, 249] (by decide +kernel) (by decide +kernel)) (goodIn_sub (fun _ h => List.mem_cons_of_mem _ (List.mem_append_left _ (List.mem_append_right _ h))) (by decide +kernel))
set_option maxRecDepth 20000 in
theorem gX12_perform_X2_putWeight : GoodIn wsX12_perform (wsV RX12 195 RX2 yX2_putWeight wsX2_putWeight) := goodIn_app (goodIn_of _ (by decide +kernel)) ggX12_perform_X2_putWeight
set_option maxRecDepth 20000 in
theorem ggX12_perform_X12_foretell : GoodIn wsX12_perform wsX12_foretell := goodIn_ca (goodIn_ca (goodIn_r _ [74, 75, 3, 76, 77, 78, 79, 80, 81, 82, 83, 84, 85, 86, 87, 88, 89, 90, 91, 92, 93, 94, 68, 64, 69, 95, 96, 97, 98, 99, 100, 101, 102, 103, 104, 105, 66, 67, 106, 107, 108, 109, 110, 111, 112, 113, 114, 115, 116, 117, 118, 119, 120, 121, 122, 123, 124, 125, 126, 127, 128, 129, 130, 131, 132, 133, 134, 135, 136, 137, 138, 139, 225, 226, 227, 228, 229, 230, 231, 232, 233, 234, 235, 236, 237, 238, 239, 250, 251, 252, 253, 248, 249, 254, 255, 256, 257, 258, 259, 260, 261] (by decide +kernel) (by decide +kernel)) (goodIn_sub (fun _ h => List.mem_cons_of_mem _ (List.mem_append_left _ (List.mem_append_right _ h))) (by decide +kernel))) (goodIn_sub (fun _ h => List.mem_cons_of_mem _ (List.mem_append_right _ h)) (by decide +kernel))
set_option maxRecDepth 20000 in
theorem gX12_perform_X12_foretell : GoodIn wsX12_perform (wsV RX12 247 RX12 yX12_foretell wsX12_foretell) := goodIn_app (goodIn_of _ (by decide +kernel)) ggX12_perform_X12_foretell
set_option maxRecDepth 20000 in
theorem ggX12_perform_X4_remove : GoodIn wsX12_perform wsX4_remove := goodIn_ca (goodIn_r _ [143, 134, 133, 135, 144, 145, 146, 131, 147, 256, 257, 258, 259, 260, 261] (by decide +kernel) (by decide +kernel)) (goodIn_sub (fun _ h => List.mem_cons_of_mem _ (List.mem_append_left _ (List.mem_append_right _ h))) (by decide +kernel))
set_option maxRecDepth 20000 in
theorem gX12_perform_X4_remove : GoodIn wsX12_perform (wsV RX12 256 RX4 yX4_remove wsX4_remove) := goodIn_app (goodIn_of _ (by decide +kernel)) ggX12_perform_X4_remove
set_option maxRecDepth 20000 in
theorem ggX12_perform_X11_passDay : GoodIn wsX12_perform wsX11_passDay := goodIn_ca (goodIn_r _ [152, 153, 154, 155, 156, 157, 158, 64, 159, 160, 161, 111, 112, 113, 66, 67, 68, 69, 162, 62, 63, 65, 163, 164, 165, 131, 166, 134, 167, 168, 169, 170, 171, 172, 173, 174, 175, 176, 177, 133, 144, 145, 146, 147, 178, 179, 180, 181, 135, 182, 141, 142, 143, 236, 237, 238, 239, 248, 249, 256, 257, 258, 259, 260, 261] (by decide +kernel) (by decide +kernel)) (goodIn_sub (fun _ h => List.mem_cons_of_mem _ (List.mem_append_left _ (List.mem_append_right _ h))) (by decide +kernel))
set_option maxRecDepth 20000 in
theorem gX12_perform_X11_passDay : GoodIn wsX12_perform (wsV RX12 259 RX11 yX11_passDay wsX11_passDay) := goodIn_app (goodIn_of _ (by decide +kernel)) ggX12_perform_X11_passDay
set_option maxRecDepth 20000 in
theorem ggX12_perform_X12_shownWeather : GoodIn wsX12_perform wsX12_shownWeather := goodIn_ca (goodIn_r _ [186, 187, 3, 188, 189, 190, 191, 192, 193, 194, 195, 196, 197, 198, 199, 200, 201, 202, 203, 204, 205, 206, 207, 208, 209, 28, 210, 211, 27, 29, 212, 213, 214, 215, 216, 217, 218, 219, 220, 221, 222, 223, 224, 34, 225, 226, 227, 228, 229, 230, 231, 232, 233, 234, 235, 236, 237, 238, 239, 262, 263, 264, 265, 240, 241] (by decide +kernel) (by decide +kernel)) (goodIn_sub (fun _ h => List.mem_cons_of_mem _ (List.mem_append_left _ (List.mem_append_right _ h))) (by decide +kernel))
set_option maxRecDepth 20000 in
theorem gX12_perform_X12_shownWeather : GoodIn wsX12_perform (wsV RX12 404 RX12 yX12_shownWeather wsX12_shownWeather) := goodIn_app (goodIn_of _ (by decide +kernel)) ggX12_perform_X12_shownWeather
theorem dX12_perform_0 : decode cX12_perform 0 = .ok (.aload_n 0, 1) := by decide +kernel
theorem dX12_perform_1 : decode cX12_perform 1 = .ok (.getfield 50, 3) := by decide +kernel
theorem dX12_perform_4 : decode cX12_perform 4 = .ok (.iload_n 1, 1) := by decide +kernel
theorem dX12_perform_5 : decode cX12_perform 5 = .ok (.iconst 0, 1) := by decide +kernel
theorem dX12_perform_6 : decode cX12_perform 6 = .ok (.invokevirtual 386, 3) := by decide +kernel
theorem dX12_perform_9 : decode cX12_perform 9 = .ok (.istore_n 2, 1) := by decide +kernel
theorem dX12_perform_10 : decode cX12_perform 10 = .ok (.aload_n 0, 1) := by decide +kernel
theorem dX12_perform_11 : decode cX12_perform 11 = .ok (.getfield 50, 3) := by decide +kernel
theorem dX12_perform_14 : decode cX12_perform 14 = .ok (.iload_n 1, 1) := by decide +kernel
theorem dX12_perform_15 : decode cX12_perform 15 = .ok (.iconst 1, 1) := by decide +kernel
theorem dX12_perform_16 : decode cX12_perform 16 = .ok (.invokevirtual 386, 3) := by decide +kernel
theorem dX12_perform_19 : decode cX12_perform 19 = .ok (.istore_n 3, 1) := by decide +kernel
theorem dX12_perform_20 : decode cX12_perform 20 = .ok (.aload_n 0, 1) := by decide +kernel
theorem dX12_perform_21 : decode cX12_perform 21 = .ok (.getfield 50, 3) := by decide +kernel
theorem dX12_perform_24 : decode cX12_perform 24 = .ok (.iload_n 1, 1) := by decide +kernel
theorem dX12_perform_25 : decode cX12_perform 25 = .ok (.iconst 2, 1) := by decide +kernel
theorem dX12_perform_26 : decode cX12_perform 26 = .ok (.invokevirtual 386, 3) := by decide +kernel
theorem dX12_perform_29 : decode cX12_perform 29 = .ok (.istore 4, 2) := by decide +kernel
theorem dX12_perform_31 : decode cX12_perform 31 = .ok (.getstatic 389, 3) := by decide +kernel
theorem dX12_perform_34 : decode cX12_perform 34 = .ok (.aload_n 0, 1) := by decide +kernel
theorem dX12_perform_35 : decode cX12_perform 35 = .ok (.getfield 50, 3) := by decide +kernel
theorem dX12_perform_38 : decode cX12_perform 38 = .ok (.iload_n 1, 1) := by decide +kernel
theorem dX12_perform_39 : decode cX12_perform 39 = .ok (.invokevirtual 395, 3) := by decide +kernel
theorem dX12_perform_42 : decode cX12_perform 42 = .ok (.invokevirtual 399, 3) := by decide +kernel
theorem dX12_perform_45 : decode cX12_perform 45 = .ok (.iaload, 1) := by decide +kernel
theorem dX12_perform_46 : decode cX12_perform 46 = .ok (.tableswitch 182 1 9 #[50, 71, 86, 101, 117, 131, 148, 156, 170], 50) := by decide +kernel
theorem dX12_perform_96 : decode cX12_perform 96 = .ok (.aload_n 0, 1) := by decide +kernel
theorem dX12_perform_97 : decode cX12_perform 97 = .ok (.getfield 12, 3) := by decide +kernel
theorem dX12_perform_100 : decode cX12_perform 100 = .ok (.getfield 89, 3) := by decide +kernel
theorem dX12_perform_103 : decode cX12_perform 103 = .ok (.iload_n 2, 1) := by decide +kernel
theorem dX12_perform_104 : decode cX12_perform 104 = .ok (.iload_n 3, 1) := by decide +kernel
theorem dX12_perform_105 : decode cX12_perform 105 = .ok (.invokestatic 93, 3) := by decide +kernel
theorem dX12_perform_108 : decode cX12_perform 108 = .ok (.iload 4, 2) := by decide +kernel
theorem dX12_perform_110 : decode cX12_perform 110 = .ok (.invokevirtual 101, 3) := by decide +kernel
theorem dX12_perform_113 : decode cX12_perform 113 = .ok (.pop, 1) := by decide +kernel
theorem dX12_perform_114 : decode cX12_perform 114 = .ok (.goto 126, 3) := by decide +kernel
theorem dX12_perform_117 : decode cX12_perform 117 = .ok (.aload_n 0, 1) := by decide +kernel
theorem dX12_perform_118 : decode cX12_perform 118 = .ok (.getfield 12, 3) := by decide +kernel
theorem dX12_perform_121 : decode cX12_perform 121 = .ok (.getfield 89, 3) := by decide +kernel
theorem dX12_perform_124 : decode cX12_perform 124 = .ok (.iload_n 2, 1) := by decide +kernel
theorem dX12_perform_125 : decode cX12_perform 125 = .ok (.invokevirtual 112, 3) := by decide +kernel
theorem dX12_perform_128 : decode cX12_perform 128 = .ok (.pop, 1) := by decide +kernel
theorem dX12_perform_129 : decode cX12_perform 129 = .ok (.goto 111, 3) := by decide +kernel
theorem dX12_perform_132 : decode cX12_perform 132 = .ok (.aload_n 0, 1) := by decide +kernel
theorem dX12_perform_133 : decode cX12_perform 133 = .ok (.getfield 12, 3) := by decide +kernel
theorem dX12_perform_136 : decode cX12_perform 136 = .ok (.getfield 89, 3) := by decide +kernel
theorem dX12_perform_139 : decode cX12_perform 139 = .ok (.iload_n 2, 1) := by decide +kernel
theorem dX12_perform_140 : decode cX12_perform 140 = .ok (.invokevirtual 115, 3) := by decide +kernel
theorem dX12_perform_143 : decode cX12_perform 143 = .ok (.pop, 1) := by decide +kernel
theorem dX12_perform_144 : decode cX12_perform 144 = .ok (.goto 96, 3) := by decide +kernel
theorem dX12_perform_147 : decode cX12_perform 147 = .ok (.aload_n 0, 1) := by decide +kernel
theorem dX12_perform_148 : decode cX12_perform 148 = .ok (.getfield 12, 3) := by decide +kernel
theorem dX12_perform_151 : decode cX12_perform 151 = .ok (.getfield 89, 3) := by decide +kernel
theorem dX12_perform_154 : decode cX12_perform 154 = .ok (.iload_n 2, 1) := by decide +kernel
theorem dX12_perform_155 : decode cX12_perform 155 = .ok (.i2c, 1) := by decide +kernel
theorem dX12_perform_156 : decode cX12_perform 156 = .ok (.invokevirtual 124, 3) := by decide +kernel
theorem dX12_perform_159 : decode cX12_perform 159 = .ok (.pop, 1) := by decide +kernel
theorem dX12_perform_160 : decode cX12_perform 160 = .ok (.goto 80, 3) := by decide +kernel
theorem dX12_perform_163 : decode cX12_perform 163 = .ok (.aload_n 0, 1) := by decide +kernel
theorem dX12_perform_164 : decode cX12_perform 164 = .ok (.getfield 12, 3) := by decide +kernel
theorem dX12_perform_167 : decode cX12_perform 167 = .ok (.getfield 89, 3) := by decide +kernel
theorem dX12_perform_170 : decode cX12_perform 170 = .ok (.iload_n 2, 1) := by decide +kernel
theorem dX12_perform_171 : decode cX12_perform 171 = .ok (.putfield 133, 3) := by decide +kernel
theorem dX12_perform_174 : decode cX12_perform 174 = .ok (.goto 66, 3) := by decide +kernel
theorem dX12_perform_177 : decode cX12_perform 177 = .ok (.aload_n 0, 1) := by decide +kernel
theorem dX12_perform_178 : decode cX12_perform 178 = .ok (.getfield 12, 3) := by decide +kernel
theorem dX12_perform_181 : decode cX12_perform 181 = .ok (.getfield 179, 3) := by decide +kernel
theorem dX12_perform_184 : decode cX12_perform 184 = .ok (.iload_n 2, 1) := by decide +kernel
theorem dX12_perform_185 : decode cX12_perform 185 = .ok (.iload_n 3, 1) := by decide +kernel
theorem dX12_perform_186 : decode cX12_perform 186 = .ok (.iload 4, 2) := by decide +kernel
theorem dX12_perform_188 : decode cX12_perform 188 = .ok (.invokevirtual 195, 3) := by decide +kernel
theorem dX12_perform_191 : decode cX12_perform 191 = .ok (.goto 49, 3) := by decide +kernel
theorem dX12_perform_194 : decode cX12_perform 194 = .ok (.aload_n 0, 1) := by decide +kernel
theorem dX12_perform_195 : decode cX12_perform 195 = .ok (.iload_n 2, 1) := by decide +kernel
theorem dX12_perform_196 : decode cX12_perform 196 = .ok (.invokevirtual 247, 3) := by decide +kernel
theorem dX12_perform_199 : decode cX12_perform 199 = .ok (.goto 41, 3) := by decide +kernel
theorem dX12_perform_202 : decode cX12_perform 202 = .ok (.aload_n 0, 1) := by decide +kernel
theorem dX12_perform_203 : decode cX12_perform 203 = .ok (.getfield 12, 3) := by decide +kernel
theorem dX12_perform_206 : decode cX12_perform 206 = .ok (.getfield 235, 3) := by decide +kernel
theorem dX12_perform_209 : decode cX12_perform 209 = .ok (.iload_n 2, 1) := by decide +kernel
theorem dX12_perform_210 : decode cX12_perform 210 = .ok (.invokevirtual 256, 3) := by decide +kernel
theorem dX12_perform_213 : decode cX12_perform 213 = .ok (.goto 27, 3) := by decide +kernel
theorem dX12_perform_216 : decode cX12_perform 216 = .ok (.aload_n 0, 1) := by decide +kernel
theorem dX12_perform_217 : decode cX12_perform 217 = .ok (.getfield 12, 3) := by decide +kernel
theorem dX12_perform_220 : decode cX12_perform 220 = .ok (.iload_n 2, 1) := by decide +kernel
theorem dX12_perform_221 : decode cX12_perform 221 = .ok (.invokevirtual 259, 3) := by decide +kernel
theorem dX12_perform_224 : decode cX12_perform 224 = .ok (.pop, 1) := by decide +kernel
theorem dX12_perform_225 : decode cX12_perform 225 = .ok (.goto 15, 3) := by decide +kernel
theorem dX12_perform_228 : decode cX12_perform 228 = .ok (.aload_n 0, 1) := by decide +kernel
theorem dX12_perform_229 : decode cX12_perform 229 = .ok (.getfield 12, 3) := by decide +kernel
theorem dX12_perform_232 : decode cX12_perform 232 = .ok (.aload_n 0, 1) := by decide +kernel
theorem dX12_perform_233 : decode cX12_perform 233 = .ok (.invokevirtual 404, 3) := by decide +kernel
theorem dX12_perform_236 : decode cX12_perform 236 = .ok (.invokevirtual 259, 3) := by decide +kernel
theorem dX12_perform_239 : decode cX12_perform 239 = .ok (.pop, 1) := by decide +kernel
theorem dX12_perform_240 : decode cX12_perform 240 = .ok (.return_, 1) := by decide +kernel
