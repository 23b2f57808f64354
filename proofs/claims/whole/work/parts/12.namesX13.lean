theorem dX13_init_0 : decode cX13_init 0 = .ok (.aload_n 0, 1) := by decide +kernel
theorem dX13_init_1 : decode cX13_init 1 = .ok (.invokespecial 1, 3) := by decide +kernel
theorem dX13_init_4 : decode cX13_init 4 = .ok (.aload_n 0, 1) := by decide +kernel
theorem dX13_init_5 : decode cX13_init 5 = .ok (.bipush 60, 2) := by decide +kernel
theorem dX13_init_7 : decode cX13_init 7 = .ok (.newarray .int, 2) := by decide +kernel
theorem dX13_init_9 : decode cX13_init 9 = .ok (.putfield 7, 3) := by decide +kernel
theorem dX13_init_12 : decode cX13_init 12 = .ok (.aload_n 0, 1) := by decide +kernel
theorem dX13_init_13 : decode cX13_init 13 = .ok (.sipush 480, 3) := by decide +kernel
theorem dX13_init_16 : decode cX13_init 16 = .ok (.newarray .int, 2) := by decide +kernel
theorem dX13_init_18 : decode cX13_init 18 = .ok (.putfield 13, 3) := by decide +kernel
theorem dX13_init_21 : decode cX13_init 21 = .ok (.aload_n 0, 1) := by decide +kernel
theorem dX13_init_22 : decode cX13_init 22 = .ok (.bipush 60, 2) := by decide +kernel
theorem dX13_init_24 : decode cX13_init 24 = .ok (.newarray .int, 2) := by decide +kernel
theorem dX13_init_26 : decode cX13_init 26 = .ok (.putfield 16, 3) := by decide +kernel
theorem dX13_init_29 : decode cX13_init 29 = .ok (.aload_n 0, 1) := by decide +kernel
theorem dX13_init_30 : decode cX13_init 30 = .ok (.bipush 60, 2) := by decide +kernel
theorem dX13_init_32 : decode cX13_init 32 = .ok (.newarray .int, 2) := by decide +kernel
theorem dX13_init_34 : decode cX13_init 34 = .ok (.putfield 19, 3) := by decide +kernel
theorem dX13_init_37 : decode cX13_init 37 = .ok (.aload_n 0, 1) := by decide +kernel
theorem dX13_init_38 : decode cX13_init 38 = .ok (.bipush 25, 2) := by decide +kernel
theorem dX13_init_40 : decode cX13_init 40 = .ok (.newarray .int, 2) := by decide +kernel
theorem dX13_init_42 : decode cX13_init 42 = .ok (.putfield 22, 3) := by decide +kernel
theorem dX13_init_45 : decode cX13_init 45 = .ok (.aload_n 0, 1) := by decide +kernel
theorem dX13_init_46 : decode cX13_init 46 = .ok (.bipush 25, 2) := by decide +kernel
theorem dX13_init_48 : decode cX13_init 48 = .ok (.newarray .int, 2) := by decide +kernel
theorem dX13_init_50 : decode cX13_init 50 = .ok (.putfield 25, 3) := by decide +kernel
theorem dX13_init_53 : decode cX13_init 53 = .ok (.aload_n 0, 1) := by decide +kernel
theorem dX13_init_54 : decode cX13_init 54 = .ok (.iconst 4, 1) := by decide +kernel
theorem dX13_init_55 : decode cX13_init 55 = .ok (.newarray .long, 2) := by decide +kernel
theorem dX13_init_57 : decode cX13_init 57 = .ok (.putfield 28, 3) := by decide +kernel
theorem dX13_init_60 : decode cX13_init 60 = .ok (.aload_n 0, 1) := by decide +kernel
theorem dX13_init_61 : decode cX13_init 61 = .ok (.iconst 4, 1) := by decide +kernel
theorem dX13_init_62 : decode cX13_init 62 = .ok (.newarray .long, 2) := by decide +kernel
theorem dX13_init_64 : decode cX13_init 64 = .ok (.putfield 32, 3) := by decide +kernel
theorem dX13_init_67 : decode cX13_init 67 = .ok (.aload_n 0, 1) := by decide +kernel
theorem dX13_init_68 : decode cX13_init 68 = .ok (.iconst 4, 1) := by decide +kernel
theorem dX13_init_69 : decode cX13_init 69 = .ok (.newarray .int, 2) := by decide +kernel
theorem dX13_init_71 : decode cX13_init 71 = .ok (.putfield 35, 3) := by decide +kernel
theorem dX13_init_74 : decode cX13_init 74 = .ok (.aload_n 0, 1) := by decide +kernel
theorem dX13_init_75 : decode cX13_init 75 = .ok (.iconst 4, 1) := by decide +kernel
theorem dX13_init_76 : decode cX13_init 76 = .ok (.newarray .int, 2) := by decide +kernel
theorem dX13_init_78 : decode cX13_init 78 = .ok (.putfield 38, 3) := by decide +kernel
theorem dX13_init_81 : decode cX13_init 81 = .ok (.aload_n 0, 1) := by decide +kernel
theorem dX13_init_82 : decode cX13_init 82 = .ok (.bipush 60, 2) := by decide +kernel
theorem dX13_init_84 : decode cX13_init 84 = .ok (.newarray .int, 2) := by decide +kernel
theorem dX13_init_86 : decode cX13_init 86 = .ok (.putfield 41, 3) := by decide +kernel
theorem dX13_init_89 : decode cX13_init 89 = .ok (.aload_n 0, 1) := by decide +kernel
theorem dX13_init_90 : decode cX13_init 90 = .ok (.iconst (-1), 1) := by decide +kernel
theorem dX13_init_91 : decode cX13_init 91 = .ok (.putfield 44, 3) := by decide +kernel
theorem dX13_init_94 : decode cX13_init 94 = .ok (.aload_n 0, 1) := by decide +kernel
theorem dX13_init_95 : decode cX13_init 95 = .ok (.iconst (-1), 1) := by decide +kernel
theorem dX13_init_96 : decode cX13_init 96 = .ok (.putfield 48, 3) := by decide +kernel
theorem dX13_init_99 : decode cX13_init 99 = .ok (.aload_n 0, 1) := by decide +kernel
theorem dX13_init_100 : decode cX13_init 100 = .ok (.sipush 180, 3) := by decide +kernel
theorem dX13_init_103 : decode cX13_init 103 = .ok (.newarray .char, 2) := by decide +kernel
theorem dX13_init_105 : decode cX13_init 105 = .ok (.putfield 51, 3) := by decide +kernel
theorem dX13_init_108 : decode cX13_init 108 = .ok (.aload_n 0, 1) := by decide +kernel
theorem dX13_init_109 : decode cX13_init 109 = .ok (.bipush 124, 2) := by decide +kernel
theorem dX13_init_111 : decode cX13_init 111 = .ok (.newarray .int, 2) := by decide +kernel
theorem dX13_init_113 : decode cX13_init 113 = .ok (.putfield 55, 3) := by decide +kernel
theorem dX13_init_116 : decode cX13_init 116 = .ok (.iconst 0, 1) := by decide +kernel
theorem dX13_init_117 : decode cX13_init 117 = .ok (.istore_n 1, 1) := by decide +kernel
theorem dX13_init_118 : decode cX13_init 118 = .ok (.iload_n 1, 1) := by decide +kernel
theorem dX13_init_119 : decode cX13_init 119 = .ok (.bipush 25, 2) := by decide +kernel
theorem dX13_init_121 : decode cX13_init 121 = .ok (.if_icmp .ge 20, 3) := by decide +kernel
theorem dX13_init_124 : decode cX13_init 124 = .ok (.aload_n 0, 1) := by decide +kernel
theorem dX13_init_125 : decode cX13_init 125 = .ok (.getfield 7, 3) := by decide +kernel
theorem dX13_init_128 : decode cX13_init 128 = .ok (.bipush 7, 2) := by decide +kernel
theorem dX13_init_130 : decode cX13_init 130 = .ok (.iload_n 1, 1) := by decide +kernel
theorem dX13_init_131 : decode cX13_init 131 = .ok (.iadd, 1) := by decide +kernel
theorem dX13_init_132 : decode cX13_init 132 = .ok (.bipush 50, 2) := by decide +kernel
theorem dX13_init_134 : decode cX13_init 134 = .ok (.iastore, 1) := by decide +kernel
theorem dX13_init_135 : decode cX13_init 135 = .ok (.iinc 1 1, 3) := by decide +kernel
theorem dX13_init_138 : decode cX13_init 138 = .ok (.goto (-20), 3) := by decide +kernel
theorem dX13_init_141 : decode cX13_init 141 = .ok (.iconst 0, 1) := by decide +kernel
theorem dX13_init_142 : decode cX13_init 142 = .ok (.istore_n 1, 1) := by decide +kernel
theorem dX13_init_143 : decode cX13_init 143 = .ok (.iload_n 1, 1) := by decide +kernel
theorem dX13_init_144 : decode cX13_init 144 = .ok (.bipush 16, 2) := by decide +kernel
theorem dX13_init_146 : decode cX13_init 146 = .ok (.if_icmp .ge 19, 3) := by decide +kernel
theorem dX13_init_149 : decode cX13_init 149 = .ok (.aload_n 0, 1) := by decide +kernel
theorem dX13_init_150 : decode cX13_init 150 = .ok (.getfield 7, 3) := by decide +kernel
theorem dX13_init_153 : decode cX13_init 153 = .ok (.bipush 32, 2) := by decide +kernel
theorem dX13_init_155 : decode cX13_init 155 = .ok (.iload_n 1, 1) := by decide +kernel
theorem dX13_init_156 : decode cX13_init 156 = .ok (.iadd, 1) := by decide +kernel
theorem dX13_init_157 : decode cX13_init 157 = .ok (.iconst 1, 1) := by decide +kernel
theorem dX13_init_158 : decode cX13_init 158 = .ok (.iastore, 1) := by decide +kernel
theorem dX13_init_159 : decode cX13_init 159 = .ok (.iinc 1 1, 3) := by decide +kernel
theorem dX13_init_162 : decode cX13_init 162 = .ok (.goto (-19), 3) := by decide +kernel
theorem dX13_init_165 : decode cX13_init 165 = .ok (.aload_n 0, 1) := by decide +kernel
theorem dX13_init_166 : decode cX13_init 166 = .ok (.getfield 7, 3) := by decide +kernel
theorem dX13_init_169 : decode cX13_init 169 = .ok (.iconst 2, 1) := by decide +kernel
theorem dX13_init_170 : decode cX13_init 170 = .ok (.bipush 20, 2) := by decide +kernel
theorem dX13_init_172 : decode cX13_init 172 = .ok (.iastore, 1) := by decide +kernel
theorem dX13_init_173 : decode cX13_init 173 = .ok (.return_, 1) := by decide +kernel
theorem dX13_thrown_0 : decode cX13_thrown 0 = .ok (.aload_n 0, 1) := by decide +kernel
theorem dX13_thrown_1 : decode cX13_thrown 1 = .ok (.getfield 58, 3) := by decide +kernel
theorem dX13_thrown_4 : decode cX13_thrown 4 = .ok (.ireturn, 1) := by decide +kernel
theorem dX13_fails_0 : decode cX13_fails 0 = .ok (.aload_n 0, 1) := by decide +kernel
theorem dX13_fails_1 : decode cX13_fails 1 = .ok (.iload_n 1, 1) := by decide +kernel
theorem dX13_fails_2 : decode cX13_fails 2 = .ok (.putfield 58, 3) := by decide +kernel
theorem dX13_fails_5 : decode cX13_fails 5 = .ok (.iload_n 1, 1) := by decide +kernel
theorem dX13_fails_6 : decode cX13_fails 6 = .ok (.ifCond .le 7, 3) := by decide +kernel
theorem dX13_fails_9 : decode cX13_fails 9 = .ok (.iconst 1, 1) := by decide +kernel
theorem dX13_fails_10 : decode cX13_fails 10 = .ok (.goto 4, 3) := by decide +kernel
theorem dX13_fails_13 : decode cX13_fails 13 = .ok (.iconst 0, 1) := by decide +kernel
theorem dX13_fails_14 : decode cX13_fails 14 = .ok (.ireturn, 1) := by decide +kernel
theorem dX13_in_0 : decode cX13_in 0 = .ok (.iload_n 0, 1) := by decide +kernel
theorem dX13_in_1 : decode cX13_in 1 = .ok (.iload_n 1, 1) := by decide +kernel
theorem dX13_in_2 : decode cX13_in 2 = .ok (.if_icmp .lt 12, 3) := by decide +kernel
theorem dX13_in_5 : decode cX13_in 5 = .ok (.iload_n 0, 1) := by decide +kernel
theorem dX13_in_6 : decode cX13_in 6 = .ok (.iload_n 2, 1) := by decide +kernel
theorem dX13_in_7 : decode cX13_in 7 = .ok (.if_icmp .gt 7, 3) := by decide +kernel
theorem dX13_in_10 : decode cX13_in 10 = .ok (.iconst 1, 1) := by decide +kernel
theorem dX13_in_11 : decode cX13_in 11 = .ok (.goto 4, 3) := by decide +kernel
theorem dX13_in_14 : decode cX13_in 14 = .ok (.iconst 0, 1) := by decide +kernel
theorem dX13_in_15 : decode cX13_in 15 = .ok (.ireturn, 1) := by decide +kernel
theorem dX13_apart_0 : decode cX13_apart 0 = .ok (.iload_n 0, 1) := by decide +kernel
theorem dX13_apart_1 : decode cX13_apart 1 = .ok (.iload_n 1, 1) := by decide +kernel
theorem dX13_apart_2 : decode cX13_apart 2 = .ok (.if_icmp .le 9, 3) := by decide +kernel
theorem dX13_apart_5 : decode cX13_apart 5 = .ok (.iload_n 0, 1) := by decide +kernel
theorem dX13_apart_6 : decode cX13_apart 6 = .ok (.iload_n 1, 1) := by decide +kernel
theorem dX13_apart_7 : decode cX13_apart 7 = .ok (.isub, 1) := by decide +kernel
theorem dX13_apart_8 : decode cX13_apart 8 = .ok (.goto 6, 3) := by decide +kernel
theorem dX13_apart_11 : decode cX13_apart 11 = .ok (.iload_n 1, 1) := by decide +kernel
theorem dX13_apart_12 : decode cX13_apart 12 = .ok (.iload_n 0, 1) := by decide +kernel
theorem dX13_apart_13 : decode cX13_apart 13 = .ok (.isub, 1) := by decide +kernel
theorem dX13_apart_14 : decode cX13_apart 14 = .ok (.ireturn, 1) := by decide +kernel
theorem dX13_copies_0 : decode cX13_copies 0 = .ok (.iconst 0, 1) := by decide +kernel
theorem dX13_copies_1 : decode cX13_copies 1 = .ok (.istore 4, 2) := by decide +kernel
theorem dX13_copies_3 : decode cX13_copies 3 = .ok (.iload 4, 2) := by decide +kernel
theorem dX13_copies_5 : decode cX13_copies 5 = .ok (.bipush 60, 2) := by decide +kernel
theorem dX13_copies_7 : decode cX13_copies 7 = .ok (.if_icmp .ge 21, 3) := by decide +kernel
theorem dX13_copies_10 : decode cX13_copies 10 = .ok (.aload_n 2, 1) := by decide +kernel
theorem dX13_copies_11 : decode cX13_copies 11 = .ok (.iload_n 3, 1) := by decide +kernel
theorem dX13_copies_12 : decode cX13_copies 12 = .ok (.iload 4, 2) := by decide +kernel
theorem dX13_copies_14 : decode cX13_copies 14 = .ok (.iadd, 1) := by decide +kernel
theorem dX13_copies_15 : decode cX13_copies 15 = .ok (.aload_n 0, 1) := by decide +kernel
theorem dX13_copies_16 : decode cX13_copies 16 = .ok (.iload_n 1, 1) := by decide +kernel
theorem dX13_copies_17 : decode cX13_copies 17 = .ok (.iload 4, 2) := by decide +kernel
theorem dX13_copies_19 : decode cX13_copies 19 = .ok (.iadd, 1) := by decide +kernel
theorem dX13_copies_20 : decode cX13_copies 20 = .ok (.iaload, 1) := by decide +kernel
theorem dX13_copies_21 : decode cX13_copies 21 = .ok (.iastore, 1) := by decide +kernel
theorem dX13_copies_22 : decode cX13_copies 22 = .ok (.iinc 4 1, 3) := by decide +kernel
theorem dX13_copies_25 : decode cX13_copies 25 = .ok (.goto (-22), 3) := by decide +kernel
theorem dX13_copies_28 : decode cX13_copies 28 = .ok (.return_, 1) := by decide +kernel
set_option maxRecDepth 20000 in
theorem ggX13_keeps_X13_copies : GoodIn wsX13_keeps wsX13_copies := goodIn_ca (goodIn_r _ [8] (by decide +kernel) (by decide +kernel)) (goodIn_sub (fun _ h => List.mem_cons_of_mem _ (List.mem_append_right _ h)) (by decide +kernel))
set_option maxRecDepth 20000 in
theorem gX13_keeps_X13_copies : GoodIn wsX13_keeps (va_wsS RX13 68 yX13_copies wsX13_copies) := goodIn_app (goodIn_of _ (by decide +kernel)) ggX13_keeps_X13_copies
theorem dX13_keeps_0 : decode cX13_keeps 0 = .ok (.aload_n 0, 1) := by decide +kernel
theorem dX13_keeps_1 : decode cX13_keeps 1 = .ok (.iconst 0, 1) := by decide +kernel
theorem dX13_keeps_2 : decode cX13_keeps 2 = .ok (.putfield 58, 3) := by decide +kernel
theorem dX13_keeps_5 : decode cX13_keeps 5 = .ok (.aload_n 0, 1) := by decide +kernel
theorem dX13_keeps_6 : decode cX13_keeps 6 = .ok (.getfield 61, 3) := by decide +kernel
theorem dX13_keeps_9 : decode cX13_keeps 9 = .ok (.ifCond .eq 4, 3) := by decide +kernel
theorem dX13_keeps_12 : decode cX13_keeps 12 = .ok (.return_, 1) := by decide +kernel
theorem dX13_keeps_13 : decode cX13_keeps 13 = .ok (.aload_n 0, 1) := by decide +kernel
theorem dX13_keeps_14 : decode cX13_keeps 14 = .ok (.getfield 65, 3) := by decide +kernel
theorem dX13_keeps_17 : decode cX13_keeps 17 = .ok (.bipush 8, 2) := by decide +kernel
theorem dX13_keeps_19 : decode cX13_keeps 19 = .ok (.if_icmp .ne 43, 3) := by decide +kernel
theorem dX13_keeps_22 : decode cX13_keeps 22 = .ok (.iconst 0, 1) := by decide +kernel
theorem dX13_keeps_23 : decode cX13_keeps 23 = .ok (.istore_n 2, 1) := by decide +kernel
theorem dX13_keeps_24 : decode cX13_keeps 24 = .ok (.iload_n 2, 1) := by decide +kernel
theorem dX13_keeps_25 : decode cX13_keeps 25 = .ok (.sipush 420, 3) := by decide +kernel
theorem dX13_keeps_28 : decode cX13_keeps 28 = .ok (.if_icmp .ge 24, 3) := by decide +kernel
theorem dX13_keeps_31 : decode cX13_keeps 31 = .ok (.aload_n 0, 1) := by decide +kernel
theorem dX13_keeps_32 : decode cX13_keeps 32 = .ok (.getfield 13, 3) := by decide +kernel
theorem dX13_keeps_35 : decode cX13_keeps 35 = .ok (.iload_n 2, 1) := by decide +kernel
theorem dX13_keeps_36 : decode cX13_keeps 36 = .ok (.aload_n 0, 1) := by decide +kernel
theorem dX13_keeps_37 : decode cX13_keeps 37 = .ok (.getfield 13, 3) := by decide +kernel
theorem dX13_keeps_40 : decode cX13_keeps 40 = .ok (.iload_n 2, 1) := by decide +kernel
theorem dX13_keeps_41 : decode cX13_keeps 41 = .ok (.bipush 60, 2) := by decide +kernel
theorem dX13_keeps_43 : decode cX13_keeps 43 = .ok (.iadd, 1) := by decide +kernel
theorem dX13_keeps_44 : decode cX13_keeps 44 = .ok (.iaload, 1) := by decide +kernel
theorem dX13_keeps_45 : decode cX13_keeps 45 = .ok (.iastore, 1) := by decide +kernel
theorem dX13_keeps_46 : decode cX13_keeps 46 = .ok (.iinc 2 1, 3) := by decide +kernel
theorem dX13_keeps_49 : decode cX13_keeps 49 = .ok (.goto (-25), 3) := by decide +kernel
theorem dX13_keeps_52 : decode cX13_keeps 52 = .ok (.aload_n 0, 1) := by decide +kernel
theorem dX13_keeps_53 : decode cX13_keeps 53 = .ok (.dup, 1) := by decide +kernel
theorem dX13_keeps_54 : decode cX13_keeps 54 = .ok (.getfield 65, 3) := by decide +kernel
theorem dX13_keeps_57 : decode cX13_keeps 57 = .ok (.iconst 1, 1) := by decide +kernel
theorem dX13_keeps_58 : decode cX13_keeps 58 = .ok (.isub, 1) := by decide +kernel
theorem dX13_keeps_59 : decode cX13_keeps 59 = .ok (.putfield 65, 3) := by decide +kernel
theorem dX13_keeps_62 : decode cX13_keeps 62 = .ok (.aload_n 1, 1) := by decide +kernel
theorem dX13_keeps_63 : decode cX13_keeps 63 = .ok (.iconst 0, 1) := by decide +kernel
theorem dX13_keeps_64 : decode cX13_keeps 64 = .ok (.aload_n 0, 1) := by decide +kernel
theorem dX13_keeps_65 : decode cX13_keeps 65 = .ok (.getfield 13, 3) := by decide +kernel
theorem dX13_keeps_68 : decode cX13_keeps 68 = .ok (.bipush 60, 2) := by decide +kernel
theorem dX13_keeps_70 : decode cX13_keeps 70 = .ok (.aload_n 0, 1) := by decide +kernel
theorem dX13_keeps_71 : decode cX13_keeps 71 = .ok (.getfield 65, 3) := by decide +kernel
theorem dX13_keeps_74 : decode cX13_keeps 74 = .ok (.imul, 1) := by decide +kernel
theorem dX13_keeps_75 : decode cX13_keeps 75 = .ok (.invokestatic 68, 3) := by decide +kernel
theorem dX13_keeps_78 : decode cX13_keeps 78 = .ok (.aload_n 0, 1) := by decide +kernel
theorem dX13_keeps_79 : decode cX13_keeps 79 = .ok (.dup, 1) := by decide +kernel
theorem dX13_keeps_80 : decode cX13_keeps 80 = .ok (.getfield 65, 3) := by decide +kernel
theorem dX13_keeps_83 : decode cX13_keeps 83 = .ok (.iconst 1, 1) := by decide +kernel
theorem dX13_keeps_84 : decode cX13_keeps 84 = .ok (.iadd, 1) := by decide +kernel
theorem dX13_keeps_85 : decode cX13_keeps 85 = .ok (.putfield 65, 3) := by decide +kernel
theorem dX13_keeps_88 : decode cX13_keeps 88 = .ok (.return_, 1) := by decide +kernel
set_option maxRecDepth 20000 in
theorem ggX13_isCell_X13_in : GoodIn wsX13_isCell wsX13_in := goodIn_r _ [4] (by decide +kernel) (by decide +kernel)
set_option maxRecDepth 20000 in
theorem gX13_isCell_X13_in : GoodIn wsX13_isCell (va_wsS RX13 72 yX13_in wsX13_in) := goodIn_app (goodIn_of _ (by decide +kernel)) ggX13_isCell_X13_in
theorem dX13_isCell_0 : decode cX13_isCell 0 = .ok (.iload_n 0, 1) := by decide +kernel
theorem dX13_isCell_1 : decode cX13_isCell 1 = .ok (.iconst 0, 1) := by decide +kernel
theorem dX13_isCell_2 : decode cX13_isCell 2 = .ok (.iconst 4, 1) := by decide +kernel
theorem dX13_isCell_3 : decode cX13_isCell 3 = .ok (.invokestatic 72, 3) := by decide +kernel
theorem dX13_isCell_6 : decode cX13_isCell 6 = .ok (.ifCond .eq 16, 3) := by decide +kernel
theorem dX13_isCell_9 : decode cX13_isCell 9 = .ok (.iload_n 1, 1) := by decide +kernel
theorem dX13_isCell_10 : decode cX13_isCell 10 = .ok (.iconst 0, 1) := by decide +kernel
theorem dX13_isCell_11 : decode cX13_isCell 11 = .ok (.iconst 4, 1) := by decide +kernel
theorem dX13_isCell_12 : decode cX13_isCell 12 = .ok (.invokestatic 72, 3) := by decide +kernel
theorem dX13_isCell_15 : decode cX13_isCell 15 = .ok (.ifCond .eq 7, 3) := by decide +kernel
theorem dX13_isCell_18 : decode cX13_isCell 18 = .ok (.iconst 1, 1) := by decide +kernel
theorem dX13_isCell_19 : decode cX13_isCell 19 = .ok (.goto 4, 3) := by decide +kernel
theorem dX13_isCell_22 : decode cX13_isCell 22 = .ok (.iconst 0, 1) := by decide +kernel
theorem dX13_isCell_23 : decode cX13_isCell 23 = .ok (.ireturn, 1) := by decide +kernel
set_option maxRecDepth 20000 in
theorem ggX13_setPressure_X13_isCell : GoodIn wsX13_setPressure wsX13_isCell := goodIn_r _ [5, 6, 7, 4, 8] (by decide +kernel) (by decide +kernel)
set_option maxRecDepth 20000 in
theorem gX13_setPressure_X13_isCell : GoodIn wsX13_setPressure (va_wsS RX13 76 yX13_isCell wsX13_isCell) := goodIn_app (goodIn_of _ (by decide +kernel)) ggX13_setPressure_X13_isCell
set_option maxRecDepth 20000 in
theorem ggX13_setPressure_X13_in : GoodIn wsX13_setPressure wsX13_in := goodIn_r _ [8] (by decide +kernel) (by decide +kernel)
set_option maxRecDepth 20000 in
theorem gX13_setPressure_X13_in : GoodIn wsX13_setPressure (va_wsS RX13 72 yX13_in wsX13_in) := goodIn_app (goodIn_of _ (by decide +kernel)) ggX13_setPressure_X13_in
set_option maxRecDepth 20000 in
theorem ggX13_setPressure_X13_fails : GoodIn wsX13_setPressure wsX13_fails := goodIn_r _ [12, 13, 24, 25, 26, 27, 28, 29, 30, 31, 32, 33, 34, 35, 36, 37, 38, 39, 40, 41, 42, 43, 44, 45, 46, 47] (by decide +kernel) (by decide +kernel)
set_option maxRecDepth 20000 in
theorem gX13_setPressure_X13_fails : GoodIn wsX13_setPressure (wsV RX13 80 RX13 yX13_fails wsX13_fails) := goodIn_app (goodIn_of _ (by decide +kernel)) ggX13_setPressure_X13_fails
set_option maxRecDepth 20000 in
theorem ggX13_setPressure_X13_keeps : GoodIn wsX13_setPressure wsX13_keeps := goodIn_ca (goodIn_r _ [17, 13, 18, 19, 20, 21, 22, 4, 23, 24, 25, 26, 27, 28, 29, 30, 31, 32, 33, 34, 35, 36, 37, 38, 39, 40, 41, 42, 43, 44, 45, 46, 47] (by decide +kernel) (by decide +kernel)) (goodIn_sub (fun _ h => List.mem_cons_of_mem _ (List.mem_append_right _ h)) (by decide +kernel))
set_option maxRecDepth 20000 in
theorem gX13_setPressure_X13_keeps : GoodIn wsX13_setPressure (wsV RX13 84 RX13 yX13_keeps wsX13_keeps) := goodIn_app (goodIn_of _ (by decide +kernel)) ggX13_setPressure_X13_keeps
theorem dX13_setPressure_0 : decode cX13_setPressure 0 = .ok (.aload_n 0, 1) := by decide +kernel
theorem dX13_setPressure_1 : decode cX13_setPressure 1 = .ok (.iload_n 1, 1) := by decide +kernel
theorem dX13_setPressure_2 : decode cX13_setPressure 2 = .ok (.iload_n 2, 1) := by decide +kernel
theorem dX13_setPressure_3 : decode cX13_setPressure 3 = .ok (.invokestatic 76, 3) := by decide +kernel
theorem dX13_setPressure_6 : decode cX13_setPressure 6 = .ok (.ifCond .ne 7, 3) := by decide +kernel
theorem dX13_setPressure_9 : decode cX13_setPressure 9 = .ok (.iconst 1, 1) := by decide +kernel
theorem dX13_setPressure_10 : decode cX13_setPressure 10 = .ok (.goto 18, 3) := by decide +kernel
theorem dX13_setPressure_13 : decode cX13_setPressure 13 = .ok (.iload_n 3, 1) := by decide +kernel
theorem dX13_setPressure_14 : decode cX13_setPressure 14 = .ok (.iconst 0, 1) := by decide +kernel
theorem dX13_setPressure_15 : decode cX13_setPressure 15 = .ok (.bipush 99, 2) := by decide +kernel
theorem dX13_setPressure_17 : decode cX13_setPressure 17 = .ok (.invokestatic 72, 3) := by decide +kernel
theorem dX13_setPressure_20 : decode cX13_setPressure 20 = .ok (.ifCond .eq 7, 3) := by decide +kernel
theorem dX13_setPressure_23 : decode cX13_setPressure 23 = .ok (.iconst 0, 1) := by decide +kernel
theorem dX13_setPressure_24 : decode cX13_setPressure 24 = .ok (.goto 4, 3) := by decide +kernel
theorem dX13_setPressure_27 : decode cX13_setPressure 27 = .ok (.iconst 2, 1) := by decide +kernel
theorem dX13_setPressure_28 : decode cX13_setPressure 28 = .ok (.invokevirtual 80, 3) := by decide +kernel
theorem dX13_setPressure_31 : decode cX13_setPressure 31 = .ok (.ifCond .eq 5, 3) := by decide +kernel
theorem dX13_setPressure_34 : decode cX13_setPressure 34 = .ok (.iconst 0, 1) := by decide +kernel
theorem dX13_setPressure_35 : decode cX13_setPressure 35 = .ok (.ireturn, 1) := by decide +kernel
theorem dX13_setPressure_36 : decode cX13_setPressure 36 = .ok (.bipush 7, 2) := by decide +kernel
theorem dX13_setPressure_38 : decode cX13_setPressure 38 = .ok (.iconst 5, 1) := by decide +kernel
theorem dX13_setPressure_39 : decode cX13_setPressure 39 = .ok (.iload_n 1, 1) := by decide +kernel
theorem dX13_setPressure_40 : decode cX13_setPressure 40 = .ok (.imul, 1) := by decide +kernel
theorem dX13_setPressure_41 : decode cX13_setPressure 41 = .ok (.iadd, 1) := by decide +kernel
theorem dX13_setPressure_42 : decode cX13_setPressure 42 = .ok (.iload_n 2, 1) := by decide +kernel
theorem dX13_setPressure_43 : decode cX13_setPressure 43 = .ok (.iadd, 1) := by decide +kernel
theorem dX13_setPressure_44 : decode cX13_setPressure 44 = .ok (.istore 4, 2) := by decide +kernel
theorem dX13_setPressure_46 : decode cX13_setPressure 46 = .ok (.aload_n 0, 1) := by decide +kernel
theorem dX13_setPressure_47 : decode cX13_setPressure 47 = .ok (.getfield 7, 3) := by decide +kernel
theorem dX13_setPressure_50 : decode cX13_setPressure 50 = .ok (.iload 4, 2) := by decide +kernel
theorem dX13_setPressure_52 : decode cX13_setPressure 52 = .ok (.iaload, 1) := by decide +kernel
theorem dX13_setPressure_53 : decode cX13_setPressure 53 = .ok (.istore 5, 2) := by decide +kernel
theorem dX13_setPressure_55 : decode cX13_setPressure 55 = .ok (.aload_n 0, 1) := by decide +kernel
theorem dX13_setPressure_56 : decode cX13_setPressure 56 = .ok (.aload_n 0, 1) := by decide +kernel
theorem dX13_setPressure_57 : decode cX13_setPressure 57 = .ok (.getfield 7, 3) := by decide +kernel
theorem dX13_setPressure_60 : decode cX13_setPressure 60 = .ok (.invokevirtual 84, 3) := by decide +kernel
theorem dX13_setPressure_63 : decode cX13_setPressure 63 = .ok (.aload_n 0, 1) := by decide +kernel
theorem dX13_setPressure_64 : decode cX13_setPressure 64 = .ok (.getfield 7, 3) := by decide +kernel
theorem dX13_setPressure_67 : decode cX13_setPressure 67 = .ok (.iload 4, 2) := by decide +kernel
theorem dX13_setPressure_69 : decode cX13_setPressure 69 = .ok (.iload_n 3, 1) := by decide +kernel
theorem dX13_setPressure_70 : decode cX13_setPressure 70 = .ok (.iastore, 1) := by decide +kernel
theorem dX13_setPressure_71 : decode cX13_setPressure 71 = .ok (.iload 5, 2) := by decide +kernel
theorem dX13_setPressure_73 : decode cX13_setPressure 73 = .ok (.ireturn, 1) := by decide +kernel
set_option maxRecDepth 20000 in
theorem ggX13_pressureAt_X13_isCell : GoodIn wsX13_pressureAt wsX13_isCell := goodIn_r _ [5, 6, 7, 4, 8] (by decide +kernel) (by decide +kernel)
set_option maxRecDepth 20000 in
theorem gX13_pressureAt_X13_isCell : GoodIn wsX13_pressureAt (va_wsS RX13 76 yX13_isCell wsX13_isCell) := goodIn_app (goodIn_of _ (by decide +kernel)) ggX13_pressureAt_X13_isCell
set_option maxRecDepth 20000 in
theorem ggX13_pressureAt_X13_fails : GoodIn wsX13_pressureAt wsX13_fails := goodIn_r _ [12, 13, 14, 15, 16, 17, 18, 19, 20, 21, 22, 23, 24, 25, 26, 27, 28, 29, 30, 31, 32, 33, 34, 35, 36, 37] (by decide +kernel) (by decide +kernel)
set_option maxRecDepth 20000 in
theorem gX13_pressureAt_X13_fails : GoodIn wsX13_pressureAt (wsV RX13 80 RX13 yX13_fails wsX13_fails) := goodIn_app (goodIn_of _ (by decide +kernel)) ggX13_pressureAt_X13_fails
theorem dX13_pressureAt_0 : decode cX13_pressureAt 0 = .ok (.aload_n 0, 1) := by decide +kernel
theorem dX13_pressureAt_1 : decode cX13_pressureAt 1 = .ok (.iload_n 1, 1) := by decide +kernel
theorem dX13_pressureAt_2 : decode cX13_pressureAt 2 = .ok (.iload_n 2, 1) := by decide +kernel
theorem dX13_pressureAt_3 : decode cX13_pressureAt 3 = .ok (.invokestatic 76, 3) := by decide +kernel
theorem dX13_pressureAt_6 : decode cX13_pressureAt 6 = .ok (.ifCond .eq 7, 3) := by decide +kernel
theorem dX13_pressureAt_9 : decode cX13_pressureAt 9 = .ok (.iconst 0, 1) := by decide +kernel
theorem dX13_pressureAt_10 : decode cX13_pressureAt 10 = .ok (.goto 4, 3) := by decide +kernel
theorem dX13_pressureAt_13 : decode cX13_pressureAt 13 = .ok (.iconst 1, 1) := by decide +kernel
theorem dX13_pressureAt_14 : decode cX13_pressureAt 14 = .ok (.invokevirtual 80, 3) := by decide +kernel
theorem dX13_pressureAt_17 : decode cX13_pressureAt 17 = .ok (.ifCond .eq 7, 3) := by decide +kernel
theorem dX13_pressureAt_20 : decode cX13_pressureAt 20 = .ok (.iconst 0, 1) := by decide +kernel
theorem dX13_pressureAt_21 : decode cX13_pressureAt 21 = .ok (.goto 16, 3) := by decide +kernel
theorem dX13_pressureAt_24 : decode cX13_pressureAt 24 = .ok (.aload_n 0, 1) := by decide +kernel
theorem dX13_pressureAt_25 : decode cX13_pressureAt 25 = .ok (.getfield 7, 3) := by decide +kernel
theorem dX13_pressureAt_28 : decode cX13_pressureAt 28 = .ok (.bipush 7, 2) := by decide +kernel
theorem dX13_pressureAt_30 : decode cX13_pressureAt 30 = .ok (.iconst 5, 1) := by decide +kernel
theorem dX13_pressureAt_31 : decode cX13_pressureAt 31 = .ok (.iload_n 1, 1) := by decide +kernel
theorem dX13_pressureAt_32 : decode cX13_pressureAt 32 = .ok (.imul, 1) := by decide +kernel
theorem dX13_pressureAt_33 : decode cX13_pressureAt 33 = .ok (.iadd, 1) := by decide +kernel
theorem dX13_pressureAt_34 : decode cX13_pressureAt 34 = .ok (.iload_n 2, 1) := by decide +kernel
theorem dX13_pressureAt_35 : decode cX13_pressureAt 35 = .ok (.iadd, 1) := by decide +kernel
theorem dX13_pressureAt_36 : decode cX13_pressureAt 36 = .ok (.iaload, 1) := by decide +kernel
theorem dX13_pressureAt_37 : decode cX13_pressureAt 37 = .ok (.ireturn, 1) := by decide +kernel
theorem dX13_totalPressure_0 : decode cX13_totalPressure 0 = .ok (.aload_n 0, 1) := by decide +kernel
theorem dX13_totalPressure_1 : decode cX13_totalPressure 1 = .ok (.iconst 0, 1) := by decide +kernel
theorem dX13_totalPressure_2 : decode cX13_totalPressure 2 = .ok (.putfield 58, 3) := by decide +kernel
theorem dX13_totalPressure_5 : decode cX13_totalPressure 5 = .ok (.iconst 0, 1) := by decide +kernel
theorem dX13_totalPressure_6 : decode cX13_totalPressure 6 = .ok (.istore_n 1, 1) := by decide +kernel
theorem dX13_totalPressure_7 : decode cX13_totalPressure 7 = .ok (.iconst 0, 1) := by decide +kernel
theorem dX13_totalPressure_8 : decode cX13_totalPressure 8 = .ok (.istore_n 2, 1) := by decide +kernel
theorem dX13_totalPressure_9 : decode cX13_totalPressure 9 = .ok (.iload_n 2, 1) := by decide +kernel
theorem dX13_totalPressure_10 : decode cX13_totalPressure 10 = .ok (.bipush 25, 2) := by decide +kernel
theorem dX13_totalPressure_12 : decode cX13_totalPressure 12 = .ok (.if_icmp .ge 21, 3) := by decide +kernel
theorem dX13_totalPressure_15 : decode cX13_totalPressure 15 = .ok (.iload_n 1, 1) := by decide +kernel
theorem dX13_totalPressure_16 : decode cX13_totalPressure 16 = .ok (.aload_n 0, 1) := by decide +kernel
theorem dX13_totalPressure_17 : decode cX13_totalPressure 17 = .ok (.getfield 7, 3) := by decide +kernel
theorem dX13_totalPressure_20 : decode cX13_totalPressure 20 = .ok (.bipush 7, 2) := by decide +kernel
theorem dX13_totalPressure_22 : decode cX13_totalPressure 22 = .ok (.iload_n 2, 1) := by decide +kernel
theorem dX13_totalPressure_23 : decode cX13_totalPressure 23 = .ok (.iadd, 1) := by decide +kernel
theorem dX13_totalPressure_24 : decode cX13_totalPressure 24 = .ok (.iaload, 1) := by decide +kernel
theorem dX13_totalPressure_25 : decode cX13_totalPressure 25 = .ok (.iadd, 1) := by decide +kernel
theorem dX13_totalPressure_26 : decode cX13_totalPressure 26 = .ok (.istore_n 1, 1) := by decide +kernel
theorem dX13_totalPressure_27 : decode cX13_totalPressure 27 = .ok (.iinc 2 1, 3) := by decide +kernel
theorem dX13_totalPressure_30 : decode cX13_totalPressure 30 = .ok (.goto (-21), 3) := by decide +kernel
theorem dX13_totalPressure_33 : decode cX13_totalPressure 33 = .ok (.iload_n 1, 1) := by decide +kernel
theorem dX13_totalPressure_34 : decode cX13_totalPressure 34 = .ok (.ireturn, 1) := by decide +kernel
theorem dX13_looks_0 : decode cX13_looks 0 = .ok (.iconst 0, 1) := by decide +kernel
theorem dX13_looks_1 : decode cX13_looks 1 = .ok (.istore_n 1, 1) := by decide +kernel
theorem dX13_looks_2 : decode cX13_looks 2 = .ok (.iload_n 1, 1) := by decide +kernel
theorem dX13_looks_3 : decode cX13_looks 3 = .ok (.bipush 25, 2) := by decide +kernel
theorem dX13_looks_5 : decode cX13_looks 5 = .ok (.if_icmp .ge 24, 3) := by decide +kernel
theorem dX13_looks_8 : decode cX13_looks 8 = .ok (.aload_n 0, 1) := by decide +kernel
theorem dX13_looks_9 : decode cX13_looks 9 = .ok (.getfield 22, 3) := by decide +kernel
theorem dX13_looks_12 : decode cX13_looks 12 = .ok (.iload_n 1, 1) := by decide +kernel
theorem dX13_looks_13 : decode cX13_looks 13 = .ok (.aload_n 0, 1) := by decide +kernel
theorem dX13_looks_14 : decode cX13_looks 14 = .ok (.getfield 7, 3) := by decide +kernel
theorem dX13_looks_17 : decode cX13_looks 17 = .ok (.bipush 7, 2) := by decide +kernel
theorem dX13_looks_19 : decode cX13_looks 19 = .ok (.iload_n 1, 1) := by decide +kernel
theorem dX13_looks_20 : decode cX13_looks 20 = .ok (.iadd, 1) := by decide +kernel
theorem dX13_looks_21 : decode cX13_looks 21 = .ok (.iaload, 1) := by decide +kernel
theorem dX13_looks_22 : decode cX13_looks 22 = .ok (.iastore, 1) := by decide +kernel
theorem dX13_looks_23 : decode cX13_looks 23 = .ok (.iinc 1 1, 3) := by decide +kernel
theorem dX13_looks_26 : decode cX13_looks 26 = .ok (.goto (-24), 3) := by decide +kernel
theorem dX13_looks_29 : decode cX13_looks 29 = .ok (.return_, 1) := by decide +kernel
theorem dX13_others_0 : decode cX13_others 0 = .ok (.iconst 0, 1) := by decide +kernel
theorem dX13_others_1 : decode cX13_others 1 = .ok (.istore_n 1, 1) := by decide +kernel
theorem dX13_others_2 : decode cX13_others 2 = .ok (.iconst 0, 1) := by decide +kernel
theorem dX13_others_3 : decode cX13_others 3 = .ok (.istore_n 2, 1) := by decide +kernel
theorem dX13_others_4 : decode cX13_others 4 = .ok (.iload_n 2, 1) := by decide +kernel
theorem dX13_others_5 : decode cX13_others 5 = .ok (.bipush 25, 2) := by decide +kernel
theorem dX13_others_7 : decode cX13_others 7 = .ok (.if_icmp .ge 35, 3) := by decide +kernel
theorem dX13_others_10 : decode cX13_others 10 = .ok (.iload_n 1, 1) := by decide +kernel
theorem dX13_others_11 : decode cX13_others 11 = .ok (.aload_n 0, 1) := by decide +kernel
theorem dX13_others_12 : decode cX13_others 12 = .ok (.getfield 22, 3) := by decide +kernel
theorem dX13_others_15 : decode cX13_others 15 = .ok (.iload_n 2, 1) := by decide +kernel
theorem dX13_others_16 : decode cX13_others 16 = .ok (.iaload, 1) := by decide +kernel
theorem dX13_others_17 : decode cX13_others 17 = .ok (.aload_n 0, 1) := by decide +kernel
theorem dX13_others_18 : decode cX13_others 18 = .ok (.getfield 7, 3) := by decide +kernel
theorem dX13_others_21 : decode cX13_others 21 = .ok (.bipush 7, 2) := by decide +kernel
theorem dX13_others_23 : decode cX13_others 23 = .ok (.iload_n 2, 1) := by decide +kernel
theorem dX13_others_24 : decode cX13_others 24 = .ok (.iadd, 1) := by decide +kernel
theorem dX13_others_25 : decode cX13_others 25 = .ok (.iaload, 1) := by decide +kernel
theorem dX13_others_26 : decode cX13_others 26 = .ok (.if_icmp .ne 7, 3) := by decide +kernel
theorem dX13_others_29 : decode cX13_others 29 = .ok (.iconst 0, 1) := by decide +kernel
theorem dX13_others_30 : decode cX13_others 30 = .ok (.goto 4, 3) := by decide +kernel
theorem dX13_others_33 : decode cX13_others 33 = .ok (.iconst 1, 1) := by decide +kernel
theorem dX13_others_34 : decode cX13_others 34 = .ok (.iadd, 1) := by decide +kernel
theorem dX13_others_35 : decode cX13_others 35 = .ok (.istore_n 1, 1) := by decide +kernel
theorem dX13_others_36 : decode cX13_others 36 = .ok (.iinc 2 1, 3) := by decide +kernel
theorem dX13_others_39 : decode cX13_others 39 = .ok (.goto (-35), 3) := by decide +kernel
theorem dX13_others_42 : decode cX13_others 42 = .ok (.iload_n 1, 1) := by decide +kernel
theorem dX13_others_43 : decode cX13_others 43 = .ok (.ireturn, 1) := by decide +kernel
set_option maxRecDepth 20000 in
theorem ggX13_folds_X13_in : GoodIn wsX13_folds wsX13_in := goodIn_r _ [5] (by decide +kernel) (by decide +kernel)
set_option maxRecDepth 20000 in
theorem gX13_folds_X13_in : GoodIn wsX13_folds (va_wsS RX13 72 yX13_in wsX13_in) := goodIn_app (goodIn_of _ (by decide +kernel)) ggX13_folds_X13_in
set_option maxRecDepth 20000 in
theorem ggX13_folds_X13_fails : GoodIn wsX13_folds wsX13_fails := goodIn_r _ [9, 10, 30, 31, 32, 33, 34, 35, 36, 37, 38, 39, 40, 41, 42, 43, 44, 45, 46, 47, 48, 49, 50, 51, 52, 53] (by decide +kernel) (by decide +kernel)
set_option maxRecDepth 20000 in
theorem gX13_folds_X13_fails : GoodIn wsX13_folds (wsV RX13 80 RX13 yX13_fails wsX13_fails) := goodIn_app (goodIn_of _ (by decide +kernel)) ggX13_folds_X13_fails
set_option maxRecDepth 20000 in
theorem ggX13_folds_X13_looks : GoodIn wsX13_folds wsX13_looks := goodIn_ca (goodIn_r _ [14, 15, 1, 30, 31, 32, 33, 34, 35, 36, 37, 38, 39, 40, 41, 42, 43, 44, 45, 46, 47, 48, 49, 50, 51, 52, 53] (by decide +kernel) (by decide +kernel)) (goodIn_sub (fun _ h => List.mem_cons_of_mem _ (List.mem_append_right _ h)) (by decide +kernel))
set_option maxRecDepth 20000 in
theorem gX13_folds_X13_looks : GoodIn wsX13_folds (wsV RX13 88 RX13 yX13_looks wsX13_looks) := goodIn_app (goodIn_of _ (by decide +kernel)) ggX13_folds_X13_looks
set_option maxRecDepth 20000 in
theorem ggX13_folds_X13_keeps : GoodIn wsX13_folds wsX13_keeps := goodIn_ca (goodIn_r _ [19, 10, 20, 21, 22, 23, 24, 4, 25, 30, 31, 32, 33, 34, 35, 36, 37, 38, 39, 40, 41, 42, 43, 44, 45, 46, 47, 48, 49, 50, 51, 52, 53] (by decide +kernel) (by decide +kernel)) (goodIn_sub (fun _ h => List.mem_cons_of_mem _ (List.mem_append_right _ h)) (by decide +kernel))
set_option maxRecDepth 20000 in
theorem gX13_folds_X13_keeps : GoodIn wsX13_folds (wsV RX13 84 RX13 yX13_keeps wsX13_keeps) := goodIn_app (goodIn_of _ (by decide +kernel)) ggX13_folds_X13_keeps
set_option maxRecDepth 20000 in
theorem ggX13_folds_X13_others : GoodIn wsX13_folds wsX13_others := goodIn_ca (goodIn_r _ [29, 15, 1, 30, 31, 32, 33, 34, 35, 36, 37, 38, 39, 40, 41, 42, 43, 44, 45, 46, 47, 48, 49, 50, 51, 52, 53] (by decide +kernel) (by decide +kernel)) (goodIn_sub (fun _ h => List.mem_cons_of_mem _ (List.mem_append_right _ h)) (by decide +kernel))
set_option maxRecDepth 20000 in
theorem gX13_folds_X13_others : GoodIn wsX13_folds (wsV RX13 91 RX13 yX13_others wsX13_others) := goodIn_app (goodIn_of _ (by decide +kernel)) ggX13_folds_X13_others
theorem dX13_folds_0 : decode cX13_folds 0 = .ok (.aload_n 0, 1) := by decide +kernel
theorem dX13_folds_1 : decode cX13_folds 1 = .ok (.iload_n 1, 1) := by decide +kernel
theorem dX13_folds_2 : decode cX13_folds 2 = .ok (.iconst 1, 1) := by decide +kernel
theorem dX13_folds_3 : decode cX13_folds 3 = .ok (.iconst 3, 1) := by decide +kernel
theorem dX13_folds_4 : decode cX13_folds 4 = .ok (.invokestatic 72, 3) := by decide +kernel
theorem dX13_folds_7 : decode cX13_folds 7 = .ok (.ifCond .eq 7, 3) := by decide +kernel
theorem dX13_folds_10 : decode cX13_folds 10 = .ok (.iconst 0, 1) := by decide +kernel
theorem dX13_folds_11 : decode cX13_folds 11 = .ok (.goto 4, 3) := by decide +kernel
theorem dX13_folds_14 : decode cX13_folds 14 = .ok (.iconst 1, 1) := by decide +kernel
theorem dX13_folds_15 : decode cX13_folds 15 = .ok (.invokevirtual 80, 3) := by decide +kernel
theorem dX13_folds_18 : decode cX13_folds 18 = .ok (.ifCond .eq 5, 3) := by decide +kernel
theorem dX13_folds_21 : decode cX13_folds 21 = .ok (.iconst 0, 1) := by decide +kernel
theorem dX13_folds_22 : decode cX13_folds 22 = .ok (.ireturn, 1) := by decide +kernel
theorem dX13_folds_23 : decode cX13_folds 23 = .ok (.aload_n 0, 1) := by decide +kernel
theorem dX13_folds_24 : decode cX13_folds 24 = .ok (.invokevirtual 88, 3) := by decide +kernel
theorem dX13_folds_27 : decode cX13_folds 27 = .ok (.aload_n 0, 1) := by decide +kernel
theorem dX13_folds_28 : decode cX13_folds 28 = .ok (.aload_n 0, 1) := by decide +kernel
theorem dX13_folds_29 : decode cX13_folds 29 = .ok (.getfield 7, 3) := by decide +kernel
theorem dX13_folds_32 : decode cX13_folds 32 = .ok (.invokevirtual 84, 3) := by decide +kernel
theorem dX13_folds_35 : decode cX13_folds 35 = .ok (.iconst 1, 1) := by decide +kernel
theorem dX13_folds_36 : decode cX13_folds 36 = .ok (.istore 4, 2) := by decide +kernel
theorem dX13_folds_38 : decode cX13_folds 38 = .ok (.iload 4, 2) := by decide +kernel
theorem dX13_folds_40 : decode cX13_folds 40 = .ok (.iload_n 1, 1) := by decide +kernel
theorem dX13_folds_41 : decode cX13_folds 41 = .ok (.if_icmp .gt 105, 3) := by decide +kernel
theorem dX13_folds_44 : decode cX13_folds 44 = .ok (.iload_n 1, 1) := by decide +kernel
theorem dX13_folds_45 : decode cX13_folds 45 = .ok (.iload 4, 2) := by decide +kernel
theorem dX13_folds_47 : decode cX13_folds 47 = .ok (.iadd, 1) := by decide +kernel
theorem dX13_folds_48 : decode cX13_folds 48 = .ok (.iconst 5, 1) := by decide +kernel
theorem dX13_folds_49 : decode cX13_folds 49 = .ok (.if_icmp .ge 97, 3) := by decide +kernel
theorem dX13_folds_52 : decode cX13_folds 52 = .ok (.iconst 0, 1) := by decide +kernel
theorem dX13_folds_53 : decode cX13_folds 53 = .ok (.istore 5, 2) := by decide +kernel
theorem dX13_folds_55 : decode cX13_folds 55 = .ok (.iload 5, 2) := by decide +kernel
theorem dX13_folds_57 : decode cX13_folds 57 = .ok (.iconst 5, 1) := by decide +kernel
theorem dX13_folds_58 : decode cX13_folds 58 = .ok (.if_icmp .ge 82, 3) := by decide +kernel
theorem dX13_folds_61 : decode cX13_folds 61 = .ok (.bipush 7, 2) := by decide +kernel
theorem dX13_folds_63 : decode cX13_folds 63 = .ok (.iload_n 2, 1) := by decide +kernel
theorem dX13_folds_64 : decode cX13_folds 64 = .ok (.iload_n 1, 1) := by decide +kernel
theorem dX13_folds_65 : decode cX13_folds 65 = .ok (.iload 4, 2) := by decide +kernel
theorem dX13_folds_67 : decode cX13_folds 67 = .ok (.isub, 1) := by decide +kernel
theorem dX13_folds_68 : decode cX13_folds 68 = .ok (.imul, 1) := by decide +kernel
theorem dX13_folds_69 : decode cX13_folds 69 = .ok (.iadd, 1) := by decide +kernel
theorem dX13_folds_70 : decode cX13_folds 70 = .ok (.iload_n 3, 1) := by decide +kernel
theorem dX13_folds_71 : decode cX13_folds 71 = .ok (.iload 5, 2) := by decide +kernel
theorem dX13_folds_73 : decode cX13_folds 73 = .ok (.imul, 1) := by decide +kernel
theorem dX13_folds_74 : decode cX13_folds 74 = .ok (.iadd, 1) := by decide +kernel
theorem dX13_folds_75 : decode cX13_folds 75 = .ok (.istore 6, 2) := by decide +kernel
theorem dX13_folds_77 : decode cX13_folds 77 = .ok (.bipush 7, 2) := by decide +kernel
theorem dX13_folds_79 : decode cX13_folds 79 = .ok (.iload_n 2, 1) := by decide +kernel
theorem dX13_folds_80 : decode cX13_folds 80 = .ok (.iload_n 1, 1) := by decide +kernel
theorem dX13_folds_81 : decode cX13_folds 81 = .ok (.iload 4, 2) := by decide +kernel
theorem dX13_folds_83 : decode cX13_folds 83 = .ok (.iadd, 1) := by decide +kernel
theorem dX13_folds_84 : decode cX13_folds 84 = .ok (.imul, 1) := by decide +kernel
theorem dX13_folds_85 : decode cX13_folds 85 = .ok (.iadd, 1) := by decide +kernel
theorem dX13_folds_86 : decode cX13_folds 86 = .ok (.iload_n 3, 1) := by decide +kernel
theorem dX13_folds_87 : decode cX13_folds 87 = .ok (.iload 5, 2) := by decide +kernel
theorem dX13_folds_89 : decode cX13_folds 89 = .ok (.imul, 1) := by decide +kernel
theorem dX13_folds_90 : decode cX13_folds 90 = .ok (.iadd, 1) := by decide +kernel
theorem dX13_folds_91 : decode cX13_folds 91 = .ok (.istore 7, 2) := by decide +kernel
theorem dX13_folds_93 : decode cX13_folds 93 = .ok (.aload_n 0, 1) := by decide +kernel
theorem dX13_folds_94 : decode cX13_folds 94 = .ok (.getfield 7, 3) := by decide +kernel
theorem dX13_folds_97 : decode cX13_folds 97 = .ok (.iload 6, 2) := by decide +kernel
theorem dX13_folds_99 : decode cX13_folds 99 = .ok (.iaload, 1) := by decide +kernel
theorem dX13_folds_100 : decode cX13_folds 100 = .ok (.aload_n 0, 1) := by decide +kernel
theorem dX13_folds_101 : decode cX13_folds 101 = .ok (.getfield 7, 3) := by decide +kernel
theorem dX13_folds_104 : decode cX13_folds 104 = .ok (.iload 7, 2) := by decide +kernel
theorem dX13_folds_106 : decode cX13_folds 106 = .ok (.iaload, 1) := by decide +kernel
theorem dX13_folds_107 : decode cX13_folds 107 = .ok (.iadd, 1) := by decide +kernel
theorem dX13_folds_108 : decode cX13_folds 108 = .ok (.istore 8, 2) := by decide +kernel
theorem dX13_folds_110 : decode cX13_folds 110 = .ok (.aload_n 0, 1) := by decide +kernel
theorem dX13_folds_111 : decode cX13_folds 111 = .ok (.getfield 7, 3) := by decide +kernel
theorem dX13_folds_114 : decode cX13_folds 114 = .ok (.iload 6, 2) := by decide +kernel
theorem dX13_folds_116 : decode cX13_folds 116 = .ok (.iload 8, 2) := by decide +kernel
theorem dX13_folds_118 : decode cX13_folds 118 = .ok (.iconst 1, 1) := by decide +kernel
theorem dX13_folds_119 : decode cX13_folds 119 = .ok (.iadd, 1) := by decide +kernel
theorem dX13_folds_120 : decode cX13_folds 120 = .ok (.iconst 2, 1) := by decide +kernel
theorem dX13_folds_121 : decode cX13_folds 121 = .ok (.idiv, 1) := by decide +kernel
theorem dX13_folds_122 : decode cX13_folds 122 = .ok (.iastore, 1) := by decide +kernel
theorem dX13_folds_123 : decode cX13_folds 123 = .ok (.aload_n 0, 1) := by decide +kernel
theorem dX13_folds_124 : decode cX13_folds 124 = .ok (.getfield 7, 3) := by decide +kernel
theorem dX13_folds_127 : decode cX13_folds 127 = .ok (.iload 7, 2) := by decide +kernel
theorem dX13_folds_129 : decode cX13_folds 129 = .ok (.iload 8, 2) := by decide +kernel
theorem dX13_folds_131 : decode cX13_folds 131 = .ok (.iconst 2, 1) := by decide +kernel
theorem dX13_folds_132 : decode cX13_folds 132 = .ok (.idiv, 1) := by decide +kernel
theorem dX13_folds_133 : decode cX13_folds 133 = .ok (.iastore, 1) := by decide +kernel
theorem dX13_folds_134 : decode cX13_folds 134 = .ok (.iinc 5 1, 3) := by decide +kernel
theorem dX13_folds_137 : decode cX13_folds 137 = .ok (.goto (-82), 3) := by decide +kernel
theorem dX13_folds_140 : decode cX13_folds 140 = .ok (.iinc 4 1, 3) := by decide +kernel
theorem dX13_folds_143 : decode cX13_folds 143 = .ok (.goto (-105), 3) := by decide +kernel
theorem dX13_folds_146 : decode cX13_folds 146 = .ok (.aload_n 0, 1) := by decide +kernel
theorem dX13_folds_147 : decode cX13_folds 147 = .ok (.invokevirtual 91, 3) := by decide +kernel
theorem dX13_folds_150 : decode cX13_folds 150 = .ok (.ireturn, 1) := by decide +kernel
set_option maxRecDepth 20000 in
theorem ggX13_foldRow_X13_folds : GoodIn wsX13_foldRow wsX13_folds := goodIn_ca (goodIn_r _ [5, 6, 7, 8, 4, 9, 10, 11, 12, 13, 14, 15, 16, 17, 18, 19, 20, 21, 22, 23, 24, 25, 26, 27, 28, 29, 30, 31, 32, 33, 34, 35, 36, 37, 38, 39, 40, 41, 42, 43, 44, 45, 46, 47, 48, 49, 50, 51, 52, 53, 54, 55, 56, 57] (by decide +kernel) (by decide +kernel)) (goodIn_sub (fun _ h => List.mem_cons_of_mem _ (List.mem_append_right _ h)) (by decide +kernel))
set_option maxRecDepth 20000 in
theorem gX13_foldRow_X13_folds : GoodIn wsX13_foldRow (wsV RX13 95 RX13 yX13_folds wsX13_folds) := goodIn_app (goodIn_of _ (by decide +kernel)) ggX13_foldRow_X13_folds
theorem dX13_foldRow_0 : decode cX13_foldRow 0 = .ok (.aload_n 0, 1) := by decide +kernel
theorem dX13_foldRow_1 : decode cX13_foldRow 1 = .ok (.iload_n 1, 1) := by decide +kernel
theorem dX13_foldRow_2 : decode cX13_foldRow 2 = .ok (.iconst 5, 1) := by decide +kernel
theorem dX13_foldRow_3 : decode cX13_foldRow 3 = .ok (.iconst 1, 1) := by decide +kernel
theorem dX13_foldRow_4 : decode cX13_foldRow 4 = .ok (.invokevirtual 95, 3) := by decide +kernel
theorem dX13_foldRow_7 : decode cX13_foldRow 7 = .ok (.ireturn, 1) := by decide +kernel
set_option maxRecDepth 20000 in
theorem ggX13_foldColumn_X13_folds : GoodIn wsX13_foldColumn wsX13_folds := goodIn_ca (goodIn_r _ [5, 6, 7, 8, 4, 9, 10, 11, 12, 13, 14, 15, 16, 17, 18, 19, 20, 21, 22, 23, 24, 25, 26, 27, 28, 29, 30, 31, 32, 33, 34, 35, 36, 37, 38, 39, 40, 41, 42, 43, 44, 45, 46, 47, 48, 49, 50, 51, 52, 53, 54, 55, 56, 57] (by decide +kernel) (by decide +kernel)) (goodIn_sub (fun _ h => List.mem_cons_of_mem _ (List.mem_append_right _ h)) (by decide +kernel))
set_option maxRecDepth 20000 in
theorem gX13_foldColumn_X13_folds : GoodIn wsX13_foldColumn (wsV RX13 95 RX13 yX13_folds wsX13_folds) := goodIn_app (goodIn_of _ (by decide +kernel)) ggX13_foldColumn_X13_folds
theorem dX13_foldColumn_0 : decode cX13_foldColumn 0 = .ok (.aload_n 0, 1) := by decide +kernel
theorem dX13_foldColumn_1 : decode cX13_foldColumn 1 = .ok (.iload_n 1, 1) := by decide +kernel
theorem dX13_foldColumn_2 : decode cX13_foldColumn 2 = .ok (.iconst 1, 1) := by decide +kernel
theorem dX13_foldColumn_3 : decode cX13_foldColumn 3 = .ok (.iconst 5, 1) := by decide +kernel
theorem dX13_foldColumn_4 : decode cX13_foldColumn 4 = .ok (.invokevirtual 95, 3) := by decide +kernel
theorem dX13_foldColumn_7 : decode cX13_foldColumn 7 = .ok (.ireturn, 1) := by decide +kernel
set_option maxRecDepth 20000 in
theorem ggX13_shift_X13_fails : GoodIn wsX13_shift wsX13_fails := goodIn_r _ [7, 8, 27, 28, 29, 30, 31, 32, 33, 34, 35, 36, 37, 38, 39, 40, 41, 42, 43, 44, 45, 46, 47, 48, 49, 50] (by decide +kernel) (by decide +kernel)
set_option maxRecDepth 20000 in
theorem gX13_shift_X13_fails : GoodIn wsX13_shift (wsV RX13 80 RX13 yX13_fails wsX13_fails) := goodIn_app (goodIn_of _ (by decide +kernel)) ggX13_shift_X13_fails
set_option maxRecDepth 20000 in
theorem ggX13_shift_X13_looks : GoodIn wsX13_shift wsX13_looks := goodIn_ca (goodIn_r _ [12, 2, 1, 27, 28, 29, 30, 31, 32, 33, 34, 35, 36, 37, 38, 39, 40, 41, 42, 43, 44, 45, 46, 47, 48, 49, 50] (by decide +kernel) (by decide +kernel)) (goodIn_sub (fun _ h => List.mem_cons_of_mem _ (List.mem_append_right _ h)) (by decide +kernel))
set_option maxRecDepth 20000 in
theorem gX13_shift_X13_looks : GoodIn wsX13_shift (wsV RX13 88 RX13 yX13_looks wsX13_looks) := goodIn_app (goodIn_of _ (by decide +kernel)) ggX13_shift_X13_looks
set_option maxRecDepth 20000 in
theorem ggX13_shift_X13_keeps : GoodIn wsX13_shift wsX13_keeps := goodIn_ca (goodIn_r _ [16, 8, 17, 18, 19, 20, 21, 6, 22, 27, 28, 29, 30, 31, 32, 33, 34, 35, 36, 37, 38, 39, 40, 41, 42, 43, 44, 45, 46, 47, 48, 49, 50] (by decide +kernel) (by decide +kernel)) (goodIn_sub (fun _ h => List.mem_cons_of_mem _ (List.mem_append_right _ h)) (by decide +kernel))
set_option maxRecDepth 20000 in
theorem gX13_shift_X13_keeps : GoodIn wsX13_shift (wsV RX13 84 RX13 yX13_keeps wsX13_keeps) := goodIn_app (goodIn_of _ (by decide +kernel)) ggX13_shift_X13_keeps
set_option maxRecDepth 20000 in
theorem ggX13_shift_X13_others : GoodIn wsX13_shift wsX13_others := goodIn_ca (goodIn_r _ [26, 2, 1, 27, 28, 29, 30, 31, 32, 33, 34, 35, 36, 37, 38, 39, 40, 41, 42, 43, 44, 45, 46, 47, 48, 49, 50] (by decide +kernel) (by decide +kernel)) (goodIn_sub (fun _ h => List.mem_cons_of_mem _ (List.mem_append_right _ h)) (by decide +kernel))
set_option maxRecDepth 20000 in
theorem gX13_shift_X13_others : GoodIn wsX13_shift (wsV RX13 91 RX13 yX13_others wsX13_others) := goodIn_app (goodIn_of _ (by decide +kernel)) ggX13_shift_X13_others
theorem dX13_shift_0 : decode cX13_shift 0 = .ok (.iload_n 1, 1) := by decide +kernel
theorem dX13_shift_1 : decode cX13_shift 1 = .ok (.bipush 110, 2) := by decide +kernel
theorem dX13_shift_3 : decode cX13_shift 3 = .ok (.if_icmp .ne 7, 3) := by decide +kernel
theorem dX13_shift_6 : decode cX13_shift 6 = .ok (.iconst 4, 1) := by decide +kernel
theorem dX13_shift_7 : decode cX13_shift 7 = .ok (.goto 14, 3) := by decide +kernel
theorem dX13_shift_10 : decode cX13_shift 10 = .ok (.iload_n 1, 1) := by decide +kernel
theorem dX13_shift_11 : decode cX13_shift 11 = .ok (.bipush 115, 2) := by decide +kernel
theorem dX13_shift_13 : decode cX13_shift 13 = .ok (.if_icmp .ne 7, 3) := by decide +kernel
theorem dX13_shift_16 : decode cX13_shift 16 = .ok (.iconst 1, 1) := by decide +kernel
theorem dX13_shift_17 : decode cX13_shift 17 = .ok (.goto 4, 3) := by decide +kernel
theorem dX13_shift_20 : decode cX13_shift 20 = .ok (.iconst 0, 1) := by decide +kernel
theorem dX13_shift_21 : decode cX13_shift 21 = .ok (.istore_n 2, 1) := by decide +kernel
theorem dX13_shift_22 : decode cX13_shift 22 = .ok (.iload_n 1, 1) := by decide +kernel
theorem dX13_shift_23 : decode cX13_shift 23 = .ok (.bipush 119, 2) := by decide +kernel
theorem dX13_shift_25 : decode cX13_shift 25 = .ok (.if_icmp .ne 7, 3) := by decide +kernel
theorem dX13_shift_28 : decode cX13_shift 28 = .ok (.iconst 4, 1) := by decide +kernel
theorem dX13_shift_29 : decode cX13_shift 29 = .ok (.goto 14, 3) := by decide +kernel
theorem dX13_shift_32 : decode cX13_shift 32 = .ok (.iload_n 1, 1) := by decide +kernel
theorem dX13_shift_33 : decode cX13_shift 33 = .ok (.bipush 101, 2) := by decide +kernel
theorem dX13_shift_35 : decode cX13_shift 35 = .ok (.if_icmp .ne 7, 3) := by decide +kernel
theorem dX13_shift_38 : decode cX13_shift 38 = .ok (.iconst 1, 1) := by decide +kernel
theorem dX13_shift_39 : decode cX13_shift 39 = .ok (.goto 4, 3) := by decide +kernel
theorem dX13_shift_42 : decode cX13_shift 42 = .ok (.iconst 0, 1) := by decide +kernel
theorem dX13_shift_43 : decode cX13_shift 43 = .ok (.istore_n 3, 1) := by decide +kernel
theorem dX13_shift_44 : decode cX13_shift 44 = .ok (.aload_n 0, 1) := by decide +kernel
theorem dX13_shift_45 : decode cX13_shift 45 = .ok (.iload_n 2, 1) := by decide +kernel
theorem dX13_shift_46 : decode cX13_shift 46 = .ok (.iload_n 3, 1) := by decide +kernel
theorem dX13_shift_47 : decode cX13_shift 47 = .ok (.iadd, 1) := by decide +kernel
theorem dX13_shift_48 : decode cX13_shift 48 = .ok (.ifCond .ne 7, 3) := by decide +kernel
theorem dX13_shift_51 : decode cX13_shift 51 = .ok (.iconst 1, 1) := by decide +kernel
theorem dX13_shift_52 : decode cX13_shift 52 = .ok (.goto 4, 3) := by decide +kernel
theorem dX13_shift_55 : decode cX13_shift 55 = .ok (.iconst 0, 1) := by decide +kernel
theorem dX13_shift_56 : decode cX13_shift 56 = .ok (.invokevirtual 80, 3) := by decide +kernel
theorem dX13_shift_59 : decode cX13_shift 59 = .ok (.ifCond .eq 5, 3) := by decide +kernel
theorem dX13_shift_62 : decode cX13_shift 62 = .ok (.iconst 0, 1) := by decide +kernel
theorem dX13_shift_63 : decode cX13_shift 63 = .ok (.ireturn, 1) := by decide +kernel
theorem dX13_shift_64 : decode cX13_shift 64 = .ok (.aload_n 0, 1) := by decide +kernel
theorem dX13_shift_65 : decode cX13_shift 65 = .ok (.invokevirtual 88, 3) := by decide +kernel
theorem dX13_shift_68 : decode cX13_shift 68 = .ok (.aload_n 0, 1) := by decide +kernel
theorem dX13_shift_69 : decode cX13_shift 69 = .ok (.aload_n 0, 1) := by decide +kernel
theorem dX13_shift_70 : decode cX13_shift 70 = .ok (.getfield 7, 3) := by decide +kernel
theorem dX13_shift_73 : decode cX13_shift 73 = .ok (.invokevirtual 84, 3) := by decide +kernel
theorem dX13_shift_76 : decode cX13_shift 76 = .ok (.iconst 0, 1) := by decide +kernel
theorem dX13_shift_77 : decode cX13_shift 77 = .ok (.istore 4, 2) := by decide +kernel
theorem dX13_shift_79 : decode cX13_shift 79 = .ok (.iload 4, 2) := by decide +kernel
theorem dX13_shift_81 : decode cX13_shift 81 = .ok (.bipush 25, 2) := by decide +kernel
theorem dX13_shift_83 : decode cX13_shift 83 = .ok (.if_icmp .ge 43, 3) := by decide +kernel
theorem dX13_shift_86 : decode cX13_shift 86 = .ok (.aload_n 0, 1) := by decide +kernel
theorem dX13_shift_87 : decode cX13_shift 87 = .ok (.getfield 7, 3) := by decide +kernel
theorem dX13_shift_90 : decode cX13_shift 90 = .ok (.bipush 7, 2) := by decide +kernel
theorem dX13_shift_92 : decode cX13_shift 92 = .ok (.iconst 5, 1) := by decide +kernel
theorem dX13_shift_93 : decode cX13_shift 93 = .ok (.iload 4, 2) := by decide +kernel
theorem dX13_shift_95 : decode cX13_shift 95 = .ok (.iconst 5, 1) := by decide +kernel
theorem dX13_shift_96 : decode cX13_shift 96 = .ok (.idiv, 1) := by decide +kernel
theorem dX13_shift_97 : decode cX13_shift 97 = .ok (.iload_n 2, 1) := by decide +kernel
theorem dX13_shift_98 : decode cX13_shift 98 = .ok (.iadd, 1) := by decide +kernel
theorem dX13_shift_99 : decode cX13_shift 99 = .ok (.iconst 5, 1) := by decide +kernel
theorem dX13_shift_100 : decode cX13_shift 100 = .ok (.irem, 1) := by decide +kernel
theorem dX13_shift_101 : decode cX13_shift 101 = .ok (.imul, 1) := by decide +kernel
theorem dX13_shift_102 : decode cX13_shift 102 = .ok (.iadd, 1) := by decide +kernel
theorem dX13_shift_103 : decode cX13_shift 103 = .ok (.iload 4, 2) := by decide +kernel
theorem dX13_shift_105 : decode cX13_shift 105 = .ok (.iconst 5, 1) := by decide +kernel
theorem dX13_shift_106 : decode cX13_shift 106 = .ok (.irem, 1) := by decide +kernel
theorem dX13_shift_107 : decode cX13_shift 107 = .ok (.iload_n 3, 1) := by decide +kernel
theorem dX13_shift_108 : decode cX13_shift 108 = .ok (.iadd, 1) := by decide +kernel
theorem dX13_shift_109 : decode cX13_shift 109 = .ok (.iconst 5, 1) := by decide +kernel
theorem dX13_shift_110 : decode cX13_shift 110 = .ok (.irem, 1) := by decide +kernel
theorem dX13_shift_111 : decode cX13_shift 111 = .ok (.iadd, 1) := by decide +kernel
theorem dX13_shift_112 : decode cX13_shift 112 = .ok (.aload_n 0, 1) := by decide +kernel
theorem dX13_shift_113 : decode cX13_shift 113 = .ok (.getfield 22, 3) := by decide +kernel
theorem dX13_shift_116 : decode cX13_shift 116 = .ok (.iload 4, 2) := by decide +kernel
theorem dX13_shift_118 : decode cX13_shift 118 = .ok (.iaload, 1) := by decide +kernel
theorem dX13_shift_119 : decode cX13_shift 119 = .ok (.iastore, 1) := by decide +kernel
theorem dX13_shift_120 : decode cX13_shift 120 = .ok (.iinc 4 1, 3) := by decide +kernel
theorem dX13_shift_123 : decode cX13_shift 123 = .ok (.goto (-44), 3) := by decide +kernel
theorem dX13_shift_126 : decode cX13_shift 126 = .ok (.aload_n 0, 1) := by decide +kernel
theorem dX13_shift_127 : decode cX13_shift 127 = .ok (.invokevirtual 91, 3) := by decide +kernel
theorem dX13_shift_130 : decode cX13_shift 130 = .ok (.ireturn, 1) := by decide +kernel
set_option maxRecDepth 20000 in
theorem ggX13_setThreshold_X13_in : GoodIn wsX13_setThreshold wsX13_in := goodIn_r _ [5] (by decide +kernel) (by decide +kernel)
set_option maxRecDepth 20000 in
theorem gX13_setThreshold_X13_in : GoodIn wsX13_setThreshold (va_wsS RX13 72 yX13_in wsX13_in) := goodIn_app (goodIn_of _ (by decide +kernel)) ggX13_setThreshold_X13_in
set_option maxRecDepth 20000 in
theorem ggX13_setThreshold_X13_fails : GoodIn wsX13_setThreshold wsX13_fails := goodIn_r _ [9, 10, 21, 22, 23, 24, 25, 26, 27, 28, 29, 30, 31, 32, 33, 34, 35, 36, 37, 38, 39, 40, 41, 42, 43, 44] (by decide +kernel) (by decide +kernel)
set_option maxRecDepth 20000 in
theorem gX13_setThreshold_X13_fails : GoodIn wsX13_setThreshold (wsV RX13 80 RX13 yX13_fails wsX13_fails) := goodIn_app (goodIn_of _ (by decide +kernel)) ggX13_setThreshold_X13_fails
set_option maxRecDepth 20000 in
theorem ggX13_setThreshold_X13_keeps : GoodIn wsX13_setThreshold wsX13_keeps := goodIn_ca (goodIn_r _ [14, 10, 15, 16, 17, 18, 19, 4, 20, 21, 22, 23, 24, 25, 26, 27, 28, 29, 30, 31, 32, 33, 34, 35, 36, 37, 38, 39, 40, 41, 42, 43, 44] (by decide +kernel) (by decide +kernel)) (goodIn_sub (fun _ h => List.mem_cons_of_mem _ (List.mem_append_right _ h)) (by decide +kernel))
set_option maxRecDepth 20000 in
theorem gX13_setThreshold_X13_keeps : GoodIn wsX13_setThreshold (wsV RX13 84 RX13 yX13_keeps wsX13_keeps) := goodIn_app (goodIn_of _ (by decide +kernel)) ggX13_setThreshold_X13_keeps
theorem dX13_setThreshold_0 : decode cX13_setThreshold 0 = .ok (.aload_n 0, 1) := by decide +kernel
theorem dX13_setThreshold_1 : decode cX13_setThreshold 1 = .ok (.iload_n 1, 1) := by decide +kernel
theorem dX13_setThreshold_2 : decode cX13_setThreshold 2 = .ok (.iconst 1, 1) := by decide +kernel
theorem dX13_setThreshold_3 : decode cX13_setThreshold 3 = .ok (.bipush 50, 2) := by decide +kernel
theorem dX13_setThreshold_5 : decode cX13_setThreshold 5 = .ok (.invokestatic 72, 3) := by decide +kernel
theorem dX13_setThreshold_8 : decode cX13_setThreshold 8 = .ok (.ifCond .eq 7, 3) := by decide +kernel
theorem dX13_setThreshold_11 : decode cX13_setThreshold 11 = .ok (.iconst 0, 1) := by decide +kernel
theorem dX13_setThreshold_12 : decode cX13_setThreshold 12 = .ok (.goto 4, 3) := by decide +kernel
theorem dX13_setThreshold_15 : decode cX13_setThreshold 15 = .ok (.iconst 1, 1) := by decide +kernel
theorem dX13_setThreshold_16 : decode cX13_setThreshold 16 = .ok (.invokevirtual 80, 3) := by decide +kernel
theorem dX13_setThreshold_19 : decode cX13_setThreshold 19 = .ok (.ifCond .eq 5, 3) := by decide +kernel
theorem dX13_setThreshold_22 : decode cX13_setThreshold 22 = .ok (.iconst 0, 1) := by decide +kernel
theorem dX13_setThreshold_23 : decode cX13_setThreshold 23 = .ok (.ireturn, 1) := by decide +kernel
theorem dX13_setThreshold_24 : decode cX13_setThreshold 24 = .ok (.aload_n 0, 1) := by decide +kernel
theorem dX13_setThreshold_25 : decode cX13_setThreshold 25 = .ok (.getfield 7, 3) := by decide +kernel
theorem dX13_setThreshold_28 : decode cX13_setThreshold 28 = .ok (.iconst 2, 1) := by decide +kernel
theorem dX13_setThreshold_29 : decode cX13_setThreshold 29 = .ok (.iaload, 1) := by decide +kernel
theorem dX13_setThreshold_30 : decode cX13_setThreshold 30 = .ok (.istore_n 2, 1) := by decide +kernel
theorem dX13_setThreshold_31 : decode cX13_setThreshold 31 = .ok (.aload_n 0, 1) := by decide +kernel
theorem dX13_setThreshold_32 : decode cX13_setThreshold 32 = .ok (.aload_n 0, 1) := by decide +kernel
theorem dX13_setThreshold_33 : decode cX13_setThreshold 33 = .ok (.getfield 7, 3) := by decide +kernel
theorem dX13_setThreshold_36 : decode cX13_setThreshold 36 = .ok (.invokevirtual 84, 3) := by decide +kernel
theorem dX13_setThreshold_39 : decode cX13_setThreshold 39 = .ok (.aload_n 0, 1) := by decide +kernel
theorem dX13_setThreshold_40 : decode cX13_setThreshold 40 = .ok (.getfield 7, 3) := by decide +kernel
theorem dX13_setThreshold_43 : decode cX13_setThreshold 43 = .ok (.iconst 2, 1) := by decide +kernel
theorem dX13_setThreshold_44 : decode cX13_setThreshold 44 = .ok (.iload_n 1, 1) := by decide +kernel
theorem dX13_setThreshold_45 : decode cX13_setThreshold 45 = .ok (.iastore, 1) := by decide +kernel
theorem dX13_setThreshold_46 : decode cX13_setThreshold 46 = .ok (.iload_n 2, 1) := by decide +kernel
theorem dX13_setThreshold_47 : decode cX13_setThreshold 47 = .ok (.ireturn, 1) := by decide +kernel
theorem dX13_threshold_0 : decode cX13_threshold 0 = .ok (.aload_n 0, 1) := by decide +kernel
theorem dX13_threshold_1 : decode cX13_threshold 1 = .ok (.iconst 0, 1) := by decide +kernel
theorem dX13_threshold_2 : decode cX13_threshold 2 = .ok (.putfield 58, 3) := by decide +kernel
theorem dX13_threshold_5 : decode cX13_threshold 5 = .ok (.aload_n 0, 1) := by decide +kernel
theorem dX13_threshold_6 : decode cX13_threshold 6 = .ok (.getfield 7, 3) := by decide +kernel
theorem dX13_threshold_9 : decode cX13_threshold 9 = .ok (.iconst 2, 1) := by decide +kernel
theorem dX13_threshold_10 : decode cX13_threshold 10 = .ok (.iaload, 1) := by decide +kernel
theorem dX13_threshold_11 : decode cX13_threshold 11 = .ok (.ireturn, 1) := by decide +kernel
set_option maxRecDepth 20000 in
theorem ggX13_slope_X13_apart : GoodIn wsX13_slope wsX13_apart := goodIn_r _ [5] (by decide +kernel) (by decide +kernel)
set_option maxRecDepth 20000 in
theorem gX13_slope_X13_apart : GoodIn wsX13_slope (va_wsS RX13 99 yX13_apart wsX13_apart) := goodIn_app (goodIn_of _ (by decide +kernel)) ggX13_slope_X13_apart
theorem dX13_slope_0 : decode cX13_slope 0 = .ok (.aload_n 0, 1) := by decide +kernel
theorem dX13_slope_1 : decode cX13_slope 1 = .ok (.getfield 7, 3) := by decide +kernel
theorem dX13_slope_4 : decode cX13_slope 4 = .ok (.bipush 7, 2) := by decide +kernel
theorem dX13_slope_6 : decode cX13_slope 6 = .ok (.iload_n 1, 1) := by decide +kernel
theorem dX13_slope_7 : decode cX13_slope 7 = .ok (.iadd, 1) := by decide +kernel
theorem dX13_slope_8 : decode cX13_slope 8 = .ok (.iaload, 1) := by decide +kernel
theorem dX13_slope_9 : decode cX13_slope 9 = .ok (.aload_n 0, 1) := by decide +kernel
theorem dX13_slope_10 : decode cX13_slope 10 = .ok (.getfield 7, 3) := by decide +kernel
theorem dX13_slope_13 : decode cX13_slope 13 = .ok (.bipush 7, 2) := by decide +kernel
theorem dX13_slope_15 : decode cX13_slope 15 = .ok (.iload_n 1, 1) := by decide +kernel
theorem dX13_slope_16 : decode cX13_slope 16 = .ok (.iadd, 1) := by decide +kernel
theorem dX13_slope_17 : decode cX13_slope 17 = .ok (.iload_n 2, 1) := by decide +kernel
theorem dX13_slope_18 : decode cX13_slope 18 = .ok (.iadd, 1) := by decide +kernel
theorem dX13_slope_19 : decode cX13_slope 19 = .ok (.iaload, 1) := by decide +kernel
theorem dX13_slope_20 : decode cX13_slope 20 = .ok (.invokestatic 99, 3) := by decide +kernel
theorem dX13_slope_23 : decode cX13_slope 23 = .ok (.ireturn, 1) := by decide +kernel
set_option maxRecDepth 20000 in
theorem ggX13_isFront_X13_slope : GoodIn wsX13_isFront wsX13_slope := goodIn_ca (goodIn_r _ [6, 1, 7, 8, 5, 9, 10, 11, 12, 13, 14, 15, 16, 17, 18, 19, 20, 21, 22, 23, 24, 25, 26, 27, 28, 29, 30, 31, 32, 33] (by decide +kernel) (by decide +kernel)) (goodIn_sub (fun _ h => List.mem_cons_of_mem _ (List.mem_append_right _ h)) (by decide +kernel))
set_option maxRecDepth 20000 in
theorem gX13_isFront_X13_slope : GoodIn wsX13_isFront (wsV RX13 103 RX13 yX13_slope wsX13_slope) := goodIn_app (goodIn_of _ (by decide +kernel)) ggX13_isFront_X13_slope
theorem dX13_isFront_0 : decode cX13_isFront 0 = .ok (.aload_n 0, 1) := by decide +kernel
theorem dX13_isFront_1 : decode cX13_isFront 1 = .ok (.iload_n 1, 1) := by decide +kernel
theorem dX13_isFront_2 : decode cX13_isFront 2 = .ok (.iload_n 2, 1) := by decide +kernel
theorem dX13_isFront_3 : decode cX13_isFront 3 = .ok (.invokevirtual 103, 3) := by decide +kernel
theorem dX13_isFront_6 : decode cX13_isFront 6 = .ok (.aload_n 0, 1) := by decide +kernel
theorem dX13_isFront_7 : decode cX13_isFront 7 = .ok (.getfield 7, 3) := by decide +kernel
theorem dX13_isFront_10 : decode cX13_isFront 10 = .ok (.iconst 2, 1) := by decide +kernel
theorem dX13_isFront_11 : decode cX13_isFront 11 = .ok (.iaload, 1) := by decide +kernel
theorem dX13_isFront_12 : decode cX13_isFront 12 = .ok (.if_icmp .lt 7, 3) := by decide +kernel
theorem dX13_isFront_15 : decode cX13_isFront 15 = .ok (.iconst 1, 1) := by decide +kernel
theorem dX13_isFront_16 : decode cX13_isFront 16 = .ok (.goto 4, 3) := by decide +kernel
theorem dX13_isFront_19 : decode cX13_isFront 19 = .ok (.iconst 0, 1) := by decide +kernel
theorem dX13_isFront_20 : decode cX13_isFront 20 = .ok (.ireturn, 1) := by decide +kernel
set_option maxRecDepth 20000 in
theorem ggX13_isFrontRight_X13_isCell : GoodIn wsX13_isFrontRight wsX13_isCell := goodIn_r _ [4, 5, 6, 3, 7] (by decide +kernel) (by decide +kernel)
set_option maxRecDepth 20000 in
theorem gX13_isFrontRight_X13_isCell : GoodIn wsX13_isFrontRight (va_wsS RX13 76 yX13_isCell wsX13_isCell) := goodIn_app (goodIn_of _ (by decide +kernel)) ggX13_isFrontRight_X13_isCell
set_option maxRecDepth 20000 in
theorem ggX13_isFrontRight_X13_fails : GoodIn wsX13_isFrontRight wsX13_fails := goodIn_r _ [11, 12, 25, 26, 27, 28, 29, 30, 31, 32, 33, 34, 35, 36, 37, 38, 39, 40, 41, 42, 43, 44, 45, 46, 47, 48] (by decide +kernel) (by decide +kernel)
set_option maxRecDepth 20000 in
theorem gX13_isFrontRight_X13_fails : GoodIn wsX13_isFrontRight (wsV RX13 80 RX13 yX13_fails wsX13_fails) := goodIn_app (goodIn_of _ (by decide +kernel)) ggX13_isFrontRight_X13_fails
set_option maxRecDepth 20000 in
theorem ggX13_isFrontRight_X13_isFront : GoodIn wsX13_isFrontRight wsX13_isFront := goodIn_ca (goodIn_r _ [16, 17, 18, 19, 20, 3, 21, 22, 23, 24, 25, 26, 27, 28, 29, 30, 31, 32, 33, 34, 35, 36, 37, 38, 39, 40, 41, 42, 43, 44, 45, 46, 47, 48] (by decide +kernel) (by decide +kernel)) (goodIn_sub (fun _ h => List.mem_cons_of_mem _ (List.mem_append_right _ h)) (by decide +kernel))
set_option maxRecDepth 20000 in
theorem gX13_isFrontRight_X13_isFront : GoodIn wsX13_isFrontRight (wsV RX13 106 RX13 yX13_isFront wsX13_isFront) := goodIn_app (goodIn_of _ (by decide +kernel)) ggX13_isFrontRight_X13_isFront
theorem dX13_isFrontRight_0 : decode cX13_isFrontRight 0 = .ok (.aload_n 0, 1) := by decide +kernel
theorem dX13_isFrontRight_1 : decode cX13_isFrontRight 1 = .ok (.iload_n 1, 1) := by decide +kernel
theorem dX13_isFrontRight_2 : decode cX13_isFrontRight 2 = .ok (.iload_n 2, 1) := by decide +kernel
theorem dX13_isFrontRight_3 : decode cX13_isFrontRight 3 = .ok (.invokestatic 76, 3) := by decide +kernel
theorem dX13_isFrontRight_6 : decode cX13_isFrontRight 6 = .ok (.ifCond .ne 7, 3) := by decide +kernel
theorem dX13_isFrontRight_9 : decode cX13_isFrontRight 9 = .ok (.iconst 1, 1) := by decide +kernel
theorem dX13_isFrontRight_10 : decode cX13_isFrontRight 10 = .ok (.goto 13, 3) := by decide +kernel
theorem dX13_isFrontRight_13 : decode cX13_isFrontRight 13 = .ok (.iload_n 2, 1) := by decide +kernel
theorem dX13_isFrontRight_14 : decode cX13_isFrontRight 14 = .ok (.iconst 4, 1) := by decide +kernel
theorem dX13_isFrontRight_15 : decode cX13_isFrontRight 15 = .ok (.if_icmp .ne 7, 3) := by decide +kernel
theorem dX13_isFrontRight_18 : decode cX13_isFrontRight 18 = .ok (.iconst 2, 1) := by decide +kernel
theorem dX13_isFrontRight_19 : decode cX13_isFrontRight 19 = .ok (.goto 4, 3) := by decide +kernel
theorem dX13_isFrontRight_22 : decode cX13_isFrontRight 22 = .ok (.iconst 0, 1) := by decide +kernel
theorem dX13_isFrontRight_23 : decode cX13_isFrontRight 23 = .ok (.invokevirtual 80, 3) := by decide +kernel
theorem dX13_isFrontRight_26 : decode cX13_isFrontRight 26 = .ok (.ifCond .ne 20, 3) := by decide +kernel
theorem dX13_isFrontRight_29 : decode cX13_isFrontRight 29 = .ok (.aload_n 0, 1) := by decide +kernel
theorem dX13_isFrontRight_30 : decode cX13_isFrontRight 30 = .ok (.iconst 5, 1) := by decide +kernel
theorem dX13_isFrontRight_31 : decode cX13_isFrontRight 31 = .ok (.iload_n 1, 1) := by decide +kernel
theorem dX13_isFrontRight_32 : decode cX13_isFrontRight 32 = .ok (.imul, 1) := by decide +kernel
theorem dX13_isFrontRight_33 : decode cX13_isFrontRight 33 = .ok (.iload_n 2, 1) := by decide +kernel
theorem dX13_isFrontRight_34 : decode cX13_isFrontRight 34 = .ok (.iadd, 1) := by decide +kernel
theorem dX13_isFrontRight_35 : decode cX13_isFrontRight 35 = .ok (.iconst 1, 1) := by decide +kernel
theorem dX13_isFrontRight_36 : decode cX13_isFrontRight 36 = .ok (.invokevirtual 106, 3) := by decide +kernel
theorem dX13_isFrontRight_39 : decode cX13_isFrontRight 39 = .ok (.ifCond .eq 7, 3) := by decide +kernel
theorem dX13_isFrontRight_42 : decode cX13_isFrontRight 42 = .ok (.iconst 1, 1) := by decide +kernel
theorem dX13_isFrontRight_43 : decode cX13_isFrontRight 43 = .ok (.goto 4, 3) := by decide +kernel
theorem dX13_isFrontRight_46 : decode cX13_isFrontRight 46 = .ok (.iconst 0, 1) := by decide +kernel
theorem dX13_isFrontRight_47 : decode cX13_isFrontRight 47 = .ok (.ireturn, 1) := by decide +kernel
set_option maxRecDepth 20000 in
theorem ggX13_isFrontBelow_X13_isCell : GoodIn wsX13_isFrontBelow wsX13_isCell := goodIn_r _ [4, 5, 6, 3, 7] (by decide +kernel) (by decide +kernel)
set_option maxRecDepth 20000 in
theorem gX13_isFrontBelow_X13_isCell : GoodIn wsX13_isFrontBelow (va_wsS RX13 76 yX13_isCell wsX13_isCell) := goodIn_app (goodIn_of _ (by decide +kernel)) ggX13_isFrontBelow_X13_isCell
set_option maxRecDepth 20000 in
theorem ggX13_isFrontBelow_X13_fails : GoodIn wsX13_isFrontBelow wsX13_fails := goodIn_r _ [11, 12, 25, 26, 27, 28, 29, 30, 31, 32, 33, 34, 35, 36, 37, 38, 39, 40, 41, 42, 43, 44, 45, 46, 47, 48] (by decide +kernel) (by decide +kernel)
set_option maxRecDepth 20000 in
theorem gX13_isFrontBelow_X13_fails : GoodIn wsX13_isFrontBelow (wsV RX13 80 RX13 yX13_fails wsX13_fails) := goodIn_app (goodIn_of _ (by decide +kernel)) ggX13_isFrontBelow_X13_fails
set_option maxRecDepth 20000 in
theorem ggX13_isFrontBelow_X13_isFront : GoodIn wsX13_isFrontBelow wsX13_isFront := goodIn_ca (goodIn_r _ [16, 17, 18, 19, 20, 3, 21, 22, 23, 24, 25, 26, 27, 28, 29, 30, 31, 32, 33, 34, 35, 36, 37, 38, 39, 40, 41, 42, 43, 44, 45, 46, 47, 48] (by decide +kernel) (by decide +kernel)) (goodIn_sub (fun _ h => List.mem_cons_of_mem _ (List.mem_append_right _ h)) (by decide +kernel))
set_option maxRecDepth 20000 in
theorem gX13_isFrontBelow_X13_isFront : GoodIn wsX13_isFrontBelow (wsV RX13 106 RX13 yX13_isFront wsX13_isFront) := goodIn_app (goodIn_of _ (by decide +kernel)) ggX13_isFrontBelow_X13_isFront
theorem dX13_isFrontBelow_0 : decode cX13_isFrontBelow 0 = .ok (.aload_n 0, 1) := by decide +kernel
theorem dX13_isFrontBelow_1 : decode cX13_isFrontBelow 1 = .ok (.iload_n 1, 1) := by decide +kernel
theorem dX13_isFrontBelow_2 : decode cX13_isFrontBelow 2 = .ok (.iload_n 2, 1) := by decide +kernel
theorem dX13_isFrontBelow_3 : decode cX13_isFrontBelow 3 = .ok (.invokestatic 76, 3) := by decide +kernel
theorem dX13_isFrontBelow_6 : decode cX13_isFrontBelow 6 = .ok (.ifCond .ne 7, 3) := by decide +kernel
theorem dX13_isFrontBelow_9 : decode cX13_isFrontBelow 9 = .ok (.iconst 1, 1) := by decide +kernel
theorem dX13_isFrontBelow_10 : decode cX13_isFrontBelow 10 = .ok (.goto 13, 3) := by decide +kernel
theorem dX13_isFrontBelow_13 : decode cX13_isFrontBelow 13 = .ok (.iload_n 1, 1) := by decide +kernel
theorem dX13_isFrontBelow_14 : decode cX13_isFrontBelow 14 = .ok (.iconst 4, 1) := by decide +kernel
theorem dX13_isFrontBelow_15 : decode cX13_isFrontBelow 15 = .ok (.if_icmp .ne 7, 3) := by decide +kernel
theorem dX13_isFrontBelow_18 : decode cX13_isFrontBelow 18 = .ok (.iconst 2, 1) := by decide +kernel
theorem dX13_isFrontBelow_19 : decode cX13_isFrontBelow 19 = .ok (.goto 4, 3) := by decide +kernel
theorem dX13_isFrontBelow_22 : decode cX13_isFrontBelow 22 = .ok (.iconst 0, 1) := by decide +kernel
theorem dX13_isFrontBelow_23 : decode cX13_isFrontBelow 23 = .ok (.invokevirtual 80, 3) := by decide +kernel
theorem dX13_isFrontBelow_26 : decode cX13_isFrontBelow 26 = .ok (.ifCond .ne 20, 3) := by decide +kernel
theorem dX13_isFrontBelow_29 : decode cX13_isFrontBelow 29 = .ok (.aload_n 0, 1) := by decide +kernel
theorem dX13_isFrontBelow_30 : decode cX13_isFrontBelow 30 = .ok (.iconst 5, 1) := by decide +kernel
theorem dX13_isFrontBelow_31 : decode cX13_isFrontBelow 31 = .ok (.iload_n 1, 1) := by decide +kernel
theorem dX13_isFrontBelow_32 : decode cX13_isFrontBelow 32 = .ok (.imul, 1) := by decide +kernel
theorem dX13_isFrontBelow_33 : decode cX13_isFrontBelow 33 = .ok (.iload_n 2, 1) := by decide +kernel
theorem dX13_isFrontBelow_34 : decode cX13_isFrontBelow 34 = .ok (.iadd, 1) := by decide +kernel
theorem dX13_isFrontBelow_35 : decode cX13_isFrontBelow 35 = .ok (.iconst 5, 1) := by decide +kernel
theorem dX13_isFrontBelow_36 : decode cX13_isFrontBelow 36 = .ok (.invokevirtual 106, 3) := by decide +kernel
theorem dX13_isFrontBelow_39 : decode cX13_isFrontBelow 39 = .ok (.ifCond .eq 7, 3) := by decide +kernel
theorem dX13_isFrontBelow_42 : decode cX13_isFrontBelow 42 = .ok (.iconst 1, 1) := by decide +kernel
theorem dX13_isFrontBelow_43 : decode cX13_isFrontBelow 43 = .ok (.goto 4, 3) := by decide +kernel
theorem dX13_isFrontBelow_46 : decode cX13_isFrontBelow 46 = .ok (.iconst 0, 1) := by decide +kernel
theorem dX13_isFrontBelow_47 : decode cX13_isFrontBelow 47 = .ok (.ireturn, 1) := by decide +kernel
set_option maxRecDepth 20000 in
theorem ggX13_frontCount_X13_isFront : GoodIn wsX13_frontCount wsX13_isFront := goodIn_ca (goodIn_r _ [6, 7, 8, 9, 10, 5, 11, 12, 13, 14, 15, 16, 17, 18, 19, 20, 21, 22, 23, 24, 25, 26, 27, 28, 29, 30, 31, 32, 33, 34, 35, 36, 37, 38] (by decide +kernel) (by decide +kernel)) (goodIn_sub (fun _ h => List.mem_cons_of_mem _ (List.mem_append_right _ h)) (by decide +kernel))
set_option maxRecDepth 20000 in
theorem gX13_frontCount_X13_isFront : GoodIn wsX13_frontCount (wsV RX13 106 RX13 yX13_isFront wsX13_isFront) := goodIn_app (goodIn_of _ (by decide +kernel)) ggX13_frontCount_X13_isFront
theorem dX13_frontCount_0 : decode cX13_frontCount 0 = .ok (.aload_n 0, 1) := by decide +kernel
theorem dX13_frontCount_1 : decode cX13_frontCount 1 = .ok (.iconst 0, 1) := by decide +kernel
theorem dX13_frontCount_2 : decode cX13_frontCount 2 = .ok (.putfield 58, 3) := by decide +kernel
theorem dX13_frontCount_5 : decode cX13_frontCount 5 = .ok (.iconst 0, 1) := by decide +kernel
theorem dX13_frontCount_6 : decode cX13_frontCount 6 = .ok (.istore_n 1, 1) := by decide +kernel
theorem dX13_frontCount_7 : decode cX13_frontCount 7 = .ok (.iconst 0, 1) := by decide +kernel
theorem dX13_frontCount_8 : decode cX13_frontCount 8 = .ok (.istore_n 2, 1) := by decide +kernel
theorem dX13_frontCount_9 : decode cX13_frontCount 9 = .ok (.iload_n 2, 1) := by decide +kernel
theorem dX13_frontCount_10 : decode cX13_frontCount 10 = .ok (.bipush 25, 2) := by decide +kernel
theorem dX13_frontCount_12 : decode cX13_frontCount 12 = .ok (.if_icmp .ge 54, 3) := by decide +kernel
theorem dX13_frontCount_15 : decode cX13_frontCount 15 = .ok (.iload_n 1, 1) := by decide +kernel
theorem dX13_frontCount_16 : decode cX13_frontCount 16 = .ok (.iload_n 2, 1) := by decide +kernel
theorem dX13_frontCount_17 : decode cX13_frontCount 17 = .ok (.iconst 5, 1) := by decide +kernel
theorem dX13_frontCount_18 : decode cX13_frontCount 18 = .ok (.irem, 1) := by decide +kernel
theorem dX13_frontCount_19 : decode cX13_frontCount 19 = .ok (.iconst 4, 1) := by decide +kernel
theorem dX13_frontCount_20 : decode cX13_frontCount 20 = .ok (.if_icmp .ge 16, 3) := by decide +kernel
theorem dX13_frontCount_23 : decode cX13_frontCount 23 = .ok (.aload_n 0, 1) := by decide +kernel
theorem dX13_frontCount_24 : decode cX13_frontCount 24 = .ok (.iload_n 2, 1) := by decide +kernel
theorem dX13_frontCount_25 : decode cX13_frontCount 25 = .ok (.iconst 1, 1) := by decide +kernel
theorem dX13_frontCount_26 : decode cX13_frontCount 26 = .ok (.invokevirtual 106, 3) := by decide +kernel
theorem dX13_frontCount_29 : decode cX13_frontCount 29 = .ok (.ifCond .eq 7, 3) := by decide +kernel
theorem dX13_frontCount_32 : decode cX13_frontCount 32 = .ok (.iconst 1, 1) := by decide +kernel
theorem dX13_frontCount_33 : decode cX13_frontCount 33 = .ok (.goto 4, 3) := by decide +kernel
theorem dX13_frontCount_36 : decode cX13_frontCount 36 = .ok (.iconst 0, 1) := by decide +kernel
theorem dX13_frontCount_37 : decode cX13_frontCount 37 = .ok (.iload_n 2, 1) := by decide +kernel
theorem dX13_frontCount_38 : decode cX13_frontCount 38 = .ok (.bipush 20, 2) := by decide +kernel
theorem dX13_frontCount_40 : decode cX13_frontCount 40 = .ok (.if_icmp .ge 16, 3) := by decide +kernel
theorem dX13_frontCount_43 : decode cX13_frontCount 43 = .ok (.aload_n 0, 1) := by decide +kernel
theorem dX13_frontCount_44 : decode cX13_frontCount 44 = .ok (.iload_n 2, 1) := by decide +kernel
theorem dX13_frontCount_45 : decode cX13_frontCount 45 = .ok (.iconst 5, 1) := by decide +kernel
theorem dX13_frontCount_46 : decode cX13_frontCount 46 = .ok (.invokevirtual 106, 3) := by decide +kernel
theorem dX13_frontCount_49 : decode cX13_frontCount 49 = .ok (.ifCond .eq 7, 3) := by decide +kernel
theorem dX13_frontCount_52 : decode cX13_frontCount 52 = .ok (.iconst 1, 1) := by decide +kernel
theorem dX13_frontCount_53 : decode cX13_frontCount 53 = .ok (.goto 4, 3) := by decide +kernel
theorem dX13_frontCount_56 : decode cX13_frontCount 56 = .ok (.iconst 0, 1) := by decide +kernel
theorem dX13_frontCount_57 : decode cX13_frontCount 57 = .ok (.iadd, 1) := by decide +kernel
theorem dX13_frontCount_58 : decode cX13_frontCount 58 = .ok (.iadd, 1) := by decide +kernel
theorem dX13_frontCount_59 : decode cX13_frontCount 59 = .ok (.istore_n 1, 1) := by decide +kernel
theorem dX13_frontCount_60 : decode cX13_frontCount 60 = .ok (.iinc 2 1, 3) := by decide +kernel
theorem dX13_frontCount_63 : decode cX13_frontCount 63 = .ok (.goto (-54), 3) := by decide +kernel
theorem dX13_frontCount_66 : decode cX13_frontCount 66 = .ok (.iload_n 1, 1) := by decide +kernel
theorem dX13_frontCount_67 : decode cX13_frontCount 67 = .ok (.ireturn, 1) := by decide +kernel
set_option maxRecDepth 20000 in
theorem ggX13_steepest_X13_slope : GoodIn wsX13_steepest wsX13_slope := goodIn_ca (goodIn_r _ [6, 7, 8, 9, 5, 10, 11, 12, 13, 14, 15, 16, 17, 18, 19, 20, 21, 22, 23, 24, 25, 26, 27, 28, 29, 30, 31, 32, 33, 34] (by decide +kernel) (by decide +kernel)) (goodIn_sub (fun _ h => List.mem_cons_of_mem _ (List.mem_append_right _ h)) (by decide +kernel))
set_option maxRecDepth 20000 in
theorem gX13_steepest_X13_slope : GoodIn wsX13_steepest (wsV RX13 103 RX13 yX13_slope wsX13_slope) := goodIn_app (goodIn_of _ (by decide +kernel)) ggX13_steepest_X13_slope
theorem dX13_steepest_0 : decode cX13_steepest 0 = .ok (.aload_n 0, 1) := by decide +kernel
theorem dX13_steepest_1 : decode cX13_steepest 1 = .ok (.iconst 0, 1) := by decide +kernel
theorem dX13_steepest_2 : decode cX13_steepest 2 = .ok (.putfield 58, 3) := by decide +kernel
theorem dX13_steepest_5 : decode cX13_steepest 5 = .ok (.iconst 0, 1) := by decide +kernel
theorem dX13_steepest_6 : decode cX13_steepest 6 = .ok (.istore_n 1, 1) := by decide +kernel
theorem dX13_steepest_7 : decode cX13_steepest 7 = .ok (.iconst 0, 1) := by decide +kernel
theorem dX13_steepest_8 : decode cX13_steepest 8 = .ok (.istore_n 2, 1) := by decide +kernel
theorem dX13_steepest_9 : decode cX13_steepest 9 = .ok (.iload_n 2, 1) := by decide +kernel
theorem dX13_steepest_10 : decode cX13_steepest 10 = .ok (.bipush 25, 2) := by decide +kernel
theorem dX13_steepest_12 : decode cX13_steepest 12 = .ok (.if_icmp .ge 56, 3) := by decide +kernel
theorem dX13_steepest_15 : decode cX13_steepest 15 = .ok (.iload_n 2, 1) := by decide +kernel
theorem dX13_steepest_16 : decode cX13_steepest 16 = .ok (.iconst 5, 1) := by decide +kernel
theorem dX13_steepest_17 : decode cX13_steepest 17 = .ok (.irem, 1) := by decide +kernel
theorem dX13_steepest_18 : decode cX13_steepest 18 = .ok (.iconst 4, 1) := by decide +kernel
theorem dX13_steepest_19 : decode cX13_steepest 19 = .ok (.if_icmp .ge 20, 3) := by decide +kernel
theorem dX13_steepest_22 : decode cX13_steepest 22 = .ok (.aload_n 0, 1) := by decide +kernel
theorem dX13_steepest_23 : decode cX13_steepest 23 = .ok (.iload_n 2, 1) := by decide +kernel
theorem dX13_steepest_24 : decode cX13_steepest 24 = .ok (.iconst 1, 1) := by decide +kernel
theorem dX13_steepest_25 : decode cX13_steepest 25 = .ok (.invokevirtual 103, 3) := by decide +kernel
theorem dX13_steepest_28 : decode cX13_steepest 28 = .ok (.iload_n 1, 1) := by decide +kernel
theorem dX13_steepest_29 : decode cX13_steepest 29 = .ok (.if_icmp .le 10, 3) := by decide +kernel
theorem dX13_steepest_32 : decode cX13_steepest 32 = .ok (.aload_n 0, 1) := by decide +kernel
theorem dX13_steepest_33 : decode cX13_steepest 33 = .ok (.iload_n 2, 1) := by decide +kernel
theorem dX13_steepest_34 : decode cX13_steepest 34 = .ok (.iconst 1, 1) := by decide +kernel
theorem dX13_steepest_35 : decode cX13_steepest 35 = .ok (.invokevirtual 103, 3) := by decide +kernel
theorem dX13_steepest_38 : decode cX13_steepest 38 = .ok (.istore_n 1, 1) := by decide +kernel
theorem dX13_steepest_39 : decode cX13_steepest 39 = .ok (.iload_n 2, 1) := by decide +kernel
theorem dX13_steepest_40 : decode cX13_steepest 40 = .ok (.bipush 20, 2) := by decide +kernel
theorem dX13_steepest_42 : decode cX13_steepest 42 = .ok (.if_icmp .ge 20, 3) := by decide +kernel
theorem dX13_steepest_45 : decode cX13_steepest 45 = .ok (.aload_n 0, 1) := by decide +kernel
theorem dX13_steepest_46 : decode cX13_steepest 46 = .ok (.iload_n 2, 1) := by decide +kernel
theorem dX13_steepest_47 : decode cX13_steepest 47 = .ok (.iconst 5, 1) := by decide +kernel
theorem dX13_steepest_48 : decode cX13_steepest 48 = .ok (.invokevirtual 103, 3) := by decide +kernel
theorem dX13_steepest_51 : decode cX13_steepest 51 = .ok (.iload_n 1, 1) := by decide +kernel
theorem dX13_steepest_52 : decode cX13_steepest 52 = .ok (.if_icmp .le 10, 3) := by decide +kernel
theorem dX13_steepest_55 : decode cX13_steepest 55 = .ok (.aload_n 0, 1) := by decide +kernel
theorem dX13_steepest_56 : decode cX13_steepest 56 = .ok (.iload_n 2, 1) := by decide +kernel
theorem dX13_steepest_57 : decode cX13_steepest 57 = .ok (.iconst 5, 1) := by decide +kernel
theorem dX13_steepest_58 : decode cX13_steepest 58 = .ok (.invokevirtual 103, 3) := by decide +kernel
theorem dX13_steepest_61 : decode cX13_steepest 61 = .ok (.istore_n 1, 1) := by decide +kernel
theorem dX13_steepest_62 : decode cX13_steepest 62 = .ok (.iinc 2 1, 3) := by decide +kernel
theorem dX13_steepest_65 : decode cX13_steepest 65 = .ok (.goto (-56), 3) := by decide +kernel
theorem dX13_steepest_68 : decode cX13_steepest 68 = .ok (.iload_n 1, 1) := by decide +kernel
theorem dX13_steepest_69 : decode cX13_steepest 69 = .ok (.ireturn, 1) := by decide +kernel
theorem dX13_joins_0 : decode cX13_joins 0 = .ok (.aload_n 0, 1) := by decide +kernel
theorem dX13_joins_1 : decode cX13_joins 1 = .ok (.getfield 25, 3) := by decide +kernel
theorem dX13_joins_4 : decode cX13_joins 4 = .ok (.iload_n 1, 1) := by decide +kernel
theorem dX13_joins_5 : decode cX13_joins 5 = .ok (.iaload, 1) := by decide +kernel
theorem dX13_joins_6 : decode cX13_joins 6 = .ok (.istore_n 3, 1) := by decide +kernel
theorem dX13_joins_7 : decode cX13_joins 7 = .ok (.aload_n 0, 1) := by decide +kernel
theorem dX13_joins_8 : decode cX13_joins 8 = .ok (.getfield 25, 3) := by decide +kernel
theorem dX13_joins_11 : decode cX13_joins 11 = .ok (.iload_n 2, 1) := by decide +kernel
theorem dX13_joins_12 : decode cX13_joins 12 = .ok (.iaload, 1) := by decide +kernel
theorem dX13_joins_13 : decode cX13_joins 13 = .ok (.istore 4, 2) := by decide +kernel
theorem dX13_joins_15 : decode cX13_joins 15 = .ok (.iconst 0, 1) := by decide +kernel
theorem dX13_joins_16 : decode cX13_joins 16 = .ok (.istore 5, 2) := by decide +kernel
theorem dX13_joins_18 : decode cX13_joins 18 = .ok (.iload 5, 2) := by decide +kernel
theorem dX13_joins_20 : decode cX13_joins 20 = .ok (.bipush 25, 2) := by decide +kernel
theorem dX13_joins_22 : decode cX13_joins 22 = .ok (.if_icmp .ge 29, 3) := by decide +kernel
theorem dX13_joins_25 : decode cX13_joins 25 = .ok (.aload_n 0, 1) := by decide +kernel
theorem dX13_joins_26 : decode cX13_joins 26 = .ok (.getfield 25, 3) := by decide +kernel
theorem dX13_joins_29 : decode cX13_joins 29 = .ok (.iload 5, 2) := by decide +kernel
theorem dX13_joins_31 : decode cX13_joins 31 = .ok (.iaload, 1) := by decide +kernel
theorem dX13_joins_32 : decode cX13_joins 32 = .ok (.iload_n 3, 1) := by decide +kernel
theorem dX13_joins_33 : decode cX13_joins 33 = .ok (.if_icmp .ne 12, 3) := by decide +kernel
theorem dX13_joins_36 : decode cX13_joins 36 = .ok (.aload_n 0, 1) := by decide +kernel
theorem dX13_joins_37 : decode cX13_joins 37 = .ok (.getfield 25, 3) := by decide +kernel
theorem dX13_joins_40 : decode cX13_joins 40 = .ok (.iload 5, 2) := by decide +kernel
theorem dX13_joins_42 : decode cX13_joins 42 = .ok (.iload 4, 2) := by decide +kernel
theorem dX13_joins_44 : decode cX13_joins 44 = .ok (.iastore, 1) := by decide +kernel
theorem dX13_joins_45 : decode cX13_joins 45 = .ok (.iinc 5 1, 3) := by decide +kernel
theorem dX13_joins_48 : decode cX13_joins 48 = .ok (.goto (-30), 3) := by decide +kernel
theorem dX13_joins_51 : decode cX13_joins 51 = .ok (.return_, 1) := by decide +kernel
set_option maxRecDepth 20000 in
theorem ggX13_parted_X13_isFront : GoodIn wsX13_parted wsX13_isFront := goodIn_ca (goodIn_r _ [6, 7, 8, 9, 10, 5, 11, 12, 13, 14, 19, 20, 21, 22, 23, 24, 25, 26, 27, 28, 29, 30, 31, 32, 33, 34, 35, 36, 37, 38, 39, 40, 41, 42] (by decide +kernel) (by decide +kernel)) (goodIn_sub (fun _ h => List.mem_cons_of_mem _ (List.mem_append_right _ h)) (by decide +kernel))
set_option maxRecDepth 20000 in
theorem gX13_parted_X13_isFront : GoodIn wsX13_parted (wsV RX13 106 RX13 yX13_isFront wsX13_isFront) := goodIn_app (goodIn_of _ (by decide +kernel)) ggX13_parted_X13_isFront
set_option maxRecDepth 20000 in
theorem ggX13_parted_X13_joins : GoodIn wsX13_parted wsX13_joins := goodIn_ca (goodIn_r _ [18, 1, 19, 20, 21, 22, 23, 24, 25, 26, 27, 28, 29, 30, 31, 32, 33, 34, 35, 36, 37, 38, 39, 40, 41, 42] (by decide +kernel) (by decide +kernel)) (goodIn_sub (fun _ h => List.mem_cons_of_mem _ (List.mem_append_right _ h)) (by decide +kernel))
set_option maxRecDepth 20000 in
theorem gX13_parted_X13_joins : GoodIn wsX13_parted (wsV RX13 109 RX13 yX13_joins wsX13_joins) := goodIn_app (goodIn_of _ (by decide +kernel)) ggX13_parted_X13_joins
theorem dX13_parted_0 : decode cX13_parted 0 = .ok (.iconst 0, 1) := by decide +kernel
theorem dX13_parted_1 : decode cX13_parted 1 = .ok (.istore_n 1, 1) := by decide +kernel
theorem dX13_parted_2 : decode cX13_parted 2 = .ok (.iload_n 1, 1) := by decide +kernel
theorem dX13_parted_3 : decode cX13_parted 3 = .ok (.bipush 25, 2) := by decide +kernel
theorem dX13_parted_5 : decode cX13_parted 5 = .ok (.if_icmp .ge 16, 3) := by decide +kernel
theorem dX13_parted_8 : decode cX13_parted 8 = .ok (.aload_n 0, 1) := by decide +kernel
theorem dX13_parted_9 : decode cX13_parted 9 = .ok (.getfield 25, 3) := by decide +kernel
theorem dX13_parted_12 : decode cX13_parted 12 = .ok (.iload_n 1, 1) := by decide +kernel
theorem dX13_parted_13 : decode cX13_parted 13 = .ok (.iload_n 1, 1) := by decide +kernel
theorem dX13_parted_14 : decode cX13_parted 14 = .ok (.iastore, 1) := by decide +kernel
theorem dX13_parted_15 : decode cX13_parted 15 = .ok (.iinc 1 1, 3) := by decide +kernel
theorem dX13_parted_18 : decode cX13_parted 18 = .ok (.goto (-16), 3) := by decide +kernel
theorem dX13_parted_21 : decode cX13_parted 21 = .ok (.iconst 0, 1) := by decide +kernel
theorem dX13_parted_22 : decode cX13_parted 22 = .ok (.istore_n 1, 1) := by decide +kernel
theorem dX13_parted_23 : decode cX13_parted 23 = .ok (.iload_n 1, 1) := by decide +kernel
theorem dX13_parted_24 : decode cX13_parted 24 = .ok (.bipush 25, 2) := by decide +kernel
theorem dX13_parted_26 : decode cX13_parted 26 = .ok (.if_icmp .ge 56, 3) := by decide +kernel
theorem dX13_parted_29 : decode cX13_parted 29 = .ok (.iload_n 1, 1) := by decide +kernel
theorem dX13_parted_30 : decode cX13_parted 30 = .ok (.iconst 5, 1) := by decide +kernel
theorem dX13_parted_31 : decode cX13_parted 31 = .ok (.irem, 1) := by decide +kernel
theorem dX13_parted_32 : decode cX13_parted 32 = .ok (.iconst 4, 1) := by decide +kernel
theorem dX13_parted_33 : decode cX13_parted 33 = .ok (.if_icmp .ge 20, 3) := by decide +kernel
theorem dX13_parted_36 : decode cX13_parted 36 = .ok (.aload_n 0, 1) := by decide +kernel
theorem dX13_parted_37 : decode cX13_parted 37 = .ok (.iload_n 1, 1) := by decide +kernel
theorem dX13_parted_38 : decode cX13_parted 38 = .ok (.iconst 1, 1) := by decide +kernel
theorem dX13_parted_39 : decode cX13_parted 39 = .ok (.invokevirtual 106, 3) := by decide +kernel
theorem dX13_parted_42 : decode cX13_parted 42 = .ok (.ifCond .ne 11, 3) := by decide +kernel
theorem dX13_parted_45 : decode cX13_parted 45 = .ok (.aload_n 0, 1) := by decide +kernel
theorem dX13_parted_46 : decode cX13_parted 46 = .ok (.iload_n 1, 1) := by decide +kernel
theorem dX13_parted_47 : decode cX13_parted 47 = .ok (.iload_n 1, 1) := by decide +kernel
theorem dX13_parted_48 : decode cX13_parted 48 = .ok (.iconst 1, 1) := by decide +kernel
theorem dX13_parted_49 : decode cX13_parted 49 = .ok (.iadd, 1) := by decide +kernel
theorem dX13_parted_50 : decode cX13_parted 50 = .ok (.invokevirtual 109, 3) := by decide +kernel
theorem dX13_parted_53 : decode cX13_parted 53 = .ok (.iload_n 1, 1) := by decide +kernel
theorem dX13_parted_54 : decode cX13_parted 54 = .ok (.bipush 20, 2) := by decide +kernel
theorem dX13_parted_56 : decode cX13_parted 56 = .ok (.if_icmp .ge 20, 3) := by decide +kernel
theorem dX13_parted_59 : decode cX13_parted 59 = .ok (.aload_n 0, 1) := by decide +kernel
theorem dX13_parted_60 : decode cX13_parted 60 = .ok (.iload_n 1, 1) := by decide +kernel
theorem dX13_parted_61 : decode cX13_parted 61 = .ok (.iconst 5, 1) := by decide +kernel
theorem dX13_parted_62 : decode cX13_parted 62 = .ok (.invokevirtual 106, 3) := by decide +kernel
theorem dX13_parted_65 : decode cX13_parted 65 = .ok (.ifCond .ne 11, 3) := by decide +kernel
theorem dX13_parted_68 : decode cX13_parted 68 = .ok (.aload_n 0, 1) := by decide +kernel
theorem dX13_parted_69 : decode cX13_parted 69 = .ok (.iload_n 1, 1) := by decide +kernel
theorem dX13_parted_70 : decode cX13_parted 70 = .ok (.iload_n 1, 1) := by decide +kernel
theorem dX13_parted_71 : decode cX13_parted 71 = .ok (.iconst 5, 1) := by decide +kernel
theorem dX13_parted_72 : decode cX13_parted 72 = .ok (.iadd, 1) := by decide +kernel
theorem dX13_parted_73 : decode cX13_parted 73 = .ok (.invokevirtual 109, 3) := by decide +kernel
theorem dX13_parted_76 : decode cX13_parted 76 = .ok (.iinc 1 1, 3) := by decide +kernel
theorem dX13_parted_79 : decode cX13_parted 79 = .ok (.goto (-56), 3) := by decide +kernel
theorem dX13_parted_82 : decode cX13_parted 82 = .ok (.return_, 1) := by decide +kernel
set_option maxRecDepth 20000 in
theorem ggX13_regions_X13_parted : GoodIn wsX13_regions wsX13_parted := goodIn_ca (goodIn_r _ [6, 1, 7, 8, 9, 5, 10, 11, 12, 13, 14, 15, 16, 17, 18, 19, 20, 21, 22, 23, 24, 25, 26, 27, 28, 29, 30, 31, 32, 33, 34, 35, 36, 37, 38, 39, 40, 41, 42, 43, 44, 45, 46] (by decide +kernel) (by decide +kernel)) (goodIn_sub (fun _ h => List.mem_cons_of_mem _ (List.mem_append_right _ h)) (by decide +kernel))
set_option maxRecDepth 20000 in
theorem gX13_regions_X13_parted : GoodIn wsX13_regions (wsV RX13 113 RX13 yX13_parted wsX13_parted) := goodIn_app (goodIn_of _ (by decide +kernel)) ggX13_regions_X13_parted
theorem dX13_regions_0 : decode cX13_regions 0 = .ok (.aload_n 0, 1) := by decide +kernel
theorem dX13_regions_1 : decode cX13_regions 1 = .ok (.invokevirtual 113, 3) := by decide +kernel
theorem dX13_regions_4 : decode cX13_regions 4 = .ok (.iconst 0, 1) := by decide +kernel
theorem dX13_regions_5 : decode cX13_regions 5 = .ok (.istore_n 1, 1) := by decide +kernel
theorem dX13_regions_6 : decode cX13_regions 6 = .ok (.iconst 0, 1) := by decide +kernel
theorem dX13_regions_7 : decode cX13_regions 7 = .ok (.istore_n 2, 1) := by decide +kernel
theorem dX13_regions_8 : decode cX13_regions 8 = .ok (.iload_n 2, 1) := by decide +kernel
theorem dX13_regions_9 : decode cX13_regions 9 = .ok (.bipush 25, 2) := by decide +kernel
theorem dX13_regions_11 : decode cX13_regions 11 = .ok (.if_icmp .ge 27, 3) := by decide +kernel
theorem dX13_regions_14 : decode cX13_regions 14 = .ok (.iload_n 1, 1) := by decide +kernel
theorem dX13_regions_15 : decode cX13_regions 15 = .ok (.aload_n 0, 1) := by decide +kernel
theorem dX13_regions_16 : decode cX13_regions 16 = .ok (.getfield 25, 3) := by decide +kernel
theorem dX13_regions_19 : decode cX13_regions 19 = .ok (.iload_n 2, 1) := by decide +kernel
theorem dX13_regions_20 : decode cX13_regions 20 = .ok (.iaload, 1) := by decide +kernel
theorem dX13_regions_21 : decode cX13_regions 21 = .ok (.iload_n 2, 1) := by decide +kernel
theorem dX13_regions_22 : decode cX13_regions 22 = .ok (.if_icmp .ne 7, 3) := by decide +kernel
theorem dX13_regions_25 : decode cX13_regions 25 = .ok (.iconst 1, 1) := by decide +kernel
theorem dX13_regions_26 : decode cX13_regions 26 = .ok (.goto 4, 3) := by decide +kernel
theorem dX13_regions_29 : decode cX13_regions 29 = .ok (.iconst 0, 1) := by decide +kernel
theorem dX13_regions_30 : decode cX13_regions 30 = .ok (.iadd, 1) := by decide +kernel
theorem dX13_regions_31 : decode cX13_regions 31 = .ok (.istore_n 1, 1) := by decide +kernel
theorem dX13_regions_32 : decode cX13_regions 32 = .ok (.iinc 2 1, 3) := by decide +kernel
theorem dX13_regions_35 : decode cX13_regions 35 = .ok (.goto (-27), 3) := by decide +kernel
theorem dX13_regions_38 : decode cX13_regions 38 = .ok (.iload_n 1, 1) := by decide +kernel
theorem dX13_regions_39 : decode cX13_regions 39 = .ok (.ireturn, 1) := by decide +kernel
set_option maxRecDepth 20000 in
theorem ggX13_regionCount_X13_regions : GoodIn wsX13_regionCount wsX13_regions := goodIn_ca (goodIn_r _ [6, 7, 8, 9, 10, 5, 11, 12, 13, 14, 15, 16, 17, 18, 19, 20, 21, 22, 23, 24, 25, 26, 27, 28, 29, 30, 31, 32, 33, 34, 35, 36, 37, 38, 39, 40, 41, 42, 43, 44, 45, 46, 47, 48, 49, 50, 51] (by decide +kernel) (by decide +kernel)) (goodIn_sub (fun _ h => List.mem_cons_of_mem _ (List.mem_append_right _ h)) (by decide +kernel))
set_option maxRecDepth 20000 in
theorem gX13_regionCount_X13_regions : GoodIn wsX13_regionCount (wsV RX13 116 RX13 yX13_regions wsX13_regions) := goodIn_app (goodIn_of _ (by decide +kernel)) ggX13_regionCount_X13_regions
theorem dX13_regionCount_0 : decode cX13_regionCount 0 = .ok (.aload_n 0, 1) := by decide +kernel
theorem dX13_regionCount_1 : decode cX13_regionCount 1 = .ok (.iconst 0, 1) := by decide +kernel
theorem dX13_regionCount_2 : decode cX13_regionCount 2 = .ok (.putfield 58, 3) := by decide +kernel
theorem dX13_regionCount_5 : decode cX13_regionCount 5 = .ok (.aload_n 0, 1) := by decide +kernel
theorem dX13_regionCount_6 : decode cX13_regionCount 6 = .ok (.invokevirtual 116, 3) := by decide +kernel
theorem dX13_regionCount_9 : decode cX13_regionCount 9 = .ok (.ireturn, 1) := by decide +kernel
set_option maxRecDepth 20000 in
theorem ggX13_regionCountByUnion_X13_regions : GoodIn wsX13_regionCountByUnion wsX13_regions := goodIn_ca (goodIn_r _ [6, 7, 8, 9, 10, 5, 11, 12, 13, 14, 15, 16, 17, 18, 19, 20, 21, 22, 23, 24, 25, 26, 27, 28, 29, 30, 31, 32, 33, 34, 35, 36, 37, 38, 39, 40, 41, 42, 43, 44, 45, 46, 47, 48, 49, 50, 51] (by decide +kernel) (by decide +kernel)) (goodIn_sub (fun _ h => List.mem_cons_of_mem _ (List.mem_append_right _ h)) (by decide +kernel))
set_option maxRecDepth 20000 in
theorem gX13_regionCountByUnion_X13_regions : GoodIn wsX13_regionCountByUnion (wsV RX13 116 RX13 yX13_regions wsX13_regions) := goodIn_app (goodIn_of _ (by decide +kernel)) ggX13_regionCountByUnion_X13_regions
theorem dX13_regionCountByUnion_0 : decode cX13_regionCountByUnion 0 = .ok (.aload_n 0, 1) := by decide +kernel
theorem dX13_regionCountByUnion_1 : decode cX13_regionCountByUnion 1 = .ok (.iconst 0, 1) := by decide +kernel
theorem dX13_regionCountByUnion_2 : decode cX13_regionCountByUnion 2 = .ok (.putfield 58, 3) := by decide +kernel
theorem dX13_regionCountByUnion_5 : decode cX13_regionCountByUnion 5 = .ok (.aload_n 0, 1) := by decide +kernel
theorem dX13_regionCountByUnion_6 : decode cX13_regionCountByUnion 6 = .ok (.invokevirtual 116, 3) := by decide +kernel
theorem dX13_regionCountByUnion_9 : decode cX13_regionCountByUnion 9 = .ok (.ireturn, 1) := by decide +kernel
set_option maxRecDepth 20000 in
theorem ggX13_regionSize_X13_isCell : GoodIn wsX13_regionSize wsX13_isCell := goodIn_r _ [5, 6, 7, 4, 8] (by decide +kernel) (by decide +kernel)
set_option maxRecDepth 20000 in
theorem gX13_regionSize_X13_isCell : GoodIn wsX13_regionSize (va_wsS RX13 76 yX13_isCell wsX13_isCell) := goodIn_app (goodIn_of _ (by decide +kernel)) ggX13_regionSize_X13_isCell
set_option maxRecDepth 20000 in
theorem ggX13_regionSize_X13_fails : GoodIn wsX13_regionSize wsX13_fails := goodIn_r _ [12, 13, 34, 35, 36, 37, 38, 39, 40, 41, 42, 43, 44, 45, 46, 47, 48, 49, 50, 51, 52, 53, 54, 55, 56, 57] (by decide +kernel) (by decide +kernel)
set_option maxRecDepth 20000 in
theorem gX13_regionSize_X13_fails : GoodIn wsX13_regionSize (wsV RX13 80 RX13 yX13_fails wsX13_fails) := goodIn_app (goodIn_of _ (by decide +kernel)) ggX13_regionSize_X13_fails
set_option maxRecDepth 20000 in
theorem ggX13_regionSize_X13_parted : GoodIn wsX13_regionSize wsX13_parted := goodIn_ca (goodIn_r _ [17, 1, 18, 19, 20, 4, 21, 22, 23, 24, 25, 26, 27, 28, 29, 30, 31, 32, 33, 34, 35, 36, 37, 38, 39, 40, 41, 42, 43, 44, 45, 46, 47, 48, 49, 50, 51, 52, 53, 54, 55, 56, 57] (by decide +kernel) (by decide +kernel)) (goodIn_sub (fun _ h => List.mem_cons_of_mem _ (List.mem_append_right _ h)) (by decide +kernel))
set_option maxRecDepth 20000 in
theorem gX13_regionSize_X13_parted : GoodIn wsX13_regionSize (wsV RX13 113 RX13 yX13_parted wsX13_parted) := goodIn_app (goodIn_of _ (by decide +kernel)) ggX13_regionSize_X13_parted
theorem dX13_regionSize_0 : decode cX13_regionSize 0 = .ok (.aload_n 0, 1) := by decide +kernel
theorem dX13_regionSize_1 : decode cX13_regionSize 1 = .ok (.iload_n 1, 1) := by decide +kernel
theorem dX13_regionSize_2 : decode cX13_regionSize 2 = .ok (.iload_n 2, 1) := by decide +kernel
theorem dX13_regionSize_3 : decode cX13_regionSize 3 = .ok (.invokestatic 76, 3) := by decide +kernel
theorem dX13_regionSize_6 : decode cX13_regionSize 6 = .ok (.ifCond .eq 7, 3) := by decide +kernel
theorem dX13_regionSize_9 : decode cX13_regionSize 9 = .ok (.iconst 0, 1) := by decide +kernel
theorem dX13_regionSize_10 : decode cX13_regionSize 10 = .ok (.goto 4, 3) := by decide +kernel
theorem dX13_regionSize_13 : decode cX13_regionSize 13 = .ok (.iconst 1, 1) := by decide +kernel
theorem dX13_regionSize_14 : decode cX13_regionSize 14 = .ok (.invokevirtual 80, 3) := by decide +kernel
theorem dX13_regionSize_17 : decode cX13_regionSize 17 = .ok (.ifCond .eq 5, 3) := by decide +kernel
theorem dX13_regionSize_20 : decode cX13_regionSize 20 = .ok (.iconst 0, 1) := by decide +kernel
theorem dX13_regionSize_21 : decode cX13_regionSize 21 = .ok (.ireturn, 1) := by decide +kernel
theorem dX13_regionSize_22 : decode cX13_regionSize 22 = .ok (.aload_n 0, 1) := by decide +kernel
theorem dX13_regionSize_23 : decode cX13_regionSize 23 = .ok (.invokevirtual 113, 3) := by decide +kernel
theorem dX13_regionSize_26 : decode cX13_regionSize 26 = .ok (.iconst 0, 1) := by decide +kernel
theorem dX13_regionSize_27 : decode cX13_regionSize 27 = .ok (.istore_n 3, 1) := by decide +kernel
theorem dX13_regionSize_28 : decode cX13_regionSize 28 = .ok (.iconst 0, 1) := by decide +kernel
theorem dX13_regionSize_29 : decode cX13_regionSize 29 = .ok (.istore 4, 2) := by decide +kernel
theorem dX13_regionSize_31 : decode cX13_regionSize 31 = .ok (.iload 4, 2) := by decide +kernel
theorem dX13_regionSize_33 : decode cX13_regionSize 33 = .ok (.bipush 25, 2) := by decide +kernel
theorem dX13_regionSize_35 : decode cX13_regionSize 35 = .ok (.if_icmp .ge 37, 3) := by decide +kernel
theorem dX13_regionSize_38 : decode cX13_regionSize 38 = .ok (.iload_n 3, 1) := by decide +kernel
theorem dX13_regionSize_39 : decode cX13_regionSize 39 = .ok (.aload_n 0, 1) := by decide +kernel
theorem dX13_regionSize_40 : decode cX13_regionSize 40 = .ok (.getfield 25, 3) := by decide +kernel
theorem dX13_regionSize_43 : decode cX13_regionSize 43 = .ok (.iload 4, 2) := by decide +kernel
theorem dX13_regionSize_45 : decode cX13_regionSize 45 = .ok (.iaload, 1) := by decide +kernel
theorem dX13_regionSize_46 : decode cX13_regionSize 46 = .ok (.aload_n 0, 1) := by decide +kernel
theorem dX13_regionSize_47 : decode cX13_regionSize 47 = .ok (.getfield 25, 3) := by decide +kernel
theorem dX13_regionSize_50 : decode cX13_regionSize 50 = .ok (.iconst 5, 1) := by decide +kernel
theorem dX13_regionSize_51 : decode cX13_regionSize 51 = .ok (.iload_n 1, 1) := by decide +kernel
theorem dX13_regionSize_52 : decode cX13_regionSize 52 = .ok (.imul, 1) := by decide +kernel
theorem dX13_regionSize_53 : decode cX13_regionSize 53 = .ok (.iload_n 2, 1) := by decide +kernel
theorem dX13_regionSize_54 : decode cX13_regionSize 54 = .ok (.iadd, 1) := by decide +kernel
theorem dX13_regionSize_55 : decode cX13_regionSize 55 = .ok (.iaload, 1) := by decide +kernel
theorem dX13_regionSize_56 : decode cX13_regionSize 56 = .ok (.if_icmp .ne 7, 3) := by decide +kernel
theorem dX13_regionSize_59 : decode cX13_regionSize 59 = .ok (.iconst 1, 1) := by decide +kernel
theorem dX13_regionSize_60 : decode cX13_regionSize 60 = .ok (.goto 4, 3) := by decide +kernel
theorem dX13_regionSize_63 : decode cX13_regionSize 63 = .ok (.iconst 0, 1) := by decide +kernel
theorem dX13_regionSize_64 : decode cX13_regionSize 64 = .ok (.iadd, 1) := by decide +kernel
theorem dX13_regionSize_65 : decode cX13_regionSize 65 = .ok (.istore_n 3, 1) := by decide +kernel
theorem dX13_regionSize_66 : decode cX13_regionSize 66 = .ok (.iinc 4 1, 3) := by decide +kernel
theorem dX13_regionSize_69 : decode cX13_regionSize 69 = .ok (.goto (-38), 3) := by decide +kernel
theorem dX13_regionSize_72 : decode cX13_regionSize 72 = .ok (.iload_n 3, 1) := by decide +kernel
theorem dX13_regionSize_73 : decode cX13_regionSize 73 = .ok (.ireturn, 1) := by decide +kernel
set_option maxRecDepth 20000 in
theorem ggX13_isSameRegion_X13_isCell : GoodIn wsX13_isSameRegion wsX13_isCell := goodIn_r _ [5, 6, 7, 4, 8] (by decide +kernel) (by decide +kernel)
set_option maxRecDepth 20000 in
theorem gX13_isSameRegion_X13_isCell : GoodIn wsX13_isSameRegion (va_wsS RX13 76 yX13_isCell wsX13_isCell) := goodIn_app (goodIn_of _ (by decide +kernel)) ggX13_isSameRegion_X13_isCell
set_option maxRecDepth 20000 in
theorem ggX13_isSameRegion_X13_fails : GoodIn wsX13_isSameRegion wsX13_fails := goodIn_r _ [12, 13, 34, 35, 36, 37, 38, 39, 40, 41, 42, 43, 44, 45, 46, 47, 48, 49, 50, 51, 52, 53, 54, 55, 56, 57] (by decide +kernel) (by decide +kernel)
set_option maxRecDepth 20000 in
theorem gX13_isSameRegion_X13_fails : GoodIn wsX13_isSameRegion (wsV RX13 80 RX13 yX13_fails wsX13_fails) := goodIn_app (goodIn_of _ (by decide +kernel)) ggX13_isSameRegion_X13_fails
set_option maxRecDepth 20000 in
theorem ggX13_isSameRegion_X13_parted : GoodIn wsX13_isSameRegion wsX13_parted := goodIn_ca (goodIn_r _ [17, 1, 18, 19, 20, 4, 21, 22, 23, 24, 25, 26, 27, 28, 29, 30, 31, 32, 33, 34, 35, 36, 37, 38, 39, 40, 41, 42, 43, 44, 45, 46, 47, 48, 49, 50, 51, 52, 53, 54, 55, 56, 57] (by decide +kernel) (by decide +kernel)) (goodIn_sub (fun _ h => List.mem_cons_of_mem _ (List.mem_append_right _ h)) (by decide +kernel))
set_option maxRecDepth 20000 in
theorem gX13_isSameRegion_X13_parted : GoodIn wsX13_isSameRegion (wsV RX13 113 RX13 yX13_parted wsX13_parted) := goodIn_app (goodIn_of _ (by decide +kernel)) ggX13_isSameRegion_X13_parted
theorem dX13_isSameRegion_0 : decode cX13_isSameRegion 0 = .ok (.aload_n 0, 1) := by decide +kernel
theorem dX13_isSameRegion_1 : decode cX13_isSameRegion 1 = .ok (.iload_n 1, 1) := by decide +kernel
theorem dX13_isSameRegion_2 : decode cX13_isSameRegion 2 = .ok (.iload_n 2, 1) := by decide +kernel
theorem dX13_isSameRegion_3 : decode cX13_isSameRegion 3 = .ok (.invokestatic 76, 3) := by decide +kernel
theorem dX13_isSameRegion_6 : decode cX13_isSameRegion 6 = .ok (.ifCond .eq 16, 3) := by decide +kernel
theorem dX13_isSameRegion_9 : decode cX13_isSameRegion 9 = .ok (.iload_n 3, 1) := by decide +kernel
theorem dX13_isSameRegion_10 : decode cX13_isSameRegion 10 = .ok (.iload 4, 2) := by decide +kernel
theorem dX13_isSameRegion_12 : decode cX13_isSameRegion 12 = .ok (.invokestatic 76, 3) := by decide +kernel
theorem dX13_isSameRegion_15 : decode cX13_isSameRegion 15 = .ok (.ifCond .eq 7, 3) := by decide +kernel
theorem dX13_isSameRegion_18 : decode cX13_isSameRegion 18 = .ok (.iconst 0, 1) := by decide +kernel
theorem dX13_isSameRegion_19 : decode cX13_isSameRegion 19 = .ok (.goto 4, 3) := by decide +kernel
theorem dX13_isSameRegion_22 : decode cX13_isSameRegion 22 = .ok (.iconst 1, 1) := by decide +kernel
theorem dX13_isSameRegion_23 : decode cX13_isSameRegion 23 = .ok (.invokevirtual 80, 3) := by decide +kernel
theorem dX13_isSameRegion_26 : decode cX13_isSameRegion 26 = .ok (.ifCond .eq 5, 3) := by decide +kernel
theorem dX13_isSameRegion_29 : decode cX13_isSameRegion 29 = .ok (.iconst 0, 1) := by decide +kernel
theorem dX13_isSameRegion_30 : decode cX13_isSameRegion 30 = .ok (.ireturn, 1) := by decide +kernel
theorem dX13_isSameRegion_31 : decode cX13_isSameRegion 31 = .ok (.aload_n 0, 1) := by decide +kernel
theorem dX13_isSameRegion_32 : decode cX13_isSameRegion 32 = .ok (.invokevirtual 113, 3) := by decide +kernel
theorem dX13_isSameRegion_35 : decode cX13_isSameRegion 35 = .ok (.aload_n 0, 1) := by decide +kernel
theorem dX13_isSameRegion_36 : decode cX13_isSameRegion 36 = .ok (.getfield 25, 3) := by decide +kernel
theorem dX13_isSameRegion_39 : decode cX13_isSameRegion 39 = .ok (.iconst 5, 1) := by decide +kernel
theorem dX13_isSameRegion_40 : decode cX13_isSameRegion 40 = .ok (.iload_n 1, 1) := by decide +kernel
theorem dX13_isSameRegion_41 : decode cX13_isSameRegion 41 = .ok (.imul, 1) := by decide +kernel
theorem dX13_isSameRegion_42 : decode cX13_isSameRegion 42 = .ok (.iload_n 2, 1) := by decide +kernel
theorem dX13_isSameRegion_43 : decode cX13_isSameRegion 43 = .ok (.iadd, 1) := by decide +kernel
theorem dX13_isSameRegion_44 : decode cX13_isSameRegion 44 = .ok (.iaload, 1) := by decide +kernel
theorem dX13_isSameRegion_45 : decode cX13_isSameRegion 45 = .ok (.aload_n 0, 1) := by decide +kernel
theorem dX13_isSameRegion_46 : decode cX13_isSameRegion 46 = .ok (.getfield 25, 3) := by decide +kernel
theorem dX13_isSameRegion_49 : decode cX13_isSameRegion 49 = .ok (.iconst 5, 1) := by decide +kernel
theorem dX13_isSameRegion_50 : decode cX13_isSameRegion 50 = .ok (.iload_n 3, 1) := by decide +kernel
theorem dX13_isSameRegion_51 : decode cX13_isSameRegion 51 = .ok (.imul, 1) := by decide +kernel
theorem dX13_isSameRegion_52 : decode cX13_isSameRegion 52 = .ok (.iload 4, 2) := by decide +kernel
theorem dX13_isSameRegion_54 : decode cX13_isSameRegion 54 = .ok (.iadd, 1) := by decide +kernel
theorem dX13_isSameRegion_55 : decode cX13_isSameRegion 55 = .ok (.iaload, 1) := by decide +kernel
theorem dX13_isSameRegion_56 : decode cX13_isSameRegion 56 = .ok (.if_icmp .ne 7, 3) := by decide +kernel
theorem dX13_isSameRegion_59 : decode cX13_isSameRegion 59 = .ok (.iconst 1, 1) := by decide +kernel
theorem dX13_isSameRegion_60 : decode cX13_isSameRegion 60 = .ok (.goto 4, 3) := by decide +kernel
theorem dX13_isSameRegion_63 : decode cX13_isSameRegion 63 = .ok (.iconst 0, 1) := by decide +kernel
theorem dX13_isSameRegion_64 : decode cX13_isSameRegion 64 = .ok (.ireturn, 1) := by decide +kernel
set_option maxRecDepth 20000 in
theorem ggX13_isSort_X13_in : GoodIn wsX13_isSort wsX13_in := goodIn_r _ [4] (by decide +kernel) (by decide +kernel)
set_option maxRecDepth 20000 in
theorem gX13_isSort_X13_in : GoodIn wsX13_isSort (va_wsS RX13 72 yX13_in wsX13_in) := goodIn_app (goodIn_of _ (by decide +kernel)) ggX13_isSort_X13_in
theorem dX13_isSort_0 : decode cX13_isSort 0 = .ok (.iload_n 0, 1) := by decide +kernel
theorem dX13_isSort_1 : decode cX13_isSort 1 = .ok (.iconst 0, 1) := by decide +kernel
theorem dX13_isSort_2 : decode cX13_isSort 2 = .ok (.iconst 3, 1) := by decide +kernel
theorem dX13_isSort_3 : decode cX13_isSort 3 = .ok (.invokestatic 72, 3) := by decide +kernel
theorem dX13_isSort_6 : decode cX13_isSort 6 = .ok (.ireturn, 1) := by decide +kernel
theorem dX13_weighs_0 : decode cX13_weighs 0 = .ok (.aload_n 0, 1) := by decide +kernel
theorem dX13_weighs_1 : decode cX13_weighs 1 = .ok (.getfield 7, 3) := by decide +kernel
theorem dX13_weighs_4 : decode cX13_weighs 4 = .ok (.bipush 32, 2) := by decide +kernel
theorem dX13_weighs_6 : decode cX13_weighs 6 = .ok (.iconst 4, 1) := by decide +kernel
theorem dX13_weighs_7 : decode cX13_weighs 7 = .ok (.iload_n 1, 1) := by decide +kernel
theorem dX13_weighs_8 : decode cX13_weighs 8 = .ok (.imul, 1) := by decide +kernel
theorem dX13_weighs_9 : decode cX13_weighs 9 = .ok (.iadd, 1) := by decide +kernel
theorem dX13_weighs_10 : decode cX13_weighs 10 = .ok (.iload_n 2, 1) := by decide +kernel
theorem dX13_weighs_11 : decode cX13_weighs 11 = .ok (.iadd, 1) := by decide +kernel
theorem dX13_weighs_12 : decode cX13_weighs 12 = .ok (.iaload, 1) := by decide +kernel
theorem dX13_weighs_13 : decode cX13_weighs 13 = .ok (.ireturn, 1) := by decide +kernel
set_option maxRecDepth 20000 in
theorem ggX13_sum_X13_weighs : GoodIn wsX13_sum wsX13_weighs := goodIn_ca (goodIn_r _ [5, 6, 7, 8, 9, 10, 11, 12, 13, 14, 15, 16, 17, 18, 19, 20, 21, 22, 23, 24, 25, 26, 27, 28, 29, 30] (by decide +kernel) (by decide +kernel)) (goodIn_sub (fun _ h => List.mem_cons_of_mem _ (List.mem_append_right _ h)) (by decide +kernel))
set_option maxRecDepth 20000 in
theorem gX13_sum_X13_weighs : GoodIn wsX13_sum (wsV RX13 119 RX13 yX13_weighs wsX13_weighs) := goodIn_app (goodIn_of _ (by decide +kernel)) ggX13_sum_X13_weighs
theorem dX13_sum_0 : decode cX13_sum 0 = .ok (.aload_n 0, 1) := by decide +kernel
theorem dX13_sum_1 : decode cX13_sum 1 = .ok (.iload_n 1, 1) := by decide +kernel
theorem dX13_sum_2 : decode cX13_sum 2 = .ok (.iconst 0, 1) := by decide +kernel
theorem dX13_sum_3 : decode cX13_sum 3 = .ok (.invokevirtual 119, 3) := by decide +kernel
theorem dX13_sum_6 : decode cX13_sum 6 = .ok (.aload_n 0, 1) := by decide +kernel
theorem dX13_sum_7 : decode cX13_sum 7 = .ok (.iload_n 1, 1) := by decide +kernel
theorem dX13_sum_8 : decode cX13_sum 8 = .ok (.iconst 1, 1) := by decide +kernel
theorem dX13_sum_9 : decode cX13_sum 9 = .ok (.invokevirtual 119, 3) := by decide +kernel
theorem dX13_sum_12 : decode cX13_sum 12 = .ok (.iadd, 1) := by decide +kernel
theorem dX13_sum_13 : decode cX13_sum 13 = .ok (.aload_n 0, 1) := by decide +kernel
theorem dX13_sum_14 : decode cX13_sum 14 = .ok (.iload_n 1, 1) := by decide +kernel
theorem dX13_sum_15 : decode cX13_sum 15 = .ok (.iconst 2, 1) := by decide +kernel
theorem dX13_sum_16 : decode cX13_sum 16 = .ok (.invokevirtual 119, 3) := by decide +kernel
theorem dX13_sum_19 : decode cX13_sum 19 = .ok (.iadd, 1) := by decide +kernel
theorem dX13_sum_20 : decode cX13_sum 20 = .ok (.aload_n 0, 1) := by decide +kernel
theorem dX13_sum_21 : decode cX13_sum 21 = .ok (.iload_n 1, 1) := by decide +kernel
theorem dX13_sum_22 : decode cX13_sum 22 = .ok (.iconst 3, 1) := by decide +kernel
theorem dX13_sum_23 : decode cX13_sum 23 = .ok (.invokevirtual 119, 3) := by decide +kernel
theorem dX13_sum_26 : decode cX13_sum 26 = .ok (.iadd, 1) := by decide +kernel
theorem dX13_sum_27 : decode cX13_sum 27 = .ok (.ireturn, 1) := by decide +kernel
set_option maxRecDepth 20000 in
theorem ggX13_setWeight_X13_isSort : GoodIn wsX13_setWeight wsX13_isSort := goodIn_r _ [5, 6, 7, 4, 8] (by decide +kernel) (by decide +kernel)
set_option maxRecDepth 20000 in
theorem gX13_setWeight_X13_isSort : GoodIn wsX13_setWeight (va_wsS RX13 122 yX13_isSort wsX13_isSort) := goodIn_app (goodIn_of _ (by decide +kernel)) ggX13_setWeight_X13_isSort
set_option maxRecDepth 20000 in
theorem ggX13_setWeight_X13_in : GoodIn wsX13_setWeight wsX13_in := goodIn_r _ [8] (by decide +kernel) (by decide +kernel)
set_option maxRecDepth 20000 in
theorem gX13_setWeight_X13_in : GoodIn wsX13_setWeight (va_wsS RX13 72 yX13_in wsX13_in) := goodIn_app (goodIn_of _ (by decide +kernel)) ggX13_setWeight_X13_in
set_option maxRecDepth 20000 in
theorem ggX13_setWeight_X13_sum : GoodIn wsX13_setWeight wsX13_sum := goodIn_ca (goodIn_r _ [12, 13, 14, 15, 4, 16, 1, 32, 33, 34, 35, 36, 37, 38, 39, 40, 41, 42, 43, 44, 45, 46, 47, 48, 49, 50, 51, 52, 53, 54, 55] (by decide +kernel) (by decide +kernel)) (goodIn_sub (fun _ h => List.mem_cons_of_mem _ (List.mem_append_right _ h)) (by decide +kernel))
set_option maxRecDepth 20000 in
theorem gX13_setWeight_X13_sum : GoodIn wsX13_setWeight (wsV RX13 125 RX13 yX13_sum wsX13_sum) := goodIn_app (goodIn_of _ (by decide +kernel)) ggX13_setWeight_X13_sum
set_option maxRecDepth 20000 in
theorem ggX13_setWeight_X13_weighs : GoodIn wsX13_setWeight wsX13_weighs := goodIn_ca (goodIn_r _ [16, 1, 32, 33, 34, 35, 36, 37, 38, 39, 40, 41, 42, 43, 44, 45, 46, 47, 48, 49, 50, 51, 52, 53, 54, 55] (by decide +kernel) (by decide +kernel)) (goodIn_sub (fun _ h => List.mem_cons_of_mem _ (List.mem_append_right _ h)) (by decide +kernel))
set_option maxRecDepth 20000 in
theorem gX13_setWeight_X13_weighs : GoodIn wsX13_setWeight (wsV RX13 119 RX13 yX13_weighs wsX13_weighs) := goodIn_app (goodIn_of _ (by decide +kernel)) ggX13_setWeight_X13_weighs
set_option maxRecDepth 20000 in
theorem ggX13_setWeight_X13_fails : GoodIn wsX13_setWeight wsX13_fails := goodIn_r _ [20, 21, 32, 33, 34, 35, 36, 37, 38, 39, 40, 41, 42, 43, 44, 45, 46, 47, 48, 49, 50, 51, 52, 53, 54, 55] (by decide +kernel) (by decide +kernel)
set_option maxRecDepth 20000 in
theorem gX13_setWeight_X13_fails : GoodIn wsX13_setWeight (wsV RX13 80 RX13 yX13_fails wsX13_fails) := goodIn_app (goodIn_of _ (by decide +kernel)) ggX13_setWeight_X13_fails
set_option maxRecDepth 20000 in
theorem ggX13_setWeight_X13_keeps : GoodIn wsX13_setWeight wsX13_keeps := goodIn_ca (goodIn_r _ [25, 21, 26, 27, 28, 29, 30, 4, 31, 32, 33, 34, 35, 36, 37, 38, 39, 40, 41, 42, 43, 44, 45, 46, 47, 48, 49, 50, 51, 52, 53, 54, 55] (by decide +kernel) (by decide +kernel)) (goodIn_sub (fun _ h => List.mem_cons_of_mem _ (List.mem_append_right _ h)) (by decide +kernel))
set_option maxRecDepth 20000 in
theorem gX13_setWeight_X13_keeps : GoodIn wsX13_setWeight (wsV RX13 84 RX13 yX13_keeps wsX13_keeps) := goodIn_app (goodIn_of _ (by decide +kernel)) ggX13_setWeight_X13_keeps
theorem dX13_setWeight_0 : decode cX13_setWeight 0 = .ok (.aload_n 0, 1) := by decide +kernel
theorem dX13_setWeight_1 : decode cX13_setWeight 1 = .ok (.iload_n 1, 1) := by decide +kernel
theorem dX13_setWeight_2 : decode cX13_setWeight 2 = .ok (.invokestatic 122, 3) := by decide +kernel
theorem dX13_setWeight_5 : decode cX13_setWeight 5 = .ok (.ifCond .eq 19, 3) := by decide +kernel
theorem dX13_setWeight_8 : decode cX13_setWeight 8 = .ok (.iload_n 2, 1) := by decide +kernel
theorem dX13_setWeight_9 : decode cX13_setWeight 9 = .ok (.invokestatic 122, 3) := by decide +kernel
theorem dX13_setWeight_12 : decode cX13_setWeight 12 = .ok (.ifCond .eq 12, 3) := by decide +kernel
theorem dX13_setWeight_15 : decode cX13_setWeight 15 = .ok (.iload_n 3, 1) := by decide +kernel
theorem dX13_setWeight_16 : decode cX13_setWeight 16 = .ok (.iconst 0, 1) := by decide +kernel
theorem dX13_setWeight_17 : decode cX13_setWeight 17 = .ok (.iconst 3, 1) := by decide +kernel
theorem dX13_setWeight_18 : decode cX13_setWeight 18 = .ok (.invokestatic 72, 3) := by decide +kernel
theorem dX13_setWeight_21 : decode cX13_setWeight 21 = .ok (.ifCond .ne 7, 3) := by decide +kernel
theorem dX13_setWeight_24 : decode cX13_setWeight 24 = .ok (.iconst 1, 1) := by decide +kernel
theorem dX13_setWeight_25 : decode cX13_setWeight 25 = .ok (.goto 25, 3) := by decide +kernel
theorem dX13_setWeight_28 : decode cX13_setWeight 28 = .ok (.aload_n 0, 1) := by decide +kernel
theorem dX13_setWeight_29 : decode cX13_setWeight 29 = .ok (.iload_n 1, 1) := by decide +kernel
theorem dX13_setWeight_30 : decode cX13_setWeight 30 = .ok (.invokevirtual 125, 3) := by decide +kernel
theorem dX13_setWeight_33 : decode cX13_setWeight 33 = .ok (.aload_n 0, 1) := by decide +kernel
theorem dX13_setWeight_34 : decode cX13_setWeight 34 = .ok (.iload_n 1, 1) := by decide +kernel
theorem dX13_setWeight_35 : decode cX13_setWeight 35 = .ok (.iload_n 2, 1) := by decide +kernel
theorem dX13_setWeight_36 : decode cX13_setWeight 36 = .ok (.invokevirtual 119, 3) := by decide +kernel
theorem dX13_setWeight_39 : decode cX13_setWeight 39 = .ok (.isub, 1) := by decide +kernel
theorem dX13_setWeight_40 : decode cX13_setWeight 40 = .ok (.iload_n 3, 1) := by decide +kernel
theorem dX13_setWeight_41 : decode cX13_setWeight 41 = .ok (.iadd, 1) := by decide +kernel
theorem dX13_setWeight_42 : decode cX13_setWeight 42 = .ok (.ifCond .ne 7, 3) := by decide +kernel
theorem dX13_setWeight_45 : decode cX13_setWeight 45 = .ok (.iconst 2, 1) := by decide +kernel
theorem dX13_setWeight_46 : decode cX13_setWeight 46 = .ok (.goto 4, 3) := by decide +kernel
theorem dX13_setWeight_49 : decode cX13_setWeight 49 = .ok (.iconst 0, 1) := by decide +kernel
theorem dX13_setWeight_50 : decode cX13_setWeight 50 = .ok (.invokevirtual 80, 3) := by decide +kernel
theorem dX13_setWeight_53 : decode cX13_setWeight 53 = .ok (.ifCond .eq 5, 3) := by decide +kernel
theorem dX13_setWeight_56 : decode cX13_setWeight 56 = .ok (.iconst 0, 1) := by decide +kernel
theorem dX13_setWeight_57 : decode cX13_setWeight 57 = .ok (.ireturn, 1) := by decide +kernel
theorem dX13_setWeight_58 : decode cX13_setWeight 58 = .ok (.aload_n 0, 1) := by decide +kernel
theorem dX13_setWeight_59 : decode cX13_setWeight 59 = .ok (.iload_n 1, 1) := by decide +kernel
theorem dX13_setWeight_60 : decode cX13_setWeight 60 = .ok (.iload_n 2, 1) := by decide +kernel
theorem dX13_setWeight_61 : decode cX13_setWeight 61 = .ok (.invokevirtual 119, 3) := by decide +kernel
theorem dX13_setWeight_64 : decode cX13_setWeight 64 = .ok (.istore 4, 2) := by decide +kernel
theorem dX13_setWeight_66 : decode cX13_setWeight 66 = .ok (.aload_n 0, 1) := by decide +kernel
theorem dX13_setWeight_67 : decode cX13_setWeight 67 = .ok (.aload_n 0, 1) := by decide +kernel
theorem dX13_setWeight_68 : decode cX13_setWeight 68 = .ok (.getfield 7, 3) := by decide +kernel
theorem dX13_setWeight_71 : decode cX13_setWeight 71 = .ok (.invokevirtual 84, 3) := by decide +kernel
theorem dX13_setWeight_74 : decode cX13_setWeight 74 = .ok (.aload_n 0, 1) := by decide +kernel
theorem dX13_setWeight_75 : decode cX13_setWeight 75 = .ok (.getfield 7, 3) := by decide +kernel
theorem dX13_setWeight_78 : decode cX13_setWeight 78 = .ok (.bipush 32, 2) := by decide +kernel
theorem dX13_setWeight_80 : decode cX13_setWeight 80 = .ok (.iconst 4, 1) := by decide +kernel
theorem dX13_setWeight_81 : decode cX13_setWeight 81 = .ok (.iload_n 1, 1) := by decide +kernel
theorem dX13_setWeight_82 : decode cX13_setWeight 82 = .ok (.imul, 1) := by decide +kernel
theorem dX13_setWeight_83 : decode cX13_setWeight 83 = .ok (.iadd, 1) := by decide +kernel
theorem dX13_setWeight_84 : decode cX13_setWeight 84 = .ok (.iload_n 2, 1) := by decide +kernel
theorem dX13_setWeight_85 : decode cX13_setWeight 85 = .ok (.iadd, 1) := by decide +kernel
theorem dX13_setWeight_86 : decode cX13_setWeight 86 = .ok (.iload_n 3, 1) := by decide +kernel
theorem dX13_setWeight_87 : decode cX13_setWeight 87 = .ok (.iastore, 1) := by decide +kernel
theorem dX13_setWeight_88 : decode cX13_setWeight 88 = .ok (.iload 4, 2) := by decide +kernel
theorem dX13_setWeight_90 : decode cX13_setWeight 90 = .ok (.ireturn, 1) := by decide +kernel
set_option maxRecDepth 20000 in
theorem ggX13_weightOf_X13_isSort : GoodIn wsX13_weightOf wsX13_isSort := goodIn_r _ [4, 5, 6, 3, 7] (by decide +kernel) (by decide +kernel)
set_option maxRecDepth 20000 in
theorem gX13_weightOf_X13_isSort : GoodIn wsX13_weightOf (va_wsS RX13 122 yX13_isSort wsX13_isSort) := goodIn_app (goodIn_of _ (by decide +kernel)) ggX13_weightOf_X13_isSort
set_option maxRecDepth 20000 in
theorem ggX13_weightOf_X13_fails : GoodIn wsX13_weightOf wsX13_fails := goodIn_r _ [11, 12, 18, 19, 20, 21, 22, 23, 24, 25, 26, 27, 28, 29, 30, 31, 32, 33, 34, 35, 36, 37, 38, 39, 40, 41] (by decide +kernel) (by decide +kernel)
set_option maxRecDepth 20000 in
theorem gX13_weightOf_X13_fails : GoodIn wsX13_weightOf (wsV RX13 80 RX13 yX13_fails wsX13_fails) := goodIn_app (goodIn_of _ (by decide +kernel)) ggX13_weightOf_X13_fails
set_option maxRecDepth 20000 in
theorem ggX13_weightOf_X13_weighs : GoodIn wsX13_weightOf wsX13_weighs := goodIn_ca (goodIn_r _ [16, 17, 18, 19, 20, 21, 22, 23, 24, 25, 26, 27, 28, 29, 30, 31, 32, 33, 34, 35, 36, 37, 38, 39, 40, 41] (by decide +kernel) (by decide +kernel)) (goodIn_sub (fun _ h => List.mem_cons_of_mem _ (List.mem_append_right _ h)) (by decide +kernel))
set_option maxRecDepth 20000 in
theorem gX13_weightOf_X13_weighs : GoodIn wsX13_weightOf (wsV RX13 119 RX13 yX13_weighs wsX13_weighs) := goodIn_app (goodIn_of _ (by decide +kernel)) ggX13_weightOf_X13_weighs
theorem dX13_weightOf_0 : decode cX13_weightOf 0 = .ok (.aload_n 0, 1) := by decide +kernel
theorem dX13_weightOf_1 : decode cX13_weightOf 1 = .ok (.iload_n 1, 1) := by decide +kernel
theorem dX13_weightOf_2 : decode cX13_weightOf 2 = .ok (.invokestatic 122, 3) := by decide +kernel
theorem dX13_weightOf_5 : decode cX13_weightOf 5 = .ok (.ifCond .eq 14, 3) := by decide +kernel
theorem dX13_weightOf_8 : decode cX13_weightOf 8 = .ok (.iload_n 2, 1) := by decide +kernel
theorem dX13_weightOf_9 : decode cX13_weightOf 9 = .ok (.invokestatic 122, 3) := by decide +kernel
theorem dX13_weightOf_12 : decode cX13_weightOf 12 = .ok (.ifCond .eq 7, 3) := by decide +kernel
theorem dX13_weightOf_15 : decode cX13_weightOf 15 = .ok (.iconst 0, 1) := by decide +kernel
theorem dX13_weightOf_16 : decode cX13_weightOf 16 = .ok (.goto 4, 3) := by decide +kernel
theorem dX13_weightOf_19 : decode cX13_weightOf 19 = .ok (.iconst 1, 1) := by decide +kernel
theorem dX13_weightOf_20 : decode cX13_weightOf 20 = .ok (.invokevirtual 80, 3) := by decide +kernel
theorem dX13_weightOf_23 : decode cX13_weightOf 23 = .ok (.ifCond .eq 7, 3) := by decide +kernel
theorem dX13_weightOf_26 : decode cX13_weightOf 26 = .ok (.iconst 0, 1) := by decide +kernel
theorem dX13_weightOf_27 : decode cX13_weightOf 27 = .ok (.goto 9, 3) := by decide +kernel
theorem dX13_weightOf_30 : decode cX13_weightOf 30 = .ok (.aload_n 0, 1) := by decide +kernel
theorem dX13_weightOf_31 : decode cX13_weightOf 31 = .ok (.iload_n 1, 1) := by decide +kernel
theorem dX13_weightOf_32 : decode cX13_weightOf 32 = .ok (.iload_n 2, 1) := by decide +kernel
theorem dX13_weightOf_33 : decode cX13_weightOf 33 = .ok (.invokevirtual 119, 3) := by decide +kernel
theorem dX13_weightOf_36 : decode cX13_weightOf 36 = .ok (.ireturn, 1) := by decide +kernel
theorem dX13_weather_0 : decode cX13_weather 0 = .ok (.aload_n 0, 1) := by decide +kernel
theorem dX13_weather_1 : decode cX13_weather 1 = .ok (.iconst 0, 1) := by decide +kernel
theorem dX13_weather_2 : decode cX13_weather 2 = .ok (.putfield 58, 3) := by decide +kernel
theorem dX13_weather_5 : decode cX13_weather 5 = .ok (.aload_n 0, 1) := by decide +kernel
theorem dX13_weather_6 : decode cX13_weather 6 = .ok (.getfield 7, 3) := by decide +kernel
theorem dX13_weather_9 : decode cX13_weather 9 = .ok (.iconst 1, 1) := by decide +kernel
theorem dX13_weather_10 : decode cX13_weather 10 = .ok (.iaload, 1) := by decide +kernel
theorem dX13_weather_11 : decode cX13_weather 11 = .ok (.ireturn, 1) := by decide +kernel
theorem dX13_day_0 : decode cX13_day 0 = .ok (.aload_n 0, 1) := by decide +kernel
theorem dX13_day_1 : decode cX13_day 1 = .ok (.iconst 0, 1) := by decide +kernel
theorem dX13_day_2 : decode cX13_day 2 = .ok (.putfield 58, 3) := by decide +kernel
theorem dX13_day_5 : decode cX13_day 5 = .ok (.aload_n 0, 1) := by decide +kernel
theorem dX13_day_6 : decode cX13_day 6 = .ok (.getfield 7, 3) := by decide +kernel
theorem dX13_day_9 : decode cX13_day 9 = .ok (.iconst 0, 1) := by decide +kernel
theorem dX13_day_10 : decode cX13_day 10 = .ok (.iaload, 1) := by decide +kernel
theorem dX13_day_11 : decode cX13_day 11 = .ok (.ireturn, 1) := by decide +kernel
theorem dX13_shared_0 : decode cX13_shared 0 = .ok (.lload_n 0, 1) := by decide +kernel
theorem dX13_shared_1 : decode cX13_shared 1 = .ok (.lstore 4, 2) := by decide +kernel
theorem dX13_shared_3 : decode cX13_shared 3 = .ok (.lload_n 2, 1) := by decide +kernel
theorem dX13_shared_4 : decode cX13_shared 4 = .ok (.lstore 6, 2) := by decide +kernel
theorem dX13_shared_6 : decode cX13_shared 6 = .ok (.lload 6, 2) := by decide +kernel
theorem dX13_shared_8 : decode cX13_shared 8 = .ok (.lconst 0, 1) := by decide +kernel
theorem dX13_shared_9 : decode cX13_shared 9 = .ok (.lcmp, 1) := by decide +kernel
theorem dX13_shared_10 : decode cX13_shared 10 = .ok (.ifCond .le 21, 3) := by decide +kernel
theorem dX13_shared_13 : decode cX13_shared 13 = .ok (.lload 4, 2) := by decide +kernel
theorem dX13_shared_15 : decode cX13_shared 15 = .ok (.lload 6, 2) := by decide +kernel
theorem dX13_shared_17 : decode cX13_shared 17 = .ok (.lrem, 1) := by decide +kernel
theorem dX13_shared_18 : decode cX13_shared 18 = .ok (.lstore 8, 2) := by decide +kernel
theorem dX13_shared_20 : decode cX13_shared 20 = .ok (.lload 6, 2) := by decide +kernel
theorem dX13_shared_22 : decode cX13_shared 22 = .ok (.lstore 4, 2) := by decide +kernel
theorem dX13_shared_24 : decode cX13_shared 24 = .ok (.lload 8, 2) := by decide +kernel
theorem dX13_shared_26 : decode cX13_shared 26 = .ok (.lstore 6, 2) := by decide +kernel
theorem dX13_shared_28 : decode cX13_shared 28 = .ok (.goto (-22), 3) := by decide +kernel
theorem dX13_shared_31 : decode cX13_shared 31 = .ok (.lload 4, 2) := by decide +kernel
theorem dX13_shared_33 : decode cX13_shared 33 = .ok (.lreturn, 1) := by decide +kernel
set_option maxRecDepth 20000 in
theorem ggX13_goes_X13_sum : GoodIn wsX13_goes wsX13_sum := goodIn_ca (goodIn_r _ [11, 12, 13, 14, 10, 15, 2, 19, 20, 21, 22, 23, 24, 25, 26, 27, 28, 29, 30, 31, 32, 33, 34, 35, 36, 37, 38, 39, 40, 41, 42] (by decide +kernel) (by decide +kernel)) (goodIn_sub (fun _ h => List.mem_cons_of_mem _ (List.mem_append_right _ h)) (by decide +kernel))
set_option maxRecDepth 20000 in
theorem gX13_goes_X13_sum : GoodIn wsX13_goes (wsV RX13 125 RX13 yX13_sum wsX13_sum) := goodIn_app (goodIn_of _ (by decide +kernel)) ggX13_goes_X13_sum
set_option maxRecDepth 20000 in
theorem ggX13_goes_X13_shared : GoodIn wsX13_goes wsX13_shared := goodIn_ca (goodIn_r _ [18] (by decide +kernel) (by decide +kernel)) (goodIn_sub (fun _ h => List.mem_cons_of_mem _ (List.mem_append_left _ (List.mem_append_right _ h))) (by decide +kernel))
set_option maxRecDepth 20000 in
theorem gX13_goes_X13_shared : GoodIn wsX13_goes (va_wsS RX13 129 yX13_shared wsX13_shared) := goodIn_app (goodIn_of _ (by decide +kernel)) ggX13_goes_X13_shared
set_option maxRecDepth 20000 in
theorem ggX13_goes_X13_weighs : GoodIn wsX13_goes wsX13_weighs := goodIn_ca (goodIn_r _ [15, 2, 19, 20, 21, 22, 23, 24, 25, 26, 27, 28, 29, 30, 31, 32, 33, 34, 35, 36, 37, 38, 39, 40, 41, 42] (by decide +kernel) (by decide +kernel)) (goodIn_sub (fun _ h => List.mem_cons_of_mem _ (List.mem_append_right _ h)) (by decide +kernel))
set_option maxRecDepth 20000 in
theorem gX13_goes_X13_weighs : GoodIn wsX13_goes (wsV RX13 119 RX13 yX13_weighs wsX13_weighs) := goodIn_app (goodIn_of _ (by decide +kernel)) ggX13_goes_X13_weighs
theorem dX13_goes_0 : decode cX13_goes 0 = .ok (.lconst 1, 1) := by decide +kernel
theorem dX13_goes_1 : decode cX13_goes 1 = .ok (.lstore_n 2, 1) := by decide +kernel
theorem dX13_goes_2 : decode cX13_goes 2 = .ok (.iconst 0, 1) := by decide +kernel
theorem dX13_goes_3 : decode cX13_goes 3 = .ok (.istore 4, 2) := by decide +kernel
theorem dX13_goes_5 : decode cX13_goes 5 = .ok (.iload 4, 2) := by decide +kernel
theorem dX13_goes_7 : decode cX13_goes 7 = .ok (.iconst 4, 1) := by decide +kernel
theorem dX13_goes_8 : decode cX13_goes 8 = .ok (.if_icmp .ge 31, 3) := by decide +kernel
theorem dX13_goes_11 : decode cX13_goes 11 = .ok (.lload_n 2, 1) := by decide +kernel
theorem dX13_goes_12 : decode cX13_goes 12 = .ok (.lload_n 2, 1) := by decide +kernel
theorem dX13_goes_13 : decode cX13_goes 13 = .ok (.aload_n 0, 1) := by decide +kernel
theorem dX13_goes_14 : decode cX13_goes 14 = .ok (.iload 4, 2) := by decide +kernel
theorem dX13_goes_16 : decode cX13_goes 16 = .ok (.invokevirtual 125, 3) := by decide +kernel
theorem dX13_goes_19 : decode cX13_goes 19 = .ok (.i2l, 1) := by decide +kernel
theorem dX13_goes_20 : decode cX13_goes 20 = .ok (.invokestatic 129, 3) := by decide +kernel
theorem dX13_goes_23 : decode cX13_goes 23 = .ok (.ldiv, 1) := by decide +kernel
theorem dX13_goes_24 : decode cX13_goes 24 = .ok (.aload_n 0, 1) := by decide +kernel
theorem dX13_goes_25 : decode cX13_goes 25 = .ok (.iload 4, 2) := by decide +kernel
theorem dX13_goes_27 : decode cX13_goes 27 = .ok (.invokevirtual 125, 3) := by decide +kernel
theorem dX13_goes_30 : decode cX13_goes 30 = .ok (.i2l, 1) := by decide +kernel
theorem dX13_goes_31 : decode cX13_goes 31 = .ok (.lmul, 1) := by decide +kernel
theorem dX13_goes_32 : decode cX13_goes 32 = .ok (.lstore_n 2, 1) := by decide +kernel
theorem dX13_goes_33 : decode cX13_goes 33 = .ok (.iinc 4 1, 3) := by decide +kernel
theorem dX13_goes_36 : decode cX13_goes 36 = .ok (.goto (-31), 3) := by decide +kernel
theorem dX13_goes_39 : decode cX13_goes 39 = .ok (.iconst 0, 1) := by decide +kernel
theorem dX13_goes_40 : decode cX13_goes 40 = .ok (.istore 4, 2) := by decide +kernel
theorem dX13_goes_42 : decode cX13_goes 42 = .ok (.iload 4, 2) := by decide +kernel
theorem dX13_goes_44 : decode cX13_goes 44 = .ok (.iconst 4, 1) := by decide +kernel
theorem dX13_goes_45 : decode cX13_goes 45 = .ok (.if_icmp .ge 55, 3) := by decide +kernel
theorem dX13_goes_48 : decode cX13_goes 48 = .ok (.aload_n 0, 1) := by decide +kernel
theorem dX13_goes_49 : decode cX13_goes 49 = .ok (.getfield 28, 3) := by decide +kernel
theorem dX13_goes_52 : decode cX13_goes 52 = .ok (.iload 4, 2) := by decide +kernel
theorem dX13_goes_54 : decode cX13_goes 54 = .ok (.iload 4, 2) := by decide +kernel
theorem dX13_goes_56 : decode cX13_goes 56 = .ok (.aload_n 0, 1) := by decide +kernel
theorem dX13_goes_57 : decode cX13_goes 57 = .ok (.getfield 7, 3) := by decide +kernel
theorem dX13_goes_60 : decode cX13_goes 60 = .ok (.iconst 1, 1) := by decide +kernel
theorem dX13_goes_61 : decode cX13_goes 61 = .ok (.iaload, 1) := by decide +kernel
theorem dX13_goes_62 : decode cX13_goes 62 = .ok (.if_icmp .ne 7, 3) := by decide +kernel
theorem dX13_goes_65 : decode cX13_goes 65 = .ok (.lconst 1, 1) := by decide +kernel
theorem dX13_goes_66 : decode cX13_goes 66 = .ok (.goto 4, 3) := by decide +kernel
theorem dX13_goes_69 : decode cX13_goes 69 = .ok (.lconst 0, 1) := by decide +kernel
theorem dX13_goes_70 : decode cX13_goes 70 = .ok (.lastore, 1) := by decide +kernel
theorem dX13_goes_71 : decode cX13_goes 71 = .ok (.aload_n 0, 1) := by decide +kernel
theorem dX13_goes_72 : decode cX13_goes 72 = .ok (.getfield 35, 3) := by decide +kernel
theorem dX13_goes_75 : decode cX13_goes 75 = .ok (.iload 4, 2) := by decide +kernel
theorem dX13_goes_77 : decode cX13_goes 77 = .ok (.iload 4, 2) := by decide +kernel
theorem dX13_goes_79 : decode cX13_goes 79 = .ok (.aload_n 0, 1) := by decide +kernel
theorem dX13_goes_80 : decode cX13_goes 80 = .ok (.getfield 7, 3) := by decide +kernel
theorem dX13_goes_83 : decode cX13_goes 83 = .ok (.iconst 1, 1) := by decide +kernel
theorem dX13_goes_84 : decode cX13_goes 84 = .ok (.iaload, 1) := by decide +kernel
theorem dX13_goes_85 : decode cX13_goes 85 = .ok (.if_icmp .ne 7, 3) := by decide +kernel
theorem dX13_goes_88 : decode cX13_goes 88 = .ok (.iconst 1, 1) := by decide +kernel
theorem dX13_goes_89 : decode cX13_goes 89 = .ok (.goto 4, 3) := by decide +kernel
theorem dX13_goes_92 : decode cX13_goes 92 = .ok (.iconst 0, 1) := by decide +kernel
theorem dX13_goes_93 : decode cX13_goes 93 = .ok (.iastore, 1) := by decide +kernel
theorem dX13_goes_94 : decode cX13_goes 94 = .ok (.iinc 4 1, 3) := by decide +kernel
theorem dX13_goes_97 : decode cX13_goes 97 = .ok (.goto (-55), 3) := by decide +kernel
theorem dX13_goes_100 : decode cX13_goes 100 = .ok (.aload_n 0, 1) := by decide +kernel
theorem dX13_goes_101 : decode cX13_goes 101 = .ok (.lconst 1, 1) := by decide +kernel
theorem dX13_goes_102 : decode cX13_goes 102 = .ok (.putfield 133, 3) := by decide +kernel
theorem dX13_goes_105 : decode cX13_goes 105 = .ok (.iconst 0, 1) := by decide +kernel
theorem dX13_goes_106 : decode cX13_goes 106 = .ok (.istore 4, 2) := by decide +kernel
theorem dX13_goes_108 : decode cX13_goes 108 = .ok (.iload 4, 2) := by decide +kernel
theorem dX13_goes_110 : decode cX13_goes 110 = .ok (.iload_n 1, 1) := by decide +kernel
theorem dX13_goes_111 : decode cX13_goes 111 = .ok (.if_icmp .ge 177, 3) := by decide +kernel
theorem dX13_goes_114 : decode cX13_goes 114 = .ok (.iconst 0, 1) := by decide +kernel
theorem dX13_goes_115 : decode cX13_goes 115 = .ok (.istore 5, 2) := by decide +kernel
theorem dX13_goes_117 : decode cX13_goes 117 = .ok (.iload 5, 2) := by decide +kernel
theorem dX13_goes_119 : decode cX13_goes 119 = .ok (.iconst 4, 1) := by decide +kernel
theorem dX13_goes_120 : decode cX13_goes 120 = .ok (.if_icmp .ge 109, 3) := by decide +kernel
theorem dX13_goes_123 : decode cX13_goes 123 = .ok (.aload_n 0, 1) := by decide +kernel
theorem dX13_goes_124 : decode cX13_goes 124 = .ok (.getfield 32, 3) := by decide +kernel
theorem dX13_goes_127 : decode cX13_goes 127 = .ok (.iload 5, 2) := by decide +kernel
theorem dX13_goes_129 : decode cX13_goes 129 = .ok (.lconst 0, 1) := by decide +kernel
theorem dX13_goes_130 : decode cX13_goes 130 = .ok (.lastore, 1) := by decide +kernel
theorem dX13_goes_131 : decode cX13_goes 131 = .ok (.aload_n 0, 1) := by decide +kernel
theorem dX13_goes_132 : decode cX13_goes 132 = .ok (.getfield 38, 3) := by decide +kernel
theorem dX13_goes_135 : decode cX13_goes 135 = .ok (.iload 5, 2) := by decide +kernel
theorem dX13_goes_137 : decode cX13_goes 137 = .ok (.iconst 0, 1) := by decide +kernel
theorem dX13_goes_138 : decode cX13_goes 138 = .ok (.iastore, 1) := by decide +kernel
theorem dX13_goes_139 : decode cX13_goes 139 = .ok (.iconst 0, 1) := by decide +kernel
theorem dX13_goes_140 : decode cX13_goes 140 = .ok (.istore 6, 2) := by decide +kernel
theorem dX13_goes_142 : decode cX13_goes 142 = .ok (.iload 6, 2) := by decide +kernel
theorem dX13_goes_144 : decode cX13_goes 144 = .ok (.iconst 4, 1) := by decide +kernel
theorem dX13_goes_145 : decode cX13_goes 145 = .ok (.if_icmp .ge 78, 3) := by decide +kernel
theorem dX13_goes_148 : decode cX13_goes 148 = .ok (.aload_n 0, 1) := by decide +kernel
theorem dX13_goes_149 : decode cX13_goes 149 = .ok (.getfield 32, 3) := by decide +kernel
theorem dX13_goes_152 : decode cX13_goes 152 = .ok (.iload 5, 2) := by decide +kernel
theorem dX13_goes_154 : decode cX13_goes 154 = .ok (.dup2, 1) := by decide +kernel
theorem dX13_goes_155 : decode cX13_goes 155 = .ok (.laload, 1) := by decide +kernel
theorem dX13_goes_156 : decode cX13_goes 156 = .ok (.aload_n 0, 1) := by decide +kernel
theorem dX13_goes_157 : decode cX13_goes 157 = .ok (.getfield 28, 3) := by decide +kernel
theorem dX13_goes_160 : decode cX13_goes 160 = .ok (.iload 6, 2) := by decide +kernel
theorem dX13_goes_162 : decode cX13_goes 162 = .ok (.laload, 1) := by decide +kernel
theorem dX13_goes_163 : decode cX13_goes 163 = .ok (.aload_n 0, 1) := by decide +kernel
theorem dX13_goes_164 : decode cX13_goes 164 = .ok (.iload 6, 2) := by decide +kernel
theorem dX13_goes_166 : decode cX13_goes 166 = .ok (.iload 5, 2) := by decide +kernel
theorem dX13_goes_168 : decode cX13_goes 168 = .ok (.invokevirtual 119, 3) := by decide +kernel
theorem dX13_goes_171 : decode cX13_goes 171 = .ok (.i2l, 1) := by decide +kernel
theorem dX13_goes_172 : decode cX13_goes 172 = .ok (.lmul, 1) := by decide +kernel
theorem dX13_goes_173 : decode cX13_goes 173 = .ok (.lload_n 2, 1) := by decide +kernel
theorem dX13_goes_174 : decode cX13_goes 174 = .ok (.aload_n 0, 1) := by decide +kernel
theorem dX13_goes_175 : decode cX13_goes 175 = .ok (.iload 6, 2) := by decide +kernel
theorem dX13_goes_177 : decode cX13_goes 177 = .ok (.invokevirtual 125, 3) := by decide +kernel
theorem dX13_goes_180 : decode cX13_goes 180 = .ok (.i2l, 1) := by decide +kernel
theorem dX13_goes_181 : decode cX13_goes 181 = .ok (.ldiv, 1) := by decide +kernel
theorem dX13_goes_182 : decode cX13_goes 182 = .ok (.lmul, 1) := by decide +kernel
theorem dX13_goes_183 : decode cX13_goes 183 = .ok (.ladd, 1) := by decide +kernel
theorem dX13_goes_184 : decode cX13_goes 184 = .ok (.lastore, 1) := by decide +kernel
theorem dX13_goes_185 : decode cX13_goes 185 = .ok (.aload_n 0, 1) := by decide +kernel
theorem dX13_goes_186 : decode cX13_goes 186 = .ok (.getfield 38, 3) := by decide +kernel
theorem dX13_goes_189 : decode cX13_goes 189 = .ok (.iload 5, 2) := by decide +kernel
theorem dX13_goes_191 : decode cX13_goes 191 = .ok (.dup2, 1) := by decide +kernel
theorem dX13_goes_192 : decode cX13_goes 192 = .ok (.iaload, 1) := by decide +kernel
theorem dX13_goes_193 : decode cX13_goes 193 = .ok (.aload_n 0, 1) := by decide +kernel
theorem dX13_goes_194 : decode cX13_goes 194 = .ok (.iload 6, 2) := by decide +kernel
theorem dX13_goes_196 : decode cX13_goes 196 = .ok (.iload 5, 2) := by decide +kernel
theorem dX13_goes_198 : decode cX13_goes 198 = .ok (.invokevirtual 119, 3) := by decide +kernel
theorem dX13_goes_201 : decode cX13_goes 201 = .ok (.ifCond .le 13, 3) := by decide +kernel
theorem dX13_goes_204 : decode cX13_goes 204 = .ok (.aload_n 0, 1) := by decide +kernel
theorem dX13_goes_205 : decode cX13_goes 205 = .ok (.getfield 35, 3) := by decide +kernel
theorem dX13_goes_208 : decode cX13_goes 208 = .ok (.iload 6, 2) := by decide +kernel
theorem dX13_goes_210 : decode cX13_goes 210 = .ok (.iaload, 1) := by decide +kernel
theorem dX13_goes_211 : decode cX13_goes 211 = .ok (.goto 4, 3) := by decide +kernel
theorem dX13_goes_214 : decode cX13_goes 214 = .ok (.iconst 0, 1) := by decide +kernel
theorem dX13_goes_215 : decode cX13_goes 215 = .ok (.iadd, 1) := by decide +kernel
theorem dX13_goes_216 : decode cX13_goes 216 = .ok (.iastore, 1) := by decide +kernel
theorem dX13_goes_217 : decode cX13_goes 217 = .ok (.iinc 6 1, 3) := by decide +kernel
theorem dX13_goes_220 : decode cX13_goes 220 = .ok (.goto (-78), 3) := by decide +kernel
theorem dX13_goes_223 : decode cX13_goes 223 = .ok (.iinc 5 1, 3) := by decide +kernel
theorem dX13_goes_226 : decode cX13_goes 226 = .ok (.goto (-109), 3) := by decide +kernel
theorem dX13_goes_229 : decode cX13_goes 229 = .ok (.iconst 0, 1) := by decide +kernel
theorem dX13_goes_230 : decode cX13_goes 230 = .ok (.istore 5, 2) := by decide +kernel
theorem dX13_goes_232 : decode cX13_goes 232 = .ok (.iload 5, 2) := by decide +kernel
theorem dX13_goes_234 : decode cX13_goes 234 = .ok (.iconst 4, 1) := by decide +kernel
theorem dX13_goes_235 : decode cX13_goes 235 = .ok (.if_icmp .ge 37, 3) := by decide +kernel
theorem dX13_goes_238 : decode cX13_goes 238 = .ok (.aload_n 0, 1) := by decide +kernel
theorem dX13_goes_239 : decode cX13_goes 239 = .ok (.getfield 28, 3) := by decide +kernel
theorem dX13_goes_242 : decode cX13_goes 242 = .ok (.iload 5, 2) := by decide +kernel
theorem dX13_goes_244 : decode cX13_goes 244 = .ok (.aload_n 0, 1) := by decide +kernel
theorem dX13_goes_245 : decode cX13_goes 245 = .ok (.getfield 32, 3) := by decide +kernel
theorem dX13_goes_248 : decode cX13_goes 248 = .ok (.iload 5, 2) := by decide +kernel
theorem dX13_goes_250 : decode cX13_goes 250 = .ok (.laload, 1) := by decide +kernel
theorem dX13_goes_251 : decode cX13_goes 251 = .ok (.lastore, 1) := by decide +kernel
theorem dX13_goes_252 : decode cX13_goes 252 = .ok (.aload_n 0, 1) := by decide +kernel
theorem dX13_goes_253 : decode cX13_goes 253 = .ok (.getfield 35, 3) := by decide +kernel
theorem dX13_goes_256 : decode cX13_goes 256 = .ok (.iload 5, 2) := by decide +kernel
theorem dX13_goes_258 : decode cX13_goes 258 = .ok (.aload_n 0, 1) := by decide +kernel
theorem dX13_goes_259 : decode cX13_goes 259 = .ok (.getfield 38, 3) := by decide +kernel
theorem dX13_goes_262 : decode cX13_goes 262 = .ok (.iload 5, 2) := by decide +kernel
theorem dX13_goes_264 : decode cX13_goes 264 = .ok (.iaload, 1) := by decide +kernel
theorem dX13_goes_265 : decode cX13_goes 265 = .ok (.iastore, 1) := by decide +kernel
theorem dX13_goes_266 : decode cX13_goes 266 = .ok (.iinc 5 1, 3) := by decide +kernel
theorem dX13_goes_269 : decode cX13_goes 269 = .ok (.goto (-37), 3) := by decide +kernel
theorem dX13_goes_272 : decode cX13_goes 272 = .ok (.aload_n 0, 1) := by decide +kernel
theorem dX13_goes_273 : decode cX13_goes 273 = .ok (.dup, 1) := by decide +kernel
theorem dX13_goes_274 : decode cX13_goes 274 = .ok (.getfield 133, 3) := by decide +kernel
theorem dX13_goes_277 : decode cX13_goes 277 = .ok (.lload_n 2, 1) := by decide +kernel
theorem dX13_goes_278 : decode cX13_goes 278 = .ok (.lmul, 1) := by decide +kernel
theorem dX13_goes_279 : decode cX13_goes 279 = .ok (.putfield 133, 3) := by decide +kernel
theorem dX13_goes_282 : decode cX13_goes 282 = .ok (.iinc 4 1, 3) := by decide +kernel
theorem dX13_goes_285 : decode cX13_goes 285 = .ok (.goto (-177), 3) := by decide +kernel
theorem dX13_goes_288 : decode cX13_goes 288 = .ok (.return_, 1) := by decide +kernel
set_option maxRecDepth 20000 in
theorem ggX13_isSoon_X13_in : GoodIn wsX13_isSoon wsX13_in := goodIn_r _ [4] (by decide +kernel) (by decide +kernel)
set_option maxRecDepth 20000 in
theorem gX13_isSoon_X13_in : GoodIn wsX13_isSoon (va_wsS RX13 72 yX13_in wsX13_in) := goodIn_app (goodIn_of _ (by decide +kernel)) ggX13_isSoon_X13_in
theorem dX13_isSoon_0 : decode cX13_isSoon 0 = .ok (.iload_n 0, 1) := by decide +kernel
theorem dX13_isSoon_1 : decode cX13_isSoon 1 = .ok (.iconst 0, 1) := by decide +kernel
theorem dX13_isSoon_2 : decode cX13_isSoon 2 = .ok (.iconst 3, 1) := by decide +kernel
theorem dX13_isSoon_3 : decode cX13_isSoon 3 = .ok (.invokestatic 72, 3) := by decide +kernel
theorem dX13_isSoon_6 : decode cX13_isSoon 6 = .ok (.ireturn, 1) := by decide +kernel
set_option maxRecDepth 20000 in
theorem ggX13_isUnasked_X13_isSoon : GoodIn wsX13_isUnasked wsX13_isSoon := goodIn_r _ [4, 5, 6, 3, 7] (by decide +kernel) (by decide +kernel)
set_option maxRecDepth 20000 in
theorem gX13_isUnasked_X13_isSoon : GoodIn wsX13_isUnasked (va_wsS RX13 137 yX13_isSoon wsX13_isSoon) := goodIn_app (goodIn_of _ (by decide +kernel)) ggX13_isUnasked_X13_isSoon
set_option maxRecDepth 20000 in
theorem ggX13_isUnasked_X13_isSort : GoodIn wsX13_isUnasked wsX13_isSort := goodIn_r _ [10, 5, 6, 3, 7] (by decide +kernel) (by decide +kernel)
set_option maxRecDepth 20000 in
theorem gX13_isUnasked_X13_isSort : GoodIn wsX13_isUnasked (va_wsS RX13 122 yX13_isSort wsX13_isSort) := goodIn_app (goodIn_of _ (by decide +kernel)) ggX13_isUnasked_X13_isSort
set_option maxRecDepth 20000 in
theorem ggX13_isUnasked_X13_fails : GoodIn wsX13_isUnasked wsX13_fails := goodIn_r _ [14, 15, 16, 17, 18, 19, 20, 21, 22, 23, 24, 25, 26, 27, 28, 29, 30, 31, 32, 33, 34, 35, 36, 37, 38, 39] (by decide +kernel) (by decide +kernel)
set_option maxRecDepth 20000 in
theorem gX13_isUnasked_X13_fails : GoodIn wsX13_isUnasked (wsV RX13 80 RX13 yX13_fails wsX13_fails) := goodIn_app (goodIn_of _ (by decide +kernel)) ggX13_isUnasked_X13_fails
theorem dX13_isUnasked_0 : decode cX13_isUnasked 0 = .ok (.aload_n 0, 1) := by decide +kernel
theorem dX13_isUnasked_1 : decode cX13_isUnasked 1 = .ok (.iload_n 1, 1) := by decide +kernel
theorem dX13_isUnasked_2 : decode cX13_isUnasked 2 = .ok (.invokestatic 137, 3) := by decide +kernel
theorem dX13_isUnasked_5 : decode cX13_isUnasked 5 = .ok (.ifCond .eq 14, 3) := by decide +kernel
theorem dX13_isUnasked_8 : decode cX13_isUnasked 8 = .ok (.iload_n 2, 1) := by decide +kernel
theorem dX13_isUnasked_9 : decode cX13_isUnasked 9 = .ok (.invokestatic 122, 3) := by decide +kernel
theorem dX13_isUnasked_12 : decode cX13_isUnasked 12 = .ok (.ifCond .eq 7, 3) := by decide +kernel
theorem dX13_isUnasked_15 : decode cX13_isUnasked 15 = .ok (.iconst 0, 1) := by decide +kernel
theorem dX13_isUnasked_16 : decode cX13_isUnasked 16 = .ok (.goto 4, 3) := by decide +kernel
theorem dX13_isUnasked_19 : decode cX13_isUnasked 19 = .ok (.iconst 1, 1) := by decide +kernel
theorem dX13_isUnasked_20 : decode cX13_isUnasked 20 = .ok (.invokevirtual 80, 3) := by decide +kernel
theorem dX13_isUnasked_23 : decode cX13_isUnasked 23 = .ok (.ireturn, 1) := by decide +kernel
set_option maxRecDepth 20000 in
theorem ggX13_upper_X13_isUnasked : GoodIn wsX13_upper wsX13_isUnasked := goodIn_r _ [7, 8, 9, 6, 10, 11, 12, 13, 14, 15, 16, 17, 18, 19, 20, 21, 41, 42, 43, 44, 45, 46, 47, 48, 49, 50, 51, 52, 53, 54, 55, 56, 57, 58, 59, 60, 61, 62, 63, 64] (by decide +kernel) (by decide +kernel)
set_option maxRecDepth 20000 in
theorem gX13_upper_X13_isUnasked : GoodIn wsX13_upper (wsV RX13 140 RX13 yX13_isUnasked wsX13_isUnasked) := goodIn_app (goodIn_of _ (by decide +kernel)) ggX13_upper_X13_isUnasked
set_option maxRecDepth 20000 in
theorem ggX13_upper_X13_goes : GoodIn wsX13_upper wsX13_goes := goodIn_ca (goodIn_ca (goodIn_r _ [25, 1, 26, 27, 2, 28, 29, 30, 31, 32, 6, 33, 34, 35, 36, 37, 38, 39, 40, 41, 42, 43, 44, 45, 46, 47, 48, 49, 50, 51, 52, 53, 54, 55, 56, 57, 58, 59, 60, 61, 62, 63, 64] (by decide +kernel) (by decide +kernel)) (goodIn_sub (fun _ h => List.mem_cons_of_mem _ (List.mem_append_right _ h)) (by decide +kernel))) (goodIn_sub (fun _ h => List.mem_cons_of_mem _ (List.mem_append_left _ (List.mem_append_right _ h))) (by decide +kernel))
set_option maxRecDepth 20000 in
theorem gX13_upper_X13_goes : GoodIn wsX13_upper (wsV RX13 143 RX13 yX13_goes wsX13_goes) := goodIn_app (goodIn_of _ (by decide +kernel)) ggX13_upper_X13_goes
set_option maxRecDepth 20000 in
theorem ggX13_upper_X13_shared : GoodIn wsX13_upper wsX13_shared := goodIn_ca (goodIn_r _ [40] (by decide +kernel) (by decide +kernel)) (goodIn_sub (fun _ h => List.mem_cons_of_mem _ (List.mem_append_right _ h)) (by decide +kernel))
set_option maxRecDepth 20000 in
theorem gX13_upper_X13_shared : GoodIn wsX13_upper (va_wsS RX13 129 yX13_shared wsX13_shared) := goodIn_app (goodIn_of _ (by decide +kernel)) ggX13_upper_X13_shared
theorem dX13_upper_0 : decode cX13_upper 0 = .ok (.aload_n 0, 1) := by decide +kernel
theorem dX13_upper_1 : decode cX13_upper 1 = .ok (.iload_n 1, 1) := by decide +kernel
theorem dX13_upper_2 : decode cX13_upper 2 = .ok (.iload_n 2, 1) := by decide +kernel
theorem dX13_upper_3 : decode cX13_upper 3 = .ok (.invokevirtual 140, 3) := by decide +kernel
theorem dX13_upper_6 : decode cX13_upper 6 = .ok (.ifCond .eq 5, 3) := by decide +kernel
theorem dX13_upper_9 : decode cX13_upper 9 = .ok (.lconst 0, 1) := by decide +kernel
theorem dX13_upper_10 : decode cX13_upper 10 = .ok (.lreturn, 1) := by decide +kernel
theorem dX13_upper_11 : decode cX13_upper 11 = .ok (.aload_n 0, 1) := by decide +kernel
theorem dX13_upper_12 : decode cX13_upper 12 = .ok (.iload_n 1, 1) := by decide +kernel
theorem dX13_upper_13 : decode cX13_upper 13 = .ok (.invokevirtual 143, 3) := by decide +kernel
theorem dX13_upper_16 : decode cX13_upper 16 = .ok (.aload_n 0, 1) := by decide +kernel
theorem dX13_upper_17 : decode cX13_upper 17 = .ok (.getfield 28, 3) := by decide +kernel
theorem dX13_upper_20 : decode cX13_upper 20 = .ok (.iload_n 2, 1) := by decide +kernel
theorem dX13_upper_21 : decode cX13_upper 21 = .ok (.laload, 1) := by decide +kernel
theorem dX13_upper_22 : decode cX13_upper 22 = .ok (.aload_n 0, 1) := by decide +kernel
theorem dX13_upper_23 : decode cX13_upper 23 = .ok (.getfield 133, 3) := by decide +kernel
theorem dX13_upper_26 : decode cX13_upper 26 = .ok (.aload_n 0, 1) := by decide +kernel
theorem dX13_upper_27 : decode cX13_upper 27 = .ok (.getfield 28, 3) := by decide +kernel
theorem dX13_upper_30 : decode cX13_upper 30 = .ok (.iload_n 2, 1) := by decide +kernel
theorem dX13_upper_31 : decode cX13_upper 31 = .ok (.laload, 1) := by decide +kernel
theorem dX13_upper_32 : decode cX13_upper 32 = .ok (.invokestatic 129, 3) := by decide +kernel
theorem dX13_upper_35 : decode cX13_upper 35 = .ok (.ldiv, 1) := by decide +kernel
theorem dX13_upper_36 : decode cX13_upper 36 = .ok (.lreturn, 1) := by decide +kernel
set_option maxRecDepth 20000 in
theorem ggX13_lower_X13_isUnasked : GoodIn wsX13_lower wsX13_isUnasked := goodIn_r _ [7, 8, 9, 6, 10, 11, 12, 13, 14, 15, 16, 17, 18, 19, 20, 21, 41, 42, 43, 44, 45, 46, 47, 48, 49, 50, 51, 52, 53, 54, 55, 56, 57, 58, 59, 60, 61, 62, 63, 64] (by decide +kernel) (by decide +kernel)
set_option maxRecDepth 20000 in
theorem gX13_lower_X13_isUnasked : GoodIn wsX13_lower (wsV RX13 140 RX13 yX13_isUnasked wsX13_isUnasked) := goodIn_app (goodIn_of _ (by decide +kernel)) ggX13_lower_X13_isUnasked
set_option maxRecDepth 20000 in
theorem ggX13_lower_X13_goes : GoodIn wsX13_lower wsX13_goes := goodIn_ca (goodIn_ca (goodIn_r _ [25, 2, 26, 27, 1, 28, 29, 30, 31, 32, 6, 33, 34, 35, 36, 37, 38, 39, 40, 41, 42, 43, 44, 45, 46, 47, 48, 49, 50, 51, 52, 53, 54, 55, 56, 57, 58, 59, 60, 61, 62, 63, 64] (by decide +kernel) (by decide +kernel)) (goodIn_sub (fun _ h => List.mem_cons_of_mem _ (List.mem_append_right _ h)) (by decide +kernel))) (goodIn_sub (fun _ h => List.mem_cons_of_mem _ (List.mem_append_left _ (List.mem_append_right _ h))) (by decide +kernel))
set_option maxRecDepth 20000 in
theorem gX13_lower_X13_goes : GoodIn wsX13_lower (wsV RX13 143 RX13 yX13_goes wsX13_goes) := goodIn_app (goodIn_of _ (by decide +kernel)) ggX13_lower_X13_goes
set_option maxRecDepth 20000 in
theorem ggX13_lower_X13_shared : GoodIn wsX13_lower wsX13_shared := goodIn_ca (goodIn_r _ [40] (by decide +kernel) (by decide +kernel)) (goodIn_sub (fun _ h => List.mem_cons_of_mem _ (List.mem_append_right _ h)) (by decide +kernel))
set_option maxRecDepth 20000 in
theorem gX13_lower_X13_shared : GoodIn wsX13_lower (va_wsS RX13 129 yX13_shared wsX13_shared) := goodIn_app (goodIn_of _ (by decide +kernel)) ggX13_lower_X13_shared
theorem dX13_lower_0 : decode cX13_lower 0 = .ok (.aload_n 0, 1) := by decide +kernel
theorem dX13_lower_1 : decode cX13_lower 1 = .ok (.iload_n 1, 1) := by decide +kernel
theorem dX13_lower_2 : decode cX13_lower 2 = .ok (.iload_n 2, 1) := by decide +kernel
theorem dX13_lower_3 : decode cX13_lower 3 = .ok (.invokevirtual 140, 3) := by decide +kernel
theorem dX13_lower_6 : decode cX13_lower 6 = .ok (.ifCond .eq 5, 3) := by decide +kernel
theorem dX13_lower_9 : decode cX13_lower 9 = .ok (.lconst 0, 1) := by decide +kernel
theorem dX13_lower_10 : decode cX13_lower 10 = .ok (.lreturn, 1) := by decide +kernel
theorem dX13_lower_11 : decode cX13_lower 11 = .ok (.aload_n 0, 1) := by decide +kernel
theorem dX13_lower_12 : decode cX13_lower 12 = .ok (.iload_n 1, 1) := by decide +kernel
theorem dX13_lower_13 : decode cX13_lower 13 = .ok (.invokevirtual 143, 3) := by decide +kernel
theorem dX13_lower_16 : decode cX13_lower 16 = .ok (.aload_n 0, 1) := by decide +kernel
theorem dX13_lower_17 : decode cX13_lower 17 = .ok (.getfield 133, 3) := by decide +kernel
theorem dX13_lower_20 : decode cX13_lower 20 = .ok (.aload_n 0, 1) := by decide +kernel
theorem dX13_lower_21 : decode cX13_lower 21 = .ok (.getfield 133, 3) := by decide +kernel
theorem dX13_lower_24 : decode cX13_lower 24 = .ok (.aload_n 0, 1) := by decide +kernel
theorem dX13_lower_25 : decode cX13_lower 25 = .ok (.getfield 28, 3) := by decide +kernel
theorem dX13_lower_28 : decode cX13_lower 28 = .ok (.iload_n 2, 1) := by decide +kernel
theorem dX13_lower_29 : decode cX13_lower 29 = .ok (.laload, 1) := by decide +kernel
theorem dX13_lower_30 : decode cX13_lower 30 = .ok (.invokestatic 129, 3) := by decide +kernel
theorem dX13_lower_33 : decode cX13_lower 33 = .ok (.ldiv, 1) := by decide +kernel
theorem dX13_lower_34 : decode cX13_lower 34 = .ok (.lreturn, 1) := by decide +kernel
set_option maxRecDepth 20000 in
theorem ggX13_chanceNumerator_X13_upper : GoodIn wsX13_chanceNumerator wsX13_upper := goodIn_ca (goodIn_ca (goodIn_r _ [5, 6, 7, 8, 9, 10, 4, 11, 12, 13, 14, 15, 16, 17, 18, 19, 20, 21, 22, 23, 24, 25, 26, 27, 28, 29, 30, 31, 32, 33, 34, 35, 36, 37, 38, 39, 40, 41, 42, 43, 44, 45, 46, 47, 48, 49, 50, 51, 52, 53, 54, 55, 56, 57, 58, 59, 60, 61, 62, 63, 64, 65, 66, 67, 68] (by decide +kernel) (by decide +kernel)) (goodIn_sub (fun _ h => List.mem_cons_of_mem _ (List.mem_append_left _ (List.mem_append_right _ h))) (by decide +kernel))) (goodIn_sub (fun _ h => List.mem_cons_of_mem _ (List.mem_append_right _ h)) (by decide +kernel))
set_option maxRecDepth 20000 in
theorem gX13_chanceNumerator_X13_upper : GoodIn wsX13_chanceNumerator (wsV RX13 147 RX13 yX13_upper wsX13_upper) := goodIn_app (goodIn_of _ (by decide +kernel)) ggX13_chanceNumerator_X13_upper
theorem dX13_chanceNumerator_0 : decode cX13_chanceNumerator 0 = .ok (.aload_n 0, 1) := by decide +kernel
theorem dX13_chanceNumerator_1 : decode cX13_chanceNumerator 1 = .ok (.iload_n 1, 1) := by decide +kernel
theorem dX13_chanceNumerator_2 : decode cX13_chanceNumerator 2 = .ok (.iload_n 2, 1) := by decide +kernel
theorem dX13_chanceNumerator_3 : decode cX13_chanceNumerator 3 = .ok (.invokevirtual 147, 3) := by decide +kernel
theorem dX13_chanceNumerator_6 : decode cX13_chanceNumerator 6 = .ok (.lreturn, 1) := by decide +kernel
set_option maxRecDepth 20000 in
theorem ggX13_chanceDenominator_X13_lower : GoodIn wsX13_chanceDenominator wsX13_lower := goodIn_ca (goodIn_ca (goodIn_r _ [5, 6, 7, 8, 9, 10, 4, 11, 12, 13, 14, 15, 16, 17, 18, 19, 20, 21, 22, 23, 24, 25, 26, 27, 28, 29, 30, 31, 32, 33, 34, 35, 36, 37, 38, 39, 40, 41, 42, 43, 44, 45, 46, 47, 48, 49, 50, 51, 52, 53, 54, 55, 56, 57, 58, 59, 60, 61, 62, 63, 64, 65, 66, 67, 68] (by decide +kernel) (by decide +kernel)) (goodIn_sub (fun _ h => List.mem_cons_of_mem _ (List.mem_append_left _ (List.mem_append_right _ h))) (by decide +kernel))) (goodIn_sub (fun _ h => List.mem_cons_of_mem _ (List.mem_append_right _ h)) (by decide +kernel))
set_option maxRecDepth 20000 in
theorem gX13_chanceDenominator_X13_lower : GoodIn wsX13_chanceDenominator (wsV RX13 151 RX13 yX13_lower wsX13_lower) := goodIn_app (goodIn_of _ (by decide +kernel)) ggX13_chanceDenominator_X13_lower
theorem dX13_chanceDenominator_0 : decode cX13_chanceDenominator 0 = .ok (.aload_n 0, 1) := by decide +kernel
theorem dX13_chanceDenominator_1 : decode cX13_chanceDenominator 1 = .ok (.iload_n 1, 1) := by decide +kernel
theorem dX13_chanceDenominator_2 : decode cX13_chanceDenominator 2 = .ok (.iload_n 2, 1) := by decide +kernel
theorem dX13_chanceDenominator_3 : decode cX13_chanceDenominator 3 = .ok (.invokevirtual 151, 3) := by decide +kernel
theorem dX13_chanceDenominator_6 : decode cX13_chanceDenominator 6 = .ok (.lreturn, 1) := by decide +kernel
set_option maxRecDepth 20000 in
theorem ggX13_numeratorByBranches_X13_upper : GoodIn wsX13_numeratorByBranches wsX13_upper := goodIn_ca (goodIn_ca (goodIn_r _ [5, 6, 7, 8, 9, 10, 4, 11, 12, 13, 14, 15, 16, 17, 18, 19, 20, 21, 22, 23, 24, 25, 26, 27, 28, 29, 30, 31, 32, 33, 34, 35, 36, 37, 38, 39, 40, 41, 42, 43, 44, 45, 46, 47, 48, 49, 50, 51, 52, 53, 54, 55, 56, 57, 58, 59, 60, 61, 62, 63, 64, 65, 66, 67, 68] (by decide +kernel) (by decide +kernel)) (goodIn_sub (fun _ h => List.mem_cons_of_mem _ (List.mem_append_left _ (List.mem_append_right _ h))) (by decide +kernel))) (goodIn_sub (fun _ h => List.mem_cons_of_mem _ (List.mem_append_right _ h)) (by decide +kernel))
set_option maxRecDepth 20000 in
theorem gX13_numeratorByBranches_X13_upper : GoodIn wsX13_numeratorByBranches (wsV RX13 147 RX13 yX13_upper wsX13_upper) := goodIn_app (goodIn_of _ (by decide +kernel)) ggX13_numeratorByBranches_X13_upper
theorem dX13_numeratorByBranches_0 : decode cX13_numeratorByBranches 0 = .ok (.aload_n 0, 1) := by decide +kernel
theorem dX13_numeratorByBranches_1 : decode cX13_numeratorByBranches 1 = .ok (.iload_n 1, 1) := by decide +kernel
theorem dX13_numeratorByBranches_2 : decode cX13_numeratorByBranches 2 = .ok (.iload_n 2, 1) := by decide +kernel
theorem dX13_numeratorByBranches_3 : decode cX13_numeratorByBranches 3 = .ok (.invokevirtual 147, 3) := by decide +kernel
theorem dX13_numeratorByBranches_6 : decode cX13_numeratorByBranches 6 = .ok (.lreturn, 1) := by decide +kernel
set_option maxRecDepth 20000 in
theorem ggX13_denominatorByBranches_X13_lower : GoodIn wsX13_denominatorByBranches wsX13_lower := goodIn_ca (goodIn_ca (goodIn_r _ [5, 6, 7, 8, 9, 10, 4, 11, 12, 13, 14, 15, 16, 17, 18, 19, 20, 21, 22, 23, 24, 25, 26, 27, 28, 29, 30, 31, 32, 33, 34, 35, 36, 37, 38, 39, 40, 41, 42, 43, 44, 45, 46, 47, 48, 49, 50, 51, 52, 53, 54, 55, 56, 57, 58, 59, 60, 61, 62, 63, 64, 65, 66, 67, 68] (by decide +kernel) (by decide +kernel)) (goodIn_sub (fun _ h => List.mem_cons_of_mem _ (List.mem_append_left _ (List.mem_append_right _ h))) (by decide +kernel))) (goodIn_sub (fun _ h => List.mem_cons_of_mem _ (List.mem_append_right _ h)) (by decide +kernel))
set_option maxRecDepth 20000 in
theorem gX13_denominatorByBranches_X13_lower : GoodIn wsX13_denominatorByBranches (wsV RX13 151 RX13 yX13_lower wsX13_lower) := goodIn_app (goodIn_of _ (by decide +kernel)) ggX13_denominatorByBranches_X13_lower
theorem dX13_denominatorByBranches_0 : decode cX13_denominatorByBranches 0 = .ok (.aload_n 0, 1) := by decide +kernel
theorem dX13_denominatorByBranches_1 : decode cX13_denominatorByBranches 1 = .ok (.iload_n 1, 1) := by decide +kernel
theorem dX13_denominatorByBranches_2 : decode cX13_denominatorByBranches 2 = .ok (.iload_n 2, 1) := by decide +kernel
theorem dX13_denominatorByBranches_3 : decode cX13_denominatorByBranches 3 = .ok (.invokevirtual 151, 3) := by decide +kernel
theorem dX13_denominatorByBranches_6 : decode cX13_denominatorByBranches 6 = .ok (.lreturn, 1) := by decide +kernel
set_option maxRecDepth 20000 in
theorem ggX13_sequenceCount_X13_isUnasked : GoodIn wsX13_sequenceCount wsX13_isUnasked := goodIn_r _ [6, 7, 8, 5, 9, 10, 11, 12, 13, 14, 15, 16, 17, 18, 19, 20, 41, 42, 43, 44, 45, 46, 47, 48, 49, 50, 51, 52, 53, 54, 55, 56, 57, 58, 59, 60, 61, 62, 63, 64] (by decide +kernel) (by decide +kernel)
set_option maxRecDepth 20000 in
theorem gX13_sequenceCount_X13_isUnasked : GoodIn wsX13_sequenceCount (wsV RX13 140 RX13 yX13_isUnasked wsX13_isUnasked) := goodIn_app (goodIn_of _ (by decide +kernel)) ggX13_sequenceCount_X13_isUnasked
set_option maxRecDepth 20000 in
theorem ggX13_sequenceCount_X13_goes : GoodIn wsX13_sequenceCount wsX13_goes := goodIn_ca (goodIn_ca (goodIn_r _ [24, 25, 26, 1, 27, 28, 29, 30, 31, 32, 5, 33, 34, 35, 36, 37, 38, 39, 40, 41, 42, 43, 44, 45, 46, 47, 48, 49, 50, 51, 52, 53, 54, 55, 56, 57, 58, 59, 60, 61, 62, 63, 64] (by decide +kernel) (by decide +kernel)) (goodIn_sub (fun _ h => List.mem_cons_of_mem _ (List.mem_append_right _ h)) (by decide +kernel))) (goodIn_sub (fun _ h => List.mem_cons_of_mem _ (List.mem_append_left _ (List.mem_append_right _ h))) (by decide +kernel))
set_option maxRecDepth 20000 in
theorem gX13_sequenceCount_X13_goes : GoodIn wsX13_sequenceCount (wsV RX13 143 RX13 yX13_goes wsX13_goes) := goodIn_app (goodIn_of _ (by decide +kernel)) ggX13_sequenceCount_X13_goes
theorem dX13_sequenceCount_0 : decode cX13_sequenceCount 0 = .ok (.aload_n 0, 1) := by decide +kernel
theorem dX13_sequenceCount_1 : decode cX13_sequenceCount 1 = .ok (.iload_n 1, 1) := by decide +kernel
theorem dX13_sequenceCount_2 : decode cX13_sequenceCount 2 = .ok (.iload_n 2, 1) := by decide +kernel
theorem dX13_sequenceCount_3 : decode cX13_sequenceCount 3 = .ok (.invokevirtual 140, 3) := by decide +kernel
theorem dX13_sequenceCount_6 : decode cX13_sequenceCount 6 = .ok (.ifCond .eq 5, 3) := by decide +kernel
theorem dX13_sequenceCount_9 : decode cX13_sequenceCount 9 = .ok (.iconst 0, 1) := by decide +kernel
theorem dX13_sequenceCount_10 : decode cX13_sequenceCount 10 = .ok (.ireturn, 1) := by decide +kernel
theorem dX13_sequenceCount_11 : decode cX13_sequenceCount 11 = .ok (.aload_n 0, 1) := by decide +kernel
theorem dX13_sequenceCount_12 : decode cX13_sequenceCount 12 = .ok (.iload_n 1, 1) := by decide +kernel
theorem dX13_sequenceCount_13 : decode cX13_sequenceCount 13 = .ok (.invokevirtual 143, 3) := by decide +kernel
theorem dX13_sequenceCount_16 : decode cX13_sequenceCount 16 = .ok (.aload_n 0, 1) := by decide +kernel
theorem dX13_sequenceCount_17 : decode cX13_sequenceCount 17 = .ok (.getfield 35, 3) := by decide +kernel
theorem dX13_sequenceCount_20 : decode cX13_sequenceCount 20 = .ok (.iload_n 2, 1) := by decide +kernel
theorem dX13_sequenceCount_21 : decode cX13_sequenceCount 21 = .ok (.iaload, 1) := by decide +kernel
theorem dX13_sequenceCount_22 : decode cX13_sequenceCount 22 = .ok (.ireturn, 1) := by decide +kernel
set_option maxRecDepth 20000 in
theorem ggX13_best_X13_goes : GoodIn wsX13_best wsX13_goes := goodIn_ca (goodIn_ca (goodIn_r _ [6, 1, 7, 8, 9, 10, 11, 12, 13, 14, 5, 15, 16, 17, 18, 19, 20, 21, 22, 23, 24, 25, 26, 27, 28, 29, 30, 31, 32, 33, 34, 35, 36, 37, 38, 39, 40, 41, 42, 43, 44, 45, 46] (by decide +kernel) (by decide +kernel)) (goodIn_sub (fun _ h => List.mem_cons_of_mem _ (List.mem_append_right _ h)) (by decide +kernel))) (goodIn_sub (fun _ h => List.mem_cons_of_mem _ (List.mem_append_left _ (List.mem_append_right _ h))) (by decide +kernel))
set_option maxRecDepth 20000 in
theorem gX13_best_X13_goes : GoodIn wsX13_best (wsV RX13 143 RX13 yX13_goes wsX13_goes) := goodIn_app (goodIn_of _ (by decide +kernel)) ggX13_best_X13_goes
theorem dX13_best_0 : decode cX13_best 0 = .ok (.aload_n 0, 1) := by decide +kernel
theorem dX13_best_1 : decode cX13_best 1 = .ok (.iload_n 1, 1) := by decide +kernel
theorem dX13_best_2 : decode cX13_best 2 = .ok (.invokevirtual 143, 3) := by decide +kernel
theorem dX13_best_5 : decode cX13_best 5 = .ok (.iconst 0, 1) := by decide +kernel
theorem dX13_best_6 : decode cX13_best 6 = .ok (.istore_n 2, 1) := by decide +kernel
theorem dX13_best_7 : decode cX13_best 7 = .ok (.iconst 1, 1) := by decide +kernel
theorem dX13_best_8 : decode cX13_best 8 = .ok (.istore_n 3, 1) := by decide +kernel
theorem dX13_best_9 : decode cX13_best 9 = .ok (.iload_n 3, 1) := by decide +kernel
theorem dX13_best_10 : decode cX13_best 10 = .ok (.iconst 4, 1) := by decide +kernel
theorem dX13_best_11 : decode cX13_best 11 = .ok (.if_icmp .ge 27, 3) := by decide +kernel
theorem dX13_best_14 : decode cX13_best 14 = .ok (.aload_n 0, 1) := by decide +kernel
theorem dX13_best_15 : decode cX13_best 15 = .ok (.getfield 28, 3) := by decide +kernel
theorem dX13_best_18 : decode cX13_best 18 = .ok (.iload_n 3, 1) := by decide +kernel
theorem dX13_best_19 : decode cX13_best 19 = .ok (.laload, 1) := by decide +kernel
theorem dX13_best_20 : decode cX13_best 20 = .ok (.aload_n 0, 1) := by decide +kernel
theorem dX13_best_21 : decode cX13_best 21 = .ok (.getfield 28, 3) := by decide +kernel
theorem dX13_best_24 : decode cX13_best 24 = .ok (.iload_n 2, 1) := by decide +kernel
theorem dX13_best_25 : decode cX13_best 25 = .ok (.laload, 1) := by decide +kernel
theorem dX13_best_26 : decode cX13_best 26 = .ok (.lcmp, 1) := by decide +kernel
theorem dX13_best_27 : decode cX13_best 27 = .ok (.ifCond .le 5, 3) := by decide +kernel
theorem dX13_best_30 : decode cX13_best 30 = .ok (.iload_n 3, 1) := by decide +kernel
theorem dX13_best_31 : decode cX13_best 31 = .ok (.istore_n 2, 1) := by decide +kernel
theorem dX13_best_32 : decode cX13_best 32 = .ok (.iinc 3 1, 3) := by decide +kernel
theorem dX13_best_35 : decode cX13_best 35 = .ok (.goto (-26), 3) := by decide +kernel
theorem dX13_best_38 : decode cX13_best 38 = .ok (.iload_n 2, 1) := by decide +kernel
theorem dX13_best_39 : decode cX13_best 39 = .ok (.ireturn, 1) := by decide +kernel
set_option maxRecDepth 20000 in
theorem ggX13_likeliest_X13_isSoon : GoodIn wsX13_likeliest wsX13_isSoon := goodIn_r _ [4, 5, 6, 3, 7] (by decide +kernel) (by decide +kernel)
set_option maxRecDepth 20000 in
theorem gX13_likeliest_X13_isSoon : GoodIn wsX13_likeliest (va_wsS RX13 137 yX13_isSoon wsX13_isSoon) := goodIn_app (goodIn_of _ (by decide +kernel)) ggX13_likeliest_X13_isSoon
set_option maxRecDepth 20000 in
theorem ggX13_likeliest_X13_fails : GoodIn wsX13_likeliest wsX13_fails := goodIn_r _ [11, 12, 38, 39, 40, 41, 42, 43, 44, 45, 46, 47, 48, 49, 50, 51, 52, 53, 54, 55, 56, 57, 58, 59, 60, 61] (by decide +kernel) (by decide +kernel)
set_option maxRecDepth 20000 in
theorem gX13_likeliest_X13_fails : GoodIn wsX13_likeliest (wsV RX13 80 RX13 yX13_fails wsX13_fails) := goodIn_app (goodIn_of _ (by decide +kernel)) ggX13_likeliest_X13_fails
set_option maxRecDepth 20000 in
theorem ggX13_likeliest_X13_best : GoodIn wsX13_likeliest wsX13_best := goodIn_ca (goodIn_ca (goodIn_r _ [16, 17, 18, 19, 20, 3, 21, 22, 23, 24, 25, 26, 27, 28, 29, 30, 31, 32, 33, 34, 35, 36, 37, 38, 39, 40, 41, 42, 43, 44, 45, 46, 47, 48, 49, 50, 51, 52, 53, 54, 55, 56, 57, 58, 59, 60, 61] (by decide +kernel) (by decide +kernel)) (goodIn_sub (fun _ h => List.mem_cons_of_mem _ (List.mem_append_left _ (List.mem_append_right _ h))) (by decide +kernel))) (goodIn_sub (fun _ h => List.mem_cons_of_mem _ (List.mem_append_right _ h)) (by decide +kernel))
set_option maxRecDepth 20000 in
theorem gX13_likeliest_X13_best : GoodIn wsX13_likeliest (wsV RX13 154 RX13 yX13_best wsX13_best) := goodIn_app (goodIn_of _ (by decide +kernel)) ggX13_likeliest_X13_best
theorem dX13_likeliest_0 : decode cX13_likeliest 0 = .ok (.aload_n 0, 1) := by decide +kernel
theorem dX13_likeliest_1 : decode cX13_likeliest 1 = .ok (.iload_n 1, 1) := by decide +kernel
theorem dX13_likeliest_2 : decode cX13_likeliest 2 = .ok (.invokestatic 137, 3) := by decide +kernel
theorem dX13_likeliest_5 : decode cX13_likeliest 5 = .ok (.ifCond .eq 7, 3) := by decide +kernel
theorem dX13_likeliest_8 : decode cX13_likeliest 8 = .ok (.iconst 0, 1) := by decide +kernel
theorem dX13_likeliest_9 : decode cX13_likeliest 9 = .ok (.goto 4, 3) := by decide +kernel
theorem dX13_likeliest_12 : decode cX13_likeliest 12 = .ok (.iconst 1, 1) := by decide +kernel
theorem dX13_likeliest_13 : decode cX13_likeliest 13 = .ok (.invokevirtual 80, 3) := by decide +kernel
theorem dX13_likeliest_16 : decode cX13_likeliest 16 = .ok (.ifCond .eq 7, 3) := by decide +kernel
theorem dX13_likeliest_19 : decode cX13_likeliest 19 = .ok (.iconst 0, 1) := by decide +kernel
theorem dX13_likeliest_20 : decode cX13_likeliest 20 = .ok (.goto 8, 3) := by decide +kernel
theorem dX13_likeliest_23 : decode cX13_likeliest 23 = .ok (.aload_n 0, 1) := by decide +kernel
theorem dX13_likeliest_24 : decode cX13_likeliest 24 = .ok (.iload_n 1, 1) := by decide +kernel
theorem dX13_likeliest_25 : decode cX13_likeliest 25 = .ok (.invokevirtual 154, 3) := by decide +kernel
theorem dX13_likeliest_28 : decode cX13_likeliest 28 = .ok (.ireturn, 1) := by decide +kernel
set_option maxRecDepth 20000 in
theorem ggX13_shown_X13_regions : GoodIn wsX13_shown wsX13_regions := goodIn_ca (goodIn_r _ [5, 6, 7, 8, 9, 4, 10, 11, 12, 13, 14, 15, 16, 17, 18, 19, 20, 21, 22, 23, 24, 25, 26, 27, 28, 29, 30, 31, 32, 33, 34, 35, 36, 37, 38, 39, 40, 41, 42, 43, 44, 45, 46, 47, 48, 49, 50] (by decide +kernel) (by decide +kernel)) (goodIn_sub (fun _ h => List.mem_cons_of_mem _ (List.mem_append_right _ h)) (by decide +kernel))
set_option maxRecDepth 20000 in
theorem gX13_shown_X13_regions : GoodIn wsX13_shown (wsV RX13 116 RX13 yX13_regions wsX13_regions) := goodIn_app (goodIn_of _ (by decide +kernel)) ggX13_shown_X13_regions
theorem dX13_shown_0 : decode cX13_shown 0 = .ok (.aload_n 0, 1) := by decide +kernel
theorem dX13_shown_1 : decode cX13_shown 1 = .ok (.invokevirtual 116, 3) := by decide +kernel
theorem dX13_shown_4 : decode cX13_shown 4 = .ok (.istore_n 1, 1) := by decide +kernel
theorem dX13_shown_5 : decode cX13_shown 5 = .ok (.iload_n 1, 1) := by decide +kernel
theorem dX13_shown_6 : decode cX13_shown 6 = .ok (.iconst 1, 1) := by decide +kernel
theorem dX13_shown_7 : decode cX13_shown 7 = .ok (.if_icmp .ne 7, 3) := by decide +kernel
theorem dX13_shown_10 : decode cX13_shown 10 = .ok (.iconst 0, 1) := by decide +kernel
theorem dX13_shown_11 : decode cX13_shown 11 = .ok (.goto 23, 3) := by decide +kernel
theorem dX13_shown_14 : decode cX13_shown 14 = .ok (.iload_n 1, 1) := by decide +kernel
theorem dX13_shown_15 : decode cX13_shown 15 = .ok (.iconst 4, 1) := by decide +kernel
theorem dX13_shown_16 : decode cX13_shown 16 = .ok (.if_icmp .ge 7, 3) := by decide +kernel
theorem dX13_shown_19 : decode cX13_shown 19 = .ok (.iconst 1, 1) := by decide +kernel
theorem dX13_shown_20 : decode cX13_shown 20 = .ok (.goto 14, 3) := by decide +kernel
theorem dX13_shown_23 : decode cX13_shown 23 = .ok (.iload_n 1, 1) := by decide +kernel
theorem dX13_shown_24 : decode cX13_shown 24 = .ok (.bipush 8, 2) := by decide +kernel
theorem dX13_shown_26 : decode cX13_shown 26 = .ok (.if_icmp .ge 7, 3) := by decide +kernel
theorem dX13_shown_29 : decode cX13_shown 29 = .ok (.iconst 2, 1) := by decide +kernel
theorem dX13_shown_30 : decode cX13_shown 30 = .ok (.goto 4, 3) := by decide +kernel
theorem dX13_shown_33 : decode cX13_shown 33 = .ok (.iconst 3, 1) := by decide +kernel
theorem dX13_shown_34 : decode cX13_shown 34 = .ok (.ireturn, 1) := by decide +kernel
set_option maxRecDepth 20000 in
theorem ggX13_shownWeather_X13_shown : GoodIn wsX13_shownWeather wsX13_shown := goodIn_ca (goodIn_r _ [6, 7, 8, 9, 5, 10, 11, 12, 13, 14, 15, 16, 17, 18, 19, 20, 21, 22, 23, 24, 25, 26, 27, 28, 29, 30, 31, 32, 33, 34, 35, 36, 37, 38, 39, 40, 41, 42, 43, 44, 45, 46, 47, 48, 49, 50, 51, 52, 53, 54, 55] (by decide +kernel) (by decide +kernel)) (goodIn_sub (fun _ h => List.mem_cons_of_mem _ (List.mem_append_right _ h)) (by decide +kernel))
set_option maxRecDepth 20000 in
theorem gX13_shownWeather_X13_shown : GoodIn wsX13_shownWeather (wsV RX13 157 RX13 yX13_shown wsX13_shown) := goodIn_app (goodIn_of _ (by decide +kernel)) ggX13_shownWeather_X13_shown
theorem dX13_shownWeather_0 : decode cX13_shownWeather 0 = .ok (.aload_n 0, 1) := by decide +kernel
theorem dX13_shownWeather_1 : decode cX13_shownWeather 1 = .ok (.iconst 0, 1) := by decide +kernel
theorem dX13_shownWeather_2 : decode cX13_shownWeather 2 = .ok (.putfield 58, 3) := by decide +kernel
theorem dX13_shownWeather_5 : decode cX13_shownWeather 5 = .ok (.aload_n 0, 1) := by decide +kernel
theorem dX13_shownWeather_6 : decode cX13_shownWeather 6 = .ok (.invokevirtual 157, 3) := by decide +kernel
theorem dX13_shownWeather_9 : decode cX13_shownWeather 9 = .ok (.ireturn, 1) := by decide +kernel
theorem dX13_of_0 : decode cX13_of 0 = .ok (.aload_n 0, 1) := by decide +kernel
theorem dX13_of_1 : decode cX13_of 1 = .ok (.getfield 7, 3) := by decide +kernel
theorem dX13_of_4 : decode cX13_of 4 = .ok (.bipush 48, 2) := by decide +kernel
theorem dX13_of_6 : decode cX13_of 6 = .ok (.iconst 2, 1) := by decide +kernel
theorem dX13_of_7 : decode cX13_of 7 = .ok (.iload_n 1, 1) := by decide +kernel
theorem dX13_of_8 : decode cX13_of 8 = .ok (.imul, 1) := by decide +kernel
theorem dX13_of_9 : decode cX13_of 9 = .ok (.iadd, 1) := by decide +kernel
theorem dX13_of_10 : decode cX13_of 10 = .ok (.iload_n 2, 1) := by decide +kernel
theorem dX13_of_11 : decode cX13_of 11 = .ok (.iadd, 1) := by decide +kernel
theorem dX13_of_12 : decode cX13_of 12 = .ok (.iaload, 1) := by decide +kernel
theorem dX13_of_13 : decode cX13_of 13 = .ok (.ireturn, 1) := by decide +kernel
set_option maxRecDepth 20000 in
theorem ggX13_isForecast_X13_in : GoodIn wsX13_isForecast wsX13_in := goodIn_r _ [5] (by decide +kernel) (by decide +kernel)
set_option maxRecDepth 20000 in
theorem gX13_isForecast_X13_in : GoodIn wsX13_isForecast (va_wsS RX13 72 yX13_in wsX13_in) := goodIn_app (goodIn_of _ (by decide +kernel)) ggX13_isForecast_X13_in
theorem dX13_isForecast_0 : decode cX13_isForecast 0 = .ok (.iload_n 1, 1) := by decide +kernel
theorem dX13_isForecast_1 : decode cX13_isForecast 1 = .ok (.iconst 0, 1) := by decide +kernel
theorem dX13_isForecast_2 : decode cX13_isForecast 2 = .ok (.aload_n 0, 1) := by decide +kernel
theorem dX13_isForecast_3 : decode cX13_isForecast 3 = .ok (.getfield 7, 3) := by decide +kernel
theorem dX13_isForecast_6 : decode cX13_isForecast 6 = .ok (.iconst 3, 1) := by decide +kernel
theorem dX13_isForecast_7 : decode cX13_isForecast 7 = .ok (.iaload, 1) := by decide +kernel
theorem dX13_isForecast_8 : decode cX13_isForecast 8 = .ok (.iconst 1, 1) := by decide +kernel
theorem dX13_isForecast_9 : decode cX13_isForecast 9 = .ok (.isub, 1) := by decide +kernel
theorem dX13_isForecast_10 : decode cX13_isForecast 10 = .ok (.invokestatic 72, 3) := by decide +kernel
theorem dX13_isForecast_13 : decode cX13_isForecast 13 = .ok (.ireturn, 1) := by decide +kernel
set_option maxRecDepth 20000 in
theorem ggX13_issue_X13_in : GoodIn wsX13_issue wsX13_in := goodIn_r _ [5] (by decide +kernel) (by decide +kernel)
set_option maxRecDepth 20000 in
theorem gX13_issue_X13_in : GoodIn wsX13_issue (va_wsS RX13 72 yX13_in wsX13_in) := goodIn_app (goodIn_of _ (by decide +kernel)) ggX13_issue_X13_in
set_option maxRecDepth 20000 in
theorem ggX13_issue_X13_fails : GoodIn wsX13_issue wsX13_fails := goodIn_r _ [9, 10, 45, 46, 47, 48, 49, 50, 51, 52, 53, 54, 55, 56, 57, 58, 59, 60, 61, 62, 63, 64, 65, 66, 67, 68] (by decide +kernel) (by decide +kernel)
set_option maxRecDepth 20000 in
theorem gX13_issue_X13_fails : GoodIn wsX13_issue (wsV RX13 80 RX13 yX13_fails wsX13_fails) := goodIn_app (goodIn_of _ (by decide +kernel)) ggX13_issue_X13_fails
set_option maxRecDepth 20000 in
theorem ggX13_issue_X13_keeps : GoodIn wsX13_issue wsX13_keeps := goodIn_ca (goodIn_r _ [14, 10, 15, 16, 17, 18, 19, 4, 20, 45, 46, 47, 48, 49, 50, 51, 52, 53, 54, 55, 56, 57, 58, 59, 60, 61, 62, 63, 64, 65, 66, 67, 68] (by decide +kernel) (by decide +kernel)) (goodIn_sub (fun _ h => List.mem_cons_of_mem _ (List.mem_append_left _ (List.mem_append_right _ h))) (by decide +kernel))
set_option maxRecDepth 20000 in
theorem gX13_issue_X13_keeps : GoodIn wsX13_issue (wsV RX13 84 RX13 yX13_keeps wsX13_keeps) := goodIn_app (goodIn_of _ (by decide +kernel)) ggX13_issue_X13_keeps
set_option maxRecDepth 20000 in
theorem ggX13_issue_X13_best : GoodIn wsX13_issue wsX13_best := goodIn_ca (goodIn_ca (goodIn_r _ [24, 25, 26, 27, 28, 4, 29, 1, 30, 31, 32, 33, 34, 35, 36, 37, 38, 39, 40, 41, 42, 43, 44, 45, 46, 47, 48, 49, 50, 51, 52, 53, 54, 55, 56, 57, 58, 59, 60, 61, 62, 63, 64, 65, 66, 67, 68] (by decide +kernel) (by decide +kernel)) (goodIn_sub (fun _ h => List.mem_cons_of_mem _ (List.mem_append_left _ (List.mem_append_right _ h))) (by decide +kernel))) (goodIn_sub (fun _ h => List.mem_cons_of_mem _ (List.mem_append_right _ h)) (by decide +kernel))
set_option maxRecDepth 20000 in
theorem gX13_issue_X13_best : GoodIn wsX13_issue (wsV RX13 154 RX13 yX13_best wsX13_best) := goodIn_app (goodIn_of _ (by decide +kernel)) ggX13_issue_X13_best
theorem dX13_issue_0 : decode cX13_issue 0 = .ok (.aload_n 0, 1) := by decide +kernel
theorem dX13_issue_1 : decode cX13_issue 1 = .ok (.iload_n 1, 1) := by decide +kernel
theorem dX13_issue_2 : decode cX13_issue 2 = .ok (.iconst 1, 1) := by decide +kernel
theorem dX13_issue_3 : decode cX13_issue 3 = .ok (.iconst 3, 1) := by decide +kernel
theorem dX13_issue_4 : decode cX13_issue 4 = .ok (.invokestatic 72, 3) := by decide +kernel
theorem dX13_issue_7 : decode cX13_issue 7 = .ok (.ifCond .ne 7, 3) := by decide +kernel
theorem dX13_issue_10 : decode cX13_issue 10 = .ok (.iconst 1, 1) := by decide +kernel
theorem dX13_issue_11 : decode cX13_issue 11 = .ok (.goto 19, 3) := by decide +kernel
theorem dX13_issue_14 : decode cX13_issue 14 = .ok (.aload_n 0, 1) := by decide +kernel
theorem dX13_issue_15 : decode cX13_issue 15 = .ok (.getfield 7, 3) := by decide +kernel
theorem dX13_issue_18 : decode cX13_issue 18 = .ok (.iconst 3, 1) := by decide +kernel
theorem dX13_issue_19 : decode cX13_issue 19 = .ok (.iaload, 1) := by decide +kernel
theorem dX13_issue_20 : decode cX13_issue 20 = .ok (.bipush 6, 2) := by decide +kernel
theorem dX13_issue_22 : decode cX13_issue 22 = .ok (.if_icmp .ne 7, 3) := by decide +kernel
theorem dX13_issue_25 : decode cX13_issue 25 = .ok (.iconst 2, 1) := by decide +kernel
theorem dX13_issue_26 : decode cX13_issue 26 = .ok (.goto 4, 3) := by decide +kernel
theorem dX13_issue_29 : decode cX13_issue 29 = .ok (.iconst 0, 1) := by decide +kernel
theorem dX13_issue_30 : decode cX13_issue 30 = .ok (.invokevirtual 80, 3) := by decide +kernel
theorem dX13_issue_33 : decode cX13_issue 33 = .ok (.ifCond .eq 5, 3) := by decide +kernel
theorem dX13_issue_36 : decode cX13_issue 36 = .ok (.iconst 0, 1) := by decide +kernel
theorem dX13_issue_37 : decode cX13_issue 37 = .ok (.ireturn, 1) := by decide +kernel
theorem dX13_issue_38 : decode cX13_issue 38 = .ok (.aload_n 0, 1) := by decide +kernel
theorem dX13_issue_39 : decode cX13_issue 39 = .ok (.aload_n 0, 1) := by decide +kernel
theorem dX13_issue_40 : decode cX13_issue 40 = .ok (.getfield 7, 3) := by decide +kernel
theorem dX13_issue_43 : decode cX13_issue 43 = .ok (.invokevirtual 84, 3) := by decide +kernel
theorem dX13_issue_46 : decode cX13_issue 46 = .ok (.bipush 48, 2) := by decide +kernel
theorem dX13_issue_48 : decode cX13_issue 48 = .ok (.iconst 2, 1) := by decide +kernel
theorem dX13_issue_49 : decode cX13_issue 49 = .ok (.aload_n 0, 1) := by decide +kernel
theorem dX13_issue_50 : decode cX13_issue 50 = .ok (.getfield 7, 3) := by decide +kernel
theorem dX13_issue_53 : decode cX13_issue 53 = .ok (.iconst 3, 1) := by decide +kernel
theorem dX13_issue_54 : decode cX13_issue 54 = .ok (.iaload, 1) := by decide +kernel
theorem dX13_issue_55 : decode cX13_issue 55 = .ok (.imul, 1) := by decide +kernel
theorem dX13_issue_56 : decode cX13_issue 56 = .ok (.iadd, 1) := by decide +kernel
theorem dX13_issue_57 : decode cX13_issue 57 = .ok (.istore_n 2, 1) := by decide +kernel
theorem dX13_issue_58 : decode cX13_issue 58 = .ok (.aload_n 0, 1) := by decide +kernel
theorem dX13_issue_59 : decode cX13_issue 59 = .ok (.getfield 7, 3) := by decide +kernel
theorem dX13_issue_62 : decode cX13_issue 62 = .ok (.iload_n 2, 1) := by decide +kernel
theorem dX13_issue_63 : decode cX13_issue 63 = .ok (.aload_n 0, 1) := by decide +kernel
theorem dX13_issue_64 : decode cX13_issue 64 = .ok (.getfield 7, 3) := by decide +kernel
theorem dX13_issue_67 : decode cX13_issue 67 = .ok (.iconst 0, 1) := by decide +kernel
theorem dX13_issue_68 : decode cX13_issue 68 = .ok (.iaload, 1) := by decide +kernel
theorem dX13_issue_69 : decode cX13_issue 69 = .ok (.iload_n 1, 1) := by decide +kernel
theorem dX13_issue_70 : decode cX13_issue 70 = .ok (.iadd, 1) := by decide +kernel
theorem dX13_issue_71 : decode cX13_issue 71 = .ok (.iastore, 1) := by decide +kernel
theorem dX13_issue_72 : decode cX13_issue 72 = .ok (.aload_n 0, 1) := by decide +kernel
theorem dX13_issue_73 : decode cX13_issue 73 = .ok (.getfield 7, 3) := by decide +kernel
theorem dX13_issue_76 : decode cX13_issue 76 = .ok (.iload_n 2, 1) := by decide +kernel
theorem dX13_issue_77 : decode cX13_issue 77 = .ok (.iconst 1, 1) := by decide +kernel
theorem dX13_issue_78 : decode cX13_issue 78 = .ok (.iadd, 1) := by decide +kernel
theorem dX13_issue_79 : decode cX13_issue 79 = .ok (.aload_n 0, 1) := by decide +kernel
theorem dX13_issue_80 : decode cX13_issue 80 = .ok (.iload_n 1, 1) := by decide +kernel
theorem dX13_issue_81 : decode cX13_issue 81 = .ok (.invokevirtual 154, 3) := by decide +kernel
theorem dX13_issue_84 : decode cX13_issue 84 = .ok (.iastore, 1) := by decide +kernel
theorem dX13_issue_85 : decode cX13_issue 85 = .ok (.aload_n 0, 1) := by decide +kernel
theorem dX13_issue_86 : decode cX13_issue 86 = .ok (.getfield 7, 3) := by decide +kernel
theorem dX13_issue_89 : decode cX13_issue 89 = .ok (.iconst 3, 1) := by decide +kernel
theorem dX13_issue_90 : decode cX13_issue 90 = .ok (.dup2, 1) := by decide +kernel
theorem dX13_issue_91 : decode cX13_issue 91 = .ok (.iaload, 1) := by decide +kernel
theorem dX13_issue_92 : decode cX13_issue 92 = .ok (.iconst 1, 1) := by decide +kernel
theorem dX13_issue_93 : decode cX13_issue 93 = .ok (.iadd, 1) := by decide +kernel
theorem dX13_issue_94 : decode cX13_issue 94 = .ok (.iastore, 1) := by decide +kernel
theorem dX13_issue_95 : decode cX13_issue 95 = .ok (.aload_n 0, 1) := by decide +kernel
theorem dX13_issue_96 : decode cX13_issue 96 = .ok (.getfield 7, 3) := by decide +kernel
theorem dX13_issue_99 : decode cX13_issue 99 = .ok (.iconst 3, 1) := by decide +kernel
theorem dX13_issue_100 : decode cX13_issue 100 = .ok (.iaload, 1) := by decide +kernel
theorem dX13_issue_101 : decode cX13_issue 101 = .ok (.iconst 1, 1) := by decide +kernel
theorem dX13_issue_102 : decode cX13_issue 102 = .ok (.isub, 1) := by decide +kernel
theorem dX13_issue_103 : decode cX13_issue 103 = .ok (.ireturn, 1) := by decide +kernel
theorem dX13_drops_0 : decode cX13_drops 0 = .ok (.aload_n 0, 1) := by decide +kernel
theorem dX13_drops_1 : decode cX13_drops 1 = .ok (.getfield 7, 3) := by decide +kernel
theorem dX13_drops_4 : decode cX13_drops 4 = .ok (.iconst 3, 1) := by decide +kernel
theorem dX13_drops_5 : decode cX13_drops 5 = .ok (.dup2, 1) := by decide +kernel
theorem dX13_drops_6 : decode cX13_drops 6 = .ok (.iaload, 1) := by decide +kernel
theorem dX13_drops_7 : decode cX13_drops 7 = .ok (.iconst 1, 1) := by decide +kernel
theorem dX13_drops_8 : decode cX13_drops 8 = .ok (.isub, 1) := by decide +kernel
theorem dX13_drops_9 : decode cX13_drops 9 = .ok (.iastore, 1) := by decide +kernel
theorem dX13_drops_10 : decode cX13_drops 10 = .ok (.bipush 48, 2) := by decide +kernel
theorem dX13_drops_12 : decode cX13_drops 12 = .ok (.iconst 2, 1) := by decide +kernel
theorem dX13_drops_13 : decode cX13_drops 13 = .ok (.iload_n 1, 1) := by decide +kernel
theorem dX13_drops_14 : decode cX13_drops 14 = .ok (.imul, 1) := by decide +kernel
theorem dX13_drops_15 : decode cX13_drops 15 = .ok (.iadd, 1) := by decide +kernel
theorem dX13_drops_16 : decode cX13_drops 16 = .ok (.istore_n 2, 1) := by decide +kernel
theorem dX13_drops_17 : decode cX13_drops 17 = .ok (.iload_n 2, 1) := by decide +kernel
theorem dX13_drops_18 : decode cX13_drops 18 = .ok (.bipush 48, 2) := by decide +kernel
theorem dX13_drops_20 : decode cX13_drops 20 = .ok (.iconst 2, 1) := by decide +kernel
theorem dX13_drops_21 : decode cX13_drops 21 = .ok (.aload_n 0, 1) := by decide +kernel
theorem dX13_drops_22 : decode cX13_drops 22 = .ok (.getfield 7, 3) := by decide +kernel
theorem dX13_drops_25 : decode cX13_drops 25 = .ok (.iconst 3, 1) := by decide +kernel
theorem dX13_drops_26 : decode cX13_drops 26 = .ok (.iaload, 1) := by decide +kernel
theorem dX13_drops_27 : decode cX13_drops 27 = .ok (.imul, 1) := by decide +kernel
theorem dX13_drops_28 : decode cX13_drops 28 = .ok (.iadd, 1) := by decide +kernel
theorem dX13_drops_29 : decode cX13_drops 29 = .ok (.if_icmp .ge 23, 3) := by decide +kernel
theorem dX13_drops_32 : decode cX13_drops 32 = .ok (.aload_n 0, 1) := by decide +kernel
theorem dX13_drops_33 : decode cX13_drops 33 = .ok (.getfield 7, 3) := by decide +kernel
theorem dX13_drops_36 : decode cX13_drops 36 = .ok (.iload_n 2, 1) := by decide +kernel
theorem dX13_drops_37 : decode cX13_drops 37 = .ok (.aload_n 0, 1) := by decide +kernel
theorem dX13_drops_38 : decode cX13_drops 38 = .ok (.getfield 7, 3) := by decide +kernel
theorem dX13_drops_41 : decode cX13_drops 41 = .ok (.iload_n 2, 1) := by decide +kernel
theorem dX13_drops_42 : decode cX13_drops 42 = .ok (.iconst 2, 1) := by decide +kernel
theorem dX13_drops_43 : decode cX13_drops 43 = .ok (.iadd, 1) := by decide +kernel
theorem dX13_drops_44 : decode cX13_drops 44 = .ok (.iaload, 1) := by decide +kernel
theorem dX13_drops_45 : decode cX13_drops 45 = .ok (.iastore, 1) := by decide +kernel
theorem dX13_drops_46 : decode cX13_drops 46 = .ok (.iinc 2 1, 3) := by decide +kernel
theorem dX13_drops_49 : decode cX13_drops 49 = .ok (.goto (-32), 3) := by decide +kernel
theorem dX13_drops_52 : decode cX13_drops 52 = .ok (.aload_n 0, 1) := by decide +kernel
theorem dX13_drops_53 : decode cX13_drops 53 = .ok (.getfield 7, 3) := by decide +kernel
theorem dX13_drops_56 : decode cX13_drops 56 = .ok (.bipush 48, 2) := by decide +kernel
theorem dX13_drops_58 : decode cX13_drops 58 = .ok (.iconst 2, 1) := by decide +kernel
theorem dX13_drops_59 : decode cX13_drops 59 = .ok (.aload_n 0, 1) := by decide +kernel
theorem dX13_drops_60 : decode cX13_drops 60 = .ok (.getfield 7, 3) := by decide +kernel
theorem dX13_drops_63 : decode cX13_drops 63 = .ok (.iconst 3, 1) := by decide +kernel
theorem dX13_drops_64 : decode cX13_drops 64 = .ok (.iaload, 1) := by decide +kernel
theorem dX13_drops_65 : decode cX13_drops 65 = .ok (.imul, 1) := by decide +kernel
theorem dX13_drops_66 : decode cX13_drops 66 = .ok (.iadd, 1) := by decide +kernel
theorem dX13_drops_67 : decode cX13_drops 67 = .ok (.iconst 0, 1) := by decide +kernel
theorem dX13_drops_68 : decode cX13_drops 68 = .ok (.iastore, 1) := by decide +kernel
theorem dX13_drops_69 : decode cX13_drops 69 = .ok (.aload_n 0, 1) := by decide +kernel
theorem dX13_drops_70 : decode cX13_drops 70 = .ok (.getfield 7, 3) := by decide +kernel
theorem dX13_drops_73 : decode cX13_drops 73 = .ok (.bipush 48, 2) := by decide +kernel
theorem dX13_drops_75 : decode cX13_drops 75 = .ok (.iconst 2, 1) := by decide +kernel
theorem dX13_drops_76 : decode cX13_drops 76 = .ok (.aload_n 0, 1) := by decide +kernel
theorem dX13_drops_77 : decode cX13_drops 77 = .ok (.getfield 7, 3) := by decide +kernel
theorem dX13_drops_80 : decode cX13_drops 80 = .ok (.iconst 3, 1) := by decide +kernel
theorem dX13_drops_81 : decode cX13_drops 81 = .ok (.iaload, 1) := by decide +kernel
theorem dX13_drops_82 : decode cX13_drops 82 = .ok (.imul, 1) := by decide +kernel
theorem dX13_drops_83 : decode cX13_drops 83 = .ok (.iadd, 1) := by decide +kernel
theorem dX13_drops_84 : decode cX13_drops 84 = .ok (.iconst 1, 1) := by decide +kernel
theorem dX13_drops_85 : decode cX13_drops 85 = .ok (.iadd, 1) := by decide +kernel
theorem dX13_drops_86 : decode cX13_drops 86 = .ok (.iconst 0, 1) := by decide +kernel
theorem dX13_drops_87 : decode cX13_drops 87 = .ok (.iastore, 1) := by decide +kernel
theorem dX13_drops_88 : decode cX13_drops 88 = .ok (.return_, 1) := by decide +kernel
set_option maxRecDepth 20000 in
theorem ggX13_withdraw_X13_isForecast : GoodIn wsX13_withdraw wsX13_isForecast := goodIn_ca (goodIn_r _ [6, 1, 7, 8, 5, 9, 29, 30, 31, 32, 33, 34, 35, 36, 37, 38, 39, 40, 41, 42, 43, 44, 45, 46, 47, 48, 49, 50, 51, 52] (by decide +kernel) (by decide +kernel)) (goodIn_sub (fun _ h => List.mem_cons_of_mem _ (List.mem_append_right _ h)) (by decide +kernel))
set_option maxRecDepth 20000 in
theorem gX13_withdraw_X13_isForecast : GoodIn wsX13_withdraw (wsV RX13 160 RX13 yX13_isForecast wsX13_isForecast) := goodIn_app (goodIn_of _ (by decide +kernel)) ggX13_withdraw_X13_isForecast
set_option maxRecDepth 20000 in
theorem ggX13_withdraw_X13_fails : GoodIn wsX13_withdraw wsX13_fails := goodIn_r _ [13, 14, 29, 30, 31, 32, 33, 34, 35, 36, 37, 38, 39, 40, 41, 42, 43, 44, 45, 46, 47, 48, 49, 50, 51, 52] (by decide +kernel) (by decide +kernel)
set_option maxRecDepth 20000 in
theorem gX13_withdraw_X13_fails : GoodIn wsX13_withdraw (wsV RX13 80 RX13 yX13_fails wsX13_fails) := goodIn_app (goodIn_of _ (by decide +kernel)) ggX13_withdraw_X13_fails
set_option maxRecDepth 20000 in
theorem ggX13_withdraw_X13_keeps : GoodIn wsX13_withdraw wsX13_keeps := goodIn_ca (goodIn_r _ [18, 14, 19, 20, 21, 22, 23, 5, 24, 29, 30, 31, 32, 33, 34, 35, 36, 37, 38, 39, 40, 41, 42, 43, 44, 45, 46, 47, 48, 49, 50, 51, 52] (by decide +kernel) (by decide +kernel)) (goodIn_sub (fun _ h => List.mem_cons_of_mem _ (List.mem_append_right _ h)) (by decide +kernel))
set_option maxRecDepth 20000 in
theorem gX13_withdraw_X13_keeps : GoodIn wsX13_withdraw (wsV RX13 84 RX13 yX13_keeps wsX13_keeps) := goodIn_app (goodIn_of _ (by decide +kernel)) ggX13_withdraw_X13_keeps
set_option maxRecDepth 20000 in
theorem ggX13_withdraw_X13_drops : GoodIn wsX13_withdraw wsX13_drops := goodIn_ca (goodIn_r _ [28, 1, 29, 30, 31, 32, 33, 34, 35, 36, 37, 38, 39, 40, 41, 42, 43, 44, 45, 46, 47, 48, 49, 50, 51, 52] (by decide +kernel) (by decide +kernel)) (goodIn_sub (fun _ h => List.mem_cons_of_mem _ (List.mem_append_right _ h)) (by decide +kernel))
set_option maxRecDepth 20000 in
theorem gX13_withdraw_X13_drops : GoodIn wsX13_withdraw (wsV RX13 163 RX13 yX13_drops wsX13_drops) := goodIn_app (goodIn_of _ (by decide +kernel)) ggX13_withdraw_X13_drops
theorem dX13_withdraw_0 : decode cX13_withdraw 0 = .ok (.aload_n 0, 1) := by decide +kernel
theorem dX13_withdraw_1 : decode cX13_withdraw 1 = .ok (.aload_n 0, 1) := by decide +kernel
theorem dX13_withdraw_2 : decode cX13_withdraw 2 = .ok (.iload_n 1, 1) := by decide +kernel
theorem dX13_withdraw_3 : decode cX13_withdraw 3 = .ok (.invokevirtual 160, 3) := by decide +kernel
theorem dX13_withdraw_6 : decode cX13_withdraw 6 = .ok (.ifCond .eq 7, 3) := by decide +kernel
theorem dX13_withdraw_9 : decode cX13_withdraw 9 = .ok (.iconst 0, 1) := by decide +kernel
theorem dX13_withdraw_10 : decode cX13_withdraw 10 = .ok (.goto 4, 3) := by decide +kernel
theorem dX13_withdraw_13 : decode cX13_withdraw 13 = .ok (.iconst 1, 1) := by decide +kernel
theorem dX13_withdraw_14 : decode cX13_withdraw 14 = .ok (.invokevirtual 80, 3) := by decide +kernel
theorem dX13_withdraw_17 : decode cX13_withdraw 17 = .ok (.ifCond .eq 5, 3) := by decide +kernel
theorem dX13_withdraw_20 : decode cX13_withdraw 20 = .ok (.iconst 0, 1) := by decide +kernel
theorem dX13_withdraw_21 : decode cX13_withdraw 21 = .ok (.ireturn, 1) := by decide +kernel
theorem dX13_withdraw_22 : decode cX13_withdraw 22 = .ok (.aload_n 0, 1) := by decide +kernel
theorem dX13_withdraw_23 : decode cX13_withdraw 23 = .ok (.aload_n 0, 1) := by decide +kernel
theorem dX13_withdraw_24 : decode cX13_withdraw 24 = .ok (.getfield 7, 3) := by decide +kernel
theorem dX13_withdraw_27 : decode cX13_withdraw 27 = .ok (.invokevirtual 84, 3) := by decide +kernel
theorem dX13_withdraw_30 : decode cX13_withdraw 30 = .ok (.aload_n 0, 1) := by decide +kernel
theorem dX13_withdraw_31 : decode cX13_withdraw 31 = .ok (.iload_n 1, 1) := by decide +kernel
theorem dX13_withdraw_32 : decode cX13_withdraw 32 = .ok (.invokevirtual 163, 3) := by decide +kernel
theorem dX13_withdraw_35 : decode cX13_withdraw 35 = .ok (.aload_n 0, 1) := by decide +kernel
theorem dX13_withdraw_36 : decode cX13_withdraw 36 = .ok (.getfield 7, 3) := by decide +kernel
theorem dX13_withdraw_39 : decode cX13_withdraw 39 = .ok (.iconst 3, 1) := by decide +kernel
theorem dX13_withdraw_40 : decode cX13_withdraw 40 = .ok (.iaload, 1) := by decide +kernel
theorem dX13_withdraw_41 : decode cX13_withdraw 41 = .ok (.ireturn, 1) := by decide +kernel
set_option maxRecDepth 20000 in
theorem ggX13_observe_X13_isSort : GoodIn wsX13_observe wsX13_isSort := goodIn_r _ [5, 6, 7, 4, 8] (by decide +kernel) (by decide +kernel)
set_option maxRecDepth 20000 in
theorem gX13_observe_X13_isSort : GoodIn wsX13_observe (va_wsS RX13 122 yX13_isSort wsX13_isSort) := goodIn_app (goodIn_of _ (by decide +kernel)) ggX13_observe_X13_isSort
set_option maxRecDepth 20000 in
theorem ggX13_observe_X13_fails : GoodIn wsX13_observe wsX13_fails := goodIn_r _ [12, 13, 35, 36, 37, 38, 39, 40, 41, 42, 43, 44, 45, 46, 47, 48, 49, 50, 51, 52, 53, 54, 55, 56, 57, 58] (by decide +kernel) (by decide +kernel)
set_option maxRecDepth 20000 in
theorem gX13_observe_X13_fails : GoodIn wsX13_observe (wsV RX13 80 RX13 yX13_fails wsX13_fails) := goodIn_app (goodIn_of _ (by decide +kernel)) ggX13_observe_X13_fails
set_option maxRecDepth 20000 in
theorem ggX13_observe_X13_keeps : GoodIn wsX13_observe wsX13_keeps := goodIn_ca (goodIn_r _ [17, 13, 18, 19, 20, 21, 22, 4, 23, 35, 36, 37, 38, 39, 40, 41, 42, 43, 44, 45, 46, 47, 48, 49, 50, 51, 52, 53, 54, 55, 56, 57, 58] (by decide +kernel) (by decide +kernel)) (goodIn_sub (fun _ h => List.mem_cons_of_mem _ (List.mem_append_right _ h)) (by decide +kernel))
set_option maxRecDepth 20000 in
theorem gX13_observe_X13_keeps : GoodIn wsX13_observe (wsV RX13 84 RX13 yX13_keeps wsX13_keeps) := goodIn_app (goodIn_of _ (by decide +kernel)) ggX13_observe_X13_keeps
set_option maxRecDepth 20000 in
theorem ggX13_observe_X13_of : GoodIn wsX13_observe wsX13_of := goodIn_ca (goodIn_r _ [27, 1, 35, 36, 37, 38, 39, 40, 41, 42, 43, 44, 45, 46, 47, 48, 49, 50, 51, 52, 53, 54, 55, 56, 57, 58] (by decide +kernel) (by decide +kernel)) (goodIn_sub (fun _ h => List.mem_cons_of_mem _ (List.mem_append_right _ h)) (by decide +kernel))
set_option maxRecDepth 20000 in
theorem gX13_observe_X13_of : GoodIn wsX13_observe (wsV RX13 166 RX13 yX13_of wsX13_of) := goodIn_app (goodIn_of _ (by decide +kernel)) ggX13_observe_X13_of
set_option maxRecDepth 20000 in
theorem ggX13_observe_X13_apart : GoodIn wsX13_observe wsX13_apart := goodIn_r _ [30] (by decide +kernel) (by decide +kernel)
set_option maxRecDepth 20000 in
theorem gX13_observe_X13_apart : GoodIn wsX13_observe (va_wsS RX13 99 yX13_apart wsX13_apart) := goodIn_app (goodIn_of _ (by decide +kernel)) ggX13_observe_X13_apart
set_option maxRecDepth 20000 in
theorem ggX13_observe_X13_drops : GoodIn wsX13_observe wsX13_drops := goodIn_ca (goodIn_r _ [34, 1, 35, 36, 37, 38, 39, 40, 41, 42, 43, 44, 45, 46, 47, 48, 49, 50, 51, 52, 53, 54, 55, 56, 57, 58] (by decide +kernel) (by decide +kernel)) (goodIn_sub (fun _ h => List.mem_cons_of_mem _ (List.mem_append_right _ h)) (by decide +kernel))
set_option maxRecDepth 20000 in
theorem gX13_observe_X13_drops : GoodIn wsX13_observe (wsV RX13 163 RX13 yX13_drops wsX13_drops) := goodIn_app (goodIn_of _ (by decide +kernel)) ggX13_observe_X13_drops
theorem dX13_observe_0 : decode cX13_observe 0 = .ok (.aload_n 0, 1) := by decide +kernel
theorem dX13_observe_1 : decode cX13_observe 1 = .ok (.iload_n 1, 1) := by decide +kernel
theorem dX13_observe_2 : decode cX13_observe 2 = .ok (.invokestatic 122, 3) := by decide +kernel
theorem dX13_observe_5 : decode cX13_observe 5 = .ok (.ifCond .eq 7, 3) := by decide +kernel
theorem dX13_observe_8 : decode cX13_observe 8 = .ok (.iconst 0, 1) := by decide +kernel
theorem dX13_observe_9 : decode cX13_observe 9 = .ok (.goto 4, 3) := by decide +kernel
theorem dX13_observe_12 : decode cX13_observe 12 = .ok (.iconst 1, 1) := by decide +kernel
theorem dX13_observe_13 : decode cX13_observe 13 = .ok (.invokevirtual 80, 3) := by decide +kernel
theorem dX13_observe_16 : decode cX13_observe 16 = .ok (.ifCond .eq 5, 3) := by decide +kernel
theorem dX13_observe_19 : decode cX13_observe 19 = .ok (.iconst 0, 1) := by decide +kernel
theorem dX13_observe_20 : decode cX13_observe 20 = .ok (.ireturn, 1) := by decide +kernel
theorem dX13_observe_21 : decode cX13_observe 21 = .ok (.aload_n 0, 1) := by decide +kernel
theorem dX13_observe_22 : decode cX13_observe 22 = .ok (.aload_n 0, 1) := by decide +kernel
theorem dX13_observe_23 : decode cX13_observe 23 = .ok (.getfield 7, 3) := by decide +kernel
theorem dX13_observe_26 : decode cX13_observe 26 = .ok (.invokevirtual 84, 3) := by decide +kernel
theorem dX13_observe_29 : decode cX13_observe 29 = .ok (.bipush 32, 2) := by decide +kernel
theorem dX13_observe_31 : decode cX13_observe 31 = .ok (.iconst 4, 1) := by decide +kernel
theorem dX13_observe_32 : decode cX13_observe 32 = .ok (.aload_n 0, 1) := by decide +kernel
theorem dX13_observe_33 : decode cX13_observe 33 = .ok (.getfield 7, 3) := by decide +kernel
theorem dX13_observe_36 : decode cX13_observe 36 = .ok (.iconst 1, 1) := by decide +kernel
theorem dX13_observe_37 : decode cX13_observe 37 = .ok (.iaload, 1) := by decide +kernel
theorem dX13_observe_38 : decode cX13_observe 38 = .ok (.imul, 1) := by decide +kernel
theorem dX13_observe_39 : decode cX13_observe 39 = .ok (.iadd, 1) := by decide +kernel
theorem dX13_observe_40 : decode cX13_observe 40 = .ok (.iload_n 1, 1) := by decide +kernel
theorem dX13_observe_41 : decode cX13_observe 41 = .ok (.iadd, 1) := by decide +kernel
theorem dX13_observe_42 : decode cX13_observe 42 = .ok (.istore_n 2, 1) := by decide +kernel
theorem dX13_observe_43 : decode cX13_observe 43 = .ok (.aload_n 0, 1) := by decide +kernel
theorem dX13_observe_44 : decode cX13_observe 44 = .ok (.getfield 7, 3) := by decide +kernel
theorem dX13_observe_47 : decode cX13_observe 47 = .ok (.iload_n 2, 1) := by decide +kernel
theorem dX13_observe_48 : decode cX13_observe 48 = .ok (.iaload, 1) := by decide +kernel
theorem dX13_observe_49 : decode cX13_observe 49 = .ok (.iconst 3, 1) := by decide +kernel
theorem dX13_observe_50 : decode cX13_observe 50 = .ok (.if_icmp .ge 13, 3) := by decide +kernel
theorem dX13_observe_53 : decode cX13_observe 53 = .ok (.aload_n 0, 1) := by decide +kernel
theorem dX13_observe_54 : decode cX13_observe 54 = .ok (.getfield 7, 3) := by decide +kernel
theorem dX13_observe_57 : decode cX13_observe 57 = .ok (.iload_n 2, 1) := by decide +kernel
theorem dX13_observe_58 : decode cX13_observe 58 = .ok (.dup2, 1) := by decide +kernel
theorem dX13_observe_59 : decode cX13_observe 59 = .ok (.iaload, 1) := by decide +kernel
theorem dX13_observe_60 : decode cX13_observe 60 = .ok (.iconst 1, 1) := by decide +kernel
theorem dX13_observe_61 : decode cX13_observe 61 = .ok (.iadd, 1) := by decide +kernel
theorem dX13_observe_62 : decode cX13_observe 62 = .ok (.iastore, 1) := by decide +kernel
theorem dX13_observe_63 : decode cX13_observe 63 = .ok (.aload_n 0, 1) := by decide +kernel
theorem dX13_observe_64 : decode cX13_observe 64 = .ok (.getfield 7, 3) := by decide +kernel
theorem dX13_observe_67 : decode cX13_observe 67 = .ok (.iconst 0, 1) := by decide +kernel
theorem dX13_observe_68 : decode cX13_observe 68 = .ok (.dup2, 1) := by decide +kernel
theorem dX13_observe_69 : decode cX13_observe 69 = .ok (.iaload, 1) := by decide +kernel
theorem dX13_observe_70 : decode cX13_observe 70 = .ok (.iconst 1, 1) := by decide +kernel
theorem dX13_observe_71 : decode cX13_observe 71 = .ok (.iadd, 1) := by decide +kernel
theorem dX13_observe_72 : decode cX13_observe 72 = .ok (.iastore, 1) := by decide +kernel
theorem dX13_observe_73 : decode cX13_observe 73 = .ok (.aload_n 0, 1) := by decide +kernel
theorem dX13_observe_74 : decode cX13_observe 74 = .ok (.getfield 7, 3) := by decide +kernel
theorem dX13_observe_77 : decode cX13_observe 77 = .ok (.iconst 1, 1) := by decide +kernel
theorem dX13_observe_78 : decode cX13_observe 78 = .ok (.iload_n 1, 1) := by decide +kernel
theorem dX13_observe_79 : decode cX13_observe 79 = .ok (.iastore, 1) := by decide +kernel
theorem dX13_observe_80 : decode cX13_observe 80 = .ok (.iconst 0, 1) := by decide +kernel
theorem dX13_observe_81 : decode cX13_observe 81 = .ok (.istore_n 3, 1) := by decide +kernel
theorem dX13_observe_82 : decode cX13_observe 82 = .ok (.iconst 0, 1) := by decide +kernel
theorem dX13_observe_83 : decode cX13_observe 83 = .ok (.istore 4, 2) := by decide +kernel
theorem dX13_observe_85 : decode cX13_observe 85 = .ok (.iload 4, 2) := by decide +kernel
theorem dX13_observe_87 : decode cX13_observe 87 = .ok (.aload_n 0, 1) := by decide +kernel
theorem dX13_observe_88 : decode cX13_observe 88 = .ok (.getfield 7, 3) := by decide +kernel
theorem dX13_observe_91 : decode cX13_observe 91 = .ok (.iconst 3, 1) := by decide +kernel
theorem dX13_observe_92 : decode cX13_observe 92 = .ok (.iaload, 1) := by decide +kernel
theorem dX13_observe_93 : decode cX13_observe 93 = .ok (.if_icmp .ge 82, 3) := by decide +kernel
theorem dX13_observe_96 : decode cX13_observe 96 = .ok (.aload_n 0, 1) := by decide +kernel
theorem dX13_observe_97 : decode cX13_observe 97 = .ok (.iload 4, 2) := by decide +kernel
theorem dX13_observe_99 : decode cX13_observe 99 = .ok (.iconst 0, 1) := by decide +kernel
theorem dX13_observe_100 : decode cX13_observe 100 = .ok (.invokevirtual 166, 3) := by decide +kernel
theorem dX13_observe_103 : decode cX13_observe 103 = .ok (.aload_n 0, 1) := by decide +kernel
theorem dX13_observe_104 : decode cX13_observe 104 = .ok (.getfield 7, 3) := by decide +kernel
theorem dX13_observe_107 : decode cX13_observe 107 = .ok (.iconst 0, 1) := by decide +kernel
theorem dX13_observe_108 : decode cX13_observe 108 = .ok (.iaload, 1) := by decide +kernel
theorem dX13_observe_109 : decode cX13_observe 109 = .ok (.if_icmp .ne 60, 3) := by decide +kernel
theorem dX13_observe_112 : decode cX13_observe 112 = .ok (.aload_n 0, 1) := by decide +kernel
theorem dX13_observe_113 : decode cX13_observe 113 = .ok (.iload 4, 2) := by decide +kernel
theorem dX13_observe_115 : decode cX13_observe 115 = .ok (.iconst 1, 1) := by decide +kernel
theorem dX13_observe_116 : decode cX13_observe 116 = .ok (.invokevirtual 166, 3) := by decide +kernel
theorem dX13_observe_119 : decode cX13_observe 119 = .ok (.iload_n 1, 1) := by decide +kernel
theorem dX13_observe_120 : decode cX13_observe 120 = .ok (.invokestatic 99, 3) := by decide +kernel
theorem dX13_observe_123 : decode cX13_observe 123 = .ok (.istore 5, 2) := by decide +kernel
theorem dX13_observe_125 : decode cX13_observe 125 = .ok (.iload_n 3, 1) := by decide +kernel
theorem dX13_observe_126 : decode cX13_observe 126 = .ok (.iload 5, 2) := by decide +kernel
theorem dX13_observe_128 : decode cX13_observe 128 = .ok (.iadd, 1) := by decide +kernel
theorem dX13_observe_129 : decode cX13_observe 129 = .ok (.istore_n 3, 1) := by decide +kernel
theorem dX13_observe_130 : decode cX13_observe 130 = .ok (.aload_n 0, 1) := by decide +kernel
theorem dX13_observe_131 : decode cX13_observe 131 = .ok (.getfield 7, 3) := by decide +kernel
theorem dX13_observe_134 : decode cX13_observe 134 = .ok (.iconst 4, 1) := by decide +kernel
theorem dX13_observe_135 : decode cX13_observe 135 = .ok (.dup2, 1) := by decide +kernel
theorem dX13_observe_136 : decode cX13_observe 136 = .ok (.iaload, 1) := by decide +kernel
theorem dX13_observe_137 : decode cX13_observe 137 = .ok (.iconst 1, 1) := by decide +kernel
theorem dX13_observe_138 : decode cX13_observe 138 = .ok (.iadd, 1) := by decide +kernel
theorem dX13_observe_139 : decode cX13_observe 139 = .ok (.iastore, 1) := by decide +kernel
theorem dX13_observe_140 : decode cX13_observe 140 = .ok (.aload_n 0, 1) := by decide +kernel
theorem dX13_observe_141 : decode cX13_observe 141 = .ok (.getfield 7, 3) := by decide +kernel
theorem dX13_observe_144 : decode cX13_observe 144 = .ok (.bipush 6, 2) := by decide +kernel
theorem dX13_observe_146 : decode cX13_observe 146 = .ok (.dup2, 1) := by decide +kernel
theorem dX13_observe_147 : decode cX13_observe 147 = .ok (.iaload, 1) := by decide +kernel
theorem dX13_observe_148 : decode cX13_observe 148 = .ok (.iload 5, 2) := by decide +kernel
theorem dX13_observe_150 : decode cX13_observe 150 = .ok (.ifCond .ne 7, 3) := by decide +kernel
theorem dX13_observe_153 : decode cX13_observe 153 = .ok (.iconst 1, 1) := by decide +kernel
theorem dX13_observe_154 : decode cX13_observe 154 = .ok (.goto 4, 3) := by decide +kernel
theorem dX13_observe_157 : decode cX13_observe 157 = .ok (.iconst 0, 1) := by decide +kernel
theorem dX13_observe_158 : decode cX13_observe 158 = .ok (.iadd, 1) := by decide +kernel
theorem dX13_observe_159 : decode cX13_observe 159 = .ok (.iastore, 1) := by decide +kernel
theorem dX13_observe_160 : decode cX13_observe 160 = .ok (.aload_n 0, 1) := by decide +kernel
theorem dX13_observe_161 : decode cX13_observe 161 = .ok (.iload 4, 2) := by decide +kernel
theorem dX13_observe_163 : decode cX13_observe 163 = .ok (.invokevirtual 163, 3) := by decide +kernel
theorem dX13_observe_166 : decode cX13_observe 166 = .ok (.goto (-81), 3) := by decide +kernel
theorem dX13_observe_169 : decode cX13_observe 169 = .ok (.iinc 4 1, 3) := by decide +kernel
theorem dX13_observe_172 : decode cX13_observe 172 = .ok (.goto (-87), 3) := by decide +kernel
theorem dX13_observe_175 : decode cX13_observe 175 = .ok (.aload_n 0, 1) := by decide +kernel
theorem dX13_observe_176 : decode cX13_observe 176 = .ok (.getfield 7, 3) := by decide +kernel
theorem dX13_observe_179 : decode cX13_observe 179 = .ok (.iconst 5, 1) := by decide +kernel
theorem dX13_observe_180 : decode cX13_observe 180 = .ok (.dup2, 1) := by decide +kernel
theorem dX13_observe_181 : decode cX13_observe 181 = .ok (.iaload, 1) := by decide +kernel
theorem dX13_observe_182 : decode cX13_observe 182 = .ok (.iload_n 3, 1) := by decide +kernel
theorem dX13_observe_183 : decode cX13_observe 183 = .ok (.iadd, 1) := by decide +kernel
theorem dX13_observe_184 : decode cX13_observe 184 = .ok (.iastore, 1) := by decide +kernel
theorem dX13_observe_185 : decode cX13_observe 185 = .ok (.iload_n 3, 1) := by decide +kernel
theorem dX13_observe_186 : decode cX13_observe 186 = .ok (.ireturn, 1) := by decide +kernel
theorem dX13_forecastCount_0 : decode cX13_forecastCount 0 = .ok (.aload_n 0, 1) := by decide +kernel
theorem dX13_forecastCount_1 : decode cX13_forecastCount 1 = .ok (.iconst 0, 1) := by decide +kernel
theorem dX13_forecastCount_2 : decode cX13_forecastCount 2 = .ok (.putfield 58, 3) := by decide +kernel
theorem dX13_forecastCount_5 : decode cX13_forecastCount 5 = .ok (.aload_n 0, 1) := by decide +kernel
theorem dX13_forecastCount_6 : decode cX13_forecastCount 6 = .ok (.getfield 7, 3) := by decide +kernel
theorem dX13_forecastCount_9 : decode cX13_forecastCount 9 = .ok (.iconst 3, 1) := by decide +kernel
theorem dX13_forecastCount_10 : decode cX13_forecastCount 10 = .ok (.iaload, 1) := by decide +kernel
theorem dX13_forecastCount_11 : decode cX13_forecastCount 11 = .ok (.ireturn, 1) := by decide +kernel
set_option maxRecDepth 20000 in
theorem ggX13_dayOf_X13_isForecast : GoodIn wsX13_dayOf wsX13_isForecast := goodIn_ca (goodIn_r _ [5, 6, 7, 8, 4, 9, 19, 20, 21, 22, 23, 24, 25, 26, 27, 28, 29, 30, 31, 32, 33, 34, 35, 36, 37, 38, 39, 40, 41, 42] (by decide +kernel) (by decide +kernel)) (goodIn_sub (fun _ h => List.mem_cons_of_mem _ (List.mem_append_right _ h)) (by decide +kernel))
set_option maxRecDepth 20000 in
theorem gX13_dayOf_X13_isForecast : GoodIn wsX13_dayOf (wsV RX13 160 RX13 yX13_isForecast wsX13_isForecast) := goodIn_app (goodIn_of _ (by decide +kernel)) ggX13_dayOf_X13_isForecast
set_option maxRecDepth 20000 in
theorem ggX13_dayOf_X13_fails : GoodIn wsX13_dayOf wsX13_fails := goodIn_r _ [13, 14, 19, 20, 21, 22, 23, 24, 25, 26, 27, 28, 29, 30, 31, 32, 33, 34, 35, 36, 37, 38, 39, 40, 41, 42] (by decide +kernel) (by decide +kernel)
set_option maxRecDepth 20000 in
theorem gX13_dayOf_X13_fails : GoodIn wsX13_dayOf (wsV RX13 80 RX13 yX13_fails wsX13_fails) := goodIn_app (goodIn_of _ (by decide +kernel)) ggX13_dayOf_X13_fails
set_option maxRecDepth 20000 in
theorem ggX13_dayOf_X13_of : GoodIn wsX13_dayOf wsX13_of := goodIn_ca (goodIn_r _ [18, 6, 19, 20, 21, 22, 23, 24, 25, 26, 27, 28, 29, 30, 31, 32, 33, 34, 35, 36, 37, 38, 39, 40, 41, 42] (by decide +kernel) (by decide +kernel)) (goodIn_sub (fun _ h => List.mem_cons_of_mem _ (List.mem_append_right _ h)) (by decide +kernel))
set_option maxRecDepth 20000 in
theorem gX13_dayOf_X13_of : GoodIn wsX13_dayOf (wsV RX13 166 RX13 yX13_of wsX13_of) := goodIn_app (goodIn_of _ (by decide +kernel)) ggX13_dayOf_X13_of
theorem dX13_dayOf_0 : decode cX13_dayOf 0 = .ok (.aload_n 0, 1) := by decide +kernel
theorem dX13_dayOf_1 : decode cX13_dayOf 1 = .ok (.aload_n 0, 1) := by decide +kernel
theorem dX13_dayOf_2 : decode cX13_dayOf 2 = .ok (.iload_n 1, 1) := by decide +kernel
theorem dX13_dayOf_3 : decode cX13_dayOf 3 = .ok (.invokevirtual 160, 3) := by decide +kernel
theorem dX13_dayOf_6 : decode cX13_dayOf 6 = .ok (.ifCond .eq 7, 3) := by decide +kernel
theorem dX13_dayOf_9 : decode cX13_dayOf 9 = .ok (.iconst 0, 1) := by decide +kernel
theorem dX13_dayOf_10 : decode cX13_dayOf 10 = .ok (.goto 4, 3) := by decide +kernel
theorem dX13_dayOf_13 : decode cX13_dayOf 13 = .ok (.iconst 1, 1) := by decide +kernel
theorem dX13_dayOf_14 : decode cX13_dayOf 14 = .ok (.invokevirtual 80, 3) := by decide +kernel
theorem dX13_dayOf_17 : decode cX13_dayOf 17 = .ok (.ifCond .eq 7, 3) := by decide +kernel
theorem dX13_dayOf_20 : decode cX13_dayOf 20 = .ok (.iconst 0, 1) := by decide +kernel
theorem dX13_dayOf_21 : decode cX13_dayOf 21 = .ok (.goto 9, 3) := by decide +kernel
theorem dX13_dayOf_24 : decode cX13_dayOf 24 = .ok (.aload_n 0, 1) := by decide +kernel
theorem dX13_dayOf_25 : decode cX13_dayOf 25 = .ok (.iload_n 1, 1) := by decide +kernel
theorem dX13_dayOf_26 : decode cX13_dayOf 26 = .ok (.iconst 0, 1) := by decide +kernel
theorem dX13_dayOf_27 : decode cX13_dayOf 27 = .ok (.invokevirtual 166, 3) := by decide +kernel
theorem dX13_dayOf_30 : decode cX13_dayOf 30 = .ok (.ireturn, 1) := by decide +kernel
set_option maxRecDepth 20000 in
theorem ggX13_weatherOf_X13_isForecast : GoodIn wsX13_weatherOf wsX13_isForecast := goodIn_ca (goodIn_r _ [5, 6, 7, 8, 4, 9, 19, 20, 21, 22, 23, 24, 25, 26, 27, 28, 29, 30, 31, 32, 33, 34, 35, 36, 37, 38, 39, 40, 41, 42] (by decide +kernel) (by decide +kernel)) (goodIn_sub (fun _ h => List.mem_cons_of_mem _ (List.mem_append_right _ h)) (by decide +kernel))
set_option maxRecDepth 20000 in
theorem gX13_weatherOf_X13_isForecast : GoodIn wsX13_weatherOf (wsV RX13 160 RX13 yX13_isForecast wsX13_isForecast) := goodIn_app (goodIn_of _ (by decide +kernel)) ggX13_weatherOf_X13_isForecast
set_option maxRecDepth 20000 in
theorem ggX13_weatherOf_X13_fails : GoodIn wsX13_weatherOf wsX13_fails := goodIn_r _ [13, 14, 19, 20, 21, 22, 23, 24, 25, 26, 27, 28, 29, 30, 31, 32, 33, 34, 35, 36, 37, 38, 39, 40, 41, 42] (by decide +kernel) (by decide +kernel)
set_option maxRecDepth 20000 in
theorem gX13_weatherOf_X13_fails : GoodIn wsX13_weatherOf (wsV RX13 80 RX13 yX13_fails wsX13_fails) := goodIn_app (goodIn_of _ (by decide +kernel)) ggX13_weatherOf_X13_fails
set_option maxRecDepth 20000 in
theorem ggX13_weatherOf_X13_of : GoodIn wsX13_weatherOf wsX13_of := goodIn_ca (goodIn_r _ [18, 6, 19, 20, 21, 22, 23, 24, 25, 26, 27, 28, 29, 30, 31, 32, 33, 34, 35, 36, 37, 38, 39, 40, 41, 42] (by decide +kernel) (by decide +kernel)) (goodIn_sub (fun _ h => List.mem_cons_of_mem _ (List.mem_append_right _ h)) (by decide +kernel))
set_option maxRecDepth 20000 in
theorem gX13_weatherOf_X13_of : GoodIn wsX13_weatherOf (wsV RX13 166 RX13 yX13_of wsX13_of) := goodIn_app (goodIn_of _ (by decide +kernel)) ggX13_weatherOf_X13_of
theorem dX13_weatherOf_0 : decode cX13_weatherOf 0 = .ok (.aload_n 0, 1) := by decide +kernel
theorem dX13_weatherOf_1 : decode cX13_weatherOf 1 = .ok (.aload_n 0, 1) := by decide +kernel
theorem dX13_weatherOf_2 : decode cX13_weatherOf 2 = .ok (.iload_n 1, 1) := by decide +kernel
theorem dX13_weatherOf_3 : decode cX13_weatherOf 3 = .ok (.invokevirtual 160, 3) := by decide +kernel
theorem dX13_weatherOf_6 : decode cX13_weatherOf 6 = .ok (.ifCond .eq 7, 3) := by decide +kernel
theorem dX13_weatherOf_9 : decode cX13_weatherOf 9 = .ok (.iconst 0, 1) := by decide +kernel
theorem dX13_weatherOf_10 : decode cX13_weatherOf 10 = .ok (.goto 4, 3) := by decide +kernel
theorem dX13_weatherOf_13 : decode cX13_weatherOf 13 = .ok (.iconst 1, 1) := by decide +kernel
theorem dX13_weatherOf_14 : decode cX13_weatherOf 14 = .ok (.invokevirtual 80, 3) := by decide +kernel
theorem dX13_weatherOf_17 : decode cX13_weatherOf 17 = .ok (.ifCond .eq 7, 3) := by decide +kernel
theorem dX13_weatherOf_20 : decode cX13_weatherOf 20 = .ok (.iconst 0, 1) := by decide +kernel
theorem dX13_weatherOf_21 : decode cX13_weatherOf 21 = .ok (.goto 9, 3) := by decide +kernel
theorem dX13_weatherOf_24 : decode cX13_weatherOf 24 = .ok (.aload_n 0, 1) := by decide +kernel
theorem dX13_weatherOf_25 : decode cX13_weatherOf 25 = .ok (.iload_n 1, 1) := by decide +kernel
theorem dX13_weatherOf_26 : decode cX13_weatherOf 26 = .ok (.iconst 1, 1) := by decide +kernel
theorem dX13_weatherOf_27 : decode cX13_weatherOf 27 = .ok (.invokevirtual 166, 3) := by decide +kernel
theorem dX13_weatherOf_30 : decode cX13_weatherOf 30 = .ok (.ireturn, 1) := by decide +kernel
theorem dX13_scoredCount_0 : decode cX13_scoredCount 0 = .ok (.aload_n 0, 1) := by decide +kernel
theorem dX13_scoredCount_1 : decode cX13_scoredCount 1 = .ok (.iconst 0, 1) := by decide +kernel
theorem dX13_scoredCount_2 : decode cX13_scoredCount 2 = .ok (.putfield 58, 3) := by decide +kernel
theorem dX13_scoredCount_5 : decode cX13_scoredCount 5 = .ok (.aload_n 0, 1) := by decide +kernel
theorem dX13_scoredCount_6 : decode cX13_scoredCount 6 = .ok (.getfield 7, 3) := by decide +kernel
theorem dX13_scoredCount_9 : decode cX13_scoredCount 9 = .ok (.iconst 4, 1) := by decide +kernel
theorem dX13_scoredCount_10 : decode cX13_scoredCount 10 = .ok (.iaload, 1) := by decide +kernel
theorem dX13_scoredCount_11 : decode cX13_scoredCount 11 = .ok (.ireturn, 1) := by decide +kernel
theorem dX13_totalError_0 : decode cX13_totalError 0 = .ok (.aload_n 0, 1) := by decide +kernel
theorem dX13_totalError_1 : decode cX13_totalError 1 = .ok (.iconst 0, 1) := by decide +kernel
theorem dX13_totalError_2 : decode cX13_totalError 2 = .ok (.putfield 58, 3) := by decide +kernel
theorem dX13_totalError_5 : decode cX13_totalError 5 = .ok (.aload_n 0, 1) := by decide +kernel
theorem dX13_totalError_6 : decode cX13_totalError 6 = .ok (.getfield 7, 3) := by decide +kernel
theorem dX13_totalError_9 : decode cX13_totalError 9 = .ok (.iconst 5, 1) := by decide +kernel
theorem dX13_totalError_10 : decode cX13_totalError 10 = .ok (.iaload, 1) := by decide +kernel
theorem dX13_totalError_11 : decode cX13_totalError 11 = .ok (.ireturn, 1) := by decide +kernel
set_option maxRecDepth 20000 in
theorem ggX13_meanError_X13_fails : GoodIn wsX13_meanError wsX13_fails := goodIn_r _ [6, 7, 8, 9, 10, 11, 12, 13, 14, 15, 16, 17, 18, 19, 20, 21, 22, 23, 24, 25, 26, 27, 28, 29, 30, 31] (by decide +kernel) (by decide +kernel)
set_option maxRecDepth 20000 in
theorem gX13_meanError_X13_fails : GoodIn wsX13_meanError (wsV RX13 80 RX13 yX13_fails wsX13_fails) := goodIn_app (goodIn_of _ (by decide +kernel)) ggX13_meanError_X13_fails
theorem dX13_meanError_0 : decode cX13_meanError 0 = .ok (.aload_n 0, 1) := by decide +kernel
theorem dX13_meanError_1 : decode cX13_meanError 1 = .ok (.aload_n 0, 1) := by decide +kernel
theorem dX13_meanError_2 : decode cX13_meanError 2 = .ok (.getfield 7, 3) := by decide +kernel
theorem dX13_meanError_5 : decode cX13_meanError 5 = .ok (.iconst 4, 1) := by decide +kernel
theorem dX13_meanError_6 : decode cX13_meanError 6 = .ok (.iaload, 1) := by decide +kernel
theorem dX13_meanError_7 : decode cX13_meanError 7 = .ok (.ifCond .ne 7, 3) := by decide +kernel
theorem dX13_meanError_10 : decode cX13_meanError 10 = .ok (.iconst 1, 1) := by decide +kernel
theorem dX13_meanError_11 : decode cX13_meanError 11 = .ok (.goto 4, 3) := by decide +kernel
theorem dX13_meanError_14 : decode cX13_meanError 14 = .ok (.iconst 0, 1) := by decide +kernel
theorem dX13_meanError_15 : decode cX13_meanError 15 = .ok (.invokevirtual 80, 3) := by decide +kernel
theorem dX13_meanError_18 : decode cX13_meanError 18 = .ok (.ifCond .eq 7, 3) := by decide +kernel
theorem dX13_meanError_21 : decode cX13_meanError 21 = .ok (.dconst 0, 1) := by decide +kernel
theorem dX13_meanError_22 : decode cX13_meanError 22 = .ok (.goto 18, 3) := by decide +kernel
theorem dX13_meanError_25 : decode cX13_meanError 25 = .ok (.aload_n 0, 1) := by decide +kernel
theorem dX13_meanError_26 : decode cX13_meanError 26 = .ok (.getfield 7, 3) := by decide +kernel
theorem dX13_meanError_29 : decode cX13_meanError 29 = .ok (.iconst 5, 1) := by decide +kernel
theorem dX13_meanError_30 : decode cX13_meanError 30 = .ok (.iaload, 1) := by decide +kernel
theorem dX13_meanError_31 : decode cX13_meanError 31 = .ok (.i2d, 1) := by decide +kernel
theorem dX13_meanError_32 : decode cX13_meanError 32 = .ok (.aload_n 0, 1) := by decide +kernel
theorem dX13_meanError_33 : decode cX13_meanError 33 = .ok (.getfield 7, 3) := by decide +kernel
theorem dX13_meanError_36 : decode cX13_meanError 36 = .ok (.iconst 4, 1) := by decide +kernel
theorem dX13_meanError_37 : decode cX13_meanError 37 = .ok (.iaload, 1) := by decide +kernel
theorem dX13_meanError_38 : decode cX13_meanError 38 = .ok (.i2d, 1) := by decide +kernel
theorem dX13_meanError_39 : decode cX13_meanError 39 = .ok (.ddiv, 1) := by decide +kernel
theorem dX13_meanError_40 : decode cX13_meanError 40 = .ok (.dreturn, 1) := by decide +kernel
set_option maxRecDepth 20000 in
theorem ggX13_hitShare_X13_fails : GoodIn wsX13_hitShare wsX13_fails := goodIn_r _ [6, 7, 8, 9, 10, 11, 12, 13, 14, 15, 16, 17, 18, 19, 20, 21, 22, 23, 24, 25, 26, 27, 28, 29, 30, 31] (by decide +kernel) (by decide +kernel)
set_option maxRecDepth 20000 in
theorem gX13_hitShare_X13_fails : GoodIn wsX13_hitShare (wsV RX13 80 RX13 yX13_fails wsX13_fails) := goodIn_app (goodIn_of _ (by decide +kernel)) ggX13_hitShare_X13_fails
theorem dX13_hitShare_0 : decode cX13_hitShare 0 = .ok (.aload_n 0, 1) := by decide +kernel
theorem dX13_hitShare_1 : decode cX13_hitShare 1 = .ok (.aload_n 0, 1) := by decide +kernel
theorem dX13_hitShare_2 : decode cX13_hitShare 2 = .ok (.getfield 7, 3) := by decide +kernel
theorem dX13_hitShare_5 : decode cX13_hitShare 5 = .ok (.iconst 4, 1) := by decide +kernel
theorem dX13_hitShare_6 : decode cX13_hitShare 6 = .ok (.iaload, 1) := by decide +kernel
theorem dX13_hitShare_7 : decode cX13_hitShare 7 = .ok (.ifCond .ne 7, 3) := by decide +kernel
theorem dX13_hitShare_10 : decode cX13_hitShare 10 = .ok (.iconst 1, 1) := by decide +kernel
theorem dX13_hitShare_11 : decode cX13_hitShare 11 = .ok (.goto 4, 3) := by decide +kernel
theorem dX13_hitShare_14 : decode cX13_hitShare 14 = .ok (.iconst 0, 1) := by decide +kernel
theorem dX13_hitShare_15 : decode cX13_hitShare 15 = .ok (.invokevirtual 80, 3) := by decide +kernel
theorem dX13_hitShare_18 : decode cX13_hitShare 18 = .ok (.ifCond .eq 7, 3) := by decide +kernel
theorem dX13_hitShare_21 : decode cX13_hitShare 21 = .ok (.fconst 0, 1) := by decide +kernel
theorem dX13_hitShare_22 : decode cX13_hitShare 22 = .ok (.goto 19, 3) := by decide +kernel
theorem dX13_hitShare_25 : decode cX13_hitShare 25 = .ok (.aload_n 0, 1) := by decide +kernel
theorem dX13_hitShare_26 : decode cX13_hitShare 26 = .ok (.getfield 7, 3) := by decide +kernel
theorem dX13_hitShare_29 : decode cX13_hitShare 29 = .ok (.bipush 6, 2) := by decide +kernel
theorem dX13_hitShare_31 : decode cX13_hitShare 31 = .ok (.iaload, 1) := by decide +kernel
theorem dX13_hitShare_32 : decode cX13_hitShare 32 = .ok (.i2f, 1) := by decide +kernel
theorem dX13_hitShare_33 : decode cX13_hitShare 33 = .ok (.aload_n 0, 1) := by decide +kernel
theorem dX13_hitShare_34 : decode cX13_hitShare 34 = .ok (.getfield 7, 3) := by decide +kernel
theorem dX13_hitShare_37 : decode cX13_hitShare 37 = .ok (.iconst 4, 1) := by decide +kernel
theorem dX13_hitShare_38 : decode cX13_hitShare 38 = .ok (.iaload, 1) := by decide +kernel
theorem dX13_hitShare_39 : decode cX13_hitShare 39 = .ok (.i2f, 1) := by decide +kernel
theorem dX13_hitShare_40 : decode cX13_hitShare 40 = .ok (.fdiv, 1) := by decide +kernel
theorem dX13_hitShare_41 : decode cX13_hitShare 41 = .ok (.freturn, 1) := by decide +kernel
theorem dX13_writes_0 : decode cX13_writes 0 = .ok (.aload_n 0, 1) := by decide +kernel
theorem dX13_writes_1 : decode cX13_writes 1 = .ok (.getfield 51, 3) := by decide +kernel
theorem dX13_writes_4 : decode cX13_writes 4 = .ok (.aload_n 0, 1) := by decide +kernel
theorem dX13_writes_5 : decode cX13_writes 5 = .ok (.getfield 169, 3) := by decide +kernel
theorem dX13_writes_8 : decode cX13_writes 8 = .ok (.iload_n 1, 1) := by decide +kernel
theorem dX13_writes_9 : decode cX13_writes 9 = .ok (.i2c, 1) := by decide +kernel
theorem dX13_writes_10 : decode cX13_writes 10 = .ok (.castore, 1) := by decide +kernel
theorem dX13_writes_11 : decode cX13_writes 11 = .ok (.aload_n 0, 1) := by decide +kernel
theorem dX13_writes_12 : decode cX13_writes 12 = .ok (.dup, 1) := by decide +kernel
theorem dX13_writes_13 : decode cX13_writes 13 = .ok (.getfield 169, 3) := by decide +kernel
theorem dX13_writes_16 : decode cX13_writes 16 = .ok (.iconst 1, 1) := by decide +kernel
theorem dX13_writes_17 : decode cX13_writes 17 = .ok (.iadd, 1) := by decide +kernel
theorem dX13_writes_18 : decode cX13_writes 18 = .ok (.putfield 169, 3) := by decide +kernel
theorem dX13_writes_21 : decode cX13_writes 21 = .ok (.return_, 1) := by decide +kernel
set_option maxRecDepth 20000 in
theorem ggX13_writesNumber_X13_writesNumber : GoodIn wsX13_writesNumber wsX13_writesNumber := goodIn_ca (goodIn_r _ [0, 1, 2, 3, 4, 5, 6, 7, 8, 9, 10, 11, 12, 13, 14, 15, 16, 17, 18, 19, 20, 21, 22, 23, 24, 25, 26, 27, 28, 29, 30, 31, 32, 33, 34, 35, 36] (by decide +kernel) (by decide +kernel)) (goodIn_sub (fun _ h => List.mem_cons_of_mem _ (List.mem_append_right _ h)) (by decide +kernel))
set_option maxRecDepth 20000 in
theorem gX13_writesNumber_X13_writesNumber : GoodIn wsX13_writesNumber (wsV RX13 176 RX13 yX13_writesNumber wsX13_writesNumber) := goodIn_app (goodIn_of _ (by decide +kernel)) ggX13_writesNumber_X13_writesNumber
set_option maxRecDepth 20000 in
theorem ggX13_writesNumber_X13_writes : GoodIn wsX13_writesNumber wsX13_writes := goodIn_ca (goodIn_r _ [10, 11, 12, 13, 14, 15, 16, 17, 18, 19, 20, 21, 22, 23, 24, 25, 26, 27, 28, 29, 30, 31, 32, 33, 34, 35, 36] (by decide +kernel) (by decide +kernel)) (goodIn_sub (fun _ h => List.mem_cons_of_mem _ (List.mem_append_right _ h)) (by decide +kernel))
set_option maxRecDepth 20000 in
theorem gX13_writesNumber_X13_writes : GoodIn wsX13_writesNumber (wsV RX13 180 RX13 yX13_writes wsX13_writes) := goodIn_app (goodIn_of _ (by decide +kernel)) ggX13_writesNumber_X13_writes
theorem dX13_writesNumber_0 : decode cX13_writesNumber 0 = .ok (.lload_n 1, 1) := by decide +kernel
theorem dX13_writesNumber_1 : decode cX13_writesNumber 1 = .ok (.ldc2_w 172, 3) := by decide +kernel
theorem dX13_writesNumber_4 : decode cX13_writesNumber 4 = .ok (.lcmp, 1) := by decide +kernel
theorem dX13_writesNumber_5 : decode cX13_writesNumber 5 = .ok (.ifCond .le 12, 3) := by decide +kernel
theorem dX13_writesNumber_8 : decode cX13_writesNumber 8 = .ok (.aload_n 0, 1) := by decide +kernel
theorem dX13_writesNumber_9 : decode cX13_writesNumber 9 = .ok (.lload_n 1, 1) := by decide +kernel
theorem dX13_writesNumber_10 : decode cX13_writesNumber 10 = .ok (.ldc2_w 174, 3) := by decide +kernel
theorem dX13_writesNumber_13 : decode cX13_writesNumber 13 = .ok (.ldiv, 1) := by decide +kernel
theorem dX13_writesNumber_14 : decode cX13_writesNumber 14 = .ok (.invokevirtual 176, 3) := by decide +kernel
theorem dX13_writesNumber_17 : decode cX13_writesNumber 17 = .ok (.aload_n 0, 1) := by decide +kernel
theorem dX13_writesNumber_18 : decode cX13_writesNumber 18 = .ok (.bipush 48, 2) := by decide +kernel
theorem dX13_writesNumber_20 : decode cX13_writesNumber 20 = .ok (.lload_n 1, 1) := by decide +kernel
theorem dX13_writesNumber_21 : decode cX13_writesNumber 21 = .ok (.ldc2_w 174, 3) := by decide +kernel
theorem dX13_writesNumber_24 : decode cX13_writesNumber 24 = .ok (.lrem, 1) := by decide +kernel
theorem dX13_writesNumber_25 : decode cX13_writesNumber 25 = .ok (.l2i, 1) := by decide +kernel
theorem dX13_writesNumber_26 : decode cX13_writesNumber 26 = .ok (.iadd, 1) := by decide +kernel
theorem dX13_writesNumber_27 : decode cX13_writesNumber 27 = .ok (.invokevirtual 180, 3) := by decide +kernel
theorem dX13_writesNumber_30 : decode cX13_writesNumber 30 = .ok (.return_, 1) := by decide +kernel
set_option maxRecDepth 20000 in
theorem ggX13_writesWord_J0_length_8abf5 : GoodIn wsX13_writesWord wsJ0_length_8abf5 := goodIn_r _ [5, 6, 7, 8, 9, 4, 10, 11, 12, 57, 58] (by decide +kernel) (by decide +kernel)
set_option maxRecDepth 20000 in
theorem gX13_writesWord_J0_length_8abf5 : GoodIn wsX13_writesWord (wsV RX13 183 RJ0 yJ0_length_8abf5 wsJ0_length_8abf5) := goodIn_app (goodIn_of _ (by decide +kernel)) ggX13_writesWord_J0_length_8abf5
set_option maxRecDepth 20000 in
theorem ggX13_writesWord_J0_charAt_5068e : GoodIn wsX13_writesWord wsJ0_charAt_5068e := goodIn_r _ [16, 6, 17, 18, 19, 4, 20, 11, 12, 21, 22, 23, 24, 25, 26, 27, 28, 29, 30, 31, 32, 33, 34, 35, 36, 37, 38, 39, 40, 41, 42, 43, 44, 45, 46, 47, 48, 49, 57, 58] (by decide +kernel) (by decide +kernel)
set_option maxRecDepth 20000 in
theorem gX13_writesWord_J0_charAt_5068e : GoodIn wsX13_writesWord (wsV RX13 188 RJ0 yJ0_charAt_5068e wsJ0_charAt_5068e) := goodIn_app (goodIn_of _ (by decide +kernel)) ggX13_writesWord_J0_charAt_5068e
set_option maxRecDepth 20000 in
theorem ggX13_writesWord_X13_writes : GoodIn wsX13_writesWord wsX13_writes := goodIn_ca (goodIn_r _ [54, 55, 56, 59, 60, 61, 62, 63, 64, 65, 66, 67, 68, 69, 70, 71, 72, 73, 74, 75, 76, 77, 78, 79, 80, 81, 82] (by decide +kernel) (by decide +kernel)) (goodIn_sub (fun _ h => List.mem_cons_of_mem _ (List.mem_append_right _ h)) (by decide +kernel))
set_option maxRecDepth 20000 in
theorem gX13_writesWord_X13_writes : GoodIn wsX13_writesWord (wsV RX13 180 RX13 yX13_writes wsX13_writes) := goodIn_app (goodIn_of _ (by decide +kernel)) ggX13_writesWord_X13_writes
theorem dX13_writesWord_0 : decode cX13_writesWord 0 = .ok (.iconst 0, 1) := by decide +kernel
theorem dX13_writesWord_1 : decode cX13_writesWord 1 = .ok (.istore_n 2, 1) := by decide +kernel
theorem dX13_writesWord_2 : decode cX13_writesWord 2 = .ok (.iload_n 2, 1) := by decide +kernel
theorem dX13_writesWord_3 : decode cX13_writesWord 3 = .ok (.aload_n 1, 1) := by decide +kernel
theorem dX13_writesWord_4 : decode cX13_writesWord 4 = .ok (.invokevirtual 183, 3) := by decide +kernel
theorem dX13_writesWord_7 : decode cX13_writesWord 7 = .ok (.if_icmp .ge 18, 3) := by decide +kernel
theorem dX13_writesWord_10 : decode cX13_writesWord 10 = .ok (.aload_n 0, 1) := by decide +kernel
theorem dX13_writesWord_11 : decode cX13_writesWord 11 = .ok (.aload_n 1, 1) := by decide +kernel
theorem dX13_writesWord_12 : decode cX13_writesWord 12 = .ok (.iload_n 2, 1) := by decide +kernel
theorem dX13_writesWord_13 : decode cX13_writesWord 13 = .ok (.invokevirtual 188, 3) := by decide +kernel
theorem dX13_writesWord_16 : decode cX13_writesWord 16 = .ok (.invokevirtual 180, 3) := by decide +kernel
theorem dX13_writesWord_19 : decode cX13_writesWord 19 = .ok (.iinc 2 1, 3) := by decide +kernel
theorem dX13_writesWord_22 : decode cX13_writesWord 22 = .ok (.goto (-20), 3) := by decide +kernel
theorem dX13_writesWord_25 : decode cX13_writesWord 25 = .ok (.return_, 1) := by decide +kernel
set_option maxRecDepth 20000 in
theorem ggX13_writeRow_X13_in : GoodIn wsX13_writeRow wsX13_in := goodIn_r _ [6] (by decide +kernel) (by decide +kernel)
set_option maxRecDepth 20000 in
theorem gX13_writeRow_X13_in : GoodIn wsX13_writeRow (va_wsS RX13 72 yX13_in wsX13_in) := goodIn_app (goodIn_of _ (by decide +kernel)) ggX13_writeRow_X13_in
set_option maxRecDepth 20000 in
theorem ggX13_writeRow_X13_fails : GoodIn wsX13_writeRow wsX13_fails := goodIn_r _ [10, 11, 34, 35, 36, 37, 38, 39, 40, 41, 42, 43, 44, 45, 46, 47, 48, 49, 50, 51, 52, 53, 54, 55, 56, 57] (by decide +kernel) (by decide +kernel)
set_option maxRecDepth 20000 in
theorem gX13_writeRow_X13_fails : GoodIn wsX13_writeRow (wsV RX13 80 RX13 yX13_fails wsX13_fails) := goodIn_app (goodIn_of _ (by decide +kernel)) ggX13_writeRow_X13_fails
set_option maxRecDepth 20000 in
theorem ggX13_writeRow_X13_isFront : GoodIn wsX13_writeRow wsX13_isFront := goodIn_ca (goodIn_r _ [15, 2, 16, 17, 18, 5, 19, 20, 21, 22, 34, 35, 36, 37, 38, 39, 40, 41, 42, 43, 44, 45, 46, 47, 48, 49, 50, 51, 52, 53, 54, 55, 56, 57] (by decide +kernel) (by decide +kernel)) (goodIn_sub (fun _ h => List.mem_cons_of_mem _ (List.mem_append_right _ h)) (by decide +kernel))
set_option maxRecDepth 20000 in
theorem gX13_writeRow_X13_isFront : GoodIn wsX13_writeRow (wsV RX13 106 RX13 yX13_isFront wsX13_isFront) := goodIn_app (goodIn_of _ (by decide +kernel)) ggX13_writeRow_X13_isFront
set_option maxRecDepth 20000 in
theorem ggX13_writeRow_X13_writes : GoodIn wsX13_writeRow wsX13_writes := goodIn_ca (goodIn_r _ [26, 27, 1, 34, 35, 36, 37, 38, 39, 40, 41, 42, 43, 44, 45, 46, 47, 48, 49, 50, 51, 52, 53, 54, 55, 56, 57] (by decide +kernel) (by decide +kernel)) (goodIn_sub (fun _ h => List.mem_cons_of_mem _ (List.mem_append_right _ h)) (by decide +kernel))
set_option maxRecDepth 20000 in
theorem gX13_writeRow_X13_writes : GoodIn wsX13_writeRow (wsV RX13 180 RX13 yX13_writes wsX13_writes) := goodIn_app (goodIn_of _ (by decide +kernel)) ggX13_writeRow_X13_writes
set_option maxRecDepth 20000 in
theorem ggX13_writeRow_X13_writesNumber : GoodIn wsX13_writeRow wsX13_writesNumber := goodIn_ca (goodIn_r _ [31, 32, 33, 28, 29, 30, 5, 23, 24, 25, 26, 27, 1, 34, 35, 36, 37, 38, 39, 40, 41, 42, 43, 44, 45, 46, 47, 48, 49, 50, 51, 52, 53, 54, 55, 56, 57] (by decide +kernel) (by decide +kernel)) (goodIn_sub (fun _ h => List.mem_cons_of_mem _ (List.mem_append_right _ h)) (by decide +kernel))
set_option maxRecDepth 20000 in
theorem gX13_writeRow_X13_writesNumber : GoodIn wsX13_writeRow (wsV RX13 176 RX13 yX13_writesNumber wsX13_writesNumber) := goodIn_app (goodIn_of _ (by decide +kernel)) ggX13_writeRow_X13_writesNumber
theorem dX13_writeRow_0 : decode cX13_writeRow 0 = .ok (.aload_n 0, 1) := by decide +kernel
theorem dX13_writeRow_1 : decode cX13_writeRow 1 = .ok (.iload_n 1, 1) := by decide +kernel
theorem dX13_writeRow_2 : decode cX13_writeRow 2 = .ok (.iconst 0, 1) := by decide +kernel
theorem dX13_writeRow_3 : decode cX13_writeRow 3 = .ok (.iconst 4, 1) := by decide +kernel
theorem dX13_writeRow_4 : decode cX13_writeRow 4 = .ok (.invokestatic 72, 3) := by decide +kernel
theorem dX13_writeRow_7 : decode cX13_writeRow 7 = .ok (.ifCond .eq 7, 3) := by decide +kernel
theorem dX13_writeRow_10 : decode cX13_writeRow 10 = .ok (.iconst 0, 1) := by decide +kernel
theorem dX13_writeRow_11 : decode cX13_writeRow 11 = .ok (.goto 4, 3) := by decide +kernel
theorem dX13_writeRow_14 : decode cX13_writeRow 14 = .ok (.iconst 1, 1) := by decide +kernel
theorem dX13_writeRow_15 : decode cX13_writeRow 15 = .ok (.invokevirtual 80, 3) := by decide +kernel
theorem dX13_writeRow_18 : decode cX13_writeRow 18 = .ok (.ifCond .eq 5, 3) := by decide +kernel
theorem dX13_writeRow_21 : decode cX13_writeRow 21 = .ok (.iconst 0, 1) := by decide +kernel
theorem dX13_writeRow_22 : decode cX13_writeRow 22 = .ok (.ireturn, 1) := by decide +kernel
theorem dX13_writeRow_23 : decode cX13_writeRow 23 = .ok (.aload_n 0, 1) := by decide +kernel
theorem dX13_writeRow_24 : decode cX13_writeRow 24 = .ok (.iconst 0, 1) := by decide +kernel
theorem dX13_writeRow_25 : decode cX13_writeRow 25 = .ok (.putfield 169, 3) := by decide +kernel
theorem dX13_writeRow_28 : decode cX13_writeRow 28 = .ok (.iconst 0, 1) := by decide +kernel
theorem dX13_writeRow_29 : decode cX13_writeRow 29 = .ok (.istore_n 2, 1) := by decide +kernel
theorem dX13_writeRow_30 : decode cX13_writeRow 30 = .ok (.iload_n 2, 1) := by decide +kernel
theorem dX13_writeRow_31 : decode cX13_writeRow 31 = .ok (.iconst 5, 1) := by decide +kernel
theorem dX13_writeRow_32 : decode cX13_writeRow 32 = .ok (.if_icmp .ge 57, 3) := by decide +kernel
theorem dX13_writeRow_35 : decode cX13_writeRow 35 = .ok (.iload_n 2, 1) := by decide +kernel
theorem dX13_writeRow_36 : decode cX13_writeRow 36 = .ok (.ifCond .le 29, 3) := by decide +kernel
theorem dX13_writeRow_39 : decode cX13_writeRow 39 = .ok (.aload_n 0, 1) := by decide +kernel
theorem dX13_writeRow_40 : decode cX13_writeRow 40 = .ok (.aload_n 0, 1) := by decide +kernel
theorem dX13_writeRow_41 : decode cX13_writeRow 41 = .ok (.iconst 5, 1) := by decide +kernel
theorem dX13_writeRow_42 : decode cX13_writeRow 42 = .ok (.iload_n 1, 1) := by decide +kernel
theorem dX13_writeRow_43 : decode cX13_writeRow 43 = .ok (.imul, 1) := by decide +kernel
theorem dX13_writeRow_44 : decode cX13_writeRow 44 = .ok (.iload_n 2, 1) := by decide +kernel
theorem dX13_writeRow_45 : decode cX13_writeRow 45 = .ok (.iadd, 1) := by decide +kernel
theorem dX13_writeRow_46 : decode cX13_writeRow 46 = .ok (.iconst 1, 1) := by decide +kernel
theorem dX13_writeRow_47 : decode cX13_writeRow 47 = .ok (.isub, 1) := by decide +kernel
theorem dX13_writeRow_48 : decode cX13_writeRow 48 = .ok (.iconst 1, 1) := by decide +kernel
theorem dX13_writeRow_49 : decode cX13_writeRow 49 = .ok (.invokevirtual 106, 3) := by decide +kernel
theorem dX13_writeRow_52 : decode cX13_writeRow 52 = .ok (.ifCond .eq 8, 3) := by decide +kernel
theorem dX13_writeRow_55 : decode cX13_writeRow 55 = .ok (.bipush 124, 2) := by decide +kernel
theorem dX13_writeRow_57 : decode cX13_writeRow 57 = .ok (.goto 5, 3) := by decide +kernel
theorem dX13_writeRow_60 : decode cX13_writeRow 60 = .ok (.bipush 32, 2) := by decide +kernel
theorem dX13_writeRow_62 : decode cX13_writeRow 62 = .ok (.invokevirtual 180, 3) := by decide +kernel
theorem dX13_writeRow_65 : decode cX13_writeRow 65 = .ok (.aload_n 0, 1) := by decide +kernel
theorem dX13_writeRow_66 : decode cX13_writeRow 66 = .ok (.aload_n 0, 1) := by decide +kernel
theorem dX13_writeRow_67 : decode cX13_writeRow 67 = .ok (.getfield 7, 3) := by decide +kernel
theorem dX13_writeRow_70 : decode cX13_writeRow 70 = .ok (.bipush 7, 2) := by decide +kernel
theorem dX13_writeRow_72 : decode cX13_writeRow 72 = .ok (.iconst 5, 1) := by decide +kernel
theorem dX13_writeRow_73 : decode cX13_writeRow 73 = .ok (.iload_n 1, 1) := by decide +kernel
theorem dX13_writeRow_74 : decode cX13_writeRow 74 = .ok (.imul, 1) := by decide +kernel
theorem dX13_writeRow_75 : decode cX13_writeRow 75 = .ok (.iadd, 1) := by decide +kernel
theorem dX13_writeRow_76 : decode cX13_writeRow 76 = .ok (.iload_n 2, 1) := by decide +kernel
theorem dX13_writeRow_77 : decode cX13_writeRow 77 = .ok (.iadd, 1) := by decide +kernel
theorem dX13_writeRow_78 : decode cX13_writeRow 78 = .ok (.iaload, 1) := by decide +kernel
theorem dX13_writeRow_79 : decode cX13_writeRow 79 = .ok (.i2l, 1) := by decide +kernel
theorem dX13_writeRow_80 : decode cX13_writeRow 80 = .ok (.invokevirtual 176, 3) := by decide +kernel
theorem dX13_writeRow_83 : decode cX13_writeRow 83 = .ok (.iinc 2 1, 3) := by decide +kernel
theorem dX13_writeRow_86 : decode cX13_writeRow 86 = .ok (.goto (-56), 3) := by decide +kernel
theorem dX13_writeRow_89 : decode cX13_writeRow 89 = .ok (.aload_n 0, 1) := by decide +kernel
theorem dX13_writeRow_90 : decode cX13_writeRow 90 = .ok (.getfield 169, 3) := by decide +kernel
theorem dX13_writeRow_93 : decode cX13_writeRow 93 = .ok (.ireturn, 1) := by decide +kernel
set_option maxRecDepth 20000 in
theorem ggX13_writeChances_X13_isSoon : GoodIn wsX13_writeChances wsX13_isSoon := goodIn_r _ [5, 6, 7, 4, 8] (by decide +kernel) (by decide +kernel)
set_option maxRecDepth 20000 in
theorem gX13_writeChances_X13_isSoon : GoodIn wsX13_writeChances (va_wsS RX13 137 yX13_isSoon wsX13_isSoon) := goodIn_app (goodIn_of _ (by decide +kernel)) ggX13_writeChances_X13_isSoon
set_option maxRecDepth 20000 in
theorem ggX13_writeChances_X13_fails : GoodIn wsX13_writeChances wsX13_fails := goodIn_r _ [12, 13, 114, 115, 116, 117, 118, 119, 120, 121, 122, 123, 124, 125, 126, 127, 128, 129, 130, 131, 132, 133, 134, 135, 136, 137] (by decide +kernel) (by decide +kernel)
set_option maxRecDepth 20000 in
theorem gX13_writeChances_X13_fails : GoodIn wsX13_writeChances (wsV RX13 80 RX13 yX13_fails wsX13_fails) := goodIn_app (goodIn_of _ (by decide +kernel)) ggX13_writeChances_X13_fails
set_option maxRecDepth 20000 in
theorem ggX13_writeChances_X13_writesWord : GoodIn wsX13_writeChances wsX13_writesWord := goodIn_ca (goodIn_r _ [17, 18, 19, 20, 21, 22, 23, 24, 25, 26, 27, 28, 29, 30, 31, 32, 33, 34, 35, 36, 37, 38, 39, 40, 41, 42, 43, 44, 45, 46, 47, 48, 49, 50, 51, 52, 53, 54, 55, 56, 57, 58, 59, 60, 61, 62, 63, 64, 65, 66, 67, 68, 69, 4, 70, 71, 1, 138, 139, 114, 115, 116, 117, 118, 119, 120, 121, 122, 123, 124, 125, 126, 127, 128, 129, 130, 131, 132, 133, 134, 135, 136, 137] (by decide +kernel) (by decide +kernel)) (goodIn_sub (fun _ h => List.mem_cons_of_mem _ (List.mem_append_left _ (List.mem_append_right _ h))) (by decide +kernel))
set_option maxRecDepth 20000 in
theorem gX13_writeChances_X13_writesWord : GoodIn wsX13_writeChances (wsV RX13 200 RX13 yX13_writesWord wsX13_writesWord) := goodIn_app (goodIn_of _ (by decide +kernel)) ggX13_writeChances_X13_writesWord
set_option maxRecDepth 20000 in
theorem ggX13_writeChances_X13_upper : GoodIn wsX13_writeChances wsX13_upper := goodIn_ca (goodIn_ca (goodIn_r _ [75, 76, 77, 78, 79, 80, 4, 81, 2, 3, 5, 6, 7, 8, 82, 83, 84, 9, 10, 11, 12, 13, 85, 86, 87, 88, 89, 90, 91, 92, 93, 94, 95, 96, 97, 98, 99, 100, 101, 102, 103, 114, 115, 116, 117, 118, 119, 120, 121, 122, 123, 124, 125, 126, 127, 128, 129, 130, 131, 132, 133, 134, 135, 136, 137] (by decide +kernel) (by decide +kernel)) (goodIn_sub (fun _ h => List.mem_cons_of_mem _ (List.mem_append_left _ (List.mem_append_right _ h))) (by decide +kernel))) (goodIn_sub (fun _ h => List.mem_cons_of_mem _ (List.mem_append_right _ h)) (by decide +kernel))
set_option maxRecDepth 20000 in
theorem gX13_writeChances_X13_upper : GoodIn wsX13_writeChances (wsV RX13 147 RX13 yX13_upper wsX13_upper) := goodIn_app (goodIn_of _ (by decide +kernel)) ggX13_writeChances_X13_upper
set_option maxRecDepth 20000 in
theorem ggX13_writeChances_X13_writesNumber : GoodIn wsX13_writeChances wsX13_writesNumber := goodIn_ca (goodIn_r _ [107, 108, 109, 104, 105, 106, 4, 67, 68, 69, 70, 71, 1, 114, 115, 116, 117, 118, 119, 120, 121, 122, 123, 124, 125, 126, 127, 128, 129, 130, 131, 132, 133, 134, 135, 136, 137] (by decide +kernel) (by decide +kernel)) (goodIn_sub (fun _ h => List.mem_cons_of_mem _ (List.mem_append_left _ (List.mem_append_right _ h))) (by decide +kernel))
set_option maxRecDepth 20000 in
theorem gX13_writeChances_X13_writesNumber : GoodIn wsX13_writeChances (wsV RX13 176 RX13 yX13_writesNumber wsX13_writesNumber) := goodIn_app (goodIn_of _ (by decide +kernel)) ggX13_writeChances_X13_writesNumber
set_option maxRecDepth 20000 in
theorem ggX13_writeChances_X13_writes : GoodIn wsX13_writeChances wsX13_writes := goodIn_ca (goodIn_r _ [70, 71, 1, 114, 115, 116, 117, 118, 119, 120, 121, 122, 123, 124, 125, 126, 127, 128, 129, 130, 131, 132, 133, 134, 135, 136, 137] (by decide +kernel) (by decide +kernel)) (goodIn_sub (fun _ h => List.mem_cons_of_mem _ (List.mem_append_left _ (List.mem_append_right _ h))) (by decide +kernel))
set_option maxRecDepth 20000 in
theorem gX13_writeChances_X13_writes : GoodIn wsX13_writeChances (wsV RX13 180 RX13 yX13_writes wsX13_writes) := goodIn_app (goodIn_of _ (by decide +kernel)) ggX13_writeChances_X13_writes
set_option maxRecDepth 20000 in
theorem ggX13_writeChances_X13_lower : GoodIn wsX13_writeChances wsX13_lower := goodIn_ca (goodIn_ca (goodIn_r _ [113, 77, 76, 78, 79, 80, 4, 81, 2, 3, 5, 6, 7, 8, 82, 83, 84, 9, 10, 11, 12, 13, 85, 86, 87, 88, 89, 90, 91, 92, 93, 94, 95, 96, 97, 98, 99, 100, 101, 102, 103, 114, 115, 116, 117, 118, 119, 120, 121, 122, 123, 124, 125, 126, 127, 128, 129, 130, 131, 132, 133, 134, 135, 136, 137] (by decide +kernel) (by decide +kernel)) (goodIn_sub (fun _ h => List.mem_cons_of_mem _ (List.mem_append_left _ (List.mem_append_right _ h))) (by decide +kernel))) (goodIn_sub (fun _ h => List.mem_cons_of_mem _ (List.mem_append_right _ h)) (by decide +kernel))
set_option maxRecDepth 20000 in
theorem gX13_writeChances_X13_lower : GoodIn wsX13_writeChances (wsV RX13 151 RX13 yX13_lower wsX13_lower) := goodIn_app (goodIn_of _ (by decide +kernel)) ggX13_writeChances_X13_lower
theorem dX13_writeChances_0 : decode cX13_writeChances 0 = .ok (.aload_n 0, 1) := by decide +kernel
theorem dX13_writeChances_1 : decode cX13_writeChances 1 = .ok (.iload_n 1, 1) := by decide +kernel
theorem dX13_writeChances_2 : decode cX13_writeChances 2 = .ok (.invokestatic 137, 3) := by decide +kernel
theorem dX13_writeChances_5 : decode cX13_writeChances 5 = .ok (.ifCond .eq 7, 3) := by decide +kernel
theorem dX13_writeChances_8 : decode cX13_writeChances 8 = .ok (.iconst 0, 1) := by decide +kernel
theorem dX13_writeChances_9 : decode cX13_writeChances 9 = .ok (.goto 4, 3) := by decide +kernel
theorem dX13_writeChances_12 : decode cX13_writeChances 12 = .ok (.iconst 1, 1) := by decide +kernel
theorem dX13_writeChances_13 : decode cX13_writeChances 13 = .ok (.invokevirtual 80, 3) := by decide +kernel
theorem dX13_writeChances_16 : decode cX13_writeChances 16 = .ok (.ifCond .eq 5, 3) := by decide +kernel
theorem dX13_writeChances_19 : decode cX13_writeChances 19 = .ok (.iconst 0, 1) := by decide +kernel
theorem dX13_writeChances_20 : decode cX13_writeChances 20 = .ok (.ireturn, 1) := by decide +kernel
theorem dX13_writeChances_21 : decode cX13_writeChances 21 = .ok (.aload_n 0, 1) := by decide +kernel
theorem dX13_writeChances_22 : decode cX13_writeChances 22 = .ok (.iconst 0, 1) := by decide +kernel
theorem dX13_writeChances_23 : decode cX13_writeChances 23 = .ok (.putfield 169, 3) := by decide +kernel
theorem dX13_writeChances_26 : decode cX13_writeChances 26 = .ok (.iconst 0, 1) := by decide +kernel
theorem dX13_writeChances_27 : decode cX13_writeChances 27 = .ok (.istore_n 2, 1) := by decide +kernel
theorem dX13_writeChances_28 : decode cX13_writeChances 28 = .ok (.iload_n 2, 1) := by decide +kernel
theorem dX13_writeChances_29 : decode cX13_writeChances 29 = .ok (.iconst 4, 1) := by decide +kernel
theorem dX13_writeChances_30 : decode cX13_writeChances 30 = .ok (.if_icmp .ge 70, 3) := by decide +kernel
theorem dX13_writeChances_33 : decode cX13_writeChances 33 = .ok (.aload_n 0, 1) := by decide +kernel
theorem dX13_writeChances_34 : decode cX13_writeChances 34 = .ok (.iload_n 2, 1) := by decide +kernel
theorem dX13_writeChances_35 : decode cX13_writeChances 35 = .ok (.ifCond .ne 8, 3) := by decide +kernel
theorem dX13_writeChances_38 : decode cX13_writeChances 38 = .ok (.ldc 192, 2) := by decide +kernel
theorem dX13_writeChances_40 : decode cX13_writeChances 40 = .ok (.goto 25, 3) := by decide +kernel
theorem dX13_writeChances_43 : decode cX13_writeChances 43 = .ok (.iload_n 2, 1) := by decide +kernel
theorem dX13_writeChances_44 : decode cX13_writeChances 44 = .ok (.iconst 1, 1) := by decide +kernel
theorem dX13_writeChances_45 : decode cX13_writeChances 45 = .ok (.if_icmp .ne 8, 3) := by decide +kernel
theorem dX13_writeChances_48 : decode cX13_writeChances 48 = .ok (.ldc 194, 2) := by decide +kernel
theorem dX13_writeChances_50 : decode cX13_writeChances 50 = .ok (.goto 15, 3) := by decide +kernel
theorem dX13_writeChances_53 : decode cX13_writeChances 53 = .ok (.iload_n 2, 1) := by decide +kernel
theorem dX13_writeChances_54 : decode cX13_writeChances 54 = .ok (.iconst 2, 1) := by decide +kernel
theorem dX13_writeChances_55 : decode cX13_writeChances 55 = .ok (.if_icmp .ne 8, 3) := by decide +kernel
theorem dX13_writeChances_58 : decode cX13_writeChances 58 = .ok (.ldc 196, 2) := by decide +kernel
theorem dX13_writeChances_60 : decode cX13_writeChances 60 = .ok (.goto 5, 3) := by decide +kernel
theorem dX13_writeChances_63 : decode cX13_writeChances 63 = .ok (.ldc 198, 2) := by decide +kernel
theorem dX13_writeChances_65 : decode cX13_writeChances 65 = .ok (.invokevirtual 200, 3) := by decide +kernel
theorem dX13_writeChances_68 : decode cX13_writeChances 68 = .ok (.aload_n 0, 1) := by decide +kernel
theorem dX13_writeChances_69 : decode cX13_writeChances 69 = .ok (.aload_n 0, 1) := by decide +kernel
theorem dX13_writeChances_70 : decode cX13_writeChances 70 = .ok (.iload_n 1, 1) := by decide +kernel
theorem dX13_writeChances_71 : decode cX13_writeChances 71 = .ok (.iload_n 2, 1) := by decide +kernel
theorem dX13_writeChances_72 : decode cX13_writeChances 72 = .ok (.invokevirtual 147, 3) := by decide +kernel
theorem dX13_writeChances_75 : decode cX13_writeChances 75 = .ok (.invokevirtual 176, 3) := by decide +kernel
theorem dX13_writeChances_78 : decode cX13_writeChances 78 = .ok (.aload_n 0, 1) := by decide +kernel
theorem dX13_writeChances_79 : decode cX13_writeChances 79 = .ok (.bipush 47, 2) := by decide +kernel
theorem dX13_writeChances_81 : decode cX13_writeChances 81 = .ok (.invokevirtual 180, 3) := by decide +kernel
theorem dX13_writeChances_84 : decode cX13_writeChances 84 = .ok (.aload_n 0, 1) := by decide +kernel
theorem dX13_writeChances_85 : decode cX13_writeChances 85 = .ok (.aload_n 0, 1) := by decide +kernel
theorem dX13_writeChances_86 : decode cX13_writeChances 86 = .ok (.iload_n 1, 1) := by decide +kernel
theorem dX13_writeChances_87 : decode cX13_writeChances 87 = .ok (.iload_n 2, 1) := by decide +kernel
theorem dX13_writeChances_88 : decode cX13_writeChances 88 = .ok (.invokevirtual 151, 3) := by decide +kernel
theorem dX13_writeChances_91 : decode cX13_writeChances 91 = .ok (.invokevirtual 176, 3) := by decide +kernel
theorem dX13_writeChances_94 : decode cX13_writeChances 94 = .ok (.iinc 2 1, 3) := by decide +kernel
theorem dX13_writeChances_97 : decode cX13_writeChances 97 = .ok (.goto (-69), 3) := by decide +kernel
theorem dX13_writeChances_100 : decode cX13_writeChances 100 = .ok (.aload_n 0, 1) := by decide +kernel
theorem dX13_writeChances_101 : decode cX13_writeChances 101 = .ok (.getfield 169, 3) := by decide +kernel
theorem dX13_writeChances_104 : decode cX13_writeChances 104 = .ok (.ireturn, 1) := by decide +kernel
set_option maxRecDepth 20000 in
theorem ggX13_lineAt_X13_in : GoodIn wsX13_lineAt wsX13_in := goodIn_r _ [6] (by decide +kernel) (by decide +kernel)
set_option maxRecDepth 20000 in
theorem gX13_lineAt_X13_in : GoodIn wsX13_lineAt (va_wsS RX13 72 yX13_in wsX13_in) := goodIn_app (goodIn_of _ (by decide +kernel)) ggX13_lineAt_X13_in
set_option maxRecDepth 20000 in
theorem ggX13_lineAt_X13_fails : GoodIn wsX13_lineAt wsX13_fails := goodIn_r _ [10, 11, 12, 13, 14, 15, 16, 17, 18, 19, 20, 21, 22, 23, 24, 25, 26, 27, 28, 29, 30, 31, 32, 33, 34, 35] (by decide +kernel) (by decide +kernel)
set_option maxRecDepth 20000 in
theorem gX13_lineAt_X13_fails : GoodIn wsX13_lineAt (wsV RX13 80 RX13 yX13_fails wsX13_fails) := goodIn_app (goodIn_of _ (by decide +kernel)) ggX13_lineAt_X13_fails
theorem dX13_lineAt_0 : decode cX13_lineAt 0 = .ok (.aload_n 0, 1) := by decide +kernel
theorem dX13_lineAt_1 : decode cX13_lineAt 1 = .ok (.iload_n 1, 1) := by decide +kernel
theorem dX13_lineAt_2 : decode cX13_lineAt 2 = .ok (.iconst 0, 1) := by decide +kernel
theorem dX13_lineAt_3 : decode cX13_lineAt 3 = .ok (.aload_n 0, 1) := by decide +kernel
theorem dX13_lineAt_4 : decode cX13_lineAt 4 = .ok (.getfield 169, 3) := by decide +kernel
theorem dX13_lineAt_7 : decode cX13_lineAt 7 = .ok (.iconst 1, 1) := by decide +kernel
theorem dX13_lineAt_8 : decode cX13_lineAt 8 = .ok (.isub, 1) := by decide +kernel
theorem dX13_lineAt_9 : decode cX13_lineAt 9 = .ok (.invokestatic 72, 3) := by decide +kernel
theorem dX13_lineAt_12 : decode cX13_lineAt 12 = .ok (.ifCond .eq 7, 3) := by decide +kernel
theorem dX13_lineAt_15 : decode cX13_lineAt 15 = .ok (.iconst 0, 1) := by decide +kernel
theorem dX13_lineAt_16 : decode cX13_lineAt 16 = .ok (.goto 4, 3) := by decide +kernel
theorem dX13_lineAt_19 : decode cX13_lineAt 19 = .ok (.iconst 1, 1) := by decide +kernel
theorem dX13_lineAt_20 : decode cX13_lineAt 20 = .ok (.invokevirtual 80, 3) := by decide +kernel
theorem dX13_lineAt_23 : decode cX13_lineAt 23 = .ok (.ifCond .eq 8, 3) := by decide +kernel
theorem dX13_lineAt_26 : decode cX13_lineAt 26 = .ok (.bipush 32, 2) := by decide +kernel
theorem dX13_lineAt_28 : decode cX13_lineAt 28 = .ok (.goto 9, 3) := by decide +kernel
theorem dX13_lineAt_31 : decode cX13_lineAt 31 = .ok (.aload_n 0, 1) := by decide +kernel
theorem dX13_lineAt_32 : decode cX13_lineAt 32 = .ok (.getfield 51, 3) := by decide +kernel
theorem dX13_lineAt_35 : decode cX13_lineAt 35 = .ok (.iload_n 1, 1) := by decide +kernel
theorem dX13_lineAt_36 : decode cX13_lineAt 36 = .ok (.caload, 1) := by decide +kernel
theorem dX13_lineAt_37 : decode cX13_lineAt 37 = .ok (.ireturn, 1) := by decide +kernel
theorem dX13_isConsistent_0 : decode cX13_isConsistent 0 = .ok (.aload_n 0, 1) := by decide +kernel
theorem dX13_isConsistent_1 : decode cX13_isConsistent 1 = .ok (.iconst 0, 1) := by decide +kernel
theorem dX13_isConsistent_2 : decode cX13_isConsistent 2 = .ok (.putfield 58, 3) := by decide +kernel
theorem dX13_isConsistent_5 : decode cX13_isConsistent 5 = .ok (.iconst 1, 1) := by decide +kernel
theorem dX13_isConsistent_6 : decode cX13_isConsistent 6 = .ok (.ireturn, 1) := by decide +kernel
set_option maxRecDepth 20000 in
theorem ggX13_type_X13_in : GoodIn wsX13_type wsX13_in := goodIn_r _ [6] (by decide +kernel) (by decide +kernel)
set_option maxRecDepth 20000 in
theorem gX13_type_X13_in : GoodIn wsX13_type (va_wsS RX13 72 yX13_in wsX13_in) := goodIn_app (goodIn_of _ (by decide +kernel)) ggX13_type_X13_in
set_option maxRecDepth 20000 in
theorem ggX13_type_X13_fails : GoodIn wsX13_type wsX13_fails := goodIn_r _ [10, 11, 12, 13, 14, 15, 16, 17, 18, 19, 20, 21, 22, 23, 24, 25, 26, 27, 28, 29, 30, 31, 32, 33, 34, 35] (by decide +kernel) (by decide +kernel)
set_option maxRecDepth 20000 in
theorem gX13_type_X13_fails : GoodIn wsX13_type (wsV RX13 80 RX13 yX13_fails wsX13_fails) := goodIn_app (goodIn_of _ (by decide +kernel)) ggX13_type_X13_fails
theorem dX13_type_0 : decode cX13_type 0 = .ok (.aload_n 0, 1) := by decide +kernel
theorem dX13_type_1 : decode cX13_type 1 = .ok (.iload_n 1, 1) := by decide +kernel
theorem dX13_type_2 : decode cX13_type 2 = .ok (.bipush 32, 2) := by decide +kernel
theorem dX13_type_4 : decode cX13_type 4 = .ok (.bipush 126, 2) := by decide +kernel
theorem dX13_type_6 : decode cX13_type 6 = .ok (.invokestatic 72, 3) := by decide +kernel
theorem dX13_type_9 : decode cX13_type 9 = .ok (.ifCond .ne 7, 3) := by decide +kernel
theorem dX13_type_12 : decode cX13_type 12 = .ok (.iconst 1, 1) := by decide +kernel
theorem dX13_type_13 : decode cX13_type 13 = .ok (.goto 17, 3) := by decide +kernel
theorem dX13_type_16 : decode cX13_type 16 = .ok (.aload_n 0, 1) := by decide +kernel
theorem dX13_type_17 : decode cX13_type 17 = .ok (.getfield 204, 3) := by decide +kernel
theorem dX13_type_20 : decode cX13_type 20 = .ok (.bipush 60, 2) := by decide +kernel
theorem dX13_type_22 : decode cX13_type 22 = .ok (.if_icmp .ne 7, 3) := by decide +kernel
theorem dX13_type_25 : decode cX13_type 25 = .ok (.iconst 2, 1) := by decide +kernel
theorem dX13_type_26 : decode cX13_type 26 = .ok (.goto 4, 3) := by decide +kernel
theorem dX13_type_29 : decode cX13_type 29 = .ok (.iconst 0, 1) := by decide +kernel
theorem dX13_type_30 : decode cX13_type 30 = .ok (.invokevirtual 80, 3) := by decide +kernel
theorem dX13_type_33 : decode cX13_type 33 = .ok (.ifCond .eq 5, 3) := by decide +kernel
theorem dX13_type_36 : decode cX13_type 36 = .ok (.iconst 0, 1) := by decide +kernel
theorem dX13_type_37 : decode cX13_type 37 = .ok (.ireturn, 1) := by decide +kernel
theorem dX13_type_38 : decode cX13_type 38 = .ok (.aload_n 0, 1) := by decide +kernel
theorem dX13_type_39 : decode cX13_type 39 = .ok (.getfield 41, 3) := by decide +kernel
theorem dX13_type_42 : decode cX13_type 42 = .ok (.aload_n 0, 1) := by decide +kernel
theorem dX13_type_43 : decode cX13_type 43 = .ok (.getfield 204, 3) := by decide +kernel
theorem dX13_type_46 : decode cX13_type 46 = .ok (.iload_n 1, 1) := by decide +kernel
theorem dX13_type_47 : decode cX13_type 47 = .ok (.iastore, 1) := by decide +kernel
theorem dX13_type_48 : decode cX13_type 48 = .ok (.aload_n 0, 1) := by decide +kernel
theorem dX13_type_49 : decode cX13_type 49 = .ok (.dup, 1) := by decide +kernel
theorem dX13_type_50 : decode cX13_type 50 = .ok (.getfield 204, 3) := by decide +kernel
theorem dX13_type_53 : decode cX13_type 53 = .ok (.iconst 1, 1) := by decide +kernel
theorem dX13_type_54 : decode cX13_type 54 = .ok (.iadd, 1) := by decide +kernel
theorem dX13_type_55 : decode cX13_type 55 = .ok (.putfield 204, 3) := by decide +kernel
theorem dX13_type_58 : decode cX13_type 58 = .ok (.aload_n 0, 1) := by decide +kernel
theorem dX13_type_59 : decode cX13_type 59 = .ok (.getfield 204, 3) := by decide +kernel
theorem dX13_type_62 : decode cX13_type 62 = .ok (.ireturn, 1) := by decide +kernel
theorem dX13_here_0 : decode cX13_here 0 = .ok (.aload_n 0, 1) := by decide +kernel
theorem dX13_here_1 : decode cX13_here 1 = .ok (.getfield 206, 3) := by decide +kernel
theorem dX13_here_4 : decode cX13_here 4 = .ok (.aload_n 0, 1) := by decide +kernel
theorem dX13_here_5 : decode cX13_here 5 = .ok (.getfield 204, 3) := by decide +kernel
theorem dX13_here_8 : decode cX13_here 8 = .ok (.if_icmp .ge 15, 3) := by decide +kernel
theorem dX13_here_11 : decode cX13_here 11 = .ok (.aload_n 0, 1) := by decide +kernel
theorem dX13_here_12 : decode cX13_here 12 = .ok (.getfield 41, 3) := by decide +kernel
theorem dX13_here_15 : decode cX13_here 15 = .ok (.aload_n 0, 1) := by decide +kernel
theorem dX13_here_16 : decode cX13_here 16 = .ok (.getfield 206, 3) := by decide +kernel
theorem dX13_here_19 : decode cX13_here 19 = .ok (.iaload, 1) := by decide +kernel
theorem dX13_here_20 : decode cX13_here 20 = .ok (.goto 4, 3) := by decide +kernel
theorem dX13_here_23 : decode cX13_here 23 = .ok (.iconst (-1), 1) := by decide +kernel
theorem dX13_here_24 : decode cX13_here 24 = .ok (.ireturn, 1) := by decide +kernel
set_option maxRecDepth 20000 in
theorem ggX13_skips_X13_here : GoodIn wsX13_skips wsX13_here := goodIn_ca (goodIn_r _ [6, 1, 7, 8, 9, 10, 11, 12, 13, 14, 15, 16, 17, 18, 19, 20, 21, 22, 23, 24, 25, 26, 27, 28, 29, 30, 31, 32] (by decide +kernel) (by decide +kernel)) (goodIn_sub (fun _ h => List.mem_cons_of_mem _ (List.mem_append_right _ h)) (by decide +kernel))
set_option maxRecDepth 20000 in
theorem gX13_skips_X13_here : GoodIn wsX13_skips (wsV RX13 209 RX13 yX13_here wsX13_here) := goodIn_app (goodIn_of _ (by decide +kernel)) ggX13_skips_X13_here
theorem dX13_skips_0 : decode cX13_skips 0 = .ok (.aload_n 0, 1) := by decide +kernel
theorem dX13_skips_1 : decode cX13_skips 1 = .ok (.invokevirtual 209, 3) := by decide +kernel
theorem dX13_skips_4 : decode cX13_skips 4 = .ok (.iload_n 1, 1) := by decide +kernel
theorem dX13_skips_5 : decode cX13_skips 5 = .ok (.if_icmp .eq 5, 3) := by decide +kernel
theorem dX13_skips_8 : decode cX13_skips 8 = .ok (.iconst 0, 1) := by decide +kernel
theorem dX13_skips_9 : decode cX13_skips 9 = .ok (.ireturn, 1) := by decide +kernel
theorem dX13_skips_10 : decode cX13_skips 10 = .ok (.aload_n 0, 1) := by decide +kernel
theorem dX13_skips_11 : decode cX13_skips 11 = .ok (.dup, 1) := by decide +kernel
theorem dX13_skips_12 : decode cX13_skips 12 = .ok (.getfield 206, 3) := by decide +kernel
theorem dX13_skips_15 : decode cX13_skips 15 = .ok (.iconst 1, 1) := by decide +kernel
theorem dX13_skips_16 : decode cX13_skips 16 = .ok (.iadd, 1) := by decide +kernel
theorem dX13_skips_17 : decode cX13_skips 17 = .ok (.putfield 206, 3) := by decide +kernel
theorem dX13_skips_20 : decode cX13_skips 20 = .ok (.iconst 1, 1) := by decide +kernel
theorem dX13_skips_21 : decode cX13_skips 21 = .ok (.ireturn, 1) := by decide +kernel
set_option maxRecDepth 20000 in
theorem ggX13_isWord_J0_length_8abf5 : GoodIn wsX13_isWord wsJ0_length_8abf5 := goodIn_r _ [7, 8, 9, 10, 11, 6, 12, 13, 14, 88, 89] (by decide +kernel) (by decide +kernel)
set_option maxRecDepth 20000 in
theorem gX13_isWord_J0_length_8abf5 : GoodIn wsX13_isWord (wsV RX13 183 RJ0 yJ0_length_8abf5 wsJ0_length_8abf5) := goodIn_app (goodIn_of _ (by decide +kernel)) ggX13_isWord_J0_length_8abf5
set_option maxRecDepth 20000 in
theorem ggX13_isWord_J0_charAt_5068e : GoodIn wsX13_isWord wsJ0_charAt_5068e := goodIn_r _ [18, 8, 19, 20, 21, 6, 22, 13, 14, 23, 24, 25, 26, 27, 28, 29, 30, 31, 32, 33, 34, 35, 36, 37, 38, 39, 40, 41, 42, 43, 44, 45, 46, 47, 48, 49, 50, 51, 88, 89] (by decide +kernel) (by decide +kernel)
set_option maxRecDepth 20000 in
theorem gX13_isWord_J0_charAt_5068e : GoodIn wsX13_isWord (wsV RX13 188 RJ0 yJ0_charAt_5068e wsJ0_charAt_5068e) := goodIn_app (goodIn_of _ (by decide +kernel)) ggX13_isWord_J0_charAt_5068e
set_option maxRecDepth 20000 in
theorem ggX13_isWord_X13_skips : GoodIn wsX13_isWord wsX13_skips := goodIn_ca (goodIn_r _ [56, 57, 58, 59, 60, 55, 61, 62, 63, 64, 65, 66, 67, 68, 69, 70, 71, 72, 73, 74, 75, 76, 77, 78, 79, 80, 81, 82, 83, 84, 85, 86, 87] (by decide +kernel) (by decide +kernel)) (goodIn_sub (fun _ h => List.mem_cons_of_mem _ (List.mem_append_right _ h)) (by decide +kernel))
set_option maxRecDepth 20000 in
theorem gX13_isWord_X13_skips : GoodIn wsX13_isWord (wsV RX13 215 RX13 yX13_skips wsX13_skips) := goodIn_app (goodIn_of _ (by decide +kernel)) ggX13_isWord_X13_skips
theorem dX13_isWord_0 : decode cX13_isWord 0 = .ok (.aload_n 0, 1) := by decide +kernel
theorem dX13_isWord_1 : decode cX13_isWord 1 = .ok (.getfield 55, 3) := by decide +kernel
theorem dX13_isWord_4 : decode cX13_isWord 4 = .ok (.iconst 4, 1) := by decide +kernel
theorem dX13_isWord_5 : decode cX13_isWord 5 = .ok (.aload_n 0, 1) := by decide +kernel
theorem dX13_isWord_6 : decode cX13_isWord 6 = .ok (.getfield 212, 3) := by decide +kernel
theorem dX13_isWord_9 : decode cX13_isWord 9 = .ok (.imul, 1) := by decide +kernel
theorem dX13_isWord_10 : decode cX13_isWord 10 = .ok (.iload_n 1, 1) := by decide +kernel
theorem dX13_isWord_11 : decode cX13_isWord 11 = .ok (.iastore, 1) := by decide +kernel
theorem dX13_isWord_12 : decode cX13_isWord 12 = .ok (.iconst 0, 1) := by decide +kernel
theorem dX13_isWord_13 : decode cX13_isWord 13 = .ok (.istore_n 3, 1) := by decide +kernel
theorem dX13_isWord_14 : decode cX13_isWord 14 = .ok (.iload_n 3, 1) := by decide +kernel
theorem dX13_isWord_15 : decode cX13_isWord 15 = .ok (.aload_n 2, 1) := by decide +kernel
theorem dX13_isWord_16 : decode cX13_isWord 16 = .ok (.invokevirtual 183, 3) := by decide +kernel
theorem dX13_isWord_19 : decode cX13_isWord 19 = .ok (.if_icmp .ge 23, 3) := by decide +kernel
theorem dX13_isWord_22 : decode cX13_isWord 22 = .ok (.aload_n 0, 1) := by decide +kernel
theorem dX13_isWord_23 : decode cX13_isWord 23 = .ok (.aload_n 2, 1) := by decide +kernel
theorem dX13_isWord_24 : decode cX13_isWord 24 = .ok (.iload_n 3, 1) := by decide +kernel
theorem dX13_isWord_25 : decode cX13_isWord 25 = .ok (.invokevirtual 188, 3) := by decide +kernel
theorem dX13_isWord_28 : decode cX13_isWord 28 = .ok (.invokevirtual 215, 3) := by decide +kernel
theorem dX13_isWord_31 : decode cX13_isWord 31 = .ok (.ifCond .ne 5, 3) := by decide +kernel
theorem dX13_isWord_34 : decode cX13_isWord 34 = .ok (.iconst 0, 1) := by decide +kernel
theorem dX13_isWord_35 : decode cX13_isWord 35 = .ok (.ireturn, 1) := by decide +kernel
theorem dX13_isWord_36 : decode cX13_isWord 36 = .ok (.iinc 3 1, 3) := by decide +kernel
theorem dX13_isWord_39 : decode cX13_isWord 39 = .ok (.goto (-25), 3) := by decide +kernel
theorem dX13_isWord_42 : decode cX13_isWord 42 = .ok (.iconst 1, 1) := by decide +kernel
theorem dX13_isWord_43 : decode cX13_isWord 43 = .ok (.ireturn, 1) := by decide +kernel
set_option maxRecDepth 20000 in
theorem ggX13_figures_X13_skips : GoodIn wsX13_figures wsX13_skips := goodIn_ca (goodIn_r _ [7, 2, 8, 9, 10, 6, 11, 12, 13, 17, 18, 19, 20, 21, 22, 23, 24, 25, 26, 27, 28, 29, 30, 31, 32, 33, 34, 35, 36, 37, 38, 39, 40] (by decide +kernel) (by decide +kernel)) (goodIn_sub (fun _ h => List.mem_cons_of_mem _ (List.mem_append_right _ h)) (by decide +kernel))
set_option maxRecDepth 20000 in
theorem gX13_figures_X13_skips : GoodIn wsX13_figures (wsV RX13 215 RX13 yX13_skips wsX13_skips) := goodIn_app (goodIn_of _ (by decide +kernel)) ggX13_figures_X13_skips
set_option maxRecDepth 20000 in
theorem ggX13_figures_X13_here : GoodIn wsX13_figures wsX13_here := goodIn_ca (goodIn_r _ [11, 2, 12, 13, 17, 18, 19, 20, 21, 22, 23, 24, 25, 26, 27, 28, 29, 30, 31, 32, 33, 34, 35, 36, 37, 38, 39, 40] (by decide +kernel) (by decide +kernel)) (goodIn_sub (fun _ h => List.mem_cons_of_mem _ (List.mem_append_right _ h)) (by decide +kernel))
set_option maxRecDepth 20000 in
theorem gX13_figures_X13_here : GoodIn wsX13_figures (wsV RX13 209 RX13 yX13_here wsX13_here) := goodIn_app (goodIn_of _ (by decide +kernel)) ggX13_figures_X13_here
set_option maxRecDepth 20000 in
theorem ggX13_figures_X13_in : GoodIn wsX13_figures wsX13_in := goodIn_r _ [16] (by decide +kernel) (by decide +kernel)
set_option maxRecDepth 20000 in
theorem gX13_figures_X13_in : GoodIn wsX13_figures (va_wsS RX13 72 yX13_in wsX13_in) := goodIn_app (goodIn_of _ (by decide +kernel)) ggX13_figures_X13_in
theorem dX13_figures_0 : decode cX13_figures 0 = .ok (.aload_n 0, 1) := by decide +kernel
theorem dX13_figures_1 : decode cX13_figures 1 = .ok (.bipush 32, 2) := by decide +kernel
theorem dX13_figures_3 : decode cX13_figures 3 = .ok (.invokevirtual 215, 3) := by decide +kernel
theorem dX13_figures_6 : decode cX13_figures 6 = .ok (.ifCond .eq 17, 3) := by decide +kernel
theorem dX13_figures_9 : decode cX13_figures 9 = .ok (.aload_n 0, 1) := by decide +kernel
theorem dX13_figures_10 : decode cX13_figures 10 = .ok (.invokevirtual 209, 3) := by decide +kernel
theorem dX13_figures_13 : decode cX13_figures 13 = .ok (.bipush 48, 2) := by decide +kernel
theorem dX13_figures_15 : decode cX13_figures 15 = .ok (.bipush 57, 2) := by decide +kernel
theorem dX13_figures_17 : decode cX13_figures 17 = .ok (.invokestatic 72, 3) := by decide +kernel
theorem dX13_figures_20 : decode cX13_figures 20 = .ok (.ifCond .ne 5, 3) := by decide +kernel
theorem dX13_figures_23 : decode cX13_figures 23 = .ok (.iconst 0, 1) := by decide +kernel
theorem dX13_figures_24 : decode cX13_figures 24 = .ok (.ireturn, 1) := by decide +kernel
theorem dX13_figures_25 : decode cX13_figures 25 = .ok (.aload_n 0, 1) := by decide +kernel
theorem dX13_figures_26 : decode cX13_figures 26 = .ok (.getfield 55, 3) := by decide +kernel
theorem dX13_figures_29 : decode cX13_figures 29 = .ok (.iload_n 1, 1) := by decide +kernel
theorem dX13_figures_30 : decode cX13_figures 30 = .ok (.iconst 0, 1) := by decide +kernel
theorem dX13_figures_31 : decode cX13_figures 31 = .ok (.iastore, 1) := by decide +kernel
theorem dX13_figures_32 : decode cX13_figures 32 = .ok (.iconst 0, 1) := by decide +kernel
theorem dX13_figures_33 : decode cX13_figures 33 = .ok (.istore_n 3, 1) := by decide +kernel
theorem dX13_figures_34 : decode cX13_figures 34 = .ok (.iload_n 3, 1) := by decide +kernel
theorem dX13_figures_35 : decode cX13_figures 35 = .ok (.iload_n 2, 1) := by decide +kernel
theorem dX13_figures_36 : decode cX13_figures 36 = .ok (.if_icmp .ge 56, 3) := by decide +kernel
theorem dX13_figures_39 : decode cX13_figures 39 = .ok (.aload_n 0, 1) := by decide +kernel
theorem dX13_figures_40 : decode cX13_figures 40 = .ok (.invokevirtual 209, 3) := by decide +kernel
theorem dX13_figures_43 : decode cX13_figures 43 = .ok (.bipush 48, 2) := by decide +kernel
theorem dX13_figures_45 : decode cX13_figures 45 = .ok (.bipush 57, 2) := by decide +kernel
theorem dX13_figures_47 : decode cX13_figures 47 = .ok (.invokestatic 72, 3) := by decide +kernel
theorem dX13_figures_50 : decode cX13_figures 50 = .ok (.ifCond .eq 42, 3) := by decide +kernel
theorem dX13_figures_53 : decode cX13_figures 53 = .ok (.aload_n 0, 1) := by decide +kernel
theorem dX13_figures_54 : decode cX13_figures 54 = .ok (.getfield 55, 3) := by decide +kernel
theorem dX13_figures_57 : decode cX13_figures 57 = .ok (.iload_n 1, 1) := by decide +kernel
theorem dX13_figures_58 : decode cX13_figures 58 = .ok (.bipush 10, 2) := by decide +kernel
theorem dX13_figures_60 : decode cX13_figures 60 = .ok (.aload_n 0, 1) := by decide +kernel
theorem dX13_figures_61 : decode cX13_figures 61 = .ok (.getfield 55, 3) := by decide +kernel
theorem dX13_figures_64 : decode cX13_figures 64 = .ok (.iload_n 1, 1) := by decide +kernel
theorem dX13_figures_65 : decode cX13_figures 65 = .ok (.iaload, 1) := by decide +kernel
theorem dX13_figures_66 : decode cX13_figures 66 = .ok (.imul, 1) := by decide +kernel
theorem dX13_figures_67 : decode cX13_figures 67 = .ok (.aload_n 0, 1) := by decide +kernel
theorem dX13_figures_68 : decode cX13_figures 68 = .ok (.invokevirtual 209, 3) := by decide +kernel
theorem dX13_figures_71 : decode cX13_figures 71 = .ok (.iadd, 1) := by decide +kernel
theorem dX13_figures_72 : decode cX13_figures 72 = .ok (.bipush 48, 2) := by decide +kernel
theorem dX13_figures_74 : decode cX13_figures 74 = .ok (.isub, 1) := by decide +kernel
theorem dX13_figures_75 : decode cX13_figures 75 = .ok (.iastore, 1) := by decide +kernel
theorem dX13_figures_76 : decode cX13_figures 76 = .ok (.aload_n 0, 1) := by decide +kernel
theorem dX13_figures_77 : decode cX13_figures 77 = .ok (.dup, 1) := by decide +kernel
theorem dX13_figures_78 : decode cX13_figures 78 = .ok (.getfield 206, 3) := by decide +kernel
theorem dX13_figures_81 : decode cX13_figures 81 = .ok (.iconst 1, 1) := by decide +kernel
theorem dX13_figures_82 : decode cX13_figures 82 = .ok (.iadd, 1) := by decide +kernel
theorem dX13_figures_83 : decode cX13_figures 83 = .ok (.putfield 206, 3) := by decide +kernel
theorem dX13_figures_86 : decode cX13_figures 86 = .ok (.iinc 3 1, 3) := by decide +kernel
theorem dX13_figures_89 : decode cX13_figures 89 = .ok (.goto (-55), 3) := by decide +kernel
theorem dX13_figures_92 : decode cX13_figures 92 = .ok (.iconst 1, 1) := by decide +kernel
theorem dX13_figures_93 : decode cX13_figures 93 = .ok (.ireturn, 1) := by decide +kernel
set_option maxRecDepth 20000 in
theorem ggX13_wayHere_X13_here : GoodIn wsX13_wayHere wsX13_here := goodIn_ca (goodIn_r _ [6, 7, 8, 9, 14, 15, 16, 17, 18, 19, 20, 21, 22, 23, 24, 25, 26, 27, 28, 29, 30, 31, 32, 33, 34, 35, 36, 37] (by decide +kernel) (by decide +kernel)) (goodIn_sub (fun _ h => List.mem_cons_of_mem _ (List.mem_append_right _ h)) (by decide +kernel))
set_option maxRecDepth 20000 in
theorem gX13_wayHere_X13_here : GoodIn wsX13_wayHere (wsV RX13 209 RX13 yX13_here wsX13_here) := goodIn_app (goodIn_of _ (by decide +kernel)) ggX13_wayHere_X13_here
set_option maxRecDepth 20000 in
theorem ggX13_wayHere_X13_skips : GoodIn wsX13_wayHere wsX13_skips := goodIn_ca (goodIn_r _ [13, 7, 2, 3, 4, 5, 6, 8, 9, 14, 15, 16, 17, 18, 19, 20, 21, 22, 23, 24, 25, 26, 27, 28, 29, 30, 31, 32, 33, 34, 35, 36, 37] (by decide +kernel) (by decide +kernel)) (goodIn_sub (fun _ h => List.mem_cons_of_mem _ (List.mem_append_right _ h)) (by decide +kernel))
set_option maxRecDepth 20000 in
theorem gX13_wayHere_X13_skips : GoodIn wsX13_wayHere (wsV RX13 215 RX13 yX13_skips wsX13_skips) := goodIn_app (goodIn_of _ (by decide +kernel)) ggX13_wayHere_X13_skips
theorem dX13_wayHere_0 : decode cX13_wayHere 0 = .ok (.aload_n 0, 1) := by decide +kernel
theorem dX13_wayHere_1 : decode cX13_wayHere 1 = .ok (.getfield 55, 3) := by decide +kernel
theorem dX13_wayHere_4 : decode cX13_wayHere 4 = .ok (.iload_n 1, 1) := by decide +kernel
theorem dX13_wayHere_5 : decode cX13_wayHere 5 = .ok (.aload_n 0, 1) := by decide +kernel
theorem dX13_wayHere_6 : decode cX13_wayHere 6 = .ok (.invokevirtual 209, 3) := by decide +kernel
theorem dX13_wayHere_9 : decode cX13_wayHere 9 = .ok (.iastore, 1) := by decide +kernel
theorem dX13_wayHere_10 : decode cX13_wayHere 10 = .ok (.aload_n 0, 1) := by decide +kernel
theorem dX13_wayHere_11 : decode cX13_wayHere 11 = .ok (.bipush 110, 2) := by decide +kernel
theorem dX13_wayHere_13 : decode cX13_wayHere 13 = .ok (.invokevirtual 215, 3) := by decide +kernel
theorem dX13_wayHere_16 : decode cX13_wayHere 16 = .ok (.ifCond .ne 30, 3) := by decide +kernel
theorem dX13_wayHere_19 : decode cX13_wayHere 19 = .ok (.aload_n 0, 1) := by decide +kernel
theorem dX13_wayHere_20 : decode cX13_wayHere 20 = .ok (.bipush 101, 2) := by decide +kernel
theorem dX13_wayHere_22 : decode cX13_wayHere 22 = .ok (.invokevirtual 215, 3) := by decide +kernel
theorem dX13_wayHere_25 : decode cX13_wayHere 25 = .ok (.ifCond .ne 21, 3) := by decide +kernel
theorem dX13_wayHere_28 : decode cX13_wayHere 28 = .ok (.aload_n 0, 1) := by decide +kernel
theorem dX13_wayHere_29 : decode cX13_wayHere 29 = .ok (.bipush 115, 2) := by decide +kernel
theorem dX13_wayHere_31 : decode cX13_wayHere 31 = .ok (.invokevirtual 215, 3) := by decide +kernel
theorem dX13_wayHere_34 : decode cX13_wayHere 34 = .ok (.ifCond .ne 12, 3) := by decide +kernel
theorem dX13_wayHere_37 : decode cX13_wayHere 37 = .ok (.aload_n 0, 1) := by decide +kernel
theorem dX13_wayHere_38 : decode cX13_wayHere 38 = .ok (.bipush 119, 2) := by decide +kernel
theorem dX13_wayHere_40 : decode cX13_wayHere 40 = .ok (.invokevirtual 215, 3) := by decide +kernel
theorem dX13_wayHere_43 : decode cX13_wayHere 43 = .ok (.ifCond .eq 7, 3) := by decide +kernel
theorem dX13_wayHere_46 : decode cX13_wayHere 46 = .ok (.iconst 1, 1) := by decide +kernel
theorem dX13_wayHere_47 : decode cX13_wayHere 47 = .ok (.goto 4, 3) := by decide +kernel
theorem dX13_wayHere_50 : decode cX13_wayHere 50 = .ok (.iconst 0, 1) := by decide +kernel
theorem dX13_wayHere_51 : decode cX13_wayHere 51 = .ok (.ireturn, 1) := by decide +kernel
set_option maxRecDepth 20000 in
theorem ggX13_commandHere_X13_skips : GoodIn wsX13_commandHere wsX13_skips := goodIn_ca (goodIn_r _ [6, 7, 8, 9, 10, 5, 11, 12, 13, 79, 80, 81, 82, 83, 84, 85, 86, 87, 88, 89, 90, 91, 92, 93, 94, 95, 96, 97, 98, 99, 100, 101, 102] (by decide +kernel) (by decide +kernel)) (goodIn_sub (fun _ h => List.mem_cons_of_mem _ (List.mem_append_right _ h)) (by decide +kernel))
set_option maxRecDepth 20000 in
theorem gX13_commandHere_X13_skips : GoodIn wsX13_commandHere (wsV RX13 215 RX13 yX13_skips wsX13_skips) := goodIn_app (goodIn_of _ (by decide +kernel)) ggX13_commandHere_X13_skips
set_option maxRecDepth 20000 in
theorem ggX13_commandHere_X13_isWord : GoodIn wsX13_commandHere wsX13_isWord := goodIn_ca (goodIn_r _ [17, 18, 1, 19, 20, 21, 22, 23, 24, 25, 26, 27, 28, 29, 30, 31, 32, 33, 34, 35, 36, 37, 38, 39, 40, 41, 42, 43, 44, 45, 46, 47, 48, 49, 50, 51, 52, 53, 54, 55, 56, 57, 58, 59, 60, 61, 62, 63, 64, 65, 66, 67, 2, 3, 4, 5, 6, 7, 8, 9, 10, 11, 12, 13, 79, 80, 81, 82, 83, 84, 85, 86, 87, 88, 89, 90, 91, 92, 93, 94, 95, 96, 97, 98, 99, 100, 101, 102, 103, 104] (by decide +kernel) (by decide +kernel)) (goodIn_sub (fun _ h => List.mem_cons_of_mem _ (List.mem_append_right _ h)) (by decide +kernel))
set_option maxRecDepth 20000 in
theorem gX13_commandHere_X13_isWord : GoodIn wsX13_commandHere (wsV RX13 220 RX13 yX13_isWord wsX13_isWord) := goodIn_app (goodIn_of _ (by decide +kernel)) ggX13_commandHere_X13_isWord
set_option maxRecDepth 20000 in
theorem ggX13_commandHere_X13_figures : GoodIn wsX13_commandHere wsX13_figures := goodIn_ca (goodIn_r _ [71, 18, 7, 2, 3, 4, 5, 6, 8, 9, 10, 11, 12, 13, 72, 73, 74, 79, 80, 81, 82, 83, 84, 85, 86, 87, 88, 89, 90, 91, 92, 93, 94, 95, 96, 97, 98, 99, 100, 101, 102] (by decide +kernel) (by decide +kernel)) (goodIn_sub (fun _ h => List.mem_cons_of_mem _ (List.mem_append_right _ h)) (by decide +kernel))
set_option maxRecDepth 20000 in
theorem gX13_commandHere_X13_figures : GoodIn wsX13_commandHere (wsV RX13 224 RX13 yX13_figures wsX13_figures) := goodIn_app (goodIn_of _ (by decide +kernel)) ggX13_commandHere_X13_figures
set_option maxRecDepth 20000 in
theorem ggX13_commandHere_X13_wayHere : GoodIn wsX13_commandHere wsX13_wayHere := goodIn_ca (goodIn_r _ [78, 18, 8, 9, 10, 5, 11, 7, 12, 13, 2, 3, 4, 6, 79, 80, 81, 82, 83, 84, 85, 86, 87, 88, 89, 90, 91, 92, 93, 94, 95, 96, 97, 98, 99, 100, 101, 102] (by decide +kernel) (by decide +kernel)) (goodIn_sub (fun _ h => List.mem_cons_of_mem _ (List.mem_append_right _ h)) (by decide +kernel))
set_option maxRecDepth 20000 in
theorem gX13_commandHere_X13_wayHere : GoodIn wsX13_commandHere (wsV RX13 239 RX13 yX13_wayHere wsX13_wayHere) := goodIn_app (goodIn_of _ (by decide +kernel)) ggX13_commandHere_X13_wayHere
theorem dX13_commandHere_0 : decode cX13_commandHere 0 = .ok (.iconst 4, 1) := by decide +kernel
theorem dX13_commandHere_1 : decode cX13_commandHere 1 = .ok (.aload_n 0, 1) := by decide +kernel
theorem dX13_commandHere_2 : decode cX13_commandHere 2 = .ok (.getfield 212, 3) := by decide +kernel
theorem dX13_commandHere_5 : decode cX13_commandHere 5 = .ok (.imul, 1) := by decide +kernel
theorem dX13_commandHere_6 : decode cX13_commandHere 6 = .ok (.iconst 1, 1) := by decide +kernel
theorem dX13_commandHere_7 : decode cX13_commandHere 7 = .ok (.iadd, 1) := by decide +kernel
theorem dX13_commandHere_8 : decode cX13_commandHere 8 = .ok (.istore_n 1, 1) := by decide +kernel
theorem dX13_commandHere_9 : decode cX13_commandHere 9 = .ok (.aload_n 0, 1) := by decide +kernel
theorem dX13_commandHere_10 : decode cX13_commandHere 10 = .ok (.bipush 114, 2) := by decide +kernel
theorem dX13_commandHere_12 : decode cX13_commandHere 12 = .ok (.invokevirtual 215, 3) := by decide +kernel
theorem dX13_commandHere_15 : decode cX13_commandHere 15 = .ok (.ifCond .eq 28, 3) := by decide +kernel
theorem dX13_commandHere_18 : decode cX13_commandHere 18 = .ok (.aload_n 0, 1) := by decide +kernel
theorem dX13_commandHere_19 : decode cX13_commandHere 19 = .ok (.iconst 1, 1) := by decide +kernel
theorem dX13_commandHere_20 : decode cX13_commandHere 20 = .ok (.ldc 218, 2) := by decide +kernel
theorem dX13_commandHere_22 : decode cX13_commandHere 22 = .ok (.invokevirtual 220, 3) := by decide +kernel
theorem dX13_commandHere_25 : decode cX13_commandHere 25 = .ok (.ifCond .eq 16, 3) := by decide +kernel
theorem dX13_commandHere_28 : decode cX13_commandHere 28 = .ok (.aload_n 0, 1) := by decide +kernel
theorem dX13_commandHere_29 : decode cX13_commandHere 29 = .ok (.iload_n 1, 1) := by decide +kernel
theorem dX13_commandHere_30 : decode cX13_commandHere 30 = .ok (.iconst 1, 1) := by decide +kernel
theorem dX13_commandHere_31 : decode cX13_commandHere 31 = .ok (.invokevirtual 224, 3) := by decide +kernel
theorem dX13_commandHere_34 : decode cX13_commandHere 34 = .ok (.ifCond .eq 7, 3) := by decide +kernel
theorem dX13_commandHere_37 : decode cX13_commandHere 37 = .ok (.iconst 1, 1) := by decide +kernel
theorem dX13_commandHere_38 : decode cX13_commandHere 38 = .ok (.goto 4, 3) := by decide +kernel
theorem dX13_commandHere_41 : decode cX13_commandHere 41 = .ok (.iconst 0, 1) := by decide +kernel
theorem dX13_commandHere_42 : decode cX13_commandHere 42 = .ok (.ireturn, 1) := by decide +kernel
theorem dX13_commandHere_43 : decode cX13_commandHere 43 = .ok (.aload_n 0, 1) := by decide +kernel
theorem dX13_commandHere_44 : decode cX13_commandHere 44 = .ok (.bipush 99, 2) := by decide +kernel
theorem dX13_commandHere_46 : decode cX13_commandHere 46 = .ok (.invokevirtual 215, 3) := by decide +kernel
theorem dX13_commandHere_49 : decode cX13_commandHere 49 = .ok (.ifCond .eq 28, 3) := by decide +kernel
theorem dX13_commandHere_52 : decode cX13_commandHere 52 = .ok (.aload_n 0, 1) := by decide +kernel
theorem dX13_commandHere_53 : decode cX13_commandHere 53 = .ok (.iconst 2, 1) := by decide +kernel
theorem dX13_commandHere_54 : decode cX13_commandHere 54 = .ok (.ldc 227, 2) := by decide +kernel
theorem dX13_commandHere_56 : decode cX13_commandHere 56 = .ok (.invokevirtual 220, 3) := by decide +kernel
theorem dX13_commandHere_59 : decode cX13_commandHere 59 = .ok (.ifCond .eq 16, 3) := by decide +kernel
theorem dX13_commandHere_62 : decode cX13_commandHere 62 = .ok (.aload_n 0, 1) := by decide +kernel
theorem dX13_commandHere_63 : decode cX13_commandHere 63 = .ok (.iload_n 1, 1) := by decide +kernel
theorem dX13_commandHere_64 : decode cX13_commandHere 64 = .ok (.iconst 1, 1) := by decide +kernel
theorem dX13_commandHere_65 : decode cX13_commandHere 65 = .ok (.invokevirtual 224, 3) := by decide +kernel
theorem dX13_commandHere_68 : decode cX13_commandHere 68 = .ok (.ifCond .eq 7, 3) := by decide +kernel
theorem dX13_commandHere_71 : decode cX13_commandHere 71 = .ok (.iconst 1, 1) := by decide +kernel
theorem dX13_commandHere_72 : decode cX13_commandHere 72 = .ok (.goto 4, 3) := by decide +kernel
theorem dX13_commandHere_75 : decode cX13_commandHere 75 = .ok (.iconst 0, 1) := by decide +kernel
theorem dX13_commandHere_76 : decode cX13_commandHere 76 = .ok (.ireturn, 1) := by decide +kernel
theorem dX13_commandHere_77 : decode cX13_commandHere 77 = .ok (.aload_n 0, 1) := by decide +kernel
theorem dX13_commandHere_78 : decode cX13_commandHere 78 = .ok (.bipush 116, 2) := by decide +kernel
theorem dX13_commandHere_80 : decode cX13_commandHere 80 = .ok (.invokevirtual 215, 3) := by decide +kernel
theorem dX13_commandHere_83 : decode cX13_commandHere 83 = .ok (.ifCond .eq 28, 3) := by decide +kernel
theorem dX13_commandHere_86 : decode cX13_commandHere 86 = .ok (.aload_n 0, 1) := by decide +kernel
theorem dX13_commandHere_87 : decode cX13_commandHere 87 = .ok (.iconst 4, 1) := by decide +kernel
theorem dX13_commandHere_88 : decode cX13_commandHere 88 = .ok (.ldc 229, 2) := by decide +kernel
theorem dX13_commandHere_90 : decode cX13_commandHere 90 = .ok (.invokevirtual 220, 3) := by decide +kernel
theorem dX13_commandHere_93 : decode cX13_commandHere 93 = .ok (.ifCond .eq 16, 3) := by decide +kernel
theorem dX13_commandHere_96 : decode cX13_commandHere 96 = .ok (.aload_n 0, 1) := by decide +kernel
theorem dX13_commandHere_97 : decode cX13_commandHere 97 = .ok (.iload_n 1, 1) := by decide +kernel
theorem dX13_commandHere_98 : decode cX13_commandHere 98 = .ok (.iconst 2, 1) := by decide +kernel
theorem dX13_commandHere_99 : decode cX13_commandHere 99 = .ok (.invokevirtual 224, 3) := by decide +kernel
theorem dX13_commandHere_102 : decode cX13_commandHere 102 = .ok (.ifCond .eq 7, 3) := by decide +kernel
theorem dX13_commandHere_105 : decode cX13_commandHere 105 = .ok (.iconst 1, 1) := by decide +kernel
theorem dX13_commandHere_106 : decode cX13_commandHere 106 = .ok (.goto 4, 3) := by decide +kernel
theorem dX13_commandHere_109 : decode cX13_commandHere 109 = .ok (.iconst 0, 1) := by decide +kernel
theorem dX13_commandHere_110 : decode cX13_commandHere 110 = .ok (.ireturn, 1) := by decide +kernel
theorem dX13_commandHere_111 : decode cX13_commandHere 111 = .ok (.aload_n 0, 1) := by decide +kernel
theorem dX13_commandHere_112 : decode cX13_commandHere 112 = .ok (.bipush 105, 2) := by decide +kernel
theorem dX13_commandHere_114 : decode cX13_commandHere 114 = .ok (.invokevirtual 215, 3) := by decide +kernel
theorem dX13_commandHere_117 : decode cX13_commandHere 117 = .ok (.ifCond .eq 29, 3) := by decide +kernel
theorem dX13_commandHere_120 : decode cX13_commandHere 120 = .ok (.aload_n 0, 1) := by decide +kernel
theorem dX13_commandHere_121 : decode cX13_commandHere 121 = .ok (.bipush 6, 2) := by decide +kernel
theorem dX13_commandHere_123 : decode cX13_commandHere 123 = .ok (.ldc 231, 2) := by decide +kernel
theorem dX13_commandHere_125 : decode cX13_commandHere 125 = .ok (.invokevirtual 220, 3) := by decide +kernel
theorem dX13_commandHere_128 : decode cX13_commandHere 128 = .ok (.ifCond .eq 16, 3) := by decide +kernel
theorem dX13_commandHere_131 : decode cX13_commandHere 131 = .ok (.aload_n 0, 1) := by decide +kernel
theorem dX13_commandHere_132 : decode cX13_commandHere 132 = .ok (.iload_n 1, 1) := by decide +kernel
theorem dX13_commandHere_133 : decode cX13_commandHere 133 = .ok (.iconst 1, 1) := by decide +kernel
theorem dX13_commandHere_134 : decode cX13_commandHere 134 = .ok (.invokevirtual 224, 3) := by decide +kernel
theorem dX13_commandHere_137 : decode cX13_commandHere 137 = .ok (.ifCond .eq 7, 3) := by decide +kernel
theorem dX13_commandHere_140 : decode cX13_commandHere 140 = .ok (.iconst 1, 1) := by decide +kernel
theorem dX13_commandHere_141 : decode cX13_commandHere 141 = .ok (.goto 4, 3) := by decide +kernel
theorem dX13_commandHere_144 : decode cX13_commandHere 144 = .ok (.iconst 0, 1) := by decide +kernel
theorem dX13_commandHere_145 : decode cX13_commandHere 145 = .ok (.ireturn, 1) := by decide +kernel
theorem dX13_commandHere_146 : decode cX13_commandHere 146 = .ok (.aload_n 0, 1) := by decide +kernel
theorem dX13_commandHere_147 : decode cX13_commandHere 147 = .ok (.bipush 111, 2) := by decide +kernel
theorem dX13_commandHere_149 : decode cX13_commandHere 149 = .ok (.invokevirtual 215, 3) := by decide +kernel
theorem dX13_commandHere_152 : decode cX13_commandHere 152 = .ok (.ifCond .eq 29, 3) := by decide +kernel
theorem dX13_commandHere_155 : decode cX13_commandHere 155 = .ok (.aload_n 0, 1) := by decide +kernel
theorem dX13_commandHere_156 : decode cX13_commandHere 156 = .ok (.bipush 8, 2) := by decide +kernel
theorem dX13_commandHere_158 : decode cX13_commandHere 158 = .ok (.ldc 233, 2) := by decide +kernel
theorem dX13_commandHere_160 : decode cX13_commandHere 160 = .ok (.invokevirtual 220, 3) := by decide +kernel
theorem dX13_commandHere_163 : decode cX13_commandHere 163 = .ok (.ifCond .eq 16, 3) := by decide +kernel
theorem dX13_commandHere_166 : decode cX13_commandHere 166 = .ok (.aload_n 0, 1) := by decide +kernel
theorem dX13_commandHere_167 : decode cX13_commandHere 167 = .ok (.iload_n 1, 1) := by decide +kernel
theorem dX13_commandHere_168 : decode cX13_commandHere 168 = .ok (.iconst 1, 1) := by decide +kernel
theorem dX13_commandHere_169 : decode cX13_commandHere 169 = .ok (.invokevirtual 224, 3) := by decide +kernel
theorem dX13_commandHere_172 : decode cX13_commandHere 172 = .ok (.ifCond .eq 7, 3) := by decide +kernel
theorem dX13_commandHere_175 : decode cX13_commandHere 175 = .ok (.iconst 1, 1) := by decide +kernel
theorem dX13_commandHere_176 : decode cX13_commandHere 176 = .ok (.goto 4, 3) := by decide +kernel
theorem dX13_commandHere_179 : decode cX13_commandHere 179 = .ok (.iconst 0, 1) := by decide +kernel
theorem dX13_commandHere_180 : decode cX13_commandHere 180 = .ok (.ireturn, 1) := by decide +kernel
theorem dX13_commandHere_181 : decode cX13_commandHere 181 = .ok (.aload_n 0, 1) := by decide +kernel
theorem dX13_commandHere_182 : decode cX13_commandHere 182 = .ok (.bipush 108, 2) := by decide +kernel
theorem dX13_commandHere_184 : decode cX13_commandHere 184 = .ok (.invokevirtual 215, 3) := by decide +kernel
theorem dX13_commandHere_187 : decode cX13_commandHere 187 = .ok (.ifCond .eq 12, 3) := by decide +kernel
theorem dX13_commandHere_190 : decode cX13_commandHere 190 = .ok (.aload_n 0, 1) := by decide +kernel
theorem dX13_commandHere_191 : decode cX13_commandHere 191 = .ok (.bipush 9, 2) := by decide +kernel
theorem dX13_commandHere_193 : decode cX13_commandHere 193 = .ok (.ldc 235, 2) := by decide +kernel
theorem dX13_commandHere_195 : decode cX13_commandHere 195 = .ok (.invokevirtual 220, 3) := by decide +kernel
theorem dX13_commandHere_198 : decode cX13_commandHere 198 = .ok (.ireturn, 1) := by decide +kernel
theorem dX13_commandHere_199 : decode cX13_commandHere 199 = .ok (.aload_n 0, 1) := by decide +kernel
theorem dX13_commandHere_200 : decode cX13_commandHere 200 = .ok (.bipush 115, 2) := by decide +kernel
theorem dX13_commandHere_202 : decode cX13_commandHere 202 = .ok (.invokevirtual 215, 3) := by decide +kernel
theorem dX13_commandHere_205 : decode cX13_commandHere 205 = .ok (.ifCond .eq 85, 3) := by decide +kernel
theorem dX13_commandHere_208 : decode cX13_commandHere 208 = .ok (.aload_n 0, 1) := by decide +kernel
theorem dX13_commandHere_209 : decode cX13_commandHere 209 = .ok (.bipush 104, 2) := by decide +kernel
theorem dX13_commandHere_211 : decode cX13_commandHere 211 = .ok (.invokevirtual 215, 3) := by decide +kernel
theorem dX13_commandHere_214 : decode cX13_commandHere 214 = .ok (.ifCond .eq 29, 3) := by decide +kernel
theorem dX13_commandHere_217 : decode cX13_commandHere 217 = .ok (.aload_n 0, 1) := by decide +kernel
theorem dX13_commandHere_218 : decode cX13_commandHere 218 = .ok (.iconst 3, 1) := by decide +kernel
theorem dX13_commandHere_219 : decode cX13_commandHere 219 = .ok (.ldc 237, 2) := by decide +kernel
theorem dX13_commandHere_221 : decode cX13_commandHere 221 = .ok (.invokevirtual 220, 3) := by decide +kernel
theorem dX13_commandHere_224 : decode cX13_commandHere 224 = .ok (.ifCond .eq 15, 3) := by decide +kernel
theorem dX13_commandHere_227 : decode cX13_commandHere 227 = .ok (.aload_n 0, 1) := by decide +kernel
theorem dX13_commandHere_228 : decode cX13_commandHere 228 = .ok (.iload_n 1, 1) := by decide +kernel
theorem dX13_commandHere_229 : decode cX13_commandHere 229 = .ok (.invokevirtual 239, 3) := by decide +kernel
theorem dX13_commandHere_232 : decode cX13_commandHere 232 = .ok (.ifCond .eq 7, 3) := by decide +kernel
theorem dX13_commandHere_235 : decode cX13_commandHere 235 = .ok (.iconst 1, 1) := by decide +kernel
theorem dX13_commandHere_236 : decode cX13_commandHere 236 = .ok (.goto 53, 3) := by decide +kernel
theorem dX13_commandHere_239 : decode cX13_commandHere 239 = .ok (.iconst 0, 1) := by decide +kernel
theorem dX13_commandHere_240 : decode cX13_commandHere 240 = .ok (.goto 49, 3) := by decide +kernel
theorem dX13_commandHere_243 : decode cX13_commandHere 243 = .ok (.aload_n 0, 1) := by decide +kernel
theorem dX13_commandHere_244 : decode cX13_commandHere 244 = .ok (.iconst 0, 1) := by decide +kernel
theorem dX13_commandHere_245 : decode cX13_commandHere 245 = .ok (.ldc 242, 2) := by decide +kernel
theorem dX13_commandHere_247 : decode cX13_commandHere 247 = .ok (.invokevirtual 220, 3) := by decide +kernel
theorem dX13_commandHere_250 : decode cX13_commandHere 250 = .ok (.ifCond .eq 38, 3) := by decide +kernel
theorem dX13_commandHere_253 : decode cX13_commandHere 253 = .ok (.aload_n 0, 1) := by decide +kernel
theorem dX13_commandHere_254 : decode cX13_commandHere 254 = .ok (.iload_n 1, 1) := by decide +kernel
theorem dX13_commandHere_255 : decode cX13_commandHere 255 = .ok (.iconst 1, 1) := by decide +kernel
theorem dX13_commandHere_256 : decode cX13_commandHere 256 = .ok (.invokevirtual 224, 3) := by decide +kernel
theorem dX13_commandHere_259 : decode cX13_commandHere 259 = .ok (.ifCond .eq 29, 3) := by decide +kernel
theorem dX13_commandHere_262 : decode cX13_commandHere 262 = .ok (.aload_n 0, 1) := by decide +kernel
theorem dX13_commandHere_263 : decode cX13_commandHere 263 = .ok (.iload_n 1, 1) := by decide +kernel
theorem dX13_commandHere_264 : decode cX13_commandHere 264 = .ok (.iconst 1, 1) := by decide +kernel
theorem dX13_commandHere_265 : decode cX13_commandHere 265 = .ok (.iadd, 1) := by decide +kernel
theorem dX13_commandHere_266 : decode cX13_commandHere 266 = .ok (.iconst 1, 1) := by decide +kernel
theorem dX13_commandHere_267 : decode cX13_commandHere 267 = .ok (.invokevirtual 224, 3) := by decide +kernel
theorem dX13_commandHere_270 : decode cX13_commandHere 270 = .ok (.ifCond .eq 18, 3) := by decide +kernel
theorem dX13_commandHere_273 : decode cX13_commandHere 273 = .ok (.aload_n 0, 1) := by decide +kernel
theorem dX13_commandHere_274 : decode cX13_commandHere 274 = .ok (.iload_n 1, 1) := by decide +kernel
theorem dX13_commandHere_275 : decode cX13_commandHere 275 = .ok (.iconst 2, 1) := by decide +kernel
theorem dX13_commandHere_276 : decode cX13_commandHere 276 = .ok (.iadd, 1) := by decide +kernel
theorem dX13_commandHere_277 : decode cX13_commandHere 277 = .ok (.iconst 2, 1) := by decide +kernel
theorem dX13_commandHere_278 : decode cX13_commandHere 278 = .ok (.invokevirtual 224, 3) := by decide +kernel
theorem dX13_commandHere_281 : decode cX13_commandHere 281 = .ok (.ifCond .eq 7, 3) := by decide +kernel
theorem dX13_commandHere_284 : decode cX13_commandHere 284 = .ok (.iconst 1, 1) := by decide +kernel
theorem dX13_commandHere_285 : decode cX13_commandHere 285 = .ok (.goto 4, 3) := by decide +kernel
theorem dX13_commandHere_288 : decode cX13_commandHere 288 = .ok (.iconst 0, 1) := by decide +kernel
theorem dX13_commandHere_289 : decode cX13_commandHere 289 = .ok (.ireturn, 1) := by decide +kernel
theorem dX13_commandHere_290 : decode cX13_commandHere 290 = .ok (.aload_n 0, 1) := by decide +kernel
theorem dX13_commandHere_291 : decode cX13_commandHere 291 = .ok (.bipush 119, 2) := by decide +kernel
theorem dX13_commandHere_293 : decode cX13_commandHere 293 = .ok (.invokevirtual 215, 3) := by decide +kernel
theorem dX13_commandHere_296 : decode cX13_commandHere 296 = .ok (.ifCond .ne 5, 3) := by decide +kernel
theorem dX13_commandHere_299 : decode cX13_commandHere 299 = .ok (.iconst 0, 1) := by decide +kernel
theorem dX13_commandHere_300 : decode cX13_commandHere 300 = .ok (.ireturn, 1) := by decide +kernel
theorem dX13_commandHere_301 : decode cX13_commandHere 301 = .ok (.aload_n 0, 1) := by decide +kernel
theorem dX13_commandHere_302 : decode cX13_commandHere 302 = .ok (.bipush 105, 2) := by decide +kernel
theorem dX13_commandHere_304 : decode cX13_commandHere 304 = .ok (.invokevirtual 215, 3) := by decide +kernel
theorem dX13_commandHere_307 : decode cX13_commandHere 307 = .ok (.ifCond .eq 31, 3) := by decide +kernel
theorem dX13_commandHere_310 : decode cX13_commandHere 310 = .ok (.aload_n 0, 1) := by decide +kernel
theorem dX13_commandHere_311 : decode cX13_commandHere 311 = .ok (.bipush 7, 2) := by decide +kernel
theorem dX13_commandHere_313 : decode cX13_commandHere 313 = .ok (.ldc 244, 2) := by decide +kernel
theorem dX13_commandHere_315 : decode cX13_commandHere 315 = .ok (.invokevirtual 220, 3) := by decide +kernel
theorem dX13_commandHere_318 : decode cX13_commandHere 318 = .ok (.ifCond .eq 16, 3) := by decide +kernel
theorem dX13_commandHere_321 : decode cX13_commandHere 321 = .ok (.aload_n 0, 1) := by decide +kernel
theorem dX13_commandHere_322 : decode cX13_commandHere 322 = .ok (.iload_n 1, 1) := by decide +kernel
theorem dX13_commandHere_323 : decode cX13_commandHere 323 = .ok (.iconst 1, 1) := by decide +kernel
theorem dX13_commandHere_324 : decode cX13_commandHere 324 = .ok (.invokevirtual 224, 3) := by decide +kernel
theorem dX13_commandHere_327 : decode cX13_commandHere 327 = .ok (.ifCond .eq 7, 3) := by decide +kernel
theorem dX13_commandHere_330 : decode cX13_commandHere 330 = .ok (.iconst 1, 1) := by decide +kernel
theorem dX13_commandHere_331 : decode cX13_commandHere 331 = .ok (.goto 53, 3) := by decide +kernel
theorem dX13_commandHere_334 : decode cX13_commandHere 334 = .ok (.iconst 0, 1) := by decide +kernel
theorem dX13_commandHere_335 : decode cX13_commandHere 335 = .ok (.goto 49, 3) := by decide +kernel
theorem dX13_commandHere_338 : decode cX13_commandHere 338 = .ok (.aload_n 0, 1) := by decide +kernel
theorem dX13_commandHere_339 : decode cX13_commandHere 339 = .ok (.iconst 5, 1) := by decide +kernel
theorem dX13_commandHere_340 : decode cX13_commandHere 340 = .ok (.ldc 246, 2) := by decide +kernel
theorem dX13_commandHere_342 : decode cX13_commandHere 342 = .ok (.invokevirtual 220, 3) := by decide +kernel
theorem dX13_commandHere_345 : decode cX13_commandHere 345 = .ok (.ifCond .eq 38, 3) := by decide +kernel
theorem dX13_commandHere_348 : decode cX13_commandHere 348 = .ok (.aload_n 0, 1) := by decide +kernel
theorem dX13_commandHere_349 : decode cX13_commandHere 349 = .ok (.iload_n 1, 1) := by decide +kernel
theorem dX13_commandHere_350 : decode cX13_commandHere 350 = .ok (.iconst 1, 1) := by decide +kernel
theorem dX13_commandHere_351 : decode cX13_commandHere 351 = .ok (.invokevirtual 224, 3) := by decide +kernel
theorem dX13_commandHere_354 : decode cX13_commandHere 354 = .ok (.ifCond .eq 29, 3) := by decide +kernel
theorem dX13_commandHere_357 : decode cX13_commandHere 357 = .ok (.aload_n 0, 1) := by decide +kernel
theorem dX13_commandHere_358 : decode cX13_commandHere 358 = .ok (.iload_n 1, 1) := by decide +kernel
theorem dX13_commandHere_359 : decode cX13_commandHere 359 = .ok (.iconst 1, 1) := by decide +kernel
theorem dX13_commandHere_360 : decode cX13_commandHere 360 = .ok (.iadd, 1) := by decide +kernel
theorem dX13_commandHere_361 : decode cX13_commandHere 361 = .ok (.iconst 1, 1) := by decide +kernel
theorem dX13_commandHere_362 : decode cX13_commandHere 362 = .ok (.invokevirtual 224, 3) := by decide +kernel
theorem dX13_commandHere_365 : decode cX13_commandHere 365 = .ok (.ifCond .eq 18, 3) := by decide +kernel
theorem dX13_commandHere_368 : decode cX13_commandHere 368 = .ok (.aload_n 0, 1) := by decide +kernel
theorem dX13_commandHere_369 : decode cX13_commandHere 369 = .ok (.iload_n 1, 1) := by decide +kernel
theorem dX13_commandHere_370 : decode cX13_commandHere 370 = .ok (.iconst 2, 1) := by decide +kernel
theorem dX13_commandHere_371 : decode cX13_commandHere 371 = .ok (.iadd, 1) := by decide +kernel
theorem dX13_commandHere_372 : decode cX13_commandHere 372 = .ok (.iconst 1, 1) := by decide +kernel
theorem dX13_commandHere_373 : decode cX13_commandHere 373 = .ok (.invokevirtual 224, 3) := by decide +kernel
theorem dX13_commandHere_376 : decode cX13_commandHere 376 = .ok (.ifCond .eq 7, 3) := by decide +kernel
theorem dX13_commandHere_379 : decode cX13_commandHere 379 = .ok (.iconst 1, 1) := by decide +kernel
theorem dX13_commandHere_380 : decode cX13_commandHere 380 = .ok (.goto 4, 3) := by decide +kernel
theorem dX13_commandHere_383 : decode cX13_commandHere 383 = .ok (.iconst 0, 1) := by decide +kernel
theorem dX13_commandHere_384 : decode cX13_commandHere 384 = .ok (.ireturn, 1) := by decide +kernel
set_option maxRecDepth 20000 in
theorem ggX13_isText_X13_commandHere : GoodIn wsX13_isText wsX13_commandHere := goodIn_ca (goodIn_r _ [8, 2, 9, 10, 11, 7, 12, 1, 13, 14, 15, 16, 3, 17, 18, 19, 20, 21, 22, 23, 24, 25, 26, 27, 28, 29, 30, 31, 32, 33, 34, 35, 36, 37, 38, 39, 40, 41, 42, 43, 44, 45, 46, 47, 48, 49, 50, 51, 52, 53, 54, 55, 56, 57, 58, 59, 60, 61, 62, 63, 64, 65, 66, 67, 68, 69, 70, 71, 72, 73, 74, 75, 76, 77, 78, 79, 80, 81, 82, 83, 84, 85, 86, 87, 88, 89, 90, 91, 92, 93, 94, 95, 96, 97, 98, 99, 100, 101, 102, 103, 104, 105, 106, 107, 108] (by decide +kernel) (by decide +kernel)) (goodIn_sub (fun _ h => List.mem_cons_of_mem _ (List.mem_append_right _ h)) (by decide +kernel))
set_option maxRecDepth 20000 in
theorem gX13_isText_X13_commandHere : GoodIn wsX13_isText (wsV RX13 248 RX13 yX13_commandHere wsX13_commandHere) := goodIn_app (goodIn_of _ (by decide +kernel)) ggX13_isText_X13_commandHere
set_option maxRecDepth 20000 in
theorem ggX13_isText_X13_skips : GoodIn wsX13_isText wsX13_skips := goodIn_ca (goodIn_r _ [12, 1, 13, 14, 15, 7, 16, 3, 17, 83, 84, 85, 86, 87, 88, 89, 90, 91, 92, 93, 94, 95, 96, 97, 98, 99, 100, 101, 102, 103, 104, 105, 106] (by decide +kernel) (by decide +kernel)) (goodIn_sub (fun _ h => List.mem_cons_of_mem _ (List.mem_append_right _ h)) (by decide +kernel))
set_option maxRecDepth 20000 in
theorem gX13_isText_X13_skips : GoodIn wsX13_isText (wsV RX13 215 RX13 yX13_skips wsX13_skips) := goodIn_app (goodIn_of _ (by decide +kernel)) ggX13_isText_X13_skips
theorem dX13_isText_0 : decode cX13_isText 0 = .ok (.aload_n 0, 1) := by decide +kernel
theorem dX13_isText_1 : decode cX13_isText 1 = .ok (.iconst 0, 1) := by decide +kernel
theorem dX13_isText_2 : decode cX13_isText 2 = .ok (.putfield 206, 3) := by decide +kernel
theorem dX13_isText_5 : decode cX13_isText 5 = .ok (.aload_n 0, 1) := by decide +kernel
theorem dX13_isText_6 : decode cX13_isText 6 = .ok (.iconst 0, 1) := by decide +kernel
theorem dX13_isText_7 : decode cX13_isText 7 = .ok (.putfield 212, 3) := by decide +kernel
theorem dX13_isText_10 : decode cX13_isText 10 = .ok (.aload_n 0, 1) := by decide +kernel
theorem dX13_isText_11 : decode cX13_isText 11 = .ok (.invokevirtual 248, 3) := by decide +kernel
theorem dX13_isText_14 : decode cX13_isText 14 = .ok (.ifCond .ne 5, 3) := by decide +kernel
theorem dX13_isText_17 : decode cX13_isText 17 = .ok (.iconst 0, 1) := by decide +kernel
theorem dX13_isText_18 : decode cX13_isText 18 = .ok (.ireturn, 1) := by decide +kernel
theorem dX13_isText_19 : decode cX13_isText 19 = .ok (.aload_n 0, 1) := by decide +kernel
theorem dX13_isText_20 : decode cX13_isText 20 = .ok (.dup, 1) := by decide +kernel
theorem dX13_isText_21 : decode cX13_isText 21 = .ok (.getfield 212, 3) := by decide +kernel
theorem dX13_isText_24 : decode cX13_isText 24 = .ok (.iconst 1, 1) := by decide +kernel
theorem dX13_isText_25 : decode cX13_isText 25 = .ok (.iadd, 1) := by decide +kernel
theorem dX13_isText_26 : decode cX13_isText 26 = .ok (.putfield 212, 3) := by decide +kernel
theorem dX13_isText_29 : decode cX13_isText 29 = .ok (.aload_n 0, 1) := by decide +kernel
theorem dX13_isText_30 : decode cX13_isText 30 = .ok (.bipush 59, 2) := by decide +kernel
theorem dX13_isText_32 : decode cX13_isText 32 = .ok (.invokevirtual 215, 3) := by decide +kernel
theorem dX13_isText_35 : decode cX13_isText 35 = .ok (.ifCond .ne (-25), 3) := by decide +kernel
theorem dX13_isText_38 : decode cX13_isText 38 = .ok (.aload_n 0, 1) := by decide +kernel
theorem dX13_isText_39 : decode cX13_isText 39 = .ok (.getfield 206, 3) := by decide +kernel
theorem dX13_isText_42 : decode cX13_isText 42 = .ok (.aload_n 0, 1) := by decide +kernel
theorem dX13_isText_43 : decode cX13_isText 43 = .ok (.getfield 204, 3) := by decide +kernel
theorem dX13_isText_46 : decode cX13_isText 46 = .ok (.if_icmp .ne 7, 3) := by decide +kernel
theorem dX13_isText_49 : decode cX13_isText 49 = .ok (.iconst 1, 1) := by decide +kernel
theorem dX13_isText_50 : decode cX13_isText 50 = .ok (.goto 4, 3) := by decide +kernel
theorem dX13_isText_53 : decode cX13_isText 53 = .ok (.iconst 0, 1) := by decide +kernel
theorem dX13_isText_54 : decode cX13_isText 54 = .ok (.ireturn, 1) := by decide +kernel
set_option maxRecDepth 20000 in
theorem ggX13_carries_X13_setPressure : GoodIn wsX13_carries wsX13_setPressure := goodIn_ca (goodIn_r _ [6, 7, 8, 9, 5, 10, 11, 12, 13, 14, 15, 16, 17, 18, 19, 20, 21, 22, 23, 24, 25, 26, 27, 28, 141, 142, 143, 144, 145, 146, 147, 148, 149, 150, 151, 152, 153, 154, 155, 156, 157, 158, 159, 160, 161, 162, 163, 164] (by decide +kernel) (by decide +kernel)) (goodIn_sub (fun _ h => List.mem_cons_of_mem _ (List.mem_append_left _ (List.mem_append_right _ h))) (by decide +kernel))
set_option maxRecDepth 20000 in
theorem gX13_carries_X13_setPressure : GoodIn wsX13_carries (wsV RX13 252 RX13 yX13_setPressure wsX13_setPressure) := goodIn_app (goodIn_of _ (by decide +kernel)) ggX13_carries_X13_setPressure
set_option maxRecDepth 20000 in
theorem ggX13_carries_X13_foldRow : GoodIn wsX13_carries wsX13_foldRow := goodIn_ca (goodIn_r _ [32, 33, 34, 35, 5, 36, 7, 11, 12, 13, 14, 15, 16, 17, 18, 37, 38, 39, 40, 41, 19, 20, 21, 22, 23, 24, 25, 26, 27, 28, 42, 43, 44, 45, 141, 142, 143, 144, 145, 146, 147, 148, 149, 150, 151, 152, 153, 154, 155, 156, 157, 158, 159, 160, 161, 162, 163, 164] (by decide +kernel) (by decide +kernel)) (goodIn_sub (fun _ h => List.mem_cons_of_mem _ (List.mem_append_left _ (List.mem_append_right _ h))) (by decide +kernel))
set_option maxRecDepth 20000 in
theorem gX13_carries_X13_foldRow : GoodIn wsX13_carries (wsV RX13 255 RX13 yX13_foldRow wsX13_foldRow) := goodIn_app (goodIn_of _ (by decide +kernel)) ggX13_carries_X13_foldRow
set_option maxRecDepth 20000 in
theorem ggX13_carries_X13_foldColumn : GoodIn wsX13_carries wsX13_foldColumn := goodIn_ca (goodIn_r _ [49, 33, 34, 35, 5, 36, 7, 11, 12, 13, 14, 15, 16, 17, 18, 37, 38, 39, 40, 41, 19, 20, 21, 22, 23, 24, 25, 26, 27, 28, 42, 43, 44, 45, 141, 142, 143, 144, 145, 146, 147, 148, 149, 150, 151, 152, 153, 154, 155, 156, 157, 158, 159, 160, 161, 162, 163, 164] (by decide +kernel) (by decide +kernel)) (goodIn_sub (fun _ h => List.mem_cons_of_mem _ (List.mem_append_left _ (List.mem_append_right _ h))) (by decide +kernel))
set_option maxRecDepth 20000 in
theorem gX13_carries_X13_foldColumn : GoodIn wsX13_carries (wsV RX13 258 RX13 yX13_foldColumn wsX13_foldColumn) := goodIn_app (goodIn_of _ (by decide +kernel)) ggX13_carries_X13_foldColumn
set_option maxRecDepth 20000 in
theorem ggX13_carries_X13_shift : GoodIn wsX13_carries wsX13_shift := goodIn_ca (goodIn_r _ [53, 7, 41, 14, 15, 16, 5, 17, 18, 37, 38, 39, 40, 19, 20, 21, 22, 23, 24, 25, 26, 27, 28, 42, 43, 44, 45, 141, 142, 143, 144, 145, 146, 147, 148, 149, 150, 151, 152, 153, 154, 155, 156, 157, 158, 159, 160, 161, 162, 163, 164] (by decide +kernel) (by decide +kernel)) (goodIn_sub (fun _ h => List.mem_cons_of_mem _ (List.mem_append_left _ (List.mem_append_right _ h))) (by decide +kernel))
set_option maxRecDepth 20000 in
theorem gX13_carries_X13_shift : GoodIn wsX13_carries (wsV RX13 261 RX13 yX13_shift wsX13_shift) := goodIn_app (goodIn_of _ (by decide +kernel)) ggX13_carries_X13_shift
set_option maxRecDepth 20000 in
theorem ggX13_carries_X13_setThreshold : GoodIn wsX13_carries wsX13_setThreshold := goodIn_ca (goodIn_r _ [57, 7, 11, 12, 5, 13, 14, 15, 16, 17, 18, 19, 20, 21, 22, 23, 24, 25, 26, 27, 28, 141, 142, 143, 144, 145, 146, 147, 148, 149, 150, 151, 152, 153, 154, 155, 156, 157, 158, 159, 160, 161, 162, 163, 164] (by decide +kernel) (by decide +kernel)) (goodIn_sub (fun _ h => List.mem_cons_of_mem _ (List.mem_append_left _ (List.mem_append_right _ h))) (by decide +kernel))
set_option maxRecDepth 20000 in
theorem gX13_carries_X13_setThreshold : GoodIn wsX13_carries (wsV RX13 265 RX13 yX13_setThreshold wsX13_setThreshold) := goodIn_app (goodIn_of _ (by decide +kernel)) ggX13_carries_X13_setThreshold
set_option maxRecDepth 20000 in
theorem ggX13_carries_X13_setWeight : GoodIn wsX13_carries wsX13_setWeight := goodIn_ca (goodIn_r _ [61, 7, 62, 63, 5, 64, 11, 12, 13, 65, 66, 67, 68, 69, 70, 71, 72, 14, 15, 16, 17, 18, 19, 20, 21, 22, 23, 24, 25, 26, 27, 28, 141, 142, 143, 144, 145, 146, 147, 148, 149, 150, 151, 152, 153, 154, 155, 156, 157, 158, 159, 160, 161, 162, 163, 164] (by decide +kernel) (by decide +kernel)) (goodIn_sub (fun _ h => List.mem_cons_of_mem _ (List.mem_append_left _ (List.mem_append_right _ h))) (by decide +kernel))
set_option maxRecDepth 20000 in
theorem gX13_carries_X13_setWeight : GoodIn wsX13_carries (wsV RX13 268 RX13 yX13_setWeight wsX13_setWeight) := goodIn_app (goodIn_of _ (by decide +kernel)) ggX13_carries_X13_setWeight
set_option maxRecDepth 20000 in
theorem ggX13_carries_X13_issue : GoodIn wsX13_carries wsX13_issue := goodIn_ca (goodIn_ca (goodIn_r _ [76, 7, 11, 12, 5, 13, 14, 15, 16, 17, 18, 19, 20, 21, 22, 23, 24, 25, 26, 27, 28, 77, 78, 79, 80, 81, 82, 83, 84, 85, 86, 87, 88, 89, 65, 66, 67, 68, 69, 70, 71, 72, 90, 91, 92, 141, 142, 143, 144, 145, 146, 147, 148, 149, 150, 151, 152, 153, 154, 155, 156, 157, 158, 159, 160, 161, 162, 163, 164] (by decide +kernel) (by decide +kernel)) (goodIn_sub (fun _ h => List.mem_cons_of_mem _ (List.mem_append_left _ (List.mem_append_right _ h))) (by decide +kernel))) (goodIn_sub (fun _ h => List.mem_cons_of_mem _ (List.mem_append_right _ h)) (by decide +kernel))
set_option maxRecDepth 20000 in
theorem gX13_carries_X13_issue : GoodIn wsX13_carries (wsV RX13 271 RX13 yX13_issue wsX13_issue) := goodIn_app (goodIn_of _ (by decide +kernel)) ggX13_carries_X13_issue
set_option maxRecDepth 20000 in
theorem ggX13_carries_X13_withdraw : GoodIn wsX13_carries wsX13_withdraw := goodIn_ca (goodIn_r _ [96, 7, 97, 98, 99, 5, 100, 11, 12, 13, 14, 15, 16, 17, 18, 19, 20, 21, 22, 23, 24, 25, 26, 27, 28, 101, 102, 103, 104, 141, 142, 143, 144, 145, 146, 147, 148, 149, 150, 151, 152, 153, 154, 155, 156, 157, 158, 159, 160, 161, 162, 163, 164] (by decide +kernel) (by decide +kernel)) (goodIn_sub (fun _ h => List.mem_cons_of_mem _ (List.mem_append_left _ (List.mem_append_right _ h))) (by decide +kernel))
set_option maxRecDepth 20000 in
theorem gX13_carries_X13_withdraw : GoodIn wsX13_carries (wsV RX13 274 RX13 yX13_withdraw wsX13_withdraw) := goodIn_app (goodIn_of _ (by decide +kernel)) ggX13_carries_X13_withdraw
set_option maxRecDepth 20000 in
theorem ggX13_carries_X13_observe : GoodIn wsX13_carries wsX13_observe := goodIn_ca (goodIn_r _ [108, 7, 62, 63, 5, 64, 11, 12, 13, 14, 15, 16, 17, 18, 19, 20, 21, 22, 23, 24, 25, 26, 27, 28, 109, 110, 111, 112, 113, 114, 115, 101, 102, 103, 104, 141, 142, 143, 144, 145, 146, 147, 148, 149, 150, 151, 152, 153, 154, 155, 156, 157, 158, 159, 160, 161, 162, 163, 164] (by decide +kernel) (by decide +kernel)) (goodIn_sub (fun _ h => List.mem_cons_of_mem _ (List.mem_append_left _ (List.mem_append_right _ h))) (by decide +kernel))
set_option maxRecDepth 20000 in
theorem gX13_carries_X13_observe : GoodIn wsX13_carries (wsV RX13 277 RX13 yX13_observe wsX13_observe) := goodIn_app (goodIn_of _ (by decide +kernel)) ggX13_carries_X13_observe
set_option maxRecDepth 20000 in
theorem ggX13_carries_X13_shown : GoodIn wsX13_carries wsX13_shown := goodIn_ca (goodIn_r _ [119, 120, 121, 122, 5, 123, 124, 125, 126, 127, 128, 129, 130, 131, 132, 7, 133, 134, 135, 136, 113, 114, 115, 137, 138, 139, 140, 141, 142, 143, 144, 145, 146, 147, 148, 149, 150, 151, 152, 153, 154, 155, 156, 157, 158, 159, 160, 161, 162, 163, 164] (by decide +kernel) (by decide +kernel)) (goodIn_sub (fun _ h => List.mem_cons_of_mem _ (List.mem_append_left _ (List.mem_append_right _ h))) (by decide +kernel))
set_option maxRecDepth 20000 in
theorem gX13_carries_X13_shown : GoodIn wsX13_carries (wsV RX13 157 RX13 yX13_shown wsX13_shown) := goodIn_app (goodIn_of _ (by decide +kernel)) ggX13_carries_X13_shown
theorem dX13_carries_0 : decode cX13_carries 0 = .ok (.aload_n 0, 1) := by decide +kernel
theorem dX13_carries_1 : decode cX13_carries 1 = .ok (.getfield 55, 3) := by decide +kernel
theorem dX13_carries_4 : decode cX13_carries 4 = .ok (.iload_n 1, 1) := by decide +kernel
theorem dX13_carries_5 : decode cX13_carries 5 = .ok (.iconst 1, 1) := by decide +kernel
theorem dX13_carries_6 : decode cX13_carries 6 = .ok (.iadd, 1) := by decide +kernel
theorem dX13_carries_7 : decode cX13_carries 7 = .ok (.iaload, 1) := by decide +kernel
theorem dX13_carries_8 : decode cX13_carries 8 = .ok (.istore_n 2, 1) := by decide +kernel
theorem dX13_carries_9 : decode cX13_carries 9 = .ok (.aload_n 0, 1) := by decide +kernel
theorem dX13_carries_10 : decode cX13_carries 10 = .ok (.getfield 55, 3) := by decide +kernel
theorem dX13_carries_13 : decode cX13_carries 13 = .ok (.iload_n 1, 1) := by decide +kernel
theorem dX13_carries_14 : decode cX13_carries 14 = .ok (.iconst 2, 1) := by decide +kernel
theorem dX13_carries_15 : decode cX13_carries 15 = .ok (.iadd, 1) := by decide +kernel
theorem dX13_carries_16 : decode cX13_carries 16 = .ok (.iaload, 1) := by decide +kernel
theorem dX13_carries_17 : decode cX13_carries 17 = .ok (.istore_n 3, 1) := by decide +kernel
theorem dX13_carries_18 : decode cX13_carries 18 = .ok (.aload_n 0, 1) := by decide +kernel
theorem dX13_carries_19 : decode cX13_carries 19 = .ok (.getfield 55, 3) := by decide +kernel
theorem dX13_carries_22 : decode cX13_carries 22 = .ok (.iload_n 1, 1) := by decide +kernel
theorem dX13_carries_23 : decode cX13_carries 23 = .ok (.iconst 3, 1) := by decide +kernel
theorem dX13_carries_24 : decode cX13_carries 24 = .ok (.iadd, 1) := by decide +kernel
theorem dX13_carries_25 : decode cX13_carries 25 = .ok (.iaload, 1) := by decide +kernel
theorem dX13_carries_26 : decode cX13_carries 26 = .ok (.istore 4, 2) := by decide +kernel
theorem dX13_carries_28 : decode cX13_carries 28 = .ok (.aload_n 0, 1) := by decide +kernel
theorem dX13_carries_29 : decode cX13_carries 29 = .ok (.getfield 55, 3) := by decide +kernel
theorem dX13_carries_32 : decode cX13_carries 32 = .ok (.iload_n 1, 1) := by decide +kernel
theorem dX13_carries_33 : decode cX13_carries 33 = .ok (.iaload, 1) := by decide +kernel
theorem dX13_carries_34 : decode cX13_carries 34 = .ok (.tableswitch 111 0 8 #[50, 59, 65, 71, 78, 84, 93, 99, 105], 50) := by decide +kernel
theorem dX13_carries_84 : decode cX13_carries 84 = .ok (.aload_n 0, 1) := by decide +kernel
theorem dX13_carries_85 : decode cX13_carries 85 = .ok (.iload_n 2, 1) := by decide +kernel
theorem dX13_carries_86 : decode cX13_carries 86 = .ok (.iload_n 3, 1) := by decide +kernel
theorem dX13_carries_87 : decode cX13_carries 87 = .ok (.iload 4, 2) := by decide +kernel
theorem dX13_carries_89 : decode cX13_carries 89 = .ok (.invokevirtual 252, 3) := by decide +kernel
theorem dX13_carries_92 : decode cX13_carries 92 = .ok (.ireturn, 1) := by decide +kernel
theorem dX13_carries_93 : decode cX13_carries 93 = .ok (.aload_n 0, 1) := by decide +kernel
theorem dX13_carries_94 : decode cX13_carries 94 = .ok (.iload_n 2, 1) := by decide +kernel
theorem dX13_carries_95 : decode cX13_carries 95 = .ok (.invokevirtual 255, 3) := by decide +kernel
theorem dX13_carries_98 : decode cX13_carries 98 = .ok (.ireturn, 1) := by decide +kernel
theorem dX13_carries_99 : decode cX13_carries 99 = .ok (.aload_n 0, 1) := by decide +kernel
theorem dX13_carries_100 : decode cX13_carries 100 = .ok (.iload_n 2, 1) := by decide +kernel
theorem dX13_carries_101 : decode cX13_carries 101 = .ok (.invokevirtual 258, 3) := by decide +kernel
theorem dX13_carries_104 : decode cX13_carries 104 = .ok (.ireturn, 1) := by decide +kernel
theorem dX13_carries_105 : decode cX13_carries 105 = .ok (.aload_n 0, 1) := by decide +kernel
theorem dX13_carries_106 : decode cX13_carries 106 = .ok (.iload_n 2, 1) := by decide +kernel
theorem dX13_carries_107 : decode cX13_carries 107 = .ok (.i2c, 1) := by decide +kernel
theorem dX13_carries_108 : decode cX13_carries 108 = .ok (.invokevirtual 261, 3) := by decide +kernel
theorem dX13_carries_111 : decode cX13_carries 111 = .ok (.ireturn, 1) := by decide +kernel
theorem dX13_carries_112 : decode cX13_carries 112 = .ok (.aload_n 0, 1) := by decide +kernel
theorem dX13_carries_113 : decode cX13_carries 113 = .ok (.iload_n 2, 1) := by decide +kernel
theorem dX13_carries_114 : decode cX13_carries 114 = .ok (.invokevirtual 265, 3) := by decide +kernel
theorem dX13_carries_117 : decode cX13_carries 117 = .ok (.ireturn, 1) := by decide +kernel
theorem dX13_carries_118 : decode cX13_carries 118 = .ok (.aload_n 0, 1) := by decide +kernel
theorem dX13_carries_119 : decode cX13_carries 119 = .ok (.iload_n 2, 1) := by decide +kernel
theorem dX13_carries_120 : decode cX13_carries 120 = .ok (.iload_n 3, 1) := by decide +kernel
theorem dX13_carries_121 : decode cX13_carries 121 = .ok (.iload 4, 2) := by decide +kernel
theorem dX13_carries_123 : decode cX13_carries 123 = .ok (.invokevirtual 268, 3) := by decide +kernel
theorem dX13_carries_126 : decode cX13_carries 126 = .ok (.ireturn, 1) := by decide +kernel
theorem dX13_carries_127 : decode cX13_carries 127 = .ok (.aload_n 0, 1) := by decide +kernel
theorem dX13_carries_128 : decode cX13_carries 128 = .ok (.iload_n 2, 1) := by decide +kernel
theorem dX13_carries_129 : decode cX13_carries 129 = .ok (.invokevirtual 271, 3) := by decide +kernel
theorem dX13_carries_132 : decode cX13_carries 132 = .ok (.ireturn, 1) := by decide +kernel
theorem dX13_carries_133 : decode cX13_carries 133 = .ok (.aload_n 0, 1) := by decide +kernel
theorem dX13_carries_134 : decode cX13_carries 134 = .ok (.iload_n 2, 1) := by decide +kernel
theorem dX13_carries_135 : decode cX13_carries 135 = .ok (.invokevirtual 274, 3) := by decide +kernel
theorem dX13_carries_138 : decode cX13_carries 138 = .ok (.ireturn, 1) := by decide +kernel
theorem dX13_carries_139 : decode cX13_carries 139 = .ok (.aload_n 0, 1) := by decide +kernel
theorem dX13_carries_140 : decode cX13_carries 140 = .ok (.iload_n 2, 1) := by decide +kernel
theorem dX13_carries_141 : decode cX13_carries 141 = .ok (.invokevirtual 277, 3) := by decide +kernel
theorem dX13_carries_144 : decode cX13_carries 144 = .ok (.ireturn, 1) := by decide +kernel
theorem dX13_carries_145 : decode cX13_carries 145 = .ok (.aload_n 0, 1) := by decide +kernel
theorem dX13_carries_146 : decode cX13_carries 146 = .ok (.aload_n 0, 1) := by decide +kernel
theorem dX13_carries_147 : decode cX13_carries 147 = .ok (.invokevirtual 157, 3) := by decide +kernel
theorem dX13_carries_150 : decode cX13_carries 150 = .ok (.invokevirtual 277, 3) := by decide +kernel
theorem dX13_carries_153 : decode cX13_carries 153 = .ok (.ireturn, 1) := by decide +kernel
set_option maxRecDepth 20000 in
theorem ggX13_execute_X13_isText : GoodIn wsX13_execute wsX13_isText := goodIn_ca (goodIn_r _ [14, 1, 7, 3, 15, 16, 17, 13, 18, 19, 20, 21, 22, 23, 24, 25, 26, 27, 28, 29, 30, 31, 32, 33, 34, 35, 36, 37, 38, 39, 40, 41, 42, 43, 44, 45, 46, 47, 48, 49, 50, 51, 52, 53, 54, 55, 56, 57, 58, 59, 60, 61, 62, 63, 64, 65, 66, 67, 68, 69, 70, 71, 72, 73, 74, 75, 76, 77, 78, 79, 80, 81, 82, 83, 84, 85, 86, 87, 88, 89, 90, 91, 92, 229, 230, 231, 232, 233, 234, 235, 236, 237, 238, 239, 240, 241, 242, 243, 244, 245, 246, 247, 248, 249, 250, 251, 252, 253, 254] (by decide +kernel) (by decide +kernel)) (goodIn_sub (fun _ h => List.mem_cons_of_mem _ (List.mem_append_left _ (List.mem_append_right _ h))) (by decide +kernel))
set_option maxRecDepth 20000 in
theorem gX13_execute_X13_isText : GoodIn wsX13_execute (wsV RX13 280 RX13 yX13_isText wsX13_isText) := goodIn_app (goodIn_of _ (by decide +kernel)) ggX13_execute_X13_isText
set_option maxRecDepth 20000 in
theorem ggX13_execute_X13_fails : GoodIn wsX13_execute wsX13_fails := goodIn_r _ [96, 8, 229, 230, 231, 232, 233, 234, 235, 236, 237, 238, 239, 240, 241, 242, 243, 244, 245, 246, 247, 248, 249, 250, 251, 252] (by decide +kernel) (by decide +kernel)
set_option maxRecDepth 20000 in
theorem gX13_execute_X13_fails : GoodIn wsX13_execute (wsV RX13 80 RX13 yX13_fails wsX13_fails) := goodIn_app (goodIn_of _ (by decide +kernel)) ggX13_execute_X13_fails
set_option maxRecDepth 20000 in
theorem ggX13_execute_X13_copies : GoodIn wsX13_execute wsX13_copies := goodIn_ca (goodIn_r _ [99] (by decide +kernel) (by decide +kernel)) (goodIn_sub (fun _ h => List.mem_cons_of_mem _ (List.mem_append_left _ (List.mem_append_right _ h))) (by decide +kernel))
set_option maxRecDepth 20000 in
theorem gX13_execute_X13_copies : GoodIn wsX13_execute (va_wsS RX13 68 yX13_copies wsX13_copies) := goodIn_app (goodIn_of _ (by decide +kernel)) ggX13_execute_X13_copies
set_option maxRecDepth 20000 in
theorem ggX13_execute_X13_carries : GoodIn wsX13_execute wsX13_carries := goodIn_ca (goodIn_ca (goodIn_r _ [103, 32, 104, 105, 106, 13, 107, 4, 108, 109, 110, 86, 87, 88, 93, 94, 95, 96, 8, 111, 112, 113, 114, 6, 115, 116, 97, 98, 99, 117, 118, 119, 120, 121, 122, 123, 124, 125, 126, 127, 128, 129, 130, 131, 132, 133, 134, 135, 136, 137, 138, 139, 140, 141, 142, 143, 144, 145, 146, 147, 148, 149, 150, 151, 152, 153, 154, 155, 156, 157, 158, 159, 160, 161, 162, 163, 164, 165, 166, 167, 168, 169, 170, 171, 172, 173, 174, 175, 176, 177, 178, 179, 180, 181, 182, 183, 184, 185, 186, 187, 188, 189, 190, 191, 192, 193, 194, 195, 196, 197, 198, 199, 200, 201, 202, 203, 204, 205, 206, 207, 208, 209, 210, 211, 212, 213, 214, 215, 216, 217, 218, 219, 220, 221, 222, 223, 224, 225, 226, 227, 228, 229, 230, 231, 232, 233, 234, 235, 236, 237, 238, 239, 240, 241, 242, 243, 244, 245, 246, 247, 248, 249, 250, 251, 252] (by decide +kernel) (by decide +kernel)) (goodIn_sub (fun _ h => List.mem_cons_of_mem _ (List.mem_append_left _ (List.mem_append_right _ h))) (by decide +kernel))) (goodIn_sub (fun _ h => List.mem_cons_of_mem _ (List.mem_append_right _ h)) (by decide +kernel))
set_option maxRecDepth 20000 in
theorem gX13_execute_X13_carries : GoodIn wsX13_execute (wsV RX13 283 RX13 yX13_carries wsX13_carries) := goodIn_app (goodIn_of _ (by decide +kernel)) ggX13_execute_X13_carries
set_option maxRecDepth 20000 in
theorem ggX13_execute_X13_keeps : GoodIn wsX13_execute wsX13_keeps := goodIn_ca (goodIn_r _ [114, 8, 6, 115, 116, 97, 98, 13, 99, 229, 230, 231, 232, 233, 234, 235, 236, 237, 238, 239, 240, 241, 242, 243, 244, 245, 246, 247, 248, 249, 250, 251, 252] (by decide +kernel) (by decide +kernel)) (goodIn_sub (fun _ h => List.mem_cons_of_mem _ (List.mem_append_left _ (List.mem_append_right _ h))) (by decide +kernel))
set_option maxRecDepth 20000 in
theorem gX13_execute_X13_keeps : GoodIn wsX13_execute (wsV RX13 84 RX13 yX13_keeps wsX13_keeps) := goodIn_app (goodIn_of _ (by decide +kernel)) ggX13_execute_X13_keeps
theorem dX13_execute_0 : decode cX13_execute 0 = .ok (.aload_n 0, 1) := by decide +kernel
theorem dX13_execute_1 : decode cX13_execute 1 = .ok (.invokevirtual 280, 3) := by decide +kernel
theorem dX13_execute_4 : decode cX13_execute 4 = .ok (.istore_n 1, 1) := by decide +kernel
theorem dX13_execute_5 : decode cX13_execute 5 = .ok (.iload_n 1, 1) := by decide +kernel
theorem dX13_execute_6 : decode cX13_execute 6 = .ok (.ifCond .ne 11, 3) := by decide +kernel
theorem dX13_execute_9 : decode cX13_execute 9 = .ok (.aload_n 0, 1) := by decide +kernel
theorem dX13_execute_10 : decode cX13_execute 10 = .ok (.aload_n 0, 1) := by decide +kernel
theorem dX13_execute_11 : decode cX13_execute 11 = .ok (.getfield 206, 3) := by decide +kernel
theorem dX13_execute_14 : decode cX13_execute 14 = .ok (.putfield 44, 3) := by decide +kernel
theorem dX13_execute_17 : decode cX13_execute 17 = .ok (.aload_n 0, 1) := by decide +kernel
theorem dX13_execute_18 : decode cX13_execute 18 = .ok (.iconst 0, 1) := by decide +kernel
theorem dX13_execute_19 : decode cX13_execute 19 = .ok (.putfield 204, 3) := by decide +kernel
theorem dX13_execute_22 : decode cX13_execute 22 = .ok (.aload_n 0, 1) := by decide +kernel
theorem dX13_execute_23 : decode cX13_execute 23 = .ok (.iload_n 1, 1) := by decide +kernel
theorem dX13_execute_24 : decode cX13_execute 24 = .ok (.ifCond .eq 7, 3) := by decide +kernel
theorem dX13_execute_27 : decode cX13_execute 27 = .ok (.iconst 0, 1) := by decide +kernel
theorem dX13_execute_28 : decode cX13_execute 28 = .ok (.goto 4, 3) := by decide +kernel
theorem dX13_execute_31 : decode cX13_execute 31 = .ok (.iconst 1, 1) := by decide +kernel
theorem dX13_execute_32 : decode cX13_execute 32 = .ok (.invokevirtual 80, 3) := by decide +kernel
theorem dX13_execute_35 : decode cX13_execute 35 = .ok (.ifCond .eq 5, 3) := by decide +kernel
theorem dX13_execute_38 : decode cX13_execute 38 = .ok (.iconst 0, 1) := by decide +kernel
theorem dX13_execute_39 : decode cX13_execute 39 = .ok (.ireturn, 1) := by decide +kernel
theorem dX13_execute_40 : decode cX13_execute 40 = .ok (.aload_n 0, 1) := by decide +kernel
theorem dX13_execute_41 : decode cX13_execute 41 = .ok (.getfield 7, 3) := by decide +kernel
theorem dX13_execute_44 : decode cX13_execute 44 = .ok (.iconst 0, 1) := by decide +kernel
theorem dX13_execute_45 : decode cX13_execute 45 = .ok (.aload_n 0, 1) := by decide +kernel
theorem dX13_execute_46 : decode cX13_execute 46 = .ok (.getfield 19, 3) := by decide +kernel
theorem dX13_execute_49 : decode cX13_execute 49 = .ok (.iconst 0, 1) := by decide +kernel
theorem dX13_execute_50 : decode cX13_execute 50 = .ok (.invokestatic 68, 3) := by decide +kernel
theorem dX13_execute_53 : decode cX13_execute 53 = .ok (.aload_n 0, 1) := by decide +kernel
theorem dX13_execute_54 : decode cX13_execute 54 = .ok (.iconst 1, 1) := by decide +kernel
theorem dX13_execute_55 : decode cX13_execute 55 = .ok (.putfield 61, 3) := by decide +kernel
theorem dX13_execute_58 : decode cX13_execute 58 = .ok (.iconst 0, 1) := by decide +kernel
theorem dX13_execute_59 : decode cX13_execute 59 = .ok (.istore_n 2, 1) := by decide +kernel
theorem dX13_execute_60 : decode cX13_execute 60 = .ok (.iconst 0, 1) := by decide +kernel
theorem dX13_execute_61 : decode cX13_execute 61 = .ok (.istore_n 3, 1) := by decide +kernel
theorem dX13_execute_62 : decode cX13_execute 62 = .ok (.iload_n 2, 1) := by decide +kernel
theorem dX13_execute_63 : decode cX13_execute 63 = .ok (.aload_n 0, 1) := by decide +kernel
theorem dX13_execute_64 : decode cX13_execute 64 = .ok (.getfield 212, 3) := by decide +kernel
theorem dX13_execute_67 : decode cX13_execute 67 = .ok (.if_icmp .ge 31, 3) := by decide +kernel
theorem dX13_execute_70 : decode cX13_execute 70 = .ok (.aload_n 0, 1) := by decide +kernel
theorem dX13_execute_71 : decode cX13_execute 71 = .ok (.getfield 58, 3) := by decide +kernel
theorem dX13_execute_74 : decode cX13_execute 74 = .ok (.ifCond .ne 24, 3) := by decide +kernel
theorem dX13_execute_77 : decode cX13_execute 77 = .ok (.aload_n 0, 1) := by decide +kernel
theorem dX13_execute_78 : decode cX13_execute 78 = .ok (.iconst 4, 1) := by decide +kernel
theorem dX13_execute_79 : decode cX13_execute 79 = .ok (.iload_n 2, 1) := by decide +kernel
theorem dX13_execute_80 : decode cX13_execute 80 = .ok (.imul, 1) := by decide +kernel
theorem dX13_execute_81 : decode cX13_execute 81 = .ok (.invokevirtual 283, 3) := by decide +kernel
theorem dX13_execute_84 : decode cX13_execute 84 = .ok (.istore_n 3, 1) := by decide +kernel
theorem dX13_execute_85 : decode cX13_execute 85 = .ok (.aload_n 0, 1) := by decide +kernel
theorem dX13_execute_86 : decode cX13_execute 86 = .ok (.getfield 58, 3) := by decide +kernel
theorem dX13_execute_89 : decode cX13_execute 89 = .ok (.ifCond .ne (-27), 3) := by decide +kernel
theorem dX13_execute_92 : decode cX13_execute 92 = .ok (.iinc 2 1, 3) := by decide +kernel
theorem dX13_execute_95 : decode cX13_execute 95 = .ok (.goto (-33), 3) := by decide +kernel
theorem dX13_execute_98 : decode cX13_execute 98 = .ok (.aload_n 0, 1) := by decide +kernel
theorem dX13_execute_99 : decode cX13_execute 99 = .ok (.iconst 0, 1) := by decide +kernel
theorem dX13_execute_100 : decode cX13_execute 100 = .ok (.putfield 61, 3) := by decide +kernel
theorem dX13_execute_103 : decode cX13_execute 103 = .ok (.aload_n 0, 1) := by decide +kernel
theorem dX13_execute_104 : decode cX13_execute 104 = .ok (.getfield 58, 3) := by decide +kernel
theorem dX13_execute_107 : decode cX13_execute 107 = .ok (.ifCond .le 36, 3) := by decide +kernel
theorem dX13_execute_110 : decode cX13_execute 110 = .ok (.aload_n 0, 1) := by decide +kernel
theorem dX13_execute_111 : decode cX13_execute 111 = .ok (.getfield 19, 3) := by decide +kernel
theorem dX13_execute_114 : decode cX13_execute 114 = .ok (.iconst 0, 1) := by decide +kernel
theorem dX13_execute_115 : decode cX13_execute 115 = .ok (.aload_n 0, 1) := by decide +kernel
theorem dX13_execute_116 : decode cX13_execute 116 = .ok (.getfield 7, 3) := by decide +kernel
theorem dX13_execute_119 : decode cX13_execute 119 = .ok (.iconst 0, 1) := by decide +kernel
theorem dX13_execute_120 : decode cX13_execute 120 = .ok (.invokestatic 68, 3) := by decide +kernel
theorem dX13_execute_123 : decode cX13_execute 123 = .ok (.aload_n 0, 1) := by decide +kernel
theorem dX13_execute_124 : decode cX13_execute 124 = .ok (.iload_n 2, 1) := by decide +kernel
theorem dX13_execute_125 : decode cX13_execute 125 = .ok (.putfield 48, 3) := by decide +kernel
theorem dX13_execute_128 : decode cX13_execute 128 = .ok (.aload_n 0, 1) := by decide +kernel
theorem dX13_execute_129 : decode cX13_execute 129 = .ok (.iconst 2, 1) := by decide +kernel
theorem dX13_execute_130 : decode cX13_execute 130 = .ok (.putfield 58, 3) := by decide +kernel
theorem dX13_execute_133 : decode cX13_execute 133 = .ok (.iload_n 3, 1) := by decide +kernel
theorem dX13_execute_134 : decode cX13_execute 134 = .ok (.ifCond .le 7, 3) := by decide +kernel
theorem dX13_execute_137 : decode cX13_execute 137 = .ok (.iconst 0, 1) := by decide +kernel
theorem dX13_execute_138 : decode cX13_execute 138 = .ok (.goto 4, 3) := by decide +kernel
theorem dX13_execute_141 : decode cX13_execute 141 = .ok (.iload_n 3, 1) := by decide +kernel
theorem dX13_execute_142 : decode cX13_execute 142 = .ok (.ireturn, 1) := by decide +kernel
theorem dX13_execute_143 : decode cX13_execute 143 = .ok (.aload_n 0, 1) := by decide +kernel
theorem dX13_execute_144 : decode cX13_execute 144 = .ok (.aload_n 0, 1) := by decide +kernel
theorem dX13_execute_145 : decode cX13_execute 145 = .ok (.getfield 19, 3) := by decide +kernel
theorem dX13_execute_148 : decode cX13_execute 148 = .ok (.invokevirtual 84, 3) := by decide +kernel
theorem dX13_execute_151 : decode cX13_execute 151 = .ok (.aload_n 0, 1) := by decide +kernel
theorem dX13_execute_152 : decode cX13_execute 152 = .ok (.getfield 212, 3) := by decide +kernel
theorem dX13_execute_155 : decode cX13_execute 155 = .ok (.ireturn, 1) := by decide +kernel
set_option maxRecDepth 20000 in
theorem ggX13_errorPosition_X13_fails : GoodIn wsX13_errorPosition wsX13_fails := goodIn_r _ [6, 7, 8, 9, 10, 11, 12, 13, 14, 15, 16, 17, 18, 19, 20, 21, 22, 23, 24, 25, 26, 27, 28, 29, 30, 31] (by decide +kernel) (by decide +kernel)
set_option maxRecDepth 20000 in
theorem gX13_errorPosition_X13_fails : GoodIn wsX13_errorPosition (wsV RX13 80 RX13 yX13_fails wsX13_fails) := goodIn_app (goodIn_of _ (by decide +kernel)) ggX13_errorPosition_X13_fails
theorem dX13_errorPosition_0 : decode cX13_errorPosition 0 = .ok (.aload_n 0, 1) := by decide +kernel
theorem dX13_errorPosition_1 : decode cX13_errorPosition 1 = .ok (.aload_n 0, 1) := by decide +kernel
theorem dX13_errorPosition_2 : decode cX13_errorPosition 2 = .ok (.getfield 44, 3) := by decide +kernel
theorem dX13_errorPosition_5 : decode cX13_errorPosition 5 = .ok (.ifCond .ge 7, 3) := by decide +kernel
theorem dX13_errorPosition_8 : decode cX13_errorPosition 8 = .ok (.iconst 1, 1) := by decide +kernel
theorem dX13_errorPosition_9 : decode cX13_errorPosition 9 = .ok (.goto 4, 3) := by decide +kernel
theorem dX13_errorPosition_12 : decode cX13_errorPosition 12 = .ok (.iconst 0, 1) := by decide +kernel
theorem dX13_errorPosition_13 : decode cX13_errorPosition 13 = .ok (.invokevirtual 80, 3) := by decide +kernel
theorem dX13_errorPosition_16 : decode cX13_errorPosition 16 = .ok (.ifCond .eq 7, 3) := by decide +kernel
theorem dX13_errorPosition_19 : decode cX13_errorPosition 19 = .ok (.iconst 0, 1) := by decide +kernel
theorem dX13_errorPosition_20 : decode cX13_errorPosition 20 = .ok (.goto 7, 3) := by decide +kernel
theorem dX13_errorPosition_23 : decode cX13_errorPosition 23 = .ok (.aload_n 0, 1) := by decide +kernel
theorem dX13_errorPosition_24 : decode cX13_errorPosition 24 = .ok (.getfield 44, 3) := by decide +kernel
theorem dX13_errorPosition_27 : decode cX13_errorPosition 27 = .ok (.ireturn, 1) := by decide +kernel
set_option maxRecDepth 20000 in
theorem ggX13_failedCommand_X13_fails : GoodIn wsX13_failedCommand wsX13_fails := goodIn_r _ [6, 7, 8, 9, 10, 11, 12, 13, 14, 15, 16, 17, 18, 19, 20, 21, 22, 23, 24, 25, 26, 27, 28, 29, 30, 31] (by decide +kernel) (by decide +kernel)
set_option maxRecDepth 20000 in
theorem gX13_failedCommand_X13_fails : GoodIn wsX13_failedCommand (wsV RX13 80 RX13 yX13_fails wsX13_fails) := goodIn_app (goodIn_of _ (by decide +kernel)) ggX13_failedCommand_X13_fails
theorem dX13_failedCommand_0 : decode cX13_failedCommand 0 = .ok (.aload_n 0, 1) := by decide +kernel
theorem dX13_failedCommand_1 : decode cX13_failedCommand 1 = .ok (.aload_n 0, 1) := by decide +kernel
theorem dX13_failedCommand_2 : decode cX13_failedCommand 2 = .ok (.getfield 48, 3) := by decide +kernel
theorem dX13_failedCommand_5 : decode cX13_failedCommand 5 = .ok (.ifCond .ge 7, 3) := by decide +kernel
theorem dX13_failedCommand_8 : decode cX13_failedCommand 8 = .ok (.iconst 1, 1) := by decide +kernel
theorem dX13_failedCommand_9 : decode cX13_failedCommand 9 = .ok (.goto 4, 3) := by decide +kernel
theorem dX13_failedCommand_12 : decode cX13_failedCommand 12 = .ok (.iconst 0, 1) := by decide +kernel
theorem dX13_failedCommand_13 : decode cX13_failedCommand 13 = .ok (.invokevirtual 80, 3) := by decide +kernel
theorem dX13_failedCommand_16 : decode cX13_failedCommand 16 = .ok (.ifCond .eq 7, 3) := by decide +kernel
theorem dX13_failedCommand_19 : decode cX13_failedCommand 19 = .ok (.iconst 0, 1) := by decide +kernel
theorem dX13_failedCommand_20 : decode cX13_failedCommand 20 = .ok (.goto 7, 3) := by decide +kernel
theorem dX13_failedCommand_23 : decode cX13_failedCommand 23 = .ok (.aload_n 0, 1) := by decide +kernel
theorem dX13_failedCommand_24 : decode cX13_failedCommand 24 = .ok (.getfield 48, 3) := by decide +kernel
theorem dX13_failedCommand_27 : decode cX13_failedCommand 27 = .ok (.ireturn, 1) := by decide +kernel
set_option maxRecDepth 20000 in
theorem ggX13_undo_X13_fails : GoodIn wsX13_undo wsX13_fails := goodIn_r _ [8, 9, 13, 14, 15, 16, 17, 18, 19, 20, 21, 22, 23, 24, 25, 26, 27, 28, 29, 30, 31, 32, 33, 34, 35, 36] (by decide +kernel) (by decide +kernel)
set_option maxRecDepth 20000 in
theorem gX13_undo_X13_fails : GoodIn wsX13_undo (wsV RX13 80 RX13 yX13_fails wsX13_fails) := goodIn_app (goodIn_of _ (by decide +kernel)) ggX13_undo_X13_fails
set_option maxRecDepth 20000 in
theorem ggX13_undo_X13_copies : GoodIn wsX13_undo wsX13_copies := goodIn_ca (goodIn_r _ [12] (by decide +kernel) (by decide +kernel)) (goodIn_sub (fun _ h => List.mem_cons_of_mem _ (List.mem_append_right _ h)) (by decide +kernel))
set_option maxRecDepth 20000 in
theorem gX13_undo_X13_copies : GoodIn wsX13_undo (va_wsS RX13 68 yX13_copies wsX13_copies) := goodIn_app (goodIn_of _ (by decide +kernel)) ggX13_undo_X13_copies
theorem dX13_undo_0 : decode cX13_undo 0 = .ok (.aload_n 0, 1) := by decide +kernel
theorem dX13_undo_1 : decode cX13_undo 1 = .ok (.aload_n 0, 1) := by decide +kernel
theorem dX13_undo_2 : decode cX13_undo 2 = .ok (.getfield 65, 3) := by decide +kernel
theorem dX13_undo_5 : decode cX13_undo 5 = .ok (.ifCond .ne 7, 3) := by decide +kernel
theorem dX13_undo_8 : decode cX13_undo 8 = .ok (.iconst 1, 1) := by decide +kernel
theorem dX13_undo_9 : decode cX13_undo 9 = .ok (.goto 4, 3) := by decide +kernel
theorem dX13_undo_12 : decode cX13_undo 12 = .ok (.iconst 0, 1) := by decide +kernel
theorem dX13_undo_13 : decode cX13_undo 13 = .ok (.invokevirtual 80, 3) := by decide +kernel
theorem dX13_undo_16 : decode cX13_undo 16 = .ok (.ifCond .eq 5, 3) := by decide +kernel
theorem dX13_undo_19 : decode cX13_undo 19 = .ok (.iconst 0, 1) := by decide +kernel
theorem dX13_undo_20 : decode cX13_undo 20 = .ok (.ireturn, 1) := by decide +kernel
theorem dX13_undo_21 : decode cX13_undo 21 = .ok (.aload_n 0, 1) := by decide +kernel
theorem dX13_undo_22 : decode cX13_undo 22 = .ok (.dup, 1) := by decide +kernel
theorem dX13_undo_23 : decode cX13_undo 23 = .ok (.getfield 65, 3) := by decide +kernel
theorem dX13_undo_26 : decode cX13_undo 26 = .ok (.iconst 1, 1) := by decide +kernel
theorem dX13_undo_27 : decode cX13_undo 27 = .ok (.isub, 1) := by decide +kernel
theorem dX13_undo_28 : decode cX13_undo 28 = .ok (.putfield 65, 3) := by decide +kernel
theorem dX13_undo_31 : decode cX13_undo 31 = .ok (.aload_n 0, 1) := by decide +kernel
theorem dX13_undo_32 : decode cX13_undo 32 = .ok (.getfield 13, 3) := by decide +kernel
theorem dX13_undo_35 : decode cX13_undo 35 = .ok (.bipush 60, 2) := by decide +kernel
theorem dX13_undo_37 : decode cX13_undo 37 = .ok (.aload_n 0, 1) := by decide +kernel
theorem dX13_undo_38 : decode cX13_undo 38 = .ok (.getfield 65, 3) := by decide +kernel
theorem dX13_undo_41 : decode cX13_undo 41 = .ok (.imul, 1) := by decide +kernel
theorem dX13_undo_42 : decode cX13_undo 42 = .ok (.aload_n 0, 1) := by decide +kernel
theorem dX13_undo_43 : decode cX13_undo 43 = .ok (.getfield 7, 3) := by decide +kernel
theorem dX13_undo_46 : decode cX13_undo 46 = .ok (.iconst 0, 1) := by decide +kernel
theorem dX13_undo_47 : decode cX13_undo 47 = .ok (.invokestatic 68, 3) := by decide +kernel
theorem dX13_undo_50 : decode cX13_undo 50 = .ok (.aload_n 0, 1) := by decide +kernel
theorem dX13_undo_51 : decode cX13_undo 51 = .ok (.getfield 65, 3) := by decide +kernel
theorem dX13_undo_54 : decode cX13_undo 54 = .ok (.ireturn, 1) := by decide +kernel
set_option maxRecDepth 20000 in
theorem ggX13_save_X13_copies : GoodIn wsX13_save wsX13_copies := goodIn_ca (goodIn_r _ [8] (by decide +kernel) (by decide +kernel)) (goodIn_sub (fun _ h => List.mem_cons_of_mem _ (List.mem_append_right _ h)) (by decide +kernel))
set_option maxRecDepth 20000 in
theorem gX13_save_X13_copies : GoodIn wsX13_save (va_wsS RX13 68 yX13_copies wsX13_copies) := goodIn_app (goodIn_of _ (by decide +kernel)) ggX13_save_X13_copies
theorem dX13_save_0 : decode cX13_save 0 = .ok (.aload_n 0, 1) := by decide +kernel
theorem dX13_save_1 : decode cX13_save 1 = .ok (.iconst 0, 1) := by decide +kernel
theorem dX13_save_2 : decode cX13_save 2 = .ok (.putfield 58, 3) := by decide +kernel
theorem dX13_save_5 : decode cX13_save 5 = .ok (.aload_n 0, 1) := by decide +kernel
theorem dX13_save_6 : decode cX13_save 6 = .ok (.iconst 1, 1) := by decide +kernel
theorem dX13_save_7 : decode cX13_save 7 = .ok (.putfield 286, 3) := by decide +kernel
theorem dX13_save_10 : decode cX13_save 10 = .ok (.aload_n 0, 1) := by decide +kernel
theorem dX13_save_11 : decode cX13_save 11 = .ok (.getfield 7, 3) := by decide +kernel
theorem dX13_save_14 : decode cX13_save 14 = .ok (.iconst 0, 1) := by decide +kernel
theorem dX13_save_15 : decode cX13_save 15 = .ok (.aload_n 0, 1) := by decide +kernel
theorem dX13_save_16 : decode cX13_save 16 = .ok (.getfield 16, 3) := by decide +kernel
theorem dX13_save_19 : decode cX13_save 19 = .ok (.iconst 0, 1) := by decide +kernel
theorem dX13_save_20 : decode cX13_save 20 = .ok (.invokestatic 68, 3) := by decide +kernel
theorem dX13_save_23 : decode cX13_save 23 = .ok (.aload_n 0, 1) := by decide +kernel
theorem dX13_save_24 : decode cX13_save 24 = .ok (.getfield 7, 3) := by decide +kernel
theorem dX13_save_27 : decode cX13_save 27 = .ok (.iconst 0, 1) := by decide +kernel
theorem dX13_save_28 : decode cX13_save 28 = .ok (.iaload, 1) := by decide +kernel
theorem dX13_save_29 : decode cX13_save 29 = .ok (.ireturn, 1) := by decide +kernel
set_option maxRecDepth 20000 in
theorem ggX13_restore_X13_fails : GoodIn wsX13_restore wsX13_fails := goodIn_r _ [9, 10, 14, 15, 16, 17, 18, 19, 20, 21, 22, 23, 24, 25, 26, 27, 28, 29, 30, 31, 32, 33, 34, 35, 36, 37] (by decide +kernel) (by decide +kernel)
set_option maxRecDepth 20000 in
theorem gX13_restore_X13_fails : GoodIn wsX13_restore (wsV RX13 80 RX13 yX13_fails wsX13_fails) := goodIn_app (goodIn_of _ (by decide +kernel)) ggX13_restore_X13_fails
set_option maxRecDepth 20000 in
theorem ggX13_restore_X13_copies : GoodIn wsX13_restore wsX13_copies := goodIn_ca (goodIn_r _ [13] (by decide +kernel) (by decide +kernel)) (goodIn_sub (fun _ h => List.mem_cons_of_mem _ (List.mem_append_right _ h)) (by decide +kernel))
set_option maxRecDepth 20000 in
theorem gX13_restore_X13_copies : GoodIn wsX13_restore (va_wsS RX13 68 yX13_copies wsX13_copies) := goodIn_app (goodIn_of _ (by decide +kernel)) ggX13_restore_X13_copies
theorem dX13_restore_0 : decode cX13_restore 0 = .ok (.aload_n 0, 1) := by decide +kernel
theorem dX13_restore_1 : decode cX13_restore 1 = .ok (.aload_n 0, 1) := by decide +kernel
theorem dX13_restore_2 : decode cX13_restore 2 = .ok (.getfield 286, 3) := by decide +kernel
theorem dX13_restore_5 : decode cX13_restore 5 = .ok (.ifCond .eq 7, 3) := by decide +kernel
theorem dX13_restore_8 : decode cX13_restore 8 = .ok (.iconst 0, 1) := by decide +kernel
theorem dX13_restore_9 : decode cX13_restore 9 = .ok (.goto 4, 3) := by decide +kernel
theorem dX13_restore_12 : decode cX13_restore 12 = .ok (.iconst 1, 1) := by decide +kernel
theorem dX13_restore_13 : decode cX13_restore 13 = .ok (.invokevirtual 80, 3) := by decide +kernel
theorem dX13_restore_16 : decode cX13_restore 16 = .ok (.ifCond .eq 5, 3) := by decide +kernel
theorem dX13_restore_19 : decode cX13_restore 19 = .ok (.iconst 0, 1) := by decide +kernel
theorem dX13_restore_20 : decode cX13_restore 20 = .ok (.ireturn, 1) := by decide +kernel
theorem dX13_restore_21 : decode cX13_restore 21 = .ok (.aload_n 0, 1) := by decide +kernel
theorem dX13_restore_22 : decode cX13_restore 22 = .ok (.getfield 16, 3) := by decide +kernel
theorem dX13_restore_25 : decode cX13_restore 25 = .ok (.iconst 0, 1) := by decide +kernel
theorem dX13_restore_26 : decode cX13_restore 26 = .ok (.aload_n 0, 1) := by decide +kernel
theorem dX13_restore_27 : decode cX13_restore 27 = .ok (.getfield 7, 3) := by decide +kernel
theorem dX13_restore_30 : decode cX13_restore 30 = .ok (.iconst 0, 1) := by decide +kernel
theorem dX13_restore_31 : decode cX13_restore 31 = .ok (.invokestatic 68, 3) := by decide +kernel
theorem dX13_restore_34 : decode cX13_restore 34 = .ok (.aload_n 0, 1) := by decide +kernel
theorem dX13_restore_35 : decode cX13_restore 35 = .ok (.iconst 0, 1) := by decide +kernel
theorem dX13_restore_36 : decode cX13_restore 36 = .ok (.putfield 65, 3) := by decide +kernel
theorem dX13_restore_39 : decode cX13_restore 39 = .ok (.aload_n 0, 1) := by decide +kernel
theorem dX13_restore_40 : decode cX13_restore 40 = .ok (.getfield 7, 3) := by decide +kernel
theorem dX13_restore_43 : decode cX13_restore 43 = .ok (.iconst 0, 1) := by decide +kernel
theorem dX13_restore_44 : decode cX13_restore 44 = .ok (.iaload, 1) := by decide +kernel
theorem dX13_restore_45 : decode cX13_restore 45 = .ok (.ireturn, 1) := by decide +kernel
