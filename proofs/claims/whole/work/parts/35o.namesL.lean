theorem goodIn_td {big ws : List Cond} {i n : Nat} (h1 : GoodIn big ((ws.drop i).take n)) (h2 : GoodIn big (ws.drop (i + n))) : GoodIn big (ws.drop i) := by
  have h := goodIn_app h1 h2
  rw [← List.drop_drop, List.take_append_drop] at h
  exact h
theorem goodIn_dz {big ws : List Cond} (h : GoodIn big (ws.drop 0)) : GoodIn big ws := h
noncomputable def zW_ggL_execute_X12_execute : List Cond := (.code yX12_execute cX12_execute 3 (some .int) :: ((wsX12_execute_r1 ++ (wsX12_execute_r2 ++ (wsX12_execute_r3 ++ (wsX12_execute_r4 ++ (wsX12_execute_r5 ++ (wsX12_execute_r6 ++ (wsX12_execute_r7 ++ (wsX12_execute_r8 ++ (wsX12_execute_r9 ++ (wsX12_execute_r10 ++ (wsX12_execute_r11 ++ (wsX12_execute_r12 ++ (wsX12_execute_r13 ++ (wsX12_execute_r14 ++ (wsX12_execute_r15 ++ (wsX12_execute_r16 ++ wsX12_execute_r17)))))))))))))))) ++ wsX120 ++ wsX30 ++ wsJ00 ++ wsX110 ++ wsX100 ++ wsX20 ++ wsX40 ++ wsX10 ++ wsX50 ++ wsX90 ++ wsX60))
set_option maxRecDepth 20000 in
theorem zC0_ggL_execute_X12_execute : GoodIn wsL_execute ((zW_ggL_execute_X12_execute.drop 0).take 70) := goodIn_r _ [6, 7, 8, 9, 10, 11, 12, 13, 14, 15, 16, 17, 18, 19, 20, 21, 22, 23, 24, 25, 26, 27, 28, 29, 30, 31, 32, 33, 34, 35, 36, 37, 38, 39, 40, 41, 42, 43, 44, 45, 46, 47, 48, 49, 50, 51, 52, 53, 54, 55, 56, 57, 58, 59, 60, 61, 62, 63, 64, 65, 66, 67, 68, 69, 70, 71, 72, 73, 74, 75] (by decide +kernel) (by decide +kernel)
set_option maxRecDepth 20000 in
theorem zC1_ggL_execute_X12_execute : GoodIn wsL_execute ((zW_ggL_execute_X12_execute.drop 70).take 70) := goodIn_r _ [76, 77, 78, 79, 80, 81, 82, 83, 84, 85, 86, 87, 88, 89, 90, 91, 92, 93, 94, 95, 96, 97, 98, 99, 100, 101, 102, 103, 104, 105, 106, 107, 108, 109, 110, 111, 112, 113, 114, 115, 116, 117, 118, 119, 120, 121, 122, 123, 124, 125, 126, 127, 128, 129, 130, 131, 132, 133, 134, 135, 136, 137, 138, 139, 140, 141, 142, 143, 144, 145] (by decide +kernel) (by decide +kernel)
set_option maxRecDepth 20000 in
theorem zC2_ggL_execute_X12_execute : GoodIn wsL_execute ((zW_ggL_execute_X12_execute.drop 140).take 70) := goodIn_r _ [146, 147, 148, 149, 150, 151, 152, 153, 154, 155, 156, 157, 158, 159, 160, 161, 162, 163, 5, 164, 165, 166, 167, 168, 169, 170, 171, 172, 173, 174, 175, 176, 177, 178, 179, 180, 181, 182, 183, 184, 185, 186, 187, 188, 189, 190, 191, 192, 193, 194, 195, 196, 197, 198, 199, 200, 201, 202, 203, 204, 205, 206, 207, 208, 209, 210, 211, 212, 213, 214] (by decide +kernel) (by decide +kernel)
set_option maxRecDepth 20000 in
theorem zC3_ggL_execute_X12_execute : GoodIn wsL_execute ((zW_ggL_execute_X12_execute.drop 210).take 70) := goodIn_r _ [215, 216, 217, 218, 219, 220, 221, 222, 223, 224, 225, 226, 227, 228, 229, 230, 231, 232, 233, 234, 235, 236, 237, 238, 239, 240, 241, 242, 243, 244, 245, 246, 247, 248, 249, 250, 251, 252, 253, 254, 255, 256, 257, 258, 259, 260, 261, 262, 263, 264, 265, 266, 267, 268, 269, 270, 271, 272, 273, 274, 275, 276, 277, 278, 279, 280, 281, 282, 283, 284] (by decide +kernel) (by decide +kernel)
set_option maxRecDepth 20000 in
theorem zC4_ggL_execute_X12_execute : GoodIn wsL_execute ((zW_ggL_execute_X12_execute.drop 280).take 70) := goodIn_r _ [285, 286, 287, 288, 289, 290, 291, 292, 293, 294, 295, 296, 297, 298, 299, 300, 301, 302, 303, 304, 305, 306, 307, 308, 309, 310, 311, 312, 313, 314, 315, 316, 317, 318, 319, 320, 321, 322, 323, 324, 325, 326, 327, 328, 329, 330, 331, 332, 333, 334, 335, 336, 337, 338, 339, 340, 341, 342, 343, 344, 345, 346, 347, 348, 349, 350, 351, 352, 353, 354] (by decide +kernel) (by decide +kernel)
set_option maxRecDepth 20000 in
theorem zC5_ggL_execute_X12_execute : GoodIn wsL_execute ((zW_ggL_execute_X12_execute.drop 350).take 70) := goodIn_r _ [355, 356, 357, 358, 359, 360, 361, 362, 363, 364, 365, 366, 367, 368, 369, 370, 371, 372, 373, 374, 375, 376, 377, 378, 379, 380, 381, 382, 383, 384, 385, 386, 387, 388, 389, 390, 391, 392, 393, 394, 395, 396, 397, 398, 399, 400, 401, 402, 403, 404, 405, 406, 407, 408, 409, 410, 411, 412, 413, 414, 415, 416, 417, 418, 419, 420, 421, 422, 423, 424] (by decide +kernel) (by decide +kernel)
set_option maxRecDepth 20000 in
theorem zC6_ggL_execute_X12_execute : GoodIn wsL_execute (zW_ggL_execute_X12_execute.drop 420) := goodIn_r _ [425, 426, 427, 428, 429, 430, 431, 432, 433, 434, 435, 436, 437, 438, 439, 440, 441, 442, 443, 444, 445, 446, 447, 448] (by decide +kernel) (by decide +kernel)
theorem zA_ggL_execute_X12_execute : GoodIn wsL_execute zW_ggL_execute_X12_execute := goodIn_dz (goodIn_td (i := 0) (n := 70) zC0_ggL_execute_X12_execute (goodIn_td (i := 70) (n := 70) zC1_ggL_execute_X12_execute (goodIn_td (i := 140) (n := 70) zC2_ggL_execute_X12_execute (goodIn_td (i := 210) (n := 70) zC3_ggL_execute_X12_execute (goodIn_td (i := 280) (n := 70) zC4_ggL_execute_X12_execute (goodIn_td (i := 350) (n := 70) zC5_ggL_execute_X12_execute zC6_ggL_execute_X12_execute))))))
theorem ggL_execute_X12_execute : GoodIn wsL_execute wsX12_execute := goodIn_ca (goodIn_ca (goodIn_ca (goodIn_ca ((show GoodIn wsL_execute (.code yX12_execute cX12_execute 3 (some .int) :: ((wsX12_execute_r1 ++ (wsX12_execute_r2 ++ (wsX12_execute_r3 ++ (wsX12_execute_r4 ++ (wsX12_execute_r5 ++ (wsX12_execute_r6 ++ (wsX12_execute_r7 ++ (wsX12_execute_r8 ++ (wsX12_execute_r9 ++ (wsX12_execute_r10 ++ (wsX12_execute_r11 ++ (wsX12_execute_r12 ++ (wsX12_execute_r13 ++ (wsX12_execute_r14 ++ (wsX12_execute_r15 ++ (wsX12_execute_r16 ++ wsX12_execute_r17)))))))))))))))) ++ wsX120 ++ wsX30 ++ wsJ00 ++ wsX110 ++ wsX100 ++ wsX20 ++ wsX40 ++ wsX10 ++ wsX50 ++ wsX90 ++ wsX60)) from zA_ggL_execute_X12_execute)) (goodIn_sub (fun _ h => List.mem_cons_of_mem _ (List.mem_append_left _ (List.mem_append_left _ (List.mem_append_right _ h)))) (by decide +kernel))) (goodIn_sub (fun _ h => List.mem_cons_of_mem _ (List.mem_append_left _ (List.mem_append_right _ h))) (by decide +kernel))) (goodIn_sub (fun _ h => List.mem_cons_of_mem _ (List.mem_append_left _ (List.mem_append_left _ (List.mem_append_left _ (List.mem_append_right _ h))))) (by decide +kernel))) (goodIn_sub (fun _ h => List.mem_cons_of_mem _ (List.mem_append_right _ h)) (by decide +kernel))
set_option maxRecDepth 20000 in
theorem gL_execute_X12_execute : GoodIn wsL_execute (wsV RL 116 RX12 yX12_execute wsX12_execute) := goodIn_app (goodIn_of _ (by decide +kernel)) ggL_execute_X12_execute
theorem dL_execute_0 : decode cL_execute 0 = .ok (.aload_n 1, 1) := by decide +kernel
theorem dL_execute_1 : decode cL_execute 1 = .ok (.iconst 0, 1) := by decide +kernel
theorem dL_execute_2 : decode cL_execute 2 = .ok (.aload_n 0, 1) := by decide +kernel
theorem dL_execute_3 : decode cL_execute 3 = .ok (.invokevirtual 116, 3) := by decide +kernel
theorem dL_execute_6 : decode cL_execute 6 = .ok (.i2l, 1) := by decide +kernel
theorem dL_execute_7 : decode cL_execute 7 = .ok (.lastore, 1) := by decide +kernel
theorem dL_execute_8 : decode cL_execute 8 = .ok (.goto 9, 3) := by decide +kernel
theorem dL_execute_11 : decode cL_execute 11 = .ok (.astore_n 2, 1) := by decide +kernel
theorem dL_execute_12 : decode cL_execute 12 = .ok (.iconst 1, 1) := by decide +kernel
theorem dL_execute_13 : decode cL_execute 13 = .ok (.ireturn, 1) := by decide +kernel
theorem dL_execute_14 : decode cL_execute 14 = .ok (.astore_n 2, 1) := by decide +kernel
theorem dL_execute_15 : decode cL_execute 15 = .ok (.iconst 2, 1) := by decide +kernel
theorem dL_execute_16 : decode cL_execute 16 = .ok (.ireturn, 1) := by decide +kernel
theorem dL_execute_17 : decode cL_execute 17 = .ok (.iconst 0, 1) := by decide +kernel
theorem dL_execute_18 : decode cL_execute 18 = .ok (.ireturn, 1) := by decide +kernel

