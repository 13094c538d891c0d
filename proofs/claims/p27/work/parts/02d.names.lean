theorem dX4_findHeaviest_32 : decode cX4_findHeaviest 32 = .ok (.getfield 231, 3) := by decide +kernel
theorem dX4_findHeaviest_35 : decode cX4_findHeaviest 35 = .ok (.iload 4, 2) := by decide +kernel
theorem dX4_findHeaviest_37 : decode cX4_findHeaviest 37 = .ok (.iaload, 1) := by decide +kernel
theorem dX4_findHeaviest_38 : decode cX4_findHeaviest 38 = .ok (.invokevirtual 226, 3) := by decide +kernel
theorem dX4_findHeaviest_41 : decode cX4_findHeaviest 41 = .ok (.istore 5, 2) := by decide +kernel
theorem dX4_findHeaviest_43 : decode cX4_findHeaviest 43 = .ok (.iload 5, 2) := by decide +kernel
theorem dX4_findHeaviest_45 : decode cX4_findHeaviest 45 = .ok (.iload_n 3, 1) := by decide +kernel
theorem dX4_findHeaviest_46 : decode cX4_findHeaviest 46 = .ok (.if_icmp .le 17, 3) := by decide +kernel
theorem dX4_findHeaviest_49 : decode cX4_findHeaviest 49 = .ok (.iload 5, 2) := by decide +kernel
theorem dX4_findHeaviest_51 : decode cX4_findHeaviest 51 = .ok (.istore_n 3, 1) := by decide +kernel
theorem dX4_findHeaviest_52 : decode cX4_findHeaviest 52 = .ok (.aload_n 0, 1) := by decide +kernel
theorem dX4_findHeaviest_53 : decode cX4_findHeaviest 53 = .ok (.getfield 40, 3) := by decide +kernel
theorem dX4_findHeaviest_56 : decode cX4_findHeaviest 56 = .ok (.getfield 231, 3) := by decide +kernel
theorem dX4_findHeaviest_59 : decode cX4_findHeaviest 59 = .ok (.iload 4, 2) := by decide +kernel
theorem dX4_findHeaviest_61 : decode cX4_findHeaviest 61 = .ok (.iaload, 1) := by decide +kernel
theorem dX4_findHeaviest_62 : decode cX4_findHeaviest 62 = .ok (.istore_n 2, 1) := by decide +kernel
theorem dX4_findHeaviest_63 : decode cX4_findHeaviest 63 = .ok (.iinc 4 1, 3) := by decide +kernel
theorem dX4_findHeaviest_66 : decode cX4_findHeaviest 66 = .ok (.goto (-59), 3) := by decide +kernel
theorem dX4_findHeaviest_69 : decode cX4_findHeaviest 69 = .ok (.iload_n 2, 1) := by decide +kernel
theorem dX4_findHeaviest_70 : decode cX4_findHeaviest 70 = .ok (.ireturn, 1) := by decide +kernel
set_option maxRecDepth 20000 in
theorem ggX4_takeHeaviest_X4_findHeaviest : GoodIn wsX4_takeHeaviest wsX4_findHeaviest := goodIn_r _ [7, 8, 9, 10, 11, 12, 13, 14, 15, 16, 17, 6, 18, 37, 38, 39, 40, 41, 42, 43, 44, 45, 46, 47, 48, 49, 50, 51, 27, 28, 29, 30, 31, 32, 33, 34, 35, 36] (by decide +kernel) (by decide +kernel)
set_option maxRecDepth 20000 in
theorem gX4_takeHeaviest_X4_findHeaviest : GoodIn wsX4_takeHeaviest (wsV RX4 223 RX4 yX4_findHeaviest wsX4_findHeaviest) := goodIn_app (goodIn_of _ (by decide +kernel)) ggX4_takeHeaviest_X4_findHeaviest
set_option maxRecDepth 20000 in
theorem ggX4_takeHeaviest_X1_weightOf : GoodIn wsX4_takeHeaviest wsX1_weightOf := goodIn_r _ [15, 16, 17, 6, 18, 27, 28, 29, 30, 31, 32, 33, 34, 35, 36] (by decide +kernel) (by decide +kernel)
set_option maxRecDepth 20000 in
theorem gX4_takeHeaviest_X1_weightOf : GoodIn wsX4_takeHeaviest (wsV RX4 226 RX1 yX1_weightOf wsX1_weightOf) := goodIn_app (goodIn_of _ (by decide +kernel)) ggX4_takeHeaviest_X1_weightOf
set_option maxRecDepth 20000 in
theorem ggX4_takeHeaviest_X1_takeWay : GoodIn wsX4_takeHeaviest wsX1_takeWay := goodIn_r _ [22, 23, 24, 25, 26, 16, 17, 6, 18, 27, 28, 29, 30, 31, 32, 33, 34, 35, 36] (by decide +kernel) (by decide +kernel)
set_option maxRecDepth 20000 in
theorem gX4_takeHeaviest_X1_takeWay : GoodIn wsX4_takeHeaviest (wsV RX4 294 RX1 yX1_takeWay wsX1_takeWay) := goodIn_app (goodIn_of _ (by decide +kernel)) ggX4_takeHeaviest_X1_takeWay
theorem dX4_takeHeaviest_0 : decode cX4_takeHeaviest 0 = .ok (.aload_n 0, 1) := by decide +kernel
theorem dX4_takeHeaviest_1 : decode cX4_takeHeaviest 1 = .ok (.aload_n 1, 1) := by decide +kernel
theorem dX4_takeHeaviest_2 : decode cX4_takeHeaviest 2 = .ok (.invokevirtual 223, 3) := by decide +kernel
theorem dX4_takeHeaviest_5 : decode cX4_takeHeaviest 5 = .ok (.istore_n 2, 1) := by decide +kernel
theorem dX4_takeHeaviest_6 : decode cX4_takeHeaviest 6 = .ok (.iload_n 2, 1) := by decide +kernel
theorem dX4_takeHeaviest_7 : decode cX4_takeHeaviest 7 = .ok (.iconst (-1), 1) := by decide +kernel
theorem dX4_takeHeaviest_8 : decode cX4_takeHeaviest 8 = .ok (.if_icmp .ne 7, 3) := by decide +kernel
theorem dX4_takeHeaviest_11 : decode cX4_takeHeaviest 11 = .ok (.iconst 0, 1) := by decide +kernel
theorem dX4_takeHeaviest_12 : decode cX4_takeHeaviest 12 = .ok (.goto 8, 3) := by decide +kernel
theorem dX4_takeHeaviest_15 : decode cX4_takeHeaviest 15 = .ok (.aload_n 1, 1) := by decide +kernel
theorem dX4_takeHeaviest_16 : decode cX4_takeHeaviest 16 = .ok (.iload_n 2, 1) := by decide +kernel
theorem dX4_takeHeaviest_17 : decode cX4_takeHeaviest 17 = .ok (.invokevirtual 226, 3) := by decide +kernel
theorem dX4_takeHeaviest_20 : decode cX4_takeHeaviest 20 = .ok (.istore_n 3, 1) := by decide +kernel
theorem dX4_takeHeaviest_21 : decode cX4_takeHeaviest 21 = .ok (.iload_n 3, 1) := by decide +kernel
theorem dX4_takeHeaviest_22 : decode cX4_takeHeaviest 22 = .ok (.ifCond .le 12, 3) := by decide +kernel
theorem dX4_takeHeaviest_25 : decode cX4_takeHeaviest 25 = .ok (.aload_n 1, 1) := by decide +kernel
theorem dX4_takeHeaviest_26 : decode cX4_takeHeaviest 26 = .ok (.getfield 107, 3) := by decide +kernel
theorem dX4_takeHeaviest_29 : decode cX4_takeHeaviest 29 = .ok (.bipush 12, 2) := by decide +kernel
theorem dX4_takeHeaviest_31 : decode cX4_takeHeaviest 31 = .ok (.if_icmp .lt 15, 3) := by decide +kernel
theorem dX4_takeHeaviest_34 : decode cX4_takeHeaviest 34 = .ok (.aload_n 1, 1) := by decide +kernel
theorem dX4_takeHeaviest_35 : decode cX4_takeHeaviest 35 = .ok (.dup, 1) := by decide +kernel
theorem dX4_takeHeaviest_36 : decode cX4_takeHeaviest 36 = .ok (.getfield 216, 3) := by decide +kernel
theorem dX4_takeHeaviest_39 : decode cX4_takeHeaviest 39 = .ok (.iconst 1, 1) := by decide +kernel
theorem dX4_takeHeaviest_40 : decode cX4_takeHeaviest 40 = .ok (.iadd, 1) := by decide +kernel
theorem dX4_takeHeaviest_41 : decode cX4_takeHeaviest 41 = .ok (.putfield 216, 3) := by decide +kernel
theorem dX4_takeHeaviest_44 : decode cX4_takeHeaviest 44 = .ok (.iconst 0, 1) := by decide +kernel
theorem dX4_takeHeaviest_45 : decode cX4_takeHeaviest 45 = .ok (.ireturn, 1) := by decide +kernel
theorem dX4_takeHeaviest_46 : decode cX4_takeHeaviest 46 = .ok (.aload_n 1, 1) := by decide +kernel
theorem dX4_takeHeaviest_47 : decode cX4_takeHeaviest 47 = .ok (.iload_n 2, 1) := by decide +kernel
theorem dX4_takeHeaviest_48 : decode cX4_takeHeaviest 48 = .ok (.iload_n 3, 1) := by decide +kernel
theorem dX4_takeHeaviest_49 : decode cX4_takeHeaviest 49 = .ok (.invokevirtual 294, 3) := by decide +kernel
theorem dX4_takeHeaviest_52 : decode cX4_takeHeaviest 52 = .ok (.iload_n 3, 1) := by decide +kernel
theorem dX4_takeHeaviest_53 : decode cX4_takeHeaviest 53 = .ok (.ireturn, 1) := by decide +kernel
set_option maxRecDepth 20000 in
theorem ggX4_takeAll_X4_takeHeaviest : GoodIn wsX4_takeAll wsX4_takeHeaviest := goodIn_r _ [5, 6, 7, 8, 9, 10, 4, 11, 12, 13, 14, 15, 16, 17, 18, 19, 20, 21, 22, 23, 24, 25, 26, 27, 28, 29, 30, 31, 32, 33, 34, 35, 36, 37, 38, 39, 40, 41, 42, 43, 44, 45, 46, 47, 48, 49, 50, 51, 52, 53, 54, 55] (by decide +kernel) (by decide +kernel)
set_option maxRecDepth 20000 in
theorem gX4_takeAll_X4_takeHeaviest : GoodIn wsX4_takeAll (wsV RX4 100 RX4 yX4_takeHeaviest wsX4_takeHeaviest) := goodIn_app (goodIn_of _ (by decide +kernel)) ggX4_takeAll_X4_takeHeaviest
theorem dX4_takeAll_0 : decode cX4_takeAll 0 = .ok (.iconst 0, 1) := by decide +kernel
theorem dX4_takeAll_1 : decode cX4_takeAll 1 = .ok (.istore_n 2, 1) := by decide +kernel
theorem dX4_takeAll_2 : decode cX4_takeAll 2 = .ok (.iload_n 2, 1) := by decide +kernel
theorem dX4_takeAll_3 : decode cX4_takeAll 3 = .ok (.bipush 12, 2) := by decide +kernel
theorem dX4_takeAll_5 : decode cX4_takeAll 5 = .ok (.if_icmp .gt 17, 3) := by decide +kernel
theorem dX4_takeAll_8 : decode cX4_takeAll 8 = .ok (.aload_n 0, 1) := by decide +kernel
theorem dX4_takeAll_9 : decode cX4_takeAll 9 = .ok (.aload_n 1, 1) := by decide +kernel
theorem dX4_takeAll_10 : decode cX4_takeAll 10 = .ok (.invokevirtual 100, 3) := by decide +kernel
theorem dX4_takeAll_13 : decode cX4_takeAll 13 = .ok (.ifCond .le 9, 3) := by decide +kernel
theorem dX4_takeAll_16 : decode cX4_takeAll 16 = .ok (.iinc 2 1, 3) := by decide +kernel
theorem dX4_takeAll_19 : decode cX4_takeAll 19 = .ok (.goto (-17), 3) := by decide +kernel
theorem dX4_takeAll_22 : decode cX4_takeAll 22 = .ok (.iload_n 2, 1) := by decide +kernel
theorem dX4_takeAll_23 : decode cX4_takeAll 23 = .ok (.ireturn, 1) := by decide +kernel
theorem dJ6_bitCount_0f7a4_0 : decode cJ6_bitCount_0f7a4 0 = .ok (.iload_n 0, 1) := by decide +kernel
theorem dJ6_bitCount_0f7a4_1 : decode cJ6_bitCount_0f7a4 1 = .ok (.iload_n 0, 1) := by decide +kernel
theorem dJ6_bitCount_0f7a4_2 : decode cJ6_bitCount_0f7a4 2 = .ok (.iconst 1, 1) := by decide +kernel
theorem dJ6_bitCount_0f7a4_3 : decode cJ6_bitCount_0f7a4 3 = .ok (.iushr, 1) := by decide +kernel
theorem dJ6_bitCount_0f7a4_4 : decode cJ6_bitCount_0f7a4 4 = .ok (.ldc_w 265, 3) := by decide +kernel
theorem dJ6_bitCount_0f7a4_7 : decode cJ6_bitCount_0f7a4 7 = .ok (.iand, 1) := by decide +kernel
theorem dJ6_bitCount_0f7a4_8 : decode cJ6_bitCount_0f7a4 8 = .ok (.isub, 1) := by decide +kernel
theorem dJ6_bitCount_0f7a4_9 : decode cJ6_bitCount_0f7a4 9 = .ok (.istore_n 0, 1) := by decide +kernel
theorem dJ6_bitCount_0f7a4_10 : decode cJ6_bitCount_0f7a4 10 = .ok (.iload_n 0, 1) := by decide +kernel
theorem dJ6_bitCount_0f7a4_11 : decode cJ6_bitCount_0f7a4 11 = .ok (.ldc_w 266, 3) := by decide +kernel
theorem dJ6_bitCount_0f7a4_14 : decode cJ6_bitCount_0f7a4 14 = .ok (.iand, 1) := by decide +kernel
theorem dJ6_bitCount_0f7a4_15 : decode cJ6_bitCount_0f7a4 15 = .ok (.iload_n 0, 1) := by decide +kernel
theorem dJ6_bitCount_0f7a4_16 : decode cJ6_bitCount_0f7a4 16 = .ok (.iconst 2, 1) := by decide +kernel
theorem dJ6_bitCount_0f7a4_17 : decode cJ6_bitCount_0f7a4 17 = .ok (.iushr, 1) := by decide +kernel
theorem dJ6_bitCount_0f7a4_18 : decode cJ6_bitCount_0f7a4 18 = .ok (.ldc_w 266, 3) := by decide +kernel
theorem dJ6_bitCount_0f7a4_21 : decode cJ6_bitCount_0f7a4 21 = .ok (.iand, 1) := by decide +kernel
theorem dJ6_bitCount_0f7a4_22 : decode cJ6_bitCount_0f7a4 22 = .ok (.iadd, 1) := by decide +kernel
theorem dJ6_bitCount_0f7a4_23 : decode cJ6_bitCount_0f7a4 23 = .ok (.istore_n 0, 1) := by decide +kernel
theorem dJ6_bitCount_0f7a4_24 : decode cJ6_bitCount_0f7a4 24 = .ok (.iload_n 0, 1) := by decide +kernel
theorem dJ6_bitCount_0f7a4_25 : decode cJ6_bitCount_0f7a4 25 = .ok (.iload_n 0, 1) := by decide +kernel
theorem dJ6_bitCount_0f7a4_26 : decode cJ6_bitCount_0f7a4 26 = .ok (.iconst 4, 1) := by decide +kernel
theorem dJ6_bitCount_0f7a4_27 : decode cJ6_bitCount_0f7a4 27 = .ok (.iushr, 1) := by decide +kernel
theorem dJ6_bitCount_0f7a4_28 : decode cJ6_bitCount_0f7a4 28 = .ok (.iadd, 1) := by decide +kernel
theorem dJ6_bitCount_0f7a4_29 : decode cJ6_bitCount_0f7a4 29 = .ok (.ldc_w 267, 3) := by decide +kernel
theorem dJ6_bitCount_0f7a4_32 : decode cJ6_bitCount_0f7a4 32 = .ok (.iand, 1) := by decide +kernel
theorem dJ6_bitCount_0f7a4_33 : decode cJ6_bitCount_0f7a4 33 = .ok (.istore_n 0, 1) := by decide +kernel
theorem dJ6_bitCount_0f7a4_34 : decode cJ6_bitCount_0f7a4 34 = .ok (.iload_n 0, 1) := by decide +kernel
theorem dJ6_bitCount_0f7a4_35 : decode cJ6_bitCount_0f7a4 35 = .ok (.iload_n 0, 1) := by decide +kernel
theorem dJ6_bitCount_0f7a4_36 : decode cJ6_bitCount_0f7a4 36 = .ok (.bipush 8, 2) := by decide +kernel
theorem dJ6_bitCount_0f7a4_38 : decode cJ6_bitCount_0f7a4 38 = .ok (.iushr, 1) := by decide +kernel
theorem dJ6_bitCount_0f7a4_39 : decode cJ6_bitCount_0f7a4 39 = .ok (.iadd, 1) := by decide +kernel
theorem dJ6_bitCount_0f7a4_40 : decode cJ6_bitCount_0f7a4 40 = .ok (.istore_n 0, 1) := by decide +kernel
theorem dJ6_bitCount_0f7a4_41 : decode cJ6_bitCount_0f7a4 41 = .ok (.iload_n 0, 1) := by decide +kernel
theorem dJ6_bitCount_0f7a4_42 : decode cJ6_bitCount_0f7a4 42 = .ok (.iload_n 0, 1) := by decide +kernel
theorem dJ6_bitCount_0f7a4_43 : decode cJ6_bitCount_0f7a4 43 = .ok (.bipush 16, 2) := by decide +kernel
theorem dJ6_bitCount_0f7a4_45 : decode cJ6_bitCount_0f7a4 45 = .ok (.iushr, 1) := by decide +kernel
theorem dJ6_bitCount_0f7a4_46 : decode cJ6_bitCount_0f7a4 46 = .ok (.iadd, 1) := by decide +kernel
theorem dJ6_bitCount_0f7a4_47 : decode cJ6_bitCount_0f7a4 47 = .ok (.istore_n 0, 1) := by decide +kernel
theorem dJ6_bitCount_0f7a4_48 : decode cJ6_bitCount_0f7a4 48 = .ok (.iload_n 0, 1) := by decide +kernel
theorem dJ6_bitCount_0f7a4_49 : decode cJ6_bitCount_0f7a4 49 = .ok (.bipush 63, 2) := by decide +kernel
theorem dJ6_bitCount_0f7a4_51 : decode cJ6_bitCount_0f7a4 51 = .ok (.iand, 1) := by decide +kernel
theorem dJ6_bitCount_0f7a4_52 : decode cJ6_bitCount_0f7a4 52 = .ok (.ireturn, 1) := by decide +kernel
theorem dL_cell_0 : decode cL_cell 0 = .ok (.iload_n 1, 1) := by decide +kernel
theorem dL_cell_1 : decode cL_cell 1 = .ok (.aload_n 0, 1) := by decide +kernel
theorem dL_cell_2 : decode cL_cell 2 = .ok (.arraylength, 1) := by decide +kernel
theorem dL_cell_3 : decode cL_cell 3 = .ok (.if_icmp .ge 9, 3) := by decide +kernel
theorem dL_cell_6 : decode cL_cell 6 = .ok (.aload_n 0, 1) := by decide +kernel
theorem dL_cell_7 : decode cL_cell 7 = .ok (.iload_n 1, 1) := by decide +kernel
theorem dL_cell_8 : decode cL_cell 8 = .ok (.iaload, 1) := by decide +kernel
theorem dL_cell_9 : decode cL_cell 9 = .ok (.goto 11, 3) := by decide +kernel
theorem dL_cell_12 : decode cL_cell 12 = .ok (.ldc 7, 2) := by decide +kernel
theorem dL_cell_14 : decode cL_cell 14 = .ok (.iload_n 1, 1) := by decide +kernel
theorem dL_cell_15 : decode cL_cell 15 = .ok (.imul, 1) := by decide +kernel
theorem dL_cell_16 : decode cL_cell 16 = .ok (.sipush 977, 3) := by decide +kernel
theorem dL_cell_19 : decode cL_cell 19 = .ok (.iadd, 1) := by decide +kernel
theorem dL_cell_20 : decode cL_cell 20 = .ok (.ireturn, 1) := by decide +kernel
theorem dL_low_0 : decode cL_low 0 = .ok (.iload_n 0, 1) := by decide +kernel
theorem dL_low_1 : decode cL_low 1 = .ok (.ldc 8, 2) := by decide +kernel
theorem dL_low_3 : decode cL_low 3 = .ok (.iand, 1) := by decide +kernel
theorem dL_low_4 : decode cL_low 4 = .ok (.iload_n 1, 1) := by decide +kernel
theorem dL_low_5 : decode cL_low 5 = .ok (.irem, 1) := by decide +kernel
theorem dL_low_6 : decode cL_low 6 = .ok (.ireturn, 1) := by decide +kernel
set_option maxRecDepth 20000 in
theorem ggL_change_L_low : GoodIn wsL_change wsL_low := goodIn_r _ [4, 5] (by decide +kernel) (by decide +kernel)
set_option maxRecDepth 20000 in
theorem gL_change_L_low : GoodIn wsL_change (va_wsS RL 9 yL_low wsL_low) := goodIn_app (goodIn_of _ (by decide +kernel)) ggL_change_L_low
set_option maxRecDepth 20000 in
theorem ggL_change_X4_count : GoodIn wsL_change wsX4_count := goodIn_ca (goodIn_r _ [10, 11, 12, 13, 14, 15, 16, 17, 18, 19, 20, 21, 22, 23, 24, 25, 26, 27, 28, 29, 30, 31, 32, 33, 34, 35, 36, 37, 38, 9, 39, 40, 41, 42, 43, 44, 45, 46, 47, 48, 49, 50, 51, 52, 53, 54, 55, 56, 57, 58, 59, 60, 61, 62, 63, 64, 65, 66, 67, 68, 69, 70, 71, 72, 73, 74, 75, 76, 77, 78, 79, 80, 81, 82, 83, 84, 85, 86, 87, 88, 89, 90, 91, 92, 93, 94, 95, 96, 97, 98, 99, 100, 101, 102, 103, 104, 105, 106, 107, 108, 225, 226, 227, 228, 229, 230, 231, 232, 233, 234, 235, 236, 237, 238, 239, 240, 241, 242, 243, 244, 245, 246, 247, 248, 249, 250, 251, 252] (by decide +kernel) (by decide +kernel)) (goodIn_sub (fun _ h => List.mem_cons_of_mem _ (List.mem_append_left _ (List.mem_append_right _ h))) (by decide +kernel))
set_option maxRecDepth 20000 in
theorem gL_change_X4_count : GoodIn wsL_change (wsV RL 15 RX4 yX4_count wsX4_count) := goodIn_app (goodIn_of _ (by decide +kernel)) ggL_change_X4_count
set_option maxRecDepth 20000 in
theorem ggL_change_X4_pieceOf : GoodIn wsL_change wsX4_pieceOf := goodIn_ca (goodIn_ca (goodIn_r _ [112, 113, 114, 11, 12, 13, 14, 15, 115, 116, 20, 117, 17, 118, 18, 119, 120, 72, 9, 73, 121, 122, 123, 27, 124, 29, 48, 49, 125, 31, 32, 33, 34, 35, 36, 84, 85, 86, 87, 88, 89, 90, 50, 51, 52, 43, 53, 54, 55, 46, 56, 57, 58, 59, 47, 60, 61, 62, 63, 64, 65, 66, 67, 68, 69, 70, 71, 74, 75, 76, 77, 78, 79, 80, 81, 82, 83, 126, 127, 128, 129, 225, 226, 227, 228, 229, 230, 231, 232, 233, 234, 235, 236, 237, 238, 239, 240, 241, 242, 243, 250, 251, 252, 244, 245, 246, 247, 248, 249] (by decide +kernel) (by decide +kernel)) (goodIn_sub (fun _ h => List.mem_cons_of_mem _ (List.mem_append_right _ h)) (by decide +kernel))) (goodIn_sub (fun _ h => List.mem_cons_of_mem _ (List.mem_append_left _ (List.mem_append_right _ h))) (by decide +kernel))
set_option maxRecDepth 20000 in
theorem gL_change_X4_pieceOf : GoodIn wsL_change (wsV RL 21 RX4 yX4_pieceOf wsX4_pieceOf) := goodIn_app (goodIn_of _ (by decide +kernel)) ggL_change_X4_pieceOf
set_option maxRecDepth 20000 in
theorem ggL_change_X4_cover : GoodIn wsL_change wsX4_cover := goodIn_ca (goodIn_ca (goodIn_r _ [133, 113, 114, 11, 12, 13, 14, 120, 72, 9, 73, 134, 135, 136, 137, 23, 138, 139, 140, 141, 142, 143, 144, 145, 146, 62, 63, 27, 64, 65, 66, 29, 67, 147, 148, 149, 150, 151, 152, 153, 154, 155, 156, 157, 158, 159, 160, 225, 226, 227, 228, 229, 230, 231, 232, 233, 234, 235, 236, 237, 238, 239, 240, 241, 242, 243] (by decide +kernel) (by decide +kernel)) (goodIn_sub (fun _ h => List.mem_cons_of_mem _ (List.mem_append_right _ h)) (by decide +kernel))) (goodIn_sub (fun _ h => List.mem_cons_of_mem _ (List.mem_append_left _ (List.mem_append_right _ h))) (by decide +kernel))
set_option maxRecDepth 20000 in
theorem gL_change_X4_cover : GoodIn wsL_change (wsV RL 24 RX4 yX4_cover wsX4_cover) := goodIn_app (goodIn_of _ (by decide +kernel)) ggL_change_X4_cover
set_option maxRecDepth 20000 in
theorem ggL_change_X4_isJoined : GoodIn wsL_change wsX4_isJoined := goodIn_ca (goodIn_r _ [164, 113, 114, 13, 116, 120, 72, 9, 73, 129, 48, 49, 225, 226, 227, 228, 229, 230, 231, 232, 233, 234, 235, 236, 237, 238, 239, 240, 241, 242, 243] (by decide +kernel) (by decide +kernel)) (goodIn_sub (fun _ h => List.mem_cons_of_mem _ (List.mem_append_right _ h)) (by decide +kernel))
set_option maxRecDepth 20000 in
theorem gL_change_X4_isJoined : GoodIn wsL_change (wsV RL 27 RX4 yX4_isJoined wsX4_isJoined) := goodIn_app (goodIn_of _ (by decide +kernel)) ggL_change_X4_isJoined
set_option maxRecDepth 20000 in
theorem ggL_change_X4_join : GoodIn wsL_change wsX4_join := goodIn_ca (goodIn_ca (goodIn_r _ [168, 113, 114, 11, 12, 13, 116, 120, 72, 9, 73, 134, 135, 136, 137, 23, 138, 139, 140, 141, 142, 143, 144, 145, 146, 62, 63, 27, 64, 65, 66, 29, 67, 147, 148, 149, 150, 151, 152, 153, 154, 155, 156, 157, 158, 159, 160, 129, 48, 49, 225, 226, 227, 228, 229, 230, 231, 232, 233, 234, 235, 236, 237, 238, 239, 240, 241, 242, 243] (by decide +kernel) (by decide +kernel)) (goodIn_sub (fun _ h => List.mem_cons_of_mem _ (List.mem_append_right _ h)) (by decide +kernel))) (goodIn_sub (fun _ h => List.mem_cons_of_mem _ (List.mem_append_left _ (List.mem_append_right _ h))) (by decide +kernel))
set_option maxRecDepth 20000 in
theorem gL_change_X4_join : GoodIn wsL_change (wsV RL 30 RX4 yX4_join wsX4_join) := goodIn_app (goodIn_of _ (by decide +kernel)) ggL_change_X4_join
set_option maxRecDepth 20000 in
theorem ggL_change_X4_mark : GoodIn wsL_change wsX4_mark := goodIn_ca (goodIn_ca (goodIn_r _ [172, 113, 114, 11, 12, 13, 115, 120, 72, 9, 73, 134, 135, 136, 137, 23, 138, 139, 140, 141, 142, 143, 144, 145, 146, 62, 63, 27, 64, 65, 66, 29, 67, 147, 148, 149, 150, 151, 152, 153, 154, 155, 156, 157, 158, 159, 160, 225, 226, 227, 228, 229, 230, 231, 232, 233, 234, 235, 236, 237, 238, 239, 240, 241, 242, 243] (by decide +kernel) (by decide +kernel)) (goodIn_sub (fun _ h => List.mem_cons_of_mem _ (List.mem_append_right _ h)) (by decide +kernel))) (goodIn_sub (fun _ h => List.mem_cons_of_mem _ (List.mem_append_left _ (List.mem_append_right _ h))) (by decide +kernel))
set_option maxRecDepth 20000 in
theorem gL_change_X4_mark : GoodIn wsL_change (wsV RL 33 RX4 yX4_mark wsX4_mark) := goodIn_app (goodIn_of _ (by decide +kernel)) ggL_change_X4_mark
set_option maxRecDepth 20000 in
theorem ggL_change_X4_bar : GoodIn wsL_change wsX4_bar := goodIn_ca (goodIn_ca (goodIn_r _ [176, 113, 114, 11, 12, 13, 119, 120, 72, 9, 73, 134, 135, 136, 137, 23, 138, 139, 140, 141, 142, 143, 144, 145, 146, 62, 63, 27, 64, 65, 66, 29, 67, 147, 148, 149, 150, 151, 152, 153, 154, 155, 156, 157, 158, 159, 160, 129, 48, 49, 225, 226, 227, 228, 229, 230, 231, 232, 233, 234, 235, 236, 237, 238, 239, 240, 241, 242, 243] (by decide +kernel) (by decide +kernel)) (goodIn_sub (fun _ h => List.mem_cons_of_mem _ (List.mem_append_right _ h)) (by decide +kernel))) (goodIn_sub (fun _ h => List.mem_cons_of_mem _ (List.mem_append_left _ (List.mem_append_right _ h))) (by decide +kernel))
set_option maxRecDepth 20000 in
theorem gL_change_X4_bar : GoodIn wsL_change (wsV RL 36 RX4 yX4_bar wsX4_bar) := goodIn_app (goodIn_of _ (by decide +kernel)) ggL_change_X4_bar
set_option maxRecDepth 20000 in
theorem ggL_change_X4_heaviest : GoodIn wsL_change wsX4_heaviest := goodIn_ca (goodIn_r _ [180, 11, 12, 17, 13, 50, 51, 52, 43, 53, 54, 55, 46, 56, 57, 58, 59, 47, 60, 61, 62, 63, 27, 64, 65, 66, 29, 67, 68, 69, 70, 71, 72, 9, 73, 48, 49, 74, 75, 76, 77, 78, 79, 80, 81, 82, 83, 181, 182, 183, 184, 19, 185, 186, 187, 188, 189, 151, 225, 226, 227, 228, 229, 230, 231, 232, 233, 244, 245, 246, 247, 248, 249, 234, 235, 236, 237, 238, 239, 240, 241, 242, 243] (by decide +kernel) (by decide +kernel)) (goodIn_sub (fun _ h => List.mem_cons_of_mem _ (List.mem_append_left _ (List.mem_append_right _ h))) (by decide +kernel))
set_option maxRecDepth 20000 in
theorem gL_change_X4_heaviest : GoodIn wsL_change (wsV RL 39 RX4 yX4_heaviest wsX4_heaviest) := goodIn_app (goodIn_of _ (by decide +kernel)) ggL_change_X4_heaviest
set_option maxRecDepth 20000 in
theorem ggL_change_X4_step : GoodIn wsL_change wsX4_step := goodIn_r _ [193, 17, 13, 134, 135, 136, 9, 137, 23, 138, 139, 140, 141, 142, 143, 144, 145, 146, 62, 63, 27, 64, 65, 66, 29, 67, 147, 148, 149, 150, 151, 152, 153, 154, 155, 156, 50, 51, 52, 43, 53, 54, 55, 46, 56, 57, 58, 59, 47, 60, 61, 68, 69, 70, 71, 72, 73, 48, 49, 74, 75, 76, 77, 78, 79, 80, 81, 82, 83, 194, 195, 196, 197, 16, 22, 181, 182, 183, 184, 19, 185, 186, 187, 188, 189, 198, 199, 200, 201, 225, 226, 227, 228, 229, 230, 231, 232, 233, 234, 235, 236, 237, 238, 239, 240, 241, 242, 243, 244, 245, 246, 247, 248, 249] (by decide +kernel) (by decide +kernel)
set_option maxRecDepth 20000 in
theorem gL_change_X4_step : GoodIn wsL_change (wsV RL 42 RX4 yX4_step wsX4_step) := goodIn_app (goodIn_of _ (by decide +kernel)) ggL_change_X4_step
set_option maxRecDepth 20000 in
theorem ggL_change_X4_noted : GoodIn wsL_change wsX4_noted := goodIn_ca (goodIn_r _ [205, 11, 12, 13, 16, 206, 207, 125, 31, 32, 33, 34, 35, 36, 225, 226, 227, 228, 229, 230, 231, 232, 233, 234, 235, 236, 237, 238, 239, 240, 241, 242, 243] (by decide +kernel) (by decide +kernel)) (goodIn_sub (fun _ h => List.mem_cons_of_mem _ (List.mem_append_left _ (List.mem_append_right _ h))) (by decide +kernel))
set_option maxRecDepth 20000 in
theorem gL_change_X4_noted : GoodIn wsL_change (wsV RL 46 RX4 yX4_noted wsX4_noted) := goodIn_app (goodIn_of _ (by decide +kernel)) ggL_change_X4_noted
set_option maxRecDepth 20000 in
theorem ggL_change_X4_ifSplit : GoodIn wsL_change wsX4_ifSplit := goodIn_r _ [211, 13, 212, 17, 15, 143, 144, 9, 145, 146, 62, 63, 27, 64, 65, 66, 29, 67, 147, 148, 149, 150, 151, 152, 153, 154, 155, 156, 50, 51, 52, 43, 53, 54, 55, 46, 56, 57, 58, 59, 47, 60, 61, 68, 69, 70, 71, 72, 73, 48, 49, 74, 75, 76, 77, 78, 79, 80, 81, 82, 83, 213, 214, 215, 216, 194, 195, 196, 197, 16, 22, 181, 182, 183, 184, 19, 185, 186, 187, 188, 189, 198, 199, 200, 201, 37, 38, 39, 225, 226, 227, 228, 229, 230, 231, 232, 233, 234, 235, 236, 237, 238, 239, 240, 241, 242, 243, 244, 245, 246, 247, 248, 249] (by decide +kernel) (by decide +kernel)
set_option maxRecDepth 20000 in
theorem gL_change_X4_ifSplit : GoodIn wsL_change (wsV RL 49 RX4 yX4_ifSplit wsX4_ifSplit) := goodIn_app (goodIn_of _ (by decide +kernel)) ggL_change_X4_ifSplit
set_option maxRecDepth 20000 in
theorem ggL_change_X4_split : GoodIn wsL_change wsX4_split := goodIn_r _ [220, 17, 13, 134, 135, 136, 9, 137, 23, 138, 139, 140, 141, 142, 143, 144, 145, 146, 62, 63, 27, 64, 65, 66, 29, 67, 147, 148, 149, 150, 151, 152, 153, 154, 155, 156, 50, 51, 52, 43, 53, 54, 55, 46, 56, 57, 58, 59, 47, 60, 61, 68, 69, 70, 71, 72, 73, 48, 49, 74, 75, 76, 77, 78, 79, 80, 81, 82, 83, 213, 214, 215, 216, 194, 195, 196, 197, 16, 22, 181, 182, 183, 184, 19, 185, 186, 187, 188, 189, 198, 199, 200, 201, 225, 226, 227, 228, 229, 230, 231, 232, 233, 234, 235, 236, 237, 238, 239, 240, 241, 242, 243, 244, 245, 246, 247, 248, 249] (by decide +kernel) (by decide +kernel)
set_option maxRecDepth 20000 in
theorem gL_change_X4_split : GoodIn wsL_change (wsV RL 52 RX4 yX4_split wsX4_split) := goodIn_app (goodIn_of _ (by decide +kernel)) ggL_change_X4_split
set_option maxRecDepth 20000 in
theorem ggL_change_X4_begin : GoodIn wsL_change wsX4_begin := goodIn_r _ [224, 13, 16, 134, 135, 136, 9, 137, 23, 138, 139, 140, 141, 142, 143, 144, 145, 146, 62, 63, 27, 64, 65, 66, 29, 67, 147, 148, 149, 150, 151, 152, 153, 154, 155, 156, 157, 158, 159, 160, 225, 226, 227, 228, 229, 230, 231, 232, 233, 234, 235, 236, 237, 238, 239, 240, 241, 242, 243] (by decide +kernel) (by decide +kernel)
set_option maxRecDepth 20000 in
theorem gL_change_X4_begin : GoodIn wsL_change (wsV RL 55 RX4 yX4_begin wsX4_begin) := goodIn_app (goodIn_of _ (by decide +kernel)) ggL_change_X4_begin
theorem dL_change_0 : decode cL_change 0 = .ok (.iload_n 2, 1) := by decide +kernel
theorem dL_change_1 : decode cL_change 1 = .ok (.bipush 9, 2) := by decide +kernel
theorem dL_change_3 : decode cL_change 3 = .ok (.invokestatic 9, 3) := by decide +kernel
theorem dL_change_6 : decode cL_change 6 = .ok (.istore_n 3, 1) := by decide +kernel
theorem dL_change_7 : decode cL_change 7 = .ok (.iload_n 2, 1) := by decide +kernel
theorem dL_change_8 : decode cL_change 8 = .ok (.iconst 4, 1) := by decide +kernel
theorem dL_change_9 : decode cL_change 9 = .ok (.ishr, 1) := by decide +kernel
theorem dL_change_10 : decode cL_change 10 = .ok (.bipush 9, 2) := by decide +kernel
theorem dL_change_12 : decode cL_change 12 = .ok (.invokestatic 9, 3) := by decide +kernel
theorem dL_change_15 : decode cL_change 15 = .ok (.istore 4, 2) := by decide +kernel
theorem dL_change_17 : decode cL_change 17 = .ok (.iconst 0, 1) := by decide +kernel
theorem dL_change_18 : decode cL_change 18 = .ok (.istore 5, 2) := by decide +kernel
theorem dL_change_20 : decode cL_change 20 = .ok (.aload_n 0, 1) := by decide +kernel
theorem dL_change_21 : decode cL_change 21 = .ok (.bipush 10, 2) := by decide +kernel
theorem dL_change_23 : decode cL_change 23 = .ok (.invokevirtual 15, 3) := by decide +kernel
theorem dL_change_26 : decode cL_change 26 = .ok (.istore 6, 2) := by decide +kernel
theorem dL_change_28 : decode cL_change 28 = .ok (.aload_n 0, 1) := by decide +kernel
theorem dL_change_29 : decode cL_change 29 = .ok (.iconst 3, 1) := by decide +kernel
theorem dL_change_30 : decode cL_change 30 = .ok (.invokevirtual 15, 3) := by decide +kernel
theorem dL_change_33 : decode cL_change 33 = .ok (.istore 7, 2) := by decide +kernel
theorem dL_change_35 : decode cL_change 35 = .ok (.iload_n 3, 1) := by decide +kernel
theorem dL_change_36 : decode cL_change 36 = .ok (.iload 4, 2) := by decide +kernel
theorem dL_change_38 : decode cL_change 38 = .ok (.if_icmp .ne 7, 3) := by decide +kernel
theorem dL_change_41 : decode cL_change 41 = .ok (.iconst 1, 1) := by decide +kernel
theorem dL_change_42 : decode cL_change 42 = .ok (.goto 4, 3) := by decide +kernel
theorem dL_change_45 : decode cL_change 45 = .ok (.iconst 0, 1) := by decide +kernel
theorem dL_change_46 : decode cL_change 46 = .ok (.istore 8, 2) := by decide +kernel
theorem dL_change_48 : decode cL_change 48 = .ok (.iload_n 3, 1) := by decide +kernel
theorem dL_change_49 : decode cL_change 49 = .ok (.iload 4, 2) := by decide +kernel
theorem dL_change_51 : decode cL_change 51 = .ok (.if_icmp .ge 7, 3) := by decide +kernel
theorem dL_change_54 : decode cL_change 54 = .ok (.iload_n 3, 1) := by decide +kernel
theorem dL_change_55 : decode cL_change 55 = .ok (.goto 5, 3) := by decide +kernel
theorem dL_change_58 : decode cL_change 58 = .ok (.iload 4, 2) := by decide +kernel
theorem dL_change_60 : decode cL_change 60 = .ok (.istore 9, 2) := by decide +kernel
theorem dL_change_62 : decode cL_change 62 = .ok (.iload_n 3, 1) := by decide +kernel
theorem dL_change_63 : decode cL_change 63 = .ok (.iload 4, 2) := by decide +kernel
theorem dL_change_65 : decode cL_change 65 = .ok (.if_icmp .ge 8, 3) := by decide +kernel
theorem dL_change_68 : decode cL_change 68 = .ok (.iload 4, 2) := by decide +kernel
theorem dL_change_70 : decode cL_change 70 = .ok (.goto 4, 3) := by decide +kernel
theorem dL_change_73 : decode cL_change 73 = .ok (.iload_n 3, 1) := by decide +kernel
theorem dL_change_74 : decode cL_change 74 = .ok (.istore 10, 2) := by decide +kernel
theorem dL_change_76 : decode cL_change 76 = .ok (.iload_n 1, 1) := by decide +kernel
theorem dL_change_77 : decode cL_change 77 = .ok (.bipush 16, 2) := by decide +kernel
theorem dL_change_79 : decode cL_change 79 = .ok (.invokestatic 9, 3) := by decide +kernel
theorem dL_change_82 : decode cL_change 82 = .ok (.tableswitch 550 0 14 #[74, 74, 74, 74, 146, 146, 146, 146, 214, 214, 257, 315, 315, 315, 489], 74) := by decide +kernel
theorem dL_change_156 : decode cL_change 156 = .ok (.aload_n 0, 1) := by decide +kernel
theorem dL_change_157 : decode cL_change 157 = .ok (.iload_n 3, 1) := by decide +kernel
theorem dL_change_158 : decode cL_change 158 = .ok (.iconst 0, 1) := by decide +kernel
theorem dL_change_159 : decode cL_change 159 = .ok (.invokevirtual 21, 3) := by decide +kernel
theorem dL_change_162 : decode cL_change 162 = .ok (.istore 5, 2) := by decide +kernel
theorem dL_change_164 : decode cL_change 164 = .ok (.aload_n 0, 1) := by decide +kernel
theorem dL_change_165 : decode cL_change 165 = .ok (.iload_n 3, 1) := by decide +kernel
theorem dL_change_166 : decode cL_change 166 = .ok (.iload_n 2, 1) := by decide +kernel
theorem dL_change_167 : decode cL_change 167 = .ok (.iconst 4, 1) := by decide +kernel
theorem dL_change_168 : decode cL_change 168 = .ok (.ishr, 1) := by decide +kernel
theorem dL_change_169 : decode cL_change 169 = .ok (.sipush 200, 3) := by decide +kernel
theorem dL_change_172 : decode cL_change 172 = .ok (.invokestatic 9, 3) := by decide +kernel
theorem dL_change_175 : decode cL_change 175 = .ok (.invokevirtual 24, 3) := by decide +kernel
theorem dL_change_178 : decode cL_change 178 = .ok (.iload 5, 2) := by decide +kernel
theorem dL_change_180 : decode cL_change 180 = .ok (.if_icmp .ne 46, 3) := by decide +kernel
theorem dL_change_183 : decode cL_change 183 = .ok (.aload_n 0, 1) := by decide +kernel
theorem dL_change_184 : decode cL_change 184 = .ok (.iload_n 3, 1) := by decide +kernel
theorem dL_change_185 : decode cL_change 185 = .ok (.iconst 0, 1) := by decide +kernel
theorem dL_change_186 : decode cL_change 186 = .ok (.invokevirtual 21, 3) := by decide +kernel
theorem dL_change_189 : decode cL_change 189 = .ok (.iload_n 2, 1) := by decide +kernel
theorem dL_change_190 : decode cL_change 190 = .ok (.iconst 4, 1) := by decide +kernel
theorem dL_change_191 : decode cL_change 191 = .ok (.ishr, 1) := by decide +kernel
theorem dL_change_192 : decode cL_change 192 = .ok (.sipush 200, 3) := by decide +kernel
theorem dL_change_195 : decode cL_change 195 = .ok (.invokestatic 9, 3) := by decide +kernel
theorem dL_change_198 : decode cL_change 198 = .ok (.if_icmp .ne 28, 3) := by decide +kernel
theorem dL_change_201 : decode cL_change 201 = .ok (.aload_n 0, 1) := by decide +kernel
theorem dL_change_202 : decode cL_change 202 = .ok (.iconst 3, 1) := by decide +kernel
theorem dL_change_203 : decode cL_change 203 = .ok (.invokevirtual 15, 3) := by decide +kernel
theorem dL_change_206 : decode cL_change 206 = .ok (.ifCond .ne 20, 3) := by decide +kernel
theorem dL_change_209 : decode cL_change 209 = .ok (.aload_n 0, 1) := by decide +kernel
theorem dL_change_210 : decode cL_change 210 = .ok (.iconst 1, 1) := by decide +kernel
theorem dL_change_211 : decode cL_change 211 = .ok (.invokevirtual 15, 3) := by decide +kernel
theorem dL_change_214 : decode cL_change 214 = .ok (.aload_n 0, 1) := by decide +kernel
theorem dL_change_215 : decode cL_change 215 = .ok (.iconst 2, 1) := by decide +kernel
theorem dL_change_216 : decode cL_change 216 = .ok (.invokevirtual 15, 3) := by decide +kernel
theorem dL_change_219 : decode cL_change 219 = .ok (.if_icmp .ne 7, 3) := by decide +kernel
theorem dL_change_222 : decode cL_change 222 = .ok (.iconst 1, 1) := by decide +kernel
theorem dL_change_223 : decode cL_change 223 = .ok (.goto 4, 3) := by decide +kernel
theorem dL_change_226 : decode cL_change 226 = .ok (.iconst 0, 1) := by decide +kernel
theorem dL_change_227 : decode cL_change 227 = .ok (.ireturn, 1) := by decide +kernel
theorem dL_change_228 : decode cL_change 228 = .ok (.iload 8, 2) := by decide +kernel
theorem dL_change_230 : decode cL_change 230 = .ok (.ifCond .eq 7, 3) := by decide +kernel
theorem dL_change_233 : decode cL_change 233 = .ok (.iconst 0, 1) := by decide +kernel
theorem dL_change_234 : decode cL_change 234 = .ok (.goto 11, 3) := by decide +kernel
theorem dL_change_237 : decode cL_change 237 = .ok (.aload_n 0, 1) := by decide +kernel
theorem dL_change_238 : decode cL_change 238 = .ok (.iload 9, 2) := by decide +kernel
theorem dL_change_240 : decode cL_change 240 = .ok (.iload 10, 2) := by decide +kernel
theorem dL_change_242 : decode cL_change 242 = .ok (.invokevirtual 27, 3) := by decide +kernel
theorem dL_change_245 : decode cL_change 245 = .ok (.istore 5, 2) := by decide +kernel
theorem dL_change_247 : decode cL_change 247 = .ok (.iload 8, 2) := by decide +kernel
theorem dL_change_249 : decode cL_change 249 = .ok (.ifCond .ne 41, 3) := by decide +kernel
theorem dL_change_252 : decode cL_change 252 = .ok (.aload_n 0, 1) := by decide +kernel
theorem dL_change_253 : decode cL_change 253 = .ok (.iload 9, 2) := by decide +kernel
theorem dL_change_255 : decode cL_change 255 = .ok (.iload 10, 2) := by decide +kernel
theorem dL_change_257 : decode cL_change 257 = .ok (.invokevirtual 30, 3) := by decide +kernel
theorem dL_change_260 : decode cL_change 260 = .ok (.iconst 1, 1) := by decide +kernel
theorem dL_change_261 : decode cL_change 261 = .ok (.iload 5, 2) := by decide +kernel
theorem dL_change_263 : decode cL_change 263 = .ok (.isub, 1) := by decide +kernel
theorem dL_change_264 : decode cL_change 264 = .ok (.if_icmp .ne 30, 3) := by decide +kernel
theorem dL_change_267 : decode cL_change 267 = .ok (.aload_n 0, 1) := by decide +kernel
theorem dL_change_268 : decode cL_change 268 = .ok (.iload 9, 2) := by decide +kernel
theorem dL_change_270 : decode cL_change 270 = .ok (.iload 10, 2) := by decide +kernel
theorem dL_change_272 : decode cL_change 272 = .ok (.invokevirtual 27, 3) := by decide +kernel
theorem dL_change_275 : decode cL_change 275 = .ok (.iconst 1, 1) := by decide +kernel
theorem dL_change_276 : decode cL_change 276 = .ok (.iload 5, 2) := by decide +kernel
theorem dL_change_278 : decode cL_change 278 = .ok (.isub, 1) := by decide +kernel
theorem dL_change_279 : decode cL_change 279 = .ok (.if_icmp .ne 15, 3) := by decide +kernel
theorem dL_change_282 : decode cL_change 282 = .ok (.aload_n 0, 1) := by decide +kernel
theorem dL_change_283 : decode cL_change 283 = .ok (.iconst 3, 1) := by decide +kernel
theorem dL_change_284 : decode cL_change 284 = .ok (.invokevirtual 15, 3) := by decide +kernel
theorem dL_change_287 : decode cL_change 287 = .ok (.ifCond .ne 7, 3) := by decide +kernel
theorem dL_change_290 : decode cL_change 290 = .ok (.iconst 1, 1) := by decide +kernel
theorem dL_change_291 : decode cL_change 291 = .ok (.goto 4, 3) := by decide +kernel
theorem dL_change_294 : decode cL_change 294 = .ok (.iconst 0, 1) := by decide +kernel
theorem dL_change_295 : decode cL_change 295 = .ok (.ireturn, 1) := by decide +kernel
theorem dL_change_296 : decode cL_change 296 = .ok (.aload_n 0, 1) := by decide +kernel
theorem dL_change_297 : decode cL_change 297 = .ok (.iload_n 3, 1) := by decide +kernel
theorem dL_change_298 : decode cL_change 298 = .ok (.iconst 2, 1) := by decide +kernel
theorem dL_change_299 : decode cL_change 299 = .ok (.invokevirtual 21, 3) := by decide +kernel
theorem dL_change_302 : decode cL_change 302 = .ok (.istore 5, 2) := by decide +kernel
theorem dL_change_304 : decode cL_change 304 = .ok (.aload_n 0, 1) := by decide +kernel
theorem dL_change_305 : decode cL_change 305 = .ok (.iload_n 3, 1) := by decide +kernel
theorem dL_change_306 : decode cL_change 306 = .ok (.iload_n 2, 1) := by decide +kernel
theorem dL_change_307 : decode cL_change 307 = .ok (.iconst 4, 1) := by decide +kernel
theorem dL_change_308 : decode cL_change 308 = .ok (.ishr, 1) := by decide +kernel
theorem dL_change_309 : decode cL_change 309 = .ok (.iconst 3, 1) := by decide +kernel
theorem dL_change_310 : decode cL_change 310 = .ok (.iand, 1) := by decide +kernel
theorem dL_change_311 : decode cL_change 311 = .ok (.invokevirtual 33, 3) := by decide +kernel
theorem dL_change_314 : decode cL_change 314 = .ok (.iload 5, 2) := by decide +kernel
theorem dL_change_316 : decode cL_change 316 = .ok (.if_icmp .ne 21, 3) := by decide +kernel
theorem dL_change_319 : decode cL_change 319 = .ok (.aload_n 0, 1) := by decide +kernel
theorem dL_change_320 : decode cL_change 320 = .ok (.iload_n 3, 1) := by decide +kernel
theorem dL_change_321 : decode cL_change 321 = .ok (.iconst 2, 1) := by decide +kernel
theorem dL_change_322 : decode cL_change 322 = .ok (.invokevirtual 21, 3) := by decide +kernel
theorem dL_change_325 : decode cL_change 325 = .ok (.iload_n 2, 1) := by decide +kernel
theorem dL_change_326 : decode cL_change 326 = .ok (.iconst 4, 1) := by decide +kernel
theorem dL_change_327 : decode cL_change 327 = .ok (.ishr, 1) := by decide +kernel
theorem dL_change_328 : decode cL_change 328 = .ok (.iconst 3, 1) := by decide +kernel
theorem dL_change_329 : decode cL_change 329 = .ok (.iand, 1) := by decide +kernel
theorem dL_change_330 : decode cL_change 330 = .ok (.if_icmp .ne 7, 3) := by decide +kernel
theorem dL_change_333 : decode cL_change 333 = .ok (.iconst 1, 1) := by decide +kernel
theorem dL_change_334 : decode cL_change 334 = .ok (.goto 4, 3) := by decide +kernel
theorem dL_change_337 : decode cL_change 337 = .ok (.iconst 0, 1) := by decide +kernel
theorem dL_change_338 : decode cL_change 338 = .ok (.ireturn, 1) := by decide +kernel
theorem dL_change_339 : decode cL_change 339 = .ok (.aload_n 0, 1) := by decide +kernel
theorem dL_change_340 : decode cL_change 340 = .ok (.iload_n 3, 1) := by decide +kernel
theorem dL_change_341 : decode cL_change 341 = .ok (.bipush 7, 2) := by decide +kernel
theorem dL_change_343 : decode cL_change 343 = .ok (.invokevirtual 21, 3) := by decide +kernel
theorem dL_change_346 : decode cL_change 346 = .ok (.iload 4, 2) := by decide +kernel
theorem dL_change_348 : decode cL_change 348 = .ok (.ishr, 1) := by decide +kernel
theorem dL_change_349 : decode cL_change 349 = .ok (.iconst 1, 1) := by decide +kernel
theorem dL_change_350 : decode cL_change 350 = .ok (.iand, 1) := by decide +kernel
theorem dL_change_351 : decode cL_change 351 = .ok (.istore 5, 2) := by decide +kernel
theorem dL_change_353 : decode cL_change 353 = .ok (.iload 8, 2) := by decide +kernel
theorem dL_change_355 : decode cL_change 355 = .ok (.ifCond .ne 36, 3) := by decide +kernel
theorem dL_change_358 : decode cL_change 358 = .ok (.aload_n 0, 1) := by decide +kernel
theorem dL_change_359 : decode cL_change 359 = .ok (.iload_n 3, 1) := by decide +kernel
theorem dL_change_360 : decode cL_change 360 = .ok (.iload 4, 2) := by decide +kernel
theorem dL_change_362 : decode cL_change 362 = .ok (.invokevirtual 36, 3) := by decide +kernel
theorem dL_change_365 : decode cL_change 365 = .ok (.iconst 1, 1) := by decide +kernel
theorem dL_change_366 : decode cL_change 366 = .ok (.iload 5, 2) := by decide +kernel
theorem dL_change_368 : decode cL_change 368 = .ok (.isub, 1) := by decide +kernel
theorem dL_change_369 : decode cL_change 369 = .ok (.if_icmp .ne 26, 3) := by decide +kernel
theorem dL_change_372 : decode cL_change 372 = .ok (.aload_n 0, 1) := by decide +kernel
theorem dL_change_373 : decode cL_change 373 = .ok (.iload 4, 2) := by decide +kernel
theorem dL_change_375 : decode cL_change 375 = .ok (.bipush 7, 2) := by decide +kernel
theorem dL_change_377 : decode cL_change 377 = .ok (.invokevirtual 21, 3) := by decide +kernel
theorem dL_change_380 : decode cL_change 380 = .ok (.iload_n 3, 1) := by decide +kernel
theorem dL_change_381 : decode cL_change 381 = .ok (.ishr, 1) := by decide +kernel
theorem dL_change_382 : decode cL_change 382 = .ok (.iconst 1, 1) := by decide +kernel
theorem dL_change_383 : decode cL_change 383 = .ok (.iand, 1) := by decide +kernel
theorem dL_change_384 : decode cL_change 384 = .ok (.iconst 1, 1) := by decide +kernel
theorem dL_change_385 : decode cL_change 385 = .ok (.iload 5, 2) := by decide +kernel
theorem dL_change_387 : decode cL_change 387 = .ok (.isub, 1) := by decide +kernel
theorem dL_change_388 : decode cL_change 388 = .ok (.if_icmp .ne 7, 3) := by decide +kernel
theorem dL_change_391 : decode cL_change 391 = .ok (.iconst 1, 1) := by decide +kernel
theorem dL_change_392 : decode cL_change 392 = .ok (.goto 4, 3) := by decide +kernel
theorem dL_change_395 : decode cL_change 395 = .ok (.iconst 0, 1) := by decide +kernel
theorem dL_change_396 : decode cL_change 396 = .ok (.ireturn, 1) := by decide +kernel
theorem dL_change_397 : decode cL_change 397 = .ok (.aload_n 0, 1) := by decide +kernel
theorem dL_change_398 : decode cL_change 398 = .ok (.iconst 2, 1) := by decide +kernel
theorem dL_change_399 : decode cL_change 399 = .ok (.invokevirtual 15, 3) := by decide +kernel
theorem dL_change_402 : decode cL_change 402 = .ok (.istore 11, 2) := by decide +kernel
theorem dL_change_404 : decode cL_change 404 = .ok (.aload_n 0, 1) := by decide +kernel
theorem dL_change_405 : decode cL_change 405 = .ok (.iconst 0, 1) := by decide +kernel
theorem dL_change_406 : decode cL_change 406 = .ok (.invokevirtual 39, 3) := by decide +kernel
theorem dL_change_409 : decode cL_change 409 = .ok (.istore 12, 2) := by decide +kernel
theorem dL_change_411 : decode cL_change 411 = .ok (.aload_n 0, 1) := by decide +kernel
theorem dL_change_412 : decode cL_change 412 = .ok (.iconst 1, 1) := by decide +kernel
theorem dL_change_413 : decode cL_change 413 = .ok (.invokevirtual 39, 3) := by decide +kernel
theorem dL_change_416 : decode cL_change 416 = .ok (.istore 13, 2) := by decide +kernel
theorem dL_change_418 : decode cL_change 418 = .ok (.aload_n 0, 1) := by decide +kernel
theorem dL_change_419 : decode cL_change 419 = .ok (.bipush 9, 2) := by decide +kernel
theorem dL_change_421 : decode cL_change 421 = .ok (.invokevirtual 15, 3) := by decide +kernel
theorem dL_change_424 : decode cL_change 424 = .ok (.istore 5, 2) := by decide +kernel
theorem dL_change_426 : decode cL_change 426 = .ok (.iload 12, 2) := by decide +kernel
theorem dL_change_428 : decode cL_change 428 = .ok (.iconst 1, 1) := by decide +kernel
theorem dL_change_429 : decode cL_change 429 = .ok (.if_icmp .lt 10, 3) := by decide +kernel
theorem dL_change_432 : decode cL_change 432 = .ok (.iload 7, 2) := by decide +kernel
theorem dL_change_434 : decode cL_change 434 = .ok (.bipush 12, 2) := by decide +kernel
theorem dL_change_436 : decode cL_change 436 = .ok (.if_icmp .ne 49, 3) := by decide +kernel
theorem dL_change_439 : decode cL_change 439 = .ok (.aload_n 0, 1) := by decide +kernel
theorem dL_change_440 : decode cL_change 440 = .ok (.invokevirtual 42, 3) := by decide +kernel
theorem dL_change_443 : decode cL_change 443 = .ok (.ifCond .ne 40, 3) := by decide +kernel
theorem dL_change_446 : decode cL_change 446 = .ok (.aload_n 0, 1) := by decide +kernel
theorem dL_change_447 : decode cL_change 447 = .ok (.bipush 10, 2) := by decide +kernel
theorem dL_change_449 : decode cL_change 449 = .ok (.invokevirtual 15, 3) := by decide +kernel
theorem dL_change_452 : decode cL_change 452 = .ok (.iload 6, 2) := by decide +kernel
theorem dL_change_454 : decode cL_change 454 = .ok (.iconst 1, 1) := by decide +kernel
theorem dL_change_455 : decode cL_change 455 = .ok (.iadd, 1) := by decide +kernel
theorem dL_change_456 : decode cL_change 456 = .ok (.if_icmp .ne 27, 3) := by decide +kernel
theorem dL_change_459 : decode cL_change 459 = .ok (.aload_n 0, 1) := by decide +kernel
theorem dL_change_460 : decode cL_change 460 = .ok (.iconst 3, 1) := by decide +kernel
theorem dL_change_461 : decode cL_change 461 = .ok (.invokevirtual 15, 3) := by decide +kernel
theorem dL_change_464 : decode cL_change 464 = .ok (.iload 7, 2) := by decide +kernel
theorem dL_change_466 : decode cL_change 466 = .ok (.if_icmp .ne 17, 3) := by decide +kernel
theorem dL_change_469 : decode cL_change 469 = .ok (.aload_n 0, 1) := by decide +kernel
theorem dL_change_470 : decode cL_change 470 = .ok (.iconst 2, 1) := by decide +kernel
theorem dL_change_471 : decode cL_change 471 = .ok (.invokevirtual 15, 3) := by decide +kernel
theorem dL_change_474 : decode cL_change 474 = .ok (.iload 11, 2) := by decide +kernel
theorem dL_change_476 : decode cL_change 476 = .ok (.if_icmp .ne 7, 3) := by decide +kernel
theorem dL_change_479 : decode cL_change 479 = .ok (.iconst 1, 1) := by decide +kernel
theorem dL_change_480 : decode cL_change 480 = .ok (.goto 4, 3) := by decide +kernel
theorem dL_change_483 : decode cL_change 483 = .ok (.iconst 0, 1) := by decide +kernel
theorem dL_change_484 : decode cL_change 484 = .ok (.ireturn, 1) := by decide +kernel
theorem dL_change_485 : decode cL_change 485 = .ok (.aload_n 0, 1) := by decide +kernel
theorem dL_change_486 : decode cL_change 486 = .ok (.invokevirtual 42, 3) := by decide +kernel
theorem dL_change_489 : decode cL_change 489 = .ok (.iload 12, 2) := by decide +kernel
theorem dL_change_491 : decode cL_change 491 = .ok (.if_icmp .ne 78, 3) := by decide +kernel
theorem dL_change_494 : decode cL_change 494 = .ok (.aload_n 0, 1) := by decide +kernel
theorem dL_change_495 : decode cL_change 495 = .ok (.bipush 9, 2) := by decide +kernel
theorem dL_change_497 : decode cL_change 497 = .ok (.invokevirtual 15, 3) := by decide +kernel
theorem dL_change_500 : decode cL_change 500 = .ok (.iload 5, 2) := by decide +kernel
theorem dL_change_502 : decode cL_change 502 = .ok (.iconst 1, 1) := by decide +kernel
theorem dL_change_503 : decode cL_change 503 = .ok (.iadd, 1) := by decide +kernel
theorem dL_change_504 : decode cL_change 504 = .ok (.if_icmp .ne 65, 3) := by decide +kernel
theorem dL_change_507 : decode cL_change 507 = .ok (.aload_n 0, 1) := by decide +kernel
theorem dL_change_508 : decode cL_change 508 = .ok (.iload 7, 2) := by decide +kernel
theorem dL_change_510 : decode cL_change 510 = .ok (.iconst 0, 1) := by decide +kernel
theorem dL_change_511 : decode cL_change 511 = .ok (.invokevirtual 46, 3) := by decide +kernel
theorem dL_change_514 : decode cL_change 514 = .ok (.iload 12, 2) := by decide +kernel
theorem dL_change_516 : decode cL_change 516 = .ok (.if_icmp .ne 53, 3) := by decide +kernel
theorem dL_change_519 : decode cL_change 519 = .ok (.aload_n 0, 1) := by decide +kernel
theorem dL_change_520 : decode cL_change 520 = .ok (.iload 7, 2) := by decide +kernel
theorem dL_change_522 : decode cL_change 522 = .ok (.iconst 1, 1) := by decide +kernel
theorem dL_change_523 : decode cL_change 523 = .ok (.invokevirtual 46, 3) := by decide +kernel
theorem dL_change_526 : decode cL_change 526 = .ok (.iload 13, 2) := by decide +kernel
theorem dL_change_528 : decode cL_change 528 = .ok (.if_icmp .ne 41, 3) := by decide +kernel
theorem dL_change_531 : decode cL_change 531 = .ok (.aload_n 0, 1) := by decide +kernel
theorem dL_change_532 : decode cL_change 532 = .ok (.iload 7, 2) := by decide +kernel
theorem dL_change_534 : decode cL_change 534 = .ok (.iconst 1, 1) := by decide +kernel
theorem dL_change_535 : decode cL_change 535 = .ok (.iadd, 1) := by decide +kernel
theorem dL_change_536 : decode cL_change 536 = .ok (.iconst 0, 1) := by decide +kernel
theorem dL_change_537 : decode cL_change 537 = .ok (.invokevirtual 46, 3) := by decide +kernel
theorem dL_change_540 : decode cL_change 540 = .ok (.iconst (-1), 1) := by decide +kernel
theorem dL_change_541 : decode cL_change 541 = .ok (.if_icmp .ne 28, 3) := by decide +kernel
theorem dL_change_544 : decode cL_change 544 = .ok (.aload_n 0, 1) := by decide +kernel
theorem dL_change_545 : decode cL_change 545 = .ok (.iconst 2, 1) := by decide +kernel
theorem dL_change_546 : decode cL_change 546 = .ok (.invokevirtual 15, 3) := by decide +kernel
theorem dL_change_549 : decode cL_change 549 = .ok (.iload 11, 2) := by decide +kernel
theorem dL_change_551 : decode cL_change 551 = .ok (.iload 12, 2) := by decide +kernel
theorem dL_change_553 : decode cL_change 553 = .ok (.aload_n 0, 1) := by decide +kernel
theorem dL_change_554 : decode cL_change 554 = .ok (.iload 7, 2) := by decide +kernel
theorem dL_change_556 : decode cL_change 556 = .ok (.iconst 2, 1) := by decide +kernel
theorem dL_change_557 : decode cL_change 557 = .ok (.invokevirtual 46, 3) := by decide +kernel
theorem dL_change_560 : decode cL_change 560 = .ok (.imul, 1) := by decide +kernel
theorem dL_change_561 : decode cL_change 561 = .ok (.isub, 1) := by decide +kernel
theorem dL_change_562 : decode cL_change 562 = .ok (.if_icmp .ne 7, 3) := by decide +kernel
theorem dL_change_565 : decode cL_change 565 = .ok (.iconst 1, 1) := by decide +kernel
theorem dL_change_566 : decode cL_change 566 = .ok (.goto 4, 3) := by decide +kernel
theorem dL_change_569 : decode cL_change 569 = .ok (.iconst 0, 1) := by decide +kernel
theorem dL_change_570 : decode cL_change 570 = .ok (.ireturn, 1) := by decide +kernel
theorem dL_change_571 : decode cL_change 571 = .ok (.aload_n 0, 1) := by decide +kernel
theorem dL_change_572 : decode cL_change 572 = .ok (.invokevirtual 49, 3) := by decide +kernel
theorem dL_change_575 : decode cL_change 575 = .ok (.istore 14, 2) := by decide +kernel
theorem dL_change_577 : decode cL_change 577 = .ok (.aload_n 0, 1) := by decide +kernel
theorem dL_change_578 : decode cL_change 578 = .ok (.invokevirtual 52, 3) := by decide +kernel
theorem dL_change_581 : decode cL_change 581 = .ok (.istore 15, 2) := by decide +kernel
theorem dL_change_583 : decode cL_change 583 = .ok (.iload 15, 2) := by decide +kernel
theorem dL_change_585 : decode cL_change 585 = .ok (.aload_n 0, 1) := by decide +kernel
theorem dL_change_586 : decode cL_change 586 = .ok (.iconst 3, 1) := by decide +kernel
theorem dL_change_587 : decode cL_change 587 = .ok (.invokevirtual 15, 3) := by decide +kernel
theorem dL_change_590 : decode cL_change 590 = .ok (.iload 7, 2) := by decide +kernel
theorem dL_change_592 : decode cL_change 592 = .ok (.isub, 1) := by decide +kernel
theorem dL_change_593 : decode cL_change 593 = .ok (.if_icmp .ne 37, 3) := by decide +kernel
theorem dL_change_596 : decode cL_change 596 = .ok (.aload_n 0, 1) := by decide +kernel
theorem dL_change_597 : decode cL_change 597 = .ok (.iconst 2, 1) := by decide +kernel
theorem dL_change_598 : decode cL_change 598 = .ok (.invokevirtual 15, 3) := by decide +kernel
theorem dL_change_601 : decode cL_change 601 = .ok (.iload 14, 2) := by decide +kernel
theorem dL_change_603 : decode cL_change 603 = .ok (.if_icmp .ne 27, 3) := by decide +kernel
theorem dL_change_606 : decode cL_change 606 = .ok (.aload_n 0, 1) := by decide +kernel
theorem dL_change_607 : decode cL_change 607 = .ok (.bipush 10, 2) := by decide +kernel
theorem dL_change_609 : decode cL_change 609 = .ok (.invokevirtual 15, 3) := by decide +kernel
theorem dL_change_612 : decode cL_change 612 = .ok (.iload 6, 2) := by decide +kernel
theorem dL_change_614 : decode cL_change 614 = .ok (.iconst 1, 1) := by decide +kernel
theorem dL_change_615 : decode cL_change 615 = .ok (.iadd, 1) := by decide +kernel
theorem dL_change_616 : decode cL_change 616 = .ok (.if_icmp .ne 14, 3) := by decide +kernel
theorem dL_change_619 : decode cL_change 619 = .ok (.aload_n 0, 1) := by decide +kernel
theorem dL_change_620 : decode cL_change 620 = .ok (.invokevirtual 42, 3) := by decide +kernel
theorem dL_change_623 : decode cL_change 623 = .ok (.ifCond .ne 7, 3) := by decide +kernel
theorem dL_change_626 : decode cL_change 626 = .ok (.iconst 1, 1) := by decide +kernel
theorem dL_change_627 : decode cL_change 627 = .ok (.goto 4, 3) := by decide +kernel
theorem dL_change_630 : decode cL_change 630 = .ok (.iconst 0, 1) := by decide +kernel
theorem dL_change_631 : decode cL_change 631 = .ok (.ireturn, 1) := by decide +kernel
theorem dL_change_632 : decode cL_change 632 = .ok (.aload_n 0, 1) := by decide +kernel
theorem dL_change_633 : decode cL_change 633 = .ok (.invokevirtual 55, 3) := by decide +kernel
theorem dL_change_636 : decode cL_change 636 = .ok (.iload 7, 2) := by decide +kernel
theorem dL_change_638 : decode cL_change 638 = .ok (.if_icmp .ne 28, 3) := by decide +kernel
theorem dL_change_641 : decode cL_change 641 = .ok (.aload_n 0, 1) := by decide +kernel
theorem dL_change_642 : decode cL_change 642 = .ok (.iconst 3, 1) := by decide +kernel
theorem dL_change_643 : decode cL_change 643 = .ok (.invokevirtual 15, 3) := by decide +kernel
theorem dL_change_646 : decode cL_change 646 = .ok (.ifCond .ne 20, 3) := by decide +kernel
theorem dL_change_649 : decode cL_change 649 = .ok (.aload_n 0, 1) := by decide +kernel
theorem dL_change_650 : decode cL_change 650 = .ok (.iconst 1, 1) := by decide +kernel
theorem dL_change_651 : decode cL_change 651 = .ok (.invokevirtual 15, 3) := by decide +kernel
theorem dL_change_654 : decode cL_change 654 = .ok (.aload_n 0, 1) := by decide +kernel
theorem dL_change_655 : decode cL_change 655 = .ok (.iconst 2, 1) := by decide +kernel
theorem dL_change_656 : decode cL_change 656 = .ok (.invokevirtual 15, 3) := by decide +kernel
theorem dL_change_659 : decode cL_change 659 = .ok (.if_icmp .ne 7, 3) := by decide +kernel
theorem dL_change_662 : decode cL_change 662 = .ok (.iconst 1, 1) := by decide +kernel
theorem dL_change_663 : decode cL_change 663 = .ok (.goto 4, 3) := by decide +kernel
theorem dL_change_666 : decode cL_change 666 = .ok (.iconst 0, 1) := by decide +kernel
theorem dL_change_667 : decode cL_change 667 = .ok (.ireturn, 1) := by decide +kernel
theorem dL_bits_0 : decode cL_bits 0 = .ok (.iconst 0, 1) := by decide +kernel
theorem dL_bits_1 : decode cL_bits 1 = .ok (.istore_n 1, 1) := by decide +kernel
theorem dL_bits_2 : decode cL_bits 2 = .ok (.iconst 0, 1) := by decide +kernel
theorem dL_bits_3 : decode cL_bits 3 = .ok (.istore_n 2, 1) := by decide +kernel
theorem dL_bits_4 : decode cL_bits 4 = .ok (.iload_n 2, 1) := by decide +kernel
theorem dL_bits_5 : decode cL_bits 5 = .ok (.bipush 9, 2) := by decide +kernel
theorem dL_bits_7 : decode cL_bits 7 = .ok (.if_icmp .ge 17, 3) := by decide +kernel
theorem dL_bits_10 : decode cL_bits 10 = .ok (.iload_n 1, 1) := by decide +kernel
theorem dL_bits_11 : decode cL_bits 11 = .ok (.iload_n 0, 1) := by decide +kernel
theorem dL_bits_12 : decode cL_bits 12 = .ok (.iload_n 2, 1) := by decide +kernel
theorem dL_bits_13 : decode cL_bits 13 = .ok (.ishr, 1) := by decide +kernel
theorem dL_bits_14 : decode cL_bits 14 = .ok (.iconst 1, 1) := by decide +kernel
theorem dL_bits_15 : decode cL_bits 15 = .ok (.iand, 1) := by decide +kernel
theorem dL_bits_16 : decode cL_bits 16 = .ok (.iadd, 1) := by decide +kernel
theorem dL_bits_17 : decode cL_bits 17 = .ok (.istore_n 1, 1) := by decide +kernel
theorem dL_bits_18 : decode cL_bits 18 = .ok (.iinc 2 1, 3) := by decide +kernel
theorem dL_bits_21 : decode cL_bits 21 = .ok (.goto (-17), 3) := by decide +kernel
theorem dL_bits_24 : decode cL_bits 24 = .ok (.iload_n 1, 1) := by decide +kernel
theorem dL_bits_25 : decode cL_bits 25 = .ok (.ireturn, 1) := by decide +kernel
theorem dL_way_0 : decode cL_way 0 = .ok (.iconst (-1), 1) := by decide +kernel
theorem dL_way_1 : decode cL_way 1 = .ok (.istore 4, 2) := by decide +kernel
theorem dL_way_3 : decode cL_way 3 = .ok (.iconst 0, 1) := by decide +kernel
theorem dL_way_4 : decode cL_way 4 = .ok (.istore 5, 2) := by decide +kernel
theorem dL_way_6 : decode cL_way 6 = .ok (.iconst 0, 1) := by decide +kernel
theorem dL_way_7 : decode cL_way 7 = .ok (.istore 6, 2) := by decide +kernel
theorem dL_way_9 : decode cL_way 9 = .ok (.iload 6, 2) := by decide +kernel
theorem dL_way_11 : decode cL_way 11 = .ok (.bipush 9, 2) := by decide +kernel
theorem dL_way_13 : decode cL_way 13 = .ok (.if_icmp .ge 75, 3) := by decide +kernel
theorem dL_way_16 : decode cL_way 16 = .ok (.iload_n 3, 1) := by decide +kernel
theorem dL_way_17 : decode cL_way 17 = .ok (.iload 6, 2) := by decide +kernel
theorem dL_way_19 : decode cL_way 19 = .ok (.ishr, 1) := by decide +kernel
theorem dL_way_20 : decode cL_way 20 = .ok (.iconst 1, 1) := by decide +kernel
theorem dL_way_21 : decode cL_way 21 = .ok (.iand, 1) := by decide +kernel
theorem dL_way_22 : decode cL_way 22 = .ok (.iconst 1, 1) := by decide +kernel
theorem dL_way_23 : decode cL_way 23 = .ok (.if_icmp .ne 59, 3) := by decide +kernel
theorem dL_way_26 : decode cL_way 26 = .ok (.iload 4, 2) := by decide +kernel
theorem dL_way_28 : decode cL_way 28 = .ok (.ifCond .ge 15, 3) := by decide +kernel
theorem dL_way_31 : decode cL_way 31 = .ok (.aload_n 1, 1) := by decide +kernel
theorem dL_way_32 : decode cL_way 32 = .ok (.iload 6, 2) := by decide +kernel
theorem dL_way_34 : decode cL_way 34 = .ok (.iaload, 1) := by decide +kernel
theorem dL_way_35 : decode cL_way 35 = .ok (.iconst 2, 1) := by decide +kernel
theorem dL_way_36 : decode cL_way 36 = .ok (.irem, 1) := by decide +kernel
theorem dL_way_37 : decode cL_way 37 = .ok (.ifCond .ne 20, 3) := by decide +kernel
theorem dL_way_40 : decode cL_way 40 = .ok (.goto 15, 3) := by decide +kernel
theorem dL_way_43 : decode cL_way 43 = .ok (.aload_n 0, 1) := by decide +kernel
theorem dL_way_44 : decode cL_way 44 = .ok (.iload 4, 2) := by decide +kernel
theorem dL_way_46 : decode cL_way 46 = .ok (.iaload, 1) := by decide +kernel
theorem dL_way_47 : decode cL_way 47 = .ok (.iload 6, 2) := by decide +kernel
theorem dL_way_49 : decode cL_way 49 = .ok (.ishr, 1) := by decide +kernel
theorem dL_way_50 : decode cL_way 50 = .ok (.iconst 1, 1) := by decide +kernel
theorem dL_way_51 : decode cL_way 51 = .ok (.iand, 1) := by decide +kernel
theorem dL_way_52 : decode cL_way 52 = .ok (.ifCond .ne 5, 3) := by decide +kernel
theorem dL_way_55 : decode cL_way 55 = .ok (.iconst 0, 1) := by decide +kernel
theorem dL_way_56 : decode cL_way 56 = .ok (.ireturn, 1) := by decide +kernel
theorem dL_way_57 : decode cL_way 57 = .ok (.iload 5, 2) := by decide +kernel
theorem dL_way_59 : decode cL_way 59 = .ok (.ifCond .ne 12, 3) := by decide +kernel
theorem dL_way_62 : decode cL_way 62 = .ok (.aload_n 2, 1) := by decide +kernel
theorem dL_way_63 : decode cL_way 63 = .ok (.iload 6, 2) := by decide +kernel
theorem dL_way_65 : decode cL_way 65 = .ok (.iaload, 1) := by decide +kernel
theorem dL_way_66 : decode cL_way 66 = .ok (.iload_n 3, 1) := by decide +kernel
theorem dL_way_67 : decode cL_way 67 = .ok (.iand, 1) := by decide +kernel
theorem dL_way_68 : decode cL_way 68 = .ok (.ifCond .eq 7, 3) := by decide +kernel
theorem dL_way_71 : decode cL_way 71 = .ok (.iconst 1, 1) := by decide +kernel
theorem dL_way_72 : decode cL_way 72 = .ok (.goto 4, 3) := by decide +kernel
theorem dL_way_75 : decode cL_way 75 = .ok (.iconst 0, 1) := by decide +kernel
theorem dL_way_76 : decode cL_way 76 = .ok (.istore 5, 2) := by decide +kernel
theorem dL_way_78 : decode cL_way 78 = .ok (.iload 6, 2) := by decide +kernel
theorem dL_way_80 : decode cL_way 80 = .ok (.istore 4, 2) := by decide +kernel
theorem dL_way_82 : decode cL_way 82 = .ok (.iinc 6 1, 3) := by decide +kernel
theorem dL_way_85 : decode cL_way 85 = .ok (.goto (-76), 3) := by decide +kernel
theorem dL_way_88 : decode cL_way 88 = .ok (.aload_n 1, 1) := by decide +kernel
theorem dL_way_89 : decode cL_way 89 = .ok (.iload 4, 2) := by decide +kernel
theorem dL_way_91 : decode cL_way 91 = .ok (.iaload, 1) := by decide +kernel
theorem dL_way_92 : decode cL_way 92 = .ok (.iconst 2, 1) := by decide +kernel
theorem dL_way_93 : decode cL_way 93 = .ok (.if_icmp .ge 7, 3) := by decide +kernel
theorem dL_way_96 : decode cL_way 96 = .ok (.iconst 0, 1) := by decide +kernel
theorem dL_way_97 : decode cL_way 97 = .ok (.goto 13, 3) := by decide +kernel
theorem dL_way_100 : decode cL_way 100 = .ok (.iload 5, 2) := by decide +kernel
theorem dL_way_102 : decode cL_way 102 = .ok (.ifCond .eq 7, 3) := by decide +kernel
theorem dL_way_105 : decode cL_way 105 = .ok (.iconst 1, 1) := by decide +kernel
theorem dL_way_106 : decode cL_way 106 = .ok (.goto 4, 3) := by decide +kernel
theorem dL_way_109 : decode cL_way 109 = .ok (.iconst 2, 1) := by decide +kernel
theorem dL_way_110 : decode cL_way 110 = .ok (.ireturn, 1) := by decide +kernel
theorem dL_isAhead_0 : decode cL_isAhead 0 = .ok (.iload_n 0, 1) := by decide +kernel
theorem dL_isAhead_1 : decode cL_isAhead 1 = .ok (.iload_n 1, 1) := by decide +kernel
theorem dL_isAhead_2 : decode cL_isAhead 2 = .ok (.ixor, 1) := by decide +kernel
theorem dL_isAhead_3 : decode cL_isAhead 3 = .ok (.istore_n 2, 1) := by decide +kernel
theorem dL_isAhead_4 : decode cL_isAhead 4 = .ok (.iconst 0, 1) := by decide +kernel
theorem dL_isAhead_5 : decode cL_isAhead 5 = .ok (.istore_n 3, 1) := by decide +kernel
theorem dL_isAhead_6 : decode cL_isAhead 6 = .ok (.iload_n 2, 1) := by decide +kernel
theorem dL_isAhead_7 : decode cL_isAhead 7 = .ok (.iload_n 3, 1) := by decide +kernel
theorem dL_isAhead_8 : decode cL_isAhead 8 = .ok (.ishr, 1) := by decide +kernel
theorem dL_isAhead_9 : decode cL_isAhead 9 = .ok (.iconst 1, 1) := by decide +kernel
theorem dL_isAhead_10 : decode cL_isAhead 10 = .ok (.iand, 1) := by decide +kernel
theorem dL_isAhead_11 : decode cL_isAhead 11 = .ok (.ifCond .ne 9, 3) := by decide +kernel
theorem dL_isAhead_14 : decode cL_isAhead 14 = .ok (.iinc 3 1, 3) := by decide +kernel
theorem dL_isAhead_17 : decode cL_isAhead 17 = .ok (.goto (-11), 3) := by decide +kernel
theorem dL_isAhead_20 : decode cL_isAhead 20 = .ok (.iload_n 0, 1) := by decide +kernel
theorem dL_isAhead_21 : decode cL_isAhead 21 = .ok (.iload_n 3, 1) := by decide +kernel
theorem dL_isAhead_22 : decode cL_isAhead 22 = .ok (.ishr, 1) := by decide +kernel
theorem dL_isAhead_23 : decode cL_isAhead 23 = .ok (.iconst 1, 1) := by decide +kernel
theorem dL_isAhead_24 : decode cL_isAhead 24 = .ok (.iand, 1) := by decide +kernel
theorem dL_isAhead_25 : decode cL_isAhead 25 = .ok (.iconst 1, 1) := by decide +kernel
theorem dL_isAhead_26 : decode cL_isAhead 26 = .ok (.if_icmp .ne 17, 3) := by decide +kernel
theorem dL_isAhead_29 : decode cL_isAhead 29 = .ok (.iload_n 1, 1) := by decide +kernel
theorem dL_isAhead_30 : decode cL_isAhead 30 = .ok (.iload_n 3, 1) := by decide +kernel
theorem dL_isAhead_31 : decode cL_isAhead 31 = .ok (.ishr, 1) := by decide +kernel
theorem dL_isAhead_32 : decode cL_isAhead 32 = .ok (.ifCond .eq 7, 3) := by decide +kernel
theorem dL_isAhead_35 : decode cL_isAhead 35 = .ok (.iconst 1, 1) := by decide +kernel
theorem dL_isAhead_36 : decode cL_isAhead 36 = .ok (.goto 18, 3) := by decide +kernel
theorem dL_isAhead_39 : decode cL_isAhead 39 = .ok (.iconst 0, 1) := by decide +kernel
theorem dL_isAhead_40 : decode cL_isAhead 40 = .ok (.goto 14, 3) := by decide +kernel
theorem dL_isAhead_43 : decode cL_isAhead 43 = .ok (.iload_n 0, 1) := by decide +kernel
theorem dL_isAhead_44 : decode cL_isAhead 44 = .ok (.iload_n 3, 1) := by decide +kernel
theorem dL_isAhead_45 : decode cL_isAhead 45 = .ok (.ishr, 1) := by decide +kernel
theorem dL_isAhead_46 : decode cL_isAhead 46 = .ok (.ifCond .ne 7, 3) := by decide +kernel
theorem dL_isAhead_49 : decode cL_isAhead 49 = .ok (.iconst 1, 1) := by decide +kernel
theorem dL_isAhead_50 : decode cL_isAhead 50 = .ok (.goto 4, 3) := by decide +kernel
theorem dL_isAhead_53 : decode cL_isAhead 53 = .ok (.iconst 0, 1) := by decide +kernel
theorem dL_isAhead_54 : decode cL_isAhead 54 = .ok (.ireturn, 1) := by decide +kernel
set_option maxRecDepth 20000 in
theorem ggL_holds_X4_pieceOf : GoodIn wsL_holds wsX4_pieceOf := goodIn_ca (goodIn_ca (goodIn_r _ [6, 7, 8, 9, 10, 11, 12, 13, 14, 15, 16, 17, 18, 19, 20, 21, 22, 23, 5, 24, 25, 26, 27, 28, 29, 30, 31, 32, 33, 34, 35, 36, 37, 38, 39, 40, 41, 42, 43, 44, 45, 46, 47, 48, 49, 50, 51, 52, 53, 54, 55, 56, 57, 58, 59, 60, 61, 62, 63, 64, 65, 66, 67, 68, 69, 70, 71, 72, 73, 74, 75, 76, 77, 78, 79, 80, 81, 82, 83, 84, 85, 202, 203, 204, 205, 206, 207, 208, 209, 210, 211, 212, 213, 214, 215, 216, 217, 218, 219, 220, 221, 222, 223, 224, 225, 226, 227, 228, 229] (by decide +kernel) (by decide +kernel)) (goodIn_sub (fun _ h => List.mem_cons_of_mem _ (List.mem_append_left _ (List.mem_append_right _ h))) (by decide +kernel))) (goodIn_sub (fun _ h => List.mem_cons_of_mem _ (List.mem_append_right _ h)) (by decide +kernel))
set_option maxRecDepth 20000 in
theorem gL_holds_X4_pieceOf : GoodIn wsL_holds (wsV RL 21 RX4 yX4_pieceOf wsX4_pieceOf) := goodIn_app (goodIn_of _ (by decide +kernel)) ggL_holds_X4_pieceOf
set_option maxRecDepth 20000 in
theorem ggL_holds_X4_isJoined : GoodIn wsL_holds wsX4_isJoined := goodIn_ca (goodIn_r _ [89, 7, 8, 11, 15, 22, 23, 5, 24, 85, 31, 32, 202, 203, 204, 205, 206, 207, 208, 209, 210, 211, 212, 213, 214, 215, 216, 217, 218, 219, 220] (by decide +kernel) (by decide +kernel)) (goodIn_sub (fun _ h => List.mem_cons_of_mem _ (List.mem_append_left _ (List.mem_append_right _ h))) (by decide +kernel))
set_option maxRecDepth 20000 in
theorem gL_holds_X4_isJoined : GoodIn wsL_holds (wsV RL 27 RX4 yX4_isJoined wsX4_isJoined) := goodIn_app (goodIn_of _ (by decide +kernel)) ggL_holds_X4_isJoined
set_option maxRecDepth 20000 in
theorem ggL_holds_L_bits : GoodIn wsL_holds wsL_bits := goodIn_r _ [93] (by decide +kernel) (by decide +kernel)
set_option maxRecDepth 20000 in
theorem gL_holds_L_bits : GoodIn wsL_holds (va_wsS RL 58 yL_bits wsL_bits) := goodIn_app (goodIn_of _ (by decide +kernel)) ggL_holds_L_bits
set_option maxRecDepth 20000 in
theorem ggL_holds_L_way : GoodIn wsL_holds wsL_way := goodIn_r _ [96] (by decide +kernel) (by decide +kernel)
set_option maxRecDepth 20000 in
theorem gL_holds_L_way : GoodIn wsL_holds (va_wsS RL 61 yL_way wsL_way) := goodIn_app (goodIn_of _ (by decide +kernel)) ggL_holds_L_way
set_option maxRecDepth 20000 in
theorem ggL_holds_L_isAhead : GoodIn wsL_holds wsL_isAhead := goodIn_r _ [99] (by decide +kernel) (by decide +kernel)
set_option maxRecDepth 20000 in
theorem gL_holds_L_isAhead : GoodIn wsL_holds (va_wsS RL 65 yL_isAhead wsL_isAhead) := goodIn_app (goodIn_of _ (by decide +kernel)) ggL_holds_L_isAhead
set_option maxRecDepth 20000 in
theorem ggL_holds_X4_count : GoodIn wsL_holds wsX4_count := goodIn_ca (goodIn_r _ [103, 9, 10, 11, 12, 13, 104, 18, 20, 105, 16, 106, 107, 108, 109, 110, 111, 28, 112, 30, 113, 34, 35, 36, 37, 38, 39, 114, 115, 5, 116, 117, 118, 119, 50, 120, 121, 54, 59, 31, 32, 47, 48, 49, 51, 52, 53, 55, 56, 57, 58, 60, 61, 62, 63, 64, 65, 66, 67, 68, 69, 70, 71, 23, 24, 72, 73, 74, 75, 76, 77, 78, 79, 80, 81, 40, 41, 42, 43, 44, 45, 46, 122, 123, 124, 125, 126, 127, 128, 129, 130, 131, 132, 133, 134, 135, 136, 137, 138, 139, 202, 203, 204, 205, 206, 207, 208, 209, 210, 211, 212, 213, 214, 215, 216, 217, 218, 219, 220, 224, 225, 226, 227, 228, 229, 221, 222, 223] (by decide +kernel) (by decide +kernel)) (goodIn_sub (fun _ h => List.mem_cons_of_mem _ (List.mem_append_right _ h)) (by decide +kernel))
set_option maxRecDepth 20000 in
theorem gL_holds_X4_count : GoodIn wsL_holds (wsV RL 15 RX4 yX4_count wsX4_count) := goodIn_app (goodIn_of _ (by decide +kernel)) ggL_holds_X4_count
set_option maxRecDepth 20000 in
theorem ggL_holds_X4_mainPiece : GoodIn wsL_holds wsX4_mainPiece := goodIn_r _ [143, 18, 11, 144, 105, 47, 48, 49, 50, 51, 52, 53, 54, 55, 56, 57, 58, 59, 60, 61, 62, 63, 28, 64, 65, 66, 30, 67, 68, 69, 70, 71, 23, 5, 24, 31, 32, 72, 73, 74, 75, 76, 77, 78, 79, 80, 81, 82, 83, 84, 85, 202, 203, 204, 205, 206, 207, 208, 209, 210, 224, 225, 226, 227, 228, 229, 211, 212, 213, 214, 215, 216, 217, 218, 219, 220] (by decide +kernel) (by decide +kernel)
set_option maxRecDepth 20000 in
theorem gL_holds_X4_mainPiece : GoodIn wsL_holds (wsV RL 69 RX4 yX4_mainPiece wsX4_mainPiece) := goodIn_app (goodIn_of _ (by decide +kernel)) ggL_holds_X4_mainPiece
set_option maxRecDepth 20000 in
theorem ggL_holds_X4_heaviest : GoodIn wsL_holds wsX4_heaviest := goodIn_ca (goodIn_r _ [148, 9, 10, 18, 11, 47, 48, 49, 50, 51, 52, 53, 54, 55, 56, 57, 58, 59, 60, 61, 62, 63, 28, 64, 65, 66, 30, 67, 68, 69, 70, 71, 23, 5, 24, 31, 32, 72, 73, 74, 75, 76, 77, 78, 79, 80, 81, 149, 150, 151, 152, 105, 144, 153, 154, 155, 156, 157, 202, 203, 204, 205, 206, 207, 208, 209, 210, 224, 225, 226, 227, 228, 229, 211, 212, 213, 214, 215, 216, 217, 218, 219, 220] (by decide +kernel) (by decide +kernel)) (goodIn_sub (fun _ h => List.mem_cons_of_mem _ (List.mem_append_right _ h)) (by decide +kernel))
set_option maxRecDepth 20000 in
theorem gL_holds_X4_heaviest : GoodIn wsL_holds (wsV RL 39 RX4 yX4_heaviest wsX4_heaviest) := goodIn_app (goodIn_of _ (by decide +kernel)) ggL_holds_X4_heaviest
set_option maxRecDepth 20000 in
theorem ggL_holds_X4_explained : GoodIn wsL_holds wsX4_explained := goodIn_r _ [161, 11, 12, 13, 114, 115, 5, 116, 202, 203, 204, 205, 206, 207, 208, 209, 210, 211, 212, 213, 214, 215, 216, 217, 218, 219, 220] (by decide +kernel) (by decide +kernel)
set_option maxRecDepth 20000 in
theorem gL_holds_X4_explained : GoodIn wsL_holds (wsV RL 72 RX4 yX4_explained wsX4_explained) := goodIn_app (goodIn_of _ (by decide +kernel)) ggL_holds_X4_explained
set_option maxRecDepth 20000 in
theorem ggL_holds_X4_openWay : GoodIn wsL_holds wsX4_openWay := goodIn_ca (goodIn_r _ [165, 9, 10, 18, 11, 105, 144, 47, 48, 49, 50, 51, 52, 53, 54, 55, 56, 57, 58, 59, 60, 61, 62, 63, 28, 64, 65, 66, 30, 67, 68, 69, 70, 71, 23, 5, 24, 31, 32, 72, 73, 74, 75, 76, 77, 78, 79, 80, 81, 202, 203, 204, 205, 206, 207, 208, 209, 210, 224, 225, 226, 227, 228, 229, 211, 212, 213, 214, 215, 216, 217, 218, 219, 220] (by decide +kernel) (by decide +kernel)) (goodIn_sub (fun _ h => List.mem_cons_of_mem _ (List.mem_append_right _ h)) (by decide +kernel))
set_option maxRecDepth 20000 in
theorem gL_holds_X4_openWay : GoodIn wsL_holds (wsV RL 76 RX4 yX4_openWay wsX4_openWay) := goodIn_app (goodIn_of _ (by decide +kernel)) ggL_holds_X4_openWay
set_option maxRecDepth 20000 in
theorem ggL_holds_X4_noted : GoodIn wsL_holds wsX4_noted := goodIn_ca (goodIn_r _ [169, 9, 10, 11, 104, 170, 171, 33, 34, 35, 36, 37, 38, 39, 202, 203, 204, 205, 206, 207, 208, 209, 210, 211, 212, 213, 214, 215, 216, 217, 218, 219, 220] (by decide +kernel) (by decide +kernel)) (goodIn_sub (fun _ h => List.mem_cons_of_mem _ (List.mem_append_right _ h)) (by decide +kernel))
set_option maxRecDepth 20000 in
theorem gL_holds_X4_noted : GoodIn wsL_holds (wsV RL 46 RX4 yX4_noted wsX4_noted) := goodIn_app (goodIn_of _ (by decide +kernel)) ggL_holds_X4_noted
set_option maxRecDepth 20000 in
theorem ggL_holds_X4_ifSplit : GoodIn wsL_holds wsX4_ifSplit := goodIn_r _ [175, 11, 176, 18, 13, 177, 178, 5, 179, 180, 62, 63, 28, 64, 65, 66, 30, 67, 181, 182, 183, 184, 157, 185, 186, 187, 188, 189, 47, 48, 49, 50, 51, 52, 53, 54, 55, 56, 57, 58, 59, 60, 61, 68, 69, 70, 71, 23, 24, 31, 32, 72, 73, 74, 75, 76, 77, 78, 79, 80, 81, 190, 191, 192, 193, 194, 195, 196, 197, 104, 107, 149, 150, 151, 152, 105, 144, 153, 154, 155, 156, 198, 199, 200, 201, 114, 115, 116, 202, 203, 204, 205, 206, 207, 208, 209, 210, 211, 212, 213, 214, 215, 216, 217, 218, 219, 220, 224, 225, 226, 227, 228, 229] (by decide +kernel) (by decide +kernel)
set_option maxRecDepth 20000 in
theorem gL_holds_X4_ifSplit : GoodIn wsL_holds (wsV RL 49 RX4 yX4_ifSplit wsX4_ifSplit) := goodIn_app (goodIn_of _ (by decide +kernel)) ggL_holds_X4_ifSplit
theorem dL_holds_0 : decode cL_holds 0 = .ok (.bipush 9, 2) := by decide +kernel
theorem dL_holds_2 : decode cL_holds 2 = .ok (.newarray .int, 2) := by decide +kernel
theorem dL_holds_4 : decode cL_holds 4 = .ok (.astore_n 1, 1) := by decide +kernel
theorem dL_holds_5 : decode cL_holds 5 = .ok (.bipush 9, 2) := by decide +kernel
theorem dL_holds_7 : decode cL_holds 7 = .ok (.newarray .int, 2) := by decide +kernel
theorem dL_holds_9 : decode cL_holds 9 = .ok (.astore_n 2, 1) := by decide +kernel
theorem dL_holds_10 : decode cL_holds 10 = .ok (.bipush 9, 2) := by decide +kernel
theorem dL_holds_12 : decode cL_holds 12 = .ok (.newarray .int, 2) := by decide +kernel
theorem dL_holds_14 : decode cL_holds 14 = .ok (.astore_n 3, 1) := by decide +kernel
theorem dL_holds_15 : decode cL_holds 15 = .ok (.bipush 9, 2) := by decide +kernel
theorem dL_holds_17 : decode cL_holds 17 = .ok (.newarray .int, 2) := by decide +kernel
theorem dL_holds_19 : decode cL_holds 19 = .ok (.astore 4, 2) := by decide +kernel
theorem dL_holds_21 : decode cL_holds 21 = .ok (.bipush 9, 2) := by decide +kernel
theorem dL_holds_23 : decode cL_holds 23 = .ok (.newarray .int, 2) := by decide +kernel
theorem dL_holds_25 : decode cL_holds 25 = .ok (.astore 5, 2) := by decide +kernel
theorem dL_holds_27 : decode cL_holds 27 = .ok (.bipush 9, 2) := by decide +kernel
theorem dL_holds_29 : decode cL_holds 29 = .ok (.newarray .int, 2) := by decide +kernel
theorem dL_holds_31 : decode cL_holds 31 = .ok (.astore 6, 2) := by decide +kernel
theorem dL_holds_33 : decode cL_holds 33 = .ok (.bipush 9, 2) := by decide +kernel
theorem dL_holds_35 : decode cL_holds 35 = .ok (.newarray .int, 2) := by decide +kernel
theorem dL_holds_37 : decode cL_holds 37 = .ok (.astore 7, 2) := by decide +kernel
theorem dL_holds_39 : decode cL_holds 39 = .ok (.iconst 0, 1) := by decide +kernel
theorem dL_holds_40 : decode cL_holds 40 = .ok (.istore 8, 2) := by decide +kernel
theorem dL_holds_42 : decode cL_holds 42 = .ok (.iconst 0, 1) := by decide +kernel
theorem dL_holds_43 : decode cL_holds 43 = .ok (.istore 9, 2) := by decide +kernel
theorem dL_holds_45 : decode cL_holds 45 = .ok (.iconst 0, 1) := by decide +kernel
theorem dL_holds_46 : decode cL_holds 46 = .ok (.istore 10, 2) := by decide +kernel
theorem dL_holds_48 : decode cL_holds 48 = .ok (.iconst 1, 1) := by decide +kernel
theorem dL_holds_49 : decode cL_holds 49 = .ok (.istore 11, 2) := by decide +kernel
theorem dL_holds_51 : decode cL_holds 51 = .ok (.bipush 8, 2) := by decide +kernel
theorem dL_holds_53 : decode cL_holds 53 = .ok (.istore 12, 2) := by decide +kernel
theorem dL_holds_55 : decode cL_holds 55 = .ok (.iload 12, 2) := by decide +kernel
theorem dL_holds_57 : decode cL_holds 57 = .ok (.ifCond .lt 293, 3) := by decide +kernel
theorem dL_holds_60 : decode cL_holds 60 = .ok (.aload_n 2, 1) := by decide +kernel
theorem dL_holds_61 : decode cL_holds 61 = .ok (.iload 12, 2) := by decide +kernel
theorem dL_holds_63 : decode cL_holds 63 = .ok (.aload_n 0, 1) := by decide +kernel
theorem dL_holds_64 : decode cL_holds 64 = .ok (.iload 12, 2) := by decide +kernel
theorem dL_holds_66 : decode cL_holds 66 = .ok (.iconst 2, 1) := by decide +kernel
theorem dL_holds_67 : decode cL_holds 67 = .ok (.invokevirtual 21, 3) := by decide +kernel
theorem dL_holds_70 : decode cL_holds 70 = .ok (.iastore, 1) := by decide +kernel
theorem dL_holds_71 : decode cL_holds 71 = .ok (.aload_n 3, 1) := by decide +kernel
theorem dL_holds_72 : decode cL_holds 72 = .ok (.iload 12, 2) := by decide +kernel
theorem dL_holds_74 : decode cL_holds 74 = .ok (.aload_n 0, 1) := by decide +kernel
theorem dL_holds_75 : decode cL_holds 75 = .ok (.iload 12, 2) := by decide +kernel
theorem dL_holds_77 : decode cL_holds 77 = .ok (.bipush 7, 2) := by decide +kernel
theorem dL_holds_79 : decode cL_holds 79 = .ok (.invokevirtual 21, 3) := by decide +kernel
theorem dL_holds_82 : decode cL_holds 82 = .ok (.iastore, 1) := by decide +kernel
theorem dL_holds_83 : decode cL_holds 83 = .ok (.aload 4, 2) := by decide +kernel
theorem dL_holds_85 : decode cL_holds 85 = .ok (.iload 12, 2) := by decide +kernel
theorem dL_holds_87 : decode cL_holds 87 = .ok (.aload_n 0, 1) := by decide +kernel
theorem dL_holds_88 : decode cL_holds 88 = .ok (.iload 12, 2) := by decide +kernel
theorem dL_holds_90 : decode cL_holds 90 = .ok (.iconst 1, 1) := by decide +kernel
theorem dL_holds_91 : decode cL_holds 91 = .ok (.invokevirtual 21, 3) := by decide +kernel
theorem dL_holds_94 : decode cL_holds 94 = .ok (.iastore, 1) := by decide +kernel
theorem dL_holds_95 : decode cL_holds 95 = .ok (.iload 9, 2) := by decide +kernel
theorem dL_holds_97 : decode cL_holds 97 = .ok (.aload_n 0, 1) := by decide +kernel
theorem dL_holds_98 : decode cL_holds 98 = .ok (.iload 12, 2) := by decide +kernel
theorem dL_holds_100 : decode cL_holds 100 = .ok (.iconst 0, 1) := by decide +kernel
theorem dL_holds_101 : decode cL_holds 101 = .ok (.invokevirtual 21, 3) := by decide +kernel
theorem dL_holds_104 : decode cL_holds 104 = .ok (.iadd, 1) := by decide +kernel
theorem dL_holds_105 : decode cL_holds 105 = .ok (.istore 9, 2) := by decide +kernel
theorem dL_holds_107 : decode cL_holds 107 = .ok (.iload 10, 2) := by decide +kernel
theorem dL_holds_109 : decode cL_holds 109 = .ok (.aload 4, 2) := by decide +kernel
theorem dL_holds_111 : decode cL_holds 111 = .ok (.iload 12, 2) := by decide +kernel
theorem dL_holds_113 : decode cL_holds 113 = .ok (.iaload, 1) := by decide +kernel
theorem dL_holds_114 : decode cL_holds 114 = .ok (.iadd, 1) := by decide +kernel
theorem dL_holds_115 : decode cL_holds 115 = .ok (.istore 10, 2) := by decide +kernel
theorem dL_holds_117 : decode cL_holds 117 = .ok (.iconst 0, 1) := by decide +kernel
theorem dL_holds_118 : decode cL_holds 118 = .ok (.istore 13, 2) := by decide +kernel
theorem dL_holds_120 : decode cL_holds 120 = .ok (.iconst 0, 1) := by decide +kernel
theorem dL_holds_121 : decode cL_holds 121 = .ok (.istore 14, 2) := by decide +kernel
theorem dL_holds_123 : decode cL_holds 123 = .ok (.iload 14, 2) := by decide +kernel
theorem dL_holds_125 : decode cL_holds 125 = .ok (.bipush 9, 2) := by decide +kernel
theorem dL_holds_127 : decode cL_holds 127 = .ok (.if_icmp .ge 111, 3) := by decide +kernel
theorem dL_holds_130 : decode cL_holds 130 = .ok (.aload_n 1, 1) := by decide +kernel
theorem dL_holds_131 : decode cL_holds 131 = .ok (.iload 12, 2) := by decide +kernel
theorem dL_holds_133 : decode cL_holds 133 = .ok (.dup2, 1) := by decide +kernel
theorem dL_holds_134 : decode cL_holds 134 = .ok (.iaload, 1) := by decide +kernel
theorem dL_holds_135 : decode cL_holds 135 = .ok (.aload_n 0, 1) := by decide +kernel
theorem dL_holds_136 : decode cL_holds 136 = .ok (.iload 12, 2) := by decide +kernel
theorem dL_holds_138 : decode cL_holds 138 = .ok (.iload 14, 2) := by decide +kernel
theorem dL_holds_140 : decode cL_holds 140 = .ok (.invokevirtual 27, 3) := by decide +kernel
theorem dL_holds_143 : decode cL_holds 143 = .ok (.iload 14, 2) := by decide +kernel
theorem dL_holds_145 : decode cL_holds 145 = .ok (.ishl, 1) := by decide +kernel
theorem dL_holds_146 : decode cL_holds 146 = .ok (.ior, 1) := by decide +kernel
theorem dL_holds_147 : decode cL_holds 147 = .ok (.iastore, 1) := by decide +kernel
theorem dL_holds_148 : decode cL_holds 148 = .ok (.iload 13, 2) := by decide +kernel
theorem dL_holds_150 : decode cL_holds 150 = .ok (.aload_n 0, 1) := by decide +kernel
theorem dL_holds_151 : decode cL_holds 151 = .ok (.iload 14, 2) := by decide +kernel
theorem dL_holds_153 : decode cL_holds 153 = .ok (.iload 12, 2) := by decide +kernel
theorem dL_holds_155 : decode cL_holds 155 = .ok (.invokevirtual 27, 3) := by decide +kernel
theorem dL_holds_158 : decode cL_holds 158 = .ok (.iadd, 1) := by decide +kernel
theorem dL_holds_159 : decode cL_holds 159 = .ok (.istore 13, 2) := by decide +kernel
theorem dL_holds_161 : decode cL_holds 161 = .ok (.aload 5, 2) := by decide +kernel
theorem dL_holds_163 : decode cL_holds 163 = .ok (.iload 12, 2) := by decide +kernel
theorem dL_holds_165 : decode cL_holds 165 = .ok (.dup2, 1) := by decide +kernel
theorem dL_holds_166 : decode cL_holds 166 = .ok (.iaload, 1) := by decide +kernel
theorem dL_holds_167 : decode cL_holds 167 = .ok (.iload 14, 2) := by decide +kernel
theorem dL_holds_169 : decode cL_holds 169 = .ok (.iload 12, 2) := by decide +kernel
theorem dL_holds_171 : decode cL_holds 171 = .ok (.if_icmp .le 28, 3) := by decide +kernel
theorem dL_holds_174 : decode cL_holds 174 = .ok (.aload_n 0, 1) := by decide +kernel
theorem dL_holds_175 : decode cL_holds 175 = .ok (.iload 12, 2) := by decide +kernel
theorem dL_holds_177 : decode cL_holds 177 = .ok (.iload 14, 2) := by decide +kernel
theorem dL_holds_179 : decode cL_holds 179 = .ok (.invokevirtual 27, 3) := by decide +kernel
theorem dL_holds_182 : decode cL_holds 182 = .ok (.iconst 1, 1) := by decide +kernel
theorem dL_holds_183 : decode cL_holds 183 = .ok (.if_icmp .ne 16, 3) := by decide +kernel
theorem dL_holds_186 : decode cL_holds 186 = .ok (.iconst 1, 1) := by decide +kernel
theorem dL_holds_187 : decode cL_holds 187 = .ok (.iload 14, 2) := by decide +kernel
theorem dL_holds_189 : decode cL_holds 189 = .ok (.ishl, 1) := by decide +kernel
theorem dL_holds_190 : decode cL_holds 190 = .ok (.aload 5, 2) := by decide +kernel
theorem dL_holds_192 : decode cL_holds 192 = .ok (.iload 14, 2) := by decide +kernel
theorem dL_holds_194 : decode cL_holds 194 = .ok (.iaload, 1) := by decide +kernel
theorem dL_holds_195 : decode cL_holds 195 = .ok (.ior, 1) := by decide +kernel
theorem dL_holds_196 : decode cL_holds 196 = .ok (.goto 4, 3) := by decide +kernel
theorem dL_holds_199 : decode cL_holds 199 = .ok (.iconst 0, 1) := by decide +kernel
theorem dL_holds_200 : decode cL_holds 200 = .ok (.ior, 1) := by decide +kernel
theorem dL_holds_201 : decode cL_holds 201 = .ok (.iastore, 1) := by decide +kernel
theorem dL_holds_202 : decode cL_holds 202 = .ok (.iload 11, 2) := by decide +kernel
theorem dL_holds_204 : decode cL_holds 204 = .ok (.ifCond .eq 25, 3) := by decide +kernel
theorem dL_holds_207 : decode cL_holds 207 = .ok (.iload 14, 2) := by decide +kernel
theorem dL_holds_209 : decode cL_holds 209 = .ok (.iload 12, 2) := by decide +kernel
theorem dL_holds_211 : decode cL_holds 211 = .ok (.if_icmp .gt 14, 3) := by decide +kernel
theorem dL_holds_214 : decode cL_holds 214 = .ok (.aload_n 0, 1) := by decide +kernel
theorem dL_holds_215 : decode cL_holds 215 = .ok (.iload 12, 2) := by decide +kernel
theorem dL_holds_217 : decode cL_holds 217 = .ok (.iload 14, 2) := by decide +kernel
theorem dL_holds_219 : decode cL_holds 219 = .ok (.invokevirtual 27, 3) := by decide +kernel
theorem dL_holds_222 : decode cL_holds 222 = .ok (.ifCond .ne 7, 3) := by decide +kernel
theorem dL_holds_225 : decode cL_holds 225 = .ok (.iconst 1, 1) := by decide +kernel
theorem dL_holds_226 : decode cL_holds 226 = .ok (.goto 4, 3) := by decide +kernel
theorem dL_holds_229 : decode cL_holds 229 = .ok (.iconst 0, 1) := by decide +kernel
theorem dL_holds_230 : decode cL_holds 230 = .ok (.istore 11, 2) := by decide +kernel
theorem dL_holds_232 : decode cL_holds 232 = .ok (.iinc 14 1, 3) := by decide +kernel
theorem dL_holds_235 : decode cL_holds 235 = .ok (.goto (-112), 3) := by decide +kernel
theorem dL_holds_238 : decode cL_holds 238 = .ok (.iload 8, 2) := by decide +kernel
theorem dL_holds_240 : decode cL_holds 240 = .ok (.aload_n 1, 1) := by decide +kernel
theorem dL_holds_241 : decode cL_holds 241 = .ok (.iload 12, 2) := by decide +kernel
theorem dL_holds_243 : decode cL_holds 243 = .ok (.iaload, 1) := by decide +kernel
theorem dL_holds_244 : decode cL_holds 244 = .ok (.invokestatic 58, 3) := by decide +kernel
theorem dL_holds_247 : decode cL_holds 247 = .ok (.iadd, 1) := by decide +kernel
theorem dL_holds_248 : decode cL_holds 248 = .ok (.istore 8, 2) := by decide +kernel
theorem dL_holds_250 : decode cL_holds 250 = .ok (.iload 11, 2) := by decide +kernel
theorem dL_holds_252 : decode cL_holds 252 = .ok (.ifCond .eq 89, 3) := by decide +kernel
theorem dL_holds_255 : decode cL_holds 255 = .ok (.aload_n 0, 1) := by decide +kernel
theorem dL_holds_256 : decode cL_holds 256 = .ok (.iload 12, 2) := by decide +kernel
theorem dL_holds_258 : decode cL_holds 258 = .ok (.iconst 3, 1) := by decide +kernel
theorem dL_holds_259 : decode cL_holds 259 = .ok (.invokevirtual 21, 3) := by decide +kernel
theorem dL_holds_262 : decode cL_holds 262 = .ok (.iload 13, 2) := by decide +kernel
theorem dL_holds_264 : decode cL_holds 264 = .ok (.if_icmp .ne 77, 3) := by decide +kernel
theorem dL_holds_267 : decode cL_holds 267 = .ok (.aload_n 0, 1) := by decide +kernel
theorem dL_holds_268 : decode cL_holds 268 = .ok (.iload 12, 2) := by decide +kernel
theorem dL_holds_270 : decode cL_holds 270 = .ok (.iconst 4, 1) := by decide +kernel
theorem dL_holds_271 : decode cL_holds 271 = .ok (.invokevirtual 21, 3) := by decide +kernel
theorem dL_holds_274 : decode cL_holds 274 = .ok (.aload_n 1, 1) := by decide +kernel
theorem dL_holds_275 : decode cL_holds 275 = .ok (.iload 12, 2) := by decide +kernel
theorem dL_holds_277 : decode cL_holds 277 = .ok (.iaload, 1) := by decide +kernel
theorem dL_holds_278 : decode cL_holds 278 = .ok (.invokestatic 58, 3) := by decide +kernel
theorem dL_holds_281 : decode cL_holds 281 = .ok (.if_icmp .ne 60, 3) := by decide +kernel
theorem dL_holds_284 : decode cL_holds 284 = .ok (.aload_n 0, 1) := by decide +kernel
theorem dL_holds_285 : decode cL_holds 285 = .ok (.iload 12, 2) := by decide +kernel
theorem dL_holds_287 : decode cL_holds 287 = .ok (.iconst 5, 1) := by decide +kernel
theorem dL_holds_288 : decode cL_holds 288 = .ok (.invokevirtual 21, 3) := by decide +kernel
theorem dL_holds_291 : decode cL_holds 291 = .ok (.aload 5, 2) := by decide +kernel
theorem dL_holds_293 : decode cL_holds 293 = .ok (.iload 12, 2) := by decide +kernel
theorem dL_holds_295 : decode cL_holds 295 = .ok (.iaload, 1) := by decide +kernel
theorem dL_holds_296 : decode cL_holds 296 = .ok (.invokestatic 58, 3) := by decide +kernel
theorem dL_holds_299 : decode cL_holds 299 = .ok (.if_icmp .ne 42, 3) := by decide +kernel
theorem dL_holds_302 : decode cL_holds 302 = .ok (.aload 4, 2) := by decide +kernel
theorem dL_holds_304 : decode cL_holds 304 = .ok (.iload 12, 2) := by decide +kernel
theorem dL_holds_306 : decode cL_holds 306 = .ok (.iaload, 1) := by decide +kernel
theorem dL_holds_307 : decode cL_holds 307 = .ok (.ifCond .lt 34, 3) := by decide +kernel
theorem dL_holds_310 : decode cL_holds 310 = .ok (.aload 4, 2) := by decide +kernel
theorem dL_holds_312 : decode cL_holds 312 = .ok (.iload 12, 2) := by decide +kernel
theorem dL_holds_314 : decode cL_holds 314 = .ok (.iaload, 1) := by decide +kernel
theorem dL_holds_315 : decode cL_holds 315 = .ok (.aload_n 0, 1) := by decide +kernel
theorem dL_holds_316 : decode cL_holds 316 = .ok (.iload 12, 2) := by decide +kernel
theorem dL_holds_318 : decode cL_holds 318 = .ok (.iconst 0, 1) := by decide +kernel
theorem dL_holds_319 : decode cL_holds 319 = .ok (.invokevirtual 21, 3) := by decide +kernel
theorem dL_holds_322 : decode cL_holds 322 = .ok (.if_icmp .gt 19, 3) := by decide +kernel
theorem dL_holds_325 : decode cL_holds 325 = .ok (.aload_n 3, 1) := by decide +kernel
theorem dL_holds_326 : decode cL_holds 326 = .ok (.iload 12, 2) := by decide +kernel
theorem dL_holds_328 : decode cL_holds 328 = .ok (.iaload, 1) := by decide +kernel
theorem dL_holds_329 : decode cL_holds 329 = .ok (.iload 12, 2) := by decide +kernel
theorem dL_holds_331 : decode cL_holds 331 = .ok (.ishr, 1) := by decide +kernel
theorem dL_holds_332 : decode cL_holds 332 = .ok (.iconst 1, 1) := by decide +kernel
theorem dL_holds_333 : decode cL_holds 333 = .ok (.iand, 1) := by decide +kernel
theorem dL_holds_334 : decode cL_holds 334 = .ok (.ifCond .ne 7, 3) := by decide +kernel
theorem dL_holds_337 : decode cL_holds 337 = .ok (.iconst 1, 1) := by decide +kernel
theorem dL_holds_338 : decode cL_holds 338 = .ok (.goto 4, 3) := by decide +kernel
theorem dL_holds_341 : decode cL_holds 341 = .ok (.iconst 0, 1) := by decide +kernel
theorem dL_holds_342 : decode cL_holds 342 = .ok (.istore 11, 2) := by decide +kernel
theorem dL_holds_344 : decode cL_holds 344 = .ok (.iinc 12 (-1), 3) := by decide +kernel
theorem dL_holds_347 : decode cL_holds 347 = .ok (.goto (-292), 3) := by decide +kernel
theorem dL_holds_350 : decode cL_holds 350 = .ok (.iconst 0, 1) := by decide +kernel
theorem dL_holds_351 : decode cL_holds 351 = .ok (.istore 12, 2) := by decide +kernel
theorem dL_holds_353 : decode cL_holds 353 = .ok (.iconst 0, 1) := by decide +kernel
theorem dL_holds_354 : decode cL_holds 354 = .ok (.istore 13, 2) := by decide +kernel
theorem dL_holds_356 : decode cL_holds 356 = .ok (.iconst 0, 1) := by decide +kernel
theorem dL_holds_357 : decode cL_holds 357 = .ok (.istore 14, 2) := by decide +kernel
theorem dL_holds_359 : decode cL_holds 359 = .ok (.iconst 0, 1) := by decide +kernel
theorem dL_holds_360 : decode cL_holds 360 = .ok (.istore 15, 2) := by decide +kernel
theorem dL_holds_362 : decode cL_holds 362 = .ok (.iconst 0, 1) := by decide +kernel
theorem dL_holds_363 : decode cL_holds 363 = .ok (.istore 16, 2) := by decide +kernel
theorem dL_holds_365 : decode cL_holds 365 = .ok (.iconst 1, 1) := by decide +kernel
theorem dL_holds_366 : decode cL_holds 366 = .ok (.istore 17, 2) := by decide +kernel
theorem dL_holds_368 : decode cL_holds 368 = .ok (.iload 17, 2) := by decide +kernel
theorem dL_holds_370 : decode cL_holds 370 = .ok (.sipush 512, 3) := by decide +kernel
theorem dL_holds_373 : decode cL_holds 373 = .ok (.if_icmp .ge 237, 3) := by decide +kernel
theorem dL_holds_376 : decode cL_holds 376 = .ok (.aload_n 1, 1) := by decide +kernel
theorem dL_holds_377 : decode cL_holds 377 = .ok (.aload_n 2, 1) := by decide +kernel
theorem dL_holds_378 : decode cL_holds 378 = .ok (.aload_n 3, 1) := by decide +kernel
theorem dL_holds_379 : decode cL_holds 379 = .ok (.iload 17, 2) := by decide +kernel
theorem dL_holds_381 : decode cL_holds 381 = .ok (.invokestatic 61, 3) := by decide +kernel
theorem dL_holds_384 : decode cL_holds 384 = .ok (.istore 18, 2) := by decide +kernel
theorem dL_holds_386 : decode cL_holds 386 = .ok (.sipush 1000, 3) := by decide +kernel
theorem dL_holds_389 : decode cL_holds 389 = .ok (.istore 19, 2) := by decide +kernel
theorem dL_holds_391 : decode cL_holds 391 = .ok (.iconst 1, 1) := by decide +kernel
theorem dL_holds_392 : decode cL_holds 392 = .ok (.istore 20, 2) := by decide +kernel
theorem dL_holds_394 : decode cL_holds 394 = .ok (.iconst 0, 1) := by decide +kernel
theorem dL_holds_395 : decode cL_holds 395 = .ok (.istore 21, 2) := by decide +kernel
theorem dL_holds_397 : decode cL_holds 397 = .ok (.iload 21, 2) := by decide +kernel
theorem dL_holds_399 : decode cL_holds 399 = .ok (.bipush 9, 2) := by decide +kernel
theorem dL_holds_401 : decode cL_holds 401 = .ok (.if_icmp .ge 102, 3) := by decide +kernel
theorem dL_holds_404 : decode cL_holds 404 = .ok (.iload 17, 2) := by decide +kernel
theorem dL_holds_406 : decode cL_holds 406 = .ok (.iload 21, 2) := by decide +kernel
theorem dL_holds_408 : decode cL_holds 408 = .ok (.ishr, 1) := by decide +kernel
theorem dL_holds_409 : decode cL_holds 409 = .ok (.iconst 1, 1) := by decide +kernel
theorem dL_holds_410 : decode cL_holds 410 = .ok (.iand, 1) := by decide +kernel
theorem dL_holds_411 : decode cL_holds 411 = .ok (.iconst 1, 1) := by decide +kernel
theorem dL_holds_412 : decode cL_holds 412 = .ok (.if_icmp .ne 85, 3) := by decide +kernel
theorem dL_holds_415 : decode cL_holds 415 = .ok (.aload 6, 2) := by decide +kernel
theorem dL_holds_417 : decode cL_holds 417 = .ok (.iload 21, 2) := by decide +kernel
theorem dL_holds_419 : decode cL_holds 419 = .ok (.dup2, 1) := by decide +kernel
theorem dL_holds_420 : decode cL_holds 420 = .ok (.iaload, 1) := by decide +kernel
theorem dL_holds_421 : decode cL_holds 421 = .ok (.iload 18, 2) := by decide +kernel
theorem dL_holds_423 : decode cL_holds 423 = .ok (.ifCond .le 7, 3) := by decide +kernel
theorem dL_holds_426 : decode cL_holds 426 = .ok (.iconst 1, 1) := by decide +kernel
theorem dL_holds_427 : decode cL_holds 427 = .ok (.goto 4, 3) := by decide +kernel
theorem dL_holds_430 : decode cL_holds 430 = .ok (.iconst 0, 1) := by decide +kernel
theorem dL_holds_431 : decode cL_holds 431 = .ok (.iadd, 1) := by decide +kernel
theorem dL_holds_432 : decode cL_holds 432 = .ok (.iastore, 1) := by decide +kernel
theorem dL_holds_433 : decode cL_holds 433 = .ok (.aload 7, 2) := by decide +kernel
theorem dL_holds_435 : decode cL_holds 435 = .ok (.iload 21, 2) := by decide +kernel
theorem dL_holds_437 : decode cL_holds 437 = .ok (.dup2, 1) := by decide +kernel
theorem dL_holds_438 : decode cL_holds 438 = .ok (.iaload, 1) := by decide +kernel
theorem dL_holds_439 : decode cL_holds 439 = .ok (.iload 18, 2) := by decide +kernel
theorem dL_holds_441 : decode cL_holds 441 = .ok (.iconst 1, 1) := by decide +kernel
theorem dL_holds_442 : decode cL_holds 442 = .ok (.if_icmp .le 7, 3) := by decide +kernel
theorem dL_holds_445 : decode cL_holds 445 = .ok (.iconst 1, 1) := by decide +kernel
theorem dL_holds_446 : decode cL_holds 446 = .ok (.goto 4, 3) := by decide +kernel
theorem dL_holds_449 : decode cL_holds 449 = .ok (.iconst 0, 1) := by decide +kernel
theorem dL_holds_450 : decode cL_holds 450 = .ok (.iadd, 1) := by decide +kernel
theorem dL_holds_451 : decode cL_holds 451 = .ok (.iastore, 1) := by decide +kernel
theorem dL_holds_452 : decode cL_holds 452 = .ok (.aload 4, 2) := by decide +kernel
theorem dL_holds_454 : decode cL_holds 454 = .ok (.iload 21, 2) := by decide +kernel
theorem dL_holds_456 : decode cL_holds 456 = .ok (.iaload, 1) := by decide +kernel
theorem dL_holds_457 : decode cL_holds 457 = .ok (.iload 19, 2) := by decide +kernel
theorem dL_holds_459 : decode cL_holds 459 = .ok (.if_icmp .ge 11, 3) := by decide +kernel
theorem dL_holds_462 : decode cL_holds 462 = .ok (.aload 4, 2) := by decide +kernel
theorem dL_holds_464 : decode cL_holds 464 = .ok (.iload 21, 2) := by decide +kernel
theorem dL_holds_466 : decode cL_holds 466 = .ok (.iaload, 1) := by decide +kernel
theorem dL_holds_467 : decode cL_holds 467 = .ok (.goto 5, 3) := by decide +kernel
theorem dL_holds_470 : decode cL_holds 470 = .ok (.iload 19, 2) := by decide +kernel
theorem dL_holds_472 : decode cL_holds 472 = .ok (.istore 19, 2) := by decide +kernel
theorem dL_holds_474 : decode cL_holds 474 = .ok (.iload 20, 2) := by decide +kernel
theorem dL_holds_476 : decode cL_holds 476 = .ok (.ifCond .eq 18, 3) := by decide +kernel
theorem dL_holds_479 : decode cL_holds 479 = .ok (.aload 5, 2) := by decide +kernel
theorem dL_holds_481 : decode cL_holds 481 = .ok (.iload 21, 2) := by decide +kernel
theorem dL_holds_483 : decode cL_holds 483 = .ok (.iaload, 1) := by decide +kernel
theorem dL_holds_484 : decode cL_holds 484 = .ok (.iload 17, 2) := by decide +kernel
theorem dL_holds_486 : decode cL_holds 486 = .ok (.iand, 1) := by decide +kernel
theorem dL_holds_487 : decode cL_holds 487 = .ok (.ifCond .ne 7, 3) := by decide +kernel
theorem dL_holds_490 : decode cL_holds 490 = .ok (.iconst 1, 1) := by decide +kernel
theorem dL_holds_491 : decode cL_holds 491 = .ok (.goto 4, 3) := by decide +kernel
theorem dL_holds_494 : decode cL_holds 494 = .ok (.iconst 0, 1) := by decide +kernel
theorem dL_holds_495 : decode cL_holds 495 = .ok (.istore 20, 2) := by decide +kernel
theorem dL_holds_497 : decode cL_holds 497 = .ok (.iinc 21 1, 3) := by decide +kernel
theorem dL_holds_500 : decode cL_holds 500 = .ok (.goto (-103), 3) := by decide +kernel
theorem dL_holds_503 : decode cL_holds 503 = .ok (.iload 12, 2) := by decide +kernel
theorem dL_holds_505 : decode cL_holds 505 = .ok (.iload 18, 2) := by decide +kernel
theorem dL_holds_507 : decode cL_holds 507 = .ok (.ifCond .le 7, 3) := by decide +kernel
theorem dL_holds_510 : decode cL_holds 510 = .ok (.iconst 1, 1) := by decide +kernel
theorem dL_holds_511 : decode cL_holds 511 = .ok (.goto 4, 3) := by decide +kernel
theorem dL_holds_514 : decode cL_holds 514 = .ok (.iconst 0, 1) := by decide +kernel
theorem dL_holds_515 : decode cL_holds 515 = .ok (.iadd, 1) := by decide +kernel
theorem dL_holds_516 : decode cL_holds 516 = .ok (.istore 12, 2) := by decide +kernel
theorem dL_holds_518 : decode cL_holds 518 = .ok (.iload 13, 2) := by decide +kernel
theorem dL_holds_520 : decode cL_holds 520 = .ok (.iload 18, 2) := by decide +kernel
theorem dL_holds_522 : decode cL_holds 522 = .ok (.iconst 1, 1) := by decide +kernel
theorem dL_holds_523 : decode cL_holds 523 = .ok (.if_icmp .le 7, 3) := by decide +kernel
theorem dL_holds_526 : decode cL_holds 526 = .ok (.iconst 1, 1) := by decide +kernel
theorem dL_holds_527 : decode cL_holds 527 = .ok (.goto 4, 3) := by decide +kernel
theorem dL_holds_530 : decode cL_holds 530 = .ok (.iconst 0, 1) := by decide +kernel
theorem dL_holds_531 : decode cL_holds 531 = .ok (.iadd, 1) := by decide +kernel
theorem dL_holds_532 : decode cL_holds 532 = .ok (.istore 13, 2) := by decide +kernel
theorem dL_holds_534 : decode cL_holds 534 = .ok (.iload 20, 2) := by decide +kernel
theorem dL_holds_536 : decode cL_holds 536 = .ok (.ifCond .eq 21, 3) := by decide +kernel
theorem dL_holds_539 : decode cL_holds 539 = .ok (.iload 17, 2) := by decide +kernel
theorem dL_holds_541 : decode cL_holds 541 = .ok (.invokestatic 58, 3) := by decide +kernel
theorem dL_holds_544 : decode cL_holds 544 = .ok (.iload 14, 2) := by decide +kernel
theorem dL_holds_546 : decode cL_holds 546 = .ok (.if_icmp .le 11, 3) := by decide +kernel
theorem dL_holds_549 : decode cL_holds 549 = .ok (.iload 17, 2) := by decide +kernel
theorem dL_holds_551 : decode cL_holds 551 = .ok (.invokestatic 58, 3) := by decide +kernel
theorem dL_holds_554 : decode cL_holds 554 = .ok (.goto 5, 3) := by decide +kernel
theorem dL_holds_557 : decode cL_holds 557 = .ok (.iload 14, 2) := by decide +kernel
