set_option maxRecDepth 20000 in
theorem ggX4_join_X4_saveState : GoodIn wsX4_join wsX4_saveState := goodIn_r _ [14, 15, 5, 16, 17, 18, 19, 9, 20, 21, 22, 23, 24, 25, 26, 27, 28, 29, 30, 31, 32, 33, 34, 35, 36, 37, 38, 39, 40, 41, 42, 50, 51, 52, 53, 54, 55, 56, 57, 58, 59, 60, 61, 62, 63, 64, 65, 66, 67, 68] (by decide +kernel) (by decide +kernel)
set_option maxRecDepth 20000 in
theorem gX4_join_X4_saveState : GoodIn wsX4_join (wsV RX4 71 RX4 yX4_saveState wsX4_saveState) := goodIn_app (goodIn_of _ (by decide +kernel)) ggX4_join_X4_saveState
set_option maxRecDepth 20000 in
theorem ggX4_join_X1_beginAnew : GoodIn wsX4_join wsX1_beginAnew := goodIn_r _ [46, 40, 37, 29, 59, 60, 61, 62, 63, 64, 65, 66, 67, 68] (by decide +kernel) (by decide +kernel)
set_option maxRecDepth 20000 in
theorem gX4_join_X1_beginAnew : GoodIn wsX4_join (wsV RX4 77 RX1 yX1_beginAnew wsX1_beginAnew) := goodIn_app (goodIn_of _ (by decide +kernel)) ggX4_join_X1_beginAnew
set_option maxRecDepth 20000 in
theorem ggX4_join_X4_bit : GoodIn wsX4_join wsX4_bit := goodIn_r _ [49] (by decide +kernel) (by decide +kernel)
set_option maxRecDepth 20000 in
theorem gX4_join_X4_bit : GoodIn wsX4_join (va_wsS RX4 85 yX4_bit wsX4_bit) := goodIn_app (goodIn_of _ (by decide +kernel)) ggX4_join_X4_bit
theorem dX4_join_0 : decode cX4_join 0 = .ok (.iload_n 1, 1) := by decide +kernel
theorem dX4_join_1 : decode cX4_join 1 = .ok (.invokestatic 55, 3) := by decide +kernel
theorem dX4_join_4 : decode cX4_join 4 = .ok (.ifCond .eq 10, 3) := by decide +kernel
theorem dX4_join_7 : decode cX4_join 7 = .ok (.iload_n 2, 1) := by decide +kernel
theorem dX4_join_8 : decode cX4_join 8 = .ok (.invokestatic 55, 3) := by decide +kernel
theorem dX4_join_11 : decode cX4_join 11 = .ok (.ifCond .ne 13, 3) := by decide +kernel
theorem dX4_join_14 : decode cX4_join 14 = .ok (.new 59, 3) := by decide +kernel
theorem dX4_join_17 : decode cX4_join 17 = .ok (.dup, 1) := by decide +kernel
theorem dX4_join_18 : decode cX4_join 18 = .ok (.ldc 61, 2) := by decide +kernel
theorem dX4_join_20 : decode cX4_join 20 = .ok (.invokespecial 63, 3) := by decide +kernel
theorem dX4_join_23 : decode cX4_join 23 = .ok (.athrow, 1) := by decide +kernel
theorem dX4_join_24 : decode cX4_join 24 = .ok (.iload_n 2, 1) := by decide +kernel
theorem dX4_join_25 : decode cX4_join 25 = .ok (.iload_n 1, 1) := by decide +kernel
theorem dX4_join_26 : decode cX4_join 26 = .ok (.if_icmp .gt 13, 3) := by decide +kernel
theorem dX4_join_29 : decode cX4_join 29 = .ok (.new 66, 3) := by decide +kernel
theorem dX4_join_32 : decode cX4_join 32 = .ok (.dup, 1) := by decide +kernel
theorem dX4_join_33 : decode cX4_join 33 = .ok (.ldc 80, 2) := by decide +kernel
theorem dX4_join_35 : decode cX4_join 35 = .ok (.invokespecial 70, 3) := by decide +kernel
theorem dX4_join_38 : decode cX4_join 38 = .ok (.athrow, 1) := by decide +kernel
theorem dX4_join_39 : decode cX4_join 39 = .ok (.aload_n 0, 1) := by decide +kernel
theorem dX4_join_40 : decode cX4_join 40 = .ok (.invokevirtual 71, 3) := by decide +kernel
theorem dX4_join_43 : decode cX4_join 43 = .ok (.aload_n 0, 1) := by decide +kernel
theorem dX4_join_44 : decode cX4_join 44 = .ok (.getfield 12, 3) := by decide +kernel
theorem dX4_join_47 : decode cX4_join 47 = .ok (.getfield 82, 3) := by decide +kernel
theorem dX4_join_50 : decode cX4_join 50 = .ok (.iload_n 1, 1) := by decide +kernel
theorem dX4_join_51 : decode cX4_join 51 = .ok (.dup2, 1) := by decide +kernel
theorem dX4_join_52 : decode cX4_join 52 = .ok (.iaload, 1) := by decide +kernel
theorem dX4_join_53 : decode cX4_join 53 = .ok (.iconst 1, 1) := by decide +kernel
theorem dX4_join_54 : decode cX4_join 54 = .ok (.iload_n 2, 1) := by decide +kernel
theorem dX4_join_55 : decode cX4_join 55 = .ok (.ishl, 1) := by decide +kernel
theorem dX4_join_56 : decode cX4_join 56 = .ok (.ixor, 1) := by decide +kernel
theorem dX4_join_57 : decode cX4_join 57 = .ok (.iastore, 1) := by decide +kernel
theorem dX4_join_58 : decode cX4_join 58 = .ok (.aload_n 0, 1) := by decide +kernel
theorem dX4_join_59 : decode cX4_join 59 = .ok (.getfield 12, 3) := by decide +kernel
theorem dX4_join_62 : decode cX4_join 62 = .ok (.invokevirtual 77, 3) := by decide +kernel
theorem dX4_join_65 : decode cX4_join 65 = .ok (.aload_n 0, 1) := by decide +kernel
theorem dX4_join_66 : decode cX4_join 66 = .ok (.getfield 12, 3) := by decide +kernel
theorem dX4_join_69 : decode cX4_join 69 = .ok (.getfield 82, 3) := by decide +kernel
theorem dX4_join_72 : decode cX4_join 72 = .ok (.iload_n 1, 1) := by decide +kernel
theorem dX4_join_73 : decode cX4_join 73 = .ok (.iaload, 1) := by decide +kernel
theorem dX4_join_74 : decode cX4_join 74 = .ok (.iload_n 2, 1) := by decide +kernel
theorem dX4_join_75 : decode cX4_join 75 = .ok (.invokestatic 85, 3) := by decide +kernel
theorem dX4_join_78 : decode cX4_join 78 = .ok (.ireturn, 1) := by decide +kernel
set_option maxRecDepth 20000 in
theorem ggX4_mark_X4_isPiece : GoodIn wsX4_mark wsX4_isPiece := goodIn_r _ [10] (by decide +kernel) (by decide +kernel)
set_option maxRecDepth 20000 in
theorem gX4_mark_X4_isPiece : GoodIn wsX4_mark (va_wsS RX4 55 yX4_isPiece wsX4_isPiece) := goodIn_app (goodIn_of _ (by decide +kernel)) ggX4_mark_X4_isPiece
set_option maxRecDepth 20000 in
theorem ggX4_mark_X4_saveState : GoodIn wsX4_mark wsX4_saveState := goodIn_r _ [14, 15, 5, 16, 17, 18, 19, 9, 20, 21, 22, 23, 24, 25, 26, 27, 28, 29, 30, 31, 32, 33, 34, 35, 36, 37, 38, 39, 40, 41, 42, 47, 48, 49, 50, 51, 52, 53, 54, 55, 56, 57, 58, 59, 60, 61, 62, 63, 64, 65] (by decide +kernel) (by decide +kernel)
set_option maxRecDepth 20000 in
theorem gX4_mark_X4_saveState : GoodIn wsX4_mark (wsV RX4 71 RX4 yX4_saveState wsX4_saveState) := goodIn_app (goodIn_of _ (by decide +kernel)) ggX4_mark_X4_saveState
set_option maxRecDepth 20000 in
theorem ggX4_mark_X1_beginAnew : GoodIn wsX4_mark wsX1_beginAnew := goodIn_r _ [46, 40, 37, 29, 56, 57, 58, 59, 60, 61, 62, 63, 64, 65] (by decide +kernel) (by decide +kernel)
set_option maxRecDepth 20000 in
theorem gX4_mark_X1_beginAnew : GoodIn wsX4_mark (wsV RX4 77 RX1 yX1_beginAnew wsX1_beginAnew) := goodIn_app (goodIn_of _ (by decide +kernel)) ggX4_mark_X1_beginAnew
theorem dX4_mark_0 : decode cX4_mark 0 = .ok (.iload_n 1, 1) := by decide +kernel
theorem dX4_mark_1 : decode cX4_mark 1 = .ok (.invokestatic 55, 3) := by decide +kernel
theorem dX4_mark_4 : decode cX4_mark 4 = .ok (.ifCond .ne 13, 3) := by decide +kernel
theorem dX4_mark_7 : decode cX4_mark 7 = .ok (.new 59, 3) := by decide +kernel
theorem dX4_mark_10 : decode cX4_mark 10 = .ok (.dup, 1) := by decide +kernel
theorem dX4_mark_11 : decode cX4_mark 11 = .ok (.ldc 61, 2) := by decide +kernel
theorem dX4_mark_13 : decode cX4_mark 13 = .ok (.invokespecial 63, 3) := by decide +kernel
theorem dX4_mark_16 : decode cX4_mark 16 = .ok (.athrow, 1) := by decide +kernel
theorem dX4_mark_17 : decode cX4_mark 17 = .ok (.iload_n 2, 1) := by decide +kernel
theorem dX4_mark_18 : decode cX4_mark 18 = .ok (.ifCond .lt 8, 3) := by decide +kernel
theorem dX4_mark_21 : decode cX4_mark 21 = .ok (.iload_n 2, 1) := by decide +kernel
theorem dX4_mark_22 : decode cX4_mark 22 = .ok (.iconst 3, 1) := by decide +kernel
theorem dX4_mark_23 : decode cX4_mark 23 = .ok (.if_icmp .le 13, 3) := by decide +kernel
theorem dX4_mark_26 : decode cX4_mark 26 = .ok (.new 66, 3) := by decide +kernel
theorem dX4_mark_29 : decode cX4_mark 29 = .ok (.dup, 1) := by decide +kernel
theorem dX4_mark_30 : decode cX4_mark 30 = .ok (.ldc 89, 2) := by decide +kernel
theorem dX4_mark_32 : decode cX4_mark 32 = .ok (.invokespecial 70, 3) := by decide +kernel
theorem dX4_mark_35 : decode cX4_mark 35 = .ok (.athrow, 1) := by decide +kernel
theorem dX4_mark_36 : decode cX4_mark 36 = .ok (.aload_n 0, 1) := by decide +kernel
theorem dX4_mark_37 : decode cX4_mark 37 = .ok (.invokevirtual 71, 3) := by decide +kernel
theorem dX4_mark_40 : decode cX4_mark 40 = .ok (.aload_n 0, 1) := by decide +kernel
theorem dX4_mark_41 : decode cX4_mark 41 = .ok (.getfield 12, 3) := by decide +kernel
theorem dX4_mark_44 : decode cX4_mark 44 = .ok (.getfield 51, 3) := by decide +kernel
theorem dX4_mark_47 : decode cX4_mark 47 = .ok (.iload_n 1, 1) := by decide +kernel
theorem dX4_mark_48 : decode cX4_mark 48 = .ok (.iaload, 1) := by decide +kernel
theorem dX4_mark_49 : decode cX4_mark 49 = .ok (.istore_n 3, 1) := by decide +kernel
theorem dX4_mark_50 : decode cX4_mark 50 = .ok (.aload_n 0, 1) := by decide +kernel
theorem dX4_mark_51 : decode cX4_mark 51 = .ok (.getfield 12, 3) := by decide +kernel
theorem dX4_mark_54 : decode cX4_mark 54 = .ok (.getfield 51, 3) := by decide +kernel
theorem dX4_mark_57 : decode cX4_mark 57 = .ok (.iload_n 1, 1) := by decide +kernel
theorem dX4_mark_58 : decode cX4_mark 58 = .ok (.iload_n 2, 1) := by decide +kernel
theorem dX4_mark_59 : decode cX4_mark 59 = .ok (.iastore, 1) := by decide +kernel
theorem dX4_mark_60 : decode cX4_mark 60 = .ok (.aload_n 0, 1) := by decide +kernel
theorem dX4_mark_61 : decode cX4_mark 61 = .ok (.getfield 12, 3) := by decide +kernel
theorem dX4_mark_64 : decode cX4_mark 64 = .ok (.invokevirtual 77, 3) := by decide +kernel
theorem dX4_mark_67 : decode cX4_mark 67 = .ok (.iload_n 3, 1) := by decide +kernel
theorem dX4_mark_68 : decode cX4_mark 68 = .ok (.ireturn, 1) := by decide +kernel
set_option maxRecDepth 20000 in
theorem ggX4_bar_X4_isPiece : GoodIn wsX4_bar wsX4_isPiece := goodIn_r _ [10] (by decide +kernel) (by decide +kernel)
set_option maxRecDepth 20000 in
theorem gX4_bar_X4_isPiece : GoodIn wsX4_bar (va_wsS RX4 55 yX4_isPiece wsX4_isPiece) := goodIn_app (goodIn_of _ (by decide +kernel)) ggX4_bar_X4_isPiece
set_option maxRecDepth 20000 in
theorem ggX4_bar_X4_saveState : GoodIn wsX4_bar wsX4_saveState := goodIn_r _ [14, 15, 5, 16, 17, 18, 19, 9, 20, 21, 22, 23, 24, 25, 26, 27, 28, 29, 30, 31, 32, 33, 34, 35, 36, 37, 38, 39, 40, 41, 42, 50, 51, 52, 53, 54, 55, 56, 57, 58, 59, 60, 61, 62, 63, 64, 65, 66, 67, 68] (by decide +kernel) (by decide +kernel)
set_option maxRecDepth 20000 in
theorem gX4_bar_X4_saveState : GoodIn wsX4_bar (wsV RX4 71 RX4 yX4_saveState wsX4_saveState) := goodIn_app (goodIn_of _ (by decide +kernel)) ggX4_bar_X4_saveState
set_option maxRecDepth 20000 in
theorem ggX4_bar_X1_beginAnew : GoodIn wsX4_bar wsX1_beginAnew := goodIn_r _ [46, 40, 37, 29, 59, 60, 61, 62, 63, 64, 65, 66, 67, 68] (by decide +kernel) (by decide +kernel)
set_option maxRecDepth 20000 in
theorem gX4_bar_X1_beginAnew : GoodIn wsX4_bar (wsV RX4 77 RX1 yX1_beginAnew wsX1_beginAnew) := goodIn_app (goodIn_of _ (by decide +kernel)) ggX4_bar_X1_beginAnew
set_option maxRecDepth 20000 in
theorem ggX4_bar_X4_bit : GoodIn wsX4_bar wsX4_bit := goodIn_r _ [49] (by decide +kernel) (by decide +kernel)
set_option maxRecDepth 20000 in
theorem gX4_bar_X4_bit : GoodIn wsX4_bar (va_wsS RX4 85 yX4_bit wsX4_bit) := goodIn_app (goodIn_of _ (by decide +kernel)) ggX4_bar_X4_bit
theorem dX4_bar_0 : decode cX4_bar 0 = .ok (.iload_n 1, 1) := by decide +kernel
theorem dX4_bar_1 : decode cX4_bar 1 = .ok (.invokestatic 55, 3) := by decide +kernel
theorem dX4_bar_4 : decode cX4_bar 4 = .ok (.ifCond .eq 10, 3) := by decide +kernel
theorem dX4_bar_7 : decode cX4_bar 7 = .ok (.iload_n 2, 1) := by decide +kernel
theorem dX4_bar_8 : decode cX4_bar 8 = .ok (.invokestatic 55, 3) := by decide +kernel
theorem dX4_bar_11 : decode cX4_bar 11 = .ok (.ifCond .ne 13, 3) := by decide +kernel
theorem dX4_bar_14 : decode cX4_bar 14 = .ok (.new 59, 3) := by decide +kernel
theorem dX4_bar_17 : decode cX4_bar 17 = .ok (.dup, 1) := by decide +kernel
theorem dX4_bar_18 : decode cX4_bar 18 = .ok (.ldc 61, 2) := by decide +kernel
theorem dX4_bar_20 : decode cX4_bar 20 = .ok (.invokespecial 63, 3) := by decide +kernel
theorem dX4_bar_23 : decode cX4_bar 23 = .ok (.athrow, 1) := by decide +kernel
theorem dX4_bar_24 : decode cX4_bar 24 = .ok (.iload_n 1, 1) := by decide +kernel
theorem dX4_bar_25 : decode cX4_bar 25 = .ok (.iload_n 2, 1) := by decide +kernel
theorem dX4_bar_26 : decode cX4_bar 26 = .ok (.if_icmp .ne 13, 3) := by decide +kernel
theorem dX4_bar_29 : decode cX4_bar 29 = .ok (.new 66, 3) := by decide +kernel
theorem dX4_bar_32 : decode cX4_bar 32 = .ok (.dup, 1) := by decide +kernel
theorem dX4_bar_33 : decode cX4_bar 33 = .ok (.ldc 91, 2) := by decide +kernel
theorem dX4_bar_35 : decode cX4_bar 35 = .ok (.invokespecial 70, 3) := by decide +kernel
theorem dX4_bar_38 : decode cX4_bar 38 = .ok (.athrow, 1) := by decide +kernel
theorem dX4_bar_39 : decode cX4_bar 39 = .ok (.aload_n 0, 1) := by decide +kernel
theorem dX4_bar_40 : decode cX4_bar 40 = .ok (.invokevirtual 71, 3) := by decide +kernel
theorem dX4_bar_43 : decode cX4_bar 43 = .ok (.aload_n 0, 1) := by decide +kernel
theorem dX4_bar_44 : decode cX4_bar 44 = .ok (.getfield 12, 3) := by decide +kernel
theorem dX4_bar_47 : decode cX4_bar 47 = .ok (.getfield 93, 3) := by decide +kernel
theorem dX4_bar_50 : decode cX4_bar 50 = .ok (.iload_n 1, 1) := by decide +kernel
theorem dX4_bar_51 : decode cX4_bar 51 = .ok (.dup2, 1) := by decide +kernel
theorem dX4_bar_52 : decode cX4_bar 52 = .ok (.iaload, 1) := by decide +kernel
theorem dX4_bar_53 : decode cX4_bar 53 = .ok (.iconst 1, 1) := by decide +kernel
theorem dX4_bar_54 : decode cX4_bar 54 = .ok (.iload_n 2, 1) := by decide +kernel
theorem dX4_bar_55 : decode cX4_bar 55 = .ok (.ishl, 1) := by decide +kernel
theorem dX4_bar_56 : decode cX4_bar 56 = .ok (.ixor, 1) := by decide +kernel
theorem dX4_bar_57 : decode cX4_bar 57 = .ok (.iastore, 1) := by decide +kernel
theorem dX4_bar_58 : decode cX4_bar 58 = .ok (.aload_n 0, 1) := by decide +kernel
theorem dX4_bar_59 : decode cX4_bar 59 = .ok (.getfield 12, 3) := by decide +kernel
theorem dX4_bar_62 : decode cX4_bar 62 = .ok (.getfield 93, 3) := by decide +kernel
theorem dX4_bar_65 : decode cX4_bar 65 = .ok (.iload_n 2, 1) := by decide +kernel
theorem dX4_bar_66 : decode cX4_bar 66 = .ok (.dup2, 1) := by decide +kernel
theorem dX4_bar_67 : decode cX4_bar 67 = .ok (.iaload, 1) := by decide +kernel
theorem dX4_bar_68 : decode cX4_bar 68 = .ok (.iconst 1, 1) := by decide +kernel
theorem dX4_bar_69 : decode cX4_bar 69 = .ok (.iload_n 1, 1) := by decide +kernel
theorem dX4_bar_70 : decode cX4_bar 70 = .ok (.ishl, 1) := by decide +kernel
theorem dX4_bar_71 : decode cX4_bar 71 = .ok (.ixor, 1) := by decide +kernel
theorem dX4_bar_72 : decode cX4_bar 72 = .ok (.iastore, 1) := by decide +kernel
theorem dX4_bar_73 : decode cX4_bar 73 = .ok (.aload_n 0, 1) := by decide +kernel
theorem dX4_bar_74 : decode cX4_bar 74 = .ok (.getfield 12, 3) := by decide +kernel
theorem dX4_bar_77 : decode cX4_bar 77 = .ok (.invokevirtual 77, 3) := by decide +kernel
theorem dX4_bar_80 : decode cX4_bar 80 = .ok (.aload_n 0, 1) := by decide +kernel
theorem dX4_bar_81 : decode cX4_bar 81 = .ok (.getfield 12, 3) := by decide +kernel
theorem dX4_bar_84 : decode cX4_bar 84 = .ok (.getfield 93, 3) := by decide +kernel
theorem dX4_bar_87 : decode cX4_bar 87 = .ok (.iload_n 1, 1) := by decide +kernel
theorem dX4_bar_88 : decode cX4_bar 88 = .ok (.iaload, 1) := by decide +kernel
theorem dX4_bar_89 : decode cX4_bar 89 = .ok (.iload_n 2, 1) := by decide +kernel
theorem dX4_bar_90 : decode cX4_bar 90 = .ok (.invokestatic 85, 3) := by decide +kernel
theorem dX4_bar_93 : decode cX4_bar 93 = .ok (.ireturn, 1) := by decide +kernel
set_option maxRecDepth 20000 in
theorem ggX4_step_X4_saveState : GoodIn wsX4_step wsX4_saveState := goodIn_r _ [7, 8, 2, 9, 10, 11, 12, 6, 13, 14, 15, 16, 17, 18, 19, 20, 21, 22, 23, 24, 25, 26, 27, 28, 29, 30, 31, 32, 33, 34, 35, 89, 90, 91, 92, 93, 94, 95, 96, 97, 98, 99, 100, 101, 102, 103, 104, 105, 106, 107] (by decide +kernel) (by decide +kernel)
set_option maxRecDepth 20000 in
theorem gX4_step_X4_saveState : GoodIn wsX4_step (wsV RX4 71 RX4 yX4_saveState wsX4_saveState) := goodIn_app (goodIn_of _ (by decide +kernel)) ggX4_step_X4_saveState
set_option maxRecDepth 20000 in
theorem ggX4_step_X3_list : GoodIn wsX4_step wsX3_list := goodIn_r _ [40, 41, 42, 43, 44, 45, 46, 39, 47, 48, 49, 50, 18, 19, 20, 21, 22, 23, 24, 25, 51, 52, 53, 54, 55, 6, 56, 57, 58, 59, 60, 61, 62, 63, 64, 65, 66, 67, 68, 108, 109, 110, 111, 112, 113, 98, 99, 100, 101, 102, 103, 104, 105, 106, 107] (by decide +kernel) (by decide +kernel)
set_option maxRecDepth 20000 in
theorem gX4_step_X3_list : GoodIn wsX4_step (wsV RX4 96 RX3 yX3_list wsX3_list) := goodIn_app (goodIn_of _ (by decide +kernel)) ggX4_step_X3_list
set_option maxRecDepth 20000 in
theorem ggX4_step_X4_takeHeaviest : GoodIn wsX4_step wsX4_takeHeaviest := goodIn_r _ [72, 73, 74, 75, 76, 77, 6, 78, 1, 79, 80, 81, 82, 83, 20, 84, 30, 57, 58, 85, 86, 87, 88, 33, 31, 32, 34, 98, 99, 100, 101, 102, 103, 104, 105, 106, 107, 89, 90, 91, 92, 93, 94, 95, 96, 97, 108, 109, 110, 111, 112, 113] (by decide +kernel) (by decide +kernel)
set_option maxRecDepth 20000 in
theorem gX4_step_X4_takeHeaviest : GoodIn wsX4_step (wsV RX4 100 RX4 yX4_takeHeaviest wsX4_takeHeaviest) := goodIn_app (goodIn_of _ (by decide +kernel)) ggX4_step_X4_takeHeaviest
theorem dX4_step_0 : decode cX4_step 0 = .ok (.aload_n 0, 1) := by decide +kernel
theorem dX4_step_1 : decode cX4_step 1 = .ok (.invokevirtual 71, 3) := by decide +kernel
theorem dX4_step_4 : decode cX4_step 4 = .ok (.aload_n 0, 1) := by decide +kernel
theorem dX4_step_5 : decode cX4_step 5 = .ok (.getfield 40, 3) := by decide +kernel
theorem dX4_step_8 : decode cX4_step 8 = .ok (.aload_n 0, 1) := by decide +kernel
theorem dX4_step_9 : decode cX4_step 9 = .ok (.getfield 12, 3) := by decide +kernel
theorem dX4_step_12 : decode cX4_step 12 = .ok (.invokevirtual 96, 3) := by decide +kernel
theorem dX4_step_15 : decode cX4_step 15 = .ok (.aload_n 0, 1) := by decide +kernel
theorem dX4_step_16 : decode cX4_step 16 = .ok (.aload_n 0, 1) := by decide +kernel
theorem dX4_step_17 : decode cX4_step 17 = .ok (.getfield 12, 3) := by decide +kernel
theorem dX4_step_20 : decode cX4_step 20 = .ok (.invokevirtual 100, 3) := by decide +kernel
theorem dX4_step_23 : decode cX4_step 23 = .ok (.ireturn, 1) := by decide +kernel
set_option maxRecDepth 20000 in
theorem ggX4_split_X4_saveState : GoodIn wsX4_split wsX4_saveState := goodIn_r _ [7, 8, 2, 9, 10, 11, 12, 6, 13, 14, 15, 16, 17, 18, 19, 20, 21, 22, 23, 24, 25, 26, 27, 28, 29, 30, 31, 32, 33, 34, 35, 93, 94, 95, 96, 97, 98, 99, 100, 101, 102, 103, 104, 105, 106, 107, 108, 109, 110, 111] (by decide +kernel) (by decide +kernel)
set_option maxRecDepth 20000 in
theorem gX4_split_X4_saveState : GoodIn wsX4_split (wsV RX4 71 RX4 yX4_saveState wsX4_saveState) := goodIn_app (goodIn_of _ (by decide +kernel)) ggX4_split_X4_saveState
set_option maxRecDepth 20000 in
theorem ggX4_split_X3_list : GoodIn wsX4_split wsX3_list := goodIn_r _ [40, 41, 42, 43, 44, 45, 46, 39, 47, 48, 49, 50, 18, 19, 20, 21, 22, 23, 24, 25, 51, 52, 53, 54, 55, 6, 56, 57, 58, 59, 60, 61, 62, 63, 64, 65, 66, 67, 68, 112, 113, 114, 115, 116, 117, 102, 103, 104, 105, 106, 107, 108, 109, 110, 111] (by decide +kernel) (by decide +kernel)
set_option maxRecDepth 20000 in
theorem gX4_split_X3_list : GoodIn wsX4_split (wsV RX4 96 RX3 yX3_list wsX3_list) := goodIn_app (goodIn_of _ (by decide +kernel)) ggX4_split_X3_list
set_option maxRecDepth 20000 in
theorem ggX4_split_X4_takeAll : GoodIn wsX4_split wsX4_takeAll := goodIn_r _ [72, 73, 74, 75, 6, 76, 77, 78, 79, 80, 81, 82, 1, 83, 84, 85, 86, 87, 20, 88, 30, 57, 58, 89, 90, 91, 92, 33, 31, 32, 34, 102, 103, 104, 105, 106, 107, 108, 109, 110, 111, 93, 94, 95, 96, 97, 98, 99, 100, 101, 112, 113, 114, 115, 116, 117] (by decide +kernel) (by decide +kernel)
set_option maxRecDepth 20000 in
theorem gX4_split_X4_takeAll : GoodIn wsX4_split (wsV RX4 104 RX4 yX4_takeAll wsX4_takeAll) := goodIn_app (goodIn_of _ (by decide +kernel)) ggX4_split_X4_takeAll
theorem dX4_split_0 : decode cX4_split 0 = .ok (.aload_n 0, 1) := by decide +kernel
theorem dX4_split_1 : decode cX4_split 1 = .ok (.invokevirtual 71, 3) := by decide +kernel
theorem dX4_split_4 : decode cX4_split 4 = .ok (.aload_n 0, 1) := by decide +kernel
theorem dX4_split_5 : decode cX4_split 5 = .ok (.getfield 40, 3) := by decide +kernel
theorem dX4_split_8 : decode cX4_split 8 = .ok (.aload_n 0, 1) := by decide +kernel
theorem dX4_split_9 : decode cX4_split 9 = .ok (.getfield 12, 3) := by decide +kernel
theorem dX4_split_12 : decode cX4_split 12 = .ok (.invokevirtual 96, 3) := by decide +kernel
theorem dX4_split_15 : decode cX4_split 15 = .ok (.aload_n 0, 1) := by decide +kernel
theorem dX4_split_16 : decode cX4_split 16 = .ok (.aload_n 0, 1) := by decide +kernel
theorem dX4_split_17 : decode cX4_split 17 = .ok (.getfield 12, 3) := by decide +kernel
theorem dX4_split_20 : decode cX4_split 20 = .ok (.invokevirtual 104, 3) := by decide +kernel
theorem dX4_split_23 : decode cX4_split 23 = .ok (.ireturn, 1) := by decide +kernel
set_option maxRecDepth 20000 in
theorem ggX4_begin_X4_saveState : GoodIn wsX4_begin wsX4_saveState := goodIn_r _ [7, 8, 1, 9, 10, 11, 12, 6, 13, 14, 15, 16, 17, 18, 19, 20, 21, 22, 23, 24, 25, 26, 27, 28, 29, 30, 31, 32, 33, 34, 35, 40, 41, 42, 43, 44, 45, 46, 47, 48, 49, 50, 51, 52, 53, 54, 55, 56, 57, 58] (by decide +kernel) (by decide +kernel)
set_option maxRecDepth 20000 in
theorem gX4_begin_X4_saveState : GoodIn wsX4_begin (wsV RX4 71 RX4 yX4_saveState wsX4_saveState) := goodIn_app (goodIn_of _ (by decide +kernel)) ggX4_begin_X4_saveState
set_option maxRecDepth 20000 in
theorem ggX4_begin_X1_beginAnew : GoodIn wsX4_begin wsX1_beginAnew := goodIn_r _ [39, 33, 30, 22, 49, 50, 51, 52, 53, 54, 55, 56, 57, 58] (by decide +kernel) (by decide +kernel)
set_option maxRecDepth 20000 in
theorem gX4_begin_X1_beginAnew : GoodIn wsX4_begin (wsV RX4 77 RX1 yX1_beginAnew wsX1_beginAnew) := goodIn_app (goodIn_of _ (by decide +kernel)) ggX4_begin_X1_beginAnew
theorem dX4_begin_0 : decode cX4_begin 0 = .ok (.aload_n 0, 1) := by decide +kernel
theorem dX4_begin_1 : decode cX4_begin 1 = .ok (.invokevirtual 71, 3) := by decide +kernel
theorem dX4_begin_4 : decode cX4_begin 4 = .ok (.aload_n 0, 1) := by decide +kernel
theorem dX4_begin_5 : decode cX4_begin 5 = .ok (.getfield 12, 3) := by decide +kernel
theorem dX4_begin_8 : decode cX4_begin 8 = .ok (.getfield 107, 3) := by decide +kernel
theorem dX4_begin_11 : decode cX4_begin 11 = .ok (.istore_n 1, 1) := by decide +kernel
theorem dX4_begin_12 : decode cX4_begin 12 = .ok (.aload_n 0, 1) := by decide +kernel
theorem dX4_begin_13 : decode cX4_begin 13 = .ok (.getfield 12, 3) := by decide +kernel
theorem dX4_begin_16 : decode cX4_begin 16 = .ok (.invokevirtual 77, 3) := by decide +kernel
theorem dX4_begin_19 : decode cX4_begin 19 = .ok (.iload_n 1, 1) := by decide +kernel
theorem dX4_begin_20 : decode cX4_begin 20 = .ok (.ireturn, 1) := by decide +kernel
set_option maxRecDepth 20000 in
theorem ggX4_keep_X4_isSlot : GoodIn wsX4_keep wsX4_isSlot := goodIn_r _ [9] (by decide +kernel) (by decide +kernel)
set_option maxRecDepth 20000 in
theorem gX4_keep_X4_isSlot : GoodIn wsX4_keep (va_wsS RX4 143 yX4_isSlot wsX4_isSlot) := goodIn_app (goodIn_of _ (by decide +kernel)) ggX4_keep_X4_isSlot
set_option maxRecDepth 20000 in
theorem ggX4_keep_X4_copyState : GoodIn wsX4_keep wsX4_copyState := goodIn_r _ [12, 13, 14, 15, 16, 17, 18, 19, 20, 21, 22, 23, 24, 25, 26, 27, 28, 29, 30, 31, 52, 53, 54, 55, 56, 57, 58, 59, 60, 61] (by decide +kernel) (by decide +kernel)
set_option maxRecDepth 20000 in
theorem gX4_keep_X4_copyState : GoodIn wsX4_keep (va_wsS RX4 148 yX4_copyState wsX4_copyState) := goodIn_app (goodIn_of _ (by decide +kernel)) ggX4_keep_X4_copyState
set_option maxRecDepth 20000 in
theorem ggX4_keep_X1_countJoins : GoodIn wsX4_keep wsX1_countJoins := goodIn_r _ [35, 20, 36, 37, 38, 39, 40, 41, 42, 52, 53, 54, 55, 56, 57, 58, 59, 60, 61] (by decide +kernel) (by decide +kernel)
set_option maxRecDepth 20000 in
theorem gX4_keep_X1_countJoins : GoodIn wsX4_keep (wsV RX4 140 RX1 yX1_countJoins wsX1_countJoins) := goodIn_app (goodIn_of _ (by decide +kernel)) ggX4_keep_X1_countJoins
theorem dX4_keep_0 : decode cX4_keep 0 = .ok (.iload_n 1, 1) := by decide +kernel
theorem dX4_keep_1 : decode cX4_keep 1 = .ok (.invokestatic 143, 3) := by decide +kernel
theorem dX4_keep_4 : decode cX4_keep 4 = .ok (.ifCond .ne 13, 3) := by decide +kernel
theorem dX4_keep_7 : decode cX4_keep 7 = .ok (.new 66, 3) := by decide +kernel
theorem dX4_keep_10 : decode cX4_keep 10 = .ok (.dup, 1) := by decide +kernel
theorem dX4_keep_11 : decode cX4_keep 11 = .ok (.ldc 146, 2) := by decide +kernel
theorem dX4_keep_13 : decode cX4_keep 13 = .ok (.invokespecial 70, 3) := by decide +kernel
theorem dX4_keep_16 : decode cX4_keep 16 = .ok (.athrow, 1) := by decide +kernel
theorem dX4_keep_17 : decode cX4_keep 17 = .ok (.aload_n 0, 1) := by decide +kernel
theorem dX4_keep_18 : decode cX4_keep 18 = .ok (.getfield 12, 3) := by decide +kernel
theorem dX4_keep_21 : decode cX4_keep 21 = .ok (.aload_n 0, 1) := by decide +kernel
theorem dX4_keep_22 : decode cX4_keep 22 = .ok (.getfield 23, 3) := by decide +kernel
theorem dX4_keep_25 : decode cX4_keep 25 = .ok (.iload_n 1, 1) := by decide +kernel
theorem dX4_keep_26 : decode cX4_keep 26 = .ok (.aaload, 1) := by decide +kernel
theorem dX4_keep_27 : decode cX4_keep 27 = .ok (.invokestatic 148, 3) := by decide +kernel
theorem dX4_keep_30 : decode cX4_keep 30 = .ok (.aload_n 0, 1) := by decide +kernel
theorem dX4_keep_31 : decode cX4_keep 31 = .ok (.getfield 26, 3) := by decide +kernel
theorem dX4_keep_34 : decode cX4_keep 34 = .ok (.iload_n 1, 1) := by decide +kernel
theorem dX4_keep_35 : decode cX4_keep 35 = .ok (.iconst 1, 1) := by decide +kernel
theorem dX4_keep_36 : decode cX4_keep 36 = .ok (.bastore, 1) := by decide +kernel
theorem dX4_keep_37 : decode cX4_keep 37 = .ok (.aload_n 0, 1) := by decide +kernel
theorem dX4_keep_38 : decode cX4_keep 38 = .ok (.getfield 12, 3) := by decide +kernel
theorem dX4_keep_41 : decode cX4_keep 41 = .ok (.invokevirtual 140, 3) := by decide +kernel
theorem dX4_keep_44 : decode cX4_keep 44 = .ok (.ireturn, 1) := by decide +kernel
set_option maxRecDepth 20000 in
theorem ggX4_goBack_X4_isSlot : GoodIn wsX4_goBack wsX4_isSlot := goodIn_r _ [11] (by decide +kernel) (by decide +kernel)
set_option maxRecDepth 20000 in
theorem gX4_goBack_X4_isSlot : GoodIn wsX4_goBack (va_wsS RX4 143 yX4_isSlot wsX4_isSlot) := goodIn_app (goodIn_of _ (by decide +kernel)) ggX4_goBack_X4_isSlot
set_option maxRecDepth 20000 in
theorem ggX4_goBack_X4_saveState : GoodIn wsX4_goBack wsX4_saveState := goodIn_r _ [15, 16, 7, 17, 18, 19, 20, 10, 21, 22, 23, 24, 25, 26, 27, 28, 29, 30, 31, 32, 33, 34, 35, 36, 37, 38, 39, 40, 41, 42, 43, 55, 56, 57, 58, 59, 60, 61, 62, 63, 64, 65, 66, 67, 68, 69, 70, 71, 72, 73] (by decide +kernel) (by decide +kernel)
set_option maxRecDepth 20000 in
theorem gX4_goBack_X4_saveState : GoodIn wsX4_goBack (wsV RX4 71 RX4 yX4_saveState wsX4_saveState) := goodIn_app (goodIn_of _ (by decide +kernel)) ggX4_goBack_X4_saveState
set_option maxRecDepth 20000 in
theorem ggX4_goBack_X4_copyState : GoodIn wsX4_goBack wsX4_copyState := goodIn_r _ [24, 25, 26, 27, 28, 29, 30, 31, 32, 33, 34, 35, 36, 37, 38, 39, 40, 41, 42, 43, 64, 65, 66, 67, 68, 69, 70, 71, 72, 73] (by decide +kernel) (by decide +kernel)
set_option maxRecDepth 20000 in
theorem gX4_goBack_X4_copyState : GoodIn wsX4_goBack (va_wsS RX4 148 yX4_copyState wsX4_copyState) := goodIn_app (goodIn_of _ (by decide +kernel)) ggX4_goBack_X4_copyState
set_option maxRecDepth 20000 in
theorem ggX4_goBack_X1_countJoins : GoodIn wsX4_goBack wsX1_countJoins := goodIn_r _ [47, 32, 48, 49, 50, 51, 52, 53, 54, 64, 65, 66, 67, 68, 69, 70, 71, 72, 73] (by decide +kernel) (by decide +kernel)
set_option maxRecDepth 20000 in
theorem gX4_goBack_X1_countJoins : GoodIn wsX4_goBack (wsV RX4 140 RX1 yX1_countJoins wsX1_countJoins) := goodIn_app (goodIn_of _ (by decide +kernel)) ggX4_goBack_X1_countJoins
theorem dX4_goBack_0 : decode cX4_goBack 0 = .ok (.iload_n 1, 1) := by decide +kernel
theorem dX4_goBack_1 : decode cX4_goBack 1 = .ok (.invokestatic 143, 3) := by decide +kernel
theorem dX4_goBack_4 : decode cX4_goBack 4 = .ok (.ifCond .ne 13, 3) := by decide +kernel
theorem dX4_goBack_7 : decode cX4_goBack 7 = .ok (.new 66, 3) := by decide +kernel
theorem dX4_goBack_10 : decode cX4_goBack 10 = .ok (.dup, 1) := by decide +kernel
theorem dX4_goBack_11 : decode cX4_goBack 11 = .ok (.ldc 146, 2) := by decide +kernel
theorem dX4_goBack_13 : decode cX4_goBack 13 = .ok (.invokespecial 70, 3) := by decide +kernel
theorem dX4_goBack_16 : decode cX4_goBack 16 = .ok (.athrow, 1) := by decide +kernel
theorem dX4_goBack_17 : decode cX4_goBack 17 = .ok (.aload_n 0, 1) := by decide +kernel
theorem dX4_goBack_18 : decode cX4_goBack 18 = .ok (.getfield 26, 3) := by decide +kernel
theorem dX4_goBack_21 : decode cX4_goBack 21 = .ok (.iload_n 1, 1) := by decide +kernel
theorem dX4_goBack_22 : decode cX4_goBack 22 = .ok (.baload, 1) := by decide +kernel
theorem dX4_goBack_23 : decode cX4_goBack 23 = .ok (.ifCond .ne 13, 3) := by decide +kernel
theorem dX4_goBack_26 : decode cX4_goBack 26 = .ok (.new 116, 3) := by decide +kernel
theorem dX4_goBack_29 : decode cX4_goBack 29 = .ok (.dup, 1) := by decide +kernel
theorem dX4_goBack_30 : decode cX4_goBack 30 = .ok (.ldc 152, 2) := by decide +kernel
theorem dX4_goBack_32 : decode cX4_goBack 32 = .ok (.invokespecial 120, 3) := by decide +kernel
theorem dX4_goBack_35 : decode cX4_goBack 35 = .ok (.athrow, 1) := by decide +kernel
theorem dX4_goBack_36 : decode cX4_goBack 36 = .ok (.aload_n 0, 1) := by decide +kernel
theorem dX4_goBack_37 : decode cX4_goBack 37 = .ok (.invokevirtual 71, 3) := by decide +kernel
theorem dX4_goBack_40 : decode cX4_goBack 40 = .ok (.aload_n 0, 1) := by decide +kernel
theorem dX4_goBack_41 : decode cX4_goBack 41 = .ok (.getfield 23, 3) := by decide +kernel
theorem dX4_goBack_44 : decode cX4_goBack 44 = .ok (.iload_n 1, 1) := by decide +kernel
theorem dX4_goBack_45 : decode cX4_goBack 45 = .ok (.aaload, 1) := by decide +kernel
theorem dX4_goBack_46 : decode cX4_goBack 46 = .ok (.aload_n 0, 1) := by decide +kernel
theorem dX4_goBack_47 : decode cX4_goBack 47 = .ok (.getfield 12, 3) := by decide +kernel
theorem dX4_goBack_50 : decode cX4_goBack 50 = .ok (.invokestatic 148, 3) := by decide +kernel
theorem dX4_goBack_53 : decode cX4_goBack 53 = .ok (.aload_n 0, 1) := by decide +kernel
theorem dX4_goBack_54 : decode cX4_goBack 54 = .ok (.getfield 12, 3) := by decide +kernel
theorem dX4_goBack_57 : decode cX4_goBack 57 = .ok (.invokevirtual 140, 3) := by decide +kernel
theorem dX4_goBack_60 : decode cX4_goBack 60 = .ok (.ireturn, 1) := by decide +kernel
set_option maxRecDepth 20000 in
theorem ggX4_undo_X4_copyState : GoodIn wsX4_undo wsX4_copyState := goodIn_r _ [9, 10, 11, 12, 13, 14, 15, 16, 17, 18, 19, 20, 21, 22, 23, 24, 25, 26, 27, 28, 38, 39, 40, 41, 42, 43, 44, 45, 46, 47] (by decide +kernel) (by decide +kernel)
set_option maxRecDepth 20000 in
theorem gX4_undo_X4_copyState : GoodIn wsX4_undo (va_wsS RX4 148 yX4_copyState wsX4_copyState) := goodIn_app (goodIn_of _ (by decide +kernel)) ggX4_undo_X4_copyState
theorem dX4_undo_0 : decode cX4_undo 0 = .ok (.aload_n 0, 1) := by decide +kernel
theorem dX4_undo_1 : decode cX4_undo 1 = .ok (.getfield 154, 3) := by decide +kernel
theorem dX4_undo_4 : decode cX4_undo 4 = .ok (.iconst 1, 1) := by decide +kernel
theorem dX4_undo_5 : decode cX4_undo 5 = .ok (.if_icmp .lt 12, 3) := by decide +kernel
theorem dX4_undo_8 : decode cX4_undo 8 = .ok (.aload_n 0, 1) := by decide +kernel
theorem dX4_undo_9 : decode cX4_undo 9 = .ok (.getfield 154, 3) := by decide +kernel
theorem dX4_undo_12 : decode cX4_undo 12 = .ok (.bipush 6, 2) := by decide +kernel
theorem dX4_undo_14 : decode cX4_undo 14 = .ok (.if_icmp .le 13, 3) := by decide +kernel
theorem dX4_undo_17 : decode cX4_undo 17 = .ok (.new 116, 3) := by decide +kernel
theorem dX4_undo_20 : decode cX4_undo 20 = .ok (.dup, 1) := by decide +kernel
theorem dX4_undo_21 : decode cX4_undo 21 = .ok (.ldc 157, 2) := by decide +kernel
theorem dX4_undo_23 : decode cX4_undo 23 = .ok (.invokespecial 120, 3) := by decide +kernel
theorem dX4_undo_26 : decode cX4_undo 26 = .ok (.athrow, 1) := by decide +kernel
theorem dX4_undo_27 : decode cX4_undo 27 = .ok (.aload_n 0, 1) := by decide +kernel
theorem dX4_undo_28 : decode cX4_undo 28 = .ok (.dup, 1) := by decide +kernel
theorem dX4_undo_29 : decode cX4_undo 29 = .ok (.getfield 154, 3) := by decide +kernel
theorem dX4_undo_32 : decode cX4_undo 32 = .ok (.iconst 1, 1) := by decide +kernel
theorem dX4_undo_33 : decode cX4_undo 33 = .ok (.isub, 1) := by decide +kernel
theorem dX4_undo_34 : decode cX4_undo 34 = .ok (.putfield 154, 3) := by decide +kernel
theorem dX4_undo_37 : decode cX4_undo 37 = .ok (.aload_n 0, 1) := by decide +kernel
theorem dX4_undo_38 : decode cX4_undo 38 = .ok (.getfield 19, 3) := by decide +kernel
theorem dX4_undo_41 : decode cX4_undo 41 = .ok (.aload_n 0, 1) := by decide +kernel
theorem dX4_undo_42 : decode cX4_undo 42 = .ok (.getfield 154, 3) := by decide +kernel
theorem dX4_undo_45 : decode cX4_undo 45 = .ok (.aaload, 1) := by decide +kernel
theorem dX4_undo_46 : decode cX4_undo 46 = .ok (.aload_n 0, 1) := by decide +kernel
theorem dX4_undo_47 : decode cX4_undo 47 = .ok (.getfield 12, 3) := by decide +kernel
theorem dX4_undo_50 : decode cX4_undo 50 = .ok (.invokestatic 148, 3) := by decide +kernel
theorem dX4_undo_53 : decode cX4_undo 53 = .ok (.aload_n 0, 1) := by decide +kernel
theorem dX4_undo_54 : decode cX4_undo 54 = .ok (.getfield 154, 3) := by decide +kernel
theorem dX4_undo_57 : decode cX4_undo 57 = .ok (.ireturn, 1) := by decide +kernel
set_option maxRecDepth 20000 in
theorem ggX4_pieceOf_X4_isPiece : GoodIn wsX4_pieceOf wsX4_isPiece := goodIn_r _ [19] (by decide +kernel) (by decide +kernel)
set_option maxRecDepth 20000 in
theorem gX4_pieceOf_X4_isPiece : GoodIn wsX4_pieceOf (va_wsS RX4 55 yX4_isPiece wsX4_isPiece) := goodIn_app (goodIn_of _ (by decide +kernel)) ggX4_pieceOf_X4_isPiece
set_option maxRecDepth 20000 in
theorem ggX4_pieceOf_X1_countJoinsTo : GoodIn wsX4_pieceOf wsX1_countJoinsTo := goodIn_r _ [24, 25, 26, 18, 27, 90, 91, 92, 93, 94, 95, 96, 97, 98, 99] (by decide +kernel) (by decide +kernel)
set_option maxRecDepth 20000 in
theorem gX4_pieceOf_X1_countJoinsTo : GoodIn wsX4_pieceOf (wsV RX4 162 RX1 yX1_countJoinsTo wsX1_countJoinsTo) := goodIn_app (goodIn_of _ (by decide +kernel)) ggX4_pieceOf_X1_countJoinsTo
set_option maxRecDepth 20000 in
theorem ggX4_pieceOf_J6_bitCount_0f7a4 : GoodIn wsX4_pieceOf wsJ6_bitCount_0f7a4 := goodIn_r _ [31, 32, 33, 34] (by decide +kernel) (by decide +kernel)
set_option maxRecDepth 20000 in
theorem gX4_pieceOf_J6_bitCount_0f7a4 : GoodIn wsX4_pieceOf (va_wsS RX4 166 yJ6_bitCount_0f7a4 wsJ6_bitCount_0f7a4) := goodIn_app (goodIn_of _ (by decide +kernel)) ggX4_pieceOf_J6_bitCount_0f7a4
set_option maxRecDepth 20000 in
theorem ggX4_pieceOf_X0_findBehind : GoodIn wsX4_pieceOf wsX0_findBehind := goodIn_r _ [39, 40, 41, 26, 18, 27, 100, 101, 102, 90, 91, 92, 93, 94, 95, 96, 97, 98, 99] (by decide +kernel) (by decide +kernel)
set_option maxRecDepth 20000 in
theorem gX4_pieceOf_X0_findBehind : GoodIn wsX4_pieceOf (wsV RX4 171 RX0 yX0_findBehind wsX0_findBehind) := goodIn_app (goodIn_of _ (by decide +kernel)) ggX4_pieceOf_X0_findBehind
set_option maxRecDepth 20000 in
theorem ggX4_pieceOf_X3_list : GoodIn wsX4_pieceOf wsX3_list := goodIn_r _ [46, 47, 48, 49, 50, 51, 52, 45, 53, 54, 55, 56, 57, 58, 23, 59, 60, 61, 25, 62, 63, 64, 65, 66, 17, 18, 19, 26, 27, 67, 68, 69, 70, 71, 72, 73, 74, 75, 76, 103, 104, 105, 106, 107, 108, 90, 91, 92, 93, 94, 95, 96, 97, 98, 99] (by decide +kernel) (by decide +kernel)
set_option maxRecDepth 20000 in
theorem gX4_pieceOf_X3_list : GoodIn wsX4_pieceOf (wsV RX4 96 RX3 yX3_list wsX3_list) := goodIn_app (goodIn_of _ (by decide +kernel)) ggX4_pieceOf_X3_list
set_option maxRecDepth 20000 in
theorem ggX4_pieceOf_X4_countWith : GoodIn wsX4_pieceOf wsX4_countWith := goodIn_r _ [79, 80, 26, 18, 27] (by decide +kernel) (by decide +kernel)
set_option maxRecDepth 20000 in
theorem gX4_pieceOf_X4_countWith : GoodIn wsX4_pieceOf (va_wsS RX4 183 yX4_countWith wsX4_countWith) := goodIn_app (goodIn_of _ (by decide +kernel)) ggX4_pieceOf_X4_countWith
theorem dX4_pieceOf_0 : decode cX4_pieceOf 0 = .ok (.iload_n 1, 1) := by decide +kernel
theorem dX4_pieceOf_1 : decode cX4_pieceOf 1 = .ok (.invokestatic 55, 3) := by decide +kernel
theorem dX4_pieceOf_4 : decode cX4_pieceOf 4 = .ok (.ifCond .ne 13, 3) := by decide +kernel
theorem dX4_pieceOf_7 : decode cX4_pieceOf 7 = .ok (.new 59, 3) := by decide +kernel
theorem dX4_pieceOf_10 : decode cX4_pieceOf 10 = .ok (.dup, 1) := by decide +kernel
theorem dX4_pieceOf_11 : decode cX4_pieceOf 11 = .ok (.ldc 61, 2) := by decide +kernel
theorem dX4_pieceOf_13 : decode cX4_pieceOf 13 = .ok (.invokespecial 63, 3) := by decide +kernel
theorem dX4_pieceOf_16 : decode cX4_pieceOf 16 = .ok (.athrow, 1) := by decide +kernel
theorem dX4_pieceOf_17 : decode cX4_pieceOf 17 = .ok (.iload_n 2, 1) := by decide +kernel
theorem dX4_pieceOf_18 : decode cX4_pieceOf 18 = .ok (.tableswitch 162 0 7 #[46, 56, 66, 76, 85, 98, 122, 152], 46) := by decide +kernel
theorem dX4_pieceOf_64 : decode cX4_pieceOf 64 = .ok (.aload_n 0, 1) := by decide +kernel
theorem dX4_pieceOf_65 : decode cX4_pieceOf 65 = .ok (.getfield 12, 3) := by decide +kernel
theorem dX4_pieceOf_68 : decode cX4_pieceOf 68 = .ok (.getfield 74, 3) := by decide +kernel
theorem dX4_pieceOf_71 : decode cX4_pieceOf 71 = .ok (.iload_n 1, 1) := by decide +kernel
theorem dX4_pieceOf_72 : decode cX4_pieceOf 72 = .ok (.iaload, 1) := by decide +kernel
theorem dX4_pieceOf_73 : decode cX4_pieceOf 73 = .ok (.ireturn, 1) := by decide +kernel
theorem dX4_pieceOf_74 : decode cX4_pieceOf 74 = .ok (.aload_n 0, 1) := by decide +kernel
theorem dX4_pieceOf_75 : decode cX4_pieceOf 75 = .ok (.getfield 12, 3) := by decide +kernel
theorem dX4_pieceOf_78 : decode cX4_pieceOf 78 = .ok (.getfield 159, 3) := by decide +kernel
theorem dX4_pieceOf_81 : decode cX4_pieceOf 81 = .ok (.iload_n 1, 1) := by decide +kernel
theorem dX4_pieceOf_82 : decode cX4_pieceOf 82 = .ok (.iaload, 1) := by decide +kernel
theorem dX4_pieceOf_83 : decode cX4_pieceOf 83 = .ok (.ireturn, 1) := by decide +kernel
theorem dX4_pieceOf_84 : decode cX4_pieceOf 84 = .ok (.aload_n 0, 1) := by decide +kernel
theorem dX4_pieceOf_85 : decode cX4_pieceOf 85 = .ok (.getfield 12, 3) := by decide +kernel
theorem dX4_pieceOf_88 : decode cX4_pieceOf 88 = .ok (.getfield 51, 3) := by decide +kernel
theorem dX4_pieceOf_91 : decode cX4_pieceOf 91 = .ok (.iload_n 1, 1) := by decide +kernel
theorem dX4_pieceOf_92 : decode cX4_pieceOf 92 = .ok (.iaload, 1) := by decide +kernel
theorem dX4_pieceOf_93 : decode cX4_pieceOf 93 = .ok (.ireturn, 1) := by decide +kernel
theorem dX4_pieceOf_94 : decode cX4_pieceOf 94 = .ok (.aload_n 0, 1) := by decide +kernel
theorem dX4_pieceOf_95 : decode cX4_pieceOf 95 = .ok (.getfield 12, 3) := by decide +kernel
theorem dX4_pieceOf_98 : decode cX4_pieceOf 98 = .ok (.iload_n 1, 1) := by decide +kernel
theorem dX4_pieceOf_99 : decode cX4_pieceOf 99 = .ok (.invokevirtual 162, 3) := by decide +kernel
theorem dX4_pieceOf_102 : decode cX4_pieceOf 102 = .ok (.ireturn, 1) := by decide +kernel
theorem dX4_pieceOf_103 : decode cX4_pieceOf 103 = .ok (.aload_n 0, 1) := by decide +kernel
theorem dX4_pieceOf_104 : decode cX4_pieceOf 104 = .ok (.getfield 12, 3) := by decide +kernel
theorem dX4_pieceOf_107 : decode cX4_pieceOf 107 = .ok (.getfield 82, 3) := by decide +kernel
theorem dX4_pieceOf_110 : decode cX4_pieceOf 110 = .ok (.iload_n 1, 1) := by decide +kernel
theorem dX4_pieceOf_111 : decode cX4_pieceOf 111 = .ok (.iaload, 1) := by decide +kernel
theorem dX4_pieceOf_112 : decode cX4_pieceOf 112 = .ok (.invokestatic 166, 3) := by decide +kernel
theorem dX4_pieceOf_115 : decode cX4_pieceOf 115 = .ok (.ireturn, 1) := by decide +kernel
theorem dX4_pieceOf_116 : decode cX4_pieceOf 116 = .ok (.aload_n 0, 1) := by decide +kernel
theorem dX4_pieceOf_117 : decode cX4_pieceOf 117 = .ok (.getfield 47, 3) := by decide +kernel
theorem dX4_pieceOf_120 : decode cX4_pieceOf 120 = .ok (.aload_n 0, 1) := by decide +kernel
theorem dX4_pieceOf_121 : decode cX4_pieceOf 121 = .ok (.getfield 12, 3) := by decide +kernel
theorem dX4_pieceOf_124 : decode cX4_pieceOf 124 = .ok (.invokevirtual 171, 3) := by decide +kernel
theorem dX4_pieceOf_127 : decode cX4_pieceOf 127 = .ok (.aload_n 0, 1) := by decide +kernel
theorem dX4_pieceOf_128 : decode cX4_pieceOf 128 = .ok (.getfield 47, 3) := by decide +kernel
theorem dX4_pieceOf_131 : decode cX4_pieceOf 131 = .ok (.getfield 174, 3) := by decide +kernel
theorem dX4_pieceOf_134 : decode cX4_pieceOf 134 = .ok (.iload_n 1, 1) := by decide +kernel
theorem dX4_pieceOf_135 : decode cX4_pieceOf 135 = .ok (.iaload, 1) := by decide +kernel
theorem dX4_pieceOf_136 : decode cX4_pieceOf 136 = .ok (.invokestatic 166, 3) := by decide +kernel
theorem dX4_pieceOf_139 : decode cX4_pieceOf 139 = .ok (.ireturn, 1) := by decide +kernel
theorem dX4_pieceOf_140 : decode cX4_pieceOf 140 = .ok (.aload_n 0, 1) := by decide +kernel
theorem dX4_pieceOf_141 : decode cX4_pieceOf 141 = .ok (.getfield 40, 3) := by decide +kernel
theorem dX4_pieceOf_144 : decode cX4_pieceOf 144 = .ok (.aload_n 0, 1) := by decide +kernel
theorem dX4_pieceOf_145 : decode cX4_pieceOf 145 = .ok (.getfield 12, 3) := by decide +kernel
theorem dX4_pieceOf_148 : decode cX4_pieceOf 148 = .ok (.invokevirtual 96, 3) := by decide +kernel
theorem dX4_pieceOf_151 : decode cX4_pieceOf 151 = .ok (.aload_n 0, 1) := by decide +kernel
theorem dX4_pieceOf_152 : decode cX4_pieceOf 152 = .ok (.getfield 40, 3) := by decide +kernel
theorem dX4_pieceOf_155 : decode cX4_pieceOf 155 = .ok (.getfield 177, 3) := by decide +kernel
theorem dX4_pieceOf_158 : decode cX4_pieceOf 158 = .ok (.aload_n 0, 1) := by decide +kernel
theorem dX4_pieceOf_159 : decode cX4_pieceOf 159 = .ok (.getfield 40, 3) := by decide +kernel
theorem dX4_pieceOf_162 : decode cX4_pieceOf 162 = .ok (.getfield 180, 3) := by decide +kernel
theorem dX4_pieceOf_165 : decode cX4_pieceOf 165 = .ok (.iload_n 1, 1) := by decide +kernel
theorem dX4_pieceOf_166 : decode cX4_pieceOf 166 = .ok (.invokestatic 183, 3) := by decide +kernel
theorem dX4_pieceOf_169 : decode cX4_pieceOf 169 = .ok (.ireturn, 1) := by decide +kernel
theorem dX4_pieceOf_170 : decode cX4_pieceOf 170 = .ok (.aload_n 0, 1) := by decide +kernel
theorem dX4_pieceOf_171 : decode cX4_pieceOf 171 = .ok (.getfield 12, 3) := by decide +kernel
theorem dX4_pieceOf_174 : decode cX4_pieceOf 174 = .ok (.getfield 93, 3) := by decide +kernel
theorem dX4_pieceOf_177 : decode cX4_pieceOf 177 = .ok (.iload_n 1, 1) := by decide +kernel
theorem dX4_pieceOf_178 : decode cX4_pieceOf 178 = .ok (.iaload, 1) := by decide +kernel
theorem dX4_pieceOf_179 : decode cX4_pieceOf 179 = .ok (.ireturn, 1) := by decide +kernel
theorem dX4_pieceOf_180 : decode cX4_pieceOf 180 = .ok (.new 66, 3) := by decide +kernel
theorem dX4_pieceOf_183 : decode cX4_pieceOf 183 = .ok (.dup, 1) := by decide +kernel
theorem dX4_pieceOf_184 : decode cX4_pieceOf 184 = .ok (.ldc 187, 2) := by decide +kernel
theorem dX4_pieceOf_186 : decode cX4_pieceOf 186 = .ok (.invokespecial 70, 3) := by decide +kernel
theorem dX4_pieceOf_189 : decode cX4_pieceOf 189 = .ok (.athrow, 1) := by decide +kernel
set_option maxRecDepth 20000 in
theorem ggX4_isJoined_X4_isPiece : GoodIn wsX4_isJoined wsX4_isPiece := goodIn_r _ [8] (by decide +kernel) (by decide +kernel)
set_option maxRecDepth 20000 in
theorem gX4_isJoined_X4_isPiece : GoodIn wsX4_isJoined (va_wsS RX4 55 yX4_isPiece wsX4_isPiece) := goodIn_app (goodIn_of _ (by decide +kernel)) ggX4_isJoined_X4_isPiece
set_option maxRecDepth 20000 in
theorem ggX4_isJoined_X4_bit : GoodIn wsX4_isJoined wsX4_bit := goodIn_r _ [11] (by decide +kernel) (by decide +kernel)
set_option maxRecDepth 20000 in
theorem gX4_isJoined_X4_bit : GoodIn wsX4_isJoined (va_wsS RX4 85 yX4_bit wsX4_bit) := goodIn_app (goodIn_of _ (by decide +kernel)) ggX4_isJoined_X4_bit
theorem dX4_isJoined_0 : decode cX4_isJoined 0 = .ok (.iload_n 1, 1) := by decide +kernel
theorem dX4_isJoined_1 : decode cX4_isJoined 1 = .ok (.invokestatic 55, 3) := by decide +kernel
theorem dX4_isJoined_4 : decode cX4_isJoined 4 = .ok (.ifCond .eq 10, 3) := by decide +kernel
theorem dX4_isJoined_7 : decode cX4_isJoined 7 = .ok (.iload_n 2, 1) := by decide +kernel
theorem dX4_isJoined_8 : decode cX4_isJoined 8 = .ok (.invokestatic 55, 3) := by decide +kernel
theorem dX4_isJoined_11 : decode cX4_isJoined 11 = .ok (.ifCond .ne 13, 3) := by decide +kernel
theorem dX4_isJoined_14 : decode cX4_isJoined 14 = .ok (.new 59, 3) := by decide +kernel
theorem dX4_isJoined_17 : decode cX4_isJoined 17 = .ok (.dup, 1) := by decide +kernel
theorem dX4_isJoined_18 : decode cX4_isJoined 18 = .ok (.ldc 61, 2) := by decide +kernel
theorem dX4_isJoined_20 : decode cX4_isJoined 20 = .ok (.invokespecial 63, 3) := by decide +kernel
theorem dX4_isJoined_23 : decode cX4_isJoined 23 = .ok (.athrow, 1) := by decide +kernel
theorem dX4_isJoined_24 : decode cX4_isJoined 24 = .ok (.aload_n 0, 1) := by decide +kernel
theorem dX4_isJoined_25 : decode cX4_isJoined 25 = .ok (.getfield 12, 3) := by decide +kernel
theorem dX4_isJoined_28 : decode cX4_isJoined 28 = .ok (.getfield 82, 3) := by decide +kernel
theorem dX4_isJoined_31 : decode cX4_isJoined 31 = .ok (.iload_n 1, 1) := by decide +kernel
theorem dX4_isJoined_32 : decode cX4_isJoined 32 = .ok (.iaload, 1) := by decide +kernel
theorem dX4_isJoined_33 : decode cX4_isJoined 33 = .ok (.iload_n 2, 1) := by decide +kernel
theorem dX4_isJoined_34 : decode cX4_isJoined 34 = .ok (.invokestatic 85, 3) := by decide +kernel
theorem dX4_isJoined_37 : decode cX4_isJoined 37 = .ok (.ireturn, 1) := by decide +kernel
set_option maxRecDepth 20000 in
theorem ggX4_noted_J6_bitCount_0f7a4 : GoodIn wsX4_noted wsJ6_bitCount_0f7a4 := goodIn_r _ [10, 11, 12, 13] (by decide +kernel) (by decide +kernel)
set_option maxRecDepth 20000 in
theorem gX4_noted_J6_bitCount_0f7a4 : GoodIn wsX4_noted (va_wsS RX4 166 yJ6_bitCount_0f7a4 wsJ6_bitCount_0f7a4) := goodIn_app (goodIn_of _ (by decide +kernel)) ggX4_noted_J6_bitCount_0f7a4
theorem dX4_noted_0 : decode cX4_noted 0 = .ok (.iload_n 1, 1) := by decide +kernel
theorem dX4_noted_1 : decode cX4_noted 1 = .ok (.ifCond .lt 12, 3) := by decide +kernel
theorem dX4_noted_4 : decode cX4_noted 4 = .ok (.iload_n 2, 1) := by decide +kernel
theorem dX4_noted_5 : decode cX4_noted 5 = .ok (.ifCond .lt 8, 3) := by decide +kernel
theorem dX4_noted_8 : decode cX4_noted 8 = .ok (.iload_n 2, 1) := by decide +kernel
theorem dX4_noted_9 : decode cX4_noted 9 = .ok (.iconst 3, 1) := by decide +kernel
theorem dX4_noted_10 : decode cX4_noted 10 = .ok (.if_icmp .lt 13, 3) := by decide +kernel
theorem dX4_noted_13 : decode cX4_noted 13 = .ok (.new 66, 3) := by decide +kernel
theorem dX4_noted_16 : decode cX4_noted 16 = .ok (.dup, 1) := by decide +kernel
theorem dX4_noted_17 : decode cX4_noted 17 = .ok (.ldc 189, 2) := by decide +kernel
theorem dX4_noted_19 : decode cX4_noted 19 = .ok (.invokespecial 70, 3) := by decide +kernel
theorem dX4_noted_22 : decode cX4_noted 22 = .ok (.athrow, 1) := by decide +kernel
theorem dX4_noted_23 : decode cX4_noted 23 = .ok (.iload_n 1, 1) := by decide +kernel
theorem dX4_noted_24 : decode cX4_noted 24 = .ok (.aload_n 0, 1) := by decide +kernel
theorem dX4_noted_25 : decode cX4_noted 25 = .ok (.getfield 12, 3) := by decide +kernel
theorem dX4_noted_28 : decode cX4_noted 28 = .ok (.getfield 107, 3) := by decide +kernel
theorem dX4_noted_31 : decode cX4_noted 31 = .ok (.if_icmp .ge 9, 3) := by decide +kernel
theorem dX4_noted_34 : decode cX4_noted 34 = .ok (.iload_n 1, 1) := by decide +kernel
theorem dX4_noted_35 : decode cX4_noted 35 = .ok (.bipush 12, 2) := by decide +kernel
theorem dX4_noted_37 : decode cX4_noted 37 = .ok (.if_icmp .lt 5, 3) := by decide +kernel
theorem dX4_noted_40 : decode cX4_noted 40 = .ok (.iconst (-1), 1) := by decide +kernel
theorem dX4_noted_41 : decode cX4_noted 41 = .ok (.ireturn, 1) := by decide +kernel
theorem dX4_noted_42 : decode cX4_noted 42 = .ok (.iload_n 2, 1) := by decide +kernel
theorem dX4_noted_43 : decode cX4_noted 43 = .ok (.ifCond .ne 13, 3) := by decide +kernel
theorem dX4_noted_46 : decode cX4_noted 46 = .ok (.aload_n 0, 1) := by decide +kernel
theorem dX4_noted_47 : decode cX4_noted 47 = .ok (.getfield 12, 3) := by decide +kernel
theorem dX4_noted_50 : decode cX4_noted 50 = .ok (.getfield 191, 3) := by decide +kernel
theorem dX4_noted_53 : decode cX4_noted 53 = .ok (.iload_n 1, 1) := by decide +kernel
theorem dX4_noted_54 : decode cX4_noted 54 = .ok (.iaload, 1) := by decide +kernel
theorem dX4_noted_55 : decode cX4_noted 55 = .ok (.ireturn, 1) := by decide +kernel
theorem dX4_noted_56 : decode cX4_noted 56 = .ok (.iload_n 2, 1) := by decide +kernel
theorem dX4_noted_57 : decode cX4_noted 57 = .ok (.iconst 1, 1) := by decide +kernel
theorem dX4_noted_58 : decode cX4_noted 58 = .ok (.if_icmp .ne 15, 3) := by decide +kernel
theorem dX4_noted_61 : decode cX4_noted 61 = .ok (.aload_n 0, 1) := by decide +kernel
theorem dX4_noted_62 : decode cX4_noted 62 = .ok (.getfield 12, 3) := by decide +kernel
theorem dX4_noted_65 : decode cX4_noted 65 = .ok (.getfield 194, 3) := by decide +kernel
theorem dX4_noted_68 : decode cX4_noted 68 = .ok (.iload_n 1, 1) := by decide +kernel
theorem dX4_noted_69 : decode cX4_noted 69 = .ok (.iaload, 1) := by decide +kernel
theorem dX4_noted_70 : decode cX4_noted 70 = .ok (.goto 15, 3) := by decide +kernel
theorem dX4_noted_73 : decode cX4_noted 73 = .ok (.aload_n 0, 1) := by decide +kernel
theorem dX4_noted_74 : decode cX4_noted 74 = .ok (.getfield 12, 3) := by decide +kernel
theorem dX4_noted_77 : decode cX4_noted 77 = .ok (.getfield 194, 3) := by decide +kernel
theorem dX4_noted_80 : decode cX4_noted 80 = .ok (.iload_n 1, 1) := by decide +kernel
theorem dX4_noted_81 : decode cX4_noted 81 = .ok (.iaload, 1) := by decide +kernel
theorem dX4_noted_82 : decode cX4_noted 82 = .ok (.invokestatic 166, 3) := by decide +kernel
theorem dX4_noted_85 : decode cX4_noted 85 = .ok (.ireturn, 1) := by decide +kernel
set_option maxRecDepth 20000 in
theorem ggX4_count_X1_countJoins : GoodIn wsX4_count wsX1_countJoins := goodIn_r _ [18, 19, 20, 21, 22, 23, 24, 25, 26, 109, 110, 111, 112, 113, 114, 115, 116, 117, 118] (by decide +kernel) (by decide +kernel)
set_option maxRecDepth 20000 in
theorem gX4_count_X1_countJoins : GoodIn wsX4_count (wsV RX4 140 RX1 yX1_countJoins wsX1_countJoins) := goodIn_app (goodIn_of _ (by decide +kernel)) ggX4_count_X1_countJoins
set_option maxRecDepth 20000 in
theorem ggX4_count_X4_sum : GoodIn wsX4_count wsX4_sum := goodIn_r _ [30] (by decide +kernel) (by decide +kernel)
set_option maxRecDepth 20000 in
theorem gX4_count_X4_sum : GoodIn wsX4_count (va_wsS RX4 197 yX4_sum wsX4_sum) := goodIn_app (goodIn_of _ (by decide +kernel)) ggX4_count_X4_sum
set_option maxRecDepth 20000 in
theorem ggX4_count_X3_addUp : GoodIn wsX4_count wsX3_addUp := goodIn_r _ [35, 36, 37, 38, 39, 29, 40, 119, 120, 121, 122, 123, 124, 109, 110, 111, 112, 113, 114, 115, 116, 117, 118] (by decide +kernel) (by decide +kernel)
set_option maxRecDepth 20000 in
theorem gX4_count_X3_addUp : GoodIn wsX4_count (wsV RX4 201 RX3 yX3_addUp wsX3_addUp) := goodIn_app (goodIn_of _ (by decide +kernel)) ggX4_count_X3_addUp
set_option maxRecDepth 20000 in
theorem ggX4_count_X3_list : GoodIn wsX4_count wsX3_list := goodIn_r _ [44, 45, 46, 37, 47, 48, 49, 34, 50, 38, 51, 52, 53, 54, 17, 55, 56, 57, 19, 58, 59, 60, 61, 62, 63, 29, 64, 39, 40, 65, 66, 67, 68, 69, 70, 71, 72, 73, 74, 119, 120, 121, 122, 123, 124, 109, 110, 111, 112, 113, 114, 115, 116, 117, 118] (by decide +kernel) (by decide +kernel)
set_option maxRecDepth 20000 in
theorem gX4_count_X3_list : GoodIn wsX4_count (wsV RX4 96 RX3 yX3_list wsX3_list) := goodIn_app (goodIn_of _ (by decide +kernel)) ggX4_count_X3_list
set_option maxRecDepth 20000 in
theorem ggX4_count_X0_findBehind : GoodIn wsX4_count wsX0_findBehind := goodIn_r _ [79, 80, 81, 39, 29, 40, 125, 126, 127, 109, 110, 111, 112, 113, 114, 115, 116, 117, 118] (by decide +kernel) (by decide +kernel)
set_option maxRecDepth 20000 in
theorem gX4_count_X0_findBehind : GoodIn wsX4_count (wsV RX4 171 RX0 yX0_findBehind wsX0_findBehind) := goodIn_app (goodIn_of _ (by decide +kernel)) ggX4_count_X0_findBehind
set_option maxRecDepth 20000 in
theorem ggX4_count_X0_countByPairing : GoodIn wsX4_count wsX0_countByPairing := goodIn_r _ [85, 86, 87, 88, 89, 78, 90, 80, 63, 29, 64, 39, 40, 125, 126, 127] (by decide +kernel) (by decide +kernel)
set_option maxRecDepth 20000 in
theorem gX4_count_X0_countByPairing : GoodIn wsX4_count (wsV RX4 207 RX0 yX0_countByPairing wsX0_countByPairing) := goodIn_app (goodIn_of _ (by decide +kernel)) ggX4_count_X0_countByPairing
set_option maxRecDepth 20000 in
theorem ggX4_count_X0_countBySets : GoodIn wsX4_count wsX0_countBySets := goodIn_r _ [94, 95, 21, 22, 23, 24, 25, 26, 96, 97, 98, 78, 99, 80, 39, 29, 40, 125, 126, 127] (by decide +kernel) (by decide +kernel)
set_option maxRecDepth 20000 in
theorem gX4_count_X0_countBySets : GoodIn wsX4_count (wsV RX4 210 RX0 yX0_countBySets wsX0_countBySets) := goodIn_app (goodIn_of _ (by decide +kernel)) ggX4_count_X0_countBySets
theorem dX4_count_0 : decode cX4_count 0 = .ok (.iload_n 1, 1) := by decide +kernel
theorem dX4_count_1 : decode cX4_count 1 = .ok (.tableswitch 210 0 11 #[63, 71, 82, 93, 101, 113, 132, 151, 170, 189, 197, 205], 63) := by decide +kernel
theorem dX4_count_64 : decode cX4_count 64 = .ok (.aload_n 0, 1) := by decide +kernel
theorem dX4_count_65 : decode cX4_count 65 = .ok (.getfield 12, 3) := by decide +kernel
theorem dX4_count_68 : decode cX4_count 68 = .ok (.invokevirtual 140, 3) := by decide +kernel
theorem dX4_count_71 : decode cX4_count 71 = .ok (.ireturn, 1) := by decide +kernel
theorem dX4_count_72 : decode cX4_count 72 = .ok (.aload_n 0, 1) := by decide +kernel
theorem dX4_count_73 : decode cX4_count 73 = .ok (.getfield 12, 3) := by decide +kernel
theorem dX4_count_76 : decode cX4_count 76 = .ok (.getfield 74, 3) := by decide +kernel
theorem dX4_count_79 : decode cX4_count 79 = .ok (.invokestatic 197, 3) := by decide +kernel
theorem dX4_count_82 : decode cX4_count 82 = .ok (.ireturn, 1) := by decide +kernel
theorem dX4_count_83 : decode cX4_count 83 = .ok (.aload_n 0, 1) := by decide +kernel
theorem dX4_count_84 : decode cX4_count 84 = .ok (.getfield 12, 3) := by decide +kernel
theorem dX4_count_87 : decode cX4_count 87 = .ok (.getfield 159, 3) := by decide +kernel
theorem dX4_count_90 : decode cX4_count 90 = .ok (.invokestatic 197, 3) := by decide +kernel
theorem dX4_count_93 : decode cX4_count 93 = .ok (.ireturn, 1) := by decide +kernel
theorem dX4_count_94 : decode cX4_count 94 = .ok (.aload_n 0, 1) := by decide +kernel
theorem dX4_count_95 : decode cX4_count 95 = .ok (.getfield 12, 3) := by decide +kernel
theorem dX4_count_98 : decode cX4_count 98 = .ok (.getfield 107, 3) := by decide +kernel
theorem dX4_count_101 : decode cX4_count 101 = .ok (.ireturn, 1) := by decide +kernel
theorem dX4_count_102 : decode cX4_count 102 = .ok (.aload_n 0, 1) := by decide +kernel
theorem dX4_count_103 : decode cX4_count 103 = .ok (.getfield 40, 3) := by decide +kernel
theorem dX4_count_106 : decode cX4_count 106 = .ok (.aload_n 0, 1) := by decide +kernel
theorem dX4_count_107 : decode cX4_count 107 = .ok (.getfield 12, 3) := by decide +kernel
theorem dX4_count_110 : decode cX4_count 110 = .ok (.invokevirtual 201, 3) := by decide +kernel
theorem dX4_count_113 : decode cX4_count 113 = .ok (.ireturn, 1) := by decide +kernel
theorem dX4_count_114 : decode cX4_count 114 = .ok (.aload_n 0, 1) := by decide +kernel
theorem dX4_count_115 : decode cX4_count 115 = .ok (.getfield 40, 3) := by decide +kernel
theorem dX4_count_118 : decode cX4_count 118 = .ok (.aload_n 0, 1) := by decide +kernel
theorem dX4_count_119 : decode cX4_count 119 = .ok (.getfield 12, 3) := by decide +kernel
theorem dX4_count_122 : decode cX4_count 122 = .ok (.invokevirtual 96, 3) := by decide +kernel
theorem dX4_count_125 : decode cX4_count 125 = .ok (.aload_n 0, 1) := by decide +kernel
theorem dX4_count_126 : decode cX4_count 126 = .ok (.getfield 40, 3) := by decide +kernel
theorem dX4_count_129 : decode cX4_count 129 = .ok (.getfield 180, 3) := by decide +kernel
theorem dX4_count_132 : decode cX4_count 132 = .ok (.ireturn, 1) := by decide +kernel
theorem dX4_count_133 : decode cX4_count 133 = .ok (.aload_n 0, 1) := by decide +kernel
theorem dX4_count_134 : decode cX4_count 134 = .ok (.getfield 40, 3) := by decide +kernel
theorem dX4_count_137 : decode cX4_count 137 = .ok (.aload_n 0, 1) := by decide +kernel
theorem dX4_count_138 : decode cX4_count 138 = .ok (.getfield 12, 3) := by decide +kernel
theorem dX4_count_141 : decode cX4_count 141 = .ok (.invokevirtual 96, 3) := by decide +kernel
theorem dX4_count_144 : decode cX4_count 144 = .ok (.aload_n 0, 1) := by decide +kernel
theorem dX4_count_145 : decode cX4_count 145 = .ok (.getfield 40, 3) := by decide +kernel
theorem dX4_count_148 : decode cX4_count 148 = .ok (.getfield 204, 3) := by decide +kernel
theorem dX4_count_151 : decode cX4_count 151 = .ok (.ireturn, 1) := by decide +kernel
theorem dX4_count_152 : decode cX4_count 152 = .ok (.aload_n 0, 1) := by decide +kernel
theorem dX4_count_153 : decode cX4_count 153 = .ok (.getfield 47, 3) := by decide +kernel
theorem dX4_count_156 : decode cX4_count 156 = .ok (.aload_n 0, 1) := by decide +kernel
theorem dX4_count_157 : decode cX4_count 157 = .ok (.getfield 12, 3) := by decide +kernel
theorem dX4_count_160 : decode cX4_count 160 = .ok (.invokevirtual 171, 3) := by decide +kernel
theorem dX4_count_163 : decode cX4_count 163 = .ok (.aload_n 0, 1) := by decide +kernel
theorem dX4_count_164 : decode cX4_count 164 = .ok (.getfield 47, 3) := by decide +kernel
theorem dX4_count_167 : decode cX4_count 167 = .ok (.invokevirtual 207, 3) := by decide +kernel
theorem dX4_count_170 : decode cX4_count 170 = .ok (.ireturn, 1) := by decide +kernel
theorem dX4_count_171 : decode cX4_count 171 = .ok (.aload_n 0, 1) := by decide +kernel
theorem dX4_count_172 : decode cX4_count 172 = .ok (.getfield 47, 3) := by decide +kernel
theorem dX4_count_175 : decode cX4_count 175 = .ok (.aload_n 0, 1) := by decide +kernel
theorem dX4_count_176 : decode cX4_count 176 = .ok (.getfield 12, 3) := by decide +kernel
theorem dX4_count_179 : decode cX4_count 179 = .ok (.invokevirtual 171, 3) := by decide +kernel
theorem dX4_count_182 : decode cX4_count 182 = .ok (.aload_n 0, 1) := by decide +kernel
theorem dX4_count_183 : decode cX4_count 183 = .ok (.getfield 47, 3) := by decide +kernel
theorem dX4_count_186 : decode cX4_count 186 = .ok (.invokevirtual 210, 3) := by decide +kernel
theorem dX4_count_189 : decode cX4_count 189 = .ok (.ireturn, 1) := by decide +kernel
theorem dX4_count_190 : decode cX4_count 190 = .ok (.aload_n 0, 1) := by decide +kernel
theorem dX4_count_191 : decode cX4_count 191 = .ok (.getfield 12, 3) := by decide +kernel
theorem dX4_count_194 : decode cX4_count 194 = .ok (.getfield 213, 3) := by decide +kernel
theorem dX4_count_197 : decode cX4_count 197 = .ok (.ireturn, 1) := by decide +kernel
theorem dX4_count_198 : decode cX4_count 198 = .ok (.aload_n 0, 1) := by decide +kernel
theorem dX4_count_199 : decode cX4_count 199 = .ok (.getfield 12, 3) := by decide +kernel
theorem dX4_count_202 : decode cX4_count 202 = .ok (.getfield 216, 3) := by decide +kernel
theorem dX4_count_205 : decode cX4_count 205 = .ok (.ireturn, 1) := by decide +kernel
theorem dX4_count_206 : decode cX4_count 206 = .ok (.aload_n 0, 1) := by decide +kernel
theorem dX4_count_207 : decode cX4_count 207 = .ok (.getfield 154, 3) := by decide +kernel
theorem dX4_count_210 : decode cX4_count 210 = .ok (.ireturn, 1) := by decide +kernel
theorem dX4_count_211 : decode cX4_count 211 = .ok (.new 66, 3) := by decide +kernel
theorem dX4_count_214 : decode cX4_count 214 = .ok (.dup, 1) := by decide +kernel
theorem dX4_count_215 : decode cX4_count 215 = .ok (.ldc 219, 2) := by decide +kernel
theorem dX4_count_217 : decode cX4_count 217 = .ok (.invokespecial 70, 3) := by decide +kernel
theorem dX4_count_220 : decode cX4_count 220 = .ok (.athrow, 1) := by decide +kernel
set_option maxRecDepth 20000 in
theorem ggX4_heaviest_X3_list : GoodIn wsX4_heaviest wsX3_list := goodIn_r _ [9, 10, 11, 12, 13, 14, 15, 8, 16, 17, 18, 19, 20, 21, 22, 23, 24, 25, 26, 27, 28, 29, 30, 31, 32, 33, 34, 35, 36, 37, 38, 39, 40, 41, 42, 43, 44, 45, 46, 67, 68, 69, 70, 71, 72, 73, 74, 75, 76, 77, 78, 79, 80, 81, 82] (by decide +kernel) (by decide +kernel)
set_option maxRecDepth 20000 in
theorem gX4_heaviest_X3_list : GoodIn wsX4_heaviest (wsV RX4 96 RX3 yX3_list wsX3_list) := goodIn_app (goodIn_of _ (by decide +kernel)) ggX4_heaviest_X3_list
set_option maxRecDepth 20000 in
theorem ggX4_heaviest_X4_findHeaviest : GoodIn wsX4_heaviest wsX4_findHeaviest := goodIn_r _ [50, 3, 51, 52, 53, 54, 55, 22, 56, 57, 35, 33, 36, 58, 59, 60, 61, 62, 63, 64, 65, 66, 67, 68, 69, 70, 71, 72, 73, 74, 75, 76, 77, 78, 79, 80, 81, 82] (by decide +kernel) (by decide +kernel)
set_option maxRecDepth 20000 in
theorem gX4_heaviest_X4_findHeaviest : GoodIn wsX4_heaviest (wsV RX4 223 RX4 yX4_findHeaviest wsX4_findHeaviest) := goodIn_app (goodIn_of _ (by decide +kernel)) ggX4_heaviest_X4_findHeaviest
set_option maxRecDepth 20000 in
theorem ggX4_heaviest_X1_weightOf : GoodIn wsX4_heaviest wsX1_weightOf := goodIn_r _ [56, 57, 35, 33, 36, 73, 74, 75, 76, 77, 78, 79, 80, 81, 82] (by decide +kernel) (by decide +kernel)
set_option maxRecDepth 20000 in
theorem gX4_heaviest_X1_weightOf : GoodIn wsX4_heaviest (wsV RX4 226 RX1 yX1_weightOf wsX1_weightOf) := goodIn_app (goodIn_of _ (by decide +kernel)) ggX4_heaviest_X1_weightOf
theorem dX4_heaviest_0 : decode cX4_heaviest 0 = .ok (.iload_n 1, 1) := by decide +kernel
theorem dX4_heaviest_1 : decode cX4_heaviest 1 = .ok (.ifCond .eq 18, 3) := by decide +kernel
theorem dX4_heaviest_4 : decode cX4_heaviest 4 = .ok (.iload_n 1, 1) := by decide +kernel
theorem dX4_heaviest_5 : decode cX4_heaviest 5 = .ok (.iconst 1, 1) := by decide +kernel
theorem dX4_heaviest_6 : decode cX4_heaviest 6 = .ok (.if_icmp .eq 13, 3) := by decide +kernel
theorem dX4_heaviest_9 : decode cX4_heaviest 9 = .ok (.new 66, 3) := by decide +kernel
theorem dX4_heaviest_12 : decode cX4_heaviest 12 = .ok (.dup, 1) := by decide +kernel
theorem dX4_heaviest_13 : decode cX4_heaviest 13 = .ok (.ldc 221, 2) := by decide +kernel
theorem dX4_heaviest_15 : decode cX4_heaviest 15 = .ok (.invokespecial 70, 3) := by decide +kernel
theorem dX4_heaviest_18 : decode cX4_heaviest 18 = .ok (.athrow, 1) := by decide +kernel
theorem dX4_heaviest_19 : decode cX4_heaviest 19 = .ok (.aload_n 0, 1) := by decide +kernel
theorem dX4_heaviest_20 : decode cX4_heaviest 20 = .ok (.getfield 40, 3) := by decide +kernel
theorem dX4_heaviest_23 : decode cX4_heaviest 23 = .ok (.aload_n 0, 1) := by decide +kernel
theorem dX4_heaviest_24 : decode cX4_heaviest 24 = .ok (.getfield 12, 3) := by decide +kernel
theorem dX4_heaviest_27 : decode cX4_heaviest 27 = .ok (.invokevirtual 96, 3) := by decide +kernel
theorem dX4_heaviest_30 : decode cX4_heaviest 30 = .ok (.aload_n 0, 1) := by decide +kernel
theorem dX4_heaviest_31 : decode cX4_heaviest 31 = .ok (.aload_n 0, 1) := by decide +kernel
theorem dX4_heaviest_32 : decode cX4_heaviest 32 = .ok (.getfield 12, 3) := by decide +kernel
theorem dX4_heaviest_35 : decode cX4_heaviest 35 = .ok (.invokevirtual 223, 3) := by decide +kernel
theorem dX4_heaviest_38 : decode cX4_heaviest 38 = .ok (.istore_n 2, 1) := by decide +kernel
theorem dX4_heaviest_39 : decode cX4_heaviest 39 = .ok (.iload_n 2, 1) := by decide +kernel
theorem dX4_heaviest_40 : decode cX4_heaviest 40 = .ok (.iconst (-1), 1) := by decide +kernel
theorem dX4_heaviest_41 : decode cX4_heaviest 41 = .ok (.if_icmp .eq 8, 3) := by decide +kernel
theorem dX4_heaviest_44 : decode cX4_heaviest 44 = .ok (.iload_n 1, 1) := by decide +kernel
theorem dX4_heaviest_45 : decode cX4_heaviest 45 = .ok (.iconst 1, 1) := by decide +kernel
theorem dX4_heaviest_46 : decode cX4_heaviest 46 = .ok (.if_icmp .ne 5, 3) := by decide +kernel
theorem dX4_heaviest_49 : decode cX4_heaviest 49 = .ok (.iload_n 2, 1) := by decide +kernel
theorem dX4_heaviest_50 : decode cX4_heaviest 50 = .ok (.ireturn, 1) := by decide +kernel
theorem dX4_heaviest_51 : decode cX4_heaviest 51 = .ok (.aload_n 0, 1) := by decide +kernel
theorem dX4_heaviest_52 : decode cX4_heaviest 52 = .ok (.getfield 12, 3) := by decide +kernel
theorem dX4_heaviest_55 : decode cX4_heaviest 55 = .ok (.iload_n 2, 1) := by decide +kernel
theorem dX4_heaviest_56 : decode cX4_heaviest 56 = .ok (.invokevirtual 226, 3) := by decide +kernel
theorem dX4_heaviest_59 : decode cX4_heaviest 59 = .ok (.ireturn, 1) := by decide +kernel
set_option maxRecDepth 20000 in
theorem ggX4_openWay_X3_list : GoodIn wsX4_openWay wsX3_list := goodIn_r _ [11, 12, 13, 14, 15, 16, 17, 10, 18, 19, 20, 21, 22, 23, 24, 25, 26, 27, 28, 29, 30, 31, 32, 33, 34, 35, 36, 37, 38, 39, 40, 41, 42, 43, 44, 45, 46, 47, 48, 58, 59, 60, 61, 62, 63, 64, 65, 66, 67, 68, 69, 70, 71, 72, 73] (by decide +kernel) (by decide +kernel)
set_option maxRecDepth 20000 in
theorem gX4_openWay_X3_list : GoodIn wsX4_openWay (wsV RX4 96 RX3 yX3_list wsX3_list) := goodIn_app (goodIn_of _ (by decide +kernel)) ggX4_openWay_X3_list
theorem dX4_openWay_0 : decode cX4_openWay 0 = .ok (.iload_n 1, 1) := by decide +kernel
theorem dX4_openWay_1 : decode cX4_openWay 1 = .ok (.ifCond .ge 13, 3) := by decide +kernel
theorem dX4_openWay_4 : decode cX4_openWay 4 = .ok (.new 66, 3) := by decide +kernel
theorem dX4_openWay_7 : decode cX4_openWay 7 = .ok (.dup, 1) := by decide +kernel
theorem dX4_openWay_8 : decode cX4_openWay 8 = .ok (.ldc 229, 2) := by decide +kernel
theorem dX4_openWay_10 : decode cX4_openWay 10 = .ok (.invokespecial 70, 3) := by decide +kernel
theorem dX4_openWay_13 : decode cX4_openWay 13 = .ok (.athrow, 1) := by decide +kernel
theorem dX4_openWay_14 : decode cX4_openWay 14 = .ok (.aload_n 0, 1) := by decide +kernel
theorem dX4_openWay_15 : decode cX4_openWay 15 = .ok (.getfield 40, 3) := by decide +kernel
theorem dX4_openWay_18 : decode cX4_openWay 18 = .ok (.aload_n 0, 1) := by decide +kernel
theorem dX4_openWay_19 : decode cX4_openWay 19 = .ok (.getfield 12, 3) := by decide +kernel
theorem dX4_openWay_22 : decode cX4_openWay 22 = .ok (.invokevirtual 96, 3) := by decide +kernel
theorem dX4_openWay_25 : decode cX4_openWay 25 = .ok (.iload_n 1, 1) := by decide +kernel
theorem dX4_openWay_26 : decode cX4_openWay 26 = .ok (.aload_n 0, 1) := by decide +kernel
theorem dX4_openWay_27 : decode cX4_openWay 27 = .ok (.getfield 40, 3) := by decide +kernel
theorem dX4_openWay_30 : decode cX4_openWay 30 = .ok (.getfield 204, 3) := by decide +kernel
theorem dX4_openWay_33 : decode cX4_openWay 33 = .ok (.if_icmp .ge 22, 3) := by decide +kernel
theorem dX4_openWay_36 : decode cX4_openWay 36 = .ok (.iload_n 1, 1) := by decide +kernel
theorem dX4_openWay_37 : decode cX4_openWay 37 = .ok (.sipush 512, 3) := by decide +kernel
theorem dX4_openWay_40 : decode cX4_openWay 40 = .ok (.if_icmp .ge 15, 3) := by decide +kernel
theorem dX4_openWay_43 : decode cX4_openWay 43 = .ok (.aload_n 0, 1) := by decide +kernel
theorem dX4_openWay_44 : decode cX4_openWay 44 = .ok (.getfield 40, 3) := by decide +kernel
theorem dX4_openWay_47 : decode cX4_openWay 47 = .ok (.getfield 231, 3) := by decide +kernel
theorem dX4_openWay_50 : decode cX4_openWay 50 = .ok (.iload_n 1, 1) := by decide +kernel
theorem dX4_openWay_51 : decode cX4_openWay 51 = .ok (.iaload, 1) := by decide +kernel
theorem dX4_openWay_52 : decode cX4_openWay 52 = .ok (.goto 4, 3) := by decide +kernel
theorem dX4_openWay_55 : decode cX4_openWay 55 = .ok (.iconst (-1), 1) := by decide +kernel
theorem dX4_openWay_56 : decode cX4_openWay 56 = .ok (.ireturn, 1) := by decide +kernel
set_option maxRecDepth 20000 in
theorem ggX4_ifSplit_X4_copyState : GoodIn wsX4_ifSplit wsX4_copyState := goodIn_r _ [8, 9, 10, 11, 12, 13, 14, 15, 16, 17, 18, 19, 20, 21, 22, 23, 24, 25, 26, 27, 97, 98, 99, 100, 101, 102, 103, 104, 105, 106] (by decide +kernel) (by decide +kernel)
set_option maxRecDepth 20000 in
theorem gX4_ifSplit_X4_copyState : GoodIn wsX4_ifSplit (va_wsS RX4 148 yX4_copyState wsX4_copyState) := goodIn_app (goodIn_of _ (by decide +kernel)) ggX4_ifSplit_X4_copyState
set_option maxRecDepth 20000 in
theorem ggX4_ifSplit_X3_list : GoodIn wsX4_ifSplit wsX3_list := goodIn_r _ [32, 33, 34, 35, 36, 37, 38, 31, 39, 40, 41, 42, 10, 11, 12, 13, 14, 15, 16, 17, 43, 44, 45, 46, 47, 7, 48, 49, 50, 51, 52, 53, 54, 55, 56, 57, 58, 59, 60, 107, 108, 109, 110, 111, 112, 97, 98, 99, 100, 101, 102, 103, 104, 105, 106] (by decide +kernel) (by decide +kernel)
set_option maxRecDepth 20000 in
theorem gX4_ifSplit_X3_list : GoodIn wsX4_ifSplit (wsV RX4 96 RX3 yX3_list wsX3_list) := goodIn_app (goodIn_of _ (by decide +kernel)) ggX4_ifSplit_X3_list
set_option maxRecDepth 20000 in
theorem ggX4_ifSplit_X4_takeAll : GoodIn wsX4_ifSplit wsX4_takeAll := goodIn_r _ [64, 65, 66, 67, 7, 68, 69, 70, 71, 72, 73, 74, 3, 75, 76, 77, 78, 79, 12, 80, 22, 49, 50, 81, 82, 83, 84, 25, 23, 24, 26, 97, 98, 99, 100, 101, 102, 103, 104, 105, 106, 88, 89, 90, 91, 92, 93, 94, 95, 96, 107, 108, 109, 110, 111, 112] (by decide +kernel) (by decide +kernel)
set_option maxRecDepth 20000 in
theorem gX4_ifSplit_X4_takeAll : GoodIn wsX4_ifSplit (wsV RX4 104 RX4 yX4_takeAll wsX4_takeAll) := goodIn_app (goodIn_of _ (by decide +kernel)) ggX4_ifSplit_X4_takeAll
set_option maxRecDepth 20000 in
theorem ggX4_ifSplit_X4_sum : GoodIn wsX4_ifSplit wsX4_sum := goodIn_r _ [87] (by decide +kernel) (by decide +kernel)
set_option maxRecDepth 20000 in
theorem gX4_ifSplit_X4_sum : GoodIn wsX4_ifSplit (va_wsS RX4 197 yX4_sum wsX4_sum) := goodIn_app (goodIn_of _ (by decide +kernel)) ggX4_ifSplit_X4_sum
theorem dX4_ifSplit_0 : decode cX4_ifSplit 0 = .ok (.aload_n 0, 1) := by decide +kernel
theorem dX4_ifSplit_1 : decode cX4_ifSplit 1 = .ok (.getfield 12, 3) := by decide +kernel
theorem dX4_ifSplit_4 : decode cX4_ifSplit 4 = .ok (.aload_n 0, 1) := by decide +kernel
theorem dX4_ifSplit_5 : decode cX4_ifSplit 5 = .ok (.getfield 16, 3) := by decide +kernel
theorem dX4_ifSplit_8 : decode cX4_ifSplit 8 = .ok (.invokestatic 148, 3) := by decide +kernel
theorem dX4_ifSplit_11 : decode cX4_ifSplit 11 = .ok (.aload_n 0, 1) := by decide +kernel
theorem dX4_ifSplit_12 : decode cX4_ifSplit 12 = .ok (.getfield 40, 3) := by decide +kernel
theorem dX4_ifSplit_15 : decode cX4_ifSplit 15 = .ok (.aload_n 0, 1) := by decide +kernel
theorem dX4_ifSplit_16 : decode cX4_ifSplit 16 = .ok (.getfield 16, 3) := by decide +kernel
theorem dX4_ifSplit_19 : decode cX4_ifSplit 19 = .ok (.invokevirtual 96, 3) := by decide +kernel
theorem dX4_ifSplit_22 : decode cX4_ifSplit 22 = .ok (.aload_n 0, 1) := by decide +kernel
theorem dX4_ifSplit_23 : decode cX4_ifSplit 23 = .ok (.aload_n 0, 1) := by decide +kernel
theorem dX4_ifSplit_24 : decode cX4_ifSplit 24 = .ok (.getfield 16, 3) := by decide +kernel
theorem dX4_ifSplit_27 : decode cX4_ifSplit 27 = .ok (.invokevirtual 104, 3) := by decide +kernel
theorem dX4_ifSplit_30 : decode cX4_ifSplit 30 = .ok (.pop, 1) := by decide +kernel
theorem dX4_ifSplit_31 : decode cX4_ifSplit 31 = .ok (.aload_n 0, 1) := by decide +kernel
theorem dX4_ifSplit_32 : decode cX4_ifSplit 32 = .ok (.getfield 16, 3) := by decide +kernel
theorem dX4_ifSplit_35 : decode cX4_ifSplit 35 = .ok (.getfield 159, 3) := by decide +kernel
theorem dX4_ifSplit_38 : decode cX4_ifSplit 38 = .ok (.invokestatic 197, 3) := by decide +kernel
theorem dX4_ifSplit_41 : decode cX4_ifSplit 41 = .ok (.ireturn, 1) := by decide +kernel
set_option maxRecDepth 20000 in
theorem ggX4_mainPiece_X3_list : GoodIn wsX4_mainPiece wsX3_list := goodIn_r _ [9, 10, 11, 12, 13, 14, 15, 8, 16, 17, 18, 19, 20, 21, 22, 23, 24, 25, 26, 27, 28, 29, 30, 31, 32, 33, 34, 35, 36, 37, 38, 39, 40, 41, 42, 43, 44, 45, 46, 60, 61, 62, 63, 64, 65, 66, 67, 68, 69, 70, 71, 72, 73, 74, 75] (by decide +kernel) (by decide +kernel)
set_option maxRecDepth 20000 in
theorem gX4_mainPiece_X3_list : GoodIn wsX4_mainPiece (wsV RX4 96 RX3 yX3_list wsX3_list) := goodIn_app (goodIn_of _ (by decide +kernel)) ggX4_mainPiece_X3_list
set_option maxRecDepth 20000 in
theorem ggX4_mainPiece_X4_countWith : GoodIn wsX4_mainPiece wsX4_countWith := goodIn_r _ [49, 50, 35, 33, 36] (by decide +kernel) (by decide +kernel)
set_option maxRecDepth 20000 in
theorem gX4_mainPiece_X4_countWith : GoodIn wsX4_mainPiece (va_wsS RX4 183 yX4_countWith wsX4_countWith) := goodIn_app (goodIn_of _ (by decide +kernel)) ggX4_mainPiece_X4_countWith
theorem dX4_mainPiece_0 : decode cX4_mainPiece 0 = .ok (.aload_n 0, 1) := by decide +kernel
theorem dX4_mainPiece_1 : decode cX4_mainPiece 1 = .ok (.getfield 40, 3) := by decide +kernel
theorem dX4_mainPiece_4 : decode cX4_mainPiece 4 = .ok (.aload_n 0, 1) := by decide +kernel
theorem dX4_mainPiece_5 : decode cX4_mainPiece 5 = .ok (.getfield 12, 3) := by decide +kernel
theorem dX4_mainPiece_8 : decode cX4_mainPiece 8 = .ok (.invokevirtual 96, 3) := by decide +kernel
theorem dX4_mainPiece_11 : decode cX4_mainPiece 11 = .ok (.iconst (-1), 1) := by decide +kernel
theorem dX4_mainPiece_12 : decode cX4_mainPiece 12 = .ok (.istore_n 1, 1) := by decide +kernel
theorem dX4_mainPiece_13 : decode cX4_mainPiece 13 = .ok (.iconst 0, 1) := by decide +kernel
theorem dX4_mainPiece_14 : decode cX4_mainPiece 14 = .ok (.istore_n 2, 1) := by decide +kernel
theorem dX4_mainPiece_15 : decode cX4_mainPiece 15 = .ok (.iconst 0, 1) := by decide +kernel
theorem dX4_mainPiece_16 : decode cX4_mainPiece 16 = .ok (.istore_n 3, 1) := by decide +kernel
theorem dX4_mainPiece_17 : decode cX4_mainPiece 17 = .ok (.iload_n 3, 1) := by decide +kernel
theorem dX4_mainPiece_18 : decode cX4_mainPiece 18 = .ok (.bipush 9, 2) := by decide +kernel
theorem dX4_mainPiece_20 : decode cX4_mainPiece 20 = .ok (.if_icmp .ge 40, 3) := by decide +kernel
theorem dX4_mainPiece_23 : decode cX4_mainPiece 23 = .ok (.aload_n 0, 1) := by decide +kernel
theorem dX4_mainPiece_24 : decode cX4_mainPiece 24 = .ok (.getfield 40, 3) := by decide +kernel
theorem dX4_mainPiece_27 : decode cX4_mainPiece 27 = .ok (.getfield 231, 3) := by decide +kernel
theorem dX4_mainPiece_30 : decode cX4_mainPiece 30 = .ok (.aload_n 0, 1) := by decide +kernel
theorem dX4_mainPiece_31 : decode cX4_mainPiece 31 = .ok (.getfield 40, 3) := by decide +kernel
theorem dX4_mainPiece_34 : decode cX4_mainPiece 34 = .ok (.getfield 204, 3) := by decide +kernel
theorem dX4_mainPiece_37 : decode cX4_mainPiece 37 = .ok (.iload_n 3, 1) := by decide +kernel
theorem dX4_mainPiece_38 : decode cX4_mainPiece 38 = .ok (.invokestatic 183, 3) := by decide +kernel
theorem dX4_mainPiece_41 : decode cX4_mainPiece 41 = .ok (.istore 4, 2) := by decide +kernel
theorem dX4_mainPiece_43 : decode cX4_mainPiece 43 = .ok (.iload 4, 2) := by decide +kernel
theorem dX4_mainPiece_45 : decode cX4_mainPiece 45 = .ok (.iload_n 2, 1) := by decide +kernel
theorem dX4_mainPiece_46 : decode cX4_mainPiece 46 = .ok (.if_icmp .le 8, 3) := by decide +kernel
theorem dX4_mainPiece_49 : decode cX4_mainPiece 49 = .ok (.iload 4, 2) := by decide +kernel
theorem dX4_mainPiece_51 : decode cX4_mainPiece 51 = .ok (.istore_n 2, 1) := by decide +kernel
theorem dX4_mainPiece_52 : decode cX4_mainPiece 52 = .ok (.iload_n 3, 1) := by decide +kernel
theorem dX4_mainPiece_53 : decode cX4_mainPiece 53 = .ok (.istore_n 1, 1) := by decide +kernel
theorem dX4_mainPiece_54 : decode cX4_mainPiece 54 = .ok (.iinc 3 1, 3) := by decide +kernel
theorem dX4_mainPiece_57 : decode cX4_mainPiece 57 = .ok (.goto (-40), 3) := by decide +kernel
theorem dX4_mainPiece_60 : decode cX4_mainPiece 60 = .ok (.iload_n 1, 1) := by decide +kernel
theorem dX4_mainPiece_61 : decode cX4_mainPiece 61 = .ok (.ireturn, 1) := by decide +kernel
set_option maxRecDepth 20000 in
theorem ggX4_explained_X4_sum : GoodIn wsX4_explained wsX4_sum := goodIn_r _ [7] (by decide +kernel) (by decide +kernel)
set_option maxRecDepth 20000 in
theorem gX4_explained_X4_sum : GoodIn wsX4_explained (va_wsS RX4 197 yX4_sum wsX4_sum) := goodIn_app (goodIn_of _ (by decide +kernel)) ggX4_explained_X4_sum
theorem dX4_explained_0 : decode cX4_explained 0 = .ok (.aload_n 0, 1) := by decide +kernel
theorem dX4_explained_1 : decode cX4_explained 1 = .ok (.getfield 12, 3) := by decide +kernel
theorem dX4_explained_4 : decode cX4_explained 4 = .ok (.getfield 74, 3) := by decide +kernel
theorem dX4_explained_7 : decode cX4_explained 7 = .ok (.invokestatic 197, 3) := by decide +kernel
theorem dX4_explained_10 : decode cX4_explained 10 = .ok (.istore_n 1, 1) := by decide +kernel
theorem dX4_explained_11 : decode cX4_explained 11 = .ok (.iload_n 1, 1) := by decide +kernel
theorem dX4_explained_12 : decode cX4_explained 12 = .ok (.ifCond .gt 5, 3) := by decide +kernel
theorem dX4_explained_15 : decode cX4_explained 15 = .ok (.dconst 1, 1) := by decide +kernel
theorem dX4_explained_16 : decode cX4_explained 16 = .ok (.dreturn, 1) := by decide +kernel
theorem dX4_explained_17 : decode cX4_explained 17 = .ok (.iload_n 1, 1) := by decide +kernel
theorem dX4_explained_18 : decode cX4_explained 18 = .ok (.aload_n 0, 1) := by decide +kernel
theorem dX4_explained_19 : decode cX4_explained 19 = .ok (.getfield 12, 3) := by decide +kernel
theorem dX4_explained_22 : decode cX4_explained 22 = .ok (.getfield 159, 3) := by decide +kernel
theorem dX4_explained_25 : decode cX4_explained 25 = .ok (.invokestatic 197, 3) := by decide +kernel
theorem dX4_explained_28 : decode cX4_explained 28 = .ok (.isub, 1) := by decide +kernel
theorem dX4_explained_29 : decode cX4_explained 29 = .ok (.i2d, 1) := by decide +kernel
theorem dX4_explained_30 : decode cX4_explained 30 = .ok (.iload_n 1, 1) := by decide +kernel
theorem dX4_explained_31 : decode cX4_explained 31 = .ok (.i2d, 1) := by decide +kernel
theorem dX4_explained_32 : decode cX4_explained 32 = .ok (.ddiv, 1) := by decide +kernel
theorem dX4_explained_33 : decode cX4_explained 33 = .ok (.dreturn, 1) := by decide +kernel
theorem dX4_isPiece_0 : decode cX4_isPiece 0 = .ok (.iload_n 0, 1) := by decide +kernel
theorem dX4_isPiece_1 : decode cX4_isPiece 1 = .ok (.ifCond .lt 13, 3) := by decide +kernel
theorem dX4_isPiece_4 : decode cX4_isPiece 4 = .ok (.iload_n 0, 1) := by decide +kernel
theorem dX4_isPiece_5 : decode cX4_isPiece 5 = .ok (.bipush 9, 2) := by decide +kernel
theorem dX4_isPiece_7 : decode cX4_isPiece 7 = .ok (.if_icmp .ge 7, 3) := by decide +kernel
theorem dX4_isPiece_10 : decode cX4_isPiece 10 = .ok (.iconst 1, 1) := by decide +kernel
theorem dX4_isPiece_11 : decode cX4_isPiece 11 = .ok (.goto 4, 3) := by decide +kernel
theorem dX4_isPiece_14 : decode cX4_isPiece 14 = .ok (.iconst 0, 1) := by decide +kernel
theorem dX4_isPiece_15 : decode cX4_isPiece 15 = .ok (.ireturn, 1) := by decide +kernel
theorem dX4_isSlot_0 : decode cX4_isSlot 0 = .ok (.iload_n 0, 1) := by decide +kernel
theorem dX4_isSlot_1 : decode cX4_isSlot 1 = .ok (.ifCond .lt 12, 3) := by decide +kernel
theorem dX4_isSlot_4 : decode cX4_isSlot 4 = .ok (.iload_n 0, 1) := by decide +kernel
theorem dX4_isSlot_5 : decode cX4_isSlot 5 = .ok (.iconst 2, 1) := by decide +kernel
theorem dX4_isSlot_6 : decode cX4_isSlot 6 = .ok (.if_icmp .ge 7, 3) := by decide +kernel
theorem dX4_isSlot_9 : decode cX4_isSlot 9 = .ok (.iconst 1, 1) := by decide +kernel
theorem dX4_isSlot_10 : decode cX4_isSlot 10 = .ok (.goto 4, 3) := by decide +kernel
theorem dX4_isSlot_13 : decode cX4_isSlot 13 = .ok (.iconst 0, 1) := by decide +kernel
theorem dX4_isSlot_14 : decode cX4_isSlot 14 = .ok (.ireturn, 1) := by decide +kernel
theorem dX4_bit_0 : decode cX4_bit 0 = .ok (.iload_n 0, 1) := by decide +kernel
theorem dX4_bit_1 : decode cX4_bit 1 = .ok (.iload_n 1, 1) := by decide +kernel
theorem dX4_bit_2 : decode cX4_bit 2 = .ok (.ishr, 1) := by decide +kernel
theorem dX4_bit_3 : decode cX4_bit 3 = .ok (.iconst 1, 1) := by decide +kernel
theorem dX4_bit_4 : decode cX4_bit 4 = .ok (.iand, 1) := by decide +kernel
theorem dX4_bit_5 : decode cX4_bit 5 = .ok (.ireturn, 1) := by decide +kernel
theorem dX4_sum_0 : decode cX4_sum 0 = .ok (.iconst 0, 1) := by decide +kernel
theorem dX4_sum_1 : decode cX4_sum 1 = .ok (.istore_n 1, 1) := by decide +kernel
theorem dX4_sum_2 : decode cX4_sum 2 = .ok (.aload_n 0, 1) := by decide +kernel
theorem dX4_sum_3 : decode cX4_sum 3 = .ok (.astore_n 2, 1) := by decide +kernel
theorem dX4_sum_4 : decode cX4_sum 4 = .ok (.aload_n 2, 1) := by decide +kernel
theorem dX4_sum_5 : decode cX4_sum 5 = .ok (.arraylength, 1) := by decide +kernel
theorem dX4_sum_6 : decode cX4_sum 6 = .ok (.istore_n 3, 1) := by decide +kernel
theorem dX4_sum_7 : decode cX4_sum 7 = .ok (.iconst 0, 1) := by decide +kernel
theorem dX4_sum_8 : decode cX4_sum 8 = .ok (.istore 4, 2) := by decide +kernel
theorem dX4_sum_10 : decode cX4_sum 10 = .ok (.iload 4, 2) := by decide +kernel
theorem dX4_sum_12 : decode cX4_sum 12 = .ok (.iload_n 3, 1) := by decide +kernel
theorem dX4_sum_13 : decode cX4_sum 13 = .ok (.if_icmp .ge 20, 3) := by decide +kernel
theorem dX4_sum_16 : decode cX4_sum 16 = .ok (.aload_n 2, 1) := by decide +kernel
theorem dX4_sum_17 : decode cX4_sum 17 = .ok (.iload 4, 2) := by decide +kernel
theorem dX4_sum_19 : decode cX4_sum 19 = .ok (.iaload, 1) := by decide +kernel
theorem dX4_sum_20 : decode cX4_sum 20 = .ok (.istore 5, 2) := by decide +kernel
theorem dX4_sum_22 : decode cX4_sum 22 = .ok (.iload_n 1, 1) := by decide +kernel
theorem dX4_sum_23 : decode cX4_sum 23 = .ok (.iload 5, 2) := by decide +kernel
theorem dX4_sum_25 : decode cX4_sum 25 = .ok (.iadd, 1) := by decide +kernel
theorem dX4_sum_26 : decode cX4_sum 26 = .ok (.istore_n 1, 1) := by decide +kernel
theorem dX4_sum_27 : decode cX4_sum 27 = .ok (.iinc 4 1, 3) := by decide +kernel
theorem dX4_sum_30 : decode cX4_sum 30 = .ok (.goto (-20), 3) := by decide +kernel
theorem dX4_sum_33 : decode cX4_sum 33 = .ok (.iload_n 1, 1) := by decide +kernel
theorem dX4_sum_34 : decode cX4_sum 34 = .ok (.ireturn, 1) := by decide +kernel
set_option maxRecDepth 20000 in
theorem ggX4_countWith_X4_bit : GoodIn wsX4_countWith wsX4_bit := goodIn_r _ [4] (by decide +kernel) (by decide +kernel)
set_option maxRecDepth 20000 in
theorem gX4_countWith_X4_bit : GoodIn wsX4_countWith (va_wsS RX4 85 yX4_bit wsX4_bit) := goodIn_app (goodIn_of _ (by decide +kernel)) ggX4_countWith_X4_bit
theorem dX4_countWith_0 : decode cX4_countWith 0 = .ok (.iconst 0, 1) := by decide +kernel
theorem dX4_countWith_1 : decode cX4_countWith 1 = .ok (.istore_n 3, 1) := by decide +kernel
theorem dX4_countWith_2 : decode cX4_countWith 2 = .ok (.iconst 0, 1) := by decide +kernel
theorem dX4_countWith_3 : decode cX4_countWith 3 = .ok (.istore 4, 2) := by decide +kernel
theorem dX4_countWith_5 : decode cX4_countWith 5 = .ok (.iload 4, 2) := by decide +kernel
theorem dX4_countWith_7 : decode cX4_countWith 7 = .ok (.iload_n 1, 1) := by decide +kernel
theorem dX4_countWith_8 : decode cX4_countWith 8 = .ok (.if_icmp .ge 27, 3) := by decide +kernel
theorem dX4_countWith_11 : decode cX4_countWith 11 = .ok (.iload 4, 2) := by decide +kernel
theorem dX4_countWith_13 : decode cX4_countWith 13 = .ok (.aload_n 0, 1) := by decide +kernel
theorem dX4_countWith_14 : decode cX4_countWith 14 = .ok (.arraylength, 1) := by decide +kernel
theorem dX4_countWith_15 : decode cX4_countWith 15 = .ok (.if_icmp .ge 20, 3) := by decide +kernel
theorem dX4_countWith_18 : decode cX4_countWith 18 = .ok (.iload_n 3, 1) := by decide +kernel
theorem dX4_countWith_19 : decode cX4_countWith 19 = .ok (.aload_n 0, 1) := by decide +kernel
theorem dX4_countWith_20 : decode cX4_countWith 20 = .ok (.iload 4, 2) := by decide +kernel
theorem dX4_countWith_22 : decode cX4_countWith 22 = .ok (.iaload, 1) := by decide +kernel
theorem dX4_countWith_23 : decode cX4_countWith 23 = .ok (.iload_n 2, 1) := by decide +kernel
theorem dX4_countWith_24 : decode cX4_countWith 24 = .ok (.invokestatic 85, 3) := by decide +kernel
theorem dX4_countWith_27 : decode cX4_countWith 27 = .ok (.iadd, 1) := by decide +kernel
theorem dX4_countWith_28 : decode cX4_countWith 28 = .ok (.istore_n 3, 1) := by decide +kernel
theorem dX4_countWith_29 : decode cX4_countWith 29 = .ok (.iinc 4 1, 3) := by decide +kernel
theorem dX4_countWith_32 : decode cX4_countWith 32 = .ok (.goto (-27), 3) := by decide +kernel
theorem dX4_countWith_35 : decode cX4_countWith 35 = .ok (.iload_n 3, 1) := by decide +kernel
theorem dX4_countWith_36 : decode cX4_countWith 36 = .ok (.ireturn, 1) := by decide +kernel
set_option maxRecDepth 20000 in
theorem ggX4_saveState_X4_dropOldest : GoodIn wsX4_saveState wsX4_dropOldest := goodIn_r _ [8, 3, 1, 31, 32, 33, 34, 35, 36, 37, 38, 39] (by decide +kernel) (by decide +kernel)
set_option maxRecDepth 20000 in
theorem gX4_saveState_X4_dropOldest : GoodIn wsX4_saveState (wsV RX4 288 RX4 yX4_dropOldest wsX4_dropOldest) := goodIn_app (goodIn_of _ (by decide +kernel)) ggX4_saveState_X4_dropOldest
set_option maxRecDepth 20000 in
theorem ggX4_saveState_X4_copyState : GoodIn wsX4_saveState wsX4_copyState := goodIn_r _ [11, 12, 13, 14, 15, 16, 17, 18, 19, 20, 21, 22, 23, 24, 25, 26, 27, 28, 29, 30, 40, 41, 42, 43, 44, 45, 46, 47, 48, 49] (by decide +kernel) (by decide +kernel)
set_option maxRecDepth 20000 in
theorem gX4_saveState_X4_copyState : GoodIn wsX4_saveState (va_wsS RX4 148 yX4_copyState wsX4_copyState) := goodIn_app (goodIn_of _ (by decide +kernel)) ggX4_saveState_X4_copyState
theorem dX4_saveState_0 : decode cX4_saveState 0 = .ok (.aload_n 0, 1) := by decide +kernel
theorem dX4_saveState_1 : decode cX4_saveState 1 = .ok (.getfield 154, 3) := by decide +kernel
theorem dX4_saveState_4 : decode cX4_saveState 4 = .ok (.ifCond .lt 12, 3) := by decide +kernel
theorem dX4_saveState_7 : decode cX4_saveState 7 = .ok (.aload_n 0, 1) := by decide +kernel
theorem dX4_saveState_8 : decode cX4_saveState 8 = .ok (.getfield 154, 3) := by decide +kernel
theorem dX4_saveState_11 : decode cX4_saveState 11 = .ok (.bipush 6, 2) := by decide +kernel
theorem dX4_saveState_13 : decode cX4_saveState 13 = .ok (.if_icmp .lt 7, 3) := by decide +kernel
theorem dX4_saveState_16 : decode cX4_saveState 16 = .ok (.aload_n 0, 1) := by decide +kernel
theorem dX4_saveState_17 : decode cX4_saveState 17 = .ok (.invokevirtual 288, 3) := by decide +kernel
theorem dX4_saveState_20 : decode cX4_saveState 20 = .ok (.aload_n 0, 1) := by decide +kernel
theorem dX4_saveState_21 : decode cX4_saveState 21 = .ok (.getfield 12, 3) := by decide +kernel
theorem dX4_saveState_24 : decode cX4_saveState 24 = .ok (.aload_n 0, 1) := by decide +kernel
theorem dX4_saveState_25 : decode cX4_saveState 25 = .ok (.getfield 19, 3) := by decide +kernel
theorem dX4_saveState_28 : decode cX4_saveState 28 = .ok (.aload_n 0, 1) := by decide +kernel
theorem dX4_saveState_29 : decode cX4_saveState 29 = .ok (.getfield 154, 3) := by decide +kernel
theorem dX4_saveState_32 : decode cX4_saveState 32 = .ok (.aaload, 1) := by decide +kernel
theorem dX4_saveState_33 : decode cX4_saveState 33 = .ok (.invokestatic 148, 3) := by decide +kernel
theorem dX4_saveState_36 : decode cX4_saveState 36 = .ok (.aload_n 0, 1) := by decide +kernel
theorem dX4_saveState_37 : decode cX4_saveState 37 = .ok (.dup, 1) := by decide +kernel
theorem dX4_saveState_38 : decode cX4_saveState 38 = .ok (.getfield 154, 3) := by decide +kernel
theorem dX4_saveState_41 : decode cX4_saveState 41 = .ok (.iconst 1, 1) := by decide +kernel
theorem dX4_saveState_42 : decode cX4_saveState 42 = .ok (.iadd, 1) := by decide +kernel
theorem dX4_saveState_43 : decode cX4_saveState 43 = .ok (.putfield 154, 3) := by decide +kernel
theorem dX4_saveState_46 : decode cX4_saveState 46 = .ok (.return_, 1) := by decide +kernel
theorem dX4_dropOldest_0 : decode cX4_dropOldest 0 = .ok (.aload_n 0, 1) := by decide +kernel
theorem dX4_dropOldest_1 : decode cX4_dropOldest 1 = .ok (.getfield 19, 3) := by decide +kernel
theorem dX4_dropOldest_4 : decode cX4_dropOldest 4 = .ok (.iconst 0, 1) := by decide +kernel
theorem dX4_dropOldest_5 : decode cX4_dropOldest 5 = .ok (.aaload, 1) := by decide +kernel
theorem dX4_dropOldest_6 : decode cX4_dropOldest 6 = .ok (.astore_n 1, 1) := by decide +kernel
theorem dX4_dropOldest_7 : decode cX4_dropOldest 7 = .ok (.iconst 1, 1) := by decide +kernel
theorem dX4_dropOldest_8 : decode cX4_dropOldest 8 = .ok (.istore_n 2, 1) := by decide +kernel
theorem dX4_dropOldest_9 : decode cX4_dropOldest 9 = .ok (.iload_n 2, 1) := by decide +kernel
theorem dX4_dropOldest_10 : decode cX4_dropOldest 10 = .ok (.bipush 6, 2) := by decide +kernel
theorem dX4_dropOldest_12 : decode cX4_dropOldest 12 = .ok (.if_icmp .ge 23, 3) := by decide +kernel
theorem dX4_dropOldest_15 : decode cX4_dropOldest 15 = .ok (.aload_n 0, 1) := by decide +kernel
theorem dX4_dropOldest_16 : decode cX4_dropOldest 16 = .ok (.getfield 19, 3) := by decide +kernel
theorem dX4_dropOldest_19 : decode cX4_dropOldest 19 = .ok (.iload_n 2, 1) := by decide +kernel
theorem dX4_dropOldest_20 : decode cX4_dropOldest 20 = .ok (.iconst 1, 1) := by decide +kernel
theorem dX4_dropOldest_21 : decode cX4_dropOldest 21 = .ok (.isub, 1) := by decide +kernel
theorem dX4_dropOldest_22 : decode cX4_dropOldest 22 = .ok (.aload_n 0, 1) := by decide +kernel
theorem dX4_dropOldest_23 : decode cX4_dropOldest 23 = .ok (.getfield 19, 3) := by decide +kernel
theorem dX4_dropOldest_26 : decode cX4_dropOldest 26 = .ok (.iload_n 2, 1) := by decide +kernel
theorem dX4_dropOldest_27 : decode cX4_dropOldest 27 = .ok (.aaload, 1) := by decide +kernel
theorem dX4_dropOldest_28 : decode cX4_dropOldest 28 = .ok (.aastore, 1) := by decide +kernel
theorem dX4_dropOldest_29 : decode cX4_dropOldest 29 = .ok (.iinc 2 1, 3) := by decide +kernel
theorem dX4_dropOldest_32 : decode cX4_dropOldest 32 = .ok (.goto (-23), 3) := by decide +kernel
theorem dX4_dropOldest_35 : decode cX4_dropOldest 35 = .ok (.aload_n 0, 1) := by decide +kernel
theorem dX4_dropOldest_36 : decode cX4_dropOldest 36 = .ok (.getfield 19, 3) := by decide +kernel
theorem dX4_dropOldest_39 : decode cX4_dropOldest 39 = .ok (.iconst 5, 1) := by decide +kernel
theorem dX4_dropOldest_40 : decode cX4_dropOldest 40 = .ok (.aload_n 1, 1) := by decide +kernel
theorem dX4_dropOldest_41 : decode cX4_dropOldest 41 = .ok (.aastore, 1) := by decide +kernel
theorem dX4_dropOldest_42 : decode cX4_dropOldest 42 = .ok (.aload_n 0, 1) := by decide +kernel
theorem dX4_dropOldest_43 : decode cX4_dropOldest 43 = .ok (.iconst 5, 1) := by decide +kernel
theorem dX4_dropOldest_44 : decode cX4_dropOldest 44 = .ok (.putfield 154, 3) := by decide +kernel
theorem dX4_dropOldest_47 : decode cX4_dropOldest 47 = .ok (.return_, 1) := by decide +kernel
set_option maxRecDepth 20000 in
theorem ggX4_copyState_X1_copyGraph : GoodIn wsX4_copyState wsX1_copyGraph := goodIn_r _ [5, 6, 7, 8, 9, 20, 21, 22, 23, 24, 25, 26, 27, 28, 29] (by decide +kernel) (by decide +kernel)
set_option maxRecDepth 20000 in
theorem gX4_copyState_X1_copyGraph : GoodIn wsX4_copyState (wsV RX4 137 RX1 yX1_copyGraph wsX1_copyGraph) := goodIn_app (goodIn_of _ (by decide +kernel)) ggX4_copyState_X1_copyGraph
set_option maxRecDepth 20000 in
theorem ggX4_copyState_X1_copySplitting : GoodIn wsX4_copyState wsX1_copySplitting := goodIn_r _ [13, 14, 15, 16, 17, 18, 19, 20, 21, 22, 23, 24, 25, 26, 27, 28, 29] (by decide +kernel) (by decide +kernel)
set_option maxRecDepth 20000 in
theorem gX4_copyState_X1_copySplitting : GoodIn wsX4_copyState (wsV RX4 291 RX1 yX1_copySplitting wsX1_copySplitting) := goodIn_app (goodIn_of _ (by decide +kernel)) ggX4_copyState_X1_copySplitting
theorem dX4_copyState_0 : decode cX4_copyState 0 = .ok (.aload_n 0, 1) := by decide +kernel
theorem dX4_copyState_1 : decode cX4_copyState 1 = .ok (.ifnull 7, 3) := by decide +kernel
theorem dX4_copyState_4 : decode cX4_copyState 4 = .ok (.aload_n 1, 1) := by decide +kernel
theorem dX4_copyState_5 : decode cX4_copyState 5 = .ok (.ifnonnull 4, 3) := by decide +kernel
theorem dX4_copyState_8 : decode cX4_copyState 8 = .ok (.return_, 1) := by decide +kernel
theorem dX4_copyState_9 : decode cX4_copyState 9 = .ok (.aload_n 1, 1) := by decide +kernel
theorem dX4_copyState_10 : decode cX4_copyState 10 = .ok (.aload_n 0, 1) := by decide +kernel
theorem dX4_copyState_11 : decode cX4_copyState 11 = .ok (.invokevirtual 137, 3) := by decide +kernel
theorem dX4_copyState_14 : decode cX4_copyState 14 = .ok (.aload_n 1, 1) := by decide +kernel
theorem dX4_copyState_15 : decode cX4_copyState 15 = .ok (.aload_n 0, 1) := by decide +kernel
theorem dX4_copyState_16 : decode cX4_copyState 16 = .ok (.invokevirtual 291, 3) := by decide +kernel
theorem dX4_copyState_19 : decode cX4_copyState 19 = .ok (.return_, 1) := by decide +kernel
set_option maxRecDepth 20000 in
theorem ggX4_findHeaviest_X1_weightOf : GoodIn wsX4_findHeaviest wsX1_weightOf := goodIn_r _ [8, 9, 10, 11, 12, 28, 29, 30, 31, 32, 33, 34, 35, 36, 37] (by decide +kernel) (by decide +kernel)
set_option maxRecDepth 20000 in
theorem gX4_findHeaviest_X1_weightOf : GoodIn wsX4_findHeaviest (wsV RX4 226 RX1 yX1_weightOf wsX1_weightOf) := goodIn_app (goodIn_of _ (by decide +kernel)) ggX4_findHeaviest_X1_weightOf
theorem dX4_findHeaviest_0 : decode cX4_findHeaviest 0 = .ok (.iconst (-1), 1) := by decide +kernel
theorem dX4_findHeaviest_1 : decode cX4_findHeaviest 1 = .ok (.istore_n 2, 1) := by decide +kernel
theorem dX4_findHeaviest_2 : decode cX4_findHeaviest 2 = .ok (.iconst (-1), 1) := by decide +kernel
theorem dX4_findHeaviest_3 : decode cX4_findHeaviest 3 = .ok (.istore_n 3, 1) := by decide +kernel
theorem dX4_findHeaviest_4 : decode cX4_findHeaviest 4 = .ok (.iconst 0, 1) := by decide +kernel
theorem dX4_findHeaviest_5 : decode cX4_findHeaviest 5 = .ok (.istore 4, 2) := by decide +kernel
theorem dX4_findHeaviest_7 : decode cX4_findHeaviest 7 = .ok (.iload 4, 2) := by decide +kernel
theorem dX4_findHeaviest_9 : decode cX4_findHeaviest 9 = .ok (.aload_n 0, 1) := by decide +kernel
theorem dX4_findHeaviest_10 : decode cX4_findHeaviest 10 = .ok (.getfield 40, 3) := by decide +kernel
theorem dX4_findHeaviest_13 : decode cX4_findHeaviest 13 = .ok (.getfield 204, 3) := by decide +kernel
theorem dX4_findHeaviest_16 : decode cX4_findHeaviest 16 = .ok (.if_icmp .ge 53, 3) := by decide +kernel
theorem dX4_findHeaviest_19 : decode cX4_findHeaviest 19 = .ok (.iload 4, 2) := by decide +kernel
theorem dX4_findHeaviest_21 : decode cX4_findHeaviest 21 = .ok (.sipush 512, 3) := by decide +kernel
theorem dX4_findHeaviest_24 : decode cX4_findHeaviest 24 = .ok (.if_icmp .ge 45, 3) := by decide +kernel
theorem dX4_findHeaviest_27 : decode cX4_findHeaviest 27 = .ok (.aload_n 1, 1) := by decide +kernel
theorem dX4_findHeaviest_28 : decode cX4_findHeaviest 28 = .ok (.aload_n 0, 1) := by decide +kernel
theorem dX4_findHeaviest_29 : decode cX4_findHeaviest 29 = .ok (.getfield 40, 3) := by decide +kernel
