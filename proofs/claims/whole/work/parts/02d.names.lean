theorem dX4_openWay_44 : decode cX4_openWay 44 = .ok (.getfield 40, 3) := by decide +kernel
theorem dX4_openWay_47 : decode cX4_openWay 47 = .ok (.getfield 231, 3) := by decide +kernel
theorem dX4_openWay_50 : decode cX4_openWay 50 = .ok (.iload_n 1, 1) := by decide +kernel
theorem dX4_openWay_51 : decode cX4_openWay 51 = .ok (.iaload, 1) := by decide +kernel
theorem dX4_openWay_52 : decode cX4_openWay 52 = .ok (.goto 4, 3) := by decide +kernel
theorem dX4_openWay_55 : decode cX4_openWay 55 = .ok (.iconst (-1), 1) := by decide +kernel
theorem dX4_openWay_56 : decode cX4_openWay 56 = .ok (.ireturn, 1) := by decide +kernel
set_option maxRecDepth 20000 in
theorem ggX4_ifSplit_X4_copyState : GoodIn wsX4_ifSplit wsX4_copyState := goodIn_r _ [8, 9, 10, 11, 12, 13, 14, 15, 16, 17, 18, 19, 20, 21, 22, 23, 24, 25, 26, 27, 97, 98, 99, 100, 101, 102, 103, 104, 105, 106] (by decide +kernel) (by decide +kernel)
set_option maxRecDepth 20000 in
theorem gX4_ifSplit_X4_copyState : GoodIn wsX4_ifSplit (va_wsS RX4 148 yX4_copyState wsX4_copyState) := goodIn_app (goodIn_of _ (by decide +kernel)) ggX4_ifSplit_X4_copyState
set_option maxRecDepth 20000 in
theorem ggX4_ifSplit_X3_list : GoodIn wsX4_ifSplit wsX3_list := goodIn_r _ [32, 33, 34, 35, 36, 37, 38, 31, 39, 40, 41, 42, 10, 11, 12, 13, 14, 15, 16, 17, 43, 44, 45, 46, 47, 7, 48, 49, 50, 51, 52, 53, 54, 55, 56, 57, 58, 59, 60, 107, 108, 109, 110, 111, 112, 97, 98, 99, 100, 101, 102, 103, 104, 105, 106] (by decide +kernel) (by decide +kernel)
set_option maxRecDepth 20000 in
theorem gX4_ifSplit_X3_list : GoodIn wsX4_ifSplit (wsV RX4 96 RX3 yX3_list wsX3_list) := goodIn_app (goodIn_of _ (by decide +kernel)) ggX4_ifSplit_X3_list
set_option maxRecDepth 20000 in
theorem ggX4_ifSplit_X4_takeAll : GoodIn wsX4_ifSplit wsX4_takeAll := goodIn_r _ [64, 65, 66, 67, 7, 68, 69, 70, 71, 72, 73, 74, 3, 75, 76, 77, 78, 79, 12, 80, 22, 49, 50, 81, 82, 83, 84, 25, 23, 24, 26, 97, 98, 99, 100, 101, 102, 103, 104, 105, 106, 88, 89, 90, 91, 92, 93, 94, 95, 96, 107, 108, 109, 110, 111, 112] (by decide +kernel) (by decide +kernel)
set_option maxRecDepth 20000 in
theorem gX4_ifSplit_X4_takeAll : GoodIn wsX4_ifSplit (wsV RX4 104 RX4 yX4_takeAll wsX4_takeAll) := goodIn_app (goodIn_of _ (by decide +kernel)) ggX4_ifSplit_X4_takeAll
set_option maxRecDepth 20000 in
theorem ggX4_ifSplit_X4_sum : GoodIn wsX4_ifSplit wsX4_sum := goodIn_r _ [87] (by decide +kernel) (by decide +kernel)
set_option maxRecDepth 20000 in
theorem gX4_ifSplit_X4_sum : GoodIn wsX4_ifSplit (va_wsS RX4 197 yX4_sum wsX4_sum) := goodIn_app (goodIn_of _ (by decide +kernel)) ggX4_ifSplit_X4_sum
theorem dX4_ifSplit_0 : decode cX4_ifSplit 0 = .ok (.aload_n 0, 1) := by decide +kernel
theorem dX4_ifSplit_1 : decode cX4_ifSplit 1 = .ok (.getfield 12, 3) := by decide +kernel
theorem dX4_ifSplit_4 : decode cX4_ifSplit 4 = .ok (.aload_n 0, 1) := by decide +kernel
theorem dX4_ifSplit_5 : decode cX4_ifSplit 5 = .ok (.getfield 16, 3) := by decide +kernel
theorem dX4_ifSplit_8 : decode cX4_ifSplit 8 = .ok (.invokestatic 148, 3) := by decide +kernel
theorem dX4_ifSplit_11 : decode cX4_ifSplit 11 = .ok (.aload_n 0, 1) := by decide +kernel
theorem dX4_ifSplit_12 : decode cX4_ifSplit 12 = .ok (.getfield 40, 3) := by decide +kernel
theorem dX4_ifSplit_15 : decode cX4_ifSplit 15 = .ok (.aload_n 0, 1) := by decide +kernel
theorem dX4_ifSplit_16 : decode cX4_ifSplit 16 = .ok (.getfield 16, 3) := by decide +kernel
theorem dX4_ifSplit_19 : decode cX4_ifSplit 19 = .ok (.invokevirtual 96, 3) := by decide +kernel
theorem dX4_ifSplit_22 : decode cX4_ifSplit 22 = .ok (.aload_n 0, 1) := by decide +kernel
theorem dX4_ifSplit_23 : decode cX4_ifSplit 23 = .ok (.aload_n 0, 1) := by decide +kernel
theorem dX4_ifSplit_24 : decode cX4_ifSplit 24 = .ok (.getfield 16, 3) := by decide +kernel
theorem dX4_ifSplit_27 : decode cX4_ifSplit 27 = .ok (.invokevirtual 104, 3) := by decide +kernel
theorem dX4_ifSplit_30 : decode cX4_ifSplit 30 = .ok (.pop, 1) := by decide +kernel
theorem dX4_ifSplit_31 : decode cX4_ifSplit 31 = .ok (.aload_n 0, 1) := by decide +kernel
theorem dX4_ifSplit_32 : decode cX4_ifSplit 32 = .ok (.getfield 16, 3) := by decide +kernel
theorem dX4_ifSplit_35 : decode cX4_ifSplit 35 = .ok (.getfield 159, 3) := by decide +kernel
theorem dX4_ifSplit_38 : decode cX4_ifSplit 38 = .ok (.invokestatic 197, 3) := by decide +kernel
theorem dX4_ifSplit_41 : decode cX4_ifSplit 41 = .ok (.ireturn, 1) := by decide +kernel
set_option maxRecDepth 20000 in
theorem ggX4_mainPiece_X3_list : GoodIn wsX4_mainPiece wsX3_list := goodIn_r _ [9, 10, 11, 12, 13, 14, 15, 8, 16, 17, 18, 19, 20, 21, 22, 23, 24, 25, 26, 27, 28, 29, 30, 31, 32, 33, 34, 35, 36, 37, 38, 39, 40, 41, 42, 43, 44, 45, 46, 60, 61, 62, 63, 64, 65, 66, 67, 68, 69, 70, 71, 72, 73, 74, 75] (by decide +kernel) (by decide +kernel)
set_option maxRecDepth 20000 in
theorem gX4_mainPiece_X3_list : GoodIn wsX4_mainPiece (wsV RX4 96 RX3 yX3_list wsX3_list) := goodIn_app (goodIn_of _ (by decide +kernel)) ggX4_mainPiece_X3_list
set_option maxRecDepth 20000 in
theorem ggX4_mainPiece_X4_countWith : GoodIn wsX4_mainPiece wsX4_countWith := goodIn_r _ [49, 50, 35, 33, 36] (by decide +kernel) (by decide +kernel)
set_option maxRecDepth 20000 in
theorem gX4_mainPiece_X4_countWith : GoodIn wsX4_mainPiece (va_wsS RX4 183 yX4_countWith wsX4_countWith) := goodIn_app (goodIn_of _ (by decide +kernel)) ggX4_mainPiece_X4_countWith
theorem dX4_mainPiece_0 : decode cX4_mainPiece 0 = .ok (.aload_n 0, 1) := by decide +kernel
theorem dX4_mainPiece_1 : decode cX4_mainPiece 1 = .ok (.getfield 40, 3) := by decide +kernel
theorem dX4_mainPiece_4 : decode cX4_mainPiece 4 = .ok (.aload_n 0, 1) := by decide +kernel
theorem dX4_mainPiece_5 : decode cX4_mainPiece 5 = .ok (.getfield 12, 3) := by decide +kernel
theorem dX4_mainPiece_8 : decode cX4_mainPiece 8 = .ok (.invokevirtual 96, 3) := by decide +kernel
theorem dX4_mainPiece_11 : decode cX4_mainPiece 11 = .ok (.iconst (-1), 1) := by decide +kernel
theorem dX4_mainPiece_12 : decode cX4_mainPiece 12 = .ok (.istore_n 1, 1) := by decide +kernel
theorem dX4_mainPiece_13 : decode cX4_mainPiece 13 = .ok (.iconst 0, 1) := by decide +kernel
theorem dX4_mainPiece_14 : decode cX4_mainPiece 14 = .ok (.istore_n 2, 1) := by decide +kernel
theorem dX4_mainPiece_15 : decode cX4_mainPiece 15 = .ok (.iconst 0, 1) := by decide +kernel
theorem dX4_mainPiece_16 : decode cX4_mainPiece 16 = .ok (.istore_n 3, 1) := by decide +kernel
theorem dX4_mainPiece_17 : decode cX4_mainPiece 17 = .ok (.iload_n 3, 1) := by decide +kernel
theorem dX4_mainPiece_18 : decode cX4_mainPiece 18 = .ok (.bipush 9, 2) := by decide +kernel
theorem dX4_mainPiece_20 : decode cX4_mainPiece 20 = .ok (.if_icmp .ge 40, 3) := by decide +kernel
theorem dX4_mainPiece_23 : decode cX4_mainPiece 23 = .ok (.aload_n 0, 1) := by decide +kernel
theorem dX4_mainPiece_24 : decode cX4_mainPiece 24 = .ok (.getfield 40, 3) := by decide +kernel
theorem dX4_mainPiece_27 : decode cX4_mainPiece 27 = .ok (.getfield 231, 3) := by decide +kernel
theorem dX4_mainPiece_30 : decode cX4_mainPiece 30 = .ok (.aload_n 0, 1) := by decide +kernel
theorem dX4_mainPiece_31 : decode cX4_mainPiece 31 = .ok (.getfield 40, 3) := by decide +kernel
theorem dX4_mainPiece_34 : decode cX4_mainPiece 34 = .ok (.getfield 204, 3) := by decide +kernel
theorem dX4_mainPiece_37 : decode cX4_mainPiece 37 = .ok (.iload_n 3, 1) := by decide +kernel
theorem dX4_mainPiece_38 : decode cX4_mainPiece 38 = .ok (.invokestatic 183, 3) := by decide +kernel
theorem dX4_mainPiece_41 : decode cX4_mainPiece 41 = .ok (.istore 4, 2) := by decide +kernel
theorem dX4_mainPiece_43 : decode cX4_mainPiece 43 = .ok (.iload 4, 2) := by decide +kernel
theorem dX4_mainPiece_45 : decode cX4_mainPiece 45 = .ok (.iload_n 2, 1) := by decide +kernel
theorem dX4_mainPiece_46 : decode cX4_mainPiece 46 = .ok (.if_icmp .le 8, 3) := by decide +kernel
theorem dX4_mainPiece_49 : decode cX4_mainPiece 49 = .ok (.iload 4, 2) := by decide +kernel
theorem dX4_mainPiece_51 : decode cX4_mainPiece 51 = .ok (.istore_n 2, 1) := by decide +kernel
theorem dX4_mainPiece_52 : decode cX4_mainPiece 52 = .ok (.iload_n 3, 1) := by decide +kernel
theorem dX4_mainPiece_53 : decode cX4_mainPiece 53 = .ok (.istore_n 1, 1) := by decide +kernel
theorem dX4_mainPiece_54 : decode cX4_mainPiece 54 = .ok (.iinc 3 1, 3) := by decide +kernel
theorem dX4_mainPiece_57 : decode cX4_mainPiece 57 = .ok (.goto (-40), 3) := by decide +kernel
theorem dX4_mainPiece_60 : decode cX4_mainPiece 60 = .ok (.iload_n 1, 1) := by decide +kernel
theorem dX4_mainPiece_61 : decode cX4_mainPiece 61 = .ok (.ireturn, 1) := by decide +kernel
set_option maxRecDepth 20000 in
theorem ggX4_explained_X4_sum : GoodIn wsX4_explained wsX4_sum := goodIn_r _ [7] (by decide +kernel) (by decide +kernel)
set_option maxRecDepth 20000 in
theorem gX4_explained_X4_sum : GoodIn wsX4_explained (va_wsS RX4 197 yX4_sum wsX4_sum) := goodIn_app (goodIn_of _ (by decide +kernel)) ggX4_explained_X4_sum
theorem dX4_explained_0 : decode cX4_explained 0 = .ok (.aload_n 0, 1) := by decide +kernel
theorem dX4_explained_1 : decode cX4_explained 1 = .ok (.getfield 12, 3) := by decide +kernel
theorem dX4_explained_4 : decode cX4_explained 4 = .ok (.getfield 74, 3) := by decide +kernel
theorem dX4_explained_7 : decode cX4_explained 7 = .ok (.invokestatic 197, 3) := by decide +kernel
theorem dX4_explained_10 : decode cX4_explained 10 = .ok (.istore_n 1, 1) := by decide +kernel
theorem dX4_explained_11 : decode cX4_explained 11 = .ok (.iload_n 1, 1) := by decide +kernel
theorem dX4_explained_12 : decode cX4_explained 12 = .ok (.ifCond .gt 5, 3) := by decide +kernel
theorem dX4_explained_15 : decode cX4_explained 15 = .ok (.dconst 1, 1) := by decide +kernel
theorem dX4_explained_16 : decode cX4_explained 16 = .ok (.dreturn, 1) := by decide +kernel
theorem dX4_explained_17 : decode cX4_explained 17 = .ok (.iload_n 1, 1) := by decide +kernel
theorem dX4_explained_18 : decode cX4_explained 18 = .ok (.aload_n 0, 1) := by decide +kernel
theorem dX4_explained_19 : decode cX4_explained 19 = .ok (.getfield 12, 3) := by decide +kernel
theorem dX4_explained_22 : decode cX4_explained 22 = .ok (.getfield 159, 3) := by decide +kernel
theorem dX4_explained_25 : decode cX4_explained 25 = .ok (.invokestatic 197, 3) := by decide +kernel
theorem dX4_explained_28 : decode cX4_explained 28 = .ok (.isub, 1) := by decide +kernel
theorem dX4_explained_29 : decode cX4_explained 29 = .ok (.i2d, 1) := by decide +kernel
theorem dX4_explained_30 : decode cX4_explained 30 = .ok (.iload_n 1, 1) := by decide +kernel
theorem dX4_explained_31 : decode cX4_explained 31 = .ok (.i2d, 1) := by decide +kernel
theorem dX4_explained_32 : decode cX4_explained 32 = .ok (.ddiv, 1) := by decide +kernel
theorem dX4_explained_33 : decode cX4_explained 33 = .ok (.dreturn, 1) := by decide +kernel
set_option maxRecDepth 20000 in
theorem ggX4_digest_X4_count : GoodIn wsX4_digest wsX4_count := goodIn_ca (goodIn_r _ [9, 10, 11, 2, 12, 13, 3, 14, 15, 16, 17, 18, 19, 20, 21, 22, 23, 24, 25, 26, 27, 28, 29, 30, 31, 32, 33, 34, 35, 8, 36, 37, 38, 39, 40, 41, 42, 43, 44, 45, 46, 47, 48, 49, 50, 51, 52, 53, 54, 55, 56, 57, 58, 59, 60, 61, 62, 63, 64, 65, 66, 67, 68, 69, 70, 71, 72, 73, 74, 75, 76, 77, 78, 79, 80, 81, 82, 83, 84, 85, 86, 87, 88, 89, 90, 91, 92, 93, 94, 95, 96, 97, 98, 99, 100, 101, 102, 103, 104, 105, 214, 215, 216, 217, 218, 219, 220, 221, 222, 223, 224, 225, 226, 227, 228, 229, 230, 231, 232, 233, 234, 235, 236, 237, 238, 239, 240, 241] (by decide +kernel) (by decide +kernel)) (goodIn_sub (fun _ h => List.mem_cons_of_mem _ (List.mem_append_left _ (List.mem_append_right _ h))) (by decide +kernel))
set_option maxRecDepth 20000 in
theorem gX4_digest_X4_count : GoodIn wsX4_digest (wsV RX4 236 RX4 yX4_count wsX4_count) := goodIn_app (goodIn_of _ (by decide +kernel)) ggX4_digest_X4_count
set_option maxRecDepth 20000 in
theorem ggX4_digest_X4_mix : GoodIn wsX4_digest wsX4_mix := goodIn_r _ [108, 109] (by decide +kernel) (by decide +kernel)
set_option maxRecDepth 20000 in
theorem gX4_digest_X4_mix : GoodIn wsX4_digest (va_wsS RX4 239 yX4_mix wsX4_mix) := goodIn_app (goodIn_of _ (by decide +kernel)) ggX4_digest_X4_mix
set_option maxRecDepth 20000 in
theorem ggX4_digest_X4_mixPiece : GoodIn wsX4_digest wsX4_mixPiece := goodIn_ca (goodIn_ca (goodIn_r _ [113, 114, 115, 116, 8, 117, 118, 119, 10, 11, 2, 12, 13, 120, 121, 17, 122, 14, 123, 15, 124, 125, 69, 70, 126, 127, 128, 24, 129, 26, 45, 46, 130, 28, 29, 30, 31, 32, 33, 81, 82, 83, 84, 85, 86, 87, 47, 48, 49, 40, 50, 51, 52, 43, 53, 54, 55, 56, 44, 57, 58, 59, 60, 61, 62, 63, 64, 65, 66, 67, 68, 71, 72, 73, 74, 75, 76, 77, 78, 79, 80, 131, 132, 133, 134, 106, 107, 108, 109, 135, 136, 137, 138, 214, 215, 216, 217, 218, 219, 220, 221, 222, 223, 224, 225, 226, 227, 228, 229, 230, 231, 232, 239, 240, 241, 233, 234, 235, 236, 237, 238] (by decide +kernel) (by decide +kernel)) (goodIn_sub (fun _ h => List.mem_cons_of_mem _ (List.mem_append_right _ h)) (by decide +kernel))) (goodIn_sub (fun _ h => List.mem_cons_of_mem _ (List.mem_append_left _ (List.mem_append_right _ h))) (by decide +kernel))
set_option maxRecDepth 20000 in
theorem gX4_digest_X4_mixPiece : GoodIn wsX4_digest (wsV RX4 243 RX4 yX4_mixPiece wsX4_mixPiece) := goodIn_app (goodIn_of _ (by decide +kernel)) ggX4_digest_X4_mixPiece
set_option maxRecDepth 20000 in
theorem ggX4_digest_X4_noted : GoodIn wsX4_digest wsX4_noted := goodIn_ca (goodIn_r _ [142, 10, 11, 2, 3, 143, 144, 130, 28, 29, 30, 31, 32, 33, 214, 215, 216, 217, 218, 219, 220, 221, 222, 223, 224, 225, 226, 227, 228, 229, 230, 231, 232] (by decide +kernel) (by decide +kernel)) (goodIn_sub (fun _ h => List.mem_cons_of_mem _ (List.mem_append_left _ (List.mem_append_right _ h))) (by decide +kernel))
set_option maxRecDepth 20000 in
theorem gX4_digest_X4_noted : GoodIn wsX4_digest (wsV RX4 247 RX4 yX4_noted wsX4_noted) := goodIn_app (goodIn_of _ (by decide +kernel)) ggX4_digest_X4_noted
set_option maxRecDepth 20000 in
theorem ggX4_digest_X4_heaviest : GoodIn wsX4_digest wsX4_heaviest := goodIn_ca (goodIn_r _ [148, 10, 11, 14, 2, 47, 48, 49, 40, 50, 51, 52, 43, 53, 54, 55, 56, 44, 57, 58, 59, 60, 24, 61, 62, 63, 26, 64, 65, 66, 67, 68, 69, 8, 70, 45, 46, 71, 72, 73, 74, 75, 76, 77, 78, 79, 80, 149, 150, 151, 152, 16, 153, 154, 155, 156, 157, 158, 214, 215, 216, 217, 218, 219, 220, 221, 222, 233, 234, 235, 236, 237, 238, 223, 224, 225, 226, 227, 228, 229, 230, 231, 232] (by decide +kernel) (by decide +kernel)) (goodIn_sub (fun _ h => List.mem_cons_of_mem _ (List.mem_append_left _ (List.mem_append_right _ h))) (by decide +kernel))
set_option maxRecDepth 20000 in
theorem gX4_digest_X4_heaviest : GoodIn wsX4_digest (wsV RX4 250 RX4 yX4_heaviest wsX4_heaviest) := goodIn_app (goodIn_of _ (by decide +kernel)) ggX4_digest_X4_heaviest
set_option maxRecDepth 20000 in
theorem ggX4_digest_X4_openWay : GoodIn wsX4_digest wsX4_openWay := goodIn_ca (goodIn_r _ [162, 10, 11, 14, 2, 16, 153, 47, 48, 49, 40, 50, 51, 52, 43, 53, 54, 55, 56, 44, 57, 58, 59, 60, 24, 61, 62, 63, 26, 64, 65, 66, 67, 68, 69, 8, 70, 45, 46, 71, 72, 73, 74, 75, 76, 77, 78, 79, 80, 214, 215, 216, 217, 218, 219, 220, 221, 222, 233, 234, 235, 236, 237, 238, 223, 224, 225, 226, 227, 228, 229, 230, 231, 232] (by decide +kernel) (by decide +kernel)) (goodIn_sub (fun _ h => List.mem_cons_of_mem _ (List.mem_append_left _ (List.mem_append_right _ h))) (by decide +kernel))
set_option maxRecDepth 20000 in
theorem gX4_digest_X4_openWay : GoodIn wsX4_digest (wsV RX4 253 RX4 yX4_openWay wsX4_openWay) := goodIn_app (goodIn_of _ (by decide +kernel)) ggX4_digest_X4_openWay
set_option maxRecDepth 20000 in
theorem ggX4_digest_X4_ifSplit : GoodIn wsX4_digest wsX4_ifSplit := goodIn_r _ [166, 2, 167, 14, 13, 168, 169, 8, 170, 171, 59, 60, 24, 61, 62, 63, 26, 64, 172, 173, 174, 175, 158, 176, 177, 178, 179, 180, 47, 48, 49, 40, 50, 51, 52, 43, 53, 54, 55, 56, 44, 57, 58, 65, 66, 67, 68, 69, 70, 45, 46, 71, 72, 73, 74, 75, 76, 77, 78, 79, 80, 181, 182, 183, 184, 185, 186, 187, 188, 3, 19, 149, 150, 151, 152, 16, 153, 154, 155, 156, 157, 189, 190, 191, 192, 34, 35, 36, 214, 215, 216, 217, 218, 219, 220, 221, 222, 223, 224, 225, 226, 227, 228, 229, 230, 231, 232, 233, 234, 235, 236, 237, 238] (by decide +kernel) (by decide +kernel)
set_option maxRecDepth 20000 in
theorem gX4_digest_X4_ifSplit : GoodIn wsX4_digest (wsV RX4 256 RX4 yX4_ifSplit wsX4_ifSplit) := goodIn_app (goodIn_of _ (by decide +kernel)) ggX4_digest_X4_ifSplit
set_option maxRecDepth 20000 in
theorem ggX4_digest_X4_mainPiece : GoodIn wsX4_digest wsX4_mainPiece := goodIn_r _ [196, 14, 2, 153, 16, 47, 48, 49, 40, 50, 51, 52, 43, 53, 54, 55, 56, 44, 57, 58, 59, 60, 24, 61, 62, 63, 26, 64, 65, 66, 67, 68, 69, 8, 70, 45, 46, 71, 72, 73, 74, 75, 76, 77, 78, 79, 80, 131, 132, 133, 134, 214, 215, 216, 217, 218, 219, 220, 221, 222, 233, 234, 235, 236, 237, 238, 223, 224, 225, 226, 227, 228, 229, 230, 231, 232] (by decide +kernel) (by decide +kernel)
set_option maxRecDepth 20000 in
theorem gX4_digest_X4_mainPiece : GoodIn wsX4_digest (wsV RX4 259 RX4 yX4_mainPiece wsX4_mainPiece) := goodIn_app (goodIn_of _ (by decide +kernel)) ggX4_digest_X4_mainPiece
set_option maxRecDepth 20000 in
theorem ggX4_digest_X4_explained : GoodIn wsX4_digest wsX4_explained := goodIn_r _ [200, 2, 12, 13, 34, 35, 8, 36, 214, 215, 216, 217, 218, 219, 220, 221, 222, 223, 224, 225, 226, 227, 228, 229, 230, 231, 232] (by decide +kernel) (by decide +kernel)
set_option maxRecDepth 20000 in
theorem gX4_digest_X4_explained : GoodIn wsX4_digest (wsV RX4 262 RX4 yX4_explained wsX4_explained) := goodIn_app (goodIn_of _ (by decide +kernel)) ggX4_digest_X4_explained
set_option maxRecDepth 20000 in
theorem ggX4_digest_X4_bitsOf : GoodIn wsX4_digest wsX4_bitsOf := goodIn_r _ [203, 204, 205, 206] (by decide +kernel) (by decide +kernel)
set_option maxRecDepth 20000 in
theorem gX4_digest_X4_bitsOf : GoodIn wsX4_digest (va_wsS RX4 266 yX4_bitsOf wsX4_bitsOf) := goodIn_app (goodIn_of _ (by decide +kernel)) ggX4_digest_X4_bitsOf
set_option maxRecDepth 20000 in
theorem ggX4_digest_X4_mixBuffer : GoodIn wsX4_digest wsX4_mixBuffer := goodIn_r _ [210, 211, 212, 213, 106, 107, 8, 108, 109, 214, 215, 216, 217, 218, 219, 220, 221, 222, 242, 243, 244, 245, 246, 247, 248] (by decide +kernel) (by decide +kernel)
set_option maxRecDepth 20000 in
theorem gX4_digest_X4_mixBuffer : GoodIn wsX4_digest (wsV RX4 270 RX4 yX4_mixBuffer wsX4_mixBuffer) := goodIn_app (goodIn_of _ (by decide +kernel)) ggX4_digest_X4_mixBuffer
theorem dX4_digest_0 : decode cX4_digest 0 = .ok (.ldc2_w 234, 3) := by decide +kernel
theorem dX4_digest_3 : decode cX4_digest 3 = .ok (.lstore_n 1, 1) := by decide +kernel
theorem dX4_digest_4 : decode cX4_digest 4 = .ok (.iconst 0, 1) := by decide +kernel
theorem dX4_digest_5 : decode cX4_digest 5 = .ok (.istore_n 3, 1) := by decide +kernel
theorem dX4_digest_6 : decode cX4_digest 6 = .ok (.iload_n 3, 1) := by decide +kernel
theorem dX4_digest_7 : decode cX4_digest 7 = .ok (.bipush 12, 2) := by decide +kernel
theorem dX4_digest_9 : decode cX4_digest 9 = .ok (.if_icmp .ge 20, 3) := by decide +kernel
theorem dX4_digest_12 : decode cX4_digest 12 = .ok (.lload_n 1, 1) := by decide +kernel
theorem dX4_digest_13 : decode cX4_digest 13 = .ok (.aload_n 0, 1) := by decide +kernel
theorem dX4_digest_14 : decode cX4_digest 14 = .ok (.iload_n 3, 1) := by decide +kernel
theorem dX4_digest_15 : decode cX4_digest 15 = .ok (.invokevirtual 236, 3) := by decide +kernel
theorem dX4_digest_18 : decode cX4_digest 18 = .ok (.i2l, 1) := by decide +kernel
theorem dX4_digest_19 : decode cX4_digest 19 = .ok (.invokestatic 239, 3) := by decide +kernel
theorem dX4_digest_22 : decode cX4_digest 22 = .ok (.lstore_n 1, 1) := by decide +kernel
theorem dX4_digest_23 : decode cX4_digest 23 = .ok (.iinc 3 1, 3) := by decide +kernel
theorem dX4_digest_26 : decode cX4_digest 26 = .ok (.goto (-20), 3) := by decide +kernel
theorem dX4_digest_29 : decode cX4_digest 29 = .ok (.iconst 0, 1) := by decide +kernel
theorem dX4_digest_30 : decode cX4_digest 30 = .ok (.istore_n 3, 1) := by decide +kernel
theorem dX4_digest_31 : decode cX4_digest 31 = .ok (.iload_n 3, 1) := by decide +kernel
theorem dX4_digest_32 : decode cX4_digest 32 = .ok (.bipush 9, 2) := by decide +kernel
theorem dX4_digest_34 : decode cX4_digest 34 = .ok (.if_icmp .ge 16, 3) := by decide +kernel
theorem dX4_digest_37 : decode cX4_digest 37 = .ok (.aload_n 0, 1) := by decide +kernel
theorem dX4_digest_38 : decode cX4_digest 38 = .ok (.lload_n 1, 1) := by decide +kernel
theorem dX4_digest_39 : decode cX4_digest 39 = .ok (.iload_n 3, 1) := by decide +kernel
theorem dX4_digest_40 : decode cX4_digest 40 = .ok (.invokevirtual 243, 3) := by decide +kernel
theorem dX4_digest_43 : decode cX4_digest 43 = .ok (.lstore_n 1, 1) := by decide +kernel
theorem dX4_digest_44 : decode cX4_digest 44 = .ok (.iinc 3 1, 3) := by decide +kernel
theorem dX4_digest_47 : decode cX4_digest 47 = .ok (.goto (-16), 3) := by decide +kernel
theorem dX4_digest_50 : decode cX4_digest 50 = .ok (.iconst 0, 1) := by decide +kernel
theorem dX4_digest_51 : decode cX4_digest 51 = .ok (.istore_n 3, 1) := by decide +kernel
theorem dX4_digest_52 : decode cX4_digest 52 = .ok (.iload_n 3, 1) := by decide +kernel
theorem dX4_digest_53 : decode cX4_digest 53 = .ok (.aload_n 0, 1) := by decide +kernel
theorem dX4_digest_54 : decode cX4_digest 54 = .ok (.getfield 12, 3) := by decide +kernel
theorem dX4_digest_57 : decode cX4_digest 57 = .ok (.getfield 107, 3) := by decide +kernel
theorem dX4_digest_60 : decode cX4_digest 60 = .ok (.if_icmp .ge 37, 3) := by decide +kernel
theorem dX4_digest_63 : decode cX4_digest 63 = .ok (.iconst 0, 1) := by decide +kernel
theorem dX4_digest_64 : decode cX4_digest 64 = .ok (.istore 4, 2) := by decide +kernel
theorem dX4_digest_66 : decode cX4_digest 66 = .ok (.iload 4, 2) := by decide +kernel
theorem dX4_digest_68 : decode cX4_digest 68 = .ok (.iconst 3, 1) := by decide +kernel
theorem dX4_digest_69 : decode cX4_digest 69 = .ok (.if_icmp .ge 22, 3) := by decide +kernel
theorem dX4_digest_72 : decode cX4_digest 72 = .ok (.lload_n 1, 1) := by decide +kernel
theorem dX4_digest_73 : decode cX4_digest 73 = .ok (.aload_n 0, 1) := by decide +kernel
theorem dX4_digest_74 : decode cX4_digest 74 = .ok (.iload_n 3, 1) := by decide +kernel
theorem dX4_digest_75 : decode cX4_digest 75 = .ok (.iload 4, 2) := by decide +kernel
theorem dX4_digest_77 : decode cX4_digest 77 = .ok (.invokevirtual 247, 3) := by decide +kernel
theorem dX4_digest_80 : decode cX4_digest 80 = .ok (.i2l, 1) := by decide +kernel
theorem dX4_digest_81 : decode cX4_digest 81 = .ok (.invokestatic 239, 3) := by decide +kernel
theorem dX4_digest_84 : decode cX4_digest 84 = .ok (.lstore_n 1, 1) := by decide +kernel
theorem dX4_digest_85 : decode cX4_digest 85 = .ok (.iinc 4 1, 3) := by decide +kernel
theorem dX4_digest_88 : decode cX4_digest 88 = .ok (.goto (-22), 3) := by decide +kernel
theorem dX4_digest_91 : decode cX4_digest 91 = .ok (.iinc 3 1, 3) := by decide +kernel
theorem dX4_digest_94 : decode cX4_digest 94 = .ok (.goto (-42), 3) := by decide +kernel
theorem dX4_digest_97 : decode cX4_digest 97 = .ok (.lload_n 1, 1) := by decide +kernel
theorem dX4_digest_98 : decode cX4_digest 98 = .ok (.aload_n 0, 1) := by decide +kernel
theorem dX4_digest_99 : decode cX4_digest 99 = .ok (.iconst 0, 1) := by decide +kernel
theorem dX4_digest_100 : decode cX4_digest 100 = .ok (.invokevirtual 250, 3) := by decide +kernel
theorem dX4_digest_103 : decode cX4_digest 103 = .ok (.i2l, 1) := by decide +kernel
theorem dX4_digest_104 : decode cX4_digest 104 = .ok (.invokestatic 239, 3) := by decide +kernel
theorem dX4_digest_107 : decode cX4_digest 107 = .ok (.lstore_n 1, 1) := by decide +kernel
theorem dX4_digest_108 : decode cX4_digest 108 = .ok (.lload_n 1, 1) := by decide +kernel
theorem dX4_digest_109 : decode cX4_digest 109 = .ok (.aload_n 0, 1) := by decide +kernel
theorem dX4_digest_110 : decode cX4_digest 110 = .ok (.iconst 1, 1) := by decide +kernel
theorem dX4_digest_111 : decode cX4_digest 111 = .ok (.invokevirtual 250, 3) := by decide +kernel
theorem dX4_digest_114 : decode cX4_digest 114 = .ok (.i2l, 1) := by decide +kernel
theorem dX4_digest_115 : decode cX4_digest 115 = .ok (.invokestatic 239, 3) := by decide +kernel
theorem dX4_digest_118 : decode cX4_digest 118 = .ok (.lstore_n 1, 1) := by decide +kernel
theorem dX4_digest_119 : decode cX4_digest 119 = .ok (.iconst 0, 1) := by decide +kernel
theorem dX4_digest_120 : decode cX4_digest 120 = .ok (.istore_n 3, 1) := by decide +kernel
theorem dX4_digest_121 : decode cX4_digest 121 = .ok (.iload_n 3, 1) := by decide +kernel
theorem dX4_digest_122 : decode cX4_digest 122 = .ok (.iconst 5, 1) := by decide +kernel
theorem dX4_digest_123 : decode cX4_digest 123 = .ok (.if_icmp .ge 20, 3) := by decide +kernel
theorem dX4_digest_126 : decode cX4_digest 126 = .ok (.lload_n 1, 1) := by decide +kernel
theorem dX4_digest_127 : decode cX4_digest 127 = .ok (.aload_n 0, 1) := by decide +kernel
theorem dX4_digest_128 : decode cX4_digest 128 = .ok (.iload_n 3, 1) := by decide +kernel
theorem dX4_digest_129 : decode cX4_digest 129 = .ok (.invokevirtual 253, 3) := by decide +kernel
theorem dX4_digest_132 : decode cX4_digest 132 = .ok (.i2l, 1) := by decide +kernel
theorem dX4_digest_133 : decode cX4_digest 133 = .ok (.invokestatic 239, 3) := by decide +kernel
theorem dX4_digest_136 : decode cX4_digest 136 = .ok (.lstore_n 1, 1) := by decide +kernel
theorem dX4_digest_137 : decode cX4_digest 137 = .ok (.iinc 3 1, 3) := by decide +kernel
theorem dX4_digest_140 : decode cX4_digest 140 = .ok (.goto (-19), 3) := by decide +kernel
theorem dX4_digest_143 : decode cX4_digest 143 = .ok (.lload_n 1, 1) := by decide +kernel
theorem dX4_digest_144 : decode cX4_digest 144 = .ok (.aload_n 0, 1) := by decide +kernel
theorem dX4_digest_145 : decode cX4_digest 145 = .ok (.invokevirtual 256, 3) := by decide +kernel
theorem dX4_digest_148 : decode cX4_digest 148 = .ok (.i2l, 1) := by decide +kernel
theorem dX4_digest_149 : decode cX4_digest 149 = .ok (.invokestatic 239, 3) := by decide +kernel
theorem dX4_digest_152 : decode cX4_digest 152 = .ok (.lstore_n 1, 1) := by decide +kernel
theorem dX4_digest_153 : decode cX4_digest 153 = .ok (.lload_n 1, 1) := by decide +kernel
theorem dX4_digest_154 : decode cX4_digest 154 = .ok (.aload_n 0, 1) := by decide +kernel
theorem dX4_digest_155 : decode cX4_digest 155 = .ok (.invokevirtual 259, 3) := by decide +kernel
theorem dX4_digest_158 : decode cX4_digest 158 = .ok (.i2l, 1) := by decide +kernel
theorem dX4_digest_159 : decode cX4_digest 159 = .ok (.invokestatic 239, 3) := by decide +kernel
theorem dX4_digest_162 : decode cX4_digest 162 = .ok (.lstore_n 1, 1) := by decide +kernel
theorem dX4_digest_163 : decode cX4_digest 163 = .ok (.lload_n 1, 1) := by decide +kernel
theorem dX4_digest_164 : decode cX4_digest 164 = .ok (.aload_n 0, 1) := by decide +kernel
theorem dX4_digest_165 : decode cX4_digest 165 = .ok (.invokevirtual 262, 3) := by decide +kernel
theorem dX4_digest_168 : decode cX4_digest 168 = .ok (.invokestatic 266, 3) := by decide +kernel
theorem dX4_digest_171 : decode cX4_digest 171 = .ok (.invokestatic 239, 3) := by decide +kernel
theorem dX4_digest_174 : decode cX4_digest 174 = .ok (.lstore_n 1, 1) := by decide +kernel
theorem dX4_digest_175 : decode cX4_digest 175 = .ok (.iconst 0, 1) := by decide +kernel
theorem dX4_digest_176 : decode cX4_digest 176 = .ok (.istore_n 3, 1) := by decide +kernel
theorem dX4_digest_177 : decode cX4_digest 177 = .ok (.iload_n 3, 1) := by decide +kernel
theorem dX4_digest_178 : decode cX4_digest 178 = .ok (.iconst 2, 1) := by decide +kernel
theorem dX4_digest_179 : decode cX4_digest 179 = .ok (.if_icmp .ge 28, 3) := by decide +kernel
theorem dX4_digest_182 : decode cX4_digest 182 = .ok (.lload_n 1, 1) := by decide +kernel
theorem dX4_digest_183 : decode cX4_digest 183 = .ok (.aload_n 0, 1) := by decide +kernel
theorem dX4_digest_184 : decode cX4_digest 184 = .ok (.getfield 26, 3) := by decide +kernel
theorem dX4_digest_187 : decode cX4_digest 187 = .ok (.iload_n 3, 1) := by decide +kernel
theorem dX4_digest_188 : decode cX4_digest 188 = .ok (.baload, 1) := by decide +kernel
theorem dX4_digest_189 : decode cX4_digest 189 = .ok (.ifCond .eq 7, 3) := by decide +kernel
theorem dX4_digest_192 : decode cX4_digest 192 = .ok (.lconst 1, 1) := by decide +kernel
theorem dX4_digest_193 : decode cX4_digest 193 = .ok (.goto 4, 3) := by decide +kernel
theorem dX4_digest_196 : decode cX4_digest 196 = .ok (.lconst 0, 1) := by decide +kernel
theorem dX4_digest_197 : decode cX4_digest 197 = .ok (.invokestatic 239, 3) := by decide +kernel
theorem dX4_digest_200 : decode cX4_digest 200 = .ok (.lstore_n 1, 1) := by decide +kernel
theorem dX4_digest_201 : decode cX4_digest 201 = .ok (.iinc 3 1, 3) := by decide +kernel
theorem dX4_digest_204 : decode cX4_digest 204 = .ok (.goto (-27), 3) := by decide +kernel
theorem dX4_digest_207 : decode cX4_digest 207 = .ok (.aload_n 0, 1) := by decide +kernel
theorem dX4_digest_208 : decode cX4_digest 208 = .ok (.lload_n 1, 1) := by decide +kernel
theorem dX4_digest_209 : decode cX4_digest 209 = .ok (.invokevirtual 270, 3) := by decide +kernel
theorem dX4_digest_212 : decode cX4_digest 212 = .ok (.lreturn, 1) := by decide +kernel
set_option maxRecDepth 20000 in
theorem ggX4_mixPiece_X4_pieceOf : GoodIn wsX4_mixPiece wsX4_pieceOf := goodIn_ca (goodIn_ca (goodIn_r _ [5, 6, 7, 8, 9, 10, 11, 12, 13, 14, 15, 16, 17, 18, 19, 20, 21, 22, 4, 23, 24, 25, 26, 27, 28, 29, 30, 31, 32, 33, 34, 35, 36, 37, 38, 39, 40, 41, 42, 43, 44, 45, 46, 47, 48, 49, 50, 51, 52, 53, 54, 55, 56, 57, 58, 59, 60, 61, 62, 63, 64, 65, 66, 67, 68, 69, 70, 71, 72, 73, 74, 75, 76, 77, 78, 79, 80, 81, 82, 83, 84, 93, 94, 95, 96, 97, 98, 99, 100, 101, 102, 103, 104, 105, 106, 107, 108, 109, 110, 111, 112, 113, 114, 115, 116, 117, 118, 119, 120] (by decide +kernel) (by decide +kernel)) (goodIn_sub (fun _ h => List.mem_cons_of_mem _ (List.mem_append_left _ (List.mem_append_right _ h))) (by decide +kernel))) (goodIn_sub (fun _ h => List.mem_cons_of_mem _ (List.mem_append_right _ h)) (by decide +kernel))
set_option maxRecDepth 20000 in
theorem gX4_mixPiece_X4_pieceOf : GoodIn wsX4_mixPiece (wsV RX4 274 RX4 yX4_pieceOf wsX4_pieceOf) := goodIn_app (goodIn_of _ (by decide +kernel)) ggX4_mixPiece_X4_pieceOf
set_option maxRecDepth 20000 in
theorem ggX4_mixPiece_X4_mix : GoodIn wsX4_mixPiece wsX4_mix := goodIn_r _ [87, 88] (by decide +kernel) (by decide +kernel)
set_option maxRecDepth 20000 in
theorem gX4_mixPiece_X4_mix : GoodIn wsX4_mixPiece (va_wsS RX4 239 yX4_mix wsX4_mix) := goodIn_app (goodIn_of _ (by decide +kernel)) ggX4_mixPiece_X4_mix
set_option maxRecDepth 20000 in
theorem ggX4_mixPiece_X4_isJoined : GoodIn wsX4_mixPiece wsX4_isJoined := goodIn_ca (goodIn_r _ [92, 6, 7, 10, 14, 21, 22, 4, 23, 84, 30, 31, 93, 94, 95, 96, 97, 98, 99, 100, 101, 102, 103, 104, 105, 106, 107, 108, 109, 110, 111] (by decide +kernel) (by decide +kernel)) (goodIn_sub (fun _ h => List.mem_cons_of_mem _ (List.mem_append_left _ (List.mem_append_right _ h))) (by decide +kernel))
set_option maxRecDepth 20000 in
theorem gX4_mixPiece_X4_isJoined : GoodIn wsX4_mixPiece (wsV RX4 277 RX4 yX4_isJoined wsX4_isJoined) := goodIn_app (goodIn_of _ (by decide +kernel)) ggX4_mixPiece_X4_isJoined
theorem dX4_mixPiece_0 : decode cX4_mixPiece 0 = .ok (.lload_n 1, 1) := by decide +kernel
theorem dX4_mixPiece_1 : decode cX4_mixPiece 1 = .ok (.lstore 4, 2) := by decide +kernel
theorem dX4_mixPiece_3 : decode cX4_mixPiece 3 = .ok (.iconst 0, 1) := by decide +kernel
theorem dX4_mixPiece_4 : decode cX4_mixPiece 4 = .ok (.istore 6, 2) := by decide +kernel
theorem dX4_mixPiece_6 : decode cX4_mixPiece 6 = .ok (.iload 6, 2) := by decide +kernel
theorem dX4_mixPiece_8 : decode cX4_mixPiece 8 = .ok (.bipush 8, 2) := by decide +kernel
theorem dX4_mixPiece_10 : decode cX4_mixPiece 10 = .ok (.if_icmp .ge 24, 3) := by decide +kernel
theorem dX4_mixPiece_13 : decode cX4_mixPiece 13 = .ok (.lload 4, 2) := by decide +kernel
theorem dX4_mixPiece_15 : decode cX4_mixPiece 15 = .ok (.aload_n 0, 1) := by decide +kernel
theorem dX4_mixPiece_16 : decode cX4_mixPiece 16 = .ok (.iload_n 3, 1) := by decide +kernel
theorem dX4_mixPiece_17 : decode cX4_mixPiece 17 = .ok (.iload 6, 2) := by decide +kernel
theorem dX4_mixPiece_19 : decode cX4_mixPiece 19 = .ok (.invokevirtual 274, 3) := by decide +kernel
theorem dX4_mixPiece_22 : decode cX4_mixPiece 22 = .ok (.i2l, 1) := by decide +kernel
theorem dX4_mixPiece_23 : decode cX4_mixPiece 23 = .ok (.invokestatic 239, 3) := by decide +kernel
theorem dX4_mixPiece_26 : decode cX4_mixPiece 26 = .ok (.lstore 4, 2) := by decide +kernel
theorem dX4_mixPiece_28 : decode cX4_mixPiece 28 = .ok (.iinc 6 1, 3) := by decide +kernel
theorem dX4_mixPiece_31 : decode cX4_mixPiece 31 = .ok (.goto (-25), 3) := by decide +kernel
theorem dX4_mixPiece_34 : decode cX4_mixPiece 34 = .ok (.iconst 0, 1) := by decide +kernel
theorem dX4_mixPiece_35 : decode cX4_mixPiece 35 = .ok (.istore 6, 2) := by decide +kernel
theorem dX4_mixPiece_37 : decode cX4_mixPiece 37 = .ok (.iload 6, 2) := by decide +kernel
theorem dX4_mixPiece_39 : decode cX4_mixPiece 39 = .ok (.bipush 9, 2) := by decide +kernel
theorem dX4_mixPiece_41 : decode cX4_mixPiece 41 = .ok (.if_icmp .ge 24, 3) := by decide +kernel
theorem dX4_mixPiece_44 : decode cX4_mixPiece 44 = .ok (.lload 4, 2) := by decide +kernel
theorem dX4_mixPiece_46 : decode cX4_mixPiece 46 = .ok (.aload_n 0, 1) := by decide +kernel
theorem dX4_mixPiece_47 : decode cX4_mixPiece 47 = .ok (.iload_n 3, 1) := by decide +kernel
theorem dX4_mixPiece_48 : decode cX4_mixPiece 48 = .ok (.iload 6, 2) := by decide +kernel
theorem dX4_mixPiece_50 : decode cX4_mixPiece 50 = .ok (.invokevirtual 277, 3) := by decide +kernel
theorem dX4_mixPiece_53 : decode cX4_mixPiece 53 = .ok (.i2l, 1) := by decide +kernel
theorem dX4_mixPiece_54 : decode cX4_mixPiece 54 = .ok (.invokestatic 239, 3) := by decide +kernel
theorem dX4_mixPiece_57 : decode cX4_mixPiece 57 = .ok (.lstore 4, 2) := by decide +kernel
theorem dX4_mixPiece_59 : decode cX4_mixPiece 59 = .ok (.iinc 6 1, 3) := by decide +kernel
theorem dX4_mixPiece_62 : decode cX4_mixPiece 62 = .ok (.goto (-25), 3) := by decide +kernel
theorem dX4_mixPiece_65 : decode cX4_mixPiece 65 = .ok (.lload 4, 2) := by decide +kernel
theorem dX4_mixPiece_67 : decode cX4_mixPiece 67 = .ok (.lreturn, 1) := by decide +kernel
set_option maxRecDepth 20000 in
theorem ggX4_mixBuffer_X4_mix : GoodIn wsX4_mixBuffer wsX4_mix := goodIn_r _ [7, 8] (by decide +kernel) (by decide +kernel)
set_option maxRecDepth 20000 in
theorem gX4_mixBuffer_X4_mix : GoodIn wsX4_mixBuffer (va_wsS RX4 239 yX4_mix wsX4_mix) := goodIn_app (goodIn_of _ (by decide +kernel)) ggX4_mixBuffer_X4_mix
theorem dX4_mixBuffer_0 : decode cX4_mixBuffer 0 = .ok (.lload_n 1, 1) := by decide +kernel
theorem dX4_mixBuffer_1 : decode cX4_mixBuffer 1 = .ok (.aload_n 0, 1) := by decide +kernel
theorem dX4_mixBuffer_2 : decode cX4_mixBuffer 2 = .ok (.getfield 33, 3) := by decide +kernel
theorem dX4_mixBuffer_5 : decode cX4_mixBuffer 5 = .ok (.getfield 113, 3) := by decide +kernel
theorem dX4_mixBuffer_8 : decode cX4_mixBuffer 8 = .ok (.i2l, 1) := by decide +kernel
theorem dX4_mixBuffer_9 : decode cX4_mixBuffer 9 = .ok (.invokestatic 239, 3) := by decide +kernel
theorem dX4_mixBuffer_12 : decode cX4_mixBuffer 12 = .ok (.lstore_n 3, 1) := by decide +kernel
theorem dX4_mixBuffer_13 : decode cX4_mixBuffer 13 = .ok (.iconst 0, 1) := by decide +kernel
theorem dX4_mixBuffer_14 : decode cX4_mixBuffer 14 = .ok (.istore 5, 2) := by decide +kernel
theorem dX4_mixBuffer_16 : decode cX4_mixBuffer 16 = .ok (.iload 5, 2) := by decide +kernel
theorem dX4_mixBuffer_18 : decode cX4_mixBuffer 18 = .ok (.aload_n 0, 1) := by decide +kernel
theorem dX4_mixBuffer_19 : decode cX4_mixBuffer 19 = .ok (.getfield 33, 3) := by decide +kernel
theorem dX4_mixBuffer_22 : decode cX4_mixBuffer 22 = .ok (.getfield 113, 3) := by decide +kernel
theorem dX4_mixBuffer_25 : decode cX4_mixBuffer 25 = .ok (.if_icmp .ge 32, 3) := by decide +kernel
theorem dX4_mixBuffer_28 : decode cX4_mixBuffer 28 = .ok (.iload 5, 2) := by decide +kernel
theorem dX4_mixBuffer_30 : decode cX4_mixBuffer 30 = .ok (.bipush 60, 2) := by decide +kernel
theorem dX4_mixBuffer_32 : decode cX4_mixBuffer 32 = .ok (.if_icmp .ge 25, 3) := by decide +kernel
theorem dX4_mixBuffer_35 : decode cX4_mixBuffer 35 = .ok (.lload_n 3, 1) := by decide +kernel
theorem dX4_mixBuffer_36 : decode cX4_mixBuffer 36 = .ok (.aload_n 0, 1) := by decide +kernel
theorem dX4_mixBuffer_37 : decode cX4_mixBuffer 37 = .ok (.getfield 33, 3) := by decide +kernel
theorem dX4_mixBuffer_40 : decode cX4_mixBuffer 40 = .ok (.getfield 121, 3) := by decide +kernel
theorem dX4_mixBuffer_43 : decode cX4_mixBuffer 43 = .ok (.iload 5, 2) := by decide +kernel
theorem dX4_mixBuffer_45 : decode cX4_mixBuffer 45 = .ok (.iaload, 1) := by decide +kernel
theorem dX4_mixBuffer_46 : decode cX4_mixBuffer 46 = .ok (.i2l, 1) := by decide +kernel
theorem dX4_mixBuffer_47 : decode cX4_mixBuffer 47 = .ok (.invokestatic 239, 3) := by decide +kernel
theorem dX4_mixBuffer_50 : decode cX4_mixBuffer 50 = .ok (.lstore_n 3, 1) := by decide +kernel
theorem dX4_mixBuffer_51 : decode cX4_mixBuffer 51 = .ok (.iinc 5 1, 3) := by decide +kernel
theorem dX4_mixBuffer_54 : decode cX4_mixBuffer 54 = .ok (.goto (-38), 3) := by decide +kernel
theorem dX4_mixBuffer_57 : decode cX4_mixBuffer 57 = .ok (.lload_n 3, 1) := by decide +kernel
theorem dX4_mixBuffer_58 : decode cX4_mixBuffer 58 = .ok (.lreturn, 1) := by decide +kernel
theorem dX4_mix_0 : decode cX4_mix 0 = .ok (.ldc2_w 280, 3) := by decide +kernel
theorem dX4_mix_3 : decode cX4_mix 3 = .ok (.lload_n 0, 1) := by decide +kernel
theorem dX4_mix_4 : decode cX4_mix 4 = .ok (.lmul, 1) := by decide +kernel
theorem dX4_mix_5 : decode cX4_mix 5 = .ok (.lload_n 2, 1) := by decide +kernel
theorem dX4_mix_6 : decode cX4_mix 6 = .ok (.ladd, 1) := by decide +kernel
theorem dX4_mix_7 : decode cX4_mix 7 = .ok (.lreturn, 1) := by decide +kernel
theorem dX4_bitsOf_0 : decode cX4_bitsOf 0 = .ok (.dload_n 0, 1) := by decide +kernel
theorem dX4_bitsOf_1 : decode cX4_bitsOf 1 = .ok (.dconst 0, 1) := by decide +kernel
theorem dX4_bitsOf_2 : decode cX4_bitsOf 2 = .ok (.dcmp .g, 1) := by decide +kernel
theorem dX4_bitsOf_3 : decode cX4_bitsOf 3 = .ok (.ifCond .gt 5, 3) := by decide +kernel
theorem dX4_bitsOf_6 : decode cX4_bitsOf 6 = .ok (.lconst 0, 1) := by decide +kernel
theorem dX4_bitsOf_7 : decode cX4_bitsOf 7 = .ok (.lreturn, 1) := by decide +kernel
theorem dX4_bitsOf_8 : decode cX4_bitsOf 8 = .ok (.dload_n 0, 1) := by decide +kernel
theorem dX4_bitsOf_9 : decode cX4_bitsOf 9 = .ok (.dstore_n 2, 1) := by decide +kernel
theorem dX4_bitsOf_10 : decode cX4_bitsOf 10 = .ok (.ldc2_w 282, 3) := by decide +kernel
theorem dX4_bitsOf_13 : decode cX4_bitsOf 13 = .ok (.lstore 4, 2) := by decide +kernel
theorem dX4_bitsOf_15 : decode cX4_bitsOf 15 = .ok (.iconst 0, 1) := by decide +kernel
theorem dX4_bitsOf_16 : decode cX4_bitsOf 16 = .ok (.istore 6, 2) := by decide +kernel
theorem dX4_bitsOf_18 : decode cX4_bitsOf 18 = .ok (.iload 6, 2) := by decide +kernel
theorem dX4_bitsOf_20 : decode cX4_bitsOf 20 = .ok (.sipush 1022, 3) := by decide +kernel
theorem dX4_bitsOf_23 : decode cX4_bitsOf 23 = .ok (.if_icmp .ge 27, 3) := by decide +kernel
theorem dX4_bitsOf_26 : decode cX4_bitsOf 26 = .ok (.dload_n 2, 1) := by decide +kernel
theorem dX4_bitsOf_27 : decode cX4_bitsOf 27 = .ok (.dconst 1, 1) := by decide +kernel
theorem dX4_bitsOf_28 : decode cX4_bitsOf 28 = .ok (.dcmp .g, 1) := by decide +kernel
theorem dX4_bitsOf_29 : decode cX4_bitsOf 29 = .ok (.ifCond .ge 21, 3) := by decide +kernel
theorem dX4_bitsOf_32 : decode cX4_bitsOf 32 = .ok (.dload_n 2, 1) := by decide +kernel
theorem dX4_bitsOf_33 : decode cX4_bitsOf 33 = .ok (.ldc2_w 284, 3) := by decide +kernel
theorem dX4_bitsOf_36 : decode cX4_bitsOf 36 = .ok (.dmul, 1) := by decide +kernel
theorem dX4_bitsOf_37 : decode cX4_bitsOf 37 = .ok (.dstore_n 2, 1) := by decide +kernel
theorem dX4_bitsOf_38 : decode cX4_bitsOf 38 = .ok (.lload 4, 2) := by decide +kernel
theorem dX4_bitsOf_40 : decode cX4_bitsOf 40 = .ok (.lconst 1, 1) := by decide +kernel
theorem dX4_bitsOf_41 : decode cX4_bitsOf 41 = .ok (.lsub, 1) := by decide +kernel
theorem dX4_bitsOf_42 : decode cX4_bitsOf 42 = .ok (.lstore 4, 2) := by decide +kernel
theorem dX4_bitsOf_44 : decode cX4_bitsOf 44 = .ok (.iinc 6 1, 3) := by decide +kernel
theorem dX4_bitsOf_47 : decode cX4_bitsOf 47 = .ok (.goto (-29), 3) := by decide +kernel
theorem dX4_bitsOf_50 : decode cX4_bitsOf 50 = .ok (.dload_n 2, 1) := by decide +kernel
theorem dX4_bitsOf_51 : decode cX4_bitsOf 51 = .ok (.dconst 1, 1) := by decide +kernel
theorem dX4_bitsOf_52 : decode cX4_bitsOf 52 = .ok (.dsub, 1) := by decide +kernel
theorem dX4_bitsOf_53 : decode cX4_bitsOf 53 = .ok (.ldc2_w 286, 3) := by decide +kernel
theorem dX4_bitsOf_56 : decode cX4_bitsOf 56 = .ok (.dmul, 1) := by decide +kernel
theorem dX4_bitsOf_57 : decode cX4_bitsOf 57 = .ok (.d2l, 1) := by decide +kernel
theorem dX4_bitsOf_58 : decode cX4_bitsOf 58 = .ok (.lstore 6, 2) := by decide +kernel
theorem dX4_bitsOf_60 : decode cX4_bitsOf 60 = .ok (.lload 4, 2) := by decide +kernel
theorem dX4_bitsOf_62 : decode cX4_bitsOf 62 = .ok (.bipush 52, 2) := by decide +kernel
theorem dX4_bitsOf_64 : decode cX4_bitsOf 64 = .ok (.lshl, 1) := by decide +kernel
theorem dX4_bitsOf_65 : decode cX4_bitsOf 65 = .ok (.lload 6, 2) := by decide +kernel
theorem dX4_bitsOf_67 : decode cX4_bitsOf 67 = .ok (.lor, 1) := by decide +kernel
theorem dX4_bitsOf_68 : decode cX4_bitsOf 68 = .ok (.lreturn, 1) := by decide +kernel
theorem dX4_isPiece_0 : decode cX4_isPiece 0 = .ok (.iload_n 0, 1) := by decide +kernel
theorem dX4_isPiece_1 : decode cX4_isPiece 1 = .ok (.ifCond .lt 13, 3) := by decide +kernel
theorem dX4_isPiece_4 : decode cX4_isPiece 4 = .ok (.iload_n 0, 1) := by decide +kernel
theorem dX4_isPiece_5 : decode cX4_isPiece 5 = .ok (.bipush 9, 2) := by decide +kernel
theorem dX4_isPiece_7 : decode cX4_isPiece 7 = .ok (.if_icmp .ge 7, 3) := by decide +kernel
theorem dX4_isPiece_10 : decode cX4_isPiece 10 = .ok (.iconst 1, 1) := by decide +kernel
theorem dX4_isPiece_11 : decode cX4_isPiece 11 = .ok (.goto 4, 3) := by decide +kernel
theorem dX4_isPiece_14 : decode cX4_isPiece 14 = .ok (.iconst 0, 1) := by decide +kernel
theorem dX4_isPiece_15 : decode cX4_isPiece 15 = .ok (.ireturn, 1) := by decide +kernel
theorem dX4_isSlot_0 : decode cX4_isSlot 0 = .ok (.iload_n 0, 1) := by decide +kernel
theorem dX4_isSlot_1 : decode cX4_isSlot 1 = .ok (.ifCond .lt 12, 3) := by decide +kernel
theorem dX4_isSlot_4 : decode cX4_isSlot 4 = .ok (.iload_n 0, 1) := by decide +kernel
theorem dX4_isSlot_5 : decode cX4_isSlot 5 = .ok (.iconst 2, 1) := by decide +kernel
theorem dX4_isSlot_6 : decode cX4_isSlot 6 = .ok (.if_icmp .ge 7, 3) := by decide +kernel
theorem dX4_isSlot_9 : decode cX4_isSlot 9 = .ok (.iconst 1, 1) := by decide +kernel
theorem dX4_isSlot_10 : decode cX4_isSlot 10 = .ok (.goto 4, 3) := by decide +kernel
theorem dX4_isSlot_13 : decode cX4_isSlot 13 = .ok (.iconst 0, 1) := by decide +kernel
theorem dX4_isSlot_14 : decode cX4_isSlot 14 = .ok (.ireturn, 1) := by decide +kernel
theorem dX4_bit_0 : decode cX4_bit 0 = .ok (.iload_n 0, 1) := by decide +kernel
theorem dX4_bit_1 : decode cX4_bit 1 = .ok (.iload_n 1, 1) := by decide +kernel
theorem dX4_bit_2 : decode cX4_bit 2 = .ok (.ishr, 1) := by decide +kernel
theorem dX4_bit_3 : decode cX4_bit 3 = .ok (.iconst 1, 1) := by decide +kernel
theorem dX4_bit_4 : decode cX4_bit 4 = .ok (.iand, 1) := by decide +kernel
theorem dX4_bit_5 : decode cX4_bit 5 = .ok (.ireturn, 1) := by decide +kernel
theorem dX4_sum_0 : decode cX4_sum 0 = .ok (.iconst 0, 1) := by decide +kernel
theorem dX4_sum_1 : decode cX4_sum 1 = .ok (.istore_n 1, 1) := by decide +kernel
theorem dX4_sum_2 : decode cX4_sum 2 = .ok (.aload_n 0, 1) := by decide +kernel
theorem dX4_sum_3 : decode cX4_sum 3 = .ok (.astore_n 2, 1) := by decide +kernel
theorem dX4_sum_4 : decode cX4_sum 4 = .ok (.aload_n 2, 1) := by decide +kernel
theorem dX4_sum_5 : decode cX4_sum 5 = .ok (.arraylength, 1) := by decide +kernel
theorem dX4_sum_6 : decode cX4_sum 6 = .ok (.istore_n 3, 1) := by decide +kernel
theorem dX4_sum_7 : decode cX4_sum 7 = .ok (.iconst 0, 1) := by decide +kernel
theorem dX4_sum_8 : decode cX4_sum 8 = .ok (.istore 4, 2) := by decide +kernel
theorem dX4_sum_10 : decode cX4_sum 10 = .ok (.iload 4, 2) := by decide +kernel
theorem dX4_sum_12 : decode cX4_sum 12 = .ok (.iload_n 3, 1) := by decide +kernel
theorem dX4_sum_13 : decode cX4_sum 13 = .ok (.if_icmp .ge 20, 3) := by decide +kernel
theorem dX4_sum_16 : decode cX4_sum 16 = .ok (.aload_n 2, 1) := by decide +kernel
theorem dX4_sum_17 : decode cX4_sum 17 = .ok (.iload 4, 2) := by decide +kernel
theorem dX4_sum_19 : decode cX4_sum 19 = .ok (.iaload, 1) := by decide +kernel
theorem dX4_sum_20 : decode cX4_sum 20 = .ok (.istore 5, 2) := by decide +kernel
theorem dX4_sum_22 : decode cX4_sum 22 = .ok (.iload_n 1, 1) := by decide +kernel
theorem dX4_sum_23 : decode cX4_sum 23 = .ok (.iload 5, 2) := by decide +kernel
theorem dX4_sum_25 : decode cX4_sum 25 = .ok (.iadd, 1) := by decide +kernel
theorem dX4_sum_26 : decode cX4_sum 26 = .ok (.istore_n 1, 1) := by decide +kernel
theorem dX4_sum_27 : decode cX4_sum 27 = .ok (.iinc 4 1, 3) := by decide +kernel
theorem dX4_sum_30 : decode cX4_sum 30 = .ok (.goto (-20), 3) := by decide +kernel
theorem dX4_sum_33 : decode cX4_sum 33 = .ok (.iload_n 1, 1) := by decide +kernel
theorem dX4_sum_34 : decode cX4_sum 34 = .ok (.ireturn, 1) := by decide +kernel
set_option maxRecDepth 20000 in
theorem ggX4_countWith_X4_bit : GoodIn wsX4_countWith wsX4_bit := goodIn_r _ [4] (by decide +kernel) (by decide +kernel)
set_option maxRecDepth 20000 in
theorem gX4_countWith_X4_bit : GoodIn wsX4_countWith (va_wsS RX4 85 yX4_bit wsX4_bit) := goodIn_app (goodIn_of _ (by decide +kernel)) ggX4_countWith_X4_bit
theorem dX4_countWith_0 : decode cX4_countWith 0 = .ok (.iconst 0, 1) := by decide +kernel
theorem dX4_countWith_1 : decode cX4_countWith 1 = .ok (.istore_n 3, 1) := by decide +kernel
theorem dX4_countWith_2 : decode cX4_countWith 2 = .ok (.iconst 0, 1) := by decide +kernel
theorem dX4_countWith_3 : decode cX4_countWith 3 = .ok (.istore 4, 2) := by decide +kernel
theorem dX4_countWith_5 : decode cX4_countWith 5 = .ok (.iload 4, 2) := by decide +kernel
theorem dX4_countWith_7 : decode cX4_countWith 7 = .ok (.iload_n 1, 1) := by decide +kernel
theorem dX4_countWith_8 : decode cX4_countWith 8 = .ok (.if_icmp .ge 27, 3) := by decide +kernel
theorem dX4_countWith_11 : decode cX4_countWith 11 = .ok (.iload 4, 2) := by decide +kernel
theorem dX4_countWith_13 : decode cX4_countWith 13 = .ok (.aload_n 0, 1) := by decide +kernel
theorem dX4_countWith_14 : decode cX4_countWith 14 = .ok (.arraylength, 1) := by decide +kernel
theorem dX4_countWith_15 : decode cX4_countWith 15 = .ok (.if_icmp .ge 20, 3) := by decide +kernel
theorem dX4_countWith_18 : decode cX4_countWith 18 = .ok (.iload_n 3, 1) := by decide +kernel
theorem dX4_countWith_19 : decode cX4_countWith 19 = .ok (.aload_n 0, 1) := by decide +kernel
theorem dX4_countWith_20 : decode cX4_countWith 20 = .ok (.iload 4, 2) := by decide +kernel
theorem dX4_countWith_22 : decode cX4_countWith 22 = .ok (.iaload, 1) := by decide +kernel
theorem dX4_countWith_23 : decode cX4_countWith 23 = .ok (.iload_n 2, 1) := by decide +kernel
theorem dX4_countWith_24 : decode cX4_countWith 24 = .ok (.invokestatic 85, 3) := by decide +kernel
theorem dX4_countWith_27 : decode cX4_countWith 27 = .ok (.iadd, 1) := by decide +kernel
theorem dX4_countWith_28 : decode cX4_countWith 28 = .ok (.istore_n 3, 1) := by decide +kernel
theorem dX4_countWith_29 : decode cX4_countWith 29 = .ok (.iinc 4 1, 3) := by decide +kernel
theorem dX4_countWith_32 : decode cX4_countWith 32 = .ok (.goto (-27), 3) := by decide +kernel
theorem dX4_countWith_35 : decode cX4_countWith 35 = .ok (.iload_n 3, 1) := by decide +kernel
theorem dX4_countWith_36 : decode cX4_countWith 36 = .ok (.ireturn, 1) := by decide +kernel
set_option maxRecDepth 20000 in
theorem ggX4_saveState_X4_dropOldest : GoodIn wsX4_saveState wsX4_dropOldest := goodIn_r _ [8, 3, 1, 31, 32, 33, 34, 35, 36, 37, 38, 39] (by decide +kernel) (by decide +kernel)
set_option maxRecDepth 20000 in
theorem gX4_saveState_X4_dropOldest : GoodIn wsX4_saveState (wsV RX4 288 RX4 yX4_dropOldest wsX4_dropOldest) := goodIn_app (goodIn_of _ (by decide +kernel)) ggX4_saveState_X4_dropOldest
set_option maxRecDepth 20000 in
theorem ggX4_saveState_X4_copyState : GoodIn wsX4_saveState wsX4_copyState := goodIn_r _ [11, 12, 13, 14, 15, 16, 17, 18, 19, 20, 21, 22, 23, 24, 25, 26, 27, 28, 29, 30, 40, 41, 42, 43, 44, 45, 46, 47, 48, 49] (by decide +kernel) (by decide +kernel)
set_option maxRecDepth 20000 in
theorem gX4_saveState_X4_copyState : GoodIn wsX4_saveState (va_wsS RX4 148 yX4_copyState wsX4_copyState) := goodIn_app (goodIn_of _ (by decide +kernel)) ggX4_saveState_X4_copyState
theorem dX4_saveState_0 : decode cX4_saveState 0 = .ok (.aload_n 0, 1) := by decide +kernel
theorem dX4_saveState_1 : decode cX4_saveState 1 = .ok (.getfield 154, 3) := by decide +kernel
theorem dX4_saveState_4 : decode cX4_saveState 4 = .ok (.ifCond .lt 12, 3) := by decide +kernel
theorem dX4_saveState_7 : decode cX4_saveState 7 = .ok (.aload_n 0, 1) := by decide +kernel
theorem dX4_saveState_8 : decode cX4_saveState 8 = .ok (.getfield 154, 3) := by decide +kernel
theorem dX4_saveState_11 : decode cX4_saveState 11 = .ok (.bipush 6, 2) := by decide +kernel
theorem dX4_saveState_13 : decode cX4_saveState 13 = .ok (.if_icmp .lt 7, 3) := by decide +kernel
theorem dX4_saveState_16 : decode cX4_saveState 16 = .ok (.aload_n 0, 1) := by decide +kernel
theorem dX4_saveState_17 : decode cX4_saveState 17 = .ok (.invokevirtual 288, 3) := by decide +kernel
theorem dX4_saveState_20 : decode cX4_saveState 20 = .ok (.aload_n 0, 1) := by decide +kernel
theorem dX4_saveState_21 : decode cX4_saveState 21 = .ok (.getfield 12, 3) := by decide +kernel
theorem dX4_saveState_24 : decode cX4_saveState 24 = .ok (.aload_n 0, 1) := by decide +kernel
theorem dX4_saveState_25 : decode cX4_saveState 25 = .ok (.getfield 19, 3) := by decide +kernel
theorem dX4_saveState_28 : decode cX4_saveState 28 = .ok (.aload_n 0, 1) := by decide +kernel
theorem dX4_saveState_29 : decode cX4_saveState 29 = .ok (.getfield 154, 3) := by decide +kernel
theorem dX4_saveState_32 : decode cX4_saveState 32 = .ok (.aaload, 1) := by decide +kernel
theorem dX4_saveState_33 : decode cX4_saveState 33 = .ok (.invokestatic 148, 3) := by decide +kernel
theorem dX4_saveState_36 : decode cX4_saveState 36 = .ok (.aload_n 0, 1) := by decide +kernel
theorem dX4_saveState_37 : decode cX4_saveState 37 = .ok (.dup, 1) := by decide +kernel
theorem dX4_saveState_38 : decode cX4_saveState 38 = .ok (.getfield 154, 3) := by decide +kernel
theorem dX4_saveState_41 : decode cX4_saveState 41 = .ok (.iconst 1, 1) := by decide +kernel
theorem dX4_saveState_42 : decode cX4_saveState 42 = .ok (.iadd, 1) := by decide +kernel
theorem dX4_saveState_43 : decode cX4_saveState 43 = .ok (.putfield 154, 3) := by decide +kernel
theorem dX4_saveState_46 : decode cX4_saveState 46 = .ok (.return_, 1) := by decide +kernel
theorem dX4_dropOldest_0 : decode cX4_dropOldest 0 = .ok (.aload_n 0, 1) := by decide +kernel
theorem dX4_dropOldest_1 : decode cX4_dropOldest 1 = .ok (.getfield 19, 3) := by decide +kernel
theorem dX4_dropOldest_4 : decode cX4_dropOldest 4 = .ok (.iconst 0, 1) := by decide +kernel
theorem dX4_dropOldest_5 : decode cX4_dropOldest 5 = .ok (.aaload, 1) := by decide +kernel
theorem dX4_dropOldest_6 : decode cX4_dropOldest 6 = .ok (.astore_n 1, 1) := by decide +kernel
theorem dX4_dropOldest_7 : decode cX4_dropOldest 7 = .ok (.iconst 1, 1) := by decide +kernel
theorem dX4_dropOldest_8 : decode cX4_dropOldest 8 = .ok (.istore_n 2, 1) := by decide +kernel
theorem dX4_dropOldest_9 : decode cX4_dropOldest 9 = .ok (.iload_n 2, 1) := by decide +kernel
theorem dX4_dropOldest_10 : decode cX4_dropOldest 10 = .ok (.bipush 6, 2) := by decide +kernel
theorem dX4_dropOldest_12 : decode cX4_dropOldest 12 = .ok (.if_icmp .ge 23, 3) := by decide +kernel
theorem dX4_dropOldest_15 : decode cX4_dropOldest 15 = .ok (.aload_n 0, 1) := by decide +kernel
theorem dX4_dropOldest_16 : decode cX4_dropOldest 16 = .ok (.getfield 19, 3) := by decide +kernel
theorem dX4_dropOldest_19 : decode cX4_dropOldest 19 = .ok (.iload_n 2, 1) := by decide +kernel
theorem dX4_dropOldest_20 : decode cX4_dropOldest 20 = .ok (.iconst 1, 1) := by decide +kernel
theorem dX4_dropOldest_21 : decode cX4_dropOldest 21 = .ok (.isub, 1) := by decide +kernel
theorem dX4_dropOldest_22 : decode cX4_dropOldest 22 = .ok (.aload_n 0, 1) := by decide +kernel
theorem dX4_dropOldest_23 : decode cX4_dropOldest 23 = .ok (.getfield 19, 3) := by decide +kernel
theorem dX4_dropOldest_26 : decode cX4_dropOldest 26 = .ok (.iload_n 2, 1) := by decide +kernel
theorem dX4_dropOldest_27 : decode cX4_dropOldest 27 = .ok (.aaload, 1) := by decide +kernel
theorem dX4_dropOldest_28 : decode cX4_dropOldest 28 = .ok (.aastore, 1) := by decide +kernel
theorem dX4_dropOldest_29 : decode cX4_dropOldest 29 = .ok (.iinc 2 1, 3) := by decide +kernel
theorem dX4_dropOldest_32 : decode cX4_dropOldest 32 = .ok (.goto (-23), 3) := by decide +kernel
theorem dX4_dropOldest_35 : decode cX4_dropOldest 35 = .ok (.aload_n 0, 1) := by decide +kernel
theorem dX4_dropOldest_36 : decode cX4_dropOldest 36 = .ok (.getfield 19, 3) := by decide +kernel
theorem dX4_dropOldest_39 : decode cX4_dropOldest 39 = .ok (.iconst 5, 1) := by decide +kernel
theorem dX4_dropOldest_40 : decode cX4_dropOldest 40 = .ok (.aload_n 1, 1) := by decide +kernel
theorem dX4_dropOldest_41 : decode cX4_dropOldest 41 = .ok (.aastore, 1) := by decide +kernel
theorem dX4_dropOldest_42 : decode cX4_dropOldest 42 = .ok (.aload_n 0, 1) := by decide +kernel
theorem dX4_dropOldest_43 : decode cX4_dropOldest 43 = .ok (.iconst 5, 1) := by decide +kernel
theorem dX4_dropOldest_44 : decode cX4_dropOldest 44 = .ok (.putfield 154, 3) := by decide +kernel
theorem dX4_dropOldest_47 : decode cX4_dropOldest 47 = .ok (.return_, 1) := by decide +kernel
set_option maxRecDepth 20000 in
theorem ggX4_copyState_X1_copyGraph : GoodIn wsX4_copyState wsX1_copyGraph := goodIn_r _ [5, 6, 7, 8, 9, 20, 21, 22, 23, 24, 25, 26, 27, 28, 29] (by decide +kernel) (by decide +kernel)
set_option maxRecDepth 20000 in
theorem gX4_copyState_X1_copyGraph : GoodIn wsX4_copyState (wsV RX4 137 RX1 yX1_copyGraph wsX1_copyGraph) := goodIn_app (goodIn_of _ (by decide +kernel)) ggX4_copyState_X1_copyGraph
set_option maxRecDepth 20000 in
theorem ggX4_copyState_X1_copySplitting : GoodIn wsX4_copyState wsX1_copySplitting := goodIn_r _ [13, 14, 15, 16, 17, 18, 19, 20, 21, 22, 23, 24, 25, 26, 27, 28, 29] (by decide +kernel) (by decide +kernel)
set_option maxRecDepth 20000 in
theorem gX4_copyState_X1_copySplitting : GoodIn wsX4_copyState (wsV RX4 291 RX1 yX1_copySplitting wsX1_copySplitting) := goodIn_app (goodIn_of _ (by decide +kernel)) ggX4_copyState_X1_copySplitting
theorem dX4_copyState_0 : decode cX4_copyState 0 = .ok (.aload_n 0, 1) := by decide +kernel
theorem dX4_copyState_1 : decode cX4_copyState 1 = .ok (.ifnull 7, 3) := by decide +kernel
theorem dX4_copyState_4 : decode cX4_copyState 4 = .ok (.aload_n 1, 1) := by decide +kernel
theorem dX4_copyState_5 : decode cX4_copyState 5 = .ok (.ifnonnull 4, 3) := by decide +kernel
theorem dX4_copyState_8 : decode cX4_copyState 8 = .ok (.return_, 1) := by decide +kernel
theorem dX4_copyState_9 : decode cX4_copyState 9 = .ok (.aload_n 1, 1) := by decide +kernel
theorem dX4_copyState_10 : decode cX4_copyState 10 = .ok (.aload_n 0, 1) := by decide +kernel
theorem dX4_copyState_11 : decode cX4_copyState 11 = .ok (.invokevirtual 137, 3) := by decide +kernel
theorem dX4_copyState_14 : decode cX4_copyState 14 = .ok (.aload_n 1, 1) := by decide +kernel
theorem dX4_copyState_15 : decode cX4_copyState 15 = .ok (.aload_n 0, 1) := by decide +kernel
theorem dX4_copyState_16 : decode cX4_copyState 16 = .ok (.invokevirtual 291, 3) := by decide +kernel
theorem dX4_copyState_19 : decode cX4_copyState 19 = .ok (.return_, 1) := by decide +kernel
set_option maxRecDepth 20000 in
theorem ggX4_findHeaviest_X1_weightOf : GoodIn wsX4_findHeaviest wsX1_weightOf := goodIn_r _ [8, 9, 10, 11, 12, 28, 29, 30, 31, 32, 33, 34, 35, 36, 37] (by decide +kernel) (by decide +kernel)
set_option maxRecDepth 20000 in
theorem gX4_findHeaviest_X1_weightOf : GoodIn wsX4_findHeaviest (wsV RX4 226 RX1 yX1_weightOf wsX1_weightOf) := goodIn_app (goodIn_of _ (by decide +kernel)) ggX4_findHeaviest_X1_weightOf
theorem dX4_findHeaviest_0 : decode cX4_findHeaviest 0 = .ok (.iconst (-1), 1) := by decide +kernel
theorem dX4_findHeaviest_1 : decode cX4_findHeaviest 1 = .ok (.istore_n 2, 1) := by decide +kernel
theorem dX4_findHeaviest_2 : decode cX4_findHeaviest 2 = .ok (.iconst (-1), 1) := by decide +kernel
theorem dX4_findHeaviest_3 : decode cX4_findHeaviest 3 = .ok (.istore_n 3, 1) := by decide +kernel
theorem dX4_findHeaviest_4 : decode cX4_findHeaviest 4 = .ok (.iconst 0, 1) := by decide +kernel
theorem dX4_findHeaviest_5 : decode cX4_findHeaviest 5 = .ok (.istore 4, 2) := by decide +kernel
theorem dX4_findHeaviest_7 : decode cX4_findHeaviest 7 = .ok (.iload 4, 2) := by decide +kernel
theorem dX4_findHeaviest_9 : decode cX4_findHeaviest 9 = .ok (.aload_n 0, 1) := by decide +kernel
theorem dX4_findHeaviest_10 : decode cX4_findHeaviest 10 = .ok (.getfield 40, 3) := by decide +kernel
theorem dX4_findHeaviest_13 : decode cX4_findHeaviest 13 = .ok (.getfield 204, 3) := by decide +kernel
theorem dX4_findHeaviest_16 : decode cX4_findHeaviest 16 = .ok (.if_icmp .ge 53, 3) := by decide +kernel
theorem dX4_findHeaviest_19 : decode cX4_findHeaviest 19 = .ok (.iload 4, 2) := by decide +kernel
theorem dX4_findHeaviest_21 : decode cX4_findHeaviest 21 = .ok (.sipush 512, 3) := by decide +kernel
theorem dX4_findHeaviest_24 : decode cX4_findHeaviest 24 = .ok (.if_icmp .ge 45, 3) := by decide +kernel
theorem dX4_findHeaviest_27 : decode cX4_findHeaviest 27 = .ok (.aload_n 1, 1) := by decide +kernel
theorem dX4_findHeaviest_28 : decode cX4_findHeaviest 28 = .ok (.aload_n 0, 1) := by decide +kernel
theorem dX4_findHeaviest_29 : decode cX4_findHeaviest 29 = .ok (.getfield 40, 3) := by decide +kernel
theorem dX4_findHeaviest_32 : decode cX4_findHeaviest 32 = .ok (.getfield 231, 3) := by decide +kernel
theorem dX4_findHeaviest_35 : decode cX4_findHeaviest 35 = .ok (.iload 4, 2) := by decide +kernel
theorem dX4_findHeaviest_37 : decode cX4_findHeaviest 37 = .ok (.iaload, 1) := by decide +kernel
theorem dX4_findHeaviest_38 : decode cX4_findHeaviest 38 = .ok (.invokevirtual 226, 3) := by decide +kernel
theorem dX4_findHeaviest_41 : decode cX4_findHeaviest 41 = .ok (.istore 5, 2) := by decide +kernel
theorem dX4_findHeaviest_43 : decode cX4_findHeaviest 43 = .ok (.iload 5, 2) := by decide +kernel
theorem dX4_findHeaviest_45 : decode cX4_findHeaviest 45 = .ok (.iload_n 3, 1) := by decide +kernel
theorem dX4_findHeaviest_46 : decode cX4_findHeaviest 46 = .ok (.if_icmp .le 17, 3) := by decide +kernel
theorem dX4_findHeaviest_49 : decode cX4_findHeaviest 49 = .ok (.iload 5, 2) := by decide +kernel
theorem dX4_findHeaviest_51 : decode cX4_findHeaviest 51 = .ok (.istore_n 3, 1) := by decide +kernel
theorem dX4_findHeaviest_52 : decode cX4_findHeaviest 52 = .ok (.aload_n 0, 1) := by decide +kernel
theorem dX4_findHeaviest_53 : decode cX4_findHeaviest 53 = .ok (.getfield 40, 3) := by decide +kernel
theorem dX4_findHeaviest_56 : decode cX4_findHeaviest 56 = .ok (.getfield 231, 3) := by decide +kernel
theorem dX4_findHeaviest_59 : decode cX4_findHeaviest 59 = .ok (.iload 4, 2) := by decide +kernel
theorem dX4_findHeaviest_61 : decode cX4_findHeaviest 61 = .ok (.iaload, 1) := by decide +kernel
theorem dX4_findHeaviest_62 : decode cX4_findHeaviest 62 = .ok (.istore_n 2, 1) := by decide +kernel
theorem dX4_findHeaviest_63 : decode cX4_findHeaviest 63 = .ok (.iinc 4 1, 3) := by decide +kernel
theorem dX4_findHeaviest_66 : decode cX4_findHeaviest 66 = .ok (.goto (-59), 3) := by decide +kernel
theorem dX4_findHeaviest_69 : decode cX4_findHeaviest 69 = .ok (.iload_n 2, 1) := by decide +kernel
theorem dX4_findHeaviest_70 : decode cX4_findHeaviest 70 = .ok (.ireturn, 1) := by decide +kernel
set_option maxRecDepth 20000 in
theorem ggX4_takeHeaviest_X4_findHeaviest : GoodIn wsX4_takeHeaviest wsX4_findHeaviest := goodIn_r _ [7, 8, 9, 10, 11, 12, 13, 14, 15, 16, 17, 6, 18, 37, 38, 39, 40, 41, 42, 43, 44, 45, 46, 47, 48, 49, 50, 51, 27, 28, 29, 30, 31, 32, 33, 34, 35, 36] (by decide +kernel) (by decide +kernel)
set_option maxRecDepth 20000 in
theorem gX4_takeHeaviest_X4_findHeaviest : GoodIn wsX4_takeHeaviest (wsV RX4 223 RX4 yX4_findHeaviest wsX4_findHeaviest) := goodIn_app (goodIn_of _ (by decide +kernel)) ggX4_takeHeaviest_X4_findHeaviest
set_option maxRecDepth 20000 in
theorem ggX4_takeHeaviest_X1_weightOf : GoodIn wsX4_takeHeaviest wsX1_weightOf := goodIn_r _ [15, 16, 17, 6, 18, 27, 28, 29, 30, 31, 32, 33, 34, 35, 36] (by decide +kernel) (by decide +kernel)
set_option maxRecDepth 20000 in
theorem gX4_takeHeaviest_X1_weightOf : GoodIn wsX4_takeHeaviest (wsV RX4 226 RX1 yX1_weightOf wsX1_weightOf) := goodIn_app (goodIn_of _ (by decide +kernel)) ggX4_takeHeaviest_X1_weightOf
set_option maxRecDepth 20000 in
theorem ggX4_takeHeaviest_X1_takeWay : GoodIn wsX4_takeHeaviest wsX1_takeWay := goodIn_r _ [22, 23, 24, 25, 26, 16, 17, 6, 18, 27, 28, 29, 30, 31, 32, 33, 34, 35, 36] (by decide +kernel) (by decide +kernel)
set_option maxRecDepth 20000 in
theorem gX4_takeHeaviest_X1_takeWay : GoodIn wsX4_takeHeaviest (wsV RX4 294 RX1 yX1_takeWay wsX1_takeWay) := goodIn_app (goodIn_of _ (by decide +kernel)) ggX4_takeHeaviest_X1_takeWay
theorem dX4_takeHeaviest_0 : decode cX4_takeHeaviest 0 = .ok (.aload_n 0, 1) := by decide +kernel
theorem dX4_takeHeaviest_1 : decode cX4_takeHeaviest 1 = .ok (.aload_n 1, 1) := by decide +kernel
theorem dX4_takeHeaviest_2 : decode cX4_takeHeaviest 2 = .ok (.invokevirtual 223, 3) := by decide +kernel
theorem dX4_takeHeaviest_5 : decode cX4_takeHeaviest 5 = .ok (.istore_n 2, 1) := by decide +kernel
theorem dX4_takeHeaviest_6 : decode cX4_takeHeaviest 6 = .ok (.iload_n 2, 1) := by decide +kernel
theorem dX4_takeHeaviest_7 : decode cX4_takeHeaviest 7 = .ok (.iconst (-1), 1) := by decide +kernel
theorem dX4_takeHeaviest_8 : decode cX4_takeHeaviest 8 = .ok (.if_icmp .ne 7, 3) := by decide +kernel
theorem dX4_takeHeaviest_11 : decode cX4_takeHeaviest 11 = .ok (.iconst 0, 1) := by decide +kernel
theorem dX4_takeHeaviest_12 : decode cX4_takeHeaviest 12 = .ok (.goto 8, 3) := by decide +kernel
theorem dX4_takeHeaviest_15 : decode cX4_takeHeaviest 15 = .ok (.aload_n 1, 1) := by decide +kernel
theorem dX4_takeHeaviest_16 : decode cX4_takeHeaviest 16 = .ok (.iload_n 2, 1) := by decide +kernel
theorem dX4_takeHeaviest_17 : decode cX4_takeHeaviest 17 = .ok (.invokevirtual 226, 3) := by decide +kernel
theorem dX4_takeHeaviest_20 : decode cX4_takeHeaviest 20 = .ok (.istore_n 3, 1) := by decide +kernel
theorem dX4_takeHeaviest_21 : decode cX4_takeHeaviest 21 = .ok (.iload_n 3, 1) := by decide +kernel
theorem dX4_takeHeaviest_22 : decode cX4_takeHeaviest 22 = .ok (.ifCond .le 12, 3) := by decide +kernel
theorem dX4_takeHeaviest_25 : decode cX4_takeHeaviest 25 = .ok (.aload_n 1, 1) := by decide +kernel
theorem dX4_takeHeaviest_26 : decode cX4_takeHeaviest 26 = .ok (.getfield 107, 3) := by decide +kernel
theorem dX4_takeHeaviest_29 : decode cX4_takeHeaviest 29 = .ok (.bipush 12, 2) := by decide +kernel
theorem dX4_takeHeaviest_31 : decode cX4_takeHeaviest 31 = .ok (.if_icmp .lt 15, 3) := by decide +kernel
theorem dX4_takeHeaviest_34 : decode cX4_takeHeaviest 34 = .ok (.aload_n 1, 1) := by decide +kernel
theorem dX4_takeHeaviest_35 : decode cX4_takeHeaviest 35 = .ok (.dup, 1) := by decide +kernel
theorem dX4_takeHeaviest_36 : decode cX4_takeHeaviest 36 = .ok (.getfield 216, 3) := by decide +kernel
theorem dX4_takeHeaviest_39 : decode cX4_takeHeaviest 39 = .ok (.iconst 1, 1) := by decide +kernel
theorem dX4_takeHeaviest_40 : decode cX4_takeHeaviest 40 = .ok (.iadd, 1) := by decide +kernel
theorem dX4_takeHeaviest_41 : decode cX4_takeHeaviest 41 = .ok (.putfield 216, 3) := by decide +kernel
theorem dX4_takeHeaviest_44 : decode cX4_takeHeaviest 44 = .ok (.iconst 0, 1) := by decide +kernel
theorem dX4_takeHeaviest_45 : decode cX4_takeHeaviest 45 = .ok (.ireturn, 1) := by decide +kernel
theorem dX4_takeHeaviest_46 : decode cX4_takeHeaviest 46 = .ok (.aload_n 1, 1) := by decide +kernel
theorem dX4_takeHeaviest_47 : decode cX4_takeHeaviest 47 = .ok (.iload_n 2, 1) := by decide +kernel
theorem dX4_takeHeaviest_48 : decode cX4_takeHeaviest 48 = .ok (.iload_n 3, 1) := by decide +kernel
theorem dX4_takeHeaviest_49 : decode cX4_takeHeaviest 49 = .ok (.invokevirtual 294, 3) := by decide +kernel
theorem dX4_takeHeaviest_52 : decode cX4_takeHeaviest 52 = .ok (.iload_n 3, 1) := by decide +kernel
theorem dX4_takeHeaviest_53 : decode cX4_takeHeaviest 53 = .ok (.ireturn, 1) := by decide +kernel
set_option maxRecDepth 20000 in
theorem ggX4_takeAll_X4_takeHeaviest : GoodIn wsX4_takeAll wsX4_takeHeaviest := goodIn_r _ [5, 6, 7, 8, 9, 10, 4, 11, 12, 13, 14, 15, 16, 17, 18, 19, 20, 21, 22, 23, 24, 25, 26, 27, 28, 29, 30, 31, 32, 33, 34, 35, 36, 37, 38, 39, 40, 41, 42, 43, 44, 45, 46, 47, 48, 49, 50, 51, 52, 53, 54, 55] (by decide +kernel) (by decide +kernel)
set_option maxRecDepth 20000 in
theorem gX4_takeAll_X4_takeHeaviest : GoodIn wsX4_takeAll (wsV RX4 100 RX4 yX4_takeHeaviest wsX4_takeHeaviest) := goodIn_app (goodIn_of _ (by decide +kernel)) ggX4_takeAll_X4_takeHeaviest
theorem dX4_takeAll_0 : decode cX4_takeAll 0 = .ok (.iconst 0, 1) := by decide +kernel
theorem dX4_takeAll_1 : decode cX4_takeAll 1 = .ok (.istore_n 2, 1) := by decide +kernel
theorem dX4_takeAll_2 : decode cX4_takeAll 2 = .ok (.iload_n 2, 1) := by decide +kernel
theorem dX4_takeAll_3 : decode cX4_takeAll 3 = .ok (.bipush 12, 2) := by decide +kernel
theorem dX4_takeAll_5 : decode cX4_takeAll 5 = .ok (.if_icmp .gt 17, 3) := by decide +kernel
theorem dX4_takeAll_8 : decode cX4_takeAll 8 = .ok (.aload_n 0, 1) := by decide +kernel
theorem dX4_takeAll_9 : decode cX4_takeAll 9 = .ok (.aload_n 1, 1) := by decide +kernel
theorem dX4_takeAll_10 : decode cX4_takeAll 10 = .ok (.invokevirtual 100, 3) := by decide +kernel
theorem dX4_takeAll_13 : decode cX4_takeAll 13 = .ok (.ifCond .le 9, 3) := by decide +kernel
theorem dX4_takeAll_16 : decode cX4_takeAll 16 = .ok (.iinc 2 1, 3) := by decide +kernel
theorem dX4_takeAll_19 : decode cX4_takeAll 19 = .ok (.goto (-17), 3) := by decide +kernel
theorem dX4_takeAll_22 : decode cX4_takeAll 22 = .ok (.iload_n 2, 1) := by decide +kernel
theorem dX4_takeAll_23 : decode cX4_takeAll 23 = .ok (.ireturn, 1) := by decide +kernel
theorem dX5_init_0 : decode cX5_init 0 = .ok (.aload_n 0, 1) := by decide +kernel
theorem dX5_init_1 : decode cX5_init 1 = .ok (.invokespecial 1, 3) := by decide +kernel
theorem dX5_init_4 : decode cX5_init 4 = .ok (.aload_n 0, 1) := by decide +kernel
theorem dX5_init_5 : decode cX5_init 5 = .ok (.bipush 72, 2) := by decide +kernel
theorem dX5_init_7 : decode cX5_init 7 = .ok (.newarray .int, 2) := by decide +kernel
theorem dX5_init_9 : decode cX5_init 9 = .ok (.putfield 7, 3) := by decide +kernel
theorem dX5_init_12 : decode cX5_init 12 = .ok (.aload_n 0, 1) := by decide +kernel
theorem dX5_init_13 : decode cX5_init 13 = .ok (.bipush 72, 2) := by decide +kernel
theorem dX5_init_15 : decode cX5_init 15 = .ok (.newarray .int, 2) := by decide +kernel
theorem dX5_init_17 : decode cX5_init 17 = .ok (.putfield 13, 3) := by decide +kernel
theorem dX5_init_20 : decode cX5_init 20 = .ok (.aload_n 0, 1) := by decide +kernel
theorem dX5_init_21 : decode cX5_init 21 = .ok (.sipush 144, 3) := by decide +kernel
theorem dX5_init_24 : decode cX5_init 24 = .ok (.newarray .int, 2) := by decide +kernel
theorem dX5_init_26 : decode cX5_init 26 = .ok (.putfield 16, 3) := by decide +kernel
theorem dX5_init_29 : decode cX5_init 29 = .ok (.aload_n 0, 1) := by decide +kernel
theorem dX5_init_30 : decode cX5_init 30 = .ok (.iconst 2, 1) := by decide +kernel
theorem dX5_init_31 : decode cX5_init 31 = .ok (.newarray .boolean, 2) := by decide +kernel
theorem dX5_init_33 : decode cX5_init 33 = .ok (.putfield 19, 3) := by decide +kernel
theorem dX5_init_36 : decode cX5_init 36 = .ok (.aload_n 0, 1) := by decide +kernel
theorem dX5_init_37 : decode cX5_init 37 = .ok (.sipush 432, 3) := by decide +kernel
theorem dX5_init_40 : decode cX5_init 40 = .ok (.newarray .int, 2) := by decide +kernel
theorem dX5_init_42 : decode cX5_init 42 = .ok (.putfield 23, 3) := by decide +kernel
theorem dX5_init_45 : decode cX5_init 45 = .ok (.aload_n 0, 1) := by decide +kernel
theorem dX5_init_46 : decode cX5_init 46 = .ok (.bipush 60, 2) := by decide +kernel
theorem dX5_init_48 : decode cX5_init 48 = .ok (.newarray .int, 2) := by decide +kernel
theorem dX5_init_50 : decode cX5_init 50 = .ok (.putfield 26, 3) := by decide +kernel
theorem dX5_init_53 : decode cX5_init 53 = .ok (.aload_n 0, 1) := by decide +kernel
theorem dX5_init_54 : decode cX5_init 54 = .ok (.getfield 7, 3) := by decide +kernel
theorem dX5_init_57 : decode cX5_init 57 = .ok (.bipush 18, 2) := by decide +kernel
theorem dX5_init_59 : decode cX5_init 59 = .ok (.iconst 1, 1) := by decide +kernel
theorem dX5_init_60 : decode cX5_init 60 = .ok (.iastore, 1) := by decide +kernel
theorem dX5_init_61 : decode cX5_init 61 = .ok (.aload_n 0, 1) := by decide +kernel
theorem dX5_init_62 : decode cX5_init 62 = .ok (.getfield 7, 3) := by decide +kernel
theorem dX5_init_65 : decode cX5_init 65 = .ok (.bipush 26, 2) := by decide +kernel
theorem dX5_init_67 : decode cX5_init 67 = .ok (.iconst 2, 1) := by decide +kernel
theorem dX5_init_68 : decode cX5_init 68 = .ok (.iastore, 1) := by decide +kernel
theorem dX5_init_69 : decode cX5_init 69 = .ok (.return_, 1) := by decide +kernel
theorem dX5_thrown_0 : decode cX5_thrown 0 = .ok (.aload_n 0, 1) := by decide +kernel
theorem dX5_thrown_1 : decode cX5_thrown 1 = .ok (.getfield 29, 3) := by decide +kernel
theorem dX5_thrown_4 : decode cX5_thrown 4 = .ok (.ireturn, 1) := by decide +kernel
theorem dX5_in_0 : decode cX5_in 0 = .ok (.iload_n 0, 1) := by decide +kernel
theorem dX5_in_1 : decode cX5_in 1 = .ok (.iload_n 1, 1) := by decide +kernel
theorem dX5_in_2 : decode cX5_in 2 = .ok (.if_icmp .lt 12, 3) := by decide +kernel
theorem dX5_in_5 : decode cX5_in 5 = .ok (.iload_n 0, 1) := by decide +kernel
theorem dX5_in_6 : decode cX5_in 6 = .ok (.iload_n 2, 1) := by decide +kernel
theorem dX5_in_7 : decode cX5_in 7 = .ok (.if_icmp .gt 7, 3) := by decide +kernel
theorem dX5_in_10 : decode cX5_in 10 = .ok (.iconst 1, 1) := by decide +kernel
theorem dX5_in_11 : decode cX5_in 11 = .ok (.goto 4, 3) := by decide +kernel
theorem dX5_in_14 : decode cX5_in 14 = .ok (.iconst 0, 1) := by decide +kernel
theorem dX5_in_15 : decode cX5_in 15 = .ok (.ireturn, 1) := by decide +kernel
set_option maxRecDepth 20000 in
theorem ggX5_isPiece_X5_in : GoodIn wsX5_isPiece wsX5_in := goodIn_r _ [4] (by decide +kernel) (by decide +kernel)
set_option maxRecDepth 20000 in
theorem gX5_isPiece_X5_in : GoodIn wsX5_isPiece (va_wsS RX5 33 yX5_in wsX5_in) := goodIn_app (goodIn_of _ (by decide +kernel)) ggX5_isPiece_X5_in
theorem dX5_isPiece_0 : decode cX5_isPiece 0 = .ok (.iload_n 0, 1) := by decide +kernel
theorem dX5_isPiece_1 : decode cX5_isPiece 1 = .ok (.iconst 0, 1) := by decide +kernel
theorem dX5_isPiece_2 : decode cX5_isPiece 2 = .ok (.bipush 8, 2) := by decide +kernel
theorem dX5_isPiece_4 : decode cX5_isPiece 4 = .ok (.invokestatic 33, 3) := by decide +kernel
theorem dX5_isPiece_7 : decode cX5_isPiece 7 = .ok (.ireturn, 1) := by decide +kernel
theorem dX5_holds_0 : decode cX5_holds 0 = .ok (.aload_n 0, 1) := by decide +kernel
theorem dX5_holds_1 : decode cX5_holds 1 = .ok (.iload_n 1, 1) := by decide +kernel
theorem dX5_holds_2 : decode cX5_holds 2 = .ok (.putfield 29, 3) := by decide +kernel
theorem dX5_holds_5 : decode cX5_holds 5 = .ok (.iload_n 1, 1) := by decide +kernel
theorem dX5_holds_6 : decode cX5_holds 6 = .ok (.ifCond .ne 7, 3) := by decide +kernel
theorem dX5_holds_9 : decode cX5_holds 9 = .ok (.iconst 1, 1) := by decide +kernel
theorem dX5_holds_10 : decode cX5_holds 10 = .ok (.goto 4, 3) := by decide +kernel
theorem dX5_holds_13 : decode cX5_holds 13 = .ok (.iconst 0, 1) := by decide +kernel
theorem dX5_holds_14 : decode cX5_holds 14 = .ok (.ireturn, 1) := by decide +kernel
theorem dX5_save_0 : decode cX5_save 0 = .ok (.aload_n 0, 1) := by decide +kernel
theorem dX5_save_1 : decode cX5_save 1 = .ok (.getfield 37, 3) := by decide +kernel
theorem dX5_save_4 : decode cX5_save 4 = .ok (.bipush 6, 2) := by decide +kernel
theorem dX5_save_6 : decode cX5_save 6 = .ok (.if_icmp .ne 43, 3) := by decide +kernel
theorem dX5_save_9 : decode cX5_save 9 = .ok (.iconst 0, 1) := by decide +kernel
theorem dX5_save_10 : decode cX5_save 10 = .ok (.istore_n 1, 1) := by decide +kernel
theorem dX5_save_11 : decode cX5_save 11 = .ok (.iload_n 1, 1) := by decide +kernel
theorem dX5_save_12 : decode cX5_save 12 = .ok (.sipush 360, 3) := by decide +kernel
theorem dX5_save_15 : decode cX5_save 15 = .ok (.if_icmp .ge 24, 3) := by decide +kernel
theorem dX5_save_18 : decode cX5_save 18 = .ok (.aload_n 0, 1) := by decide +kernel
theorem dX5_save_19 : decode cX5_save 19 = .ok (.getfield 23, 3) := by decide +kernel
theorem dX5_save_22 : decode cX5_save 22 = .ok (.iload_n 1, 1) := by decide +kernel
theorem dX5_save_23 : decode cX5_save 23 = .ok (.aload_n 0, 1) := by decide +kernel
theorem dX5_save_24 : decode cX5_save 24 = .ok (.getfield 23, 3) := by decide +kernel
theorem dX5_save_27 : decode cX5_save 27 = .ok (.bipush 72, 2) := by decide +kernel
theorem dX5_save_29 : decode cX5_save 29 = .ok (.iload_n 1, 1) := by decide +kernel
theorem dX5_save_30 : decode cX5_save 30 = .ok (.iadd, 1) := by decide +kernel
theorem dX5_save_31 : decode cX5_save 31 = .ok (.iaload, 1) := by decide +kernel
theorem dX5_save_32 : decode cX5_save 32 = .ok (.iastore, 1) := by decide +kernel
theorem dX5_save_33 : decode cX5_save 33 = .ok (.iinc 1 1, 3) := by decide +kernel
theorem dX5_save_36 : decode cX5_save 36 = .ok (.goto (-25), 3) := by decide +kernel
theorem dX5_save_39 : decode cX5_save 39 = .ok (.aload_n 0, 1) := by decide +kernel
theorem dX5_save_40 : decode cX5_save 40 = .ok (.dup, 1) := by decide +kernel
theorem dX5_save_41 : decode cX5_save 41 = .ok (.getfield 37, 3) := by decide +kernel
theorem dX5_save_44 : decode cX5_save 44 = .ok (.iconst 1, 1) := by decide +kernel
theorem dX5_save_45 : decode cX5_save 45 = .ok (.isub, 1) := by decide +kernel
theorem dX5_save_46 : decode cX5_save 46 = .ok (.putfield 37, 3) := by decide +kernel
theorem dX5_save_49 : decode cX5_save 49 = .ok (.iconst 0, 1) := by decide +kernel
theorem dX5_save_50 : decode cX5_save 50 = .ok (.istore_n 1, 1) := by decide +kernel
theorem dX5_save_51 : decode cX5_save 51 = .ok (.iload_n 1, 1) := by decide +kernel
theorem dX5_save_52 : decode cX5_save 52 = .ok (.bipush 72, 2) := by decide +kernel
theorem dX5_save_54 : decode cX5_save 54 = .ok (.if_icmp .ge 29, 3) := by decide +kernel
theorem dX5_save_57 : decode cX5_save 57 = .ok (.aload_n 0, 1) := by decide +kernel
theorem dX5_save_58 : decode cX5_save 58 = .ok (.getfield 23, 3) := by decide +kernel
theorem dX5_save_61 : decode cX5_save 61 = .ok (.bipush 72, 2) := by decide +kernel
theorem dX5_save_63 : decode cX5_save 63 = .ok (.aload_n 0, 1) := by decide +kernel
theorem dX5_save_64 : decode cX5_save 64 = .ok (.getfield 37, 3) := by decide +kernel
theorem dX5_save_67 : decode cX5_save 67 = .ok (.imul, 1) := by decide +kernel
theorem dX5_save_68 : decode cX5_save 68 = .ok (.iload_n 1, 1) := by decide +kernel
theorem dX5_save_69 : decode cX5_save 69 = .ok (.iadd, 1) := by decide +kernel
theorem dX5_save_70 : decode cX5_save 70 = .ok (.aload_n 0, 1) := by decide +kernel
theorem dX5_save_71 : decode cX5_save 71 = .ok (.getfield 7, 3) := by decide +kernel
theorem dX5_save_74 : decode cX5_save 74 = .ok (.iload_n 1, 1) := by decide +kernel
theorem dX5_save_75 : decode cX5_save 75 = .ok (.iaload, 1) := by decide +kernel
theorem dX5_save_76 : decode cX5_save 76 = .ok (.iastore, 1) := by decide +kernel
theorem dX5_save_77 : decode cX5_save 77 = .ok (.iinc 1 1, 3) := by decide +kernel
theorem dX5_save_80 : decode cX5_save 80 = .ok (.goto (-29), 3) := by decide +kernel
theorem dX5_save_83 : decode cX5_save 83 = .ok (.aload_n 0, 1) := by decide +kernel
theorem dX5_save_84 : decode cX5_save 84 = .ok (.dup, 1) := by decide +kernel
theorem dX5_save_85 : decode cX5_save 85 = .ok (.getfield 37, 3) := by decide +kernel
theorem dX5_save_88 : decode cX5_save 88 = .ok (.iconst 1, 1) := by decide +kernel
theorem dX5_save_89 : decode cX5_save 89 = .ok (.iadd, 1) := by decide +kernel
theorem dX5_save_90 : decode cX5_save 90 = .ok (.putfield 37, 3) := by decide +kernel
theorem dX5_save_93 : decode cX5_save 93 = .ok (.return_, 1) := by decide +kernel
theorem dX5_putAside_0 : decode cX5_putAside 0 = .ok (.iconst 0, 1) := by decide +kernel
theorem dX5_putAside_1 : decode cX5_putAside 1 = .ok (.istore_n 1, 1) := by decide +kernel
theorem dX5_putAside_2 : decode cX5_putAside 2 = .ok (.iload_n 1, 1) := by decide +kernel
theorem dX5_putAside_3 : decode cX5_putAside 3 = .ok (.bipush 72, 2) := by decide +kernel
theorem dX5_putAside_5 : decode cX5_putAside 5 = .ok (.if_icmp .ge 21, 3) := by decide +kernel
theorem dX5_putAside_8 : decode cX5_putAside 8 = .ok (.aload_n 0, 1) := by decide +kernel
theorem dX5_putAside_9 : decode cX5_putAside 9 = .ok (.getfield 13, 3) := by decide +kernel
theorem dX5_putAside_12 : decode cX5_putAside 12 = .ok (.iload_n 1, 1) := by decide +kernel
theorem dX5_putAside_13 : decode cX5_putAside 13 = .ok (.aload_n 0, 1) := by decide +kernel
theorem dX5_putAside_14 : decode cX5_putAside 14 = .ok (.getfield 7, 3) := by decide +kernel
theorem dX5_putAside_17 : decode cX5_putAside 17 = .ok (.iload_n 1, 1) := by decide +kernel
theorem dX5_putAside_18 : decode cX5_putAside 18 = .ok (.iaload, 1) := by decide +kernel
theorem dX5_putAside_19 : decode cX5_putAside 19 = .ok (.iastore, 1) := by decide +kernel
theorem dX5_putAside_20 : decode cX5_putAside 20 = .ok (.iinc 1 1, 3) := by decide +kernel
theorem dX5_putAside_23 : decode cX5_putAside 23 = .ok (.goto (-21), 3) := by decide +kernel
theorem dX5_putAside_26 : decode cX5_putAside 26 = .ok (.return_, 1) := by decide +kernel
theorem dX5_putBack_0 : decode cX5_putBack 0 = .ok (.iconst 0, 1) := by decide +kernel
theorem dX5_putBack_1 : decode cX5_putBack 1 = .ok (.istore_n 1, 1) := by decide +kernel
theorem dX5_putBack_2 : decode cX5_putBack 2 = .ok (.iload_n 1, 1) := by decide +kernel
theorem dX5_putBack_3 : decode cX5_putBack 3 = .ok (.bipush 72, 2) := by decide +kernel
theorem dX5_putBack_5 : decode cX5_putBack 5 = .ok (.if_icmp .ge 21, 3) := by decide +kernel
theorem dX5_putBack_8 : decode cX5_putBack 8 = .ok (.aload_n 0, 1) := by decide +kernel
theorem dX5_putBack_9 : decode cX5_putBack 9 = .ok (.getfield 7, 3) := by decide +kernel
theorem dX5_putBack_12 : decode cX5_putBack 12 = .ok (.iload_n 1, 1) := by decide +kernel
theorem dX5_putBack_13 : decode cX5_putBack 13 = .ok (.aload_n 0, 1) := by decide +kernel
theorem dX5_putBack_14 : decode cX5_putBack 14 = .ok (.getfield 13, 3) := by decide +kernel
theorem dX5_putBack_17 : decode cX5_putBack 17 = .ok (.iload_n 1, 1) := by decide +kernel
theorem dX5_putBack_18 : decode cX5_putBack 18 = .ok (.iaload, 1) := by decide +kernel
theorem dX5_putBack_19 : decode cX5_putBack 19 = .ok (.iastore, 1) := by decide +kernel
theorem dX5_putBack_20 : decode cX5_putBack 20 = .ok (.iinc 1 1, 3) := by decide +kernel
theorem dX5_putBack_23 : decode cX5_putBack 23 = .ok (.goto (-21), 3) := by decide +kernel
theorem dX5_putBack_26 : decode cX5_putBack 26 = .ok (.return_, 1) := by decide +kernel
theorem dX5_many_0 : decode cX5_many 0 = .ok (.iconst 0, 1) := by decide +kernel
theorem dX5_many_1 : decode cX5_many 1 = .ok (.istore_n 1, 1) := by decide +kernel
theorem dX5_many_2 : decode cX5_many 2 = .ok (.iconst 0, 1) := by decide +kernel
theorem dX5_many_3 : decode cX5_many 3 = .ok (.istore_n 2, 1) := by decide +kernel
theorem dX5_many_4 : decode cX5_many 4 = .ok (.iload_n 2, 1) := by decide +kernel
theorem dX5_many_5 : decode cX5_many 5 = .ok (.bipush 9, 2) := by decide +kernel
theorem dX5_many_7 : decode cX5_many 7 = .ok (.if_icmp .ge 17, 3) := by decide +kernel
theorem dX5_many_10 : decode cX5_many 10 = .ok (.iload_n 1, 1) := by decide +kernel
theorem dX5_many_11 : decode cX5_many 11 = .ok (.iload_n 0, 1) := by decide +kernel
theorem dX5_many_12 : decode cX5_many 12 = .ok (.iload_n 2, 1) := by decide +kernel
theorem dX5_many_13 : decode cX5_many 13 = .ok (.ishr, 1) := by decide +kernel
theorem dX5_many_14 : decode cX5_many 14 = .ok (.iconst 1, 1) := by decide +kernel
theorem dX5_many_15 : decode cX5_many 15 = .ok (.iand, 1) := by decide +kernel
theorem dX5_many_16 : decode cX5_many 16 = .ok (.iadd, 1) := by decide +kernel
theorem dX5_many_17 : decode cX5_many 17 = .ok (.istore_n 1, 1) := by decide +kernel
theorem dX5_many_18 : decode cX5_many 18 = .ok (.iinc 2 1, 3) := by decide +kernel
theorem dX5_many_21 : decode cX5_many 21 = .ok (.goto (-17), 3) := by decide +kernel
theorem dX5_many_24 : decode cX5_many 24 = .ok (.iload_n 1, 1) := by decide +kernel
theorem dX5_many_25 : decode cX5_many 25 = .ok (.ireturn, 1) := by decide +kernel
theorem dX5_greatest_0 : decode cX5_greatest 0 = .ok (.iconst (-1), 1) := by decide +kernel
theorem dX5_greatest_1 : decode cX5_greatest 1 = .ok (.istore_n 1, 1) := by decide +kernel
theorem dX5_greatest_2 : decode cX5_greatest 2 = .ok (.iconst 0, 1) := by decide +kernel
theorem dX5_greatest_3 : decode cX5_greatest 3 = .ok (.istore_n 2, 1) := by decide +kernel
theorem dX5_greatest_4 : decode cX5_greatest 4 = .ok (.iload_n 2, 1) := by decide +kernel
theorem dX5_greatest_5 : decode cX5_greatest 5 = .ok (.bipush 9, 2) := by decide +kernel
theorem dX5_greatest_7 : decode cX5_greatest 7 = .ok (.if_icmp .ge 24, 3) := by decide +kernel
theorem dX5_greatest_10 : decode cX5_greatest 10 = .ok (.iload_n 0, 1) := by decide +kernel
theorem dX5_greatest_11 : decode cX5_greatest 11 = .ok (.iload_n 2, 1) := by decide +kernel
theorem dX5_greatest_12 : decode cX5_greatest 12 = .ok (.ishr, 1) := by decide +kernel
theorem dX5_greatest_13 : decode cX5_greatest 13 = .ok (.iconst 1, 1) := by decide +kernel
theorem dX5_greatest_14 : decode cX5_greatest 14 = .ok (.iand, 1) := by decide +kernel
theorem dX5_greatest_15 : decode cX5_greatest 15 = .ok (.iconst 1, 1) := by decide +kernel
theorem dX5_greatest_16 : decode cX5_greatest 16 = .ok (.if_icmp .ne 7, 3) := by decide +kernel
theorem dX5_greatest_19 : decode cX5_greatest 19 = .ok (.iload_n 2, 1) := by decide +kernel
theorem dX5_greatest_20 : decode cX5_greatest 20 = .ok (.goto 4, 3) := by decide +kernel
theorem dX5_greatest_23 : decode cX5_greatest 23 = .ok (.iload_n 1, 1) := by decide +kernel
theorem dX5_greatest_24 : decode cX5_greatest 24 = .ok (.istore_n 1, 1) := by decide +kernel
theorem dX5_greatest_25 : decode cX5_greatest 25 = .ok (.iinc 2 1, 3) := by decide +kernel
theorem dX5_greatest_28 : decode cX5_greatest 28 = .ok (.goto (-24), 3) := by decide +kernel
theorem dX5_greatest_31 : decode cX5_greatest 31 = .ok (.iload_n 1, 1) := by decide +kernel
theorem dX5_greatest_32 : decode cX5_greatest 32 = .ok (.ireturn, 1) := by decide +kernel
set_option maxRecDepth 20000 in
theorem ggX5_next_X5_greatest : GoodIn wsX5_next wsX5_greatest := goodIn_r _ [4] (by decide +kernel) (by decide +kernel)
set_option maxRecDepth 20000 in
theorem gX5_next_X5_greatest : GoodIn wsX5_next (va_wsS RX5 40 yX5_greatest wsX5_greatest) := goodIn_app (goodIn_of _ (by decide +kernel)) ggX5_next_X5_greatest
theorem dX5_next_0 : decode cX5_next 0 = .ok (.iload_n 0, 1) := by decide +kernel
theorem dX5_next_1 : decode cX5_next 1 = .ok (.bipush 8, 2) := by decide +kernel
theorem dX5_next_3 : decode cX5_next 3 = .ok (.ishr, 1) := by decide +kernel
theorem dX5_next_4 : decode cX5_next 4 = .ok (.iconst 1, 1) := by decide +kernel
theorem dX5_next_5 : decode cX5_next 5 = .ok (.iand, 1) := by decide +kernel
theorem dX5_next_6 : decode cX5_next 6 = .ok (.ifCond .ne 14, 3) := by decide +kernel
theorem dX5_next_9 : decode cX5_next 9 = .ok (.iload_n 0, 1) := by decide +kernel
theorem dX5_next_10 : decode cX5_next 10 = .ok (.iconst 1, 1) := by decide +kernel
theorem dX5_next_11 : decode cX5_next 11 = .ok (.iload_n 0, 1) := by decide +kernel
theorem dX5_next_12 : decode cX5_next 12 = .ok (.invokestatic 40, 3) := by decide +kernel
theorem dX5_next_15 : decode cX5_next 15 = .ok (.iconst 1, 1) := by decide +kernel
theorem dX5_next_16 : decode cX5_next 16 = .ok (.iadd, 1) := by decide +kernel
theorem dX5_next_17 : decode cX5_next 17 = .ok (.ishl, 1) := by decide +kernel
theorem dX5_next_18 : decode cX5_next 18 = .ok (.ior, 1) := by decide +kernel
theorem dX5_next_19 : decode cX5_next 19 = .ok (.ireturn, 1) := by decide +kernel
theorem dX5_next_20 : decode cX5_next 20 = .ok (.iload_n 0, 1) := by decide +kernel
theorem dX5_next_21 : decode cX5_next 21 = .ok (.sipush (-257), 3) := by decide +kernel
theorem dX5_next_24 : decode cX5_next 24 = .ok (.iand, 1) := by decide +kernel
theorem dX5_next_25 : decode cX5_next 25 = .ok (.istore_n 1, 1) := by decide +kernel
theorem dX5_next_26 : decode cX5_next 26 = .ok (.iload_n 1, 1) := by decide +kernel
theorem dX5_next_27 : decode cX5_next 27 = .ok (.invokestatic 40, 3) := by decide +kernel
theorem dX5_next_30 : decode cX5_next 30 = .ok (.istore_n 2, 1) := by decide +kernel
theorem dX5_next_31 : decode cX5_next 31 = .ok (.iload_n 1, 1) := by decide +kernel
theorem dX5_next_32 : decode cX5_next 32 = .ok (.ifCond .ne 7, 3) := by decide +kernel
theorem dX5_next_35 : decode cX5_next 35 = .ok (.iconst 0, 1) := by decide +kernel
theorem dX5_next_36 : decode cX5_next 36 = .ok (.goto 16, 3) := by decide +kernel
theorem dX5_next_39 : decode cX5_next 39 = .ok (.iload_n 1, 1) := by decide +kernel
theorem dX5_next_40 : decode cX5_next 40 = .ok (.iconst 1, 1) := by decide +kernel
theorem dX5_next_41 : decode cX5_next 41 = .ok (.iload_n 2, 1) := by decide +kernel
theorem dX5_next_42 : decode cX5_next 42 = .ok (.ishl, 1) := by decide +kernel
theorem dX5_next_43 : decode cX5_next 43 = .ok (.iconst (-1), 1) := by decide +kernel
theorem dX5_next_44 : decode cX5_next 44 = .ok (.ixor, 1) := by decide +kernel
theorem dX5_next_45 : decode cX5_next 45 = .ok (.iand, 1) := by decide +kernel
theorem dX5_next_46 : decode cX5_next 46 = .ok (.iconst 1, 1) := by decide +kernel
theorem dX5_next_47 : decode cX5_next 47 = .ok (.iload_n 2, 1) := by decide +kernel
theorem dX5_next_48 : decode cX5_next 48 = .ok (.iconst 1, 1) := by decide +kernel
theorem dX5_next_49 : decode cX5_next 49 = .ok (.iadd, 1) := by decide +kernel
theorem dX5_next_50 : decode cX5_next 50 = .ok (.ishl, 1) := by decide +kernel
theorem dX5_next_51 : decode cX5_next 51 = .ok (.ior, 1) := by decide +kernel
theorem dX5_next_52 : decode cX5_next 52 = .ok (.ireturn, 1) := by decide +kernel
theorem dX5_isWay_0 : decode cX5_isWay 0 = .ok (.iconst (-1), 1) := by decide +kernel
theorem dX5_isWay_1 : decode cX5_isWay 1 = .ok (.istore_n 2, 1) := by decide +kernel
theorem dX5_isWay_2 : decode cX5_isWay 2 = .ok (.iconst 1, 1) := by decide +kernel
theorem dX5_isWay_3 : decode cX5_isWay 3 = .ok (.istore_n 3, 1) := by decide +kernel
theorem dX5_isWay_4 : decode cX5_isWay 4 = .ok (.iconst 0, 1) := by decide +kernel
theorem dX5_isWay_5 : decode cX5_isWay 5 = .ok (.istore 4, 2) := by decide +kernel
theorem dX5_isWay_7 : decode cX5_isWay 7 = .ok (.iload 4, 2) := by decide +kernel
theorem dX5_isWay_9 : decode cX5_isWay 9 = .ok (.bipush 9, 2) := by decide +kernel
theorem dX5_isWay_11 : decode cX5_isWay 11 = .ok (.if_icmp .ge 79, 3) := by decide +kernel
theorem dX5_isWay_14 : decode cX5_isWay 14 = .ok (.iload_n 3, 1) := by decide +kernel
theorem dX5_isWay_15 : decode cX5_isWay 15 = .ok (.ifCond .eq 75, 3) := by decide +kernel
theorem dX5_isWay_18 : decode cX5_isWay 18 = .ok (.iload_n 1, 1) := by decide +kernel
theorem dX5_isWay_19 : decode cX5_isWay 19 = .ok (.iload 4, 2) := by decide +kernel
theorem dX5_isWay_21 : decode cX5_isWay 21 = .ok (.ishr, 1) := by decide +kernel
theorem dX5_isWay_22 : decode cX5_isWay 22 = .ok (.iconst 1, 1) := by decide +kernel
theorem dX5_isWay_23 : decode cX5_isWay 23 = .ok (.iand, 1) := by decide +kernel
theorem dX5_isWay_24 : decode cX5_isWay 24 = .ok (.iconst 1, 1) := by decide +kernel
theorem dX5_isWay_25 : decode cX5_isWay 25 = .ok (.if_icmp .ne 59, 3) := by decide +kernel
theorem dX5_isWay_28 : decode cX5_isWay 28 = .ok (.iload_n 2, 1) := by decide +kernel
theorem dX5_isWay_29 : decode cX5_isWay 29 = .ok (.iconst (-1), 1) := by decide +kernel
theorem dX5_isWay_30 : decode cX5_isWay 30 = .ok (.if_icmp .ne 27, 3) := by decide +kernel
theorem dX5_isWay_33 : decode cX5_isWay 33 = .ok (.aload_n 0, 1) := by decide +kernel
theorem dX5_isWay_34 : decode cX5_isWay 34 = .ok (.getfield 7, 3) := by decide +kernel
theorem dX5_isWay_37 : decode cX5_isWay 37 = .ok (.bipush 18, 2) := by decide +kernel
theorem dX5_isWay_39 : decode cX5_isWay 39 = .ok (.iload 4, 2) := by decide +kernel
theorem dX5_isWay_41 : decode cX5_isWay 41 = .ok (.iadd, 1) := by decide +kernel
theorem dX5_isWay_42 : decode cX5_isWay 42 = .ok (.iaload, 1) := by decide +kernel
theorem dX5_isWay_43 : decode cX5_isWay 43 = .ok (.iconst 1, 1) := by decide +kernel
theorem dX5_isWay_44 : decode cX5_isWay 44 = .ok (.iand, 1) := by decide +kernel
theorem dX5_isWay_45 : decode cX5_isWay 45 = .ok (.iconst 1, 1) := by decide +kernel
theorem dX5_isWay_46 : decode cX5_isWay 46 = .ok (.if_icmp .ne 7, 3) := by decide +kernel
theorem dX5_isWay_49 : decode cX5_isWay 49 = .ok (.iconst 1, 1) := by decide +kernel
theorem dX5_isWay_50 : decode cX5_isWay 50 = .ok (.goto 30, 3) := by decide +kernel
theorem dX5_isWay_53 : decode cX5_isWay 53 = .ok (.iconst 0, 1) := by decide +kernel
theorem dX5_isWay_54 : decode cX5_isWay 54 = .ok (.goto 26, 3) := by decide +kernel
theorem dX5_isWay_57 : decode cX5_isWay 57 = .ok (.aload_n 0, 1) := by decide +kernel
theorem dX5_isWay_58 : decode cX5_isWay 58 = .ok (.getfield 7, 3) := by decide +kernel
theorem dX5_isWay_61 : decode cX5_isWay 61 = .ok (.bipush 27, 2) := by decide +kernel
theorem dX5_isWay_63 : decode cX5_isWay 63 = .ok (.iload_n 2, 1) := by decide +kernel
theorem dX5_isWay_64 : decode cX5_isWay 64 = .ok (.iadd, 1) := by decide +kernel
theorem dX5_isWay_65 : decode cX5_isWay 65 = .ok (.iaload, 1) := by decide +kernel
theorem dX5_isWay_66 : decode cX5_isWay 66 = .ok (.iload 4, 2) := by decide +kernel
theorem dX5_isWay_68 : decode cX5_isWay 68 = .ok (.ishr, 1) := by decide +kernel
theorem dX5_isWay_69 : decode cX5_isWay 69 = .ok (.iconst 1, 1) := by decide +kernel
theorem dX5_isWay_70 : decode cX5_isWay 70 = .ok (.iand, 1) := by decide +kernel
theorem dX5_isWay_71 : decode cX5_isWay 71 = .ok (.iconst 1, 1) := by decide +kernel
theorem dX5_isWay_72 : decode cX5_isWay 72 = .ok (.if_icmp .ne 7, 3) := by decide +kernel
theorem dX5_isWay_75 : decode cX5_isWay 75 = .ok (.iconst 1, 1) := by decide +kernel
theorem dX5_isWay_76 : decode cX5_isWay 76 = .ok (.goto 4, 3) := by decide +kernel
theorem dX5_isWay_79 : decode cX5_isWay 79 = .ok (.iconst 0, 1) := by decide +kernel
theorem dX5_isWay_80 : decode cX5_isWay 80 = .ok (.istore_n 3, 1) := by decide +kernel
theorem dX5_isWay_81 : decode cX5_isWay 81 = .ok (.iload 4, 2) := by decide +kernel
theorem dX5_isWay_83 : decode cX5_isWay 83 = .ok (.istore_n 2, 1) := by decide +kernel
theorem dX5_isWay_84 : decode cX5_isWay 84 = .ok (.iinc 4 1, 3) := by decide +kernel
theorem dX5_isWay_87 : decode cX5_isWay 87 = .ok (.goto (-80), 3) := by decide +kernel
theorem dX5_isWay_90 : decode cX5_isWay 90 = .ok (.iload_n 3, 1) := by decide +kernel
theorem dX5_isWay_91 : decode cX5_isWay 91 = .ok (.ifCond .eq 20, 3) := by decide +kernel
theorem dX5_isWay_94 : decode cX5_isWay 94 = .ok (.aload_n 0, 1) := by decide +kernel
theorem dX5_isWay_95 : decode cX5_isWay 95 = .ok (.getfield 7, 3) := by decide +kernel
theorem dX5_isWay_98 : decode cX5_isWay 98 = .ok (.bipush 18, 2) := by decide +kernel
theorem dX5_isWay_100 : decode cX5_isWay 100 = .ok (.iload_n 2, 1) := by decide +kernel
theorem dX5_isWay_101 : decode cX5_isWay 101 = .ok (.iadd, 1) := by decide +kernel
theorem dX5_isWay_102 : decode cX5_isWay 102 = .ok (.iaload, 1) := by decide +kernel
theorem dX5_isWay_103 : decode cX5_isWay 103 = .ok (.iconst 1, 1) := by decide +kernel
theorem dX5_isWay_104 : decode cX5_isWay 104 = .ok (.if_icmp .le 7, 3) := by decide +kernel
theorem dX5_isWay_107 : decode cX5_isWay 107 = .ok (.iconst 1, 1) := by decide +kernel
theorem dX5_isWay_108 : decode cX5_isWay 108 = .ok (.goto 4, 3) := by decide +kernel
theorem dX5_isWay_111 : decode cX5_isWay 111 = .ok (.iconst 0, 1) := by decide +kernel
theorem dX5_isWay_112 : decode cX5_isWay 112 = .ok (.ireturn, 1) := by decide +kernel
set_option maxRecDepth 20000 in
theorem ggX5_isOpen_X5_isWay : GoodIn wsX5_isOpen wsX5_isWay := goodIn_r _ [6, 1, 7, 8, 9, 10, 11, 12, 13, 14, 15, 16] (by decide +kernel) (by decide +kernel)
set_option maxRecDepth 20000 in
theorem gX5_isOpen_X5_isWay : GoodIn wsX5_isOpen (wsV RX5 44 RX5 yX5_isWay wsX5_isWay) := goodIn_app (goodIn_of _ (by decide +kernel)) ggX5_isOpen_X5_isWay
theorem dX5_isOpen_0 : decode cX5_isOpen 0 = .ok (.aload_n 0, 1) := by decide +kernel
theorem dX5_isOpen_1 : decode cX5_isOpen 1 = .ok (.iload_n 1, 1) := by decide +kernel
theorem dX5_isOpen_2 : decode cX5_isOpen 2 = .ok (.invokevirtual 44, 3) := by decide +kernel
theorem dX5_isOpen_5 : decode cX5_isOpen 5 = .ok (.istore_n 2, 1) := by decide +kernel
theorem dX5_isOpen_6 : decode cX5_isOpen 6 = .ok (.iconst 0, 1) := by decide +kernel
theorem dX5_isOpen_7 : decode cX5_isOpen 7 = .ok (.istore_n 3, 1) := by decide +kernel
theorem dX5_isOpen_8 : decode cX5_isOpen 8 = .ok (.iload_n 3, 1) := by decide +kernel
theorem dX5_isOpen_9 : decode cX5_isOpen 9 = .ok (.bipush 9, 2) := by decide +kernel
theorem dX5_isOpen_11 : decode cX5_isOpen 11 = .ok (.if_icmp .ge 41, 3) := by decide +kernel
theorem dX5_isOpen_14 : decode cX5_isOpen 14 = .ok (.iload_n 2, 1) := by decide +kernel
theorem dX5_isOpen_15 : decode cX5_isOpen 15 = .ok (.ifCond .eq 37, 3) := by decide +kernel
theorem dX5_isOpen_18 : decode cX5_isOpen 18 = .ok (.iload_n 1, 1) := by decide +kernel
theorem dX5_isOpen_19 : decode cX5_isOpen 19 = .ok (.iload_n 3, 1) := by decide +kernel
theorem dX5_isOpen_20 : decode cX5_isOpen 20 = .ok (.ishr, 1) := by decide +kernel
theorem dX5_isOpen_21 : decode cX5_isOpen 21 = .ok (.iconst 1, 1) := by decide +kernel
theorem dX5_isOpen_22 : decode cX5_isOpen 22 = .ok (.iand, 1) := by decide +kernel
theorem dX5_isOpen_23 : decode cX5_isOpen 23 = .ok (.ifCond .eq 17, 3) := by decide +kernel
theorem dX5_isOpen_26 : decode cX5_isOpen 26 = .ok (.aload_n 0, 1) := by decide +kernel
theorem dX5_isOpen_27 : decode cX5_isOpen 27 = .ok (.getfield 7, 3) := by decide +kernel
theorem dX5_isOpen_30 : decode cX5_isOpen 30 = .ok (.bipush 36, 2) := by decide +kernel
theorem dX5_isOpen_32 : decode cX5_isOpen 32 = .ok (.iload_n 3, 1) := by decide +kernel
theorem dX5_isOpen_33 : decode cX5_isOpen 33 = .ok (.iadd, 1) := by decide +kernel
theorem dX5_isOpen_34 : decode cX5_isOpen 34 = .ok (.iaload, 1) := by decide +kernel
theorem dX5_isOpen_35 : decode cX5_isOpen 35 = .ok (.iload_n 1, 1) := by decide +kernel
theorem dX5_isOpen_36 : decode cX5_isOpen 36 = .ok (.iand, 1) := by decide +kernel
theorem dX5_isOpen_37 : decode cX5_isOpen 37 = .ok (.ifCond .ne 7, 3) := by decide +kernel
theorem dX5_isOpen_40 : decode cX5_isOpen 40 = .ok (.iconst 1, 1) := by decide +kernel
theorem dX5_isOpen_41 : decode cX5_isOpen 41 = .ok (.goto 4, 3) := by decide +kernel
theorem dX5_isOpen_44 : decode cX5_isOpen 44 = .ok (.iconst 0, 1) := by decide +kernel
theorem dX5_isOpen_45 : decode cX5_isOpen 45 = .ok (.istore_n 2, 1) := by decide +kernel
theorem dX5_isOpen_46 : decode cX5_isOpen 46 = .ok (.iinc 3 1, 3) := by decide +kernel
theorem dX5_isOpen_49 : decode cX5_isOpen 49 = .ok (.goto (-41), 3) := by decide +kernel
theorem dX5_isOpen_52 : decode cX5_isOpen 52 = .ok (.iload_n 2, 1) := by decide +kernel
theorem dX5_isOpen_53 : decode cX5_isOpen 53 = .ok (.ireturn, 1) := by decide +kernel
theorem dX5_weight_0 : decode cX5_weight 0 = .ok (.sipush 1000, 3) := by decide +kernel
theorem dX5_weight_3 : decode cX5_weight 3 = .ok (.istore_n 2, 1) := by decide +kernel
theorem dX5_weight_4 : decode cX5_weight 4 = .ok (.iconst 0, 1) := by decide +kernel
theorem dX5_weight_5 : decode cX5_weight 5 = .ok (.istore_n 3, 1) := by decide +kernel
theorem dX5_weight_6 : decode cX5_weight 6 = .ok (.iload_n 3, 1) := by decide +kernel
theorem dX5_weight_7 : decode cX5_weight 7 = .ok (.bipush 9, 2) := by decide +kernel
theorem dX5_weight_9 : decode cX5_weight 9 = .ok (.if_icmp .ge 45, 3) := by decide +kernel
theorem dX5_weight_12 : decode cX5_weight 12 = .ok (.iload_n 1, 1) := by decide +kernel
theorem dX5_weight_13 : decode cX5_weight 13 = .ok (.iload_n 3, 1) := by decide +kernel
theorem dX5_weight_14 : decode cX5_weight 14 = .ok (.ishr, 1) := by decide +kernel
theorem dX5_weight_15 : decode cX5_weight 15 = .ok (.iconst 1, 1) := by decide +kernel
theorem dX5_weight_16 : decode cX5_weight 16 = .ok (.iand, 1) := by decide +kernel
theorem dX5_weight_17 : decode cX5_weight 17 = .ok (.iconst 1, 1) := by decide +kernel
theorem dX5_weight_18 : decode cX5_weight 18 = .ok (.if_icmp .ne 28, 3) := by decide +kernel
theorem dX5_weight_21 : decode cX5_weight 21 = .ok (.aload_n 0, 1) := by decide +kernel
theorem dX5_weight_22 : decode cX5_weight 22 = .ok (.getfield 7, 3) := by decide +kernel
theorem dX5_weight_25 : decode cX5_weight 25 = .ok (.bipush 9, 2) := by decide +kernel
theorem dX5_weight_27 : decode cX5_weight 27 = .ok (.iload_n 3, 1) := by decide +kernel
theorem dX5_weight_28 : decode cX5_weight 28 = .ok (.iadd, 1) := by decide +kernel
theorem dX5_weight_29 : decode cX5_weight 29 = .ok (.iaload, 1) := by decide +kernel
theorem dX5_weight_30 : decode cX5_weight 30 = .ok (.iload_n 2, 1) := by decide +kernel
theorem dX5_weight_31 : decode cX5_weight 31 = .ok (.if_icmp .ge 15, 3) := by decide +kernel
theorem dX5_weight_34 : decode cX5_weight 34 = .ok (.aload_n 0, 1) := by decide +kernel
theorem dX5_weight_35 : decode cX5_weight 35 = .ok (.getfield 7, 3) := by decide +kernel
theorem dX5_weight_38 : decode cX5_weight 38 = .ok (.bipush 9, 2) := by decide +kernel
theorem dX5_weight_40 : decode cX5_weight 40 = .ok (.iload_n 3, 1) := by decide +kernel
theorem dX5_weight_41 : decode cX5_weight 41 = .ok (.iadd, 1) := by decide +kernel
theorem dX5_weight_42 : decode cX5_weight 42 = .ok (.iaload, 1) := by decide +kernel
theorem dX5_weight_43 : decode cX5_weight 43 = .ok (.goto 4, 3) := by decide +kernel
theorem dX5_weight_46 : decode cX5_weight 46 = .ok (.iload_n 2, 1) := by decide +kernel
theorem dX5_weight_47 : decode cX5_weight 47 = .ok (.istore_n 2, 1) := by decide +kernel
theorem dX5_weight_48 : decode cX5_weight 48 = .ok (.iinc 3 1, 3) := by decide +kernel
theorem dX5_weight_51 : decode cX5_weight 51 = .ok (.goto (-45), 3) := by decide +kernel
theorem dX5_weight_54 : decode cX5_weight 54 = .ok (.iload_n 2, 1) := by decide +kernel
theorem dX5_weight_55 : decode cX5_weight 55 = .ok (.ireturn, 1) := by decide +kernel
set_option maxRecDepth 20000 in
theorem ggX5_heaviestWay_X5_isOpen : GoodIn wsX5_heaviestWay wsX5_isOpen := goodIn_r _ [5, 6, 7, 8, 9, 4, 10, 21, 22, 23, 24, 25, 26, 27, 28, 29, 30] (by decide +kernel) (by decide +kernel)
set_option maxRecDepth 20000 in
theorem gX5_heaviestWay_X5_isOpen : GoodIn wsX5_heaviestWay (wsV RX5 48 RX5 yX5_isOpen wsX5_isOpen) := goodIn_app (goodIn_of _ (by decide +kernel)) ggX5_heaviestWay_X5_isOpen
set_option maxRecDepth 20000 in
theorem ggX5_heaviestWay_X5_weight : GoodIn wsX5_heaviestWay wsX5_weight := goodIn_r _ [14, 6, 21, 22, 23, 24, 25, 26, 27, 28, 29, 30] (by decide +kernel) (by decide +kernel)
set_option maxRecDepth 20000 in
theorem gX5_heaviestWay_X5_weight : GoodIn wsX5_heaviestWay (wsV RX5 51 RX5 yX5_weight wsX5_weight) := goodIn_app (goodIn_of _ (by decide +kernel)) ggX5_heaviestWay_X5_weight
set_option maxRecDepth 20000 in
theorem ggX5_heaviestWay_X5_next : GoodIn wsX5_heaviestWay wsX5_next := goodIn_r _ [17, 18, 19, 4, 20] (by decide +kernel) (by decide +kernel)
set_option maxRecDepth 20000 in
theorem gX5_heaviestWay_X5_next : GoodIn wsX5_heaviestWay (va_wsS RX5 54 yX5_next wsX5_next) := goodIn_app (goodIn_of _ (by decide +kernel)) ggX5_heaviestWay_X5_next
theorem dX5_heaviestWay_0 : decode cX5_heaviestWay 0 = .ok (.iconst 0, 1) := by decide +kernel
theorem dX5_heaviestWay_1 : decode cX5_heaviestWay 1 = .ok (.istore_n 1, 1) := by decide +kernel
theorem dX5_heaviestWay_2 : decode cX5_heaviestWay 2 = .ok (.iconst 1, 1) := by decide +kernel
theorem dX5_heaviestWay_3 : decode cX5_heaviestWay 3 = .ok (.istore_n 2, 1) := by decide +kernel
theorem dX5_heaviestWay_4 : decode cX5_heaviestWay 4 = .ok (.iload_n 2, 1) := by decide +kernel
theorem dX5_heaviestWay_5 : decode cX5_heaviestWay 5 = .ok (.ifCond .le 42, 3) := by decide +kernel
theorem dX5_heaviestWay_8 : decode cX5_heaviestWay 8 = .ok (.aload_n 0, 1) := by decide +kernel
theorem dX5_heaviestWay_9 : decode cX5_heaviestWay 9 = .ok (.iload_n 2, 1) := by decide +kernel
theorem dX5_heaviestWay_10 : decode cX5_heaviestWay 10 = .ok (.invokevirtual 48, 3) := by decide +kernel
theorem dX5_heaviestWay_13 : decode cX5_heaviestWay 13 = .ok (.ifCond .eq 24, 3) := by decide +kernel
theorem dX5_heaviestWay_16 : decode cX5_heaviestWay 16 = .ok (.iload_n 1, 1) := by decide +kernel
theorem dX5_heaviestWay_17 : decode cX5_heaviestWay 17 = .ok (.ifCond .eq 16, 3) := by decide +kernel
theorem dX5_heaviestWay_20 : decode cX5_heaviestWay 20 = .ok (.aload_n 0, 1) := by decide +kernel
theorem dX5_heaviestWay_21 : decode cX5_heaviestWay 21 = .ok (.iload_n 2, 1) := by decide +kernel
theorem dX5_heaviestWay_22 : decode cX5_heaviestWay 22 = .ok (.invokevirtual 51, 3) := by decide +kernel
theorem dX5_heaviestWay_25 : decode cX5_heaviestWay 25 = .ok (.aload_n 0, 1) := by decide +kernel
theorem dX5_heaviestWay_26 : decode cX5_heaviestWay 26 = .ok (.iload_n 1, 1) := by decide +kernel
theorem dX5_heaviestWay_27 : decode cX5_heaviestWay 27 = .ok (.invokevirtual 51, 3) := by decide +kernel
theorem dX5_heaviestWay_30 : decode cX5_heaviestWay 30 = .ok (.if_icmp .le 7, 3) := by decide +kernel
theorem dX5_heaviestWay_33 : decode cX5_heaviestWay 33 = .ok (.iload_n 2, 1) := by decide +kernel
theorem dX5_heaviestWay_34 : decode cX5_heaviestWay 34 = .ok (.goto 4, 3) := by decide +kernel
theorem dX5_heaviestWay_37 : decode cX5_heaviestWay 37 = .ok (.iload_n 1, 1) := by decide +kernel
theorem dX5_heaviestWay_38 : decode cX5_heaviestWay 38 = .ok (.istore_n 1, 1) := by decide +kernel
theorem dX5_heaviestWay_39 : decode cX5_heaviestWay 39 = .ok (.iload_n 2, 1) := by decide +kernel
theorem dX5_heaviestWay_40 : decode cX5_heaviestWay 40 = .ok (.invokestatic 54, 3) := by decide +kernel
theorem dX5_heaviestWay_43 : decode cX5_heaviestWay 43 = .ok (.istore_n 2, 1) := by decide +kernel
theorem dX5_heaviestWay_44 : decode cX5_heaviestWay 44 = .ok (.goto (-40), 3) := by decide +kernel
theorem dX5_heaviestWay_47 : decode cX5_heaviestWay 47 = .ok (.iload_n 1, 1) := by decide +kernel
theorem dX5_heaviestWay_48 : decode cX5_heaviestWay 48 = .ok (.ireturn, 1) := by decide +kernel
set_option maxRecDepth 20000 in
theorem ggX5_ways_X5_isOpen : GoodIn wsX5_ways wsX5_isOpen := goodIn_r _ [5, 6, 7, 8, 9, 4, 10, 11, 12, 13, 14, 15, 16, 17, 18, 19, 20] (by decide +kernel) (by decide +kernel)
set_option maxRecDepth 20000 in
theorem gX5_ways_X5_isOpen : GoodIn wsX5_ways (wsV RX5 48 RX5 yX5_isOpen wsX5_isOpen) := goodIn_app (goodIn_of _ (by decide +kernel)) ggX5_ways_X5_isOpen
set_option maxRecDepth 20000 in
theorem ggX5_ways_X5_isWay : GoodIn wsX5_ways wsX5_isWay := goodIn_r _ [10, 6, 11, 12, 13, 14, 15, 16, 17, 18, 19, 20] (by decide +kernel) (by decide +kernel)
set_option maxRecDepth 20000 in
theorem gX5_ways_X5_isWay : GoodIn wsX5_ways (wsV RX5 44 RX5 yX5_isWay wsX5_isWay) := goodIn_app (goodIn_of _ (by decide +kernel)) ggX5_ways_X5_isWay
theorem dX5_ways_0 : decode cX5_ways 0 = .ok (.iconst 0, 1) := by decide +kernel
theorem dX5_ways_1 : decode cX5_ways 1 = .ok (.istore_n 3, 1) := by decide +kernel
theorem dX5_ways_2 : decode cX5_ways 2 = .ok (.iconst 1, 1) := by decide +kernel
