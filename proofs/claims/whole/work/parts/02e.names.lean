theorem dX5_ways_3 : decode cX5_ways 3 = .ok (.istore 4, 2) := by decide +kernel
theorem dX5_ways_5 : decode cX5_ways 5 = .ok (.iload 4, 2) := by decide +kernel
theorem dX5_ways_7 : decode cX5_ways 7 = .ok (.sipush 511, 3) := by decide +kernel
theorem dX5_ways_10 : decode cX5_ways 10 = .ok (.if_icmp .gt 50, 3) := by decide +kernel
theorem dX5_ways_13 : decode cX5_ways 13 = .ok (.iload_n 3, 1) := by decide +kernel
theorem dX5_ways_14 : decode cX5_ways 14 = .ok (.iload 4, 2) := by decide +kernel
theorem dX5_ways_16 : decode cX5_ways 16 = .ok (.iload_n 1, 1) := by decide +kernel
theorem dX5_ways_17 : decode cX5_ways 17 = .ok (.iand, 1) := by decide +kernel
theorem dX5_ways_18 : decode cX5_ways 18 = .ok (.iload_n 1, 1) := by decide +kernel
theorem dX5_ways_19 : decode cX5_ways 19 = .ok (.if_icmp .ne 32, 3) := by decide +kernel
theorem dX5_ways_22 : decode cX5_ways 22 = .ok (.iload_n 2, 1) := by decide +kernel
theorem dX5_ways_23 : decode cX5_ways 23 = .ok (.ifCond .eq 15, 3) := by decide +kernel
theorem dX5_ways_26 : decode cX5_ways 26 = .ok (.aload_n 0, 1) := by decide +kernel
theorem dX5_ways_27 : decode cX5_ways 27 = .ok (.iload 4, 2) := by decide +kernel
theorem dX5_ways_29 : decode cX5_ways 29 = .ok (.invokevirtual 48, 3) := by decide +kernel
theorem dX5_ways_32 : decode cX5_ways 32 = .ok (.ifCond .eq 19, 3) := by decide +kernel
theorem dX5_ways_35 : decode cX5_ways 35 = .ok (.goto 12, 3) := by decide +kernel
theorem dX5_ways_38 : decode cX5_ways 38 = .ok (.aload_n 0, 1) := by decide +kernel
theorem dX5_ways_39 : decode cX5_ways 39 = .ok (.iload 4, 2) := by decide +kernel
theorem dX5_ways_41 : decode cX5_ways 41 = .ok (.invokevirtual 44, 3) := by decide +kernel
theorem dX5_ways_44 : decode cX5_ways 44 = .ok (.ifCond .eq 7, 3) := by decide +kernel
theorem dX5_ways_47 : decode cX5_ways 47 = .ok (.iconst 1, 1) := by decide +kernel
theorem dX5_ways_48 : decode cX5_ways 48 = .ok (.goto 4, 3) := by decide +kernel
theorem dX5_ways_51 : decode cX5_ways 51 = .ok (.iconst 0, 1) := by decide +kernel
theorem dX5_ways_52 : decode cX5_ways 52 = .ok (.iadd, 1) := by decide +kernel
theorem dX5_ways_53 : decode cX5_ways 53 = .ok (.istore_n 3, 1) := by decide +kernel
theorem dX5_ways_54 : decode cX5_ways 54 = .ok (.iinc 4 1, 3) := by decide +kernel
theorem dX5_ways_57 : decode cX5_ways 57 = .ok (.goto (-52), 3) := by decide +kernel
theorem dX5_ways_60 : decode cX5_ways 60 = .ok (.iload_n 3, 1) := by decide +kernel
theorem dX5_ways_61 : decode cX5_ways 61 = .ok (.ireturn, 1) := by decide +kernel
theorem dX5_behind_0 : decode cX5_behind 0 = .ok (.aload_n 0, 1) := by decide +kernel
theorem dX5_behind_1 : decode cX5_behind 1 = .ok (.getfield 7, 3) := by decide +kernel
theorem dX5_behind_4 : decode cX5_behind 4 = .ok (.bipush 27, 2) := by decide +kernel
theorem dX5_behind_6 : decode cX5_behind 6 = .ok (.iload_n 1, 1) := by decide +kernel
theorem dX5_behind_7 : decode cX5_behind 7 = .ok (.iadd, 1) := by decide +kernel
theorem dX5_behind_8 : decode cX5_behind 8 = .ok (.iaload, 1) := by decide +kernel
theorem dX5_behind_9 : decode cX5_behind 9 = .ok (.istore_n 2, 1) := by decide +kernel
theorem dX5_behind_10 : decode cX5_behind 10 = .ok (.iload_n 1, 1) := by decide +kernel
theorem dX5_behind_11 : decode cX5_behind 11 = .ok (.iconst 1, 1) := by decide +kernel
theorem dX5_behind_12 : decode cX5_behind 12 = .ok (.iadd, 1) := by decide +kernel
theorem dX5_behind_13 : decode cX5_behind 13 = .ok (.istore_n 3, 1) := by decide +kernel
theorem dX5_behind_14 : decode cX5_behind 14 = .ok (.iload_n 3, 1) := by decide +kernel
theorem dX5_behind_15 : decode cX5_behind 15 = .ok (.bipush 9, 2) := by decide +kernel
theorem dX5_behind_17 : decode cX5_behind 17 = .ok (.if_icmp .ge 34, 3) := by decide +kernel
theorem dX5_behind_20 : decode cX5_behind 20 = .ok (.iload_n 2, 1) := by decide +kernel
theorem dX5_behind_21 : decode cX5_behind 21 = .ok (.iload_n 2, 1) := by decide +kernel
theorem dX5_behind_22 : decode cX5_behind 22 = .ok (.iload_n 3, 1) := by decide +kernel
theorem dX5_behind_23 : decode cX5_behind 23 = .ok (.ishr, 1) := by decide +kernel
theorem dX5_behind_24 : decode cX5_behind 24 = .ok (.iconst 1, 1) := by decide +kernel
theorem dX5_behind_25 : decode cX5_behind 25 = .ok (.iand, 1) := by decide +kernel
theorem dX5_behind_26 : decode cX5_behind 26 = .ok (.iconst 1, 1) := by decide +kernel
theorem dX5_behind_27 : decode cX5_behind 27 = .ok (.if_icmp .ne 15, 3) := by decide +kernel
theorem dX5_behind_30 : decode cX5_behind 30 = .ok (.aload_n 0, 1) := by decide +kernel
theorem dX5_behind_31 : decode cX5_behind 31 = .ok (.getfield 7, 3) := by decide +kernel
theorem dX5_behind_34 : decode cX5_behind 34 = .ok (.bipush 27, 2) := by decide +kernel
theorem dX5_behind_36 : decode cX5_behind 36 = .ok (.iload_n 3, 1) := by decide +kernel
theorem dX5_behind_37 : decode cX5_behind 37 = .ok (.iadd, 1) := by decide +kernel
theorem dX5_behind_38 : decode cX5_behind 38 = .ok (.iaload, 1) := by decide +kernel
theorem dX5_behind_39 : decode cX5_behind 39 = .ok (.goto 4, 3) := by decide +kernel
theorem dX5_behind_42 : decode cX5_behind 42 = .ok (.iconst 0, 1) := by decide +kernel
theorem dX5_behind_43 : decode cX5_behind 43 = .ok (.ior, 1) := by decide +kernel
theorem dX5_behind_44 : decode cX5_behind 44 = .ok (.istore_n 2, 1) := by decide +kernel
theorem dX5_behind_45 : decode cX5_behind 45 = .ok (.iinc 3 1, 3) := by decide +kernel
theorem dX5_behind_48 : decode cX5_behind 48 = .ok (.goto (-34), 3) := by decide +kernel
theorem dX5_behind_51 : decode cX5_behind 51 = .ok (.iload_n 2, 1) := by decide +kernel
theorem dX5_behind_52 : decode cX5_behind 52 = .ok (.ireturn, 1) := by decide +kernel
set_option maxRecDepth 20000 in
theorem ggX5_rows_X5_behind : GoodIn wsX5_rows wsX5_behind := goodIn_r _ [5, 6, 10, 11, 12, 13, 14, 15, 16, 17, 18, 19] (by decide +kernel) (by decide +kernel)
set_option maxRecDepth 20000 in
theorem gX5_rows_X5_behind : GoodIn wsX5_rows (wsV RX5 57 RX5 yX5_behind wsX5_behind) := goodIn_app (goodIn_of _ (by decide +kernel)) ggX5_rows_X5_behind
set_option maxRecDepth 20000 in
theorem ggX5_rows_X5_many : GoodIn wsX5_rows wsX5_many := goodIn_r _ [9] (by decide +kernel) (by decide +kernel)
set_option maxRecDepth 20000 in
theorem gX5_rows_X5_many : GoodIn wsX5_rows (va_wsS RX5 60 yX5_many wsX5_many) := goodIn_app (goodIn_of _ (by decide +kernel)) ggX5_rows_X5_many
theorem dX5_rows_0 : decode cX5_rows 0 = .ok (.iconst 0, 1) := by decide +kernel
theorem dX5_rows_1 : decode cX5_rows 1 = .ok (.istore_n 1, 1) := by decide +kernel
theorem dX5_rows_2 : decode cX5_rows 2 = .ok (.iconst 1, 1) := by decide +kernel
theorem dX5_rows_3 : decode cX5_rows 3 = .ok (.istore_n 2, 1) := by decide +kernel
theorem dX5_rows_4 : decode cX5_rows 4 = .ok (.iload_n 2, 1) := by decide +kernel
theorem dX5_rows_5 : decode cX5_rows 5 = .ok (.sipush 511, 3) := by decide +kernel
theorem dX5_rows_8 : decode cX5_rows 8 = .ok (.if_icmp .gt 78, 3) := by decide +kernel
theorem dX5_rows_11 : decode cX5_rows 11 = .ok (.iconst 1, 1) := by decide +kernel
theorem dX5_rows_12 : decode cX5_rows 12 = .ok (.istore_n 3, 1) := by decide +kernel
theorem dX5_rows_13 : decode cX5_rows 13 = .ok (.iconst 0, 1) := by decide +kernel
theorem dX5_rows_14 : decode cX5_rows 14 = .ok (.istore 4, 2) := by decide +kernel
theorem dX5_rows_16 : decode cX5_rows 16 = .ok (.iload 4, 2) := by decide +kernel
theorem dX5_rows_18 : decode cX5_rows 18 = .ok (.bipush 9, 2) := by decide +kernel
theorem dX5_rows_20 : decode cX5_rows 20 = .ok (.if_icmp .ge 39, 3) := by decide +kernel
theorem dX5_rows_23 : decode cX5_rows 23 = .ok (.iload_n 3, 1) := by decide +kernel
theorem dX5_rows_24 : decode cX5_rows 24 = .ok (.ifCond .eq 35, 3) := by decide +kernel
theorem dX5_rows_27 : decode cX5_rows 27 = .ok (.iload_n 2, 1) := by decide +kernel
theorem dX5_rows_28 : decode cX5_rows 28 = .ok (.iload 4, 2) := by decide +kernel
theorem dX5_rows_30 : decode cX5_rows 30 = .ok (.ishr, 1) := by decide +kernel
theorem dX5_rows_31 : decode cX5_rows 31 = .ok (.iconst 1, 1) := by decide +kernel
theorem dX5_rows_32 : decode cX5_rows 32 = .ok (.iand, 1) := by decide +kernel
theorem dX5_rows_33 : decode cX5_rows 33 = .ok (.ifCond .eq 14, 3) := by decide +kernel
theorem dX5_rows_36 : decode cX5_rows 36 = .ok (.aload_n 0, 1) := by decide +kernel
theorem dX5_rows_37 : decode cX5_rows 37 = .ok (.iload 4, 2) := by decide +kernel
theorem dX5_rows_39 : decode cX5_rows 39 = .ok (.invokevirtual 57, 3) := by decide +kernel
theorem dX5_rows_42 : decode cX5_rows 42 = .ok (.iload_n 2, 1) := by decide +kernel
theorem dX5_rows_43 : decode cX5_rows 43 = .ok (.iand, 1) := by decide +kernel
theorem dX5_rows_44 : decode cX5_rows 44 = .ok (.ifCond .ne 7, 3) := by decide +kernel
theorem dX5_rows_47 : decode cX5_rows 47 = .ok (.iconst 1, 1) := by decide +kernel
theorem dX5_rows_48 : decode cX5_rows 48 = .ok (.goto 4, 3) := by decide +kernel
theorem dX5_rows_51 : decode cX5_rows 51 = .ok (.iconst 0, 1) := by decide +kernel
theorem dX5_rows_52 : decode cX5_rows 52 = .ok (.istore_n 3, 1) := by decide +kernel
theorem dX5_rows_53 : decode cX5_rows 53 = .ok (.iinc 4 1, 3) := by decide +kernel
theorem dX5_rows_56 : decode cX5_rows 56 = .ok (.goto (-40), 3) := by decide +kernel
theorem dX5_rows_59 : decode cX5_rows 59 = .ok (.iload_n 3, 1) := by decide +kernel
theorem dX5_rows_60 : decode cX5_rows 60 = .ok (.ifCond .eq 18, 3) := by decide +kernel
theorem dX5_rows_63 : decode cX5_rows 63 = .ok (.iload_n 2, 1) := by decide +kernel
theorem dX5_rows_64 : decode cX5_rows 64 = .ok (.invokestatic 60, 3) := by decide +kernel
theorem dX5_rows_67 : decode cX5_rows 67 = .ok (.iload_n 1, 1) := by decide +kernel
theorem dX5_rows_68 : decode cX5_rows 68 = .ok (.if_icmp .le 10, 3) := by decide +kernel
theorem dX5_rows_71 : decode cX5_rows 71 = .ok (.iload_n 2, 1) := by decide +kernel
theorem dX5_rows_72 : decode cX5_rows 72 = .ok (.invokestatic 60, 3) := by decide +kernel
theorem dX5_rows_75 : decode cX5_rows 75 = .ok (.goto 4, 3) := by decide +kernel
theorem dX5_rows_78 : decode cX5_rows 78 = .ok (.iload_n 1, 1) := by decide +kernel
theorem dX5_rows_79 : decode cX5_rows 79 = .ok (.istore_n 1, 1) := by decide +kernel
theorem dX5_rows_80 : decode cX5_rows 80 = .ok (.iinc 2 1, 3) := by decide +kernel
theorem dX5_rows_83 : decode cX5_rows 83 = .ok (.goto (-79), 3) := by decide +kernel
theorem dX5_rows_86 : decode cX5_rows 86 = .ok (.iload_n 1, 1) := by decide +kernel
theorem dX5_rows_87 : decode cX5_rows 87 = .ok (.ireturn, 1) := by decide +kernel
theorem dX5_anew_0 : decode cX5_anew 0 = .ok (.iconst 0, 1) := by decide +kernel
theorem dX5_anew_1 : decode cX5_anew 1 = .ok (.istore_n 1, 1) := by decide +kernel
theorem dX5_anew_2 : decode cX5_anew 2 = .ok (.iload_n 1, 1) := by decide +kernel
theorem dX5_anew_3 : decode cX5_anew 3 = .ok (.bipush 9, 2) := by decide +kernel
theorem dX5_anew_5 : decode cX5_anew 5 = .ok (.if_icmp .ge 26, 3) := by decide +kernel
theorem dX5_anew_8 : decode cX5_anew 8 = .ok (.aload_n 0, 1) := by decide +kernel
theorem dX5_anew_9 : decode cX5_anew 9 = .ok (.getfield 7, 3) := by decide +kernel
theorem dX5_anew_12 : decode cX5_anew 12 = .ok (.bipush 9, 2) := by decide +kernel
theorem dX5_anew_14 : decode cX5_anew 14 = .ok (.iload_n 1, 1) := by decide +kernel
theorem dX5_anew_15 : decode cX5_anew 15 = .ok (.iadd, 1) := by decide +kernel
theorem dX5_anew_16 : decode cX5_anew 16 = .ok (.aload_n 0, 1) := by decide +kernel
theorem dX5_anew_17 : decode cX5_anew 17 = .ok (.getfield 7, 3) := by decide +kernel
theorem dX5_anew_20 : decode cX5_anew 20 = .ok (.iconst 0, 1) := by decide +kernel
theorem dX5_anew_21 : decode cX5_anew 21 = .ok (.iload_n 1, 1) := by decide +kernel
theorem dX5_anew_22 : decode cX5_anew 22 = .ok (.iadd, 1) := by decide +kernel
theorem dX5_anew_23 : decode cX5_anew 23 = .ok (.iaload, 1) := by decide +kernel
theorem dX5_anew_24 : decode cX5_anew 24 = .ok (.iastore, 1) := by decide +kernel
theorem dX5_anew_25 : decode cX5_anew 25 = .ok (.iinc 1 1, 3) := by decide +kernel
theorem dX5_anew_28 : decode cX5_anew 28 = .ok (.goto (-26), 3) := by decide +kernel
theorem dX5_anew_31 : decode cX5_anew 31 = .ok (.bipush 45, 2) := by decide +kernel
theorem dX5_anew_33 : decode cX5_anew 33 = .ok (.istore_n 1, 1) := by decide +kernel
theorem dX5_anew_34 : decode cX5_anew 34 = .ok (.iload_n 1, 1) := by decide +kernel
theorem dX5_anew_35 : decode cX5_anew 35 = .ok (.bipush 70, 2) := by decide +kernel
theorem dX5_anew_37 : decode cX5_anew 37 = .ok (.if_icmp .ge 16, 3) := by decide +kernel
theorem dX5_anew_40 : decode cX5_anew 40 = .ok (.aload_n 0, 1) := by decide +kernel
theorem dX5_anew_41 : decode cX5_anew 41 = .ok (.getfield 7, 3) := by decide +kernel
theorem dX5_anew_44 : decode cX5_anew 44 = .ok (.iload_n 1, 1) := by decide +kernel
theorem dX5_anew_45 : decode cX5_anew 45 = .ok (.iconst 0, 1) := by decide +kernel
theorem dX5_anew_46 : decode cX5_anew 46 = .ok (.iastore, 1) := by decide +kernel
theorem dX5_anew_47 : decode cX5_anew 47 = .ok (.iinc 1 1, 3) := by decide +kernel
theorem dX5_anew_50 : decode cX5_anew 50 = .ok (.goto (-16), 3) := by decide +kernel
theorem dX5_anew_53 : decode cX5_anew 53 = .ok (.return_, 1) := by decide +kernel
set_option maxRecDepth 20000 in
theorem ggX5_lays_X5_save : GoodIn wsX5_lays wsX5_save := goodIn_r _ [6, 7, 8, 1, 13, 14, 15, 16, 17, 18, 19, 20, 21, 22] (by decide +kernel) (by decide +kernel)
set_option maxRecDepth 20000 in
theorem gX5_lays_X5_save : GoodIn wsX5_lays (wsV RX5 63 RX5 yX5_save wsX5_save) := goodIn_app (goodIn_of _ (by decide +kernel)) ggX5_lays_X5_save
set_option maxRecDepth 20000 in
theorem ggX5_lays_X5_anew : GoodIn wsX5_lays wsX5_anew := goodIn_r _ [12, 1, 13, 14, 15, 16, 17, 18, 19, 20, 21, 22] (by decide +kernel) (by decide +kernel)
set_option maxRecDepth 20000 in
theorem gX5_lays_X5_anew : GoodIn wsX5_lays (wsV RX5 66 RX5 yX5_anew wsX5_anew) := goodIn_app (goodIn_of _ (by decide +kernel)) ggX5_lays_X5_anew
theorem dX5_lays_0 : decode cX5_lays 0 = .ok (.aload_n 0, 1) := by decide +kernel
theorem dX5_lays_1 : decode cX5_lays 1 = .ok (.invokevirtual 63, 3) := by decide +kernel
theorem dX5_lays_4 : decode cX5_lays 4 = .ok (.aload_n 0, 1) := by decide +kernel
theorem dX5_lays_5 : decode cX5_lays 5 = .ok (.getfield 7, 3) := by decide +kernel
theorem dX5_lays_8 : decode cX5_lays 8 = .ok (.iload_n 1, 1) := by decide +kernel
theorem dX5_lays_9 : decode cX5_lays 9 = .ok (.iaload, 1) := by decide +kernel
theorem dX5_lays_10 : decode cX5_lays 10 = .ok (.istore_n 3, 1) := by decide +kernel
theorem dX5_lays_11 : decode cX5_lays 11 = .ok (.aload_n 0, 1) := by decide +kernel
theorem dX5_lays_12 : decode cX5_lays 12 = .ok (.getfield 7, 3) := by decide +kernel
theorem dX5_lays_15 : decode cX5_lays 15 = .ok (.iload_n 1, 1) := by decide +kernel
theorem dX5_lays_16 : decode cX5_lays 16 = .ok (.iload_n 2, 1) := by decide +kernel
theorem dX5_lays_17 : decode cX5_lays 17 = .ok (.iastore, 1) := by decide +kernel
theorem dX5_lays_18 : decode cX5_lays 18 = .ok (.aload_n 0, 1) := by decide +kernel
theorem dX5_lays_19 : decode cX5_lays 19 = .ok (.invokevirtual 66, 3) := by decide +kernel
theorem dX5_lays_22 : decode cX5_lays 22 = .ok (.iload_n 3, 1) := by decide +kernel
theorem dX5_lays_23 : decode cX5_lays 23 = .ok (.ireturn, 1) := by decide +kernel
set_option maxRecDepth 20000 in
theorem ggX5_cover_X5_isPiece : GoodIn wsX5_cover wsX5_isPiece := goodIn_r _ [4, 5, 6, 3, 7] (by decide +kernel) (by decide +kernel)
set_option maxRecDepth 20000 in
theorem gX5_cover_X5_isPiece : GoodIn wsX5_cover (va_wsS RX5 69 yX5_isPiece wsX5_isPiece) := goodIn_app (goodIn_of _ (by decide +kernel)) ggX5_cover_X5_isPiece
set_option maxRecDepth 20000 in
theorem ggX5_cover_X5_in : GoodIn wsX5_cover wsX5_in := goodIn_r _ [7] (by decide +kernel) (by decide +kernel)
set_option maxRecDepth 20000 in
theorem gX5_cover_X5_in : GoodIn wsX5_cover (va_wsS RX5 33 yX5_in wsX5_in) := goodIn_app (goodIn_of _ (by decide +kernel)) ggX5_cover_X5_in
set_option maxRecDepth 20000 in
theorem ggX5_cover_X5_holds : GoodIn wsX5_cover wsX5_holds := goodIn_r _ [11, 12, 28, 29, 30, 31, 32, 33, 34, 35, 36, 37] (by decide +kernel) (by decide +kernel)
set_option maxRecDepth 20000 in
theorem gX5_cover_X5_holds : GoodIn wsX5_cover (wsV RX5 72 RX5 yX5_holds wsX5_holds) := goodIn_app (goodIn_of _ (by decide +kernel)) ggX5_cover_X5_holds
set_option maxRecDepth 20000 in
theorem ggX5_cover_X5_lays : GoodIn wsX5_cover wsX5_lays := goodIn_r _ [16, 17, 18, 19, 20, 3, 21, 22, 23, 24, 25, 26, 27, 28, 29, 30, 31, 32, 33, 34, 35, 36, 37] (by decide +kernel) (by decide +kernel)
set_option maxRecDepth 20000 in
theorem gX5_cover_X5_lays : GoodIn wsX5_cover (wsV RX5 75 RX5 yX5_lays wsX5_lays) := goodIn_app (goodIn_of _ (by decide +kernel)) ggX5_cover_X5_lays
theorem dX5_cover_0 : decode cX5_cover 0 = .ok (.aload_n 0, 1) := by decide +kernel
theorem dX5_cover_1 : decode cX5_cover 1 = .ok (.iload_n 1, 1) := by decide +kernel
theorem dX5_cover_2 : decode cX5_cover 2 = .ok (.invokestatic 69, 3) := by decide +kernel
theorem dX5_cover_5 : decode cX5_cover 5 = .ok (.ifCond .ne 7, 3) := by decide +kernel
theorem dX5_cover_8 : decode cX5_cover 8 = .ok (.iconst 1, 1) := by decide +kernel
theorem dX5_cover_9 : decode cX5_cover 9 = .ok (.goto 19, 3) := by decide +kernel
theorem dX5_cover_12 : decode cX5_cover 12 = .ok (.iload_n 2, 1) := by decide +kernel
theorem dX5_cover_13 : decode cX5_cover 13 = .ok (.iconst 0, 1) := by decide +kernel
theorem dX5_cover_14 : decode cX5_cover 14 = .ok (.sipush 999, 3) := by decide +kernel
theorem dX5_cover_17 : decode cX5_cover 17 = .ok (.invokestatic 33, 3) := by decide +kernel
theorem dX5_cover_20 : decode cX5_cover 20 = .ok (.ifCond .ne 7, 3) := by decide +kernel
theorem dX5_cover_23 : decode cX5_cover 23 = .ok (.iconst 2, 1) := by decide +kernel
theorem dX5_cover_24 : decode cX5_cover 24 = .ok (.goto 4, 3) := by decide +kernel
theorem dX5_cover_27 : decode cX5_cover 27 = .ok (.iconst 0, 1) := by decide +kernel
theorem dX5_cover_28 : decode cX5_cover 28 = .ok (.invokevirtual 72, 3) := by decide +kernel
theorem dX5_cover_31 : decode cX5_cover 31 = .ok (.ifCond .eq 14, 3) := by decide +kernel
theorem dX5_cover_34 : decode cX5_cover 34 = .ok (.aload_n 0, 1) := by decide +kernel
theorem dX5_cover_35 : decode cX5_cover 35 = .ok (.iconst 0, 1) := by decide +kernel
theorem dX5_cover_36 : decode cX5_cover 36 = .ok (.iload_n 1, 1) := by decide +kernel
theorem dX5_cover_37 : decode cX5_cover 37 = .ok (.iadd, 1) := by decide +kernel
theorem dX5_cover_38 : decode cX5_cover 38 = .ok (.iload_n 2, 1) := by decide +kernel
theorem dX5_cover_39 : decode cX5_cover 39 = .ok (.invokevirtual 75, 3) := by decide +kernel
theorem dX5_cover_42 : decode cX5_cover 42 = .ok (.goto 4, 3) := by decide +kernel
theorem dX5_cover_45 : decode cX5_cover 45 = .ok (.iconst 0, 1) := by decide +kernel
theorem dX5_cover_46 : decode cX5_cover 46 = .ok (.ireturn, 1) := by decide +kernel
set_option maxRecDepth 20000 in
theorem ggX5_join_X5_isPiece : GoodIn wsX5_join wsX5_isPiece := goodIn_r _ [5, 6, 7, 4, 8] (by decide +kernel) (by decide +kernel)
set_option maxRecDepth 20000 in
theorem gX5_join_X5_isPiece : GoodIn wsX5_join (va_wsS RX5 69 yX5_isPiece wsX5_isPiece) := goodIn_app (goodIn_of _ (by decide +kernel)) ggX5_join_X5_isPiece
set_option maxRecDepth 20000 in
theorem ggX5_join_X5_holds : GoodIn wsX5_join wsX5_holds := goodIn_r _ [12, 13, 28, 29, 30, 31, 32, 33, 34, 35, 36, 37] (by decide +kernel) (by decide +kernel)
set_option maxRecDepth 20000 in
theorem gX5_join_X5_holds : GoodIn wsX5_join (wsV RX5 72 RX5 yX5_holds wsX5_holds) := goodIn_app (goodIn_of _ (by decide +kernel)) ggX5_join_X5_holds
set_option maxRecDepth 20000 in
theorem ggX5_join_X5_lays : GoodIn wsX5_join wsX5_lays := goodIn_r _ [17, 1, 18, 19, 20, 4, 21, 22, 23, 24, 25, 26, 27, 28, 29, 30, 31, 32, 33, 34, 35, 36, 37] (by decide +kernel) (by decide +kernel)
set_option maxRecDepth 20000 in
theorem gX5_join_X5_lays : GoodIn wsX5_join (wsV RX5 75 RX5 yX5_lays wsX5_lays) := goodIn_app (goodIn_of _ (by decide +kernel)) ggX5_join_X5_lays
theorem dX5_join_0 : decode cX5_join 0 = .ok (.aload_n 0, 1) := by decide +kernel
theorem dX5_join_1 : decode cX5_join 1 = .ok (.iload_n 1, 1) := by decide +kernel
theorem dX5_join_2 : decode cX5_join 2 = .ok (.invokestatic 69, 3) := by decide +kernel
theorem dX5_join_5 : decode cX5_join 5 = .ok (.ifCond .eq 10, 3) := by decide +kernel
theorem dX5_join_8 : decode cX5_join 8 = .ok (.iload_n 2, 1) := by decide +kernel
theorem dX5_join_9 : decode cX5_join 9 = .ok (.invokestatic 69, 3) := by decide +kernel
theorem dX5_join_12 : decode cX5_join 12 = .ok (.ifCond .ne 7, 3) := by decide +kernel
theorem dX5_join_15 : decode cX5_join 15 = .ok (.iconst 1, 1) := by decide +kernel
theorem dX5_join_16 : decode cX5_join 16 = .ok (.goto 13, 3) := by decide +kernel
theorem dX5_join_19 : decode cX5_join 19 = .ok (.iload_n 2, 1) := by decide +kernel
theorem dX5_join_20 : decode cX5_join 20 = .ok (.iload_n 1, 1) := by decide +kernel
theorem dX5_join_21 : decode cX5_join 21 = .ok (.if_icmp .gt 7, 3) := by decide +kernel
theorem dX5_join_24 : decode cX5_join 24 = .ok (.iconst 2, 1) := by decide +kernel
theorem dX5_join_25 : decode cX5_join 25 = .ok (.goto 4, 3) := by decide +kernel
theorem dX5_join_28 : decode cX5_join 28 = .ok (.iconst 0, 1) := by decide +kernel
theorem dX5_join_29 : decode cX5_join 29 = .ok (.invokevirtual 72, 3) := by decide +kernel
theorem dX5_join_32 : decode cX5_join 32 = .ok (.ifCond .ne 5, 3) := by decide +kernel
theorem dX5_join_35 : decode cX5_join 35 = .ok (.iconst 0, 1) := by decide +kernel
theorem dX5_join_36 : decode cX5_join 36 = .ok (.ireturn, 1) := by decide +kernel
theorem dX5_join_37 : decode cX5_join 37 = .ok (.aload_n 0, 1) := by decide +kernel
theorem dX5_join_38 : decode cX5_join 38 = .ok (.bipush 27, 2) := by decide +kernel
theorem dX5_join_40 : decode cX5_join 40 = .ok (.iload_n 1, 1) := by decide +kernel
theorem dX5_join_41 : decode cX5_join 41 = .ok (.iadd, 1) := by decide +kernel
theorem dX5_join_42 : decode cX5_join 42 = .ok (.aload_n 0, 1) := by decide +kernel
theorem dX5_join_43 : decode cX5_join 43 = .ok (.getfield 7, 3) := by decide +kernel
theorem dX5_join_46 : decode cX5_join 46 = .ok (.bipush 27, 2) := by decide +kernel
theorem dX5_join_48 : decode cX5_join 48 = .ok (.iload_n 1, 1) := by decide +kernel
theorem dX5_join_49 : decode cX5_join 49 = .ok (.iadd, 1) := by decide +kernel
theorem dX5_join_50 : decode cX5_join 50 = .ok (.iaload, 1) := by decide +kernel
theorem dX5_join_51 : decode cX5_join 51 = .ok (.iconst 1, 1) := by decide +kernel
theorem dX5_join_52 : decode cX5_join 52 = .ok (.iload_n 2, 1) := by decide +kernel
theorem dX5_join_53 : decode cX5_join 53 = .ok (.ishl, 1) := by decide +kernel
theorem dX5_join_54 : decode cX5_join 54 = .ok (.ixor, 1) := by decide +kernel
theorem dX5_join_55 : decode cX5_join 55 = .ok (.invokevirtual 75, 3) := by decide +kernel
theorem dX5_join_58 : decode cX5_join 58 = .ok (.istore_n 3, 1) := by decide +kernel
theorem dX5_join_59 : decode cX5_join 59 = .ok (.aload_n 0, 1) := by decide +kernel
theorem dX5_join_60 : decode cX5_join 60 = .ok (.getfield 7, 3) := by decide +kernel
theorem dX5_join_63 : decode cX5_join 63 = .ok (.bipush 27, 2) := by decide +kernel
theorem dX5_join_65 : decode cX5_join 65 = .ok (.iload_n 1, 1) := by decide +kernel
theorem dX5_join_66 : decode cX5_join 66 = .ok (.iadd, 1) := by decide +kernel
theorem dX5_join_67 : decode cX5_join 67 = .ok (.iaload, 1) := by decide +kernel
theorem dX5_join_68 : decode cX5_join 68 = .ok (.iload_n 2, 1) := by decide +kernel
theorem dX5_join_69 : decode cX5_join 69 = .ok (.ishr, 1) := by decide +kernel
theorem dX5_join_70 : decode cX5_join 70 = .ok (.iconst 1, 1) := by decide +kernel
theorem dX5_join_71 : decode cX5_join 71 = .ok (.iand, 1) := by decide +kernel
theorem dX5_join_72 : decode cX5_join 72 = .ok (.ireturn, 1) := by decide +kernel
set_option maxRecDepth 20000 in
theorem ggX5_mark_X5_isPiece : GoodIn wsX5_mark wsX5_isPiece := goodIn_r _ [4, 5, 6, 3, 7] (by decide +kernel) (by decide +kernel)
set_option maxRecDepth 20000 in
theorem gX5_mark_X5_isPiece : GoodIn wsX5_mark (va_wsS RX5 69 yX5_isPiece wsX5_isPiece) := goodIn_app (goodIn_of _ (by decide +kernel)) ggX5_mark_X5_isPiece
set_option maxRecDepth 20000 in
theorem ggX5_mark_X5_in : GoodIn wsX5_mark wsX5_in := goodIn_r _ [7] (by decide +kernel) (by decide +kernel)
set_option maxRecDepth 20000 in
theorem gX5_mark_X5_in : GoodIn wsX5_mark (va_wsS RX5 33 yX5_in wsX5_in) := goodIn_app (goodIn_of _ (by decide +kernel)) ggX5_mark_X5_in
set_option maxRecDepth 20000 in
theorem ggX5_mark_X5_holds : GoodIn wsX5_mark wsX5_holds := goodIn_r _ [11, 12, 28, 29, 30, 31, 32, 33, 34, 35, 36, 37] (by decide +kernel) (by decide +kernel)
set_option maxRecDepth 20000 in
theorem gX5_mark_X5_holds : GoodIn wsX5_mark (wsV RX5 72 RX5 yX5_holds wsX5_holds) := goodIn_app (goodIn_of _ (by decide +kernel)) ggX5_mark_X5_holds
set_option maxRecDepth 20000 in
theorem ggX5_mark_X5_lays : GoodIn wsX5_mark wsX5_lays := goodIn_r _ [16, 17, 18, 19, 20, 3, 21, 22, 23, 24, 25, 26, 27, 28, 29, 30, 31, 32, 33, 34, 35, 36, 37] (by decide +kernel) (by decide +kernel)
set_option maxRecDepth 20000 in
theorem gX5_mark_X5_lays : GoodIn wsX5_mark (wsV RX5 75 RX5 yX5_lays wsX5_lays) := goodIn_app (goodIn_of _ (by decide +kernel)) ggX5_mark_X5_lays
theorem dX5_mark_0 : decode cX5_mark 0 = .ok (.aload_n 0, 1) := by decide +kernel
theorem dX5_mark_1 : decode cX5_mark 1 = .ok (.iload_n 1, 1) := by decide +kernel
theorem dX5_mark_2 : decode cX5_mark 2 = .ok (.invokestatic 69, 3) := by decide +kernel
theorem dX5_mark_5 : decode cX5_mark 5 = .ok (.ifCond .ne 7, 3) := by decide +kernel
theorem dX5_mark_8 : decode cX5_mark 8 = .ok (.iconst 1, 1) := by decide +kernel
theorem dX5_mark_9 : decode cX5_mark 9 = .ok (.goto 17, 3) := by decide +kernel
theorem dX5_mark_12 : decode cX5_mark 12 = .ok (.iload_n 2, 1) := by decide +kernel
theorem dX5_mark_13 : decode cX5_mark 13 = .ok (.iconst 0, 1) := by decide +kernel
theorem dX5_mark_14 : decode cX5_mark 14 = .ok (.iconst 3, 1) := by decide +kernel
theorem dX5_mark_15 : decode cX5_mark 15 = .ok (.invokestatic 33, 3) := by decide +kernel
theorem dX5_mark_18 : decode cX5_mark 18 = .ok (.ifCond .ne 7, 3) := by decide +kernel
theorem dX5_mark_21 : decode cX5_mark 21 = .ok (.iconst 2, 1) := by decide +kernel
theorem dX5_mark_22 : decode cX5_mark 22 = .ok (.goto 4, 3) := by decide +kernel
theorem dX5_mark_25 : decode cX5_mark 25 = .ok (.iconst 0, 1) := by decide +kernel
theorem dX5_mark_26 : decode cX5_mark 26 = .ok (.invokevirtual 72, 3) := by decide +kernel
theorem dX5_mark_29 : decode cX5_mark 29 = .ok (.ifCond .eq 15, 3) := by decide +kernel
theorem dX5_mark_32 : decode cX5_mark 32 = .ok (.aload_n 0, 1) := by decide +kernel
theorem dX5_mark_33 : decode cX5_mark 33 = .ok (.bipush 18, 2) := by decide +kernel
theorem dX5_mark_35 : decode cX5_mark 35 = .ok (.iload_n 1, 1) := by decide +kernel
theorem dX5_mark_36 : decode cX5_mark 36 = .ok (.iadd, 1) := by decide +kernel
theorem dX5_mark_37 : decode cX5_mark 37 = .ok (.iload_n 2, 1) := by decide +kernel
theorem dX5_mark_38 : decode cX5_mark 38 = .ok (.invokevirtual 75, 3) := by decide +kernel
theorem dX5_mark_41 : decode cX5_mark 41 = .ok (.goto 4, 3) := by decide +kernel
theorem dX5_mark_44 : decode cX5_mark 44 = .ok (.iconst 0, 1) := by decide +kernel
theorem dX5_mark_45 : decode cX5_mark 45 = .ok (.ireturn, 1) := by decide +kernel
set_option maxRecDepth 20000 in
theorem ggX5_bar_X5_isPiece : GoodIn wsX5_bar wsX5_isPiece := goodIn_r _ [5, 6, 7, 4, 8] (by decide +kernel) (by decide +kernel)
set_option maxRecDepth 20000 in
theorem gX5_bar_X5_isPiece : GoodIn wsX5_bar (va_wsS RX5 69 yX5_isPiece wsX5_isPiece) := goodIn_app (goodIn_of _ (by decide +kernel)) ggX5_bar_X5_isPiece
set_option maxRecDepth 20000 in
theorem ggX5_bar_X5_holds : GoodIn wsX5_bar wsX5_holds := goodIn_r _ [12, 13, 28, 29, 30, 31, 32, 33, 34, 35, 36, 37] (by decide +kernel) (by decide +kernel)
set_option maxRecDepth 20000 in
theorem gX5_bar_X5_holds : GoodIn wsX5_bar (wsV RX5 72 RX5 yX5_holds wsX5_holds) := goodIn_app (goodIn_of _ (by decide +kernel)) ggX5_bar_X5_holds
set_option maxRecDepth 20000 in
theorem ggX5_bar_X5_lays : GoodIn wsX5_bar wsX5_lays := goodIn_r _ [17, 1, 18, 19, 20, 4, 21, 22, 23, 24, 25, 26, 27, 28, 29, 30, 31, 32, 33, 34, 35, 36, 37] (by decide +kernel) (by decide +kernel)
set_option maxRecDepth 20000 in
theorem gX5_bar_X5_lays : GoodIn wsX5_bar (wsV RX5 75 RX5 yX5_lays wsX5_lays) := goodIn_app (goodIn_of _ (by decide +kernel)) ggX5_bar_X5_lays
theorem dX5_bar_0 : decode cX5_bar 0 = .ok (.aload_n 0, 1) := by decide +kernel
theorem dX5_bar_1 : decode cX5_bar 1 = .ok (.iload_n 1, 1) := by decide +kernel
theorem dX5_bar_2 : decode cX5_bar 2 = .ok (.invokestatic 69, 3) := by decide +kernel
theorem dX5_bar_5 : decode cX5_bar 5 = .ok (.ifCond .eq 10, 3) := by decide +kernel
theorem dX5_bar_8 : decode cX5_bar 8 = .ok (.iload_n 2, 1) := by decide +kernel
theorem dX5_bar_9 : decode cX5_bar 9 = .ok (.invokestatic 69, 3) := by decide +kernel
theorem dX5_bar_12 : decode cX5_bar 12 = .ok (.ifCond .ne 7, 3) := by decide +kernel
theorem dX5_bar_15 : decode cX5_bar 15 = .ok (.iconst 1, 1) := by decide +kernel
theorem dX5_bar_16 : decode cX5_bar 16 = .ok (.goto 13, 3) := by decide +kernel
theorem dX5_bar_19 : decode cX5_bar 19 = .ok (.iload_n 1, 1) := by decide +kernel
theorem dX5_bar_20 : decode cX5_bar 20 = .ok (.iload_n 2, 1) := by decide +kernel
theorem dX5_bar_21 : decode cX5_bar 21 = .ok (.if_icmp .ne 7, 3) := by decide +kernel
theorem dX5_bar_24 : decode cX5_bar 24 = .ok (.iconst 2, 1) := by decide +kernel
theorem dX5_bar_25 : decode cX5_bar 25 = .ok (.goto 4, 3) := by decide +kernel
theorem dX5_bar_28 : decode cX5_bar 28 = .ok (.iconst 0, 1) := by decide +kernel
theorem dX5_bar_29 : decode cX5_bar 29 = .ok (.invokevirtual 72, 3) := by decide +kernel
theorem dX5_bar_32 : decode cX5_bar 32 = .ok (.ifCond .ne 5, 3) := by decide +kernel
theorem dX5_bar_35 : decode cX5_bar 35 = .ok (.iconst 0, 1) := by decide +kernel
theorem dX5_bar_36 : decode cX5_bar 36 = .ok (.ireturn, 1) := by decide +kernel
theorem dX5_bar_37 : decode cX5_bar 37 = .ok (.aload_n 0, 1) := by decide +kernel
theorem dX5_bar_38 : decode cX5_bar 38 = .ok (.bipush 36, 2) := by decide +kernel
theorem dX5_bar_40 : decode cX5_bar 40 = .ok (.iload_n 1, 1) := by decide +kernel
theorem dX5_bar_41 : decode cX5_bar 41 = .ok (.iadd, 1) := by decide +kernel
theorem dX5_bar_42 : decode cX5_bar 42 = .ok (.aload_n 0, 1) := by decide +kernel
theorem dX5_bar_43 : decode cX5_bar 43 = .ok (.getfield 7, 3) := by decide +kernel
theorem dX5_bar_46 : decode cX5_bar 46 = .ok (.bipush 36, 2) := by decide +kernel
theorem dX5_bar_48 : decode cX5_bar 48 = .ok (.iload_n 1, 1) := by decide +kernel
theorem dX5_bar_49 : decode cX5_bar 49 = .ok (.iadd, 1) := by decide +kernel
theorem dX5_bar_50 : decode cX5_bar 50 = .ok (.iaload, 1) := by decide +kernel
theorem dX5_bar_51 : decode cX5_bar 51 = .ok (.iconst 1, 1) := by decide +kernel
theorem dX5_bar_52 : decode cX5_bar 52 = .ok (.iload_n 2, 1) := by decide +kernel
theorem dX5_bar_53 : decode cX5_bar 53 = .ok (.ishl, 1) := by decide +kernel
theorem dX5_bar_54 : decode cX5_bar 54 = .ok (.ixor, 1) := by decide +kernel
theorem dX5_bar_55 : decode cX5_bar 55 = .ok (.invokevirtual 75, 3) := by decide +kernel
theorem dX5_bar_58 : decode cX5_bar 58 = .ok (.istore_n 3, 1) := by decide +kernel
theorem dX5_bar_59 : decode cX5_bar 59 = .ok (.aload_n 0, 1) := by decide +kernel
theorem dX5_bar_60 : decode cX5_bar 60 = .ok (.getfield 7, 3) := by decide +kernel
theorem dX5_bar_63 : decode cX5_bar 63 = .ok (.bipush 36, 2) := by decide +kernel
theorem dX5_bar_65 : decode cX5_bar 65 = .ok (.iload_n 2, 1) := by decide +kernel
theorem dX5_bar_66 : decode cX5_bar 66 = .ok (.iadd, 1) := by decide +kernel
theorem dX5_bar_67 : decode cX5_bar 67 = .ok (.dup2, 1) := by decide +kernel
theorem dX5_bar_68 : decode cX5_bar 68 = .ok (.iaload, 1) := by decide +kernel
theorem dX5_bar_69 : decode cX5_bar 69 = .ok (.iconst 1, 1) := by decide +kernel
theorem dX5_bar_70 : decode cX5_bar 70 = .ok (.iload_n 1, 1) := by decide +kernel
theorem dX5_bar_71 : decode cX5_bar 71 = .ok (.ishl, 1) := by decide +kernel
theorem dX5_bar_72 : decode cX5_bar 72 = .ok (.ixor, 1) := by decide +kernel
theorem dX5_bar_73 : decode cX5_bar 73 = .ok (.iastore, 1) := by decide +kernel
theorem dX5_bar_74 : decode cX5_bar 74 = .ok (.aload_n 0, 1) := by decide +kernel
theorem dX5_bar_75 : decode cX5_bar 75 = .ok (.getfield 7, 3) := by decide +kernel
theorem dX5_bar_78 : decode cX5_bar 78 = .ok (.bipush 36, 2) := by decide +kernel
theorem dX5_bar_80 : decode cX5_bar 80 = .ok (.iload_n 1, 1) := by decide +kernel
theorem dX5_bar_81 : decode cX5_bar 81 = .ok (.iadd, 1) := by decide +kernel
theorem dX5_bar_82 : decode cX5_bar 82 = .ok (.iaload, 1) := by decide +kernel
theorem dX5_bar_83 : decode cX5_bar 83 = .ok (.iload_n 2, 1) := by decide +kernel
theorem dX5_bar_84 : decode cX5_bar 84 = .ok (.ishr, 1) := by decide +kernel
theorem dX5_bar_85 : decode cX5_bar 85 = .ok (.iconst 1, 1) := by decide +kernel
theorem dX5_bar_86 : decode cX5_bar 86 = .ok (.iand, 1) := by decide +kernel
theorem dX5_bar_87 : decode cX5_bar 87 = .ok (.ireturn, 1) := by decide +kernel
set_option maxRecDepth 20000 in
theorem ggX5_steps_X5_heaviestWay : GoodIn wsX5_steps wsX5_heaviestWay := goodIn_r _ [6, 7, 8, 9, 5, 10, 1, 11, 12, 13, 14, 15, 16, 17, 18, 19, 20, 21, 22, 23, 24, 25, 26, 27, 28, 29, 30, 31, 32, 33, 34] (by decide +kernel) (by decide +kernel)
set_option maxRecDepth 20000 in
theorem gX5_steps_X5_heaviestWay : GoodIn wsX5_steps (wsV RX5 79 RX5 yX5_heaviestWay wsX5_heaviestWay) := goodIn_app (goodIn_of _ (by decide +kernel)) ggX5_steps_X5_heaviestWay
set_option maxRecDepth 20000 in
theorem ggX5_steps_X5_weight : GoodIn wsX5_steps wsX5_weight := goodIn_r _ [18, 1, 25, 26, 27, 28, 29, 30, 31, 32, 33, 34] (by decide +kernel) (by decide +kernel)
set_option maxRecDepth 20000 in
theorem gX5_steps_X5_weight : GoodIn wsX5_steps (wsV RX5 51 RX5 yX5_weight wsX5_weight) := goodIn_app (goodIn_of _ (by decide +kernel)) ggX5_steps_X5_weight
theorem dX5_steps_0 : decode cX5_steps 0 = .ok (.aload_n 0, 1) := by decide +kernel
theorem dX5_steps_1 : decode cX5_steps 1 = .ok (.invokevirtual 79, 3) := by decide +kernel
theorem dX5_steps_4 : decode cX5_steps 4 = .ok (.istore_n 1, 1) := by decide +kernel
theorem dX5_steps_5 : decode cX5_steps 5 = .ok (.iload_n 1, 1) := by decide +kernel
theorem dX5_steps_6 : decode cX5_steps 6 = .ok (.ifCond .eq 15, 3) := by decide +kernel
theorem dX5_steps_9 : decode cX5_steps 9 = .ok (.aload_n 0, 1) := by decide +kernel
theorem dX5_steps_10 : decode cX5_steps 10 = .ok (.getfield 7, 3) := by decide +kernel
theorem dX5_steps_13 : decode cX5_steps 13 = .ok (.bipush 45, 2) := by decide +kernel
theorem dX5_steps_15 : decode cX5_steps 15 = .ok (.iaload, 1) := by decide +kernel
theorem dX5_steps_16 : decode cX5_steps 16 = .ok (.bipush 12, 2) := by decide +kernel
theorem dX5_steps_18 : decode cX5_steps 18 = .ok (.if_icmp .ne 7, 3) := by decide +kernel
theorem dX5_steps_21 : decode cX5_steps 21 = .ok (.iconst 0, 1) := by decide +kernel
theorem dX5_steps_22 : decode cX5_steps 22 = .ok (.goto 8, 3) := by decide +kernel
theorem dX5_steps_25 : decode cX5_steps 25 = .ok (.aload_n 0, 1) := by decide +kernel
theorem dX5_steps_26 : decode cX5_steps 26 = .ok (.iload_n 1, 1) := by decide +kernel
theorem dX5_steps_27 : decode cX5_steps 27 = .ok (.invokevirtual 51, 3) := by decide +kernel
theorem dX5_steps_30 : decode cX5_steps 30 = .ok (.istore_n 2, 1) := by decide +kernel
theorem dX5_steps_31 : decode cX5_steps 31 = .ok (.iload_n 2, 1) := by decide +kernel
theorem dX5_steps_32 : decode cX5_steps 32 = .ok (.ifCond .ne 16, 3) := by decide +kernel
theorem dX5_steps_35 : decode cX5_steps 35 = .ok (.aload_n 0, 1) := by decide +kernel
theorem dX5_steps_36 : decode cX5_steps 36 = .ok (.getfield 7, 3) := by decide +kernel
theorem dX5_steps_39 : decode cX5_steps 39 = .ok (.bipush 71, 2) := by decide +kernel
theorem dX5_steps_41 : decode cX5_steps 41 = .ok (.dup2, 1) := by decide +kernel
theorem dX5_steps_42 : decode cX5_steps 42 = .ok (.iaload, 1) := by decide +kernel
theorem dX5_steps_43 : decode cX5_steps 43 = .ok (.iconst 1, 1) := by decide +kernel
theorem dX5_steps_44 : decode cX5_steps 44 = .ok (.iadd, 1) := by decide +kernel
theorem dX5_steps_45 : decode cX5_steps 45 = .ok (.iastore, 1) := by decide +kernel
theorem dX5_steps_46 : decode cX5_steps 46 = .ok (.iconst 0, 1) := by decide +kernel
theorem dX5_steps_47 : decode cX5_steps 47 = .ok (.ireturn, 1) := by decide +kernel
theorem dX5_steps_48 : decode cX5_steps 48 = .ok (.iconst 0, 1) := by decide +kernel
theorem dX5_steps_49 : decode cX5_steps 49 = .ok (.istore_n 3, 1) := by decide +kernel
theorem dX5_steps_50 : decode cX5_steps 50 = .ok (.iload_n 3, 1) := by decide +kernel
theorem dX5_steps_51 : decode cX5_steps 51 = .ok (.bipush 9, 2) := by decide +kernel
theorem dX5_steps_53 : decode cX5_steps 53 = .ok (.if_icmp .ge 35, 3) := by decide +kernel
theorem dX5_steps_56 : decode cX5_steps 56 = .ok (.aload_n 0, 1) := by decide +kernel
theorem dX5_steps_57 : decode cX5_steps 57 = .ok (.getfield 7, 3) := by decide +kernel
theorem dX5_steps_60 : decode cX5_steps 60 = .ok (.bipush 9, 2) := by decide +kernel
theorem dX5_steps_62 : decode cX5_steps 62 = .ok (.iload_n 3, 1) := by decide +kernel
theorem dX5_steps_63 : decode cX5_steps 63 = .ok (.iadd, 1) := by decide +kernel
theorem dX5_steps_64 : decode cX5_steps 64 = .ok (.dup2, 1) := by decide +kernel
theorem dX5_steps_65 : decode cX5_steps 65 = .ok (.iaload, 1) := by decide +kernel
theorem dX5_steps_66 : decode cX5_steps 66 = .ok (.iload_n 1, 1) := by decide +kernel
theorem dX5_steps_67 : decode cX5_steps 67 = .ok (.iload_n 3, 1) := by decide +kernel
theorem dX5_steps_68 : decode cX5_steps 68 = .ok (.ishr, 1) := by decide +kernel
theorem dX5_steps_69 : decode cX5_steps 69 = .ok (.iconst 1, 1) := by decide +kernel
theorem dX5_steps_70 : decode cX5_steps 70 = .ok (.iand, 1) := by decide +kernel
theorem dX5_steps_71 : decode cX5_steps 71 = .ok (.iconst 1, 1) := by decide +kernel
theorem dX5_steps_72 : decode cX5_steps 72 = .ok (.if_icmp .ne 7, 3) := by decide +kernel
theorem dX5_steps_75 : decode cX5_steps 75 = .ok (.iload_n 2, 1) := by decide +kernel
theorem dX5_steps_76 : decode cX5_steps 76 = .ok (.goto 4, 3) := by decide +kernel
theorem dX5_steps_79 : decode cX5_steps 79 = .ok (.iconst 0, 1) := by decide +kernel
theorem dX5_steps_80 : decode cX5_steps 80 = .ok (.isub, 1) := by decide +kernel
theorem dX5_steps_81 : decode cX5_steps 81 = .ok (.iastore, 1) := by decide +kernel
theorem dX5_steps_82 : decode cX5_steps 82 = .ok (.iinc 3 1, 3) := by decide +kernel
theorem dX5_steps_85 : decode cX5_steps 85 = .ok (.goto (-35), 3) := by decide +kernel
theorem dX5_steps_88 : decode cX5_steps 88 = .ok (.aload_n 0, 1) := by decide +kernel
theorem dX5_steps_89 : decode cX5_steps 89 = .ok (.getfield 7, 3) := by decide +kernel
theorem dX5_steps_92 : decode cX5_steps 92 = .ok (.bipush 46, 2) := by decide +kernel
theorem dX5_steps_94 : decode cX5_steps 94 = .ok (.iconst 2, 1) := by decide +kernel
theorem dX5_steps_95 : decode cX5_steps 95 = .ok (.aload_n 0, 1) := by decide +kernel
theorem dX5_steps_96 : decode cX5_steps 96 = .ok (.getfield 7, 3) := by decide +kernel
theorem dX5_steps_99 : decode cX5_steps 99 = .ok (.bipush 45, 2) := by decide +kernel
theorem dX5_steps_101 : decode cX5_steps 101 = .ok (.iaload, 1) := by decide +kernel
theorem dX5_steps_102 : decode cX5_steps 102 = .ok (.imul, 1) := by decide +kernel
theorem dX5_steps_103 : decode cX5_steps 103 = .ok (.iadd, 1) := by decide +kernel
theorem dX5_steps_104 : decode cX5_steps 104 = .ok (.iload_n 2, 1) := by decide +kernel
theorem dX5_steps_105 : decode cX5_steps 105 = .ok (.iastore, 1) := by decide +kernel
theorem dX5_steps_106 : decode cX5_steps 106 = .ok (.aload_n 0, 1) := by decide +kernel
theorem dX5_steps_107 : decode cX5_steps 107 = .ok (.getfield 7, 3) := by decide +kernel
theorem dX5_steps_110 : decode cX5_steps 110 = .ok (.bipush 46, 2) := by decide +kernel
theorem dX5_steps_112 : decode cX5_steps 112 = .ok (.iconst 2, 1) := by decide +kernel
theorem dX5_steps_113 : decode cX5_steps 113 = .ok (.aload_n 0, 1) := by decide +kernel
theorem dX5_steps_114 : decode cX5_steps 114 = .ok (.getfield 7, 3) := by decide +kernel
theorem dX5_steps_117 : decode cX5_steps 117 = .ok (.bipush 45, 2) := by decide +kernel
theorem dX5_steps_119 : decode cX5_steps 119 = .ok (.iaload, 1) := by decide +kernel
theorem dX5_steps_120 : decode cX5_steps 120 = .ok (.imul, 1) := by decide +kernel
theorem dX5_steps_121 : decode cX5_steps 121 = .ok (.iadd, 1) := by decide +kernel
theorem dX5_steps_122 : decode cX5_steps 122 = .ok (.iconst 1, 1) := by decide +kernel
theorem dX5_steps_123 : decode cX5_steps 123 = .ok (.iadd, 1) := by decide +kernel
theorem dX5_steps_124 : decode cX5_steps 124 = .ok (.iload_n 1, 1) := by decide +kernel
theorem dX5_steps_125 : decode cX5_steps 125 = .ok (.iastore, 1) := by decide +kernel
theorem dX5_steps_126 : decode cX5_steps 126 = .ok (.aload_n 0, 1) := by decide +kernel
theorem dX5_steps_127 : decode cX5_steps 127 = .ok (.getfield 7, 3) := by decide +kernel
theorem dX5_steps_130 : decode cX5_steps 130 = .ok (.bipush 45, 2) := by decide +kernel
theorem dX5_steps_132 : decode cX5_steps 132 = .ok (.dup2, 1) := by decide +kernel
theorem dX5_steps_133 : decode cX5_steps 133 = .ok (.iaload, 1) := by decide +kernel
theorem dX5_steps_134 : decode cX5_steps 134 = .ok (.iconst 1, 1) := by decide +kernel
theorem dX5_steps_135 : decode cX5_steps 135 = .ok (.iadd, 1) := by decide +kernel
theorem dX5_steps_136 : decode cX5_steps 136 = .ok (.iastore, 1) := by decide +kernel
theorem dX5_steps_137 : decode cX5_steps 137 = .ok (.aload_n 0, 1) := by decide +kernel
theorem dX5_steps_138 : decode cX5_steps 138 = .ok (.getfield 7, 3) := by decide +kernel
theorem dX5_steps_141 : decode cX5_steps 141 = .ok (.bipush 70, 2) := by decide +kernel
theorem dX5_steps_143 : decode cX5_steps 143 = .ok (.dup2, 1) := by decide +kernel
theorem dX5_steps_144 : decode cX5_steps 144 = .ok (.iaload, 1) := by decide +kernel
theorem dX5_steps_145 : decode cX5_steps 145 = .ok (.iconst 1, 1) := by decide +kernel
theorem dX5_steps_146 : decode cX5_steps 146 = .ok (.iadd, 1) := by decide +kernel
theorem dX5_steps_147 : decode cX5_steps 147 = .ok (.iastore, 1) := by decide +kernel
theorem dX5_steps_148 : decode cX5_steps 148 = .ok (.iload_n 2, 1) := by decide +kernel
theorem dX5_steps_149 : decode cX5_steps 149 = .ok (.ireturn, 1) := by decide +kernel
set_option maxRecDepth 20000 in
theorem ggX5_splits_X5_steps : GoodIn wsX5_splits wsX5_steps := goodIn_r _ [5, 6, 7, 8, 9, 4, 10, 11, 12, 13, 14, 15, 16, 17, 18, 19, 20, 21, 22, 23, 24, 25, 26, 27, 28, 29, 30, 31, 32, 33, 34, 35, 36, 37, 38] (by decide +kernel) (by decide +kernel)
set_option maxRecDepth 20000 in
theorem gX5_splits_X5_steps : GoodIn wsX5_splits (wsV RX5 83 RX5 yX5_steps wsX5_steps) := goodIn_app (goodIn_of _ (by decide +kernel)) ggX5_splits_X5_steps
theorem dX5_splits_0 : decode cX5_splits 0 = .ok (.iconst 0, 1) := by decide +kernel
theorem dX5_splits_1 : decode cX5_splits 1 = .ok (.istore_n 1, 1) := by decide +kernel
theorem dX5_splits_2 : decode cX5_splits 2 = .ok (.aload_n 0, 1) := by decide +kernel
theorem dX5_splits_3 : decode cX5_splits 3 = .ok (.invokevirtual 83, 3) := by decide +kernel
theorem dX5_splits_6 : decode cX5_splits 6 = .ok (.ifCond .le 9, 3) := by decide +kernel
theorem dX5_splits_9 : decode cX5_splits 9 = .ok (.iinc 1 1, 3) := by decide +kernel
theorem dX5_splits_12 : decode cX5_splits 12 = .ok (.goto (-10), 3) := by decide +kernel
theorem dX5_splits_15 : decode cX5_splits 15 = .ok (.iload_n 1, 1) := by decide +kernel
theorem dX5_splits_16 : decode cX5_splits 16 = .ok (.ireturn, 1) := by decide +kernel
set_option maxRecDepth 20000 in
theorem ggX5_step_X5_save : GoodIn wsX5_step wsX5_save := goodIn_r _ [6, 7, 8, 9, 36, 37, 38, 39, 40, 41, 42, 43, 44, 45] (by decide +kernel) (by decide +kernel)
set_option maxRecDepth 20000 in
theorem gX5_step_X5_save : GoodIn wsX5_step (wsV RX5 63 RX5 yX5_save wsX5_save) := goodIn_app (goodIn_of _ (by decide +kernel)) ggX5_step_X5_save
set_option maxRecDepth 20000 in
theorem ggX5_step_X5_steps : GoodIn wsX5_step wsX5_steps := goodIn_r _ [13, 9, 14, 15, 16, 5, 17, 18, 19, 20, 21, 22, 23, 24, 25, 26, 27, 28, 29, 30, 31, 32, 33, 34, 35, 36, 37, 38, 39, 40, 41, 42, 43, 44, 45] (by decide +kernel) (by decide +kernel)
set_option maxRecDepth 20000 in
theorem gX5_step_X5_steps : GoodIn wsX5_step (wsV RX5 83 RX5 yX5_steps wsX5_steps) := goodIn_app (goodIn_of _ (by decide +kernel)) ggX5_step_X5_steps
theorem dX5_step_0 : decode cX5_step 0 = .ok (.aload_n 0, 1) := by decide +kernel
theorem dX5_step_1 : decode cX5_step 1 = .ok (.iconst 0, 1) := by decide +kernel
theorem dX5_step_2 : decode cX5_step 2 = .ok (.putfield 29, 3) := by decide +kernel
theorem dX5_step_5 : decode cX5_step 5 = .ok (.aload_n 0, 1) := by decide +kernel
theorem dX5_step_6 : decode cX5_step 6 = .ok (.invokevirtual 63, 3) := by decide +kernel
theorem dX5_step_9 : decode cX5_step 9 = .ok (.aload_n 0, 1) := by decide +kernel
theorem dX5_step_10 : decode cX5_step 10 = .ok (.invokevirtual 83, 3) := by decide +kernel
theorem dX5_step_13 : decode cX5_step 13 = .ok (.ireturn, 1) := by decide +kernel
set_option maxRecDepth 20000 in
theorem ggX5_split_X5_save : GoodIn wsX5_split wsX5_save := goodIn_r _ [6, 7, 8, 9, 40, 41, 42, 43, 44, 45, 46, 47, 48, 49] (by decide +kernel) (by decide +kernel)
set_option maxRecDepth 20000 in
theorem gX5_split_X5_save : GoodIn wsX5_split (wsV RX5 63 RX5 yX5_save wsX5_save) := goodIn_app (goodIn_of _ (by decide +kernel)) ggX5_split_X5_save
set_option maxRecDepth 20000 in
theorem ggX5_split_X5_splits : GoodIn wsX5_split wsX5_splits := goodIn_r _ [13, 14, 15, 16, 5, 17, 9, 18, 19, 20, 21, 22, 23, 24, 25, 26, 27, 28, 29, 30, 31, 32, 33, 34, 35, 36, 37, 38, 39, 40, 41, 42, 43, 44, 45, 46, 47, 48, 49] (by decide +kernel) (by decide +kernel)
set_option maxRecDepth 20000 in
theorem gX5_split_X5_splits : GoodIn wsX5_split (wsV RX5 86 RX5 yX5_splits wsX5_splits) := goodIn_app (goodIn_of _ (by decide +kernel)) ggX5_split_X5_splits
theorem dX5_split_0 : decode cX5_split 0 = .ok (.aload_n 0, 1) := by decide +kernel
theorem dX5_split_1 : decode cX5_split 1 = .ok (.iconst 0, 1) := by decide +kernel
theorem dX5_split_2 : decode cX5_split 2 = .ok (.putfield 29, 3) := by decide +kernel
theorem dX5_split_5 : decode cX5_split 5 = .ok (.aload_n 0, 1) := by decide +kernel
theorem dX5_split_6 : decode cX5_split 6 = .ok (.invokevirtual 63, 3) := by decide +kernel
theorem dX5_split_9 : decode cX5_split 9 = .ok (.aload_n 0, 1) := by decide +kernel
theorem dX5_split_10 : decode cX5_split 10 = .ok (.invokevirtual 86, 3) := by decide +kernel
theorem dX5_split_13 : decode cX5_split 13 = .ok (.ireturn, 1) := by decide +kernel
set_option maxRecDepth 20000 in
theorem ggX5_begin_X5_save : GoodIn wsX5_begin wsX5_save := goodIn_r _ [7, 8, 9, 2, 14, 15, 16, 17, 18, 19, 20, 21, 22, 23] (by decide +kernel) (by decide +kernel)
set_option maxRecDepth 20000 in
theorem gX5_begin_X5_save : GoodIn wsX5_begin (wsV RX5 63 RX5 yX5_save wsX5_save) := goodIn_app (goodIn_of _ (by decide +kernel)) ggX5_begin_X5_save
set_option maxRecDepth 20000 in
theorem ggX5_begin_X5_anew : GoodIn wsX5_begin wsX5_anew := goodIn_r _ [13, 2, 14, 15, 16, 17, 18, 19, 20, 21, 22, 23] (by decide +kernel) (by decide +kernel)
set_option maxRecDepth 20000 in
theorem gX5_begin_X5_anew : GoodIn wsX5_begin (wsV RX5 66 RX5 yX5_anew wsX5_anew) := goodIn_app (goodIn_of _ (by decide +kernel)) ggX5_begin_X5_anew
theorem dX5_begin_0 : decode cX5_begin 0 = .ok (.aload_n 0, 1) := by decide +kernel
theorem dX5_begin_1 : decode cX5_begin 1 = .ok (.iconst 0, 1) := by decide +kernel
theorem dX5_begin_2 : decode cX5_begin 2 = .ok (.putfield 29, 3) := by decide +kernel
theorem dX5_begin_5 : decode cX5_begin 5 = .ok (.aload_n 0, 1) := by decide +kernel
theorem dX5_begin_6 : decode cX5_begin 6 = .ok (.invokevirtual 63, 3) := by decide +kernel
theorem dX5_begin_9 : decode cX5_begin 9 = .ok (.aload_n 0, 1) := by decide +kernel
theorem dX5_begin_10 : decode cX5_begin 10 = .ok (.getfield 7, 3) := by decide +kernel
theorem dX5_begin_13 : decode cX5_begin 13 = .ok (.bipush 45, 2) := by decide +kernel
theorem dX5_begin_15 : decode cX5_begin 15 = .ok (.iaload, 1) := by decide +kernel
theorem dX5_begin_16 : decode cX5_begin 16 = .ok (.istore_n 1, 1) := by decide +kernel
theorem dX5_begin_17 : decode cX5_begin 17 = .ok (.aload_n 0, 1) := by decide +kernel
theorem dX5_begin_18 : decode cX5_begin 18 = .ok (.invokevirtual 66, 3) := by decide +kernel
theorem dX5_begin_21 : decode cX5_begin 21 = .ok (.iload_n 1, 1) := by decide +kernel
theorem dX5_begin_22 : decode cX5_begin 22 = .ok (.ireturn, 1) := by decide +kernel
set_option maxRecDepth 20000 in
theorem ggX5_append_X5_in : GoodIn wsX5_append wsX5_in := goodIn_r _ [6] (by decide +kernel) (by decide +kernel)
set_option maxRecDepth 20000 in
theorem gX5_append_X5_in : GoodIn wsX5_append (va_wsS RX5 33 yX5_in wsX5_in) := goodIn_app (goodIn_of _ (by decide +kernel)) ggX5_append_X5_in
set_option maxRecDepth 20000 in
theorem ggX5_append_X5_holds : GoodIn wsX5_append wsX5_holds := goodIn_r _ [10, 11, 12, 13, 14, 15, 16, 17, 18, 19, 20, 21] (by decide +kernel) (by decide +kernel)
set_option maxRecDepth 20000 in
theorem gX5_append_X5_holds : GoodIn wsX5_append (wsV RX5 72 RX5 yX5_holds wsX5_holds) := goodIn_app (goodIn_of _ (by decide +kernel)) ggX5_append_X5_holds
theorem dX5_append_0 : decode cX5_append 0 = .ok (.aload_n 0, 1) := by decide +kernel
theorem dX5_append_1 : decode cX5_append 1 = .ok (.iload_n 1, 1) := by decide +kernel
theorem dX5_append_2 : decode cX5_append 2 = .ok (.bipush 33, 2) := by decide +kernel
theorem dX5_append_4 : decode cX5_append 4 = .ok (.bipush 126, 2) := by decide +kernel
theorem dX5_append_6 : decode cX5_append 6 = .ok (.invokestatic 33, 3) := by decide +kernel
theorem dX5_append_9 : decode cX5_append 9 = .ok (.ifCond .ne 7, 3) := by decide +kernel
theorem dX5_append_12 : decode cX5_append 12 = .ok (.iconst 1, 1) := by decide +kernel
theorem dX5_append_13 : decode cX5_append 13 = .ok (.goto 17, 3) := by decide +kernel
theorem dX5_append_16 : decode cX5_append 16 = .ok (.aload_n 0, 1) := by decide +kernel
theorem dX5_append_17 : decode cX5_append 17 = .ok (.getfield 89, 3) := by decide +kernel
theorem dX5_append_20 : decode cX5_append 20 = .ok (.bipush 60, 2) := by decide +kernel
theorem dX5_append_22 : decode cX5_append 22 = .ok (.if_icmp .ne 7, 3) := by decide +kernel
theorem dX5_append_25 : decode cX5_append 25 = .ok (.iconst 2, 1) := by decide +kernel
theorem dX5_append_26 : decode cX5_append 26 = .ok (.goto 4, 3) := by decide +kernel
theorem dX5_append_29 : decode cX5_append 29 = .ok (.iconst 0, 1) := by decide +kernel
theorem dX5_append_30 : decode cX5_append 30 = .ok (.invokevirtual 72, 3) := by decide +kernel
theorem dX5_append_33 : decode cX5_append 33 = .ok (.ifCond .ne 5, 3) := by decide +kernel
theorem dX5_append_36 : decode cX5_append 36 = .ok (.iconst 0, 1) := by decide +kernel
theorem dX5_append_37 : decode cX5_append 37 = .ok (.ireturn, 1) := by decide +kernel
theorem dX5_append_38 : decode cX5_append 38 = .ok (.aload_n 0, 1) := by decide +kernel
theorem dX5_append_39 : decode cX5_append 39 = .ok (.getfield 26, 3) := by decide +kernel
theorem dX5_append_42 : decode cX5_append 42 = .ok (.aload_n 0, 1) := by decide +kernel
theorem dX5_append_43 : decode cX5_append 43 = .ok (.getfield 89, 3) := by decide +kernel
theorem dX5_append_46 : decode cX5_append 46 = .ok (.iload_n 1, 1) := by decide +kernel
theorem dX5_append_47 : decode cX5_append 47 = .ok (.iastore, 1) := by decide +kernel
theorem dX5_append_48 : decode cX5_append 48 = .ok (.aload_n 0, 1) := by decide +kernel
theorem dX5_append_49 : decode cX5_append 49 = .ok (.dup, 1) := by decide +kernel
theorem dX5_append_50 : decode cX5_append 50 = .ok (.getfield 89, 3) := by decide +kernel
theorem dX5_append_53 : decode cX5_append 53 = .ok (.iconst 1, 1) := by decide +kernel
theorem dX5_append_54 : decode cX5_append 54 = .ok (.iadd, 1) := by decide +kernel
theorem dX5_append_55 : decode cX5_append 55 = .ok (.putfield 89, 3) := by decide +kernel
theorem dX5_append_58 : decode cX5_append 58 = .ok (.aload_n 0, 1) := by decide +kernel
theorem dX5_append_59 : decode cX5_append 59 = .ok (.getfield 89, 3) := by decide +kernel
theorem dX5_append_62 : decode cX5_append 62 = .ok (.ireturn, 1) := by decide +kernel
theorem dX5_clearBuffer_0 : decode cX5_clearBuffer 0 = .ok (.aload_n 0, 1) := by decide +kernel
theorem dX5_clearBuffer_1 : decode cX5_clearBuffer 1 = .ok (.iconst 0, 1) := by decide +kernel
theorem dX5_clearBuffer_2 : decode cX5_clearBuffer 2 = .ok (.putfield 29, 3) := by decide +kernel
theorem dX5_clearBuffer_5 : decode cX5_clearBuffer 5 = .ok (.aload_n 0, 1) := by decide +kernel
theorem dX5_clearBuffer_6 : decode cX5_clearBuffer 6 = .ok (.getfield 89, 3) := by decide +kernel
theorem dX5_clearBuffer_9 : decode cX5_clearBuffer 9 = .ok (.istore_n 1, 1) := by decide +kernel
theorem dX5_clearBuffer_10 : decode cX5_clearBuffer 10 = .ok (.aload_n 0, 1) := by decide +kernel
theorem dX5_clearBuffer_11 : decode cX5_clearBuffer 11 = .ok (.iconst 0, 1) := by decide +kernel
theorem dX5_clearBuffer_12 : decode cX5_clearBuffer 12 = .ok (.putfield 89, 3) := by decide +kernel
theorem dX5_clearBuffer_15 : decode cX5_clearBuffer 15 = .ok (.iload_n 1, 1) := by decide +kernel
theorem dX5_clearBuffer_16 : decode cX5_clearBuffer 16 = .ok (.ireturn, 1) := by decide +kernel
theorem dX5_charAt_0 : decode cX5_charAt 0 = .ok (.iload_n 1, 1) := by decide +kernel
theorem dX5_charAt_1 : decode cX5_charAt 1 = .ok (.aload_n 0, 1) := by decide +kernel
theorem dX5_charAt_2 : decode cX5_charAt 2 = .ok (.getfield 89, 3) := by decide +kernel
theorem dX5_charAt_5 : decode cX5_charAt 5 = .ok (.if_icmp .ge 12, 3) := by decide +kernel
theorem dX5_charAt_8 : decode cX5_charAt 8 = .ok (.aload_n 0, 1) := by decide +kernel
theorem dX5_charAt_9 : decode cX5_charAt 9 = .ok (.getfield 26, 3) := by decide +kernel
theorem dX5_charAt_12 : decode cX5_charAt 12 = .ok (.iload_n 1, 1) := by decide +kernel
theorem dX5_charAt_13 : decode cX5_charAt 13 = .ok (.iaload, 1) := by decide +kernel
theorem dX5_charAt_14 : decode cX5_charAt 14 = .ok (.goto 4, 3) := by decide +kernel
theorem dX5_charAt_17 : decode cX5_charAt 17 = .ok (.iconst 0, 1) := by decide +kernel
theorem dX5_charAt_18 : decode cX5_charAt 18 = .ok (.ireturn, 1) := by decide +kernel
set_option maxRecDepth 20000 in
theorem ggX5_digitAt_X5_charAt : GoodIn wsX5_digitAt wsX5_charAt := goodIn_r _ [5, 6, 7, 8, 9, 10, 11, 12, 13, 14, 15, 16, 17] (by decide +kernel) (by decide +kernel)
set_option maxRecDepth 20000 in
theorem gX5_digitAt_X5_charAt : GoodIn wsX5_digitAt (wsV RX5 92 RX5 yX5_charAt wsX5_charAt) := goodIn_app (goodIn_of _ (by decide +kernel)) ggX5_digitAt_X5_charAt
theorem dX5_digitAt_0 : decode cX5_digitAt 0 = .ok (.aload_n 0, 1) := by decide +kernel
theorem dX5_digitAt_1 : decode cX5_digitAt 1 = .ok (.iload_n 1, 1) := by decide +kernel
theorem dX5_digitAt_2 : decode cX5_digitAt 2 = .ok (.invokevirtual 92, 3) := by decide +kernel
theorem dX5_digitAt_5 : decode cX5_digitAt 5 = .ok (.bipush 48, 2) := by decide +kernel
theorem dX5_digitAt_7 : decode cX5_digitAt 7 = .ok (.isub, 1) := by decide +kernel
theorem dX5_digitAt_8 : decode cX5_digitAt 8 = .ok (.ireturn, 1) := by decide +kernel
set_option maxRecDepth 20000 in
theorem ggX5_behindNumber_X5_digitAt : GoodIn wsX5_behindNumber wsX5_digitAt := goodIn_r _ [5, 6, 7, 8, 4, 9, 10, 11, 15, 16, 17, 18, 19, 20, 21, 22, 23, 24] (by decide +kernel) (by decide +kernel)
set_option maxRecDepth 20000 in
theorem gX5_behindNumber_X5_digitAt : GoodIn wsX5_behindNumber (wsV RX5 95 RX5 yX5_digitAt wsX5_digitAt) := goodIn_app (goodIn_of _ (by decide +kernel)) ggX5_behindNumber_X5_digitAt
set_option maxRecDepth 20000 in
theorem ggX5_behindNumber_X5_in : GoodIn wsX5_behindNumber wsX5_in := goodIn_r _ [14] (by decide +kernel) (by decide +kernel)
set_option maxRecDepth 20000 in
theorem gX5_behindNumber_X5_in : GoodIn wsX5_behindNumber (va_wsS RX5 33 yX5_in wsX5_in) := goodIn_app (goodIn_of _ (by decide +kernel)) ggX5_behindNumber_X5_in
theorem dX5_behindNumber_0 : decode cX5_behindNumber 0 = .ok (.iload_n 1, 1) := by decide +kernel
theorem dX5_behindNumber_1 : decode cX5_behindNumber 1 = .ok (.istore_n 2, 1) := by decide +kernel
theorem dX5_behindNumber_2 : decode cX5_behindNumber 2 = .ok (.aload_n 0, 1) := by decide +kernel
theorem dX5_behindNumber_3 : decode cX5_behindNumber 3 = .ok (.iload_n 2, 1) := by decide +kernel
theorem dX5_behindNumber_4 : decode cX5_behindNumber 4 = .ok (.invokevirtual 95, 3) := by decide +kernel
theorem dX5_behindNumber_7 : decode cX5_behindNumber 7 = .ok (.iconst 0, 1) := by decide +kernel
theorem dX5_behindNumber_8 : decode cX5_behindNumber 8 = .ok (.bipush 9, 2) := by decide +kernel
theorem dX5_behindNumber_10 : decode cX5_behindNumber 10 = .ok (.invokestatic 33, 3) := by decide +kernel
theorem dX5_behindNumber_13 : decode cX5_behindNumber 13 = .ok (.ifCond .eq 29, 3) := by decide +kernel
theorem dX5_behindNumber_16 : decode cX5_behindNumber 16 = .ok (.iload_n 2, 1) := by decide +kernel
theorem dX5_behindNumber_17 : decode cX5_behindNumber 17 = .ok (.iload_n 1, 1) := by decide +kernel
theorem dX5_behindNumber_18 : decode cX5_behindNumber 18 = .ok (.iconst 3, 1) := by decide +kernel
theorem dX5_behindNumber_19 : decode cX5_behindNumber 19 = .ok (.iadd, 1) := by decide +kernel
theorem dX5_behindNumber_20 : decode cX5_behindNumber 20 = .ok (.if_icmp .ge 22, 3) := by decide +kernel
theorem dX5_behindNumber_23 : decode cX5_behindNumber 23 = .ok (.iload_n 2, 1) := by decide +kernel
theorem dX5_behindNumber_24 : decode cX5_behindNumber 24 = .ok (.iload_n 1, 1) := by decide +kernel
theorem dX5_behindNumber_25 : decode cX5_behindNumber 25 = .ok (.if_icmp .eq 11, 3) := by decide +kernel
theorem dX5_behindNumber_28 : decode cX5_behindNumber 28 = .ok (.aload_n 0, 1) := by decide +kernel
theorem dX5_behindNumber_29 : decode cX5_behindNumber 29 = .ok (.iload_n 1, 1) := by decide +kernel
theorem dX5_behindNumber_30 : decode cX5_behindNumber 30 = .ok (.invokevirtual 95, 3) := by decide +kernel
theorem dX5_behindNumber_33 : decode cX5_behindNumber 33 = .ok (.ifCond .le 9, 3) := by decide +kernel
theorem dX5_behindNumber_36 : decode cX5_behindNumber 36 = .ok (.iinc 2 1, 3) := by decide +kernel
theorem dX5_behindNumber_39 : decode cX5_behindNumber 39 = .ok (.goto (-37), 3) := by decide +kernel
theorem dX5_behindNumber_42 : decode cX5_behindNumber 42 = .ok (.iload_n 2, 1) := by decide +kernel
theorem dX5_behindNumber_43 : decode cX5_behindNumber 43 = .ok (.ireturn, 1) := by decide +kernel
set_option maxRecDepth 20000 in
theorem ggX5_behindPart_X5_charAt : GoodIn wsX5_behindPart wsX5_charAt := goodIn_r _ [5, 6, 7, 22, 23, 24, 25, 26, 27, 28, 29, 30, 31] (by decide +kernel) (by decide +kernel)
set_option maxRecDepth 20000 in
theorem gX5_behindPart_X5_charAt : GoodIn wsX5_behindPart (wsV RX5 92 RX5 yX5_charAt wsX5_charAt) := goodIn_app (goodIn_of _ (by decide +kernel)) ggX5_behindPart_X5_charAt
set_option maxRecDepth 20000 in
theorem ggX5_behindPart_X5_digitAt : GoodIn wsX5_behindPart wsX5_digitAt := goodIn_r _ [11, 1, 2, 3, 4, 5, 6, 7, 22, 23, 24, 25, 26, 27, 28, 29, 30, 31] (by decide +kernel) (by decide +kernel)
set_option maxRecDepth 20000 in
theorem gX5_behindPart_X5_digitAt : GoodIn wsX5_behindPart (wsV RX5 95 RX5 yX5_digitAt wsX5_digitAt) := goodIn_app (goodIn_of _ (by decide +kernel)) ggX5_behindPart_X5_digitAt
set_option maxRecDepth 20000 in
theorem ggX5_behindPart_X5_isPiece : GoodIn wsX5_behindPart wsX5_isPiece := goodIn_r _ [14, 15, 16, 4, 17] (by decide +kernel) (by decide +kernel)
set_option maxRecDepth 20000 in
theorem gX5_behindPart_X5_isPiece : GoodIn wsX5_behindPart (va_wsS RX5 69 yX5_isPiece wsX5_isPiece) := goodIn_app (goodIn_of _ (by decide +kernel)) ggX5_behindPart_X5_isPiece
set_option maxRecDepth 20000 in
theorem ggX5_behindPart_X5_in : GoodIn wsX5_behindPart wsX5_in := goodIn_r _ [17] (by decide +kernel) (by decide +kernel)
set_option maxRecDepth 20000 in
theorem gX5_behindPart_X5_in : GoodIn wsX5_behindPart (va_wsS RX5 33 yX5_in wsX5_in) := goodIn_app (goodIn_of _ (by decide +kernel)) ggX5_behindPart_X5_in
set_option maxRecDepth 20000 in
theorem ggX5_behindPart_X5_behindNumber : GoodIn wsX5_behindPart wsX5_behindNumber := goodIn_r _ [21, 8, 9, 10, 4, 11, 1, 2, 3, 5, 6, 7, 15, 16, 17, 22, 23, 24, 25, 26, 27, 28, 29, 30, 31] (by decide +kernel) (by decide +kernel)
set_option maxRecDepth 20000 in
theorem gX5_behindPart_X5_behindNumber : GoodIn wsX5_behindPart (wsV RX5 98 RX5 yX5_behindNumber wsX5_behindNumber) := goodIn_app (goodIn_of _ (by decide +kernel)) ggX5_behindPart_X5_behindNumber
theorem dX5_behindPart_0 : decode cX5_behindPart 0 = .ok (.aload_n 0, 1) := by decide +kernel
theorem dX5_behindPart_1 : decode cX5_behindPart 1 = .ok (.iload_n 1, 1) := by decide +kernel
theorem dX5_behindPart_2 : decode cX5_behindPart 2 = .ok (.invokevirtual 92, 3) := by decide +kernel
theorem dX5_behindPart_5 : decode cX5_behindPart 5 = .ok (.istore_n 2, 1) := by decide +kernel
theorem dX5_behindPart_6 : decode cX5_behindPart 6 = .ok (.iload_n 2, 1) := by decide +kernel
theorem dX5_behindPart_7 : decode cX5_behindPart 7 = .ok (.bipush 115, 2) := by decide +kernel
theorem dX5_behindPart_9 : decode cX5_behindPart 9 = .ok (.if_icmp .eq 9, 3) := by decide +kernel
theorem dX5_behindPart_12 : decode cX5_behindPart 12 = .ok (.iload_n 2, 1) := by decide +kernel
theorem dX5_behindPart_13 : decode cX5_behindPart 13 = .ok (.bipush 101, 2) := by decide +kernel
theorem dX5_behindPart_15 : decode cX5_behindPart 15 = .ok (.if_icmp .ne 27, 3) := by decide +kernel
theorem dX5_behindPart_18 : decode cX5_behindPart 18 = .ok (.aload_n 0, 1) := by decide +kernel
theorem dX5_behindPart_19 : decode cX5_behindPart 19 = .ok (.iload_n 1, 1) := by decide +kernel
theorem dX5_behindPart_20 : decode cX5_behindPart 20 = .ok (.iconst 1, 1) := by decide +kernel
theorem dX5_behindPart_21 : decode cX5_behindPart 21 = .ok (.iadd, 1) := by decide +kernel
theorem dX5_behindPart_22 : decode cX5_behindPart 22 = .ok (.invokevirtual 95, 3) := by decide +kernel
theorem dX5_behindPart_25 : decode cX5_behindPart 25 = .ok (.invokestatic 69, 3) := by decide +kernel
theorem dX5_behindPart_28 : decode cX5_behindPart 28 = .ok (.ifCond .eq 9, 3) := by decide +kernel
theorem dX5_behindPart_31 : decode cX5_behindPart 31 = .ok (.iload_n 1, 1) := by decide +kernel
theorem dX5_behindPart_32 : decode cX5_behindPart 32 = .ok (.iconst 2, 1) := by decide +kernel
theorem dX5_behindPart_33 : decode cX5_behindPart 33 = .ok (.iadd, 1) := by decide +kernel
theorem dX5_behindPart_34 : decode cX5_behindPart 34 = .ok (.goto 7, 3) := by decide +kernel
theorem dX5_behindPart_37 : decode cX5_behindPart 37 = .ok (.bipush (-2), 2) := by decide +kernel
theorem dX5_behindPart_39 : decode cX5_behindPart 39 = .ok (.iload_n 1, 1) := by decide +kernel
theorem dX5_behindPart_40 : decode cX5_behindPart 40 = .ok (.isub, 1) := by decide +kernel
theorem dX5_behindPart_41 : decode cX5_behindPart 41 = .ok (.ireturn, 1) := by decide +kernel
theorem dX5_behindPart_42 : decode cX5_behindPart 42 = .ok (.iload_n 2, 1) := by decide +kernel
theorem dX5_behindPart_43 : decode cX5_behindPart 43 = .ok (.bipush 106, 2) := by decide +kernel
theorem dX5_behindPart_45 : decode cX5_behindPart 45 = .ok (.if_icmp .eq 9, 3) := by decide +kernel
theorem dX5_behindPart_48 : decode cX5_behindPart 48 = .ok (.iload_n 2, 1) := by decide +kernel
theorem dX5_behindPart_49 : decode cX5_behindPart 49 = .ok (.bipush 120, 2) := by decide +kernel
theorem dX5_behindPart_51 : decode cX5_behindPart 51 = .ok (.if_icmp .ne 57, 3) := by decide +kernel
theorem dX5_behindPart_54 : decode cX5_behindPart 54 = .ok (.aload_n 0, 1) := by decide +kernel
theorem dX5_behindPart_55 : decode cX5_behindPart 55 = .ok (.iload_n 1, 1) := by decide +kernel
theorem dX5_behindPart_56 : decode cX5_behindPart 56 = .ok (.iconst 1, 1) := by decide +kernel
theorem dX5_behindPart_57 : decode cX5_behindPart 57 = .ok (.iadd, 1) := by decide +kernel
theorem dX5_behindPart_58 : decode cX5_behindPart 58 = .ok (.invokevirtual 95, 3) := by decide +kernel
theorem dX5_behindPart_61 : decode cX5_behindPart 61 = .ok (.istore_n 3, 1) := by decide +kernel
theorem dX5_behindPart_62 : decode cX5_behindPart 62 = .ok (.iload_n 3, 1) := by decide +kernel
theorem dX5_behindPart_63 : decode cX5_behindPart 63 = .ok (.iconst 0, 1) := by decide +kernel
theorem dX5_behindPart_64 : decode cX5_behindPart 64 = .ok (.bipush 7, 2) := by decide +kernel
theorem dX5_behindPart_66 : decode cX5_behindPart 66 = .ok (.invokestatic 33, 3) := by decide +kernel
theorem dX5_behindPart_69 : decode cX5_behindPart 69 = .ok (.ifCond .ne 10, 3) := by decide +kernel
theorem dX5_behindPart_72 : decode cX5_behindPart 72 = .ok (.bipush (-2), 2) := by decide +kernel
theorem dX5_behindPart_74 : decode cX5_behindPart 74 = .ok (.iload_n 1, 1) := by decide +kernel
theorem dX5_behindPart_75 : decode cX5_behindPart 75 = .ok (.isub, 1) := by decide +kernel
theorem dX5_behindPart_76 : decode cX5_behindPart 76 = .ok (.goto 31, 3) := by decide +kernel
theorem dX5_behindPart_79 : decode cX5_behindPart 79 = .ok (.aload_n 0, 1) := by decide +kernel
theorem dX5_behindPart_80 : decode cX5_behindPart 80 = .ok (.iload_n 1, 1) := by decide +kernel
theorem dX5_behindPart_81 : decode cX5_behindPart 81 = .ok (.iconst 2, 1) := by decide +kernel
theorem dX5_behindPart_82 : decode cX5_behindPart 82 = .ok (.iadd, 1) := by decide +kernel
theorem dX5_behindPart_83 : decode cX5_behindPart 83 = .ok (.invokevirtual 95, 3) := by decide +kernel
theorem dX5_behindPart_86 : decode cX5_behindPart 86 = .ok (.iload_n 3, 1) := by decide +kernel
theorem dX5_behindPart_87 : decode cX5_behindPart 87 = .ok (.iconst 1, 1) := by decide +kernel
theorem dX5_behindPart_88 : decode cX5_behindPart 88 = .ok (.iadd, 1) := by decide +kernel
theorem dX5_behindPart_89 : decode cX5_behindPart 89 = .ok (.bipush 8, 2) := by decide +kernel
theorem dX5_behindPart_91 : decode cX5_behindPart 91 = .ok (.invokestatic 33, 3) := by decide +kernel
theorem dX5_behindPart_94 : decode cX5_behindPart 94 = .ok (.ifCond .eq 9, 3) := by decide +kernel
theorem dX5_behindPart_97 : decode cX5_behindPart 97 = .ok (.iload_n 1, 1) := by decide +kernel
theorem dX5_behindPart_98 : decode cX5_behindPart 98 = .ok (.iconst 3, 1) := by decide +kernel
theorem dX5_behindPart_99 : decode cX5_behindPart 99 = .ok (.iadd, 1) := by decide +kernel
theorem dX5_behindPart_100 : decode cX5_behindPart 100 = .ok (.goto 7, 3) := by decide +kernel
theorem dX5_behindPart_103 : decode cX5_behindPart 103 = .ok (.bipush (-3), 2) := by decide +kernel
theorem dX5_behindPart_105 : decode cX5_behindPart 105 = .ok (.iload_n 1, 1) := by decide +kernel
theorem dX5_behindPart_106 : decode cX5_behindPart 106 = .ok (.isub, 1) := by decide +kernel
theorem dX5_behindPart_107 : decode cX5_behindPart 107 = .ok (.ireturn, 1) := by decide +kernel
theorem dX5_behindPart_108 : decode cX5_behindPart 108 = .ok (.iload_n 2, 1) := by decide +kernel
theorem dX5_behindPart_109 : decode cX5_behindPart 109 = .ok (.bipush 99, 2) := by decide +kernel
theorem dX5_behindPart_111 : decode cX5_behindPart 111 = .ok (.if_icmp .eq 7, 3) := by decide +kernel
theorem dX5_behindPart_114 : decode cX5_behindPart 114 = .ok (.iconst (-1), 1) := by decide +kernel
theorem dX5_behindPart_115 : decode cX5_behindPart 115 = .ok (.iload_n 1, 1) := by decide +kernel
theorem dX5_behindPart_116 : decode cX5_behindPart 116 = .ok (.isub, 1) := by decide +kernel
theorem dX5_behindPart_117 : decode cX5_behindPart 117 = .ok (.ireturn, 1) := by decide +kernel
theorem dX5_behindPart_118 : decode cX5_behindPart 118 = .ok (.aload_n 0, 1) := by decide +kernel
theorem dX5_behindPart_119 : decode cX5_behindPart 119 = .ok (.iload_n 1, 1) := by decide +kernel
theorem dX5_behindPart_120 : decode cX5_behindPart 120 = .ok (.iconst 1, 1) := by decide +kernel
theorem dX5_behindPart_121 : decode cX5_behindPart 121 = .ok (.iadd, 1) := by decide +kernel
theorem dX5_behindPart_122 : decode cX5_behindPart 122 = .ok (.invokevirtual 95, 3) := by decide +kernel
theorem dX5_behindPart_125 : decode cX5_behindPart 125 = .ok (.invokestatic 69, 3) := by decide +kernel
theorem dX5_behindPart_128 : decode cX5_behindPart 128 = .ok (.ifCond .ne 8, 3) := by decide +kernel
theorem dX5_behindPart_131 : decode cX5_behindPart 131 = .ok (.bipush (-2), 2) := by decide +kernel
theorem dX5_behindPart_133 : decode cX5_behindPart 133 = .ok (.iload_n 1, 1) := by decide +kernel
theorem dX5_behindPart_134 : decode cX5_behindPart 134 = .ok (.isub, 1) := by decide +kernel
theorem dX5_behindPart_135 : decode cX5_behindPart 135 = .ok (.ireturn, 1) := by decide +kernel
theorem dX5_behindPart_136 : decode cX5_behindPart 136 = .ok (.aload_n 0, 1) := by decide +kernel
theorem dX5_behindPart_137 : decode cX5_behindPart 137 = .ok (.iload_n 1, 1) := by decide +kernel
theorem dX5_behindPart_138 : decode cX5_behindPart 138 = .ok (.iconst 2, 1) := by decide +kernel
theorem dX5_behindPart_139 : decode cX5_behindPart 139 = .ok (.iadd, 1) := by decide +kernel
theorem dX5_behindPart_140 : decode cX5_behindPart 140 = .ok (.invokevirtual 92, 3) := by decide +kernel
theorem dX5_behindPart_143 : decode cX5_behindPart 143 = .ok (.bipush 61, 2) := by decide +kernel
theorem dX5_behindPart_145 : decode cX5_behindPart 145 = .ok (.if_icmp .eq 8, 3) := by decide +kernel
theorem dX5_behindPart_148 : decode cX5_behindPart 148 = .ok (.bipush (-3), 2) := by decide +kernel
theorem dX5_behindPart_150 : decode cX5_behindPart 150 = .ok (.iload_n 1, 1) := by decide +kernel
theorem dX5_behindPart_151 : decode cX5_behindPart 151 = .ok (.isub, 1) := by decide +kernel
theorem dX5_behindPart_152 : decode cX5_behindPart 152 = .ok (.ireturn, 1) := by decide +kernel
theorem dX5_behindPart_153 : decode cX5_behindPart 153 = .ok (.aload_n 0, 1) := by decide +kernel
theorem dX5_behindPart_154 : decode cX5_behindPart 154 = .ok (.iload_n 1, 1) := by decide +kernel
theorem dX5_behindPart_155 : decode cX5_behindPart 155 = .ok (.iconst 3, 1) := by decide +kernel
theorem dX5_behindPart_156 : decode cX5_behindPart 156 = .ok (.iadd, 1) := by decide +kernel
theorem dX5_behindPart_157 : decode cX5_behindPart 157 = .ok (.invokevirtual 98, 3) := by decide +kernel
theorem dX5_behindPart_160 : decode cX5_behindPart 160 = .ok (.istore_n 3, 1) := by decide +kernel
theorem dX5_behindPart_161 : decode cX5_behindPart 161 = .ok (.iload_n 3, 1) := by decide +kernel
theorem dX5_behindPart_162 : decode cX5_behindPart 162 = .ok (.iload_n 1, 1) := by decide +kernel
theorem dX5_behindPart_163 : decode cX5_behindPart 163 = .ok (.iconst 3, 1) := by decide +kernel
theorem dX5_behindPart_164 : decode cX5_behindPart 164 = .ok (.iadd, 1) := by decide +kernel
theorem dX5_behindPart_165 : decode cX5_behindPart 165 = .ok (.if_icmp .ne 10, 3) := by decide +kernel
theorem dX5_behindPart_168 : decode cX5_behindPart 168 = .ok (.bipush (-4), 2) := by decide +kernel
theorem dX5_behindPart_170 : decode cX5_behindPart 170 = .ok (.iload_n 1, 1) := by decide +kernel
theorem dX5_behindPart_171 : decode cX5_behindPart 171 = .ok (.isub, 1) := by decide +kernel
theorem dX5_behindPart_172 : decode cX5_behindPart 172 = .ok (.goto 4, 3) := by decide +kernel
theorem dX5_behindPart_175 : decode cX5_behindPart 175 = .ok (.iload_n 3, 1) := by decide +kernel
theorem dX5_behindPart_176 : decode cX5_behindPart 176 = .ok (.ireturn, 1) := by decide +kernel
set_option maxRecDepth 20000 in
theorem ggX5_wrong_X5_behindPart : GoodIn wsX5_wrong wsX5_behindPart := goodIn_r _ [7, 8, 9, 10, 6, 11, 1, 2, 12, 13, 14, 15, 16, 17, 18, 19, 20, 21, 22, 23, 24, 25, 26, 27, 28, 29, 30, 31, 32, 33, 34, 35] (by decide +kernel) (by decide +kernel)
set_option maxRecDepth 20000 in
theorem gX5_wrong_X5_behindPart : GoodIn wsX5_wrong (wsV RX5 101 RX5 yX5_behindPart wsX5_behindPart) := goodIn_app (goodIn_of _ (by decide +kernel)) ggX5_wrong_X5_behindPart
theorem dX5_wrong_0 : decode cX5_wrong 0 = .ok (.iconst 0, 1) := by decide +kernel
theorem dX5_wrong_1 : decode cX5_wrong 1 = .ok (.istore_n 1, 1) := by decide +kernel
theorem dX5_wrong_2 : decode cX5_wrong 2 = .ok (.iconst 1, 1) := by decide +kernel
theorem dX5_wrong_3 : decode cX5_wrong 3 = .ok (.istore_n 2, 1) := by decide +kernel
theorem dX5_wrong_4 : decode cX5_wrong 4 = .ok (.iload_n 2, 1) := by decide +kernel
theorem dX5_wrong_5 : decode cX5_wrong 5 = .ok (.ifCond .eq 63, 3) := by decide +kernel
theorem dX5_wrong_8 : decode cX5_wrong 8 = .ok (.aload_n 0, 1) := by decide +kernel
theorem dX5_wrong_9 : decode cX5_wrong 9 = .ok (.iload_n 1, 1) := by decide +kernel
theorem dX5_wrong_10 : decode cX5_wrong 10 = .ok (.invokevirtual 101, 3) := by decide +kernel
theorem dX5_wrong_13 : decode cX5_wrong 13 = .ok (.istore_n 1, 1) := by decide +kernel
theorem dX5_wrong_14 : decode cX5_wrong 14 = .ok (.iload_n 1, 1) := by decide +kernel
theorem dX5_wrong_15 : decode cX5_wrong 15 = .ok (.ifCond .ge 7, 3) := by decide +kernel
theorem dX5_wrong_18 : decode cX5_wrong 18 = .ok (.iconst (-1), 1) := by decide +kernel
theorem dX5_wrong_19 : decode cX5_wrong 19 = .ok (.iload_n 1, 1) := by decide +kernel
theorem dX5_wrong_20 : decode cX5_wrong 20 = .ok (.isub, 1) := by decide +kernel
theorem dX5_wrong_21 : decode cX5_wrong 21 = .ok (.ireturn, 1) := by decide +kernel
theorem dX5_wrong_22 : decode cX5_wrong 22 = .ok (.iload_n 1, 1) := by decide +kernel
theorem dX5_wrong_23 : decode cX5_wrong 23 = .ok (.aload_n 0, 1) := by decide +kernel
theorem dX5_wrong_24 : decode cX5_wrong 24 = .ok (.getfield 89, 3) := by decide +kernel
theorem dX5_wrong_27 : decode cX5_wrong 27 = .ok (.if_icmp .ge 7, 3) := by decide +kernel
theorem dX5_wrong_30 : decode cX5_wrong 30 = .ok (.iconst 1, 1) := by decide +kernel
theorem dX5_wrong_31 : decode cX5_wrong 31 = .ok (.goto 4, 3) := by decide +kernel
theorem dX5_wrong_34 : decode cX5_wrong 34 = .ok (.iconst 0, 1) := by decide +kernel
theorem dX5_wrong_35 : decode cX5_wrong 35 = .ok (.istore_n 2, 1) := by decide +kernel
theorem dX5_wrong_36 : decode cX5_wrong 36 = .ok (.iload_n 2, 1) := by decide +kernel
theorem dX5_wrong_37 : decode cX5_wrong 37 = .ok (.ifCond .eq 16, 3) := by decide +kernel
theorem dX5_wrong_40 : decode cX5_wrong 40 = .ok (.aload_n 0, 1) := by decide +kernel
theorem dX5_wrong_41 : decode cX5_wrong 41 = .ok (.getfield 26, 3) := by decide +kernel
theorem dX5_wrong_44 : decode cX5_wrong 44 = .ok (.iload_n 1, 1) := by decide +kernel
theorem dX5_wrong_45 : decode cX5_wrong 45 = .ok (.iaload, 1) := by decide +kernel
theorem dX5_wrong_46 : decode cX5_wrong 46 = .ok (.bipush 59, 2) := by decide +kernel
theorem dX5_wrong_48 : decode cX5_wrong 48 = .ok (.if_icmp .eq 5, 3) := by decide +kernel
theorem dX5_wrong_51 : decode cX5_wrong 51 = .ok (.iload_n 1, 1) := by decide +kernel
theorem dX5_wrong_52 : decode cX5_wrong 52 = .ok (.ireturn, 1) := by decide +kernel
theorem dX5_wrong_53 : decode cX5_wrong 53 = .ok (.iload_n 1, 1) := by decide +kernel
theorem dX5_wrong_54 : decode cX5_wrong 54 = .ok (.iload_n 2, 1) := by decide +kernel
theorem dX5_wrong_55 : decode cX5_wrong 55 = .ok (.ifCond .eq 7, 3) := by decide +kernel
theorem dX5_wrong_58 : decode cX5_wrong 58 = .ok (.iconst 1, 1) := by decide +kernel
theorem dX5_wrong_59 : decode cX5_wrong 59 = .ok (.goto 4, 3) := by decide +kernel
theorem dX5_wrong_62 : decode cX5_wrong 62 = .ok (.iconst 0, 1) := by decide +kernel
theorem dX5_wrong_63 : decode cX5_wrong 63 = .ok (.iadd, 1) := by decide +kernel
theorem dX5_wrong_64 : decode cX5_wrong 64 = .ok (.istore_n 1, 1) := by decide +kernel
theorem dX5_wrong_65 : decode cX5_wrong 65 = .ok (.goto (-61), 3) := by decide +kernel
theorem dX5_wrong_68 : decode cX5_wrong 68 = .ok (.iconst (-1), 1) := by decide +kernel
theorem dX5_wrong_69 : decode cX5_wrong 69 = .ok (.ireturn, 1) := by decide +kernel
set_option maxRecDepth 20000 in
theorem ggX5_firstError_X5_wrong : GoodIn wsX5_firstError wsX5_wrong := goodIn_r _ [7, 2, 8, 9, 10, 11, 6, 12, 13, 14, 15, 16, 17, 18, 19, 20, 21, 22, 23, 24, 25, 26, 27, 28, 29, 30, 31, 32, 33, 34, 35, 36, 37, 38, 39, 40] (by decide +kernel) (by decide +kernel)
set_option maxRecDepth 20000 in
theorem gX5_firstError_X5_wrong : GoodIn wsX5_firstError (wsV RX5 104 RX5 yX5_wrong wsX5_wrong) := goodIn_app (goodIn_of _ (by decide +kernel)) ggX5_firstError_X5_wrong
theorem dX5_firstError_0 : decode cX5_firstError 0 = .ok (.aload_n 0, 1) := by decide +kernel
theorem dX5_firstError_1 : decode cX5_firstError 1 = .ok (.iconst 0, 1) := by decide +kernel
theorem dX5_firstError_2 : decode cX5_firstError 2 = .ok (.putfield 29, 3) := by decide +kernel
theorem dX5_firstError_5 : decode cX5_firstError 5 = .ok (.aload_n 0, 1) := by decide +kernel
theorem dX5_firstError_6 : decode cX5_firstError 6 = .ok (.invokevirtual 104, 3) := by decide +kernel
theorem dX5_firstError_9 : decode cX5_firstError 9 = .ok (.iconst (-1), 1) := by decide +kernel
theorem dX5_firstError_10 : decode cX5_firstError 10 = .ok (.if_icmp .ne 10, 3) := by decide +kernel
theorem dX5_firstError_13 : decode cX5_firstError 13 = .ok (.aload_n 0, 1) := by decide +kernel
theorem dX5_firstError_14 : decode cX5_firstError 14 = .ok (.getfield 89, 3) := by decide +kernel
theorem dX5_firstError_17 : decode cX5_firstError 17 = .ok (.goto 7, 3) := by decide +kernel
theorem dX5_firstError_20 : decode cX5_firstError 20 = .ok (.aload_n 0, 1) := by decide +kernel
theorem dX5_firstError_21 : decode cX5_firstError 21 = .ok (.invokevirtual 104, 3) := by decide +kernel
theorem dX5_firstError_24 : decode cX5_firstError 24 = .ok (.ireturn, 1) := by decide +kernel
set_option maxRecDepth 20000 in
theorem ggX5_takes_X5_digitAt : GoodIn wsX5_takes wsX5_digitAt := goodIn_r _ [7, 8, 9, 10, 6, 11, 12, 1, 13, 14, 15, 16, 17, 18, 19, 20, 21, 22] (by decide +kernel) (by decide +kernel)
set_option maxRecDepth 20000 in
theorem gX5_takes_X5_digitAt : GoodIn wsX5_takes (wsV RX5 95 RX5 yX5_digitAt wsX5_digitAt) := goodIn_app (goodIn_of _ (by decide +kernel)) ggX5_takes_X5_digitAt
theorem dX5_takes_0 : decode cX5_takes 0 = .ok (.aload_n 0, 1) := by decide +kernel
theorem dX5_takes_1 : decode cX5_takes 1 = .ok (.iload_n 1, 1) := by decide +kernel
theorem dX5_takes_2 : decode cX5_takes 2 = .ok (.iconst 1, 1) := by decide +kernel
theorem dX5_takes_3 : decode cX5_takes 3 = .ok (.iadd, 1) := by decide +kernel
theorem dX5_takes_4 : decode cX5_takes 4 = .ok (.invokevirtual 95, 3) := by decide +kernel
theorem dX5_takes_7 : decode cX5_takes 7 = .ok (.istore_n 3, 1) := by decide +kernel
theorem dX5_takes_8 : decode cX5_takes 8 = .ok (.aload_n 0, 1) := by decide +kernel
theorem dX5_takes_9 : decode cX5_takes 9 = .ok (.iload_n 1, 1) := by decide +kernel
theorem dX5_takes_10 : decode cX5_takes 10 = .ok (.iconst 2, 1) := by decide +kernel
theorem dX5_takes_11 : decode cX5_takes 11 = .ok (.iadd, 1) := by decide +kernel
theorem dX5_takes_12 : decode cX5_takes 12 = .ok (.invokevirtual 95, 3) := by decide +kernel
theorem dX5_takes_15 : decode cX5_takes 15 = .ok (.istore 4, 2) := by decide +kernel
theorem dX5_takes_17 : decode cX5_takes 17 = .ok (.aload_n 0, 1) := by decide +kernel
theorem dX5_takes_18 : decode cX5_takes 18 = .ok (.getfield 26, 3) := by decide +kernel
theorem dX5_takes_21 : decode cX5_takes 21 = .ok (.iload_n 1, 1) := by decide +kernel
theorem dX5_takes_22 : decode cX5_takes 22 = .ok (.iaload, 1) := by decide +kernel
theorem dX5_takes_23 : decode cX5_takes 23 = .ok (.lookupswitch 147 #[(99, 41), (101, 131), (106, 96), (115, 115)], 41) := by decide +kernel
theorem dX5_takes_64 : decode cX5_takes 64 = .ok (.aload_n 0, 1) := by decide +kernel
theorem dX5_takes_65 : decode cX5_takes 65 = .ok (.getfield 7, 3) := by decide +kernel
theorem dX5_takes_68 : decode cX5_takes 68 = .ok (.iconst 0, 1) := by decide +kernel
theorem dX5_takes_69 : decode cX5_takes 69 = .ok (.iload_n 3, 1) := by decide +kernel
theorem dX5_takes_70 : decode cX5_takes 70 = .ok (.iadd, 1) := by decide +kernel
theorem dX5_takes_71 : decode cX5_takes 71 = .ok (.iconst 0, 1) := by decide +kernel
theorem dX5_takes_72 : decode cX5_takes 72 = .ok (.iastore, 1) := by decide +kernel
theorem dX5_takes_73 : decode cX5_takes 73 = .ok (.iload_n 1, 1) := by decide +kernel
theorem dX5_takes_74 : decode cX5_takes 74 = .ok (.iconst 3, 1) := by decide +kernel
theorem dX5_takes_75 : decode cX5_takes 75 = .ok (.iadd, 1) := by decide +kernel
theorem dX5_takes_76 : decode cX5_takes 76 = .ok (.istore 5, 2) := by decide +kernel
theorem dX5_takes_78 : decode cX5_takes 78 = .ok (.iload 5, 2) := by decide +kernel
theorem dX5_takes_80 : decode cX5_takes 80 = .ok (.iload_n 2, 1) := by decide +kernel
theorem dX5_takes_81 : decode cX5_takes 81 = .ok (.if_icmp .ge 35, 3) := by decide +kernel
theorem dX5_takes_84 : decode cX5_takes 84 = .ok (.aload_n 0, 1) := by decide +kernel
theorem dX5_takes_85 : decode cX5_takes 85 = .ok (.getfield 7, 3) := by decide +kernel
theorem dX5_takes_88 : decode cX5_takes 88 = .ok (.iconst 0, 1) := by decide +kernel
theorem dX5_takes_89 : decode cX5_takes 89 = .ok (.iload_n 3, 1) := by decide +kernel
theorem dX5_takes_90 : decode cX5_takes 90 = .ok (.iadd, 1) := by decide +kernel
theorem dX5_takes_91 : decode cX5_takes 91 = .ok (.bipush 10, 2) := by decide +kernel
theorem dX5_takes_93 : decode cX5_takes 93 = .ok (.aload_n 0, 1) := by decide +kernel
theorem dX5_takes_94 : decode cX5_takes 94 = .ok (.getfield 7, 3) := by decide +kernel
theorem dX5_takes_97 : decode cX5_takes 97 = .ok (.iconst 0, 1) := by decide +kernel
theorem dX5_takes_98 : decode cX5_takes 98 = .ok (.iload_n 3, 1) := by decide +kernel
theorem dX5_takes_99 : decode cX5_takes 99 = .ok (.iadd, 1) := by decide +kernel
theorem dX5_takes_100 : decode cX5_takes 100 = .ok (.iaload, 1) := by decide +kernel
theorem dX5_takes_101 : decode cX5_takes 101 = .ok (.imul, 1) := by decide +kernel
theorem dX5_takes_102 : decode cX5_takes 102 = .ok (.aload_n 0, 1) := by decide +kernel
theorem dX5_takes_103 : decode cX5_takes 103 = .ok (.iload 5, 2) := by decide +kernel
theorem dX5_takes_105 : decode cX5_takes 105 = .ok (.invokevirtual 95, 3) := by decide +kernel
theorem dX5_takes_108 : decode cX5_takes 108 = .ok (.iadd, 1) := by decide +kernel
theorem dX5_takes_109 : decode cX5_takes 109 = .ok (.iastore, 1) := by decide +kernel
theorem dX5_takes_110 : decode cX5_takes 110 = .ok (.iinc 5 1, 3) := by decide +kernel
theorem dX5_takes_113 : decode cX5_takes 113 = .ok (.goto (-35), 3) := by decide +kernel
theorem dX5_takes_116 : decode cX5_takes 116 = .ok (.goto 86, 3) := by decide +kernel
theorem dX5_takes_119 : decode cX5_takes 119 = .ok (.aload_n 0, 1) := by decide +kernel
theorem dX5_takes_120 : decode cX5_takes 120 = .ok (.getfield 7, 3) := by decide +kernel
theorem dX5_takes_123 : decode cX5_takes 123 = .ok (.bipush 27, 2) := by decide +kernel
theorem dX5_takes_125 : decode cX5_takes 125 = .ok (.iload_n 3, 1) := by decide +kernel
theorem dX5_takes_126 : decode cX5_takes 126 = .ok (.iadd, 1) := by decide +kernel
theorem dX5_takes_127 : decode cX5_takes 127 = .ok (.dup2, 1) := by decide +kernel
theorem dX5_takes_128 : decode cX5_takes 128 = .ok (.iaload, 1) := by decide +kernel
theorem dX5_takes_129 : decode cX5_takes 129 = .ok (.iconst 1, 1) := by decide +kernel
theorem dX5_takes_130 : decode cX5_takes 130 = .ok (.iload 4, 2) := by decide +kernel
theorem dX5_takes_132 : decode cX5_takes 132 = .ok (.ishl, 1) := by decide +kernel
theorem dX5_takes_133 : decode cX5_takes 133 = .ok (.ior, 1) := by decide +kernel
theorem dX5_takes_134 : decode cX5_takes 134 = .ok (.iastore, 1) := by decide +kernel
theorem dX5_takes_135 : decode cX5_takes 135 = .ok (.goto 67, 3) := by decide +kernel
theorem dX5_takes_138 : decode cX5_takes 138 = .ok (.aload_n 0, 1) := by decide +kernel
theorem dX5_takes_139 : decode cX5_takes 139 = .ok (.getfield 7, 3) := by decide +kernel
theorem dX5_takes_142 : decode cX5_takes 142 = .ok (.bipush 18, 2) := by decide +kernel
theorem dX5_takes_144 : decode cX5_takes 144 = .ok (.iload_n 3, 1) := by decide +kernel
theorem dX5_takes_145 : decode cX5_takes 145 = .ok (.iadd, 1) := by decide +kernel
theorem dX5_takes_146 : decode cX5_takes 146 = .ok (.dup2, 1) := by decide +kernel
theorem dX5_takes_147 : decode cX5_takes 147 = .ok (.iaload, 1) := by decide +kernel
theorem dX5_takes_148 : decode cX5_takes 148 = .ok (.iconst 1, 1) := by decide +kernel
theorem dX5_takes_149 : decode cX5_takes 149 = .ok (.ior, 1) := by decide +kernel
theorem dX5_takes_150 : decode cX5_takes 150 = .ok (.iastore, 1) := by decide +kernel
theorem dX5_takes_151 : decode cX5_takes 151 = .ok (.goto 51, 3) := by decide +kernel
theorem dX5_takes_154 : decode cX5_takes 154 = .ok (.aload_n 0, 1) := by decide +kernel
theorem dX5_takes_155 : decode cX5_takes 155 = .ok (.getfield 7, 3) := by decide +kernel
theorem dX5_takes_158 : decode cX5_takes 158 = .ok (.bipush 18, 2) := by decide +kernel
theorem dX5_takes_160 : decode cX5_takes 160 = .ok (.iload_n 3, 1) := by decide +kernel
theorem dX5_takes_161 : decode cX5_takes 161 = .ok (.iadd, 1) := by decide +kernel
theorem dX5_takes_162 : decode cX5_takes 162 = .ok (.dup2, 1) := by decide +kernel
theorem dX5_takes_163 : decode cX5_takes 163 = .ok (.iaload, 1) := by decide +kernel
theorem dX5_takes_164 : decode cX5_takes 164 = .ok (.iconst 2, 1) := by decide +kernel
theorem dX5_takes_165 : decode cX5_takes 165 = .ok (.ior, 1) := by decide +kernel
theorem dX5_takes_166 : decode cX5_takes 166 = .ok (.iastore, 1) := by decide +kernel
theorem dX5_takes_167 : decode cX5_takes 167 = .ok (.goto 35, 3) := by decide +kernel
theorem dX5_takes_170 : decode cX5_takes 170 = .ok (.aload_n 0, 1) := by decide +kernel
theorem dX5_takes_171 : decode cX5_takes 171 = .ok (.getfield 7, 3) := by decide +kernel
theorem dX5_takes_174 : decode cX5_takes 174 = .ok (.bipush 36, 2) := by decide +kernel
theorem dX5_takes_176 : decode cX5_takes 176 = .ok (.iload_n 3, 1) := by decide +kernel
theorem dX5_takes_177 : decode cX5_takes 177 = .ok (.iadd, 1) := by decide +kernel
theorem dX5_takes_178 : decode cX5_takes 178 = .ok (.dup2, 1) := by decide +kernel
theorem dX5_takes_179 : decode cX5_takes 179 = .ok (.iaload, 1) := by decide +kernel
theorem dX5_takes_180 : decode cX5_takes 180 = .ok (.iconst 1, 1) := by decide +kernel
theorem dX5_takes_181 : decode cX5_takes 181 = .ok (.iload 4, 2) := by decide +kernel
theorem dX5_takes_183 : decode cX5_takes 183 = .ok (.ishl, 1) := by decide +kernel
theorem dX5_takes_184 : decode cX5_takes 184 = .ok (.ior, 1) := by decide +kernel
theorem dX5_takes_185 : decode cX5_takes 185 = .ok (.iastore, 1) := by decide +kernel
theorem dX5_takes_186 : decode cX5_takes 186 = .ok (.aload_n 0, 1) := by decide +kernel
theorem dX5_takes_187 : decode cX5_takes 187 = .ok (.getfield 7, 3) := by decide +kernel
theorem dX5_takes_190 : decode cX5_takes 190 = .ok (.bipush 36, 2) := by decide +kernel
theorem dX5_takes_192 : decode cX5_takes 192 = .ok (.iload 4, 2) := by decide +kernel
theorem dX5_takes_194 : decode cX5_takes 194 = .ok (.iadd, 1) := by decide +kernel
theorem dX5_takes_195 : decode cX5_takes 195 = .ok (.dup2, 1) := by decide +kernel
theorem dX5_takes_196 : decode cX5_takes 196 = .ok (.iaload, 1) := by decide +kernel
theorem dX5_takes_197 : decode cX5_takes 197 = .ok (.iconst 1, 1) := by decide +kernel
theorem dX5_takes_198 : decode cX5_takes 198 = .ok (.iload_n 3, 1) := by decide +kernel
theorem dX5_takes_199 : decode cX5_takes 199 = .ok (.ishl, 1) := by decide +kernel
theorem dX5_takes_200 : decode cX5_takes 200 = .ok (.ior, 1) := by decide +kernel
theorem dX5_takes_201 : decode cX5_takes 201 = .ok (.iastore, 1) := by decide +kernel
theorem dX5_takes_202 : decode cX5_takes 202 = .ok (.return_, 1) := by decide +kernel
set_option maxRecDepth 20000 in
theorem ggX5_joins_X5_many : GoodIn wsX5_joins wsX5_many := goodIn_r _ [5] (by decide +kernel) (by decide +kernel)
set_option maxRecDepth 20000 in
theorem gX5_joins_X5_many : GoodIn wsX5_joins (va_wsS RX5 60 yX5_many wsX5_many) := goodIn_app (goodIn_of _ (by decide +kernel)) ggX5_joins_X5_many
theorem dX5_joins_0 : decode cX5_joins 0 = .ok (.iconst 0, 1) := by decide +kernel
theorem dX5_joins_1 : decode cX5_joins 1 = .ok (.istore_n 1, 1) := by decide +kernel
theorem dX5_joins_2 : decode cX5_joins 2 = .ok (.iconst 0, 1) := by decide +kernel
theorem dX5_joins_3 : decode cX5_joins 3 = .ok (.istore_n 2, 1) := by decide +kernel
theorem dX5_joins_4 : decode cX5_joins 4 = .ok (.iload_n 2, 1) := by decide +kernel
theorem dX5_joins_5 : decode cX5_joins 5 = .ok (.bipush 9, 2) := by decide +kernel
theorem dX5_joins_7 : decode cX5_joins 7 = .ok (.if_icmp .ge 24, 3) := by decide +kernel
theorem dX5_joins_10 : decode cX5_joins 10 = .ok (.iload_n 1, 1) := by decide +kernel
theorem dX5_joins_11 : decode cX5_joins 11 = .ok (.aload_n 0, 1) := by decide +kernel
theorem dX5_joins_12 : decode cX5_joins 12 = .ok (.getfield 7, 3) := by decide +kernel
theorem dX5_joins_15 : decode cX5_joins 15 = .ok (.bipush 27, 2) := by decide +kernel
theorem dX5_joins_17 : decode cX5_joins 17 = .ok (.iload_n 2, 1) := by decide +kernel
theorem dX5_joins_18 : decode cX5_joins 18 = .ok (.iadd, 1) := by decide +kernel
theorem dX5_joins_19 : decode cX5_joins 19 = .ok (.iaload, 1) := by decide +kernel
theorem dX5_joins_20 : decode cX5_joins 20 = .ok (.invokestatic 60, 3) := by decide +kernel
theorem dX5_joins_23 : decode cX5_joins 23 = .ok (.iadd, 1) := by decide +kernel
theorem dX5_joins_24 : decode cX5_joins 24 = .ok (.istore_n 1, 1) := by decide +kernel
theorem dX5_joins_25 : decode cX5_joins 25 = .ok (.iinc 2 1, 3) := by decide +kernel
theorem dX5_joins_28 : decode cX5_joins 28 = .ok (.goto (-24), 3) := by decide +kernel
theorem dX5_joins_31 : decode cX5_joins 31 = .ok (.iload_n 1, 1) := by decide +kernel
theorem dX5_joins_32 : decode cX5_joins 32 = .ok (.ireturn, 1) := by decide +kernel
set_option maxRecDepth 20000 in
theorem ggX5_load_X5_wrong : GoodIn wsX5_load wsX5_wrong := goodIn_r _ [7, 2, 8, 9, 10, 11, 6, 12, 13, 14, 15, 16, 17, 18, 19, 20, 21, 22, 23, 24, 25, 26, 27, 28, 29, 30, 57, 58, 59, 60, 61, 62, 63, 64, 65, 66] (by decide +kernel) (by decide +kernel)
set_option maxRecDepth 20000 in
theorem gX5_load_X5_wrong : GoodIn wsX5_load (wsV RX5 104 RX5 yX5_wrong wsX5_wrong) := goodIn_app (goodIn_of _ (by decide +kernel)) ggX5_load_X5_wrong
set_option maxRecDepth 20000 in
theorem ggX5_load_X5_holds : GoodIn wsX5_load wsX5_holds := goodIn_r _ [34, 35, 57, 58, 59, 60, 61, 62, 63, 64, 65, 66] (by decide +kernel) (by decide +kernel)
set_option maxRecDepth 20000 in
theorem gX5_load_X5_holds : GoodIn wsX5_load (wsV RX5 72 RX5 yX5_holds wsX5_holds) := goodIn_app (goodIn_of _ (by decide +kernel)) ggX5_load_X5_holds
set_option maxRecDepth 20000 in
theorem ggX5_load_X5_save : GoodIn wsX5_load wsX5_save := goodIn_r _ [39, 40, 41, 1, 57, 58, 59, 60, 61, 62, 63, 64, 65, 66] (by decide +kernel) (by decide +kernel)
set_option maxRecDepth 20000 in
theorem gX5_load_X5_save : GoodIn wsX5_load (wsV RX5 63 RX5 yX5_save wsX5_save) := goodIn_app (goodIn_of _ (by decide +kernel)) ggX5_load_X5_save
set_option maxRecDepth 20000 in
theorem ggX5_load_X5_behindPart : GoodIn wsX5_load wsX5_behindPart := goodIn_r _ [12, 13, 14, 15, 6, 16, 2, 8, 17, 18, 19, 20, 21, 22, 23, 24, 25, 26, 27, 28, 29, 30, 57, 58, 59, 60, 61, 62, 63, 64, 65, 66] (by decide +kernel) (by decide +kernel)
set_option maxRecDepth 20000 in
theorem gX5_load_X5_behindPart : GoodIn wsX5_load (wsV RX5 101 RX5 yX5_behindPart wsX5_behindPart) := goodIn_app (goodIn_of _ (by decide +kernel)) ggX5_load_X5_behindPart
set_option maxRecDepth 20000 in
theorem ggX5_load_X5_takes : GoodIn wsX5_load wsX5_takes := goodIn_r _ [45, 8, 1, 17, 18, 19, 6, 20, 13, 14, 15, 16, 2, 57, 58, 59, 60, 61, 62, 63, 64, 65, 66] (by decide +kernel) (by decide +kernel)
set_option maxRecDepth 20000 in
theorem gX5_load_X5_takes : GoodIn wsX5_load (wsV RX5 107 RX5 yX5_takes wsX5_takes) := goodIn_app (goodIn_of _ (by decide +kernel)) ggX5_load_X5_takes
set_option maxRecDepth 20000 in
theorem ggX5_load_X5_anew : GoodIn wsX5_load wsX5_anew := goodIn_r _ [49, 1, 57, 58, 59, 60, 61, 62, 63, 64, 65, 66] (by decide +kernel) (by decide +kernel)
set_option maxRecDepth 20000 in
theorem gX5_load_X5_anew : GoodIn wsX5_load (wsV RX5 66 RX5 yX5_anew wsX5_anew) := goodIn_app (goodIn_of _ (by decide +kernel)) ggX5_load_X5_anew
set_option maxRecDepth 20000 in
theorem ggX5_load_X5_joins : GoodIn wsX5_load wsX5_joins := goodIn_r _ [53, 1, 54, 55, 6, 56, 57, 58, 59, 60, 61, 62, 63, 64, 65, 66] (by decide +kernel) (by decide +kernel)
set_option maxRecDepth 20000 in
theorem gX5_load_X5_joins : GoodIn wsX5_load (wsV RX5 111 RX5 yX5_joins wsX5_joins) := goodIn_app (goodIn_of _ (by decide +kernel)) ggX5_load_X5_joins
theorem dX5_load_0 : decode cX5_load 0 = .ok (.aload_n 0, 1) := by decide +kernel
theorem dX5_load_1 : decode cX5_load 1 = .ok (.aload_n 0, 1) := by decide +kernel
theorem dX5_load_2 : decode cX5_load 2 = .ok (.invokevirtual 104, 3) := by decide +kernel
theorem dX5_load_5 : decode cX5_load 5 = .ok (.iconst (-1), 1) := by decide +kernel
theorem dX5_load_6 : decode cX5_load 6 = .ok (.if_icmp .ne 7, 3) := by decide +kernel
theorem dX5_load_9 : decode cX5_load 9 = .ok (.iconst 0, 1) := by decide +kernel
theorem dX5_load_10 : decode cX5_load 10 = .ok (.goto 4, 3) := by decide +kernel
theorem dX5_load_13 : decode cX5_load 13 = .ok (.iconst 1, 1) := by decide +kernel
theorem dX5_load_14 : decode cX5_load 14 = .ok (.invokevirtual 72, 3) := by decide +kernel
theorem dX5_load_17 : decode cX5_load 17 = .ok (.ifCond .ne 5, 3) := by decide +kernel
theorem dX5_load_20 : decode cX5_load 20 = .ok (.iconst 0, 1) := by decide +kernel
theorem dX5_load_21 : decode cX5_load 21 = .ok (.ireturn, 1) := by decide +kernel
theorem dX5_load_22 : decode cX5_load 22 = .ok (.aload_n 0, 1) := by decide +kernel
theorem dX5_load_23 : decode cX5_load 23 = .ok (.invokevirtual 63, 3) := by decide +kernel
theorem dX5_load_26 : decode cX5_load 26 = .ok (.iconst 0, 1) := by decide +kernel
theorem dX5_load_27 : decode cX5_load 27 = .ok (.istore_n 1, 1) := by decide +kernel
theorem dX5_load_28 : decode cX5_load 28 = .ok (.iload_n 1, 1) := by decide +kernel
theorem dX5_load_29 : decode cX5_load 29 = .ok (.bipush 45, 2) := by decide +kernel
theorem dX5_load_31 : decode cX5_load 31 = .ok (.if_icmp .ge 16, 3) := by decide +kernel
theorem dX5_load_34 : decode cX5_load 34 = .ok (.aload_n 0, 1) := by decide +kernel
theorem dX5_load_35 : decode cX5_load 35 = .ok (.getfield 7, 3) := by decide +kernel
theorem dX5_load_38 : decode cX5_load 38 = .ok (.iload_n 1, 1) := by decide +kernel
theorem dX5_load_39 : decode cX5_load 39 = .ok (.iconst 0, 1) := by decide +kernel
theorem dX5_load_40 : decode cX5_load 40 = .ok (.iastore, 1) := by decide +kernel
theorem dX5_load_41 : decode cX5_load 41 = .ok (.iinc 1 1, 3) := by decide +kernel
theorem dX5_load_44 : decode cX5_load 44 = .ok (.goto (-16), 3) := by decide +kernel
theorem dX5_load_47 : decode cX5_load 47 = .ok (.iconst 0, 1) := by decide +kernel
theorem dX5_load_48 : decode cX5_load 48 = .ok (.istore_n 1, 1) := by decide +kernel
theorem dX5_load_49 : decode cX5_load 49 = .ok (.iload_n 1, 1) := by decide +kernel
theorem dX5_load_50 : decode cX5_load 50 = .ok (.aload_n 0, 1) := by decide +kernel
theorem dX5_load_51 : decode cX5_load 51 = .ok (.getfield 89, 3) := by decide +kernel
theorem dX5_load_54 : decode cX5_load 54 = .ok (.if_icmp .ge 22, 3) := by decide +kernel
theorem dX5_load_57 : decode cX5_load 57 = .ok (.aload_n 0, 1) := by decide +kernel
theorem dX5_load_58 : decode cX5_load 58 = .ok (.iload_n 1, 1) := by decide +kernel
theorem dX5_load_59 : decode cX5_load 59 = .ok (.invokevirtual 101, 3) := by decide +kernel
theorem dX5_load_62 : decode cX5_load 62 = .ok (.istore_n 2, 1) := by decide +kernel
theorem dX5_load_63 : decode cX5_load 63 = .ok (.aload_n 0, 1) := by decide +kernel
theorem dX5_load_64 : decode cX5_load 64 = .ok (.iload_n 1, 1) := by decide +kernel
theorem dX5_load_65 : decode cX5_load 65 = .ok (.iload_n 2, 1) := by decide +kernel
theorem dX5_load_66 : decode cX5_load 66 = .ok (.invokevirtual 107, 3) := by decide +kernel
theorem dX5_load_69 : decode cX5_load 69 = .ok (.iload_n 2, 1) := by decide +kernel
theorem dX5_load_70 : decode cX5_load 70 = .ok (.iconst 1, 1) := by decide +kernel
theorem dX5_load_71 : decode cX5_load 71 = .ok (.iadd, 1) := by decide +kernel
theorem dX5_load_72 : decode cX5_load 72 = .ok (.istore_n 1, 1) := by decide +kernel
theorem dX5_load_73 : decode cX5_load 73 = .ok (.goto (-24), 3) := by decide +kernel
theorem dX5_load_76 : decode cX5_load 76 = .ok (.aload_n 0, 1) := by decide +kernel
theorem dX5_load_77 : decode cX5_load 77 = .ok (.invokevirtual 66, 3) := by decide +kernel
theorem dX5_load_80 : decode cX5_load 80 = .ok (.aload_n 0, 1) := by decide +kernel
theorem dX5_load_81 : decode cX5_load 81 = .ok (.iconst 0, 1) := by decide +kernel
theorem dX5_load_82 : decode cX5_load 82 = .ok (.putfield 89, 3) := by decide +kernel
theorem dX5_load_85 : decode cX5_load 85 = .ok (.aload_n 0, 1) := by decide +kernel
theorem dX5_load_86 : decode cX5_load 86 = .ok (.invokevirtual 111, 3) := by decide +kernel
theorem dX5_load_89 : decode cX5_load 89 = .ok (.ireturn, 1) := by decide +kernel
set_option maxRecDepth 20000 in
theorem ggX5_keep_X5_in : GoodIn wsX5_keep wsX5_in := goodIn_r _ [7] (by decide +kernel) (by decide +kernel)
set_option maxRecDepth 20000 in
theorem gX5_keep_X5_in : GoodIn wsX5_keep (va_wsS RX5 33 yX5_in wsX5_in) := goodIn_app (goodIn_of _ (by decide +kernel)) ggX5_keep_X5_in
set_option maxRecDepth 20000 in
theorem ggX5_keep_X5_holds : GoodIn wsX5_keep wsX5_holds := goodIn_r _ [11, 12, 20, 21, 22, 23, 24, 25, 26, 27, 28, 29] (by decide +kernel) (by decide +kernel)
set_option maxRecDepth 20000 in
theorem gX5_keep_X5_holds : GoodIn wsX5_keep (wsV RX5 72 RX5 yX5_holds wsX5_holds) := goodIn_app (goodIn_of _ (by decide +kernel)) ggX5_keep_X5_holds
set_option maxRecDepth 20000 in
theorem ggX5_keep_X5_joins : GoodIn wsX5_keep wsX5_joins := goodIn_r _ [16, 2, 17, 18, 6, 19, 20, 21, 22, 23, 24, 25, 26, 27, 28, 29] (by decide +kernel) (by decide +kernel)
set_option maxRecDepth 20000 in
theorem gX5_keep_X5_joins : GoodIn wsX5_keep (wsV RX5 111 RX5 yX5_joins wsX5_joins) := goodIn_app (goodIn_of _ (by decide +kernel)) ggX5_keep_X5_joins
