theorem dX5_keep_0 : decode cX5_keep 0 = .ok (.aload_n 0, 1) := by decide +kernel
theorem dX5_keep_1 : decode cX5_keep 1 = .ok (.iload_n 1, 1) := by decide +kernel
theorem dX5_keep_2 : decode cX5_keep 2 = .ok (.iconst 0, 1) := by decide +kernel
theorem dX5_keep_3 : decode cX5_keep 3 = .ok (.iconst 1, 1) := by decide +kernel
theorem dX5_keep_4 : decode cX5_keep 4 = .ok (.invokestatic 33, 3) := by decide +kernel
theorem dX5_keep_7 : decode cX5_keep 7 = .ok (.ifCond .eq 7, 3) := by decide +kernel
theorem dX5_keep_10 : decode cX5_keep 10 = .ok (.iconst 0, 1) := by decide +kernel
theorem dX5_keep_11 : decode cX5_keep 11 = .ok (.goto 4, 3) := by decide +kernel
theorem dX5_keep_14 : decode cX5_keep 14 = .ok (.iconst 1, 1) := by decide +kernel
theorem dX5_keep_15 : decode cX5_keep 15 = .ok (.invokevirtual 72, 3) := by decide +kernel
theorem dX5_keep_18 : decode cX5_keep 18 = .ok (.ifCond .ne 5, 3) := by decide +kernel
theorem dX5_keep_21 : decode cX5_keep 21 = .ok (.iconst 0, 1) := by decide +kernel
theorem dX5_keep_22 : decode cX5_keep 22 = .ok (.ireturn, 1) := by decide +kernel
theorem dX5_keep_23 : decode cX5_keep 23 = .ok (.iconst 0, 1) := by decide +kernel
theorem dX5_keep_24 : decode cX5_keep 24 = .ok (.istore_n 2, 1) := by decide +kernel
theorem dX5_keep_25 : decode cX5_keep 25 = .ok (.iload_n 2, 1) := by decide +kernel
theorem dX5_keep_26 : decode cX5_keep 26 = .ok (.bipush 72, 2) := by decide +kernel
theorem dX5_keep_28 : decode cX5_keep 28 = .ok (.if_icmp .ge 26, 3) := by decide +kernel
theorem dX5_keep_31 : decode cX5_keep 31 = .ok (.aload_n 0, 1) := by decide +kernel
theorem dX5_keep_32 : decode cX5_keep 32 = .ok (.getfield 16, 3) := by decide +kernel
theorem dX5_keep_35 : decode cX5_keep 35 = .ok (.bipush 72, 2) := by decide +kernel
theorem dX5_keep_37 : decode cX5_keep 37 = .ok (.iload_n 1, 1) := by decide +kernel
theorem dX5_keep_38 : decode cX5_keep 38 = .ok (.imul, 1) := by decide +kernel
theorem dX5_keep_39 : decode cX5_keep 39 = .ok (.iload_n 2, 1) := by decide +kernel
theorem dX5_keep_40 : decode cX5_keep 40 = .ok (.iadd, 1) := by decide +kernel
theorem dX5_keep_41 : decode cX5_keep 41 = .ok (.aload_n 0, 1) := by decide +kernel
theorem dX5_keep_42 : decode cX5_keep 42 = .ok (.getfield 7, 3) := by decide +kernel
theorem dX5_keep_45 : decode cX5_keep 45 = .ok (.iload_n 2, 1) := by decide +kernel
theorem dX5_keep_46 : decode cX5_keep 46 = .ok (.iaload, 1) := by decide +kernel
theorem dX5_keep_47 : decode cX5_keep 47 = .ok (.iastore, 1) := by decide +kernel
theorem dX5_keep_48 : decode cX5_keep 48 = .ok (.iinc 2 1, 3) := by decide +kernel
theorem dX5_keep_51 : decode cX5_keep 51 = .ok (.goto (-26), 3) := by decide +kernel
theorem dX5_keep_54 : decode cX5_keep 54 = .ok (.aload_n 0, 1) := by decide +kernel
theorem dX5_keep_55 : decode cX5_keep 55 = .ok (.getfield 19, 3) := by decide +kernel
theorem dX5_keep_58 : decode cX5_keep 58 = .ok (.iload_n 1, 1) := by decide +kernel
theorem dX5_keep_59 : decode cX5_keep 59 = .ok (.iconst 1, 1) := by decide +kernel
theorem dX5_keep_60 : decode cX5_keep 60 = .ok (.bastore, 1) := by decide +kernel
theorem dX5_keep_61 : decode cX5_keep 61 = .ok (.aload_n 0, 1) := by decide +kernel
theorem dX5_keep_62 : decode cX5_keep 62 = .ok (.invokevirtual 111, 3) := by decide +kernel
theorem dX5_keep_65 : decode cX5_keep 65 = .ok (.ireturn, 1) := by decide +kernel
set_option maxRecDepth 20000 in
theorem ggX5_goBack_X5_in : GoodIn wsX5_goBack wsX5_in := goodIn_r _ [7] (by decide +kernel) (by decide +kernel)
set_option maxRecDepth 20000 in
theorem gX5_goBack_X5_in : GoodIn wsX5_goBack (va_wsS RX5 33 yX5_in wsX5_in) := goodIn_app (goodIn_of _ (by decide +kernel)) ggX5_goBack_X5_in
set_option maxRecDepth 20000 in
theorem ggX5_goBack_X5_holds : GoodIn wsX5_goBack wsX5_holds := goodIn_r _ [11, 12, 26, 27, 28, 29, 30, 31, 32, 33, 34, 35] (by decide +kernel) (by decide +kernel)
set_option maxRecDepth 20000 in
theorem gX5_goBack_X5_holds : GoodIn wsX5_goBack (wsV RX5 72 RX5 yX5_holds wsX5_holds) := goodIn_app (goodIn_of _ (by decide +kernel)) ggX5_goBack_X5_holds
set_option maxRecDepth 20000 in
theorem ggX5_goBack_X5_save : GoodIn wsX5_goBack wsX5_save := goodIn_r _ [16, 17, 18, 2, 26, 27, 28, 29, 30, 31, 32, 33, 34, 35] (by decide +kernel) (by decide +kernel)
set_option maxRecDepth 20000 in
theorem gX5_goBack_X5_save : GoodIn wsX5_goBack (wsV RX5 63 RX5 yX5_save wsX5_save) := goodIn_app (goodIn_of _ (by decide +kernel)) ggX5_goBack_X5_save
set_option maxRecDepth 20000 in
theorem ggX5_goBack_X5_joins : GoodIn wsX5_goBack wsX5_joins := goodIn_r _ [22, 2, 23, 24, 6, 25, 26, 27, 28, 29, 30, 31, 32, 33, 34, 35] (by decide +kernel) (by decide +kernel)
set_option maxRecDepth 20000 in
theorem gX5_goBack_X5_joins : GoodIn wsX5_goBack (wsV RX5 111 RX5 yX5_joins wsX5_joins) := goodIn_app (goodIn_of _ (by decide +kernel)) ggX5_goBack_X5_joins
theorem dX5_goBack_0 : decode cX5_goBack 0 = .ok (.iload_n 1, 1) := by decide +kernel
theorem dX5_goBack_1 : decode cX5_goBack 1 = .ok (.iconst 0, 1) := by decide +kernel
theorem dX5_goBack_2 : decode cX5_goBack 2 = .ok (.iconst 1, 1) := by decide +kernel
theorem dX5_goBack_3 : decode cX5_goBack 3 = .ok (.invokestatic 33, 3) := by decide +kernel
theorem dX5_goBack_6 : decode cX5_goBack 6 = .ok (.istore_n 2, 1) := by decide +kernel
theorem dX5_goBack_7 : decode cX5_goBack 7 = .ok (.aload_n 0, 1) := by decide +kernel
theorem dX5_goBack_8 : decode cX5_goBack 8 = .ok (.iload_n 2, 1) := by decide +kernel
theorem dX5_goBack_9 : decode cX5_goBack 9 = .ok (.ifCond .ne 7, 3) := by decide +kernel
theorem dX5_goBack_12 : decode cX5_goBack 12 = .ok (.iconst 1, 1) := by decide +kernel
theorem dX5_goBack_13 : decode cX5_goBack 13 = .ok (.goto 17, 3) := by decide +kernel
theorem dX5_goBack_16 : decode cX5_goBack 16 = .ok (.aload_n 0, 1) := by decide +kernel
theorem dX5_goBack_17 : decode cX5_goBack 17 = .ok (.getfield 19, 3) := by decide +kernel
theorem dX5_goBack_20 : decode cX5_goBack 20 = .ok (.iload_n 1, 1) := by decide +kernel
theorem dX5_goBack_21 : decode cX5_goBack 21 = .ok (.baload, 1) := by decide +kernel
theorem dX5_goBack_22 : decode cX5_goBack 22 = .ok (.ifCond .ne 7, 3) := by decide +kernel
theorem dX5_goBack_25 : decode cX5_goBack 25 = .ok (.iconst 2, 1) := by decide +kernel
theorem dX5_goBack_26 : decode cX5_goBack 26 = .ok (.goto 4, 3) := by decide +kernel
theorem dX5_goBack_29 : decode cX5_goBack 29 = .ok (.iconst 0, 1) := by decide +kernel
theorem dX5_goBack_30 : decode cX5_goBack 30 = .ok (.invokevirtual 72, 3) := by decide +kernel
theorem dX5_goBack_33 : decode cX5_goBack 33 = .ok (.ifCond .ne 5, 3) := by decide +kernel
theorem dX5_goBack_36 : decode cX5_goBack 36 = .ok (.iconst 0, 1) := by decide +kernel
theorem dX5_goBack_37 : decode cX5_goBack 37 = .ok (.ireturn, 1) := by decide +kernel
theorem dX5_goBack_38 : decode cX5_goBack 38 = .ok (.aload_n 0, 1) := by decide +kernel
theorem dX5_goBack_39 : decode cX5_goBack 39 = .ok (.invokevirtual 63, 3) := by decide +kernel
theorem dX5_goBack_42 : decode cX5_goBack 42 = .ok (.iconst 0, 1) := by decide +kernel
theorem dX5_goBack_43 : decode cX5_goBack 43 = .ok (.istore_n 3, 1) := by decide +kernel
theorem dX5_goBack_44 : decode cX5_goBack 44 = .ok (.iload_n 3, 1) := by decide +kernel
theorem dX5_goBack_45 : decode cX5_goBack 45 = .ok (.bipush 72, 2) := by decide +kernel
theorem dX5_goBack_47 : decode cX5_goBack 47 = .ok (.if_icmp .ge 26, 3) := by decide +kernel
theorem dX5_goBack_50 : decode cX5_goBack 50 = .ok (.aload_n 0, 1) := by decide +kernel
theorem dX5_goBack_51 : decode cX5_goBack 51 = .ok (.getfield 7, 3) := by decide +kernel
theorem dX5_goBack_54 : decode cX5_goBack 54 = .ok (.iload_n 3, 1) := by decide +kernel
theorem dX5_goBack_55 : decode cX5_goBack 55 = .ok (.aload_n 0, 1) := by decide +kernel
theorem dX5_goBack_56 : decode cX5_goBack 56 = .ok (.getfield 16, 3) := by decide +kernel
theorem dX5_goBack_59 : decode cX5_goBack 59 = .ok (.bipush 72, 2) := by decide +kernel
theorem dX5_goBack_61 : decode cX5_goBack 61 = .ok (.iload_n 1, 1) := by decide +kernel
theorem dX5_goBack_62 : decode cX5_goBack 62 = .ok (.imul, 1) := by decide +kernel
theorem dX5_goBack_63 : decode cX5_goBack 63 = .ok (.iload_n 3, 1) := by decide +kernel
theorem dX5_goBack_64 : decode cX5_goBack 64 = .ok (.iadd, 1) := by decide +kernel
theorem dX5_goBack_65 : decode cX5_goBack 65 = .ok (.iaload, 1) := by decide +kernel
theorem dX5_goBack_66 : decode cX5_goBack 66 = .ok (.iastore, 1) := by decide +kernel
theorem dX5_goBack_67 : decode cX5_goBack 67 = .ok (.iinc 3 1, 3) := by decide +kernel
theorem dX5_goBack_70 : decode cX5_goBack 70 = .ok (.goto (-26), 3) := by decide +kernel
theorem dX5_goBack_73 : decode cX5_goBack 73 = .ok (.aload_n 0, 1) := by decide +kernel
theorem dX5_goBack_74 : decode cX5_goBack 74 = .ok (.invokevirtual 111, 3) := by decide +kernel
theorem dX5_goBack_77 : decode cX5_goBack 77 = .ok (.ireturn, 1) := by decide +kernel
set_option maxRecDepth 20000 in
theorem ggX5_undo_X5_holds : GoodIn wsX5_undo wsX5_holds := goodIn_r _ [8, 9, 10, 11, 12, 13, 14, 15, 16, 17, 18, 19] (by decide +kernel) (by decide +kernel)
set_option maxRecDepth 20000 in
theorem gX5_undo_X5_holds : GoodIn wsX5_undo (wsV RX5 72 RX5 yX5_holds wsX5_holds) := goodIn_app (goodIn_of _ (by decide +kernel)) ggX5_undo_X5_holds
theorem dX5_undo_0 : decode cX5_undo 0 = .ok (.aload_n 0, 1) := by decide +kernel
theorem dX5_undo_1 : decode cX5_undo 1 = .ok (.aload_n 0, 1) := by decide +kernel
theorem dX5_undo_2 : decode cX5_undo 2 = .ok (.getfield 37, 3) := by decide +kernel
theorem dX5_undo_5 : decode cX5_undo 5 = .ok (.ifCond .le 7, 3) := by decide +kernel
theorem dX5_undo_8 : decode cX5_undo 8 = .ok (.iconst 0, 1) := by decide +kernel
theorem dX5_undo_9 : decode cX5_undo 9 = .ok (.goto 4, 3) := by decide +kernel
theorem dX5_undo_12 : decode cX5_undo 12 = .ok (.iconst 1, 1) := by decide +kernel
theorem dX5_undo_13 : decode cX5_undo 13 = .ok (.invokevirtual 72, 3) := by decide +kernel
theorem dX5_undo_16 : decode cX5_undo 16 = .ok (.ifCond .ne 5, 3) := by decide +kernel
theorem dX5_undo_19 : decode cX5_undo 19 = .ok (.iconst 0, 1) := by decide +kernel
theorem dX5_undo_20 : decode cX5_undo 20 = .ok (.ireturn, 1) := by decide +kernel
theorem dX5_undo_21 : decode cX5_undo 21 = .ok (.aload_n 0, 1) := by decide +kernel
theorem dX5_undo_22 : decode cX5_undo 22 = .ok (.dup, 1) := by decide +kernel
theorem dX5_undo_23 : decode cX5_undo 23 = .ok (.getfield 37, 3) := by decide +kernel
theorem dX5_undo_26 : decode cX5_undo 26 = .ok (.iconst 1, 1) := by decide +kernel
theorem dX5_undo_27 : decode cX5_undo 27 = .ok (.isub, 1) := by decide +kernel
theorem dX5_undo_28 : decode cX5_undo 28 = .ok (.putfield 37, 3) := by decide +kernel
theorem dX5_undo_31 : decode cX5_undo 31 = .ok (.iconst 0, 1) := by decide +kernel
theorem dX5_undo_32 : decode cX5_undo 32 = .ok (.istore_n 1, 1) := by decide +kernel
theorem dX5_undo_33 : decode cX5_undo 33 = .ok (.iload_n 1, 1) := by decide +kernel
theorem dX5_undo_34 : decode cX5_undo 34 = .ok (.bipush 72, 2) := by decide +kernel
theorem dX5_undo_36 : decode cX5_undo 36 = .ok (.if_icmp .ge 29, 3) := by decide +kernel
theorem dX5_undo_39 : decode cX5_undo 39 = .ok (.aload_n 0, 1) := by decide +kernel
theorem dX5_undo_40 : decode cX5_undo 40 = .ok (.getfield 7, 3) := by decide +kernel
theorem dX5_undo_43 : decode cX5_undo 43 = .ok (.iload_n 1, 1) := by decide +kernel
theorem dX5_undo_44 : decode cX5_undo 44 = .ok (.aload_n 0, 1) := by decide +kernel
theorem dX5_undo_45 : decode cX5_undo 45 = .ok (.getfield 23, 3) := by decide +kernel
theorem dX5_undo_48 : decode cX5_undo 48 = .ok (.bipush 72, 2) := by decide +kernel
theorem dX5_undo_50 : decode cX5_undo 50 = .ok (.aload_n 0, 1) := by decide +kernel
theorem dX5_undo_51 : decode cX5_undo 51 = .ok (.getfield 37, 3) := by decide +kernel
theorem dX5_undo_54 : decode cX5_undo 54 = .ok (.imul, 1) := by decide +kernel
theorem dX5_undo_55 : decode cX5_undo 55 = .ok (.iload_n 1, 1) := by decide +kernel
theorem dX5_undo_56 : decode cX5_undo 56 = .ok (.iadd, 1) := by decide +kernel
theorem dX5_undo_57 : decode cX5_undo 57 = .ok (.iaload, 1) := by decide +kernel
theorem dX5_undo_58 : decode cX5_undo 58 = .ok (.iastore, 1) := by decide +kernel
theorem dX5_undo_59 : decode cX5_undo 59 = .ok (.iinc 1 1, 3) := by decide +kernel
theorem dX5_undo_62 : decode cX5_undo 62 = .ok (.goto (-29), 3) := by decide +kernel
theorem dX5_undo_65 : decode cX5_undo 65 = .ok (.aload_n 0, 1) := by decide +kernel
theorem dX5_undo_66 : decode cX5_undo 66 = .ok (.getfield 37, 3) := by decide +kernel
theorem dX5_undo_69 : decode cX5_undo 69 = .ok (.ireturn, 1) := by decide +kernel
theorem dX5_joinsTo_0 : decode cX5_joinsTo 0 = .ok (.iconst 0, 1) := by decide +kernel
theorem dX5_joinsTo_1 : decode cX5_joinsTo 1 = .ok (.istore_n 2, 1) := by decide +kernel
theorem dX5_joinsTo_2 : decode cX5_joinsTo 2 = .ok (.iconst 0, 1) := by decide +kernel
theorem dX5_joinsTo_3 : decode cX5_joinsTo 3 = .ok (.istore_n 3, 1) := by decide +kernel
theorem dX5_joinsTo_4 : decode cX5_joinsTo 4 = .ok (.iload_n 3, 1) := by decide +kernel
theorem dX5_joinsTo_5 : decode cX5_joinsTo 5 = .ok (.bipush 9, 2) := by decide +kernel
theorem dX5_joinsTo_7 : decode cX5_joinsTo 7 = .ok (.if_icmp .ge 25, 3) := by decide +kernel
theorem dX5_joinsTo_10 : decode cX5_joinsTo 10 = .ok (.iload_n 2, 1) := by decide +kernel
theorem dX5_joinsTo_11 : decode cX5_joinsTo 11 = .ok (.aload_n 0, 1) := by decide +kernel
theorem dX5_joinsTo_12 : decode cX5_joinsTo 12 = .ok (.getfield 7, 3) := by decide +kernel
theorem dX5_joinsTo_15 : decode cX5_joinsTo 15 = .ok (.bipush 27, 2) := by decide +kernel
theorem dX5_joinsTo_17 : decode cX5_joinsTo 17 = .ok (.iload_n 3, 1) := by decide +kernel
theorem dX5_joinsTo_18 : decode cX5_joinsTo 18 = .ok (.iadd, 1) := by decide +kernel
theorem dX5_joinsTo_19 : decode cX5_joinsTo 19 = .ok (.iaload, 1) := by decide +kernel
theorem dX5_joinsTo_20 : decode cX5_joinsTo 20 = .ok (.iload_n 1, 1) := by decide +kernel
theorem dX5_joinsTo_21 : decode cX5_joinsTo 21 = .ok (.ishr, 1) := by decide +kernel
theorem dX5_joinsTo_22 : decode cX5_joinsTo 22 = .ok (.iconst 1, 1) := by decide +kernel
theorem dX5_joinsTo_23 : decode cX5_joinsTo 23 = .ok (.iand, 1) := by decide +kernel
theorem dX5_joinsTo_24 : decode cX5_joinsTo 24 = .ok (.iadd, 1) := by decide +kernel
theorem dX5_joinsTo_25 : decode cX5_joinsTo 25 = .ok (.istore_n 2, 1) := by decide +kernel
theorem dX5_joinsTo_26 : decode cX5_joinsTo 26 = .ok (.iinc 3 1, 3) := by decide +kernel
theorem dX5_joinsTo_29 : decode cX5_joinsTo 29 = .ok (.goto (-25), 3) := by decide +kernel
theorem dX5_joinsTo_32 : decode cX5_joinsTo 32 = .ok (.iload_n 2, 1) := by decide +kernel
theorem dX5_joinsTo_33 : decode cX5_joinsTo 33 = .ok (.ireturn, 1) := by decide +kernel
set_option maxRecDepth 20000 in
theorem ggX5_property_X5_joinsTo : GoodIn wsX5_property wsX5_joinsTo := goodIn_r _ [6, 1, 26, 27, 28, 29, 30, 31, 32, 33, 34, 35] (by decide +kernel) (by decide +kernel)
set_option maxRecDepth 20000 in
theorem gX5_property_X5_joinsTo : GoodIn wsX5_property (wsV RX5 114 RX5 yX5_joinsTo wsX5_joinsTo) := goodIn_app (goodIn_of _ (by decide +kernel)) ggX5_property_X5_joinsTo
set_option maxRecDepth 20000 in
theorem ggX5_property_X5_many : GoodIn wsX5_property wsX5_many := goodIn_r _ [9] (by decide +kernel) (by decide +kernel)
set_option maxRecDepth 20000 in
theorem gX5_property_X5_many : GoodIn wsX5_property (va_wsS RX5 60 yX5_many wsX5_many) := goodIn_app (goodIn_of _ (by decide +kernel)) ggX5_property_X5_many
set_option maxRecDepth 20000 in
theorem ggX5_property_X5_behind : GoodIn wsX5_property wsX5_behind := goodIn_r _ [13, 1, 26, 27, 28, 29, 30, 31, 32, 33, 34, 35] (by decide +kernel) (by decide +kernel)
set_option maxRecDepth 20000 in
theorem gX5_property_X5_behind : GoodIn wsX5_property (wsV RX5 57 RX5 yX5_behind wsX5_behind) := goodIn_app (goodIn_of _ (by decide +kernel)) ggX5_property_X5_behind
set_option maxRecDepth 20000 in
theorem ggX5_property_X5_ways : GoodIn wsX5_property wsX5_ways := goodIn_r _ [17, 18, 19, 20, 5, 21, 1, 22, 23, 24, 25, 26, 27, 28, 29, 30, 31, 32, 33, 34, 35] (by decide +kernel) (by decide +kernel)
set_option maxRecDepth 20000 in
theorem gX5_property_X5_ways : GoodIn wsX5_property (wsV RX5 117 RX5 yX5_ways wsX5_ways) := goodIn_app (goodIn_of _ (by decide +kernel)) ggX5_property_X5_ways
theorem dX5_property_0 : decode cX5_property 0 = .ok (.iload_n 2, 1) := by decide +kernel
theorem dX5_property_1 : decode cX5_property 1 = .ok (.tableswitch 92 0 6 #[43, 43, 43, 55, 61, 74, 83], 43) := by decide +kernel
theorem dX5_property_44 : decode cX5_property 44 = .ok (.aload_n 0, 1) := by decide +kernel
theorem dX5_property_45 : decode cX5_property 45 = .ok (.getfield 7, 3) := by decide +kernel
theorem dX5_property_48 : decode cX5_property 48 = .ok (.bipush 9, 2) := by decide +kernel
theorem dX5_property_50 : decode cX5_property 50 = .ok (.iload_n 2, 1) := by decide +kernel
theorem dX5_property_51 : decode cX5_property 51 = .ok (.imul, 1) := by decide +kernel
theorem dX5_property_52 : decode cX5_property 52 = .ok (.iload_n 1, 1) := by decide +kernel
theorem dX5_property_53 : decode cX5_property 53 = .ok (.iadd, 1) := by decide +kernel
theorem dX5_property_54 : decode cX5_property 54 = .ok (.iaload, 1) := by decide +kernel
theorem dX5_property_55 : decode cX5_property 55 = .ok (.ireturn, 1) := by decide +kernel
theorem dX5_property_56 : decode cX5_property 56 = .ok (.aload_n 0, 1) := by decide +kernel
theorem dX5_property_57 : decode cX5_property 57 = .ok (.iload_n 1, 1) := by decide +kernel
theorem dX5_property_58 : decode cX5_property 58 = .ok (.invokevirtual 114, 3) := by decide +kernel
theorem dX5_property_61 : decode cX5_property 61 = .ok (.ireturn, 1) := by decide +kernel
theorem dX5_property_62 : decode cX5_property 62 = .ok (.aload_n 0, 1) := by decide +kernel
theorem dX5_property_63 : decode cX5_property 63 = .ok (.getfield 7, 3) := by decide +kernel
theorem dX5_property_66 : decode cX5_property 66 = .ok (.bipush 27, 2) := by decide +kernel
theorem dX5_property_68 : decode cX5_property 68 = .ok (.iload_n 1, 1) := by decide +kernel
theorem dX5_property_69 : decode cX5_property 69 = .ok (.iadd, 1) := by decide +kernel
theorem dX5_property_70 : decode cX5_property 70 = .ok (.iaload, 1) := by decide +kernel
theorem dX5_property_71 : decode cX5_property 71 = .ok (.invokestatic 60, 3) := by decide +kernel
theorem dX5_property_74 : decode cX5_property 74 = .ok (.ireturn, 1) := by decide +kernel
theorem dX5_property_75 : decode cX5_property 75 = .ok (.aload_n 0, 1) := by decide +kernel
theorem dX5_property_76 : decode cX5_property 76 = .ok (.iload_n 1, 1) := by decide +kernel
theorem dX5_property_77 : decode cX5_property 77 = .ok (.invokevirtual 57, 3) := by decide +kernel
theorem dX5_property_80 : decode cX5_property 80 = .ok (.invokestatic 60, 3) := by decide +kernel
theorem dX5_property_83 : decode cX5_property 83 = .ok (.ireturn, 1) := by decide +kernel
theorem dX5_property_84 : decode cX5_property 84 = .ok (.aload_n 0, 1) := by decide +kernel
theorem dX5_property_85 : decode cX5_property 85 = .ok (.iconst 1, 1) := by decide +kernel
theorem dX5_property_86 : decode cX5_property 86 = .ok (.iload_n 1, 1) := by decide +kernel
theorem dX5_property_87 : decode cX5_property 87 = .ok (.ishl, 1) := by decide +kernel
theorem dX5_property_88 : decode cX5_property 88 = .ok (.iconst 0, 1) := by decide +kernel
theorem dX5_property_89 : decode cX5_property 89 = .ok (.invokevirtual 117, 3) := by decide +kernel
theorem dX5_property_92 : decode cX5_property 92 = .ok (.ireturn, 1) := by decide +kernel
theorem dX5_property_93 : decode cX5_property 93 = .ok (.aload_n 0, 1) := by decide +kernel
theorem dX5_property_94 : decode cX5_property 94 = .ok (.getfield 7, 3) := by decide +kernel
theorem dX5_property_97 : decode cX5_property 97 = .ok (.bipush 36, 2) := by decide +kernel
theorem dX5_property_99 : decode cX5_property 99 = .ok (.iload_n 1, 1) := by decide +kernel
theorem dX5_property_100 : decode cX5_property 100 = .ok (.iadd, 1) := by decide +kernel
theorem dX5_property_101 : decode cX5_property 101 = .ok (.iaload, 1) := by decide +kernel
theorem dX5_property_102 : decode cX5_property 102 = .ok (.ireturn, 1) := by decide +kernel
set_option maxRecDepth 20000 in
theorem ggX5_pieceOf_X5_isPiece : GoodIn wsX5_pieceOf wsX5_isPiece := goodIn_r _ [4, 5, 6, 3, 7] (by decide +kernel) (by decide +kernel)
set_option maxRecDepth 20000 in
theorem gX5_pieceOf_X5_isPiece : GoodIn wsX5_pieceOf (va_wsS RX5 69 yX5_isPiece wsX5_isPiece) := goodIn_app (goodIn_of _ (by decide +kernel)) ggX5_pieceOf_X5_isPiece
set_option maxRecDepth 20000 in
theorem ggX5_pieceOf_X5_in : GoodIn wsX5_pieceOf wsX5_in := goodIn_r _ [7] (by decide +kernel) (by decide +kernel)
set_option maxRecDepth 20000 in
theorem gX5_pieceOf_X5_in : GoodIn wsX5_pieceOf (va_wsS RX5 33 yX5_in wsX5_in) := goodIn_app (goodIn_of _ (by decide +kernel)) ggX5_pieceOf_X5_in
set_option maxRecDepth 20000 in
theorem ggX5_pieceOf_X5_holds : GoodIn wsX5_pieceOf wsX5_holds := goodIn_r _ [11, 12, 41, 42, 43, 44, 45, 46, 47, 48, 49, 50] (by decide +kernel) (by decide +kernel)
set_option maxRecDepth 20000 in
theorem gX5_pieceOf_X5_holds : GoodIn wsX5_pieceOf (wsV RX5 72 RX5 yX5_holds wsX5_holds) := goodIn_app (goodIn_of _ (by decide +kernel)) ggX5_pieceOf_X5_holds
set_option maxRecDepth 20000 in
theorem ggX5_pieceOf_X5_property : GoodIn wsX5_pieceOf wsX5_property := goodIn_r _ [16, 17, 18, 19, 20, 3, 21, 22, 23, 24, 25, 26, 27, 28, 29, 30, 31, 32, 33, 34, 35, 36, 37, 38, 39, 40, 41, 42, 43, 44, 45, 46, 47, 48, 49, 50] (by decide +kernel) (by decide +kernel)
set_option maxRecDepth 20000 in
theorem gX5_pieceOf_X5_property : GoodIn wsX5_pieceOf (wsV RX5 121 RX5 yX5_property wsX5_property) := goodIn_app (goodIn_of _ (by decide +kernel)) ggX5_pieceOf_X5_property
theorem dX5_pieceOf_0 : decode cX5_pieceOf 0 = .ok (.aload_n 0, 1) := by decide +kernel
theorem dX5_pieceOf_1 : decode cX5_pieceOf 1 = .ok (.iload_n 1, 1) := by decide +kernel
theorem dX5_pieceOf_2 : decode cX5_pieceOf 2 = .ok (.invokestatic 69, 3) := by decide +kernel
theorem dX5_pieceOf_5 : decode cX5_pieceOf 5 = .ok (.ifCond .ne 7, 3) := by decide +kernel
theorem dX5_pieceOf_8 : decode cX5_pieceOf 8 = .ok (.iconst 1, 1) := by decide +kernel
theorem dX5_pieceOf_9 : decode cX5_pieceOf 9 = .ok (.goto 18, 3) := by decide +kernel
theorem dX5_pieceOf_12 : decode cX5_pieceOf 12 = .ok (.iload_n 2, 1) := by decide +kernel
theorem dX5_pieceOf_13 : decode cX5_pieceOf 13 = .ok (.iconst 0, 1) := by decide +kernel
theorem dX5_pieceOf_14 : decode cX5_pieceOf 14 = .ok (.bipush 7, 2) := by decide +kernel
theorem dX5_pieceOf_16 : decode cX5_pieceOf 16 = .ok (.invokestatic 33, 3) := by decide +kernel
theorem dX5_pieceOf_19 : decode cX5_pieceOf 19 = .ok (.ifCond .ne 7, 3) := by decide +kernel
theorem dX5_pieceOf_22 : decode cX5_pieceOf 22 = .ok (.iconst 2, 1) := by decide +kernel
theorem dX5_pieceOf_23 : decode cX5_pieceOf 23 = .ok (.goto 4, 3) := by decide +kernel
theorem dX5_pieceOf_26 : decode cX5_pieceOf 26 = .ok (.iconst 0, 1) := by decide +kernel
theorem dX5_pieceOf_27 : decode cX5_pieceOf 27 = .ok (.invokevirtual 72, 3) := by decide +kernel
theorem dX5_pieceOf_30 : decode cX5_pieceOf 30 = .ok (.ifCond .eq 12, 3) := by decide +kernel
theorem dX5_pieceOf_33 : decode cX5_pieceOf 33 = .ok (.aload_n 0, 1) := by decide +kernel
theorem dX5_pieceOf_34 : decode cX5_pieceOf 34 = .ok (.iload_n 1, 1) := by decide +kernel
theorem dX5_pieceOf_35 : decode cX5_pieceOf 35 = .ok (.iload_n 2, 1) := by decide +kernel
theorem dX5_pieceOf_36 : decode cX5_pieceOf 36 = .ok (.invokevirtual 121, 3) := by decide +kernel
theorem dX5_pieceOf_39 : decode cX5_pieceOf 39 = .ok (.goto 4, 3) := by decide +kernel
theorem dX5_pieceOf_42 : decode cX5_pieceOf 42 = .ok (.iconst 0, 1) := by decide +kernel
theorem dX5_pieceOf_43 : decode cX5_pieceOf 43 = .ok (.ireturn, 1) := by decide +kernel
set_option maxRecDepth 20000 in
theorem ggX5_isJoined_X5_isPiece : GoodIn wsX5_isJoined wsX5_isPiece := goodIn_r _ [5, 6, 7, 4, 8] (by decide +kernel) (by decide +kernel)
set_option maxRecDepth 20000 in
theorem gX5_isJoined_X5_isPiece : GoodIn wsX5_isJoined (va_wsS RX5 69 yX5_isPiece wsX5_isPiece) := goodIn_app (goodIn_of _ (by decide +kernel)) ggX5_isJoined_X5_isPiece
set_option maxRecDepth 20000 in
theorem ggX5_isJoined_X5_holds : GoodIn wsX5_isJoined wsX5_holds := goodIn_r _ [12, 13, 14, 15, 16, 17, 18, 19, 20, 21, 22, 23] (by decide +kernel) (by decide +kernel)
set_option maxRecDepth 20000 in
theorem gX5_isJoined_X5_holds : GoodIn wsX5_isJoined (wsV RX5 72 RX5 yX5_holds wsX5_holds) := goodIn_app (goodIn_of _ (by decide +kernel)) ggX5_isJoined_X5_holds
theorem dX5_isJoined_0 : decode cX5_isJoined 0 = .ok (.aload_n 0, 1) := by decide +kernel
theorem dX5_isJoined_1 : decode cX5_isJoined 1 = .ok (.iload_n 1, 1) := by decide +kernel
theorem dX5_isJoined_2 : decode cX5_isJoined 2 = .ok (.invokestatic 69, 3) := by decide +kernel
theorem dX5_isJoined_5 : decode cX5_isJoined 5 = .ok (.ifCond .eq 14, 3) := by decide +kernel
theorem dX5_isJoined_8 : decode cX5_isJoined 8 = .ok (.iload_n 2, 1) := by decide +kernel
theorem dX5_isJoined_9 : decode cX5_isJoined 9 = .ok (.invokestatic 69, 3) := by decide +kernel
theorem dX5_isJoined_12 : decode cX5_isJoined 12 = .ok (.ifCond .eq 7, 3) := by decide +kernel
theorem dX5_isJoined_15 : decode cX5_isJoined 15 = .ok (.iconst 0, 1) := by decide +kernel
theorem dX5_isJoined_16 : decode cX5_isJoined 16 = .ok (.goto 4, 3) := by decide +kernel
theorem dX5_isJoined_19 : decode cX5_isJoined 19 = .ok (.iconst 1, 1) := by decide +kernel
theorem dX5_isJoined_20 : decode cX5_isJoined 20 = .ok (.invokevirtual 72, 3) := by decide +kernel
theorem dX5_isJoined_23 : decode cX5_isJoined 23 = .ok (.ifCond .eq 19, 3) := by decide +kernel
theorem dX5_isJoined_26 : decode cX5_isJoined 26 = .ok (.aload_n 0, 1) := by decide +kernel
theorem dX5_isJoined_27 : decode cX5_isJoined 27 = .ok (.getfield 7, 3) := by decide +kernel
theorem dX5_isJoined_30 : decode cX5_isJoined 30 = .ok (.bipush 27, 2) := by decide +kernel
theorem dX5_isJoined_32 : decode cX5_isJoined 32 = .ok (.iload_n 1, 1) := by decide +kernel
theorem dX5_isJoined_33 : decode cX5_isJoined 33 = .ok (.iadd, 1) := by decide +kernel
theorem dX5_isJoined_34 : decode cX5_isJoined 34 = .ok (.iaload, 1) := by decide +kernel
theorem dX5_isJoined_35 : decode cX5_isJoined 35 = .ok (.iload_n 2, 1) := by decide +kernel
theorem dX5_isJoined_36 : decode cX5_isJoined 36 = .ok (.ishr, 1) := by decide +kernel
theorem dX5_isJoined_37 : decode cX5_isJoined 37 = .ok (.iconst 1, 1) := by decide +kernel
theorem dX5_isJoined_38 : decode cX5_isJoined 38 = .ok (.iand, 1) := by decide +kernel
theorem dX5_isJoined_39 : decode cX5_isJoined 39 = .ok (.goto 4, 3) := by decide +kernel
theorem dX5_isJoined_42 : decode cX5_isJoined 42 = .ok (.iconst 0, 1) := by decide +kernel
theorem dX5_isJoined_43 : decode cX5_isJoined 43 = .ok (.ireturn, 1) := by decide +kernel
set_option maxRecDepth 20000 in
theorem ggX5_note_X5_many : GoodIn wsX5_note wsX5_many := goodIn_r _ [5] (by decide +kernel) (by decide +kernel)
set_option maxRecDepth 20000 in
theorem gX5_note_X5_many : GoodIn wsX5_note (va_wsS RX5 60 yX5_many wsX5_many) := goodIn_app (goodIn_of _ (by decide +kernel)) ggX5_note_X5_many
theorem dX5_note_0 : decode cX5_note 0 = .ok (.iload_n 1, 1) := by decide +kernel
theorem dX5_note_1 : decode cX5_note 1 = .ok (.aload_n 0, 1) := by decide +kernel
theorem dX5_note_2 : decode cX5_note 2 = .ok (.getfield 7, 3) := by decide +kernel
theorem dX5_note_5 : decode cX5_note 5 = .ok (.bipush 45, 2) := by decide +kernel
theorem dX5_note_7 : decode cX5_note 7 = .ok (.iaload, 1) := by decide +kernel
theorem dX5_note_8 : decode cX5_note 8 = .ok (.if_icmp .lt 7, 3) := by decide +kernel
theorem dX5_note_11 : decode cX5_note 11 = .ok (.iconst (-1), 1) := by decide +kernel
theorem dX5_note_12 : decode cX5_note 12 = .ok (.goto 40, 3) := by decide +kernel
theorem dX5_note_15 : decode cX5_note 15 = .ok (.iload_n 2, 1) := by decide +kernel
theorem dX5_note_16 : decode cX5_note 16 = .ok (.iconst 2, 1) := by decide +kernel
theorem dX5_note_17 : decode cX5_note 17 = .ok (.if_icmp .ge 19, 3) := by decide +kernel
theorem dX5_note_20 : decode cX5_note 20 = .ok (.aload_n 0, 1) := by decide +kernel
theorem dX5_note_21 : decode cX5_note 21 = .ok (.getfield 7, 3) := by decide +kernel
theorem dX5_note_24 : decode cX5_note 24 = .ok (.bipush 46, 2) := by decide +kernel
theorem dX5_note_26 : decode cX5_note 26 = .ok (.iconst 2, 1) := by decide +kernel
theorem dX5_note_27 : decode cX5_note 27 = .ok (.iload_n 1, 1) := by decide +kernel
theorem dX5_note_28 : decode cX5_note 28 = .ok (.imul, 1) := by decide +kernel
theorem dX5_note_29 : decode cX5_note 29 = .ok (.iadd, 1) := by decide +kernel
theorem dX5_note_30 : decode cX5_note 30 = .ok (.iload_n 2, 1) := by decide +kernel
theorem dX5_note_31 : decode cX5_note 31 = .ok (.iadd, 1) := by decide +kernel
theorem dX5_note_32 : decode cX5_note 32 = .ok (.iaload, 1) := by decide +kernel
theorem dX5_note_33 : decode cX5_note 33 = .ok (.goto 19, 3) := by decide +kernel
theorem dX5_note_36 : decode cX5_note 36 = .ok (.aload_n 0, 1) := by decide +kernel
theorem dX5_note_37 : decode cX5_note 37 = .ok (.getfield 7, 3) := by decide +kernel
theorem dX5_note_40 : decode cX5_note 40 = .ok (.bipush 46, 2) := by decide +kernel
theorem dX5_note_42 : decode cX5_note 42 = .ok (.iconst 2, 1) := by decide +kernel
theorem dX5_note_43 : decode cX5_note 43 = .ok (.iload_n 1, 1) := by decide +kernel
theorem dX5_note_44 : decode cX5_note 44 = .ok (.imul, 1) := by decide +kernel
theorem dX5_note_45 : decode cX5_note 45 = .ok (.iadd, 1) := by decide +kernel
theorem dX5_note_46 : decode cX5_note 46 = .ok (.iconst 1, 1) := by decide +kernel
theorem dX5_note_47 : decode cX5_note 47 = .ok (.iadd, 1) := by decide +kernel
theorem dX5_note_48 : decode cX5_note 48 = .ok (.iaload, 1) := by decide +kernel
theorem dX5_note_49 : decode cX5_note 49 = .ok (.invokestatic 60, 3) := by decide +kernel
theorem dX5_note_52 : decode cX5_note 52 = .ok (.ireturn, 1) := by decide +kernel
set_option maxRecDepth 20000 in
theorem ggX5_noted_X5_in : GoodIn wsX5_noted wsX5_in := goodIn_r _ [4] (by decide +kernel) (by decide +kernel)
set_option maxRecDepth 20000 in
theorem gX5_noted_X5_in : GoodIn wsX5_noted (va_wsS RX5 33 yX5_in wsX5_in) := goodIn_app (goodIn_of _ (by decide +kernel)) ggX5_noted_X5_in
set_option maxRecDepth 20000 in
theorem ggX5_noted_X5_holds : GoodIn wsX5_noted wsX5_holds := goodIn_r _ [8, 9, 18, 19, 20, 21, 22, 23, 24, 25, 26, 27] (by decide +kernel) (by decide +kernel)
set_option maxRecDepth 20000 in
theorem gX5_noted_X5_holds : GoodIn wsX5_noted (wsV RX5 72 RX5 yX5_holds wsX5_holds) := goodIn_app (goodIn_of _ (by decide +kernel)) ggX5_noted_X5_holds
set_option maxRecDepth 20000 in
theorem ggX5_noted_X5_note : GoodIn wsX5_noted wsX5_note := goodIn_r _ [13, 14, 15, 16, 3, 17, 18, 19, 20, 21, 22, 23, 24, 25, 26, 27] (by decide +kernel) (by decide +kernel)
set_option maxRecDepth 20000 in
theorem gX5_noted_X5_note : GoodIn wsX5_noted (wsV RX5 124 RX5 yX5_note wsX5_note) := goodIn_app (goodIn_of _ (by decide +kernel)) ggX5_noted_X5_note
theorem dX5_noted_0 : decode cX5_noted 0 = .ok (.aload_n 0, 1) := by decide +kernel
theorem dX5_noted_1 : decode cX5_noted 1 = .ok (.iload_n 1, 1) := by decide +kernel
theorem dX5_noted_2 : decode cX5_noted 2 = .ok (.ifCond .lt 16, 3) := by decide +kernel
theorem dX5_noted_5 : decode cX5_noted 5 = .ok (.iload_n 2, 1) := by decide +kernel
theorem dX5_noted_6 : decode cX5_noted 6 = .ok (.iconst 0, 1) := by decide +kernel
theorem dX5_noted_7 : decode cX5_noted 7 = .ok (.iconst 2, 1) := by decide +kernel
theorem dX5_noted_8 : decode cX5_noted 8 = .ok (.invokestatic 33, 3) := by decide +kernel
theorem dX5_noted_11 : decode cX5_noted 11 = .ok (.ifCond .eq 7, 3) := by decide +kernel
theorem dX5_noted_14 : decode cX5_noted 14 = .ok (.iconst 0, 1) := by decide +kernel
theorem dX5_noted_15 : decode cX5_noted 15 = .ok (.goto 4, 3) := by decide +kernel
theorem dX5_noted_18 : decode cX5_noted 18 = .ok (.iconst 1, 1) := by decide +kernel
theorem dX5_noted_19 : decode cX5_noted 19 = .ok (.invokevirtual 72, 3) := by decide +kernel
theorem dX5_noted_22 : decode cX5_noted 22 = .ok (.ifCond .eq 12, 3) := by decide +kernel
theorem dX5_noted_25 : decode cX5_noted 25 = .ok (.aload_n 0, 1) := by decide +kernel
theorem dX5_noted_26 : decode cX5_noted 26 = .ok (.iload_n 1, 1) := by decide +kernel
theorem dX5_noted_27 : decode cX5_noted 27 = .ok (.iload_n 2, 1) := by decide +kernel
theorem dX5_noted_28 : decode cX5_noted 28 = .ok (.invokevirtual 124, 3) := by decide +kernel
theorem dX5_noted_31 : decode cX5_noted 31 = .ok (.goto 4, 3) := by decide +kernel
theorem dX5_noted_34 : decode cX5_noted 34 = .ok (.iconst 0, 1) := by decide +kernel
theorem dX5_noted_35 : decode cX5_noted 35 = .ok (.ireturn, 1) := by decide +kernel
theorem dX5_sum_0 : decode cX5_sum 0 = .ok (.iconst 0, 1) := by decide +kernel
theorem dX5_sum_1 : decode cX5_sum 1 = .ok (.istore_n 2, 1) := by decide +kernel
theorem dX5_sum_2 : decode cX5_sum 2 = .ok (.iconst 0, 1) := by decide +kernel
theorem dX5_sum_3 : decode cX5_sum 3 = .ok (.istore_n 3, 1) := by decide +kernel
theorem dX5_sum_4 : decode cX5_sum 4 = .ok (.iload_n 3, 1) := by decide +kernel
theorem dX5_sum_5 : decode cX5_sum 5 = .ok (.bipush 9, 2) := by decide +kernel
theorem dX5_sum_7 : decode cX5_sum 7 = .ok (.if_icmp .ge 20, 3) := by decide +kernel
theorem dX5_sum_10 : decode cX5_sum 10 = .ok (.iload_n 2, 1) := by decide +kernel
theorem dX5_sum_11 : decode cX5_sum 11 = .ok (.aload_n 0, 1) := by decide +kernel
theorem dX5_sum_12 : decode cX5_sum 12 = .ok (.getfield 7, 3) := by decide +kernel
theorem dX5_sum_15 : decode cX5_sum 15 = .ok (.iload_n 1, 1) := by decide +kernel
theorem dX5_sum_16 : decode cX5_sum 16 = .ok (.iload_n 3, 1) := by decide +kernel
theorem dX5_sum_17 : decode cX5_sum 17 = .ok (.iadd, 1) := by decide +kernel
theorem dX5_sum_18 : decode cX5_sum 18 = .ok (.iaload, 1) := by decide +kernel
theorem dX5_sum_19 : decode cX5_sum 19 = .ok (.iadd, 1) := by decide +kernel
theorem dX5_sum_20 : decode cX5_sum 20 = .ok (.istore_n 2, 1) := by decide +kernel
theorem dX5_sum_21 : decode cX5_sum 21 = .ok (.iinc 3 1, 3) := by decide +kernel
theorem dX5_sum_24 : decode cX5_sum 24 = .ok (.goto (-20), 3) := by decide +kernel
theorem dX5_sum_27 : decode cX5_sum 27 = .ok (.iload_n 2, 1) := by decide +kernel
theorem dX5_sum_28 : decode cX5_sum 28 = .ok (.ireturn, 1) := by decide +kernel
set_option maxRecDepth 20000 in
theorem ggX5_counted_X5_joins : GoodIn wsX5_counted wsX5_joins := goodIn_r _ [7, 1, 8, 9, 6, 10, 35, 36, 37, 38, 39, 40, 41, 42, 43, 44] (by decide +kernel) (by decide +kernel)
set_option maxRecDepth 20000 in
theorem gX5_counted_X5_joins : GoodIn wsX5_counted (wsV RX5 111 RX5 yX5_joins wsX5_joins) := goodIn_app (goodIn_of _ (by decide +kernel)) ggX5_counted_X5_joins
set_option maxRecDepth 20000 in
theorem ggX5_counted_X5_sum : GoodIn wsX5_counted wsX5_sum := goodIn_r _ [14, 1, 35, 36, 37, 38, 39, 40, 41, 42, 43, 44] (by decide +kernel) (by decide +kernel)
set_option maxRecDepth 20000 in
theorem gX5_counted_X5_sum : GoodIn wsX5_counted (wsV RX5 127 RX5 yX5_sum wsX5_sum) := goodIn_app (goodIn_of _ (by decide +kernel)) ggX5_counted_X5_sum
set_option maxRecDepth 20000 in
theorem ggX5_counted_X5_ways : GoodIn wsX5_counted wsX5_ways := goodIn_r _ [18, 19, 20, 21, 6, 22, 1, 23, 24, 25, 26, 35, 36, 37, 38, 39, 40, 41, 42, 43, 44] (by decide +kernel) (by decide +kernel)
set_option maxRecDepth 20000 in
theorem gX5_counted_X5_ways : GoodIn wsX5_counted (wsV RX5 117 RX5 yX5_ways wsX5_ways) := goodIn_app (goodIn_of _ (by decide +kernel)) ggX5_counted_X5_ways
set_option maxRecDepth 20000 in
theorem ggX5_counted_X5_rows : GoodIn wsX5_counted wsX5_rows := goodIn_r _ [30, 31, 32, 33, 6, 34, 1, 8, 9, 10, 35, 36, 37, 38, 39, 40, 41, 42, 43, 44] (by decide +kernel) (by decide +kernel)
set_option maxRecDepth 20000 in
theorem gX5_counted_X5_rows : GoodIn wsX5_counted (wsV RX5 130 RX5 yX5_rows wsX5_rows) := goodIn_app (goodIn_of _ (by decide +kernel)) ggX5_counted_X5_rows
theorem dX5_counted_0 : decode cX5_counted 0 = .ok (.iload_n 1, 1) := by decide +kernel
theorem dX5_counted_1 : decode cX5_counted 1 = .ok (.tableswitch 120 0 10 #[59, 64, 70, 77, 85, 85, 85, 102, 102, 107, 107], 59) := by decide +kernel
theorem dX5_counted_60 : decode cX5_counted 60 = .ok (.aload_n 0, 1) := by decide +kernel
theorem dX5_counted_61 : decode cX5_counted 61 = .ok (.invokevirtual 111, 3) := by decide +kernel
theorem dX5_counted_64 : decode cX5_counted 64 = .ok (.ireturn, 1) := by decide +kernel
theorem dX5_counted_65 : decode cX5_counted 65 = .ok (.aload_n 0, 1) := by decide +kernel
theorem dX5_counted_66 : decode cX5_counted 66 = .ok (.iconst 0, 1) := by decide +kernel
theorem dX5_counted_67 : decode cX5_counted 67 = .ok (.invokevirtual 127, 3) := by decide +kernel
theorem dX5_counted_70 : decode cX5_counted 70 = .ok (.ireturn, 1) := by decide +kernel
theorem dX5_counted_71 : decode cX5_counted 71 = .ok (.aload_n 0, 1) := by decide +kernel
theorem dX5_counted_72 : decode cX5_counted 72 = .ok (.bipush 9, 2) := by decide +kernel
theorem dX5_counted_74 : decode cX5_counted 74 = .ok (.invokevirtual 127, 3) := by decide +kernel
theorem dX5_counted_77 : decode cX5_counted 77 = .ok (.ireturn, 1) := by decide +kernel
theorem dX5_counted_78 : decode cX5_counted 78 = .ok (.aload_n 0, 1) := by decide +kernel
theorem dX5_counted_79 : decode cX5_counted 79 = .ok (.getfield 7, 3) := by decide +kernel
theorem dX5_counted_82 : decode cX5_counted 82 = .ok (.bipush 45, 2) := by decide +kernel
theorem dX5_counted_84 : decode cX5_counted 84 = .ok (.iaload, 1) := by decide +kernel
theorem dX5_counted_85 : decode cX5_counted 85 = .ok (.ireturn, 1) := by decide +kernel
theorem dX5_counted_86 : decode cX5_counted 86 = .ok (.aload_n 0, 1) := by decide +kernel
theorem dX5_counted_87 : decode cX5_counted 87 = .ok (.iconst 0, 1) := by decide +kernel
theorem dX5_counted_88 : decode cX5_counted 88 = .ok (.iload_n 1, 1) := by decide +kernel
theorem dX5_counted_89 : decode cX5_counted 89 = .ok (.bipush 6, 2) := by decide +kernel
theorem dX5_counted_91 : decode cX5_counted 91 = .ok (.if_icmp .ne 7, 3) := by decide +kernel
theorem dX5_counted_94 : decode cX5_counted 94 = .ok (.iconst 1, 1) := by decide +kernel
theorem dX5_counted_95 : decode cX5_counted 95 = .ok (.goto 4, 3) := by decide +kernel
theorem dX5_counted_98 : decode cX5_counted 98 = .ok (.iconst 0, 1) := by decide +kernel
theorem dX5_counted_99 : decode cX5_counted 99 = .ok (.invokevirtual 117, 3) := by decide +kernel
theorem dX5_counted_102 : decode cX5_counted 102 = .ok (.ireturn, 1) := by decide +kernel
theorem dX5_counted_103 : decode cX5_counted 103 = .ok (.aload_n 0, 1) := by decide +kernel
theorem dX5_counted_104 : decode cX5_counted 104 = .ok (.invokevirtual 130, 3) := by decide +kernel
theorem dX5_counted_107 : decode cX5_counted 107 = .ok (.ireturn, 1) := by decide +kernel
theorem dX5_counted_108 : decode cX5_counted 108 = .ok (.aload_n 0, 1) := by decide +kernel
theorem dX5_counted_109 : decode cX5_counted 109 = .ok (.getfield 7, 3) := by decide +kernel
theorem dX5_counted_112 : decode cX5_counted 112 = .ok (.bipush 70, 2) := by decide +kernel
theorem dX5_counted_114 : decode cX5_counted 114 = .ok (.iload_n 1, 1) := by decide +kernel
theorem dX5_counted_115 : decode cX5_counted 115 = .ok (.iadd, 1) := by decide +kernel
theorem dX5_counted_116 : decode cX5_counted 116 = .ok (.bipush 9, 2) := by decide +kernel
theorem dX5_counted_118 : decode cX5_counted 118 = .ok (.isub, 1) := by decide +kernel
theorem dX5_counted_119 : decode cX5_counted 119 = .ok (.iaload, 1) := by decide +kernel
theorem dX5_counted_120 : decode cX5_counted 120 = .ok (.ireturn, 1) := by decide +kernel
theorem dX5_counted_121 : decode cX5_counted 121 = .ok (.aload_n 0, 1) := by decide +kernel
theorem dX5_counted_122 : decode cX5_counted 122 = .ok (.getfield 37, 3) := by decide +kernel
theorem dX5_counted_125 : decode cX5_counted 125 = .ok (.ireturn, 1) := by decide +kernel
set_option maxRecDepth 20000 in
theorem ggX5_count_X5_in : GoodIn wsX5_count wsX5_in := goodIn_r _ [4] (by decide +kernel) (by decide +kernel)
set_option maxRecDepth 20000 in
theorem gX5_count_X5_in : GoodIn wsX5_count (va_wsS RX5 33 yX5_in wsX5_in) := goodIn_app (goodIn_of _ (by decide +kernel)) ggX5_count_X5_in
set_option maxRecDepth 20000 in
theorem ggX5_count_X5_holds : GoodIn wsX5_count wsX5_holds := goodIn_r _ [8, 9, 47, 48, 49, 50, 51, 52, 53, 54, 55, 56] (by decide +kernel) (by decide +kernel)
set_option maxRecDepth 20000 in
theorem gX5_count_X5_holds : GoodIn wsX5_count (wsV RX5 72 RX5 yX5_holds wsX5_holds) := goodIn_app (goodIn_of _ (by decide +kernel)) ggX5_count_X5_holds
set_option maxRecDepth 20000 in
theorem ggX5_count_X5_counted : GoodIn wsX5_count wsX5_counted := goodIn_r _ [13, 14, 15, 16, 17, 18, 3, 19, 20, 21, 22, 23, 24, 25, 26, 27, 28, 29, 30, 31, 32, 33, 34, 35, 36, 37, 38, 39, 40, 41, 42, 43, 44, 45, 46, 47, 48, 49, 50, 51, 52, 53, 54, 55, 56] (by decide +kernel) (by decide +kernel)
set_option maxRecDepth 20000 in
theorem gX5_count_X5_counted : GoodIn wsX5_count (wsV RX5 133 RX5 yX5_counted wsX5_counted) := goodIn_app (goodIn_of _ (by decide +kernel)) ggX5_count_X5_counted
theorem dX5_count_0 : decode cX5_count 0 = .ok (.aload_n 0, 1) := by decide +kernel
theorem dX5_count_1 : decode cX5_count 1 = .ok (.iload_n 1, 1) := by decide +kernel
theorem dX5_count_2 : decode cX5_count 2 = .ok (.iconst 0, 1) := by decide +kernel
theorem dX5_count_3 : decode cX5_count 3 = .ok (.bipush 11, 2) := by decide +kernel
theorem dX5_count_5 : decode cX5_count 5 = .ok (.invokestatic 33, 3) := by decide +kernel
theorem dX5_count_8 : decode cX5_count 8 = .ok (.ifCond .eq 7, 3) := by decide +kernel
theorem dX5_count_11 : decode cX5_count 11 = .ok (.iconst 0, 1) := by decide +kernel
theorem dX5_count_12 : decode cX5_count 12 = .ok (.goto 4, 3) := by decide +kernel
theorem dX5_count_15 : decode cX5_count 15 = .ok (.iconst 1, 1) := by decide +kernel
theorem dX5_count_16 : decode cX5_count 16 = .ok (.invokevirtual 72, 3) := by decide +kernel
theorem dX5_count_19 : decode cX5_count 19 = .ok (.ifCond .eq 11, 3) := by decide +kernel
theorem dX5_count_22 : decode cX5_count 22 = .ok (.aload_n 0, 1) := by decide +kernel
theorem dX5_count_23 : decode cX5_count 23 = .ok (.iload_n 1, 1) := by decide +kernel
theorem dX5_count_24 : decode cX5_count 24 = .ok (.invokevirtual 133, 3) := by decide +kernel
theorem dX5_count_27 : decode cX5_count 27 = .ok (.goto 4, 3) := by decide +kernel
theorem dX5_count_30 : decode cX5_count 30 = .ok (.iconst 0, 1) := by decide +kernel
theorem dX5_count_31 : decode cX5_count 31 = .ok (.ireturn, 1) := by decide +kernel
set_option maxRecDepth 20000 in
theorem ggX5_heavy_X5_heaviestWay : GoodIn wsX5_heavy wsX5_heaviestWay := goodIn_r _ [5, 6, 7, 8, 4, 9, 10, 11, 12, 13, 14, 15, 16, 17, 18, 19, 20, 21, 22, 23, 24, 25, 26, 27, 28, 29, 30, 31, 32, 33, 34] (by decide +kernel) (by decide +kernel)
set_option maxRecDepth 20000 in
theorem gX5_heavy_X5_heaviestWay : GoodIn wsX5_heavy (wsV RX5 79 RX5 yX5_heaviestWay wsX5_heaviestWay) := goodIn_app (goodIn_of _ (by decide +kernel)) ggX5_heavy_X5_heaviestWay
set_option maxRecDepth 20000 in
theorem ggX5_heavy_X5_weight : GoodIn wsX5_heavy wsX5_weight := goodIn_r _ [18, 10, 25, 26, 27, 28, 29, 30, 31, 32, 33, 34] (by decide +kernel) (by decide +kernel)
set_option maxRecDepth 20000 in
theorem gX5_heavy_X5_weight : GoodIn wsX5_heavy (wsV RX5 51 RX5 yX5_weight wsX5_weight) := goodIn_app (goodIn_of _ (by decide +kernel)) ggX5_heavy_X5_weight
theorem dX5_heavy_0 : decode cX5_heavy 0 = .ok (.aload_n 0, 1) := by decide +kernel
theorem dX5_heavy_1 : decode cX5_heavy 1 = .ok (.invokevirtual 79, 3) := by decide +kernel
theorem dX5_heavy_4 : decode cX5_heavy 4 = .ok (.istore_n 2, 1) := by decide +kernel
theorem dX5_heavy_5 : decode cX5_heavy 5 = .ok (.iload_n 2, 1) := by decide +kernel
theorem dX5_heavy_6 : decode cX5_heavy 6 = .ok (.ifCond .ne 7, 3) := by decide +kernel
theorem dX5_heavy_9 : decode cX5_heavy 9 = .ok (.iconst (-1), 1) := by decide +kernel
theorem dX5_heavy_10 : decode cX5_heavy 10 = .ok (.goto 16, 3) := by decide +kernel
theorem dX5_heavy_13 : decode cX5_heavy 13 = .ok (.iload_n 1, 1) := by decide +kernel
theorem dX5_heavy_14 : decode cX5_heavy 14 = .ok (.ifCond .ne 11, 3) := by decide +kernel
theorem dX5_heavy_17 : decode cX5_heavy 17 = .ok (.aload_n 0, 1) := by decide +kernel
theorem dX5_heavy_18 : decode cX5_heavy 18 = .ok (.iload_n 2, 1) := by decide +kernel
theorem dX5_heavy_19 : decode cX5_heavy 19 = .ok (.invokevirtual 51, 3) := by decide +kernel
theorem dX5_heavy_22 : decode cX5_heavy 22 = .ok (.goto 4, 3) := by decide +kernel
theorem dX5_heavy_25 : decode cX5_heavy 25 = .ok (.iload_n 2, 1) := by decide +kernel
theorem dX5_heavy_26 : decode cX5_heavy 26 = .ok (.ireturn, 1) := by decide +kernel
set_option maxRecDepth 20000 in
theorem ggX5_heaviest_X5_in : GoodIn wsX5_heaviest wsX5_in := goodIn_r _ [4] (by decide +kernel) (by decide +kernel)
set_option maxRecDepth 20000 in
theorem gX5_heaviest_X5_in : GoodIn wsX5_heaviest (va_wsS RX5 33 yX5_in wsX5_in) := goodIn_app (goodIn_of _ (by decide +kernel)) ggX5_heaviest_X5_in
set_option maxRecDepth 20000 in
theorem ggX5_heaviest_X5_holds : GoodIn wsX5_heaviest wsX5_holds := goodIn_r _ [8, 9, 37, 38, 39, 40, 41, 42, 43, 44, 45, 46] (by decide +kernel) (by decide +kernel)
set_option maxRecDepth 20000 in
theorem gX5_heaviest_X5_holds : GoodIn wsX5_heaviest (wsV RX5 72 RX5 yX5_holds wsX5_holds) := goodIn_app (goodIn_of _ (by decide +kernel)) ggX5_heaviest_X5_holds
set_option maxRecDepth 20000 in
theorem ggX5_heaviest_X5_heavy : GoodIn wsX5_heaviest wsX5_heavy := goodIn_r _ [13, 14, 15, 16, 3, 17, 18, 19, 20, 21, 22, 23, 24, 25, 26, 27, 28, 29, 30, 31, 32, 33, 34, 35, 36, 37, 38, 39, 40, 41, 42, 43, 44, 45, 46] (by decide +kernel) (by decide +kernel)
set_option maxRecDepth 20000 in
theorem gX5_heaviest_X5_heavy : GoodIn wsX5_heaviest (wsV RX5 136 RX5 yX5_heavy wsX5_heavy) := goodIn_app (goodIn_of _ (by decide +kernel)) ggX5_heaviest_X5_heavy
theorem dX5_heaviest_0 : decode cX5_heaviest 0 = .ok (.aload_n 0, 1) := by decide +kernel
theorem dX5_heaviest_1 : decode cX5_heaviest 1 = .ok (.iload_n 1, 1) := by decide +kernel
theorem dX5_heaviest_2 : decode cX5_heaviest 2 = .ok (.iconst 0, 1) := by decide +kernel
theorem dX5_heaviest_3 : decode cX5_heaviest 3 = .ok (.iconst 1, 1) := by decide +kernel
theorem dX5_heaviest_4 : decode cX5_heaviest 4 = .ok (.invokestatic 33, 3) := by decide +kernel
theorem dX5_heaviest_7 : decode cX5_heaviest 7 = .ok (.ifCond .eq 7, 3) := by decide +kernel
theorem dX5_heaviest_10 : decode cX5_heaviest 10 = .ok (.iconst 0, 1) := by decide +kernel
theorem dX5_heaviest_11 : decode cX5_heaviest 11 = .ok (.goto 4, 3) := by decide +kernel
theorem dX5_heaviest_14 : decode cX5_heaviest 14 = .ok (.iconst 1, 1) := by decide +kernel
theorem dX5_heaviest_15 : decode cX5_heaviest 15 = .ok (.invokevirtual 72, 3) := by decide +kernel
theorem dX5_heaviest_18 : decode cX5_heaviest 18 = .ok (.ifCond .eq 11, 3) := by decide +kernel
theorem dX5_heaviest_21 : decode cX5_heaviest 21 = .ok (.aload_n 0, 1) := by decide +kernel
theorem dX5_heaviest_22 : decode cX5_heaviest 22 = .ok (.iload_n 1, 1) := by decide +kernel
theorem dX5_heaviest_23 : decode cX5_heaviest 23 = .ok (.invokevirtual 136, 3) := by decide +kernel
theorem dX5_heaviest_26 : decode cX5_heaviest 26 = .ok (.goto 4, 3) := by decide +kernel
theorem dX5_heaviest_29 : decode cX5_heaviest 29 = .ok (.iconst 0, 1) := by decide +kernel
theorem dX5_heaviest_30 : decode cX5_heaviest 30 = .ok (.ireturn, 1) := by decide +kernel
set_option maxRecDepth 20000 in
theorem ggX5_openAt_X5_isOpen : GoodIn wsX5_openAt wsX5_isOpen := goodIn_r _ [5, 6, 7, 8, 9, 4, 10, 17, 18, 19, 20, 21, 22, 23, 24, 25, 26] (by decide +kernel) (by decide +kernel)
set_option maxRecDepth 20000 in
theorem gX5_openAt_X5_isOpen : GoodIn wsX5_openAt (wsV RX5 48 RX5 yX5_isOpen wsX5_isOpen) := goodIn_app (goodIn_of _ (by decide +kernel)) ggX5_openAt_X5_isOpen
set_option maxRecDepth 20000 in
theorem ggX5_openAt_X5_next : GoodIn wsX5_openAt wsX5_next := goodIn_r _ [13, 14, 15, 4, 16] (by decide +kernel) (by decide +kernel)
set_option maxRecDepth 20000 in
theorem gX5_openAt_X5_next : GoodIn wsX5_openAt (va_wsS RX5 54 yX5_next wsX5_next) := goodIn_app (goodIn_of _ (by decide +kernel)) ggX5_openAt_X5_next
theorem dX5_openAt_0 : decode cX5_openAt 0 = .ok (.iconst 0, 1) := by decide +kernel
theorem dX5_openAt_1 : decode cX5_openAt 1 = .ok (.istore_n 2, 1) := by decide +kernel
theorem dX5_openAt_2 : decode cX5_openAt 2 = .ok (.iconst 1, 1) := by decide +kernel
theorem dX5_openAt_3 : decode cX5_openAt 3 = .ok (.istore_n 3, 1) := by decide +kernel
theorem dX5_openAt_4 : decode cX5_openAt 4 = .ok (.iload_n 3, 1) := by decide +kernel
theorem dX5_openAt_5 : decode cX5_openAt 5 = .ok (.ifCond .le 29, 3) := by decide +kernel
theorem dX5_openAt_8 : decode cX5_openAt 8 = .ok (.aload_n 0, 1) := by decide +kernel
theorem dX5_openAt_9 : decode cX5_openAt 9 = .ok (.iload_n 3, 1) := by decide +kernel
theorem dX5_openAt_10 : decode cX5_openAt 10 = .ok (.invokevirtual 48, 3) := by decide +kernel
theorem dX5_openAt_13 : decode cX5_openAt 13 = .ok (.ifCond .eq 13, 3) := by decide +kernel
theorem dX5_openAt_16 : decode cX5_openAt 16 = .ok (.iload_n 2, 1) := by decide +kernel
theorem dX5_openAt_17 : decode cX5_openAt 17 = .ok (.iload_n 1, 1) := by decide +kernel
theorem dX5_openAt_18 : decode cX5_openAt 18 = .ok (.if_icmp .ne 5, 3) := by decide +kernel
theorem dX5_openAt_21 : decode cX5_openAt 21 = .ok (.iload_n 3, 1) := by decide +kernel
theorem dX5_openAt_22 : decode cX5_openAt 22 = .ok (.ireturn, 1) := by decide +kernel
theorem dX5_openAt_23 : decode cX5_openAt 23 = .ok (.iinc 2 1, 3) := by decide +kernel
theorem dX5_openAt_26 : decode cX5_openAt 26 = .ok (.iload_n 3, 1) := by decide +kernel
theorem dX5_openAt_27 : decode cX5_openAt 27 = .ok (.invokestatic 54, 3) := by decide +kernel
theorem dX5_openAt_30 : decode cX5_openAt 30 = .ok (.istore_n 3, 1) := by decide +kernel
theorem dX5_openAt_31 : decode cX5_openAt 31 = .ok (.goto (-27), 3) := by decide +kernel
theorem dX5_openAt_34 : decode cX5_openAt 34 = .ok (.iconst (-1), 1) := by decide +kernel
theorem dX5_openAt_35 : decode cX5_openAt 35 = .ok (.ireturn, 1) := by decide +kernel
set_option maxRecDepth 20000 in
theorem ggX5_openWay_X5_holds : GoodIn wsX5_openWay wsX5_holds := goodIn_r _ [5, 6, 26, 27, 28, 29, 30, 31, 32, 33, 34, 35] (by decide +kernel) (by decide +kernel)
set_option maxRecDepth 20000 in
theorem gX5_openWay_X5_holds : GoodIn wsX5_openWay (wsV RX5 72 RX5 yX5_holds wsX5_holds) := goodIn_app (goodIn_of _ (by decide +kernel)) ggX5_openWay_X5_holds
set_option maxRecDepth 20000 in
theorem ggX5_openWay_X5_openAt : GoodIn wsX5_openWay wsX5_openAt := goodIn_r _ [10, 11, 12, 13, 4, 14, 15, 16, 17, 18, 19, 20, 21, 22, 23, 24, 25, 26, 27, 28, 29, 30, 31, 32, 33, 34, 35] (by decide +kernel) (by decide +kernel)
set_option maxRecDepth 20000 in
theorem gX5_openWay_X5_openAt : GoodIn wsX5_openWay (wsV RX5 139 RX5 yX5_openAt wsX5_openAt) := goodIn_app (goodIn_of _ (by decide +kernel)) ggX5_openWay_X5_openAt
theorem dX5_openWay_0 : decode cX5_openWay 0 = .ok (.aload_n 0, 1) := by decide +kernel
theorem dX5_openWay_1 : decode cX5_openWay 1 = .ok (.iload_n 1, 1) := by decide +kernel
theorem dX5_openWay_2 : decode cX5_openWay 2 = .ok (.ifCond .lt 7, 3) := by decide +kernel
theorem dX5_openWay_5 : decode cX5_openWay 5 = .ok (.iconst 0, 1) := by decide +kernel
theorem dX5_openWay_6 : decode cX5_openWay 6 = .ok (.goto 4, 3) := by decide +kernel
theorem dX5_openWay_9 : decode cX5_openWay 9 = .ok (.iconst 1, 1) := by decide +kernel
theorem dX5_openWay_10 : decode cX5_openWay 10 = .ok (.invokevirtual 72, 3) := by decide +kernel
theorem dX5_openWay_13 : decode cX5_openWay 13 = .ok (.ifCond .eq 11, 3) := by decide +kernel
theorem dX5_openWay_16 : decode cX5_openWay 16 = .ok (.aload_n 0, 1) := by decide +kernel
theorem dX5_openWay_17 : decode cX5_openWay 17 = .ok (.iload_n 1, 1) := by decide +kernel
theorem dX5_openWay_18 : decode cX5_openWay 18 = .ok (.invokevirtual 139, 3) := by decide +kernel
theorem dX5_openWay_21 : decode cX5_openWay 21 = .ok (.goto 4, 3) := by decide +kernel
theorem dX5_openWay_24 : decode cX5_openWay 24 = .ok (.iconst 0, 1) := by decide +kernel
theorem dX5_openWay_25 : decode cX5_openWay 25 = .ok (.ireturn, 1) := by decide +kernel
set_option maxRecDepth 20000 in
theorem ggX5_unexplained_X5_putAside : GoodIn wsX5_unexplained wsX5_putAside := goodIn_r _ [5, 6, 7, 46, 47, 48, 49, 50, 51, 52, 53, 54, 55] (by decide +kernel) (by decide +kernel)
set_option maxRecDepth 20000 in
theorem gX5_unexplained_X5_putAside : GoodIn wsX5_unexplained (wsV RX5 142 RX5 yX5_putAside wsX5_putAside) := goodIn_app (goodIn_of _ (by decide +kernel)) ggX5_unexplained_X5_putAside
set_option maxRecDepth 20000 in
theorem ggX5_unexplained_X5_splits : GoodIn wsX5_unexplained wsX5_splits := goodIn_r _ [11, 12, 13, 14, 4, 15, 7, 16, 17, 18, 19, 20, 21, 22, 23, 24, 25, 26, 27, 28, 29, 30, 31, 32, 33, 34, 35, 36, 37, 46, 47, 48, 49, 50, 51, 52, 53, 54, 55] (by decide +kernel) (by decide +kernel)
set_option maxRecDepth 20000 in
theorem gX5_unexplained_X5_splits : GoodIn wsX5_unexplained (wsV RX5 86 RX5 yX5_splits wsX5_splits) := goodIn_app (goodIn_of _ (by decide +kernel)) ggX5_unexplained_X5_splits
set_option maxRecDepth 20000 in
theorem ggX5_unexplained_X5_sum : GoodIn wsX5_unexplained wsX5_sum := goodIn_r _ [41, 7, 46, 47, 48, 49, 50, 51, 52, 53, 54, 55] (by decide +kernel) (by decide +kernel)
set_option maxRecDepth 20000 in
theorem gX5_unexplained_X5_sum : GoodIn wsX5_unexplained (wsV RX5 127 RX5 yX5_sum wsX5_sum) := goodIn_app (goodIn_of _ (by decide +kernel)) ggX5_unexplained_X5_sum
set_option maxRecDepth 20000 in
theorem ggX5_unexplained_X5_putBack : GoodIn wsX5_unexplained wsX5_putBack := goodIn_r _ [45, 7, 6, 46, 47, 48, 49, 50, 51, 52, 53, 54, 55] (by decide +kernel) (by decide +kernel)
set_option maxRecDepth 20000 in
theorem gX5_unexplained_X5_putBack : GoodIn wsX5_unexplained (wsV RX5 145 RX5 yX5_putBack wsX5_putBack) := goodIn_app (goodIn_of _ (by decide +kernel)) ggX5_unexplained_X5_putBack
theorem dX5_unexplained_0 : decode cX5_unexplained 0 = .ok (.aload_n 0, 1) := by decide +kernel
theorem dX5_unexplained_1 : decode cX5_unexplained 1 = .ok (.invokevirtual 142, 3) := by decide +kernel
theorem dX5_unexplained_4 : decode cX5_unexplained 4 = .ok (.aload_n 0, 1) := by decide +kernel
theorem dX5_unexplained_5 : decode cX5_unexplained 5 = .ok (.invokevirtual 86, 3) := by decide +kernel
theorem dX5_unexplained_8 : decode cX5_unexplained 8 = .ok (.istore_n 1, 1) := by decide +kernel
theorem dX5_unexplained_9 : decode cX5_unexplained 9 = .ok (.aload_n 0, 1) := by decide +kernel
theorem dX5_unexplained_10 : decode cX5_unexplained 10 = .ok (.bipush 9, 2) := by decide +kernel
theorem dX5_unexplained_12 : decode cX5_unexplained 12 = .ok (.invokevirtual 127, 3) := by decide +kernel
theorem dX5_unexplained_15 : decode cX5_unexplained 15 = .ok (.istore_n 2, 1) := by decide +kernel
theorem dX5_unexplained_16 : decode cX5_unexplained 16 = .ok (.aload_n 0, 1) := by decide +kernel
theorem dX5_unexplained_17 : decode cX5_unexplained 17 = .ok (.invokevirtual 145, 3) := by decide +kernel
theorem dX5_unexplained_20 : decode cX5_unexplained 20 = .ok (.iload_n 2, 1) := by decide +kernel
theorem dX5_unexplained_21 : decode cX5_unexplained 21 = .ok (.ireturn, 1) := by decide +kernel
set_option maxRecDepth 20000 in
theorem ggX5_ifSplit_X5_unexplained : GoodIn wsX5_ifSplit wsX5_unexplained := goodIn_r _ [6, 7, 8, 9, 5, 10, 11, 12, 13, 14, 15, 16, 17, 18, 19, 20, 21, 22, 23, 24, 25, 26, 27, 28, 29, 30, 31, 32, 33, 34, 35, 36, 37, 38, 39, 40, 41, 42, 43, 44, 45, 46, 47, 48, 49, 50, 51, 52, 53, 54, 55, 56, 57, 58, 59, 60] (by decide +kernel) (by decide +kernel)
set_option maxRecDepth 20000 in
theorem gX5_ifSplit_X5_unexplained : GoodIn wsX5_ifSplit (wsV RX5 148 RX5 yX5_unexplained wsX5_unexplained) := goodIn_app (goodIn_of _ (by decide +kernel)) ggX5_ifSplit_X5_unexplained
theorem dX5_ifSplit_0 : decode cX5_ifSplit 0 = .ok (.aload_n 0, 1) := by decide +kernel
theorem dX5_ifSplit_1 : decode cX5_ifSplit 1 = .ok (.iconst 0, 1) := by decide +kernel
theorem dX5_ifSplit_2 : decode cX5_ifSplit 2 = .ok (.putfield 29, 3) := by decide +kernel
theorem dX5_ifSplit_5 : decode cX5_ifSplit 5 = .ok (.aload_n 0, 1) := by decide +kernel
theorem dX5_ifSplit_6 : decode cX5_ifSplit 6 = .ok (.invokevirtual 148, 3) := by decide +kernel
theorem dX5_ifSplit_9 : decode cX5_ifSplit 9 = .ok (.ireturn, 1) := by decide +kernel
set_option maxRecDepth 20000 in
theorem ggX5_mainOne_X5_ways : GoodIn wsX5_mainOne wsX5_ways := goodIn_r _ [5, 6, 7, 8, 4, 9, 10, 11, 12, 13, 14, 15, 16, 17, 18, 19, 20, 21, 22, 23, 24] (by decide +kernel) (by decide +kernel)
set_option maxRecDepth 20000 in
theorem gX5_mainOne_X5_ways : GoodIn wsX5_mainOne (wsV RX5 117 RX5 yX5_ways wsX5_ways) := goodIn_app (goodIn_of _ (by decide +kernel)) ggX5_mainOne_X5_ways
theorem dX5_mainOne_0 : decode cX5_mainOne 0 = .ok (.iconst (-1), 1) := by decide +kernel
theorem dX5_mainOne_1 : decode cX5_mainOne 1 = .ok (.istore_n 1, 1) := by decide +kernel
theorem dX5_mainOne_2 : decode cX5_mainOne 2 = .ok (.iconst 0, 1) := by decide +kernel
theorem dX5_mainOne_3 : decode cX5_mainOne 3 = .ok (.istore_n 2, 1) := by decide +kernel
theorem dX5_mainOne_4 : decode cX5_mainOne 4 = .ok (.iconst 0, 1) := by decide +kernel
theorem dX5_mainOne_5 : decode cX5_mainOne 5 = .ok (.istore_n 3, 1) := by decide +kernel
theorem dX5_mainOne_6 : decode cX5_mainOne 6 = .ok (.iload_n 3, 1) := by decide +kernel
theorem dX5_mainOne_7 : decode cX5_mainOne 7 = .ok (.bipush 9, 2) := by decide +kernel
theorem dX5_mainOne_9 : decode cX5_mainOne 9 = .ok (.if_icmp .ge 44, 3) := by decide +kernel
theorem dX5_mainOne_12 : decode cX5_mainOne 12 = .ok (.aload_n 0, 1) := by decide +kernel
theorem dX5_mainOne_13 : decode cX5_mainOne 13 = .ok (.iconst 1, 1) := by decide +kernel
theorem dX5_mainOne_14 : decode cX5_mainOne 14 = .ok (.iload_n 3, 1) := by decide +kernel
theorem dX5_mainOne_15 : decode cX5_mainOne 15 = .ok (.ishl, 1) := by decide +kernel
theorem dX5_mainOne_16 : decode cX5_mainOne 16 = .ok (.iconst 1, 1) := by decide +kernel
theorem dX5_mainOne_17 : decode cX5_mainOne 17 = .ok (.invokevirtual 117, 3) := by decide +kernel
theorem dX5_mainOne_20 : decode cX5_mainOne 20 = .ok (.istore 4, 2) := by decide +kernel
theorem dX5_mainOne_22 : decode cX5_mainOne 22 = .ok (.iload 4, 2) := by decide +kernel
theorem dX5_mainOne_24 : decode cX5_mainOne 24 = .ok (.iload_n 2, 1) := by decide +kernel
theorem dX5_mainOne_25 : decode cX5_mainOne 25 = .ok (.if_icmp .le 7, 3) := by decide +kernel
theorem dX5_mainOne_28 : decode cX5_mainOne 28 = .ok (.iload_n 3, 1) := by decide +kernel
theorem dX5_mainOne_29 : decode cX5_mainOne 29 = .ok (.goto 4, 3) := by decide +kernel
theorem dX5_mainOne_32 : decode cX5_mainOne 32 = .ok (.iload_n 1, 1) := by decide +kernel
theorem dX5_mainOne_33 : decode cX5_mainOne 33 = .ok (.istore_n 1, 1) := by decide +kernel
theorem dX5_mainOne_34 : decode cX5_mainOne 34 = .ok (.iload 4, 2) := by decide +kernel
theorem dX5_mainOne_36 : decode cX5_mainOne 36 = .ok (.iload_n 2, 1) := by decide +kernel
theorem dX5_mainOne_37 : decode cX5_mainOne 37 = .ok (.if_icmp .le 8, 3) := by decide +kernel
theorem dX5_mainOne_40 : decode cX5_mainOne 40 = .ok (.iload 4, 2) := by decide +kernel
theorem dX5_mainOne_42 : decode cX5_mainOne 42 = .ok (.goto 4, 3) := by decide +kernel
theorem dX5_mainOne_45 : decode cX5_mainOne 45 = .ok (.iload_n 2, 1) := by decide +kernel
theorem dX5_mainOne_46 : decode cX5_mainOne 46 = .ok (.istore_n 2, 1) := by decide +kernel
theorem dX5_mainOne_47 : decode cX5_mainOne 47 = .ok (.iinc 3 1, 3) := by decide +kernel
theorem dX5_mainOne_50 : decode cX5_mainOne 50 = .ok (.goto (-44), 3) := by decide +kernel
theorem dX5_mainOne_53 : decode cX5_mainOne 53 = .ok (.iload_n 1, 1) := by decide +kernel
theorem dX5_mainOne_54 : decode cX5_mainOne 54 = .ok (.ireturn, 1) := by decide +kernel
set_option maxRecDepth 20000 in
theorem ggX5_mainPiece_X5_mainOne : GoodIn wsX5_mainPiece wsX5_mainOne := goodIn_r _ [6, 7, 8, 9, 5, 10, 11, 12, 13, 14, 15, 16, 17, 18, 19, 20, 21, 22, 23, 24, 25, 26, 27, 28, 29] (by decide +kernel) (by decide +kernel)
set_option maxRecDepth 20000 in
theorem gX5_mainPiece_X5_mainOne : GoodIn wsX5_mainPiece (wsV RX5 151 RX5 yX5_mainOne wsX5_mainOne) := goodIn_app (goodIn_of _ (by decide +kernel)) ggX5_mainPiece_X5_mainOne
theorem dX5_mainPiece_0 : decode cX5_mainPiece 0 = .ok (.aload_n 0, 1) := by decide +kernel
theorem dX5_mainPiece_1 : decode cX5_mainPiece 1 = .ok (.iconst 0, 1) := by decide +kernel
theorem dX5_mainPiece_2 : decode cX5_mainPiece 2 = .ok (.putfield 29, 3) := by decide +kernel
theorem dX5_mainPiece_5 : decode cX5_mainPiece 5 = .ok (.aload_n 0, 1) := by decide +kernel
theorem dX5_mainPiece_6 : decode cX5_mainPiece 6 = .ok (.invokevirtual 151, 3) := by decide +kernel
theorem dX5_mainPiece_9 : decode cX5_mainPiece 9 = .ok (.ireturn, 1) := by decide +kernel
set_option maxRecDepth 20000 in
theorem ggX5_share_X5_sum : GoodIn wsX5_share wsX5_sum := goodIn_r _ [5, 6, 7, 8, 9, 10, 11, 12, 13, 14, 15, 16] (by decide +kernel) (by decide +kernel)
set_option maxRecDepth 20000 in
theorem gX5_share_X5_sum : GoodIn wsX5_share (wsV RX5 127 RX5 yX5_sum wsX5_sum) := goodIn_app (goodIn_of _ (by decide +kernel)) ggX5_share_X5_sum
theorem dX5_share_0 : decode cX5_share 0 = .ok (.aload_n 0, 1) := by decide +kernel
theorem dX5_share_1 : decode cX5_share 1 = .ok (.iconst 0, 1) := by decide +kernel
theorem dX5_share_2 : decode cX5_share 2 = .ok (.invokevirtual 127, 3) := by decide +kernel
theorem dX5_share_5 : decode cX5_share 5 = .ok (.ifCond .ne 7, 3) := by decide +kernel
theorem dX5_share_8 : decode cX5_share 8 = .ok (.dconst 1, 1) := by decide +kernel
theorem dX5_share_9 : decode cX5_share 9 = .ok (.goto 23, 3) := by decide +kernel
theorem dX5_share_12 : decode cX5_share 12 = .ok (.aload_n 0, 1) := by decide +kernel
theorem dX5_share_13 : decode cX5_share 13 = .ok (.iconst 0, 1) := by decide +kernel
theorem dX5_share_14 : decode cX5_share 14 = .ok (.invokevirtual 127, 3) := by decide +kernel
theorem dX5_share_17 : decode cX5_share 17 = .ok (.aload_n 0, 1) := by decide +kernel
theorem dX5_share_18 : decode cX5_share 18 = .ok (.bipush 9, 2) := by decide +kernel
theorem dX5_share_20 : decode cX5_share 20 = .ok (.invokevirtual 127, 3) := by decide +kernel
theorem dX5_share_23 : decode cX5_share 23 = .ok (.isub, 1) := by decide +kernel
theorem dX5_share_24 : decode cX5_share 24 = .ok (.i2d, 1) := by decide +kernel
theorem dX5_share_25 : decode cX5_share 25 = .ok (.aload_n 0, 1) := by decide +kernel
theorem dX5_share_26 : decode cX5_share 26 = .ok (.iconst 0, 1) := by decide +kernel
theorem dX5_share_27 : decode cX5_share 27 = .ok (.invokevirtual 127, 3) := by decide +kernel
theorem dX5_share_30 : decode cX5_share 30 = .ok (.i2d, 1) := by decide +kernel
theorem dX5_share_31 : decode cX5_share 31 = .ok (.ddiv, 1) := by decide +kernel
theorem dX5_share_32 : decode cX5_share 32 = .ok (.dreturn, 1) := by decide +kernel
set_option maxRecDepth 20000 in
theorem ggX5_explained_X5_share : GoodIn wsX5_explained wsX5_share := goodIn_r _ [6, 7, 8, 9, 5, 10, 11, 12, 13, 14, 15, 16, 17, 18, 19, 20, 21] (by decide +kernel) (by decide +kernel)
set_option maxRecDepth 20000 in
theorem gX5_explained_X5_share : GoodIn wsX5_explained (wsV RX5 154 RX5 yX5_share wsX5_share) := goodIn_app (goodIn_of _ (by decide +kernel)) ggX5_explained_X5_share
theorem dX5_explained_0 : decode cX5_explained 0 = .ok (.aload_n 0, 1) := by decide +kernel
theorem dX5_explained_1 : decode cX5_explained 1 = .ok (.iconst 0, 1) := by decide +kernel
theorem dX5_explained_2 : decode cX5_explained 2 = .ok (.putfield 29, 3) := by decide +kernel
theorem dX5_explained_5 : decode cX5_explained 5 = .ok (.aload_n 0, 1) := by decide +kernel
theorem dX5_explained_6 : decode cX5_explained 6 = .ok (.invokevirtual 154, 3) := by decide +kernel
theorem dX5_explained_9 : decode cX5_explained 9 = .ok (.dreturn, 1) := by decide +kernel
theorem dX5_bitsOf_0 : decode cX5_bitsOf 0 = .ok (.dload_n 0, 1) := by decide +kernel
theorem dX5_bitsOf_1 : decode cX5_bitsOf 1 = .ok (.dconst 0, 1) := by decide +kernel
theorem dX5_bitsOf_2 : decode cX5_bitsOf 2 = .ok (.dcmp .l, 1) := by decide +kernel
theorem dX5_bitsOf_3 : decode cX5_bitsOf 3 = .ok (.ifCond .ne 5, 3) := by decide +kernel
theorem dX5_bitsOf_6 : decode cX5_bitsOf 6 = .ok (.lconst 0, 1) := by decide +kernel
theorem dX5_bitsOf_7 : decode cX5_bitsOf 7 = .ok (.lreturn, 1) := by decide +kernel
theorem dX5_bitsOf_8 : decode cX5_bitsOf 8 = .ok (.ldc2_w 158, 3) := by decide +kernel
theorem dX5_bitsOf_11 : decode cX5_bitsOf 11 = .ok (.lstore_n 2, 1) := by decide +kernel
theorem dX5_bitsOf_12 : decode cX5_bitsOf 12 = .ok (.dload_n 0, 1) := by decide +kernel
theorem dX5_bitsOf_13 : decode cX5_bitsOf 13 = .ok (.dstore 4, 2) := by decide +kernel
theorem dX5_bitsOf_15 : decode cX5_bitsOf 15 = .ok (.dload 4, 2) := by decide +kernel
theorem dX5_bitsOf_17 : decode cX5_bitsOf 17 = .ok (.dconst 1, 1) := by decide +kernel
theorem dX5_bitsOf_18 : decode cX5_bitsOf 18 = .ok (.dcmp .g, 1) := by decide +kernel
theorem dX5_bitsOf_19 : decode cX5_bitsOf 19 = .ok (.ifCond .ge 18, 3) := by decide +kernel
theorem dX5_bitsOf_22 : decode cX5_bitsOf 22 = .ok (.dload 4, 2) := by decide +kernel
theorem dX5_bitsOf_24 : decode cX5_bitsOf 24 = .ok (.ldc2_w 160, 3) := by decide +kernel
theorem dX5_bitsOf_27 : decode cX5_bitsOf 27 = .ok (.dmul, 1) := by decide +kernel
theorem dX5_bitsOf_28 : decode cX5_bitsOf 28 = .ok (.dstore 4, 2) := by decide +kernel
theorem dX5_bitsOf_30 : decode cX5_bitsOf 30 = .ok (.lload_n 2, 1) := by decide +kernel
theorem dX5_bitsOf_31 : decode cX5_bitsOf 31 = .ok (.lconst 1, 1) := by decide +kernel
theorem dX5_bitsOf_32 : decode cX5_bitsOf 32 = .ok (.lsub, 1) := by decide +kernel
theorem dX5_bitsOf_33 : decode cX5_bitsOf 33 = .ok (.lstore_n 2, 1) := by decide +kernel
theorem dX5_bitsOf_34 : decode cX5_bitsOf 34 = .ok (.goto (-19), 3) := by decide +kernel
theorem dX5_bitsOf_37 : decode cX5_bitsOf 37 = .ok (.lload_n 2, 1) := by decide +kernel
theorem dX5_bitsOf_38 : decode cX5_bitsOf 38 = .ok (.ldc2_w 162, 3) := by decide +kernel
theorem dX5_bitsOf_41 : decode cX5_bitsOf 41 = .ok (.lmul, 1) := by decide +kernel
theorem dX5_bitsOf_42 : decode cX5_bitsOf 42 = .ok (.dload 4, 2) := by decide +kernel
theorem dX5_bitsOf_44 : decode cX5_bitsOf 44 = .ok (.dconst 1, 1) := by decide +kernel
theorem dX5_bitsOf_45 : decode cX5_bitsOf 45 = .ok (.dsub, 1) := by decide +kernel
theorem dX5_bitsOf_46 : decode cX5_bitsOf 46 = .ok (.ldc2_w 164, 3) := by decide +kernel
theorem dX5_bitsOf_49 : decode cX5_bitsOf 49 = .ok (.dmul, 1) := by decide +kernel
theorem dX5_bitsOf_50 : decode cX5_bitsOf 50 = .ok (.d2l, 1) := by decide +kernel
theorem dX5_bitsOf_51 : decode cX5_bitsOf 51 = .ok (.ladd, 1) := by decide +kernel
theorem dX5_bitsOf_52 : decode cX5_bitsOf 52 = .ok (.lreturn, 1) := by decide +kernel
theorem dX5_digestOne_0 : decode cX5_digestOne 0 = .ok (.aload_n 0, 1) := by decide +kernel
theorem dX5_digestOne_1 : decode cX5_digestOne 1 = .ok (.ldc2_w 166, 3) := by decide +kernel
theorem dX5_digestOne_4 : decode cX5_digestOne 4 = .ok (.aload_n 0, 1) := by decide +kernel
theorem dX5_digestOne_5 : decode cX5_digestOne 5 = .ok (.getfield 168, 3) := by decide +kernel
theorem dX5_digestOne_8 : decode cX5_digestOne 8 = .ok (.lmul, 1) := by decide +kernel
theorem dX5_digestOne_9 : decode cX5_digestOne 9 = .ok (.lload_n 1, 1) := by decide +kernel
theorem dX5_digestOne_10 : decode cX5_digestOne 10 = .ok (.ladd, 1) := by decide +kernel
theorem dX5_digestOne_11 : decode cX5_digestOne 11 = .ok (.putfield 168, 3) := by decide +kernel
theorem dX5_digestOne_14 : decode cX5_digestOne 14 = .ok (.return_, 1) := by decide +kernel
set_option maxRecDepth 20000 in
theorem ggX5_digestPiece_X5_property : GoodIn wsX5_digestPiece wsX5_property := goodIn_r _ [6, 1, 7, 8, 9, 5, 10, 11, 12, 13, 14, 15, 16, 17, 18, 19, 20, 21, 22, 23, 24, 25, 26, 27, 28, 29, 36, 37, 38, 39, 40, 41, 42, 43, 44, 45] (by decide +kernel) (by decide +kernel)
set_option maxRecDepth 20000 in
theorem gX5_digestPiece_X5_property : GoodIn wsX5_digestPiece (wsV RX5 121 RX5 yX5_property wsX5_property) := goodIn_app (goodIn_of _ (by decide +kernel)) ggX5_digestPiece_X5_property
set_option maxRecDepth 20000 in
theorem ggX5_digestPiece_X5_digestOne : GoodIn wsX5_digestPiece wsX5_digestOne := goodIn_r _ [33, 34, 35, 36, 37, 38, 39, 40, 41, 42, 43, 44, 45] (by decide +kernel) (by decide +kernel)
set_option maxRecDepth 20000 in
theorem gX5_digestPiece_X5_digestOne : GoodIn wsX5_digestPiece (wsV RX5 172 RX5 yX5_digestOne wsX5_digestOne) := goodIn_app (goodIn_of _ (by decide +kernel)) ggX5_digestPiece_X5_digestOne
theorem dX5_digestPiece_0 : decode cX5_digestPiece 0 = .ok (.iconst 0, 1) := by decide +kernel
theorem dX5_digestPiece_1 : decode cX5_digestPiece 1 = .ok (.istore_n 2, 1) := by decide +kernel
theorem dX5_digestPiece_2 : decode cX5_digestPiece 2 = .ok (.iload_n 2, 1) := by decide +kernel
theorem dX5_digestPiece_3 : decode cX5_digestPiece 3 = .ok (.bipush 8, 2) := by decide +kernel
theorem dX5_digestPiece_5 : decode cX5_digestPiece 5 = .ok (.if_icmp .ge 20, 3) := by decide +kernel
theorem dX5_digestPiece_8 : decode cX5_digestPiece 8 = .ok (.aload_n 0, 1) := by decide +kernel
theorem dX5_digestPiece_9 : decode cX5_digestPiece 9 = .ok (.aload_n 0, 1) := by decide +kernel
theorem dX5_digestPiece_10 : decode cX5_digestPiece 10 = .ok (.iload_n 1, 1) := by decide +kernel
theorem dX5_digestPiece_11 : decode cX5_digestPiece 11 = .ok (.iload_n 2, 1) := by decide +kernel
theorem dX5_digestPiece_12 : decode cX5_digestPiece 12 = .ok (.invokevirtual 121, 3) := by decide +kernel
theorem dX5_digestPiece_15 : decode cX5_digestPiece 15 = .ok (.i2l, 1) := by decide +kernel
theorem dX5_digestPiece_16 : decode cX5_digestPiece 16 = .ok (.invokevirtual 172, 3) := by decide +kernel
theorem dX5_digestPiece_19 : decode cX5_digestPiece 19 = .ok (.iinc 2 1, 3) := by decide +kernel
theorem dX5_digestPiece_22 : decode cX5_digestPiece 22 = .ok (.goto (-20), 3) := by decide +kernel
theorem dX5_digestPiece_25 : decode cX5_digestPiece 25 = .ok (.iconst 0, 1) := by decide +kernel
theorem dX5_digestPiece_26 : decode cX5_digestPiece 26 = .ok (.istore_n 2, 1) := by decide +kernel
theorem dX5_digestPiece_27 : decode cX5_digestPiece 27 = .ok (.iload_n 2, 1) := by decide +kernel
theorem dX5_digestPiece_28 : decode cX5_digestPiece 28 = .ok (.bipush 9, 2) := by decide +kernel
theorem dX5_digestPiece_30 : decode cX5_digestPiece 30 = .ok (.if_icmp .ge 27, 3) := by decide +kernel
theorem dX5_digestPiece_33 : decode cX5_digestPiece 33 = .ok (.aload_n 0, 1) := by decide +kernel
theorem dX5_digestPiece_34 : decode cX5_digestPiece 34 = .ok (.aload_n 0, 1) := by decide +kernel
theorem dX5_digestPiece_35 : decode cX5_digestPiece 35 = .ok (.getfield 7, 3) := by decide +kernel
theorem dX5_digestPiece_38 : decode cX5_digestPiece 38 = .ok (.bipush 27, 2) := by decide +kernel
theorem dX5_digestPiece_40 : decode cX5_digestPiece 40 = .ok (.iload_n 1, 1) := by decide +kernel
theorem dX5_digestPiece_41 : decode cX5_digestPiece 41 = .ok (.iadd, 1) := by decide +kernel
theorem dX5_digestPiece_42 : decode cX5_digestPiece 42 = .ok (.iaload, 1) := by decide +kernel
theorem dX5_digestPiece_43 : decode cX5_digestPiece 43 = .ok (.iload_n 2, 1) := by decide +kernel
theorem dX5_digestPiece_44 : decode cX5_digestPiece 44 = .ok (.ishr, 1) := by decide +kernel
theorem dX5_digestPiece_45 : decode cX5_digestPiece 45 = .ok (.iconst 1, 1) := by decide +kernel
theorem dX5_digestPiece_46 : decode cX5_digestPiece 46 = .ok (.iand, 1) := by decide +kernel
theorem dX5_digestPiece_47 : decode cX5_digestPiece 47 = .ok (.i2l, 1) := by decide +kernel
theorem dX5_digestPiece_48 : decode cX5_digestPiece 48 = .ok (.invokevirtual 172, 3) := by decide +kernel
theorem dX5_digestPiece_51 : decode cX5_digestPiece 51 = .ok (.iinc 2 1, 3) := by decide +kernel
theorem dX5_digestPiece_54 : decode cX5_digestPiece 54 = .ok (.goto (-27), 3) := by decide +kernel
theorem dX5_digestPiece_57 : decode cX5_digestPiece 57 = .ok (.return_, 1) := by decide +kernel
set_option maxRecDepth 20000 in
theorem ggX5_digest_X5_counted : GoodIn wsX5_digest wsX5_counted := goodIn_r _ [12, 4, 13, 14, 15, 16, 11, 17, 18, 19, 20, 21, 22, 23, 24, 25, 26, 27, 28, 29, 30, 31, 32, 33, 34, 35, 36, 37, 38, 39, 40, 41, 42, 43, 44, 124, 125, 126, 127, 128, 129, 130, 131, 132, 133] (by decide +kernel) (by decide +kernel)
set_option maxRecDepth 20000 in
theorem gX5_digest_X5_counted : GoodIn wsX5_digest (wsV RX5 133 RX5 yX5_counted wsX5_counted) := goodIn_app (goodIn_of _ (by decide +kernel)) ggX5_digest_X5_counted
set_option maxRecDepth 20000 in
theorem ggX5_digest_X5_digestOne : GoodIn wsX5_digest wsX5_digestOne := goodIn_r _ [48, 49, 3, 124, 125, 126, 127, 128, 129, 130, 131, 132, 133] (by decide +kernel) (by decide +kernel)
set_option maxRecDepth 20000 in
theorem gX5_digest_X5_digestOne : GoodIn wsX5_digest (wsV RX5 172 RX5 yX5_digestOne wsX5_digestOne) := goodIn_app (goodIn_of _ (by decide +kernel)) ggX5_digest_X5_digestOne
set_option maxRecDepth 20000 in
theorem ggX5_digest_X5_digestPiece : GoodIn wsX5_digest wsX5_digestPiece := goodIn_r _ [53, 4, 54, 55, 56, 11, 57, 58, 59, 60, 61, 18, 19, 20, 41, 42, 43, 44, 25, 26, 27, 28, 29, 30, 31, 32, 33, 34, 35, 36, 45, 46, 47, 48, 49, 3, 124, 125, 126, 127, 128, 129, 130, 131, 132, 133] (by decide +kernel) (by decide +kernel)
set_option maxRecDepth 20000 in
theorem gX5_digest_X5_digestPiece : GoodIn wsX5_digest (wsV RX5 178 RX5 yX5_digestPiece wsX5_digestPiece) := goodIn_app (goodIn_of _ (by decide +kernel)) ggX5_digest_X5_digestPiece
set_option maxRecDepth 20000 in
theorem ggX5_digest_X5_note : GoodIn wsX5_digest wsX5_note := goodIn_r _ [65, 4, 18, 19, 11, 20, 124, 125, 126, 127, 128, 129, 130, 131, 132, 133] (by decide +kernel) (by decide +kernel)
set_option maxRecDepth 20000 in
theorem gX5_digest_X5_note : GoodIn wsX5_digest (wsV RX5 124 RX5 yX5_note wsX5_note) := goodIn_app (goodIn_of _ (by decide +kernel)) ggX5_digest_X5_note
set_option maxRecDepth 20000 in
theorem ggX5_digest_X5_heavy : GoodIn wsX5_digest wsX5_heavy := goodIn_r _ [69, 70, 71, 72, 11, 73, 29, 30, 31, 32, 4, 33, 34, 35, 36, 74, 75, 76, 77, 78, 79, 80, 81, 82, 83, 124, 125, 126, 127, 128, 129, 130, 131, 132, 133] (by decide +kernel) (by decide +kernel)
set_option maxRecDepth 20000 in
theorem gX5_digest_X5_heavy : GoodIn wsX5_digest (wsV RX5 136 RX5 yX5_heavy wsX5_heavy) := goodIn_app (goodIn_of _ (by decide +kernel)) ggX5_digest_X5_heavy
set_option maxRecDepth 20000 in
theorem ggX5_digest_X5_openAt : GoodIn wsX5_digest wsX5_openAt := goodIn_r _ [87, 29, 30, 31, 11, 32, 4, 33, 34, 35, 36, 78, 79, 80, 81, 82, 83, 124, 125, 126, 127, 128, 129, 130, 131, 132, 133] (by decide +kernel) (by decide +kernel)
set_option maxRecDepth 20000 in
theorem gX5_digest_X5_openAt : GoodIn wsX5_digest (wsV RX5 139 RX5 yX5_openAt wsX5_openAt) := goodIn_app (goodIn_of _ (by decide +kernel)) ggX5_digest_X5_openAt
set_option maxRecDepth 20000 in
theorem ggX5_digest_X5_unexplained : GoodIn wsX5_digest wsX5_unexplained := goodIn_r _ [91, 92, 93, 94, 11, 95, 96, 4, 97, 98, 99, 100, 101, 102, 103, 104, 70, 71, 72, 73, 29, 30, 31, 32, 33, 34, 35, 36, 74, 75, 76, 77, 78, 79, 80, 81, 82, 83, 21, 22, 23, 24, 105, 106, 107, 108, 124, 125, 126, 127, 128, 129, 130, 131, 132, 133] (by decide +kernel) (by decide +kernel)
set_option maxRecDepth 20000 in
theorem gX5_digest_X5_unexplained : GoodIn wsX5_digest (wsV RX5 148 RX5 yX5_unexplained wsX5_unexplained) := goodIn_app (goodIn_of _ (by decide +kernel)) ggX5_digest_X5_unexplained
set_option maxRecDepth 20000 in
theorem ggX5_digest_X5_mainOne : GoodIn wsX5_digest wsX5_mainOne := goodIn_r _ [112, 25, 26, 27, 11, 28, 29, 30, 31, 32, 4, 33, 34, 35, 36, 124, 125, 126, 127, 128, 129, 130, 131, 132, 133] (by decide +kernel) (by decide +kernel)
set_option maxRecDepth 20000 in
theorem gX5_digest_X5_mainOne : GoodIn wsX5_digest (wsV RX5 151 RX5 yX5_mainOne wsX5_mainOne) := goodIn_app (goodIn_of _ (by decide +kernel)) ggX5_digest_X5_mainOne
set_option maxRecDepth 20000 in
theorem ggX5_digest_X5_share : GoodIn wsX5_digest wsX5_share := goodIn_r _ [116, 21, 22, 23, 11, 24, 4, 124, 125, 126, 127, 128, 129, 130, 131, 132, 133] (by decide +kernel) (by decide +kernel)
set_option maxRecDepth 20000 in
theorem gX5_digest_X5_share : GoodIn wsX5_digest (wsV RX5 154 RX5 yX5_share wsX5_share) := goodIn_app (goodIn_of _ (by decide +kernel)) ggX5_digest_X5_share
set_option maxRecDepth 20000 in
theorem ggX5_digest_X5_bitsOf : GoodIn wsX5_digest wsX5_bitsOf := goodIn_r _ [119, 120, 121, 122, 123] (by decide +kernel) (by decide +kernel)
set_option maxRecDepth 20000 in
theorem gX5_digest_X5_bitsOf : GoodIn wsX5_digest (va_wsS RX5 182 yX5_bitsOf wsX5_bitsOf) := goodIn_app (goodIn_of _ (by decide +kernel)) ggX5_digest_X5_bitsOf
theorem dX5_digest_0 : decode cX5_digest 0 = .ok (.aload_n 0, 1) := by decide +kernel
theorem dX5_digest_1 : decode cX5_digest 1 = .ok (.iconst 0, 1) := by decide +kernel
theorem dX5_digest_2 : decode cX5_digest 2 = .ok (.putfield 29, 3) := by decide +kernel
theorem dX5_digest_5 : decode cX5_digest 5 = .ok (.aload_n 0, 1) := by decide +kernel
theorem dX5_digest_6 : decode cX5_digest 6 = .ok (.ldc2_w 176, 3) := by decide +kernel
theorem dX5_digest_9 : decode cX5_digest 9 = .ok (.putfield 168, 3) := by decide +kernel
theorem dX5_digest_12 : decode cX5_digest 12 = .ok (.iconst 0, 1) := by decide +kernel
theorem dX5_digest_13 : decode cX5_digest 13 = .ok (.istore_n 1, 1) := by decide +kernel
theorem dX5_digest_14 : decode cX5_digest 14 = .ok (.iload_n 1, 1) := by decide +kernel
theorem dX5_digest_15 : decode cX5_digest 15 = .ok (.bipush 12, 2) := by decide +kernel
theorem dX5_digest_17 : decode cX5_digest 17 = .ok (.if_icmp .ge 19, 3) := by decide +kernel
theorem dX5_digest_20 : decode cX5_digest 20 = .ok (.aload_n 0, 1) := by decide +kernel
theorem dX5_digest_21 : decode cX5_digest 21 = .ok (.aload_n 0, 1) := by decide +kernel
theorem dX5_digest_22 : decode cX5_digest 22 = .ok (.iload_n 1, 1) := by decide +kernel
theorem dX5_digest_23 : decode cX5_digest 23 = .ok (.invokevirtual 133, 3) := by decide +kernel
theorem dX5_digest_26 : decode cX5_digest 26 = .ok (.i2l, 1) := by decide +kernel
theorem dX5_digest_27 : decode cX5_digest 27 = .ok (.invokevirtual 172, 3) := by decide +kernel
theorem dX5_digest_30 : decode cX5_digest 30 = .ok (.iinc 1 1, 3) := by decide +kernel
theorem dX5_digest_33 : decode cX5_digest 33 = .ok (.goto (-19), 3) := by decide +kernel
theorem dX5_digest_36 : decode cX5_digest 36 = .ok (.iconst 0, 1) := by decide +kernel
theorem dX5_digest_37 : decode cX5_digest 37 = .ok (.istore_n 1, 1) := by decide +kernel
theorem dX5_digest_38 : decode cX5_digest 38 = .ok (.iload_n 1, 1) := by decide +kernel
theorem dX5_digest_39 : decode cX5_digest 39 = .ok (.bipush 9, 2) := by decide +kernel
theorem dX5_digest_41 : decode cX5_digest 41 = .ok (.if_icmp .ge 14, 3) := by decide +kernel
theorem dX5_digest_44 : decode cX5_digest 44 = .ok (.aload_n 0, 1) := by decide +kernel
theorem dX5_digest_45 : decode cX5_digest 45 = .ok (.iload_n 1, 1) := by decide +kernel
theorem dX5_digest_46 : decode cX5_digest 46 = .ok (.invokevirtual 178, 3) := by decide +kernel
theorem dX5_digest_49 : decode cX5_digest 49 = .ok (.iinc 1 1, 3) := by decide +kernel
theorem dX5_digest_52 : decode cX5_digest 52 = .ok (.goto (-14), 3) := by decide +kernel
theorem dX5_digest_55 : decode cX5_digest 55 = .ok (.iconst 0, 1) := by decide +kernel
theorem dX5_digest_56 : decode cX5_digest 56 = .ok (.istore_n 1, 1) := by decide +kernel
theorem dX5_digest_57 : decode cX5_digest 57 = .ok (.iload_n 1, 1) := by decide +kernel
theorem dX5_digest_58 : decode cX5_digest 58 = .ok (.iconst 3, 1) := by decide +kernel
theorem dX5_digest_59 : decode cX5_digest 59 = .ok (.aload_n 0, 1) := by decide +kernel
theorem dX5_digest_60 : decode cX5_digest 60 = .ok (.getfield 7, 3) := by decide +kernel
theorem dX5_digest_63 : decode cX5_digest 63 = .ok (.bipush 45, 2) := by decide +kernel
theorem dX5_digest_65 : decode cX5_digest 65 = .ok (.iaload, 1) := by decide +kernel
theorem dX5_digest_66 : decode cX5_digest 66 = .ok (.imul, 1) := by decide +kernel
theorem dX5_digest_67 : decode cX5_digest 67 = .ok (.if_icmp .ge 24, 3) := by decide +kernel
theorem dX5_digest_70 : decode cX5_digest 70 = .ok (.aload_n 0, 1) := by decide +kernel
theorem dX5_digest_71 : decode cX5_digest 71 = .ok (.aload_n 0, 1) := by decide +kernel
theorem dX5_digest_72 : decode cX5_digest 72 = .ok (.iload_n 1, 1) := by decide +kernel
theorem dX5_digest_73 : decode cX5_digest 73 = .ok (.iconst 3, 1) := by decide +kernel
theorem dX5_digest_74 : decode cX5_digest 74 = .ok (.idiv, 1) := by decide +kernel
theorem dX5_digest_75 : decode cX5_digest 75 = .ok (.iload_n 1, 1) := by decide +kernel
theorem dX5_digest_76 : decode cX5_digest 76 = .ok (.iconst 3, 1) := by decide +kernel
theorem dX5_digest_77 : decode cX5_digest 77 = .ok (.irem, 1) := by decide +kernel
theorem dX5_digest_78 : decode cX5_digest 78 = .ok (.invokevirtual 124, 3) := by decide +kernel
theorem dX5_digest_81 : decode cX5_digest 81 = .ok (.i2l, 1) := by decide +kernel
theorem dX5_digest_82 : decode cX5_digest 82 = .ok (.invokevirtual 172, 3) := by decide +kernel
theorem dX5_digest_85 : decode cX5_digest 85 = .ok (.iinc 1 1, 3) := by decide +kernel
theorem dX5_digest_88 : decode cX5_digest 88 = .ok (.goto (-31), 3) := by decide +kernel
theorem dX5_digest_91 : decode cX5_digest 91 = .ok (.aload_n 0, 1) := by decide +kernel
theorem dX5_digest_92 : decode cX5_digest 92 = .ok (.aload_n 0, 1) := by decide +kernel
theorem dX5_digest_93 : decode cX5_digest 93 = .ok (.iconst 0, 1) := by decide +kernel
theorem dX5_digest_94 : decode cX5_digest 94 = .ok (.invokevirtual 136, 3) := by decide +kernel
theorem dX5_digest_97 : decode cX5_digest 97 = .ok (.i2l, 1) := by decide +kernel
theorem dX5_digest_98 : decode cX5_digest 98 = .ok (.invokevirtual 172, 3) := by decide +kernel
theorem dX5_digest_101 : decode cX5_digest 101 = .ok (.aload_n 0, 1) := by decide +kernel
theorem dX5_digest_102 : decode cX5_digest 102 = .ok (.aload_n 0, 1) := by decide +kernel
theorem dX5_digest_103 : decode cX5_digest 103 = .ok (.iconst 1, 1) := by decide +kernel
theorem dX5_digest_104 : decode cX5_digest 104 = .ok (.invokevirtual 136, 3) := by decide +kernel
theorem dX5_digest_107 : decode cX5_digest 107 = .ok (.i2l, 1) := by decide +kernel
theorem dX5_digest_108 : decode cX5_digest 108 = .ok (.invokevirtual 172, 3) := by decide +kernel
theorem dX5_digest_111 : decode cX5_digest 111 = .ok (.iconst 0, 1) := by decide +kernel
theorem dX5_digest_112 : decode cX5_digest 112 = .ok (.istore_n 1, 1) := by decide +kernel
theorem dX5_digest_113 : decode cX5_digest 113 = .ok (.iload_n 1, 1) := by decide +kernel
theorem dX5_digest_114 : decode cX5_digest 114 = .ok (.iconst 5, 1) := by decide +kernel
theorem dX5_digest_115 : decode cX5_digest 115 = .ok (.if_icmp .ge 19, 3) := by decide +kernel
theorem dX5_digest_118 : decode cX5_digest 118 = .ok (.aload_n 0, 1) := by decide +kernel
theorem dX5_digest_119 : decode cX5_digest 119 = .ok (.aload_n 0, 1) := by decide +kernel
theorem dX5_digest_120 : decode cX5_digest 120 = .ok (.iload_n 1, 1) := by decide +kernel
theorem dX5_digest_121 : decode cX5_digest 121 = .ok (.invokevirtual 139, 3) := by decide +kernel
theorem dX5_digest_124 : decode cX5_digest 124 = .ok (.i2l, 1) := by decide +kernel
theorem dX5_digest_125 : decode cX5_digest 125 = .ok (.invokevirtual 172, 3) := by decide +kernel
theorem dX5_digest_128 : decode cX5_digest 128 = .ok (.iinc 1 1, 3) := by decide +kernel
theorem dX5_digest_131 : decode cX5_digest 131 = .ok (.goto (-18), 3) := by decide +kernel
theorem dX5_digest_134 : decode cX5_digest 134 = .ok (.aload_n 0, 1) := by decide +kernel
theorem dX5_digest_135 : decode cX5_digest 135 = .ok (.aload_n 0, 1) := by decide +kernel
theorem dX5_digest_136 : decode cX5_digest 136 = .ok (.invokevirtual 148, 3) := by decide +kernel
theorem dX5_digest_139 : decode cX5_digest 139 = .ok (.i2l, 1) := by decide +kernel
theorem dX5_digest_140 : decode cX5_digest 140 = .ok (.invokevirtual 172, 3) := by decide +kernel
theorem dX5_digest_143 : decode cX5_digest 143 = .ok (.aload_n 0, 1) := by decide +kernel
theorem dX5_digest_144 : decode cX5_digest 144 = .ok (.aload_n 0, 1) := by decide +kernel
theorem dX5_digest_145 : decode cX5_digest 145 = .ok (.invokevirtual 151, 3) := by decide +kernel
theorem dX5_digest_148 : decode cX5_digest 148 = .ok (.i2l, 1) := by decide +kernel
theorem dX5_digest_149 : decode cX5_digest 149 = .ok (.invokevirtual 172, 3) := by decide +kernel
theorem dX5_digest_152 : decode cX5_digest 152 = .ok (.aload_n 0, 1) := by decide +kernel
theorem dX5_digest_153 : decode cX5_digest 153 = .ok (.aload_n 0, 1) := by decide +kernel
theorem dX5_digest_154 : decode cX5_digest 154 = .ok (.invokevirtual 154, 3) := by decide +kernel
theorem dX5_digest_157 : decode cX5_digest 157 = .ok (.invokestatic 182, 3) := by decide +kernel
theorem dX5_digest_160 : decode cX5_digest 160 = .ok (.invokevirtual 172, 3) := by decide +kernel
theorem dX5_digest_163 : decode cX5_digest 163 = .ok (.aload_n 0, 1) := by decide +kernel
theorem dX5_digest_164 : decode cX5_digest 164 = .ok (.aload_n 0, 1) := by decide +kernel
theorem dX5_digest_165 : decode cX5_digest 165 = .ok (.getfield 19, 3) := by decide +kernel
theorem dX5_digest_168 : decode cX5_digest 168 = .ok (.iconst 0, 1) := by decide +kernel
theorem dX5_digest_169 : decode cX5_digest 169 = .ok (.baload, 1) := by decide +kernel
theorem dX5_digest_170 : decode cX5_digest 170 = .ok (.ifCond .eq 7, 3) := by decide +kernel
theorem dX5_digest_173 : decode cX5_digest 173 = .ok (.lconst 1, 1) := by decide +kernel
theorem dX5_digest_174 : decode cX5_digest 174 = .ok (.goto 4, 3) := by decide +kernel
theorem dX5_digest_177 : decode cX5_digest 177 = .ok (.lconst 0, 1) := by decide +kernel
theorem dX5_digest_178 : decode cX5_digest 178 = .ok (.invokevirtual 172, 3) := by decide +kernel
theorem dX5_digest_181 : decode cX5_digest 181 = .ok (.aload_n 0, 1) := by decide +kernel
theorem dX5_digest_182 : decode cX5_digest 182 = .ok (.aload_n 0, 1) := by decide +kernel
theorem dX5_digest_183 : decode cX5_digest 183 = .ok (.getfield 19, 3) := by decide +kernel
theorem dX5_digest_186 : decode cX5_digest 186 = .ok (.iconst 1, 1) := by decide +kernel
theorem dX5_digest_187 : decode cX5_digest 187 = .ok (.baload, 1) := by decide +kernel
theorem dX5_digest_188 : decode cX5_digest 188 = .ok (.ifCond .eq 7, 3) := by decide +kernel
theorem dX5_digest_191 : decode cX5_digest 191 = .ok (.lconst 1, 1) := by decide +kernel
theorem dX5_digest_192 : decode cX5_digest 192 = .ok (.goto 4, 3) := by decide +kernel
theorem dX5_digest_195 : decode cX5_digest 195 = .ok (.lconst 0, 1) := by decide +kernel
theorem dX5_digest_196 : decode cX5_digest 196 = .ok (.invokevirtual 172, 3) := by decide +kernel
theorem dX5_digest_199 : decode cX5_digest 199 = .ok (.aload_n 0, 1) := by decide +kernel
theorem dX5_digest_200 : decode cX5_digest 200 = .ok (.aload_n 0, 1) := by decide +kernel
theorem dX5_digest_201 : decode cX5_digest 201 = .ok (.getfield 89, 3) := by decide +kernel
theorem dX5_digest_204 : decode cX5_digest 204 = .ok (.i2l, 1) := by decide +kernel
theorem dX5_digest_205 : decode cX5_digest 205 = .ok (.invokevirtual 172, 3) := by decide +kernel
theorem dX5_digest_208 : decode cX5_digest 208 = .ok (.iconst 0, 1) := by decide +kernel
theorem dX5_digest_209 : decode cX5_digest 209 = .ok (.istore_n 1, 1) := by decide +kernel
theorem dX5_digest_210 : decode cX5_digest 210 = .ok (.iload_n 1, 1) := by decide +kernel
theorem dX5_digest_211 : decode cX5_digest 211 = .ok (.aload_n 0, 1) := by decide +kernel
theorem dX5_digest_212 : decode cX5_digest 212 = .ok (.getfield 89, 3) := by decide +kernel
theorem dX5_digest_215 : decode cX5_digest 215 = .ok (.if_icmp .ge 20, 3) := by decide +kernel
theorem dX5_digest_218 : decode cX5_digest 218 = .ok (.aload_n 0, 1) := by decide +kernel
theorem dX5_digest_219 : decode cX5_digest 219 = .ok (.aload_n 0, 1) := by decide +kernel
theorem dX5_digest_220 : decode cX5_digest 220 = .ok (.getfield 26, 3) := by decide +kernel
theorem dX5_digest_223 : decode cX5_digest 223 = .ok (.iload_n 1, 1) := by decide +kernel
theorem dX5_digest_224 : decode cX5_digest 224 = .ok (.iaload, 1) := by decide +kernel
theorem dX5_digest_225 : decode cX5_digest 225 = .ok (.i2l, 1) := by decide +kernel
theorem dX5_digest_226 : decode cX5_digest 226 = .ok (.invokevirtual 172, 3) := by decide +kernel
theorem dX5_digest_229 : decode cX5_digest 229 = .ok (.iinc 1 1, 3) := by decide +kernel
theorem dX5_digest_232 : decode cX5_digest 232 = .ok (.goto (-22), 3) := by decide +kernel
theorem dX5_digest_235 : decode cX5_digest 235 = .ok (.aload_n 0, 1) := by decide +kernel
theorem dX5_digest_236 : decode cX5_digest 236 = .ok (.getfield 168, 3) := by decide +kernel
theorem dX5_digest_239 : decode cX5_digest 239 = .ok (.lreturn, 1) := by decide +kernel
theorem dJ6_bitCount_0f7a4_0 : decode cJ6_bitCount_0f7a4 0 = .ok (.iload_n 0, 1) := by decide +kernel
theorem dJ6_bitCount_0f7a4_1 : decode cJ6_bitCount_0f7a4 1 = .ok (.iload_n 0, 1) := by decide +kernel
theorem dJ6_bitCount_0f7a4_2 : decode cJ6_bitCount_0f7a4 2 = .ok (.iconst 1, 1) := by decide +kernel
theorem dJ6_bitCount_0f7a4_3 : decode cJ6_bitCount_0f7a4 3 = .ok (.iushr, 1) := by decide +kernel
theorem dJ6_bitCount_0f7a4_4 : decode cJ6_bitCount_0f7a4 4 = .ok (.ldc_w 265, 3) := by decide +kernel
theorem dJ6_bitCount_0f7a4_7 : decode cJ6_bitCount_0f7a4 7 = .ok (.iand, 1) := by decide +kernel
theorem dJ6_bitCount_0f7a4_8 : decode cJ6_bitCount_0f7a4 8 = .ok (.isub, 1) := by decide +kernel
theorem dJ6_bitCount_0f7a4_9 : decode cJ6_bitCount_0f7a4 9 = .ok (.istore_n 0, 1) := by decide +kernel
theorem dJ6_bitCount_0f7a4_10 : decode cJ6_bitCount_0f7a4 10 = .ok (.iload_n 0, 1) := by decide +kernel
theorem dJ6_bitCount_0f7a4_11 : decode cJ6_bitCount_0f7a4 11 = .ok (.ldc_w 266, 3) := by decide +kernel
theorem dJ6_bitCount_0f7a4_14 : decode cJ6_bitCount_0f7a4 14 = .ok (.iand, 1) := by decide +kernel
theorem dJ6_bitCount_0f7a4_15 : decode cJ6_bitCount_0f7a4 15 = .ok (.iload_n 0, 1) := by decide +kernel
theorem dJ6_bitCount_0f7a4_16 : decode cJ6_bitCount_0f7a4 16 = .ok (.iconst 2, 1) := by decide +kernel
theorem dJ6_bitCount_0f7a4_17 : decode cJ6_bitCount_0f7a4 17 = .ok (.iushr, 1) := by decide +kernel
theorem dJ6_bitCount_0f7a4_18 : decode cJ6_bitCount_0f7a4 18 = .ok (.ldc_w 266, 3) := by decide +kernel
theorem dJ6_bitCount_0f7a4_21 : decode cJ6_bitCount_0f7a4 21 = .ok (.iand, 1) := by decide +kernel
theorem dJ6_bitCount_0f7a4_22 : decode cJ6_bitCount_0f7a4 22 = .ok (.iadd, 1) := by decide +kernel
theorem dJ6_bitCount_0f7a4_23 : decode cJ6_bitCount_0f7a4 23 = .ok (.istore_n 0, 1) := by decide +kernel
theorem dJ6_bitCount_0f7a4_24 : decode cJ6_bitCount_0f7a4 24 = .ok (.iload_n 0, 1) := by decide +kernel
theorem dJ6_bitCount_0f7a4_25 : decode cJ6_bitCount_0f7a4 25 = .ok (.iload_n 0, 1) := by decide +kernel
theorem dJ6_bitCount_0f7a4_26 : decode cJ6_bitCount_0f7a4 26 = .ok (.iconst 4, 1) := by decide +kernel
theorem dJ6_bitCount_0f7a4_27 : decode cJ6_bitCount_0f7a4 27 = .ok (.iushr, 1) := by decide +kernel
theorem dJ6_bitCount_0f7a4_28 : decode cJ6_bitCount_0f7a4 28 = .ok (.iadd, 1) := by decide +kernel
theorem dJ6_bitCount_0f7a4_29 : decode cJ6_bitCount_0f7a4 29 = .ok (.ldc_w 267, 3) := by decide +kernel
theorem dJ6_bitCount_0f7a4_32 : decode cJ6_bitCount_0f7a4 32 = .ok (.iand, 1) := by decide +kernel
theorem dJ6_bitCount_0f7a4_33 : decode cJ6_bitCount_0f7a4 33 = .ok (.istore_n 0, 1) := by decide +kernel
theorem dJ6_bitCount_0f7a4_34 : decode cJ6_bitCount_0f7a4 34 = .ok (.iload_n 0, 1) := by decide +kernel
theorem dJ6_bitCount_0f7a4_35 : decode cJ6_bitCount_0f7a4 35 = .ok (.iload_n 0, 1) := by decide +kernel
theorem dJ6_bitCount_0f7a4_36 : decode cJ6_bitCount_0f7a4 36 = .ok (.bipush 8, 2) := by decide +kernel
theorem dJ6_bitCount_0f7a4_38 : decode cJ6_bitCount_0f7a4 38 = .ok (.iushr, 1) := by decide +kernel
theorem dJ6_bitCount_0f7a4_39 : decode cJ6_bitCount_0f7a4 39 = .ok (.iadd, 1) := by decide +kernel
theorem dJ6_bitCount_0f7a4_40 : decode cJ6_bitCount_0f7a4 40 = .ok (.istore_n 0, 1) := by decide +kernel
theorem dJ6_bitCount_0f7a4_41 : decode cJ6_bitCount_0f7a4 41 = .ok (.iload_n 0, 1) := by decide +kernel
theorem dJ6_bitCount_0f7a4_42 : decode cJ6_bitCount_0f7a4 42 = .ok (.iload_n 0, 1) := by decide +kernel
theorem dJ6_bitCount_0f7a4_43 : decode cJ6_bitCount_0f7a4 43 = .ok (.bipush 16, 2) := by decide +kernel
theorem dJ6_bitCount_0f7a4_45 : decode cJ6_bitCount_0f7a4 45 = .ok (.iushr, 1) := by decide +kernel
theorem dJ6_bitCount_0f7a4_46 : decode cJ6_bitCount_0f7a4 46 = .ok (.iadd, 1) := by decide +kernel
theorem dJ6_bitCount_0f7a4_47 : decode cJ6_bitCount_0f7a4 47 = .ok (.istore_n 0, 1) := by decide +kernel
theorem dJ6_bitCount_0f7a4_48 : decode cJ6_bitCount_0f7a4 48 = .ok (.iload_n 0, 1) := by decide +kernel
theorem dJ6_bitCount_0f7a4_49 : decode cJ6_bitCount_0f7a4 49 = .ok (.bipush 63, 2) := by decide +kernel
theorem dJ6_bitCount_0f7a4_51 : decode cJ6_bitCount_0f7a4 51 = .ok (.iand, 1) := by decide +kernel
theorem dJ6_bitCount_0f7a4_52 : decode cJ6_bitCount_0f7a4 52 = .ok (.ireturn, 1) := by decide +kernel
set_option maxRecDepth 20000 in
theorem ggL_cover_X4_cover : GoodIn wsL_cover wsX4_cover := goodIn_ca (goodIn_ca (goodIn_r _ [7, 8, 9, 10, 11, 12, 13, 14, 15, 6, 16, 17, 18, 19, 20, 21, 22, 23, 24, 25, 26, 27, 28, 29, 30, 31, 32, 33, 34, 35, 36, 37, 38, 39, 40, 41, 42, 43, 44, 45, 46, 47, 48, 49, 50, 51, 52, 53, 54, 55, 56, 57, 58, 59, 60, 61, 62, 63, 64, 65, 66, 67, 68, 69, 70, 71] (by decide +kernel) (by decide +kernel)) (goodIn_sub (fun _ h => List.mem_cons_of_mem _ (List.mem_append_left _ (List.mem_append_right _ h))) (by decide +kernel))) (goodIn_sub (fun _ h => List.mem_cons_of_mem _ (List.mem_append_right _ h)) (by decide +kernel))
set_option maxRecDepth 20000 in
theorem gL_cover_X4_cover : GoodIn wsL_cover (wsV RL 7 RX4 yX4_cover wsX4_cover) := goodIn_app (goodIn_of _ (by decide +kernel)) ggL_cover_X4_cover
theorem dL_cover_0 : decode cL_cover 0 = .ok (.aload_n 3, 1) := by decide +kernel
theorem dL_cover_1 : decode cL_cover 1 = .ok (.iconst 0, 1) := by decide +kernel
theorem dL_cover_2 : decode cL_cover 2 = .ok (.aload_n 0, 1) := by decide +kernel
theorem dL_cover_3 : decode cL_cover 3 = .ok (.iload_n 1, 1) := by decide +kernel
theorem dL_cover_4 : decode cL_cover 4 = .ok (.iload_n 2, 1) := by decide +kernel
theorem dL_cover_5 : decode cL_cover 5 = .ok (.invokevirtual 7, 3) := by decide +kernel
theorem dL_cover_8 : decode cL_cover 8 = .ok (.i2l, 1) := by decide +kernel
theorem dL_cover_9 : decode cL_cover 9 = .ok (.lastore, 1) := by decide +kernel
theorem dL_cover_10 : decode cL_cover 10 = .ok (.goto 11, 3) := by decide +kernel
theorem dL_cover_13 : decode cL_cover 13 = .ok (.astore 4, 2) := by decide +kernel
theorem dL_cover_15 : decode cL_cover 15 = .ok (.iconst 1, 1) := by decide +kernel
theorem dL_cover_16 : decode cL_cover 16 = .ok (.ireturn, 1) := by decide +kernel
theorem dL_cover_17 : decode cL_cover 17 = .ok (.astore 4, 2) := by decide +kernel
theorem dL_cover_19 : decode cL_cover 19 = .ok (.iconst 2, 1) := by decide +kernel
theorem dL_cover_20 : decode cL_cover 20 = .ok (.ireturn, 1) := by decide +kernel
theorem dL_cover_21 : decode cL_cover 21 = .ok (.iconst 0, 1) := by decide +kernel
theorem dL_cover_22 : decode cL_cover 22 = .ok (.ireturn, 1) := by decide +kernel
set_option maxRecDepth 20000 in
theorem ggL_join_X4_join : GoodIn wsL_join wsX4_join := goodIn_ca (goodIn_ca (goodIn_r _ [7, 8, 9, 10, 11, 12, 13, 14, 15, 6, 16, 17, 18, 19, 20, 21, 22, 23, 24, 25, 26, 27, 28, 29, 30, 31, 32, 33, 34, 35, 36, 37, 38, 39, 40, 41, 42, 43, 44, 45, 46, 47, 48, 49, 50, 51, 52, 53, 54, 55, 56, 57, 58, 59, 60, 61, 62, 63, 64, 65, 66, 67, 68, 69, 70, 71, 72, 73, 74] (by decide +kernel) (by decide +kernel)) (goodIn_sub (fun _ h => List.mem_cons_of_mem _ (List.mem_append_left _ (List.mem_append_right _ h))) (by decide +kernel))) (goodIn_sub (fun _ h => List.mem_cons_of_mem _ (List.mem_append_right _ h)) (by decide +kernel))
set_option maxRecDepth 20000 in
theorem gL_join_X4_join : GoodIn wsL_join (wsV RL 17 RX4 yX4_join wsX4_join) := goodIn_app (goodIn_of _ (by decide +kernel)) ggL_join_X4_join
theorem dL_join_0 : decode cL_join 0 = .ok (.aload_n 3, 1) := by decide +kernel
theorem dL_join_1 : decode cL_join 1 = .ok (.iconst 0, 1) := by decide +kernel
theorem dL_join_2 : decode cL_join 2 = .ok (.aload_n 0, 1) := by decide +kernel
theorem dL_join_3 : decode cL_join 3 = .ok (.iload_n 1, 1) := by decide +kernel
theorem dL_join_4 : decode cL_join 4 = .ok (.iload_n 2, 1) := by decide +kernel
theorem dL_join_5 : decode cL_join 5 = .ok (.invokevirtual 17, 3) := by decide +kernel
theorem dL_join_8 : decode cL_join 8 = .ok (.i2l, 1) := by decide +kernel
theorem dL_join_9 : decode cL_join 9 = .ok (.lastore, 1) := by decide +kernel
theorem dL_join_10 : decode cL_join 10 = .ok (.goto 11, 3) := by decide +kernel
theorem dL_join_13 : decode cL_join 13 = .ok (.astore 4, 2) := by decide +kernel
theorem dL_join_15 : decode cL_join 15 = .ok (.iconst 1, 1) := by decide +kernel
theorem dL_join_16 : decode cL_join 16 = .ok (.ireturn, 1) := by decide +kernel
theorem dL_join_17 : decode cL_join 17 = .ok (.astore 4, 2) := by decide +kernel
theorem dL_join_19 : decode cL_join 19 = .ok (.iconst 2, 1) := by decide +kernel
theorem dL_join_20 : decode cL_join 20 = .ok (.ireturn, 1) := by decide +kernel
theorem dL_join_21 : decode cL_join 21 = .ok (.iconst 0, 1) := by decide +kernel
theorem dL_join_22 : decode cL_join 22 = .ok (.ireturn, 1) := by decide +kernel
set_option maxRecDepth 20000 in
theorem ggL_mark_X4_mark : GoodIn wsL_mark wsX4_mark := goodIn_ca (goodIn_ca (goodIn_r _ [7, 8, 9, 10, 11, 12, 13, 14, 15, 6, 16, 17, 18, 19, 20, 21, 22, 23, 24, 25, 26, 27, 28, 29, 30, 31, 32, 33, 34, 35, 36, 37, 38, 39, 40, 41, 42, 43, 44, 45, 46, 47, 48, 49, 50, 51, 52, 53, 54, 55, 56, 57, 58, 59, 60, 61, 62, 63, 64, 65, 66, 67, 68, 69, 70, 71] (by decide +kernel) (by decide +kernel)) (goodIn_sub (fun _ h => List.mem_cons_of_mem _ (List.mem_append_left _ (List.mem_append_right _ h))) (by decide +kernel))) (goodIn_sub (fun _ h => List.mem_cons_of_mem _ (List.mem_append_right _ h)) (by decide +kernel))
set_option maxRecDepth 20000 in
theorem gL_mark_X4_mark : GoodIn wsL_mark (wsV RL 20 RX4 yX4_mark wsX4_mark) := goodIn_app (goodIn_of _ (by decide +kernel)) ggL_mark_X4_mark
theorem dL_mark_0 : decode cL_mark 0 = .ok (.aload_n 3, 1) := by decide +kernel
theorem dL_mark_1 : decode cL_mark 1 = .ok (.iconst 0, 1) := by decide +kernel
theorem dL_mark_2 : decode cL_mark 2 = .ok (.aload_n 0, 1) := by decide +kernel
theorem dL_mark_3 : decode cL_mark 3 = .ok (.iload_n 1, 1) := by decide +kernel
theorem dL_mark_4 : decode cL_mark 4 = .ok (.iload_n 2, 1) := by decide +kernel
theorem dL_mark_5 : decode cL_mark 5 = .ok (.invokevirtual 20, 3) := by decide +kernel
theorem dL_mark_8 : decode cL_mark 8 = .ok (.i2l, 1) := by decide +kernel
theorem dL_mark_9 : decode cL_mark 9 = .ok (.lastore, 1) := by decide +kernel
theorem dL_mark_10 : decode cL_mark 10 = .ok (.goto 11, 3) := by decide +kernel
theorem dL_mark_13 : decode cL_mark 13 = .ok (.astore 4, 2) := by decide +kernel
theorem dL_mark_15 : decode cL_mark 15 = .ok (.iconst 1, 1) := by decide +kernel
theorem dL_mark_16 : decode cL_mark 16 = .ok (.ireturn, 1) := by decide +kernel
theorem dL_mark_17 : decode cL_mark 17 = .ok (.astore 4, 2) := by decide +kernel
theorem dL_mark_19 : decode cL_mark 19 = .ok (.iconst 2, 1) := by decide +kernel
theorem dL_mark_20 : decode cL_mark 20 = .ok (.ireturn, 1) := by decide +kernel
theorem dL_mark_21 : decode cL_mark 21 = .ok (.iconst 0, 1) := by decide +kernel
theorem dL_mark_22 : decode cL_mark 22 = .ok (.ireturn, 1) := by decide +kernel
set_option maxRecDepth 20000 in
theorem ggL_bar_X4_bar : GoodIn wsL_bar wsX4_bar := goodIn_ca (goodIn_ca (goodIn_r _ [7, 8, 9, 10, 11, 12, 13, 14, 15, 6, 16, 17, 18, 19, 20, 21, 22, 23, 24, 25, 26, 27, 28, 29, 30, 31, 32, 33, 34, 35, 36, 37, 38, 39, 40, 41, 42, 43, 44, 45, 46, 47, 48, 49, 50, 51, 52, 53, 54, 55, 56, 57, 58, 59, 60, 61, 62, 63, 64, 65, 66, 67, 68, 69, 70, 71, 72, 73, 74] (by decide +kernel) (by decide +kernel)) (goodIn_sub (fun _ h => List.mem_cons_of_mem _ (List.mem_append_left _ (List.mem_append_right _ h))) (by decide +kernel))) (goodIn_sub (fun _ h => List.mem_cons_of_mem _ (List.mem_append_right _ h)) (by decide +kernel))
set_option maxRecDepth 20000 in
theorem gL_bar_X4_bar : GoodIn wsL_bar (wsV RL 23 RX4 yX4_bar wsX4_bar) := goodIn_app (goodIn_of _ (by decide +kernel)) ggL_bar_X4_bar
theorem dL_bar_0 : decode cL_bar 0 = .ok (.aload_n 3, 1) := by decide +kernel
theorem dL_bar_1 : decode cL_bar 1 = .ok (.iconst 0, 1) := by decide +kernel
theorem dL_bar_2 : decode cL_bar 2 = .ok (.aload_n 0, 1) := by decide +kernel
theorem dL_bar_3 : decode cL_bar 3 = .ok (.iload_n 1, 1) := by decide +kernel
theorem dL_bar_4 : decode cL_bar 4 = .ok (.iload_n 2, 1) := by decide +kernel
theorem dL_bar_5 : decode cL_bar 5 = .ok (.invokevirtual 23, 3) := by decide +kernel
theorem dL_bar_8 : decode cL_bar 8 = .ok (.i2l, 1) := by decide +kernel
theorem dL_bar_9 : decode cL_bar 9 = .ok (.lastore, 1) := by decide +kernel
theorem dL_bar_10 : decode cL_bar 10 = .ok (.goto 11, 3) := by decide +kernel
theorem dL_bar_13 : decode cL_bar 13 = .ok (.astore 4, 2) := by decide +kernel
