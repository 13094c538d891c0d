theorem dX0_init_0 : decode cX0_init 0 = .ok (.aload_n 0, 1) := by decide +kernel
theorem dX0_init_1 : decode cX0_init 1 = .ok (.invokespecial 3, 3) := by decide +kernel
theorem dX0_init_4 : decode cX0_init 4 = .ok (.aload_n 0, 1) := by decide +kernel
theorem dX0_init_5 : decode cX0_init 5 = .ok (.bipush 9, 2) := by decide +kernel
theorem dX0_init_7 : decode cX0_init 7 = .ok (.newarray .int, 2) := by decide +kernel
theorem dX0_init_9 : decode cX0_init 9 = .ok (.putfield 9, 3) := by decide +kernel
theorem dX0_init_12 : decode cX0_init 12 = .ok (.aload_n 0, 1) := by decide +kernel
theorem dX0_init_13 : decode cX0_init 13 = .ok (.bipush 9, 2) := by decide +kernel
theorem dX0_init_15 : decode cX0_init 15 = .ok (.newarray .int, 2) := by decide +kernel
theorem dX0_init_17 : decode cX0_init 17 = .ok (.putfield 15, 3) := by decide +kernel
theorem dX0_init_20 : decode cX0_init 20 = .ok (.return_, 1) := by decide +kernel
set_option maxRecDepth 20000 in
theorem ggX0_findBehind_X4_bit : GoodIn wsX0_findBehind wsX4_bit := goodIn_r _ [5] (by decide +kernel) (by decide +kernel)
set_option maxRecDepth 20000 in
theorem gX0_findBehind_X4_bit_n23 : GoodIn wsX0_findBehind (wsX4_bit) := ggX0_findBehind_X4_bit
theorem dX0_findBehind_0 : decode cX0_findBehind 0 = .ok (.bipush 8, 2) := by decide +kernel
theorem dX0_findBehind_2 : decode cX0_findBehind 2 = .ok (.istore_n 2, 1) := by decide +kernel
theorem dX0_findBehind_3 : decode cX0_findBehind 3 = .ok (.iload_n 2, 1) := by decide +kernel
theorem dX0_findBehind_4 : decode cX0_findBehind 4 = .ok (.ifCond .lt 66, 3) := by decide +kernel
theorem dX0_findBehind_7 : decode cX0_findBehind 7 = .ok (.aload_n 0, 1) := by decide +kernel
theorem dX0_findBehind_8 : decode cX0_findBehind 8 = .ok (.getfield 9, 3) := by decide +kernel
theorem dX0_findBehind_11 : decode cX0_findBehind 11 = .ok (.iload_n 2, 1) := by decide +kernel
theorem dX0_findBehind_12 : decode cX0_findBehind 12 = .ok (.aload_n 1, 1) := by decide +kernel
theorem dX0_findBehind_13 : decode cX0_findBehind 13 = .ok (.getfield 18, 3) := by decide +kernel
theorem dX0_findBehind_16 : decode cX0_findBehind 16 = .ok (.iload_n 2, 1) := by decide +kernel
theorem dX0_findBehind_17 : decode cX0_findBehind 17 = .ok (.iaload, 1) := by decide +kernel
theorem dX0_findBehind_18 : decode cX0_findBehind 18 = .ok (.iastore, 1) := by decide +kernel
theorem dX0_findBehind_19 : decode cX0_findBehind 19 = .ok (.iload_n 2, 1) := by decide +kernel
theorem dX0_findBehind_20 : decode cX0_findBehind 20 = .ok (.iconst 1, 1) := by decide +kernel
theorem dX0_findBehind_21 : decode cX0_findBehind 21 = .ok (.iadd, 1) := by decide +kernel
theorem dX0_findBehind_22 : decode cX0_findBehind 22 = .ok (.istore_n 3, 1) := by decide +kernel
theorem dX0_findBehind_23 : decode cX0_findBehind 23 = .ok (.iload_n 3, 1) := by decide +kernel
theorem dX0_findBehind_24 : decode cX0_findBehind 24 = .ok (.bipush 9, 2) := by decide +kernel
theorem dX0_findBehind_26 : decode cX0_findBehind 26 = .ok (.if_icmp .ge 38, 3) := by decide +kernel
theorem dX0_findBehind_29 : decode cX0_findBehind 29 = .ok (.aload_n 1, 1) := by decide +kernel
theorem dX0_findBehind_30 : decode cX0_findBehind 30 = .ok (.getfield 18, 3) := by decide +kernel
theorem dX0_findBehind_33 : decode cX0_findBehind 33 = .ok (.iload_n 2, 1) := by decide +kernel
theorem dX0_findBehind_34 : decode cX0_findBehind 34 = .ok (.iaload, 1) := by decide +kernel
theorem dX0_findBehind_35 : decode cX0_findBehind 35 = .ok (.iload_n 3, 1) := by decide +kernel
theorem dX0_findBehind_36 : decode cX0_findBehind 36 = .ok (.invokestatic 23, 3) := by decide +kernel
theorem dX0_findBehind_39 : decode cX0_findBehind 39 = .ok (.iconst 1, 1) := by decide +kernel
theorem dX0_findBehind_40 : decode cX0_findBehind 40 = .ok (.if_icmp .ne 18, 3) := by decide +kernel
theorem dX0_findBehind_43 : decode cX0_findBehind 43 = .ok (.aload_n 0, 1) := by decide +kernel
theorem dX0_findBehind_44 : decode cX0_findBehind 44 = .ok (.getfield 9, 3) := by decide +kernel
theorem dX0_findBehind_47 : decode cX0_findBehind 47 = .ok (.iload_n 2, 1) := by decide +kernel
theorem dX0_findBehind_48 : decode cX0_findBehind 48 = .ok (.dup2, 1) := by decide +kernel
theorem dX0_findBehind_49 : decode cX0_findBehind 49 = .ok (.iaload, 1) := by decide +kernel
theorem dX0_findBehind_50 : decode cX0_findBehind 50 = .ok (.aload_n 0, 1) := by decide +kernel
theorem dX0_findBehind_51 : decode cX0_findBehind 51 = .ok (.getfield 9, 3) := by decide +kernel
theorem dX0_findBehind_54 : decode cX0_findBehind 54 = .ok (.iload_n 3, 1) := by decide +kernel
theorem dX0_findBehind_55 : decode cX0_findBehind 55 = .ok (.iaload, 1) := by decide +kernel
theorem dX0_findBehind_56 : decode cX0_findBehind 56 = .ok (.ior, 1) := by decide +kernel
theorem dX0_findBehind_57 : decode cX0_findBehind 57 = .ok (.iastore, 1) := by decide +kernel
theorem dX0_findBehind_58 : decode cX0_findBehind 58 = .ok (.iinc 3 1, 3) := by decide +kernel
theorem dX0_findBehind_61 : decode cX0_findBehind 61 = .ok (.goto (-38), 3) := by decide +kernel
theorem dX0_findBehind_64 : decode cX0_findBehind 64 = .ok (.iinc 2 (-1), 3) := by decide +kernel
theorem dX0_findBehind_67 : decode cX0_findBehind 67 = .ok (.goto (-64), 3) := by decide +kernel
theorem dX0_findBehind_70 : decode cX0_findBehind 70 = .ok (.return_, 1) := by decide +kernel
set_option maxRecDepth 20000 in
theorem ggX0_countByPairing_X0_findPartner : GoodIn wsX0_countByPairing wsX0_findPartner := goodIn_r _ [6, 7, 2, 1, 8, 9, 10, 11, 12, 3, 4, 5, 13, 14, 15] (by decide +kernel) (by decide +kernel)
set_option maxRecDepth 20000 in
theorem gX0_countByPairing_X0_findPartner : GoodIn wsX0_countByPairing (va_wsS RX0 31 yX0_findPartner wsX0_findPartner) := goodIn_app (goodIn_of _ (by decide +kernel)) ggX0_countByPairing_X0_findPartner
theorem dX0_countByPairing_0 : decode cX0_countByPairing 0 = .ok (.iconst 0, 1) := by decide +kernel
theorem dX0_countByPairing_1 : decode cX0_countByPairing 1 = .ok (.istore_n 1, 1) := by decide +kernel
theorem dX0_countByPairing_2 : decode cX0_countByPairing 2 = .ok (.iload_n 1, 1) := by decide +kernel
theorem dX0_countByPairing_3 : decode cX0_countByPairing 3 = .ok (.bipush 9, 2) := by decide +kernel
theorem dX0_countByPairing_5 : decode cX0_countByPairing 5 = .ok (.if_icmp .ge 16, 3) := by decide +kernel
theorem dX0_countByPairing_8 : decode cX0_countByPairing 8 = .ok (.aload_n 0, 1) := by decide +kernel
theorem dX0_countByPairing_9 : decode cX0_countByPairing 9 = .ok (.getfield 15, 3) := by decide +kernel
theorem dX0_countByPairing_12 : decode cX0_countByPairing 12 = .ok (.iload_n 1, 1) := by decide +kernel
theorem dX0_countByPairing_13 : decode cX0_countByPairing 13 = .ok (.iconst (-1), 1) := by decide +kernel
theorem dX0_countByPairing_14 : decode cX0_countByPairing 14 = .ok (.iastore, 1) := by decide +kernel
theorem dX0_countByPairing_15 : decode cX0_countByPairing 15 = .ok (.iinc 1 1, 3) := by decide +kernel
theorem dX0_countByPairing_18 : decode cX0_countByPairing 18 = .ok (.goto (-16), 3) := by decide +kernel
theorem dX0_countByPairing_21 : decode cX0_countByPairing 21 = .ok (.bipush 9, 2) := by decide +kernel
theorem dX0_countByPairing_23 : decode cX0_countByPairing 23 = .ok (.istore_n 1, 1) := by decide +kernel
theorem dX0_countByPairing_24 : decode cX0_countByPairing 24 = .ok (.iconst 0, 1) := by decide +kernel
theorem dX0_countByPairing_25 : decode cX0_countByPairing 25 = .ok (.istore_n 2, 1) := by decide +kernel
theorem dX0_countByPairing_26 : decode cX0_countByPairing 26 = .ok (.iload_n 2, 1) := by decide +kernel
theorem dX0_countByPairing_27 : decode cX0_countByPairing 27 = .ok (.bipush 9, 2) := by decide +kernel
theorem dX0_countByPairing_29 : decode cX0_countByPairing 29 = .ok (.if_icmp .ge 26, 3) := by decide +kernel
theorem dX0_countByPairing_32 : decode cX0_countByPairing 32 = .ok (.aload_n 0, 1) := by decide +kernel
theorem dX0_countByPairing_33 : decode cX0_countByPairing 33 = .ok (.iconst 0, 1) := by decide +kernel
theorem dX0_countByPairing_34 : decode cX0_countByPairing 34 = .ok (.putfield 27, 3) := by decide +kernel
theorem dX0_countByPairing_37 : decode cX0_countByPairing 37 = .ok (.aload_n 0, 1) := by decide +kernel
theorem dX0_countByPairing_38 : decode cX0_countByPairing 38 = .ok (.iload_n 2, 1) := by decide +kernel
theorem dX0_countByPairing_39 : decode cX0_countByPairing 39 = .ok (.iconst 0, 1) := by decide +kernel
theorem dX0_countByPairing_40 : decode cX0_countByPairing 40 = .ok (.invokestatic 31, 3) := by decide +kernel
theorem dX0_countByPairing_43 : decode cX0_countByPairing 43 = .ok (.ifCond .eq 6, 3) := by decide +kernel
theorem dX0_countByPairing_46 : decode cX0_countByPairing 46 = .ok (.iinc 1 (-1), 3) := by decide +kernel
theorem dX0_countByPairing_49 : decode cX0_countByPairing 49 = .ok (.iinc 2 1, 3) := by decide +kernel
theorem dX0_countByPairing_52 : decode cX0_countByPairing 52 = .ok (.goto (-26), 3) := by decide +kernel
theorem dX0_countByPairing_55 : decode cX0_countByPairing 55 = .ok (.iload_n 1, 1) := by decide +kernel
theorem dX0_countByPairing_56 : decode cX0_countByPairing 56 = .ok (.ireturn, 1) := by decide +kernel
set_option maxRecDepth 20000 in
theorem ggX0_findPartner_X4_isPiece : GoodIn wsX0_findPartner wsX4_isPiece := goodIn_r _ [6] (by decide +kernel) (by decide +kernel)
set_option maxRecDepth 20000 in
theorem gX0_findPartner_X4_isPiece_n35 : GoodIn wsX0_findPartner (wsX4_isPiece) := ggX0_findPartner_X4_isPiece
set_option maxRecDepth 20000 in
theorem ggX0_findPartner_X4_bit : GoodIn wsX0_findPartner wsX4_bit := goodIn_r _ [8] (by decide +kernel) (by decide +kernel)
set_option maxRecDepth 20000 in
theorem gX0_findPartner_X4_bit_n23 : GoodIn wsX0_findPartner (wsX4_bit) := ggX0_findPartner_X4_bit
set_option maxRecDepth 20000 in
theorem ggX0_findPartner_X0_findPartner : GoodIn wsX0_findPartner wsX0_findPartner := goodIn_r _ [0, 1, 2, 3, 4, 5, 6, 7, 8, 9, 10, 11, 12, 13, 14] (by decide +kernel) (by decide +kernel)
set_option maxRecDepth 20000 in
theorem gX0_findPartner_X0_findPartner : GoodIn wsX0_findPartner (va_wsS RX0 31 yX0_findPartner wsX0_findPartner) := goodIn_app (goodIn_of _ (by decide +kernel)) ggX0_findPartner_X0_findPartner
theorem dX0_findPartner_0 : decode cX0_findPartner 0 = .ok (.iload_n 1, 1) := by decide +kernel
theorem dX0_findPartner_1 : decode cX0_findPartner 1 = .ok (.invokestatic 35, 3) := by decide +kernel
theorem dX0_findPartner_4 : decode cX0_findPartner 4 = .ok (.ifCond .eq 9, 3) := by decide +kernel
theorem dX0_findPartner_7 : decode cX0_findPartner 7 = .ok (.iload_n 2, 1) := by decide +kernel
theorem dX0_findPartner_8 : decode cX0_findPartner 8 = .ok (.bipush 9, 2) := by decide +kernel
theorem dX0_findPartner_10 : decode cX0_findPartner 10 = .ok (.if_icmp .lt 5, 3) := by decide +kernel
theorem dX0_findPartner_13 : decode cX0_findPartner 13 = .ok (.iconst 0, 1) := by decide +kernel
theorem dX0_findPartner_14 : decode cX0_findPartner 14 = .ok (.ireturn, 1) := by decide +kernel
theorem dX0_findPartner_15 : decode cX0_findPartner 15 = .ok (.iconst 0, 1) := by decide +kernel
theorem dX0_findPartner_16 : decode cX0_findPartner 16 = .ok (.istore_n 3, 1) := by decide +kernel
theorem dX0_findPartner_17 : decode cX0_findPartner 17 = .ok (.iload_n 3, 1) := by decide +kernel
theorem dX0_findPartner_18 : decode cX0_findPartner 18 = .ok (.bipush 9, 2) := by decide +kernel
theorem dX0_findPartner_20 : decode cX0_findPartner 20 = .ok (.if_icmp .ge 77, 3) := by decide +kernel
theorem dX0_findPartner_23 : decode cX0_findPartner 23 = .ok (.aload_n 0, 1) := by decide +kernel
theorem dX0_findPartner_24 : decode cX0_findPartner 24 = .ok (.getfield 9, 3) := by decide +kernel
theorem dX0_findPartner_27 : decode cX0_findPartner 27 = .ok (.iload_n 1, 1) := by decide +kernel
theorem dX0_findPartner_28 : decode cX0_findPartner 28 = .ok (.iaload, 1) := by decide +kernel
theorem dX0_findPartner_29 : decode cX0_findPartner 29 = .ok (.aload_n 0, 1) := by decide +kernel
theorem dX0_findPartner_30 : decode cX0_findPartner 30 = .ok (.getfield 27, 3) := by decide +kernel
theorem dX0_findPartner_33 : decode cX0_findPartner 33 = .ok (.iconst (-1), 1) := by decide +kernel
theorem dX0_findPartner_34 : decode cX0_findPartner 34 = .ok (.ixor, 1) := by decide +kernel
theorem dX0_findPartner_35 : decode cX0_findPartner 35 = .ok (.iand, 1) := by decide +kernel
theorem dX0_findPartner_36 : decode cX0_findPartner 36 = .ok (.iload_n 3, 1) := by decide +kernel
theorem dX0_findPartner_37 : decode cX0_findPartner 37 = .ok (.invokestatic 23, 3) := by decide +kernel
theorem dX0_findPartner_40 : decode cX0_findPartner 40 = .ok (.iconst 1, 1) := by decide +kernel
theorem dX0_findPartner_41 : decode cX0_findPartner 41 = .ok (.if_icmp .ne 50, 3) := by decide +kernel
theorem dX0_findPartner_44 : decode cX0_findPartner 44 = .ok (.aload_n 0, 1) := by decide +kernel
theorem dX0_findPartner_45 : decode cX0_findPartner 45 = .ok (.dup, 1) := by decide +kernel
theorem dX0_findPartner_46 : decode cX0_findPartner 46 = .ok (.getfield 27, 3) := by decide +kernel
theorem dX0_findPartner_49 : decode cX0_findPartner 49 = .ok (.iconst 1, 1) := by decide +kernel
theorem dX0_findPartner_50 : decode cX0_findPartner 50 = .ok (.iload_n 3, 1) := by decide +kernel
theorem dX0_findPartner_51 : decode cX0_findPartner 51 = .ok (.ishl, 1) := by decide +kernel
theorem dX0_findPartner_52 : decode cX0_findPartner 52 = .ok (.ior, 1) := by decide +kernel
theorem dX0_findPartner_53 : decode cX0_findPartner 53 = .ok (.putfield 27, 3) := by decide +kernel
theorem dX0_findPartner_56 : decode cX0_findPartner 56 = .ok (.aload_n 0, 1) := by decide +kernel
theorem dX0_findPartner_57 : decode cX0_findPartner 57 = .ok (.getfield 15, 3) := by decide +kernel
theorem dX0_findPartner_60 : decode cX0_findPartner 60 = .ok (.iload_n 3, 1) := by decide +kernel
theorem dX0_findPartner_61 : decode cX0_findPartner 61 = .ok (.iaload, 1) := by decide +kernel
theorem dX0_findPartner_62 : decode cX0_findPartner 62 = .ok (.istore 4, 2) := by decide +kernel
theorem dX0_findPartner_64 : decode cX0_findPartner 64 = .ok (.iload 4, 2) := by decide +kernel
theorem dX0_findPartner_66 : decode cX0_findPartner 66 = .ok (.iconst (-1), 1) := by decide +kernel
theorem dX0_findPartner_67 : decode cX0_findPartner 67 = .ok (.if_icmp .eq 15, 3) := by decide +kernel
theorem dX0_findPartner_70 : decode cX0_findPartner 70 = .ok (.aload_n 0, 1) := by decide +kernel
theorem dX0_findPartner_71 : decode cX0_findPartner 71 = .ok (.iload 4, 2) := by decide +kernel
theorem dX0_findPartner_73 : decode cX0_findPartner 73 = .ok (.iload_n 2, 1) := by decide +kernel
theorem dX0_findPartner_74 : decode cX0_findPartner 74 = .ok (.iconst 1, 1) := by decide +kernel
theorem dX0_findPartner_75 : decode cX0_findPartner 75 = .ok (.iadd, 1) := by decide +kernel
theorem dX0_findPartner_76 : decode cX0_findPartner 76 = .ok (.invokestatic 31, 3) := by decide +kernel
theorem dX0_findPartner_79 : decode cX0_findPartner 79 = .ok (.ifCond .eq 12, 3) := by decide +kernel
theorem dX0_findPartner_82 : decode cX0_findPartner 82 = .ok (.aload_n 0, 1) := by decide +kernel
theorem dX0_findPartner_83 : decode cX0_findPartner 83 = .ok (.getfield 15, 3) := by decide +kernel
theorem dX0_findPartner_86 : decode cX0_findPartner 86 = .ok (.iload_n 3, 1) := by decide +kernel
theorem dX0_findPartner_87 : decode cX0_findPartner 87 = .ok (.iload_n 1, 1) := by decide +kernel
theorem dX0_findPartner_88 : decode cX0_findPartner 88 = .ok (.iastore, 1) := by decide +kernel
theorem dX0_findPartner_89 : decode cX0_findPartner 89 = .ok (.iconst 1, 1) := by decide +kernel
theorem dX0_findPartner_90 : decode cX0_findPartner 90 = .ok (.ireturn, 1) := by decide +kernel
theorem dX0_findPartner_91 : decode cX0_findPartner 91 = .ok (.iinc 3 1, 3) := by decide +kernel
theorem dX0_findPartner_94 : decode cX0_findPartner 94 = .ok (.goto (-77), 3) := by decide +kernel
theorem dX0_findPartner_97 : decode cX0_findPartner 97 = .ok (.iconst 0, 1) := by decide +kernel
theorem dX0_findPartner_98 : decode cX0_findPartner 98 = .ok (.ireturn, 1) := by decide +kernel
set_option maxRecDepth 20000 in
theorem ggX0_countBySets_J6_bitCount_0f7a4 : GoodIn wsX0_countBySets wsJ6_bitCount_0f7a4 := goodIn_r _ [4, 5, 6, 7] (by decide +kernel) (by decide +kernel)
set_option maxRecDepth 20000 in
theorem gX0_countBySets_J6_bitCount_0f7a4 : GoodIn wsX0_countBySets (va_wsS RX0 39 yJ6_bitCount_0f7a4 wsJ6_bitCount_0f7a4) := goodIn_app (goodIn_of _ (by decide +kernel)) ggX0_countBySets_J6_bitCount_0f7a4
set_option maxRecDepth 20000 in
theorem ggX0_countBySets_X0_hasNoneBehind : GoodIn wsX0_countBySets wsX0_hasNoneBehind := goodIn_r _ [12, 13, 14, 15, 16, 17, 18, 19] (by decide +kernel) (by decide +kernel)
set_option maxRecDepth 20000 in
theorem gX0_countBySets_X0_hasNoneBehind : GoodIn wsX0_countBySets (wsV RX0 45 RX0 yX0_hasNoneBehind wsX0_hasNoneBehind) := goodIn_app (goodIn_of _ (by decide +kernel)) ggX0_countBySets_X0_hasNoneBehind
theorem dX0_countBySets_0 : decode cX0_countBySets 0 = .ok (.iconst 0, 1) := by decide +kernel
theorem dX0_countBySets_1 : decode cX0_countBySets 1 = .ok (.istore_n 1, 1) := by decide +kernel
theorem dX0_countBySets_2 : decode cX0_countBySets 2 = .ok (.iconst 1, 1) := by decide +kernel
theorem dX0_countBySets_3 : decode cX0_countBySets 3 = .ok (.istore_n 2, 1) := by decide +kernel
theorem dX0_countBySets_4 : decode cX0_countBySets 4 = .ok (.iload_n 2, 1) := by decide +kernel
theorem dX0_countBySets_5 : decode cX0_countBySets 5 = .ok (.sipush 512, 3) := by decide +kernel
theorem dX0_countBySets_8 : decode cX0_countBySets 8 = .ok (.if_icmp .ge 29, 3) := by decide +kernel
theorem dX0_countBySets_11 : decode cX0_countBySets 11 = .ok (.iload_n 2, 1) := by decide +kernel
theorem dX0_countBySets_12 : decode cX0_countBySets 12 = .ok (.invokestatic 39, 3) := by decide +kernel
theorem dX0_countBySets_15 : decode cX0_countBySets 15 = .ok (.istore_n 3, 1) := by decide +kernel
theorem dX0_countBySets_16 : decode cX0_countBySets 16 = .ok (.iload_n 3, 1) := by decide +kernel
theorem dX0_countBySets_17 : decode cX0_countBySets 17 = .ok (.iload_n 1, 1) := by decide +kernel
theorem dX0_countBySets_18 : decode cX0_countBySets 18 = .ok (.if_icmp .le 13, 3) := by decide +kernel
theorem dX0_countBySets_21 : decode cX0_countBySets 21 = .ok (.aload_n 0, 1) := by decide +kernel
theorem dX0_countBySets_22 : decode cX0_countBySets 22 = .ok (.iload_n 2, 1) := by decide +kernel
theorem dX0_countBySets_23 : decode cX0_countBySets 23 = .ok (.invokevirtual 45, 3) := by decide +kernel
theorem dX0_countBySets_26 : decode cX0_countBySets 26 = .ok (.ifCond .eq 5, 3) := by decide +kernel
theorem dX0_countBySets_29 : decode cX0_countBySets 29 = .ok (.iload_n 3, 1) := by decide +kernel
theorem dX0_countBySets_30 : decode cX0_countBySets 30 = .ok (.istore_n 1, 1) := by decide +kernel
theorem dX0_countBySets_31 : decode cX0_countBySets 31 = .ok (.iinc 2 1, 3) := by decide +kernel
theorem dX0_countBySets_34 : decode cX0_countBySets 34 = .ok (.goto (-30), 3) := by decide +kernel
theorem dX0_countBySets_37 : decode cX0_countBySets 37 = .ok (.iload_n 1, 1) := by decide +kernel
theorem dX0_countBySets_38 : decode cX0_countBySets 38 = .ok (.ireturn, 1) := by decide +kernel
set_option maxRecDepth 20000 in
theorem ggX0_hasNoneBehind_X4_bit : GoodIn wsX0_hasNoneBehind wsX4_bit := goodIn_r _ [4] (by decide +kernel) (by decide +kernel)
set_option maxRecDepth 20000 in
theorem gX0_hasNoneBehind_X4_bit_n23 : GoodIn wsX0_hasNoneBehind (wsX4_bit) := ggX0_hasNoneBehind_X4_bit
theorem dX0_hasNoneBehind_0 : decode cX0_hasNoneBehind 0 = .ok (.iconst 0, 1) := by decide +kernel
theorem dX0_hasNoneBehind_1 : decode cX0_hasNoneBehind 1 = .ok (.istore_n 2, 1) := by decide +kernel
theorem dX0_hasNoneBehind_2 : decode cX0_hasNoneBehind 2 = .ok (.iload_n 2, 1) := by decide +kernel
theorem dX0_hasNoneBehind_3 : decode cX0_hasNoneBehind 3 = .ok (.bipush 9, 2) := by decide +kernel
theorem dX0_hasNoneBehind_5 : decode cX0_hasNoneBehind 5 = .ok (.if_icmp .ge 31, 3) := by decide +kernel
theorem dX0_hasNoneBehind_8 : decode cX0_hasNoneBehind 8 = .ok (.iload_n 1, 1) := by decide +kernel
theorem dX0_hasNoneBehind_9 : decode cX0_hasNoneBehind 9 = .ok (.iload_n 2, 1) := by decide +kernel
theorem dX0_hasNoneBehind_10 : decode cX0_hasNoneBehind 10 = .ok (.invokestatic 23, 3) := by decide +kernel
theorem dX0_hasNoneBehind_13 : decode cX0_hasNoneBehind 13 = .ok (.iconst 1, 1) := by decide +kernel
theorem dX0_hasNoneBehind_14 : decode cX0_hasNoneBehind 14 = .ok (.if_icmp .ne 16, 3) := by decide +kernel
theorem dX0_hasNoneBehind_17 : decode cX0_hasNoneBehind 17 = .ok (.aload_n 0, 1) := by decide +kernel
theorem dX0_hasNoneBehind_18 : decode cX0_hasNoneBehind 18 = .ok (.getfield 9, 3) := by decide +kernel
theorem dX0_hasNoneBehind_21 : decode cX0_hasNoneBehind 21 = .ok (.iload_n 2, 1) := by decide +kernel
theorem dX0_hasNoneBehind_22 : decode cX0_hasNoneBehind 22 = .ok (.iaload, 1) := by decide +kernel
theorem dX0_hasNoneBehind_23 : decode cX0_hasNoneBehind 23 = .ok (.iload_n 1, 1) := by decide +kernel
theorem dX0_hasNoneBehind_24 : decode cX0_hasNoneBehind 24 = .ok (.iand, 1) := by decide +kernel
theorem dX0_hasNoneBehind_25 : decode cX0_hasNoneBehind 25 = .ok (.ifCond .eq 5, 3) := by decide +kernel
theorem dX0_hasNoneBehind_28 : decode cX0_hasNoneBehind 28 = .ok (.iconst 0, 1) := by decide +kernel
theorem dX0_hasNoneBehind_29 : decode cX0_hasNoneBehind 29 = .ok (.ireturn, 1) := by decide +kernel
theorem dX0_hasNoneBehind_30 : decode cX0_hasNoneBehind 30 = .ok (.iinc 2 1, 3) := by decide +kernel
theorem dX0_hasNoneBehind_33 : decode cX0_hasNoneBehind 33 = .ok (.goto (-31), 3) := by decide +kernel
theorem dX0_hasNoneBehind_36 : decode cX0_hasNoneBehind 36 = .ok (.iconst 1, 1) := by decide +kernel
theorem dX0_hasNoneBehind_37 : decode cX0_hasNoneBehind 37 = .ok (.ireturn, 1) := by decide +kernel
theorem dX1_init_0 : decode cX1_init 0 = .ok (.aload_n 0, 1) := by decide +kernel
theorem dX1_init_1 : decode cX1_init 1 = .ok (.invokespecial 3, 3) := by decide +kernel
theorem dX1_init_4 : decode cX1_init 4 = .ok (.aload_n 0, 1) := by decide +kernel
theorem dX1_init_5 : decode cX1_init 5 = .ok (.bipush 9, 2) := by decide +kernel
theorem dX1_init_7 : decode cX1_init 7 = .ok (.newarray .int, 2) := by decide +kernel
theorem dX1_init_9 : decode cX1_init 9 = .ok (.putfield 9, 3) := by decide +kernel
theorem dX1_init_12 : decode cX1_init 12 = .ok (.aload_n 0, 1) := by decide +kernel
theorem dX1_init_13 : decode cX1_init 13 = .ok (.bipush 9, 2) := by decide +kernel
theorem dX1_init_15 : decode cX1_init 15 = .ok (.newarray .int, 2) := by decide +kernel
theorem dX1_init_17 : decode cX1_init 17 = .ok (.putfield 15, 3) := by decide +kernel
theorem dX1_init_20 : decode cX1_init 20 = .ok (.aload_n 0, 1) := by decide +kernel
theorem dX1_init_21 : decode cX1_init 21 = .ok (.bipush 9, 2) := by decide +kernel
theorem dX1_init_23 : decode cX1_init 23 = .ok (.newarray .int, 2) := by decide +kernel
theorem dX1_init_25 : decode cX1_init 25 = .ok (.putfield 18, 3) := by decide +kernel
theorem dX1_init_28 : decode cX1_init 28 = .ok (.aload_n 0, 1) := by decide +kernel
theorem dX1_init_29 : decode cX1_init 29 = .ok (.bipush 9, 2) := by decide +kernel
theorem dX1_init_31 : decode cX1_init 31 = .ok (.newarray .int, 2) := by decide +kernel
theorem dX1_init_33 : decode cX1_init 33 = .ok (.putfield 21, 3) := by decide +kernel
theorem dX1_init_36 : decode cX1_init 36 = .ok (.aload_n 0, 1) := by decide +kernel
theorem dX1_init_37 : decode cX1_init 37 = .ok (.bipush 9, 2) := by decide +kernel
theorem dX1_init_39 : decode cX1_init 39 = .ok (.newarray .int, 2) := by decide +kernel
theorem dX1_init_41 : decode cX1_init 41 = .ok (.putfield 24, 3) := by decide +kernel
theorem dX1_init_44 : decode cX1_init 44 = .ok (.aload_n 0, 1) := by decide +kernel
theorem dX1_init_45 : decode cX1_init 45 = .ok (.bipush 12, 2) := by decide +kernel
theorem dX1_init_47 : decode cX1_init 47 = .ok (.newarray .int, 2) := by decide +kernel
theorem dX1_init_49 : decode cX1_init 49 = .ok (.putfield 27, 3) := by decide +kernel
theorem dX1_init_52 : decode cX1_init 52 = .ok (.aload_n 0, 1) := by decide +kernel
theorem dX1_init_53 : decode cX1_init 53 = .ok (.bipush 12, 2) := by decide +kernel
theorem dX1_init_55 : decode cX1_init 55 = .ok (.newarray .int, 2) := by decide +kernel
theorem dX1_init_57 : decode cX1_init 57 = .ok (.putfield 30, 3) := by decide +kernel
theorem dX1_init_60 : decode cX1_init 60 = .ok (.return_, 1) := by decide +kernel
theorem dX1_copyGraph_0 : decode cX1_copyGraph 0 = .ok (.iconst 0, 1) := by decide +kernel
theorem dX1_copyGraph_1 : decode cX1_copyGraph 1 = .ok (.istore_n 2, 1) := by decide +kernel
theorem dX1_copyGraph_2 : decode cX1_copyGraph 2 = .ok (.iload_n 2, 1) := by decide +kernel
theorem dX1_copyGraph_3 : decode cX1_copyGraph 3 = .ok (.bipush 9, 2) := by decide +kernel
theorem dX1_copyGraph_5 : decode cX1_copyGraph 5 = .ok (.if_icmp .ge 57, 3) := by decide +kernel
theorem dX1_copyGraph_8 : decode cX1_copyGraph 8 = .ok (.aload_n 0, 1) := by decide +kernel
theorem dX1_copyGraph_9 : decode cX1_copyGraph 9 = .ok (.getfield 9, 3) := by decide +kernel
theorem dX1_copyGraph_12 : decode cX1_copyGraph 12 = .ok (.iload_n 2, 1) := by decide +kernel
theorem dX1_copyGraph_13 : decode cX1_copyGraph 13 = .ok (.aload_n 1, 1) := by decide +kernel
theorem dX1_copyGraph_14 : decode cX1_copyGraph 14 = .ok (.getfield 9, 3) := by decide +kernel
theorem dX1_copyGraph_17 : decode cX1_copyGraph 17 = .ok (.iload_n 2, 1) := by decide +kernel
theorem dX1_copyGraph_18 : decode cX1_copyGraph 18 = .ok (.iaload, 1) := by decide +kernel
theorem dX1_copyGraph_19 : decode cX1_copyGraph 19 = .ok (.iastore, 1) := by decide +kernel
theorem dX1_copyGraph_20 : decode cX1_copyGraph 20 = .ok (.aload_n 0, 1) := by decide +kernel
theorem dX1_copyGraph_21 : decode cX1_copyGraph 21 = .ok (.getfield 15, 3) := by decide +kernel
theorem dX1_copyGraph_24 : decode cX1_copyGraph 24 = .ok (.iload_n 2, 1) := by decide +kernel
theorem dX1_copyGraph_25 : decode cX1_copyGraph 25 = .ok (.aload_n 1, 1) := by decide +kernel
theorem dX1_copyGraph_26 : decode cX1_copyGraph 26 = .ok (.getfield 15, 3) := by decide +kernel
theorem dX1_copyGraph_29 : decode cX1_copyGraph 29 = .ok (.iload_n 2, 1) := by decide +kernel
theorem dX1_copyGraph_30 : decode cX1_copyGraph 30 = .ok (.iaload, 1) := by decide +kernel
theorem dX1_copyGraph_31 : decode cX1_copyGraph 31 = .ok (.iastore, 1) := by decide +kernel
theorem dX1_copyGraph_32 : decode cX1_copyGraph 32 = .ok (.aload_n 0, 1) := by decide +kernel
theorem dX1_copyGraph_33 : decode cX1_copyGraph 33 = .ok (.getfield 18, 3) := by decide +kernel
theorem dX1_copyGraph_36 : decode cX1_copyGraph 36 = .ok (.iload_n 2, 1) := by decide +kernel
theorem dX1_copyGraph_37 : decode cX1_copyGraph 37 = .ok (.aload_n 1, 1) := by decide +kernel
theorem dX1_copyGraph_38 : decode cX1_copyGraph 38 = .ok (.getfield 18, 3) := by decide +kernel
theorem dX1_copyGraph_41 : decode cX1_copyGraph 41 = .ok (.iload_n 2, 1) := by decide +kernel
theorem dX1_copyGraph_42 : decode cX1_copyGraph 42 = .ok (.iaload, 1) := by decide +kernel
theorem dX1_copyGraph_43 : decode cX1_copyGraph 43 = .ok (.iastore, 1) := by decide +kernel
theorem dX1_copyGraph_44 : decode cX1_copyGraph 44 = .ok (.aload_n 0, 1) := by decide +kernel
theorem dX1_copyGraph_45 : decode cX1_copyGraph 45 = .ok (.getfield 21, 3) := by decide +kernel
theorem dX1_copyGraph_48 : decode cX1_copyGraph 48 = .ok (.iload_n 2, 1) := by decide +kernel
theorem dX1_copyGraph_49 : decode cX1_copyGraph 49 = .ok (.aload_n 1, 1) := by decide +kernel
theorem dX1_copyGraph_50 : decode cX1_copyGraph 50 = .ok (.getfield 21, 3) := by decide +kernel
theorem dX1_copyGraph_53 : decode cX1_copyGraph 53 = .ok (.iload_n 2, 1) := by decide +kernel
theorem dX1_copyGraph_54 : decode cX1_copyGraph 54 = .ok (.iaload, 1) := by decide +kernel
theorem dX1_copyGraph_55 : decode cX1_copyGraph 55 = .ok (.iastore, 1) := by decide +kernel
theorem dX1_copyGraph_56 : decode cX1_copyGraph 56 = .ok (.iinc 2 1, 3) := by decide +kernel
theorem dX1_copyGraph_59 : decode cX1_copyGraph 59 = .ok (.goto (-57), 3) := by decide +kernel
theorem dX1_copyGraph_62 : decode cX1_copyGraph 62 = .ok (.return_, 1) := by decide +kernel
theorem dX1_copySplitting_0 : decode cX1_copySplitting 0 = .ok (.iconst 0, 1) := by decide +kernel
theorem dX1_copySplitting_1 : decode cX1_copySplitting 1 = .ok (.istore_n 2, 1) := by decide +kernel
theorem dX1_copySplitting_2 : decode cX1_copySplitting 2 = .ok (.iload_n 2, 1) := by decide +kernel
theorem dX1_copySplitting_3 : decode cX1_copySplitting 3 = .ok (.bipush 9, 2) := by decide +kernel
theorem dX1_copySplitting_5 : decode cX1_copySplitting 5 = .ok (.if_icmp .ge 21, 3) := by decide +kernel
theorem dX1_copySplitting_8 : decode cX1_copySplitting 8 = .ok (.aload_n 0, 1) := by decide +kernel
theorem dX1_copySplitting_9 : decode cX1_copySplitting 9 = .ok (.getfield 24, 3) := by decide +kernel
theorem dX1_copySplitting_12 : decode cX1_copySplitting 12 = .ok (.iload_n 2, 1) := by decide +kernel
theorem dX1_copySplitting_13 : decode cX1_copySplitting 13 = .ok (.aload_n 1, 1) := by decide +kernel
theorem dX1_copySplitting_14 : decode cX1_copySplitting 14 = .ok (.getfield 24, 3) := by decide +kernel
theorem dX1_copySplitting_17 : decode cX1_copySplitting 17 = .ok (.iload_n 2, 1) := by decide +kernel
theorem dX1_copySplitting_18 : decode cX1_copySplitting 18 = .ok (.iaload, 1) := by decide +kernel
theorem dX1_copySplitting_19 : decode cX1_copySplitting 19 = .ok (.iastore, 1) := by decide +kernel
theorem dX1_copySplitting_20 : decode cX1_copySplitting 20 = .ok (.iinc 2 1, 3) := by decide +kernel
theorem dX1_copySplitting_23 : decode cX1_copySplitting 23 = .ok (.goto (-21), 3) := by decide +kernel
theorem dX1_copySplitting_26 : decode cX1_copySplitting 26 = .ok (.iconst 0, 1) := by decide +kernel
theorem dX1_copySplitting_27 : decode cX1_copySplitting 27 = .ok (.istore_n 2, 1) := by decide +kernel
theorem dX1_copySplitting_28 : decode cX1_copySplitting 28 = .ok (.iload_n 2, 1) := by decide +kernel
theorem dX1_copySplitting_29 : decode cX1_copySplitting 29 = .ok (.bipush 12, 2) := by decide +kernel
theorem dX1_copySplitting_31 : decode cX1_copySplitting 31 = .ok (.if_icmp .ge 33, 3) := by decide +kernel
theorem dX1_copySplitting_34 : decode cX1_copySplitting 34 = .ok (.aload_n 0, 1) := by decide +kernel
theorem dX1_copySplitting_35 : decode cX1_copySplitting 35 = .ok (.getfield 27, 3) := by decide +kernel
theorem dX1_copySplitting_38 : decode cX1_copySplitting 38 = .ok (.iload_n 2, 1) := by decide +kernel
theorem dX1_copySplitting_39 : decode cX1_copySplitting 39 = .ok (.aload_n 1, 1) := by decide +kernel
theorem dX1_copySplitting_40 : decode cX1_copySplitting 40 = .ok (.getfield 27, 3) := by decide +kernel
theorem dX1_copySplitting_43 : decode cX1_copySplitting 43 = .ok (.iload_n 2, 1) := by decide +kernel
theorem dX1_copySplitting_44 : decode cX1_copySplitting 44 = .ok (.iaload, 1) := by decide +kernel
theorem dX1_copySplitting_45 : decode cX1_copySplitting 45 = .ok (.iastore, 1) := by decide +kernel
theorem dX1_copySplitting_46 : decode cX1_copySplitting 46 = .ok (.aload_n 0, 1) := by decide +kernel
theorem dX1_copySplitting_47 : decode cX1_copySplitting 47 = .ok (.getfield 30, 3) := by decide +kernel
theorem dX1_copySplitting_50 : decode cX1_copySplitting 50 = .ok (.iload_n 2, 1) := by decide +kernel
theorem dX1_copySplitting_51 : decode cX1_copySplitting 51 = .ok (.aload_n 1, 1) := by decide +kernel
theorem dX1_copySplitting_52 : decode cX1_copySplitting 52 = .ok (.getfield 30, 3) := by decide +kernel
theorem dX1_copySplitting_55 : decode cX1_copySplitting 55 = .ok (.iload_n 2, 1) := by decide +kernel
theorem dX1_copySplitting_56 : decode cX1_copySplitting 56 = .ok (.iaload, 1) := by decide +kernel
theorem dX1_copySplitting_57 : decode cX1_copySplitting 57 = .ok (.iastore, 1) := by decide +kernel
theorem dX1_copySplitting_58 : decode cX1_copySplitting 58 = .ok (.iinc 2 1, 3) := by decide +kernel
theorem dX1_copySplitting_61 : decode cX1_copySplitting 61 = .ok (.goto (-33), 3) := by decide +kernel
theorem dX1_copySplitting_64 : decode cX1_copySplitting 64 = .ok (.aload_n 0, 1) := by decide +kernel
theorem dX1_copySplitting_65 : decode cX1_copySplitting 65 = .ok (.aload_n 1, 1) := by decide +kernel
theorem dX1_copySplitting_66 : decode cX1_copySplitting 66 = .ok (.getfield 33, 3) := by decide +kernel
theorem dX1_copySplitting_69 : decode cX1_copySplitting 69 = .ok (.putfield 33, 3) := by decide +kernel
theorem dX1_copySplitting_72 : decode cX1_copySplitting 72 = .ok (.aload_n 0, 1) := by decide +kernel
theorem dX1_copySplitting_73 : decode cX1_copySplitting 73 = .ok (.aload_n 1, 1) := by decide +kernel
theorem dX1_copySplitting_74 : decode cX1_copySplitting 74 = .ok (.getfield 37, 3) := by decide +kernel
theorem dX1_copySplitting_77 : decode cX1_copySplitting 77 = .ok (.putfield 37, 3) := by decide +kernel
theorem dX1_copySplitting_80 : decode cX1_copySplitting 80 = .ok (.aload_n 0, 1) := by decide +kernel
theorem dX1_copySplitting_81 : decode cX1_copySplitting 81 = .ok (.aload_n 1, 1) := by decide +kernel
theorem dX1_copySplitting_82 : decode cX1_copySplitting 82 = .ok (.getfield 40, 3) := by decide +kernel
theorem dX1_copySplitting_85 : decode cX1_copySplitting 85 = .ok (.putfield 40, 3) := by decide +kernel
theorem dX1_copySplitting_88 : decode cX1_copySplitting 88 = .ok (.return_, 1) := by decide +kernel
theorem dX1_beginAnew_0 : decode cX1_beginAnew 0 = .ok (.aload_n 0, 1) := by decide +kernel
theorem dX1_beginAnew_1 : decode cX1_beginAnew 1 = .ok (.iconst 0, 1) := by decide +kernel
theorem dX1_beginAnew_2 : decode cX1_beginAnew 2 = .ok (.putfield 33, 3) := by decide +kernel
theorem dX1_beginAnew_5 : decode cX1_beginAnew 5 = .ok (.iconst 0, 1) := by decide +kernel
theorem dX1_beginAnew_6 : decode cX1_beginAnew 6 = .ok (.istore_n 1, 1) := by decide +kernel
theorem dX1_beginAnew_7 : decode cX1_beginAnew 7 = .ok (.iload_n 1, 1) := by decide +kernel
theorem dX1_beginAnew_8 : decode cX1_beginAnew 8 = .ok (.bipush 9, 2) := by decide +kernel
theorem dX1_beginAnew_10 : decode cX1_beginAnew 10 = .ok (.if_icmp .ge 21, 3) := by decide +kernel
theorem dX1_beginAnew_13 : decode cX1_beginAnew 13 = .ok (.aload_n 0, 1) := by decide +kernel
theorem dX1_beginAnew_14 : decode cX1_beginAnew 14 = .ok (.getfield 24, 3) := by decide +kernel
theorem dX1_beginAnew_17 : decode cX1_beginAnew 17 = .ok (.iload_n 1, 1) := by decide +kernel
theorem dX1_beginAnew_18 : decode cX1_beginAnew 18 = .ok (.aload_n 0, 1) := by decide +kernel
theorem dX1_beginAnew_19 : decode cX1_beginAnew 19 = .ok (.getfield 9, 3) := by decide +kernel
theorem dX1_beginAnew_22 : decode cX1_beginAnew 22 = .ok (.iload_n 1, 1) := by decide +kernel
theorem dX1_beginAnew_23 : decode cX1_beginAnew 23 = .ok (.iaload, 1) := by decide +kernel
theorem dX1_beginAnew_24 : decode cX1_beginAnew 24 = .ok (.iastore, 1) := by decide +kernel
theorem dX1_beginAnew_25 : decode cX1_beginAnew 25 = .ok (.iinc 1 1, 3) := by decide +kernel
theorem dX1_beginAnew_28 : decode cX1_beginAnew 28 = .ok (.goto (-21), 3) := by decide +kernel
theorem dX1_beginAnew_31 : decode cX1_beginAnew 31 = .ok (.return_, 1) := by decide +kernel
set_option maxRecDepth 20000 in
theorem ggX1_countJoins_J6_bitCount_0f7a4 : GoodIn wsX1_countJoins wsJ6_bitCount_0f7a4 := goodIn_r _ [5, 6, 7, 8] (by decide +kernel) (by decide +kernel)
set_option maxRecDepth 20000 in
theorem gX1_countJoins_J6_bitCount_0f7a4 : GoodIn wsX1_countJoins (va_wsS RX1 43 yJ6_bitCount_0f7a4 wsJ6_bitCount_0f7a4) := goodIn_app (goodIn_of _ (by decide +kernel)) ggX1_countJoins_J6_bitCount_0f7a4
theorem dX1_countJoins_0 : decode cX1_countJoins 0 = .ok (.iconst 0, 1) := by decide +kernel
theorem dX1_countJoins_1 : decode cX1_countJoins 1 = .ok (.istore_n 1, 1) := by decide +kernel
theorem dX1_countJoins_2 : decode cX1_countJoins 2 = .ok (.iconst 0, 1) := by decide +kernel
theorem dX1_countJoins_3 : decode cX1_countJoins 3 = .ok (.istore_n 2, 1) := by decide +kernel
theorem dX1_countJoins_4 : decode cX1_countJoins 4 = .ok (.iload_n 2, 1) := by decide +kernel
theorem dX1_countJoins_5 : decode cX1_countJoins 5 = .ok (.bipush 9, 2) := by decide +kernel
theorem dX1_countJoins_7 : decode cX1_countJoins 7 = .ok (.if_icmp .ge 21, 3) := by decide +kernel
theorem dX1_countJoins_10 : decode cX1_countJoins 10 = .ok (.iload_n 1, 1) := by decide +kernel
theorem dX1_countJoins_11 : decode cX1_countJoins 11 = .ok (.aload_n 0, 1) := by decide +kernel
theorem dX1_countJoins_12 : decode cX1_countJoins 12 = .ok (.getfield 18, 3) := by decide +kernel
theorem dX1_countJoins_15 : decode cX1_countJoins 15 = .ok (.iload_n 2, 1) := by decide +kernel
theorem dX1_countJoins_16 : decode cX1_countJoins 16 = .ok (.iaload, 1) := by decide +kernel
theorem dX1_countJoins_17 : decode cX1_countJoins 17 = .ok (.invokestatic 43, 3) := by decide +kernel
theorem dX1_countJoins_20 : decode cX1_countJoins 20 = .ok (.iadd, 1) := by decide +kernel
theorem dX1_countJoins_21 : decode cX1_countJoins 21 = .ok (.istore_n 1, 1) := by decide +kernel
theorem dX1_countJoins_22 : decode cX1_countJoins 22 = .ok (.iinc 2 1, 3) := by decide +kernel
theorem dX1_countJoins_25 : decode cX1_countJoins 25 = .ok (.goto (-21), 3) := by decide +kernel
theorem dX1_countJoins_28 : decode cX1_countJoins 28 = .ok (.iload_n 1, 1) := by decide +kernel
theorem dX1_countJoins_29 : decode cX1_countJoins 29 = .ok (.ireturn, 1) := by decide +kernel
set_option maxRecDepth 20000 in
theorem ggX1_countJoinsTo_X4_bit : GoodIn wsX1_countJoinsTo wsX4_bit := goodIn_r _ [4] (by decide +kernel) (by decide +kernel)
set_option maxRecDepth 20000 in
theorem gX1_countJoinsTo_X4_bit_n49 : GoodIn wsX1_countJoinsTo (wsX4_bit) := ggX1_countJoinsTo_X4_bit
theorem dX1_countJoinsTo_0 : decode cX1_countJoinsTo 0 = .ok (.iconst 0, 1) := by decide +kernel
theorem dX1_countJoinsTo_1 : decode cX1_countJoinsTo 1 = .ok (.istore_n 2, 1) := by decide +kernel
theorem dX1_countJoinsTo_2 : decode cX1_countJoinsTo 2 = .ok (.iconst 0, 1) := by decide +kernel
theorem dX1_countJoinsTo_3 : decode cX1_countJoinsTo 3 = .ok (.istore_n 3, 1) := by decide +kernel
theorem dX1_countJoinsTo_4 : decode cX1_countJoinsTo 4 = .ok (.iload_n 3, 1) := by decide +kernel
theorem dX1_countJoinsTo_5 : decode cX1_countJoinsTo 5 = .ok (.bipush 9, 2) := by decide +kernel
theorem dX1_countJoinsTo_7 : decode cX1_countJoinsTo 7 = .ok (.if_icmp .ge 22, 3) := by decide +kernel
theorem dX1_countJoinsTo_10 : decode cX1_countJoinsTo 10 = .ok (.iload_n 2, 1) := by decide +kernel
theorem dX1_countJoinsTo_11 : decode cX1_countJoinsTo 11 = .ok (.aload_n 0, 1) := by decide +kernel
theorem dX1_countJoinsTo_12 : decode cX1_countJoinsTo 12 = .ok (.getfield 18, 3) := by decide +kernel
theorem dX1_countJoinsTo_15 : decode cX1_countJoinsTo 15 = .ok (.iload_n 3, 1) := by decide +kernel
theorem dX1_countJoinsTo_16 : decode cX1_countJoinsTo 16 = .ok (.iaload, 1) := by decide +kernel
theorem dX1_countJoinsTo_17 : decode cX1_countJoinsTo 17 = .ok (.iload_n 1, 1) := by decide +kernel
theorem dX1_countJoinsTo_18 : decode cX1_countJoinsTo 18 = .ok (.invokestatic 49, 3) := by decide +kernel
theorem dX1_countJoinsTo_21 : decode cX1_countJoinsTo 21 = .ok (.iadd, 1) := by decide +kernel
theorem dX1_countJoinsTo_22 : decode cX1_countJoinsTo 22 = .ok (.istore_n 2, 1) := by decide +kernel
theorem dX1_countJoinsTo_23 : decode cX1_countJoinsTo 23 = .ok (.iinc 3 1, 3) := by decide +kernel
theorem dX1_countJoinsTo_26 : decode cX1_countJoinsTo 26 = .ok (.goto (-22), 3) := by decide +kernel
theorem dX1_countJoinsTo_29 : decode cX1_countJoinsTo 29 = .ok (.iload_n 2, 1) := by decide +kernel
theorem dX1_countJoinsTo_30 : decode cX1_countJoinsTo 30 = .ok (.ireturn, 1) := by decide +kernel
set_option maxRecDepth 20000 in
theorem ggX1_weightOf_X4_bit : GoodIn wsX1_weightOf wsX4_bit := goodIn_r _ [4] (by decide +kernel) (by decide +kernel)
set_option maxRecDepth 20000 in
theorem gX1_weightOf_X4_bit_n49 : GoodIn wsX1_weightOf (wsX4_bit) := ggX1_weightOf_X4_bit
theorem dX1_weightOf_0 : decode cX1_weightOf 0 = .ok (.sipush 999, 3) := by decide +kernel
theorem dX1_weightOf_3 : decode cX1_weightOf 3 = .ok (.istore_n 2, 1) := by decide +kernel
theorem dX1_weightOf_4 : decode cX1_weightOf 4 = .ok (.iconst 0, 1) := by decide +kernel
theorem dX1_weightOf_5 : decode cX1_weightOf 5 = .ok (.istore_n 3, 1) := by decide +kernel
theorem dX1_weightOf_6 : decode cX1_weightOf 6 = .ok (.iload_n 3, 1) := by decide +kernel
theorem dX1_weightOf_7 : decode cX1_weightOf 7 = .ok (.bipush 9, 2) := by decide +kernel
theorem dX1_weightOf_9 : decode cX1_weightOf 9 = .ok (.if_icmp .ge 35, 3) := by decide +kernel
theorem dX1_weightOf_12 : decode cX1_weightOf 12 = .ok (.iload_n 1, 1) := by decide +kernel
theorem dX1_weightOf_13 : decode cX1_weightOf 13 = .ok (.iload_n 3, 1) := by decide +kernel
theorem dX1_weightOf_14 : decode cX1_weightOf 14 = .ok (.invokestatic 49, 3) := by decide +kernel
theorem dX1_weightOf_17 : decode cX1_weightOf 17 = .ok (.iconst 1, 1) := by decide +kernel
theorem dX1_weightOf_18 : decode cX1_weightOf 18 = .ok (.if_icmp .ne 20, 3) := by decide +kernel
theorem dX1_weightOf_21 : decode cX1_weightOf 21 = .ok (.aload_n 0, 1) := by decide +kernel
theorem dX1_weightOf_22 : decode cX1_weightOf 22 = .ok (.getfield 24, 3) := by decide +kernel
theorem dX1_weightOf_25 : decode cX1_weightOf 25 = .ok (.iload_n 3, 1) := by decide +kernel
theorem dX1_weightOf_26 : decode cX1_weightOf 26 = .ok (.iaload, 1) := by decide +kernel
theorem dX1_weightOf_27 : decode cX1_weightOf 27 = .ok (.iload_n 2, 1) := by decide +kernel
theorem dX1_weightOf_28 : decode cX1_weightOf 28 = .ok (.if_icmp .ge 10, 3) := by decide +kernel
theorem dX1_weightOf_31 : decode cX1_weightOf 31 = .ok (.aload_n 0, 1) := by decide +kernel
theorem dX1_weightOf_32 : decode cX1_weightOf 32 = .ok (.getfield 24, 3) := by decide +kernel
theorem dX1_weightOf_35 : decode cX1_weightOf 35 = .ok (.iload_n 3, 1) := by decide +kernel
theorem dX1_weightOf_36 : decode cX1_weightOf 36 = .ok (.iaload, 1) := by decide +kernel
theorem dX1_weightOf_37 : decode cX1_weightOf 37 = .ok (.istore_n 2, 1) := by decide +kernel
theorem dX1_weightOf_38 : decode cX1_weightOf 38 = .ok (.iinc 3 1, 3) := by decide +kernel
theorem dX1_weightOf_41 : decode cX1_weightOf 41 = .ok (.goto (-35), 3) := by decide +kernel
theorem dX1_weightOf_44 : decode cX1_weightOf 44 = .ok (.iload_n 2, 1) := by decide +kernel
theorem dX1_weightOf_45 : decode cX1_weightOf 45 = .ok (.ireturn, 1) := by decide +kernel
set_option maxRecDepth 20000 in
theorem ggX1_isOpen_X4_bit : GoodIn wsX1_isOpen wsX4_bit := goodIn_r _ [4] (by decide +kernel) (by decide +kernel)
set_option maxRecDepth 20000 in
theorem gX1_isOpen_X4_bit_n49 : GoodIn wsX1_isOpen (wsX4_bit) := ggX1_isOpen_X4_bit
theorem dX1_isOpen_0 : decode cX1_isOpen 0 = .ok (.iconst 0, 1) := by decide +kernel
theorem dX1_isOpen_1 : decode cX1_isOpen 1 = .ok (.istore_n 2, 1) := by decide +kernel
theorem dX1_isOpen_2 : decode cX1_isOpen 2 = .ok (.iload_n 2, 1) := by decide +kernel
theorem dX1_isOpen_3 : decode cX1_isOpen 3 = .ok (.bipush 9, 2) := by decide +kernel
theorem dX1_isOpen_5 : decode cX1_isOpen 5 = .ok (.if_icmp .ge 31, 3) := by decide +kernel
theorem dX1_isOpen_8 : decode cX1_isOpen 8 = .ok (.iload_n 1, 1) := by decide +kernel
theorem dX1_isOpen_9 : decode cX1_isOpen 9 = .ok (.iload_n 2, 1) := by decide +kernel
theorem dX1_isOpen_10 : decode cX1_isOpen 10 = .ok (.invokestatic 49, 3) := by decide +kernel
theorem dX1_isOpen_13 : decode cX1_isOpen 13 = .ok (.iconst 1, 1) := by decide +kernel
theorem dX1_isOpen_14 : decode cX1_isOpen 14 = .ok (.if_icmp .ne 16, 3) := by decide +kernel
theorem dX1_isOpen_17 : decode cX1_isOpen 17 = .ok (.aload_n 0, 1) := by decide +kernel
theorem dX1_isOpen_18 : decode cX1_isOpen 18 = .ok (.getfield 21, 3) := by decide +kernel
theorem dX1_isOpen_21 : decode cX1_isOpen 21 = .ok (.iload_n 2, 1) := by decide +kernel
theorem dX1_isOpen_22 : decode cX1_isOpen 22 = .ok (.iaload, 1) := by decide +kernel
theorem dX1_isOpen_23 : decode cX1_isOpen 23 = .ok (.iload_n 1, 1) := by decide +kernel
theorem dX1_isOpen_24 : decode cX1_isOpen 24 = .ok (.iand, 1) := by decide +kernel
theorem dX1_isOpen_25 : decode cX1_isOpen 25 = .ok (.ifCond .eq 5, 3) := by decide +kernel
theorem dX1_isOpen_28 : decode cX1_isOpen 28 = .ok (.iconst 0, 1) := by decide +kernel
theorem dX1_isOpen_29 : decode cX1_isOpen 29 = .ok (.ireturn, 1) := by decide +kernel
theorem dX1_isOpen_30 : decode cX1_isOpen 30 = .ok (.iinc 2 1, 3) := by decide +kernel
theorem dX1_isOpen_33 : decode cX1_isOpen 33 = .ok (.goto (-31), 3) := by decide +kernel
theorem dX1_isOpen_36 : decode cX1_isOpen 36 = .ok (.iconst 1, 1) := by decide +kernel
theorem dX1_isOpen_37 : decode cX1_isOpen 37 = .ok (.ireturn, 1) := by decide +kernel
set_option maxRecDepth 20000 in
theorem ggX1_takeWay_X4_bit : GoodIn wsX1_takeWay wsX4_bit := goodIn_r _ [8] (by decide +kernel) (by decide +kernel)
set_option maxRecDepth 20000 in
theorem gX1_takeWay_X4_bit_n49 : GoodIn wsX1_takeWay (wsX4_bit) := ggX1_takeWay_X4_bit
theorem dX1_takeWay_0 : decode cX1_takeWay 0 = .ok (.aload_n 0, 1) := by decide +kernel
theorem dX1_takeWay_1 : decode cX1_takeWay 1 = .ok (.getfield 33, 3) := by decide +kernel
theorem dX1_takeWay_4 : decode cX1_takeWay 4 = .ok (.ifCond .lt 12, 3) := by decide +kernel
theorem dX1_takeWay_7 : decode cX1_takeWay 7 = .ok (.aload_n 0, 1) := by decide +kernel
theorem dX1_takeWay_8 : decode cX1_takeWay 8 = .ok (.getfield 33, 3) := by decide +kernel
theorem dX1_takeWay_11 : decode cX1_takeWay 11 = .ok (.bipush 12, 2) := by decide +kernel
theorem dX1_takeWay_13 : decode cX1_takeWay 13 = .ok (.if_icmp .lt 4, 3) := by decide +kernel
theorem dX1_takeWay_16 : decode cX1_takeWay 16 = .ok (.return_, 1) := by decide +kernel
theorem dX1_takeWay_17 : decode cX1_takeWay 17 = .ok (.aload_n 0, 1) := by decide +kernel
theorem dX1_takeWay_18 : decode cX1_takeWay 18 = .ok (.getfield 27, 3) := by decide +kernel
theorem dX1_takeWay_21 : decode cX1_takeWay 21 = .ok (.aload_n 0, 1) := by decide +kernel
theorem dX1_takeWay_22 : decode cX1_takeWay 22 = .ok (.getfield 33, 3) := by decide +kernel
theorem dX1_takeWay_25 : decode cX1_takeWay 25 = .ok (.iload_n 2, 1) := by decide +kernel
theorem dX1_takeWay_26 : decode cX1_takeWay 26 = .ok (.iastore, 1) := by decide +kernel
theorem dX1_takeWay_27 : decode cX1_takeWay 27 = .ok (.aload_n 0, 1) := by decide +kernel
theorem dX1_takeWay_28 : decode cX1_takeWay 28 = .ok (.getfield 30, 3) := by decide +kernel
theorem dX1_takeWay_31 : decode cX1_takeWay 31 = .ok (.aload_n 0, 1) := by decide +kernel
theorem dX1_takeWay_32 : decode cX1_takeWay 32 = .ok (.getfield 33, 3) := by decide +kernel
theorem dX1_takeWay_35 : decode cX1_takeWay 35 = .ok (.iload_n 1, 1) := by decide +kernel
theorem dX1_takeWay_36 : decode cX1_takeWay 36 = .ok (.iastore, 1) := by decide +kernel
theorem dX1_takeWay_37 : decode cX1_takeWay 37 = .ok (.aload_n 0, 1) := by decide +kernel
theorem dX1_takeWay_38 : decode cX1_takeWay 38 = .ok (.dup, 1) := by decide +kernel
theorem dX1_takeWay_39 : decode cX1_takeWay 39 = .ok (.getfield 33, 3) := by decide +kernel
theorem dX1_takeWay_42 : decode cX1_takeWay 42 = .ok (.iconst 1, 1) := by decide +kernel
theorem dX1_takeWay_43 : decode cX1_takeWay 43 = .ok (.iadd, 1) := by decide +kernel
theorem dX1_takeWay_44 : decode cX1_takeWay 44 = .ok (.putfield 33, 3) := by decide +kernel
theorem dX1_takeWay_47 : decode cX1_takeWay 47 = .ok (.aload_n 0, 1) := by decide +kernel
theorem dX1_takeWay_48 : decode cX1_takeWay 48 = .ok (.dup, 1) := by decide +kernel
theorem dX1_takeWay_49 : decode cX1_takeWay 49 = .ok (.getfield 37, 3) := by decide +kernel
theorem dX1_takeWay_52 : decode cX1_takeWay 52 = .ok (.iconst 1, 1) := by decide +kernel
theorem dX1_takeWay_53 : decode cX1_takeWay 53 = .ok (.iadd, 1) := by decide +kernel
theorem dX1_takeWay_54 : decode cX1_takeWay 54 = .ok (.putfield 37, 3) := by decide +kernel
theorem dX1_takeWay_57 : decode cX1_takeWay 57 = .ok (.iconst 0, 1) := by decide +kernel
theorem dX1_takeWay_58 : decode cX1_takeWay 58 = .ok (.istore_n 3, 1) := by decide +kernel
theorem dX1_takeWay_59 : decode cX1_takeWay 59 = .ok (.iload_n 3, 1) := by decide +kernel
theorem dX1_takeWay_60 : decode cX1_takeWay 60 = .ok (.bipush 9, 2) := by decide +kernel
theorem dX1_takeWay_62 : decode cX1_takeWay 62 = .ok (.if_icmp .ge 28, 3) := by decide +kernel
theorem dX1_takeWay_65 : decode cX1_takeWay 65 = .ok (.iload_n 1, 1) := by decide +kernel
theorem dX1_takeWay_66 : decode cX1_takeWay 66 = .ok (.iload_n 3, 1) := by decide +kernel
theorem dX1_takeWay_67 : decode cX1_takeWay 67 = .ok (.invokestatic 49, 3) := by decide +kernel
theorem dX1_takeWay_70 : decode cX1_takeWay 70 = .ok (.iconst 1, 1) := by decide +kernel
theorem dX1_takeWay_71 : decode cX1_takeWay 71 = .ok (.if_icmp .ne 13, 3) := by decide +kernel
theorem dX1_takeWay_74 : decode cX1_takeWay 74 = .ok (.aload_n 0, 1) := by decide +kernel
theorem dX1_takeWay_75 : decode cX1_takeWay 75 = .ok (.getfield 24, 3) := by decide +kernel
theorem dX1_takeWay_78 : decode cX1_takeWay 78 = .ok (.iload_n 3, 1) := by decide +kernel
theorem dX1_takeWay_79 : decode cX1_takeWay 79 = .ok (.dup2, 1) := by decide +kernel
theorem dX1_takeWay_80 : decode cX1_takeWay 80 = .ok (.iaload, 1) := by decide +kernel
theorem dX1_takeWay_81 : decode cX1_takeWay 81 = .ok (.iload_n 2, 1) := by decide +kernel
theorem dX1_takeWay_82 : decode cX1_takeWay 82 = .ok (.isub, 1) := by decide +kernel
theorem dX1_takeWay_83 : decode cX1_takeWay 83 = .ok (.iastore, 1) := by decide +kernel
theorem dX1_takeWay_84 : decode cX1_takeWay 84 = .ok (.iinc 3 1, 3) := by decide +kernel
theorem dX1_takeWay_87 : decode cX1_takeWay 87 = .ok (.goto (-28), 3) := by decide +kernel
theorem dX1_takeWay_90 : decode cX1_takeWay 90 = .ok (.return_, 1) := by decide +kernel
set_option maxRecDepth 20000 in
theorem ggX2_init_X1_init : GoodIn wsX2_init wsX1_init := goodIn_r _ [11, 12, 2, 3, 4, 13, 14, 15, 16, 17, 18, 19, 27, 28, 29, 30, 31, 32, 33, 34, 35, 36] (by decide +kernel) (by decide +kernel)
set_option maxRecDepth 20000 in
theorem gX2_init_X1_init_n17 : GoodIn wsX2_init (wsX1_init) := ggX2_init_X1_init
theorem dX2_init_0 : decode cX2_init 0 = .ok (.aload_n 0, 1) := by decide +kernel
theorem dX2_init_1 : decode cX2_init 1 = .ok (.invokespecial 3, 3) := by decide +kernel
theorem dX2_init_4 : decode cX2_init 4 = .ok (.aload_n 0, 1) := by decide +kernel
theorem dX2_init_5 : decode cX2_init 5 = .ok (.bipush 60, 2) := by decide +kernel
theorem dX2_init_7 : decode cX2_init 7 = .ok (.newarray .int, 2) := by decide +kernel
theorem dX2_init_9 : decode cX2_init 9 = .ok (.putfield 9, 3) := by decide +kernel
theorem dX2_init_12 : decode cX2_init 12 = .ok (.aload_n 0, 1) := by decide +kernel
theorem dX2_init_13 : decode cX2_init 13 = .ok (.new 15, 3) := by decide +kernel
theorem dX2_init_16 : decode cX2_init 16 = .ok (.dup, 1) := by decide +kernel
theorem dX2_init_17 : decode cX2_init 17 = .ok (.invokespecial 17, 3) := by decide +kernel
theorem dX2_init_20 : decode cX2_init 20 = .ok (.putfield 18, 3) := by decide +kernel
theorem dX2_init_23 : decode cX2_init 23 = .ok (.return_, 1) := by decide +kernel
set_option maxRecDepth 20000 in
theorem ggX3_init_X1_init : GoodIn wsX3_init wsX1_init := goodIn_r _ [13, 14, 2, 3, 4, 15, 16, 17, 18, 19, 20, 21, 28, 29, 30, 31, 32, 33, 34, 35, 36, 37] (by decide +kernel) (by decide +kernel)
set_option maxRecDepth 20000 in
theorem gX3_init_X1_init_n20 : GoodIn wsX3_init (wsX1_init) := ggX3_init_X1_init
theorem dX3_init_0 : decode cX3_init 0 = .ok (.aload_n 0, 1) := by decide +kernel
theorem dX3_init_1 : decode cX3_init 1 = .ok (.invokespecial 3, 3) := by decide +kernel
theorem dX3_init_4 : decode cX3_init 4 = .ok (.aload_n 0, 1) := by decide +kernel
theorem dX3_init_5 : decode cX3_init 5 = .ok (.sipush 512, 3) := by decide +kernel
theorem dX3_init_8 : decode cX3_init 8 = .ok (.newarray .int, 2) := by decide +kernel
theorem dX3_init_10 : decode cX3_init 10 = .ok (.putfield 9, 3) := by decide +kernel
theorem dX3_init_13 : decode cX3_init 13 = .ok (.aload_n 0, 1) := by decide +kernel
theorem dX3_init_14 : decode cX3_init 14 = .ok (.sipush 512, 3) := by decide +kernel
theorem dX3_init_17 : decode cX3_init 17 = .ok (.newarray .int, 2) := by decide +kernel
theorem dX3_init_19 : decode cX3_init 19 = .ok (.putfield 15, 3) := by decide +kernel
theorem dX3_init_22 : decode cX3_init 22 = .ok (.aload_n 0, 1) := by decide +kernel
theorem dX3_init_23 : decode cX3_init 23 = .ok (.new 18, 3) := by decide +kernel
theorem dX3_init_26 : decode cX3_init 26 = .ok (.dup, 1) := by decide +kernel
theorem dX3_init_27 : decode cX3_init 27 = .ok (.invokespecial 20, 3) := by decide +kernel
theorem dX3_init_30 : decode cX3_init 30 = .ok (.putfield 21, 3) := by decide +kernel
theorem dX3_init_33 : decode cX3_init 33 = .ok (.aload_n 0, 1) := by decide +kernel
theorem dX3_init_34 : decode cX3_init 34 = .ok (.bipush 9, 2) := by decide +kernel
theorem dX3_init_36 : decode cX3_init 36 = .ok (.newarray .int, 2) := by decide +kernel
theorem dX3_init_38 : decode cX3_init 38 = .ok (.putfield 25, 3) := by decide +kernel
theorem dX3_init_41 : decode cX3_init 41 = .ok (.return_, 1) := by decide +kernel
set_option maxRecDepth 20000 in
theorem ggX3_list_X3_isListed : GoodIn wsX3_list wsX3_isListed := goodIn_r _ [8, 1, 9, 3, 10, 39, 40, 41, 42, 43, 44, 45, 46, 47, 48, 49, 50, 51, 52, 53, 54] (by decide +kernel) (by decide +kernel)
set_option maxRecDepth 20000 in
theorem gX3_list_X3_isListed : GoodIn wsX3_list (wsV RX3 28 RX3 yX3_isListed wsX3_isListed) := goodIn_app (goodIn_of _ (by decide +kernel)) ggX3_list_X3_isListed
set_option maxRecDepth 20000 in
theorem ggX3_list_X1_copyGraph : GoodIn wsX3_list wsX1_copyGraph := goodIn_r _ [15, 16, 17, 18, 19, 45, 46, 47, 48, 49, 50, 51, 52, 53, 54] (by decide +kernel) (by decide +kernel)
set_option maxRecDepth 20000 in
theorem gX3_list_X1_copyGraph : GoodIn wsX3_list (wsV RX3 32 RX1 yX1_copyGraph wsX1_copyGraph) := goodIn_app (goodIn_of _ (by decide +kernel)) ggX3_list_X1_copyGraph
set_option maxRecDepth 20000 in
theorem ggX3_list_X3_walk : GoodIn wsX3_list wsX3_walk := goodIn_r _ [22, 1, 3, 2, 23, 9, 24, 25, 26, 27, 28, 20, 21, 7, 39, 40, 41, 42, 43, 44, 45, 46, 47, 48, 49, 50, 51, 52, 53, 54] (by decide +kernel) (by decide +kernel)
set_option maxRecDepth 20000 in
theorem gX3_list_X3_walk : GoodIn wsX3_list (va_wsS RX3 43 yX3_walk wsX3_walk) := goodIn_app (goodIn_of _ (by decide +kernel)) ggX3_list_X3_walk
set_option maxRecDepth 20000 in
theorem ggX3_list_X3_pickOpen : GoodIn wsX3_list wsX3_pickOpen := goodIn_r _ [32, 33, 2, 1, 23, 34, 35, 36, 37, 14, 38, 19, 27, 25, 28, 39, 40, 41, 42, 43, 44, 45, 46, 47, 48, 49, 50, 51, 52, 53, 54] (by decide +kernel) (by decide +kernel)
set_option maxRecDepth 20000 in
theorem gX3_list_X3_pickOpen : GoodIn wsX3_list (wsV RX3 47 RX3 yX3_pickOpen wsX3_pickOpen) := goodIn_app (goodIn_of _ (by decide +kernel)) ggX3_list_X3_pickOpen
theorem dX3_list_0 : decode cX3_list 0 = .ok (.aload_n 0, 1) := by decide +kernel
theorem dX3_list_1 : decode cX3_list 1 = .ok (.aload_n 1, 1) := by decide +kernel
theorem dX3_list_2 : decode cX3_list 2 = .ok (.invokevirtual 28, 3) := by decide +kernel
theorem dX3_list_5 : decode cX3_list 5 = .ok (.ifCond .eq 4, 3) := by decide +kernel
theorem dX3_list_8 : decode cX3_list 8 = .ok (.return_, 1) := by decide +kernel
theorem dX3_list_9 : decode cX3_list 9 = .ok (.aload_n 0, 1) := by decide +kernel
theorem dX3_list_10 : decode cX3_list 10 = .ok (.getfield 21, 3) := by decide +kernel
theorem dX3_list_13 : decode cX3_list 13 = .ok (.aload_n 1, 1) := by decide +kernel
theorem dX3_list_14 : decode cX3_list 14 = .ok (.invokevirtual 32, 3) := by decide +kernel
theorem dX3_list_17 : decode cX3_list 17 = .ok (.aload_n 0, 1) := by decide +kernel
theorem dX3_list_18 : decode cX3_list 18 = .ok (.iconst 0, 1) := by decide +kernel
theorem dX3_list_19 : decode cX3_list 19 = .ok (.putfield 36, 3) := by decide +kernel
theorem dX3_list_22 : decode cX3_list 22 = .ok (.iconst 0, 1) := by decide +kernel
theorem dX3_list_23 : decode cX3_list 23 = .ok (.istore_n 2, 1) := by decide +kernel
theorem dX3_list_24 : decode cX3_list 24 = .ok (.iload_n 2, 1) := by decide +kernel
theorem dX3_list_25 : decode cX3_list 25 = .ok (.bipush 9, 2) := by decide +kernel
theorem dX3_list_27 : decode cX3_list 27 = .ok (.if_icmp .ge 30, 3) := by decide +kernel
theorem dX3_list_30 : decode cX3_list 30 = .ok (.aload_n 0, 1) := by decide +kernel
theorem dX3_list_31 : decode cX3_list 31 = .ok (.getfield 21, 3) := by decide +kernel
theorem dX3_list_34 : decode cX3_list 34 = .ok (.getfield 40, 3) := by decide +kernel
theorem dX3_list_37 : decode cX3_list 37 = .ok (.iload_n 2, 1) := by decide +kernel
theorem dX3_list_38 : decode cX3_list 38 = .ok (.iaload, 1) := by decide +kernel
theorem dX3_list_39 : decode cX3_list 39 = .ok (.iconst 1, 1) := by decide +kernel
theorem dX3_list_40 : decode cX3_list 40 = .ok (.iand, 1) := by decide +kernel
theorem dX3_list_41 : decode cX3_list 41 = .ok (.ifCond .eq 10, 3) := by decide +kernel
theorem dX3_list_44 : decode cX3_list 44 = .ok (.aload_n 0, 1) := by decide +kernel
theorem dX3_list_45 : decode cX3_list 45 = .ok (.iload_n 2, 1) := by decide +kernel
theorem dX3_list_46 : decode cX3_list 46 = .ok (.iconst 0, 1) := by decide +kernel
theorem dX3_list_47 : decode cX3_list 47 = .ok (.iconst 0, 1) := by decide +kernel
theorem dX3_list_48 : decode cX3_list 48 = .ok (.invokestatic 43, 3) := by decide +kernel
theorem dX3_list_51 : decode cX3_list 51 = .ok (.iinc 2 1, 3) := by decide +kernel
theorem dX3_list_54 : decode cX3_list 54 = .ok (.goto (-30), 3) := by decide +kernel
theorem dX3_list_57 : decode cX3_list 57 = .ok (.aload_n 0, 1) := by decide +kernel
theorem dX3_list_58 : decode cX3_list 58 = .ok (.invokevirtual 47, 3) := by decide +kernel
theorem dX3_list_61 : decode cX3_list 61 = .ok (.return_, 1) := by decide +kernel
theorem dX3_isListed_0 : decode cX3_isListed 0 = .ok (.iconst 0, 1) := by decide +kernel
theorem dX3_isListed_1 : decode cX3_isListed 1 = .ok (.istore_n 2, 1) := by decide +kernel
theorem dX3_isListed_2 : decode cX3_isListed 2 = .ok (.iload_n 2, 1) := by decide +kernel
theorem dX3_isListed_3 : decode cX3_isListed 3 = .ok (.bipush 9, 2) := by decide +kernel
theorem dX3_isListed_5 : decode cX3_isListed 5 = .ok (.if_icmp .ge 65, 3) := by decide +kernel
theorem dX3_isListed_8 : decode cX3_isListed 8 = .ok (.aload_n 0, 1) := by decide +kernel
theorem dX3_isListed_9 : decode cX3_isListed 9 = .ok (.getfield 21, 3) := by decide +kernel
theorem dX3_isListed_12 : decode cX3_isListed 12 = .ok (.getfield 50, 3) := by decide +kernel
theorem dX3_isListed_15 : decode cX3_isListed 15 = .ok (.iload_n 2, 1) := by decide +kernel
theorem dX3_isListed_16 : decode cX3_isListed 16 = .ok (.iaload, 1) := by decide +kernel
theorem dX3_isListed_17 : decode cX3_isListed 17 = .ok (.aload_n 1, 1) := by decide +kernel
theorem dX3_isListed_18 : decode cX3_isListed 18 = .ok (.getfield 50, 3) := by decide +kernel
theorem dX3_isListed_21 : decode cX3_isListed 21 = .ok (.iload_n 2, 1) := by decide +kernel
theorem dX3_isListed_22 : decode cX3_isListed 22 = .ok (.iaload, 1) := by decide +kernel
theorem dX3_isListed_23 : decode cX3_isListed 23 = .ok (.if_icmp .ne 39, 3) := by decide +kernel
theorem dX3_isListed_26 : decode cX3_isListed 26 = .ok (.aload_n 0, 1) := by decide +kernel
theorem dX3_isListed_27 : decode cX3_isListed 27 = .ok (.getfield 21, 3) := by decide +kernel
theorem dX3_isListed_30 : decode cX3_isListed 30 = .ok (.getfield 40, 3) := by decide +kernel
theorem dX3_isListed_33 : decode cX3_isListed 33 = .ok (.iload_n 2, 1) := by decide +kernel
theorem dX3_isListed_34 : decode cX3_isListed 34 = .ok (.iaload, 1) := by decide +kernel
theorem dX3_isListed_35 : decode cX3_isListed 35 = .ok (.aload_n 1, 1) := by decide +kernel
theorem dX3_isListed_36 : decode cX3_isListed 36 = .ok (.getfield 40, 3) := by decide +kernel
theorem dX3_isListed_39 : decode cX3_isListed 39 = .ok (.iload_n 2, 1) := by decide +kernel
theorem dX3_isListed_40 : decode cX3_isListed 40 = .ok (.iaload, 1) := by decide +kernel
theorem dX3_isListed_41 : decode cX3_isListed 41 = .ok (.if_icmp .ne 21, 3) := by decide +kernel
theorem dX3_isListed_44 : decode cX3_isListed 44 = .ok (.aload_n 0, 1) := by decide +kernel
theorem dX3_isListed_45 : decode cX3_isListed 45 = .ok (.getfield 21, 3) := by decide +kernel
theorem dX3_isListed_48 : decode cX3_isListed 48 = .ok (.getfield 53, 3) := by decide +kernel
theorem dX3_isListed_51 : decode cX3_isListed 51 = .ok (.iload_n 2, 1) := by decide +kernel
theorem dX3_isListed_52 : decode cX3_isListed 52 = .ok (.iaload, 1) := by decide +kernel
theorem dX3_isListed_53 : decode cX3_isListed 53 = .ok (.aload_n 1, 1) := by decide +kernel
theorem dX3_isListed_54 : decode cX3_isListed 54 = .ok (.getfield 53, 3) := by decide +kernel
theorem dX3_isListed_57 : decode cX3_isListed 57 = .ok (.iload_n 2, 1) := by decide +kernel
theorem dX3_isListed_58 : decode cX3_isListed 58 = .ok (.iaload, 1) := by decide +kernel
theorem dX3_isListed_59 : decode cX3_isListed 59 = .ok (.if_icmp .eq 5, 3) := by decide +kernel
theorem dX3_isListed_62 : decode cX3_isListed 62 = .ok (.iconst 0, 1) := by decide +kernel
theorem dX3_isListed_63 : decode cX3_isListed 63 = .ok (.ireturn, 1) := by decide +kernel
theorem dX3_isListed_64 : decode cX3_isListed 64 = .ok (.iinc 2 1, 3) := by decide +kernel
theorem dX3_isListed_67 : decode cX3_isListed 67 = .ok (.goto (-65), 3) := by decide +kernel
theorem dX3_isListed_70 : decode cX3_isListed 70 = .ok (.iconst 1, 1) := by decide +kernel
theorem dX3_isListed_71 : decode cX3_isListed 71 = .ok (.ireturn, 1) := by decide +kernel
set_option maxRecDepth 20000 in
theorem ggX3_walk_X4_isPiece : GoodIn wsX3_walk wsX4_isPiece := goodIn_r _ [8] (by decide +kernel) (by decide +kernel)
set_option maxRecDepth 20000 in
theorem gX3_walk_X4_isPiece_n56 : GoodIn wsX3_walk (wsX4_isPiece) := ggX3_walk_X4_isPiece
set_option maxRecDepth 20000 in
theorem ggX3_walk_X4_bit : GoodIn wsX3_walk wsX4_bit := goodIn_r _ [10] (by decide +kernel) (by decide +kernel)
set_option maxRecDepth 20000 in
theorem gX3_walk_X4_bit_n60 : GoodIn wsX3_walk (wsX4_bit) := ggX3_walk_X4_bit
set_option maxRecDepth 20000 in
theorem ggX3_walk_X3_walk : GoodIn wsX3_walk wsX3_walk := goodIn_r _ [0, 1, 2, 3, 4, 5, 6, 7, 8, 9, 10, 11, 12, 13, 14, 15, 16, 17, 18, 19, 20, 21, 22, 23, 24, 25, 26, 27, 28, 29] (by decide +kernel) (by decide +kernel)
set_option maxRecDepth 20000 in
theorem gX3_walk_X3_walk : GoodIn wsX3_walk (va_wsS RX3 43 yX3_walk wsX3_walk) := goodIn_app (goodIn_of _ (by decide +kernel)) ggX3_walk_X3_walk
theorem dX3_walk_0 : decode cX3_walk 0 = .ok (.iload_n 1, 1) := by decide +kernel
theorem dX3_walk_1 : decode cX3_walk 1 = .ok (.invokestatic 56, 3) := by decide +kernel
theorem dX3_walk_4 : decode cX3_walk 4 = .ok (.ifCond .eq 9, 3) := by decide +kernel
theorem dX3_walk_7 : decode cX3_walk 7 = .ok (.iload_n 3, 1) := by decide +kernel
theorem dX3_walk_8 : decode cX3_walk 8 = .ok (.bipush 9, 2) := by decide +kernel
theorem dX3_walk_10 : decode cX3_walk 10 = .ok (.if_icmp .lt 4, 3) := by decide +kernel
theorem dX3_walk_13 : decode cX3_walk 13 = .ok (.return_, 1) := by decide +kernel
theorem dX3_walk_14 : decode cX3_walk 14 = .ok (.iload_n 2, 1) := by decide +kernel
theorem dX3_walk_15 : decode cX3_walk 15 = .ok (.iconst 1, 1) := by decide +kernel
theorem dX3_walk_16 : decode cX3_walk 16 = .ok (.iload_n 1, 1) := by decide +kernel
theorem dX3_walk_17 : decode cX3_walk 17 = .ok (.ishl, 1) := by decide +kernel
theorem dX3_walk_18 : decode cX3_walk 18 = .ok (.ior, 1) := by decide +kernel
theorem dX3_walk_19 : decode cX3_walk 19 = .ok (.istore 4, 2) := by decide +kernel
theorem dX3_walk_21 : decode cX3_walk 21 = .ok (.aload_n 0, 1) := by decide +kernel
theorem dX3_walk_22 : decode cX3_walk 22 = .ok (.getfield 21, 3) := by decide +kernel
theorem dX3_walk_25 : decode cX3_walk 25 = .ok (.getfield 40, 3) := by decide +kernel
theorem dX3_walk_28 : decode cX3_walk 28 = .ok (.iload_n 1, 1) := by decide +kernel
theorem dX3_walk_29 : decode cX3_walk 29 = .ok (.iaload, 1) := by decide +kernel
theorem dX3_walk_30 : decode cX3_walk 30 = .ok (.iconst 2, 1) := by decide +kernel
theorem dX3_walk_31 : decode cX3_walk 31 = .ok (.iand, 1) := by decide +kernel
theorem dX3_walk_32 : decode cX3_walk 32 = .ok (.ifCond .eq 41, 3) := by decide +kernel
theorem dX3_walk_35 : decode cX3_walk 35 = .ok (.aload_n 0, 1) := by decide +kernel
theorem dX3_walk_36 : decode cX3_walk 36 = .ok (.getfield 36, 3) := by decide +kernel
theorem dX3_walk_39 : decode cX3_walk 39 = .ok (.ifCond .lt 34, 3) := by decide +kernel
theorem dX3_walk_42 : decode cX3_walk 42 = .ok (.aload_n 0, 1) := by decide +kernel
theorem dX3_walk_43 : decode cX3_walk 43 = .ok (.getfield 36, 3) := by decide +kernel
theorem dX3_walk_46 : decode cX3_walk 46 = .ok (.sipush 512, 3) := by decide +kernel
theorem dX3_walk_49 : decode cX3_walk 49 = .ok (.if_icmp .ge 24, 3) := by decide +kernel
theorem dX3_walk_52 : decode cX3_walk 52 = .ok (.aload_n 0, 1) := by decide +kernel
theorem dX3_walk_53 : decode cX3_walk 53 = .ok (.getfield 9, 3) := by decide +kernel
theorem dX3_walk_56 : decode cX3_walk 56 = .ok (.aload_n 0, 1) := by decide +kernel
theorem dX3_walk_57 : decode cX3_walk 57 = .ok (.getfield 36, 3) := by decide +kernel
theorem dX3_walk_60 : decode cX3_walk 60 = .ok (.iload 4, 2) := by decide +kernel
theorem dX3_walk_62 : decode cX3_walk 62 = .ok (.iastore, 1) := by decide +kernel
theorem dX3_walk_63 : decode cX3_walk 63 = .ok (.aload_n 0, 1) := by decide +kernel
theorem dX3_walk_64 : decode cX3_walk 64 = .ok (.dup, 1) := by decide +kernel
theorem dX3_walk_65 : decode cX3_walk 65 = .ok (.getfield 36, 3) := by decide +kernel
theorem dX3_walk_68 : decode cX3_walk 68 = .ok (.iconst 1, 1) := by decide +kernel
theorem dX3_walk_69 : decode cX3_walk 69 = .ok (.iadd, 1) := by decide +kernel
theorem dX3_walk_70 : decode cX3_walk 70 = .ok (.putfield 36, 3) := by decide +kernel
theorem dX3_walk_73 : decode cX3_walk 73 = .ok (.iload_n 1, 1) := by decide +kernel
theorem dX3_walk_74 : decode cX3_walk 74 = .ok (.iconst 1, 1) := by decide +kernel
theorem dX3_walk_75 : decode cX3_walk 75 = .ok (.iadd, 1) := by decide +kernel
theorem dX3_walk_76 : decode cX3_walk 76 = .ok (.istore 5, 2) := by decide +kernel
theorem dX3_walk_78 : decode cX3_walk 78 = .ok (.iload 5, 2) := by decide +kernel
theorem dX3_walk_80 : decode cX3_walk 80 = .ok (.bipush 9, 2) := by decide +kernel
theorem dX3_walk_82 : decode cX3_walk 82 = .ok (.if_icmp .ge 38, 3) := by decide +kernel
theorem dX3_walk_85 : decode cX3_walk 85 = .ok (.aload_n 0, 1) := by decide +kernel
theorem dX3_walk_86 : decode cX3_walk 86 = .ok (.getfield 21, 3) := by decide +kernel
theorem dX3_walk_89 : decode cX3_walk 89 = .ok (.getfield 50, 3) := by decide +kernel
theorem dX3_walk_92 : decode cX3_walk 92 = .ok (.iload_n 1, 1) := by decide +kernel
theorem dX3_walk_93 : decode cX3_walk 93 = .ok (.iaload, 1) := by decide +kernel
theorem dX3_walk_94 : decode cX3_walk 94 = .ok (.iload 5, 2) := by decide +kernel
theorem dX3_walk_96 : decode cX3_walk 96 = .ok (.invokestatic 60, 3) := by decide +kernel
theorem dX3_walk_99 : decode cX3_walk 99 = .ok (.iconst 1, 1) := by decide +kernel
theorem dX3_walk_100 : decode cX3_walk 100 = .ok (.if_icmp .ne 14, 3) := by decide +kernel
theorem dX3_walk_103 : decode cX3_walk 103 = .ok (.aload_n 0, 1) := by decide +kernel
theorem dX3_walk_104 : decode cX3_walk 104 = .ok (.iload 5, 2) := by decide +kernel
theorem dX3_walk_106 : decode cX3_walk 106 = .ok (.iload 4, 2) := by decide +kernel
theorem dX3_walk_108 : decode cX3_walk 108 = .ok (.iload_n 3, 1) := by decide +kernel
theorem dX3_walk_109 : decode cX3_walk 109 = .ok (.iconst 1, 1) := by decide +kernel
theorem dX3_walk_110 : decode cX3_walk 110 = .ok (.iadd, 1) := by decide +kernel
theorem dX3_walk_111 : decode cX3_walk 111 = .ok (.invokestatic 43, 3) := by decide +kernel
theorem dX3_walk_114 : decode cX3_walk 114 = .ok (.iinc 5 1, 3) := by decide +kernel
theorem dX3_walk_117 : decode cX3_walk 117 = .ok (.goto (-39), 3) := by decide +kernel
theorem dX3_walk_120 : decode cX3_walk 120 = .ok (.return_, 1) := by decide +kernel
set_option maxRecDepth 20000 in
theorem ggX3_pickOpen_X1_isOpen : GoodIn wsX3_pickOpen wsX1_isOpen := goodIn_r _ [10, 11, 12, 13, 14, 21, 22, 23, 24, 25, 26, 27, 28, 29, 30] (by decide +kernel) (by decide +kernel)
set_option maxRecDepth 20000 in
theorem gX3_pickOpen_X1_isOpen : GoodIn wsX3_pickOpen (wsV RX3 67 RX1 yX1_isOpen wsX1_isOpen) := goodIn_app (goodIn_of _ (by decide +kernel)) ggX3_pickOpen_X1_isOpen
theorem dX3_pickOpen_0 : decode cX3_pickOpen 0 = .ok (.aload_n 0, 1) := by decide +kernel
theorem dX3_pickOpen_1 : decode cX3_pickOpen 1 = .ok (.iconst 0, 1) := by decide +kernel
theorem dX3_pickOpen_2 : decode cX3_pickOpen 2 = .ok (.putfield 64, 3) := by decide +kernel
theorem dX3_pickOpen_5 : decode cX3_pickOpen 5 = .ok (.iconst 0, 1) := by decide +kernel
theorem dX3_pickOpen_6 : decode cX3_pickOpen 6 = .ok (.istore_n 1, 1) := by decide +kernel
theorem dX3_pickOpen_7 : decode cX3_pickOpen 7 = .ok (.iload_n 1, 1) := by decide +kernel
theorem dX3_pickOpen_8 : decode cX3_pickOpen 8 = .ok (.aload_n 0, 1) := by decide +kernel
theorem dX3_pickOpen_9 : decode cX3_pickOpen 9 = .ok (.getfield 36, 3) := by decide +kernel
theorem dX3_pickOpen_12 : decode cX3_pickOpen 12 = .ok (.if_icmp .ge 67, 3) := by decide +kernel
theorem dX3_pickOpen_15 : decode cX3_pickOpen 15 = .ok (.iload_n 1, 1) := by decide +kernel
theorem dX3_pickOpen_16 : decode cX3_pickOpen 16 = .ok (.sipush 512, 3) := by decide +kernel
theorem dX3_pickOpen_19 : decode cX3_pickOpen 19 = .ok (.if_icmp .ge 60, 3) := by decide +kernel
theorem dX3_pickOpen_22 : decode cX3_pickOpen 22 = .ok (.aload_n 0, 1) := by decide +kernel
theorem dX3_pickOpen_23 : decode cX3_pickOpen 23 = .ok (.getfield 21, 3) := by decide +kernel
theorem dX3_pickOpen_26 : decode cX3_pickOpen 26 = .ok (.aload_n 0, 1) := by decide +kernel
theorem dX3_pickOpen_27 : decode cX3_pickOpen 27 = .ok (.getfield 9, 3) := by decide +kernel
theorem dX3_pickOpen_30 : decode cX3_pickOpen 30 = .ok (.iload_n 1, 1) := by decide +kernel
theorem dX3_pickOpen_31 : decode cX3_pickOpen 31 = .ok (.iaload, 1) := by decide +kernel
theorem dX3_pickOpen_32 : decode cX3_pickOpen 32 = .ok (.invokevirtual 67, 3) := by decide +kernel
theorem dX3_pickOpen_35 : decode cX3_pickOpen 35 = .ok (.ifCond .eq 38, 3) := by decide +kernel
theorem dX3_pickOpen_38 : decode cX3_pickOpen 38 = .ok (.aload_n 0, 1) := by decide +kernel
theorem dX3_pickOpen_39 : decode cX3_pickOpen 39 = .ok (.getfield 64, 3) := by decide +kernel
theorem dX3_pickOpen_42 : decode cX3_pickOpen 42 = .ok (.sipush 512, 3) := by decide +kernel
theorem dX3_pickOpen_45 : decode cX3_pickOpen 45 = .ok (.if_icmp .ge 28, 3) := by decide +kernel
theorem dX3_pickOpen_48 : decode cX3_pickOpen 48 = .ok (.aload_n 0, 1) := by decide +kernel
theorem dX3_pickOpen_49 : decode cX3_pickOpen 49 = .ok (.getfield 15, 3) := by decide +kernel
theorem dX3_pickOpen_52 : decode cX3_pickOpen 52 = .ok (.aload_n 0, 1) := by decide +kernel
theorem dX3_pickOpen_53 : decode cX3_pickOpen 53 = .ok (.getfield 64, 3) := by decide +kernel
theorem dX3_pickOpen_56 : decode cX3_pickOpen 56 = .ok (.aload_n 0, 1) := by decide +kernel
theorem dX3_pickOpen_57 : decode cX3_pickOpen 57 = .ok (.getfield 9, 3) := by decide +kernel
theorem dX3_pickOpen_60 : decode cX3_pickOpen 60 = .ok (.iload_n 1, 1) := by decide +kernel
theorem dX3_pickOpen_61 : decode cX3_pickOpen 61 = .ok (.iaload, 1) := by decide +kernel
theorem dX3_pickOpen_62 : decode cX3_pickOpen 62 = .ok (.iastore, 1) := by decide +kernel
theorem dX3_pickOpen_63 : decode cX3_pickOpen 63 = .ok (.aload_n 0, 1) := by decide +kernel
theorem dX3_pickOpen_64 : decode cX3_pickOpen 64 = .ok (.dup, 1) := by decide +kernel
theorem dX3_pickOpen_65 : decode cX3_pickOpen 65 = .ok (.getfield 64, 3) := by decide +kernel
theorem dX3_pickOpen_68 : decode cX3_pickOpen 68 = .ok (.iconst 1, 1) := by decide +kernel
theorem dX3_pickOpen_69 : decode cX3_pickOpen 69 = .ok (.iadd, 1) := by decide +kernel
theorem dX3_pickOpen_70 : decode cX3_pickOpen 70 = .ok (.putfield 64, 3) := by decide +kernel
theorem dX3_pickOpen_73 : decode cX3_pickOpen 73 = .ok (.iinc 1 1, 3) := by decide +kernel
theorem dX3_pickOpen_76 : decode cX3_pickOpen 76 = .ok (.goto (-69), 3) := by decide +kernel
theorem dX3_pickOpen_79 : decode cX3_pickOpen 79 = .ok (.return_, 1) := by decide +kernel
set_option maxRecDepth 20000 in
theorem ggX3_addUp_X4_bit : GoodIn wsX3_addUp wsX4_bit := goodIn_r _ [6] (by decide +kernel) (by decide +kernel)
set_option maxRecDepth 20000 in
theorem gX3_addUp_X4_bit_n60 : GoodIn wsX3_addUp (wsX4_bit) := ggX3_addUp_X4_bit
theorem dX3_addUp_0 : decode cX3_addUp 0 = .ok (.iconst 0, 1) := by decide +kernel
theorem dX3_addUp_1 : decode cX3_addUp 1 = .ok (.istore_n 2, 1) := by decide +kernel
theorem dX3_addUp_2 : decode cX3_addUp 2 = .ok (.bipush 8, 2) := by decide +kernel
theorem dX3_addUp_4 : decode cX3_addUp 4 = .ok (.istore_n 3, 1) := by decide +kernel
theorem dX3_addUp_5 : decode cX3_addUp 5 = .ok (.iload_n 3, 1) := by decide +kernel
theorem dX3_addUp_6 : decode cX3_addUp 6 = .ok (.ifCond .lt 97, 3) := by decide +kernel
theorem dX3_addUp_9 : decode cX3_addUp 9 = .ok (.aload_n 0, 1) := by decide +kernel
theorem dX3_addUp_10 : decode cX3_addUp 10 = .ok (.getfield 25, 3) := by decide +kernel
theorem dX3_addUp_13 : decode cX3_addUp 13 = .ok (.iload_n 3, 1) := by decide +kernel
theorem dX3_addUp_14 : decode cX3_addUp 14 = .ok (.aload_n 1, 1) := by decide +kernel
theorem dX3_addUp_15 : decode cX3_addUp 15 = .ok (.getfield 40, 3) := by decide +kernel
theorem dX3_addUp_18 : decode cX3_addUp 18 = .ok (.iload_n 3, 1) := by decide +kernel
theorem dX3_addUp_19 : decode cX3_addUp 19 = .ok (.iaload, 1) := by decide +kernel
theorem dX3_addUp_20 : decode cX3_addUp 20 = .ok (.iconst 2, 1) := by decide +kernel
theorem dX3_addUp_21 : decode cX3_addUp 21 = .ok (.iand, 1) := by decide +kernel
theorem dX3_addUp_22 : decode cX3_addUp 22 = .ok (.ifCond .eq 7, 3) := by decide +kernel
theorem dX3_addUp_25 : decode cX3_addUp 25 = .ok (.iconst 1, 1) := by decide +kernel
theorem dX3_addUp_26 : decode cX3_addUp 26 = .ok (.goto 4, 3) := by decide +kernel
theorem dX3_addUp_29 : decode cX3_addUp 29 = .ok (.iconst 0, 1) := by decide +kernel
theorem dX3_addUp_30 : decode cX3_addUp 30 = .ok (.iastore, 1) := by decide +kernel
theorem dX3_addUp_31 : decode cX3_addUp 31 = .ok (.iload_n 3, 1) := by decide +kernel
theorem dX3_addUp_32 : decode cX3_addUp 32 = .ok (.iconst 1, 1) := by decide +kernel
theorem dX3_addUp_33 : decode cX3_addUp 33 = .ok (.iadd, 1) := by decide +kernel
theorem dX3_addUp_34 : decode cX3_addUp 34 = .ok (.istore 4, 2) := by decide +kernel
theorem dX3_addUp_36 : decode cX3_addUp 36 = .ok (.iload 4, 2) := by decide +kernel
theorem dX3_addUp_38 : decode cX3_addUp 38 = .ok (.bipush 9, 2) := by decide +kernel
theorem dX3_addUp_40 : decode cX3_addUp 40 = .ok (.if_icmp .ge 37, 3) := by decide +kernel
theorem dX3_addUp_43 : decode cX3_addUp 43 = .ok (.aload_n 0, 1) := by decide +kernel
theorem dX3_addUp_44 : decode cX3_addUp 44 = .ok (.getfield 25, 3) := by decide +kernel
theorem dX3_addUp_47 : decode cX3_addUp 47 = .ok (.iload_n 3, 1) := by decide +kernel
theorem dX3_addUp_48 : decode cX3_addUp 48 = .ok (.dup2, 1) := by decide +kernel
theorem dX3_addUp_49 : decode cX3_addUp 49 = .ok (.iaload, 1) := by decide +kernel
theorem dX3_addUp_50 : decode cX3_addUp 50 = .ok (.aload_n 1, 1) := by decide +kernel
theorem dX3_addUp_51 : decode cX3_addUp 51 = .ok (.getfield 50, 3) := by decide +kernel
theorem dX3_addUp_54 : decode cX3_addUp 54 = .ok (.iload_n 3, 1) := by decide +kernel
theorem dX3_addUp_55 : decode cX3_addUp 55 = .ok (.iaload, 1) := by decide +kernel
theorem dX3_addUp_56 : decode cX3_addUp 56 = .ok (.iload 4, 2) := by decide +kernel
theorem dX3_addUp_58 : decode cX3_addUp 58 = .ok (.invokestatic 60, 3) := by decide +kernel
theorem dX3_addUp_61 : decode cX3_addUp 61 = .ok (.aload_n 0, 1) := by decide +kernel
theorem dX3_addUp_62 : decode cX3_addUp 62 = .ok (.getfield 25, 3) := by decide +kernel
theorem dX3_addUp_65 : decode cX3_addUp 65 = .ok (.iload 4, 2) := by decide +kernel
theorem dX3_addUp_67 : decode cX3_addUp 67 = .ok (.iaload, 1) := by decide +kernel
theorem dX3_addUp_68 : decode cX3_addUp 68 = .ok (.imul, 1) := by decide +kernel
theorem dX3_addUp_69 : decode cX3_addUp 69 = .ok (.iadd, 1) := by decide +kernel
theorem dX3_addUp_70 : decode cX3_addUp 70 = .ok (.iastore, 1) := by decide +kernel
theorem dX3_addUp_71 : decode cX3_addUp 71 = .ok (.iinc 4 1, 3) := by decide +kernel
theorem dX3_addUp_74 : decode cX3_addUp 74 = .ok (.goto (-38), 3) := by decide +kernel
theorem dX3_addUp_77 : decode cX3_addUp 77 = .ok (.aload_n 1, 1) := by decide +kernel
theorem dX3_addUp_78 : decode cX3_addUp 78 = .ok (.getfield 40, 3) := by decide +kernel
theorem dX3_addUp_81 : decode cX3_addUp 81 = .ok (.iload_n 3, 1) := by decide +kernel
theorem dX3_addUp_82 : decode cX3_addUp 82 = .ok (.iaload, 1) := by decide +kernel
theorem dX3_addUp_83 : decode cX3_addUp 83 = .ok (.iconst 1, 1) := by decide +kernel
theorem dX3_addUp_84 : decode cX3_addUp 84 = .ok (.iand, 1) := by decide +kernel
theorem dX3_addUp_85 : decode cX3_addUp 85 = .ok (.ifCond .eq 12, 3) := by decide +kernel
theorem dX3_addUp_88 : decode cX3_addUp 88 = .ok (.iload_n 2, 1) := by decide +kernel
theorem dX3_addUp_89 : decode cX3_addUp 89 = .ok (.aload_n 0, 1) := by decide +kernel
theorem dX3_addUp_90 : decode cX3_addUp 90 = .ok (.getfield 25, 3) := by decide +kernel
theorem dX3_addUp_93 : decode cX3_addUp 93 = .ok (.iload_n 3, 1) := by decide +kernel
theorem dX3_addUp_94 : decode cX3_addUp 94 = .ok (.iaload, 1) := by decide +kernel
theorem dX3_addUp_95 : decode cX3_addUp 95 = .ok (.iadd, 1) := by decide +kernel
theorem dX3_addUp_96 : decode cX3_addUp 96 = .ok (.istore_n 2, 1) := by decide +kernel
theorem dX3_addUp_97 : decode cX3_addUp 97 = .ok (.iinc 3 (-1), 3) := by decide +kernel
theorem dX3_addUp_100 : decode cX3_addUp 100 = .ok (.goto (-95), 3) := by decide +kernel
theorem dX3_addUp_103 : decode cX3_addUp 103 = .ok (.iload_n 2, 1) := by decide +kernel
theorem dX3_addUp_104 : decode cX3_addUp 104 = .ok (.ireturn, 1) := by decide +kernel
set_option maxRecDepth 20000 in
theorem ggX4_init_X1_init : GoodIn wsX4_init wsX1_init := goodIn_r _ [27, 28, 2, 3, 29, 30, 31, 32, 33, 34, 35, 36, 56, 57, 58, 59, 60, 61, 62, 63, 64, 65] (by decide +kernel) (by decide +kernel)
set_option maxRecDepth 20000 in
theorem gX4_init_X1_init_n11 : GoodIn wsX4_init (wsX1_init) := ggX4_init_X1_init
set_option maxRecDepth 20000 in
theorem ggX4_init_X2_init : GoodIn wsX4_init wsX2_init := goodIn_r _ [38, 39, 2, 3, 29, 40, 41, 5, 6, 42, 26, 27, 28, 30, 31, 32, 33, 34, 35, 36, 75, 76, 77, 78, 79, 80, 81, 56, 57, 58, 59, 60, 61, 62, 63, 64, 65] (by decide +kernel) (by decide +kernel)
set_option maxRecDepth 20000 in
theorem gX4_init_X2_init_n32 : GoodIn wsX4_init (wsX2_init) := ggX4_init_X2_init
set_option maxRecDepth 20000 in
theorem ggX4_init_X3_init : GoodIn wsX4_init wsX3_init := goodIn_r _ [44, 45, 2, 3, 29, 46, 47, 48, 5, 6, 49, 50, 26, 27, 28, 30, 31, 32, 33, 34, 35, 36, 82, 83, 84, 85, 86, 87, 56, 57, 58, 59, 60, 61, 62, 63, 64, 65] (by decide +kernel) (by decide +kernel)
set_option maxRecDepth 20000 in
theorem gX4_init_X3_init_n39 : GoodIn wsX4_init (wsX3_init) := ggX4_init_X3_init
set_option maxRecDepth 20000 in
theorem ggX4_init_X0_init : GoodIn wsX4_init wsX0_init := goodIn_r _ [52, 53, 2, 3, 29, 54, 55, 88, 89, 90] (by decide +kernel) (by decide +kernel)
set_option maxRecDepth 20000 in
theorem gX4_init_X0_init_n46 : GoodIn wsX4_init (wsX0_init) := ggX4_init_X0_init
theorem dX4_init_0 : decode cX4_init 0 = .ok (.aload_n 0, 1) := by decide +kernel
theorem dX4_init_1 : decode cX4_init 1 = .ok (.invokespecial 3, 3) := by decide +kernel
theorem dX4_init_4 : decode cX4_init 4 = .ok (.aload_n 0, 1) := by decide +kernel
theorem dX4_init_5 : decode cX4_init 5 = .ok (.new 9, 3) := by decide +kernel
theorem dX4_init_8 : decode cX4_init 8 = .ok (.dup, 1) := by decide +kernel
theorem dX4_init_9 : decode cX4_init 9 = .ok (.invokespecial 11, 3) := by decide +kernel
theorem dX4_init_12 : decode cX4_init 12 = .ok (.putfield 12, 3) := by decide +kernel
theorem dX4_init_15 : decode cX4_init 15 = .ok (.aload_n 0, 1) := by decide +kernel
theorem dX4_init_16 : decode cX4_init 16 = .ok (.new 9, 3) := by decide +kernel
theorem dX4_init_19 : decode cX4_init 19 = .ok (.dup, 1) := by decide +kernel
theorem dX4_init_20 : decode cX4_init 20 = .ok (.invokespecial 11, 3) := by decide +kernel
theorem dX4_init_23 : decode cX4_init 23 = .ok (.putfield 16, 3) := by decide +kernel
theorem dX4_init_26 : decode cX4_init 26 = .ok (.aload_n 0, 1) := by decide +kernel
theorem dX4_init_27 : decode cX4_init 27 = .ok (.bipush 6, 2) := by decide +kernel
theorem dX4_init_29 : decode cX4_init 29 = .ok (.anewarray 9, 3) := by decide +kernel
theorem dX4_init_32 : decode cX4_init 32 = .ok (.putfield 19, 3) := by decide +kernel
theorem dX4_init_35 : decode cX4_init 35 = .ok (.aload_n 0, 1) := by decide +kernel
theorem dX4_init_36 : decode cX4_init 36 = .ok (.iconst 2, 1) := by decide +kernel
theorem dX4_init_37 : decode cX4_init 37 = .ok (.anewarray 9, 3) := by decide +kernel
theorem dX4_init_40 : decode cX4_init 40 = .ok (.putfield 23, 3) := by decide +kernel
theorem dX4_init_43 : decode cX4_init 43 = .ok (.aload_n 0, 1) := by decide +kernel
theorem dX4_init_44 : decode cX4_init 44 = .ok (.iconst 2, 1) := by decide +kernel
theorem dX4_init_45 : decode cX4_init 45 = .ok (.newarray .boolean, 2) := by decide +kernel
theorem dX4_init_47 : decode cX4_init 47 = .ok (.putfield 26, 3) := by decide +kernel
theorem dX4_init_50 : decode cX4_init 50 = .ok (.aload_n 0, 1) := by decide +kernel
theorem dX4_init_51 : decode cX4_init 51 = .ok (.new 30, 3) := by decide +kernel
theorem dX4_init_54 : decode cX4_init 54 = .ok (.dup, 1) := by decide +kernel
theorem dX4_init_55 : decode cX4_init 55 = .ok (.invokespecial 32, 3) := by decide +kernel
theorem dX4_init_58 : decode cX4_init 58 = .ok (.putfield 33, 3) := by decide +kernel
theorem dX4_init_61 : decode cX4_init 61 = .ok (.aload_n 0, 1) := by decide +kernel
theorem dX4_init_62 : decode cX4_init 62 = .ok (.new 37, 3) := by decide +kernel
theorem dX4_init_65 : decode cX4_init 65 = .ok (.dup, 1) := by decide +kernel
theorem dX4_init_66 : decode cX4_init 66 = .ok (.invokespecial 39, 3) := by decide +kernel
theorem dX4_init_69 : decode cX4_init 69 = .ok (.putfield 40, 3) := by decide +kernel
theorem dX4_init_72 : decode cX4_init 72 = .ok (.aload_n 0, 1) := by decide +kernel
theorem dX4_init_73 : decode cX4_init 73 = .ok (.new 44, 3) := by decide +kernel
theorem dX4_init_76 : decode cX4_init 76 = .ok (.dup, 1) := by decide +kernel
theorem dX4_init_77 : decode cX4_init 77 = .ok (.invokespecial 46, 3) := by decide +kernel
theorem dX4_init_80 : decode cX4_init 80 = .ok (.putfield 47, 3) := by decide +kernel
theorem dX4_init_83 : decode cX4_init 83 = .ok (.iconst 0, 1) := by decide +kernel
theorem dX4_init_84 : decode cX4_init 84 = .ok (.istore_n 1, 1) := by decide +kernel
theorem dX4_init_85 : decode cX4_init 85 = .ok (.iload_n 1, 1) := by decide +kernel
theorem dX4_init_86 : decode cX4_init 86 = .ok (.bipush 6, 2) := by decide +kernel
theorem dX4_init_88 : decode cX4_init 88 = .ok (.if_icmp .ge 22, 3) := by decide +kernel
theorem dX4_init_91 : decode cX4_init 91 = .ok (.aload_n 0, 1) := by decide +kernel
theorem dX4_init_92 : decode cX4_init 92 = .ok (.getfield 19, 3) := by decide +kernel
theorem dX4_init_95 : decode cX4_init 95 = .ok (.iload_n 1, 1) := by decide +kernel
theorem dX4_init_96 : decode cX4_init 96 = .ok (.new 9, 3) := by decide +kernel
theorem dX4_init_99 : decode cX4_init 99 = .ok (.dup, 1) := by decide +kernel
theorem dX4_init_100 : decode cX4_init 100 = .ok (.invokespecial 11, 3) := by decide +kernel
theorem dX4_init_103 : decode cX4_init 103 = .ok (.aastore, 1) := by decide +kernel
theorem dX4_init_104 : decode cX4_init 104 = .ok (.iinc 1 1, 3) := by decide +kernel
theorem dX4_init_107 : decode cX4_init 107 = .ok (.goto (-22), 3) := by decide +kernel
theorem dX4_init_110 : decode cX4_init 110 = .ok (.iconst 0, 1) := by decide +kernel
theorem dX4_init_111 : decode cX4_init 111 = .ok (.istore_n 1, 1) := by decide +kernel
theorem dX4_init_112 : decode cX4_init 112 = .ok (.iload_n 1, 1) := by decide +kernel
theorem dX4_init_113 : decode cX4_init 113 = .ok (.iconst 2, 1) := by decide +kernel
theorem dX4_init_114 : decode cX4_init 114 = .ok (.if_icmp .ge 22, 3) := by decide +kernel
theorem dX4_init_117 : decode cX4_init 117 = .ok (.aload_n 0, 1) := by decide +kernel
theorem dX4_init_118 : decode cX4_init 118 = .ok (.getfield 23, 3) := by decide +kernel
theorem dX4_init_121 : decode cX4_init 121 = .ok (.iload_n 1, 1) := by decide +kernel
theorem dX4_init_122 : decode cX4_init 122 = .ok (.new 9, 3) := by decide +kernel
theorem dX4_init_125 : decode cX4_init 125 = .ok (.dup, 1) := by decide +kernel
theorem dX4_init_126 : decode cX4_init 126 = .ok (.invokespecial 11, 3) := by decide +kernel
theorem dX4_init_129 : decode cX4_init 129 = .ok (.aastore, 1) := by decide +kernel
theorem dX4_init_130 : decode cX4_init 130 = .ok (.iinc 1 1, 3) := by decide +kernel
theorem dX4_init_133 : decode cX4_init 133 = .ok (.goto (-21), 3) := by decide +kernel
theorem dX4_init_136 : decode cX4_init 136 = .ok (.aload_n 0, 1) := by decide +kernel
theorem dX4_init_137 : decode cX4_init 137 = .ok (.getfield 12, 3) := by decide +kernel
theorem dX4_init_140 : decode cX4_init 140 = .ok (.getfield 51, 3) := by decide +kernel
theorem dX4_init_143 : decode cX4_init 143 = .ok (.iconst 0, 1) := by decide +kernel
theorem dX4_init_144 : decode cX4_init 144 = .ok (.iconst 1, 1) := by decide +kernel
theorem dX4_init_145 : decode cX4_init 145 = .ok (.iastore, 1) := by decide +kernel
theorem dX4_init_146 : decode cX4_init 146 = .ok (.aload_n 0, 1) := by decide +kernel
theorem dX4_init_147 : decode cX4_init 147 = .ok (.getfield 12, 3) := by decide +kernel
theorem dX4_init_150 : decode cX4_init 150 = .ok (.getfield 51, 3) := by decide +kernel
theorem dX4_init_153 : decode cX4_init 153 = .ok (.bipush 8, 2) := by decide +kernel
theorem dX4_init_155 : decode cX4_init 155 = .ok (.iconst 2, 1) := by decide +kernel
theorem dX4_init_156 : decode cX4_init 156 = .ok (.iastore, 1) := by decide +kernel
theorem dX4_init_157 : decode cX4_init 157 = .ok (.return_, 1) := by decide +kernel
set_option maxRecDepth 20000 in
theorem ggX4_cover_X4_isPiece : GoodIn wsX4_cover wsX4_isPiece := goodIn_r _ [10] (by decide +kernel) (by decide +kernel)
set_option maxRecDepth 20000 in
theorem gX4_cover_X4_isPiece : GoodIn wsX4_cover (va_wsS RX4 55 yX4_isPiece wsX4_isPiece) := goodIn_app (goodIn_of _ (by decide +kernel)) ggX4_cover_X4_isPiece
set_option maxRecDepth 20000 in
theorem ggX4_cover_X4_saveState : GoodIn wsX4_cover wsX4_saveState := goodIn_r _ [14, 15, 5, 16, 17, 18, 19, 9, 20, 21, 22, 23, 24, 25, 26, 27, 28, 29, 30, 31, 32, 33, 34, 35, 36, 37, 38, 39, 40, 41, 42, 47, 48, 49, 50, 51, 52, 53, 54, 55, 56, 57, 58, 59, 60, 61, 62, 63, 64, 65] (by decide +kernel) (by decide +kernel)
set_option maxRecDepth 20000 in
theorem gX4_cover_X4_saveState : GoodIn wsX4_cover (wsV RX4 71 RX4 yX4_saveState wsX4_saveState) := goodIn_app (goodIn_of _ (by decide +kernel)) ggX4_cover_X4_saveState
set_option maxRecDepth 20000 in
theorem ggX4_cover_X1_beginAnew : GoodIn wsX4_cover wsX1_beginAnew := goodIn_r _ [46, 40, 37, 29, 56, 57, 58, 59, 60, 61, 62, 63, 64, 65] (by decide +kernel) (by decide +kernel)
set_option maxRecDepth 20000 in
theorem gX4_cover_X1_beginAnew : GoodIn wsX4_cover (wsV RX4 77 RX1 yX1_beginAnew wsX1_beginAnew) := goodIn_app (goodIn_of _ (by decide +kernel)) ggX4_cover_X1_beginAnew
theorem dX4_cover_0 : decode cX4_cover 0 = .ok (.iload_n 1, 1) := by decide +kernel
theorem dX4_cover_1 : decode cX4_cover 1 = .ok (.invokestatic 55, 3) := by decide +kernel
theorem dX4_cover_4 : decode cX4_cover 4 = .ok (.ifCond .ne 13, 3) := by decide +kernel
theorem dX4_cover_7 : decode cX4_cover 7 = .ok (.new 59, 3) := by decide +kernel
theorem dX4_cover_10 : decode cX4_cover 10 = .ok (.dup, 1) := by decide +kernel
theorem dX4_cover_11 : decode cX4_cover 11 = .ok (.ldc 61, 2) := by decide +kernel
theorem dX4_cover_13 : decode cX4_cover 13 = .ok (.invokespecial 63, 3) := by decide +kernel
theorem dX4_cover_16 : decode cX4_cover 16 = .ok (.athrow, 1) := by decide +kernel
theorem dX4_cover_17 : decode cX4_cover 17 = .ok (.iload_n 2, 1) := by decide +kernel
theorem dX4_cover_18 : decode cX4_cover 18 = .ok (.ifCond .lt 10, 3) := by decide +kernel
theorem dX4_cover_21 : decode cX4_cover 21 = .ok (.iload_n 2, 1) := by decide +kernel
theorem dX4_cover_22 : decode cX4_cover 22 = .ok (.sipush 999, 3) := by decide +kernel
theorem dX4_cover_25 : decode cX4_cover 25 = .ok (.if_icmp .le 13, 3) := by decide +kernel
theorem dX4_cover_28 : decode cX4_cover 28 = .ok (.new 66, 3) := by decide +kernel
theorem dX4_cover_31 : decode cX4_cover 31 = .ok (.dup, 1) := by decide +kernel
theorem dX4_cover_32 : decode cX4_cover 32 = .ok (.ldc 68, 2) := by decide +kernel
theorem dX4_cover_34 : decode cX4_cover 34 = .ok (.invokespecial 70, 3) := by decide +kernel
theorem dX4_cover_37 : decode cX4_cover 37 = .ok (.athrow, 1) := by decide +kernel
theorem dX4_cover_38 : decode cX4_cover 38 = .ok (.aload_n 0, 1) := by decide +kernel
theorem dX4_cover_39 : decode cX4_cover 39 = .ok (.invokevirtual 71, 3) := by decide +kernel
theorem dX4_cover_42 : decode cX4_cover 42 = .ok (.aload_n 0, 1) := by decide +kernel
theorem dX4_cover_43 : decode cX4_cover 43 = .ok (.getfield 12, 3) := by decide +kernel
theorem dX4_cover_46 : decode cX4_cover 46 = .ok (.getfield 74, 3) := by decide +kernel
theorem dX4_cover_49 : decode cX4_cover 49 = .ok (.iload_n 1, 1) := by decide +kernel
theorem dX4_cover_50 : decode cX4_cover 50 = .ok (.iaload, 1) := by decide +kernel
theorem dX4_cover_51 : decode cX4_cover 51 = .ok (.istore_n 3, 1) := by decide +kernel
theorem dX4_cover_52 : decode cX4_cover 52 = .ok (.aload_n 0, 1) := by decide +kernel
theorem dX4_cover_53 : decode cX4_cover 53 = .ok (.getfield 12, 3) := by decide +kernel
theorem dX4_cover_56 : decode cX4_cover 56 = .ok (.getfield 74, 3) := by decide +kernel
theorem dX4_cover_59 : decode cX4_cover 59 = .ok (.iload_n 1, 1) := by decide +kernel
theorem dX4_cover_60 : decode cX4_cover 60 = .ok (.iload_n 2, 1) := by decide +kernel
theorem dX4_cover_61 : decode cX4_cover 61 = .ok (.iastore, 1) := by decide +kernel
theorem dX4_cover_62 : decode cX4_cover 62 = .ok (.aload_n 0, 1) := by decide +kernel
theorem dX4_cover_63 : decode cX4_cover 63 = .ok (.getfield 12, 3) := by decide +kernel
theorem dX4_cover_66 : decode cX4_cover 66 = .ok (.invokevirtual 77, 3) := by decide +kernel
theorem dX4_cover_69 : decode cX4_cover 69 = .ok (.iload_n 3, 1) := by decide +kernel
theorem dX4_cover_70 : decode cX4_cover 70 = .ok (.ireturn, 1) := by decide +kernel
set_option maxRecDepth 20000 in
theorem ggX4_join_X4_isPiece : GoodIn wsX4_join wsX4_isPiece := goodIn_r _ [10] (by decide +kernel) (by decide +kernel)
set_option maxRecDepth 20000 in
theorem gX4_join_X4_isPiece : GoodIn wsX4_join (va_wsS RX4 55 yX4_isPiece wsX4_isPiece) := goodIn_app (goodIn_of _ (by decide +kernel)) ggX4_join_X4_isPiece
