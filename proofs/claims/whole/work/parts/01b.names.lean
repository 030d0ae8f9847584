theorem dX0_init_0 : decode cX0_init 0 = .ok (.aload_n 0, 1) := by decide +kernel
theorem dX0_init_1 : decode cX0_init 1 = .ok (.invokespecial 3, 3) := by decide +kernel
theorem dX0_init_4 : decode cX0_init 4 = .ok (.aload_n 0, 1) := by decide +kernel
theorem dX0_init_5 : decode cX0_init 5 = .ok (.aload_n 1, 1) := by decide +kernel
theorem dX0_init_6 : decode cX0_init 6 = .ok (.putfield 9, 3) := by decide +kernel
theorem dX0_init_9 : decode cX0_init 9 = .ok (.aload_n 0, 1) := by decide +kernel
theorem dX0_init_10 : decode cX0_init 10 = .ok (.aload_n 2, 1) := by decide +kernel
theorem dX0_init_11 : decode cX0_init 11 = .ok (.putfield 15, 3) := by decide +kernel
theorem dX0_init_14 : decode cX0_init 14 = .ok (.return_, 1) := by decide +kernel
set_option maxRecDepth 20000 in
theorem ggX0_lowestWall_X5_lookNow : GoodIn wsX0_lowestWall wsX5_lookNow := goodIn_r _ [11, 12, 13, 14, 15, 16, 17, 18, 19, 20, 21, 22, 23, 24, 25, 26, 27, 28, 29, 30, 31, 32, 33, 34, 35, 36, 37, 38, 39, 40, 41, 42, 43, 44, 45, 46, 47, 48, 49, 50, 51, 52, 53, 103, 104, 105, 106, 86, 87, 88, 89, 90, 91, 92, 93, 94, 95, 96, 97, 98, 99, 100, 101, 102, 107, 108] (by decide +kernel) (by decide +kernel)
set_option maxRecDepth 20000 in
theorem gX0_lowestWall_X5_lookNow : GoodIn wsX0_lowestWall (wsV RX0 19 RX5 yX5_lookNow wsX5_lookNow) := goodIn_app (goodIn_of _ (by decide +kernel)) ggX0_lowestWall_X5_lookNow
set_option maxRecDepth 20000 in
theorem ggX0_lowestWall_X2_hasNothing : GoodIn wsX0_lowestWall wsX2_hasNothing := goodIn_r _ [57, 27, 86, 87, 88, 89, 90, 91, 92, 93, 94, 95, 96, 97, 98] (by decide +kernel) (by decide +kernel)
set_option maxRecDepth 20000 in
theorem gX0_lowestWall_X2_hasNothing : GoodIn wsX0_lowestWall (wsV RX0 39 RX2 yX2_hasNothing wsX2_hasNothing) := goodIn_app (goodIn_of _ (by decide +kernel)) ggX0_lowestWall_X2_hasNothing
set_option maxRecDepth 20000 in
theorem ggX0_lowestWall_X5_numberIf : GoodIn wsX0_lowestWall wsX5_numberIf := goodIn_r _ [61, 16, 62, 63, 64, 10, 65, 12, 66, 67, 68, 69, 70, 71, 72, 73, 74, 75, 76, 77, 78, 79, 80, 14, 81, 41, 82, 83, 103, 104, 105, 106, 86, 87, 88, 89, 90, 91, 92, 93, 94, 95, 96, 97, 98, 99, 100, 101, 102] (by decide +kernel) (by decide +kernel)
set_option maxRecDepth 20000 in
theorem gX0_lowestWall_X5_numberIf : GoodIn wsX0_lowestWall (wsV RX0 47 RX5 yX5_numberIf wsX5_numberIf) := goodIn_app (goodIn_of _ (by decide +kernel)) ggX0_lowestWall_X5_numberIf
theorem dX0_lowestWall_0 : decode cX0_lowestWall 0 = .ok (.aload_n 0, 1) := by decide +kernel
theorem dX0_lowestWall_1 : decode cX0_lowestWall 1 = .ok (.getfield 15, 3) := by decide +kernel
theorem dX0_lowestWall_4 : decode cX0_lowestWall 4 = .ok (.invokevirtual 19, 3) := by decide +kernel
theorem dX0_lowestWall_7 : decode cX0_lowestWall 7 = .ok (.aload_n 0, 1) := by decide +kernel
theorem dX0_lowestWall_8 : decode cX0_lowestWall 8 = .ok (.getfield 9, 3) := by decide +kernel
theorem dX0_lowestWall_11 : decode cX0_lowestWall 11 = .ok (.getfield 24, 3) := by decide +kernel
theorem dX0_lowestWall_14 : decode cX0_lowestWall 14 = .ok (.iload_n 1, 1) := by decide +kernel
theorem dX0_lowestWall_15 : decode cX0_lowestWall 15 = .ok (.aaload, 1) := by decide +kernel
theorem dX0_lowestWall_16 : decode cX0_lowestWall 16 = .ok (.getfield 30, 3) := by decide +kernel
theorem dX0_lowestWall_19 : decode cX0_lowestWall 19 = .ok (.istore_n 3, 1) := by decide +kernel
theorem dX0_lowestWall_20 : decode cX0_lowestWall 20 = .ok (.iconst 1, 1) := by decide +kernel
theorem dX0_lowestWall_21 : decode cX0_lowestWall 21 = .ok (.istore 4, 2) := by decide +kernel
theorem dX0_lowestWall_23 : decode cX0_lowestWall 23 = .ok (.iload 4, 2) := by decide +kernel
theorem dX0_lowestWall_25 : decode cX0_lowestWall 25 = .ok (.bipush 9, 2) := by decide +kernel
theorem dX0_lowestWall_27 : decode cX0_lowestWall 27 = .ok (.if_icmp .gt 78, 3) := by decide +kernel
theorem dX0_lowestWall_30 : decode cX0_lowestWall 30 = .ok (.iconst 0, 1) := by decide +kernel
theorem dX0_lowestWall_31 : decode cX0_lowestWall 31 = .ok (.istore 5, 2) := by decide +kernel
theorem dX0_lowestWall_33 : decode cX0_lowestWall 33 = .ok (.iload 5, 2) := by decide +kernel
theorem dX0_lowestWall_35 : decode cX0_lowestWall 35 = .ok (.aload_n 0, 1) := by decide +kernel
theorem dX0_lowestWall_36 : decode cX0_lowestWall 36 = .ok (.getfield 9, 3) := by decide +kernel
theorem dX0_lowestWall_39 : decode cX0_lowestWall 39 = .ok (.getfield 36, 3) := by decide +kernel
theorem dX0_lowestWall_42 : decode cX0_lowestWall 42 = .ok (.if_icmp .ge 57, 3) := by decide +kernel
theorem dX0_lowestWall_45 : decode cX0_lowestWall 45 = .ok (.aload_n 0, 1) := by decide +kernel
theorem dX0_lowestWall_46 : decode cX0_lowestWall 46 = .ok (.getfield 9, 3) := by decide +kernel
theorem dX0_lowestWall_49 : decode cX0_lowestWall 49 = .ok (.iload 5, 2) := by decide +kernel
theorem dX0_lowestWall_51 : decode cX0_lowestWall 51 = .ok (.invokevirtual 39, 3) := by decide +kernel
theorem dX0_lowestWall_54 : decode cX0_lowestWall 54 = .ok (.ifCond .eq 39, 3) := by decide +kernel
theorem dX0_lowestWall_57 : decode cX0_lowestWall 57 = .ok (.aload_n 0, 1) := by decide +kernel
theorem dX0_lowestWall_58 : decode cX0_lowestWall 58 = .ok (.getfield 15, 3) := by decide +kernel
theorem dX0_lowestWall_61 : decode cX0_lowestWall 61 = .ok (.iload_n 3, 1) := by decide +kernel
theorem dX0_lowestWall_62 : decode cX0_lowestWall 62 = .ok (.iload 5, 2) := by decide +kernel
theorem dX0_lowestWall_64 : decode cX0_lowestWall 64 = .ok (.aload_n 0, 1) := by decide +kernel
theorem dX0_lowestWall_65 : decode cX0_lowestWall 65 = .ok (.getfield 9, 3) := by decide +kernel
theorem dX0_lowestWall_68 : decode cX0_lowestWall 68 = .ok (.getfield 43, 3) := by decide +kernel
theorem dX0_lowestWall_71 : decode cX0_lowestWall 71 = .ok (.iload 5, 2) := by decide +kernel
theorem dX0_lowestWall_73 : decode cX0_lowestWall 73 = .ok (.iaload, 1) := by decide +kernel
theorem dX0_lowestWall_74 : decode cX0_lowestWall 74 = .ok (.iload 4, 2) := by decide +kernel
theorem dX0_lowestWall_76 : decode cX0_lowestWall 76 = .ok (.iadd, 1) := by decide +kernel
theorem dX0_lowestWall_77 : decode cX0_lowestWall 77 = .ok (.invokevirtual 47, 3) := by decide +kernel
theorem dX0_lowestWall_80 : decode cX0_lowestWall 80 = .ok (.iload_n 2, 1) := by decide +kernel
theorem dX0_lowestWall_81 : decode cX0_lowestWall 81 = .ok (.if_icmp .ne 12, 3) := by decide +kernel
theorem dX0_lowestWall_84 : decode cX0_lowestWall 84 = .ok (.bipush 100, 2) := by decide +kernel
theorem dX0_lowestWall_86 : decode cX0_lowestWall 86 = .ok (.iload 4, 2) := by decide +kernel
theorem dX0_lowestWall_88 : decode cX0_lowestWall 88 = .ok (.imul, 1) := by decide +kernel
theorem dX0_lowestWall_89 : decode cX0_lowestWall 89 = .ok (.iload 5, 2) := by decide +kernel
theorem dX0_lowestWall_91 : decode cX0_lowestWall 91 = .ok (.iadd, 1) := by decide +kernel
theorem dX0_lowestWall_92 : decode cX0_lowestWall 92 = .ok (.ireturn, 1) := by decide +kernel
theorem dX0_lowestWall_93 : decode cX0_lowestWall 93 = .ok (.iinc 5 1, 3) := by decide +kernel
theorem dX0_lowestWall_96 : decode cX0_lowestWall 96 = .ok (.goto (-63), 3) := by decide +kernel
theorem dX0_lowestWall_99 : decode cX0_lowestWall 99 = .ok (.iinc 4 1, 3) := by decide +kernel
theorem dX0_lowestWall_102 : decode cX0_lowestWall 102 = .ok (.goto (-79), 3) := by decide +kernel
theorem dX0_lowestWall_105 : decode cX0_lowestWall 105 = .ok (.bipush (-9), 2) := by decide +kernel
theorem dX0_lowestWall_107 : decode cX0_lowestWall 107 = .ok (.ireturn, 1) := by decide +kernel
set_option maxRecDepth 20000 in
theorem ggX0_leastFloors_X5_lookNow : GoodIn wsX0_leastFloors wsX5_lookNow := goodIn_r _ [11, 12, 13, 14, 15, 16, 17, 18, 19, 20, 21, 22, 23, 24, 25, 26, 27, 28, 29, 30, 31, 32, 33, 34, 35, 36, 37, 38, 39, 40, 41, 42, 43, 44, 45, 46, 47, 48, 49, 50, 51, 52, 53, 100, 101, 102, 103, 83, 84, 85, 86, 87, 88, 89, 90, 91, 92, 93, 94, 95, 96, 97, 98, 99, 104, 105] (by decide +kernel) (by decide +kernel)
set_option maxRecDepth 20000 in
theorem gX0_leastFloors_X5_lookNow : GoodIn wsX0_leastFloors (wsV RX0 19 RX5 yX5_lookNow wsX5_lookNow) := goodIn_app (goodIn_of _ (by decide +kernel)) ggX0_leastFloors_X5_lookNow
set_option maxRecDepth 20000 in
theorem ggX0_leastFloors_X1_tallWith : GoodIn wsX0_leastFloors wsX1_tallWith := goodIn_r _ [47, 48, 49, 50, 51, 46, 52, 53, 96, 97, 98, 99] (by decide +kernel) (by decide +kernel)
set_option maxRecDepth 20000 in
theorem gX0_leastFloors_X1_tallWith : GoodIn wsX0_leastFloors (wsV RX0 54 RX1 yX1_tallWith wsX1_tallWith) := goodIn_app (goodIn_of _ (by decide +kernel)) ggX0_leastFloors_X1_tallWith
set_option maxRecDepth 20000 in
theorem ggX0_leastFloors_X5_numberIf : GoodIn wsX0_leastFloors wsX5_numberIf := goodIn_r _ [58, 16, 59, 60, 61, 10, 62, 12, 63, 64, 65, 66, 67, 68, 69, 70, 71, 72, 73, 74, 75, 76, 77, 14, 78, 41, 79, 80, 100, 101, 102, 103, 83, 84, 85, 86, 87, 88, 89, 90, 91, 92, 93, 94, 95, 96, 97, 98, 99] (by decide +kernel) (by decide +kernel)
set_option maxRecDepth 20000 in
theorem gX0_leastFloors_X5_numberIf : GoodIn wsX0_leastFloors (wsV RX0 47 RX5 yX5_numberIf wsX5_numberIf) := goodIn_app (goodIn_of _ (by decide +kernel)) ggX0_leastFloors_X5_numberIf
theorem dX0_leastFloors_0 : decode cX0_leastFloors 0 = .ok (.aload_n 0, 1) := by decide +kernel
theorem dX0_leastFloors_1 : decode cX0_leastFloors 1 = .ok (.getfield 15, 3) := by decide +kernel
theorem dX0_leastFloors_4 : decode cX0_leastFloors 4 = .ok (.invokevirtual 19, 3) := by decide +kernel
theorem dX0_leastFloors_7 : decode cX0_leastFloors 7 = .ok (.aload_n 0, 1) := by decide +kernel
theorem dX0_leastFloors_8 : decode cX0_leastFloors 8 = .ok (.getfield 9, 3) := by decide +kernel
theorem dX0_leastFloors_11 : decode cX0_leastFloors 11 = .ok (.getfield 24, 3) := by decide +kernel
theorem dX0_leastFloors_14 : decode cX0_leastFloors 14 = .ok (.iload_n 1, 1) := by decide +kernel
theorem dX0_leastFloors_15 : decode cX0_leastFloors 15 = .ok (.aaload, 1) := by decide +kernel
theorem dX0_leastFloors_16 : decode cX0_leastFloors 16 = .ok (.astore_n 3, 1) := by decide +kernel
theorem dX0_leastFloors_17 : decode cX0_leastFloors 17 = .ok (.iconst 0, 1) := by decide +kernel
theorem dX0_leastFloors_18 : decode cX0_leastFloors 18 = .ok (.istore 4, 2) := by decide +kernel
theorem dX0_leastFloors_20 : decode cX0_leastFloors 20 = .ok (.iload 4, 2) := by decide +kernel
theorem dX0_leastFloors_22 : decode cX0_leastFloors 22 = .ok (.bipush 9, 2) := by decide +kernel
theorem dX0_leastFloors_24 : decode cX0_leastFloors 24 = .ok (.if_icmp .gt 61, 3) := by decide +kernel
theorem dX0_leastFloors_27 : decode cX0_leastFloors 27 = .ok (.aload_n 0, 1) := by decide +kernel
theorem dX0_leastFloors_28 : decode cX0_leastFloors 28 = .ok (.getfield 9, 3) := by decide +kernel
theorem dX0_leastFloors_31 : decode cX0_leastFloors 31 = .ok (.getfield 43, 3) := by decide +kernel
theorem dX0_leastFloors_34 : decode cX0_leastFloors 34 = .ok (.aload_n 3, 1) := by decide +kernel
theorem dX0_leastFloors_35 : decode cX0_leastFloors 35 = .ok (.getfield 30, 3) := by decide +kernel
theorem dX0_leastFloors_38 : decode cX0_leastFloors 38 = .ok (.iaload, 1) := by decide +kernel
theorem dX0_leastFloors_39 : decode cX0_leastFloors 39 = .ok (.aload_n 3, 1) := by decide +kernel
theorem dX0_leastFloors_40 : decode cX0_leastFloors 40 = .ok (.iload 4, 2) := by decide +kernel
theorem dX0_leastFloors_42 : decode cX0_leastFloors 42 = .ok (.aload_n 0, 1) := by decide +kernel
theorem dX0_leastFloors_43 : decode cX0_leastFloors 43 = .ok (.getfield 9, 3) := by decide +kernel
theorem dX0_leastFloors_46 : decode cX0_leastFloors 46 = .ok (.getfield 51, 3) := by decide +kernel
theorem dX0_leastFloors_49 : decode cX0_leastFloors 49 = .ok (.invokevirtual 54, 3) := by decide +kernel
theorem dX0_leastFloors_52 : decode cX0_leastFloors 52 = .ok (.iadd, 1) := by decide +kernel
theorem dX0_leastFloors_53 : decode cX0_leastFloors 53 = .ok (.istore 5, 2) := by decide +kernel
theorem dX0_leastFloors_55 : decode cX0_leastFloors 55 = .ok (.aload_n 0, 1) := by decide +kernel
theorem dX0_leastFloors_56 : decode cX0_leastFloors 56 = .ok (.getfield 15, 3) := by decide +kernel
theorem dX0_leastFloors_59 : decode cX0_leastFloors 59 = .ok (.aload_n 3, 1) := by decide +kernel
theorem dX0_leastFloors_60 : decode cX0_leastFloors 60 = .ok (.getfield 30, 3) := by decide +kernel
theorem dX0_leastFloors_63 : decode cX0_leastFloors 63 = .ok (.aload_n 3, 1) := by decide +kernel
theorem dX0_leastFloors_64 : decode cX0_leastFloors 64 = .ok (.getfield 30, 3) := by decide +kernel
theorem dX0_leastFloors_67 : decode cX0_leastFloors 67 = .ok (.iload 5, 2) := by decide +kernel
theorem dX0_leastFloors_69 : decode cX0_leastFloors 69 = .ok (.invokevirtual 47, 3) := by decide +kernel
theorem dX0_leastFloors_72 : decode cX0_leastFloors 72 = .ok (.iload_n 2, 1) := by decide +kernel
theorem dX0_leastFloors_73 : decode cX0_leastFloors 73 = .ok (.if_icmp .ne 6, 3) := by decide +kernel
theorem dX0_leastFloors_76 : decode cX0_leastFloors 76 = .ok (.iload 4, 2) := by decide +kernel
theorem dX0_leastFloors_78 : decode cX0_leastFloors 78 = .ok (.ireturn, 1) := by decide +kernel
theorem dX0_leastFloors_79 : decode cX0_leastFloors 79 = .ok (.iinc 4 1, 3) := by decide +kernel
theorem dX0_leastFloors_82 : decode cX0_leastFloors 82 = .ok (.goto (-62), 3) := by decide +kernel
theorem dX0_leastFloors_85 : decode cX0_leastFloors 85 = .ok (.bipush (-9), 2) := by decide +kernel
theorem dX0_leastFloors_87 : decode cX0_leastFloors 87 = .ok (.ireturn, 1) := by decide +kernel
set_option maxRecDepth 20000 in
theorem ggX0_fewestFelled_X5_lookNow : GoodIn wsX0_fewestFelled wsX5_lookNow := goodIn_r _ [9, 10, 11, 12, 13, 14, 15, 16, 17, 18, 19, 20, 21, 22, 23, 24, 25, 26, 27, 28, 29, 30, 31, 32, 33, 34, 35, 36, 37, 38, 39, 40, 41, 42, 43, 44, 45, 46, 47, 48, 49, 50, 51, 115, 116, 117, 118, 102, 103, 104, 105, 106, 107, 108, 109, 110, 111, 112, 113, 114, 119, 120, 121, 122, 123, 124] (by decide +kernel) (by decide +kernel)
set_option maxRecDepth 20000 in
theorem gX0_fewestFelled_X5_lookNow : GoodIn wsX0_fewestFelled (wsV RX0 19 RX5 yX5_lookNow wsX5_lookNow) := goodIn_app (goodIn_of _ (by decide +kernel)) ggX0_fewestFelled_X5_lookNow
set_option maxRecDepth 20000 in
theorem ggX0_fewestFelled_J6_bitCount_0f7a4 : GoodIn wsX0_fewestFelled wsJ6_bitCount_0f7a4 := goodIn_r _ [55, 56, 57, 58] (by decide +kernel) (by decide +kernel)
set_option maxRecDepth 20000 in
theorem gX0_fewestFelled_J6_bitCount_0f7a4 : GoodIn wsX0_fewestFelled (va_wsS RX0 61 yJ6_bitCount_0f7a4 wsJ6_bitCount_0f7a4) := goodIn_app (goodIn_of _ (by decide +kernel)) ggX0_fewestFelled_J6_bitCount_0f7a4
set_option maxRecDepth 20000 in
theorem ggX0_fewestFelled_X0_numberFelling : GoodIn wsX0_fewestFelled wsX0_numberFelling := goodIn_r _ [63, 1, 2, 64, 4, 65, 66, 67, 8, 68, 10, 69, 70, 71, 14, 72, 73, 33, 34, 18, 35, 36, 37, 38, 39, 40, 74, 75, 76, 77, 78, 79, 80, 81, 82, 83, 84, 85, 86, 87, 88, 89, 90, 91, 92, 93, 94, 95, 96, 12, 97, 98, 99, 100, 101, 102, 103, 104, 105, 106, 107, 108, 109, 110, 111, 112, 113, 114, 115, 116, 117, 118, 123, 124, 119, 120, 121, 122] (by decide +kernel) (by decide +kernel)
set_option maxRecDepth 20000 in
theorem gX0_fewestFelled_X0_numberFelling : GoodIn wsX0_fewestFelled (wsV RX0 70 RX0 yX0_numberFelling wsX0_numberFelling) := goodIn_app (goodIn_of _ (by decide +kernel)) ggX0_fewestFelled_X0_numberFelling
theorem dX0_fewestFelled_0 : decode cX0_fewestFelled 0 = .ok (.aload_n 0, 1) := by decide +kernel
theorem dX0_fewestFelled_1 : decode cX0_fewestFelled 1 = .ok (.getfield 15, 3) := by decide +kernel
theorem dX0_fewestFelled_4 : decode cX0_fewestFelled 4 = .ok (.invokevirtual 19, 3) := by decide +kernel
theorem dX0_fewestFelled_7 : decode cX0_fewestFelled 7 = .ok (.iconst 1, 1) := by decide +kernel
theorem dX0_fewestFelled_8 : decode cX0_fewestFelled 8 = .ok (.aload_n 0, 1) := by decide +kernel
theorem dX0_fewestFelled_9 : decode cX0_fewestFelled 9 = .ok (.getfield 9, 3) := by decide +kernel
theorem dX0_fewestFelled_12 : decode cX0_fewestFelled 12 = .ok (.getfield 58, 3) := by decide +kernel
theorem dX0_fewestFelled_15 : decode cX0_fewestFelled 15 = .ok (.ishl, 1) := by decide +kernel
theorem dX0_fewestFelled_16 : decode cX0_fewestFelled 16 = .ok (.istore_n 3, 1) := by decide +kernel
theorem dX0_fewestFelled_17 : decode cX0_fewestFelled 17 = .ok (.bipush (-9), 2) := by decide +kernel
theorem dX0_fewestFelled_19 : decode cX0_fewestFelled 19 = .ok (.istore 4, 2) := by decide +kernel
theorem dX0_fewestFelled_21 : decode cX0_fewestFelled 21 = .ok (.iconst 0, 1) := by decide +kernel
theorem dX0_fewestFelled_22 : decode cX0_fewestFelled 22 = .ok (.istore 5, 2) := by decide +kernel
theorem dX0_fewestFelled_24 : decode cX0_fewestFelled 24 = .ok (.iload 5, 2) := by decide +kernel
theorem dX0_fewestFelled_26 : decode cX0_fewestFelled 26 = .ok (.iload_n 3, 1) := by decide +kernel
theorem dX0_fewestFelled_27 : decode cX0_fewestFelled 27 = .ok (.if_icmp .ge 69, 3) := by decide +kernel
theorem dX0_fewestFelled_30 : decode cX0_fewestFelled 30 = .ok (.iload 4, 2) := by decide +kernel
theorem dX0_fewestFelled_32 : decode cX0_fewestFelled 32 = .ok (.bipush (-9), 2) := by decide +kernel
theorem dX0_fewestFelled_34 : decode cX0_fewestFelled 34 = .ok (.if_icmp .eq 16, 3) := by decide +kernel
theorem dX0_fewestFelled_37 : decode cX0_fewestFelled 37 = .ok (.iload 5, 2) := by decide +kernel
theorem dX0_fewestFelled_39 : decode cX0_fewestFelled 39 = .ok (.invokestatic 61, 3) := by decide +kernel
theorem dX0_fewestFelled_42 : decode cX0_fewestFelled 42 = .ok (.iload 4, 2) := by decide +kernel
theorem dX0_fewestFelled_44 : decode cX0_fewestFelled 44 = .ok (.invokestatic 61, 3) := by decide +kernel
theorem dX0_fewestFelled_47 : decode cX0_fewestFelled 47 = .ok (.if_icmp .ge 7, 3) := by decide +kernel
theorem dX0_fewestFelled_50 : decode cX0_fewestFelled 50 = .ok (.iconst 1, 1) := by decide +kernel
theorem dX0_fewestFelled_51 : decode cX0_fewestFelled 51 = .ok (.goto 4, 3) := by decide +kernel
theorem dX0_fewestFelled_54 : decode cX0_fewestFelled 54 = .ok (.iconst 0, 1) := by decide +kernel
theorem dX0_fewestFelled_55 : decode cX0_fewestFelled 55 = .ok (.istore 6, 2) := by decide +kernel
theorem dX0_fewestFelled_57 : decode cX0_fewestFelled 57 = .ok (.iload 6, 2) := by decide +kernel
theorem dX0_fewestFelled_59 : decode cX0_fewestFelled 59 = .ok (.ifCond .eq 31, 3) := by decide +kernel
theorem dX0_fewestFelled_62 : decode cX0_fewestFelled 62 = .ok (.iload 5, 2) := by decide +kernel
theorem dX0_fewestFelled_64 : decode cX0_fewestFelled 64 = .ok (.aload_n 0, 1) := by decide +kernel
theorem dX0_fewestFelled_65 : decode cX0_fewestFelled 65 = .ok (.getfield 9, 3) := by decide +kernel
theorem dX0_fewestFelled_68 : decode cX0_fewestFelled 68 = .ok (.getfield 67, 3) := by decide +kernel
theorem dX0_fewestFelled_71 : decode cX0_fewestFelled 71 = .ok (.iand, 1) := by decide +kernel
theorem dX0_fewestFelled_72 : decode cX0_fewestFelled 72 = .ok (.ifCond .ne 18, 3) := by decide +kernel
theorem dX0_fewestFelled_75 : decode cX0_fewestFelled 75 = .ok (.aload_n 0, 1) := by decide +kernel
theorem dX0_fewestFelled_76 : decode cX0_fewestFelled 76 = .ok (.iload_n 1, 1) := by decide +kernel
theorem dX0_fewestFelled_77 : decode cX0_fewestFelled 77 = .ok (.iload 5, 2) := by decide +kernel
theorem dX0_fewestFelled_79 : decode cX0_fewestFelled 79 = .ok (.invokevirtual 70, 3) := by decide +kernel
theorem dX0_fewestFelled_82 : decode cX0_fewestFelled 82 = .ok (.iload_n 2, 1) := by decide +kernel
theorem dX0_fewestFelled_83 : decode cX0_fewestFelled 83 = .ok (.if_icmp .ne 7, 3) := by decide +kernel
theorem dX0_fewestFelled_86 : decode cX0_fewestFelled 86 = .ok (.iload 5, 2) := by decide +kernel
theorem dX0_fewestFelled_88 : decode cX0_fewestFelled 88 = .ok (.istore 4, 2) := by decide +kernel
theorem dX0_fewestFelled_90 : decode cX0_fewestFelled 90 = .ok (.iinc 5 1, 3) := by decide +kernel
theorem dX0_fewestFelled_93 : decode cX0_fewestFelled 93 = .ok (.goto (-69), 3) := by decide +kernel
theorem dX0_fewestFelled_96 : decode cX0_fewestFelled 96 = .ok (.iload 4, 2) := by decide +kernel
theorem dX0_fewestFelled_98 : decode cX0_fewestFelled 98 = .ok (.ireturn, 1) := by decide +kernel
set_option maxRecDepth 20000 in
theorem ggX0_numberFelling_X5_lookWithTrees : GoodIn wsX0_numberFelling wsX5_lookWithTrees := goodIn_r _ [9, 10, 11, 12, 13, 14, 15, 16, 17, 18, 19, 20, 21, 22, 23, 24, 25, 68, 69, 70, 71, 55, 56, 57, 58, 59, 60, 61, 62, 63, 64, 65, 66, 67, 72, 73] (by decide +kernel) (by decide +kernel)
set_option maxRecDepth 20000 in
theorem gX0_numberFelling_X5_lookWithTrees : GoodIn wsX0_numberFelling (wsV RX0 76 RX5 yX5_lookWithTrees wsX5_lookWithTrees) := goodIn_app (goodIn_of _ (by decide +kernel)) ggX0_numberFelling_X5_lookWithTrees
set_option maxRecDepth 20000 in
theorem ggX0_numberFelling_X5_numberOf : GoodIn wsX0_numberFelling wsX5_numberOf := goodIn_r _ [29, 10, 30, 31, 32, 33, 34, 8, 35, 36, 37, 38, 39, 40, 41, 42, 43, 44, 45, 46, 47, 48, 49, 14, 50, 24, 51, 52, 68, 69, 70, 71, 55, 56, 57, 58, 59, 60, 61, 62, 63, 64, 65, 66, 67, 74, 75, 76, 77] (by decide +kernel) (by decide +kernel)
set_option maxRecDepth 20000 in
theorem gX0_numberFelling_X5_numberOf : GoodIn wsX0_numberFelling (wsV RX0 80 RX5 yX5_numberOf wsX5_numberOf) := goodIn_app (goodIn_of _ (by decide +kernel)) ggX0_numberFelling_X5_numberOf
theorem dX0_numberFelling_0 : decode cX0_numberFelling 0 = .ok (.aload_n 0, 1) := by decide +kernel
theorem dX0_numberFelling_1 : decode cX0_numberFelling 1 = .ok (.getfield 15, 3) := by decide +kernel
theorem dX0_numberFelling_4 : decode cX0_numberFelling 4 = .ok (.aload_n 0, 1) := by decide +kernel
theorem dX0_numberFelling_5 : decode cX0_numberFelling 5 = .ok (.getfield 9, 3) := by decide +kernel
theorem dX0_numberFelling_8 : decode cX0_numberFelling 8 = .ok (.getfield 73, 3) := by decide +kernel
theorem dX0_numberFelling_11 : decode cX0_numberFelling 11 = .ok (.aload_n 0, 1) := by decide +kernel
theorem dX0_numberFelling_12 : decode cX0_numberFelling 12 = .ok (.getfield 9, 3) := by decide +kernel
theorem dX0_numberFelling_15 : decode cX0_numberFelling 15 = .ok (.getfield 67, 3) := by decide +kernel
theorem dX0_numberFelling_18 : decode cX0_numberFelling 18 = .ok (.iload_n 2, 1) := by decide +kernel
theorem dX0_numberFelling_19 : decode cX0_numberFelling 19 = .ok (.ior, 1) := by decide +kernel
theorem dX0_numberFelling_20 : decode cX0_numberFelling 20 = .ok (.invokevirtual 76, 3) := by decide +kernel
theorem dX0_numberFelling_23 : decode cX0_numberFelling 23 = .ok (.aload_n 0, 1) := by decide +kernel
theorem dX0_numberFelling_24 : decode cX0_numberFelling 24 = .ok (.getfield 15, 3) := by decide +kernel
theorem dX0_numberFelling_27 : decode cX0_numberFelling 27 = .ok (.iload_n 1, 1) := by decide +kernel
theorem dX0_numberFelling_28 : decode cX0_numberFelling 28 = .ok (.invokevirtual 80, 3) := by decide +kernel
theorem dX0_numberFelling_31 : decode cX0_numberFelling 31 = .ok (.ireturn, 1) := by decide +kernel
set_option maxRecDepth 20000 in
theorem ggX0_numberOfNew_X5_lookNow : GoodIn wsX0_numberOfNew wsX5_lookNow := goodIn_r _ [8, 9, 10, 11, 12, 13, 14, 15, 16, 17, 18, 19, 20, 21, 22, 23, 24, 25, 26, 27, 28, 29, 30, 31, 32, 33, 34, 35, 36, 37, 38, 39, 40, 41, 42, 43, 44, 45, 46, 47, 48, 49, 50, 92, 93, 94, 95, 79, 80, 81, 82, 83, 84, 85, 86, 87, 88, 89, 90, 91, 96, 97, 98, 99, 100, 101] (by decide +kernel) (by decide +kernel)
set_option maxRecDepth 20000 in
theorem gX0_numberOfNew_X5_lookNow : GoodIn wsX0_numberOfNew (wsV RX0 19 RX5 yX5_lookNow wsX5_lookNow) := goodIn_app (goodIn_of _ (by decide +kernel)) ggX0_numberOfNew_X5_lookNow
set_option maxRecDepth 20000 in
theorem ggX0_numberOfNew_X5_numberIf : GoodIn wsX0_numberOfNew wsX5_numberIf := goodIn_r _ [54, 13, 55, 56, 57, 7, 58, 9, 59, 60, 61, 62, 63, 64, 65, 66, 67, 68, 69, 70, 71, 72, 73, 11, 74, 38, 75, 76, 92, 93, 94, 95, 79, 80, 81, 82, 83, 84, 85, 86, 87, 88, 89, 90, 91, 96, 97, 98, 99] (by decide +kernel) (by decide +kernel)
set_option maxRecDepth 20000 in
theorem gX0_numberOfNew_X5_numberIf : GoodIn wsX0_numberOfNew (wsV RX0 47 RX5 yX5_numberIf wsX5_numberIf) := goodIn_app (goodIn_of _ (by decide +kernel)) ggX0_numberOfNew_X5_numberIf
theorem dX0_numberOfNew_0 : decode cX0_numberOfNew 0 = .ok (.aload_n 0, 1) := by decide +kernel
theorem dX0_numberOfNew_1 : decode cX0_numberOfNew 1 = .ok (.getfield 15, 3) := by decide +kernel
theorem dX0_numberOfNew_4 : decode cX0_numberOfNew 4 = .ok (.invokevirtual 19, 3) := by decide +kernel
theorem dX0_numberOfNew_7 : decode cX0_numberOfNew 7 = .ok (.aload_n 0, 1) := by decide +kernel
theorem dX0_numberOfNew_8 : decode cX0_numberOfNew 8 = .ok (.getfield 15, 3) := by decide +kernel
theorem dX0_numberOfNew_11 : decode cX0_numberOfNew 11 = .ok (.iload_n 1, 1) := by decide +kernel
theorem dX0_numberOfNew_12 : decode cX0_numberOfNew 12 = .ok (.iload_n 1, 1) := by decide +kernel
theorem dX0_numberOfNew_13 : decode cX0_numberOfNew 13 = .ok (.aload_n 0, 1) := by decide +kernel
theorem dX0_numberOfNew_14 : decode cX0_numberOfNew 14 = .ok (.getfield 9, 3) := by decide +kernel
theorem dX0_numberOfNew_17 : decode cX0_numberOfNew 17 = .ok (.getfield 43, 3) := by decide +kernel
theorem dX0_numberOfNew_20 : decode cX0_numberOfNew 20 = .ok (.iload_n 1, 1) := by decide +kernel
theorem dX0_numberOfNew_21 : decode cX0_numberOfNew 21 = .ok (.iaload, 1) := by decide +kernel
theorem dX0_numberOfNew_22 : decode cX0_numberOfNew 22 = .ok (.iload_n 2, 1) := by decide +kernel
theorem dX0_numberOfNew_23 : decode cX0_numberOfNew 23 = .ok (.iadd, 1) := by decide +kernel
theorem dX0_numberOfNew_24 : decode cX0_numberOfNew 24 = .ok (.invokevirtual 47, 3) := by decide +kernel
theorem dX0_numberOfNew_27 : decode cX0_numberOfNew 27 = .ok (.ireturn, 1) := by decide +kernel
set_option maxRecDepth 20000 in
theorem ggX0_changedByNew_X5_countAll : GoodIn wsX0_changedByNew wsX5_countAll := goodIn_r _ [13, 14, 15, 16, 17, 18, 19, 12, 20, 21, 22, 23, 24, 25, 26, 27, 28, 29, 30, 31, 32, 33, 34, 35, 36, 37, 38, 39, 40, 41, 42, 43, 44, 45, 46, 47, 48, 49, 50, 51, 52, 53, 54, 55, 56, 57, 58, 59, 60, 61, 62, 63, 64, 65, 66, 67, 68, 69, 70, 71, 72, 73, 74, 75, 76, 77, 78, 79, 80, 81, 82, 83, 84, 85, 86, 91, 92, 93, 94, 95, 96, 97, 98, 99, 100, 101, 102, 103, 104, 105, 106, 107, 108, 109, 110, 111, 112, 113] (by decide +kernel) (by decide +kernel)
set_option maxRecDepth 20000 in
theorem gX0_changedByNew_X5_countAll : GoodIn wsX0_changedByNew (wsV RX0 83 RX5 yX5_countAll wsX5_countAll) := goodIn_app (goodIn_of _ (by decide +kernel)) ggX0_changedByNew_X5_countAll
set_option maxRecDepth 20000 in
theorem ggX0_changedByNew_X5_numberOf : GoodIn wsX0_changedByNew wsX5_numberOf := goodIn_r _ [65, 14, 66, 67, 68, 69, 70, 12, 71, 15, 72, 73, 74, 75, 76, 77, 78, 79, 80, 81, 82, 83, 22, 24, 84, 49, 85, 86, 91, 92, 93, 94, 95, 96, 97, 98, 99, 100, 101, 102, 103, 104, 105, 106, 107, 108, 109, 110, 111] (by decide +kernel) (by decide +kernel)
set_option maxRecDepth 20000 in
theorem gX0_changedByNew_X5_numberOf : GoodIn wsX0_changedByNew (wsV RX0 80 RX5 yX5_numberOf wsX5_numberOf) := goodIn_app (goodIn_of _ (by decide +kernel)) ggX0_changedByNew_X5_numberOf
set_option maxRecDepth 20000 in
theorem ggX0_changedByNew_X5_isClear : GoodIn wsX0_changedByNew wsX5_isClear := goodIn_r _ [75, 14, 76, 77, 78, 79, 80, 81, 82, 83, 22, 24, 84, 49, 85, 86, 91, 92, 93, 94, 95, 96, 97, 98, 99, 100, 101, 102, 103, 104, 105, 106, 107] (by decide +kernel) (by decide +kernel)
set_option maxRecDepth 20000 in
theorem gX0_changedByNew_X5_isClear : GoodIn wsX0_changedByNew (wsV RX0 92 RX5 yX5_isClear wsX5_isClear) := goodIn_app (goodIn_of _ (by decide +kernel)) ggX0_changedByNew_X5_isClear
theorem dX0_changedByNew_0 : decode cX0_changedByNew 0 = .ok (.aload_n 0, 1) := by decide +kernel
theorem dX0_changedByNew_1 : decode cX0_changedByNew 1 = .ok (.getfield 15, 3) := by decide +kernel
theorem dX0_changedByNew_4 : decode cX0_changedByNew 4 = .ok (.invokevirtual 83, 3) := by decide +kernel
theorem dX0_changedByNew_7 : decode cX0_changedByNew 7 = .ok (.aload_n 0, 1) := by decide +kernel
theorem dX0_changedByNew_8 : decode cX0_changedByNew 8 = .ok (.getfield 15, 3) := by decide +kernel
theorem dX0_changedByNew_11 : decode cX0_changedByNew 11 = .ok (.getfield 86, 3) := by decide +kernel
theorem dX0_changedByNew_14 : decode cX0_changedByNew 14 = .ok (.iload_n 1, 1) := by decide +kernel
theorem dX0_changedByNew_15 : decode cX0_changedByNew 15 = .ok (.aload_n 0, 1) := by decide +kernel
theorem dX0_changedByNew_16 : decode cX0_changedByNew 16 = .ok (.getfield 9, 3) := by decide +kernel
theorem dX0_changedByNew_19 : decode cX0_changedByNew 19 = .ok (.getfield 43, 3) := by decide +kernel
theorem dX0_changedByNew_22 : decode cX0_changedByNew 22 = .ok (.iload_n 1, 1) := by decide +kernel
theorem dX0_changedByNew_23 : decode cX0_changedByNew 23 = .ok (.iaload, 1) := by decide +kernel
theorem dX0_changedByNew_24 : decode cX0_changedByNew 24 = .ok (.iload_n 2, 1) := by decide +kernel
theorem dX0_changedByNew_25 : decode cX0_changedByNew 25 = .ok (.iadd, 1) := by decide +kernel
theorem dX0_changedByNew_26 : decode cX0_changedByNew 26 = .ok (.iastore, 1) := by decide +kernel
theorem dX0_changedByNew_27 : decode cX0_changedByNew 27 = .ok (.iconst 0, 1) := by decide +kernel
theorem dX0_changedByNew_28 : decode cX0_changedByNew 28 = .ok (.istore_n 3, 1) := by decide +kernel
theorem dX0_changedByNew_29 : decode cX0_changedByNew 29 = .ok (.iconst 0, 1) := by decide +kernel
theorem dX0_changedByNew_30 : decode cX0_changedByNew 30 = .ok (.istore 4, 2) := by decide +kernel
theorem dX0_changedByNew_32 : decode cX0_changedByNew 32 = .ok (.iload 4, 2) := by decide +kernel
theorem dX0_changedByNew_34 : decode cX0_changedByNew 34 = .ok (.aload_n 0, 1) := by decide +kernel
theorem dX0_changedByNew_35 : decode cX0_changedByNew 35 = .ok (.getfield 9, 3) := by decide +kernel
theorem dX0_changedByNew_38 : decode cX0_changedByNew 38 = .ok (.getfield 89, 3) := by decide +kernel
theorem dX0_changedByNew_41 : decode cX0_changedByNew 41 = .ok (.if_icmp .ge 69, 3) := by decide +kernel
theorem dX0_changedByNew_44 : decode cX0_changedByNew 44 = .ok (.aload_n 0, 1) := by decide +kernel
theorem dX0_changedByNew_45 : decode cX0_changedByNew 45 = .ok (.getfield 15, 3) := by decide +kernel
theorem dX0_changedByNew_48 : decode cX0_changedByNew 48 = .ok (.iload 4, 2) := by decide +kernel
theorem dX0_changedByNew_50 : decode cX0_changedByNew 50 = .ok (.invokevirtual 80, 3) := by decide +kernel
theorem dX0_changedByNew_53 : decode cX0_changedByNew 53 = .ok (.istore 5, 2) := by decide +kernel
theorem dX0_changedByNew_55 : decode cX0_changedByNew 55 = .ok (.aload_n 0, 1) := by decide +kernel
theorem dX0_changedByNew_56 : decode cX0_changedByNew 56 = .ok (.getfield 15, 3) := by decide +kernel
theorem dX0_changedByNew_59 : decode cX0_changedByNew 59 = .ok (.aload_n 0, 1) := by decide +kernel
theorem dX0_changedByNew_60 : decode cX0_changedByNew 60 = .ok (.getfield 9, 3) := by decide +kernel
theorem dX0_changedByNew_63 : decode cX0_changedByNew 63 = .ok (.getfield 24, 3) := by decide +kernel
theorem dX0_changedByNew_66 : decode cX0_changedByNew 66 = .ok (.iload 4, 2) := by decide +kernel
theorem dX0_changedByNew_68 : decode cX0_changedByNew 68 = .ok (.aaload, 1) := by decide +kernel
theorem dX0_changedByNew_69 : decode cX0_changedByNew 69 = .ok (.getfield 30, 3) := by decide +kernel
theorem dX0_changedByNew_72 : decode cX0_changedByNew 72 = .ok (.iload_n 1, 1) := by decide +kernel
theorem dX0_changedByNew_73 : decode cX0_changedByNew 73 = .ok (.invokevirtual 92, 3) := by decide +kernel
theorem dX0_changedByNew_76 : decode cX0_changedByNew 76 = .ok (.ifCond .eq 6, 3) := by decide +kernel
theorem dX0_changedByNew_79 : decode cX0_changedByNew 79 = .ok (.iinc 5 1, 3) := by decide +kernel
theorem dX0_changedByNew_82 : decode cX0_changedByNew 82 = .ok (.iload 5, 2) := by decide +kernel
theorem dX0_changedByNew_84 : decode cX0_changedByNew 84 = .ok (.aload_n 0, 1) := by decide +kernel
theorem dX0_changedByNew_85 : decode cX0_changedByNew 85 = .ok (.getfield 15, 3) := by decide +kernel
theorem dX0_changedByNew_88 : decode cX0_changedByNew 88 = .ok (.getfield 96, 3) := by decide +kernel
theorem dX0_changedByNew_91 : decode cX0_changedByNew 91 = .ok (.iload 4, 2) := by decide +kernel
theorem dX0_changedByNew_93 : decode cX0_changedByNew 93 = .ok (.iaload, 1) := by decide +kernel
theorem dX0_changedByNew_94 : decode cX0_changedByNew 94 = .ok (.if_icmp .eq 10, 3) := by decide +kernel
theorem dX0_changedByNew_97 : decode cX0_changedByNew 97 = .ok (.iload_n 3, 1) := by decide +kernel
theorem dX0_changedByNew_98 : decode cX0_changedByNew 98 = .ok (.iconst 1, 1) := by decide +kernel
theorem dX0_changedByNew_99 : decode cX0_changedByNew 99 = .ok (.iload 4, 2) := by decide +kernel
theorem dX0_changedByNew_101 : decode cX0_changedByNew 101 = .ok (.ishl, 1) := by decide +kernel
theorem dX0_changedByNew_102 : decode cX0_changedByNew 102 = .ok (.ior, 1) := by decide +kernel
theorem dX0_changedByNew_103 : decode cX0_changedByNew 103 = .ok (.istore_n 3, 1) := by decide +kernel
theorem dX0_changedByNew_104 : decode cX0_changedByNew 104 = .ok (.iinc 4 1, 3) := by decide +kernel
theorem dX0_changedByNew_107 : decode cX0_changedByNew 107 = .ok (.goto (-75), 3) := by decide +kernel
theorem dX0_changedByNew_110 : decode cX0_changedByNew 110 = .ok (.iload_n 3, 1) := by decide +kernel
theorem dX0_changedByNew_111 : decode cX0_changedByNew 111 = .ok (.ireturn, 1) := by decide +kernel
set_option maxRecDepth 20000 in
theorem ggX0_cellsForNew_X5_lookNow : GoodIn wsX0_cellsForNew wsX5_lookNow := goodIn_r _ [9, 10, 11, 12, 13, 14, 15, 16, 17, 18, 19, 20, 21, 22, 23, 24, 25, 26, 27, 28, 29, 30, 31, 32, 33, 34, 35, 36, 37, 38, 39, 40, 41, 42, 43, 44, 45, 46, 47, 48, 49, 50, 51, 101, 102, 103, 104, 88, 89, 90, 91, 92, 93, 94, 95, 96, 97, 98, 99, 100, 105, 106, 107, 108, 109, 110] (by decide +kernel) (by decide +kernel)
set_option maxRecDepth 20000 in
theorem gX0_cellsForNew_X5_lookNow : GoodIn wsX0_cellsForNew (wsV RX0 19 RX5 yX5_lookNow wsX5_lookNow) := goodIn_app (goodIn_of _ (by decide +kernel)) ggX0_cellsForNew_X5_lookNow
set_option maxRecDepth 20000 in
theorem ggX0_cellsForNew_X2_canTakeNew : GoodIn wsX0_cellsForNew wsX2_canTakeNew := goodIn_r _ [55, 31, 56, 57, 58, 18, 59, 25, 88, 89, 90, 91, 92, 93, 94, 95, 96, 97, 98, 99, 100] (by decide +kernel) (by decide +kernel)
set_option maxRecDepth 20000 in
theorem gX0_cellsForNew_X2_canTakeNew : GoodIn wsX0_cellsForNew (wsV RX0 99 RX2 yX2_canTakeNew wsX2_canTakeNew) := goodIn_app (goodIn_of _ (by decide +kernel)) ggX0_cellsForNew_X2_canTakeNew
set_option maxRecDepth 20000 in
theorem ggX0_cellsForNew_X5_numberIf : GoodIn wsX0_cellsForNew wsX5_numberIf := goodIn_r _ [63, 14, 64, 65, 66, 8, 67, 10, 68, 69, 70, 71, 72, 73, 74, 75, 76, 77, 78, 79, 80, 81, 82, 12, 83, 39, 84, 85, 101, 102, 103, 104, 88, 89, 90, 91, 92, 93, 94, 95, 96, 97, 98, 99, 100, 105, 106, 107, 108] (by decide +kernel) (by decide +kernel)
set_option maxRecDepth 20000 in
theorem gX0_cellsForNew_X5_numberIf : GoodIn wsX0_cellsForNew (wsV RX0 47 RX5 yX5_numberIf wsX5_numberIf) := goodIn_app (goodIn_of _ (by decide +kernel)) ggX0_cellsForNew_X5_numberIf
theorem dX0_cellsForNew_0 : decode cX0_cellsForNew 0 = .ok (.aload_n 0, 1) := by decide +kernel
theorem dX0_cellsForNew_1 : decode cX0_cellsForNew 1 = .ok (.getfield 15, 3) := by decide +kernel
theorem dX0_cellsForNew_4 : decode cX0_cellsForNew 4 = .ok (.invokevirtual 19, 3) := by decide +kernel
theorem dX0_cellsForNew_7 : decode cX0_cellsForNew 7 = .ok (.lconst 0, 1) := by decide +kernel
theorem dX0_cellsForNew_8 : decode cX0_cellsForNew 8 = .ok (.lstore_n 3, 1) := by decide +kernel
theorem dX0_cellsForNew_9 : decode cX0_cellsForNew 9 = .ok (.iconst 0, 1) := by decide +kernel
theorem dX0_cellsForNew_10 : decode cX0_cellsForNew 10 = .ok (.istore 5, 2) := by decide +kernel
theorem dX0_cellsForNew_12 : decode cX0_cellsForNew 12 = .ok (.iload 5, 2) := by decide +kernel
theorem dX0_cellsForNew_14 : decode cX0_cellsForNew 14 = .ok (.aload_n 0, 1) := by decide +kernel
theorem dX0_cellsForNew_15 : decode cX0_cellsForNew 15 = .ok (.getfield 9, 3) := by decide +kernel
theorem dX0_cellsForNew_18 : decode cX0_cellsForNew 18 = .ok (.getfield 36, 3) := by decide +kernel
theorem dX0_cellsForNew_21 : decode cX0_cellsForNew 21 = .ok (.if_icmp .ge 55, 3) := by decide +kernel
theorem dX0_cellsForNew_24 : decode cX0_cellsForNew 24 = .ok (.aload_n 0, 1) := by decide +kernel
theorem dX0_cellsForNew_25 : decode cX0_cellsForNew 25 = .ok (.getfield 9, 3) := by decide +kernel
theorem dX0_cellsForNew_28 : decode cX0_cellsForNew 28 = .ok (.iload 5, 2) := by decide +kernel
theorem dX0_cellsForNew_30 : decode cX0_cellsForNew 30 = .ok (.invokevirtual 99, 3) := by decide +kernel
theorem dX0_cellsForNew_33 : decode cX0_cellsForNew 33 = .ok (.ifCond .eq 37, 3) := by decide +kernel
theorem dX0_cellsForNew_36 : decode cX0_cellsForNew 36 = .ok (.aload_n 0, 1) := by decide +kernel
theorem dX0_cellsForNew_37 : decode cX0_cellsForNew 37 = .ok (.getfield 15, 3) := by decide +kernel
theorem dX0_cellsForNew_40 : decode cX0_cellsForNew 40 = .ok (.iload 5, 2) := by decide +kernel
theorem dX0_cellsForNew_42 : decode cX0_cellsForNew 42 = .ok (.iload 5, 2) := by decide +kernel
theorem dX0_cellsForNew_44 : decode cX0_cellsForNew 44 = .ok (.aload_n 0, 1) := by decide +kernel
theorem dX0_cellsForNew_45 : decode cX0_cellsForNew 45 = .ok (.getfield 9, 3) := by decide +kernel
theorem dX0_cellsForNew_48 : decode cX0_cellsForNew 48 = .ok (.getfield 43, 3) := by decide +kernel
theorem dX0_cellsForNew_51 : decode cX0_cellsForNew 51 = .ok (.iload 5, 2) := by decide +kernel
theorem dX0_cellsForNew_53 : decode cX0_cellsForNew 53 = .ok (.iaload, 1) := by decide +kernel
theorem dX0_cellsForNew_54 : decode cX0_cellsForNew 54 = .ok (.iload_n 1, 1) := by decide +kernel
theorem dX0_cellsForNew_55 : decode cX0_cellsForNew 55 = .ok (.iadd, 1) := by decide +kernel
theorem dX0_cellsForNew_56 : decode cX0_cellsForNew 56 = .ok (.invokevirtual 47, 3) := by decide +kernel
theorem dX0_cellsForNew_59 : decode cX0_cellsForNew 59 = .ok (.iload_n 2, 1) := by decide +kernel
theorem dX0_cellsForNew_60 : decode cX0_cellsForNew 60 = .ok (.if_icmp .ne 10, 3) := by decide +kernel
theorem dX0_cellsForNew_63 : decode cX0_cellsForNew 63 = .ok (.lload_n 3, 1) := by decide +kernel
theorem dX0_cellsForNew_64 : decode cX0_cellsForNew 64 = .ok (.lconst 1, 1) := by decide +kernel
theorem dX0_cellsForNew_65 : decode cX0_cellsForNew 65 = .ok (.iload 5, 2) := by decide +kernel
theorem dX0_cellsForNew_67 : decode cX0_cellsForNew 67 = .ok (.lshl, 1) := by decide +kernel
theorem dX0_cellsForNew_68 : decode cX0_cellsForNew 68 = .ok (.lor, 1) := by decide +kernel
theorem dX0_cellsForNew_69 : decode cX0_cellsForNew 69 = .ok (.lstore_n 3, 1) := by decide +kernel
theorem dX0_cellsForNew_70 : decode cX0_cellsForNew 70 = .ok (.iinc 5 1, 3) := by decide +kernel
theorem dX0_cellsForNew_73 : decode cX0_cellsForNew 73 = .ok (.goto (-61), 3) := by decide +kernel
theorem dX0_cellsForNew_76 : decode cX0_cellsForNew 76 = .ok (.lload_n 3, 1) := by decide +kernel
theorem dX0_cellsForNew_77 : decode cX0_cellsForNew 77 = .ok (.lreturn, 1) := by decide +kernel
set_option maxRecDepth 20000 in
theorem ggX0_yearOfChange_X5_lookNow : GoodIn wsX0_yearOfChange wsX5_lookNow := goodIn_r _ [9, 10, 11, 12, 13, 14, 15, 16, 17, 18, 19, 20, 21, 22, 23, 24, 25, 26, 27, 28, 29, 30, 31, 32, 33, 34, 35, 36, 37, 38, 39, 40, 41, 42, 43, 44, 45, 46, 47, 48, 49, 50, 51, 102, 103, 104, 105, 89, 90, 91, 92, 93, 94, 95, 96, 97, 98, 99, 100, 101, 106, 107, 108, 109, 110, 111] (by decide +kernel) (by decide +kernel)
set_option maxRecDepth 20000 in
theorem gX0_yearOfChange_X5_lookNow : GoodIn wsX0_yearOfChange (wsV RX0 19 RX5 yX5_lookNow wsX5_lookNow) := goodIn_app (goodIn_of _ (by decide +kernel)) ggX0_yearOfChange_X5_lookNow
set_option maxRecDepth 20000 in
theorem ggX0_yearOfChange_X5_numberOf : GoodIn wsX0_yearOfChange wsX5_numberOf := goodIn_r _ [55, 10, 56, 57, 58, 59, 60, 8, 61, 62, 63, 64, 65, 66, 67, 68, 69, 70, 71, 72, 73, 74, 12, 14, 75, 39, 76, 77, 102, 103, 104, 105, 89, 90, 91, 92, 93, 94, 95, 96, 97, 98, 99, 100, 101, 106, 107, 108, 109] (by decide +kernel) (by decide +kernel)
set_option maxRecDepth 20000 in
theorem gX0_yearOfChange_X5_numberOf : GoodIn wsX0_yearOfChange (wsV RX0 80 RX5 yX5_numberOf wsX5_numberOf) := goodIn_app (goodIn_of _ (by decide +kernel)) ggX0_yearOfChange_X5_numberOf
set_option maxRecDepth 20000 in
theorem ggX0_yearOfChange_X5_lookWithTrees : GoodIn wsX0_yearOfChange wsX5_lookWithTrees := goodIn_r _ [81, 10, 82, 83, 84, 14, 85, 86, 33, 34, 18, 35, 36, 37, 38, 39, 40, 102, 103, 104, 105, 89, 90, 91, 92, 93, 94, 95, 96, 97, 98, 99, 100, 101, 110, 111] (by decide +kernel) (by decide +kernel)
set_option maxRecDepth 20000 in
theorem gX0_yearOfChange_X5_lookWithTrees : GoodIn wsX0_yearOfChange (wsV RX0 76 RX5 yX5_lookWithTrees wsX5_lookWithTrees) := goodIn_app (goodIn_of _ (by decide +kernel)) ggX0_yearOfChange_X5_lookWithTrees
theorem dX0_yearOfChange_0 : decode cX0_yearOfChange 0 = .ok (.aload_n 0, 1) := by decide +kernel
theorem dX0_yearOfChange_1 : decode cX0_yearOfChange 1 = .ok (.getfield 15, 3) := by decide +kernel
theorem dX0_yearOfChange_4 : decode cX0_yearOfChange 4 = .ok (.invokevirtual 19, 3) := by decide +kernel
theorem dX0_yearOfChange_7 : decode cX0_yearOfChange 7 = .ok (.aload_n 0, 1) := by decide +kernel
theorem dX0_yearOfChange_8 : decode cX0_yearOfChange 8 = .ok (.getfield 15, 3) := by decide +kernel
theorem dX0_yearOfChange_11 : decode cX0_yearOfChange 11 = .ok (.iload_n 1, 1) := by decide +kernel
theorem dX0_yearOfChange_12 : decode cX0_yearOfChange 12 = .ok (.invokevirtual 80, 3) := by decide +kernel
theorem dX0_yearOfChange_15 : decode cX0_yearOfChange 15 = .ok (.istore_n 2, 1) := by decide +kernel
theorem dX0_yearOfChange_16 : decode cX0_yearOfChange 16 = .ok (.aload_n 0, 1) := by decide +kernel
theorem dX0_yearOfChange_17 : decode cX0_yearOfChange 17 = .ok (.getfield 9, 3) := by decide +kernel
theorem dX0_yearOfChange_20 : decode cX0_yearOfChange 20 = .ok (.getfield 73, 3) := by decide +kernel
theorem dX0_yearOfChange_23 : decode cX0_yearOfChange 23 = .ok (.iconst 1, 1) := by decide +kernel
theorem dX0_yearOfChange_24 : decode cX0_yearOfChange 24 = .ok (.iadd, 1) := by decide +kernel
theorem dX0_yearOfChange_25 : decode cX0_yearOfChange 25 = .ok (.istore_n 3, 1) := by decide +kernel
theorem dX0_yearOfChange_26 : decode cX0_yearOfChange 26 = .ok (.iload_n 3, 1) := by decide +kernel
theorem dX0_yearOfChange_27 : decode cX0_yearOfChange 27 = .ok (.bipush 30, 2) := by decide +kernel
theorem dX0_yearOfChange_29 : decode cX0_yearOfChange 29 = .ok (.if_icmp .gt 38, 3) := by decide +kernel
theorem dX0_yearOfChange_32 : decode cX0_yearOfChange 32 = .ok (.aload_n 0, 1) := by decide +kernel
theorem dX0_yearOfChange_33 : decode cX0_yearOfChange 33 = .ok (.getfield 15, 3) := by decide +kernel
theorem dX0_yearOfChange_36 : decode cX0_yearOfChange 36 = .ok (.iload_n 3, 1) := by decide +kernel
theorem dX0_yearOfChange_37 : decode cX0_yearOfChange 37 = .ok (.aload_n 0, 1) := by decide +kernel
theorem dX0_yearOfChange_38 : decode cX0_yearOfChange 38 = .ok (.getfield 9, 3) := by decide +kernel
theorem dX0_yearOfChange_41 : decode cX0_yearOfChange 41 = .ok (.getfield 67, 3) := by decide +kernel
theorem dX0_yearOfChange_44 : decode cX0_yearOfChange 44 = .ok (.invokevirtual 76, 3) := by decide +kernel
theorem dX0_yearOfChange_47 : decode cX0_yearOfChange 47 = .ok (.aload_n 0, 1) := by decide +kernel
theorem dX0_yearOfChange_48 : decode cX0_yearOfChange 48 = .ok (.getfield 15, 3) := by decide +kernel
theorem dX0_yearOfChange_51 : decode cX0_yearOfChange 51 = .ok (.iload_n 1, 1) := by decide +kernel
theorem dX0_yearOfChange_52 : decode cX0_yearOfChange 52 = .ok (.invokevirtual 80, 3) := by decide +kernel
theorem dX0_yearOfChange_55 : decode cX0_yearOfChange 55 = .ok (.iload_n 2, 1) := by decide +kernel
theorem dX0_yearOfChange_56 : decode cX0_yearOfChange 56 = .ok (.if_icmp .eq 5, 3) := by decide +kernel
theorem dX0_yearOfChange_59 : decode cX0_yearOfChange 59 = .ok (.iload_n 3, 1) := by decide +kernel
theorem dX0_yearOfChange_60 : decode cX0_yearOfChange 60 = .ok (.ireturn, 1) := by decide +kernel
theorem dX0_yearOfChange_61 : decode cX0_yearOfChange 61 = .ok (.iinc 3 1, 3) := by decide +kernel
theorem dX0_yearOfChange_64 : decode cX0_yearOfChange 64 = .ok (.goto (-38), 3) := by decide +kernel
theorem dX0_yearOfChange_67 : decode cX0_yearOfChange 67 = .ok (.bipush (-9), 2) := by decide +kernel
theorem dX0_yearOfChange_69 : decode cX0_yearOfChange 69 = .ok (.ireturn, 1) := by decide +kernel
theorem dX1_init_0 : decode cX1_init 0 = .ok (.aload_n 0, 1) := by decide +kernel
theorem dX1_init_1 : decode cX1_init 1 = .ok (.invokespecial 3, 3) := by decide +kernel
theorem dX1_init_4 : decode cX1_init 4 = .ok (.return_, 1) := by decide +kernel
theorem dX1_isA_0 : decode cX1_isA 0 = .ok (.aload_n 0, 1) := by decide +kernel
theorem dX1_isA_1 : decode cX1_isA 1 = .ok (.getfield 9, 3) := by decide +kernel
theorem dX1_isA_4 : decode cX1_isA 4 = .ok (.iload_n 1, 1) := by decide +kernel
theorem dX1_isA_5 : decode cX1_isA 5 = .ok (.if_icmp .lt 7, 3) := by decide +kernel
theorem dX1_isA_8 : decode cX1_isA 8 = .ok (.iconst 1, 1) := by decide +kernel
theorem dX1_isA_9 : decode cX1_isA 9 = .ok (.goto 4, 3) := by decide +kernel
theorem dX1_isA_12 : decode cX1_isA 12 = .ok (.iconst 0, 1) := by decide +kernel
theorem dX1_isA_13 : decode cX1_isA 13 = .ok (.ireturn, 1) := by decide +kernel
set_option maxRecDepth 20000 in
theorem ggX1_tallWith_X1_isA : GoodIn wsX1_tallWith wsX1_isA := goodIn_r _ [6, 7, 8, 9, 10, 11] (by decide +kernel) (by decide +kernel)
set_option maxRecDepth 20000 in
theorem gX1_tallWith_X1_isA : GoodIn wsX1_tallWith (wsV RX1 18 RX1 yX1_isA wsX1_isA) := goodIn_app (goodIn_of _ (by decide +kernel)) ggX1_tallWith_X1_isA
theorem dX1_tallWith_0 : decode cX1_tallWith 0 = .ok (.aload_n 0, 1) := by decide +kernel
theorem dX1_tallWith_1 : decode cX1_tallWith 1 = .ok (.getfield 15, 3) := by decide +kernel
theorem dX1_tallWith_4 : decode cX1_tallWith 4 = .ok (.iload_n 1, 1) := by decide +kernel
theorem dX1_tallWith_5 : decode cX1_tallWith 5 = .ok (.iadd, 1) := by decide +kernel
theorem dX1_tallWith_6 : decode cX1_tallWith 6 = .ok (.istore_n 3, 1) := by decide +kernel
theorem dX1_tallWith_7 : decode cX1_tallWith 7 = .ok (.aload_n 0, 1) := by decide +kernel
theorem dX1_tallWith_8 : decode cX1_tallWith 8 = .ok (.iconst 1, 1) := by decide +kernel
theorem dX1_tallWith_9 : decode cX1_tallWith 9 = .ok (.invokevirtual 18, 3) := by decide +kernel
theorem dX1_tallWith_12 : decode cX1_tallWith 12 = .ok (.ifCond .eq 7, 3) := by decide +kernel
theorem dX1_tallWith_15 : decode cX1_tallWith 15 = .ok (.iload_n 3, 1) := by decide +kernel
theorem dX1_tallWith_16 : decode cX1_tallWith 16 = .ok (.iload_n 2, 1) := by decide +kernel
theorem dX1_tallWith_17 : decode cX1_tallWith 17 = .ok (.iadd, 1) := by decide +kernel
theorem dX1_tallWith_18 : decode cX1_tallWith 18 = .ok (.istore_n 3, 1) := by decide +kernel
theorem dX1_tallWith_19 : decode cX1_tallWith 19 = .ok (.aload_n 0, 1) := by decide +kernel
theorem dX1_tallWith_20 : decode cX1_tallWith 20 = .ok (.iconst 2, 1) := by decide +kernel
theorem dX1_tallWith_21 : decode cX1_tallWith 21 = .ok (.invokevirtual 18, 3) := by decide +kernel
theorem dX1_tallWith_24 : decode cX1_tallWith 24 = .ok (.ifCond .eq 9, 3) := by decide +kernel
theorem dX1_tallWith_27 : decode cX1_tallWith 27 = .ok (.iload_n 3, 1) := by decide +kernel
theorem dX1_tallWith_28 : decode cX1_tallWith 28 = .ok (.iconst 3, 1) := by decide +kernel
theorem dX1_tallWith_29 : decode cX1_tallWith 29 = .ok (.iadd, 1) := by decide +kernel
theorem dX1_tallWith_30 : decode cX1_tallWith 30 = .ok (.goto 4, 3) := by decide +kernel
theorem dX1_tallWith_33 : decode cX1_tallWith 33 = .ok (.iload_n 3, 1) := by decide +kernel
theorem dX1_tallWith_34 : decode cX1_tallWith 34 = .ok (.ireturn, 1) := by decide +kernel
set_option maxRecDepth 20000 in
theorem ggX2_init_X1_init : GoodIn wsX2_init wsX1_init := goodIn_r _ [17, 18, 2, 3] (by decide +kernel) (by decide +kernel)
set_option maxRecDepth 20000 in
theorem gX2_init_X1_init_n33 : GoodIn wsX2_init (wsX1_init) := ggX2_init_X1_init
set_option maxRecDepth 20000 in
theorem ggX2_init_X7_init : GoodIn wsX2_init wsX7_init := goodIn_r _ [20, 21, 2, 3] (by decide +kernel) (by decide +kernel)
set_option maxRecDepth 20000 in
theorem gX2_init_X7_init_n34 : GoodIn wsX2_init (wsX7_init) := ggX2_init_X7_init
theorem dX2_init_0 : decode cX2_init 0 = .ok (.aload_n 0, 1) := by decide +kernel
theorem dX2_init_1 : decode cX2_init 1 = .ok (.invokespecial 3, 3) := by decide +kernel
theorem dX2_init_4 : decode cX2_init 4 = .ok (.aload_n 0, 1) := by decide +kernel
theorem dX2_init_5 : decode cX2_init 5 = .ok (.bipush 30, 2) := by decide +kernel
theorem dX2_init_7 : decode cX2_init 7 = .ok (.newarray .int, 2) := by decide +kernel
theorem dX2_init_9 : decode cX2_init 9 = .ok (.putfield 9, 3) := by decide +kernel
theorem dX2_init_12 : decode cX2_init 12 = .ok (.aload_n 0, 1) := by decide +kernel
theorem dX2_init_13 : decode cX2_init 13 = .ok (.bipush 30, 2) := by decide +kernel
theorem dX2_init_15 : decode cX2_init 15 = .ok (.newarray .int, 2) := by decide +kernel
theorem dX2_init_17 : decode cX2_init 17 = .ok (.putfield 15, 3) := by decide +kernel
theorem dX2_init_20 : decode cX2_init 20 = .ok (.aload_n 0, 1) := by decide +kernel
theorem dX2_init_21 : decode cX2_init 21 = .ok (.bipush 30, 2) := by decide +kernel
theorem dX2_init_23 : decode cX2_init 23 = .ok (.newarray .int, 2) := by decide +kernel
theorem dX2_init_25 : decode cX2_init 25 = .ok (.putfield 18, 3) := by decide +kernel
theorem dX2_init_28 : decode cX2_init 28 = .ok (.aload_n 0, 1) := by decide +kernel
theorem dX2_init_29 : decode cX2_init 29 = .ok (.bipush 8, 2) := by decide +kernel
theorem dX2_init_31 : decode cX2_init 31 = .ok (.anewarray 21, 3) := by decide +kernel
theorem dX2_init_34 : decode cX2_init 34 = .ok (.putfield 23, 3) := by decide +kernel
theorem dX2_init_37 : decode cX2_init 37 = .ok (.aload_n 0, 1) := by decide +kernel
theorem dX2_init_38 : decode cX2_init 38 = .ok (.bipush 8, 2) := by decide +kernel
theorem dX2_init_40 : decode cX2_init 40 = .ok (.anewarray 27, 3) := by decide +kernel
theorem dX2_init_43 : decode cX2_init 43 = .ok (.putfield 29, 3) := by decide +kernel
theorem dX2_init_46 : decode cX2_init 46 = .ok (.iconst 0, 1) := by decide +kernel
theorem dX2_init_47 : decode cX2_init 47 = .ok (.istore_n 1, 1) := by decide +kernel
theorem dX2_init_48 : decode cX2_init 48 = .ok (.iload_n 1, 1) := by decide +kernel
theorem dX2_init_49 : decode cX2_init 49 = .ok (.bipush 8, 2) := by decide +kernel
theorem dX2_init_51 : decode cX2_init 51 = .ok (.if_icmp .ge 22, 3) := by decide +kernel
theorem dX2_init_54 : decode cX2_init 54 = .ok (.aload_n 0, 1) := by decide +kernel
theorem dX2_init_55 : decode cX2_init 55 = .ok (.getfield 23, 3) := by decide +kernel
theorem dX2_init_58 : decode cX2_init 58 = .ok (.iload_n 1, 1) := by decide +kernel
theorem dX2_init_59 : decode cX2_init 59 = .ok (.new 21, 3) := by decide +kernel
theorem dX2_init_62 : decode cX2_init 62 = .ok (.dup, 1) := by decide +kernel
theorem dX2_init_63 : decode cX2_init 63 = .ok (.invokespecial 33, 3) := by decide +kernel
theorem dX2_init_66 : decode cX2_init 66 = .ok (.aastore, 1) := by decide +kernel
theorem dX2_init_67 : decode cX2_init 67 = .ok (.iinc 1 1, 3) := by decide +kernel
theorem dX2_init_70 : decode cX2_init 70 = .ok (.goto (-22), 3) := by decide +kernel
theorem dX2_init_73 : decode cX2_init 73 = .ok (.iconst 0, 1) := by decide +kernel
theorem dX2_init_74 : decode cX2_init 74 = .ok (.istore_n 1, 1) := by decide +kernel
theorem dX2_init_75 : decode cX2_init 75 = .ok (.iload_n 1, 1) := by decide +kernel
theorem dX2_init_76 : decode cX2_init 76 = .ok (.bipush 8, 2) := by decide +kernel
theorem dX2_init_78 : decode cX2_init 78 = .ok (.if_icmp .ge 22, 3) := by decide +kernel
theorem dX2_init_81 : decode cX2_init 81 = .ok (.aload_n 0, 1) := by decide +kernel
theorem dX2_init_82 : decode cX2_init 82 = .ok (.getfield 29, 3) := by decide +kernel
theorem dX2_init_85 : decode cX2_init 85 = .ok (.iload_n 1, 1) := by decide +kernel
theorem dX2_init_86 : decode cX2_init 86 = .ok (.new 27, 3) := by decide +kernel
theorem dX2_init_89 : decode cX2_init 89 = .ok (.dup, 1) := by decide +kernel
theorem dX2_init_90 : decode cX2_init 90 = .ok (.invokespecial 34, 3) := by decide +kernel
theorem dX2_init_93 : decode cX2_init 93 = .ok (.aastore, 1) := by decide +kernel
theorem dX2_init_94 : decode cX2_init 94 = .ok (.iinc 1 1, 3) := by decide +kernel
theorem dX2_init_97 : decode cX2_init 97 = .ok (.goto (-22), 3) := by decide +kernel
theorem dX2_init_100 : decode cX2_init 100 = .ok (.return_, 1) := by decide +kernel
theorem dX2_isThere_0 : decode cX2_isThere 0 = .ok (.aload_n 0, 1) := by decide +kernel
theorem dX2_isThere_1 : decode cX2_isThere 1 = .ok (.getfield 35, 3) := by decide +kernel
theorem dX2_isThere_4 : decode cX2_isThere 4 = .ok (.ifCond .le 7, 3) := by decide +kernel
theorem dX2_isThere_7 : decode cX2_isThere 7 = .ok (.iconst 1, 1) := by decide +kernel
theorem dX2_isThere_8 : decode cX2_isThere 8 = .ok (.goto 4, 3) := by decide +kernel
theorem dX2_isThere_11 : decode cX2_isThere 11 = .ok (.iconst 0, 1) := by decide +kernel
theorem dX2_isThere_12 : decode cX2_isThere 12 = .ok (.ireturn, 1) := by decide +kernel
set_option maxRecDepth 20000 in
theorem ggX2_hasCell_X8_isWithin : GoodIn wsX2_hasCell wsX8_isWithin := goodIn_r _ [4] (by decide +kernel) (by decide +kernel)
set_option maxRecDepth 20000 in
theorem gX2_hasCell_X8_isWithin_n39 : GoodIn wsX2_hasCell (wsX8_isWithin) := ggX2_hasCell_X8_isWithin
theorem dX2_hasCell_0 : decode cX2_hasCell 0 = .ok (.iload_n 1, 1) := by decide +kernel
theorem dX2_hasCell_1 : decode cX2_hasCell 1 = .ok (.iconst 0, 1) := by decide +kernel
theorem dX2_hasCell_2 : decode cX2_hasCell 2 = .ok (.aload_n 0, 1) := by decide +kernel
theorem dX2_hasCell_3 : decode cX2_hasCell 3 = .ok (.getfield 35, 3) := by decide +kernel
theorem dX2_hasCell_6 : decode cX2_hasCell 6 = .ok (.iconst 1, 1) := by decide +kernel
theorem dX2_hasCell_7 : decode cX2_hasCell 7 = .ok (.isub, 1) := by decide +kernel
theorem dX2_hasCell_8 : decode cX2_hasCell 8 = .ok (.invokestatic 39, 3) := by decide +kernel
theorem dX2_hasCell_11 : decode cX2_hasCell 11 = .ok (.ireturn, 1) := by decide +kernel
set_option maxRecDepth 20000 in
theorem ggX2_hasHouse_X8_isWithin : GoodIn wsX2_hasHouse wsX8_isWithin := goodIn_r _ [4] (by decide +kernel) (by decide +kernel)
set_option maxRecDepth 20000 in
theorem gX2_hasHouse_X8_isWithin_n39 : GoodIn wsX2_hasHouse (wsX8_isWithin) := ggX2_hasHouse_X8_isWithin
theorem dX2_hasHouse_0 : decode cX2_hasHouse 0 = .ok (.iload_n 1, 1) := by decide +kernel
theorem dX2_hasHouse_1 : decode cX2_hasHouse 1 = .ok (.iconst 0, 1) := by decide +kernel
theorem dX2_hasHouse_2 : decode cX2_hasHouse 2 = .ok (.aload_n 0, 1) := by decide +kernel
theorem dX2_hasHouse_3 : decode cX2_hasHouse 3 = .ok (.getfield 43, 3) := by decide +kernel
theorem dX2_hasHouse_6 : decode cX2_hasHouse 6 = .ok (.iconst 1, 1) := by decide +kernel
theorem dX2_hasHouse_7 : decode cX2_hasHouse 7 = .ok (.isub, 1) := by decide +kernel
theorem dX2_hasHouse_8 : decode cX2_hasHouse 8 = .ok (.invokestatic 39, 3) := by decide +kernel
theorem dX2_hasHouse_11 : decode cX2_hasHouse 11 = .ok (.ireturn, 1) := by decide +kernel
set_option maxRecDepth 20000 in
theorem ggX2_hasTree_X8_isWithin : GoodIn wsX2_hasTree wsX8_isWithin := goodIn_r _ [4] (by decide +kernel) (by decide +kernel)
set_option maxRecDepth 20000 in
theorem gX2_hasTree_X8_isWithin_n39 : GoodIn wsX2_hasTree (wsX8_isWithin) := ggX2_hasTree_X8_isWithin
theorem dX2_hasTree_0 : decode cX2_hasTree 0 = .ok (.iload_n 1, 1) := by decide +kernel
theorem dX2_hasTree_1 : decode cX2_hasTree 1 = .ok (.iconst 0, 1) := by decide +kernel
theorem dX2_hasTree_2 : decode cX2_hasTree 2 = .ok (.aload_n 0, 1) := by decide +kernel
theorem dX2_hasTree_3 : decode cX2_hasTree 3 = .ok (.getfield 46, 3) := by decide +kernel
theorem dX2_hasTree_6 : decode cX2_hasTree 6 = .ok (.iconst 1, 1) := by decide +kernel
theorem dX2_hasTree_7 : decode cX2_hasTree 7 = .ok (.isub, 1) := by decide +kernel
theorem dX2_hasTree_8 : decode cX2_hasTree 8 = .ok (.invokestatic 39, 3) := by decide +kernel
theorem dX2_hasTree_11 : decode cX2_hasTree 11 = .ok (.ireturn, 1) := by decide +kernel
theorem dX2_hasNothing_0 : decode cX2_hasNothing 0 = .ok (.aload_n 0, 1) := by decide +kernel
theorem dX2_hasNothing_1 : decode cX2_hasNothing 1 = .ok (.getfield 18, 3) := by decide +kernel
theorem dX2_hasNothing_4 : decode cX2_hasNothing 4 = .ok (.iload_n 1, 1) := by decide +kernel
theorem dX2_hasNothing_5 : decode cX2_hasNothing 5 = .ok (.iaload, 1) := by decide +kernel
theorem dX2_hasNothing_6 : decode cX2_hasNothing 6 = .ok (.ifCond .ne 7, 3) := by decide +kernel
theorem dX2_hasNothing_9 : decode cX2_hasNothing 9 = .ok (.iconst 1, 1) := by decide +kernel
theorem dX2_hasNothing_10 : decode cX2_hasNothing 10 = .ok (.goto 4, 3) := by decide +kernel
theorem dX2_hasNothing_13 : decode cX2_hasNothing 13 = .ok (.iconst 0, 1) := by decide +kernel
theorem dX2_hasNothing_14 : decode cX2_hasNothing 14 = .ok (.ireturn, 1) := by decide +kernel
set_option maxRecDepth 20000 in
theorem ggX2_canTakeNew_X2_hasNothing : GoodIn wsX2_canTakeNew wsX2_hasNothing := goodIn_r _ [6, 7, 8, 9, 10, 11, 12, 13, 14, 15, 16, 17, 18, 19, 20] (by decide +kernel) (by decide +kernel)
set_option maxRecDepth 20000 in
theorem gX2_canTakeNew_X2_hasNothing : GoodIn wsX2_canTakeNew (wsV RX2 49 RX2 yX2_hasNothing wsX2_hasNothing) := goodIn_app (goodIn_of _ (by decide +kernel)) ggX2_canTakeNew_X2_hasNothing
theorem dX2_canTakeNew_0 : decode cX2_canTakeNew 0 = .ok (.aload_n 0, 1) := by decide +kernel
theorem dX2_canTakeNew_1 : decode cX2_canTakeNew 1 = .ok (.iload_n 1, 1) := by decide +kernel
theorem dX2_canTakeNew_2 : decode cX2_canTakeNew 2 = .ok (.invokevirtual 49, 3) := by decide +kernel
theorem dX2_canTakeNew_5 : decode cX2_canTakeNew 5 = .ok (.ifCond .eq 16, 3) := by decide +kernel
theorem dX2_canTakeNew_8 : decode cX2_canTakeNew 8 = .ok (.aload_n 0, 1) := by decide +kernel
theorem dX2_canTakeNew_9 : decode cX2_canTakeNew 9 = .ok (.getfield 15, 3) := by decide +kernel
theorem dX2_canTakeNew_12 : decode cX2_canTakeNew 12 = .ok (.iload_n 1, 1) := by decide +kernel
theorem dX2_canTakeNew_13 : decode cX2_canTakeNew 13 = .ok (.iaload, 1) := by decide +kernel
theorem dX2_canTakeNew_14 : decode cX2_canTakeNew 14 = .ok (.ifCond .ne 7, 3) := by decide +kernel
theorem dX2_canTakeNew_17 : decode cX2_canTakeNew 17 = .ok (.iconst 1, 1) := by decide +kernel
theorem dX2_canTakeNew_18 : decode cX2_canTakeNew 18 = .ok (.goto 4, 3) := by decide +kernel
theorem dX2_canTakeNew_21 : decode cX2_canTakeNew 21 = .ok (.iconst 0, 1) := by decide +kernel
theorem dX2_canTakeNew_22 : decode cX2_canTakeNew 22 = .ok (.ireturn, 1) := by decide +kernel
set_option maxRecDepth 20000 in
theorem ggX2_makeAnew_X2_settle : GoodIn wsX2_makeAnew wsX2_settle := goodIn_r _ [21, 22, 6, 23, 24, 25, 5, 26, 27, 28, 29, 41, 42, 43, 44, 45, 46, 47, 48, 49, 50, 51, 52, 53, 54, 55, 56, 57, 58, 59] (by decide +kernel) (by decide +kernel)
set_option maxRecDepth 20000 in
theorem gX2_makeAnew_X2_settle : GoodIn wsX2_makeAnew (wsV RX2 81 RX2 yX2_settle wsX2_settle) := goodIn_app (goodIn_of _ (by decide +kernel)) ggX2_makeAnew_X2_settle
theorem dX2_makeAnew_0 : decode cX2_makeAnew 0 = .ok (.aload_n 0, 1) := by decide +kernel
theorem dX2_makeAnew_1 : decode cX2_makeAnew 1 = .ok (.aload_n 1, 1) := by decide +kernel
theorem dX2_makeAnew_2 : decode cX2_makeAnew 2 = .ok (.getfield 53, 3) := by decide +kernel
theorem dX2_makeAnew_5 : decode cX2_makeAnew 5 = .ok (.putfield 58, 3) := by decide +kernel
theorem dX2_makeAnew_8 : decode cX2_makeAnew 8 = .ok (.aload_n 0, 1) := by decide +kernel
theorem dX2_makeAnew_9 : decode cX2_makeAnew 9 = .ok (.aload_n 1, 1) := by decide +kernel
theorem dX2_makeAnew_10 : decode cX2_makeAnew 10 = .ok (.getfield 59, 3) := by decide +kernel
theorem dX2_makeAnew_13 : decode cX2_makeAnew 13 = .ok (.aload_n 1, 1) := by decide +kernel
theorem dX2_makeAnew_14 : decode cX2_makeAnew 14 = .ok (.getfield 53, 3) := by decide +kernel
theorem dX2_makeAnew_17 : decode cX2_makeAnew 17 = .ok (.imul, 1) := by decide +kernel
theorem dX2_makeAnew_18 : decode cX2_makeAnew 18 = .ok (.putfield 35, 3) := by decide +kernel
theorem dX2_makeAnew_21 : decode cX2_makeAnew 21 = .ok (.aload_n 0, 1) := by decide +kernel
theorem dX2_makeAnew_22 : decode cX2_makeAnew 22 = .ok (.iconst 0, 1) := by decide +kernel
theorem dX2_makeAnew_23 : decode cX2_makeAnew 23 = .ok (.putfield 43, 3) := by decide +kernel
theorem dX2_makeAnew_26 : decode cX2_makeAnew 26 = .ok (.aload_n 0, 1) := by decide +kernel
theorem dX2_makeAnew_27 : decode cX2_makeAnew 27 = .ok (.iconst 0, 1) := by decide +kernel
theorem dX2_makeAnew_28 : decode cX2_makeAnew 28 = .ok (.putfield 46, 3) := by decide +kernel
theorem dX2_makeAnew_31 : decode cX2_makeAnew 31 = .ok (.aload_n 0, 1) := by decide +kernel
theorem dX2_makeAnew_32 : decode cX2_makeAnew 32 = .ok (.iconst 0, 1) := by decide +kernel
theorem dX2_makeAnew_33 : decode cX2_makeAnew 33 = .ok (.putfield 62, 3) := by decide +kernel
theorem dX2_makeAnew_36 : decode cX2_makeAnew 36 = .ok (.aload_n 0, 1) := by decide +kernel
theorem dX2_makeAnew_37 : decode cX2_makeAnew 37 = .ok (.iconst 0, 1) := by decide +kernel
theorem dX2_makeAnew_38 : decode cX2_makeAnew 38 = .ok (.putfield 65, 3) := by decide +kernel
theorem dX2_makeAnew_41 : decode cX2_makeAnew 41 = .ok (.aload_n 0, 1) := by decide +kernel
theorem dX2_makeAnew_42 : decode cX2_makeAnew 42 = .ok (.bipush 9, 2) := by decide +kernel
theorem dX2_makeAnew_44 : decode cX2_makeAnew 44 = .ok (.putfield 68, 3) := by decide +kernel
theorem dX2_makeAnew_47 : decode cX2_makeAnew 47 = .ok (.aload_n 0, 1) := by decide +kernel
theorem dX2_makeAnew_48 : decode cX2_makeAnew 48 = .ok (.iconst 0, 1) := by decide +kernel
theorem dX2_makeAnew_49 : decode cX2_makeAnew 49 = .ok (.putfield 71, 3) := by decide +kernel
theorem dX2_makeAnew_52 : decode cX2_makeAnew 52 = .ok (.iconst 0, 1) := by decide +kernel
theorem dX2_makeAnew_53 : decode cX2_makeAnew 53 = .ok (.istore_n 2, 1) := by decide +kernel
theorem dX2_makeAnew_54 : decode cX2_makeAnew 54 = .ok (.iload_n 2, 1) := by decide +kernel
theorem dX2_makeAnew_55 : decode cX2_makeAnew 55 = .ok (.aload_n 0, 1) := by decide +kernel
theorem dX2_makeAnew_56 : decode cX2_makeAnew 56 = .ok (.getfield 35, 3) := by decide +kernel
theorem dX2_makeAnew_59 : decode cX2_makeAnew 59 = .ok (.if_icmp .ge 51, 3) := by decide +kernel
theorem dX2_makeAnew_62 : decode cX2_makeAnew 62 = .ok (.aload_n 0, 1) := by decide +kernel
theorem dX2_makeAnew_63 : decode cX2_makeAnew 63 = .ok (.getfield 9, 3) := by decide +kernel
theorem dX2_makeAnew_66 : decode cX2_makeAnew 66 = .ok (.iload_n 2, 1) := by decide +kernel
theorem dX2_makeAnew_67 : decode cX2_makeAnew 67 = .ok (.aload_n 1, 1) := by decide +kernel
theorem dX2_makeAnew_68 : decode cX2_makeAnew 68 = .ok (.getfield 74, 3) := by decide +kernel
theorem dX2_makeAnew_71 : decode cX2_makeAnew 71 = .ok (.iload_n 2, 1) := by decide +kernel
theorem dX2_makeAnew_72 : decode cX2_makeAnew 72 = .ok (.iaload, 1) := by decide +kernel
theorem dX2_makeAnew_73 : decode cX2_makeAnew 73 = .ok (.iastore, 1) := by decide +kernel
theorem dX2_makeAnew_74 : decode cX2_makeAnew 74 = .ok (.aload_n 0, 1) := by decide +kernel
theorem dX2_makeAnew_75 : decode cX2_makeAnew 75 = .ok (.getfield 15, 3) := by decide +kernel
theorem dX2_makeAnew_78 : decode cX2_makeAnew 78 = .ok (.iload_n 2, 1) := by decide +kernel
theorem dX2_makeAnew_79 : decode cX2_makeAnew 79 = .ok (.iconst 0, 1) := by decide +kernel
theorem dX2_makeAnew_80 : decode cX2_makeAnew 80 = .ok (.iastore, 1) := by decide +kernel
theorem dX2_makeAnew_81 : decode cX2_makeAnew 81 = .ok (.aload_n 0, 1) := by decide +kernel
theorem dX2_makeAnew_82 : decode cX2_makeAnew 82 = .ok (.getfield 18, 3) := by decide +kernel
theorem dX2_makeAnew_85 : decode cX2_makeAnew 85 = .ok (.iload_n 2, 1) := by decide +kernel
theorem dX2_makeAnew_86 : decode cX2_makeAnew 86 = .ok (.aload_n 0, 1) := by decide +kernel
theorem dX2_makeAnew_87 : decode cX2_makeAnew 87 = .ok (.iload_n 2, 1) := by decide +kernel
theorem dX2_makeAnew_88 : decode cX2_makeAnew 88 = .ok (.aload_n 1, 1) := by decide +kernel
theorem dX2_makeAnew_89 : decode cX2_makeAnew 89 = .ok (.getfield 75, 3) := by decide +kernel
theorem dX2_makeAnew_92 : decode cX2_makeAnew 92 = .ok (.iload_n 2, 1) := by decide +kernel
theorem dX2_makeAnew_93 : decode cX2_makeAnew 93 = .ok (.iaload, 1) := by decide +kernel
theorem dX2_makeAnew_94 : decode cX2_makeAnew 94 = .ok (.aload_n 1, 1) := by decide +kernel
theorem dX2_makeAnew_95 : decode cX2_makeAnew 95 = .ok (.getfield 78, 3) := by decide +kernel
theorem dX2_makeAnew_98 : decode cX2_makeAnew 98 = .ok (.iload_n 2, 1) := by decide +kernel
theorem dX2_makeAnew_99 : decode cX2_makeAnew 99 = .ok (.iaload, 1) := by decide +kernel
theorem dX2_makeAnew_100 : decode cX2_makeAnew 100 = .ok (.invokevirtual 81, 3) := by decide +kernel
theorem dX2_makeAnew_103 : decode cX2_makeAnew 103 = .ok (.iastore, 1) := by decide +kernel
theorem dX2_makeAnew_104 : decode cX2_makeAnew 104 = .ok (.iinc 2 1, 3) := by decide +kernel
theorem dX2_makeAnew_107 : decode cX2_makeAnew 107 = .ok (.goto (-53), 3) := by decide +kernel
theorem dX2_makeAnew_110 : decode cX2_makeAnew 110 = .ok (.return_, 1) := by decide +kernel
theorem dX2_settle_0 : decode cX2_settle 0 = .ok (.iload_n 2, 1) := by decide +kernel
theorem dX2_settle_1 : decode cX2_settle 1 = .ok (.iconst (-1), 1) := by decide +kernel
theorem dX2_settle_2 : decode cX2_settle 2 = .ok (.if_icmp .ne 5, 3) := by decide +kernel
theorem dX2_settle_5 : decode cX2_settle 5 = .ok (.iconst 0, 1) := by decide +kernel
theorem dX2_settle_6 : decode cX2_settle 6 = .ok (.ireturn, 1) := by decide +kernel
theorem dX2_settle_7 : decode cX2_settle 7 = .ok (.iload_n 2, 1) := by decide +kernel
theorem dX2_settle_8 : decode cX2_settle 8 = .ok (.iconst 3, 1) := by decide +kernel
theorem dX2_settle_9 : decode cX2_settle 9 = .ok (.if_icmp .ne 41, 3) := by decide +kernel
theorem dX2_settle_12 : decode cX2_settle 12 = .ok (.aload_n 0, 1) := by decide +kernel
theorem dX2_settle_13 : decode cX2_settle 13 = .ok (.getfield 29, 3) := by decide +kernel
theorem dX2_settle_16 : decode cX2_settle 16 = .ok (.aload_n 0, 1) := by decide +kernel
theorem dX2_settle_17 : decode cX2_settle 17 = .ok (.getfield 46, 3) := by decide +kernel
theorem dX2_settle_20 : decode cX2_settle 20 = .ok (.aaload, 1) := by decide +kernel
theorem dX2_settle_21 : decode cX2_settle 21 = .ok (.astore 4, 2) := by decide +kernel
theorem dX2_settle_23 : decode cX2_settle 23 = .ok (.aload 4, 2) := by decide +kernel
theorem dX2_settle_25 : decode cX2_settle 25 = .ok (.iload_n 1, 1) := by decide +kernel
theorem dX2_settle_26 : decode cX2_settle 26 = .ok (.putfield 85, 3) := by decide +kernel
theorem dX2_settle_29 : decode cX2_settle 29 = .ok (.aload 4, 2) := by decide +kernel
theorem dX2_settle_31 : decode cX2_settle 31 = .ok (.iload_n 3, 1) := by decide +kernel
theorem dX2_settle_32 : decode cX2_settle 32 = .ok (.putfield 88, 3) := by decide +kernel
theorem dX2_settle_35 : decode cX2_settle 35 = .ok (.bipush 20, 2) := by decide +kernel
theorem dX2_settle_37 : decode cX2_settle 37 = .ok (.aload_n 0, 1) := by decide +kernel
theorem dX2_settle_38 : decode cX2_settle 38 = .ok (.dup, 1) := by decide +kernel
theorem dX2_settle_39 : decode cX2_settle 39 = .ok (.getfield 46, 3) := by decide +kernel
theorem dX2_settle_42 : decode cX2_settle 42 = .ok (.dup_x1, 1) := by decide +kernel
theorem dX2_settle_43 : decode cX2_settle 43 = .ok (.iconst 1, 1) := by decide +kernel
theorem dX2_settle_44 : decode cX2_settle 44 = .ok (.iadd, 1) := by decide +kernel
theorem dX2_settle_45 : decode cX2_settle 45 = .ok (.putfield 46, 3) := by decide +kernel
theorem dX2_settle_48 : decode cX2_settle 48 = .ok (.iadd, 1) := by decide +kernel
theorem dX2_settle_49 : decode cX2_settle 49 = .ok (.ireturn, 1) := by decide +kernel
theorem dX2_settle_50 : decode cX2_settle 50 = .ok (.aload_n 0, 1) := by decide +kernel
theorem dX2_settle_51 : decode cX2_settle 51 = .ok (.getfield 23, 3) := by decide +kernel
theorem dX2_settle_54 : decode cX2_settle 54 = .ok (.aload_n 0, 1) := by decide +kernel
theorem dX2_settle_55 : decode cX2_settle 55 = .ok (.getfield 43, 3) := by decide +kernel
theorem dX2_settle_58 : decode cX2_settle 58 = .ok (.aaload, 1) := by decide +kernel
theorem dX2_settle_59 : decode cX2_settle 59 = .ok (.astore 4, 2) := by decide +kernel
theorem dX2_settle_61 : decode cX2_settle 61 = .ok (.aload 4, 2) := by decide +kernel
theorem dX2_settle_63 : decode cX2_settle 63 = .ok (.iload_n 2, 1) := by decide +kernel
theorem dX2_settle_64 : decode cX2_settle 64 = .ok (.putfield 91, 3) := by decide +kernel
theorem dX2_settle_67 : decode cX2_settle 67 = .ok (.aload 4, 2) := by decide +kernel
theorem dX2_settle_69 : decode cX2_settle 69 = .ok (.iload_n 1, 1) := by decide +kernel
theorem dX2_settle_70 : decode cX2_settle 70 = .ok (.putfield 94, 3) := by decide +kernel
theorem dX2_settle_73 : decode cX2_settle 73 = .ok (.aload 4, 2) := by decide +kernel
theorem dX2_settle_75 : decode cX2_settle 75 = .ok (.iload_n 3, 1) := by decide +kernel
theorem dX2_settle_76 : decode cX2_settle 76 = .ok (.putfield 95, 3) := by decide +kernel
theorem dX2_settle_79 : decode cX2_settle 79 = .ok (.aload 4, 2) := by decide +kernel
theorem dX2_settle_81 : decode cX2_settle 81 = .ok (.iconst 0, 1) := by decide +kernel
theorem dX2_settle_82 : decode cX2_settle 82 = .ok (.putfield 96, 3) := by decide +kernel
theorem dX2_settle_85 : decode cX2_settle 85 = .ok (.bipush 10, 2) := by decide +kernel
theorem dX2_settle_87 : decode cX2_settle 87 = .ok (.aload_n 0, 1) := by decide +kernel
theorem dX2_settle_88 : decode cX2_settle 88 = .ok (.dup, 1) := by decide +kernel
theorem dX2_settle_89 : decode cX2_settle 89 = .ok (.getfield 43, 3) := by decide +kernel
theorem dX2_settle_92 : decode cX2_settle 92 = .ok (.dup_x1, 1) := by decide +kernel
theorem dX2_settle_93 : decode cX2_settle 93 = .ok (.iconst 1, 1) := by decide +kernel
theorem dX2_settle_94 : decode cX2_settle 94 = .ok (.iadd, 1) := by decide +kernel
theorem dX2_settle_95 : decode cX2_settle 95 = .ok (.putfield 43, 3) := by decide +kernel
theorem dX2_settle_98 : decode cX2_settle 98 = .ok (.iadd, 1) := by decide +kernel
theorem dX2_settle_99 : decode cX2_settle 99 = .ok (.ireturn, 1) := by decide +kernel
set_option maxRecDepth 20000 in
theorem ggX2_treeTall_X8_isIn : GoodIn wsX2_treeTall wsX8_isIn := goodIn_r _ [5] (by decide +kernel) (by decide +kernel)
set_option maxRecDepth 20000 in
theorem gX2_treeTall_X8_isIn_n99 : GoodIn wsX2_treeTall (wsX8_isIn) := ggX2_treeTall_X8_isIn
theorem dX2_treeTall_0 : decode cX2_treeTall 0 = .ok (.iload_n 1, 1) := by decide +kernel
theorem dX2_treeTall_1 : decode cX2_treeTall 1 = .ok (.iload_n 3, 1) := by decide +kernel
theorem dX2_treeTall_2 : decode cX2_treeTall 2 = .ok (.invokestatic 99, 3) := by decide +kernel
theorem dX2_treeTall_5 : decode cX2_treeTall 5 = .ok (.ifCond .eq 7, 3) := by decide +kernel
theorem dX2_treeTall_8 : decode cX2_treeTall 8 = .ok (.iconst 0, 1) := by decide +kernel
theorem dX2_treeTall_9 : decode cX2_treeTall 9 = .ok (.goto 16, 3) := by decide +kernel
theorem dX2_treeTall_12 : decode cX2_treeTall 12 = .ok (.aload_n 0, 1) := by decide +kernel
theorem dX2_treeTall_13 : decode cX2_treeTall 13 = .ok (.getfield 29, 3) := by decide +kernel
theorem dX2_treeTall_16 : decode cX2_treeTall 16 = .ok (.iload_n 1, 1) := by decide +kernel
theorem dX2_treeTall_17 : decode cX2_treeTall 17 = .ok (.aaload, 1) := by decide +kernel
theorem dX2_treeTall_18 : decode cX2_treeTall 18 = .ok (.getfield 88, 3) := by decide +kernel
theorem dX2_treeTall_21 : decode cX2_treeTall 21 = .ok (.iload_n 2, 1) := by decide +kernel
theorem dX2_treeTall_22 : decode cX2_treeTall 22 = .ok (.iconst 2, 1) := by decide +kernel
theorem dX2_treeTall_23 : decode cX2_treeTall 23 = .ok (.idiv, 1) := by decide +kernel
theorem dX2_treeTall_24 : decode cX2_treeTall 24 = .ok (.iadd, 1) := by decide +kernel
theorem dX2_treeTall_25 : decode cX2_treeTall 25 = .ok (.ireturn, 1) := by decide +kernel
set_option maxRecDepth 20000 in
theorem ggX2_topOf_X2_tallOn : GoodIn wsX2_topOf wsX2_tallOn := goodIn_r _ [6, 7, 8, 9, 10, 11, 12, 13, 14, 15, 16, 5, 17, 18, 19, 20, 21, 22, 23, 24, 25, 26, 27, 28, 29, 30, 31, 32, 33, 34, 35, 36, 37, 38, 39, 40, 41, 42, 43, 44, 45, 46, 47, 48, 49, 50, 51, 52] (by decide +kernel) (by decide +kernel)
set_option maxRecDepth 20000 in
theorem gX2_topOf_X2_tallOn : GoodIn wsX2_topOf (wsV RX2 103 RX2 yX2_tallOn wsX2_tallOn) := goodIn_app (goodIn_of _ (by decide +kernel)) ggX2_topOf_X2_tallOn
theorem dX2_topOf_0 : decode cX2_topOf 0 = .ok (.aload_n 0, 1) := by decide +kernel
theorem dX2_topOf_1 : decode cX2_topOf 1 = .ok (.getfield 9, 3) := by decide +kernel
theorem dX2_topOf_4 : decode cX2_topOf 4 = .ok (.iload_n 1, 1) := by decide +kernel
theorem dX2_topOf_5 : decode cX2_topOf 5 = .ok (.iaload, 1) := by decide +kernel
theorem dX2_topOf_6 : decode cX2_topOf 6 = .ok (.aload_n 0, 1) := by decide +kernel
theorem dX2_topOf_7 : decode cX2_topOf 7 = .ok (.iload_n 1, 1) := by decide +kernel
theorem dX2_topOf_8 : decode cX2_topOf 8 = .ok (.invokevirtual 103, 3) := by decide +kernel
theorem dX2_topOf_11 : decode cX2_topOf 11 = .ok (.iadd, 1) := by decide +kernel
theorem dX2_topOf_12 : decode cX2_topOf 12 = .ok (.ireturn, 1) := by decide +kernel
set_option maxRecDepth 20000 in
theorem ggX2_tallOn_X2_treeTall : GoodIn wsX2_tallOn wsX2_treeTall := goodIn_r _ [12, 13, 14, 15, 16, 17, 29, 30, 31, 32, 33, 34, 35, 36, 37, 38, 39, 40, 41, 46, 47] (by decide +kernel) (by decide +kernel)
set_option maxRecDepth 20000 in
theorem gX2_tallOn_X2_treeTall : GoodIn wsX2_tallOn (wsV RX2 107 RX2 yX2_treeTall wsX2_treeTall) := goodIn_app (goodIn_of _ (by decide +kernel)) ggX2_tallOn_X2_treeTall
set_option maxRecDepth 20000 in
theorem ggX2_tallOn_X1_tallWith : GoodIn wsX2_tallOn wsX1_tallWith := goodIn_r _ [22, 23, 24, 25, 26, 21, 27, 28, 42, 43, 44, 45] (by decide +kernel) (by decide +kernel)
set_option maxRecDepth 20000 in
theorem gX2_tallOn_X1_tallWith : GoodIn wsX2_tallOn (wsV RX2 110 RX1 yX1_tallWith wsX1_tallWith) := goodIn_app (goodIn_of _ (by decide +kernel)) ggX2_tallOn_X1_tallWith
theorem dX2_tallOn_0 : decode cX2_tallOn 0 = .ok (.aload_n 0, 1) := by decide +kernel
theorem dX2_tallOn_1 : decode cX2_tallOn 1 = .ok (.getfield 18, 3) := by decide +kernel
theorem dX2_tallOn_4 : decode cX2_tallOn 4 = .ok (.iload_n 1, 1) := by decide +kernel
theorem dX2_tallOn_5 : decode cX2_tallOn 5 = .ok (.iaload, 1) := by decide +kernel
theorem dX2_tallOn_6 : decode cX2_tallOn 6 = .ok (.istore_n 2, 1) := by decide +kernel
theorem dX2_tallOn_7 : decode cX2_tallOn 7 = .ok (.iload_n 2, 1) := by decide +kernel
theorem dX2_tallOn_8 : decode cX2_tallOn 8 = .ok (.bipush 20, 2) := by decide +kernel
theorem dX2_tallOn_10 : decode cX2_tallOn 10 = .ok (.if_icmp .lt 20, 3) := by decide +kernel
theorem dX2_tallOn_13 : decode cX2_tallOn 13 = .ok (.aload_n 0, 1) := by decide +kernel
theorem dX2_tallOn_14 : decode cX2_tallOn 14 = .ok (.iload_n 2, 1) := by decide +kernel
theorem dX2_tallOn_15 : decode cX2_tallOn 15 = .ok (.bipush 20, 2) := by decide +kernel
theorem dX2_tallOn_17 : decode cX2_tallOn 17 = .ok (.isub, 1) := by decide +kernel
theorem dX2_tallOn_18 : decode cX2_tallOn 18 = .ok (.aload_n 0, 1) := by decide +kernel
theorem dX2_tallOn_19 : decode cX2_tallOn 19 = .ok (.getfield 65, 3) := by decide +kernel
theorem dX2_tallOn_22 : decode cX2_tallOn 22 = .ok (.aload_n 0, 1) := by decide +kernel
theorem dX2_tallOn_23 : decode cX2_tallOn 23 = .ok (.getfield 62, 3) := by decide +kernel
theorem dX2_tallOn_26 : decode cX2_tallOn 26 = .ok (.invokevirtual 107, 3) := by decide +kernel
theorem dX2_tallOn_29 : decode cX2_tallOn 29 = .ok (.ireturn, 1) := by decide +kernel
theorem dX2_tallOn_30 : decode cX2_tallOn 30 = .ok (.iload_n 2, 1) := by decide +kernel
theorem dX2_tallOn_31 : decode cX2_tallOn 31 = .ok (.bipush 10, 2) := by decide +kernel
theorem dX2_tallOn_33 : decode cX2_tallOn 33 = .ok (.if_icmp .lt 26, 3) := by decide +kernel
theorem dX2_tallOn_36 : decode cX2_tallOn 36 = .ok (.aload_n 0, 1) := by decide +kernel
theorem dX2_tallOn_37 : decode cX2_tallOn 37 = .ok (.getfield 23, 3) := by decide +kernel
theorem dX2_tallOn_40 : decode cX2_tallOn 40 = .ok (.iload_n 2, 1) := by decide +kernel
theorem dX2_tallOn_41 : decode cX2_tallOn 41 = .ok (.bipush 10, 2) := by decide +kernel
theorem dX2_tallOn_43 : decode cX2_tallOn 43 = .ok (.isub, 1) := by decide +kernel
theorem dX2_tallOn_44 : decode cX2_tallOn 44 = .ok (.aaload, 1) := by decide +kernel
theorem dX2_tallOn_45 : decode cX2_tallOn 45 = .ok (.astore_n 3, 1) := by decide +kernel
theorem dX2_tallOn_46 : decode cX2_tallOn 46 = .ok (.aload_n 3, 1) := by decide +kernel
theorem dX2_tallOn_47 : decode cX2_tallOn 47 = .ok (.aload_n 3, 1) := by decide +kernel
theorem dX2_tallOn_48 : decode cX2_tallOn 48 = .ok (.getfield 96, 3) := by decide +kernel
theorem dX2_tallOn_51 : decode cX2_tallOn 51 = .ok (.aload_n 0, 1) := by decide +kernel
theorem dX2_tallOn_52 : decode cX2_tallOn 52 = .ok (.getfield 71, 3) := by decide +kernel
theorem dX2_tallOn_55 : decode cX2_tallOn 55 = .ok (.invokevirtual 110, 3) := by decide +kernel
theorem dX2_tallOn_58 : decode cX2_tallOn 58 = .ok (.ireturn, 1) := by decide +kernel
theorem dX2_tallOn_59 : decode cX2_tallOn 59 = .ok (.aload_n 0, 1) := by decide +kernel
theorem dX2_tallOn_60 : decode cX2_tallOn 60 = .ok (.getfield 15, 3) := by decide +kernel
theorem dX2_tallOn_63 : decode cX2_tallOn 63 = .ok (.iload_n 1, 1) := by decide +kernel
theorem dX2_tallOn_64 : decode cX2_tallOn 64 = .ok (.iaload, 1) := by decide +kernel
theorem dX2_tallOn_65 : decode cX2_tallOn 65 = .ok (.ireturn, 1) := by decide +kernel
theorem dX3_init_0 : decode cX3_init 0 = .ok (.aload_n 0, 1) := by decide +kernel
theorem dX3_init_1 : decode cX3_init 1 = .ok (.invokespecial 3, 3) := by decide +kernel
theorem dX3_init_4 : decode cX3_init 4 = .ok (.aload_n 0, 1) := by decide +kernel
theorem dX3_init_5 : decode cX3_init 5 = .ok (.bipush 8, 2) := by decide +kernel
theorem dX3_init_7 : decode cX3_init 7 = .ok (.newarray .int, 2) := by decide +kernel
theorem dX3_init_9 : decode cX3_init 9 = .ok (.putfield 9, 3) := by decide +kernel
theorem dX3_init_12 : decode cX3_init 12 = .ok (.aload_n 0, 1) := by decide +kernel
theorem dX3_init_13 : decode cX3_init 13 = .ok (.bipush 8, 2) := by decide +kernel
theorem dX3_init_15 : decode cX3_init 15 = .ok (.newarray .int, 2) := by decide +kernel
theorem dX3_init_17 : decode cX3_init 17 = .ok (.putfield 15, 3) := by decide +kernel
theorem dX3_init_20 : decode cX3_init 20 = .ok (.aload_n 0, 1) := by decide +kernel
theorem dX3_init_21 : decode cX3_init 21 = .ok (.bipush 8, 2) := by decide +kernel
theorem dX3_init_23 : decode cX3_init 23 = .ok (.newarray .int, 2) := by decide +kernel
theorem dX3_init_25 : decode cX3_init 25 = .ok (.putfield 18, 3) := by decide +kernel
theorem dX3_init_28 : decode cX3_init 28 = .ok (.aload_n 0, 1) := by decide +kernel
theorem dX3_init_29 : decode cX3_init 29 = .ok (.aload_n 1, 1) := by decide +kernel
theorem dX3_init_30 : decode cX3_init 30 = .ok (.putfield 21, 3) := by decide +kernel
theorem dX3_init_33 : decode cX3_init 33 = .ok (.aload_n 0, 1) := by decide +kernel
theorem dX3_init_34 : decode cX3_init 34 = .ok (.aload_n 2, 1) := by decide +kernel
theorem dX3_init_35 : decode cX3_init 35 = .ok (.putfield 25, 3) := by decide +kernel
theorem dX3_init_38 : decode cX3_init 38 = .ok (.return_, 1) := by decide +kernel
theorem dX3_isFull_0 : decode cX3_isFull 0 = .ok (.aload_n 0, 1) := by decide +kernel
theorem dX3_isFull_1 : decode cX3_isFull 1 = .ok (.getfield 29, 3) := by decide +kernel
theorem dX3_isFull_4 : decode cX3_isFull 4 = .ok (.bipush 8, 2) := by decide +kernel
theorem dX3_isFull_6 : decode cX3_isFull 6 = .ok (.if_icmp .lt 7, 3) := by decide +kernel
theorem dX3_isFull_9 : decode cX3_isFull 9 = .ok (.iconst 1, 1) := by decide +kernel
theorem dX3_isFull_10 : decode cX3_isFull 10 = .ok (.goto 4, 3) := by decide +kernel
theorem dX3_isFull_13 : decode cX3_isFull 13 = .ok (.iconst 0, 1) := by decide +kernel
theorem dX3_isFull_14 : decode cX3_isFull 14 = .ok (.ireturn, 1) := by decide +kernel
theorem dX3_keep_0 : decode cX3_keep 0 = .ok (.aload_n 0, 1) := by decide +kernel
theorem dX3_keep_1 : decode cX3_keep 1 = .ok (.getfield 9, 3) := by decide +kernel
theorem dX3_keep_4 : decode cX3_keep 4 = .ok (.aload_n 0, 1) := by decide +kernel
theorem dX3_keep_5 : decode cX3_keep 5 = .ok (.getfield 29, 3) := by decide +kernel
theorem dX3_keep_8 : decode cX3_keep 8 = .ok (.iload_n 1, 1) := by decide +kernel
theorem dX3_keep_9 : decode cX3_keep 9 = .ok (.iastore, 1) := by decide +kernel
theorem dX3_keep_10 : decode cX3_keep 10 = .ok (.aload_n 0, 1) := by decide +kernel
theorem dX3_keep_11 : decode cX3_keep 11 = .ok (.getfield 15, 3) := by decide +kernel
theorem dX3_keep_14 : decode cX3_keep 14 = .ok (.aload_n 0, 1) := by decide +kernel
theorem dX3_keep_15 : decode cX3_keep 15 = .ok (.getfield 29, 3) := by decide +kernel
theorem dX3_keep_18 : decode cX3_keep 18 = .ok (.iload_n 2, 1) := by decide +kernel
theorem dX3_keep_19 : decode cX3_keep 19 = .ok (.iastore, 1) := by decide +kernel
theorem dX3_keep_20 : decode cX3_keep 20 = .ok (.aload_n 0, 1) := by decide +kernel
theorem dX3_keep_21 : decode cX3_keep 21 = .ok (.getfield 18, 3) := by decide +kernel
theorem dX3_keep_24 : decode cX3_keep 24 = .ok (.aload_n 0, 1) := by decide +kernel
theorem dX3_keep_25 : decode cX3_keep 25 = .ok (.getfield 29, 3) := by decide +kernel
theorem dX3_keep_28 : decode cX3_keep 28 = .ok (.iload_n 3, 1) := by decide +kernel
theorem dX3_keep_29 : decode cX3_keep 29 = .ok (.iastore, 1) := by decide +kernel
theorem dX3_keep_30 : decode cX3_keep 30 = .ok (.aload_n 0, 1) := by decide +kernel
theorem dX3_keep_31 : decode cX3_keep 31 = .ok (.dup, 1) := by decide +kernel
theorem dX3_keep_32 : decode cX3_keep 32 = .ok (.getfield 29, 3) := by decide +kernel
theorem dX3_keep_35 : decode cX3_keep 35 = .ok (.dup_x1, 1) := by decide +kernel
theorem dX3_keep_36 : decode cX3_keep 36 = .ok (.iconst 1, 1) := by decide +kernel
theorem dX3_keep_37 : decode cX3_keep 37 = .ok (.iadd, 1) := by decide +kernel
theorem dX3_keep_38 : decode cX3_keep 38 = .ok (.putfield 29, 3) := by decide +kernel
theorem dX3_keep_41 : decode cX3_keep 41 = .ok (.ireturn, 1) := by decide +kernel
set_option maxRecDepth 20000 in
theorem ggX3_possibleFogs_X5_lookNow : GoodIn wsX3_possibleFogs wsX5_lookNow := goodIn_r _ [9, 10, 11, 12, 13, 14, 15, 16, 17, 18, 19, 20, 21, 22, 23, 24, 25, 26, 27, 28, 29, 30, 31, 32, 33, 34, 35, 36, 37, 38, 39, 40, 41, 42, 43, 44, 45, 46, 47, 48, 49, 50, 51, 102, 103, 104, 105, 106, 107, 108, 109, 110, 111, 112, 113, 114, 115, 116, 117, 118, 119, 120, 121, 122, 123, 124] (by decide +kernel) (by decide +kernel)
set_option maxRecDepth 20000 in
theorem gX3_possibleFogs_X5_lookNow : GoodIn wsX3_possibleFogs (wsV RX3 33 RX5 yX5_lookNow wsX5_lookNow) := goodIn_app (goodIn_of _ (by decide +kernel)) ggX3_possibleFogs_X5_lookNow
set_option maxRecDepth 20000 in
theorem ggX3_possibleFogs_X3_allAreSo : GoodIn wsX3_possibleFogs wsX3_allAreSo := goodIn_r _ [56, 57, 1, 58, 59, 60, 61, 62, 63, 8, 64, 10, 65, 66, 67, 14, 68, 69, 33, 34, 18, 35, 36, 37, 38, 39, 40, 70, 71, 72, 73, 74, 75, 76, 77, 78, 79, 80, 81, 82, 83, 84, 85, 86, 87, 88, 89, 90, 91, 92, 12, 93, 94, 95, 96, 97, 98, 99, 100, 101, 102, 103, 104, 105, 106, 107, 108, 109, 110, 111, 112, 113, 114, 115, 116, 117, 118, 123, 124, 119, 120, 121, 122] (by decide +kernel) (by decide +kernel)
set_option maxRecDepth 20000 in
theorem gX3_possibleFogs_X3_allAreSo : GoodIn wsX3_possibleFogs (wsV RX3 46 RX3 yX3_allAreSo wsX3_allAreSo) := goodIn_app (goodIn_of _ (by decide +kernel)) ggX3_possibleFogs_X3_allAreSo
theorem dX3_possibleFogs_0 : decode cX3_possibleFogs 0 = .ok (.aload_n 0, 1) := by decide +kernel
theorem dX3_possibleFogs_1 : decode cX3_possibleFogs 1 = .ok (.getfield 25, 3) := by decide +kernel
theorem dX3_possibleFogs_4 : decode cX3_possibleFogs 4 = .ok (.invokevirtual 33, 3) := by decide +kernel
theorem dX3_possibleFogs_7 : decode cX3_possibleFogs 7 = .ok (.iconst 0, 1) := by decide +kernel
theorem dX3_possibleFogs_8 : decode cX3_possibleFogs 8 = .ok (.istore_n 1, 1) := by decide +kernel
theorem dX3_possibleFogs_9 : decode cX3_possibleFogs 9 = .ok (.iconst 1, 1) := by decide +kernel
theorem dX3_possibleFogs_10 : decode cX3_possibleFogs 10 = .ok (.istore_n 2, 1) := by decide +kernel
theorem dX3_possibleFogs_11 : decode cX3_possibleFogs 11 = .ok (.iload_n 2, 1) := by decide +kernel
theorem dX3_possibleFogs_12 : decode cX3_possibleFogs 12 = .ok (.bipush 9, 2) := by decide +kernel
theorem dX3_possibleFogs_14 : decode cX3_possibleFogs 14 = .ok (.if_icmp .gt 37, 3) := by decide +kernel
theorem dX3_possibleFogs_17 : decode cX3_possibleFogs 17 = .ok (.aload_n 0, 1) := by decide +kernel
theorem dX3_possibleFogs_18 : decode cX3_possibleFogs 18 = .ok (.getfield 25, 3) := by decide +kernel
theorem dX3_possibleFogs_21 : decode cX3_possibleFogs 21 = .ok (.iload_n 2, 1) := by decide +kernel
theorem dX3_possibleFogs_22 : decode cX3_possibleFogs 22 = .ok (.putfield 38, 3) := by decide +kernel
theorem dX3_possibleFogs_25 : decode cX3_possibleFogs 25 = .ok (.aload_n 0, 1) := by decide +kernel
theorem dX3_possibleFogs_26 : decode cX3_possibleFogs 26 = .ok (.aload_n 0, 1) := by decide +kernel
theorem dX3_possibleFogs_27 : decode cX3_possibleFogs 27 = .ok (.getfield 21, 3) := by decide +kernel
theorem dX3_possibleFogs_30 : decode cX3_possibleFogs 30 = .ok (.getfield 41, 3) := by decide +kernel
theorem dX3_possibleFogs_33 : decode cX3_possibleFogs 33 = .ok (.invokevirtual 46, 3) := by decide +kernel
theorem dX3_possibleFogs_36 : decode cX3_possibleFogs 36 = .ok (.ifCond .eq 9, 3) := by decide +kernel
theorem dX3_possibleFogs_39 : decode cX3_possibleFogs 39 = .ok (.iload_n 1, 1) := by decide +kernel
theorem dX3_possibleFogs_40 : decode cX3_possibleFogs 40 = .ok (.iconst 1, 1) := by decide +kernel
theorem dX3_possibleFogs_41 : decode cX3_possibleFogs 41 = .ok (.iload_n 2, 1) := by decide +kernel
theorem dX3_possibleFogs_42 : decode cX3_possibleFogs 42 = .ok (.ishl, 1) := by decide +kernel
theorem dX3_possibleFogs_43 : decode cX3_possibleFogs 43 = .ok (.ior, 1) := by decide +kernel
theorem dX3_possibleFogs_44 : decode cX3_possibleFogs 44 = .ok (.istore_n 1, 1) := by decide +kernel
theorem dX3_possibleFogs_45 : decode cX3_possibleFogs 45 = .ok (.iinc 2 1, 3) := by decide +kernel
theorem dX3_possibleFogs_48 : decode cX3_possibleFogs 48 = .ok (.goto (-37), 3) := by decide +kernel
theorem dX3_possibleFogs_51 : decode cX3_possibleFogs 51 = .ok (.iload_n 1, 1) := by decide +kernel
theorem dX3_possibleFogs_52 : decode cX3_possibleFogs 52 = .ok (.ireturn, 1) := by decide +kernel
set_option maxRecDepth 20000 in
theorem ggX3_howManyStood_X5_lookNow : GoodIn wsX3_howManyStood wsX5_lookNow := goodIn_r _ [8, 9, 10, 11, 12, 13, 14, 15, 16, 17, 18, 19, 20, 21, 22, 23, 24, 25, 26, 27, 28, 29, 30, 31, 32, 33, 34, 35, 36, 37, 38, 39, 40, 41, 42, 43, 44, 45, 46, 47, 48, 49, 50, 114, 115, 116, 117, 101, 102, 103, 104, 105, 106, 107, 108, 109, 110, 111, 112, 113, 118, 119, 120, 121, 122, 123] (by decide +kernel) (by decide +kernel)
set_option maxRecDepth 20000 in
theorem gX3_howManyStood_X5_lookNow : GoodIn wsX3_howManyStood (wsV RX3 33 RX5 yX5_lookNow wsX5_lookNow) := goodIn_app (goodIn_of _ (by decide +kernel)) ggX3_howManyStood_X5_lookNow
set_option maxRecDepth 20000 in
theorem ggX3_howManyStood_X3_allAreSo : GoodIn wsX3_howManyStood wsX3_allAreSo := goodIn_r _ [55, 56, 1, 57, 58, 59, 60, 61, 62, 7, 63, 9, 64, 65, 66, 13, 67, 68, 32, 33, 17, 34, 35, 36, 37, 38, 39, 69, 70, 71, 72, 73, 74, 75, 76, 77, 78, 79, 80, 81, 82, 83, 84, 85, 86, 87, 88, 89, 90, 91, 11, 92, 93, 94, 95, 96, 97, 98, 99, 100, 114, 115, 116, 117, 101, 102, 103, 104, 105, 106, 107, 108, 109, 110, 111, 112, 113, 122, 123, 118, 119, 120, 121] (by decide +kernel) (by decide +kernel)
set_option maxRecDepth 20000 in
theorem gX3_howManyStood_X3_allAreSo : GoodIn wsX3_howManyStood (wsV RX3 46 RX3 yX3_allAreSo wsX3_allAreSo) := goodIn_app (goodIn_of _ (by decide +kernel)) ggX3_howManyStood_X3_allAreSo
theorem dX3_howManyStood_0 : decode cX3_howManyStood 0 = .ok (.aload_n 0, 1) := by decide +kernel
theorem dX3_howManyStood_1 : decode cX3_howManyStood 1 = .ok (.getfield 25, 3) := by decide +kernel
theorem dX3_howManyStood_4 : decode cX3_howManyStood 4 = .ok (.invokevirtual 33, 3) := by decide +kernel
theorem dX3_howManyStood_7 : decode cX3_howManyStood 7 = .ok (.iconst 1, 1) := by decide +kernel
theorem dX3_howManyStood_8 : decode cX3_howManyStood 8 = .ok (.aload_n 0, 1) := by decide +kernel
theorem dX3_howManyStood_9 : decode cX3_howManyStood 9 = .ok (.getfield 21, 3) := by decide +kernel
theorem dX3_howManyStood_12 : decode cX3_howManyStood 12 = .ok (.getfield 50, 3) := by decide +kernel
theorem dX3_howManyStood_15 : decode cX3_howManyStood 15 = .ok (.ishl, 1) := by decide +kernel
theorem dX3_howManyStood_16 : decode cX3_howManyStood 16 = .ok (.istore_n 1, 1) := by decide +kernel
theorem dX3_howManyStood_17 : decode cX3_howManyStood 17 = .ok (.iconst 0, 1) := by decide +kernel
theorem dX3_howManyStood_18 : decode cX3_howManyStood 18 = .ok (.istore_n 2, 1) := by decide +kernel
theorem dX3_howManyStood_19 : decode cX3_howManyStood 19 = .ok (.iconst 0, 1) := by decide +kernel
theorem dX3_howManyStood_20 : decode cX3_howManyStood 20 = .ok (.istore_n 3, 1) := by decide +kernel
theorem dX3_howManyStood_21 : decode cX3_howManyStood 21 = .ok (.iload_n 3, 1) := by decide +kernel
theorem dX3_howManyStood_22 : decode cX3_howManyStood 22 = .ok (.iload_n 1, 1) := by decide +kernel
theorem dX3_howManyStood_23 : decode cX3_howManyStood 23 = .ok (.if_icmp .ge 24, 3) := by decide +kernel
theorem dX3_howManyStood_26 : decode cX3_howManyStood 26 = .ok (.aload_n 0, 1) := by decide +kernel
theorem dX3_howManyStood_27 : decode cX3_howManyStood 27 = .ok (.iload_n 1, 1) := by decide +kernel
theorem dX3_howManyStood_28 : decode cX3_howManyStood 28 = .ok (.iconst 1, 1) := by decide +kernel
theorem dX3_howManyStood_29 : decode cX3_howManyStood 29 = .ok (.isub, 1) := by decide +kernel
theorem dX3_howManyStood_30 : decode cX3_howManyStood 30 = .ok (.iload_n 3, 1) := by decide +kernel
theorem dX3_howManyStood_31 : decode cX3_howManyStood 31 = .ok (.isub, 1) := by decide +kernel
theorem dX3_howManyStood_32 : decode cX3_howManyStood 32 = .ok (.invokevirtual 46, 3) := by decide +kernel
theorem dX3_howManyStood_35 : decode cX3_howManyStood 35 = .ok (.ifCond .eq 6, 3) := by decide +kernel
theorem dX3_howManyStood_38 : decode cX3_howManyStood 38 = .ok (.iinc 2 1, 3) := by decide +kernel
theorem dX3_howManyStood_41 : decode cX3_howManyStood 41 = .ok (.iinc 3 1, 3) := by decide +kernel
theorem dX3_howManyStood_44 : decode cX3_howManyStood 44 = .ok (.goto (-23), 3) := by decide +kernel
theorem dX3_howManyStood_47 : decode cX3_howManyStood 47 = .ok (.iload_n 2, 1) := by decide +kernel
theorem dX3_howManyStood_48 : decode cX3_howManyStood 48 = .ok (.ireturn, 1) := by decide +kernel
set_option maxRecDepth 20000 in
theorem ggX3_firstThatStood_X5_lookNow : GoodIn wsX3_firstThatStood wsX5_lookNow := goodIn_r _ [8, 9, 10, 11, 12, 13, 14, 15, 16, 17, 18, 19, 20, 21, 22, 23, 24, 25, 26, 27, 28, 29, 30, 31, 32, 33, 34, 35, 36, 37, 38, 39, 40, 41, 42, 43, 44, 45, 46, 47, 48, 49, 50, 114, 115, 116, 117, 101, 102, 103, 104, 105, 106, 107, 108, 109, 110, 111, 112, 113, 118, 119, 120, 121, 122, 123] (by decide +kernel) (by decide +kernel)
set_option maxRecDepth 20000 in
theorem gX3_firstThatStood_X5_lookNow : GoodIn wsX3_firstThatStood (wsV RX3 33 RX5 yX5_lookNow wsX5_lookNow) := goodIn_app (goodIn_of _ (by decide +kernel)) ggX3_firstThatStood_X5_lookNow
set_option maxRecDepth 20000 in
theorem ggX3_firstThatStood_X3_allAreSo : GoodIn wsX3_firstThatStood wsX3_allAreSo := goodIn_r _ [55, 56, 1, 57, 58, 59, 60, 61, 62, 7, 63, 9, 64, 65, 66, 13, 67, 68, 32, 33, 17, 34, 35, 36, 37, 38, 39, 69, 70, 71, 72, 73, 74, 75, 76, 77, 78, 79, 80, 81, 82, 83, 84, 85, 86, 87, 88, 89, 90, 91, 11, 92, 93, 94, 95, 96, 97, 98, 99, 100, 114, 115, 116, 117, 101, 102, 103, 104, 105, 106, 107, 108, 109, 110, 111, 112, 113, 122, 123, 118, 119, 120, 121] (by decide +kernel) (by decide +kernel)
set_option maxRecDepth 20000 in
theorem gX3_firstThatStood_X3_allAreSo : GoodIn wsX3_firstThatStood (wsV RX3 46 RX3 yX3_allAreSo wsX3_allAreSo) := goodIn_app (goodIn_of _ (by decide +kernel)) ggX3_firstThatStood_X3_allAreSo
theorem dX3_firstThatStood_0 : decode cX3_firstThatStood 0 = .ok (.aload_n 0, 1) := by decide +kernel
theorem dX3_firstThatStood_1 : decode cX3_firstThatStood 1 = .ok (.getfield 25, 3) := by decide +kernel
theorem dX3_firstThatStood_4 : decode cX3_firstThatStood 4 = .ok (.invokevirtual 33, 3) := by decide +kernel
theorem dX3_firstThatStood_7 : decode cX3_firstThatStood 7 = .ok (.iconst 1, 1) := by decide +kernel
theorem dX3_firstThatStood_8 : decode cX3_firstThatStood 8 = .ok (.aload_n 0, 1) := by decide +kernel
theorem dX3_firstThatStood_9 : decode cX3_firstThatStood 9 = .ok (.getfield 21, 3) := by decide +kernel
theorem dX3_firstThatStood_12 : decode cX3_firstThatStood 12 = .ok (.getfield 50, 3) := by decide +kernel
theorem dX3_firstThatStood_15 : decode cX3_firstThatStood 15 = .ok (.ishl, 1) := by decide +kernel
theorem dX3_firstThatStood_16 : decode cX3_firstThatStood 16 = .ok (.istore_n 1, 1) := by decide +kernel
theorem dX3_firstThatStood_17 : decode cX3_firstThatStood 17 = .ok (.iconst 0, 1) := by decide +kernel
theorem dX3_firstThatStood_18 : decode cX3_firstThatStood 18 = .ok (.istore_n 2, 1) := by decide +kernel
theorem dX3_firstThatStood_19 : decode cX3_firstThatStood 19 = .ok (.iload_n 2, 1) := by decide +kernel
theorem dX3_firstThatStood_20 : decode cX3_firstThatStood 20 = .ok (.iload_n 1, 1) := by decide +kernel
theorem dX3_firstThatStood_21 : decode cX3_firstThatStood 21 = .ok (.if_icmp .ge 23, 3) := by decide +kernel
theorem dX3_firstThatStood_24 : decode cX3_firstThatStood 24 = .ok (.aload_n 0, 1) := by decide +kernel
theorem dX3_firstThatStood_25 : decode cX3_firstThatStood 25 = .ok (.iload_n 1, 1) := by decide +kernel
theorem dX3_firstThatStood_26 : decode cX3_firstThatStood 26 = .ok (.iconst 1, 1) := by decide +kernel
theorem dX3_firstThatStood_27 : decode cX3_firstThatStood 27 = .ok (.isub, 1) := by decide +kernel
theorem dX3_firstThatStood_28 : decode cX3_firstThatStood 28 = .ok (.iload_n 2, 1) := by decide +kernel
theorem dX3_firstThatStood_29 : decode cX3_firstThatStood 29 = .ok (.isub, 1) := by decide +kernel
theorem dX3_firstThatStood_30 : decode cX3_firstThatStood 30 = .ok (.invokevirtual 46, 3) := by decide +kernel
theorem dX3_firstThatStood_33 : decode cX3_firstThatStood 33 = .ok (.ifCond .eq 5, 3) := by decide +kernel
theorem dX3_firstThatStood_36 : decode cX3_firstThatStood 36 = .ok (.iload_n 2, 1) := by decide +kernel
theorem dX3_firstThatStood_37 : decode cX3_firstThatStood 37 = .ok (.ireturn, 1) := by decide +kernel
theorem dX3_firstThatStood_38 : decode cX3_firstThatStood 38 = .ok (.iinc 2 1, 3) := by decide +kernel
theorem dX3_firstThatStood_41 : decode cX3_firstThatStood 41 = .ok (.goto (-22), 3) := by decide +kernel
theorem dX3_firstThatStood_44 : decode cX3_firstThatStood 44 = .ok (.bipush (-9), 2) := by decide +kernel
theorem dX3_firstThatStood_46 : decode cX3_firstThatStood 46 = .ok (.ireturn, 1) := by decide +kernel
set_option maxRecDepth 20000 in
theorem ggX3_allAreSo_X5_lookWithTrees : GoodIn wsX3_allAreSo wsX5_lookWithTrees := goodIn_r _ [10, 11, 12, 13, 14, 15, 16, 17, 18, 19, 20, 21, 22, 23, 24, 25, 26, 60, 61, 62, 63, 64, 65, 66, 67, 68, 69, 70, 71, 72, 73, 74, 75, 76, 77, 78] (by decide +kernel) (by decide +kernel)
set_option maxRecDepth 20000 in
theorem gX3_allAreSo_X5_lookWithTrees : GoodIn wsX3_allAreSo (wsV RX3 53 RX5 yX5_lookWithTrees wsX5_lookWithTrees) := goodIn_app (goodIn_of _ (by decide +kernel)) ggX3_allAreSo_X5_lookWithTrees
set_option maxRecDepth 20000 in
theorem ggX3_allAreSo_X5_numberOf : GoodIn wsX3_allAreSo wsX5_numberOf := goodIn_r _ [30, 11, 31, 32, 33, 34, 35, 9, 36, 37, 38, 39, 40, 41, 42, 43, 44, 45, 46, 47, 48, 49, 50, 15, 51, 25, 52, 53, 60, 61, 62, 63, 64, 65, 66, 67, 68, 69, 70, 71, 72, 73, 74, 75, 76, 79, 80, 81, 82] (by decide +kernel) (by decide +kernel)
set_option maxRecDepth 20000 in
theorem gX3_allAreSo_X5_numberOf : GoodIn wsX3_allAreSo (wsV RX3 57 RX5 yX5_numberOf wsX5_numberOf) := goodIn_app (goodIn_of _ (by decide +kernel)) ggX3_allAreSo_X5_numberOf
theorem dX3_allAreSo_0 : decode cX3_allAreSo 0 = .ok (.iconst 0, 1) := by decide +kernel
theorem dX3_allAreSo_1 : decode cX3_allAreSo 1 = .ok (.istore_n 2, 1) := by decide +kernel
theorem dX3_allAreSo_2 : decode cX3_allAreSo 2 = .ok (.iload_n 2, 1) := by decide +kernel
theorem dX3_allAreSo_3 : decode cX3_allAreSo 3 = .ok (.aload_n 0, 1) := by decide +kernel
theorem dX3_allAreSo_4 : decode cX3_allAreSo 4 = .ok (.getfield 29, 3) := by decide +kernel
theorem dX3_allAreSo_7 : decode cX3_allAreSo 7 = .ok (.if_icmp .ge 47, 3) := by decide +kernel
theorem dX3_allAreSo_10 : decode cX3_allAreSo 10 = .ok (.aload_n 0, 1) := by decide +kernel
theorem dX3_allAreSo_11 : decode cX3_allAreSo 11 = .ok (.getfield 25, 3) := by decide +kernel
theorem dX3_allAreSo_14 : decode cX3_allAreSo 14 = .ok (.aload_n 0, 1) := by decide +kernel
theorem dX3_allAreSo_15 : decode cX3_allAreSo 15 = .ok (.getfield 15, 3) := by decide +kernel
theorem dX3_allAreSo_18 : decode cX3_allAreSo 18 = .ok (.iload_n 2, 1) := by decide +kernel
theorem dX3_allAreSo_19 : decode cX3_allAreSo 19 = .ok (.iaload, 1) := by decide +kernel
theorem dX3_allAreSo_20 : decode cX3_allAreSo 20 = .ok (.iload_n 1, 1) := by decide +kernel
theorem dX3_allAreSo_21 : decode cX3_allAreSo 21 = .ok (.invokevirtual 53, 3) := by decide +kernel
theorem dX3_allAreSo_24 : decode cX3_allAreSo 24 = .ok (.aload_n 0, 1) := by decide +kernel
theorem dX3_allAreSo_25 : decode cX3_allAreSo 25 = .ok (.getfield 25, 3) := by decide +kernel
theorem dX3_allAreSo_28 : decode cX3_allAreSo 28 = .ok (.aload_n 0, 1) := by decide +kernel
theorem dX3_allAreSo_29 : decode cX3_allAreSo 29 = .ok (.getfield 9, 3) := by decide +kernel
theorem dX3_allAreSo_32 : decode cX3_allAreSo 32 = .ok (.iload_n 2, 1) := by decide +kernel
theorem dX3_allAreSo_33 : decode cX3_allAreSo 33 = .ok (.iaload, 1) := by decide +kernel
theorem dX3_allAreSo_34 : decode cX3_allAreSo 34 = .ok (.invokevirtual 57, 3) := by decide +kernel
theorem dX3_allAreSo_37 : decode cX3_allAreSo 37 = .ok (.aload_n 0, 1) := by decide +kernel
theorem dX3_allAreSo_38 : decode cX3_allAreSo 38 = .ok (.getfield 18, 3) := by decide +kernel
theorem dX3_allAreSo_41 : decode cX3_allAreSo 41 = .ok (.iload_n 2, 1) := by decide +kernel
theorem dX3_allAreSo_42 : decode cX3_allAreSo 42 = .ok (.iaload, 1) := by decide +kernel
theorem dX3_allAreSo_43 : decode cX3_allAreSo 43 = .ok (.if_icmp .eq 5, 3) := by decide +kernel
theorem dX3_allAreSo_46 : decode cX3_allAreSo 46 = .ok (.iconst 0, 1) := by decide +kernel
theorem dX3_allAreSo_47 : decode cX3_allAreSo 47 = .ok (.ireturn, 1) := by decide +kernel
theorem dX3_allAreSo_48 : decode cX3_allAreSo 48 = .ok (.iinc 2 1, 3) := by decide +kernel
theorem dX3_allAreSo_51 : decode cX3_allAreSo 51 = .ok (.goto (-49), 3) := by decide +kernel
theorem dX3_allAreSo_54 : decode cX3_allAreSo 54 = .ok (.iconst 1, 1) := by decide +kernel
theorem dX3_allAreSo_55 : decode cX3_allAreSo 55 = .ok (.ireturn, 1) := by decide +kernel
theorem dX4_init_0 : decode cX4_init 0 = .ok (.aload_n 0, 1) := by decide +kernel
theorem dX4_init_1 : decode cX4_init 1 = .ok (.invokespecial 3, 3) := by decide +kernel
theorem dX4_init_4 : decode cX4_init 4 = .ok (.aload_n 0, 1) := by decide +kernel
theorem dX4_init_5 : decode cX4_init 5 = .ok (.bipush 100, 2) := by decide +kernel
theorem dX4_init_7 : decode cX4_init 7 = .ok (.newarray .int, 2) := by decide +kernel
theorem dX4_init_9 : decode cX4_init 9 = .ok (.putfield 9, 3) := by decide +kernel
theorem dX4_init_12 : decode cX4_init 12 = .ok (.aload_n 0, 1) := by decide +kernel
theorem dX4_init_13 : decode cX4_init 13 = .ok (.iconst (-1), 1) := by decide +kernel
theorem dX4_init_14 : decode cX4_init 14 = .ok (.putfield 15, 3) := by decide +kernel
theorem dX4_init_17 : decode cX4_init 17 = .ok (.return_, 1) := by decide +kernel
theorem dX4_hasRow_0 : decode cX4_hasRow 0 = .ok (.aload_n 0, 1) := by decide +kernel
theorem dX4_hasRow_1 : decode cX4_hasRow 1 = .ok (.getfield 15, 3) := by decide +kernel
theorem dX4_hasRow_4 : decode cX4_hasRow 4 = .ok (.iconst (-1), 1) := by decide +kernel
theorem dX4_hasRow_5 : decode cX4_hasRow 5 = .ok (.if_icmp .eq 7, 3) := by decide +kernel
theorem dX4_hasRow_8 : decode cX4_hasRow 8 = .ok (.iconst 1, 1) := by decide +kernel
theorem dX4_hasRow_9 : decode cX4_hasRow 9 = .ok (.goto 4, 3) := by decide +kernel
theorem dX4_hasRow_12 : decode cX4_hasRow 12 = .ok (.iconst 0, 1) := by decide +kernel
theorem dX4_hasRow_13 : decode cX4_hasRow 13 = .ok (.ireturn, 1) := by decide +kernel
theorem dX4_makeRow_0 : decode cX4_makeRow 0 = .ok (.aload_n 0, 1) := by decide +kernel
theorem dX4_makeRow_1 : decode cX4_makeRow 1 = .ok (.iload_n 1, 1) := by decide +kernel
theorem dX4_makeRow_2 : decode cX4_makeRow 2 = .ok (.putfield 19, 3) := by decide +kernel
theorem dX4_makeRow_5 : decode cX4_makeRow 5 = .ok (.aload_n 0, 1) := by decide +kernel
theorem dX4_makeRow_6 : decode cX4_makeRow 6 = .ok (.iload_n 2, 1) := by decide +kernel
theorem dX4_makeRow_7 : decode cX4_makeRow 7 = .ok (.putfield 15, 3) := by decide +kernel
theorem dX4_makeRow_10 : decode cX4_makeRow 10 = .ok (.iconst 0, 1) := by decide +kernel
theorem dX4_makeRow_11 : decode cX4_makeRow 11 = .ok (.istore_n 3, 1) := by decide +kernel
theorem dX4_makeRow_12 : decode cX4_makeRow 12 = .ok (.iload_n 3, 1) := by decide +kernel
theorem dX4_makeRow_13 : decode cX4_makeRow 13 = .ok (.iload_n 2, 1) := by decide +kernel
theorem dX4_makeRow_14 : decode cX4_makeRow 14 = .ok (.if_icmp .ge 16, 3) := by decide +kernel
theorem dX4_makeRow_17 : decode cX4_makeRow 17 = .ok (.aload_n 0, 1) := by decide +kernel
theorem dX4_makeRow_18 : decode cX4_makeRow 18 = .ok (.getfield 9, 3) := by decide +kernel
theorem dX4_makeRow_21 : decode cX4_makeRow 21 = .ok (.iload_n 3, 1) := by decide +kernel
theorem dX4_makeRow_22 : decode cX4_makeRow 22 = .ok (.iconst 0, 1) := by decide +kernel
theorem dX4_makeRow_23 : decode cX4_makeRow 23 = .ok (.iastore, 1) := by decide +kernel
theorem dX4_makeRow_24 : decode cX4_makeRow 24 = .ok (.iinc 3 1, 3) := by decide +kernel
theorem dX4_makeRow_27 : decode cX4_makeRow 27 = .ok (.goto (-15), 3) := by decide +kernel
theorem dX4_makeRow_30 : decode cX4_makeRow 30 = .ok (.return_, 1) := by decide +kernel
theorem dX4_dropRow_0 : decode cX4_dropRow 0 = .ok (.aload_n 0, 1) := by decide +kernel
theorem dX4_dropRow_1 : decode cX4_dropRow 1 = .ok (.iconst (-1), 1) := by decide +kernel
theorem dX4_dropRow_2 : decode cX4_dropRow 2 = .ok (.putfield 15, 3) := by decide +kernel
theorem dX4_dropRow_5 : decode cX4_dropRow 5 = .ok (.return_, 1) := by decide +kernel
set_option maxRecDepth 20000 in
theorem ggX4_faultAs_X4_hasRow : GoodIn wsX4_faultAs wsX4_hasRow := goodIn_r _ [6, 7, 8, 9, 10] (by decide +kernel) (by decide +kernel)
set_option maxRecDepth 20000 in
theorem gX4_faultAs_X4_hasRow : GoodIn wsX4_faultAs (wsV RX4 22 RX4 yX4_hasRow wsX4_hasRow) := goodIn_app (goodIn_of _ (by decide +kernel)) ggX4_faultAs_X4_hasRow
theorem dX4_faultAs_0 : decode cX4_faultAs 0 = .ok (.aload_n 0, 1) := by decide +kernel
theorem dX4_faultAs_1 : decode cX4_faultAs 1 = .ok (.invokevirtual 22, 3) := by decide +kernel
theorem dX4_faultAs_4 : decode cX4_faultAs 4 = .ok (.ifCond .ne 5, 3) := by decide +kernel
theorem dX4_faultAs_7 : decode cX4_faultAs 7 = .ok (.iconst 1, 1) := by decide +kernel
theorem dX4_faultAs_8 : decode cX4_faultAs 8 = .ok (.ireturn, 1) := by decide +kernel
theorem dX4_faultAs_9 : decode cX4_faultAs 9 = .ok (.aload_n 0, 1) := by decide +kernel
theorem dX4_faultAs_10 : decode cX4_faultAs 10 = .ok (.getfield 19, 3) := by decide +kernel
theorem dX4_faultAs_13 : decode cX4_faultAs 13 = .ok (.iload_n 1, 1) := by decide +kernel
theorem dX4_faultAs_14 : decode cX4_faultAs 14 = .ok (.if_icmp .ne 7, 3) := by decide +kernel
theorem dX4_faultAs_17 : decode cX4_faultAs 17 = .ok (.iconst 0, 1) := by decide +kernel
theorem dX4_faultAs_18 : decode cX4_faultAs 18 = .ok (.goto 4, 3) := by decide +kernel
theorem dX4_faultAs_21 : decode cX4_faultAs 21 = .ok (.iconst 2, 1) := by decide +kernel
theorem dX4_faultAs_22 : decode cX4_faultAs 22 = .ok (.ireturn, 1) := by decide +kernel
theorem dX4_holds_0 : decode cX4_holds 0 = .ok (.iconst 0, 1) := by decide +kernel
theorem dX4_holds_1 : decode cX4_holds 1 = .ok (.iload_n 1, 1) := by decide +kernel
theorem dX4_holds_2 : decode cX4_holds 2 = .ok (.if_icmp .gt 15, 3) := by decide +kernel
theorem dX4_holds_5 : decode cX4_holds 5 = .ok (.iload_n 1, 1) := by decide +kernel
theorem dX4_holds_6 : decode cX4_holds 6 = .ok (.aload_n 0, 1) := by decide +kernel
theorem dX4_holds_7 : decode cX4_holds 7 = .ok (.getfield 15, 3) := by decide +kernel
theorem dX4_holds_10 : decode cX4_holds 10 = .ok (.if_icmp .ge 7, 3) := by decide +kernel
theorem dX4_holds_13 : decode cX4_holds 13 = .ok (.iconst 1, 1) := by decide +kernel
theorem dX4_holds_14 : decode cX4_holds 14 = .ok (.goto 4, 3) := by decide +kernel
theorem dX4_holds_17 : decode cX4_holds 17 = .ok (.iconst 0, 1) := by decide +kernel
theorem dX4_holds_18 : decode cX4_holds 18 = .ok (.ireturn, 1) := by decide +kernel
theorem dX4_holdsRun_0 : decode cX4_holdsRun 0 = .ok (.iload_n 1, 1) := by decide +kernel
theorem dX4_holdsRun_1 : decode cX4_holdsRun 1 = .ok (.ifCond .lt 21, 3) := by decide +kernel
theorem dX4_holdsRun_4 : decode cX4_holdsRun 4 = .ok (.iload_n 2, 1) := by decide +kernel
theorem dX4_holdsRun_5 : decode cX4_holdsRun 5 = .ok (.ifCond .lt 17, 3) := by decide +kernel
theorem dX4_holdsRun_8 : decode cX4_holdsRun 8 = .ok (.iload_n 2, 1) := by decide +kernel
theorem dX4_holdsRun_9 : decode cX4_holdsRun 9 = .ok (.aload_n 0, 1) := by decide +kernel
theorem dX4_holdsRun_10 : decode cX4_holdsRun 10 = .ok (.getfield 15, 3) := by decide +kernel
theorem dX4_holdsRun_13 : decode cX4_holdsRun 13 = .ok (.iload_n 1, 1) := by decide +kernel
theorem dX4_holdsRun_14 : decode cX4_holdsRun 14 = .ok (.isub, 1) := by decide +kernel
theorem dX4_holdsRun_15 : decode cX4_holdsRun 15 = .ok (.if_icmp .gt 7, 3) := by decide +kernel
theorem dX4_holdsRun_18 : decode cX4_holdsRun 18 = .ok (.iconst 1, 1) := by decide +kernel
theorem dX4_holdsRun_19 : decode cX4_holdsRun 19 = .ok (.goto 4, 3) := by decide +kernel
theorem dX4_holdsRun_22 : decode cX4_holdsRun 22 = .ok (.iconst 0, 1) := by decide +kernel
theorem dX4_holdsRun_23 : decode cX4_holdsRun 23 = .ok (.ireturn, 1) := by decide +kernel
theorem dX4_write_0 : decode cX4_write 0 = .ok (.aload_n 0, 1) := by decide +kernel
theorem dX4_write_1 : decode cX4_write 1 = .ok (.getfield 19, 3) := by decide +kernel
theorem dX4_write_4 : decode cX4_write 4 = .ok (.lookupswitch 50 #[(0, 28), (1, 39)], 28) := by decide +kernel
theorem dX4_write_32 : decode cX4_write 32 = .ok (.aload_n 0, 1) := by decide +kernel
theorem dX4_write_33 : decode cX4_write 33 = .ok (.getfield 9, 3) := by decide +kernel
theorem dX4_write_36 : decode cX4_write 36 = .ok (.iload_n 1, 1) := by decide +kernel
theorem dX4_write_37 : decode cX4_write 37 = .ok (.iload_n 2, 1) := by decide +kernel
theorem dX4_write_38 : decode cX4_write 38 = .ok (.i2b, 1) := by decide +kernel
theorem dX4_write_39 : decode cX4_write 39 = .ok (.iastore, 1) := by decide +kernel
theorem dX4_write_40 : decode cX4_write 40 = .ok (.goto 21, 3) := by decide +kernel
theorem dX4_write_43 : decode cX4_write 43 = .ok (.aload_n 0, 1) := by decide +kernel
theorem dX4_write_44 : decode cX4_write 44 = .ok (.getfield 9, 3) := by decide +kernel
theorem dX4_write_47 : decode cX4_write 47 = .ok (.iload_n 1, 1) := by decide +kernel
theorem dX4_write_48 : decode cX4_write 48 = .ok (.iload_n 2, 1) := by decide +kernel
theorem dX4_write_49 : decode cX4_write 49 = .ok (.i2s, 1) := by decide +kernel
theorem dX4_write_50 : decode cX4_write 50 = .ok (.iastore, 1) := by decide +kernel
theorem dX4_write_51 : decode cX4_write 51 = .ok (.goto 10, 3) := by decide +kernel
theorem dX4_write_54 : decode cX4_write 54 = .ok (.aload_n 0, 1) := by decide +kernel
theorem dX4_write_55 : decode cX4_write 55 = .ok (.getfield 9, 3) := by decide +kernel
theorem dX4_write_58 : decode cX4_write 58 = .ok (.iload_n 1, 1) := by decide +kernel
theorem dX4_write_59 : decode cX4_write 59 = .ok (.iload_n 2, 1) := by decide +kernel
theorem dX4_write_60 : decode cX4_write 60 = .ok (.iastore, 1) := by decide +kernel
theorem dX4_write_61 : decode cX4_write 61 = .ok (.return_, 1) := by decide +kernel
theorem dX5_init_0 : decode cX5_init 0 = .ok (.aload_n 0, 1) := by decide +kernel
theorem dX5_init_1 : decode cX5_init 1 = .ok (.invokespecial 3, 3) := by decide +kernel
theorem dX5_init_4 : decode cX5_init 4 = .ok (.aload_n 0, 1) := by decide +kernel
theorem dX5_init_5 : decode cX5_init 5 = .ok (.bipush 30, 2) := by decide +kernel
theorem dX5_init_7 : decode cX5_init 7 = .ok (.newarray .int, 2) := by decide +kernel
theorem dX5_init_9 : decode cX5_init 9 = .ok (.putfield 9, 3) := by decide +kernel
theorem dX5_init_12 : decode cX5_init 12 = .ok (.aload_n 0, 1) := by decide +kernel
theorem dX5_init_13 : decode cX5_init 13 = .ok (.bipush 8, 2) := by decide +kernel
theorem dX5_init_15 : decode cX5_init 15 = .ok (.newarray .int, 2) := by decide +kernel
theorem dX5_init_17 : decode cX5_init 17 = .ok (.putfield 15, 3) := by decide +kernel
theorem dX5_init_20 : decode cX5_init 20 = .ok (.aload_n 0, 1) := by decide +kernel
theorem dX5_init_21 : decode cX5_init 21 = .ok (.aload_n 1, 1) := by decide +kernel
theorem dX5_init_22 : decode cX5_init 22 = .ok (.putfield 18, 3) := by decide +kernel
theorem dX5_init_25 : decode cX5_init 25 = .ok (.return_, 1) := by decide +kernel
set_option maxRecDepth 20000 in
theorem ggX5_lookNow_X2_topOf : GoodIn wsX5_lookNow wsX2_topOf := goodIn_r _ [10, 11, 12, 13, 14, 9, 15, 16, 17, 18, 19, 20, 21, 22, 23, 24, 25, 26, 27, 28, 29, 30, 31, 32, 33, 34, 35, 36, 37, 38, 39, 40, 41, 42, 47, 48, 49, 50, 51, 52, 53, 54, 55, 56, 57, 58, 59, 60, 61, 62, 63, 64, 65] (by decide +kernel) (by decide +kernel)
set_option maxRecDepth 20000 in
theorem gX5_lookNow_X2_topOf : GoodIn wsX5_lookNow (wsV RX5 32 RX2 yX2_topOf wsX2_topOf) := goodIn_app (goodIn_of _ (by decide +kernel)) ggX5_lookNow_X2_topOf
theorem dX5_lookNow_0 : decode cX5_lookNow 0 = .ok (.aload_n 0, 1) := by decide +kernel
theorem dX5_lookNow_1 : decode cX5_lookNow 1 = .ok (.aload_n 0, 1) := by decide +kernel
theorem dX5_lookNow_2 : decode cX5_lookNow 2 = .ok (.getfield 18, 3) := by decide +kernel
theorem dX5_lookNow_5 : decode cX5_lookNow 5 = .ok (.getfield 22, 3) := by decide +kernel
theorem dX5_lookNow_8 : decode cX5_lookNow 8 = .ok (.putfield 28, 3) := by decide +kernel
theorem dX5_lookNow_11 : decode cX5_lookNow 11 = .ok (.iconst 0, 1) := by decide +kernel
theorem dX5_lookNow_12 : decode cX5_lookNow 12 = .ok (.istore_n 1, 1) := by decide +kernel
theorem dX5_lookNow_13 : decode cX5_lookNow 13 = .ok (.iload_n 1, 1) := by decide +kernel
theorem dX5_lookNow_14 : decode cX5_lookNow 14 = .ok (.aload_n 0, 1) := by decide +kernel
theorem dX5_lookNow_15 : decode cX5_lookNow 15 = .ok (.getfield 18, 3) := by decide +kernel
theorem dX5_lookNow_18 : decode cX5_lookNow 18 = .ok (.getfield 29, 3) := by decide +kernel
theorem dX5_lookNow_21 : decode cX5_lookNow 21 = .ok (.if_icmp .ge 23, 3) := by decide +kernel
theorem dX5_lookNow_24 : decode cX5_lookNow 24 = .ok (.aload_n 0, 1) := by decide +kernel
theorem dX5_lookNow_25 : decode cX5_lookNow 25 = .ok (.getfield 9, 3) := by decide +kernel
theorem dX5_lookNow_28 : decode cX5_lookNow 28 = .ok (.iload_n 1, 1) := by decide +kernel
theorem dX5_lookNow_29 : decode cX5_lookNow 29 = .ok (.aload_n 0, 1) := by decide +kernel
theorem dX5_lookNow_30 : decode cX5_lookNow 30 = .ok (.getfield 18, 3) := by decide +kernel
theorem dX5_lookNow_33 : decode cX5_lookNow 33 = .ok (.iload_n 1, 1) := by decide +kernel
theorem dX5_lookNow_34 : decode cX5_lookNow 34 = .ok (.invokevirtual 32, 3) := by decide +kernel
theorem dX5_lookNow_37 : decode cX5_lookNow 37 = .ok (.iastore, 1) := by decide +kernel
theorem dX5_lookNow_38 : decode cX5_lookNow 38 = .ok (.iinc 1 1, 3) := by decide +kernel
theorem dX5_lookNow_41 : decode cX5_lookNow 41 = .ok (.goto (-28), 3) := by decide +kernel
theorem dX5_lookNow_44 : decode cX5_lookNow 44 = .ok (.return_, 1) := by decide +kernel
set_option maxRecDepth 20000 in
theorem ggX5_lookWithTrees_X2_treeTall : GoodIn wsX5_lookWithTrees wsX2_treeTall := goodIn_r _ [11, 12, 13, 14, 15, 16, 21, 22, 23, 24, 25, 26, 27, 28, 29, 30, 31, 32, 33, 34, 35] (by decide +kernel) (by decide +kernel)
set_option maxRecDepth 20000 in
theorem gX5_lookWithTrees_X2_treeTall : GoodIn wsX5_lookWithTrees (wsV RX5 51 RX2 yX2_treeTall wsX2_treeTall) := goodIn_app (goodIn_of _ (by decide +kernel)) ggX5_lookWithTrees_X2_treeTall
theorem dX5_lookWithTrees_0 : decode cX5_lookWithTrees 0 = .ok (.iconst 0, 1) := by decide +kernel
theorem dX5_lookWithTrees_1 : decode cX5_lookWithTrees 1 = .ok (.istore_n 3, 1) := by decide +kernel
theorem dX5_lookWithTrees_2 : decode cX5_lookWithTrees 2 = .ok (.iload_n 3, 1) := by decide +kernel
theorem dX5_lookWithTrees_3 : decode cX5_lookWithTrees 3 = .ok (.aload_n 0, 1) := by decide +kernel
theorem dX5_lookWithTrees_4 : decode cX5_lookWithTrees 4 = .ok (.getfield 18, 3) := by decide +kernel
theorem dX5_lookWithTrees_7 : decode cX5_lookWithTrees 7 = .ok (.getfield 36, 3) := by decide +kernel
theorem dX5_lookWithTrees_10 : decode cX5_lookWithTrees 10 = .ok (.if_icmp .ge 51, 3) := by decide +kernel
theorem dX5_lookWithTrees_13 : decode cX5_lookWithTrees 13 = .ok (.aload_n 0, 1) := by decide +kernel
theorem dX5_lookWithTrees_14 : decode cX5_lookWithTrees 14 = .ok (.getfield 18, 3) := by decide +kernel
theorem dX5_lookWithTrees_17 : decode cX5_lookWithTrees 17 = .ok (.getfield 39, 3) := by decide +kernel
theorem dX5_lookWithTrees_20 : decode cX5_lookWithTrees 20 = .ok (.iload_n 3, 1) := by decide +kernel
theorem dX5_lookWithTrees_21 : decode cX5_lookWithTrees 21 = .ok (.aaload, 1) := by decide +kernel
theorem dX5_lookWithTrees_22 : decode cX5_lookWithTrees 22 = .ok (.getfield 43, 3) := by decide +kernel
theorem dX5_lookWithTrees_25 : decode cX5_lookWithTrees 25 = .ok (.istore 4, 2) := by decide +kernel
theorem dX5_lookWithTrees_27 : decode cX5_lookWithTrees 27 = .ok (.aload_n 0, 1) := by decide +kernel
theorem dX5_lookWithTrees_28 : decode cX5_lookWithTrees 28 = .ok (.getfield 9, 3) := by decide +kernel
theorem dX5_lookWithTrees_31 : decode cX5_lookWithTrees 31 = .ok (.iload 4, 2) := by decide +kernel
theorem dX5_lookWithTrees_33 : decode cX5_lookWithTrees 33 = .ok (.aload_n 0, 1) := by decide +kernel
theorem dX5_lookWithTrees_34 : decode cX5_lookWithTrees 34 = .ok (.getfield 18, 3) := by decide +kernel
theorem dX5_lookWithTrees_37 : decode cX5_lookWithTrees 37 = .ok (.getfield 48, 3) := by decide +kernel
theorem dX5_lookWithTrees_40 : decode cX5_lookWithTrees 40 = .ok (.iload 4, 2) := by decide +kernel
theorem dX5_lookWithTrees_42 : decode cX5_lookWithTrees 42 = .ok (.iaload, 1) := by decide +kernel
theorem dX5_lookWithTrees_43 : decode cX5_lookWithTrees 43 = .ok (.aload_n 0, 1) := by decide +kernel
theorem dX5_lookWithTrees_44 : decode cX5_lookWithTrees 44 = .ok (.getfield 18, 3) := by decide +kernel
theorem dX5_lookWithTrees_47 : decode cX5_lookWithTrees 47 = .ok (.iload_n 3, 1) := by decide +kernel
theorem dX5_lookWithTrees_48 : decode cX5_lookWithTrees 48 = .ok (.iload_n 1, 1) := by decide +kernel
theorem dX5_lookWithTrees_49 : decode cX5_lookWithTrees 49 = .ok (.iload_n 2, 1) := by decide +kernel
theorem dX5_lookWithTrees_50 : decode cX5_lookWithTrees 50 = .ok (.invokevirtual 51, 3) := by decide +kernel
theorem dX5_lookWithTrees_53 : decode cX5_lookWithTrees 53 = .ok (.iadd, 1) := by decide +kernel
theorem dX5_lookWithTrees_54 : decode cX5_lookWithTrees 54 = .ok (.iastore, 1) := by decide +kernel
theorem dX5_lookWithTrees_55 : decode cX5_lookWithTrees 55 = .ok (.iinc 3 1, 3) := by decide +kernel
theorem dX5_lookWithTrees_58 : decode cX5_lookWithTrees 58 = .ok (.goto (-56), 3) := by decide +kernel
theorem dX5_lookWithTrees_61 : decode cX5_lookWithTrees 61 = .ok (.return_, 1) := by decide +kernel
set_option maxRecDepth 20000 in
theorem ggX5_isClear_X8_greatestCommon : GoodIn wsX5_isClear wsX8_greatestCommon := goodIn_r _ [14, 15, 8, 5, 9] (by decide +kernel) (by decide +kernel)
set_option maxRecDepth 20000 in
theorem gX5_isClear_X8_greatestCommon_n67 : GoodIn wsX5_isClear (wsX8_greatestCommon) := ggX5_isClear_X8_greatestCommon
theorem dX5_isClear_0 : decode cX5_isClear 0 = .ok (.aload_n 0, 1) := by decide +kernel
theorem dX5_isClear_1 : decode cX5_isClear 1 = .ok (.getfield 18, 3) := by decide +kernel
theorem dX5_isClear_4 : decode cX5_isClear 4 = .ok (.getfield 55, 3) := by decide +kernel
theorem dX5_isClear_7 : decode cX5_isClear 7 = .ok (.istore_n 3, 1) := by decide +kernel
theorem dX5_isClear_8 : decode cX5_isClear 8 = .ok (.iload_n 3, 1) := by decide +kernel
theorem dX5_isClear_9 : decode cX5_isClear 9 = .ok (.iconst 1, 1) := by decide +kernel
theorem dX5_isClear_10 : decode cX5_isClear 10 = .ok (.if_icmp .ge 5, 3) := by decide +kernel
theorem dX5_isClear_13 : decode cX5_isClear 13 = .ok (.iconst 0, 1) := by decide +kernel
theorem dX5_isClear_14 : decode cX5_isClear 14 = .ok (.ireturn, 1) := by decide +kernel
theorem dX5_isClear_15 : decode cX5_isClear 15 = .ok (.iload_n 2, 1) := by decide +kernel
theorem dX5_isClear_16 : decode cX5_isClear 16 = .ok (.iload_n 3, 1) := by decide +kernel
theorem dX5_isClear_17 : decode cX5_isClear 17 = .ok (.idiv, 1) := by decide +kernel
theorem dX5_isClear_18 : decode cX5_isClear 18 = .ok (.iload_n 1, 1) := by decide +kernel
theorem dX5_isClear_19 : decode cX5_isClear 19 = .ok (.iload_n 3, 1) := by decide +kernel
theorem dX5_isClear_20 : decode cX5_isClear 20 = .ok (.idiv, 1) := by decide +kernel
theorem dX5_isClear_21 : decode cX5_isClear 21 = .ok (.isub, 1) := by decide +kernel
theorem dX5_isClear_22 : decode cX5_isClear 22 = .ok (.invokestatic 58, 3) := by decide +kernel
theorem dX5_isClear_25 : decode cX5_isClear 25 = .ok (.istore 4, 2) := by decide +kernel
theorem dX5_isClear_27 : decode cX5_isClear 27 = .ok (.iload_n 2, 1) := by decide +kernel
theorem dX5_isClear_28 : decode cX5_isClear 28 = .ok (.iload_n 3, 1) := by decide +kernel
theorem dX5_isClear_29 : decode cX5_isClear 29 = .ok (.irem, 1) := by decide +kernel
theorem dX5_isClear_30 : decode cX5_isClear 30 = .ok (.iload_n 1, 1) := by decide +kernel
theorem dX5_isClear_31 : decode cX5_isClear 31 = .ok (.iload_n 3, 1) := by decide +kernel
theorem dX5_isClear_32 : decode cX5_isClear 32 = .ok (.irem, 1) := by decide +kernel
theorem dX5_isClear_33 : decode cX5_isClear 33 = .ok (.isub, 1) := by decide +kernel
theorem dX5_isClear_34 : decode cX5_isClear 34 = .ok (.invokestatic 58, 3) := by decide +kernel
theorem dX5_isClear_37 : decode cX5_isClear 37 = .ok (.istore 5, 2) := by decide +kernel
theorem dX5_isClear_39 : decode cX5_isClear 39 = .ok (.iload 4, 2) := by decide +kernel
theorem dX5_isClear_41 : decode cX5_isClear 41 = .ok (.iload 5, 2) := by decide +kernel
theorem dX5_isClear_43 : decode cX5_isClear 43 = .ok (.invokestatic 63, 3) := by decide +kernel
theorem dX5_isClear_46 : decode cX5_isClear 46 = .ok (.aload_n 0, 1) := by decide +kernel
theorem dX5_isClear_47 : decode cX5_isClear 47 = .ok (.getfield 28, 3) := by decide +kernel
theorem dX5_isClear_50 : decode cX5_isClear 50 = .ok (.if_icmp .le 5, 3) := by decide +kernel
theorem dX5_isClear_53 : decode cX5_isClear 53 = .ok (.iconst 0, 1) := by decide +kernel
theorem dX5_isClear_54 : decode cX5_isClear 54 = .ok (.ireturn, 1) := by decide +kernel
theorem dX5_isClear_55 : decode cX5_isClear 55 = .ok (.iload 4, 2) := by decide +kernel
theorem dX5_isClear_57 : decode cX5_isClear 57 = .ok (.iload 5, 2) := by decide +kernel
theorem dX5_isClear_59 : decode cX5_isClear 59 = .ok (.invokestatic 67, 3) := by decide +kernel
theorem dX5_isClear_62 : decode cX5_isClear 62 = .ok (.istore 6, 2) := by decide +kernel
theorem dX5_isClear_64 : decode cX5_isClear 64 = .ok (.iload_n 2, 1) := by decide +kernel
theorem dX5_isClear_65 : decode cX5_isClear 65 = .ok (.iload_n 1, 1) := by decide +kernel
theorem dX5_isClear_66 : decode cX5_isClear 66 = .ok (.isub, 1) := by decide +kernel
theorem dX5_isClear_67 : decode cX5_isClear 67 = .ok (.iload 6, 2) := by decide +kernel
theorem dX5_isClear_69 : decode cX5_isClear 69 = .ok (.idiv, 1) := by decide +kernel
theorem dX5_isClear_70 : decode cX5_isClear 70 = .ok (.istore 7, 2) := by decide +kernel
theorem dX5_isClear_72 : decode cX5_isClear 72 = .ok (.iconst 1, 1) := by decide +kernel
theorem dX5_isClear_73 : decode cX5_isClear 73 = .ok (.istore 8, 2) := by decide +kernel
theorem dX5_isClear_75 : decode cX5_isClear 75 = .ok (.iload 8, 2) := by decide +kernel
theorem dX5_isClear_77 : decode cX5_isClear 77 = .ok (.iload 6, 2) := by decide +kernel
theorem dX5_isClear_79 : decode cX5_isClear 79 = .ok (.if_icmp .ge 55, 3) := by decide +kernel
theorem dX5_isClear_82 : decode cX5_isClear 82 = .ok (.aload_n 0, 1) := by decide +kernel
theorem dX5_isClear_83 : decode cX5_isClear 83 = .ok (.getfield 9, 3) := by decide +kernel
theorem dX5_isClear_86 : decode cX5_isClear 86 = .ok (.iload_n 1, 1) := by decide +kernel
theorem dX5_isClear_87 : decode cX5_isClear 87 = .ok (.iload 8, 2) := by decide +kernel
theorem dX5_isClear_89 : decode cX5_isClear 89 = .ok (.iload 7, 2) := by decide +kernel
theorem dX5_isClear_91 : decode cX5_isClear 91 = .ok (.imul, 1) := by decide +kernel
theorem dX5_isClear_92 : decode cX5_isClear 92 = .ok (.iadd, 1) := by decide +kernel
theorem dX5_isClear_93 : decode cX5_isClear 93 = .ok (.iaload, 1) := by decide +kernel
theorem dX5_isClear_94 : decode cX5_isClear 94 = .ok (.iload 6, 2) := by decide +kernel
theorem dX5_isClear_96 : decode cX5_isClear 96 = .ok (.imul, 1) := by decide +kernel
theorem dX5_isClear_97 : decode cX5_isClear 97 = .ok (.aload_n 0, 1) := by decide +kernel
theorem dX5_isClear_98 : decode cX5_isClear 98 = .ok (.getfield 9, 3) := by decide +kernel
theorem dX5_isClear_101 : decode cX5_isClear 101 = .ok (.iload_n 1, 1) := by decide +kernel
theorem dX5_isClear_102 : decode cX5_isClear 102 = .ok (.iaload, 1) := by decide +kernel
theorem dX5_isClear_103 : decode cX5_isClear 103 = .ok (.iload 6, 2) := by decide +kernel
theorem dX5_isClear_105 : decode cX5_isClear 105 = .ok (.imul, 1) := by decide +kernel
theorem dX5_isClear_106 : decode cX5_isClear 106 = .ok (.iload 8, 2) := by decide +kernel
theorem dX5_isClear_108 : decode cX5_isClear 108 = .ok (.aload_n 0, 1) := by decide +kernel
theorem dX5_isClear_109 : decode cX5_isClear 109 = .ok (.getfield 9, 3) := by decide +kernel
theorem dX5_isClear_112 : decode cX5_isClear 112 = .ok (.iload_n 2, 1) := by decide +kernel
theorem dX5_isClear_113 : decode cX5_isClear 113 = .ok (.iaload, 1) := by decide +kernel
theorem dX5_isClear_114 : decode cX5_isClear 114 = .ok (.aload_n 0, 1) := by decide +kernel
theorem dX5_isClear_115 : decode cX5_isClear 115 = .ok (.getfield 9, 3) := by decide +kernel
theorem dX5_isClear_118 : decode cX5_isClear 118 = .ok (.iload_n 1, 1) := by decide +kernel
theorem dX5_isClear_119 : decode cX5_isClear 119 = .ok (.iaload, 1) := by decide +kernel
theorem dX5_isClear_120 : decode cX5_isClear 120 = .ok (.isub, 1) := by decide +kernel
theorem dX5_isClear_121 : decode cX5_isClear 121 = .ok (.imul, 1) := by decide +kernel
theorem dX5_isClear_122 : decode cX5_isClear 122 = .ok (.iadd, 1) := by decide +kernel
theorem dX5_isClear_123 : decode cX5_isClear 123 = .ok (.if_icmp .lt 5, 3) := by decide +kernel
theorem dX5_isClear_126 : decode cX5_isClear 126 = .ok (.iconst 0, 1) := by decide +kernel
theorem dX5_isClear_127 : decode cX5_isClear 127 = .ok (.ireturn, 1) := by decide +kernel
theorem dX5_isClear_128 : decode cX5_isClear 128 = .ok (.iinc 8 1, 3) := by decide +kernel
theorem dX5_isClear_131 : decode cX5_isClear 131 = .ok (.goto (-56), 3) := by decide +kernel
theorem dX5_isClear_134 : decode cX5_isClear 134 = .ok (.iconst 1, 1) := by decide +kernel
theorem dX5_isClear_135 : decode cX5_isClear 135 = .ok (.ireturn, 1) := by decide +kernel
set_option maxRecDepth 20000 in
theorem ggX5_numberFrom_X5_isClear : GoodIn wsX5_numberFrom wsX5_isClear := goodIn_r _ [9, 1, 10, 11, 12, 13, 14, 15, 16, 17, 18, 19, 20, 21, 22, 23, 24, 25, 26, 27, 28, 29, 30, 31, 32, 33, 34, 35, 36, 37, 38, 39, 40] (by decide +kernel) (by decide +kernel)
set_option maxRecDepth 20000 in
theorem gX5_numberFrom_X5_isClear : GoodIn wsX5_numberFrom (wsV RX5 80 RX5 yX5_isClear wsX5_isClear) := goodIn_app (goodIn_of _ (by decide +kernel)) ggX5_numberFrom_X5_isClear
theorem dX5_numberFrom_0 : decode cX5_numberFrom 0 = .ok (.iconst 0, 1) := by decide +kernel
theorem dX5_numberFrom_1 : decode cX5_numberFrom 1 = .ok (.istore_n 2, 1) := by decide +kernel
theorem dX5_numberFrom_2 : decode cX5_numberFrom 2 = .ok (.iconst 0, 1) := by decide +kernel
theorem dX5_numberFrom_3 : decode cX5_numberFrom 3 = .ok (.istore_n 3, 1) := by decide +kernel
theorem dX5_numberFrom_4 : decode cX5_numberFrom 4 = .ok (.iload_n 3, 1) := by decide +kernel
theorem dX5_numberFrom_5 : decode cX5_numberFrom 5 = .ok (.aload_n 0, 1) := by decide +kernel
theorem dX5_numberFrom_6 : decode cX5_numberFrom 6 = .ok (.getfield 18, 3) := by decide +kernel
theorem dX5_numberFrom_9 : decode cX5_numberFrom 9 = .ok (.getfield 70, 3) := by decide +kernel
theorem dX5_numberFrom_12 : decode cX5_numberFrom 12 = .ok (.if_icmp .ge 42, 3) := by decide +kernel
theorem dX5_numberFrom_15 : decode cX5_numberFrom 15 = .ok (.aload_n 0, 1) := by decide +kernel
theorem dX5_numberFrom_16 : decode cX5_numberFrom 16 = .ok (.getfield 18, 3) := by decide +kernel
theorem dX5_numberFrom_19 : decode cX5_numberFrom 19 = .ok (.getfield 73, 3) := by decide +kernel
theorem dX5_numberFrom_22 : decode cX5_numberFrom 22 = .ok (.iload_n 3, 1) := by decide +kernel
theorem dX5_numberFrom_23 : decode cX5_numberFrom 23 = .ok (.aaload, 1) := by decide +kernel
theorem dX5_numberFrom_24 : decode cX5_numberFrom 24 = .ok (.getfield 77, 3) := by decide +kernel
theorem dX5_numberFrom_27 : decode cX5_numberFrom 27 = .ok (.istore 4, 2) := by decide +kernel
theorem dX5_numberFrom_29 : decode cX5_numberFrom 29 = .ok (.iload 4, 2) := by decide +kernel
theorem dX5_numberFrom_31 : decode cX5_numberFrom 31 = .ok (.iload_n 1, 1) := by decide +kernel
theorem dX5_numberFrom_32 : decode cX5_numberFrom 32 = .ok (.if_icmp .eq 16, 3) := by decide +kernel
theorem dX5_numberFrom_35 : decode cX5_numberFrom 35 = .ok (.aload_n 0, 1) := by decide +kernel
theorem dX5_numberFrom_36 : decode cX5_numberFrom 36 = .ok (.iload_n 1, 1) := by decide +kernel
theorem dX5_numberFrom_37 : decode cX5_numberFrom 37 = .ok (.iload 4, 2) := by decide +kernel
theorem dX5_numberFrom_39 : decode cX5_numberFrom 39 = .ok (.invokevirtual 80, 3) := by decide +kernel
theorem dX5_numberFrom_42 : decode cX5_numberFrom 42 = .ok (.ifCond .eq 6, 3) := by decide +kernel
theorem dX5_numberFrom_45 : decode cX5_numberFrom 45 = .ok (.iinc 2 1, 3) := by decide +kernel
theorem dX5_numberFrom_48 : decode cX5_numberFrom 48 = .ok (.iinc 3 1, 3) := by decide +kernel
theorem dX5_numberFrom_51 : decode cX5_numberFrom 51 = .ok (.goto (-47), 3) := by decide +kernel
theorem dX5_numberFrom_54 : decode cX5_numberFrom 54 = .ok (.iload_n 2, 1) := by decide +kernel
theorem dX5_numberFrom_55 : decode cX5_numberFrom 55 = .ok (.ireturn, 1) := by decide +kernel
set_option maxRecDepth 20000 in
theorem ggX5_numberOf_X5_numberFrom : GoodIn wsX5_numberOf wsX5_numberFrom := goodIn_r _ [8, 1, 9, 2, 3, 10, 11, 12, 7, 13, 14, 15, 16, 17, 18, 19, 20, 21, 22, 23, 24, 25, 26, 27, 28, 29, 30, 31, 32, 33, 34, 35, 36, 37, 38, 39, 40, 41, 42, 43, 44, 45, 46, 47, 48] (by decide +kernel) (by decide +kernel)
set_option maxRecDepth 20000 in
theorem gX5_numberOf_X5_numberFrom : GoodIn wsX5_numberOf (wsV RX5 84 RX5 yX5_numberFrom wsX5_numberFrom) := goodIn_app (goodIn_of _ (by decide +kernel)) ggX5_numberOf_X5_numberFrom
theorem dX5_numberOf_0 : decode cX5_numberOf 0 = .ok (.aload_n 0, 1) := by decide +kernel
theorem dX5_numberOf_1 : decode cX5_numberOf 1 = .ok (.aload_n 0, 1) := by decide +kernel
theorem dX5_numberOf_2 : decode cX5_numberOf 2 = .ok (.getfield 18, 3) := by decide +kernel
theorem dX5_numberOf_5 : decode cX5_numberOf 5 = .ok (.getfield 73, 3) := by decide +kernel
theorem dX5_numberOf_8 : decode cX5_numberOf 8 = .ok (.iload_n 1, 1) := by decide +kernel
theorem dX5_numberOf_9 : decode cX5_numberOf 9 = .ok (.aaload, 1) := by decide +kernel
theorem dX5_numberOf_10 : decode cX5_numberOf 10 = .ok (.getfield 77, 3) := by decide +kernel
theorem dX5_numberOf_13 : decode cX5_numberOf 13 = .ok (.invokevirtual 84, 3) := by decide +kernel
theorem dX5_numberOf_16 : decode cX5_numberOf 16 = .ok (.ireturn, 1) := by decide +kernel
set_option maxRecDepth 20000 in
theorem ggX5_numberIf_X5_numberFrom : GoodIn wsX5_numberIf wsX5_numberFrom := goodIn_r _ [6, 7, 8, 9, 10, 11, 12, 13, 5, 14, 15, 16, 17, 18, 19, 20, 21, 22, 23, 1, 24, 25, 26, 27, 28, 29, 30, 31, 32, 33, 34, 35, 36, 37, 38, 39, 40, 41, 42, 43, 44, 45, 46, 47, 48] (by decide +kernel) (by decide +kernel)
set_option maxRecDepth 20000 in
theorem gX5_numberIf_X5_numberFrom : GoodIn wsX5_numberIf (wsV RX5 84 RX5 yX5_numberFrom wsX5_numberFrom) := goodIn_app (goodIn_of _ (by decide +kernel)) ggX5_numberIf_X5_numberFrom
theorem dX5_numberIf_0 : decode cX5_numberIf 0 = .ok (.aload_n 0, 1) := by decide +kernel
theorem dX5_numberIf_1 : decode cX5_numberIf 1 = .ok (.getfield 9, 3) := by decide +kernel
theorem dX5_numberIf_4 : decode cX5_numberIf 4 = .ok (.iload_n 2, 1) := by decide +kernel
theorem dX5_numberIf_5 : decode cX5_numberIf 5 = .ok (.iaload, 1) := by decide +kernel
theorem dX5_numberIf_6 : decode cX5_numberIf 6 = .ok (.istore 4, 2) := by decide +kernel
theorem dX5_numberIf_8 : decode cX5_numberIf 8 = .ok (.aload_n 0, 1) := by decide +kernel
theorem dX5_numberIf_9 : decode cX5_numberIf 9 = .ok (.getfield 9, 3) := by decide +kernel
theorem dX5_numberIf_12 : decode cX5_numberIf 12 = .ok (.iload_n 2, 1) := by decide +kernel
theorem dX5_numberIf_13 : decode cX5_numberIf 13 = .ok (.iload_n 3, 1) := by decide +kernel
theorem dX5_numberIf_14 : decode cX5_numberIf 14 = .ok (.iastore, 1) := by decide +kernel
theorem dX5_numberIf_15 : decode cX5_numberIf 15 = .ok (.aload_n 0, 1) := by decide +kernel
theorem dX5_numberIf_16 : decode cX5_numberIf 16 = .ok (.iload_n 1, 1) := by decide +kernel
theorem dX5_numberIf_17 : decode cX5_numberIf 17 = .ok (.invokevirtual 84, 3) := by decide +kernel
theorem dX5_numberIf_20 : decode cX5_numberIf 20 = .ok (.istore 5, 2) := by decide +kernel
theorem dX5_numberIf_22 : decode cX5_numberIf 22 = .ok (.aload_n 0, 1) := by decide +kernel
theorem dX5_numberIf_23 : decode cX5_numberIf 23 = .ok (.getfield 9, 3) := by decide +kernel
theorem dX5_numberIf_26 : decode cX5_numberIf 26 = .ok (.iload_n 2, 1) := by decide +kernel
theorem dX5_numberIf_27 : decode cX5_numberIf 27 = .ok (.iload 4, 2) := by decide +kernel
theorem dX5_numberIf_29 : decode cX5_numberIf 29 = .ok (.iastore, 1) := by decide +kernel
theorem dX5_numberIf_30 : decode cX5_numberIf 30 = .ok (.iload 5, 2) := by decide +kernel
theorem dX5_numberIf_32 : decode cX5_numberIf 32 = .ok (.ireturn, 1) := by decide +kernel
set_option maxRecDepth 20000 in
theorem ggX5_countAll_X5_lookNow : GoodIn wsX5_countAll wsX5_lookNow := goodIn_r _ [8, 1, 9, 10, 11, 12, 13, 14, 15, 16, 17, 18, 19, 20, 21, 22, 23, 24, 25, 26, 27, 28, 29, 30, 31, 32, 33, 34, 35, 36, 37, 38, 39, 40, 41, 42, 43, 44, 45, 46, 47, 48, 49, 75, 76, 77, 78, 79, 80, 81, 82, 83, 84, 85, 86, 87, 88, 89, 90, 91, 92, 93, 94, 95, 96, 97] (by decide +kernel) (by decide +kernel)
set_option maxRecDepth 20000 in
theorem gX5_countAll_X5_lookNow : GoodIn wsX5_countAll (wsV RX5 87 RX5 yX5_lookNow wsX5_lookNow) := goodIn_app (goodIn_of _ (by decide +kernel)) ggX5_countAll_X5_lookNow
set_option maxRecDepth 20000 in
theorem ggX5_countAll_X5_numberOf : GoodIn wsX5_countAll wsX5_numberOf := goodIn_r _ [53, 1, 54, 55, 56, 57, 58, 7, 59, 2, 60, 61, 62, 63, 64, 65, 66, 67, 68, 69, 70, 71, 10, 12, 72, 37, 73, 74, 75, 76, 77, 78, 79, 80, 81, 82, 83, 84, 85, 86, 87, 88, 89, 90, 91, 92, 93, 94, 95] (by decide +kernel) (by decide +kernel)
set_option maxRecDepth 20000 in
theorem gX5_countAll_X5_numberOf : GoodIn wsX5_countAll (wsV RX5 90 RX5 yX5_numberOf wsX5_numberOf) := goodIn_app (goodIn_of _ (by decide +kernel)) ggX5_countAll_X5_numberOf
theorem dX5_countAll_0 : decode cX5_countAll 0 = .ok (.aload_n 0, 1) := by decide +kernel
theorem dX5_countAll_1 : decode cX5_countAll 1 = .ok (.invokevirtual 87, 3) := by decide +kernel
theorem dX5_countAll_4 : decode cX5_countAll 4 = .ok (.iconst 0, 1) := by decide +kernel
theorem dX5_countAll_5 : decode cX5_countAll 5 = .ok (.istore_n 1, 1) := by decide +kernel
theorem dX5_countAll_6 : decode cX5_countAll 6 = .ok (.iload_n 1, 1) := by decide +kernel
theorem dX5_countAll_7 : decode cX5_countAll 7 = .ok (.aload_n 0, 1) := by decide +kernel
theorem dX5_countAll_8 : decode cX5_countAll 8 = .ok (.getfield 18, 3) := by decide +kernel
theorem dX5_countAll_11 : decode cX5_countAll 11 = .ok (.getfield 70, 3) := by decide +kernel
theorem dX5_countAll_14 : decode cX5_countAll 14 = .ok (.if_icmp .ge 20, 3) := by decide +kernel
theorem dX5_countAll_17 : decode cX5_countAll 17 = .ok (.aload_n 0, 1) := by decide +kernel
theorem dX5_countAll_18 : decode cX5_countAll 18 = .ok (.getfield 15, 3) := by decide +kernel
theorem dX5_countAll_21 : decode cX5_countAll 21 = .ok (.iload_n 1, 1) := by decide +kernel
theorem dX5_countAll_22 : decode cX5_countAll 22 = .ok (.aload_n 0, 1) := by decide +kernel
theorem dX5_countAll_23 : decode cX5_countAll 23 = .ok (.iload_n 1, 1) := by decide +kernel
theorem dX5_countAll_24 : decode cX5_countAll 24 = .ok (.invokevirtual 90, 3) := by decide +kernel
theorem dX5_countAll_27 : decode cX5_countAll 27 = .ok (.iastore, 1) := by decide +kernel
theorem dX5_countAll_28 : decode cX5_countAll 28 = .ok (.iinc 1 1, 3) := by decide +kernel
theorem dX5_countAll_31 : decode cX5_countAll 31 = .ok (.goto (-25), 3) := by decide +kernel
theorem dX5_countAll_34 : decode cX5_countAll 34 = .ok (.return_, 1) := by decide +kernel
theorem dX5_sumOfNumbers_0 : decode cX5_sumOfNumbers 0 = .ok (.iconst 0, 1) := by decide +kernel
theorem dX5_sumOfNumbers_1 : decode cX5_sumOfNumbers 1 = .ok (.istore_n 1, 1) := by decide +kernel
theorem dX5_sumOfNumbers_2 : decode cX5_sumOfNumbers 2 = .ok (.iconst 0, 1) := by decide +kernel
theorem dX5_sumOfNumbers_3 : decode cX5_sumOfNumbers 3 = .ok (.istore_n 2, 1) := by decide +kernel
theorem dX5_sumOfNumbers_4 : decode cX5_sumOfNumbers 4 = .ok (.iload_n 2, 1) := by decide +kernel
theorem dX5_sumOfNumbers_5 : decode cX5_sumOfNumbers 5 = .ok (.aload_n 0, 1) := by decide +kernel
theorem dX5_sumOfNumbers_6 : decode cX5_sumOfNumbers 6 = .ok (.getfield 18, 3) := by decide +kernel
theorem dX5_sumOfNumbers_9 : decode cX5_sumOfNumbers 9 = .ok (.getfield 70, 3) := by decide +kernel
theorem dX5_sumOfNumbers_12 : decode cX5_sumOfNumbers 12 = .ok (.if_icmp .ge 18, 3) := by decide +kernel
theorem dX5_sumOfNumbers_15 : decode cX5_sumOfNumbers 15 = .ok (.iload_n 1, 1) := by decide +kernel
theorem dX5_sumOfNumbers_16 : decode cX5_sumOfNumbers 16 = .ok (.aload_n 0, 1) := by decide +kernel
theorem dX5_sumOfNumbers_17 : decode cX5_sumOfNumbers 17 = .ok (.getfield 15, 3) := by decide +kernel
theorem dX5_sumOfNumbers_20 : decode cX5_sumOfNumbers 20 = .ok (.iload_n 2, 1) := by decide +kernel
theorem dX5_sumOfNumbers_21 : decode cX5_sumOfNumbers 21 = .ok (.iaload, 1) := by decide +kernel
theorem dX5_sumOfNumbers_22 : decode cX5_sumOfNumbers 22 = .ok (.iadd, 1) := by decide +kernel
theorem dX5_sumOfNumbers_23 : decode cX5_sumOfNumbers 23 = .ok (.istore_n 1, 1) := by decide +kernel
theorem dX5_sumOfNumbers_24 : decode cX5_sumOfNumbers 24 = .ok (.iinc 2 1, 3) := by decide +kernel
theorem dX5_sumOfNumbers_27 : decode cX5_sumOfNumbers 27 = .ok (.goto (-23), 3) := by decide +kernel
theorem dX5_sumOfNumbers_30 : decode cX5_sumOfNumbers 30 = .ok (.iload_n 1, 1) := by decide +kernel
theorem dX5_sumOfNumbers_31 : decode cX5_sumOfNumbers 31 = .ok (.ireturn, 1) := by decide +kernel
theorem dX5_housesWith_0 : decode cX5_housesWith 0 = .ok (.iconst 0, 1) := by decide +kernel
theorem dX5_housesWith_1 : decode cX5_housesWith 1 = .ok (.istore_n 2, 1) := by decide +kernel
theorem dX5_housesWith_2 : decode cX5_housesWith 2 = .ok (.iconst 0, 1) := by decide +kernel
theorem dX5_housesWith_3 : decode cX5_housesWith 3 = .ok (.istore_n 3, 1) := by decide +kernel
theorem dX5_housesWith_4 : decode cX5_housesWith 4 = .ok (.iload_n 3, 1) := by decide +kernel
theorem dX5_housesWith_5 : decode cX5_housesWith 5 = .ok (.aload_n 0, 1) := by decide +kernel
theorem dX5_housesWith_6 : decode cX5_housesWith 6 = .ok (.getfield 18, 3) := by decide +kernel
theorem dX5_housesWith_9 : decode cX5_housesWith 9 = .ok (.getfield 70, 3) := by decide +kernel
theorem dX5_housesWith_12 : decode cX5_housesWith 12 = .ok (.if_icmp .ge 25, 3) := by decide +kernel
theorem dX5_housesWith_15 : decode cX5_housesWith 15 = .ok (.aload_n 0, 1) := by decide +kernel
theorem dX5_housesWith_16 : decode cX5_housesWith 16 = .ok (.getfield 15, 3) := by decide +kernel
theorem dX5_housesWith_19 : decode cX5_housesWith 19 = .ok (.iload_n 3, 1) := by decide +kernel
theorem dX5_housesWith_20 : decode cX5_housesWith 20 = .ok (.iaload, 1) := by decide +kernel
theorem dX5_housesWith_21 : decode cX5_housesWith 21 = .ok (.iload_n 1, 1) := by decide +kernel
theorem dX5_housesWith_22 : decode cX5_housesWith 22 = .ok (.if_icmp .ne 9, 3) := by decide +kernel
theorem dX5_housesWith_25 : decode cX5_housesWith 25 = .ok (.iload_n 2, 1) := by decide +kernel
theorem dX5_housesWith_26 : decode cX5_housesWith 26 = .ok (.iconst 1, 1) := by decide +kernel
theorem dX5_housesWith_27 : decode cX5_housesWith 27 = .ok (.iload_n 3, 1) := by decide +kernel
theorem dX5_housesWith_28 : decode cX5_housesWith 28 = .ok (.ishl, 1) := by decide +kernel
theorem dX5_housesWith_29 : decode cX5_housesWith 29 = .ok (.ior, 1) := by decide +kernel
theorem dX5_housesWith_30 : decode cX5_housesWith 30 = .ok (.istore_n 2, 1) := by decide +kernel
theorem dX5_housesWith_31 : decode cX5_housesWith 31 = .ok (.iinc 3 1, 3) := by decide +kernel
theorem dX5_housesWith_34 : decode cX5_housesWith 34 = .ok (.goto (-30), 3) := by decide +kernel
theorem dX5_housesWith_37 : decode cX5_housesWith 37 = .ok (.iload_n 2, 1) := by decide +kernel
theorem dX5_housesWith_38 : decode cX5_housesWith 38 = .ok (.ireturn, 1) := by decide +kernel
set_option maxRecDepth 20000 in
theorem ggX5_seenAmong_X8_isIn : GoodIn wsX5_seenAmong wsX8_isIn := goodIn_r _ [5] (by decide +kernel) (by decide +kernel)
set_option maxRecDepth 20000 in
theorem gX5_seenAmong_X8_isIn_n93 : GoodIn wsX5_seenAmong (wsX8_isIn) := ggX5_seenAmong_X8_isIn
set_option maxRecDepth 20000 in
theorem ggX5_seenAmong_X5_isSeenByOne : GoodIn wsX5_seenAmong wsX5_isSeenByOne := goodIn_r _ [10, 1, 2, 11, 12, 3, 4, 5, 13, 14, 15, 9, 16, 17, 18, 19, 20, 21, 22, 23, 24, 25, 26, 27, 28, 29, 30, 31, 32, 33, 34, 35, 36, 37, 38, 39, 40, 41, 42, 43, 44, 45, 46, 47, 48, 49, 50] (by decide +kernel) (by decide +kernel)
set_option maxRecDepth 20000 in
theorem gX5_seenAmong_X5_isSeenByOne : GoodIn wsX5_seenAmong (wsV RX5 96 RX5 yX5_isSeenByOne wsX5_isSeenByOne) := goodIn_app (goodIn_of _ (by decide +kernel)) ggX5_seenAmong_X5_isSeenByOne
theorem dX5_seenAmong_0 : decode cX5_seenAmong 0 = .ok (.iconst 0, 1) := by decide +kernel
theorem dX5_seenAmong_1 : decode cX5_seenAmong 1 = .ok (.istore_n 3, 1) := by decide +kernel
theorem dX5_seenAmong_2 : decode cX5_seenAmong 2 = .ok (.iconst 0, 1) := by decide +kernel
theorem dX5_seenAmong_3 : decode cX5_seenAmong 3 = .ok (.istore 4, 2) := by decide +kernel
theorem dX5_seenAmong_5 : decode cX5_seenAmong 5 = .ok (.iload 4, 2) := by decide +kernel
theorem dX5_seenAmong_7 : decode cX5_seenAmong 7 = .ok (.aload_n 0, 1) := by decide +kernel
theorem dX5_seenAmong_8 : decode cX5_seenAmong 8 = .ok (.getfield 18, 3) := by decide +kernel
theorem dX5_seenAmong_11 : decode cX5_seenAmong 11 = .ok (.getfield 70, 3) := by decide +kernel
theorem dX5_seenAmong_14 : decode cX5_seenAmong 14 = .ok (.if_icmp .ge 35, 3) := by decide +kernel
theorem dX5_seenAmong_17 : decode cX5_seenAmong 17 = .ok (.iload 4, 2) := by decide +kernel
theorem dX5_seenAmong_19 : decode cX5_seenAmong 19 = .ok (.iload_n 1, 1) := by decide +kernel
theorem dX5_seenAmong_20 : decode cX5_seenAmong 20 = .ok (.invokestatic 93, 3) := by decide +kernel
theorem dX5_seenAmong_23 : decode cX5_seenAmong 23 = .ok (.ifCond .eq 20, 3) := by decide +kernel
theorem dX5_seenAmong_26 : decode cX5_seenAmong 26 = .ok (.aload_n 0, 1) := by decide +kernel
theorem dX5_seenAmong_27 : decode cX5_seenAmong 27 = .ok (.iload 4, 2) := by decide +kernel
theorem dX5_seenAmong_29 : decode cX5_seenAmong 29 = .ok (.iload_n 2, 1) := by decide +kernel
theorem dX5_seenAmong_30 : decode cX5_seenAmong 30 = .ok (.invokevirtual 96, 3) := by decide +kernel
theorem dX5_seenAmong_33 : decode cX5_seenAmong 33 = .ok (.ifCond .eq 10, 3) := by decide +kernel
theorem dX5_seenAmong_36 : decode cX5_seenAmong 36 = .ok (.iload_n 3, 1) := by decide +kernel
theorem dX5_seenAmong_37 : decode cX5_seenAmong 37 = .ok (.iconst 1, 1) := by decide +kernel
theorem dX5_seenAmong_38 : decode cX5_seenAmong 38 = .ok (.iload 4, 2) := by decide +kernel
theorem dX5_seenAmong_40 : decode cX5_seenAmong 40 = .ok (.ishl, 1) := by decide +kernel
theorem dX5_seenAmong_41 : decode cX5_seenAmong 41 = .ok (.ior, 1) := by decide +kernel
theorem dX5_seenAmong_42 : decode cX5_seenAmong 42 = .ok (.istore_n 3, 1) := by decide +kernel
theorem dX5_seenAmong_43 : decode cX5_seenAmong 43 = .ok (.iinc 4 1, 3) := by decide +kernel
theorem dX5_seenAmong_46 : decode cX5_seenAmong 46 = .ok (.goto (-41), 3) := by decide +kernel
theorem dX5_seenAmong_49 : decode cX5_seenAmong 49 = .ok (.iload_n 3, 1) := by decide +kernel
theorem dX5_seenAmong_50 : decode cX5_seenAmong 50 = .ok (.ireturn, 1) := by decide +kernel
set_option maxRecDepth 20000 in
theorem ggX5_isSeenByOne_X8_isIn : GoodIn wsX5_isSeenByOne wsX8_isIn := goodIn_r _ [7] (by decide +kernel) (by decide +kernel)
set_option maxRecDepth 20000 in
theorem gX5_isSeenByOne_X8_isIn_n93 : GoodIn wsX5_isSeenByOne (wsX8_isIn) := ggX5_isSeenByOne_X8_isIn
set_option maxRecDepth 20000 in
theorem ggX5_isSeenByOne_X5_isClear : GoodIn wsX5_isSeenByOne wsX5_isClear := goodIn_r _ [12, 1, 13, 14, 15, 16, 17, 18, 19, 20, 21, 22, 23, 6, 24, 25, 26, 27, 28, 29, 30, 31, 32, 33, 34, 35, 36, 37, 38, 39, 40, 41, 42] (by decide +kernel) (by decide +kernel)
set_option maxRecDepth 20000 in
theorem gX5_isSeenByOne_X5_isClear : GoodIn wsX5_isSeenByOne (wsV RX5 80 RX5 yX5_isClear wsX5_isClear) := goodIn_app (goodIn_of _ (by decide +kernel)) ggX5_isSeenByOne_X5_isClear
theorem dX5_isSeenByOne_0 : decode cX5_isSeenByOne 0 = .ok (.iconst 0, 1) := by decide +kernel
theorem dX5_isSeenByOne_1 : decode cX5_isSeenByOne 1 = .ok (.istore_n 3, 1) := by decide +kernel
theorem dX5_isSeenByOne_2 : decode cX5_isSeenByOne 2 = .ok (.iload_n 3, 1) := by decide +kernel
theorem dX5_isSeenByOne_3 : decode cX5_isSeenByOne 3 = .ok (.aload_n 0, 1) := by decide +kernel
theorem dX5_isSeenByOne_4 : decode cX5_isSeenByOne 4 = .ok (.getfield 18, 3) := by decide +kernel
theorem dX5_isSeenByOne_7 : decode cX5_isSeenByOne 7 = .ok (.getfield 70, 3) := by decide +kernel
theorem dX5_isSeenByOne_10 : decode cX5_isSeenByOne 10 = .ok (.if_icmp .ge 55, 3) := by decide +kernel
theorem dX5_isSeenByOne_13 : decode cX5_isSeenByOne 13 = .ok (.iload_n 3, 1) := by decide +kernel
theorem dX5_isSeenByOne_14 : decode cX5_isSeenByOne 14 = .ok (.iload_n 1, 1) := by decide +kernel
theorem dX5_isSeenByOne_15 : decode cX5_isSeenByOne 15 = .ok (.if_icmp .eq 44, 3) := by decide +kernel
theorem dX5_isSeenByOne_18 : decode cX5_isSeenByOne 18 = .ok (.iload_n 3, 1) := by decide +kernel
theorem dX5_isSeenByOne_19 : decode cX5_isSeenByOne 19 = .ok (.iload_n 2, 1) := by decide +kernel
theorem dX5_isSeenByOne_20 : decode cX5_isSeenByOne 20 = .ok (.invokestatic 93, 3) := by decide +kernel
theorem dX5_isSeenByOne_23 : decode cX5_isSeenByOne 23 = .ok (.ifCond .eq 36, 3) := by decide +kernel
theorem dX5_isSeenByOne_26 : decode cX5_isSeenByOne 26 = .ok (.aload_n 0, 1) := by decide +kernel
theorem dX5_isSeenByOne_27 : decode cX5_isSeenByOne 27 = .ok (.aload_n 0, 1) := by decide +kernel
theorem dX5_isSeenByOne_28 : decode cX5_isSeenByOne 28 = .ok (.getfield 18, 3) := by decide +kernel
theorem dX5_isSeenByOne_31 : decode cX5_isSeenByOne 31 = .ok (.getfield 73, 3) := by decide +kernel
theorem dX5_isSeenByOne_34 : decode cX5_isSeenByOne 34 = .ok (.iload_n 3, 1) := by decide +kernel
theorem dX5_isSeenByOne_35 : decode cX5_isSeenByOne 35 = .ok (.aaload, 1) := by decide +kernel
theorem dX5_isSeenByOne_36 : decode cX5_isSeenByOne 36 = .ok (.getfield 77, 3) := by decide +kernel
theorem dX5_isSeenByOne_39 : decode cX5_isSeenByOne 39 = .ok (.aload_n 0, 1) := by decide +kernel
theorem dX5_isSeenByOne_40 : decode cX5_isSeenByOne 40 = .ok (.getfield 18, 3) := by decide +kernel
theorem dX5_isSeenByOne_43 : decode cX5_isSeenByOne 43 = .ok (.getfield 73, 3) := by decide +kernel
theorem dX5_isSeenByOne_46 : decode cX5_isSeenByOne 46 = .ok (.iload_n 1, 1) := by decide +kernel
theorem dX5_isSeenByOne_47 : decode cX5_isSeenByOne 47 = .ok (.aaload, 1) := by decide +kernel
theorem dX5_isSeenByOne_48 : decode cX5_isSeenByOne 48 = .ok (.getfield 77, 3) := by decide +kernel
theorem dX5_isSeenByOne_51 : decode cX5_isSeenByOne 51 = .ok (.invokevirtual 80, 3) := by decide +kernel
theorem dX5_isSeenByOne_54 : decode cX5_isSeenByOne 54 = .ok (.ifCond .eq 5, 3) := by decide +kernel
theorem dX5_isSeenByOne_57 : decode cX5_isSeenByOne 57 = .ok (.iconst 1, 1) := by decide +kernel
theorem dX5_isSeenByOne_58 : decode cX5_isSeenByOne 58 = .ok (.ireturn, 1) := by decide +kernel
theorem dX5_isSeenByOne_59 : decode cX5_isSeenByOne 59 = .ok (.iinc 3 1, 3) := by decide +kernel
theorem dX5_isSeenByOne_62 : decode cX5_isSeenByOne 62 = .ok (.goto (-60), 3) := by decide +kernel
theorem dX5_isSeenByOne_65 : decode cX5_isSeenByOne 65 = .ok (.iconst 0, 1) := by decide +kernel
theorem dX5_isSeenByOne_66 : decode cX5_isSeenByOne 66 = .ok (.ireturn, 1) := by decide +kernel
theorem dX6_init_0 : decode cX6_init 0 = .ok (.aload_n 0, 1) := by decide +kernel
theorem dX6_init_1 : decode cX6_init 1 = .ok (.invokespecial 3, 3) := by decide +kernel
theorem dX6_init_4 : decode cX6_init 4 = .ok (.aload_n 0, 1) := by decide +kernel
theorem dX6_init_5 : decode cX6_init 5 = .ok (.bipush 30, 2) := by decide +kernel
theorem dX6_init_7 : decode cX6_init 7 = .ok (.newarray .int, 2) := by decide +kernel
theorem dX6_init_9 : decode cX6_init 9 = .ok (.putfield 9, 3) := by decide +kernel
theorem dX6_init_12 : decode cX6_init 12 = .ok (.aload_n 0, 1) := by decide +kernel
theorem dX6_init_13 : decode cX6_init 13 = .ok (.bipush 30, 2) := by decide +kernel
theorem dX6_init_15 : decode cX6_init 15 = .ok (.newarray .int, 2) := by decide +kernel
theorem dX6_init_17 : decode cX6_init 17 = .ok (.putfield 15, 3) := by decide +kernel
theorem dX6_init_20 : decode cX6_init 20 = .ok (.aload_n 0, 1) := by decide +kernel
theorem dX6_init_21 : decode cX6_init 21 = .ok (.bipush 30, 2) := by decide +kernel
theorem dX6_init_23 : decode cX6_init 23 = .ok (.newarray .int, 2) := by decide +kernel
theorem dX6_init_25 : decode cX6_init 25 = .ok (.putfield 18, 3) := by decide +kernel
theorem dX6_init_28 : decode cX6_init 28 = .ok (.return_, 1) := by decide +kernel
set_option maxRecDepth 20000 in
theorem ggX6_isTaken_X6_takeHead : GoodIn wsX6_isTaken wsX6_takeHead := goodIn_r _ [11, 12, 13, 14, 15, 16, 10, 17, 4, 3, 1, 18, 2, 19, 20, 21, 22, 23, 24, 25, 45, 46, 47, 48, 49, 50, 51, 52, 53, 54, 55, 56, 57, 58] (by decide +kernel) (by decide +kernel)
set_option maxRecDepth 20000 in
theorem gX6_isTaken_X6_takeHead : GoodIn wsX6_isTaken (wsV RX6 41 RX6 yX6_takeHead wsX6_takeHead) := goodIn_app (goodIn_of _ (by decide +kernel)) ggX6_isTaken_X6_takeHead
set_option maxRecDepth 20000 in
theorem ggX6_isTaken_X6_takeRows : GoodIn wsX6_isTaken wsX6_takeRows := goodIn_r _ [29, 12, 13, 14, 15, 16, 10, 17, 4, 3, 1, 18, 2, 30, 31, 32, 33, 34, 35, 36, 19, 20, 21, 22, 23, 24, 25, 37, 38, 39, 40, 6, 5, 41, 42, 43, 44, 45, 46, 47, 48, 49, 50, 51, 52, 53, 54, 55, 56, 57, 58] (by decide +kernel) (by decide +kernel)
set_option maxRecDepth 20000 in
theorem gX6_isTaken_X6_takeRows : GoodIn wsX6_isTaken (wsV RX6 45 RX6 yX6_takeRows wsX6_takeRows) := goodIn_app (goodIn_of _ (by decide +kernel)) ggX6_isTaken_X6_takeRows
theorem dX6_isTaken_0 : decode cX6_isTaken 0 = .ok (.aload_n 0, 1) := by decide +kernel
theorem dX6_isTaken_1 : decode cX6_isTaken 1 = .ok (.aload_n 1, 1) := by decide +kernel
theorem dX6_isTaken_2 : decode cX6_isTaken 2 = .ok (.putfield 21, 3) := by decide +kernel
theorem dX6_isTaken_5 : decode cX6_isTaken 5 = .ok (.aload_n 0, 1) := by decide +kernel
theorem dX6_isTaken_6 : decode cX6_isTaken 6 = .ok (.iload_n 2, 1) := by decide +kernel
theorem dX6_isTaken_7 : decode cX6_isTaken 7 = .ok (.putfield 25, 3) := by decide +kernel
theorem dX6_isTaken_10 : decode cX6_isTaken 10 = .ok (.aload_n 0, 1) := by decide +kernel
theorem dX6_isTaken_11 : decode cX6_isTaken 11 = .ok (.iload_n 3, 1) := by decide +kernel
theorem dX6_isTaken_12 : decode cX6_isTaken 12 = .ok (.putfield 29, 3) := by decide +kernel
theorem dX6_isTaken_15 : decode cX6_isTaken 15 = .ok (.aload_n 0, 1) := by decide +kernel
theorem dX6_isTaken_16 : decode cX6_isTaken 16 = .ok (.iconst 0, 1) := by decide +kernel
theorem dX6_isTaken_17 : decode cX6_isTaken 17 = .ok (.putfield 32, 3) := by decide +kernel
theorem dX6_isTaken_20 : decode cX6_isTaken 20 = .ok (.aload_n 0, 1) := by decide +kernel
theorem dX6_isTaken_21 : decode cX6_isTaken 21 = .ok (.iconst 0, 1) := by decide +kernel
theorem dX6_isTaken_22 : decode cX6_isTaken 22 = .ok (.putfield 35, 3) := by decide +kernel
theorem dX6_isTaken_25 : decode cX6_isTaken 25 = .ok (.aload_n 0, 1) := by decide +kernel
theorem dX6_isTaken_26 : decode cX6_isTaken 26 = .ok (.iconst 0, 1) := by decide +kernel
theorem dX6_isTaken_27 : decode cX6_isTaken 27 = .ok (.putfield 38, 3) := by decide +kernel
theorem dX6_isTaken_30 : decode cX6_isTaken 30 = .ok (.aload_n 0, 1) := by decide +kernel
theorem dX6_isTaken_31 : decode cX6_isTaken 31 = .ok (.invokevirtual 41, 3) := by decide +kernel
theorem dX6_isTaken_34 : decode cX6_isTaken 34 = .ok (.ifCond .eq 25, 3) := by decide +kernel
theorem dX6_isTaken_37 : decode cX6_isTaken 37 = .ok (.aload_n 0, 1) := by decide +kernel
theorem dX6_isTaken_38 : decode cX6_isTaken 38 = .ok (.invokevirtual 45, 3) := by decide +kernel
theorem dX6_isTaken_41 : decode cX6_isTaken 41 = .ok (.ifCond .eq 18, 3) := by decide +kernel
theorem dX6_isTaken_44 : decode cX6_isTaken 44 = .ok (.aload_n 0, 1) := by decide +kernel
theorem dX6_isTaken_45 : decode cX6_isTaken 45 = .ok (.getfield 32, 3) := by decide +kernel
theorem dX6_isTaken_48 : decode cX6_isTaken 48 = .ok (.aload_n 0, 1) := by decide +kernel
theorem dX6_isTaken_49 : decode cX6_isTaken 49 = .ok (.getfield 29, 3) := by decide +kernel
theorem dX6_isTaken_52 : decode cX6_isTaken 52 = .ok (.if_icmp .ne 7, 3) := by decide +kernel
theorem dX6_isTaken_55 : decode cX6_isTaken 55 = .ok (.iconst 1, 1) := by decide +kernel
theorem dX6_isTaken_56 : decode cX6_isTaken 56 = .ok (.goto 4, 3) := by decide +kernel
theorem dX6_isTaken_59 : decode cX6_isTaken 59 = .ok (.iconst 0, 1) := by decide +kernel
theorem dX6_isTaken_60 : decode cX6_isTaken 60 = .ok (.ireturn, 1) := by decide +kernel
set_option maxRecDepth 20000 in
theorem ggX6_takeHead_X6_take : GoodIn wsX6_takeHead wsX6_take := goodIn_r _ [7, 8, 9, 10, 11, 12, 20, 21, 22, 23, 24, 25, 26, 27, 28, 29, 30, 31, 32, 33] (by decide +kernel) (by decide +kernel)
set_option maxRecDepth 20000 in
theorem gX6_takeHead_X6_take : GoodIn wsX6_takeHead (wsV RX6 48 RX6 yX6_take wsX6_take) := goodIn_app (goodIn_of _ (by decide +kernel)) ggX6_takeHead_X6_take
set_option maxRecDepth 20000 in
theorem ggX6_takeHead_X6_takeDigit : GoodIn wsX6_takeHead wsX6_takeDigit := goodIn_r _ [16, 8, 9, 10, 11, 12, 17, 18, 19, 20, 21, 22, 23, 24, 25, 26, 27, 28, 29, 30, 31, 32, 33] (by decide +kernel) (by decide +kernel)
set_option maxRecDepth 20000 in
theorem gX6_takeHead_X6_takeDigit : GoodIn wsX6_takeHead (wsV RX6 52 RX6 yX6_takeDigit wsX6_takeDigit) := goodIn_app (goodIn_of _ (by decide +kernel)) ggX6_takeHead_X6_takeDigit
theorem dX6_takeHead_0 : decode cX6_takeHead 0 = .ok (.aload_n 0, 1) := by decide +kernel
theorem dX6_takeHead_1 : decode cX6_takeHead 1 = .ok (.bipush 110, 2) := by decide +kernel
theorem dX6_takeHead_3 : decode cX6_takeHead 3 = .ok (.invokevirtual 48, 3) := by decide +kernel
theorem dX6_takeHead_6 : decode cX6_takeHead 6 = .ok (.ifCond .ne 5, 3) := by decide +kernel
theorem dX6_takeHead_9 : decode cX6_takeHead 9 = .ok (.iconst 0, 1) := by decide +kernel
theorem dX6_takeHead_10 : decode cX6_takeHead 10 = .ok (.ireturn, 1) := by decide +kernel
theorem dX6_takeHead_11 : decode cX6_takeHead 11 = .ok (.aload_n 0, 1) := by decide +kernel
theorem dX6_takeHead_12 : decode cX6_takeHead 12 = .ok (.aload_n 0, 1) := by decide +kernel
theorem dX6_takeHead_13 : decode cX6_takeHead 13 = .ok (.iconst 1, 1) := by decide +kernel
theorem dX6_takeHead_14 : decode cX6_takeHead 14 = .ok (.iconst 5, 1) := by decide +kernel
theorem dX6_takeHead_15 : decode cX6_takeHead 15 = .ok (.invokevirtual 52, 3) := by decide +kernel
theorem dX6_takeHead_18 : decode cX6_takeHead 18 = .ok (.putfield 56, 3) := by decide +kernel
theorem dX6_takeHead_21 : decode cX6_takeHead 21 = .ok (.aload_n 0, 1) := by decide +kernel
theorem dX6_takeHead_22 : decode cX6_takeHead 22 = .ok (.getfield 56, 3) := by decide +kernel
theorem dX6_takeHead_25 : decode cX6_takeHead 25 = .ok (.iconst (-1), 1) := by decide +kernel
theorem dX6_takeHead_26 : decode cX6_takeHead 26 = .ok (.if_icmp .ne 5, 3) := by decide +kernel
theorem dX6_takeHead_29 : decode cX6_takeHead 29 = .ok (.iconst 0, 1) := by decide +kernel
theorem dX6_takeHead_30 : decode cX6_takeHead 30 = .ok (.ireturn, 1) := by decide +kernel
theorem dX6_takeHead_31 : decode cX6_takeHead 31 = .ok (.aload_n 0, 1) := by decide +kernel
theorem dX6_takeHead_32 : decode cX6_takeHead 32 = .ok (.aload_n 0, 1) := by decide +kernel
theorem dX6_takeHead_33 : decode cX6_takeHead 33 = .ok (.iconst 2, 1) := by decide +kernel
theorem dX6_takeHead_34 : decode cX6_takeHead 34 = .ok (.bipush 6, 2) := by decide +kernel
theorem dX6_takeHead_36 : decode cX6_takeHead 36 = .ok (.invokevirtual 52, 3) := by decide +kernel
theorem dX6_takeHead_39 : decode cX6_takeHead 39 = .ok (.putfield 59, 3) := by decide +kernel
theorem dX6_takeHead_42 : decode cX6_takeHead 42 = .ok (.aload_n 0, 1) := by decide +kernel
theorem dX6_takeHead_43 : decode cX6_takeHead 43 = .ok (.getfield 59, 3) := by decide +kernel
theorem dX6_takeHead_46 : decode cX6_takeHead 46 = .ok (.iconst (-1), 1) := by decide +kernel
theorem dX6_takeHead_47 : decode cX6_takeHead 47 = .ok (.if_icmp .eq 7, 3) := by decide +kernel
theorem dX6_takeHead_50 : decode cX6_takeHead 50 = .ok (.iconst 1, 1) := by decide +kernel
theorem dX6_takeHead_51 : decode cX6_takeHead 51 = .ok (.goto 4, 3) := by decide +kernel
theorem dX6_takeHead_54 : decode cX6_takeHead 54 = .ok (.iconst 0, 1) := by decide +kernel
theorem dX6_takeHead_55 : decode cX6_takeHead 55 = .ok (.ireturn, 1) := by decide +kernel
set_option maxRecDepth 20000 in
theorem ggX6_takeRows_X6_take : GoodIn wsX6_takeRows wsX6_take := goodIn_r _ [7, 8, 9, 10, 11, 12, 37, 38, 39, 40, 41, 42, 43, 44, 45, 46, 47, 48, 49, 50] (by decide +kernel) (by decide +kernel)
set_option maxRecDepth 20000 in
theorem gX6_takeRows_X6_take : GoodIn wsX6_takeRows (wsV RX6 48 RX6 yX6_take wsX6_take) := goodIn_app (goodIn_of _ (by decide +kernel)) ggX6_takeRows_X6_take
set_option maxRecDepth 20000 in
theorem ggX6_takeRows_X6_takeCell : GoodIn wsX6_takeRows wsX6_takeCell := goodIn_r _ [16, 17, 18, 19, 20, 21, 22, 6, 23, 8, 9, 10, 11, 12, 24, 25, 26, 3, 4, 5, 7, 27, 28, 29, 30, 31, 32, 33, 34, 35, 36, 37, 38, 39, 40, 41, 42, 43, 44, 45, 46, 47, 48, 49, 50] (by decide +kernel) (by decide +kernel)
set_option maxRecDepth 20000 in
theorem gX6_takeRows_X6_takeCell : GoodIn wsX6_takeRows (wsV RX6 62 RX6 yX6_takeCell wsX6_takeCell) := goodIn_app (goodIn_of _ (by decide +kernel)) ggX6_takeRows_X6_takeCell
theorem dX6_takeRows_0 : decode cX6_takeRows 0 = .ok (.iconst 0, 1) := by decide +kernel
theorem dX6_takeRows_1 : decode cX6_takeRows 1 = .ok (.istore_n 1, 1) := by decide +kernel
theorem dX6_takeRows_2 : decode cX6_takeRows 2 = .ok (.iload_n 1, 1) := by decide +kernel
theorem dX6_takeRows_3 : decode cX6_takeRows 3 = .ok (.aload_n 0, 1) := by decide +kernel
theorem dX6_takeRows_4 : decode cX6_takeRows 4 = .ok (.getfield 56, 3) := by decide +kernel
theorem dX6_takeRows_7 : decode cX6_takeRows 7 = .ok (.if_icmp .ge 53, 3) := by decide +kernel
theorem dX6_takeRows_10 : decode cX6_takeRows 10 = .ok (.aload_n 0, 1) := by decide +kernel
theorem dX6_takeRows_11 : decode cX6_takeRows 11 = .ok (.bipush 59, 2) := by decide +kernel
theorem dX6_takeRows_13 : decode cX6_takeRows 13 = .ok (.invokevirtual 48, 3) := by decide +kernel
theorem dX6_takeRows_16 : decode cX6_takeRows 16 = .ok (.ifCond .ne 5, 3) := by decide +kernel
theorem dX6_takeRows_19 : decode cX6_takeRows 19 = .ok (.iconst 0, 1) := by decide +kernel
theorem dX6_takeRows_20 : decode cX6_takeRows 20 = .ok (.ireturn, 1) := by decide +kernel
theorem dX6_takeRows_21 : decode cX6_takeRows 21 = .ok (.iconst 0, 1) := by decide +kernel
theorem dX6_takeRows_22 : decode cX6_takeRows 22 = .ok (.istore_n 2, 1) := by decide +kernel
theorem dX6_takeRows_23 : decode cX6_takeRows 23 = .ok (.iload_n 2, 1) := by decide +kernel
theorem dX6_takeRows_24 : decode cX6_takeRows 24 = .ok (.aload_n 0, 1) := by decide +kernel
theorem dX6_takeRows_25 : decode cX6_takeRows 25 = .ok (.getfield 59, 3) := by decide +kernel
theorem dX6_takeRows_28 : decode cX6_takeRows 28 = .ok (.if_icmp .ge 26, 3) := by decide +kernel
theorem dX6_takeRows_31 : decode cX6_takeRows 31 = .ok (.aload_n 0, 1) := by decide +kernel
theorem dX6_takeRows_32 : decode cX6_takeRows 32 = .ok (.iload_n 1, 1) := by decide +kernel
theorem dX6_takeRows_33 : decode cX6_takeRows 33 = .ok (.aload_n 0, 1) := by decide +kernel
theorem dX6_takeRows_34 : decode cX6_takeRows 34 = .ok (.getfield 59, 3) := by decide +kernel
theorem dX6_takeRows_37 : decode cX6_takeRows 37 = .ok (.imul, 1) := by decide +kernel
theorem dX6_takeRows_38 : decode cX6_takeRows 38 = .ok (.iload_n 2, 1) := by decide +kernel
theorem dX6_takeRows_39 : decode cX6_takeRows 39 = .ok (.iadd, 1) := by decide +kernel
theorem dX6_takeRows_40 : decode cX6_takeRows 40 = .ok (.invokevirtual 62, 3) := by decide +kernel
theorem dX6_takeRows_43 : decode cX6_takeRows 43 = .ok (.ifCond .ne 5, 3) := by decide +kernel
theorem dX6_takeRows_46 : decode cX6_takeRows 46 = .ok (.iconst 0, 1) := by decide +kernel
theorem dX6_takeRows_47 : decode cX6_takeRows 47 = .ok (.ireturn, 1) := by decide +kernel
theorem dX6_takeRows_48 : decode cX6_takeRows 48 = .ok (.iinc 2 1, 3) := by decide +kernel
theorem dX6_takeRows_51 : decode cX6_takeRows 51 = .ok (.goto (-28), 3) := by decide +kernel
theorem dX6_takeRows_54 : decode cX6_takeRows 54 = .ok (.iinc 1 1, 3) := by decide +kernel
theorem dX6_takeRows_57 : decode cX6_takeRows 57 = .ok (.goto (-55), 3) := by decide +kernel
theorem dX6_takeRows_60 : decode cX6_takeRows 60 = .ok (.iconst 1, 1) := by decide +kernel
theorem dX6_takeRows_61 : decode cX6_takeRows 61 = .ok (.ireturn, 1) := by decide +kernel
set_option maxRecDepth 20000 in
theorem ggX6_takeCell_X6_takeDigit : GoodIn wsX6_takeCell wsX6_takeDigit := goodIn_r _ [8, 9, 10, 11, 12, 13, 14, 15, 16, 31, 32, 33, 34, 35, 36, 37, 38, 39, 40, 41, 42, 43, 44] (by decide +kernel) (by decide +kernel)
set_option maxRecDepth 20000 in
theorem gX6_takeCell_X6_takeDigit : GoodIn wsX6_takeCell (wsV RX6 52 RX6 yX6_takeDigit wsX6_takeDigit) := goodIn_app (goodIn_of _ (by decide +kernel)) ggX6_takeCell_X6_takeDigit
set_option maxRecDepth 20000 in
theorem ggX6_takeCell_X6_take : GoodIn wsX6_takeCell wsX6_take := goodIn_r _ [20, 9, 10, 11, 12, 13, 31, 32, 33, 34, 35, 36, 37, 38, 39, 40, 41, 42, 43, 44] (by decide +kernel) (by decide +kernel)
set_option maxRecDepth 20000 in
theorem gX6_takeCell_X6_take : GoodIn wsX6_takeCell (wsV RX6 48 RX6 yX6_take wsX6_take) := goodIn_app (goodIn_of _ (by decide +kernel)) ggX6_takeCell_X6_take
set_option maxRecDepth 20000 in
theorem ggX6_takeCell_X6_takeLetter : GoodIn wsX6_takeCell wsX6_takeLetter := goodIn_r _ [24, 25, 26, 17, 18, 19, 7, 20, 9, 10, 11, 12, 13, 27, 28, 29, 30, 31, 32, 33, 34, 35, 36, 37, 38, 39, 40, 41, 42, 43, 44] (by decide +kernel) (by decide +kernel)
set_option maxRecDepth 20000 in
theorem gX6_takeCell_X6_takeLetter : GoodIn wsX6_takeCell (wsV RX6 65 RX6 yX6_takeLetter wsX6_takeLetter) := goodIn_app (goodIn_of _ (by decide +kernel)) ggX6_takeCell_X6_takeLetter
theorem dX6_takeCell_0 : decode cX6_takeCell 0 = .ok (.aload_n 0, 1) := by decide +kernel
theorem dX6_takeCell_1 : decode cX6_takeCell 1 = .ok (.getfield 9, 3) := by decide +kernel
theorem dX6_takeCell_4 : decode cX6_takeCell 4 = .ok (.iload_n 1, 1) := by decide +kernel
theorem dX6_takeCell_5 : decode cX6_takeCell 5 = .ok (.aload_n 0, 1) := by decide +kernel
theorem dX6_takeCell_6 : decode cX6_takeCell 6 = .ok (.iconst 0, 1) := by decide +kernel
theorem dX6_takeCell_7 : decode cX6_takeCell 7 = .ok (.bipush 9, 2) := by decide +kernel
theorem dX6_takeCell_9 : decode cX6_takeCell 9 = .ok (.invokevirtual 52, 3) := by decide +kernel
theorem dX6_takeCell_12 : decode cX6_takeCell 12 = .ok (.iastore, 1) := by decide +kernel
theorem dX6_takeCell_13 : decode cX6_takeCell 13 = .ok (.aload_n 0, 1) := by decide +kernel
theorem dX6_takeCell_14 : decode cX6_takeCell 14 = .ok (.getfield 9, 3) := by decide +kernel
theorem dX6_takeCell_17 : decode cX6_takeCell 17 = .ok (.iload_n 1, 1) := by decide +kernel
theorem dX6_takeCell_18 : decode cX6_takeCell 18 = .ok (.iaload, 1) := by decide +kernel
theorem dX6_takeCell_19 : decode cX6_takeCell 19 = .ok (.iconst (-1), 1) := by decide +kernel
theorem dX6_takeCell_20 : decode cX6_takeCell 20 = .ok (.if_icmp .ne 5, 3) := by decide +kernel
theorem dX6_takeCell_23 : decode cX6_takeCell 23 = .ok (.iconst 0, 1) := by decide +kernel
theorem dX6_takeCell_24 : decode cX6_takeCell 24 = .ok (.ireturn, 1) := by decide +kernel
theorem dX6_takeCell_25 : decode cX6_takeCell 25 = .ok (.aload_n 0, 1) := by decide +kernel
theorem dX6_takeCell_26 : decode cX6_takeCell 26 = .ok (.getfield 15, 3) := by decide +kernel
theorem dX6_takeCell_29 : decode cX6_takeCell 29 = .ok (.iload_n 1, 1) := by decide +kernel
theorem dX6_takeCell_30 : decode cX6_takeCell 30 = .ok (.iconst (-1), 1) := by decide +kernel
theorem dX6_takeCell_31 : decode cX6_takeCell 31 = .ok (.iastore, 1) := by decide +kernel
theorem dX6_takeCell_32 : decode cX6_takeCell 32 = .ok (.aload_n 0, 1) := by decide +kernel
theorem dX6_takeCell_33 : decode cX6_takeCell 33 = .ok (.bipush 46, 2) := by decide +kernel
theorem dX6_takeCell_35 : decode cX6_takeCell 35 = .ok (.invokevirtual 48, 3) := by decide +kernel
theorem dX6_takeCell_38 : decode cX6_takeCell 38 = .ok (.ifCond .eq 5, 3) := by decide +kernel
theorem dX6_takeCell_41 : decode cX6_takeCell 41 = .ok (.iconst 1, 1) := by decide +kernel
theorem dX6_takeCell_42 : decode cX6_takeCell 42 = .ok (.ireturn, 1) := by decide +kernel
theorem dX6_takeCell_43 : decode cX6_takeCell 43 = .ok (.aload_n 0, 1) := by decide +kernel
theorem dX6_takeCell_44 : decode cX6_takeCell 44 = .ok (.getfield 15, 3) := by decide +kernel
theorem dX6_takeCell_47 : decode cX6_takeCell 47 = .ok (.iload_n 1, 1) := by decide +kernel
theorem dX6_takeCell_48 : decode cX6_takeCell 48 = .ok (.aload_n 0, 1) := by decide +kernel
theorem dX6_takeCell_49 : decode cX6_takeCell 49 = .ok (.invokevirtual 65, 3) := by decide +kernel
theorem dX6_takeCell_52 : decode cX6_takeCell 52 = .ok (.iastore, 1) := by decide +kernel
theorem dX6_takeCell_53 : decode cX6_takeCell 53 = .ok (.aload_n 0, 1) := by decide +kernel
theorem dX6_takeCell_54 : decode cX6_takeCell 54 = .ok (.getfield 15, 3) := by decide +kernel
theorem dX6_takeCell_57 : decode cX6_takeCell 57 = .ok (.iload_n 1, 1) := by decide +kernel
theorem dX6_takeCell_58 : decode cX6_takeCell 58 = .ok (.iaload, 1) := by decide +kernel
theorem dX6_takeCell_59 : decode cX6_takeCell 59 = .ok (.iconst (-1), 1) := by decide +kernel
theorem dX6_takeCell_60 : decode cX6_takeCell 60 = .ok (.if_icmp .ne 5, 3) := by decide +kernel
theorem dX6_takeCell_63 : decode cX6_takeCell 63 = .ok (.iconst 0, 1) := by decide +kernel
theorem dX6_takeCell_64 : decode cX6_takeCell 64 = .ok (.ireturn, 1) := by decide +kernel
theorem dX6_takeCell_65 : decode cX6_takeCell 65 = .ok (.aload_n 0, 1) := by decide +kernel
theorem dX6_takeCell_66 : decode cX6_takeCell 66 = .ok (.getfield 18, 3) := by decide +kernel
theorem dX6_takeCell_69 : decode cX6_takeCell 69 = .ok (.iload_n 1, 1) := by decide +kernel
theorem dX6_takeCell_70 : decode cX6_takeCell 70 = .ok (.aload_n 0, 1) := by decide +kernel
theorem dX6_takeCell_71 : decode cX6_takeCell 71 = .ok (.iconst 1, 1) := by decide +kernel
theorem dX6_takeCell_72 : decode cX6_takeCell 72 = .ok (.bipush 9, 2) := by decide +kernel
theorem dX6_takeCell_74 : decode cX6_takeCell 74 = .ok (.invokevirtual 52, 3) := by decide +kernel
theorem dX6_takeCell_77 : decode cX6_takeCell 77 = .ok (.iastore, 1) := by decide +kernel
theorem dX6_takeCell_78 : decode cX6_takeCell 78 = .ok (.aload_n 0, 1) := by decide +kernel
theorem dX6_takeCell_79 : decode cX6_takeCell 79 = .ok (.getfield 18, 3) := by decide +kernel
theorem dX6_takeCell_82 : decode cX6_takeCell 82 = .ok (.iload_n 1, 1) := by decide +kernel
theorem dX6_takeCell_83 : decode cX6_takeCell 83 = .ok (.iaload, 1) := by decide +kernel
theorem dX6_takeCell_84 : decode cX6_takeCell 84 = .ok (.iconst (-1), 1) := by decide +kernel
theorem dX6_takeCell_85 : decode cX6_takeCell 85 = .ok (.if_icmp .eq 7, 3) := by decide +kernel
theorem dX6_takeCell_88 : decode cX6_takeCell 88 = .ok (.iconst 1, 1) := by decide +kernel
theorem dX6_takeCell_89 : decode cX6_takeCell 89 = .ok (.goto 4, 3) := by decide +kernel
theorem dX6_takeCell_92 : decode cX6_takeCell 92 = .ok (.iconst 0, 1) := by decide +kernel
theorem dX6_takeCell_93 : decode cX6_takeCell 93 = .ok (.ireturn, 1) := by decide +kernel
set_option maxRecDepth 20000 in
theorem ggX6_takeLetter_X6_take : GoodIn wsX6_takeLetter wsX6_take := goodIn_r _ [7, 8, 9, 10, 11, 12, 17, 18, 19, 20, 21, 22, 23, 24, 25, 26, 27, 28, 29, 30] (by decide +kernel) (by decide +kernel)
set_option maxRecDepth 20000 in
theorem gX6_takeLetter_X6_take : GoodIn wsX6_takeLetter (wsV RX6 48 RX6 yX6_take wsX6_take) := goodIn_app (goodIn_of _ (by decide +kernel)) ggX6_takeLetter_X6_take
set_option maxRecDepth 20000 in
theorem ggX6_takeLetter_X6_takeKind : GoodIn wsX6_takeLetter wsX6_takeKind := goodIn_r _ [16, 3, 4, 5, 6, 7, 8, 9, 10, 11, 12, 17, 18, 19, 20, 21, 22, 23, 24, 25, 26, 27, 28, 29, 30] (by decide +kernel) (by decide +kernel)
set_option maxRecDepth 20000 in
theorem gX6_takeLetter_X6_takeKind : GoodIn wsX6_takeLetter (wsV RX6 69 RX6 yX6_takeKind wsX6_takeKind) := goodIn_app (goodIn_of _ (by decide +kernel)) ggX6_takeLetter_X6_takeKind
theorem dX6_takeLetter_0 : decode cX6_takeLetter 0 = .ok (.aload_n 0, 1) := by decide +kernel
theorem dX6_takeLetter_1 : decode cX6_takeLetter 1 = .ok (.getfield 38, 3) := by decide +kernel
theorem dX6_takeLetter_4 : decode cX6_takeLetter 4 = .ok (.bipush 8, 2) := by decide +kernel
theorem dX6_takeLetter_6 : decode cX6_takeLetter 6 = .ok (.if_icmp .ge 24, 3) := by decide +kernel
theorem dX6_takeLetter_9 : decode cX6_takeLetter 9 = .ok (.aload_n 0, 1) := by decide +kernel
theorem dX6_takeLetter_10 : decode cX6_takeLetter 10 = .ok (.bipush 116, 2) := by decide +kernel
theorem dX6_takeLetter_12 : decode cX6_takeLetter 12 = .ok (.invokevirtual 48, 3) := by decide +kernel
theorem dX6_takeLetter_15 : decode cX6_takeLetter 15 = .ok (.ifCond .eq 15, 3) := by decide +kernel
theorem dX6_takeLetter_18 : decode cX6_takeLetter 18 = .ok (.aload_n 0, 1) := by decide +kernel
theorem dX6_takeLetter_19 : decode cX6_takeLetter 19 = .ok (.dup, 1) := by decide +kernel
theorem dX6_takeLetter_20 : decode cX6_takeLetter 20 = .ok (.getfield 38, 3) := by decide +kernel
theorem dX6_takeLetter_23 : decode cX6_takeLetter 23 = .ok (.iconst 1, 1) := by decide +kernel
theorem dX6_takeLetter_24 : decode cX6_takeLetter 24 = .ok (.iadd, 1) := by decide +kernel
theorem dX6_takeLetter_25 : decode cX6_takeLetter 25 = .ok (.putfield 38, 3) := by decide +kernel
theorem dX6_takeLetter_28 : decode cX6_takeLetter 28 = .ok (.iconst 3, 1) := by decide +kernel
theorem dX6_takeLetter_29 : decode cX6_takeLetter 29 = .ok (.ireturn, 1) := by decide +kernel
theorem dX6_takeLetter_30 : decode cX6_takeLetter 30 = .ok (.aload_n 0, 1) := by decide +kernel
theorem dX6_takeLetter_31 : decode cX6_takeLetter 31 = .ok (.getfield 35, 3) := by decide +kernel
theorem dX6_takeLetter_34 : decode cX6_takeLetter 34 = .ok (.bipush 8, 2) := by decide +kernel
theorem dX6_takeLetter_36 : decode cX6_takeLetter 36 = .ok (.if_icmp .ge 10, 3) := by decide +kernel
theorem dX6_takeLetter_39 : decode cX6_takeLetter 39 = .ok (.aload_n 0, 1) := by decide +kernel
theorem dX6_takeLetter_40 : decode cX6_takeLetter 40 = .ok (.invokevirtual 69, 3) := by decide +kernel
theorem dX6_takeLetter_43 : decode cX6_takeLetter 43 = .ok (.goto 4, 3) := by decide +kernel
theorem dX6_takeLetter_46 : decode cX6_takeLetter 46 = .ok (.iconst (-1), 1) := by decide +kernel
theorem dX6_takeLetter_47 : decode cX6_takeLetter 47 = .ok (.istore_n 1, 1) := by decide +kernel
theorem dX6_takeLetter_48 : decode cX6_takeLetter 48 = .ok (.iload_n 1, 1) := by decide +kernel
theorem dX6_takeLetter_49 : decode cX6_takeLetter 49 = .ok (.iconst (-1), 1) := by decide +kernel
theorem dX6_takeLetter_50 : decode cX6_takeLetter 50 = .ok (.if_icmp .eq 13, 3) := by decide +kernel
theorem dX6_takeLetter_53 : decode cX6_takeLetter 53 = .ok (.aload_n 0, 1) := by decide +kernel
theorem dX6_takeLetter_54 : decode cX6_takeLetter 54 = .ok (.dup, 1) := by decide +kernel
theorem dX6_takeLetter_55 : decode cX6_takeLetter 55 = .ok (.getfield 35, 3) := by decide +kernel
theorem dX6_takeLetter_58 : decode cX6_takeLetter 58 = .ok (.iconst 1, 1) := by decide +kernel
theorem dX6_takeLetter_59 : decode cX6_takeLetter 59 = .ok (.iadd, 1) := by decide +kernel
theorem dX6_takeLetter_60 : decode cX6_takeLetter 60 = .ok (.putfield 35, 3) := by decide +kernel
theorem dX6_takeLetter_63 : decode cX6_takeLetter 63 = .ok (.iload_n 1, 1) := by decide +kernel
theorem dX6_takeLetter_64 : decode cX6_takeLetter 64 = .ok (.ireturn, 1) := by decide +kernel
set_option maxRecDepth 20000 in
theorem ggX6_takeKind_X6_take : GoodIn wsX6_takeKind wsX6_take := goodIn_r _ [5, 6, 7, 8, 9, 10, 11, 12, 13, 14, 15, 16, 17, 18, 19, 20, 21, 22, 23, 24] (by decide +kernel) (by decide +kernel)
set_option maxRecDepth 20000 in
theorem gX6_takeKind_X6_take : GoodIn wsX6_takeKind (wsV RX6 48 RX6 yX6_take wsX6_take) := goodIn_app (goodIn_of _ (by decide +kernel)) ggX6_takeKind_X6_take
theorem dX6_takeKind_0 : decode cX6_takeKind 0 = .ok (.aload_n 0, 1) := by decide +kernel
theorem dX6_takeKind_1 : decode cX6_takeKind 1 = .ok (.bipush 104, 2) := by decide +kernel
theorem dX6_takeKind_3 : decode cX6_takeKind 3 = .ok (.invokevirtual 48, 3) := by decide +kernel
theorem dX6_takeKind_6 : decode cX6_takeKind 6 = .ok (.ifCond .eq 5, 3) := by decide +kernel
theorem dX6_takeKind_9 : decode cX6_takeKind 9 = .ok (.iconst 0, 1) := by decide +kernel
theorem dX6_takeKind_10 : decode cX6_takeKind 10 = .ok (.ireturn, 1) := by decide +kernel
theorem dX6_takeKind_11 : decode cX6_takeKind 11 = .ok (.aload_n 0, 1) := by decide +kernel
theorem dX6_takeKind_12 : decode cX6_takeKind 12 = .ok (.bipush 99, 2) := by decide +kernel
theorem dX6_takeKind_14 : decode cX6_takeKind 14 = .ok (.invokevirtual 48, 3) := by decide +kernel
theorem dX6_takeKind_17 : decode cX6_takeKind 17 = .ok (.ifCond .eq 5, 3) := by decide +kernel
theorem dX6_takeKind_20 : decode cX6_takeKind 20 = .ok (.iconst 1, 1) := by decide +kernel
theorem dX6_takeKind_21 : decode cX6_takeKind 21 = .ok (.ireturn, 1) := by decide +kernel
theorem dX6_takeKind_22 : decode cX6_takeKind 22 = .ok (.aload_n 0, 1) := by decide +kernel
theorem dX6_takeKind_23 : decode cX6_takeKind 23 = .ok (.bipush 114, 2) := by decide +kernel
theorem dX6_takeKind_25 : decode cX6_takeKind 25 = .ok (.invokevirtual 48, 3) := by decide +kernel
theorem dX6_takeKind_28 : decode cX6_takeKind 28 = .ok (.ifCond .eq 7, 3) := by decide +kernel
theorem dX6_takeKind_31 : decode cX6_takeKind 31 = .ok (.iconst 2, 1) := by decide +kernel
theorem dX6_takeKind_32 : decode cX6_takeKind 32 = .ok (.goto 4, 3) := by decide +kernel
theorem dX6_takeKind_35 : decode cX6_takeKind 35 = .ok (.iconst (-1), 1) := by decide +kernel
theorem dX6_takeKind_36 : decode cX6_takeKind 36 = .ok (.ireturn, 1) := by decide +kernel
theorem dX6_take_0 : decode cX6_take 0 = .ok (.aload_n 0, 1) := by decide +kernel
theorem dX6_take_1 : decode cX6_take 1 = .ok (.getfield 32, 3) := by decide +kernel
theorem dX6_take_4 : decode cX6_take 4 = .ok (.aload_n 0, 1) := by decide +kernel
theorem dX6_take_5 : decode cX6_take 5 = .ok (.getfield 29, 3) := by decide +kernel
theorem dX6_take_8 : decode cX6_take 8 = .ok (.if_icmp .ge 24, 3) := by decide +kernel
theorem dX6_take_11 : decode cX6_take 11 = .ok (.aload_n 0, 1) := by decide +kernel
theorem dX6_take_12 : decode cX6_take 12 = .ok (.getfield 21, 3) := by decide +kernel
theorem dX6_take_15 : decode cX6_take 15 = .ok (.getfield 72, 3) := by decide +kernel
theorem dX6_take_18 : decode cX6_take 18 = .ok (.aload_n 0, 1) := by decide +kernel
theorem dX6_take_19 : decode cX6_take 19 = .ok (.getfield 25, 3) := by decide +kernel
theorem dX6_take_22 : decode cX6_take 22 = .ok (.aload_n 0, 1) := by decide +kernel
theorem dX6_take_23 : decode cX6_take 23 = .ok (.getfield 32, 3) := by decide +kernel
theorem dX6_take_26 : decode cX6_take 26 = .ok (.iadd, 1) := by decide +kernel
theorem dX6_take_27 : decode cX6_take 27 = .ok (.iaload, 1) := by decide +kernel
theorem dX6_take_28 : decode cX6_take 28 = .ok (.iload_n 1, 1) := by decide +kernel
theorem dX6_take_29 : decode cX6_take 29 = .ok (.if_icmp .eq 5, 3) := by decide +kernel
theorem dX6_take_32 : decode cX6_take 32 = .ok (.iconst 0, 1) := by decide +kernel
theorem dX6_take_33 : decode cX6_take 33 = .ok (.ireturn, 1) := by decide +kernel
theorem dX6_take_34 : decode cX6_take 34 = .ok (.aload_n 0, 1) := by decide +kernel
theorem dX6_take_35 : decode cX6_take 35 = .ok (.dup, 1) := by decide +kernel
theorem dX6_take_36 : decode cX6_take 36 = .ok (.getfield 32, 3) := by decide +kernel
theorem dX6_take_39 : decode cX6_take 39 = .ok (.iconst 1, 1) := by decide +kernel
theorem dX6_take_40 : decode cX6_take 40 = .ok (.iadd, 1) := by decide +kernel
theorem dX6_take_41 : decode cX6_take 41 = .ok (.putfield 32, 3) := by decide +kernel
theorem dX6_take_44 : decode cX6_take 44 = .ok (.iconst 1, 1) := by decide +kernel
theorem dX6_take_45 : decode cX6_take 45 = .ok (.ireturn, 1) := by decide +kernel
set_option maxRecDepth 20000 in
theorem ggX6_takeDigit_X8_isWithin : GoodIn wsX6_takeDigit wsX8_isWithin := goodIn_r _ [8] (by decide +kernel) (by decide +kernel)
set_option maxRecDepth 20000 in
theorem gX6_takeDigit_X8_isWithin_n77 : GoodIn wsX6_takeDigit (wsX8_isWithin) := ggX6_takeDigit_X8_isWithin
theorem dX6_takeDigit_0 : decode cX6_takeDigit 0 = .ok (.aload_n 0, 1) := by decide +kernel
theorem dX6_takeDigit_1 : decode cX6_takeDigit 1 = .ok (.getfield 32, 3) := by decide +kernel
theorem dX6_takeDigit_4 : decode cX6_takeDigit 4 = .ok (.aload_n 0, 1) := by decide +kernel
theorem dX6_takeDigit_5 : decode cX6_takeDigit 5 = .ok (.getfield 29, 3) := by decide +kernel
theorem dX6_takeDigit_8 : decode cX6_takeDigit 8 = .ok (.if_icmp .lt 5, 3) := by decide +kernel
theorem dX6_takeDigit_11 : decode cX6_takeDigit 11 = .ok (.iconst (-1), 1) := by decide +kernel
theorem dX6_takeDigit_12 : decode cX6_takeDigit 12 = .ok (.ireturn, 1) := by decide +kernel
theorem dX6_takeDigit_13 : decode cX6_takeDigit 13 = .ok (.aload_n 0, 1) := by decide +kernel
theorem dX6_takeDigit_14 : decode cX6_takeDigit 14 = .ok (.getfield 21, 3) := by decide +kernel
theorem dX6_takeDigit_17 : decode cX6_takeDigit 17 = .ok (.getfield 72, 3) := by decide +kernel
theorem dX6_takeDigit_20 : decode cX6_takeDigit 20 = .ok (.aload_n 0, 1) := by decide +kernel
theorem dX6_takeDigit_21 : decode cX6_takeDigit 21 = .ok (.getfield 25, 3) := by decide +kernel
theorem dX6_takeDigit_24 : decode cX6_takeDigit 24 = .ok (.aload_n 0, 1) := by decide +kernel
theorem dX6_takeDigit_25 : decode cX6_takeDigit 25 = .ok (.getfield 32, 3) := by decide +kernel
theorem dX6_takeDigit_28 : decode cX6_takeDigit 28 = .ok (.iadd, 1) := by decide +kernel
theorem dX6_takeDigit_29 : decode cX6_takeDigit 29 = .ok (.iaload, 1) := by decide +kernel
theorem dX6_takeDigit_30 : decode cX6_takeDigit 30 = .ok (.istore_n 3, 1) := by decide +kernel
theorem dX6_takeDigit_31 : decode cX6_takeDigit 31 = .ok (.iload_n 3, 1) := by decide +kernel
theorem dX6_takeDigit_32 : decode cX6_takeDigit 32 = .ok (.bipush 48, 2) := by decide +kernel
theorem dX6_takeDigit_34 : decode cX6_takeDigit 34 = .ok (.iload_n 1, 1) := by decide +kernel
theorem dX6_takeDigit_35 : decode cX6_takeDigit 35 = .ok (.iadd, 1) := by decide +kernel
theorem dX6_takeDigit_36 : decode cX6_takeDigit 36 = .ok (.bipush 48, 2) := by decide +kernel
theorem dX6_takeDigit_38 : decode cX6_takeDigit 38 = .ok (.iload_n 2, 1) := by decide +kernel
theorem dX6_takeDigit_39 : decode cX6_takeDigit 39 = .ok (.iadd, 1) := by decide +kernel
theorem dX6_takeDigit_40 : decode cX6_takeDigit 40 = .ok (.invokestatic 77, 3) := by decide +kernel
theorem dX6_takeDigit_43 : decode cX6_takeDigit 43 = .ok (.ifCond .ne 5, 3) := by decide +kernel
theorem dX6_takeDigit_46 : decode cX6_takeDigit 46 = .ok (.iconst (-1), 1) := by decide +kernel
theorem dX6_takeDigit_47 : decode cX6_takeDigit 47 = .ok (.ireturn, 1) := by decide +kernel
theorem dX6_takeDigit_48 : decode cX6_takeDigit 48 = .ok (.aload_n 0, 1) := by decide +kernel
theorem dX6_takeDigit_49 : decode cX6_takeDigit 49 = .ok (.dup, 1) := by decide +kernel
theorem dX6_takeDigit_50 : decode cX6_takeDigit 50 = .ok (.getfield 32, 3) := by decide +kernel
theorem dX6_takeDigit_53 : decode cX6_takeDigit 53 = .ok (.iconst 1, 1) := by decide +kernel
theorem dX6_takeDigit_54 : decode cX6_takeDigit 54 = .ok (.iadd, 1) := by decide +kernel
theorem dX6_takeDigit_55 : decode cX6_takeDigit 55 = .ok (.putfield 32, 3) := by decide +kernel
theorem dX6_takeDigit_58 : decode cX6_takeDigit 58 = .ok (.iload_n 3, 1) := by decide +kernel
theorem dX6_takeDigit_59 : decode cX6_takeDigit 59 = .ok (.bipush 48, 2) := by decide +kernel
theorem dX6_takeDigit_61 : decode cX6_takeDigit 61 = .ok (.isub, 1) := by decide +kernel
theorem dX6_takeDigit_62 : decode cX6_takeDigit 62 = .ok (.ireturn, 1) := by decide +kernel
theorem dX7_init_0 : decode cX7_init 0 = .ok (.aload_n 0, 1) := by decide +kernel
theorem dX7_init_1 : decode cX7_init 1 = .ok (.invokespecial 1, 3) := by decide +kernel
theorem dX7_init_4 : decode cX7_init 4 = .ok (.return_, 1) := by decide +kernel
set_option maxRecDepth 20000 in
theorem ggX8_init_X4_init : GoodIn wsX8_init wsX4_init := goodIn_r _ [29, 30, 2, 3, 31, 32, 33, 91, 92, 93] (by decide +kernel) (by decide +kernel)
set_option maxRecDepth 20000 in
theorem gX8_init_X4_init_n17 : GoodIn wsX8_init (wsX4_init) := ggX8_init_X4_init
set_option maxRecDepth 20000 in
theorem ggX8_init_X6_init : GoodIn wsX8_init wsX6_init := goodIn_r _ [35, 36, 2, 3, 31, 37, 38, 39, 94, 95, 96, 97, 98, 99, 100, 101, 102, 103, 104] (by decide +kernel) (by decide +kernel)
set_option maxRecDepth 20000 in
theorem gX8_init_X6_init_n20 : GoodIn wsX8_init (wsX6_init) := ggX8_init_X6_init
set_option maxRecDepth 20000 in
theorem ggX8_init_X2_init : GoodIn wsX8_init wsX2_init := goodIn_r _ [42, 43, 2, 3, 31, 44, 45, 46, 47, 48, 49, 50, 51, 52, 53, 54, 55, 56, 57, 58, 59, 60, 105, 106, 107, 108, 109, 110, 111, 112, 113, 114, 115, 116, 117, 130, 131, 132, 133, 134, 135] (by decide +kernel) (by decide +kernel)
set_option maxRecDepth 20000 in
theorem gX8_init_X2_init : GoodIn wsX8_init (wsX2_init) := ggX8_init_X2_init
set_option maxRecDepth 20000 in
theorem ggX8_init_X5_init : GoodIn wsX8_init wsX5_init := goodIn_r _ [63, 64, 2, 3, 31, 65, 66, 67, 118, 119, 120, 121] (by decide +kernel) (by decide +kernel)
set_option maxRecDepth 20000 in
theorem gX8_init_X5_init : GoodIn wsX8_init (wsX5_init) := ggX8_init_X5_init
set_option maxRecDepth 20000 in
theorem ggX8_init_X0_init : GoodIn wsX8_init wsX0_init := goodIn_r _ [70, 71, 2, 3, 72, 73, 122, 123] (by decide +kernel) (by decide +kernel)
set_option maxRecDepth 20000 in
theorem gX8_init_X0_init : GoodIn wsX8_init (wsX0_init) := ggX8_init_X0_init
set_option maxRecDepth 20000 in
theorem ggX8_init_X3_init : GoodIn wsX8_init wsX3_init := goodIn_r _ [76, 77, 2, 3, 31, 78, 79, 80, 81, 82, 124, 125, 126, 127, 128, 129] (by decide +kernel) (by decide +kernel)
set_option maxRecDepth 20000 in
theorem gX8_init_X3_init : GoodIn wsX8_init (wsX3_init) := ggX8_init_X3_init
theorem dX8_init_0 : decode cX8_init 0 = .ok (.aload_n 0, 1) := by decide +kernel
theorem dX8_init_1 : decode cX8_init 1 = .ok (.invokespecial 5, 3) := by decide +kernel
theorem dX8_init_4 : decode cX8_init 4 = .ok (.aload_n 0, 1) := by decide +kernel
theorem dX8_init_5 : decode cX8_init 5 = .ok (.iconst 4, 1) := by decide +kernel
theorem dX8_init_6 : decode cX8_init 6 = .ok (.anewarray 11, 3) := by decide +kernel
theorem dX8_init_9 : decode cX8_init 9 = .ok (.putfield 13, 3) := by decide +kernel
theorem dX8_init_12 : decode cX8_init 12 = .ok (.iconst 0, 1) := by decide +kernel
theorem dX8_init_13 : decode cX8_init 13 = .ok (.istore_n 1, 1) := by decide +kernel
theorem dX8_init_14 : decode cX8_init 14 = .ok (.iload_n 1, 1) := by decide +kernel
theorem dX8_init_15 : decode cX8_init 15 = .ok (.iconst 4, 1) := by decide +kernel
theorem dX8_init_16 : decode cX8_init 16 = .ok (.if_icmp .ge 22, 3) := by decide +kernel
theorem dX8_init_19 : decode cX8_init 19 = .ok (.aload_n 0, 1) := by decide +kernel
theorem dX8_init_20 : decode cX8_init 20 = .ok (.getfield 13, 3) := by decide +kernel
theorem dX8_init_23 : decode cX8_init 23 = .ok (.iload_n 1, 1) := by decide +kernel
theorem dX8_init_24 : decode cX8_init 24 = .ok (.new 11, 3) := by decide +kernel
theorem dX8_init_27 : decode cX8_init 27 = .ok (.dup, 1) := by decide +kernel
theorem dX8_init_28 : decode cX8_init 28 = .ok (.invokespecial 17, 3) := by decide +kernel
theorem dX8_init_31 : decode cX8_init 31 = .ok (.aastore, 1) := by decide +kernel
theorem dX8_init_32 : decode cX8_init 32 = .ok (.iinc 1 1, 3) := by decide +kernel
theorem dX8_init_35 : decode cX8_init 35 = .ok (.goto (-21), 3) := by decide +kernel
theorem dX8_init_38 : decode cX8_init 38 = .ok (.aload_n 0, 1) := by decide +kernel
theorem dX8_init_39 : decode cX8_init 39 = .ok (.new 18, 3) := by decide +kernel
theorem dX8_init_42 : decode cX8_init 42 = .ok (.dup, 1) := by decide +kernel
theorem dX8_init_43 : decode cX8_init 43 = .ok (.invokespecial 20, 3) := by decide +kernel
theorem dX8_init_46 : decode cX8_init 46 = .ok (.putfield 21, 3) := by decide +kernel
theorem dX8_init_49 : decode cX8_init 49 = .ok (.aload_n 0, 1) := by decide +kernel
theorem dX8_init_50 : decode cX8_init 50 = .ok (.new 25, 3) := by decide +kernel
theorem dX8_init_53 : decode cX8_init 53 = .ok (.dup, 1) := by decide +kernel
theorem dX8_init_54 : decode cX8_init 54 = .ok (.invokespecial 27, 3) := by decide +kernel
theorem dX8_init_57 : decode cX8_init 57 = .ok (.putfield 28, 3) := by decide +kernel
theorem dX8_init_60 : decode cX8_init 60 = .ok (.aload_n 0, 1) := by decide +kernel
theorem dX8_init_61 : decode cX8_init 61 = .ok (.new 32, 3) := by decide +kernel
theorem dX8_init_64 : decode cX8_init 64 = .ok (.dup, 1) := by decide +kernel
theorem dX8_init_65 : decode cX8_init 65 = .ok (.aload_n 0, 1) := by decide +kernel
theorem dX8_init_66 : decode cX8_init 66 = .ok (.getfield 28, 3) := by decide +kernel
theorem dX8_init_69 : decode cX8_init 69 = .ok (.invokespecial 34, 3) := by decide +kernel
theorem dX8_init_72 : decode cX8_init 72 = .ok (.putfield 37, 3) := by decide +kernel
theorem dX8_init_75 : decode cX8_init 75 = .ok (.aload_n 0, 1) := by decide +kernel
theorem dX8_init_76 : decode cX8_init 76 = .ok (.new 41, 3) := by decide +kernel
theorem dX8_init_79 : decode cX8_init 79 = .ok (.dup, 1) := by decide +kernel
theorem dX8_init_80 : decode cX8_init 80 = .ok (.aload_n 0, 1) := by decide +kernel
theorem dX8_init_81 : decode cX8_init 81 = .ok (.getfield 28, 3) := by decide +kernel
theorem dX8_init_84 : decode cX8_init 84 = .ok (.aload_n 0, 1) := by decide +kernel
theorem dX8_init_85 : decode cX8_init 85 = .ok (.getfield 37, 3) := by decide +kernel
theorem dX8_init_88 : decode cX8_init 88 = .ok (.invokespecial 43, 3) := by decide +kernel
theorem dX8_init_91 : decode cX8_init 91 = .ok (.putfield 46, 3) := by decide +kernel
theorem dX8_init_94 : decode cX8_init 94 = .ok (.aload_n 0, 1) := by decide +kernel
theorem dX8_init_95 : decode cX8_init 95 = .ok (.new 50, 3) := by decide +kernel
theorem dX8_init_98 : decode cX8_init 98 = .ok (.dup, 1) := by decide +kernel
theorem dX8_init_99 : decode cX8_init 99 = .ok (.aload_n 0, 1) := by decide +kernel
theorem dX8_init_100 : decode cX8_init 100 = .ok (.getfield 28, 3) := by decide +kernel
theorem dX8_init_103 : decode cX8_init 103 = .ok (.aload_n 0, 1) := by decide +kernel
theorem dX8_init_104 : decode cX8_init 104 = .ok (.getfield 37, 3) := by decide +kernel
theorem dX8_init_107 : decode cX8_init 107 = .ok (.invokespecial 52, 3) := by decide +kernel
theorem dX8_init_110 : decode cX8_init 110 = .ok (.putfield 53, 3) := by decide +kernel
theorem dX8_init_113 : decode cX8_init 113 = .ok (.return_, 1) := by decide +kernel
set_option maxRecDepth 20000 in
theorem ggX8_land_X8_isSheet : GoodIn wsX8_land wsX8_isSheet := goodIn_r _ [12, 13, 14, 11, 15] (by decide +kernel) (by decide +kernel)
set_option maxRecDepth 20000 in
theorem gX8_land_X8_isSheet : GoodIn wsX8_land (va_wsS RX8 61 yX8_isSheet wsX8_isSheet) := goodIn_app (goodIn_of _ (by decide +kernel)) ggX8_land_X8_isSheet
set_option maxRecDepth 20000 in
theorem ggX8_land_X8_isWithin : GoodIn wsX8_land wsX8_isWithin := goodIn_r _ [15] (by decide +kernel) (by decide +kernel)
set_option maxRecDepth 20000 in
theorem gX8_land_X8_isWithin : GoodIn wsX8_land (va_wsS RX8 65 yX8_isWithin wsX8_isWithin) := goodIn_app (goodIn_of _ (by decide +kernel)) ggX8_land_X8_isWithin
set_option maxRecDepth 20000 in
theorem ggX8_land_X4_faultAs : GoodIn wsX8_land wsX4_faultAs := goodIn_r _ [20, 21, 22, 23, 24, 19, 25, 26, 151, 152, 153] (by decide +kernel) (by decide +kernel)
set_option maxRecDepth 20000 in
theorem gX8_land_X4_faultAs : GoodIn wsX8_land (wsV RX8 69 RX4 yX4_faultAs wsX4_faultAs) := goodIn_app (goodIn_of _ (by decide +kernel)) ggX8_land_X4_faultAs
set_option maxRecDepth 20000 in
theorem ggX8_land_X4_holdsRun : GoodIn wsX8_land wsX4_holdsRun := goodIn_r _ [30, 26, 151, 152, 153] (by decide +kernel) (by decide +kernel)
set_option maxRecDepth 20000 in
theorem gX8_land_X4_holdsRun : GoodIn wsX8_land (wsV RX8 73 RX4 yX4_holdsRun wsX4_holdsRun) := goodIn_app (goodIn_of _ (by decide +kernel)) ggX8_land_X4_holdsRun
set_option maxRecDepth 20000 in
theorem ggX8_land_X8_answerFault : GoodIn wsX8_land wsX8_answerFault := goodIn_r _ [34, 1, 113, 114, 115, 116, 117, 118, 119, 120] (by decide +kernel) (by decide +kernel)
set_option maxRecDepth 20000 in
theorem gX8_land_X8_answerFault : GoodIn wsX8_land (wsV RX8 77 RX8 yX8_answerFault wsX8_answerFault) := goodIn_app (goodIn_of _ (by decide +kernel)) ggX8_land_X8_answerFault
set_option maxRecDepth 20000 in
theorem ggX8_land_X6_isTaken : GoodIn wsX8_land wsX6_isTaken := goodIn_r _ [39, 40, 41, 42, 43, 44, 45, 46, 47, 48, 38, 49, 50, 51, 52, 53, 54, 55, 56, 57, 58, 59, 60, 14, 11, 15, 61, 62, 63, 64, 65, 66, 67, 68, 69, 70, 71, 72, 73, 74, 75, 76, 77, 78, 79, 121, 122, 123, 124, 125, 126, 127, 128, 129, 130, 131, 151, 152, 153] (by decide +kernel) (by decide +kernel)
set_option maxRecDepth 20000 in
theorem gX8_land_X6_isTaken : GoodIn wsX8_land (wsV RX8 80 RX6 yX6_isTaken wsX6_isTaken) := goodIn_app (goodIn_of _ (by decide +kernel)) ggX8_land_X6_isTaken
set_option maxRecDepth 20000 in
theorem ggX8_land_X2_makeAnew : GoodIn wsX8_land wsX2_makeAnew := goodIn_r _ [84, 85, 86, 87, 88, 89, 90, 91, 92, 93, 94, 95, 96, 97, 98, 99, 100, 101, 102, 103, 83, 104, 105, 106, 107, 108, 109, 110, 111, 112, 121, 122, 123, 124, 125, 126, 127, 128, 129, 130, 131, 138, 139, 140, 141, 142, 143, 144, 145, 146, 147, 148, 149, 150, 154, 155, 156, 157, 158, 159] (by decide +kernel) (by decide +kernel)
set_option maxRecDepth 20000 in
theorem gX8_land_X2_makeAnew : GoodIn wsX8_land (wsV RX8 87 RX2 yX2_makeAnew wsX2_makeAnew) := goodIn_app (goodIn_of _ (by decide +kernel)) ggX8_land_X2_makeAnew
theorem dX8_land_0 : decode cX8_land 0 = .ok (.aload_n 0, 1) := by decide +kernel
theorem dX8_land_1 : decode cX8_land 1 = .ok (.iconst 0, 1) := by decide +kernel
theorem dX8_land_2 : decode cX8_land 2 = .ok (.putfield 57, 3) := by decide +kernel
theorem dX8_land_5 : decode cX8_land 5 = .ok (.iload_n 1, 1) := by decide +kernel
theorem dX8_land_6 : decode cX8_land 6 = .ok (.invokestatic 61, 3) := by decide +kernel
theorem dX8_land_9 : decode cX8_land 9 = .ok (.ifCond .ne 5, 3) := by decide +kernel
theorem dX8_land_12 : decode cX8_land 12 = .ok (.iconst (-1), 1) := by decide +kernel
theorem dX8_land_13 : decode cX8_land 13 = .ok (.ireturn, 1) := by decide +kernel
theorem dX8_land_14 : decode cX8_land 14 = .ok (.iload_n 2, 1) := by decide +kernel
theorem dX8_land_15 : decode cX8_land 15 = .ok (.iconst 0, 1) := by decide +kernel
theorem dX8_land_16 : decode cX8_land 16 = .ok (.iconst 2, 1) := by decide +kernel
theorem dX8_land_17 : decode cX8_land 17 = .ok (.invokestatic 65, 3) := by decide +kernel
theorem dX8_land_20 : decode cX8_land 20 = .ok (.ifCond .ne 6, 3) := by decide +kernel
theorem dX8_land_23 : decode cX8_land 23 = .ok (.bipush (-2), 2) := by decide +kernel
theorem dX8_land_25 : decode cX8_land 25 = .ok (.ireturn, 1) := by decide +kernel
theorem dX8_land_26 : decode cX8_land 26 = .ok (.aload_n 0, 1) := by decide +kernel
theorem dX8_land_27 : decode cX8_land 27 = .ok (.getfield 13, 3) := by decide +kernel
theorem dX8_land_30 : decode cX8_land 30 = .ok (.iload_n 1, 1) := by decide +kernel
theorem dX8_land_31 : decode cX8_land 31 = .ok (.aaload, 1) := by decide +kernel
theorem dX8_land_32 : decode cX8_land 32 = .ok (.astore 5, 2) := by decide +kernel
theorem dX8_land_34 : decode cX8_land 34 = .ok (.aload 5, 2) := by decide +kernel
theorem dX8_land_36 : decode cX8_land 36 = .ok (.iload_n 2, 1) := by decide +kernel
theorem dX8_land_37 : decode cX8_land 37 = .ok (.invokevirtual 69, 3) := by decide +kernel
theorem dX8_land_40 : decode cX8_land 40 = .ok (.istore 6, 2) := by decide +kernel
theorem dX8_land_42 : decode cX8_land 42 = .ok (.iload 6, 2) := by decide +kernel
theorem dX8_land_44 : decode cX8_land 44 = .ok (.ifCond .ne 11, 3) := by decide +kernel
theorem dX8_land_47 : decode cX8_land 47 = .ok (.iload 4, 2) := by decide +kernel
theorem dX8_land_49 : decode cX8_land 49 = .ok (.ifCond .ge 6, 3) := by decide +kernel
theorem dX8_land_52 : decode cX8_land 52 = .ok (.iconst 4, 1) := by decide +kernel
theorem dX8_land_53 : decode cX8_land 53 = .ok (.istore 6, 2) := by decide +kernel
theorem dX8_land_55 : decode cX8_land 55 = .ok (.iload 6, 2) := by decide +kernel
theorem dX8_land_57 : decode cX8_land 57 = .ok (.ifCond .ne 17, 3) := by decide +kernel
theorem dX8_land_60 : decode cX8_land 60 = .ok (.aload 5, 2) := by decide +kernel
theorem dX8_land_62 : decode cX8_land 62 = .ok (.iload_n 3, 1) := by decide +kernel
theorem dX8_land_63 : decode cX8_land 63 = .ok (.iload 4, 2) := by decide +kernel
theorem dX8_land_65 : decode cX8_land 65 = .ok (.invokevirtual 73, 3) := by decide +kernel
theorem dX8_land_68 : decode cX8_land 68 = .ok (.ifCond .ne 6, 3) := by decide +kernel
theorem dX8_land_71 : decode cX8_land 71 = .ok (.iconst 3, 1) := by decide +kernel
theorem dX8_land_72 : decode cX8_land 72 = .ok (.istore 6, 2) := by decide +kernel
theorem dX8_land_74 : decode cX8_land 74 = .ok (.iload 6, 2) := by decide +kernel
theorem dX8_land_76 : decode cX8_land 76 = .ok (.ifCond .eq 10, 3) := by decide +kernel
theorem dX8_land_79 : decode cX8_land 79 = .ok (.aload_n 0, 1) := by decide +kernel
theorem dX8_land_80 : decode cX8_land 80 = .ok (.iload 6, 2) := by decide +kernel
theorem dX8_land_82 : decode cX8_land 82 = .ok (.invokevirtual 77, 3) := by decide +kernel
theorem dX8_land_85 : decode cX8_land 85 = .ok (.ireturn, 1) := by decide +kernel
theorem dX8_land_86 : decode cX8_land 86 = .ok (.aload_n 0, 1) := by decide +kernel
theorem dX8_land_87 : decode cX8_land 87 = .ok (.getfield 21, 3) := by decide +kernel
theorem dX8_land_90 : decode cX8_land 90 = .ok (.aload 5, 2) := by decide +kernel
theorem dX8_land_92 : decode cX8_land 92 = .ok (.iload_n 3, 1) := by decide +kernel
theorem dX8_land_93 : decode cX8_land 93 = .ok (.iload 4, 2) := by decide +kernel
theorem dX8_land_95 : decode cX8_land 95 = .ok (.invokevirtual 80, 3) := by decide +kernel
theorem dX8_land_98 : decode cX8_land 98 = .ok (.ifCond .ne 14, 3) := by decide +kernel
theorem dX8_land_101 : decode cX8_land 101 = .ok (.bipush (-100), 2) := by decide +kernel
theorem dX8_land_103 : decode cX8_land 103 = .ok (.aload_n 0, 1) := by decide +kernel
theorem dX8_land_104 : decode cX8_land 104 = .ok (.getfield 21, 3) := by decide +kernel
theorem dX8_land_107 : decode cX8_land 107 = .ok (.getfield 84, 3) := by decide +kernel
theorem dX8_land_110 : decode cX8_land 110 = .ok (.isub, 1) := by decide +kernel
theorem dX8_land_111 : decode cX8_land 111 = .ok (.ireturn, 1) := by decide +kernel
theorem dX8_land_112 : decode cX8_land 112 = .ok (.aload_n 0, 1) := by decide +kernel
theorem dX8_land_113 : decode cX8_land 113 = .ok (.getfield 28, 3) := by decide +kernel
theorem dX8_land_116 : decode cX8_land 116 = .ok (.aload_n 0, 1) := by decide +kernel
theorem dX8_land_117 : decode cX8_land 117 = .ok (.getfield 21, 3) := by decide +kernel
theorem dX8_land_120 : decode cX8_land 120 = .ok (.invokevirtual 87, 3) := by decide +kernel
theorem dX8_land_123 : decode cX8_land 123 = .ok (.aload_n 0, 1) := by decide +kernel
theorem dX8_land_124 : decode cX8_land 124 = .ok (.getfield 53, 3) := by decide +kernel
theorem dX8_land_127 : decode cX8_land 127 = .ok (.iconst 0, 1) := by decide +kernel
theorem dX8_land_128 : decode cX8_land 128 = .ok (.putfield 91, 3) := by decide +kernel
theorem dX8_land_131 : decode cX8_land 131 = .ok (.aload_n 0, 1) := by decide +kernel
theorem dX8_land_132 : decode cX8_land 132 = .ok (.getfield 28, 3) := by decide +kernel
theorem dX8_land_135 : decode cX8_land 135 = .ok (.getfield 94, 3) := by decide +kernel
theorem dX8_land_138 : decode cX8_land 138 = .ok (.ireturn, 1) := by decide +kernel
set_option maxRecDepth 20000 in
theorem ggX8_ofCell_X2_hasCell : GoodIn wsX8_ofCell wsX2_hasCell := goodIn_r _ [8, 9, 10, 11, 12, 56, 57, 58, 59, 60, 61, 62, 63, 64, 65, 66, 67, 68] (by decide +kernel) (by decide +kernel)
set_option maxRecDepth 20000 in
theorem gX8_ofCell_X2_hasCell : GoodIn wsX8_ofCell (wsV RX8 97 RX2 yX2_hasCell wsX2_hasCell) := goodIn_app (goodIn_of _ (by decide +kernel)) ggX8_ofCell_X2_hasCell
set_option maxRecDepth 20000 in
theorem ggX8_ofCell_X2_topOf : GoodIn wsX8_ofCell wsX2_topOf := goodIn_r _ [16, 17, 18, 19, 20, 7, 21, 22, 23, 24, 25, 26, 27, 28, 29, 30, 31, 32, 33, 34, 35, 11, 36, 37, 38, 39, 40, 41, 42, 43, 44, 45, 46, 47, 56, 57, 58, 59, 60, 61, 62, 63, 64, 65, 66, 67, 68, 69, 70, 71, 72, 73, 74] (by decide +kernel) (by decide +kernel)
set_option maxRecDepth 20000 in
theorem gX8_ofCell_X2_topOf : GoodIn wsX8_ofCell (wsV RX8 104 RX2 yX2_topOf wsX2_topOf) := goodIn_app (goodIn_of _ (by decide +kernel)) ggX8_ofCell_X2_topOf
theorem dX8_ofCell_0 : decode cX8_ofCell 0 = .ok (.aload_n 0, 1) := by decide +kernel
theorem dX8_ofCell_1 : decode cX8_ofCell 1 = .ok (.getfield 28, 3) := by decide +kernel
theorem dX8_ofCell_4 : decode cX8_ofCell 4 = .ok (.iload_n 1, 1) := by decide +kernel
theorem dX8_ofCell_5 : decode cX8_ofCell 5 = .ok (.invokevirtual 97, 3) := by decide +kernel
theorem dX8_ofCell_8 : decode cX8_ofCell 8 = .ok (.ifCond .ne 5, 3) := by decide +kernel
theorem dX8_ofCell_11 : decode cX8_ofCell 11 = .ok (.iconst (-1), 1) := by decide +kernel
theorem dX8_ofCell_12 : decode cX8_ofCell 12 = .ok (.ireturn, 1) := by decide +kernel
theorem dX8_ofCell_13 : decode cX8_ofCell 13 = .ok (.iload_n 2, 1) := by decide +kernel
theorem dX8_ofCell_14 : decode cX8_ofCell 14 = .ok (.tableswitch 55 0 2 #[26, 36, 45], 26) := by decide +kernel
theorem dX8_ofCell_40 : decode cX8_ofCell 40 = .ok (.aload_n 0, 1) := by decide +kernel
theorem dX8_ofCell_41 : decode cX8_ofCell 41 = .ok (.getfield 28, 3) := by decide +kernel
theorem dX8_ofCell_44 : decode cX8_ofCell 44 = .ok (.getfield 100, 3) := by decide +kernel
theorem dX8_ofCell_47 : decode cX8_ofCell 47 = .ok (.iload_n 1, 1) := by decide +kernel
theorem dX8_ofCell_48 : decode cX8_ofCell 48 = .ok (.iaload, 1) := by decide +kernel
theorem dX8_ofCell_49 : decode cX8_ofCell 49 = .ok (.ireturn, 1) := by decide +kernel
theorem dX8_ofCell_50 : decode cX8_ofCell 50 = .ok (.aload_n 0, 1) := by decide +kernel
theorem dX8_ofCell_51 : decode cX8_ofCell 51 = .ok (.getfield 28, 3) := by decide +kernel
theorem dX8_ofCell_54 : decode cX8_ofCell 54 = .ok (.iload_n 1, 1) := by decide +kernel
theorem dX8_ofCell_55 : decode cX8_ofCell 55 = .ok (.invokevirtual 104, 3) := by decide +kernel
theorem dX8_ofCell_58 : decode cX8_ofCell 58 = .ok (.ireturn, 1) := by decide +kernel
theorem dX8_ofCell_59 : decode cX8_ofCell 59 = .ok (.aload_n 0, 1) := by decide +kernel
theorem dX8_ofCell_60 : decode cX8_ofCell 60 = .ok (.getfield 28, 3) := by decide +kernel
theorem dX8_ofCell_63 : decode cX8_ofCell 63 = .ok (.getfield 107, 3) := by decide +kernel
theorem dX8_ofCell_66 : decode cX8_ofCell 66 = .ok (.iload_n 1, 1) := by decide +kernel
theorem dX8_ofCell_67 : decode cX8_ofCell 67 = .ok (.iaload, 1) := by decide +kernel
theorem dX8_ofCell_68 : decode cX8_ofCell 68 = .ok (.ireturn, 1) := by decide +kernel
theorem dX8_ofCell_69 : decode cX8_ofCell 69 = .ok (.bipush (-2), 2) := by decide +kernel
theorem dX8_ofCell_71 : decode cX8_ofCell 71 = .ok (.ireturn, 1) := by decide +kernel
set_option maxRecDepth 20000 in
theorem ggX8_ofHouse_X2_hasHouse : GoodIn wsX8_ofHouse wsX2_hasHouse := goodIn_r _ [12, 13, 14, 15, 16, 36, 37, 38, 39, 40, 41, 42, 43, 44, 45, 46, 47, 48] (by decide +kernel) (by decide +kernel)
set_option maxRecDepth 20000 in
theorem gX8_ofHouse_X2_hasHouse : GoodIn wsX8_ofHouse (wsV RX8 110 RX2 yX2_hasHouse wsX2_hasHouse) := goodIn_app (goodIn_of _ (by decide +kernel)) ggX8_ofHouse_X2_hasHouse
set_option maxRecDepth 20000 in
theorem ggX8_ofHouse_X1_tallWith : GoodIn wsX8_ofHouse wsX1_tallWith := goodIn_r _ [21, 22, 23, 24, 25, 20, 26, 27, 49, 50, 51, 52] (by decide +kernel) (by decide +kernel)
set_option maxRecDepth 20000 in
theorem gX8_ofHouse_X1_tallWith : GoodIn wsX8_ofHouse (wsV RX8 132 RX1 yX1_tallWith wsX1_tallWith) := goodIn_app (goodIn_of _ (by decide +kernel)) ggX8_ofHouse_X1_tallWith
theorem dX8_ofHouse_0 : decode cX8_ofHouse 0 = .ok (.aload_n 0, 1) := by decide +kernel
theorem dX8_ofHouse_1 : decode cX8_ofHouse 1 = .ok (.getfield 28, 3) := by decide +kernel
theorem dX8_ofHouse_4 : decode cX8_ofHouse 4 = .ok (.iload_n 1, 1) := by decide +kernel
theorem dX8_ofHouse_5 : decode cX8_ofHouse 5 = .ok (.invokevirtual 110, 3) := by decide +kernel
theorem dX8_ofHouse_8 : decode cX8_ofHouse 8 = .ok (.ifCond .ne 5, 3) := by decide +kernel
theorem dX8_ofHouse_11 : decode cX8_ofHouse 11 = .ok (.iconst (-1), 1) := by decide +kernel
theorem dX8_ofHouse_12 : decode cX8_ofHouse 12 = .ok (.ireturn, 1) := by decide +kernel
theorem dX8_ofHouse_13 : decode cX8_ofHouse 13 = .ok (.aload_n 0, 1) := by decide +kernel
theorem dX8_ofHouse_14 : decode cX8_ofHouse 14 = .ok (.getfield 28, 3) := by decide +kernel
theorem dX8_ofHouse_17 : decode cX8_ofHouse 17 = .ok (.getfield 113, 3) := by decide +kernel
theorem dX8_ofHouse_20 : decode cX8_ofHouse 20 = .ok (.iload_n 1, 1) := by decide +kernel
theorem dX8_ofHouse_21 : decode cX8_ofHouse 21 = .ok (.aaload, 1) := by decide +kernel
theorem dX8_ofHouse_22 : decode cX8_ofHouse 22 = .ok (.astore_n 3, 1) := by decide +kernel
theorem dX8_ofHouse_23 : decode cX8_ofHouse 23 = .ok (.iload_n 2, 1) := by decide +kernel
theorem dX8_ofHouse_24 : decode cX8_ofHouse 24 = .ok (.tableswitch 72 0 4 #[36, 41, 46, 51, 67], 36) := by decide +kernel
theorem dX8_ofHouse_60 : decode cX8_ofHouse 60 = .ok (.aload_n 3, 1) := by decide +kernel
theorem dX8_ofHouse_61 : decode cX8_ofHouse 61 = .ok (.getfield 117, 3) := by decide +kernel
theorem dX8_ofHouse_64 : decode cX8_ofHouse 64 = .ok (.ireturn, 1) := by decide +kernel
theorem dX8_ofHouse_65 : decode cX8_ofHouse 65 = .ok (.aload_n 3, 1) := by decide +kernel
theorem dX8_ofHouse_66 : decode cX8_ofHouse 66 = .ok (.getfield 122, 3) := by decide +kernel
theorem dX8_ofHouse_69 : decode cX8_ofHouse 69 = .ok (.ireturn, 1) := by decide +kernel
theorem dX8_ofHouse_70 : decode cX8_ofHouse 70 = .ok (.aload_n 3, 1) := by decide +kernel
theorem dX8_ofHouse_71 : decode cX8_ofHouse 71 = .ok (.getfield 123, 3) := by decide +kernel
theorem dX8_ofHouse_74 : decode cX8_ofHouse 74 = .ok (.ireturn, 1) := by decide +kernel
theorem dX8_ofHouse_75 : decode cX8_ofHouse 75 = .ok (.aload_n 3, 1) := by decide +kernel
theorem dX8_ofHouse_76 : decode cX8_ofHouse 76 = .ok (.aload_n 3, 1) := by decide +kernel
theorem dX8_ofHouse_77 : decode cX8_ofHouse 77 = .ok (.getfield 126, 3) := by decide +kernel
theorem dX8_ofHouse_80 : decode cX8_ofHouse 80 = .ok (.aload_n 0, 1) := by decide +kernel
theorem dX8_ofHouse_81 : decode cX8_ofHouse 81 = .ok (.getfield 28, 3) := by decide +kernel
theorem dX8_ofHouse_84 : decode cX8_ofHouse 84 = .ok (.getfield 129, 3) := by decide +kernel
theorem dX8_ofHouse_87 : decode cX8_ofHouse 87 = .ok (.invokevirtual 132, 3) := by decide +kernel
theorem dX8_ofHouse_90 : decode cX8_ofHouse 90 = .ok (.ireturn, 1) := by decide +kernel
theorem dX8_ofHouse_91 : decode cX8_ofHouse 91 = .ok (.aload_n 3, 1) := by decide +kernel
theorem dX8_ofHouse_92 : decode cX8_ofHouse 92 = .ok (.getfield 126, 3) := by decide +kernel
theorem dX8_ofHouse_95 : decode cX8_ofHouse 95 = .ok (.ireturn, 1) := by decide +kernel
theorem dX8_ofHouse_96 : decode cX8_ofHouse 96 = .ok (.bipush (-2), 2) := by decide +kernel
theorem dX8_ofHouse_98 : decode cX8_ofHouse 98 = .ok (.ireturn, 1) := by decide +kernel
set_option maxRecDepth 20000 in
theorem ggX8_ofTree_X2_hasTree : GoodIn wsX8_ofTree wsX2_hasTree := goodIn_r _ [11, 12, 13, 14, 15, 33, 34, 35, 36, 37, 38, 39, 40, 41, 42, 43, 44, 45] (by decide +kernel) (by decide +kernel)
set_option maxRecDepth 20000 in
theorem gX8_ofTree_X2_hasTree : GoodIn wsX8_ofTree (wsV RX8 136 RX2 yX2_hasTree wsX2_hasTree) := goodIn_app (goodIn_of _ (by decide +kernel)) ggX8_ofTree_X2_hasTree
set_option maxRecDepth 20000 in
theorem ggX8_ofTree_X2_treeTall : GoodIn wsX8_ofTree wsX2_treeTall := goodIn_r _ [19, 20, 21, 22, 14, 23, 33, 34, 35, 36, 37, 38, 39, 40, 41, 42, 43, 44, 45, 46, 47] (by decide +kernel) (by decide +kernel)
set_option maxRecDepth 20000 in
theorem gX8_ofTree_X2_treeTall : GoodIn wsX8_ofTree (wsV RX8 153 RX2 yX2_treeTall wsX2_treeTall) := goodIn_app (goodIn_of _ (by decide +kernel)) ggX8_ofTree_X2_treeTall
set_option maxRecDepth 20000 in
theorem ggX8_ofTree_X8_isIn : GoodIn wsX8_ofTree wsX8_isIn := goodIn_r _ [23] (by decide +kernel) (by decide +kernel)
set_option maxRecDepth 20000 in
theorem gX8_ofTree_X8_isIn : GoodIn wsX8_ofTree (va_wsS RX8 157 yX8_isIn wsX8_isIn) := goodIn_app (goodIn_of _ (by decide +kernel)) ggX8_ofTree_X8_isIn
theorem dX8_ofTree_0 : decode cX8_ofTree 0 = .ok (.aload_n 0, 1) := by decide +kernel
theorem dX8_ofTree_1 : decode cX8_ofTree 1 = .ok (.getfield 28, 3) := by decide +kernel
theorem dX8_ofTree_4 : decode cX8_ofTree 4 = .ok (.iload_n 1, 1) := by decide +kernel
theorem dX8_ofTree_5 : decode cX8_ofTree 5 = .ok (.invokevirtual 136, 3) := by decide +kernel
theorem dX8_ofTree_8 : decode cX8_ofTree 8 = .ok (.ifCond .ne 5, 3) := by decide +kernel
theorem dX8_ofTree_11 : decode cX8_ofTree 11 = .ok (.iconst (-1), 1) := by decide +kernel
theorem dX8_ofTree_12 : decode cX8_ofTree 12 = .ok (.ireturn, 1) := by decide +kernel
theorem dX8_ofTree_13 : decode cX8_ofTree 13 = .ok (.iload_n 2, 1) := by decide +kernel
theorem dX8_ofTree_14 : decode cX8_ofTree 14 = .ok (.tableswitch 99 0 3 #[30, 43, 56, 79], 30) := by decide +kernel
theorem dX8_ofTree_44 : decode cX8_ofTree 44 = .ok (.aload_n 0, 1) := by decide +kernel
theorem dX8_ofTree_45 : decode cX8_ofTree 45 = .ok (.getfield 28, 3) := by decide +kernel
theorem dX8_ofTree_48 : decode cX8_ofTree 48 = .ok (.getfield 139, 3) := by decide +kernel
theorem dX8_ofTree_51 : decode cX8_ofTree 51 = .ok (.iload_n 1, 1) := by decide +kernel
theorem dX8_ofTree_52 : decode cX8_ofTree 52 = .ok (.aaload, 1) := by decide +kernel
theorem dX8_ofTree_53 : decode cX8_ofTree 53 = .ok (.getfield 143, 3) := by decide +kernel
theorem dX8_ofTree_56 : decode cX8_ofTree 56 = .ok (.ireturn, 1) := by decide +kernel
theorem dX8_ofTree_57 : decode cX8_ofTree 57 = .ok (.aload_n 0, 1) := by decide +kernel
theorem dX8_ofTree_58 : decode cX8_ofTree 58 = .ok (.getfield 28, 3) := by decide +kernel
theorem dX8_ofTree_61 : decode cX8_ofTree 61 = .ok (.getfield 139, 3) := by decide +kernel
theorem dX8_ofTree_64 : decode cX8_ofTree 64 = .ok (.iload_n 1, 1) := by decide +kernel
theorem dX8_ofTree_65 : decode cX8_ofTree 65 = .ok (.aaload, 1) := by decide +kernel
theorem dX8_ofTree_66 : decode cX8_ofTree 66 = .ok (.getfield 146, 3) := by decide +kernel
theorem dX8_ofTree_69 : decode cX8_ofTree 69 = .ok (.ireturn, 1) := by decide +kernel
theorem dX8_ofTree_70 : decode cX8_ofTree 70 = .ok (.aload_n 0, 1) := by decide +kernel
theorem dX8_ofTree_71 : decode cX8_ofTree 71 = .ok (.getfield 28, 3) := by decide +kernel
theorem dX8_ofTree_74 : decode cX8_ofTree 74 = .ok (.iload_n 1, 1) := by decide +kernel
theorem dX8_ofTree_75 : decode cX8_ofTree 75 = .ok (.aload_n 0, 1) := by decide +kernel
theorem dX8_ofTree_76 : decode cX8_ofTree 76 = .ok (.getfield 28, 3) := by decide +kernel
theorem dX8_ofTree_79 : decode cX8_ofTree 79 = .ok (.getfield 147, 3) := by decide +kernel
theorem dX8_ofTree_82 : decode cX8_ofTree 82 = .ok (.aload_n 0, 1) := by decide +kernel
theorem dX8_ofTree_83 : decode cX8_ofTree 83 = .ok (.getfield 28, 3) := by decide +kernel
theorem dX8_ofTree_86 : decode cX8_ofTree 86 = .ok (.getfield 150, 3) := by decide +kernel
theorem dX8_ofTree_89 : decode cX8_ofTree 89 = .ok (.invokevirtual 153, 3) := by decide +kernel
theorem dX8_ofTree_92 : decode cX8_ofTree 92 = .ok (.ireturn, 1) := by decide +kernel
theorem dX8_ofTree_93 : decode cX8_ofTree 93 = .ok (.iload_n 1, 1) := by decide +kernel
theorem dX8_ofTree_94 : decode cX8_ofTree 94 = .ok (.aload_n 0, 1) := by decide +kernel
theorem dX8_ofTree_95 : decode cX8_ofTree 95 = .ok (.getfield 28, 3) := by decide +kernel
theorem dX8_ofTree_98 : decode cX8_ofTree 98 = .ok (.getfield 150, 3) := by decide +kernel
theorem dX8_ofTree_101 : decode cX8_ofTree 101 = .ok (.invokestatic 157, 3) := by decide +kernel
theorem dX8_ofTree_104 : decode cX8_ofTree 104 = .ok (.ifCond .eq 7, 3) := by decide +kernel
theorem dX8_ofTree_107 : decode cX8_ofTree 107 = .ok (.iconst 1, 1) := by decide +kernel
theorem dX8_ofTree_108 : decode cX8_ofTree 108 = .ok (.goto 4, 3) := by decide +kernel
theorem dX8_ofTree_111 : decode cX8_ofTree 111 = .ok (.iconst 0, 1) := by decide +kernel
theorem dX8_ofTree_112 : decode cX8_ofTree 112 = .ok (.ireturn, 1) := by decide +kernel
theorem dX8_ofTree_113 : decode cX8_ofTree 113 = .ok (.bipush (-2), 2) := by decide +kernel
theorem dX8_ofTree_115 : decode cX8_ofTree 115 = .ok (.ireturn, 1) := by decide +kernel
set_option maxRecDepth 20000 in
theorem ggX8_times_X8_isWithin : GoodIn wsX8_times wsX8_isWithin := goodIn_r _ [8] (by decide +kernel) (by decide +kernel)
set_option maxRecDepth 20000 in
theorem gX8_times_X8_isWithin : GoodIn wsX8_times (va_wsS RX8 65 yX8_isWithin wsX8_isWithin) := goodIn_app (goodIn_of _ (by decide +kernel)) ggX8_times_X8_isWithin
set_option maxRecDepth 20000 in
theorem ggX8_times_X2_isThere : GoodIn wsX8_times wsX2_isThere := goodIn_r _ [13, 14, 23, 24, 25, 26, 27, 28, 29, 30, 31, 32, 33, 34, 35] (by decide +kernel) (by decide +kernel)
set_option maxRecDepth 20000 in
theorem gX8_times_X2_isThere : GoodIn wsX8_times (wsV RX8 160 RX2 yX2_isThere wsX2_isThere) := goodIn_app (goodIn_of _ (by decide +kernel)) ggX8_times_X2_isThere
theorem dX8_times_0 : decode cX8_times 0 = .ok (.iload_n 1, 1) := by decide +kernel
theorem dX8_times_1 : decode cX8_times 1 = .ok (.iconst 0, 1) := by decide +kernel
theorem dX8_times_2 : decode cX8_times 2 = .ok (.bipush 30, 2) := by decide +kernel
theorem dX8_times_4 : decode cX8_times 4 = .ok (.invokestatic 65, 3) := by decide +kernel
theorem dX8_times_7 : decode cX8_times 7 = .ok (.ifCond .eq 22, 3) := by decide +kernel
theorem dX8_times_10 : decode cX8_times 10 = .ok (.iload_n 2, 1) := by decide +kernel
theorem dX8_times_11 : decode cX8_times 11 = .ok (.iconst 1, 1) := by decide +kernel
theorem dX8_times_12 : decode cX8_times 12 = .ok (.bipush 9, 2) := by decide +kernel
theorem dX8_times_14 : decode cX8_times 14 = .ok (.invokestatic 65, 3) := by decide +kernel
theorem dX8_times_17 : decode cX8_times 17 = .ok (.ifCond .eq 12, 3) := by decide +kernel
theorem dX8_times_20 : decode cX8_times 20 = .ok (.iload_n 3, 1) := by decide +kernel
theorem dX8_times_21 : decode cX8_times 21 = .ok (.iconst 0, 1) := by decide +kernel
theorem dX8_times_22 : decode cX8_times 22 = .ok (.iconst 1, 1) := by decide +kernel
theorem dX8_times_23 : decode cX8_times 23 = .ok (.invokestatic 65, 3) := by decide +kernel
theorem dX8_times_26 : decode cX8_times 26 = .ok (.ifCond .ne 6, 3) := by decide +kernel
theorem dX8_times_29 : decode cX8_times 29 = .ok (.bipush (-2), 2) := by decide +kernel
theorem dX8_times_31 : decode cX8_times 31 = .ok (.ireturn, 1) := by decide +kernel
theorem dX8_times_32 : decode cX8_times 32 = .ok (.aload_n 0, 1) := by decide +kernel
theorem dX8_times_33 : decode cX8_times 33 = .ok (.getfield 28, 3) := by decide +kernel
theorem dX8_times_36 : decode cX8_times 36 = .ok (.invokevirtual 160, 3) := by decide +kernel
theorem dX8_times_39 : decode cX8_times 39 = .ok (.ifCond .ne 6, 3) := by decide +kernel
theorem dX8_times_42 : decode cX8_times 42 = .ok (.bipush (-3), 2) := by decide +kernel
theorem dX8_times_44 : decode cX8_times 44 = .ok (.ireturn, 1) := by decide +kernel
theorem dX8_times_45 : decode cX8_times 45 = .ok (.aload_n 0, 1) := by decide +kernel
theorem dX8_times_46 : decode cX8_times 46 = .ok (.getfield 28, 3) := by decide +kernel
theorem dX8_times_49 : decode cX8_times 49 = .ok (.getfield 147, 3) := by decide +kernel
theorem dX8_times_52 : decode cX8_times 52 = .ok (.iload_n 1, 1) := by decide +kernel
theorem dX8_times_53 : decode cX8_times 53 = .ok (.if_icmp .ne 27, 3) := by decide +kernel
theorem dX8_times_56 : decode cX8_times 56 = .ok (.aload_n 0, 1) := by decide +kernel
theorem dX8_times_57 : decode cX8_times 57 = .ok (.getfield 28, 3) := by decide +kernel
theorem dX8_times_60 : decode cX8_times 60 = .ok (.getfield 164, 3) := by decide +kernel
theorem dX8_times_63 : decode cX8_times 63 = .ok (.iload_n 2, 1) := by decide +kernel
theorem dX8_times_64 : decode cX8_times 64 = .ok (.if_icmp .ne 16, 3) := by decide +kernel
theorem dX8_times_67 : decode cX8_times 67 = .ok (.aload_n 0, 1) := by decide +kernel
theorem dX8_times_68 : decode cX8_times 68 = .ok (.getfield 28, 3) := by decide +kernel
theorem dX8_times_71 : decode cX8_times 71 = .ok (.getfield 129, 3) := by decide +kernel
theorem dX8_times_74 : decode cX8_times 74 = .ok (.iload_n 3, 1) := by decide +kernel
theorem dX8_times_75 : decode cX8_times 75 = .ok (.if_icmp .ne 5, 3) := by decide +kernel
theorem dX8_times_78 : decode cX8_times 78 = .ok (.iconst 0, 1) := by decide +kernel
theorem dX8_times_79 : decode cX8_times 79 = .ok (.ireturn, 1) := by decide +kernel
theorem dX8_times_80 : decode cX8_times 80 = .ok (.aload_n 0, 1) := by decide +kernel
theorem dX8_times_81 : decode cX8_times 81 = .ok (.getfield 28, 3) := by decide +kernel
theorem dX8_times_84 : decode cX8_times 84 = .ok (.iload_n 1, 1) := by decide +kernel
theorem dX8_times_85 : decode cX8_times 85 = .ok (.putfield 147, 3) := by decide +kernel
theorem dX8_times_88 : decode cX8_times 88 = .ok (.aload_n 0, 1) := by decide +kernel
theorem dX8_times_89 : decode cX8_times 89 = .ok (.getfield 28, 3) := by decide +kernel
theorem dX8_times_92 : decode cX8_times 92 = .ok (.iload_n 2, 1) := by decide +kernel
theorem dX8_times_93 : decode cX8_times 93 = .ok (.putfield 164, 3) := by decide +kernel
theorem dX8_times_96 : decode cX8_times 96 = .ok (.aload_n 0, 1) := by decide +kernel
theorem dX8_times_97 : decode cX8_times 97 = .ok (.getfield 28, 3) := by decide +kernel
theorem dX8_times_100 : decode cX8_times 100 = .ok (.iload_n 3, 1) := by decide +kernel
theorem dX8_times_101 : decode cX8_times 101 = .ok (.putfield 129, 3) := by decide +kernel
theorem dX8_times_104 : decode cX8_times 104 = .ok (.iconst 1, 1) := by decide +kernel
theorem dX8_times_105 : decode cX8_times 105 = .ok (.ireturn, 1) := by decide +kernel
set_option maxRecDepth 20000 in
theorem ggX8_wall_X2_hasCell : GoodIn wsX8_wall wsX2_hasCell := goodIn_r _ [7, 8, 9, 10, 11, 26, 27, 28, 29, 30, 31, 32, 33, 34, 35, 36, 37, 38] (by decide +kernel) (by decide +kernel)
set_option maxRecDepth 20000 in
theorem gX8_wall_X2_hasCell : GoodIn wsX8_wall (wsV RX8 97 RX2 yX2_hasCell wsX2_hasCell) := goodIn_app (goodIn_of _ (by decide +kernel)) ggX8_wall_X2_hasCell
set_option maxRecDepth 20000 in
theorem ggX8_wall_X8_isWithin : GoodIn wsX8_wall wsX8_isWithin := goodIn_r _ [11] (by decide +kernel) (by decide +kernel)
set_option maxRecDepth 20000 in
theorem gX8_wall_X8_isWithin : GoodIn wsX8_wall (va_wsS RX8 65 yX8_isWithin wsX8_isWithin) := goodIn_app (goodIn_of _ (by decide +kernel)) ggX8_wall_X8_isWithin
set_option maxRecDepth 20000 in
theorem ggX8_wall_X2_hasNothing : GoodIn wsX8_wall wsX2_hasNothing := goodIn_r _ [16, 17, 26, 27, 28, 29, 30, 31, 32, 33, 34, 35, 36, 37, 38] (by decide +kernel) (by decide +kernel)
set_option maxRecDepth 20000 in
theorem gX8_wall_X2_hasNothing : GoodIn wsX8_wall (wsV RX8 167 RX2 yX2_hasNothing wsX2_hasNothing) := goodIn_app (goodIn_of _ (by decide +kernel)) ggX8_wall_X2_hasNothing
theorem dX8_wall_0 : decode cX8_wall 0 = .ok (.aload_n 0, 1) := by decide +kernel
theorem dX8_wall_1 : decode cX8_wall 1 = .ok (.getfield 28, 3) := by decide +kernel
theorem dX8_wall_4 : decode cX8_wall 4 = .ok (.iload_n 1, 1) := by decide +kernel
theorem dX8_wall_5 : decode cX8_wall 5 = .ok (.invokevirtual 97, 3) := by decide +kernel
theorem dX8_wall_8 : decode cX8_wall 8 = .ok (.ifCond .ne 5, 3) := by decide +kernel
theorem dX8_wall_11 : decode cX8_wall 11 = .ok (.iconst (-1), 1) := by decide +kernel
theorem dX8_wall_12 : decode cX8_wall 12 = .ok (.ireturn, 1) := by decide +kernel
theorem dX8_wall_13 : decode cX8_wall 13 = .ok (.iload_n 2, 1) := by decide +kernel
theorem dX8_wall_14 : decode cX8_wall 14 = .ok (.iconst 0, 1) := by decide +kernel
theorem dX8_wall_15 : decode cX8_wall 15 = .ok (.bipush 9, 2) := by decide +kernel
theorem dX8_wall_17 : decode cX8_wall 17 = .ok (.invokestatic 65, 3) := by decide +kernel
theorem dX8_wall_20 : decode cX8_wall 20 = .ok (.ifCond .ne 6, 3) := by decide +kernel
theorem dX8_wall_23 : decode cX8_wall 23 = .ok (.bipush (-2), 2) := by decide +kernel
theorem dX8_wall_25 : decode cX8_wall 25 = .ok (.ireturn, 1) := by decide +kernel
theorem dX8_wall_26 : decode cX8_wall 26 = .ok (.aload_n 0, 1) := by decide +kernel
theorem dX8_wall_27 : decode cX8_wall 27 = .ok (.getfield 28, 3) := by decide +kernel
theorem dX8_wall_30 : decode cX8_wall 30 = .ok (.iload_n 1, 1) := by decide +kernel
theorem dX8_wall_31 : decode cX8_wall 31 = .ok (.invokevirtual 167, 3) := by decide +kernel
theorem dX8_wall_34 : decode cX8_wall 34 = .ok (.ifCond .ne 6, 3) := by decide +kernel
theorem dX8_wall_37 : decode cX8_wall 37 = .ok (.bipush (-3), 2) := by decide +kernel
theorem dX8_wall_39 : decode cX8_wall 39 = .ok (.ireturn, 1) := by decide +kernel
theorem dX8_wall_40 : decode cX8_wall 40 = .ok (.aload_n 0, 1) := by decide +kernel
theorem dX8_wall_41 : decode cX8_wall 41 = .ok (.getfield 28, 3) := by decide +kernel
theorem dX8_wall_44 : decode cX8_wall 44 = .ok (.getfield 170, 3) := by decide +kernel
theorem dX8_wall_47 : decode cX8_wall 47 = .ok (.iload_n 1, 1) := by decide +kernel
theorem dX8_wall_48 : decode cX8_wall 48 = .ok (.iaload, 1) := by decide +kernel
theorem dX8_wall_49 : decode cX8_wall 49 = .ok (.istore_n 3, 1) := by decide +kernel
theorem dX8_wall_50 : decode cX8_wall 50 = .ok (.aload_n 0, 1) := by decide +kernel
theorem dX8_wall_51 : decode cX8_wall 51 = .ok (.getfield 28, 3) := by decide +kernel
theorem dX8_wall_54 : decode cX8_wall 54 = .ok (.getfield 170, 3) := by decide +kernel
theorem dX8_wall_57 : decode cX8_wall 57 = .ok (.iload_n 1, 1) := by decide +kernel
theorem dX8_wall_58 : decode cX8_wall 58 = .ok (.iload_n 2, 1) := by decide +kernel
theorem dX8_wall_59 : decode cX8_wall 59 = .ok (.iastore, 1) := by decide +kernel
theorem dX8_wall_60 : decode cX8_wall 60 = .ok (.iload_n 3, 1) := by decide +kernel
theorem dX8_wall_61 : decode cX8_wall 61 = .ok (.ireturn, 1) := by decide +kernel
set_option maxRecDepth 20000 in
theorem ggX8_floors_X2_hasHouse : GoodIn wsX8_floors wsX2_hasHouse := goodIn_r _ [8, 9, 10, 11, 12, 22, 23, 24, 25, 26, 27, 28, 29, 30, 31, 32, 33, 34] (by decide +kernel) (by decide +kernel)
set_option maxRecDepth 20000 in
theorem gX8_floors_X2_hasHouse : GoodIn wsX8_floors (wsV RX8 110 RX2 yX2_hasHouse wsX2_hasHouse) := goodIn_app (goodIn_of _ (by decide +kernel)) ggX8_floors_X2_hasHouse
set_option maxRecDepth 20000 in
theorem ggX8_floors_X8_isWithin : GoodIn wsX8_floors wsX8_isWithin := goodIn_r _ [12] (by decide +kernel) (by decide +kernel)
set_option maxRecDepth 20000 in
theorem gX8_floors_X8_isWithin : GoodIn wsX8_floors (va_wsS RX8 65 yX8_isWithin wsX8_isWithin) := goodIn_app (goodIn_of _ (by decide +kernel)) ggX8_floors_X8_isWithin
theorem dX8_floors_0 : decode cX8_floors 0 = .ok (.aload_n 0, 1) := by decide +kernel
theorem dX8_floors_1 : decode cX8_floors 1 = .ok (.getfield 28, 3) := by decide +kernel
theorem dX8_floors_4 : decode cX8_floors 4 = .ok (.iload_n 1, 1) := by decide +kernel
theorem dX8_floors_5 : decode cX8_floors 5 = .ok (.invokevirtual 110, 3) := by decide +kernel
theorem dX8_floors_8 : decode cX8_floors 8 = .ok (.ifCond .ne 5, 3) := by decide +kernel
theorem dX8_floors_11 : decode cX8_floors 11 = .ok (.iconst (-1), 1) := by decide +kernel
theorem dX8_floors_12 : decode cX8_floors 12 = .ok (.ireturn, 1) := by decide +kernel
theorem dX8_floors_13 : decode cX8_floors 13 = .ok (.iload_n 2, 1) := by decide +kernel
theorem dX8_floors_14 : decode cX8_floors 14 = .ok (.iconst 0, 1) := by decide +kernel
theorem dX8_floors_15 : decode cX8_floors 15 = .ok (.bipush 9, 2) := by decide +kernel
theorem dX8_floors_17 : decode cX8_floors 17 = .ok (.invokestatic 65, 3) := by decide +kernel
theorem dX8_floors_20 : decode cX8_floors 20 = .ok (.ifCond .ne 6, 3) := by decide +kernel
theorem dX8_floors_23 : decode cX8_floors 23 = .ok (.bipush (-2), 2) := by decide +kernel
theorem dX8_floors_25 : decode cX8_floors 25 = .ok (.ireturn, 1) := by decide +kernel
theorem dX8_floors_26 : decode cX8_floors 26 = .ok (.aload_n 0, 1) := by decide +kernel
theorem dX8_floors_27 : decode cX8_floors 27 = .ok (.getfield 28, 3) := by decide +kernel
theorem dX8_floors_30 : decode cX8_floors 30 = .ok (.getfield 113, 3) := by decide +kernel
theorem dX8_floors_33 : decode cX8_floors 33 = .ok (.iload_n 1, 1) := by decide +kernel
theorem dX8_floors_34 : decode cX8_floors 34 = .ok (.aaload, 1) := by decide +kernel
theorem dX8_floors_35 : decode cX8_floors 35 = .ok (.getfield 126, 3) := by decide +kernel
theorem dX8_floors_38 : decode cX8_floors 38 = .ok (.istore_n 3, 1) := by decide +kernel
theorem dX8_floors_39 : decode cX8_floors 39 = .ok (.aload_n 0, 1) := by decide +kernel
theorem dX8_floors_40 : decode cX8_floors 40 = .ok (.getfield 28, 3) := by decide +kernel
theorem dX8_floors_43 : decode cX8_floors 43 = .ok (.getfield 113, 3) := by decide +kernel
theorem dX8_floors_46 : decode cX8_floors 46 = .ok (.iload_n 1, 1) := by decide +kernel
theorem dX8_floors_47 : decode cX8_floors 47 = .ok (.aaload, 1) := by decide +kernel
theorem dX8_floors_48 : decode cX8_floors 48 = .ok (.iload_n 2, 1) := by decide +kernel
theorem dX8_floors_49 : decode cX8_floors 49 = .ok (.putfield 126, 3) := by decide +kernel
theorem dX8_floors_52 : decode cX8_floors 52 = .ok (.iload_n 3, 1) := by decide +kernel
theorem dX8_floors_53 : decode cX8_floors 53 = .ok (.ireturn, 1) := by decide +kernel
set_option maxRecDepth 20000 in
theorem ggX8_fell_X2_hasTree : GoodIn wsX8_fell wsX2_hasTree := goodIn_r _ [7, 8, 9, 10, 11, 23, 24, 25, 26, 27, 28, 29, 30, 31, 32, 33, 34, 35] (by decide +kernel) (by decide +kernel)
set_option maxRecDepth 20000 in
theorem gX8_fell_X2_hasTree : GoodIn wsX8_fell (wsV RX8 136 RX2 yX2_hasTree wsX2_hasTree) := goodIn_app (goodIn_of _ (by decide +kernel)) ggX8_fell_X2_hasTree
set_option maxRecDepth 20000 in
theorem ggX8_fell_X8_isIn : GoodIn wsX8_fell wsX8_isIn := goodIn_r _ [14] (by decide +kernel) (by decide +kernel)
set_option maxRecDepth 20000 in
theorem gX8_fell_X8_isIn : GoodIn wsX8_fell (va_wsS RX8 157 yX8_isIn wsX8_isIn) := goodIn_app (goodIn_of _ (by decide +kernel)) ggX8_fell_X8_isIn
theorem dX8_fell_0 : decode cX8_fell 0 = .ok (.aload_n 0, 1) := by decide +kernel
theorem dX8_fell_1 : decode cX8_fell 1 = .ok (.getfield 28, 3) := by decide +kernel
theorem dX8_fell_4 : decode cX8_fell 4 = .ok (.iload_n 1, 1) := by decide +kernel
theorem dX8_fell_5 : decode cX8_fell 5 = .ok (.invokevirtual 136, 3) := by decide +kernel
theorem dX8_fell_8 : decode cX8_fell 8 = .ok (.ifCond .ne 5, 3) := by decide +kernel
theorem dX8_fell_11 : decode cX8_fell 11 = .ok (.iconst (-1), 1) := by decide +kernel
theorem dX8_fell_12 : decode cX8_fell 12 = .ok (.ireturn, 1) := by decide +kernel
theorem dX8_fell_13 : decode cX8_fell 13 = .ok (.iload_n 1, 1) := by decide +kernel
theorem dX8_fell_14 : decode cX8_fell 14 = .ok (.aload_n 0, 1) := by decide +kernel
theorem dX8_fell_15 : decode cX8_fell 15 = .ok (.getfield 28, 3) := by decide +kernel
theorem dX8_fell_18 : decode cX8_fell 18 = .ok (.getfield 150, 3) := by decide +kernel
theorem dX8_fell_21 : decode cX8_fell 21 = .ok (.invokestatic 157, 3) := by decide +kernel
theorem dX8_fell_24 : decode cX8_fell 24 = .ok (.iload_n 2, 1) := by decide +kernel
theorem dX8_fell_25 : decode cX8_fell 25 = .ok (.if_icmp .ne 5, 3) := by decide +kernel
theorem dX8_fell_28 : decode cX8_fell 28 = .ok (.iconst 0, 1) := by decide +kernel
theorem dX8_fell_29 : decode cX8_fell 29 = .ok (.ireturn, 1) := by decide +kernel
theorem dX8_fell_30 : decode cX8_fell 30 = .ok (.aload_n 0, 1) := by decide +kernel
theorem dX8_fell_31 : decode cX8_fell 31 = .ok (.getfield 28, 3) := by decide +kernel
theorem dX8_fell_34 : decode cX8_fell 34 = .ok (.dup, 1) := by decide +kernel
theorem dX8_fell_35 : decode cX8_fell 35 = .ok (.getfield 150, 3) := by decide +kernel
theorem dX8_fell_38 : decode cX8_fell 38 = .ok (.iconst 1, 1) := by decide +kernel
theorem dX8_fell_39 : decode cX8_fell 39 = .ok (.iload_n 1, 1) := by decide +kernel
theorem dX8_fell_40 : decode cX8_fell 40 = .ok (.ishl, 1) := by decide +kernel
theorem dX8_fell_41 : decode cX8_fell 41 = .ok (.ixor, 1) := by decide +kernel
theorem dX8_fell_42 : decode cX8_fell 42 = .ok (.putfield 150, 3) := by decide +kernel
theorem dX8_fell_45 : decode cX8_fell 45 = .ok (.iconst 1, 1) := by decide +kernel
theorem dX8_fell_46 : decode cX8_fell 46 = .ok (.ireturn, 1) := by decide +kernel
set_option maxRecDepth 20000 in
theorem ggX8_see_X2_hasHouse : GoodIn wsX8_see wsX2_hasHouse := goodIn_r _ [9, 10, 11, 12, 13, 82, 83, 84, 85, 86, 87, 88, 89, 90, 91, 92, 93, 94] (by decide +kernel) (by decide +kernel)
set_option maxRecDepth 20000 in
theorem gX8_see_X2_hasHouse : GoodIn wsX8_see (wsV RX8 110 RX2 yX2_hasHouse wsX2_hasHouse) := goodIn_app (goodIn_of _ (by decide +kernel)) ggX8_see_X2_hasHouse
set_option maxRecDepth 20000 in
theorem ggX8_see_X5_lookNow : GoodIn wsX8_see wsX5_lookNow := goodIn_r _ [18, 19, 20, 21, 22, 23, 24, 25, 26, 8, 27, 28, 29, 30, 31, 32, 33, 34, 35, 36, 37, 38, 39, 40, 41, 42, 43, 44, 45, 46, 12, 47, 48, 49, 50, 51, 52, 53, 54, 55, 56, 57, 58, 99, 100, 101, 102, 82, 83, 84, 85, 86, 87, 88, 89, 90, 91, 92, 93, 94, 95, 96, 97, 98, 103, 104] (by decide +kernel) (by decide +kernel)
set_option maxRecDepth 20000 in
theorem gX8_see_X5_lookNow : GoodIn wsX8_see (wsV RX8 173 RX5 yX5_lookNow wsX5_lookNow) := goodIn_app (goodIn_of _ (by decide +kernel)) ggX8_see_X5_lookNow
set_option maxRecDepth 20000 in
theorem ggX8_see_X5_isClear : GoodIn wsX8_see wsX5_isClear := goodIn_r _ [62, 19, 63, 64, 65, 66, 67, 68, 69, 70, 21, 23, 71, 12, 72, 73, 99, 100, 101, 102, 82, 83, 84, 85, 86, 87, 88, 89, 90, 91, 92, 93, 94] (by decide +kernel) (by decide +kernel)
set_option maxRecDepth 20000 in
theorem gX8_see_X5_isClear : GoodIn wsX8_see (wsV RX8 176 RX5 yX5_isClear wsX5_isClear) := goodIn_app (goodIn_of _ (by decide +kernel)) ggX8_see_X5_isClear
theorem dX8_see_0 : decode cX8_see 0 = .ok (.aload_n 0, 1) := by decide +kernel
theorem dX8_see_1 : decode cX8_see 1 = .ok (.getfield 28, 3) := by decide +kernel
theorem dX8_see_4 : decode cX8_see 4 = .ok (.iload_n 1, 1) := by decide +kernel
theorem dX8_see_5 : decode cX8_see 5 = .ok (.invokevirtual 110, 3) := by decide +kernel
theorem dX8_see_8 : decode cX8_see 8 = .ok (.ifCond .eq 19, 3) := by decide +kernel
theorem dX8_see_11 : decode cX8_see 11 = .ok (.aload_n 0, 1) := by decide +kernel
theorem dX8_see_12 : decode cX8_see 12 = .ok (.getfield 28, 3) := by decide +kernel
theorem dX8_see_15 : decode cX8_see 15 = .ok (.iload_n 2, 1) := by decide +kernel
theorem dX8_see_16 : decode cX8_see 16 = .ok (.invokevirtual 110, 3) := by decide +kernel
theorem dX8_see_19 : decode cX8_see 19 = .ok (.ifCond .eq 8, 3) := by decide +kernel
theorem dX8_see_22 : decode cX8_see 22 = .ok (.iload_n 1, 1) := by decide +kernel
theorem dX8_see_23 : decode cX8_see 23 = .ok (.iload_n 2, 1) := by decide +kernel
theorem dX8_see_24 : decode cX8_see 24 = .ok (.if_icmp .ne 5, 3) := by decide +kernel
theorem dX8_see_27 : decode cX8_see 27 = .ok (.iconst (-1), 1) := by decide +kernel
theorem dX8_see_28 : decode cX8_see 28 = .ok (.ireturn, 1) := by decide +kernel
theorem dX8_see_29 : decode cX8_see 29 = .ok (.aload_n 0, 1) := by decide +kernel
theorem dX8_see_30 : decode cX8_see 30 = .ok (.getfield 37, 3) := by decide +kernel
theorem dX8_see_33 : decode cX8_see 33 = .ok (.invokevirtual 173, 3) := by decide +kernel
theorem dX8_see_36 : decode cX8_see 36 = .ok (.aload_n 0, 1) := by decide +kernel
theorem dX8_see_37 : decode cX8_see 37 = .ok (.getfield 37, 3) := by decide +kernel
theorem dX8_see_40 : decode cX8_see 40 = .ok (.aload_n 0, 1) := by decide +kernel
theorem dX8_see_41 : decode cX8_see 41 = .ok (.getfield 28, 3) := by decide +kernel
theorem dX8_see_44 : decode cX8_see 44 = .ok (.getfield 113, 3) := by decide +kernel
theorem dX8_see_47 : decode cX8_see 47 = .ok (.iload_n 1, 1) := by decide +kernel
theorem dX8_see_48 : decode cX8_see 48 = .ok (.aaload, 1) := by decide +kernel
theorem dX8_see_49 : decode cX8_see 49 = .ok (.getfield 122, 3) := by decide +kernel
theorem dX8_see_52 : decode cX8_see 52 = .ok (.aload_n 0, 1) := by decide +kernel
theorem dX8_see_53 : decode cX8_see 53 = .ok (.getfield 28, 3) := by decide +kernel
theorem dX8_see_56 : decode cX8_see 56 = .ok (.getfield 113, 3) := by decide +kernel
theorem dX8_see_59 : decode cX8_see 59 = .ok (.iload_n 2, 1) := by decide +kernel
theorem dX8_see_60 : decode cX8_see 60 = .ok (.aaload, 1) := by decide +kernel
theorem dX8_see_61 : decode cX8_see 61 = .ok (.getfield 122, 3) := by decide +kernel
theorem dX8_see_64 : decode cX8_see 64 = .ok (.invokevirtual 176, 3) := by decide +kernel
theorem dX8_see_67 : decode cX8_see 67 = .ok (.ifCond .eq 7, 3) := by decide +kernel
theorem dX8_see_70 : decode cX8_see 70 = .ok (.iconst 1, 1) := by decide +kernel
theorem dX8_see_71 : decode cX8_see 71 = .ok (.goto 4, 3) := by decide +kernel
theorem dX8_see_74 : decode cX8_see 74 = .ok (.iconst 0, 1) := by decide +kernel
theorem dX8_see_75 : decode cX8_see 75 = .ok (.ireturn, 1) := by decide +kernel
set_option maxRecDepth 20000 in
theorem ggX8_number_X2_hasHouse : GoodIn wsX8_number wsX2_hasHouse := goodIn_r _ [7, 8, 9, 10, 11, 91, 92, 93, 94, 95, 96, 97, 98, 99, 100, 101, 102, 103] (by decide +kernel) (by decide +kernel)
set_option maxRecDepth 20000 in
theorem gX8_number_X2_hasHouse : GoodIn wsX8_number (wsV RX8 110 RX2 yX2_hasHouse wsX2_hasHouse) := goodIn_app (goodIn_of _ (by decide +kernel)) ggX8_number_X2_hasHouse
set_option maxRecDepth 20000 in
theorem ggX8_number_X5_lookNow : GoodIn wsX8_number wsX5_lookNow := goodIn_r _ [16, 17, 18, 19, 20, 21, 22, 23, 24, 6, 25, 26, 27, 28, 29, 30, 31, 32, 33, 34, 35, 36, 37, 38, 39, 40, 41, 42, 43, 44, 10, 45, 46, 47, 48, 49, 50, 51, 52, 53, 54, 55, 56, 104, 105, 106, 107, 91, 92, 93, 94, 95, 96, 97, 98, 99, 100, 101, 102, 103, 108, 109, 110, 111, 112, 113] (by decide +kernel) (by decide +kernel)
set_option maxRecDepth 20000 in
theorem gX8_number_X5_lookNow : GoodIn wsX8_number (wsV RX8 173 RX5 yX5_lookNow wsX5_lookNow) := goodIn_app (goodIn_of _ (by decide +kernel)) ggX8_number_X5_lookNow
set_option maxRecDepth 20000 in
theorem ggX8_number_X5_numberOf : GoodIn wsX8_number wsX5_numberOf := goodIn_r _ [60, 17, 61, 62, 63, 64, 65, 15, 66, 67, 68, 69, 70, 71, 72, 73, 74, 75, 76, 77, 78, 79, 19, 21, 80, 10, 81, 82, 104, 105, 106, 107, 91, 92, 93, 94, 95, 96, 97, 98, 99, 100, 101, 102, 103, 108, 109, 110, 111] (by decide +kernel) (by decide +kernel)
set_option maxRecDepth 20000 in
theorem gX8_number_X5_numberOf : GoodIn wsX8_number (wsV RX8 179 RX5 yX5_numberOf wsX5_numberOf) := goodIn_app (goodIn_of _ (by decide +kernel)) ggX8_number_X5_numberOf
theorem dX8_number_0 : decode cX8_number 0 = .ok (.aload_n 0, 1) := by decide +kernel
theorem dX8_number_1 : decode cX8_number 1 = .ok (.getfield 28, 3) := by decide +kernel
theorem dX8_number_4 : decode cX8_number 4 = .ok (.iload_n 1, 1) := by decide +kernel
theorem dX8_number_5 : decode cX8_number 5 = .ok (.invokevirtual 110, 3) := by decide +kernel
theorem dX8_number_8 : decode cX8_number 8 = .ok (.ifCond .ne 5, 3) := by decide +kernel
theorem dX8_number_11 : decode cX8_number 11 = .ok (.iconst (-1), 1) := by decide +kernel
theorem dX8_number_12 : decode cX8_number 12 = .ok (.ireturn, 1) := by decide +kernel
theorem dX8_number_13 : decode cX8_number 13 = .ok (.aload_n 0, 1) := by decide +kernel
theorem dX8_number_14 : decode cX8_number 14 = .ok (.getfield 37, 3) := by decide +kernel
theorem dX8_number_17 : decode cX8_number 17 = .ok (.invokevirtual 173, 3) := by decide +kernel
theorem dX8_number_20 : decode cX8_number 20 = .ok (.aload_n 0, 1) := by decide +kernel
theorem dX8_number_21 : decode cX8_number 21 = .ok (.getfield 37, 3) := by decide +kernel
theorem dX8_number_24 : decode cX8_number 24 = .ok (.iload_n 1, 1) := by decide +kernel
theorem dX8_number_25 : decode cX8_number 25 = .ok (.invokevirtual 179, 3) := by decide +kernel
theorem dX8_number_28 : decode cX8_number 28 = .ok (.ireturn, 1) := by decide +kernel
set_option maxRecDepth 20000 in
theorem ggX8_having_X8_isWithin : GoodIn wsX8_having wsX8_isWithin := goodIn_r _ [6] (by decide +kernel) (by decide +kernel)
set_option maxRecDepth 20000 in
theorem gX8_having_X8_isWithin : GoodIn wsX8_having (va_wsS RX8 65 yX8_isWithin wsX8_isWithin) := goodIn_app (goodIn_of _ (by decide +kernel)) ggX8_having_X8_isWithin
set_option maxRecDepth 20000 in
theorem ggX8_having_X2_isThere : GoodIn wsX8_having wsX2_isThere := goodIn_r _ [11, 12, 101, 102, 103, 104, 105, 106, 107, 108, 109, 110, 111, 112, 113] (by decide +kernel) (by decide +kernel)
set_option maxRecDepth 20000 in
theorem gX8_having_X2_isThere : GoodIn wsX8_having (wsV RX8 160 RX2 yX2_isThere wsX2_isThere) := goodIn_app (goodIn_of _ (by decide +kernel)) ggX8_having_X2_isThere
set_option maxRecDepth 20000 in
theorem ggX8_having_X5_countAll : GoodIn wsX8_having wsX5_countAll := goodIn_r _ [17, 18, 19, 20, 21, 22, 23, 16, 24, 25, 26, 27, 28, 29, 30, 31, 10, 32, 33, 34, 35, 36, 37, 38, 39, 40, 41, 42, 43, 44, 45, 46, 47, 48, 49, 50, 51, 5, 52, 53, 54, 55, 56, 57, 58, 59, 60, 61, 62, 63, 64, 65, 66, 67, 68, 69, 70, 71, 72, 73, 74, 75, 76, 77, 78, 79, 80, 81, 82, 83, 84, 85, 86, 87, 88, 114, 115, 116, 117, 101, 102, 103, 104, 105, 106, 107, 108, 109, 110, 111, 112, 113, 118, 119, 120, 121, 122, 123] (by decide +kernel) (by decide +kernel)
set_option maxRecDepth 20000 in
theorem gX8_having_X5_countAll : GoodIn wsX8_having (wsV RX8 182 RX5 yX5_countAll wsX5_countAll) := goodIn_app (goodIn_of _ (by decide +kernel)) ggX8_having_X5_countAll
set_option maxRecDepth 20000 in
theorem ggX8_having_X5_housesWith : GoodIn wsX8_having wsX5_housesWith := goodIn_r _ [92, 18, 19, 20, 114, 115, 116, 117, 101, 102, 103, 104, 105, 106, 107, 108, 109, 110, 111, 112, 113] (by decide +kernel) (by decide +kernel)
set_option maxRecDepth 20000 in
theorem gX8_having_X5_housesWith : GoodIn wsX8_having (wsV RX8 185 RX5 yX5_housesWith wsX5_housesWith) := goodIn_app (goodIn_of _ (by decide +kernel)) ggX8_having_X5_housesWith
theorem dX8_having_0 : decode cX8_having 0 = .ok (.iload_n 1, 1) := by decide +kernel
theorem dX8_having_1 : decode cX8_having 1 = .ok (.iconst 0, 1) := by decide +kernel
theorem dX8_having_2 : decode cX8_having 2 = .ok (.bipush 7, 2) := by decide +kernel
theorem dX8_having_4 : decode cX8_having 4 = .ok (.invokestatic 65, 3) := by decide +kernel
theorem dX8_having_7 : decode cX8_having 7 = .ok (.ifCond .ne 6, 3) := by decide +kernel
theorem dX8_having_10 : decode cX8_having 10 = .ok (.bipush (-2), 2) := by decide +kernel
theorem dX8_having_12 : decode cX8_having 12 = .ok (.ireturn, 1) := by decide +kernel
theorem dX8_having_13 : decode cX8_having 13 = .ok (.aload_n 0, 1) := by decide +kernel
theorem dX8_having_14 : decode cX8_having 14 = .ok (.getfield 28, 3) := by decide +kernel
theorem dX8_having_17 : decode cX8_having 17 = .ok (.invokevirtual 160, 3) := by decide +kernel
theorem dX8_having_20 : decode cX8_having 20 = .ok (.ifCond .ne 6, 3) := by decide +kernel
theorem dX8_having_23 : decode cX8_having 23 = .ok (.bipush (-3), 2) := by decide +kernel
theorem dX8_having_25 : decode cX8_having 25 = .ok (.ireturn, 1) := by decide +kernel
theorem dX8_having_26 : decode cX8_having 26 = .ok (.aload_n 0, 1) := by decide +kernel
theorem dX8_having_27 : decode cX8_having 27 = .ok (.getfield 37, 3) := by decide +kernel
theorem dX8_having_30 : decode cX8_having 30 = .ok (.invokevirtual 182, 3) := by decide +kernel
theorem dX8_having_33 : decode cX8_having 33 = .ok (.aload_n 0, 1) := by decide +kernel
theorem dX8_having_34 : decode cX8_having 34 = .ok (.getfield 37, 3) := by decide +kernel
theorem dX8_having_37 : decode cX8_having 37 = .ok (.iload_n 1, 1) := by decide +kernel
theorem dX8_having_38 : decode cX8_having 38 = .ok (.invokevirtual 185, 3) := by decide +kernel
theorem dX8_having_41 : decode cX8_having 41 = .ok (.ireturn, 1) := by decide +kernel
set_option maxRecDepth 20000 in
theorem ggX8_alone_X2_isThere : GoodIn wsX8_alone wsX2_isThere := goodIn_r _ [7, 8, 105, 106, 107, 108, 109, 110, 111, 112, 113, 114, 115, 116, 117] (by decide +kernel) (by decide +kernel)
set_option maxRecDepth 20000 in
theorem gX8_alone_X2_isThere : GoodIn wsX8_alone (wsV RX8 160 RX2 yX2_isThere wsX2_isThere) := goodIn_app (goodIn_of _ (by decide +kernel)) ggX8_alone_X2_isThere
set_option maxRecDepth 20000 in
theorem ggX8_alone_X5_countAll : GoodIn wsX8_alone wsX5_countAll := goodIn_r _ [13, 14, 15, 16, 17, 18, 19, 12, 20, 21, 22, 23, 24, 25, 26, 27, 6, 28, 29, 30, 31, 32, 33, 34, 35, 36, 37, 38, 39, 40, 41, 42, 43, 44, 45, 46, 47, 48, 49, 50, 51, 52, 53, 54, 55, 56, 57, 58, 59, 60, 61, 62, 63, 64, 65, 66, 67, 68, 69, 70, 71, 72, 73, 74, 75, 76, 77, 78, 79, 80, 81, 82, 83, 84, 85, 118, 119, 120, 121, 105, 106, 107, 108, 109, 110, 111, 112, 113, 114, 115, 116, 117, 122, 123, 124, 125, 126, 127] (by decide +kernel) (by decide +kernel)
set_option maxRecDepth 20000 in
theorem gX8_alone_X5_countAll : GoodIn wsX8_alone (wsV RX8 182 RX5 yX5_countAll wsX5_countAll) := goodIn_app (goodIn_of _ (by decide +kernel)) ggX8_alone_X5_countAll
set_option maxRecDepth 20000 in
theorem ggX8_alone_X5_housesWith : GoodIn wsX8_alone wsX5_housesWith := goodIn_r _ [89, 14, 15, 16, 118, 119, 120, 121, 105, 106, 107, 108, 109, 110, 111, 112, 113, 114, 115, 116, 117] (by decide +kernel) (by decide +kernel)
set_option maxRecDepth 20000 in
theorem gX8_alone_X5_housesWith : GoodIn wsX8_alone (wsV RX8 185 RX5 yX5_housesWith wsX5_housesWith) := goodIn_app (goodIn_of _ (by decide +kernel)) ggX8_alone_X5_housesWith
set_option maxRecDepth 20000 in
theorem ggX8_alone_J6_bitCount_0f7a4 : GoodIn wsX8_alone wsJ6_bitCount_0f7a4 := goodIn_r _ [93, 94, 95, 96] (by decide +kernel) (by decide +kernel)
set_option maxRecDepth 20000 in
theorem gX8_alone_J6_bitCount_0f7a4 : GoodIn wsX8_alone (va_wsS RX8 188 yJ6_bitCount_0f7a4 wsJ6_bitCount_0f7a4) := goodIn_app (goodIn_of _ (by decide +kernel)) ggX8_alone_J6_bitCount_0f7a4
theorem dX8_alone_0 : decode cX8_alone 0 = .ok (.aload_n 0, 1) := by decide +kernel
theorem dX8_alone_1 : decode cX8_alone 1 = .ok (.getfield 28, 3) := by decide +kernel
theorem dX8_alone_4 : decode cX8_alone 4 = .ok (.invokevirtual 160, 3) := by decide +kernel
theorem dX8_alone_7 : decode cX8_alone 7 = .ok (.ifCond .ne 6, 3) := by decide +kernel
theorem dX8_alone_10 : decode cX8_alone 10 = .ok (.bipush (-3), 2) := by decide +kernel
theorem dX8_alone_12 : decode cX8_alone 12 = .ok (.ireturn, 1) := by decide +kernel
theorem dX8_alone_13 : decode cX8_alone 13 = .ok (.aload_n 0, 1) := by decide +kernel
theorem dX8_alone_14 : decode cX8_alone 14 = .ok (.getfield 37, 3) := by decide +kernel
theorem dX8_alone_17 : decode cX8_alone 17 = .ok (.invokevirtual 182, 3) := by decide +kernel
theorem dX8_alone_20 : decode cX8_alone 20 = .ok (.iconst 0, 1) := by decide +kernel
theorem dX8_alone_21 : decode cX8_alone 21 = .ok (.istore_n 1, 1) := by decide +kernel
theorem dX8_alone_22 : decode cX8_alone 22 = .ok (.iconst 0, 1) := by decide +kernel
theorem dX8_alone_23 : decode cX8_alone 23 = .ok (.istore_n 2, 1) := by decide +kernel
theorem dX8_alone_24 : decode cX8_alone 24 = .ok (.iload_n 2, 1) := by decide +kernel
theorem dX8_alone_25 : decode cX8_alone 25 = .ok (.bipush 7, 2) := by decide +kernel
theorem dX8_alone_27 : decode cX8_alone 27 = .ok (.if_icmp .gt 30, 3) := by decide +kernel
theorem dX8_alone_30 : decode cX8_alone 30 = .ok (.aload_n 0, 1) := by decide +kernel
theorem dX8_alone_31 : decode cX8_alone 31 = .ok (.getfield 37, 3) := by decide +kernel
theorem dX8_alone_34 : decode cX8_alone 34 = .ok (.iload_n 2, 1) := by decide +kernel
theorem dX8_alone_35 : decode cX8_alone 35 = .ok (.invokevirtual 185, 3) := by decide +kernel
theorem dX8_alone_38 : decode cX8_alone 38 = .ok (.istore_n 3, 1) := by decide +kernel
theorem dX8_alone_39 : decode cX8_alone 39 = .ok (.iload_n 3, 1) := by decide +kernel
theorem dX8_alone_40 : decode cX8_alone 40 = .ok (.invokestatic 188, 3) := by decide +kernel
theorem dX8_alone_43 : decode cX8_alone 43 = .ok (.iconst 1, 1) := by decide +kernel
theorem dX8_alone_44 : decode cX8_alone 44 = .ok (.if_icmp .ne 7, 3) := by decide +kernel
theorem dX8_alone_47 : decode cX8_alone 47 = .ok (.iload_n 1, 1) := by decide +kernel
theorem dX8_alone_48 : decode cX8_alone 48 = .ok (.iload_n 3, 1) := by decide +kernel
theorem dX8_alone_49 : decode cX8_alone 49 = .ok (.ior, 1) := by decide +kernel
theorem dX8_alone_50 : decode cX8_alone 50 = .ok (.istore_n 1, 1) := by decide +kernel
theorem dX8_alone_51 : decode cX8_alone 51 = .ok (.iinc 2 1, 3) := by decide +kernel
theorem dX8_alone_54 : decode cX8_alone 54 = .ok (.goto (-30), 3) := by decide +kernel
theorem dX8_alone_57 : decode cX8_alone 57 = .ok (.iload_n 1, 1) := by decide +kernel
theorem dX8_alone_58 : decode cX8_alone 58 = .ok (.ireturn, 1) := by decide +kernel
set_option maxRecDepth 20000 in
theorem ggX8_letter_X8_isWithin : GoodIn wsX8_letter wsX8_isWithin := goodIn_r _ [6] (by decide +kernel) (by decide +kernel)
set_option maxRecDepth 20000 in
theorem gX8_letter_X8_isWithin : GoodIn wsX8_letter (va_wsS RX8 65 yX8_isWithin wsX8_isWithin) := goodIn_app (goodIn_of _ (by decide +kernel)) ggX8_letter_X8_isWithin
set_option maxRecDepth 20000 in
theorem ggX8_letter_X2_isThere : GoodIn wsX8_letter wsX2_isThere := goodIn_r _ [11, 12, 109, 110, 111, 112, 113, 114, 115, 116, 117, 118, 119, 120, 121] (by decide +kernel) (by decide +kernel)
set_option maxRecDepth 20000 in
theorem gX8_letter_X2_isThere : GoodIn wsX8_letter (wsV RX8 160 RX2 yX2_isThere wsX2_isThere) := goodIn_app (goodIn_of _ (by decide +kernel)) ggX8_letter_X2_isThere
set_option maxRecDepth 20000 in
theorem ggX8_letter_X5_countAll : GoodIn wsX8_letter wsX5_countAll := goodIn_r _ [17, 18, 19, 20, 21, 22, 23, 16, 24, 25, 26, 27, 28, 29, 30, 31, 10, 32, 33, 34, 35, 36, 37, 38, 39, 40, 41, 42, 43, 44, 45, 46, 47, 48, 49, 50, 51, 5, 52, 53, 54, 55, 56, 57, 58, 59, 60, 61, 62, 63, 64, 65, 66, 67, 68, 69, 70, 71, 72, 73, 74, 75, 76, 77, 78, 79, 80, 81, 82, 83, 84, 85, 86, 87, 88, 122, 123, 124, 125, 109, 110, 111, 112, 113, 114, 115, 116, 117, 118, 119, 120, 121, 126, 127, 128, 129, 130, 131] (by decide +kernel) (by decide +kernel)
set_option maxRecDepth 20000 in
theorem gX8_letter_X5_countAll : GoodIn wsX8_letter (wsV RX8 182 RX5 yX5_countAll wsX5_countAll) := goodIn_app (goodIn_of _ (by decide +kernel)) ggX8_letter_X5_countAll
set_option maxRecDepth 20000 in
theorem ggX8_letter_X5_housesWith : GoodIn wsX8_letter wsX5_housesWith := goodIn_r _ [92, 18, 19, 20, 122, 123, 124, 125, 109, 110, 111, 112, 113, 114, 115, 116, 117, 118, 119, 120, 121] (by decide +kernel) (by decide +kernel)
set_option maxRecDepth 20000 in
theorem gX8_letter_X5_housesWith : GoodIn wsX8_letter (wsV RX8 185 RX5 yX5_housesWith wsX5_housesWith) := goodIn_app (goodIn_of _ (by decide +kernel)) ggX8_letter_X5_housesWith
set_option maxRecDepth 20000 in
theorem ggX8_letter_X5_seenAmong : GoodIn wsX8_letter wsX5_seenAmong := goodIn_r _ [96, 18, 19, 51, 5, 52, 97, 98, 99, 16, 100, 68, 69, 74, 75, 76, 77, 78, 79, 80, 81, 82, 83, 84, 85, 26, 28, 86, 87, 88, 122, 123, 124, 125, 109, 110, 111, 112, 113, 114, 115, 116, 117, 118, 119, 120, 121, 126, 127, 128, 129] (by decide +kernel) (by decide +kernel)
set_option maxRecDepth 20000 in
theorem gX8_letter_X5_seenAmong : GoodIn wsX8_letter (wsV RX8 193 RX5 yX5_seenAmong wsX5_seenAmong) := goodIn_app (goodIn_of _ (by decide +kernel)) ggX8_letter_X5_seenAmong
theorem dX8_letter_0 : decode cX8_letter 0 = .ok (.iload_n 1, 1) := by decide +kernel
theorem dX8_letter_1 : decode cX8_letter 1 = .ok (.iconst 0, 1) := by decide +kernel
theorem dX8_letter_2 : decode cX8_letter 2 = .ok (.bipush 7, 2) := by decide +kernel
theorem dX8_letter_4 : decode cX8_letter 4 = .ok (.invokestatic 65, 3) := by decide +kernel
theorem dX8_letter_7 : decode cX8_letter 7 = .ok (.ifCond .eq 13, 3) := by decide +kernel
theorem dX8_letter_10 : decode cX8_letter 10 = .ok (.iload_n 2, 1) := by decide +kernel
theorem dX8_letter_11 : decode cX8_letter 11 = .ok (.iconst 0, 1) := by decide +kernel
theorem dX8_letter_12 : decode cX8_letter 12 = .ok (.bipush 7, 2) := by decide +kernel
theorem dX8_letter_14 : decode cX8_letter 14 = .ok (.invokestatic 65, 3) := by decide +kernel
theorem dX8_letter_17 : decode cX8_letter 17 = .ok (.ifCond .ne 6, 3) := by decide +kernel
theorem dX8_letter_20 : decode cX8_letter 20 = .ok (.bipush (-2), 2) := by decide +kernel
theorem dX8_letter_22 : decode cX8_letter 22 = .ok (.ireturn, 1) := by decide +kernel
theorem dX8_letter_23 : decode cX8_letter 23 = .ok (.aload_n 0, 1) := by decide +kernel
theorem dX8_letter_24 : decode cX8_letter 24 = .ok (.getfield 28, 3) := by decide +kernel
theorem dX8_letter_27 : decode cX8_letter 27 = .ok (.invokevirtual 160, 3) := by decide +kernel
theorem dX8_letter_30 : decode cX8_letter 30 = .ok (.ifCond .ne 6, 3) := by decide +kernel
theorem dX8_letter_33 : decode cX8_letter 33 = .ok (.bipush (-3), 2) := by decide +kernel
theorem dX8_letter_35 : decode cX8_letter 35 = .ok (.ireturn, 1) := by decide +kernel
theorem dX8_letter_36 : decode cX8_letter 36 = .ok (.aload_n 0, 1) := by decide +kernel
theorem dX8_letter_37 : decode cX8_letter 37 = .ok (.getfield 37, 3) := by decide +kernel
theorem dX8_letter_40 : decode cX8_letter 40 = .ok (.invokevirtual 182, 3) := by decide +kernel
theorem dX8_letter_43 : decode cX8_letter 43 = .ok (.aload_n 0, 1) := by decide +kernel
theorem dX8_letter_44 : decode cX8_letter 44 = .ok (.getfield 37, 3) := by decide +kernel
theorem dX8_letter_47 : decode cX8_letter 47 = .ok (.aload_n 0, 1) := by decide +kernel
theorem dX8_letter_48 : decode cX8_letter 48 = .ok (.getfield 37, 3) := by decide +kernel
theorem dX8_letter_51 : decode cX8_letter 51 = .ok (.iload_n 1, 1) := by decide +kernel
theorem dX8_letter_52 : decode cX8_letter 52 = .ok (.invokevirtual 185, 3) := by decide +kernel
theorem dX8_letter_55 : decode cX8_letter 55 = .ok (.aload_n 0, 1) := by decide +kernel
theorem dX8_letter_56 : decode cX8_letter 56 = .ok (.getfield 37, 3) := by decide +kernel
theorem dX8_letter_59 : decode cX8_letter 59 = .ok (.iload_n 2, 1) := by decide +kernel
theorem dX8_letter_60 : decode cX8_letter 60 = .ok (.invokevirtual 185, 3) := by decide +kernel
theorem dX8_letter_63 : decode cX8_letter 63 = .ok (.invokevirtual 193, 3) := by decide +kernel
theorem dX8_letter_66 : decode cX8_letter 66 = .ok (.ireturn, 1) := by decide +kernel
set_option maxRecDepth 20000 in
theorem ggX8_mean_X8_isWithin : GoodIn wsX8_mean wsX8_isWithin := goodIn_r _ [8] (by decide +kernel) (by decide +kernel)
set_option maxRecDepth 20000 in
theorem gX8_mean_X8_isWithin : GoodIn wsX8_mean (va_wsS RX8 65 yX8_isWithin wsX8_isWithin) := goodIn_app (goodIn_of _ (by decide +kernel)) ggX8_mean_X8_isWithin
set_option maxRecDepth 20000 in
theorem ggX8_mean_X2_isThere : GoodIn wsX8_mean wsX2_isThere := goodIn_r _ [13, 14, 104, 105, 106, 107, 108, 109, 110, 111, 112, 113, 114, 115, 116] (by decide +kernel) (by decide +kernel)
set_option maxRecDepth 20000 in
theorem gX8_mean_X2_isThere : GoodIn wsX8_mean (wsV RX8 160 RX2 yX2_isThere wsX2_isThere) := goodIn_app (goodIn_of _ (by decide +kernel)) ggX8_mean_X2_isThere
set_option maxRecDepth 20000 in
theorem ggX8_mean_X5_countAll : GoodIn wsX8_mean wsX5_countAll := goodIn_r _ [19, 20, 21, 22, 23, 24, 25, 18, 26, 27, 28, 29, 30, 31, 32, 33, 12, 34, 35, 36, 37, 38, 39, 40, 41, 42, 43, 44, 45, 46, 47, 48, 49, 50, 51, 52, 53, 7, 54, 55, 56, 57, 58, 59, 60, 61, 62, 63, 64, 65, 66, 67, 68, 69, 70, 71, 72, 73, 74, 75, 76, 77, 78, 79, 80, 81, 82, 83, 84, 85, 86, 87, 88, 89, 90, 117, 118, 119, 120, 104, 105, 106, 107, 108, 109, 110, 111, 112, 113, 114, 115, 116, 121, 122, 123, 124, 125, 126] (by decide +kernel) (by decide +kernel)
set_option maxRecDepth 20000 in
theorem gX8_mean_X5_countAll : GoodIn wsX8_mean (wsV RX8 182 RX5 yX5_countAll wsX5_countAll) := goodIn_app (goodIn_of _ (by decide +kernel)) ggX8_mean_X5_countAll
set_option maxRecDepth 20000 in
theorem ggX8_mean_X5_sumOfNumbers : GoodIn wsX8_mean wsX5_sumOfNumbers := goodIn_r _ [94, 20, 21, 22, 117, 118, 119, 120, 104, 105, 106, 107, 108, 109, 110, 111, 112, 113, 114, 115, 116] (by decide +kernel) (by decide +kernel)
set_option maxRecDepth 20000 in
theorem gX8_mean_X5_sumOfNumbers : GoodIn wsX8_mean (wsV RX8 201 RX5 yX5_sumOfNumbers wsX5_sumOfNumbers) := goodIn_app (goodIn_of _ (by decide +kernel)) ggX8_mean_X5_sumOfNumbers
set_option maxRecDepth 20000 in
theorem ggX8_mean_X8_greatestCommon : GoodIn wsX8_mean wsX8_greatestCommon := goodIn_r _ [89, 90, 86, 83, 87] (by decide +kernel) (by decide +kernel)
set_option maxRecDepth 20000 in
theorem gX8_mean_X8_greatestCommon : GoodIn wsX8_mean (va_wsS RX8 205 yX8_greatestCommon wsX8_greatestCommon) := goodIn_app (goodIn_of _ (by decide +kernel)) ggX8_mean_X8_greatestCommon
theorem dX8_mean_0 : decode cX8_mean 0 = .ok (.iload_n 1, 1) := by decide +kernel
theorem dX8_mean_1 : decode cX8_mean 1 = .ok (.iconst 0, 1) := by decide +kernel
theorem dX8_mean_2 : decode cX8_mean 2 = .ok (.iconst 1, 1) := by decide +kernel
theorem dX8_mean_3 : decode cX8_mean 3 = .ok (.invokestatic 65, 3) := by decide +kernel
theorem dX8_mean_6 : decode cX8_mean 6 = .ok (.ifCond .eq 13, 3) := by decide +kernel
theorem dX8_mean_9 : decode cX8_mean 9 = .ok (.aload_n 0, 1) := by decide +kernel
theorem dX8_mean_10 : decode cX8_mean 10 = .ok (.getfield 28, 3) := by decide +kernel
theorem dX8_mean_13 : decode cX8_mean 13 = .ok (.invokevirtual 160, 3) := by decide +kernel
theorem dX8_mean_16 : decode cX8_mean 16 = .ok (.ifCond .ne 7, 3) := by decide +kernel
theorem dX8_mean_19 : decode cX8_mean 19 = .ok (.ldc2_w 196, 3) := by decide +kernel
theorem dX8_mean_22 : decode cX8_mean 22 = .ok (.lreturn, 1) := by decide +kernel
theorem dX8_mean_23 : decode cX8_mean 23 = .ok (.aload_n 0, 1) := by decide +kernel
theorem dX8_mean_24 : decode cX8_mean 24 = .ok (.getfield 28, 3) := by decide +kernel
theorem dX8_mean_27 : decode cX8_mean 27 = .ok (.getfield 198, 3) := by decide +kernel
theorem dX8_mean_30 : decode cX8_mean 30 = .ok (.ifCond .ne 6, 3) := by decide +kernel
theorem dX8_mean_33 : decode cX8_mean 33 = .ok (.iload_n 1, 1) := by decide +kernel
theorem dX8_mean_34 : decode cX8_mean 34 = .ok (.i2l, 1) := by decide +kernel
theorem dX8_mean_35 : decode cX8_mean 35 = .ok (.lreturn, 1) := by decide +kernel
theorem dX8_mean_36 : decode cX8_mean 36 = .ok (.aload_n 0, 1) := by decide +kernel
theorem dX8_mean_37 : decode cX8_mean 37 = .ok (.getfield 37, 3) := by decide +kernel
theorem dX8_mean_40 : decode cX8_mean 40 = .ok (.invokevirtual 182, 3) := by decide +kernel
theorem dX8_mean_43 : decode cX8_mean 43 = .ok (.aload_n 0, 1) := by decide +kernel
theorem dX8_mean_44 : decode cX8_mean 44 = .ok (.getfield 37, 3) := by decide +kernel
theorem dX8_mean_47 : decode cX8_mean 47 = .ok (.invokevirtual 201, 3) := by decide +kernel
theorem dX8_mean_50 : decode cX8_mean 50 = .ok (.istore_n 2, 1) := by decide +kernel
theorem dX8_mean_51 : decode cX8_mean 51 = .ok (.iload_n 2, 1) := by decide +kernel
theorem dX8_mean_52 : decode cX8_mean 52 = .ok (.aload_n 0, 1) := by decide +kernel
theorem dX8_mean_53 : decode cX8_mean 53 = .ok (.getfield 28, 3) := by decide +kernel
theorem dX8_mean_56 : decode cX8_mean 56 = .ok (.getfield 198, 3) := by decide +kernel
theorem dX8_mean_59 : decode cX8_mean 59 = .ok (.invokestatic 205, 3) := by decide +kernel
theorem dX8_mean_62 : decode cX8_mean 62 = .ok (.istore_n 3, 1) := by decide +kernel
theorem dX8_mean_63 : decode cX8_mean 63 = .ok (.iload_n 1, 1) := by decide +kernel
theorem dX8_mean_64 : decode cX8_mean 64 = .ok (.ifCond .ne 7, 3) := by decide +kernel
theorem dX8_mean_67 : decode cX8_mean 67 = .ok (.iload_n 2, 1) := by decide +kernel
theorem dX8_mean_68 : decode cX8_mean 68 = .ok (.goto 10, 3) := by decide +kernel
theorem dX8_mean_71 : decode cX8_mean 71 = .ok (.aload_n 0, 1) := by decide +kernel
theorem dX8_mean_72 : decode cX8_mean 72 = .ok (.getfield 28, 3) := by decide +kernel
theorem dX8_mean_75 : decode cX8_mean 75 = .ok (.getfield 198, 3) := by decide +kernel
theorem dX8_mean_78 : decode cX8_mean 78 = .ok (.iload_n 3, 1) := by decide +kernel
theorem dX8_mean_79 : decode cX8_mean 79 = .ok (.idiv, 1) := by decide +kernel
theorem dX8_mean_80 : decode cX8_mean 80 = .ok (.i2l, 1) := by decide +kernel
theorem dX8_mean_81 : decode cX8_mean 81 = .ok (.lreturn, 1) := by decide +kernel
set_option maxRecDepth 20000 in
theorem ggX8_walled_X8_refusedFor : GoodIn wsX8_walled wsX8_refusedFor := goodIn_r _ [6, 7, 8, 9, 10, 11, 12, 13, 14, 5, 15, 16, 103, 104, 105, 106, 107, 108, 109, 110, 111, 112, 113, 114, 115, 116, 117, 118, 119, 120, 121, 122, 123] (by decide +kernel) (by decide +kernel)
set_option maxRecDepth 20000 in
theorem gX8_walled_X8_refusedFor : GoodIn wsX8_walled (wsV RX8 208 RX8 yX8_refusedFor wsX8_refusedFor) := goodIn_app (goodIn_of _ (by decide +kernel)) ggX8_walled_X8_refusedFor
set_option maxRecDepth 20000 in
theorem ggX8_walled_X0_lowestWall : GoodIn wsX8_walled wsX0_lowestWall := goodIn_r _ [21, 22, 23, 24, 25, 26, 27, 28, 29, 30, 31, 32, 33, 34, 35, 36, 37, 38, 39, 40, 11, 41, 42, 43, 44, 45, 46, 47, 48, 49, 50, 51, 52, 53, 54, 55, 56, 57, 58, 59, 60, 5, 61, 62, 63, 64, 65, 66, 67, 68, 69, 70, 71, 72, 73, 74, 75, 76, 77, 78, 79, 80, 81, 82, 83, 84, 85, 86, 87, 88, 89, 90, 91, 92, 93, 94, 95, 96, 97, 98, 99, 100, 101, 102, 124, 125, 111, 112, 113, 114, 115, 116, 117, 118, 119, 120, 121, 122, 123, 126, 127, 128, 129, 130, 131, 132, 133, 134, 135] (by decide +kernel) (by decide +kernel)
set_option maxRecDepth 20000 in
theorem gX8_walled_X0_lowestWall : GoodIn wsX8_walled (wsV RX8 211 RX0 yX0_lowestWall wsX0_lowestWall) := goodIn_app (goodIn_of _ (by decide +kernel)) ggX8_walled_X0_lowestWall
theorem dX8_walled_0 : decode cX8_walled 0 = .ok (.aload_n 0, 1) := by decide +kernel
theorem dX8_walled_1 : decode cX8_walled 1 = .ok (.iload_n 1, 1) := by decide +kernel
theorem dX8_walled_2 : decode cX8_walled 2 = .ok (.iload_n 2, 1) := by decide +kernel
theorem dX8_walled_3 : decode cX8_walled 3 = .ok (.invokevirtual 208, 3) := by decide +kernel
theorem dX8_walled_6 : decode cX8_walled 6 = .ok (.istore_n 3, 1) := by decide +kernel
theorem dX8_walled_7 : decode cX8_walled 7 = .ok (.iload_n 3, 1) := by decide +kernel
theorem dX8_walled_8 : decode cX8_walled 8 = .ok (.ifCond .eq 7, 3) := by decide +kernel
theorem dX8_walled_11 : decode cX8_walled 11 = .ok (.iload_n 3, 1) := by decide +kernel
theorem dX8_walled_12 : decode cX8_walled 12 = .ok (.goto 12, 3) := by decide +kernel
theorem dX8_walled_15 : decode cX8_walled 15 = .ok (.aload_n 0, 1) := by decide +kernel
theorem dX8_walled_16 : decode cX8_walled 16 = .ok (.getfield 46, 3) := by decide +kernel
theorem dX8_walled_19 : decode cX8_walled 19 = .ok (.iload_n 1, 1) := by decide +kernel
theorem dX8_walled_20 : decode cX8_walled 20 = .ok (.iload_n 2, 1) := by decide +kernel
theorem dX8_walled_21 : decode cX8_walled 21 = .ok (.invokevirtual 211, 3) := by decide +kernel
theorem dX8_walled_24 : decode cX8_walled 24 = .ok (.ireturn, 1) := by decide +kernel
set_option maxRecDepth 20000 in
theorem ggX8_raised_X8_refusedFor : GoodIn wsX8_raised wsX8_refusedFor := goodIn_r _ [6, 7, 8, 9, 10, 11, 12, 13, 14, 5, 15, 16, 100, 101, 102, 103, 104, 105, 106, 107, 108, 109, 110, 111, 112, 113, 114, 115, 116, 117, 118, 119, 120] (by decide +kernel) (by decide +kernel)
set_option maxRecDepth 20000 in
theorem gX8_raised_X8_refusedFor : GoodIn wsX8_raised (wsV RX8 208 RX8 yX8_refusedFor wsX8_refusedFor) := goodIn_app (goodIn_of _ (by decide +kernel)) ggX8_raised_X8_refusedFor
set_option maxRecDepth 20000 in
theorem ggX8_raised_X0_leastFloors : GoodIn wsX8_raised wsX0_leastFloors := goodIn_r _ [21, 22, 23, 24, 25, 26, 27, 28, 29, 30, 31, 32, 33, 34, 35, 36, 37, 38, 39, 40, 11, 41, 42, 43, 44, 45, 46, 47, 48, 49, 50, 51, 52, 53, 54, 55, 56, 57, 58, 59, 60, 5, 61, 62, 63, 64, 65, 66, 67, 68, 69, 70, 71, 72, 73, 74, 75, 76, 77, 78, 79, 80, 81, 82, 83, 84, 85, 86, 87, 88, 89, 90, 91, 92, 93, 94, 95, 96, 97, 98, 99, 121, 122, 108, 109, 110, 111, 112, 113, 114, 115, 116, 117, 118, 119, 120, 123, 124, 125, 126, 127, 128, 129, 130, 131, 132] (by decide +kernel) (by decide +kernel)
set_option maxRecDepth 20000 in
theorem gX8_raised_X0_leastFloors : GoodIn wsX8_raised (wsV RX8 214 RX0 yX0_leastFloors wsX0_leastFloors) := goodIn_app (goodIn_of _ (by decide +kernel)) ggX8_raised_X0_leastFloors
theorem dX8_raised_0 : decode cX8_raised 0 = .ok (.aload_n 0, 1) := by decide +kernel
theorem dX8_raised_1 : decode cX8_raised 1 = .ok (.iload_n 1, 1) := by decide +kernel
theorem dX8_raised_2 : decode cX8_raised 2 = .ok (.iload_n 2, 1) := by decide +kernel
theorem dX8_raised_3 : decode cX8_raised 3 = .ok (.invokevirtual 208, 3) := by decide +kernel
theorem dX8_raised_6 : decode cX8_raised 6 = .ok (.istore_n 3, 1) := by decide +kernel
theorem dX8_raised_7 : decode cX8_raised 7 = .ok (.iload_n 3, 1) := by decide +kernel
theorem dX8_raised_8 : decode cX8_raised 8 = .ok (.ifCond .eq 7, 3) := by decide +kernel
theorem dX8_raised_11 : decode cX8_raised 11 = .ok (.iload_n 3, 1) := by decide +kernel
theorem dX8_raised_12 : decode cX8_raised 12 = .ok (.goto 12, 3) := by decide +kernel
theorem dX8_raised_15 : decode cX8_raised 15 = .ok (.aload_n 0, 1) := by decide +kernel
theorem dX8_raised_16 : decode cX8_raised 16 = .ok (.getfield 46, 3) := by decide +kernel
theorem dX8_raised_19 : decode cX8_raised 19 = .ok (.iload_n 1, 1) := by decide +kernel
theorem dX8_raised_20 : decode cX8_raised 20 = .ok (.iload_n 2, 1) := by decide +kernel
theorem dX8_raised_21 : decode cX8_raised 21 = .ok (.invokevirtual 214, 3) := by decide +kernel
theorem dX8_raised_24 : decode cX8_raised 24 = .ok (.ireturn, 1) := by decide +kernel
set_option maxRecDepth 20000 in
theorem ggX8_felling_X8_refusedFor : GoodIn wsX8_felling wsX8_refusedFor := goodIn_r _ [6, 7, 8, 9, 10, 11, 12, 13, 14, 5, 15, 16, 118, 119, 120, 121, 122, 123, 124, 125, 126, 127, 128, 129, 130, 131, 132, 133, 134, 135, 136, 137, 138] (by decide +kernel) (by decide +kernel)
set_option maxRecDepth 20000 in
theorem gX8_felling_X8_refusedFor : GoodIn wsX8_felling (wsV RX8 208 RX8 yX8_refusedFor wsX8_refusedFor) := goodIn_app (goodIn_of _ (by decide +kernel)) ggX8_felling_X8_refusedFor
set_option maxRecDepth 20000 in
theorem ggX8_felling_X0_fewestFelled : GoodIn wsX8_felling wsX0_fewestFelled := goodIn_r _ [21, 22, 23, 24, 25, 26, 27, 28, 29, 30, 31, 32, 33, 34, 35, 36, 37, 38, 11, 39, 40, 41, 42, 43, 44, 45, 46, 47, 48, 49, 50, 51, 52, 53, 54, 55, 56, 57, 58, 5, 59, 60, 61, 62, 63, 64, 65, 66, 67, 68, 69, 70, 71, 72, 73, 74, 75, 76, 77, 78, 79, 80, 20, 81, 82, 83, 84, 85, 86, 87, 88, 89, 90, 91, 92, 93, 94, 95, 96, 97, 98, 99, 100, 101, 102, 103, 104, 105, 106, 107, 108, 109, 110, 111, 112, 113, 114, 115, 116, 117, 139, 140, 126, 127, 128, 129, 130, 131, 132, 133, 134, 135, 136, 137, 138, 141, 142, 143, 144, 145, 146, 147, 148, 149, 150] (by decide +kernel) (by decide +kernel)
set_option maxRecDepth 20000 in
theorem gX8_felling_X0_fewestFelled : GoodIn wsX8_felling (wsV RX8 217 RX0 yX0_fewestFelled wsX0_fewestFelled) := goodIn_app (goodIn_of _ (by decide +kernel)) ggX8_felling_X0_fewestFelled
theorem dX8_felling_0 : decode cX8_felling 0 = .ok (.aload_n 0, 1) := by decide +kernel
theorem dX8_felling_1 : decode cX8_felling 1 = .ok (.iload_n 1, 1) := by decide +kernel
theorem dX8_felling_2 : decode cX8_felling 2 = .ok (.iload_n 2, 1) := by decide +kernel
theorem dX8_felling_3 : decode cX8_felling 3 = .ok (.invokevirtual 208, 3) := by decide +kernel
theorem dX8_felling_6 : decode cX8_felling 6 = .ok (.istore_n 3, 1) := by decide +kernel
theorem dX8_felling_7 : decode cX8_felling 7 = .ok (.iload_n 3, 1) := by decide +kernel
theorem dX8_felling_8 : decode cX8_felling 8 = .ok (.ifCond .eq 7, 3) := by decide +kernel
theorem dX8_felling_11 : decode cX8_felling 11 = .ok (.iload_n 3, 1) := by decide +kernel
theorem dX8_felling_12 : decode cX8_felling 12 = .ok (.goto 12, 3) := by decide +kernel
theorem dX8_felling_15 : decode cX8_felling 15 = .ok (.aload_n 0, 1) := by decide +kernel
theorem dX8_felling_16 : decode cX8_felling 16 = .ok (.getfield 46, 3) := by decide +kernel
theorem dX8_felling_19 : decode cX8_felling 19 = .ok (.iload_n 1, 1) := by decide +kernel
theorem dX8_felling_20 : decode cX8_felling 20 = .ok (.iload_n 2, 1) := by decide +kernel
theorem dX8_felling_21 : decode cX8_felling 21 = .ok (.invokevirtual 217, 3) := by decide +kernel
theorem dX8_felling_24 : decode cX8_felling 24 = .ok (.ireturn, 1) := by decide +kernel
set_option maxRecDepth 20000 in
theorem ggX8_fresh_X2_hasCell : GoodIn wsX8_fresh wsX2_hasCell := goodIn_r _ [7, 8, 9, 10, 11, 129, 130, 131, 132, 133, 134, 135, 136, 137, 138, 139, 140, 141] (by decide +kernel) (by decide +kernel)
set_option maxRecDepth 20000 in
theorem gX8_fresh_X2_hasCell : GoodIn wsX8_fresh (wsV RX8 97 RX2 yX2_hasCell wsX2_hasCell) := goodIn_app (goodIn_of _ (by decide +kernel)) ggX8_fresh_X2_hasCell
set_option maxRecDepth 20000 in
theorem ggX8_fresh_X8_isWithin : GoodIn wsX8_fresh wsX8_isWithin := goodIn_r _ [11] (by decide +kernel) (by decide +kernel)
set_option maxRecDepth 20000 in
theorem gX8_fresh_X8_isWithin : GoodIn wsX8_fresh (va_wsS RX8 65 yX8_isWithin wsX8_isWithin) := goodIn_app (goodIn_of _ (by decide +kernel)) ggX8_fresh_X8_isWithin
set_option maxRecDepth 20000 in
theorem ggX8_fresh_X2_canTakeNew : GoodIn wsX8_fresh wsX2_canTakeNew := goodIn_r _ [16, 17, 18, 19, 20, 6, 21, 22, 129, 130, 131, 132, 133, 134, 135, 136, 137, 138, 139, 140, 141] (by decide +kernel) (by decide +kernel)
set_option maxRecDepth 20000 in
theorem gX8_fresh_X2_canTakeNew : GoodIn wsX8_fresh (wsV RX8 220 RX2 yX2_canTakeNew wsX2_canTakeNew) := goodIn_app (goodIn_of _ (by decide +kernel)) ggX8_fresh_X2_canTakeNew
set_option maxRecDepth 20000 in
theorem ggX8_fresh_X0_numberOfNew : GoodIn wsX8_fresh wsX0_numberOfNew := goodIn_r _ [27, 28, 29, 30, 31, 32, 33, 34, 35, 36, 37, 38, 39, 40, 41, 42, 43, 6, 44, 45, 46, 47, 48, 49, 22, 50, 51, 52, 53, 54, 17, 55, 56, 57, 58, 59, 60, 61, 10, 62, 63, 64, 65, 66, 67, 68, 69, 70, 71, 72, 73, 74, 75, 76, 77, 78, 79, 80, 81, 82, 83, 84, 85, 86, 87, 88, 89, 90, 91, 92, 93, 94, 95, 96, 97, 98, 99, 142, 143, 129, 130, 131, 132, 133, 134, 135, 136, 137, 138, 139, 140, 141, 144, 145, 146, 147, 148, 149, 150, 151, 152, 153] (by decide +kernel) (by decide +kernel)
set_option maxRecDepth 20000 in
theorem gX8_fresh_X0_numberOfNew : GoodIn wsX8_fresh (wsV RX8 223 RX0 yX0_numberOfNew wsX0_numberOfNew) := goodIn_app (goodIn_of _ (by decide +kernel)) ggX8_fresh_X0_numberOfNew
set_option maxRecDepth 20000 in
theorem ggX8_fresh_X0_changedByNew : GoodIn wsX8_fresh wsX0_changedByNew := goodIn_r _ [103, 28, 104, 29, 30, 105, 106, 107, 108, 109, 110, 111, 34, 112, 36, 82, 113, 114, 32, 33, 35, 37, 38, 39, 40, 41, 42, 43, 6, 44, 45, 46, 47, 48, 49, 22, 50, 51, 52, 53, 54, 17, 55, 56, 57, 58, 59, 60, 61, 10, 62, 63, 64, 65, 66, 67, 68, 69, 70, 71, 72, 73, 115, 116, 117, 118, 83, 84, 78, 79, 80, 81, 85, 86, 87, 88, 89, 90, 91, 92, 93, 94, 95, 96, 97, 98, 99, 119, 120, 142, 143, 144, 145, 146, 147, 129, 130, 131, 132, 133, 134, 135, 136, 137, 138, 139, 140, 141, 148, 149, 150, 151, 152, 153] (by decide +kernel) (by decide +kernel)
set_option maxRecDepth 20000 in
theorem gX8_fresh_X0_changedByNew : GoodIn wsX8_fresh (wsV RX8 226 RX0 yX0_changedByNew wsX0_changedByNew) := goodIn_app (goodIn_of _ (by decide +kernel)) ggX8_fresh_X0_changedByNew
theorem dX8_fresh_0 : decode cX8_fresh 0 = .ok (.aload_n 0, 1) := by decide +kernel
theorem dX8_fresh_1 : decode cX8_fresh 1 = .ok (.getfield 28, 3) := by decide +kernel
theorem dX8_fresh_4 : decode cX8_fresh 4 = .ok (.iload_n 1, 1) := by decide +kernel
theorem dX8_fresh_5 : decode cX8_fresh 5 = .ok (.invokevirtual 97, 3) := by decide +kernel
theorem dX8_fresh_8 : decode cX8_fresh 8 = .ok (.ifCond .ne 5, 3) := by decide +kernel
theorem dX8_fresh_11 : decode cX8_fresh 11 = .ok (.iconst (-1), 1) := by decide +kernel
theorem dX8_fresh_12 : decode cX8_fresh 12 = .ok (.ireturn, 1) := by decide +kernel
theorem dX8_fresh_13 : decode cX8_fresh 13 = .ok (.iload_n 2, 1) := by decide +kernel
theorem dX8_fresh_14 : decode cX8_fresh 14 = .ok (.iconst 1, 1) := by decide +kernel
theorem dX8_fresh_15 : decode cX8_fresh 15 = .ok (.bipush 9, 2) := by decide +kernel
theorem dX8_fresh_17 : decode cX8_fresh 17 = .ok (.invokestatic 65, 3) := by decide +kernel
theorem dX8_fresh_20 : decode cX8_fresh 20 = .ok (.ifCond .eq 12, 3) := by decide +kernel
theorem dX8_fresh_23 : decode cX8_fresh 23 = .ok (.iload_n 3, 1) := by decide +kernel
theorem dX8_fresh_24 : decode cX8_fresh 24 = .ok (.iconst 0, 1) := by decide +kernel
theorem dX8_fresh_25 : decode cX8_fresh 25 = .ok (.iconst 1, 1) := by decide +kernel
theorem dX8_fresh_26 : decode cX8_fresh 26 = .ok (.invokestatic 65, 3) := by decide +kernel
theorem dX8_fresh_29 : decode cX8_fresh 29 = .ok (.ifCond .ne 6, 3) := by decide +kernel
theorem dX8_fresh_32 : decode cX8_fresh 32 = .ok (.bipush (-2), 2) := by decide +kernel
theorem dX8_fresh_34 : decode cX8_fresh 34 = .ok (.ireturn, 1) := by decide +kernel
theorem dX8_fresh_35 : decode cX8_fresh 35 = .ok (.aload_n 0, 1) := by decide +kernel
theorem dX8_fresh_36 : decode cX8_fresh 36 = .ok (.getfield 28, 3) := by decide +kernel
theorem dX8_fresh_39 : decode cX8_fresh 39 = .ok (.iload_n 1, 1) := by decide +kernel
theorem dX8_fresh_40 : decode cX8_fresh 40 = .ok (.invokevirtual 220, 3) := by decide +kernel
theorem dX8_fresh_43 : decode cX8_fresh 43 = .ok (.ifCond .ne 6, 3) := by decide +kernel
theorem dX8_fresh_46 : decode cX8_fresh 46 = .ok (.bipush (-3), 2) := by decide +kernel
theorem dX8_fresh_48 : decode cX8_fresh 48 = .ok (.ireturn, 1) := by decide +kernel
theorem dX8_fresh_49 : decode cX8_fresh 49 = .ok (.iload_n 3, 1) := by decide +kernel
theorem dX8_fresh_50 : decode cX8_fresh 50 = .ok (.ifCond .ne 15, 3) := by decide +kernel
theorem dX8_fresh_53 : decode cX8_fresh 53 = .ok (.aload_n 0, 1) := by decide +kernel
theorem dX8_fresh_54 : decode cX8_fresh 54 = .ok (.getfield 46, 3) := by decide +kernel
theorem dX8_fresh_57 : decode cX8_fresh 57 = .ok (.iload_n 1, 1) := by decide +kernel
theorem dX8_fresh_58 : decode cX8_fresh 58 = .ok (.iload_n 2, 1) := by decide +kernel
theorem dX8_fresh_59 : decode cX8_fresh 59 = .ok (.invokevirtual 223, 3) := by decide +kernel
theorem dX8_fresh_62 : decode cX8_fresh 62 = .ok (.goto 12, 3) := by decide +kernel
theorem dX8_fresh_65 : decode cX8_fresh 65 = .ok (.aload_n 0, 1) := by decide +kernel
theorem dX8_fresh_66 : decode cX8_fresh 66 = .ok (.getfield 46, 3) := by decide +kernel
theorem dX8_fresh_69 : decode cX8_fresh 69 = .ok (.iload_n 1, 1) := by decide +kernel
theorem dX8_fresh_70 : decode cX8_fresh 70 = .ok (.iload_n 2, 1) := by decide +kernel
theorem dX8_fresh_71 : decode cX8_fresh 71 = .ok (.invokevirtual 226, 3) := by decide +kernel
theorem dX8_fresh_74 : decode cX8_fresh 74 = .ok (.ireturn, 1) := by decide +kernel
set_option maxRecDepth 20000 in
theorem ggX8_free_X8_isWithin : GoodIn wsX8_free wsX8_isWithin := goodIn_r _ [7] (by decide +kernel) (by decide +kernel)
set_option maxRecDepth 20000 in
theorem gX8_free_X8_isWithin : GoodIn wsX8_free (va_wsS RX8 65 yX8_isWithin wsX8_isWithin) := goodIn_app (goodIn_of _ (by decide +kernel)) ggX8_free_X8_isWithin
set_option maxRecDepth 20000 in
theorem ggX8_free_X2_isThere : GoodIn wsX8_free wsX2_isThere := goodIn_r _ [12, 13, 110, 111, 112, 113, 114, 115, 116, 117, 118, 119, 120, 121, 122] (by decide +kernel) (by decide +kernel)
set_option maxRecDepth 20000 in
theorem gX8_free_X2_isThere : GoodIn wsX8_free (wsV RX8 160 RX2 yX2_isThere wsX2_isThere) := goodIn_app (goodIn_of _ (by decide +kernel)) ggX8_free_X2_isThere
set_option maxRecDepth 20000 in
theorem ggX8_free_X0_cellsForNew : GoodIn wsX8_free wsX0_cellsForNew := goodIn_r _ [18, 19, 20, 21, 22, 23, 24, 25, 26, 27, 28, 29, 30, 31, 32, 33, 34, 35, 11, 36, 37, 38, 39, 40, 41, 42, 43, 44, 45, 46, 47, 48, 49, 50, 51, 52, 53, 54, 55, 6, 56, 57, 58, 59, 60, 61, 62, 63, 64, 65, 66, 67, 68, 69, 70, 71, 72, 73, 74, 75, 76, 77, 78, 79, 80, 81, 82, 83, 84, 85, 86, 87, 88, 89, 90, 91, 92, 93, 94, 95, 96, 97, 98, 99, 100, 101, 123, 124, 110, 111, 112, 113, 114, 115, 116, 117, 118, 119, 120, 121, 122, 125, 126, 127, 128, 129, 130, 131, 132, 133, 134] (by decide +kernel) (by decide +kernel)
set_option maxRecDepth 20000 in
theorem gX8_free_X0_cellsForNew : GoodIn wsX8_free (wsV RX8 229 RX0 yX0_cellsForNew wsX0_cellsForNew) := goodIn_app (goodIn_of _ (by decide +kernel)) ggX8_free_X0_cellsForNew
theorem dX8_free_0 : decode cX8_free 0 = .ok (.iload_n 1, 1) := by decide +kernel
theorem dX8_free_1 : decode cX8_free 1 = .ok (.iconst 1, 1) := by decide +kernel
theorem dX8_free_2 : decode cX8_free 2 = .ok (.bipush 9, 2) := by decide +kernel
theorem dX8_free_4 : decode cX8_free 4 = .ok (.invokestatic 65, 3) := by decide +kernel
theorem dX8_free_7 : decode cX8_free 7 = .ok (.ifCond .eq 23, 3) := by decide +kernel
theorem dX8_free_10 : decode cX8_free 10 = .ok (.iload_n 2, 1) := by decide +kernel
theorem dX8_free_11 : decode cX8_free 11 = .ok (.iconst 0, 1) := by decide +kernel
theorem dX8_free_12 : decode cX8_free 12 = .ok (.bipush 8, 2) := by decide +kernel
theorem dX8_free_14 : decode cX8_free 14 = .ok (.invokestatic 65, 3) := by decide +kernel
theorem dX8_free_17 : decode cX8_free 17 = .ok (.ifCond .eq 13, 3) := by decide +kernel
theorem dX8_free_20 : decode cX8_free 20 = .ok (.aload_n 0, 1) := by decide +kernel
theorem dX8_free_21 : decode cX8_free 21 = .ok (.getfield 28, 3) := by decide +kernel
theorem dX8_free_24 : decode cX8_free 24 = .ok (.invokevirtual 160, 3) := by decide +kernel
theorem dX8_free_27 : decode cX8_free 27 = .ok (.ifCond .ne 7, 3) := by decide +kernel
theorem dX8_free_30 : decode cX8_free 30 = .ok (.ldc2_w 196, 3) := by decide +kernel
theorem dX8_free_33 : decode cX8_free 33 = .ok (.lreturn, 1) := by decide +kernel
theorem dX8_free_34 : decode cX8_free 34 = .ok (.aload_n 0, 1) := by decide +kernel
theorem dX8_free_35 : decode cX8_free 35 = .ok (.getfield 46, 3) := by decide +kernel
theorem dX8_free_38 : decode cX8_free 38 = .ok (.iload_n 1, 1) := by decide +kernel
theorem dX8_free_39 : decode cX8_free 39 = .ok (.iload_n 2, 1) := by decide +kernel
theorem dX8_free_40 : decode cX8_free 40 = .ok (.invokevirtual 229, 3) := by decide +kernel
theorem dX8_free_43 : decode cX8_free 43 = .ok (.lreturn, 1) := by decide +kernel
set_option maxRecDepth 20000 in
theorem ggX8_change_X2_hasHouse : GoodIn wsX8_change wsX2_hasHouse := goodIn_r _ [7, 8, 9, 10, 11, 109, 110, 111, 112, 113, 114, 115, 116, 117, 118, 119, 120, 121] (by decide +kernel) (by decide +kernel)
set_option maxRecDepth 20000 in
theorem gX8_change_X2_hasHouse : GoodIn wsX8_change (wsV RX8 110 RX2 yX2_hasHouse wsX2_hasHouse) := goodIn_app (goodIn_of _ (by decide +kernel)) ggX8_change_X2_hasHouse
set_option maxRecDepth 20000 in
theorem ggX8_change_X0_yearOfChange : GoodIn wsX8_change wsX0_yearOfChange := goodIn_r _ [16, 17, 18, 19, 20, 21, 22, 23, 24, 25, 26, 27, 28, 29, 30, 31, 32, 33, 6, 34, 35, 36, 37, 38, 39, 40, 41, 42, 43, 44, 45, 46, 47, 48, 49, 50, 51, 52, 53, 10, 54, 55, 56, 57, 58, 59, 60, 61, 62, 63, 64, 65, 66, 67, 68, 69, 70, 71, 72, 73, 74, 75, 76, 77, 78, 79, 80, 81, 82, 83, 84, 85, 86, 87, 88, 89, 90, 91, 92, 93, 94, 95, 96, 97, 98, 99, 100, 122, 123, 109, 110, 111, 112, 113, 114, 115, 116, 117, 118, 119, 120, 121, 124, 125, 126, 127, 128, 129, 130, 131, 132, 133] (by decide +kernel) (by decide +kernel)
set_option maxRecDepth 20000 in
theorem gX8_change_X0_yearOfChange : GoodIn wsX8_change (wsV RX8 233 RX0 yX0_yearOfChange wsX0_yearOfChange) := goodIn_app (goodIn_of _ (by decide +kernel)) ggX8_change_X0_yearOfChange
theorem dX8_change_0 : decode cX8_change 0 = .ok (.aload_n 0, 1) := by decide +kernel
theorem dX8_change_1 : decode cX8_change 1 = .ok (.getfield 28, 3) := by decide +kernel
theorem dX8_change_4 : decode cX8_change 4 = .ok (.iload_n 1, 1) := by decide +kernel
theorem dX8_change_5 : decode cX8_change 5 = .ok (.invokevirtual 110, 3) := by decide +kernel
theorem dX8_change_8 : decode cX8_change 8 = .ok (.ifCond .eq 14, 3) := by decide +kernel
theorem dX8_change_11 : decode cX8_change 11 = .ok (.aload_n 0, 1) := by decide +kernel
theorem dX8_change_12 : decode cX8_change 12 = .ok (.getfield 46, 3) := by decide +kernel
theorem dX8_change_15 : decode cX8_change 15 = .ok (.iload_n 1, 1) := by decide +kernel
theorem dX8_change_16 : decode cX8_change 16 = .ok (.invokevirtual 233, 3) := by decide +kernel
theorem dX8_change_19 : decode cX8_change 19 = .ok (.goto 4, 3) := by decide +kernel
theorem dX8_change_22 : decode cX8_change 22 = .ok (.iconst (-1), 1) := by decide +kernel
theorem dX8_change_23 : decode cX8_change 23 = .ok (.ireturn, 1) := by decide +kernel
set_option maxRecDepth 20000 in
theorem ggX8_reading_X2_hasHouse : GoodIn wsX8_reading wsX2_hasHouse := goodIn_r _ [7, 8, 9, 10, 11, 34, 35, 36, 37, 38, 39, 40, 41, 42, 43, 44, 45, 46] (by decide +kernel) (by decide +kernel)
set_option maxRecDepth 20000 in
theorem gX8_reading_X2_hasHouse : GoodIn wsX8_reading (wsV RX8 110 RX2 yX2_hasHouse wsX2_hasHouse) := goodIn_app (goodIn_of _ (by decide +kernel)) ggX8_reading_X2_hasHouse
set_option maxRecDepth 20000 in
theorem ggX8_reading_X8_isWithin : GoodIn wsX8_reading wsX8_isWithin := goodIn_r _ [11] (by decide +kernel) (by decide +kernel)
set_option maxRecDepth 20000 in
theorem gX8_reading_X8_isWithin : GoodIn wsX8_reading (va_wsS RX8 65 yX8_isWithin wsX8_isWithin) := goodIn_app (goodIn_of _ (by decide +kernel)) ggX8_reading_X8_isWithin
set_option maxRecDepth 20000 in
theorem ggX8_reading_X3_isFull : GoodIn wsX8_reading wsX3_isFull := goodIn_r _ [17, 18, 47, 48, 49, 50, 51, 52] (by decide +kernel) (by decide +kernel)
set_option maxRecDepth 20000 in
theorem gX8_reading_X3_isFull : GoodIn wsX8_reading (wsV RX8 236 RX3 yX3_isFull wsX3_isFull) := goodIn_app (goodIn_of _ (by decide +kernel)) ggX8_reading_X3_isFull
set_option maxRecDepth 20000 in
theorem ggX8_reading_X3_keep : GoodIn wsX8_reading wsX3_keep := goodIn_r _ [22, 23, 18, 24, 25, 47, 48, 49, 50, 51, 52] (by decide +kernel) (by decide +kernel)
set_option maxRecDepth 20000 in
theorem gX8_reading_X3_keep : GoodIn wsX8_reading (wsV RX8 239 RX3 yX3_keep wsX3_keep) := goodIn_app (goodIn_of _ (by decide +kernel)) ggX8_reading_X3_keep
theorem dX8_reading_0 : decode cX8_reading 0 = .ok (.aload_n 0, 1) := by decide +kernel
theorem dX8_reading_1 : decode cX8_reading 1 = .ok (.getfield 28, 3) := by decide +kernel
theorem dX8_reading_4 : decode cX8_reading 4 = .ok (.iload_n 1, 1) := by decide +kernel
theorem dX8_reading_5 : decode cX8_reading 5 = .ok (.invokevirtual 110, 3) := by decide +kernel
theorem dX8_reading_8 : decode cX8_reading 8 = .ok (.ifCond .ne 5, 3) := by decide +kernel
theorem dX8_reading_11 : decode cX8_reading 11 = .ok (.iconst (-1), 1) := by decide +kernel
theorem dX8_reading_12 : decode cX8_reading 12 = .ok (.ireturn, 1) := by decide +kernel
theorem dX8_reading_13 : decode cX8_reading 13 = .ok (.iload_n 2, 1) := by decide +kernel
theorem dX8_reading_14 : decode cX8_reading 14 = .ok (.iconst 0, 1) := by decide +kernel
theorem dX8_reading_15 : decode cX8_reading 15 = .ok (.bipush 30, 2) := by decide +kernel
theorem dX8_reading_17 : decode cX8_reading 17 = .ok (.invokestatic 65, 3) := by decide +kernel
theorem dX8_reading_20 : decode cX8_reading 20 = .ok (.ifCond .eq 13, 3) := by decide +kernel
theorem dX8_reading_23 : decode cX8_reading 23 = .ok (.iload_n 3, 1) := by decide +kernel
theorem dX8_reading_24 : decode cX8_reading 24 = .ok (.iconst 0, 1) := by decide +kernel
theorem dX8_reading_25 : decode cX8_reading 25 = .ok (.bipush 7, 2) := by decide +kernel
theorem dX8_reading_27 : decode cX8_reading 27 = .ok (.invokestatic 65, 3) := by decide +kernel
theorem dX8_reading_30 : decode cX8_reading 30 = .ok (.ifCond .ne 6, 3) := by decide +kernel
theorem dX8_reading_33 : decode cX8_reading 33 = .ok (.bipush (-2), 2) := by decide +kernel
theorem dX8_reading_35 : decode cX8_reading 35 = .ok (.ireturn, 1) := by decide +kernel
theorem dX8_reading_36 : decode cX8_reading 36 = .ok (.aload_n 0, 1) := by decide +kernel
theorem dX8_reading_37 : decode cX8_reading 37 = .ok (.getfield 53, 3) := by decide +kernel
theorem dX8_reading_40 : decode cX8_reading 40 = .ok (.invokevirtual 236, 3) := by decide +kernel
theorem dX8_reading_43 : decode cX8_reading 43 = .ok (.ifCond .eq 8, 3) := by decide +kernel
theorem dX8_reading_46 : decode cX8_reading 46 = .ok (.bipush (-4), 2) := by decide +kernel
theorem dX8_reading_48 : decode cX8_reading 48 = .ok (.goto 13, 3) := by decide +kernel
theorem dX8_reading_51 : decode cX8_reading 51 = .ok (.aload_n 0, 1) := by decide +kernel
theorem dX8_reading_52 : decode cX8_reading 52 = .ok (.getfield 53, 3) := by decide +kernel
theorem dX8_reading_55 : decode cX8_reading 55 = .ok (.iload_n 1, 1) := by decide +kernel
theorem dX8_reading_56 : decode cX8_reading 56 = .ok (.iload_n 2, 1) := by decide +kernel
theorem dX8_reading_57 : decode cX8_reading 57 = .ok (.iload_n 3, 1) := by decide +kernel
theorem dX8_reading_58 : decode cX8_reading 58 = .ok (.invokevirtual 239, 3) := by decide +kernel
theorem dX8_reading_61 : decode cX8_reading 61 = .ok (.ireturn, 1) := by decide +kernel
set_option maxRecDepth 20000 in
theorem ggX8_back_X8_isWithin : GoodIn wsX8_back wsX8_isWithin := goodIn_r _ [6] (by decide +kernel) (by decide +kernel)
set_option maxRecDepth 20000 in
theorem gX8_back_X8_isWithin : GoodIn wsX8_back (va_wsS RX8 65 yX8_isWithin wsX8_isWithin) := goodIn_app (goodIn_of _ (by decide +kernel)) ggX8_back_X8_isWithin
theorem dX8_back_0 : decode cX8_back 0 = .ok (.iload_n 1, 1) := by decide +kernel
theorem dX8_back_1 : decode cX8_back 1 = .ok (.iconst 0, 1) := by decide +kernel
theorem dX8_back_2 : decode cX8_back 2 = .ok (.aload_n 0, 1) := by decide +kernel
theorem dX8_back_3 : decode cX8_back 3 = .ok (.getfield 53, 3) := by decide +kernel
theorem dX8_back_6 : decode cX8_back 6 = .ok (.getfield 91, 3) := by decide +kernel
theorem dX8_back_9 : decode cX8_back 9 = .ok (.invokestatic 65, 3) := by decide +kernel
theorem dX8_back_12 : decode cX8_back 12 = .ok (.ifCond .ne 6, 3) := by decide +kernel
theorem dX8_back_15 : decode cX8_back 15 = .ok (.bipush (-2), 2) := by decide +kernel
theorem dX8_back_17 : decode cX8_back 17 = .ok (.ireturn, 1) := by decide +kernel
theorem dX8_back_18 : decode cX8_back 18 = .ok (.aload_n 0, 1) := by decide +kernel
theorem dX8_back_19 : decode cX8_back 19 = .ok (.getfield 53, 3) := by decide +kernel
theorem dX8_back_22 : decode cX8_back 22 = .ok (.dup, 1) := by decide +kernel
theorem dX8_back_23 : decode cX8_back 23 = .ok (.getfield 91, 3) := by decide +kernel
theorem dX8_back_26 : decode cX8_back 26 = .ok (.iload_n 1, 1) := by decide +kernel
theorem dX8_back_27 : decode cX8_back 27 = .ok (.isub, 1) := by decide +kernel
theorem dX8_back_28 : decode cX8_back 28 = .ok (.putfield 91, 3) := by decide +kernel
theorem dX8_back_31 : decode cX8_back 31 = .ok (.aload_n 0, 1) := by decide +kernel
theorem dX8_back_32 : decode cX8_back 32 = .ok (.getfield 53, 3) := by decide +kernel
theorem dX8_back_35 : decode cX8_back 35 = .ok (.getfield 91, 3) := by decide +kernel
theorem dX8_back_38 : decode cX8_back 38 = .ok (.ireturn, 1) := by decide +kernel
set_option maxRecDepth 20000 in
theorem ggX8_fogs_X2_isThere : GoodIn wsX8_fogs wsX2_isThere := goodIn_r _ [7, 8, 115, 116, 117, 118, 119, 120, 121, 122, 123, 124, 125, 126, 127] (by decide +kernel) (by decide +kernel)
set_option maxRecDepth 20000 in
theorem gX8_fogs_X2_isThere : GoodIn wsX8_fogs (wsV RX8 160 RX2 yX2_isThere wsX2_isThere) := goodIn_app (goodIn_of _ (by decide +kernel)) ggX8_fogs_X2_isThere
set_option maxRecDepth 20000 in
theorem ggX8_fogs_X3_possibleFogs : GoodIn wsX8_fogs wsX3_possibleFogs := goodIn_r _ [13, 14, 15, 16, 17, 18, 19, 20, 21, 22, 23, 24, 25, 26, 27, 28, 29, 30, 6, 31, 32, 33, 34, 35, 36, 37, 38, 39, 40, 41, 42, 43, 44, 45, 46, 47, 48, 49, 50, 51, 52, 53, 54, 55, 56, 57, 58, 59, 60, 61, 62, 63, 64, 65, 66, 12, 67, 68, 69, 70, 71, 72, 73, 74, 75, 76, 77, 78, 79, 80, 81, 82, 83, 84, 85, 86, 87, 88, 89, 90, 91, 92, 93, 94, 95, 96, 97, 98, 99, 100, 101, 102, 103, 104, 105, 106, 128, 129, 130, 131, 132, 133, 134, 135, 136, 137, 115, 116, 117, 118, 119, 120, 121, 122, 123, 124, 125, 126, 127, 138, 139, 140, 141, 142, 143] (by decide +kernel) (by decide +kernel)
set_option maxRecDepth 20000 in
theorem gX8_fogs_X3_possibleFogs : GoodIn wsX8_fogs (wsV RX8 242 RX3 yX3_possibleFogs wsX3_possibleFogs) := goodIn_app (goodIn_of _ (by decide +kernel)) ggX8_fogs_X3_possibleFogs
theorem dX8_fogs_0 : decode cX8_fogs 0 = .ok (.aload_n 0, 1) := by decide +kernel
theorem dX8_fogs_1 : decode cX8_fogs 1 = .ok (.getfield 28, 3) := by decide +kernel
theorem dX8_fogs_4 : decode cX8_fogs 4 = .ok (.invokevirtual 160, 3) := by decide +kernel
theorem dX8_fogs_7 : decode cX8_fogs 7 = .ok (.ifCond .eq 13, 3) := by decide +kernel
theorem dX8_fogs_10 : decode cX8_fogs 10 = .ok (.aload_n 0, 1) := by decide +kernel
theorem dX8_fogs_11 : decode cX8_fogs 11 = .ok (.getfield 53, 3) := by decide +kernel
theorem dX8_fogs_14 : decode cX8_fogs 14 = .ok (.invokevirtual 242, 3) := by decide +kernel
theorem dX8_fogs_17 : decode cX8_fogs 17 = .ok (.goto 5, 3) := by decide +kernel
theorem dX8_fogs_20 : decode cX8_fogs 20 = .ok (.bipush (-3), 2) := by decide +kernel
theorem dX8_fogs_22 : decode cX8_fogs 22 = .ok (.ireturn, 1) := by decide +kernel
set_option maxRecDepth 20000 in
theorem ggX8_stood_X8_isWithin : GoodIn wsX8_stood wsX8_isWithin := goodIn_r _ [6] (by decide +kernel) (by decide +kernel)
set_option maxRecDepth 20000 in
theorem gX8_stood_X8_isWithin : GoodIn wsX8_stood (va_wsS RX8 65 yX8_isWithin wsX8_isWithin) := goodIn_app (goodIn_of _ (by decide +kernel)) ggX8_stood_X8_isWithin
set_option maxRecDepth 20000 in
theorem ggX8_stood_X2_isThere : GoodIn wsX8_stood wsX2_isThere := goodIn_r _ [11, 12, 121, 122, 123, 124, 125, 126, 127, 128, 129, 130, 131, 132, 133] (by decide +kernel) (by decide +kernel)
set_option maxRecDepth 20000 in
theorem gX8_stood_X2_isThere : GoodIn wsX8_stood (wsV RX8 160 RX2 yX2_isThere wsX2_isThere) := goodIn_app (goodIn_of _ (by decide +kernel)) ggX8_stood_X2_isThere
set_option maxRecDepth 20000 in
theorem ggX8_stood_X3_howManyStood : GoodIn wsX8_stood wsX3_howManyStood := goodIn_r _ [17, 18, 19, 20, 21, 22, 23, 24, 25, 26, 27, 28, 29, 30, 31, 32, 33, 10, 34, 35, 36, 37, 38, 39, 40, 41, 42, 43, 44, 45, 46, 47, 48, 49, 50, 51, 52, 53, 5, 54, 55, 56, 57, 58, 59, 60, 61, 62, 63, 64, 65, 66, 67, 68, 16, 69, 70, 71, 72, 73, 74, 75, 76, 77, 78, 79, 80, 81, 82, 83, 84, 85, 86, 87, 88, 89, 90, 91, 92, 93, 94, 95, 96, 97, 98, 99, 100, 101, 102, 103, 104, 105, 106, 107, 108, 134, 135, 136, 137, 138, 139, 121, 122, 123, 124, 125, 126, 127, 128, 129, 130, 131, 132, 133, 140, 141, 142, 143, 144, 145, 146, 147, 148, 149] (by decide +kernel) (by decide +kernel)
set_option maxRecDepth 20000 in
theorem gX8_stood_X3_howManyStood : GoodIn wsX8_stood (wsV RX8 245 RX3 yX3_howManyStood wsX3_howManyStood) := goodIn_app (goodIn_of _ (by decide +kernel)) ggX8_stood_X3_howManyStood
set_option maxRecDepth 20000 in
theorem ggX8_stood_X3_firstThatStood : GoodIn wsX8_stood wsX3_firstThatStood := goodIn_r _ [112, 18, 19, 20, 21, 22, 23, 24, 25, 26, 27, 28, 29, 30, 31, 32, 33, 10, 34, 35, 36, 37, 38, 39, 40, 41, 42, 43, 44, 45, 46, 47, 48, 49, 50, 51, 52, 53, 5, 54, 55, 56, 57, 58, 59, 60, 61, 62, 63, 64, 65, 66, 67, 68, 16, 69, 70, 71, 72, 73, 74, 75, 76, 77, 78, 79, 80, 81, 82, 83, 84, 85, 86, 87, 88, 89, 90, 91, 92, 93, 94, 95, 96, 97, 98, 99, 100, 101, 102, 103, 104, 105, 106, 107, 108, 134, 135, 136, 137, 138, 139, 121, 122, 123, 124, 125, 126, 127, 128, 129, 130, 131, 132, 133, 140, 141, 142, 143, 144, 145, 146, 147, 148, 149] (by decide +kernel) (by decide +kernel)
set_option maxRecDepth 20000 in
theorem gX8_stood_X3_firstThatStood : GoodIn wsX8_stood (wsV RX8 248 RX3 yX3_firstThatStood wsX3_firstThatStood) := goodIn_app (goodIn_of _ (by decide +kernel)) ggX8_stood_X3_firstThatStood
theorem dX8_stood_0 : decode cX8_stood 0 = .ok (.iload_n 1, 1) := by decide +kernel
theorem dX8_stood_1 : decode cX8_stood 1 = .ok (.iconst 0, 1) := by decide +kernel
theorem dX8_stood_2 : decode cX8_stood 2 = .ok (.iconst 1, 1) := by decide +kernel
theorem dX8_stood_3 : decode cX8_stood 3 = .ok (.invokestatic 65, 3) := by decide +kernel
theorem dX8_stood_6 : decode cX8_stood 6 = .ok (.ifCond .ne 6, 3) := by decide +kernel
theorem dX8_stood_9 : decode cX8_stood 9 = .ok (.bipush (-2), 2) := by decide +kernel
theorem dX8_stood_11 : decode cX8_stood 11 = .ok (.ireturn, 1) := by decide +kernel
theorem dX8_stood_12 : decode cX8_stood 12 = .ok (.aload_n 0, 1) := by decide +kernel
theorem dX8_stood_13 : decode cX8_stood 13 = .ok (.getfield 28, 3) := by decide +kernel
theorem dX8_stood_16 : decode cX8_stood 16 = .ok (.invokevirtual 160, 3) := by decide +kernel
theorem dX8_stood_19 : decode cX8_stood 19 = .ok (.ifCond .ne 6, 3) := by decide +kernel
theorem dX8_stood_22 : decode cX8_stood 22 = .ok (.bipush (-3), 2) := by decide +kernel
theorem dX8_stood_24 : decode cX8_stood 24 = .ok (.ireturn, 1) := by decide +kernel
theorem dX8_stood_25 : decode cX8_stood 25 = .ok (.iload_n 1, 1) := by decide +kernel
theorem dX8_stood_26 : decode cX8_stood 26 = .ok (.ifCond .ne 13, 3) := by decide +kernel
theorem dX8_stood_29 : decode cX8_stood 29 = .ok (.aload_n 0, 1) := by decide +kernel
theorem dX8_stood_30 : decode cX8_stood 30 = .ok (.getfield 53, 3) := by decide +kernel
theorem dX8_stood_33 : decode cX8_stood 33 = .ok (.invokevirtual 245, 3) := by decide +kernel
theorem dX8_stood_36 : decode cX8_stood 36 = .ok (.goto 10, 3) := by decide +kernel
theorem dX8_stood_39 : decode cX8_stood 39 = .ok (.aload_n 0, 1) := by decide +kernel
theorem dX8_stood_40 : decode cX8_stood 40 = .ok (.getfield 53, 3) := by decide +kernel
theorem dX8_stood_43 : decode cX8_stood 43 = .ok (.invokevirtual 248, 3) := by decide +kernel
theorem dX8_stood_46 : decode cX8_stood 46 = .ok (.ireturn, 1) := by decide +kernel
set_option maxRecDepth 20000 in
theorem ggX8_sheet_X8_isSheet : GoodIn wsX8_sheet wsX8_isSheet := goodIn_r _ [6, 7, 8, 5, 9] (by decide +kernel) (by decide +kernel)
set_option maxRecDepth 20000 in
theorem gX8_sheet_X8_isSheet : GoodIn wsX8_sheet (va_wsS RX8 61 yX8_isSheet wsX8_isSheet) := goodIn_app (goodIn_of _ (by decide +kernel)) ggX8_sheet_X8_isSheet
set_option maxRecDepth 20000 in
theorem ggX8_sheet_X8_isWithin : GoodIn wsX8_sheet wsX8_isWithin := goodIn_r _ [9] (by decide +kernel) (by decide +kernel)
set_option maxRecDepth 20000 in
theorem gX8_sheet_X8_isWithin : GoodIn wsX8_sheet (va_wsS RX8 65 yX8_isWithin wsX8_isWithin) := goodIn_app (goodIn_of _ (by decide +kernel)) ggX8_sheet_X8_isWithin
set_option maxRecDepth 20000 in
theorem ggX8_sheet_X8_answerFault : GoodIn wsX8_sheet wsX8_answerFault := goodIn_r _ [13, 1, 22, 23, 24, 25, 26, 27, 28, 29] (by decide +kernel) (by decide +kernel)
set_option maxRecDepth 20000 in
theorem gX8_sheet_X8_answerFault : GoodIn wsX8_sheet (wsV RX8 77 RX8 yX8_answerFault wsX8_answerFault) := goodIn_app (goodIn_of _ (by decide +kernel)) ggX8_sheet_X8_answerFault
set_option maxRecDepth 20000 in
theorem ggX8_sheet_X4_makeRow : GoodIn wsX8_sheet wsX4_makeRow := goodIn_r _ [18, 19, 20, 21, 30, 31, 32] (by decide +kernel) (by decide +kernel)
set_option maxRecDepth 20000 in
theorem gX8_sheet_X4_makeRow : GoodIn wsX8_sheet (wsV RX8 251 RX4 yX4_makeRow wsX4_makeRow) := goodIn_app (goodIn_of _ (by decide +kernel)) ggX8_sheet_X4_makeRow
theorem dX8_sheet_0 : decode cX8_sheet 0 = .ok (.aload_n 0, 1) := by decide +kernel
theorem dX8_sheet_1 : decode cX8_sheet 1 = .ok (.iconst 0, 1) := by decide +kernel
theorem dX8_sheet_2 : decode cX8_sheet 2 = .ok (.putfield 57, 3) := by decide +kernel
theorem dX8_sheet_5 : decode cX8_sheet 5 = .ok (.iload_n 1, 1) := by decide +kernel
theorem dX8_sheet_6 : decode cX8_sheet 6 = .ok (.invokestatic 61, 3) := by decide +kernel
theorem dX8_sheet_9 : decode cX8_sheet 9 = .ok (.ifCond .ne 5, 3) := by decide +kernel
theorem dX8_sheet_12 : decode cX8_sheet 12 = .ok (.iconst (-1), 1) := by decide +kernel
theorem dX8_sheet_13 : decode cX8_sheet 13 = .ok (.ireturn, 1) := by decide +kernel
theorem dX8_sheet_14 : decode cX8_sheet 14 = .ok (.iload_n 2, 1) := by decide +kernel
theorem dX8_sheet_15 : decode cX8_sheet 15 = .ok (.iconst 0, 1) := by decide +kernel
theorem dX8_sheet_16 : decode cX8_sheet 16 = .ok (.iconst 2, 1) := by decide +kernel
theorem dX8_sheet_17 : decode cX8_sheet 17 = .ok (.invokestatic 65, 3) := by decide +kernel
theorem dX8_sheet_20 : decode cX8_sheet 20 = .ok (.ifCond .eq 9, 3) := by decide +kernel
theorem dX8_sheet_23 : decode cX8_sheet 23 = .ok (.iload_n 3, 1) := by decide +kernel
theorem dX8_sheet_24 : decode cX8_sheet 24 = .ok (.bipush 100, 2) := by decide +kernel
theorem dX8_sheet_26 : decode cX8_sheet 26 = .ok (.if_icmp .le 6, 3) := by decide +kernel
theorem dX8_sheet_29 : decode cX8_sheet 29 = .ok (.bipush (-2), 2) := by decide +kernel
theorem dX8_sheet_31 : decode cX8_sheet 31 = .ok (.ireturn, 1) := by decide +kernel
theorem dX8_sheet_32 : decode cX8_sheet 32 = .ok (.iload_n 3, 1) := by decide +kernel
theorem dX8_sheet_33 : decode cX8_sheet 33 = .ok (.ifCond .ge 9, 3) := by decide +kernel
theorem dX8_sheet_36 : decode cX8_sheet 36 = .ok (.aload_n 0, 1) := by decide +kernel
theorem dX8_sheet_37 : decode cX8_sheet 37 = .ok (.iconst 4, 1) := by decide +kernel
theorem dX8_sheet_38 : decode cX8_sheet 38 = .ok (.invokevirtual 77, 3) := by decide +kernel
theorem dX8_sheet_41 : decode cX8_sheet 41 = .ok (.ireturn, 1) := by decide +kernel
theorem dX8_sheet_42 : decode cX8_sheet 42 = .ok (.aload_n 0, 1) := by decide +kernel
theorem dX8_sheet_43 : decode cX8_sheet 43 = .ok (.getfield 13, 3) := by decide +kernel
theorem dX8_sheet_46 : decode cX8_sheet 46 = .ok (.iload_n 1, 1) := by decide +kernel
theorem dX8_sheet_47 : decode cX8_sheet 47 = .ok (.aaload, 1) := by decide +kernel
theorem dX8_sheet_48 : decode cX8_sheet 48 = .ok (.iload_n 2, 1) := by decide +kernel
theorem dX8_sheet_49 : decode cX8_sheet 49 = .ok (.iload_n 3, 1) := by decide +kernel
theorem dX8_sheet_50 : decode cX8_sheet 50 = .ok (.invokevirtual 251, 3) := by decide +kernel
theorem dX8_sheet_53 : decode cX8_sheet 53 = .ok (.iconst 1, 1) := by decide +kernel
theorem dX8_sheet_54 : decode cX8_sheet 54 = .ok (.ireturn, 1) := by decide +kernel
set_option maxRecDepth 20000 in
theorem ggX8_lose_X8_isSheet : GoodIn wsX8_lose wsX8_isSheet := goodIn_r _ [5, 6, 7, 4, 8] (by decide +kernel) (by decide +kernel)
set_option maxRecDepth 20000 in
theorem gX8_lose_X8_isSheet : GoodIn wsX8_lose (va_wsS RX8 61 yX8_isSheet wsX8_isSheet) := goodIn_app (goodIn_of _ (by decide +kernel)) ggX8_lose_X8_isSheet
set_option maxRecDepth 20000 in
theorem ggX8_lose_X4_hasRow : GoodIn wsX8_lose wsX4_hasRow := goodIn_r _ [13, 14, 27, 28, 29] (by decide +kernel) (by decide +kernel)
set_option maxRecDepth 20000 in
theorem gX8_lose_X4_hasRow : GoodIn wsX8_lose (wsV RX8 255 RX4 yX4_hasRow wsX4_hasRow) := goodIn_app (goodIn_of _ (by decide +kernel)) ggX8_lose_X4_hasRow
set_option maxRecDepth 20000 in
theorem ggX8_lose_X4_dropRow : GoodIn wsX8_lose wsX4_dropRow := goodIn_r _ [18, 14, 27, 28, 29] (by decide +kernel) (by decide +kernel)
set_option maxRecDepth 20000 in
theorem gX8_lose_X4_dropRow : GoodIn wsX8_lose (wsV RX8 258 RX4 yX4_dropRow wsX4_dropRow) := goodIn_app (goodIn_of _ (by decide +kernel)) ggX8_lose_X4_dropRow
theorem dX8_lose_0 : decode cX8_lose 0 = .ok (.iload_n 1, 1) := by decide +kernel
theorem dX8_lose_1 : decode cX8_lose 1 = .ok (.invokestatic 61, 3) := by decide +kernel
theorem dX8_lose_4 : decode cX8_lose 4 = .ok (.ifCond .ne 5, 3) := by decide +kernel
theorem dX8_lose_7 : decode cX8_lose 7 = .ok (.iconst (-1), 1) := by decide +kernel
theorem dX8_lose_8 : decode cX8_lose 8 = .ok (.ireturn, 1) := by decide +kernel
theorem dX8_lose_9 : decode cX8_lose 9 = .ok (.aload_n 0, 1) := by decide +kernel
theorem dX8_lose_10 : decode cX8_lose 10 = .ok (.getfield 13, 3) := by decide +kernel
theorem dX8_lose_13 : decode cX8_lose 13 = .ok (.iload_n 1, 1) := by decide +kernel
theorem dX8_lose_14 : decode cX8_lose 14 = .ok (.aaload, 1) := by decide +kernel
theorem dX8_lose_15 : decode cX8_lose 15 = .ok (.invokevirtual 255, 3) := by decide +kernel
theorem dX8_lose_18 : decode cX8_lose 18 = .ok (.ifCond .ne 5, 3) := by decide +kernel
theorem dX8_lose_21 : decode cX8_lose 21 = .ok (.iconst 0, 1) := by decide +kernel
theorem dX8_lose_22 : decode cX8_lose 22 = .ok (.ireturn, 1) := by decide +kernel
theorem dX8_lose_23 : decode cX8_lose 23 = .ok (.aload_n 0, 1) := by decide +kernel
theorem dX8_lose_24 : decode cX8_lose 24 = .ok (.getfield 13, 3) := by decide +kernel
theorem dX8_lose_27 : decode cX8_lose 27 = .ok (.iload_n 1, 1) := by decide +kernel
theorem dX8_lose_28 : decode cX8_lose 28 = .ok (.aaload, 1) := by decide +kernel
theorem dX8_lose_29 : decode cX8_lose 29 = .ok (.invokevirtual 258, 3) := by decide +kernel
theorem dX8_lose_32 : decode cX8_lose 32 = .ok (.iconst 1, 1) := by decide +kernel
theorem dX8_lose_33 : decode cX8_lose 33 = .ok (.ireturn, 1) := by decide +kernel
set_option maxRecDepth 20000 in
theorem ggX8_put_X8_isSheet : GoodIn wsX8_put wsX8_isSheet := goodIn_r _ [6, 7, 8, 5, 9] (by decide +kernel) (by decide +kernel)
set_option maxRecDepth 20000 in
theorem gX8_put_X8_isSheet : GoodIn wsX8_put (va_wsS RX8 61 yX8_isSheet wsX8_isSheet) := goodIn_app (goodIn_of _ (by decide +kernel)) ggX8_put_X8_isSheet
set_option maxRecDepth 20000 in
theorem ggX8_put_X4_hasRow : GoodIn wsX8_put wsX4_hasRow := goodIn_r _ [14, 15, 38, 39, 40] (by decide +kernel) (by decide +kernel)
set_option maxRecDepth 20000 in
theorem gX8_put_X4_hasRow : GoodIn wsX8_put (wsV RX8 255 RX4 yX4_hasRow wsX4_hasRow) := goodIn_app (goodIn_of _ (by decide +kernel)) ggX8_put_X4_hasRow
set_option maxRecDepth 20000 in
theorem ggX8_put_X8_answerFault : GoodIn wsX8_put wsX8_answerFault := goodIn_r _ [19, 1, 30, 31, 32, 33, 34, 35, 36, 37] (by decide +kernel) (by decide +kernel)
set_option maxRecDepth 20000 in
theorem gX8_put_X8_answerFault : GoodIn wsX8_put (wsV RX8 77 RX8 yX8_answerFault wsX8_answerFault) := goodIn_app (goodIn_of _ (by decide +kernel)) ggX8_put_X8_answerFault
set_option maxRecDepth 20000 in
theorem ggX8_put_X4_holds : GoodIn wsX8_put wsX4_holds := goodIn_r _ [23, 15, 38, 39, 40] (by decide +kernel) (by decide +kernel)
set_option maxRecDepth 20000 in
theorem gX8_put_X4_holds : GoodIn wsX8_put (wsV RX8 261 RX4 yX4_holds wsX4_holds) := goodIn_app (goodIn_of _ (by decide +kernel)) ggX8_put_X4_holds
set_option maxRecDepth 20000 in
theorem ggX8_put_X4_write : GoodIn wsX8_put wsX4_write := goodIn_r _ [27, 28, 29, 38, 39, 40] (by decide +kernel) (by decide +kernel)
set_option maxRecDepth 20000 in
theorem gX8_put_X4_write : GoodIn wsX8_put (wsV RX8 264 RX4 yX4_write wsX4_write) := goodIn_app (goodIn_of _ (by decide +kernel)) ggX8_put_X4_write
theorem dX8_put_0 : decode cX8_put 0 = .ok (.aload_n 0, 1) := by decide +kernel
theorem dX8_put_1 : decode cX8_put 1 = .ok (.iconst 0, 1) := by decide +kernel
theorem dX8_put_2 : decode cX8_put 2 = .ok (.putfield 57, 3) := by decide +kernel
theorem dX8_put_5 : decode cX8_put 5 = .ok (.iload_n 1, 1) := by decide +kernel
theorem dX8_put_6 : decode cX8_put 6 = .ok (.invokestatic 61, 3) := by decide +kernel
theorem dX8_put_9 : decode cX8_put 9 = .ok (.ifCond .ne 5, 3) := by decide +kernel
theorem dX8_put_12 : decode cX8_put 12 = .ok (.iconst (-1), 1) := by decide +kernel
theorem dX8_put_13 : decode cX8_put 13 = .ok (.ireturn, 1) := by decide +kernel
theorem dX8_put_14 : decode cX8_put 14 = .ok (.aload_n 0, 1) := by decide +kernel
theorem dX8_put_15 : decode cX8_put 15 = .ok (.getfield 13, 3) := by decide +kernel
theorem dX8_put_18 : decode cX8_put 18 = .ok (.iload_n 1, 1) := by decide +kernel
theorem dX8_put_19 : decode cX8_put 19 = .ok (.aaload, 1) := by decide +kernel
theorem dX8_put_20 : decode cX8_put 20 = .ok (.astore 4, 2) := by decide +kernel
theorem dX8_put_22 : decode cX8_put 22 = .ok (.aload 4, 2) := by decide +kernel
theorem dX8_put_24 : decode cX8_put 24 = .ok (.invokevirtual 255, 3) := by decide +kernel
theorem dX8_put_27 : decode cX8_put 27 = .ok (.ifCond .ne 9, 3) := by decide +kernel
theorem dX8_put_30 : decode cX8_put 30 = .ok (.aload_n 0, 1) := by decide +kernel
theorem dX8_put_31 : decode cX8_put 31 = .ok (.iconst 1, 1) := by decide +kernel
theorem dX8_put_32 : decode cX8_put 32 = .ok (.invokevirtual 77, 3) := by decide +kernel
theorem dX8_put_35 : decode cX8_put 35 = .ok (.ireturn, 1) := by decide +kernel
theorem dX8_put_36 : decode cX8_put 36 = .ok (.aload 4, 2) := by decide +kernel
theorem dX8_put_38 : decode cX8_put 38 = .ok (.iload_n 2, 1) := by decide +kernel
theorem dX8_put_39 : decode cX8_put 39 = .ok (.invokevirtual 261, 3) := by decide +kernel
theorem dX8_put_42 : decode cX8_put 42 = .ok (.ifCond .ne 9, 3) := by decide +kernel
theorem dX8_put_45 : decode cX8_put 45 = .ok (.aload_n 0, 1) := by decide +kernel
theorem dX8_put_46 : decode cX8_put 46 = .ok (.iconst 3, 1) := by decide +kernel
theorem dX8_put_47 : decode cX8_put 47 = .ok (.invokevirtual 77, 3) := by decide +kernel
theorem dX8_put_50 : decode cX8_put 50 = .ok (.ireturn, 1) := by decide +kernel
theorem dX8_put_51 : decode cX8_put 51 = .ok (.aload 4, 2) := by decide +kernel
theorem dX8_put_53 : decode cX8_put 53 = .ok (.iload_n 2, 1) := by decide +kernel
theorem dX8_put_54 : decode cX8_put 54 = .ok (.iload_n 3, 1) := by decide +kernel
theorem dX8_put_55 : decode cX8_put 55 = .ok (.invokevirtual 264, 3) := by decide +kernel
theorem dX8_put_58 : decode cX8_put 58 = .ok (.iconst 1, 1) := by decide +kernel
theorem dX8_put_59 : decode cX8_put 59 = .ok (.ireturn, 1) := by decide +kernel
set_option maxRecDepth 20000 in
theorem ggX8_cell_X8_isSheet : GoodIn wsX8_cell wsX8_isSheet := goodIn_r _ [8, 9, 10, 7, 11] (by decide +kernel) (by decide +kernel)
set_option maxRecDepth 20000 in
theorem gX8_cell_X8_isSheet : GoodIn wsX8_cell (va_wsS RX8 61 yX8_isSheet wsX8_isSheet) := goodIn_app (goodIn_of _ (by decide +kernel)) ggX8_cell_X8_isSheet
set_option maxRecDepth 20000 in
theorem ggX8_cell_X8_isWithin : GoodIn wsX8_cell wsX8_isWithin := goodIn_r _ [11] (by decide +kernel) (by decide +kernel)
set_option maxRecDepth 20000 in
theorem gX8_cell_X8_isWithin : GoodIn wsX8_cell (va_wsS RX8 65 yX8_isWithin wsX8_isWithin) := goodIn_app (goodIn_of _ (by decide +kernel)) ggX8_cell_X8_isWithin
set_option maxRecDepth 20000 in
theorem ggX8_cell_X4_faultAs : GoodIn wsX8_cell wsX4_faultAs := goodIn_r _ [16, 17, 18, 19, 20, 15, 21, 22, 35, 36, 37] (by decide +kernel) (by decide +kernel)
set_option maxRecDepth 20000 in
theorem gX8_cell_X4_faultAs : GoodIn wsX8_cell (wsV RX8 69 RX4 yX4_faultAs wsX4_faultAs) := goodIn_app (goodIn_of _ (by decide +kernel)) ggX8_cell_X4_faultAs
set_option maxRecDepth 20000 in
theorem ggX8_cell_X4_holds : GoodIn wsX8_cell wsX4_holds := goodIn_r _ [26, 22, 35, 36, 37] (by decide +kernel) (by decide +kernel)
set_option maxRecDepth 20000 in
theorem gX8_cell_X4_holds : GoodIn wsX8_cell (wsV RX8 261 RX4 yX4_holds wsX4_holds) := goodIn_app (goodIn_of _ (by decide +kernel)) ggX8_cell_X4_holds
theorem dX8_cell_0 : decode cX8_cell 0 = .ok (.aload_n 0, 1) := by decide +kernel
theorem dX8_cell_1 : decode cX8_cell 1 = .ok (.iconst 0, 1) := by decide +kernel
theorem dX8_cell_2 : decode cX8_cell 2 = .ok (.putfield 57, 3) := by decide +kernel
theorem dX8_cell_5 : decode cX8_cell 5 = .ok (.iload_n 1, 1) := by decide +kernel
theorem dX8_cell_6 : decode cX8_cell 6 = .ok (.invokestatic 61, 3) := by decide +kernel
theorem dX8_cell_9 : decode cX8_cell 9 = .ok (.ifCond .eq 12, 3) := by decide +kernel
theorem dX8_cell_12 : decode cX8_cell 12 = .ok (.iload_n 3, 1) := by decide +kernel
theorem dX8_cell_13 : decode cX8_cell 13 = .ok (.iconst 0, 1) := by decide +kernel
theorem dX8_cell_14 : decode cX8_cell 14 = .ok (.iconst 2, 1) := by decide +kernel
theorem dX8_cell_15 : decode cX8_cell 15 = .ok (.invokestatic 65, 3) := by decide +kernel
theorem dX8_cell_18 : decode cX8_cell 18 = .ok (.ifCond .ne 7, 3) := by decide +kernel
theorem dX8_cell_21 : decode cX8_cell 21 = .ok (.ldc2_w 196, 3) := by decide +kernel
theorem dX8_cell_24 : decode cX8_cell 24 = .ok (.lreturn, 1) := by decide +kernel
theorem dX8_cell_25 : decode cX8_cell 25 = .ok (.aload_n 0, 1) := by decide +kernel
theorem dX8_cell_26 : decode cX8_cell 26 = .ok (.getfield 13, 3) := by decide +kernel
theorem dX8_cell_29 : decode cX8_cell 29 = .ok (.iload_n 1, 1) := by decide +kernel
theorem dX8_cell_30 : decode cX8_cell 30 = .ok (.aaload, 1) := by decide +kernel
theorem dX8_cell_31 : decode cX8_cell 31 = .ok (.astore 4, 2) := by decide +kernel
theorem dX8_cell_33 : decode cX8_cell 33 = .ok (.aload_n 0, 1) := by decide +kernel
theorem dX8_cell_34 : decode cX8_cell 34 = .ok (.aload 4, 2) := by decide +kernel
theorem dX8_cell_36 : decode cX8_cell 36 = .ok (.iload_n 3, 1) := by decide +kernel
theorem dX8_cell_37 : decode cX8_cell 37 = .ok (.invokevirtual 69, 3) := by decide +kernel
theorem dX8_cell_40 : decode cX8_cell 40 = .ok (.putfield 57, 3) := by decide +kernel
theorem dX8_cell_43 : decode cX8_cell 43 = .ok (.aload_n 0, 1) := by decide +kernel
theorem dX8_cell_44 : decode cX8_cell 44 = .ok (.getfield 57, 3) := by decide +kernel
theorem dX8_cell_47 : decode cX8_cell 47 = .ok (.ifCond .ne 17, 3) := by decide +kernel
theorem dX8_cell_50 : decode cX8_cell 50 = .ok (.aload 4, 2) := by decide +kernel
theorem dX8_cell_52 : decode cX8_cell 52 = .ok (.iload_n 2, 1) := by decide +kernel
theorem dX8_cell_53 : decode cX8_cell 53 = .ok (.invokevirtual 261, 3) := by decide +kernel
theorem dX8_cell_56 : decode cX8_cell 56 = .ok (.ifCond .ne 8, 3) := by decide +kernel
theorem dX8_cell_59 : decode cX8_cell 59 = .ok (.aload_n 0, 1) := by decide +kernel
theorem dX8_cell_60 : decode cX8_cell 60 = .ok (.iconst 3, 1) := by decide +kernel
theorem dX8_cell_61 : decode cX8_cell 61 = .ok (.putfield 57, 3) := by decide +kernel
theorem dX8_cell_64 : decode cX8_cell 64 = .ok (.aload_n 0, 1) := by decide +kernel
theorem dX8_cell_65 : decode cX8_cell 65 = .ok (.getfield 57, 3) := by decide +kernel
theorem dX8_cell_68 : decode cX8_cell 68 = .ok (.ifCond .ne 14, 3) := by decide +kernel
theorem dX8_cell_71 : decode cX8_cell 71 = .ok (.aload 4, 2) := by decide +kernel
theorem dX8_cell_73 : decode cX8_cell 73 = .ok (.getfield 267, 3) := by decide +kernel
theorem dX8_cell_76 : decode cX8_cell 76 = .ok (.iload_n 2, 1) := by decide +kernel
theorem dX8_cell_77 : decode cX8_cell 77 = .ok (.iaload, 1) := by decide +kernel
theorem dX8_cell_78 : decode cX8_cell 78 = .ok (.i2l, 1) := by decide +kernel
theorem dX8_cell_79 : decode cX8_cell 79 = .ok (.goto 6, 3) := by decide +kernel
theorem dX8_cell_82 : decode cX8_cell 82 = .ok (.ldc2_w 196, 3) := by decide +kernel
theorem dX8_cell_85 : decode cX8_cell 85 = .ok (.lreturn, 1) := by decide +kernel
set_option maxRecDepth 20000 in
theorem ggX8_copy_X8_isSheet : GoodIn wsX8_copy wsX8_isSheet := goodIn_r _ [12, 13, 14, 11, 15] (by decide +kernel) (by decide +kernel)
set_option maxRecDepth 20000 in
theorem gX8_copy_X8_isSheet : GoodIn wsX8_copy (va_wsS RX8 61 yX8_isSheet wsX8_isSheet) := goodIn_app (goodIn_of _ (by decide +kernel)) ggX8_copy_X8_isSheet
set_option maxRecDepth 20000 in
theorem ggX8_copy_X4_hasRow : GoodIn wsX8_copy wsX4_hasRow := goodIn_r _ [20, 21, 38, 39, 40] (by decide +kernel) (by decide +kernel)
set_option maxRecDepth 20000 in
theorem gX8_copy_X4_hasRow : GoodIn wsX8_copy (wsV RX8 255 RX4 yX4_hasRow wsX4_hasRow) := goodIn_app (goodIn_of _ (by decide +kernel)) ggX8_copy_X4_hasRow
set_option maxRecDepth 20000 in
theorem ggX8_copy_X8_answerFault : GoodIn wsX8_copy wsX8_answerFault := goodIn_r _ [25, 1, 30, 31, 32, 33, 34, 35, 36, 37] (by decide +kernel) (by decide +kernel)
set_option maxRecDepth 20000 in
theorem gX8_copy_X8_answerFault : GoodIn wsX8_copy (wsV RX8 77 RX8 yX8_answerFault wsX8_answerFault) := goodIn_app (goodIn_of _ (by decide +kernel)) ggX8_copy_X8_answerFault
set_option maxRecDepth 20000 in
theorem ggX8_copy_X4_holdsRun : GoodIn wsX8_copy wsX4_holdsRun := goodIn_r _ [29, 21, 38, 39, 40] (by decide +kernel) (by decide +kernel)
set_option maxRecDepth 20000 in
theorem gX8_copy_X4_holdsRun : GoodIn wsX8_copy (wsV RX8 73 RX4 yX4_holdsRun wsX4_holdsRun) := goodIn_app (goodIn_of _ (by decide +kernel)) ggX8_copy_X4_holdsRun
theorem dX8_copy_0 : decode cX8_copy 0 = .ok (.aload_n 0, 1) := by decide +kernel
theorem dX8_copy_1 : decode cX8_copy 1 = .ok (.iconst 0, 1) := by decide +kernel
theorem dX8_copy_2 : decode cX8_copy 2 = .ok (.putfield 57, 3) := by decide +kernel
theorem dX8_copy_5 : decode cX8_copy 5 = .ok (.iload_n 1, 1) := by decide +kernel
theorem dX8_copy_6 : decode cX8_copy 6 = .ok (.invokestatic 61, 3) := by decide +kernel
theorem dX8_copy_9 : decode cX8_copy 9 = .ok (.ifCond .eq 10, 3) := by decide +kernel
theorem dX8_copy_12 : decode cX8_copy 12 = .ok (.iload_n 3, 1) := by decide +kernel
theorem dX8_copy_13 : decode cX8_copy 13 = .ok (.invokestatic 61, 3) := by decide +kernel
theorem dX8_copy_16 : decode cX8_copy 16 = .ok (.ifCond .ne 5, 3) := by decide +kernel
theorem dX8_copy_19 : decode cX8_copy 19 = .ok (.iconst (-1), 1) := by decide +kernel
theorem dX8_copy_20 : decode cX8_copy 20 = .ok (.ireturn, 1) := by decide +kernel
theorem dX8_copy_21 : decode cX8_copy 21 = .ok (.aload_n 0, 1) := by decide +kernel
theorem dX8_copy_22 : decode cX8_copy 22 = .ok (.getfield 13, 3) := by decide +kernel
theorem dX8_copy_25 : decode cX8_copy 25 = .ok (.iload_n 1, 1) := by decide +kernel
theorem dX8_copy_26 : decode cX8_copy 26 = .ok (.aaload, 1) := by decide +kernel
theorem dX8_copy_27 : decode cX8_copy 27 = .ok (.astore 6, 2) := by decide +kernel
theorem dX8_copy_29 : decode cX8_copy 29 = .ok (.aload_n 0, 1) := by decide +kernel
theorem dX8_copy_30 : decode cX8_copy 30 = .ok (.getfield 13, 3) := by decide +kernel
theorem dX8_copy_33 : decode cX8_copy 33 = .ok (.iload_n 3, 1) := by decide +kernel
theorem dX8_copy_34 : decode cX8_copy 34 = .ok (.aaload, 1) := by decide +kernel
theorem dX8_copy_35 : decode cX8_copy 35 = .ok (.astore 7, 2) := by decide +kernel
theorem dX8_copy_37 : decode cX8_copy 37 = .ok (.aload 6, 2) := by decide +kernel
theorem dX8_copy_39 : decode cX8_copy 39 = .ok (.invokevirtual 255, 3) := by decide +kernel
theorem dX8_copy_42 : decode cX8_copy 42 = .ok (.ifCond .eq 11, 3) := by decide +kernel
theorem dX8_copy_45 : decode cX8_copy 45 = .ok (.aload 7, 2) := by decide +kernel
theorem dX8_copy_47 : decode cX8_copy 47 = .ok (.invokevirtual 255, 3) := by decide +kernel
theorem dX8_copy_50 : decode cX8_copy 50 = .ok (.ifCond .ne 9, 3) := by decide +kernel
theorem dX8_copy_53 : decode cX8_copy 53 = .ok (.aload_n 0, 1) := by decide +kernel
theorem dX8_copy_54 : decode cX8_copy 54 = .ok (.iconst 1, 1) := by decide +kernel
theorem dX8_copy_55 : decode cX8_copy 55 = .ok (.invokevirtual 77, 3) := by decide +kernel
theorem dX8_copy_58 : decode cX8_copy 58 = .ok (.ireturn, 1) := by decide +kernel
theorem dX8_copy_59 : decode cX8_copy 59 = .ok (.aload 6, 2) := by decide +kernel
theorem dX8_copy_61 : decode cX8_copy 61 = .ok (.getfield 269, 3) := by decide +kernel
theorem dX8_copy_64 : decode cX8_copy 64 = .ok (.aload 7, 2) := by decide +kernel
theorem dX8_copy_66 : decode cX8_copy 66 = .ok (.getfield 269, 3) := by decide +kernel
theorem dX8_copy_69 : decode cX8_copy 69 = .ok (.if_icmp .eq 9, 3) := by decide +kernel
theorem dX8_copy_72 : decode cX8_copy 72 = .ok (.aload_n 0, 1) := by decide +kernel
theorem dX8_copy_73 : decode cX8_copy 73 = .ok (.iconst 2, 1) := by decide +kernel
theorem dX8_copy_74 : decode cX8_copy 74 = .ok (.invokevirtual 77, 3) := by decide +kernel
theorem dX8_copy_77 : decode cX8_copy 77 = .ok (.ireturn, 1) := by decide +kernel
theorem dX8_copy_78 : decode cX8_copy 78 = .ok (.aload 6, 2) := by decide +kernel
theorem dX8_copy_80 : decode cX8_copy 80 = .ok (.iload_n 2, 1) := by decide +kernel
theorem dX8_copy_81 : decode cX8_copy 81 = .ok (.iload 5, 2) := by decide +kernel
theorem dX8_copy_83 : decode cX8_copy 83 = .ok (.invokevirtual 73, 3) := by decide +kernel
theorem dX8_copy_86 : decode cX8_copy 86 = .ok (.ifCond .eq 15, 3) := by decide +kernel
theorem dX8_copy_89 : decode cX8_copy 89 = .ok (.aload 7, 2) := by decide +kernel
theorem dX8_copy_91 : decode cX8_copy 91 = .ok (.iload 4, 2) := by decide +kernel
theorem dX8_copy_93 : decode cX8_copy 93 = .ok (.iload 5, 2) := by decide +kernel
theorem dX8_copy_95 : decode cX8_copy 95 = .ok (.invokevirtual 73, 3) := by decide +kernel
theorem dX8_copy_98 : decode cX8_copy 98 = .ok (.ifCond .ne 9, 3) := by decide +kernel
theorem dX8_copy_101 : decode cX8_copy 101 = .ok (.aload_n 0, 1) := by decide +kernel
theorem dX8_copy_102 : decode cX8_copy 102 = .ok (.iconst 3, 1) := by decide +kernel
theorem dX8_copy_103 : decode cX8_copy 103 = .ok (.invokevirtual 77, 3) := by decide +kernel
theorem dX8_copy_106 : decode cX8_copy 106 = .ok (.ireturn, 1) := by decide +kernel
theorem dX8_copy_107 : decode cX8_copy 107 = .ok (.aload 6, 2) := by decide +kernel
theorem dX8_copy_109 : decode cX8_copy 109 = .ok (.getfield 267, 3) := by decide +kernel
theorem dX8_copy_112 : decode cX8_copy 112 = .ok (.iload_n 2, 1) := by decide +kernel
theorem dX8_copy_113 : decode cX8_copy 113 = .ok (.aload 7, 2) := by decide +kernel
theorem dX8_copy_115 : decode cX8_copy 115 = .ok (.getfield 267, 3) := by decide +kernel
theorem dX8_copy_118 : decode cX8_copy 118 = .ok (.iload 4, 2) := by decide +kernel
theorem dX8_copy_120 : decode cX8_copy 120 = .ok (.iload 5, 2) := by decide +kernel
theorem dX8_copy_122 : decode cX8_copy 122 = .ok (.invokestatic 272, 3) := by decide +kernel
theorem dX8_copy_125 : decode cX8_copy 125 = .ok (.iload 5, 2) := by decide +kernel
theorem dX8_copy_127 : decode cX8_copy 127 = .ok (.ireturn, 1) := by decide +kernel
set_option maxRecDepth 20000 in
theorem ggX8_tell_X2_hasHouse : GoodIn wsX8_tell wsX2_hasHouse := goodIn_r _ [8, 9, 10, 11, 12, 39, 40, 41, 42, 43, 44, 45, 46, 47, 48, 49, 50, 51] (by decide +kernel) (by decide +kernel)
set_option maxRecDepth 20000 in
theorem gX8_tell_X2_hasHouse : GoodIn wsX8_tell (wsV RX8 110 RX2 yX2_hasHouse wsX2_hasHouse) := goodIn_app (goodIn_of _ (by decide +kernel)) ggX8_tell_X2_hasHouse
set_option maxRecDepth 20000 in
theorem ggX8_tell_X8_towerTells : GoodIn wsX8_tell wsX8_towerTells := goodIn_r _ [16, 17, 18, 19, 11, 20, 21, 22, 23, 24, 25, 26, 27, 28, 29, 30, 31, 32, 33, 34, 35, 36, 37, 38, 52, 53, 54, 55] (by decide +kernel) (by decide +kernel)
set_option maxRecDepth 20000 in
theorem gX8_tell_X8_towerTells : GoodIn wsX8_tell (wsV RX8 278 RX8 yX8_towerTells wsX8_towerTells) := goodIn_app (goodIn_of _ (by decide +kernel)) ggX8_tell_X8_towerTells
set_option maxRecDepth 20000 in
theorem ggX8_tell_X8_chimneyTells : GoodIn wsX8_tell wsX8_chimneyTells := goodIn_r _ [25, 17, 18, 19, 11, 20, 21, 26, 27, 28, 29, 30, 31, 32, 33, 34, 35, 36, 37, 38, 52, 53, 54, 55] (by decide +kernel) (by decide +kernel)
set_option maxRecDepth 20000 in
theorem gX8_tell_X8_chimneyTells : GoodIn wsX8_tell (wsV RX8 282 RX8 yX8_chimneyTells wsX8_chimneyTells) := goodIn_app (goodIn_of _ (by decide +kernel)) ggX8_tell_X8_chimneyTells
set_option maxRecDepth 20000 in
theorem ggX8_tell_X8_houseTells : GoodIn wsX8_tell wsX8_houseTells := goodIn_r _ [29, 30, 17, 18, 19, 11, 20, 21, 52, 53, 54, 55, 31, 32, 33, 34, 35, 36, 37, 38] (by decide +kernel) (by decide +kernel)
set_option maxRecDepth 20000 in
theorem gX8_tell_X8_houseTells : GoodIn wsX8_tell (wsV RX8 285 RX8 yX8_houseTells wsX8_houseTells) := goodIn_app (goodIn_of _ (by decide +kernel)) ggX8_tell_X8_houseTells
theorem dX8_tell_0 : decode cX8_tell 0 = .ok (.aload_n 0, 1) := by decide +kernel
theorem dX8_tell_1 : decode cX8_tell 1 = .ok (.getfield 28, 3) := by decide +kernel
theorem dX8_tell_4 : decode cX8_tell 4 = .ok (.iload_n 1, 1) := by decide +kernel
theorem dX8_tell_5 : decode cX8_tell 5 = .ok (.invokevirtual 110, 3) := by decide +kernel
theorem dX8_tell_8 : decode cX8_tell 8 = .ok (.ifCond .ne 5, 3) := by decide +kernel
theorem dX8_tell_11 : decode cX8_tell 11 = .ok (.iconst (-1), 1) := by decide +kernel
theorem dX8_tell_12 : decode cX8_tell 12 = .ok (.ireturn, 1) := by decide +kernel
theorem dX8_tell_13 : decode cX8_tell 13 = .ok (.aload_n 0, 1) := by decide +kernel
theorem dX8_tell_14 : decode cX8_tell 14 = .ok (.getfield 28, 3) := by decide +kernel
theorem dX8_tell_17 : decode cX8_tell 17 = .ok (.getfield 113, 3) := by decide +kernel
theorem dX8_tell_20 : decode cX8_tell 20 = .ok (.iload_n 1, 1) := by decide +kernel
theorem dX8_tell_21 : decode cX8_tell 21 = .ok (.aaload, 1) := by decide +kernel
theorem dX8_tell_22 : decode cX8_tell 22 = .ok (.astore_n 2, 1) := by decide +kernel
theorem dX8_tell_23 : decode cX8_tell 23 = .ok (.aload_n 2, 1) := by decide +kernel
theorem dX8_tell_24 : decode cX8_tell 24 = .ok (.getfield 117, 3) := by decide +kernel
theorem dX8_tell_27 : decode cX8_tell 27 = .ok (.lookupswitch 37 #[(1, 31), (2, 25)], 25) := by decide +kernel
theorem dX8_tell_52 : decode cX8_tell 52 = .ok (.aload_n 0, 1) := by decide +kernel
theorem dX8_tell_53 : decode cX8_tell 53 = .ok (.aload_n 2, 1) := by decide +kernel
theorem dX8_tell_54 : decode cX8_tell 54 = .ok (.invokevirtual 278, 3) := by decide +kernel
theorem dX8_tell_57 : decode cX8_tell 57 = .ok (.ireturn, 1) := by decide +kernel
theorem dX8_tell_58 : decode cX8_tell 58 = .ok (.aload_n 0, 1) := by decide +kernel
theorem dX8_tell_59 : decode cX8_tell 59 = .ok (.aload_n 2, 1) := by decide +kernel
theorem dX8_tell_60 : decode cX8_tell 60 = .ok (.invokevirtual 282, 3) := by decide +kernel
theorem dX8_tell_63 : decode cX8_tell 63 = .ok (.ireturn, 1) := by decide +kernel
theorem dX8_tell_64 : decode cX8_tell 64 = .ok (.aload_n 0, 1) := by decide +kernel
theorem dX8_tell_65 : decode cX8_tell 65 = .ok (.aload_n 2, 1) := by decide +kernel
theorem dX8_tell_66 : decode cX8_tell 66 = .ok (.invokevirtual 285, 3) := by decide +kernel
theorem dX8_tell_69 : decode cX8_tell 69 = .ok (.ireturn, 1) := by decide +kernel
set_option maxRecDepth 20000 in
theorem ggX8_rent_X2_hasHouse : GoodIn wsX8_rent wsX2_hasHouse := goodIn_r _ [8, 9, 10, 11, 12, 26, 27, 28, 29, 30, 31, 32, 33, 34, 35, 36, 37, 38] (by decide +kernel) (by decide +kernel)
set_option maxRecDepth 20000 in
theorem gX8_rent_X2_hasHouse : GoodIn wsX8_rent (wsV RX8 110 RX2 yX2_hasHouse wsX2_hasHouse) := goodIn_app (goodIn_of _ (by decide +kernel)) ggX8_rent_X2_hasHouse
set_option maxRecDepth 20000 in
theorem ggX8_rent_X8_leaveTrace : GoodIn wsX8_rent wsX8_leaveTrace := goodIn_r _ [16, 17, 18, 19, 20, 21, 22, 23, 24, 25] (by decide +kernel) (by decide +kernel)
set_option maxRecDepth 20000 in
theorem gX8_rent_X8_leaveTrace : GoodIn wsX8_rent (wsV RX8 288 RX8 yX8_leaveTrace wsX8_leaveTrace) := goodIn_app (goodIn_of _ (by decide +kernel)) ggX8_rent_X8_leaveTrace
theorem dX8_rent_0 : decode cX8_rent 0 = .ok (.aload_n 0, 1) := by decide +kernel
theorem dX8_rent_1 : decode cX8_rent 1 = .ok (.getfield 28, 3) := by decide +kernel
theorem dX8_rent_4 : decode cX8_rent 4 = .ok (.iload_n 1, 1) := by decide +kernel
theorem dX8_rent_5 : decode cX8_rent 5 = .ok (.invokevirtual 110, 3) := by decide +kernel
theorem dX8_rent_8 : decode cX8_rent 8 = .ok (.ifCond .ne 5, 3) := by decide +kernel
theorem dX8_rent_11 : decode cX8_rent 11 = .ok (.iconst (-1), 1) := by decide +kernel
theorem dX8_rent_12 : decode cX8_rent 12 = .ok (.ireturn, 1) := by decide +kernel
theorem dX8_rent_13 : decode cX8_rent 13 = .ok (.aload_n 0, 1) := by decide +kernel
theorem dX8_rent_14 : decode cX8_rent 14 = .ok (.getfield 28, 3) := by decide +kernel
theorem dX8_rent_17 : decode cX8_rent 17 = .ok (.getfield 113, 3) := by decide +kernel
theorem dX8_rent_20 : decode cX8_rent 20 = .ok (.iload_n 1, 1) := by decide +kernel
theorem dX8_rent_21 : decode cX8_rent 21 = .ok (.aaload, 1) := by decide +kernel
theorem dX8_rent_22 : decode cX8_rent 22 = .ok (.getfield 117, 3) := by decide +kernel
theorem dX8_rent_25 : decode cX8_rent 25 = .ok (.iconst 2, 1) := by decide +kernel
theorem dX8_rent_26 : decode cX8_rent 26 = .ok (.if_icmp .ne 11, 3) := by decide +kernel
theorem dX8_rent_29 : decode cX8_rent 29 = .ok (.aload_n 0, 1) := by decide +kernel
theorem dX8_rent_30 : decode cX8_rent 30 = .ok (.iconst 5, 1) := by decide +kernel
theorem dX8_rent_31 : decode cX8_rent 31 = .ok (.invokevirtual 288, 3) := by decide +kernel
theorem dX8_rent_34 : decode cX8_rent 34 = .ok (.bipush 70, 2) := by decide +kernel
theorem dX8_rent_36 : decode cX8_rent 36 = .ok (.ireturn, 1) := by decide +kernel
theorem dX8_rent_37 : decode cX8_rent 37 = .ok (.aload_n 0, 1) := by decide +kernel
theorem dX8_rent_38 : decode cX8_rent 38 = .ok (.iconst 4, 1) := by decide +kernel
theorem dX8_rent_39 : decode cX8_rent 39 = .ok (.invokevirtual 288, 3) := by decide +kernel
theorem dX8_rent_42 : decode cX8_rent 42 = .ok (.iload_n 1, 1) := by decide +kernel
theorem dX8_rent_43 : decode cX8_rent 43 = .ok (.ireturn, 1) := by decide +kernel
set_option maxRecDepth 20000 in
theorem ggX8_as_X2_hasHouse : GoodIn wsX8_as wsX2_hasHouse := goodIn_r _ [8, 9, 10, 11, 12, 32, 33, 34, 35, 36, 37, 38, 39, 40, 41, 42, 43, 44] (by decide +kernel) (by decide +kernel)
set_option maxRecDepth 20000 in
theorem gX8_as_X2_hasHouse : GoodIn wsX8_as (wsV RX8 110 RX2 yX2_hasHouse wsX2_hasHouse) := goodIn_app (goodIn_of _ (by decide +kernel)) ggX8_as_X2_hasHouse
set_option maxRecDepth 20000 in
theorem ggX8_as_X8_isWithin : GoodIn wsX8_as wsX8_isWithin := goodIn_r _ [12] (by decide +kernel) (by decide +kernel)
set_option maxRecDepth 20000 in
theorem gX8_as_X8_isWithin : GoodIn wsX8_as (va_wsS RX8 65 yX8_isWithin wsX8_isWithin) := goodIn_app (goodIn_of _ (by decide +kernel)) ggX8_as_X8_isWithin
set_option maxRecDepth 20000 in
theorem ggX8_as_X1_isA : GoodIn wsX8_as wsX1_isA := goodIn_r _ [18, 19, 45, 46, 47, 48] (by decide +kernel) (by decide +kernel)
set_option maxRecDepth 20000 in
theorem gX8_as_X1_isA : GoodIn wsX8_as (wsV RX8 292 RX1 yX1_isA wsX1_isA) := goodIn_app (goodIn_of _ (by decide +kernel)) ggX8_as_X1_isA
set_option maxRecDepth 20000 in
theorem ggX8_as_X8_answerFault : GoodIn wsX8_as wsX8_answerFault := goodIn_r _ [23, 1, 24, 25, 26, 27, 28, 29, 30, 31] (by decide +kernel) (by decide +kernel)
set_option maxRecDepth 20000 in
theorem gX8_as_X8_answerFault : GoodIn wsX8_as (wsV RX8 77 RX8 yX8_answerFault wsX8_answerFault) := goodIn_app (goodIn_of _ (by decide +kernel)) ggX8_as_X8_answerFault
theorem dX8_as_0 : decode cX8_as 0 = .ok (.aload_n 0, 1) := by decide +kernel
theorem dX8_as_1 : decode cX8_as 1 = .ok (.iconst 0, 1) := by decide +kernel
theorem dX8_as_2 : decode cX8_as 2 = .ok (.putfield 57, 3) := by decide +kernel
theorem dX8_as_5 : decode cX8_as 5 = .ok (.aload_n 0, 1) := by decide +kernel
theorem dX8_as_6 : decode cX8_as 6 = .ok (.getfield 28, 3) := by decide +kernel
theorem dX8_as_9 : decode cX8_as 9 = .ok (.iload_n 1, 1) := by decide +kernel
theorem dX8_as_10 : decode cX8_as 10 = .ok (.invokevirtual 110, 3) := by decide +kernel
theorem dX8_as_13 : decode cX8_as 13 = .ok (.ifCond .ne 5, 3) := by decide +kernel
theorem dX8_as_16 : decode cX8_as 16 = .ok (.iconst (-1), 1) := by decide +kernel
theorem dX8_as_17 : decode cX8_as 17 = .ok (.ireturn, 1) := by decide +kernel
theorem dX8_as_18 : decode cX8_as 18 = .ok (.iload_n 2, 1) := by decide +kernel
theorem dX8_as_19 : decode cX8_as 19 = .ok (.iconst 0, 1) := by decide +kernel
theorem dX8_as_20 : decode cX8_as 20 = .ok (.iconst 2, 1) := by decide +kernel
theorem dX8_as_21 : decode cX8_as 21 = .ok (.invokestatic 65, 3) := by decide +kernel
theorem dX8_as_24 : decode cX8_as 24 = .ok (.ifCond .ne 6, 3) := by decide +kernel
theorem dX8_as_27 : decode cX8_as 27 = .ok (.bipush (-2), 2) := by decide +kernel
theorem dX8_as_29 : decode cX8_as 29 = .ok (.ireturn, 1) := by decide +kernel
theorem dX8_as_30 : decode cX8_as 30 = .ok (.aload_n 0, 1) := by decide +kernel
theorem dX8_as_31 : decode cX8_as 31 = .ok (.getfield 28, 3) := by decide +kernel
theorem dX8_as_34 : decode cX8_as 34 = .ok (.getfield 113, 3) := by decide +kernel
theorem dX8_as_37 : decode cX8_as 37 = .ok (.iload_n 1, 1) := by decide +kernel
theorem dX8_as_38 : decode cX8_as 38 = .ok (.aaload, 1) := by decide +kernel
theorem dX8_as_39 : decode cX8_as 39 = .ok (.iload_n 2, 1) := by decide +kernel
theorem dX8_as_40 : decode cX8_as 40 = .ok (.invokevirtual 292, 3) := by decide +kernel
theorem dX8_as_43 : decode cX8_as 43 = .ok (.ifCond .eq 7, 3) := by decide +kernel
theorem dX8_as_46 : decode cX8_as 46 = .ok (.iconst 1, 1) := by decide +kernel
theorem dX8_as_47 : decode cX8_as 47 = .ok (.goto 8, 3) := by decide +kernel
theorem dX8_as_50 : decode cX8_as 50 = .ok (.aload_n 0, 1) := by decide +kernel
theorem dX8_as_51 : decode cX8_as 51 = .ok (.iconst 2, 1) := by decide +kernel
theorem dX8_as_52 : decode cX8_as 52 = .ok (.invokevirtual 77, 3) := by decide +kernel
theorem dX8_as_55 : decode cX8_as 55 = .ok (.ireturn, 1) := by decide +kernel
theorem dX8_trace_0 : decode cX8_trace 0 = .ok (.aload_n 0, 1) := by decide +kernel
theorem dX8_trace_1 : decode cX8_trace 1 = .ok (.getfield 295, 3) := by decide +kernel
theorem dX8_trace_4 : decode cX8_trace 4 = .ok (.ireturn, 1) := by decide +kernel
theorem dX8_fault_0 : decode cX8_fault 0 = .ok (.aload_n 0, 1) := by decide +kernel
theorem dX8_fault_1 : decode cX8_fault 1 = .ok (.getfield 57, 3) := by decide +kernel
theorem dX8_fault_4 : decode cX8_fault 4 = .ok (.ireturn, 1) := by decide +kernel
theorem dX8_many_0 : decode cX8_many 0 = .ok (.iload_n 1, 1) := by decide +kernel
theorem dX8_many_1 : decode cX8_many 1 = .ok (.tableswitch 99 0 6 #[43, 51, 59, 67, 75, 83, 91], 43) := by decide +kernel
theorem dX8_many_44 : decode cX8_many 44 = .ok (.aload_n 0, 1) := by decide +kernel
theorem dX8_many_45 : decode cX8_many 45 = .ok (.getfield 28, 3) := by decide +kernel
theorem dX8_many_48 : decode cX8_many 48 = .ok (.getfield 94, 3) := by decide +kernel
theorem dX8_many_51 : decode cX8_many 51 = .ok (.ireturn, 1) := by decide +kernel
theorem dX8_many_52 : decode cX8_many 52 = .ok (.aload_n 0, 1) := by decide +kernel
theorem dX8_many_53 : decode cX8_many 53 = .ok (.getfield 28, 3) := by decide +kernel
theorem dX8_many_56 : decode cX8_many 56 = .ok (.getfield 298, 3) := by decide +kernel
theorem dX8_many_59 : decode cX8_many 59 = .ok (.ireturn, 1) := by decide +kernel
theorem dX8_many_60 : decode cX8_many 60 = .ok (.aload_n 0, 1) := by decide +kernel
theorem dX8_many_61 : decode cX8_many 61 = .ok (.getfield 28, 3) := by decide +kernel
theorem dX8_many_64 : decode cX8_many 64 = .ok (.getfield 198, 3) := by decide +kernel
theorem dX8_many_67 : decode cX8_many 67 = .ok (.ireturn, 1) := by decide +kernel
theorem dX8_many_68 : decode cX8_many 68 = .ok (.aload_n 0, 1) := by decide +kernel
theorem dX8_many_69 : decode cX8_many 69 = .ok (.getfield 28, 3) := by decide +kernel
theorem dX8_many_72 : decode cX8_many 72 = .ok (.getfield 301, 3) := by decide +kernel
theorem dX8_many_75 : decode cX8_many 75 = .ok (.ireturn, 1) := by decide +kernel
theorem dX8_many_76 : decode cX8_many 76 = .ok (.aload_n 0, 1) := by decide +kernel
theorem dX8_many_77 : decode cX8_many 77 = .ok (.getfield 53, 3) := by decide +kernel
theorem dX8_many_80 : decode cX8_many 80 = .ok (.getfield 91, 3) := by decide +kernel
theorem dX8_many_83 : decode cX8_many 83 = .ok (.ireturn, 1) := by decide +kernel
theorem dX8_many_84 : decode cX8_many 84 = .ok (.aload_n 0, 1) := by decide +kernel
theorem dX8_many_85 : decode cX8_many 85 = .ok (.getfield 28, 3) := by decide +kernel
theorem dX8_many_88 : decode cX8_many 88 = .ok (.getfield 147, 3) := by decide +kernel
theorem dX8_many_91 : decode cX8_many 91 = .ok (.ireturn, 1) := by decide +kernel
theorem dX8_many_92 : decode cX8_many 92 = .ok (.aload_n 0, 1) := by decide +kernel
theorem dX8_many_93 : decode cX8_many 93 = .ok (.getfield 28, 3) := by decide +kernel
theorem dX8_many_96 : decode cX8_many 96 = .ok (.getfield 164, 3) := by decide +kernel
theorem dX8_many_99 : decode cX8_many 99 = .ok (.ireturn, 1) := by decide +kernel
theorem dX8_many_100 : decode cX8_many 100 = .ok (.bipush (-2), 2) := by decide +kernel
theorem dX8_many_102 : decode cX8_many 102 = .ok (.ireturn, 1) := by decide +kernel
theorem dX8_isWithin_0 : decode cX8_isWithin 0 = .ok (.iload_n 1, 1) := by decide +kernel
theorem dX8_isWithin_1 : decode cX8_isWithin 1 = .ok (.iload_n 0, 1) := by decide +kernel
theorem dX8_isWithin_2 : decode cX8_isWithin 2 = .ok (.if_icmp .gt 12, 3) := by decide +kernel
theorem dX8_isWithin_5 : decode cX8_isWithin 5 = .ok (.iload_n 0, 1) := by decide +kernel
theorem dX8_isWithin_6 : decode cX8_isWithin 6 = .ok (.iload_n 2, 1) := by decide +kernel
theorem dX8_isWithin_7 : decode cX8_isWithin 7 = .ok (.if_icmp .gt 7, 3) := by decide +kernel
theorem dX8_isWithin_10 : decode cX8_isWithin 10 = .ok (.iconst 1, 1) := by decide +kernel
theorem dX8_isWithin_11 : decode cX8_isWithin 11 = .ok (.goto 4, 3) := by decide +kernel
theorem dX8_isWithin_14 : decode cX8_isWithin 14 = .ok (.iconst 0, 1) := by decide +kernel
theorem dX8_isWithin_15 : decode cX8_isWithin 15 = .ok (.ireturn, 1) := by decide +kernel
set_option maxRecDepth 20000 in
theorem ggX8_isSheet_X8_isWithin : GoodIn wsX8_isSheet wsX8_isWithin := goodIn_r _ [4] (by decide +kernel) (by decide +kernel)
set_option maxRecDepth 20000 in
theorem gX8_isSheet_X8_isWithin : GoodIn wsX8_isSheet (va_wsS RX8 65 yX8_isWithin wsX8_isWithin) := goodIn_app (goodIn_of _ (by decide +kernel)) ggX8_isSheet_X8_isWithin
theorem dX8_isSheet_0 : decode cX8_isSheet 0 = .ok (.iload_n 0, 1) := by decide +kernel
theorem dX8_isSheet_1 : decode cX8_isSheet 1 = .ok (.iconst 0, 1) := by decide +kernel
theorem dX8_isSheet_2 : decode cX8_isSheet 2 = .ok (.iconst 3, 1) := by decide +kernel
theorem dX8_isSheet_3 : decode cX8_isSheet 3 = .ok (.invokestatic 65, 3) := by decide +kernel
theorem dX8_isSheet_6 : decode cX8_isSheet 6 = .ok (.ireturn, 1) := by decide +kernel
theorem dX8_isIn_0 : decode cX8_isIn 0 = .ok (.iload_n 1, 1) := by decide +kernel
theorem dX8_isIn_1 : decode cX8_isIn 1 = .ok (.iload_n 0, 1) := by decide +kernel
theorem dX8_isIn_2 : decode cX8_isIn 2 = .ok (.ishr, 1) := by decide +kernel
theorem dX8_isIn_3 : decode cX8_isIn 3 = .ok (.iconst 1, 1) := by decide +kernel
theorem dX8_isIn_4 : decode cX8_isIn 4 = .ok (.iand, 1) := by decide +kernel
theorem dX8_isIn_5 : decode cX8_isIn 5 = .ok (.iconst 1, 1) := by decide +kernel
theorem dX8_isIn_6 : decode cX8_isIn 6 = .ok (.if_icmp .ne 7, 3) := by decide +kernel
theorem dX8_isIn_9 : decode cX8_isIn 9 = .ok (.iconst 1, 1) := by decide +kernel
theorem dX8_isIn_10 : decode cX8_isIn 10 = .ok (.goto 4, 3) := by decide +kernel
theorem dX8_isIn_13 : decode cX8_isIn 13 = .ok (.iconst 0, 1) := by decide +kernel
theorem dX8_isIn_14 : decode cX8_isIn 14 = .ok (.ireturn, 1) := by decide +kernel
theorem dX8_greatestCommon_0 : decode cX8_greatestCommon 0 = .ok (.iload_n 0, 1) := by decide +kernel
theorem dX8_greatestCommon_1 : decode cX8_greatestCommon 1 = .ok (.iload_n 1, 1) := by decide +kernel
theorem dX8_greatestCommon_2 : decode cX8_greatestCommon 2 = .ok (.invokestatic 304, 3) := by decide +kernel
theorem dX8_greatestCommon_5 : decode cX8_greatestCommon 5 = .ok (.istore_n 2, 1) := by decide +kernel
theorem dX8_greatestCommon_6 : decode cX8_greatestCommon 6 = .ok (.iload_n 2, 1) := by decide +kernel
theorem dX8_greatestCommon_7 : decode cX8_greatestCommon 7 = .ok (.iconst 1, 1) := by decide +kernel
theorem dX8_greatestCommon_8 : decode cX8_greatestCommon 8 = .ok (.if_icmp .le 23, 3) := by decide +kernel
theorem dX8_greatestCommon_11 : decode cX8_greatestCommon 11 = .ok (.iload_n 0, 1) := by decide +kernel
theorem dX8_greatestCommon_12 : decode cX8_greatestCommon 12 = .ok (.iload_n 2, 1) := by decide +kernel
theorem dX8_greatestCommon_13 : decode cX8_greatestCommon 13 = .ok (.irem, 1) := by decide +kernel
theorem dX8_greatestCommon_14 : decode cX8_greatestCommon 14 = .ok (.ifCond .ne 11, 3) := by decide +kernel
theorem dX8_greatestCommon_17 : decode cX8_greatestCommon 17 = .ok (.iload_n 1, 1) := by decide +kernel
theorem dX8_greatestCommon_18 : decode cX8_greatestCommon 18 = .ok (.iload_n 2, 1) := by decide +kernel
theorem dX8_greatestCommon_19 : decode cX8_greatestCommon 19 = .ok (.irem, 1) := by decide +kernel
theorem dX8_greatestCommon_20 : decode cX8_greatestCommon 20 = .ok (.ifCond .ne 5, 3) := by decide +kernel
theorem dX8_greatestCommon_23 : decode cX8_greatestCommon 23 = .ok (.iload_n 2, 1) := by decide +kernel
theorem dX8_greatestCommon_24 : decode cX8_greatestCommon 24 = .ok (.ireturn, 1) := by decide +kernel
theorem dX8_greatestCommon_25 : decode cX8_greatestCommon 25 = .ok (.iinc 2 (-1), 3) := by decide +kernel
theorem dX8_greatestCommon_28 : decode cX8_greatestCommon 28 = .ok (.goto (-22), 3) := by decide +kernel
theorem dX8_greatestCommon_31 : decode cX8_greatestCommon 31 = .ok (.iconst 1, 1) := by decide +kernel
theorem dX8_greatestCommon_32 : decode cX8_greatestCommon 32 = .ok (.ireturn, 1) := by decide +kernel
theorem dX8_answerFault_0 : decode cX8_answerFault 0 = .ok (.aload_n 0, 1) := by decide +kernel
theorem dX8_answerFault_1 : decode cX8_answerFault 1 = .ok (.iload_n 1, 1) := by decide +kernel
theorem dX8_answerFault_2 : decode cX8_answerFault 2 = .ok (.putfield 57, 3) := by decide +kernel
theorem dX8_answerFault_5 : decode cX8_answerFault 5 = .ok (.bipush (-10), 2) := by decide +kernel
theorem dX8_answerFault_7 : decode cX8_answerFault 7 = .ok (.iload_n 1, 1) := by decide +kernel
theorem dX8_answerFault_8 : decode cX8_answerFault 8 = .ok (.isub, 1) := by decide +kernel
theorem dX8_answerFault_9 : decode cX8_answerFault 9 = .ok (.ireturn, 1) := by decide +kernel
set_option maxRecDepth 20000 in
theorem ggX8_refusedFor_X2_hasHouse : GoodIn wsX8_refusedFor wsX2_hasHouse := goodIn_r _ [6, 7, 8, 9, 10, 20, 21, 22, 23, 24, 25, 26, 27, 28, 29, 30, 31, 32] (by decide +kernel) (by decide +kernel)
set_option maxRecDepth 20000 in
theorem gX8_refusedFor_X2_hasHouse : GoodIn wsX8_refusedFor (wsV RX8 110 RX2 yX2_hasHouse wsX2_hasHouse) := goodIn_app (goodIn_of _ (by decide +kernel)) ggX8_refusedFor_X2_hasHouse
set_option maxRecDepth 20000 in
theorem ggX8_refusedFor_X8_isWithin : GoodIn wsX8_refusedFor wsX8_isWithin := goodIn_r _ [10] (by decide +kernel) (by decide +kernel)
set_option maxRecDepth 20000 in
theorem gX8_refusedFor_X8_isWithin : GoodIn wsX8_refusedFor (va_wsS RX8 65 yX8_isWithin wsX8_isWithin) := goodIn_app (goodIn_of _ (by decide +kernel)) ggX8_refusedFor_X8_isWithin
theorem dX8_refusedFor_0 : decode cX8_refusedFor 0 = .ok (.aload_n 0, 1) := by decide +kernel
theorem dX8_refusedFor_1 : decode cX8_refusedFor 1 = .ok (.getfield 28, 3) := by decide +kernel
theorem dX8_refusedFor_4 : decode cX8_refusedFor 4 = .ok (.iload_n 1, 1) := by decide +kernel
theorem dX8_refusedFor_5 : decode cX8_refusedFor 5 = .ok (.invokevirtual 110, 3) := by decide +kernel
theorem dX8_refusedFor_8 : decode cX8_refusedFor 8 = .ok (.ifCond .ne 5, 3) := by decide +kernel
theorem dX8_refusedFor_11 : decode cX8_refusedFor 11 = .ok (.iconst (-1), 1) := by decide +kernel
theorem dX8_refusedFor_12 : decode cX8_refusedFor 12 = .ok (.ireturn, 1) := by decide +kernel
theorem dX8_refusedFor_13 : decode cX8_refusedFor 13 = .ok (.iload_n 2, 1) := by decide +kernel
theorem dX8_refusedFor_14 : decode cX8_refusedFor 14 = .ok (.iconst 0, 1) := by decide +kernel
theorem dX8_refusedFor_15 : decode cX8_refusedFor 15 = .ok (.bipush 7, 2) := by decide +kernel
theorem dX8_refusedFor_17 : decode cX8_refusedFor 17 = .ok (.invokestatic 65, 3) := by decide +kernel
theorem dX8_refusedFor_20 : decode cX8_refusedFor 20 = .ok (.ifCond .eq 7, 3) := by decide +kernel
theorem dX8_refusedFor_23 : decode cX8_refusedFor 23 = .ok (.iconst 0, 1) := by decide +kernel
theorem dX8_refusedFor_24 : decode cX8_refusedFor 24 = .ok (.goto 5, 3) := by decide +kernel
theorem dX8_refusedFor_27 : decode cX8_refusedFor 27 = .ok (.bipush (-2), 2) := by decide +kernel
theorem dX8_refusedFor_29 : decode cX8_refusedFor 29 = .ok (.ireturn, 1) := by decide +kernel
theorem dX8_leaveTrace_0 : decode cX8_leaveTrace 0 = .ok (.aload_n 0, 1) := by decide +kernel
theorem dX8_leaveTrace_1 : decode cX8_leaveTrace 1 = .ok (.bipush 31, 2) := by decide +kernel
theorem dX8_leaveTrace_3 : decode cX8_leaveTrace 3 = .ok (.aload_n 0, 1) := by decide +kernel
theorem dX8_leaveTrace_4 : decode cX8_leaveTrace 4 = .ok (.getfield 295, 3) := by decide +kernel
theorem dX8_leaveTrace_7 : decode cX8_leaveTrace 7 = .ok (.imul, 1) := by decide +kernel
theorem dX8_leaveTrace_8 : decode cX8_leaveTrace 8 = .ok (.iload_n 1, 1) := by decide +kernel
theorem dX8_leaveTrace_9 : decode cX8_leaveTrace 9 = .ok (.iadd, 1) := by decide +kernel
theorem dX8_leaveTrace_10 : decode cX8_leaveTrace 10 = .ok (.putfield 295, 3) := by decide +kernel
theorem dX8_leaveTrace_13 : decode cX8_leaveTrace 13 = .ok (.return_, 1) := by decide +kernel
set_option maxRecDepth 20000 in
theorem ggX8_houseTells_X8_leaveTrace : GoodIn wsX8_houseTells wsX8_leaveTrace := goodIn_r _ [6, 7, 12, 13, 14, 15, 16, 17, 18, 19] (by decide +kernel) (by decide +kernel)
set_option maxRecDepth 20000 in
theorem gX8_houseTells_X8_leaveTrace : GoodIn wsX8_houseTells (wsV RX8 288 RX8 yX8_leaveTrace wsX8_leaveTrace) := goodIn_app (goodIn_of _ (by decide +kernel)) ggX8_houseTells_X8_leaveTrace
theorem dX8_houseTells_0 : decode cX8_houseTells 0 = .ok (.aload_n 0, 1) := by decide +kernel
theorem dX8_houseTells_1 : decode cX8_houseTells 1 = .ok (.iconst 1, 1) := by decide +kernel
theorem dX8_houseTells_2 : decode cX8_houseTells 2 = .ok (.invokevirtual 288, 3) := by decide +kernel
theorem dX8_houseTells_5 : decode cX8_houseTells 5 = .ok (.aload_n 1, 1) := by decide +kernel
theorem dX8_houseTells_6 : decode cX8_houseTells 6 = .ok (.getfield 123, 3) := by decide +kernel
theorem dX8_houseTells_9 : decode cX8_houseTells 9 = .ok (.ireturn, 1) := by decide +kernel
set_option maxRecDepth 20000 in
theorem ggX8_chimneyTells_X8_leaveTrace : GoodIn wsX8_chimneyTells wsX8_leaveTrace := goodIn_r _ [5, 6, 12, 13, 14, 15, 16, 17, 18, 19] (by decide +kernel) (by decide +kernel)
set_option maxRecDepth 20000 in
theorem gX8_chimneyTells_X8_leaveTrace : GoodIn wsX8_chimneyTells (wsV RX8 288 RX8 yX8_leaveTrace wsX8_leaveTrace) := goodIn_app (goodIn_of _ (by decide +kernel)) ggX8_chimneyTells_X8_leaveTrace
set_option maxRecDepth 20000 in
theorem ggX8_chimneyTells_X8_houseTells : GoodIn wsX8_chimneyTells wsX8_houseTells := goodIn_r _ [10, 11, 1, 2, 3, 4, 5, 6, 20, 21, 22, 23, 12, 13, 14, 15, 16, 17, 18, 19] (by decide +kernel) (by decide +kernel)
set_option maxRecDepth 20000 in
theorem gX8_chimneyTells_X8_houseTells : GoodIn wsX8_chimneyTells (wsV RX8 285 RX8 yX8_houseTells wsX8_houseTells) := goodIn_app (goodIn_of _ (by decide +kernel)) ggX8_chimneyTells_X8_houseTells
theorem dX8_chimneyTells_0 : decode cX8_chimneyTells 0 = .ok (.aload_n 0, 1) := by decide +kernel
theorem dX8_chimneyTells_1 : decode cX8_chimneyTells 1 = .ok (.iconst 2, 1) := by decide +kernel
theorem dX8_chimneyTells_2 : decode cX8_chimneyTells 2 = .ok (.invokevirtual 288, 3) := by decide +kernel
theorem dX8_chimneyTells_5 : decode cX8_chimneyTells 5 = .ok (.aload_n 0, 1) := by decide +kernel
theorem dX8_chimneyTells_6 : decode cX8_chimneyTells 6 = .ok (.aload_n 1, 1) := by decide +kernel
theorem dX8_chimneyTells_7 : decode cX8_chimneyTells 7 = .ok (.invokevirtual 285, 3) := by decide +kernel
theorem dX8_chimneyTells_10 : decode cX8_chimneyTells 10 = .ok (.bipush 100, 2) := by decide +kernel
theorem dX8_chimneyTells_12 : decode cX8_chimneyTells 12 = .ok (.iadd, 1) := by decide +kernel
theorem dX8_chimneyTells_13 : decode cX8_chimneyTells 13 = .ok (.ireturn, 1) := by decide +kernel
set_option maxRecDepth 20000 in
theorem ggX8_towerTells_X8_leaveTrace : GoodIn wsX8_towerTells wsX8_leaveTrace := goodIn_r _ [5, 6, 16, 17, 18, 19, 20, 21, 22, 23] (by decide +kernel) (by decide +kernel)
set_option maxRecDepth 20000 in
theorem gX8_towerTells_X8_leaveTrace : GoodIn wsX8_towerTells (wsV RX8 288 RX8 yX8_leaveTrace wsX8_leaveTrace) := goodIn_app (goodIn_of _ (by decide +kernel)) ggX8_towerTells_X8_leaveTrace
set_option maxRecDepth 20000 in
theorem ggX8_towerTells_X8_chimneyTells : GoodIn wsX8_towerTells wsX8_chimneyTells := goodIn_r _ [10, 1, 2, 3, 4, 5, 6, 11, 12, 13, 14, 15, 16, 17, 18, 19, 20, 21, 22, 23, 24, 25, 26, 27] (by decide +kernel) (by decide +kernel)
set_option maxRecDepth 20000 in
theorem gX8_towerTells_X8_chimneyTells : GoodIn wsX8_towerTells (wsV RX8 282 RX8 yX8_chimneyTells wsX8_chimneyTells) := goodIn_app (goodIn_of _ (by decide +kernel)) ggX8_towerTells_X8_chimneyTells
set_option maxRecDepth 20000 in
theorem ggX8_towerTells_X8_houseTells : GoodIn wsX8_towerTells wsX8_houseTells := goodIn_r _ [14, 15, 1, 2, 3, 4, 5, 6, 24, 25, 26, 27, 16, 17, 18, 19, 20, 21, 22, 23] (by decide +kernel) (by decide +kernel)
set_option maxRecDepth 20000 in
theorem gX8_towerTells_X8_houseTells : GoodIn wsX8_towerTells (wsV RX8 285 RX8 yX8_houseTells wsX8_houseTells) := goodIn_app (goodIn_of _ (by decide +kernel)) ggX8_towerTells_X8_houseTells
theorem dX8_towerTells_0 : decode cX8_towerTells 0 = .ok (.aload_n 0, 1) := by decide +kernel
theorem dX8_towerTells_1 : decode cX8_towerTells 1 = .ok (.iconst 3, 1) := by decide +kernel
theorem dX8_towerTells_2 : decode cX8_towerTells 2 = .ok (.invokevirtual 288, 3) := by decide +kernel
theorem dX8_towerTells_5 : decode cX8_towerTells 5 = .ok (.aload_n 0, 1) := by decide +kernel
theorem dX8_towerTells_6 : decode cX8_towerTells 6 = .ok (.aload_n 1, 1) := by decide +kernel
theorem dX8_towerTells_7 : decode cX8_towerTells 7 = .ok (.invokevirtual 282, 3) := by decide +kernel
theorem dX8_towerTells_10 : decode cX8_towerTells 10 = .ok (.istore_n 2, 1) := by decide +kernel
theorem dX8_towerTells_11 : decode cX8_towerTells 11 = .ok (.iload_n 2, 1) := by decide +kernel
theorem dX8_towerTells_12 : decode cX8_towerTells 12 = .ok (.aload_n 0, 1) := by decide +kernel
theorem dX8_towerTells_13 : decode cX8_towerTells 13 = .ok (.aload_n 1, 1) := by decide +kernel
theorem dX8_towerTells_14 : decode cX8_towerTells 14 = .ok (.invokevirtual 285, 3) := by decide +kernel
theorem dX8_towerTells_17 : decode cX8_towerTells 17 = .ok (.iadd, 1) := by decide +kernel
theorem dX8_towerTells_18 : decode cX8_towerTells 18 = .ok (.ireturn, 1) := by decide +kernel
