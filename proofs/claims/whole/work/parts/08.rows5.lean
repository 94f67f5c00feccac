theorem dX6_makesPose_55 : decode cX6_makesPose 55 = .ok (.goto (-46), 3) := by decide +kernel
theorem dX6_makesPose_58 : decode cX6_makesPose 58 = .ok (.return_, 1) := by decide +kernel
theorem dX6_size_0 : decode cX6_size 0 = .ok (.iload_n 0, 1) := by decide +kernel
theorem dX6_size_1 : decode cX6_size 1 = .ok (.ifCond .ge 8, 3) := by decide +kernel
theorem dX6_size_4 : decode cX6_size 4 = .ok (.iload_n 0, 1) := by decide +kernel
theorem dX6_size_5 : decode cX6_size 5 = .ok (.ineg, 1) := by decide +kernel
theorem dX6_size_6 : decode cX6_size 6 = .ok (.goto 4, 3) := by decide +kernel
theorem dX6_size_9 : decode cX6_size 9 = .ok (.iload_n 0, 1) := by decide +kernel
theorem dX6_size_10 : decode cX6_size 10 = .ok (.ireturn, 1) := by decide +kernel
set_option maxRecDepth 20000 in
theorem ggX6_keyOf_X6_farness : GoodIn wsX6_keyOf wsX6_farness := goodIn_r _ [9, 10, 11, 12, 13, 20, 21, 22, 23, 24, 25, 26, 27, 28, 29, 30, 31, 32, 33, 34, 35, 36, 37, 38] (by decide +kernel) (by decide +kernel)
set_option maxRecDepth 20000 in
theorem gX6_keyOf_X6_farness : GoodIn wsX6_keyOf (wsV RX6 89 RX6 yX6_farness wsX6_farness) := goodIn_app (goodIn_of _ (by decide +kernel)) ggX6_keyOf_X6_farness
set_option maxRecDepth 20000 in
theorem ggX6_keyOf_X6_told : GoodIn wsX6_keyOf wsX6_told := goodIn_r _ [16] (by decide +kernel) (by decide +kernel)
set_option maxRecDepth 20000 in
theorem gX6_keyOf_X6_told : GoodIn wsX6_keyOf (va_wsS RX6 68 yX6_told wsX6_told) := goodIn_app (goodIn_of _ (by decide +kernel)) ggX6_keyOf_X6_told
set_option maxRecDepth 20000 in
theorem ggX6_keyOf_X6_size : GoodIn wsX6_keyOf wsX6_size := goodIn_r _ [19] (by decide +kernel) (by decide +kernel)
set_option maxRecDepth 20000 in
theorem gX6_keyOf_X6_size : GoodIn wsX6_keyOf (va_wsS RX6 124 yX6_size wsX6_size) := goodIn_app (goodIn_of _ (by decide +kernel)) ggX6_keyOf_X6_size
theorem dX6_keyOf_0 : decode cX6_keyOf 0 = .ok (.iload_n 1, 1) := by decide +kernel
theorem dX6_keyOf_1 : decode cX6_keyOf 1 = .ok (.ifCond .ne 8, 3) := by decide +kernel
theorem dX6_keyOf_4 : decode cX6_keyOf 4 = .ok (.aload_n 0, 1) := by decide +kernel
theorem dX6_keyOf_5 : decode cX6_keyOf 5 = .ok (.invokevirtual 89, 3) := by decide +kernel
theorem dX6_keyOf_8 : decode cX6_keyOf 8 = .ok (.lreturn, 1) := by decide +kernel
theorem dX6_keyOf_9 : decode cX6_keyOf 9 = .ok (.iload_n 1, 1) := by decide +kernel
theorem dX6_keyOf_10 : decode cX6_keyOf 10 = .ok (.iconst 2, 1) := by decide +kernel
theorem dX6_keyOf_11 : decode cX6_keyOf 11 = .ok (.if_icmp .ne 32, 3) := by decide +kernel
theorem dX6_keyOf_14 : decode cX6_keyOf 14 = .ok (.aload_n 0, 1) := by decide +kernel
theorem dX6_keyOf_15 : decode cX6_keyOf 15 = .ok (.getfield 65, 3) := by decide +kernel
theorem dX6_keyOf_18 : decode cX6_keyOf 18 = .ok (.iload_n 2, 1) := by decide +kernel
theorem dX6_keyOf_19 : decode cX6_keyOf 19 = .ok (.isub, 1) := by decide +kernel
theorem dX6_keyOf_20 : decode cX6_keyOf 20 = .ok (.invokestatic 68, 3) := by decide +kernel
theorem dX6_keyOf_23 : decode cX6_keyOf 23 = .ok (.istore_n 3, 1) := by decide +kernel
theorem dX6_keyOf_24 : decode cX6_keyOf 24 = .ok (.iload_n 3, 1) := by decide +kernel
theorem dX6_keyOf_25 : decode cX6_keyOf 25 = .ok (.bipush 64, 2) := by decide +kernel
theorem dX6_keyOf_27 : decode cX6_keyOf 27 = .ok (.iload_n 3, 1) := by decide +kernel
theorem dX6_keyOf_28 : decode cX6_keyOf 28 = .ok (.isub, 1) := by decide +kernel
theorem dX6_keyOf_29 : decode cX6_keyOf 29 = .ok (.if_icmp .ge 8, 3) := by decide +kernel
theorem dX6_keyOf_32 : decode cX6_keyOf 32 = .ok (.iload_n 3, 1) := by decide +kernel
theorem dX6_keyOf_33 : decode cX6_keyOf 33 = .ok (.i2l, 1) := by decide +kernel
theorem dX6_keyOf_34 : decode cX6_keyOf 34 = .ok (.goto 8, 3) := by decide +kernel
theorem dX6_keyOf_37 : decode cX6_keyOf 37 = .ok (.bipush 64, 2) := by decide +kernel
theorem dX6_keyOf_39 : decode cX6_keyOf 39 = .ok (.iload_n 3, 1) := by decide +kernel
theorem dX6_keyOf_40 : decode cX6_keyOf 40 = .ok (.isub, 1) := by decide +kernel
theorem dX6_keyOf_41 : decode cX6_keyOf 41 = .ok (.i2l, 1) := by decide +kernel
theorem dX6_keyOf_42 : decode cX6_keyOf 42 = .ok (.lreturn, 1) := by decide +kernel
theorem dX6_keyOf_43 : decode cX6_keyOf 43 = .ok (.iconst 0, 1) := by decide +kernel
theorem dX6_keyOf_44 : decode cX6_keyOf 44 = .ok (.istore_n 3, 1) := by decide +kernel
theorem dX6_keyOf_45 : decode cX6_keyOf 45 = .ok (.iconst 0, 1) := by decide +kernel
theorem dX6_keyOf_46 : decode cX6_keyOf 46 = .ok (.istore 4, 2) := by decide +kernel
theorem dX6_keyOf_48 : decode cX6_keyOf 48 = .ok (.iload 4, 2) := by decide +kernel
theorem dX6_keyOf_50 : decode cX6_keyOf 50 = .ok (.aload_n 0, 1) := by decide +kernel
theorem dX6_keyOf_51 : decode cX6_keyOf 51 = .ok (.getfield 48, 3) := by decide +kernel
theorem dX6_keyOf_54 : decode cX6_keyOf 54 = .ok (.if_icmp .ge 30, 3) := by decide +kernel
theorem dX6_keyOf_57 : decode cX6_keyOf 57 = .ok (.iload_n 3, 1) := by decide +kernel
theorem dX6_keyOf_58 : decode cX6_keyOf 58 = .ok (.aload_n 0, 1) := by decide +kernel
theorem dX6_keyOf_59 : decode cX6_keyOf 59 = .ok (.getfield 29, 3) := by decide +kernel
theorem dX6_keyOf_62 : decode cX6_keyOf 62 = .ok (.iload 4, 2) := by decide +kernel
theorem dX6_keyOf_64 : decode cX6_keyOf 64 = .ok (.iaload, 1) := by decide +kernel
theorem dX6_keyOf_65 : decode cX6_keyOf 65 = .ok (.aload_n 0, 1) := by decide +kernel
theorem dX6_keyOf_66 : decode cX6_keyOf 66 = .ok (.getfield 22, 3) := by decide +kernel
theorem dX6_keyOf_69 : decode cX6_keyOf 69 = .ok (.iload 4, 2) := by decide +kernel
theorem dX6_keyOf_71 : decode cX6_keyOf 71 = .ok (.iaload, 1) := by decide +kernel
theorem dX6_keyOf_72 : decode cX6_keyOf 72 = .ok (.isub, 1) := by decide +kernel
theorem dX6_keyOf_73 : decode cX6_keyOf 73 = .ok (.invokestatic 124, 3) := by decide +kernel
theorem dX6_keyOf_76 : decode cX6_keyOf 76 = .ok (.iadd, 1) := by decide +kernel
theorem dX6_keyOf_77 : decode cX6_keyOf 77 = .ok (.istore_n 3, 1) := by decide +kernel
theorem dX6_keyOf_78 : decode cX6_keyOf 78 = .ok (.iinc 4 1, 3) := by decide +kernel
theorem dX6_keyOf_81 : decode cX6_keyOf 81 = .ok (.goto (-33), 3) := by decide +kernel
theorem dX6_keyOf_84 : decode cX6_keyOf 84 = .ok (.iload_n 3, 1) := by decide +kernel
theorem dX6_keyOf_85 : decode cX6_keyOf 85 = .ok (.i2l, 1) := by decide +kernel
theorem dX6_keyOf_86 : decode cX6_keyOf 86 = .ok (.lreturn, 1) := by decide +kernel
theorem dX6_ranks_0 : decode cX6_ranks 0 = .ok (.aload_n 0, 1) := by decide +kernel
theorem dX6_ranks_1 : decode cX6_ranks 1 = .ok (.getfield 127, 3) := by decide +kernel
theorem dX6_ranks_4 : decode cX6_ranks 4 = .ok (.bipush 10, 2) := by decide +kernel
theorem dX6_ranks_6 : decode cX6_ranks 6 = .ok (.if_icmp .ge 10, 3) := by decide +kernel
theorem dX6_ranks_9 : decode cX6_ranks 9 = .ok (.aload_n 0, 1) := by decide +kernel
theorem dX6_ranks_10 : decode cX6_ranks 10 = .ok (.getfield 127, 3) := by decide +kernel
theorem dX6_ranks_13 : decode cX6_ranks 13 = .ok (.goto 5, 3) := by decide +kernel
theorem dX6_ranks_16 : decode cX6_ranks 16 = .ok (.bipush 10, 2) := by decide +kernel
theorem dX6_ranks_18 : decode cX6_ranks 18 = .ok (.istore 4, 2) := by decide +kernel
theorem dX6_ranks_20 : decode cX6_ranks 20 = .ok (.aload_n 0, 1) := by decide +kernel
theorem dX6_ranks_21 : decode cX6_ranks 21 = .ok (.dup, 1) := by decide +kernel
theorem dX6_ranks_22 : decode cX6_ranks 22 = .ok (.getfield 127, 3) := by decide +kernel
theorem dX6_ranks_25 : decode cX6_ranks 25 = .ok (.iconst 1, 1) := by decide +kernel
theorem dX6_ranks_26 : decode cX6_ranks 26 = .ok (.iadd, 1) := by decide +kernel
theorem dX6_ranks_27 : decode cX6_ranks 27 = .ok (.putfield 127, 3) := by decide +kernel
theorem dX6_ranks_30 : decode cX6_ranks 30 = .ok (.iload 4, 2) := by decide +kernel
theorem dX6_ranks_32 : decode cX6_ranks 32 = .ok (.ifCond .le 64, 3) := by decide +kernel
theorem dX6_ranks_35 : decode cX6_ranks 35 = .ok (.aload_n 0, 1) := by decide +kernel
theorem dX6_ranks_36 : decode cX6_ranks 36 = .ok (.getfield 38, 3) := by decide +kernel
theorem dX6_ranks_39 : decode cX6_ranks 39 = .ok (.iload 4, 2) := by decide +kernel
theorem dX6_ranks_41 : decode cX6_ranks 41 = .ok (.iconst 1, 1) := by decide +kernel
theorem dX6_ranks_42 : decode cX6_ranks 42 = .ok (.isub, 1) := by decide +kernel
theorem dX6_ranks_43 : decode cX6_ranks 43 = .ok (.laload, 1) := by decide +kernel
theorem dX6_ranks_44 : decode cX6_ranks 44 = .ok (.lload_n 2, 1) := by decide +kernel
theorem dX6_ranks_45 : decode cX6_ranks 45 = .ok (.lcmp, 1) := by decide +kernel
theorem dX6_ranks_46 : decode cX6_ranks 46 = .ok (.ifCond .le 50, 3) := by decide +kernel
theorem dX6_ranks_49 : decode cX6_ranks 49 = .ok (.iinc 4 (-1), 3) := by decide +kernel
theorem dX6_ranks_52 : decode cX6_ranks 52 = .ok (.iload 4, 2) := by decide +kernel
theorem dX6_ranks_54 : decode cX6_ranks 54 = .ok (.iconst 1, 1) := by decide +kernel
theorem dX6_ranks_55 : decode cX6_ranks 55 = .ok (.iadd, 1) := by decide +kernel
theorem dX6_ranks_56 : decode cX6_ranks 56 = .ok (.bipush 10, 2) := by decide +kernel
theorem dX6_ranks_58 : decode cX6_ranks 58 = .ok (.if_icmp .ge (-28), 3) := by decide +kernel
theorem dX6_ranks_61 : decode cX6_ranks 61 = .ok (.aload_n 0, 1) := by decide +kernel
theorem dX6_ranks_62 : decode cX6_ranks 62 = .ok (.getfield 38, 3) := by decide +kernel
theorem dX6_ranks_65 : decode cX6_ranks 65 = .ok (.iload 4, 2) := by decide +kernel
theorem dX6_ranks_67 : decode cX6_ranks 67 = .ok (.iconst 1, 1) := by decide +kernel
theorem dX6_ranks_68 : decode cX6_ranks 68 = .ok (.iadd, 1) := by decide +kernel
theorem dX6_ranks_69 : decode cX6_ranks 69 = .ok (.aload_n 0, 1) := by decide +kernel
theorem dX6_ranks_70 : decode cX6_ranks 70 = .ok (.getfield 38, 3) := by decide +kernel
theorem dX6_ranks_73 : decode cX6_ranks 73 = .ok (.iload 4, 2) := by decide +kernel
theorem dX6_ranks_75 : decode cX6_ranks 75 = .ok (.laload, 1) := by decide +kernel
theorem dX6_ranks_76 : decode cX6_ranks 76 = .ok (.lastore, 1) := by decide +kernel
theorem dX6_ranks_77 : decode cX6_ranks 77 = .ok (.aload_n 0, 1) := by decide +kernel
theorem dX6_ranks_78 : decode cX6_ranks 78 = .ok (.getfield 42, 3) := by decide +kernel
theorem dX6_ranks_81 : decode cX6_ranks 81 = .ok (.iload 4, 2) := by decide +kernel
theorem dX6_ranks_83 : decode cX6_ranks 83 = .ok (.iconst 1, 1) := by decide +kernel
theorem dX6_ranks_84 : decode cX6_ranks 84 = .ok (.iadd, 1) := by decide +kernel
theorem dX6_ranks_85 : decode cX6_ranks 85 = .ok (.aload_n 0, 1) := by decide +kernel
theorem dX6_ranks_86 : decode cX6_ranks 86 = .ok (.getfield 42, 3) := by decide +kernel
theorem dX6_ranks_89 : decode cX6_ranks 89 = .ok (.iload 4, 2) := by decide +kernel
theorem dX6_ranks_91 : decode cX6_ranks 91 = .ok (.iaload, 1) := by decide +kernel
theorem dX6_ranks_92 : decode cX6_ranks 92 = .ok (.iastore, 1) := by decide +kernel
theorem dX6_ranks_93 : decode cX6_ranks 93 = .ok (.goto (-63), 3) := by decide +kernel
theorem dX6_ranks_96 : decode cX6_ranks 96 = .ok (.iload 4, 2) := by decide +kernel
theorem dX6_ranks_98 : decode cX6_ranks 98 = .ok (.bipush 10, 2) := by decide +kernel
theorem dX6_ranks_100 : decode cX6_ranks 100 = .ok (.if_icmp .ge 19, 3) := by decide +kernel
theorem dX6_ranks_103 : decode cX6_ranks 103 = .ok (.aload_n 0, 1) := by decide +kernel
theorem dX6_ranks_104 : decode cX6_ranks 104 = .ok (.getfield 38, 3) := by decide +kernel
theorem dX6_ranks_107 : decode cX6_ranks 107 = .ok (.iload 4, 2) := by decide +kernel
theorem dX6_ranks_109 : decode cX6_ranks 109 = .ok (.lload_n 2, 1) := by decide +kernel
theorem dX6_ranks_110 : decode cX6_ranks 110 = .ok (.lastore, 1) := by decide +kernel
theorem dX6_ranks_111 : decode cX6_ranks 111 = .ok (.aload_n 0, 1) := by decide +kernel
theorem dX6_ranks_112 : decode cX6_ranks 112 = .ok (.getfield 42, 3) := by decide +kernel
theorem dX6_ranks_115 : decode cX6_ranks 115 = .ok (.iload 4, 2) := by decide +kernel
theorem dX6_ranks_117 : decode cX6_ranks 117 = .ok (.iload_n 1, 1) := by decide +kernel
theorem dX6_ranks_118 : decode cX6_ranks 118 = .ok (.iastore, 1) := by decide +kernel
theorem dX6_ranks_119 : decode cX6_ranks 119 = .ok (.return_, 1) := by decide +kernel
set_option maxRecDepth 20000 in
theorem ggX6_findsBranches_X6_looksNow : GoodIn wsX6_findsBranches wsX6_looksNow := goodIn_r _ [13, 14, 15, 16, 12, 17, 3, 18, 19, 20, 21, 22, 23, 4, 7, 2, 24, 25, 26, 27, 28, 29, 30, 31, 32, 33, 34, 63, 64, 65, 66, 67, 68, 69, 70, 71, 72, 73, 74, 75, 76, 77, 78, 79, 80, 81] (by decide +kernel) (by decide +kernel)
set_option maxRecDepth 20000 in
theorem gX6_findsBranches_X6_looksNow : GoodIn wsX6_findsBranches (wsV RX6 86 RX6 yX6_looksNow wsX6_looksNow) := goodIn_app (goodIn_of _ (by decide +kernel)) ggX6_findsBranches_X6_looksNow
set_option maxRecDepth 20000 in
theorem ggX6_findsBranches_X6_poses : GoodIn wsX6_findsBranches wsX6_poses := goodIn_r _ [38, 3, 39, 40, 41, 63, 64, 65, 66, 67, 68, 69, 70, 71, 72, 73, 74, 75, 76, 77, 78, 79, 80, 81] (by decide +kernel) (by decide +kernel)
set_option maxRecDepth 20000 in
theorem gX6_findsBranches_X6_poses : GoodIn wsX6_findsBranches (wsV RX6 130 RX6 yX6_poses wsX6_poses) := goodIn_app (goodIn_of _ (by decide +kernel)) ggX6_findsBranches_X6_poses
set_option maxRecDepth 20000 in
theorem ggX6_findsBranches_X6_makesPose : GoodIn wsX6_findsBranches wsX6_makesPose := goodIn_r _ [45, 3, 40, 41, 18, 63, 64, 65, 66, 67, 68, 69, 70, 71, 72, 73, 74, 75, 76, 77, 78, 79, 80, 81] (by decide +kernel) (by decide +kernel)
set_option maxRecDepth 20000 in
theorem gX6_findsBranches_X6_makesPose : GoodIn wsX6_findsBranches (wsV RX6 134 RX6 yX6_makesPose wsX6_makesPose) := goodIn_app (goodIn_of _ (by decide +kernel)) ggX6_findsBranches_X6_makesPose
set_option maxRecDepth 20000 in
theorem ggX6_findsBranches_X6_looks : GoodIn wsX6_findsBranches wsX6_looks := goodIn_r _ [23, 4, 7, 2, 3, 24, 25, 18, 26, 27, 12, 28, 29, 30, 31, 32, 33, 34, 63, 64, 65, 66, 67, 68, 69, 70, 71, 72, 73, 74, 75, 76, 77, 78, 79, 80, 81] (by decide +kernel) (by decide +kernel)
set_option maxRecDepth 20000 in
theorem gX6_findsBranches_X6_looks : GoodIn wsX6_findsBranches (wsV RX6 77 RX6 yX6_looks wsX6_looks) := goodIn_app (goodIn_of _ (by decide +kernel)) ggX6_findsBranches_X6_looks
set_option maxRecDepth 20000 in
theorem ggX6_findsBranches_X6_size : GoodIn wsX6_findsBranches wsX6_size := goodIn_r _ [48] (by decide +kernel) (by decide +kernel)
set_option maxRecDepth 20000 in
theorem gX6_findsBranches_X6_size : GoodIn wsX6_findsBranches (va_wsS RX6 124 yX6_size wsX6_size) := goodIn_app (goodIn_of _ (by decide +kernel)) ggX6_findsBranches_X6_size
set_option maxRecDepth 20000 in
theorem ggX6_findsBranches_X6_keyOf : GoodIn wsX6_findsBranches wsX6_keyOf := goodIn_r _ [52, 2, 3, 18, 19, 53, 54, 55, 12, 56, 4, 5, 7, 8, 26, 27, 28, 46, 47, 48, 63, 64, 65, 66, 67, 68, 69, 70, 71, 72, 73, 74, 75, 76, 77, 78, 79, 80, 81] (by decide +kernel) (by decide +kernel)
set_option maxRecDepth 20000 in
theorem gX6_findsBranches_X6_keyOf : GoodIn wsX6_findsBranches (wsV RX6 138 RX6 yX6_keyOf wsX6_keyOf) := goodIn_app (goodIn_of _ (by decide +kernel)) ggX6_findsBranches_X6_keyOf
set_option maxRecDepth 20000 in
theorem ggX6_findsBranches_X6_ranks : GoodIn wsX6_findsBranches wsX6_ranks := goodIn_r _ [60, 1, 61, 62, 63, 64, 65, 66, 67, 68, 69, 70, 71, 72, 73, 74, 75, 76, 77, 78, 79, 80, 81] (by decide +kernel) (by decide +kernel)
set_option maxRecDepth 20000 in
theorem gX6_findsBranches_X6_ranks : GoodIn wsX6_findsBranches (wsV RX6 141 RX6 yX6_ranks wsX6_ranks) := goodIn_app (goodIn_of _ (by decide +kernel)) ggX6_findsBranches_X6_ranks
theorem dX6_findsBranches_0 : decode cX6_findsBranches 0 = .ok (.aload_n 0, 1) := by decide +kernel
theorem dX6_findsBranches_1 : decode cX6_findsBranches 1 = .ok (.iconst 0, 1) := by decide +kernel
theorem dX6_findsBranches_2 : decode cX6_findsBranches 2 = .ok (.putfield 127, 3) := by decide +kernel
theorem dX6_findsBranches_5 : decode cX6_findsBranches 5 = .ok (.aload_n 0, 1) := by decide +kernel
theorem dX6_findsBranches_6 : decode cX6_findsBranches 6 = .ok (.invokevirtual 86, 3) := by decide +kernel
theorem dX6_findsBranches_9 : decode cX6_findsBranches 9 = .ok (.aload_n 0, 1) := by decide +kernel
theorem dX6_findsBranches_10 : decode cX6_findsBranches 10 = .ok (.getfield 65, 3) := by decide +kernel
theorem dX6_findsBranches_13 : decode cX6_findsBranches 13 = .ok (.istore_n 2, 1) := by decide +kernel
theorem dX6_findsBranches_14 : decode cX6_findsBranches 14 = .ok (.aload_n 0, 1) := by decide +kernel
theorem dX6_findsBranches_15 : decode cX6_findsBranches 15 = .ok (.invokevirtual 130, 3) := by decide +kernel
theorem dX6_findsBranches_18 : decode cX6_findsBranches 18 = .ok (.istore_n 3, 1) := by decide +kernel
theorem dX6_findsBranches_19 : decode cX6_findsBranches 19 = .ok (.iconst 0, 1) := by decide +kernel
theorem dX6_findsBranches_20 : decode cX6_findsBranches 20 = .ok (.istore 4, 2) := by decide +kernel
theorem dX6_findsBranches_22 : decode cX6_findsBranches 22 = .ok (.iload 4, 2) := by decide +kernel
theorem dX6_findsBranches_24 : decode cX6_findsBranches 24 = .ok (.iload_n 3, 1) := by decide +kernel
theorem dX6_findsBranches_25 : decode cX6_findsBranches 25 = .ok (.if_icmp .ge 76, 3) := by decide +kernel
theorem dX6_findsBranches_28 : decode cX6_findsBranches 28 = .ok (.aload_n 0, 1) := by decide +kernel
theorem dX6_findsBranches_29 : decode cX6_findsBranches 29 = .ok (.getfield 48, 3) := by decide +kernel
theorem dX6_findsBranches_32 : decode cX6_findsBranches 32 = .ok (.ifCond .le 69, 3) := by decide +kernel
theorem dX6_findsBranches_35 : decode cX6_findsBranches 35 = .ok (.aload_n 0, 1) := by decide +kernel
theorem dX6_findsBranches_36 : decode cX6_findsBranches 36 = .ok (.iload 4, 2) := by decide +kernel
theorem dX6_findsBranches_38 : decode cX6_findsBranches 38 = .ok (.invokevirtual 134, 3) := by decide +kernel
theorem dX6_findsBranches_41 : decode cX6_findsBranches 41 = .ok (.aload_n 0, 1) := by decide +kernel
theorem dX6_findsBranches_42 : decode cX6_findsBranches 42 = .ok (.invokevirtual 77, 3) := by decide +kernel
theorem dX6_findsBranches_45 : decode cX6_findsBranches 45 = .ok (.aload_n 0, 1) := by decide +kernel
theorem dX6_findsBranches_46 : decode cX6_findsBranches 46 = .ok (.getfield 59, 3) := by decide +kernel
theorem dX6_findsBranches_49 : decode cX6_findsBranches 49 = .ok (.aload_n 0, 1) := by decide +kernel
theorem dX6_findsBranches_50 : decode cX6_findsBranches 50 = .ok (.getfield 80, 3) := by decide +kernel
theorem dX6_findsBranches_53 : decode cX6_findsBranches 53 = .ok (.isub, 1) := by decide +kernel
theorem dX6_findsBranches_54 : decode cX6_findsBranches 54 = .ok (.invokestatic 124, 3) := by decide +kernel
theorem dX6_findsBranches_57 : decode cX6_findsBranches 57 = .ok (.aload_n 0, 1) := by decide +kernel
theorem dX6_findsBranches_58 : decode cX6_findsBranches 58 = .ok (.getfield 25, 3) := by decide +kernel
theorem dX6_findsBranches_61 : decode cX6_findsBranches 61 = .ok (.if_icmp .gt 34, 3) := by decide +kernel
theorem dX6_findsBranches_64 : decode cX6_findsBranches 64 = .ok (.aload_n 0, 1) := by decide +kernel
theorem dX6_findsBranches_65 : decode cX6_findsBranches 65 = .ok (.getfield 62, 3) := by decide +kernel
theorem dX6_findsBranches_68 : decode cX6_findsBranches 68 = .ok (.aload_n 0, 1) := by decide +kernel
theorem dX6_findsBranches_69 : decode cX6_findsBranches 69 = .ok (.getfield 83, 3) := by decide +kernel
theorem dX6_findsBranches_72 : decode cX6_findsBranches 72 = .ok (.isub, 1) := by decide +kernel
theorem dX6_findsBranches_73 : decode cX6_findsBranches 73 = .ok (.invokestatic 124, 3) := by decide +kernel
theorem dX6_findsBranches_76 : decode cX6_findsBranches 76 = .ok (.aload_n 0, 1) := by decide +kernel
theorem dX6_findsBranches_77 : decode cX6_findsBranches 77 = .ok (.getfield 25, 3) := by decide +kernel
theorem dX6_findsBranches_80 : decode cX6_findsBranches 80 = .ok (.if_icmp .gt 15, 3) := by decide +kernel
theorem dX6_findsBranches_83 : decode cX6_findsBranches 83 = .ok (.aload_n 0, 1) := by decide +kernel
theorem dX6_findsBranches_84 : decode cX6_findsBranches 84 = .ok (.iload 4, 2) := by decide +kernel
theorem dX6_findsBranches_86 : decode cX6_findsBranches 86 = .ok (.aload_n 0, 1) := by decide +kernel
theorem dX6_findsBranches_87 : decode cX6_findsBranches 87 = .ok (.iload_n 1, 1) := by decide +kernel
theorem dX6_findsBranches_88 : decode cX6_findsBranches 88 = .ok (.iload_n 2, 1) := by decide +kernel
theorem dX6_findsBranches_89 : decode cX6_findsBranches 89 = .ok (.invokevirtual 138, 3) := by decide +kernel
theorem dX6_findsBranches_92 : decode cX6_findsBranches 92 = .ok (.invokevirtual 141, 3) := by decide +kernel
theorem dX6_findsBranches_95 : decode cX6_findsBranches 95 = .ok (.iinc 4 1, 3) := by decide +kernel
theorem dX6_findsBranches_98 : decode cX6_findsBranches 98 = .ok (.goto (-76), 3) := by decide +kernel
theorem dX6_findsBranches_101 : decode cX6_findsBranches 101 = .ok (.return_, 1) := by decide +kernel
set_option maxRecDepth 20000 in
theorem ggX6_branches_X6_poses : GoodIn wsX6_branches wsX6_poses := goodIn_r _ [8, 9, 1, 10, 11, 68, 69, 70, 71, 72, 73, 74, 75, 76, 77, 78, 79, 80, 81, 82, 83, 84, 85, 86] (by decide +kernel) (by decide +kernel)
set_option maxRecDepth 20000 in
theorem gX6_branches_X6_poses : GoodIn wsX6_branches (wsV RX6 130 RX6 yX6_poses wsX6_poses) := goodIn_app (goodIn_of _ (by decide +kernel)) ggX6_branches_X6_poses
set_option maxRecDepth 20000 in
theorem ggX6_branches_X6_findsBranches : GoodIn wsX6_branches wsX6_findsBranches := goodIn_r _ [15, 3, 16, 9, 17, 18, 19, 20, 21, 22, 23, 24, 7, 25, 26, 27, 28, 29, 30, 31, 32, 33, 34, 35, 36, 37, 38, 39, 40, 41, 42, 43, 44, 45, 46, 4, 5, 6, 8, 1, 10, 11, 47, 48, 49, 50, 51, 52, 53, 54, 55, 56, 57, 58, 59, 60, 61, 62, 63, 64, 65, 66, 67, 68, 69, 70, 71, 72, 73, 74, 75, 76, 77, 78, 79, 80, 81, 82, 83, 84, 85, 86] (by decide +kernel) (by decide +kernel)
set_option maxRecDepth 20000 in
theorem gX6_branches_X6_findsBranches : GoodIn wsX6_branches (wsV RX6 145 RX6 yX6_findsBranches wsX6_findsBranches) := goodIn_app (goodIn_of _ (by decide +kernel)) ggX6_branches_X6_findsBranches
theorem dX6_branches_0 : decode cX6_branches 0 = .ok (.aload_n 0, 1) := by decide +kernel
theorem dX6_branches_1 : decode cX6_branches 1 = .ok (.aload_n 0, 1) := by decide +kernel
theorem dX6_branches_2 : decode cX6_branches 2 = .ok (.invokevirtual 130, 3) := by decide +kernel
theorem dX6_branches_5 : decode cX6_branches 5 = .ok (.ldc 123, 2) := by decide +kernel
theorem dX6_branches_7 : decode cX6_branches 7 = .ok (.if_icmp .le 7, 3) := by decide +kernel
theorem dX6_branches_10 : decode cX6_branches 10 = .ok (.iconst 1, 1) := by decide +kernel
theorem dX6_branches_11 : decode cX6_branches 11 = .ok (.goto 4, 3) := by decide +kernel
theorem dX6_branches_14 : decode cX6_branches 14 = .ok (.iconst 0, 1) := by decide +kernel
theorem dX6_branches_15 : decode cX6_branches 15 = .ok (.putfield 45, 3) := by decide +kernel
theorem dX6_branches_18 : decode cX6_branches 18 = .ok (.aload_n 0, 1) := by decide +kernel
theorem dX6_branches_19 : decode cX6_branches 19 = .ok (.getfield 45, 3) := by decide +kernel
theorem dX6_branches_22 : decode cX6_branches 22 = .ok (.ifCond .le 5, 3) := by decide +kernel
theorem dX6_branches_25 : decode cX6_branches 25 = .ok (.iconst 0, 1) := by decide +kernel
theorem dX6_branches_26 : decode cX6_branches 26 = .ok (.ireturn, 1) := by decide +kernel
theorem dX6_branches_27 : decode cX6_branches 27 = .ok (.aload_n 0, 1) := by decide +kernel
theorem dX6_branches_28 : decode cX6_branches 28 = .ok (.iconst 0, 1) := by decide +kernel
theorem dX6_branches_29 : decode cX6_branches 29 = .ok (.invokevirtual 145, 3) := by decide +kernel
theorem dX6_branches_32 : decode cX6_branches 32 = .ok (.aload_n 0, 1) := by decide +kernel
theorem dX6_branches_33 : decode cX6_branches 33 = .ok (.getfield 127, 3) := by decide +kernel
theorem dX6_branches_36 : decode cX6_branches 36 = .ok (.ireturn, 1) := by decide +kernel
set_option maxRecDepth 20000 in
theorem ggX6_findsBranch_X6_in : GoodIn wsX6_findsBranch wsX6_in := goodIn_r _ [8] (by decide +kernel) (by decide +kernel)
set_option maxRecDepth 20000 in
theorem gX6_findsBranch_X6_in : GoodIn wsX6_findsBranch (va_wsS RX6 51 yX6_in wsX6_in) := goodIn_app (goodIn_of _ (by decide +kernel)) ggX6_findsBranch_X6_in
set_option maxRecDepth 20000 in
theorem ggX6_findsBranch_X6_poses : GoodIn wsX6_findsBranch wsX6_poses := goodIn_r _ [12, 13, 1, 14, 15, 71, 72, 73, 74, 75, 76, 77, 78, 79, 80, 81, 82, 83, 84, 85, 86, 87, 88, 89] (by decide +kernel) (by decide +kernel)
set_option maxRecDepth 20000 in
theorem gX6_findsBranch_X6_poses : GoodIn wsX6_findsBranch (wsV RX6 130 RX6 yX6_poses wsX6_poses) := goodIn_app (goodIn_of _ (by decide +kernel)) ggX6_findsBranch_X6_poses
set_option maxRecDepth 20000 in
theorem ggX6_findsBranch_X6_findsBranches : GoodIn wsX6_findsBranch wsX6_findsBranches := goodIn_r _ [19, 2, 20, 13, 21, 22, 23, 24, 25, 26, 27, 28, 7, 29, 30, 31, 32, 33, 34, 35, 36, 37, 38, 39, 40, 41, 42, 43, 44, 45, 46, 47, 48, 49, 50, 9, 10, 11, 12, 1, 14, 15, 51, 52, 53, 54, 55, 56, 57, 58, 59, 60, 61, 62, 63, 64, 65, 66, 67, 68, 69, 70, 4, 71, 72, 73, 74, 75, 76, 77, 78, 79, 80, 81, 82, 83, 84, 85, 86, 87, 88, 89] (by decide +kernel) (by decide +kernel)
set_option maxRecDepth 20000 in
theorem gX6_findsBranch_X6_findsBranches : GoodIn wsX6_findsBranch (wsV RX6 145 RX6 yX6_findsBranches wsX6_findsBranches) := goodIn_app (goodIn_of _ (by decide +kernel)) ggX6_findsBranch_X6_findsBranches
set_option maxRecDepth 20000 in
theorem ggX6_findsBranch_X6_makesPose : GoodIn wsX6_findsBranch wsX6_makesPose := goodIn_r _ [54, 13, 14, 15, 34, 71, 72, 73, 74, 75, 76, 77, 78, 79, 80, 81, 82, 83, 84, 85, 86, 87, 88, 89] (by decide +kernel) (by decide +kernel)
set_option maxRecDepth 20000 in
theorem gX6_findsBranch_X6_makesPose : GoodIn wsX6_findsBranch (wsV RX6 134 RX6 yX6_makesPose wsX6_makesPose) := goodIn_app (goodIn_of _ (by decide +kernel)) ggX6_findsBranch_X6_makesPose
theorem dX6_findsBranch_0 : decode cX6_findsBranch 0 = .ok (.iload_n 3, 1) := by decide +kernel
theorem dX6_findsBranch_1 : decode cX6_findsBranch 1 = .ok (.ifCond .eq 17, 3) := by decide +kernel
theorem dX6_findsBranch_4 : decode cX6_findsBranch 4 = .ok (.iload_n 1, 1) := by decide +kernel
theorem dX6_findsBranch_5 : decode cX6_findsBranch 5 = .ok (.iconst 0, 1) := by decide +kernel
theorem dX6_findsBranch_6 : decode cX6_findsBranch 6 = .ok (.bipush 9, 2) := by decide +kernel
theorem dX6_findsBranch_8 : decode cX6_findsBranch 8 = .ok (.invokestatic 51, 3) := by decide +kernel
theorem dX6_findsBranch_11 : decode cX6_findsBranch 11 = .ok (.ifCond .eq 7, 3) := by decide +kernel
theorem dX6_findsBranch_14 : decode cX6_findsBranch 14 = .ok (.iconst 1, 1) := by decide +kernel
theorem dX6_findsBranch_15 : decode cX6_findsBranch 15 = .ok (.goto 4, 3) := by decide +kernel
theorem dX6_findsBranch_18 : decode cX6_findsBranch 18 = .ok (.iconst 0, 1) := by decide +kernel
theorem dX6_findsBranch_19 : decode cX6_findsBranch 19 = .ok (.istore 4, 2) := by decide +kernel
theorem dX6_findsBranch_21 : decode cX6_findsBranch 21 = .ok (.aload_n 0, 1) := by decide +kernel
theorem dX6_findsBranch_22 : decode cX6_findsBranch 22 = .ok (.invokevirtual 130, 3) := by decide +kernel
theorem dX6_findsBranch_25 : decode cX6_findsBranch 25 = .ok (.ldc 123, 2) := by decide +kernel
theorem dX6_findsBranch_27 : decode cX6_findsBranch 27 = .ok (.if_icmp .gt 7, 3) := by decide +kernel
theorem dX6_findsBranch_30 : decode cX6_findsBranch 30 = .ok (.iconst 1, 1) := by decide +kernel
theorem dX6_findsBranch_31 : decode cX6_findsBranch 31 = .ok (.goto 4, 3) := by decide +kernel
theorem dX6_findsBranch_34 : decode cX6_findsBranch 34 = .ok (.iconst 0, 1) := by decide +kernel
theorem dX6_findsBranch_35 : decode cX6_findsBranch 35 = .ok (.istore 5, 2) := by decide +kernel
theorem dX6_findsBranch_37 : decode cX6_findsBranch 37 = .ok (.iload 4, 2) := by decide +kernel
theorem dX6_findsBranch_39 : decode cX6_findsBranch 39 = .ok (.ifCond .eq 41, 3) := by decide +kernel
theorem dX6_findsBranch_42 : decode cX6_findsBranch 42 = .ok (.iload 5, 2) := by decide +kernel
theorem dX6_findsBranch_44 : decode cX6_findsBranch 44 = .ok (.ifCond .eq 36, 3) := by decide +kernel
theorem dX6_findsBranch_47 : decode cX6_findsBranch 47 = .ok (.aload_n 0, 1) := by decide +kernel
theorem dX6_findsBranch_48 : decode cX6_findsBranch 48 = .ok (.iload_n 2, 1) := by decide +kernel
theorem dX6_findsBranch_49 : decode cX6_findsBranch 49 = .ok (.iconst 0, 1) := by decide +kernel
theorem dX6_findsBranch_50 : decode cX6_findsBranch 50 = .ok (.iconst 2, 1) := by decide +kernel
theorem dX6_findsBranch_51 : decode cX6_findsBranch 51 = .ok (.invokestatic 51, 3) := by decide +kernel
theorem dX6_findsBranch_54 : decode cX6_findsBranch 54 = .ok (.ifCond .eq 7, 3) := by decide +kernel
theorem dX6_findsBranch_57 : decode cX6_findsBranch 57 = .ok (.iload_n 2, 1) := by decide +kernel
theorem dX6_findsBranch_58 : decode cX6_findsBranch 58 = .ok (.goto 4, 3) := by decide +kernel
theorem dX6_findsBranch_61 : decode cX6_findsBranch 61 = .ok (.iconst 0, 1) := by decide +kernel
theorem dX6_findsBranch_62 : decode cX6_findsBranch 62 = .ok (.invokevirtual 145, 3) := by decide +kernel
theorem dX6_findsBranch_65 : decode cX6_findsBranch 65 = .ok (.iload_n 1, 1) := by decide +kernel
theorem dX6_findsBranch_66 : decode cX6_findsBranch 66 = .ok (.aload_n 0, 1) := by decide +kernel
theorem dX6_findsBranch_67 : decode cX6_findsBranch 67 = .ok (.getfield 127, 3) := by decide +kernel
theorem dX6_findsBranch_70 : decode cX6_findsBranch 70 = .ok (.if_icmp .ge 7, 3) := by decide +kernel
theorem dX6_findsBranch_73 : decode cX6_findsBranch 73 = .ok (.iconst 1, 1) := by decide +kernel
theorem dX6_findsBranch_74 : decode cX6_findsBranch 74 = .ok (.goto 4, 3) := by decide +kernel
theorem dX6_findsBranch_77 : decode cX6_findsBranch 77 = .ok (.iconst 0, 1) := by decide +kernel
theorem dX6_findsBranch_78 : decode cX6_findsBranch 78 = .ok (.istore 4, 2) := by decide +kernel
theorem dX6_findsBranch_80 : decode cX6_findsBranch 80 = .ok (.aload_n 0, 1) := by decide +kernel
theorem dX6_findsBranch_81 : decode cX6_findsBranch 81 = .ok (.iload 4, 2) := by decide +kernel
theorem dX6_findsBranch_83 : decode cX6_findsBranch 83 = .ok (.ifCond .ne 7, 3) := by decide +kernel
theorem dX6_findsBranch_86 : decode cX6_findsBranch 86 = .ok (.iconst 1, 1) := by decide +kernel
theorem dX6_findsBranch_87 : decode cX6_findsBranch 87 = .ok (.goto 26, 3) := by decide +kernel
theorem dX6_findsBranch_90 : decode cX6_findsBranch 90 = .ok (.iload_n 2, 1) := by decide +kernel
theorem dX6_findsBranch_91 : decode cX6_findsBranch 91 = .ok (.iconst 0, 1) := by decide +kernel
theorem dX6_findsBranch_92 : decode cX6_findsBranch 92 = .ok (.iconst 2, 1) := by decide +kernel
theorem dX6_findsBranch_93 : decode cX6_findsBranch 93 = .ok (.invokestatic 51, 3) := by decide +kernel
theorem dX6_findsBranch_96 : decode cX6_findsBranch 96 = .ok (.ifCond .ne 7, 3) := by decide +kernel
theorem dX6_findsBranch_99 : decode cX6_findsBranch 99 = .ok (.iconst 2, 1) := by decide +kernel
theorem dX6_findsBranch_100 : decode cX6_findsBranch 100 = .ok (.goto 13, 3) := by decide +kernel
theorem dX6_findsBranch_103 : decode cX6_findsBranch 103 = .ok (.iload 5, 2) := by decide +kernel
theorem dX6_findsBranch_105 : decode cX6_findsBranch 105 = .ok (.ifCond .eq 7, 3) := by decide +kernel
theorem dX6_findsBranch_108 : decode cX6_findsBranch 108 = .ok (.iconst 0, 1) := by decide +kernel
theorem dX6_findsBranch_109 : decode cX6_findsBranch 109 = .ok (.goto 4, 3) := by decide +kernel
theorem dX6_findsBranch_112 : decode cX6_findsBranch 112 = .ok (.iconst 3, 1) := by decide +kernel
theorem dX6_findsBranch_113 : decode cX6_findsBranch 113 = .ok (.putfield 45, 3) := by decide +kernel
theorem dX6_findsBranch_116 : decode cX6_findsBranch 116 = .ok (.aload_n 0, 1) := by decide +kernel
theorem dX6_findsBranch_117 : decode cX6_findsBranch 117 = .ok (.getfield 45, 3) := by decide +kernel
theorem dX6_findsBranch_120 : decode cX6_findsBranch 120 = .ok (.ifCond .ne 13, 3) := by decide +kernel
theorem dX6_findsBranch_123 : decode cX6_findsBranch 123 = .ok (.aload_n 0, 1) := by decide +kernel
theorem dX6_findsBranch_124 : decode cX6_findsBranch 124 = .ok (.aload_n 0, 1) := by decide +kernel
theorem dX6_findsBranch_125 : decode cX6_findsBranch 125 = .ok (.getfield 42, 3) := by decide +kernel
theorem dX6_findsBranch_128 : decode cX6_findsBranch 128 = .ok (.iload_n 1, 1) := by decide +kernel
theorem dX6_findsBranch_129 : decode cX6_findsBranch 129 = .ok (.iaload, 1) := by decide +kernel
theorem dX6_findsBranch_130 : decode cX6_findsBranch 130 = .ok (.invokevirtual 134, 3) := by decide +kernel
theorem dX6_findsBranch_133 : decode cX6_findsBranch 133 = .ok (.aload_n 0, 1) := by decide +kernel
theorem dX6_findsBranch_134 : decode cX6_findsBranch 134 = .ok (.getfield 45, 3) := by decide +kernel
theorem dX6_findsBranch_137 : decode cX6_findsBranch 137 = .ok (.ifCond .ne 7, 3) := by decide +kernel
theorem dX6_findsBranch_140 : decode cX6_findsBranch 140 = .ok (.iconst 1, 1) := by decide +kernel
theorem dX6_findsBranch_141 : decode cX6_findsBranch 141 = .ok (.goto 4, 3) := by decide +kernel
theorem dX6_findsBranch_144 : decode cX6_findsBranch 144 = .ok (.iconst 0, 1) := by decide +kernel
theorem dX6_findsBranch_145 : decode cX6_findsBranch 145 = .ok (.ireturn, 1) := by decide +kernel
set_option maxRecDepth 20000 in
theorem ggX6_branch_X6_isJoint : GoodIn wsX6_branch wsX6_isJoint := goodIn_r _ [6, 7, 8, 9, 5, 10, 79, 80, 81, 82, 83, 84, 85, 86, 87, 88, 89, 90, 91, 92, 93, 94, 95, 96, 97] (by decide +kernel) (by decide +kernel)
set_option maxRecDepth 20000 in
theorem gX6_branch_X6_isJoint : GoodIn wsX6_branch (wsV RX6 100 RX6 yX6_isJoint wsX6_isJoint) := goodIn_app (goodIn_of _ (by decide +kernel)) ggX6_branch_X6_isJoint
set_option maxRecDepth 20000 in
theorem ggX6_branch_X6_findsBranch : GoodIn wsX6_branch wsX6_findsBranch := goodIn_r _ [14, 15, 16, 17, 18, 8, 9, 5, 10, 19, 20, 21, 22, 7, 23, 24, 25, 26, 27, 28, 29, 30, 31, 32, 33, 34, 35, 36, 37, 38, 39, 40, 41, 42, 1, 43, 44, 45, 46, 47, 48, 49, 50, 51, 52, 53, 54, 55, 56, 57, 58, 59, 60, 61, 62, 63, 64, 65, 66, 67, 68, 69, 70, 71, 72, 73, 74, 75, 76, 77, 78, 79, 80, 81, 82, 83, 84, 85, 86, 87, 88, 89, 90, 91, 92, 93, 94, 95, 96, 97] (by decide +kernel) (by decide +kernel)
set_option maxRecDepth 20000 in
theorem gX6_branch_X6_findsBranch : GoodIn wsX6_branch (wsV RX6 148 RX6 yX6_findsBranch wsX6_findsBranch) := goodIn_app (goodIn_of _ (by decide +kernel)) ggX6_branch_X6_findsBranch
theorem dX6_branch_0 : decode cX6_branch 0 = .ok (.aload_n 0, 1) := by decide +kernel
theorem dX6_branch_1 : decode cX6_branch 1 = .ok (.iload_n 1, 1) := by decide +kernel
theorem dX6_branch_2 : decode cX6_branch 2 = .ok (.iload_n 2, 1) := by decide +kernel
theorem dX6_branch_3 : decode cX6_branch 3 = .ok (.aload_n 0, 1) := by decide +kernel
theorem dX6_branch_4 : decode cX6_branch 4 = .ok (.iload_n 3, 1) := by decide +kernel
theorem dX6_branch_5 : decode cX6_branch 5 = .ok (.invokevirtual 100, 3) := by decide +kernel
theorem dX6_branch_8 : decode cX6_branch 8 = .ok (.invokevirtual 148, 3) := by decide +kernel
theorem dX6_branch_11 : decode cX6_branch 11 = .ok (.ifCond .eq 12, 3) := by decide +kernel
theorem dX6_branch_14 : decode cX6_branch 14 = .ok (.aload_n 0, 1) := by decide +kernel
theorem dX6_branch_15 : decode cX6_branch 15 = .ok (.getfield 29, 3) := by decide +kernel
theorem dX6_branch_18 : decode cX6_branch 18 = .ok (.iload_n 3, 1) := by decide +kernel
theorem dX6_branch_19 : decode cX6_branch 19 = .ok (.iaload, 1) := by decide +kernel
theorem dX6_branch_20 : decode cX6_branch 20 = .ok (.goto 4, 3) := by decide +kernel
theorem dX6_branch_23 : decode cX6_branch 23 = .ok (.iconst 0, 1) := by decide +kernel
theorem dX6_branch_24 : decode cX6_branch 24 = .ok (.ireturn, 1) := by decide +kernel
set_option maxRecDepth 20000 in
theorem ggX6_take_X6_findsBranch : GoodIn wsX6_take wsX6_findsBranch := goodIn_r _ [8, 9, 10, 11, 12, 13, 14, 7, 15, 16, 17, 18, 19, 1, 20, 21, 22, 23, 24, 25, 26, 27, 28, 29, 30, 31, 32, 33, 34, 35, 36, 37, 38, 39, 3, 2, 40, 41, 42, 43, 44, 45, 46, 47, 48, 49, 50, 51, 52, 53, 54, 55, 56, 57, 58, 59, 60, 61, 62, 63, 64, 65, 66, 67, 68, 69, 70, 71, 72, 73, 74, 79, 80, 81, 82, 83, 84, 85, 86, 87, 88, 89, 90, 91, 92, 93, 94, 95, 96, 97] (by decide +kernel) (by decide +kernel)
set_option maxRecDepth 20000 in
theorem gX6_take_X6_findsBranch : GoodIn wsX6_take (wsV RX6 148 RX6 yX6_findsBranch wsX6_findsBranch) := goodIn_app (goodIn_of _ (by decide +kernel)) ggX6_take_X6_findsBranch
set_option maxRecDepth 20000 in
theorem ggX6_take_X6_farNow : GoodIn wsX6_take wsX6_farNow := goodIn_r _ [78, 32, 33, 34, 7, 35, 36, 37, 38, 39, 1, 3, 2, 40, 41, 42, 43, 27, 30, 26, 44, 45, 46, 47, 48, 49, 50, 51, 52, 53, 54, 66, 67, 68, 69, 28, 31, 79, 80, 81, 82, 83, 84, 85, 86, 87, 88, 89, 90, 91, 92, 93, 94, 95, 96, 97] (by decide +kernel) (by decide +kernel)
set_option maxRecDepth 20000 in
theorem gX6_take_X6_farNow : GoodIn wsX6_take (wsV RX6 112 RX6 yX6_farNow wsX6_farNow) := goodIn_app (goodIn_of _ (by decide +kernel)) ggX6_take_X6_farNow
theorem dX6_take_0 : decode cX6_take 0 = .ok (.aload_n 0, 1) := by decide +kernel
theorem dX6_take_1 : decode cX6_take 1 = .ok (.iload_n 1, 1) := by decide +kernel
theorem dX6_take_2 : decode cX6_take 2 = .ok (.iload_n 2, 1) := by decide +kernel
theorem dX6_take_3 : decode cX6_take 3 = .ok (.iconst 1, 1) := by decide +kernel
theorem dX6_take_4 : decode cX6_take 4 = .ok (.invokevirtual 148, 3) := by decide +kernel
theorem dX6_take_7 : decode cX6_take 7 = .ok (.ifCond .ne 5, 3) := by decide +kernel
theorem dX6_take_10 : decode cX6_take 10 = .ok (.lconst 0, 1) := by decide +kernel
theorem dX6_take_11 : decode cX6_take 11 = .ok (.lreturn, 1) := by decide +kernel
theorem dX6_take_12 : decode cX6_take 12 = .ok (.iconst 0, 1) := by decide +kernel
theorem dX6_take_13 : decode cX6_take 13 = .ok (.istore_n 3, 1) := by decide +kernel
theorem dX6_take_14 : decode cX6_take 14 = .ok (.iload_n 3, 1) := by decide +kernel
theorem dX6_take_15 : decode cX6_take 15 = .ok (.aload_n 0, 1) := by decide +kernel
theorem dX6_take_16 : decode cX6_take 16 = .ok (.getfield 48, 3) := by decide +kernel
theorem dX6_take_19 : decode cX6_take 19 = .ok (.if_icmp .ge 21, 3) := by decide +kernel
theorem dX6_take_22 : decode cX6_take 22 = .ok (.aload_n 0, 1) := by decide +kernel
theorem dX6_take_23 : decode cX6_take 23 = .ok (.getfield 22, 3) := by decide +kernel
theorem dX6_take_26 : decode cX6_take 26 = .ok (.iload_n 3, 1) := by decide +kernel
theorem dX6_take_27 : decode cX6_take 27 = .ok (.aload_n 0, 1) := by decide +kernel
theorem dX6_take_28 : decode cX6_take 28 = .ok (.getfield 29, 3) := by decide +kernel
theorem dX6_take_31 : decode cX6_take 31 = .ok (.iload_n 3, 1) := by decide +kernel
theorem dX6_take_32 : decode cX6_take 32 = .ok (.iaload, 1) := by decide +kernel
theorem dX6_take_33 : decode cX6_take 33 = .ok (.iastore, 1) := by decide +kernel
theorem dX6_take_34 : decode cX6_take 34 = .ok (.iinc 3 1, 3) := by decide +kernel
theorem dX6_take_37 : decode cX6_take 37 = .ok (.goto (-23), 3) := by decide +kernel
theorem dX6_take_40 : decode cX6_take 40 = .ok (.aload_n 0, 1) := by decide +kernel
theorem dX6_take_41 : decode cX6_take 41 = .ok (.invokevirtual 112, 3) := by decide +kernel
theorem dX6_take_44 : decode cX6_take 44 = .ok (.lreturn, 1) := by decide +kernel
theorem dJ9_abs_0f7a4_0 : decode cJ9_abs_0f7a4 0 = .ok (.iload_n 0, 1) := by decide +kernel
theorem dJ9_abs_0f7a4_1 : decode cJ9_abs_0f7a4 1 = .ok (.ifCond .ge 8, 3) := by decide +kernel
theorem dJ9_abs_0f7a4_4 : decode cJ9_abs_0f7a4 4 = .ok (.iload_n 0, 1) := by decide +kernel
theorem dJ9_abs_0f7a4_5 : decode cJ9_abs_0f7a4 5 = .ok (.ineg, 1) := by decide +kernel
theorem dJ9_abs_0f7a4_6 : decode cJ9_abs_0f7a4 6 = .ok (.goto 4, 3) := by decide +kernel
theorem dJ9_abs_0f7a4_9 : decode cJ9_abs_0f7a4 9 = .ok (.iload_n 0, 1) := by decide +kernel
theorem dJ9_abs_0f7a4_10 : decode cJ9_abs_0f7a4 10 = .ok (.ireturn, 1) := by decide +kernel
theorem dJ9_abs_067f4_0 : decode cJ9_abs_067f4 0 = .ok (.lload_n 0, 1) := by decide +kernel
theorem dJ9_abs_067f4_1 : decode cJ9_abs_067f4 1 = .ok (.lconst 0, 1) := by decide +kernel
theorem dJ9_abs_067f4_2 : decode cJ9_abs_067f4 2 = .ok (.lcmp, 1) := by decide +kernel
theorem dJ9_abs_067f4_3 : decode cJ9_abs_067f4 3 = .ok (.ifCond .ge 8, 3) := by decide +kernel
theorem dJ9_abs_067f4_6 : decode cJ9_abs_067f4 6 = .ok (.lload_n 0, 1) := by decide +kernel
theorem dJ9_abs_067f4_7 : decode cJ9_abs_067f4 7 = .ok (.lneg, 1) := by decide +kernel
theorem dJ9_abs_067f4_8 : decode cJ9_abs_067f4 8 = .ok (.goto 4, 3) := by decide +kernel
theorem dJ9_abs_067f4_11 : decode cJ9_abs_067f4 11 = .ok (.lload_n 0, 1) := by decide +kernel
theorem dJ9_abs_067f4_12 : decode cJ9_abs_067f4 12 = .ok (.lreturn, 1) := by decide +kernel
theorem dJ9_max_7cf53_0 : decode cJ9_max_7cf53 0 = .ok (.iload_n 0, 1) := by decide +kernel
theorem dJ9_max_7cf53_1 : decode cJ9_max_7cf53 1 = .ok (.iload_n 1, 1) := by decide +kernel
theorem dJ9_max_7cf53_2 : decode cJ9_max_7cf53 2 = .ok (.if_icmp .lt 7, 3) := by decide +kernel
theorem dJ9_max_7cf53_5 : decode cJ9_max_7cf53 5 = .ok (.iload_n 0, 1) := by decide +kernel
theorem dJ9_max_7cf53_6 : decode cJ9_max_7cf53 6 = .ok (.goto 4, 3) := by decide +kernel
theorem dJ9_max_7cf53_9 : decode cJ9_max_7cf53 9 = .ok (.iload_n 1, 1) := by decide +kernel
theorem dJ9_max_7cf53_10 : decode cJ9_max_7cf53 10 = .ok (.ireturn, 1) := by decide +kernel
theorem dJ9_max_f86c9_0 : decode cJ9_max_f86c9 0 = .ok (.lload_n 0, 1) := by decide +kernel
theorem dJ9_max_f86c9_1 : decode cJ9_max_f86c9 1 = .ok (.lload_n 2, 1) := by decide +kernel
theorem dJ9_max_f86c9_2 : decode cJ9_max_f86c9 2 = .ok (.lcmp, 1) := by decide +kernel
theorem dJ9_max_f86c9_3 : decode cJ9_max_f86c9 3 = .ok (.ifCond .lt 7, 3) := by decide +kernel
theorem dJ9_max_f86c9_6 : decode cJ9_max_f86c9 6 = .ok (.lload_n 0, 1) := by decide +kernel
theorem dJ9_max_f86c9_7 : decode cJ9_max_f86c9 7 = .ok (.goto 4, 3) := by decide +kernel
theorem dJ9_max_f86c9_10 : decode cJ9_max_f86c9 10 = .ok (.lload_n 2, 1) := by decide +kernel
theorem dJ9_max_f86c9_11 : decode cJ9_max_f86c9 11 = .ok (.lreturn, 1) := by decide +kernel
theorem dJ9_min_7cf53_0 : decode cJ9_min_7cf53 0 = .ok (.iload_n 0, 1) := by decide +kernel
theorem dJ9_min_7cf53_1 : decode cJ9_min_7cf53 1 = .ok (.iload_n 1, 1) := by decide +kernel
theorem dJ9_min_7cf53_2 : decode cJ9_min_7cf53 2 = .ok (.if_icmp .gt 7, 3) := by decide +kernel
theorem dJ9_min_7cf53_5 : decode cJ9_min_7cf53 5 = .ok (.iload_n 0, 1) := by decide +kernel
theorem dJ9_min_7cf53_6 : decode cJ9_min_7cf53 6 = .ok (.goto 4, 3) := by decide +kernel
theorem dJ9_min_7cf53_9 : decode cJ9_min_7cf53 9 = .ok (.iload_n 1, 1) := by decide +kernel
theorem dJ9_min_7cf53_10 : decode cJ9_min_7cf53 10 = .ok (.ireturn, 1) := by decide +kernel
set_option maxRecDepth 20000 in
theorem ggL_joint_X5_joint : GoodIn wsL_joint wsX5_joint := goodIn_ca (goodIn_ca (goodIn_r _ [7, 8, 9, 10, 11, 12, 13, 14, 15, 16, 17, 18, 19, 20, 21, 22, 23, 24, 25, 26, 27, 28, 29, 30, 31, 32, 33, 34, 35, 36, 37, 38, 39, 40, 41, 42, 43, 44, 45, 46, 47, 48, 49] (by decide +kernel) (by decide +kernel)) (goodIn_sub (fun _ h => List.mem_cons_of_mem _ (List.mem_append_left _ (List.mem_append_right _ h))) (by decide +kernel))) (goodIn_sub (fun _ h => List.mem_cons_of_mem _ (List.mem_append_right _ h)) (by decide +kernel))
set_option maxRecDepth 20000 in
theorem gL_joint_X5_joint : GoodIn wsL_joint (wsV RL 7 RX5 yX5_joint wsX5_joint) := goodIn_app (goodIn_of _ (by decide +kernel)) ggL_joint_X5_joint
theorem dL_joint_0 : decode cL_joint 0 = .ok (.aload 5, 2) := by decide +kernel
theorem dL_joint_2 : decode cL_joint 2 = .ok (.iconst 0, 1) := by decide +kernel
theorem dL_joint_3 : decode cL_joint 3 = .ok (.aload_n 0, 1) := by decide +kernel
theorem dL_joint_4 : decode cL_joint 4 = .ok (.iload_n 1, 1) := by decide +kernel
theorem dL_joint_5 : decode cL_joint 5 = .ok (.iload_n 2, 1) := by decide +kernel
theorem dL_joint_6 : decode cL_joint 6 = .ok (.iload_n 3, 1) := by decide +kernel
theorem dL_joint_7 : decode cL_joint 7 = .ok (.iload 4, 2) := by decide +kernel
theorem dL_joint_9 : decode cL_joint 9 = .ok (.invokevirtual 7, 3) := by decide +kernel
theorem dL_joint_12 : decode cL_joint 12 = .ok (.i2l, 1) := by decide +kernel
theorem dL_joint_13 : decode cL_joint 13 = .ok (.lastore, 1) := by decide +kernel
theorem dL_joint_14 : decode cL_joint 14 = .ok (.goto 11, 3) := by decide +kernel
theorem dL_joint_17 : decode cL_joint 17 = .ok (.astore 6, 2) := by decide +kernel
theorem dL_joint_19 : decode cL_joint 19 = .ok (.iconst 1, 1) := by decide +kernel
theorem dL_joint_20 : decode cL_joint 20 = .ok (.ireturn, 1) := by decide +kernel
theorem dL_joint_21 : decode cL_joint 21 = .ok (.astore 6, 2) := by decide +kernel
theorem dL_joint_23 : decode cL_joint 23 = .ok (.iconst 2, 1) := by decide +kernel
theorem dL_joint_24 : decode cL_joint 24 = .ok (.ireturn, 1) := by decide +kernel
theorem dL_joint_25 : decode cL_joint 25 = .ok (.iconst 0, 1) := by decide +kernel
theorem dL_joint_26 : decode cL_joint 26 = .ok (.ireturn, 1) := by decide +kernel
set_option maxRecDepth 20000 in
theorem ggL_set_X5_set : GoodIn wsL_set wsX5_set := goodIn_ca (goodIn_ca (goodIn_r _ [7, 8, 9, 10, 11, 12, 13, 6, 14, 15, 16, 17, 18, 19, 20, 21, 22, 23, 24, 25, 26, 27, 28, 29] (by decide +kernel) (by decide +kernel)) (goodIn_sub (fun _ h => List.mem_cons_of_mem _ (List.mem_append_left _ (List.mem_append_right _ h))) (by decide +kernel))) (goodIn_sub (fun _ h => List.mem_cons_of_mem _ (List.mem_append_right _ h)) (by decide +kernel))
set_option maxRecDepth 20000 in
theorem gL_set_X5_set : GoodIn wsL_set (wsV RL 17 RX5 yX5_set wsX5_set) := goodIn_app (goodIn_of _ (by decide +kernel)) ggL_set_X5_set
theorem dL_set_0 : decode cL_set 0 = .ok (.aload_n 3, 1) := by decide +kernel
theorem dL_set_1 : decode cL_set 1 = .ok (.iconst 0, 1) := by decide +kernel
theorem dL_set_2 : decode cL_set 2 = .ok (.aload_n 0, 1) := by decide +kernel
theorem dL_set_3 : decode cL_set 3 = .ok (.iload_n 1, 1) := by decide +kernel
theorem dL_set_4 : decode cL_set 4 = .ok (.iload_n 2, 1) := by decide +kernel
theorem dL_set_5 : decode cL_set 5 = .ok (.invokevirtual 17, 3) := by decide +kernel
theorem dL_set_8 : decode cL_set 8 = .ok (.i2l, 1) := by decide +kernel
theorem dL_set_9 : decode cL_set 9 = .ok (.lastore, 1) := by decide +kernel
theorem dL_set_10 : decode cL_set 10 = .ok (.goto 11, 3) := by decide +kernel
theorem dL_set_13 : decode cL_set 13 = .ok (.astore 4, 2) := by decide +kernel
theorem dL_set_15 : decode cL_set 15 = .ok (.iconst 1, 1) := by decide +kernel
theorem dL_set_16 : decode cL_set 16 = .ok (.ireturn, 1) := by decide +kernel
theorem dL_set_17 : decode cL_set 17 = .ok (.astore 4, 2) := by decide +kernel
theorem dL_set_19 : decode cL_set 19 = .ok (.iconst 2, 1) := by decide +kernel
theorem dL_set_20 : decode cL_set 20 = .ok (.ireturn, 1) := by decide +kernel
theorem dL_set_21 : decode cL_set 21 = .ok (.iconst 0, 1) := by decide +kernel
theorem dL_set_22 : decode cL_set 22 = .ok (.ireturn, 1) := by decide +kernel
set_option maxRecDepth 20000 in
theorem ggL_value_X5_value : GoodIn wsL_value wsX5_value := goodIn_ca (goodIn_r _ [6, 7, 8, 9, 10, 5, 11, 12, 13, 14, 15, 16, 17, 18, 19, 20, 21, 22, 23, 24, 25, 26] (by decide +kernel) (by decide +kernel)) (goodIn_sub (fun _ h => List.mem_cons_of_mem _ (List.mem_append_right _ h)) (by decide +kernel))
set_option maxRecDepth 20000 in
theorem gL_value_X5_value : GoodIn wsL_value (wsV RL 23 RX5 yX5_value wsX5_value) := goodIn_app (goodIn_of _ (by decide +kernel)) ggL_value_X5_value
theorem dL_value_0 : decode cL_value 0 = .ok (.aload_n 2, 1) := by decide +kernel
theorem dL_value_1 : decode cL_value 1 = .ok (.iconst 0, 1) := by decide +kernel
theorem dL_value_2 : decode cL_value 2 = .ok (.aload_n 0, 1) := by decide +kernel
theorem dL_value_3 : decode cL_value 3 = .ok (.iload_n 1, 1) := by decide +kernel
theorem dL_value_4 : decode cL_value 4 = .ok (.invokevirtual 23, 3) := by decide +kernel
theorem dL_value_7 : decode cL_value 7 = .ok (.i2l, 1) := by decide +kernel
theorem dL_value_8 : decode cL_value 8 = .ok (.lastore, 1) := by decide +kernel
theorem dL_value_9 : decode cL_value 9 = .ok (.goto 6, 3) := by decide +kernel
theorem dL_value_12 : decode cL_value 12 = .ok (.astore_n 3, 1) := by decide +kernel
theorem dL_value_13 : decode cL_value 13 = .ok (.iconst 1, 1) := by decide +kernel
theorem dL_value_14 : decode cL_value 14 = .ok (.ireturn, 1) := by decide +kernel
theorem dL_value_15 : decode cL_value 15 = .ok (.iconst 0, 1) := by decide +kernel
theorem dL_value_16 : decode cL_value 16 = .ok (.ireturn, 1) := by decide +kernel
set_option maxRecDepth 20000 in
theorem ggL_tip_X5_tip : GoodIn wsL_tip wsX5_tip := goodIn_ca (goodIn_r _ [6, 7, 8, 9, 10, 5, 11, 12, 13, 14, 15, 16, 17, 18, 19, 20, 21, 22, 23, 24, 25, 26, 27, 28, 29, 30, 31, 32, 33, 34, 35, 36, 37, 38, 39, 40, 41, 42, 43, 44, 45, 46, 47, 48, 49, 50, 51, 52, 53, 54, 55, 56, 57, 58, 59, 60, 61, 62, 63, 64, 65, 66] (by decide +kernel) (by decide +kernel)) (goodIn_sub (fun _ h => List.mem_cons_of_mem _ (List.mem_append_right _ h)) (by decide +kernel))
set_option maxRecDepth 20000 in
theorem gL_tip_X5_tip : GoodIn wsL_tip (wsV RL 27 RX5 yX5_tip wsX5_tip) := goodIn_app (goodIn_of _ (by decide +kernel)) ggL_tip_X5_tip
theorem dL_tip_0 : decode cL_tip 0 = .ok (.aload_n 2, 1) := by decide +kernel
theorem dL_tip_1 : decode cL_tip 1 = .ok (.iconst 0, 1) := by decide +kernel
theorem dL_tip_2 : decode cL_tip 2 = .ok (.aload_n 0, 1) := by decide +kernel
theorem dL_tip_3 : decode cL_tip 3 = .ok (.iload_n 1, 1) := by decide +kernel
theorem dL_tip_4 : decode cL_tip 4 = .ok (.invokevirtual 27, 3) := by decide +kernel
theorem dL_tip_7 : decode cL_tip 7 = .ok (.i2l, 1) := by decide +kernel
theorem dL_tip_8 : decode cL_tip 8 = .ok (.lastore, 1) := by decide +kernel
theorem dL_tip_9 : decode cL_tip 9 = .ok (.goto 6, 3) := by decide +kernel
theorem dL_tip_12 : decode cL_tip 12 = .ok (.astore_n 3, 1) := by decide +kernel
theorem dL_tip_13 : decode cL_tip 13 = .ok (.iconst 1, 1) := by decide +kernel
theorem dL_tip_14 : decode cL_tip 14 = .ok (.ireturn, 1) := by decide +kernel
theorem dL_tip_15 : decode cL_tip 15 = .ok (.iconst 0, 1) := by decide +kernel
theorem dL_tip_16 : decode cL_tip 16 = .ok (.ireturn, 1) := by decide +kernel
set_option maxRecDepth 20000 in
theorem ggL_tipAnew_X5_tipAnew : GoodIn wsL_tipAnew wsX5_tipAnew := goodIn_ca (goodIn_r _ [6, 7, 8, 9, 10, 5, 11, 12, 13, 14, 15, 16, 17, 18, 19, 20, 21, 22, 23, 24, 25, 26, 27, 28, 29, 30, 31, 32, 33, 34, 35, 36, 37, 38, 39, 40, 41, 42, 43, 44, 45, 46, 47, 48, 49, 50, 51, 52, 53, 54, 55, 56, 57, 58, 59, 60, 61, 62, 63, 64, 65, 66, 67] (by decide +kernel) (by decide +kernel)) (goodIn_sub (fun _ h => List.mem_cons_of_mem _ (List.mem_append_right _ h)) (by decide +kernel))
set_option maxRecDepth 20000 in
theorem gL_tipAnew_X5_tipAnew : GoodIn wsL_tipAnew (wsV RL 30 RX5 yX5_tipAnew wsX5_tipAnew) := goodIn_app (goodIn_of _ (by decide +kernel)) ggL_tipAnew_X5_tipAnew
theorem dL_tipAnew_0 : decode cL_tipAnew 0 = .ok (.aload_n 2, 1) := by decide +kernel
theorem dL_tipAnew_1 : decode cL_tipAnew 1 = .ok (.iconst 0, 1) := by decide +kernel
theorem dL_tipAnew_2 : decode cL_tipAnew 2 = .ok (.aload_n 0, 1) := by decide +kernel
theorem dL_tipAnew_3 : decode cL_tipAnew 3 = .ok (.iload_n 1, 1) := by decide +kernel
theorem dL_tipAnew_4 : decode cL_tipAnew 4 = .ok (.invokevirtual 30, 3) := by decide +kernel
theorem dL_tipAnew_7 : decode cL_tipAnew 7 = .ok (.i2l, 1) := by decide +kernel
theorem dL_tipAnew_8 : decode cL_tipAnew 8 = .ok (.lastore, 1) := by decide +kernel
theorem dL_tipAnew_9 : decode cL_tipAnew 9 = .ok (.goto 6, 3) := by decide +kernel
theorem dL_tipAnew_12 : decode cL_tipAnew 12 = .ok (.astore_n 3, 1) := by decide +kernel
theorem dL_tipAnew_13 : decode cL_tipAnew 13 = .ok (.iconst 1, 1) := by decide +kernel
theorem dL_tipAnew_14 : decode cL_tipAnew 14 = .ok (.ireturn, 1) := by decide +kernel
theorem dL_tipAnew_15 : decode cL_tipAnew 15 = .ok (.iconst 0, 1) := by decide +kernel
theorem dL_tipAnew_16 : decode cL_tipAnew 16 = .ok (.ireturn, 1) := by decide +kernel
set_option maxRecDepth 20000 in
theorem ggL_moves_X5_moves : GoodIn wsL_moves wsX5_moves := goodIn_ca (goodIn_ca (goodIn_r _ [7, 8, 9, 10, 11, 12, 13, 6, 14, 15, 16, 17, 18, 19, 20, 21, 22, 23, 24, 25, 26, 27, 28, 29, 30, 31, 32, 33, 34, 35, 36, 37, 38, 39, 40, 41, 42, 43, 44, 45, 46, 47, 48, 49, 50, 51, 52, 53, 54, 55, 56, 57, 58, 59, 60, 61, 62, 63, 64, 65, 66, 67, 68, 69, 70, 71, 72, 73, 74] (by decide +kernel) (by decide +kernel)) (goodIn_sub (fun _ h => List.mem_cons_of_mem _ (List.mem_append_left _ (List.mem_append_right _ h))) (by decide +kernel))) (goodIn_sub (fun _ h => List.mem_cons_of_mem _ (List.mem_append_right _ h)) (by decide +kernel))
set_option maxRecDepth 20000 in
theorem gL_moves_X5_moves : GoodIn wsL_moves (wsV RL 33 RX5 yX5_moves wsX5_moves) := goodIn_app (goodIn_of _ (by decide +kernel)) ggL_moves_X5_moves
theorem dL_moves_0 : decode cL_moves 0 = .ok (.aload_n 3, 1) := by decide +kernel
theorem dL_moves_1 : decode cL_moves 1 = .ok (.iconst 0, 1) := by decide +kernel
theorem dL_moves_2 : decode cL_moves 2 = .ok (.aload_n 0, 1) := by decide +kernel
theorem dL_moves_3 : decode cL_moves 3 = .ok (.iload_n 1, 1) := by decide +kernel
theorem dL_moves_4 : decode cL_moves 4 = .ok (.iload_n 2, 1) := by decide +kernel
theorem dL_moves_5 : decode cL_moves 5 = .ok (.invokevirtual 33, 3) := by decide +kernel
theorem dL_moves_8 : decode cL_moves 8 = .ok (.i2l, 1) := by decide +kernel
theorem dL_moves_9 : decode cL_moves 9 = .ok (.lastore, 1) := by decide +kernel
theorem dL_moves_10 : decode cL_moves 10 = .ok (.goto 11, 3) := by decide +kernel
theorem dL_moves_13 : decode cL_moves 13 = .ok (.astore 4, 2) := by decide +kernel
theorem dL_moves_15 : decode cL_moves 15 = .ok (.iconst 1, 1) := by decide +kernel
theorem dL_moves_16 : decode cL_moves 16 = .ok (.ireturn, 1) := by decide +kernel
theorem dL_moves_17 : decode cL_moves 17 = .ok (.astore 4, 2) := by decide +kernel
theorem dL_moves_19 : decode cL_moves 19 = .ok (.iconst 2, 1) := by decide +kernel
theorem dL_moves_20 : decode cL_moves 20 = .ok (.ireturn, 1) := by decide +kernel
theorem dL_moves_21 : decode cL_moves 21 = .ok (.iconst 0, 1) := by decide +kernel
theorem dL_moves_22 : decode cL_moves 22 = .ok (.ireturn, 1) := by decide +kernel
set_option maxRecDepth 20000 in
theorem ggL_goal_X5_goal : GoodIn wsL_goal wsX5_goal := goodIn_ca (goodIn_r _ [6, 7, 8, 9, 10, 11, 12, 13, 14, 5, 15, 16, 17, 18, 19, 20, 21, 22, 23, 24, 25, 26, 27, 28, 29, 30, 31, 32, 33, 34, 35, 36, 37, 38, 39, 40, 41, 42, 43, 44, 45, 46, 47, 48, 49, 50, 51, 52, 53, 54, 55, 56, 57, 58, 59, 60, 61, 62, 63, 64, 65, 66, 67, 68, 69, 70, 71, 72, 73, 74, 75, 76] (by decide +kernel) (by decide +kernel)) (goodIn_sub (fun _ h => List.mem_cons_of_mem _ (List.mem_append_right _ h)) (by decide +kernel))
set_option maxRecDepth 20000 in
theorem gL_goal_X5_goal : GoodIn wsL_goal (wsV RL 36 RX5 yX5_goal wsX5_goal) := goodIn_app (goodIn_of _ (by decide +kernel)) ggL_goal_X5_goal
theorem dL_goal_0 : decode cL_goal 0 = .ok (.aload_n 3, 1) := by decide +kernel
theorem dL_goal_1 : decode cL_goal 1 = .ok (.iconst 0, 1) := by decide +kernel
theorem dL_goal_2 : decode cL_goal 2 = .ok (.aload_n 0, 1) := by decide +kernel
theorem dL_goal_3 : decode cL_goal 3 = .ok (.iload_n 1, 1) := by decide +kernel
theorem dL_goal_4 : decode cL_goal 4 = .ok (.iload_n 2, 1) := by decide +kernel
theorem dL_goal_5 : decode cL_goal 5 = .ok (.invokevirtual 36, 3) := by decide +kernel
theorem dL_goal_8 : decode cL_goal 8 = .ok (.lastore, 1) := by decide +kernel
theorem dL_goal_9 : decode cL_goal 9 = .ok (.goto 7, 3) := by decide +kernel
theorem dL_goal_12 : decode cL_goal 12 = .ok (.astore 4, 2) := by decide +kernel
theorem dL_goal_14 : decode cL_goal 14 = .ok (.iconst 1, 1) := by decide +kernel
theorem dL_goal_15 : decode cL_goal 15 = .ok (.ireturn, 1) := by decide +kernel
theorem dL_goal_16 : decode cL_goal 16 = .ok (.iconst 0, 1) := by decide +kernel
theorem dL_goal_17 : decode cL_goal 17 = .ok (.ireturn, 1) := by decide +kernel
set_option maxRecDepth 20000 in
theorem ggL_steps_X5_steps : GoodIn wsL_steps wsX5_steps := goodIn_ca (goodIn_r _ [6, 7, 8, 9, 10, 11, 5, 12, 13, 14, 15, 16, 17, 18, 19, 20, 21, 22, 23, 24, 25, 26, 27, 28, 29, 30, 31, 32, 33, 34, 35, 36, 37, 38, 39, 40, 41, 42, 43, 44, 45, 46, 47, 48, 49, 50, 51, 52, 53, 54, 55, 56, 57, 58, 59, 60, 61, 62, 63, 64, 65, 66, 67, 68, 69, 70, 71, 72, 73, 74, 75, 76, 77, 78, 79, 80, 81, 82, 83, 84, 85, 86, 87, 88, 89, 90, 91, 92, 93, 94, 95] (by decide +kernel) (by decide +kernel)) (goodIn_sub (fun _ h => List.mem_cons_of_mem _ (List.mem_append_right _ h)) (by decide +kernel))
set_option maxRecDepth 20000 in
theorem gL_steps_X5_steps : GoodIn wsL_steps (wsV RL 40 RX5 yX5_steps wsX5_steps) := goodIn_app (goodIn_of _ (by decide +kernel)) ggL_steps_X5_steps
theorem dL_steps_0 : decode cL_steps 0 = .ok (.aload_n 2, 1) := by decide +kernel
theorem dL_steps_1 : decode cL_steps 1 = .ok (.iconst 0, 1) := by decide +kernel
theorem dL_steps_2 : decode cL_steps 2 = .ok (.aload_n 0, 1) := by decide +kernel
theorem dL_steps_3 : decode cL_steps 3 = .ok (.iload_n 1, 1) := by decide +kernel
theorem dL_steps_4 : decode cL_steps 4 = .ok (.invokevirtual 40, 3) := by decide +kernel
theorem dL_steps_7 : decode cL_steps 7 = .ok (.i2l, 1) := by decide +kernel
theorem dL_steps_8 : decode cL_steps 8 = .ok (.lastore, 1) := by decide +kernel
theorem dL_steps_9 : decode cL_steps 9 = .ok (.goto 6, 3) := by decide +kernel
theorem dL_steps_12 : decode cL_steps 12 = .ok (.astore_n 3, 1) := by decide +kernel
theorem dL_steps_13 : decode cL_steps 13 = .ok (.iconst 1, 1) := by decide +kernel
theorem dL_steps_14 : decode cL_steps 14 = .ok (.ireturn, 1) := by decide +kernel
theorem dL_steps_15 : decode cL_steps 15 = .ok (.iconst 0, 1) := by decide +kernel
theorem dL_steps_16 : decode cL_steps 16 = .ok (.ireturn, 1) := by decide +kernel
set_option maxRecDepth 20000 in
theorem ggL_slack_X5_slack : GoodIn wsL_slack wsX5_slack := goodIn_ca (goodIn_r _ [6, 7, 8, 9, 10, 11, 12, 13, 14, 15, 16, 17, 18, 19, 20] (by decide +kernel) (by decide +kernel)) (goodIn_sub (fun _ h => List.mem_cons_of_mem _ (List.mem_append_right _ h)) (by decide +kernel))
set_option maxRecDepth 20000 in
theorem gL_slack_X5_slack : GoodIn wsL_slack (wsV RL 43 RX5 yX5_slack wsX5_slack) := goodIn_app (goodIn_of _ (by decide +kernel)) ggL_slack_X5_slack
theorem dL_slack_0 : decode cL_slack 0 = .ok (.aload_n 2, 1) := by decide +kernel
theorem dL_slack_1 : decode cL_slack 1 = .ok (.iconst 0, 1) := by decide +kernel
theorem dL_slack_2 : decode cL_slack 2 = .ok (.aload_n 0, 1) := by decide +kernel
theorem dL_slack_3 : decode cL_slack 3 = .ok (.iload_n 1, 1) := by decide +kernel
theorem dL_slack_4 : decode cL_slack 4 = .ok (.invokevirtual 43, 3) := by decide +kernel
theorem dL_slack_7 : decode cL_slack 7 = .ok (.i2l, 1) := by decide +kernel
theorem dL_slack_8 : decode cL_slack 8 = .ok (.lastore, 1) := by decide +kernel
theorem dL_slack_9 : decode cL_slack 9 = .ok (.goto 6, 3) := by decide +kernel
theorem dL_slack_12 : decode cL_slack 12 = .ok (.astore_n 3, 1) := by decide +kernel
theorem dL_slack_13 : decode cL_slack 13 = .ok (.iconst 1, 1) := by decide +kernel
theorem dL_slack_14 : decode cL_slack 14 = .ok (.ireturn, 1) := by decide +kernel
theorem dL_slack_15 : decode cL_slack 15 = .ok (.iconst 0, 1) := by decide +kernel
theorem dL_slack_16 : decode cL_slack 16 = .ok (.ireturn, 1) := by decide +kernel
set_option maxRecDepth 20000 in
theorem ggL_branches_X5_branches : GoodIn wsL_branches wsX5_branches := goodIn_ca (goodIn_r _ [6, 7, 8, 9, 10, 11, 12, 13, 14, 15, 16, 17, 18, 19, 20, 21, 22, 23, 24, 25, 26, 27, 28, 29, 30, 31, 32, 33, 34, 35, 36, 37, 38, 39, 40, 41, 42, 43, 44, 45, 46, 47, 48, 49, 50, 51, 52, 53, 54, 55, 56, 57, 58, 59, 60, 61, 62, 63, 64, 65, 66, 67, 68, 69, 70, 71, 72, 73, 74, 75, 76, 77, 78, 79, 80, 81, 82, 83, 84, 85, 86, 87, 88, 89, 90, 91, 92, 93, 94, 95, 5, 96, 97, 98, 99, 100, 101, 102, 103, 104, 105, 106, 107, 108, 109, 110, 111, 112, 113, 114, 115, 116, 117, 118, 119, 120, 121, 122, 123, 124, 125, 126] (by decide +kernel) (by decide +kernel)) (goodIn_sub (fun _ h => List.mem_cons_of_mem _ (List.mem_append_right _ h)) (by decide +kernel))
set_option maxRecDepth 20000 in
theorem gL_branches_X5_branches : GoodIn wsL_branches (wsV RL 46 RX5 yX5_branches wsX5_branches) := goodIn_app (goodIn_of _ (by decide +kernel)) ggL_branches_X5_branches
theorem dL_branches_0 : decode cL_branches 0 = .ok (.aload_n 1, 1) := by decide +kernel
theorem dL_branches_1 : decode cL_branches 1 = .ok (.iconst 0, 1) := by decide +kernel
theorem dL_branches_2 : decode cL_branches 2 = .ok (.aload_n 0, 1) := by decide +kernel
theorem dL_branches_3 : decode cL_branches 3 = .ok (.invokevirtual 46, 3) := by decide +kernel
theorem dL_branches_6 : decode cL_branches 6 = .ok (.i2l, 1) := by decide +kernel
theorem dL_branches_7 : decode cL_branches 7 = .ok (.lastore, 1) := by decide +kernel
theorem dL_branches_8 : decode cL_branches 8 = .ok (.goto 6, 3) := by decide +kernel
theorem dL_branches_11 : decode cL_branches 11 = .ok (.astore_n 2, 1) := by decide +kernel
theorem dL_branches_12 : decode cL_branches 12 = .ok (.iconst 1, 1) := by decide +kernel
theorem dL_branches_13 : decode cL_branches 13 = .ok (.ireturn, 1) := by decide +kernel
theorem dL_branches_14 : decode cL_branches 14 = .ok (.iconst 0, 1) := by decide +kernel
theorem dL_branches_15 : decode cL_branches 15 = .ok (.ireturn, 1) := by decide +kernel
set_option maxRecDepth 20000 in
theorem ggL_branch_X5_branch : GoodIn wsL_branch wsX5_branch := goodIn_ca (goodIn_ca (goodIn_ca (goodIn_r _ [8, 9, 10, 11, 12, 7, 13, 14, 15, 16, 17, 18, 19, 20, 21, 22, 23, 24, 25, 26, 27, 28, 29, 30, 31, 32, 33, 34, 35, 36, 37, 38, 39, 40, 41, 42, 43, 44, 45, 46, 47, 48, 49, 50, 51, 52, 53, 54, 55, 56, 57, 58, 59, 60, 61, 62, 63, 64, 65, 66, 67, 68, 69, 70, 71, 72, 73, 74, 75, 76, 77, 78, 79, 80, 81, 82, 83, 84, 85, 86, 87, 88, 89, 90, 91, 92, 93, 94, 95, 96, 97, 98, 99, 100, 101, 102, 103, 104, 105, 106, 107, 108, 109, 110, 111, 112, 113, 114, 115, 116, 117, 118, 119, 120, 121, 122, 123, 124, 125, 126, 127, 128, 129, 130, 131, 132, 133, 134, 135, 136, 137, 138, 139, 140, 141, 142, 143] (by decide +kernel) (by decide +kernel)) (goodIn_sub (fun _ h => List.mem_cons_of_mem _ (List.mem_append_left _ (List.mem_append_left _ (List.mem_append_right _ h)))) (by decide +kernel))) (goodIn_sub (fun _ h => List.mem_cons_of_mem _ (List.mem_append_left _ (List.mem_append_right _ h))) (by decide +kernel))) (goodIn_sub (fun _ h => List.mem_cons_of_mem _ (List.mem_append_right _ h)) (by decide +kernel))
set_option maxRecDepth 20000 in
theorem gL_branch_X5_branch : GoodIn wsL_branch (wsV RL 50 RX5 yX5_branch wsX5_branch) := goodIn_app (goodIn_of _ (by decide +kernel)) ggL_branch_X5_branch
theorem dL_branch_0 : decode cL_branch 0 = .ok (.aload 4, 2) := by decide +kernel
theorem dL_branch_2 : decode cL_branch 2 = .ok (.iconst 0, 1) := by decide +kernel
theorem dL_branch_3 : decode cL_branch 3 = .ok (.aload_n 0, 1) := by decide +kernel
theorem dL_branch_4 : decode cL_branch 4 = .ok (.iload_n 1, 1) := by decide +kernel
theorem dL_branch_5 : decode cL_branch 5 = .ok (.iload_n 2, 1) := by decide +kernel
theorem dL_branch_6 : decode cL_branch 6 = .ok (.iload_n 3, 1) := by decide +kernel
theorem dL_branch_7 : decode cL_branch 7 = .ok (.invokevirtual 50, 3) := by decide +kernel
theorem dL_branch_10 : decode cL_branch 10 = .ok (.i2l, 1) := by decide +kernel
theorem dL_branch_11 : decode cL_branch 11 = .ok (.lastore, 1) := by decide +kernel
theorem dL_branch_12 : decode cL_branch 12 = .ok (.goto 15, 3) := by decide +kernel
theorem dL_branch_15 : decode cL_branch 15 = .ok (.astore 5, 2) := by decide +kernel
theorem dL_branch_17 : decode cL_branch 17 = .ok (.iconst 1, 1) := by decide +kernel
theorem dL_branch_18 : decode cL_branch 18 = .ok (.ireturn, 1) := by decide +kernel
theorem dL_branch_19 : decode cL_branch 19 = .ok (.astore 5, 2) := by decide +kernel
theorem dL_branch_21 : decode cL_branch 21 = .ok (.iconst 2, 1) := by decide +kernel
theorem dL_branch_22 : decode cL_branch 22 = .ok (.ireturn, 1) := by decide +kernel
theorem dL_branch_23 : decode cL_branch 23 = .ok (.astore 5, 2) := by decide +kernel
theorem dL_branch_25 : decode cL_branch 25 = .ok (.iconst 3, 1) := by decide +kernel
theorem dL_branch_26 : decode cL_branch 26 = .ok (.ireturn, 1) := by decide +kernel
theorem dL_branch_27 : decode cL_branch 27 = .ok (.iconst 0, 1) := by decide +kernel
theorem dL_branch_28 : decode cL_branch 28 = .ok (.ireturn, 1) := by decide +kernel
set_option maxRecDepth 20000 in
theorem ggL_take_X5_take : GoodIn wsL_take wsX5_take := goodIn_ca (goodIn_ca (goodIn_ca (goodIn_r _ [8, 9, 10, 11, 12, 13, 7, 14, 15, 16, 17, 18, 19, 20, 21, 22, 23, 24, 25, 26, 27, 28, 29, 30, 31, 32, 33, 34, 35, 36, 37, 38, 39, 40, 41, 42, 43, 44, 45, 46, 47, 48, 49, 50, 51, 52, 53, 54, 55, 56, 57, 58, 59, 60, 61, 62, 63, 64, 65, 66, 67, 68, 69, 70, 71, 72, 73, 74, 75, 76, 77, 78, 79, 80, 81, 82, 83, 84, 85, 86, 87, 88, 89, 90, 91, 92, 93, 94, 95, 96, 97, 98, 99, 100, 101, 102, 103, 104, 105, 106, 107, 108, 109, 110, 111, 112, 113, 114, 115, 116, 117, 118, 119, 120, 121, 122, 123, 124, 125, 126, 127, 128, 129, 130, 131, 132, 133, 134, 135, 136, 137, 138, 139, 140, 141, 142, 143, 144, 145, 146, 147, 148, 149, 150, 151, 152, 153, 154, 155, 156, 157, 158, 159, 160, 161, 162, 163, 164, 165, 166] (by decide +kernel) (by decide +kernel)) (goodIn_sub (fun _ h => List.mem_cons_of_mem _ (List.mem_append_left _ (List.mem_append_left _ (List.mem_append_right _ h)))) (by decide +kernel))) (goodIn_sub (fun _ h => List.mem_cons_of_mem _ (List.mem_append_left _ (List.mem_append_right _ h))) (by decide +kernel))) (goodIn_sub (fun _ h => List.mem_cons_of_mem _ (List.mem_append_right _ h)) (by decide +kernel))
set_option maxRecDepth 20000 in
theorem gL_take_X5_take : GoodIn wsL_take (wsV RL 54 RX5 yX5_take wsX5_take) := goodIn_app (goodIn_of _ (by decide +kernel)) ggL_take_X5_take
theorem dL_take_0 : decode cL_take 0 = .ok (.aload_n 3, 1) := by decide +kernel
theorem dL_take_1 : decode cL_take 1 = .ok (.iconst 0, 1) := by decide +kernel
theorem dL_take_2 : decode cL_take 2 = .ok (.aload_n 0, 1) := by decide +kernel
theorem dL_take_3 : decode cL_take 3 = .ok (.iload_n 1, 1) := by decide +kernel
theorem dL_take_4 : decode cL_take 4 = .ok (.iload_n 2, 1) := by decide +kernel
theorem dL_take_5 : decode cL_take 5 = .ok (.invokevirtual 54, 3) := by decide +kernel
theorem dL_take_8 : decode cL_take 8 = .ok (.lastore, 1) := by decide +kernel
theorem dL_take_9 : decode cL_take 9 = .ok (.goto 15, 3) := by decide +kernel
theorem dL_take_12 : decode cL_take 12 = .ok (.astore 4, 2) := by decide +kernel
theorem dL_take_14 : decode cL_take 14 = .ok (.iconst 1, 1) := by decide +kernel
theorem dL_take_15 : decode cL_take 15 = .ok (.ireturn, 1) := by decide +kernel
theorem dL_take_16 : decode cL_take 16 = .ok (.astore 4, 2) := by decide +kernel
theorem dL_take_18 : decode cL_take 18 = .ok (.iconst 2, 1) := by decide +kernel
theorem dL_take_19 : decode cL_take 19 = .ok (.ireturn, 1) := by decide +kernel
theorem dL_take_20 : decode cL_take 20 = .ok (.astore 4, 2) := by decide +kernel
theorem dL_take_22 : decode cL_take 22 = .ok (.iconst 3, 1) := by decide +kernel
theorem dL_take_23 : decode cL_take 23 = .ok (.ireturn, 1) := by decide +kernel
theorem dL_take_24 : decode cL_take 24 = .ok (.iconst 0, 1) := by decide +kernel
theorem dL_take_25 : decode cL_take 25 = .ok (.ireturn, 1) := by decide +kernel
set_option maxRecDepth 20000 in
theorem ggL_law_X5_init : GoodIn wsL_law wsX5_init := goodIn_r _ [9, 10, 11, 12, 13, 14, 15, 16, 17, 18, 19, 20, 21, 22, 23, 24, 25, 26, 27, 28, 29, 30, 31, 32, 33, 34, 35, 36, 37, 38, 39, 40, 41, 42, 43, 44, 45, 46, 47, 48, 49, 50, 51, 52, 53, 54, 55, 56, 57, 58, 59, 60, 61, 62, 63, 6, 64, 65, 519, 520, 521, 522, 523, 524, 493, 494, 495, 496, 497, 498, 499, 525, 526, 527, 528, 529, 530, 531, 532, 533, 534, 535, 536, 537, 538, 539, 540] (by decide +kernel) (by decide +kernel)
set_option maxRecDepth 20000 in
theorem gL_law_X5_init : GoodIn wsL_law (wsX5_init) := ggL_law_X5_init
set_option maxRecDepth 20000 in
theorem ggL_law_X6_init : GoodIn wsL_law wsX6_init := goodIn_r _ [68, 69, 11, 12, 30, 70, 71, 72, 73, 74, 75, 76, 77, 78, 6, 79, 80, 500, 501, 502, 503, 504, 505, 506, 507, 508, 509, 510, 511, 512, 513, 514, 515, 516, 517, 518] (by decide +kernel) (by decide +kernel)
set_option maxRecDepth 20000 in
theorem gL_law_X6_init : GoodIn wsL_law (wsX6_init) := ggL_law_X6_init
set_option maxRecDepth 20000 in
theorem ggL_law_L_joint : GoodIn wsL_law wsL_joint := goodIn_ca (goodIn_ca (goodIn_r _ [84, 85, 86, 87, 88, 89, 2, 90, 91, 92, 93, 94, 16, 95, 15, 96, 97, 98, 99, 100, 101, 36, 37, 38, 39, 40, 102, 103, 104, 105, 106, 107, 108, 109, 110, 111, 112, 493, 494, 495, 496, 497, 498, 499, 519, 520, 521, 522, 523, 524] (by decide +kernel) (by decide +kernel)) (goodIn_sub (fun _ h => List.mem_append_left _ (List.mem_append_left _ (List.mem_append_right _ h))) (by decide +kernel))) (goodIn_sub (fun _ h => List.mem_append_left _ (List.mem_append_right _ h)) (by decide +kernel))
set_option maxRecDepth 20000 in
theorem gL_law_L_joint : GoodIn wsL_law (va_wsS RL 61 yL_joint wsL_joint) := goodIn_app (goodIn_of _ (by decide +kernel)) ggL_law_L_joint
set_option maxRecDepth 20000 in
theorem ggL_law_X6_joint : GoodIn wsL_law wsX6_joint := goodIn_r _ [116, 117, 118, 70, 71, 72, 73, 74, 119, 120, 5, 121, 122, 123, 124, 125, 126, 127, 500, 501, 502, 503, 504, 505, 506, 507, 508, 509, 510, 511, 512, 513, 514, 515, 516, 517, 518] (by decide +kernel) (by decide +kernel)
set_option maxRecDepth 20000 in
theorem gL_law_X6_joint : GoodIn wsL_law (wsV RL 66 RX6 yX6_joint wsX6_joint) := goodIn_app (goodIn_of _ (by decide +kernel)) ggL_law_X6_joint
set_option maxRecDepth 20000 in
theorem ggL_law_X6_thrown : GoodIn wsL_law wsX6_thrown := goodIn_r _ [131, 118, 500, 501, 502, 503, 504, 505, 506, 507, 508, 509, 510, 511, 512, 513, 514, 515, 516, 517, 518] (by decide +kernel) (by decide +kernel)
set_option maxRecDepth 20000 in
theorem gL_law_X6_thrown : GoodIn wsL_law (wsV RL 67 RX6 yX6_thrown wsX6_thrown) := goodIn_app (goodIn_of _ (by decide +kernel)) ggL_law_X6_thrown
set_option maxRecDepth 20000 in
theorem ggL_law_L_set : GoodIn wsL_law wsL_set := goodIn_ca (goodIn_ca (goodIn_r _ [134, 135, 85, 136, 137, 138, 2, 139, 91, 92, 16, 140, 141, 142, 143, 144, 145, 493, 494, 495, 496, 497, 498, 499, 519, 520, 521, 522, 523, 524] (by decide +kernel) (by decide +kernel)) (goodIn_sub (fun _ h => List.mem_append_left _ (List.mem_append_left _ (List.mem_append_right _ h))) (by decide +kernel))) (goodIn_sub (fun _ h => List.mem_append_right _ h) (by decide +kernel))
set_option maxRecDepth 20000 in
theorem gL_law_L_set : GoodIn wsL_law (va_wsS RL 70 yL_set wsL_set) := goodIn_app (goodIn_of _ (by decide +kernel)) ggL_law_L_set
set_option maxRecDepth 20000 in
theorem ggL_law_X6_set : GoodIn wsL_law wsX6_set := goodIn_r _ [149, 72, 73, 118, 74, 150, 151, 152, 5, 153, 117, 119, 120, 121, 500, 501, 502, 503, 504, 505, 506, 507, 508, 509, 510, 511, 512, 513, 514, 515, 516, 517, 518] (by decide +kernel) (by decide +kernel)
set_option maxRecDepth 20000 in
theorem gL_law_X6_set : GoodIn wsL_law (wsV RL 73 RX6 yX6_set wsX6_set) := goodIn_app (goodIn_of _ (by decide +kernel)) ggL_law_X6_set
set_option maxRecDepth 20000 in
theorem ggL_law_L_value : GoodIn wsL_law wsL_value := goodIn_ca (goodIn_r _ [156, 135, 157, 158, 159, 2, 160, 16, 140, 141, 142, 143, 144, 145, 493, 494, 495, 496, 497, 498, 499, 519, 520, 521, 522, 523, 524] (by decide +kernel) (by decide +kernel)) (goodIn_sub (fun _ h => List.mem_append_right _ h) (by decide +kernel))
set_option maxRecDepth 20000 in
theorem gL_law_L_value : GoodIn wsL_law (va_wsS RL 74 yL_value wsL_value) := goodIn_app (goodIn_of _ (by decide +kernel)) ggL_law_L_value
set_option maxRecDepth 20000 in
theorem ggL_law_X6_value : GoodIn wsL_law wsX6_value := goodIn_r _ [164, 118, 74, 150, 151, 152, 5, 153, 117, 119, 120, 121, 500, 501, 502, 503, 504, 505, 506, 507, 508, 509, 510, 511, 512, 513, 514, 515, 516, 517, 518] (by decide +kernel) (by decide +kernel)
