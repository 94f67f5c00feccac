theorem dX5_take_20 : decode cX5_take 20 = .ok (.getfield 10, 3) := by decide +kernel
theorem dX5_take_23 : decode cX5_take 23 = .ok (.getfield 83, 3) := by decide +kernel
theorem dX5_take_26 : decode cX5_take 26 = .ok (.iload_n 3, 1) := by decide +kernel
theorem dX5_take_27 : decode cX5_take 27 = .ok (.aload_n 0, 1) := by decide +kernel
theorem dX5_take_28 : decode cX5_take 28 = .ok (.getfield 36, 3) := by decide +kernel
theorem dX5_take_31 : decode cX5_take 31 = .ok (.getfield 162, 3) := by decide +kernel
theorem dX5_take_34 : decode cX5_take 34 = .ok (.iload_n 1, 1) := by decide +kernel
theorem dX5_take_35 : decode cX5_take 35 = .ok (.iload_n 3, 1) := by decide +kernel
theorem dX5_take_36 : decode cX5_take 36 = .ok (.invokevirtual 174, 3) := by decide +kernel
theorem dX5_take_39 : decode cX5_take 39 = .ok (.iastore, 1) := by decide +kernel
theorem dX5_take_40 : decode cX5_take 40 = .ok (.iinc 3 1, 3) := by decide +kernel
theorem dX5_take_43 : decode cX5_take 43 = .ok (.goto (-35), 3) := by decide +kernel
theorem dX5_take_46 : decode cX5_take 46 = .ok (.aload_n 0, 1) := by decide +kernel
theorem dX5_take_47 : decode cX5_take 47 = .ok (.invokevirtual 132, 3) := by decide +kernel
theorem dX5_take_50 : decode cX5_take 50 = .ok (.lreturn, 1) := by decide +kernel
theorem dX5_checkJoint_0 : decode cX5_checkJoint 0 = .ok (.iload_n 1, 1) := by decide +kernel
theorem dX5_checkJoint_1 : decode cX5_checkJoint 1 = .ok (.ifCond .lt 14, 3) := by decide +kernel
theorem dX5_checkJoint_4 : decode cX5_checkJoint 4 = .ok (.iload_n 1, 1) := by decide +kernel
theorem dX5_checkJoint_5 : decode cX5_checkJoint 5 = .ok (.aload_n 0, 1) := by decide +kernel
theorem dX5_checkJoint_6 : decode cX5_checkJoint 6 = .ok (.getfield 10, 3) := by decide +kernel
theorem dX5_checkJoint_9 : decode cX5_checkJoint 9 = .ok (.getfield 108, 3) := by decide +kernel
theorem dX5_checkJoint_12 : decode cX5_checkJoint 12 = .ok (.if_icmp .lt 13, 3) := by decide +kernel
theorem dX5_checkJoint_15 : decode cX5_checkJoint 15 = .ok (.new 178, 3) := by decide +kernel
theorem dX5_checkJoint_18 : decode cX5_checkJoint 18 = .ok (.dup, 1) := by decide +kernel
theorem dX5_checkJoint_19 : decode cX5_checkJoint 19 = .ok (.ldc 180, 2) := by decide +kernel
theorem dX5_checkJoint_21 : decode cX5_checkJoint 21 = .ok (.invokespecial 182, 3) := by decide +kernel
theorem dX5_checkJoint_24 : decode cX5_checkJoint 24 = .ok (.athrow, 1) := by decide +kernel
theorem dX5_checkJoint_25 : decode cX5_checkJoint 25 = .ok (.return_, 1) := by decide +kernel
theorem dX5_checkTold_0 : decode cX5_checkTold 0 = .ok (.iload_n 0, 1) := by decide +kernel
theorem dX5_checkTold_1 : decode cX5_checkTold 1 = .ok (.ifCond .lt 8, 3) := by decide +kernel
theorem dX5_checkTold_4 : decode cX5_checkTold 4 = .ok (.iload_n 0, 1) := by decide +kernel
theorem dX5_checkTold_5 : decode cX5_checkTold 5 = .ok (.iload_n 1, 1) := by decide +kernel
theorem dX5_checkTold_6 : decode cX5_checkTold 6 = .ok (.if_icmp .le 13, 3) := by decide +kernel
theorem dX5_checkTold_9 : decode cX5_checkTold 9 = .ok (.new 47, 3) := by decide +kernel
theorem dX5_checkTold_12 : decode cX5_checkTold 12 = .ok (.dup, 1) := by decide +kernel
theorem dX5_checkTold_13 : decode cX5_checkTold 13 = .ok (.ldc 183, 2) := by decide +kernel
theorem dX5_checkTold_15 : decode cX5_checkTold 15 = .ok (.invokespecial 51, 3) := by decide +kernel
theorem dX5_checkTold_18 : decode cX5_checkTold 18 = .ok (.athrow, 1) := by decide +kernel
theorem dX5_checkTold_19 : decode cX5_checkTold 19 = .ok (.return_, 1) := by decide +kernel
set_option maxRecDepth 20000 in
theorem ggX5_farNow_X4_follow : GoodIn wsX5_farNow wsX4_follow := goodIn_r _ [7, 8, 9, 10, 5, 11, 12, 13, 14, 15, 16, 17, 18, 19, 20, 21, 22, 23, 24, 25, 26, 27, 28, 29, 30, 31, 32, 33, 34, 35, 36, 37, 38, 55, 56, 57, 58, 59, 60, 52, 53, 54] (by decide +kernel) (by decide +kernel)
set_option maxRecDepth 20000 in
theorem gX5_farNow_X4_follow_n90 : GoodIn wsX5_farNow (wsX4_follow) := ggX5_farNow_X4_follow
set_option maxRecDepth 20000 in
theorem ggX5_farNow_X1_farFrom : GoodIn wsX5_farNow wsX1_farFrom := goodIn_r _ [42, 43, 44, 61, 62, 63] (by decide +kernel) (by decide +kernel)
set_option maxRecDepth 20000 in
theorem gX5_farNow_X1_farFrom_n187 : GoodIn wsX5_farNow (wsX1_farFrom) := ggX5_farNow_X1_farFrom
theorem dX5_farNow_0 : decode cX5_farNow 0 = .ok (.aload_n 0, 1) := by decide +kernel
theorem dX5_farNow_1 : decode cX5_farNow 1 = .ok (.getfield 26, 3) := by decide +kernel
theorem dX5_farNow_4 : decode cX5_farNow 4 = .ok (.aload_n 0, 1) := by decide +kernel
theorem dX5_farNow_5 : decode cX5_farNow 5 = .ok (.getfield 10, 3) := by decide +kernel
theorem dX5_farNow_8 : decode cX5_farNow 8 = .ok (.invokevirtual 90, 3) := by decide +kernel
theorem dX5_farNow_11 : decode cX5_farNow 11 = .ok (.aload_n 0, 1) := by decide +kernel
theorem dX5_farNow_12 : decode cX5_farNow 12 = .ok (.getfield 19, 3) := by decide +kernel
theorem dX5_farNow_15 : decode cX5_farNow 15 = .ok (.aload_n 0, 1) := by decide +kernel
theorem dX5_farNow_16 : decode cX5_farNow 16 = .ok (.getfield 26, 3) := by decide +kernel
theorem dX5_farNow_19 : decode cX5_farNow 19 = .ok (.getfield 185, 3) := by decide +kernel
theorem dX5_farNow_22 : decode cX5_farNow 22 = .ok (.aload_n 0, 1) := by decide +kernel
theorem dX5_farNow_23 : decode cX5_farNow 23 = .ok (.getfield 26, 3) := by decide +kernel
theorem dX5_farNow_26 : decode cX5_farNow 26 = .ok (.getfield 186, 3) := by decide +kernel
theorem dX5_farNow_29 : decode cX5_farNow 29 = .ok (.invokevirtual 187, 3) := by decide +kernel
theorem dX5_farNow_32 : decode cX5_farNow 32 = .ok (.lreturn, 1) := by decide +kernel
set_option maxRecDepth 20000 in
theorem ggX5_farWith_X4_followWith : GoodIn wsX5_farWith wsX4_followWith := goodIn_r _ [7, 8, 9, 10, 11, 5, 12, 13, 14, 15, 16, 17, 18, 19, 20, 21, 22, 23, 24, 25, 26, 27, 28, 29, 30, 31, 32, 33, 34, 51, 52, 53, 54, 55, 56, 48, 49, 50] (by decide +kernel) (by decide +kernel)
set_option maxRecDepth 20000 in
theorem gX5_farWith_X4_followWith_n101 : GoodIn wsX5_farWith (wsX4_followWith) := ggX5_farWith_X4_followWith
set_option maxRecDepth 20000 in
theorem ggX5_farWith_X1_farFrom : GoodIn wsX5_farWith wsX1_farFrom := goodIn_r _ [38, 39, 40, 57, 58, 59] (by decide +kernel) (by decide +kernel)
set_option maxRecDepth 20000 in
theorem gX5_farWith_X1_farFrom_n187 : GoodIn wsX5_farWith (wsX1_farFrom) := ggX5_farWith_X1_farFrom
theorem dX5_farWith_0 : decode cX5_farWith 0 = .ok (.aload_n 0, 1) := by decide +kernel
theorem dX5_farWith_1 : decode cX5_farWith 1 = .ok (.getfield 30, 3) := by decide +kernel
theorem dX5_farWith_4 : decode cX5_farWith 4 = .ok (.aload_n 0, 1) := by decide +kernel
theorem dX5_farWith_5 : decode cX5_farWith 5 = .ok (.getfield 10, 3) := by decide +kernel
theorem dX5_farWith_8 : decode cX5_farWith 8 = .ok (.iload_n 1, 1) := by decide +kernel
theorem dX5_farWith_9 : decode cX5_farWith 9 = .ok (.iload_n 2, 1) := by decide +kernel
theorem dX5_farWith_10 : decode cX5_farWith 10 = .ok (.invokevirtual 101, 3) := by decide +kernel
theorem dX5_farWith_13 : decode cX5_farWith 13 = .ok (.aload_n 0, 1) := by decide +kernel
theorem dX5_farWith_14 : decode cX5_farWith 14 = .ok (.getfield 19, 3) := by decide +kernel
theorem dX5_farWith_17 : decode cX5_farWith 17 = .ok (.aload_n 0, 1) := by decide +kernel
theorem dX5_farWith_18 : decode cX5_farWith 18 = .ok (.getfield 30, 3) := by decide +kernel
theorem dX5_farWith_21 : decode cX5_farWith 21 = .ok (.getfield 185, 3) := by decide +kernel
theorem dX5_farWith_24 : decode cX5_farWith 24 = .ok (.aload_n 0, 1) := by decide +kernel
theorem dX5_farWith_25 : decode cX5_farWith 25 = .ok (.getfield 30, 3) := by decide +kernel
theorem dX5_farWith_28 : decode cX5_farWith 28 = .ok (.getfield 186, 3) := by decide +kernel
theorem dX5_farWith_31 : decode cX5_farWith 31 = .ok (.invokevirtual 187, 3) := by decide +kernel
theorem dX5_farWith_34 : decode cX5_farWith 34 = .ok (.lreturn, 1) := by decide +kernel
set_option maxRecDepth 20000 in
theorem ggX5_findMoves_X4_follow : GoodIn wsX5_findMoves wsX4_follow := goodIn_r _ [9, 10, 11, 12, 7, 13, 14, 15, 16, 17, 18, 19, 20, 21, 22, 23, 24, 25, 26, 27, 28, 29, 30, 31, 32, 33, 34, 35, 36, 37, 38, 39, 40, 48, 49, 50, 51, 52, 53, 54, 55, 56] (by decide +kernel) (by decide +kernel)
set_option maxRecDepth 20000 in
theorem gX5_findMoves_X4_follow_n90 : GoodIn wsX5_findMoves (wsX4_follow) := ggX5_findMoves_X4_follow
set_option maxRecDepth 20000 in
theorem ggX5_findMoves_X4_followWith : GoodIn wsX5_findMoves wsX4_followWith := goodIn_r _ [13, 14, 15, 16, 17, 7, 18, 19, 20, 21, 22, 23, 24, 25, 26, 27, 28, 29, 30, 31, 32, 33, 34, 35, 36, 37, 38, 39, 40, 48, 49, 50, 51, 52, 53, 54, 55, 56] (by decide +kernel) (by decide +kernel)
set_option maxRecDepth 20000 in
theorem gX5_findMoves_X4_followWith_n101 : GoodIn wsX5_findMoves (wsX4_followWith) := ggX5_findMoves_X4_followWith
theorem dX5_findMoves_0 : decode cX5_findMoves 0 = .ok (.aload_n 0, 1) := by decide +kernel
theorem dX5_findMoves_1 : decode cX5_findMoves 1 = .ok (.getfield 26, 3) := by decide +kernel
theorem dX5_findMoves_4 : decode cX5_findMoves 4 = .ok (.aload_n 0, 1) := by decide +kernel
theorem dX5_findMoves_5 : decode cX5_findMoves 5 = .ok (.getfield 10, 3) := by decide +kernel
theorem dX5_findMoves_8 : decode cX5_findMoves 8 = .ok (.invokevirtual 90, 3) := by decide +kernel
theorem dX5_findMoves_11 : decode cX5_findMoves 11 = .ok (.iconst 0, 1) := by decide +kernel
theorem dX5_findMoves_12 : decode cX5_findMoves 12 = .ok (.istore_n 1, 1) := by decide +kernel
theorem dX5_findMoves_13 : decode cX5_findMoves 13 = .ok (.iload_n 1, 1) := by decide +kernel
theorem dX5_findMoves_14 : decode cX5_findMoves 14 = .ok (.aload_n 0, 1) := by decide +kernel
theorem dX5_findMoves_15 : decode cX5_findMoves 15 = .ok (.getfield 10, 3) := by decide +kernel
theorem dX5_findMoves_18 : decode cX5_findMoves 18 = .ok (.getfield 108, 3) := by decide +kernel
theorem dX5_findMoves_21 : decode cX5_findMoves 21 = .ok (.if_icmp .ge 74, 3) := by decide +kernel
theorem dX5_findMoves_24 : decode cX5_findMoves 24 = .ok (.aload_n 0, 1) := by decide +kernel
theorem dX5_findMoves_25 : decode cX5_findMoves 25 = .ok (.getfield 30, 3) := by decide +kernel
theorem dX5_findMoves_28 : decode cX5_findMoves 28 = .ok (.aload_n 0, 1) := by decide +kernel
theorem dX5_findMoves_29 : decode cX5_findMoves 29 = .ok (.getfield 10, 3) := by decide +kernel
theorem dX5_findMoves_32 : decode cX5_findMoves 32 = .ok (.iload_n 1, 1) := by decide +kernel
theorem dX5_findMoves_33 : decode cX5_findMoves 33 = .ok (.aload_n 0, 1) := by decide +kernel
theorem dX5_findMoves_34 : decode cX5_findMoves 34 = .ok (.getfield 10, 3) := by decide +kernel
theorem dX5_findMoves_37 : decode cX5_findMoves 37 = .ok (.getfield 83, 3) := by decide +kernel
theorem dX5_findMoves_40 : decode cX5_findMoves 40 = .ok (.iload_n 1, 1) := by decide +kernel
theorem dX5_findMoves_41 : decode cX5_findMoves 41 = .ok (.iaload, 1) := by decide +kernel
theorem dX5_findMoves_42 : decode cX5_findMoves 42 = .ok (.iconst 1, 1) := by decide +kernel
theorem dX5_findMoves_43 : decode cX5_findMoves 43 = .ok (.iadd, 1) := by decide +kernel
theorem dX5_findMoves_44 : decode cX5_findMoves 44 = .ok (.invokevirtual 101, 3) := by decide +kernel
theorem dX5_findMoves_47 : decode cX5_findMoves 47 = .ok (.aload_n 0, 1) := by decide +kernel
theorem dX5_findMoves_48 : decode cX5_findMoves 48 = .ok (.getfield 40, 3) := by decide +kernel
theorem dX5_findMoves_51 : decode cX5_findMoves 51 = .ok (.iload_n 1, 1) := by decide +kernel
theorem dX5_findMoves_52 : decode cX5_findMoves 52 = .ok (.aload_n 0, 1) := by decide +kernel
theorem dX5_findMoves_53 : decode cX5_findMoves 53 = .ok (.getfield 30, 3) := by decide +kernel
theorem dX5_findMoves_56 : decode cX5_findMoves 56 = .ok (.getfield 185, 3) := by decide +kernel
theorem dX5_findMoves_59 : decode cX5_findMoves 59 = .ok (.aload_n 0, 1) := by decide +kernel
theorem dX5_findMoves_60 : decode cX5_findMoves 60 = .ok (.getfield 26, 3) := by decide +kernel
theorem dX5_findMoves_63 : decode cX5_findMoves 63 = .ok (.getfield 185, 3) := by decide +kernel
theorem dX5_findMoves_66 : decode cX5_findMoves 66 = .ok (.isub, 1) := by decide +kernel
theorem dX5_findMoves_67 : decode cX5_findMoves 67 = .ok (.iastore, 1) := by decide +kernel
theorem dX5_findMoves_68 : decode cX5_findMoves 68 = .ok (.aload_n 0, 1) := by decide +kernel
theorem dX5_findMoves_69 : decode cX5_findMoves 69 = .ok (.getfield 44, 3) := by decide +kernel
theorem dX5_findMoves_72 : decode cX5_findMoves 72 = .ok (.iload_n 1, 1) := by decide +kernel
theorem dX5_findMoves_73 : decode cX5_findMoves 73 = .ok (.aload_n 0, 1) := by decide +kernel
theorem dX5_findMoves_74 : decode cX5_findMoves 74 = .ok (.getfield 30, 3) := by decide +kernel
theorem dX5_findMoves_77 : decode cX5_findMoves 77 = .ok (.getfield 186, 3) := by decide +kernel
theorem dX5_findMoves_80 : decode cX5_findMoves 80 = .ok (.aload_n 0, 1) := by decide +kernel
theorem dX5_findMoves_81 : decode cX5_findMoves 81 = .ok (.getfield 26, 3) := by decide +kernel
theorem dX5_findMoves_84 : decode cX5_findMoves 84 = .ok (.getfield 186, 3) := by decide +kernel
theorem dX5_findMoves_87 : decode cX5_findMoves 87 = .ok (.isub, 1) := by decide +kernel
theorem dX5_findMoves_88 : decode cX5_findMoves 88 = .ok (.iastore, 1) := by decide +kernel
theorem dX5_findMoves_89 : decode cX5_findMoves 89 = .ok (.iinc 1 1, 3) := by decide +kernel
theorem dX5_findMoves_92 : decode cX5_findMoves 92 = .ok (.goto (-79), 3) := by decide +kernel
theorem dX5_findMoves_95 : decode cX5_findMoves 95 = .ok (.return_, 1) := by decide +kernel
set_option maxRecDepth 20000 in
theorem ggX5_stepped_X5_farNow : GoodIn wsX5_stepped wsX5_farNow := goodIn_r _ [6, 7, 1, 8, 9, 10, 11, 12, 13, 14, 15, 16, 17, 18, 19, 20, 21, 22, 23, 24, 25, 26, 27, 28, 29, 30, 31, 32, 33, 34, 35, 36, 37, 5, 38, 39, 40, 41, 42, 43, 44, 45, 46, 47, 48, 66, 67, 68, 69, 70, 71, 72, 79, 80, 81, 73, 74, 75, 76, 77, 78, 82, 83, 84] (by decide +kernel) (by decide +kernel)
set_option maxRecDepth 20000 in
theorem gX5_stepped_X5_farNow : GoodIn wsX5_stepped (wsV RX5 132 RX5 yX5_farNow wsX5_farNow) := goodIn_app (goodIn_of _ (by decide +kernel)) ggX5_stepped_X5_farNow
set_option maxRecDepth 20000 in
theorem ggX5_stepped_X0_held : GoodIn wsX5_stepped wsX0_held := goodIn_r _ [51, 52, 53, 54, 55, 56, 57, 58, 59, 60, 73, 74, 75, 76, 77, 78] (by decide +kernel) (by decide +kernel)
set_option maxRecDepth 20000 in
theorem gX5_stepped_X0_held_n190 : GoodIn wsX5_stepped (wsX0_held) := ggX5_stepped_X0_held
set_option maxRecDepth 20000 in
theorem ggX5_stepped_X5_farWith : GoodIn wsX5_stepped wsX5_farWith := goodIn_r _ [64, 65, 1, 8, 14, 10, 15, 16, 17, 18, 19, 20, 21, 22, 23, 24, 25, 26, 27, 28, 29, 30, 31, 32, 33, 34, 35, 36, 37, 5, 38, 39, 40, 41, 42, 43, 44, 45, 46, 47, 48, 66, 67, 68, 69, 70, 71, 72, 79, 80, 81, 73, 74, 75, 76, 77, 78, 82, 83, 84] (by decide +kernel) (by decide +kernel)
set_option maxRecDepth 20000 in
theorem gX5_stepped_X5_farWith : GoodIn wsX5_stepped (wsV RX5 142 RX5 yX5_farWith wsX5_farWith) := goodIn_app (goodIn_of _ (by decide +kernel)) ggX5_stepped_X5_farWith
theorem dX5_stepped_0 : decode cX5_stepped 0 = .ok (.aload_n 0, 1) := by decide +kernel
theorem dX5_stepped_1 : decode cX5_stepped 1 = .ok (.invokevirtual 132, 3) := by decide +kernel
theorem dX5_stepped_4 : decode cX5_stepped 4 = .ok (.lstore_n 2, 1) := by decide +kernel
theorem dX5_stepped_5 : decode cX5_stepped 5 = .ok (.iconst (-1), 1) := by decide +kernel
theorem dX5_stepped_6 : decode cX5_stepped 6 = .ok (.istore 4, 2) := by decide +kernel
theorem dX5_stepped_8 : decode cX5_stepped 8 = .ok (.iconst 0, 1) := by decide +kernel
theorem dX5_stepped_9 : decode cX5_stepped 9 = .ok (.istore 5, 2) := by decide +kernel
theorem dX5_stepped_11 : decode cX5_stepped 11 = .ok (.iconst 0, 1) := by decide +kernel
theorem dX5_stepped_12 : decode cX5_stepped 12 = .ok (.istore 6, 2) := by decide +kernel
theorem dX5_stepped_14 : decode cX5_stepped 14 = .ok (.iload 6, 2) := by decide +kernel
theorem dX5_stepped_16 : decode cX5_stepped 16 = .ok (.aload_n 0, 1) := by decide +kernel
theorem dX5_stepped_17 : decode cX5_stepped 17 = .ok (.getfield 10, 3) := by decide +kernel
theorem dX5_stepped_20 : decode cX5_stepped 20 = .ok (.getfield 108, 3) := by decide +kernel
theorem dX5_stepped_23 : decode cX5_stepped 23 = .ok (.if_icmp .ge 78, 3) := by decide +kernel
theorem dX5_stepped_26 : decode cX5_stepped 26 = .ok (.iconst (-1), 1) := by decide +kernel
theorem dX5_stepped_27 : decode cX5_stepped 27 = .ok (.istore 7, 2) := by decide +kernel
theorem dX5_stepped_29 : decode cX5_stepped 29 = .ok (.iload 7, 2) := by decide +kernel
theorem dX5_stepped_31 : decode cX5_stepped 31 = .ok (.iconst 1, 1) := by decide +kernel
theorem dX5_stepped_32 : decode cX5_stepped 32 = .ok (.if_icmp .gt 63, 3) := by decide +kernel
theorem dX5_stepped_35 : decode cX5_stepped 35 = .ok (.aload_n 0, 1) := by decide +kernel
theorem dX5_stepped_36 : decode cX5_stepped 36 = .ok (.getfield 10, 3) := by decide +kernel
theorem dX5_stepped_39 : decode cX5_stepped 39 = .ok (.iload 6, 2) := by decide +kernel
theorem dX5_stepped_41 : decode cX5_stepped 41 = .ok (.aload_n 0, 1) := by decide +kernel
theorem dX5_stepped_42 : decode cX5_stepped 42 = .ok (.getfield 10, 3) := by decide +kernel
theorem dX5_stepped_45 : decode cX5_stepped 45 = .ok (.getfield 83, 3) := by decide +kernel
theorem dX5_stepped_48 : decode cX5_stepped 48 = .ok (.iload 6, 2) := by decide +kernel
theorem dX5_stepped_50 : decode cX5_stepped 50 = .ok (.iaload, 1) := by decide +kernel
theorem dX5_stepped_51 : decode cX5_stepped 51 = .ok (.iload 7, 2) := by decide +kernel
theorem dX5_stepped_53 : decode cX5_stepped 53 = .ok (.iload_n 1, 1) := by decide +kernel
theorem dX5_stepped_54 : decode cX5_stepped 54 = .ok (.imul, 1) := by decide +kernel
theorem dX5_stepped_55 : decode cX5_stepped 55 = .ok (.iadd, 1) := by decide +kernel
theorem dX5_stepped_56 : decode cX5_stepped 56 = .ok (.invokevirtual 190, 3) := by decide +kernel
theorem dX5_stepped_59 : decode cX5_stepped 59 = .ok (.istore 8, 2) := by decide +kernel
theorem dX5_stepped_61 : decode cX5_stepped 61 = .ok (.aload_n 0, 1) := by decide +kernel
theorem dX5_stepped_62 : decode cX5_stepped 62 = .ok (.iload 6, 2) := by decide +kernel
theorem dX5_stepped_64 : decode cX5_stepped 64 = .ok (.iload 8, 2) := by decide +kernel
theorem dX5_stepped_66 : decode cX5_stepped 66 = .ok (.invokevirtual 142, 3) := by decide +kernel
theorem dX5_stepped_69 : decode cX5_stepped 69 = .ok (.lstore 9, 2) := by decide +kernel
theorem dX5_stepped_71 : decode cX5_stepped 71 = .ok (.lload 9, 2) := by decide +kernel
theorem dX5_stepped_73 : decode cX5_stepped 73 = .ok (.lload_n 2, 1) := by decide +kernel
theorem dX5_stepped_74 : decode cX5_stepped 74 = .ok (.lcmp, 1) := by decide +kernel
theorem dX5_stepped_75 : decode cX5_stepped 75 = .ok (.ifCond .ge 14, 3) := by decide +kernel
theorem dX5_stepped_78 : decode cX5_stepped 78 = .ok (.lload 9, 2) := by decide +kernel
theorem dX5_stepped_80 : decode cX5_stepped 80 = .ok (.lstore_n 2, 1) := by decide +kernel
theorem dX5_stepped_81 : decode cX5_stepped 81 = .ok (.iload 6, 2) := by decide +kernel
theorem dX5_stepped_83 : decode cX5_stepped 83 = .ok (.istore 4, 2) := by decide +kernel
theorem dX5_stepped_85 : decode cX5_stepped 85 = .ok (.iload 8, 2) := by decide +kernel
theorem dX5_stepped_87 : decode cX5_stepped 87 = .ok (.istore 5, 2) := by decide +kernel
theorem dX5_stepped_89 : decode cX5_stepped 89 = .ok (.iinc 7 2, 3) := by decide +kernel
theorem dX5_stepped_92 : decode cX5_stepped 92 = .ok (.goto (-63), 3) := by decide +kernel
theorem dX5_stepped_95 : decode cX5_stepped 95 = .ok (.iinc 6 1, 3) := by decide +kernel
theorem dX5_stepped_98 : decode cX5_stepped 98 = .ok (.goto (-84), 3) := by decide +kernel
theorem dX5_stepped_101 : decode cX5_stepped 101 = .ok (.iload 4, 2) := by decide +kernel
theorem dX5_stepped_103 : decode cX5_stepped 103 = .ok (.iconst (-1), 1) := by decide +kernel
theorem dX5_stepped_104 : decode cX5_stepped 104 = .ok (.if_icmp .ne 5, 3) := by decide +kernel
theorem dX5_stepped_107 : decode cX5_stepped 107 = .ok (.iconst 0, 1) := by decide +kernel
theorem dX5_stepped_108 : decode cX5_stepped 108 = .ok (.ireturn, 1) := by decide +kernel
theorem dX5_stepped_109 : decode cX5_stepped 109 = .ok (.aload_n 0, 1) := by decide +kernel
theorem dX5_stepped_110 : decode cX5_stepped 110 = .ok (.getfield 10, 3) := by decide +kernel
theorem dX5_stepped_113 : decode cX5_stepped 113 = .ok (.getfield 83, 3) := by decide +kernel
theorem dX5_stepped_116 : decode cX5_stepped 116 = .ok (.iload 4, 2) := by decide +kernel
theorem dX5_stepped_118 : decode cX5_stepped 118 = .ok (.iload 5, 2) := by decide +kernel
theorem dX5_stepped_120 : decode cX5_stepped 120 = .ok (.iastore, 1) := by decide +kernel
theorem dX5_stepped_121 : decode cX5_stepped 121 = .ok (.iconst 1, 1) := by decide +kernel
theorem dX5_stepped_122 : decode cX5_stepped 122 = .ok (.ireturn, 1) := by decide +kernel
set_option maxRecDepth 20000 in
theorem ggX5_findBranch_X0_countPoses : GoodIn wsX5_findBranch wsX0_countPoses := goodIn_r _ [14, 15, 16, 17, 117, 118, 119, 120, 121, 122] (by decide +kernel) (by decide +kernel)
set_option maxRecDepth 20000 in
theorem gX5_findBranch_X0_countPoses_n151 : GoodIn wsX5_findBranch (wsX0_countPoses) := ggX5_findBranch_X0_countPoses
set_option maxRecDepth 20000 in
theorem ggX5_findBranch_X3_run : GoodIn wsX5_findBranch wsX3_run := goodIn_r _ [21, 22, 23, 24, 25, 26, 27, 28, 29, 30, 19, 31, 32, 33, 12, 34, 35, 36, 37, 38, 39, 40, 41, 42, 43, 44, 45, 46, 47, 48, 49, 50, 51, 52, 53, 54, 55, 56, 57, 58, 59, 60, 61, 62, 63, 64, 65, 66, 67, 68, 69, 70, 71, 72, 73, 74, 75, 76, 77, 78, 79, 80, 81, 82, 83, 84, 85, 86, 87, 88, 89, 90, 91, 92, 93, 94, 95, 96, 97, 98, 99, 107, 108, 109, 110, 111, 112, 113, 117, 118, 119, 120, 121, 122, 114, 115, 116, 123, 124, 125] (by decide +kernel) (by decide +kernel)
set_option maxRecDepth 20000 in
theorem gX5_findBranch_X3_run_n158 : GoodIn wsX5_findBranch (wsX3_run) := ggX5_findBranch_X3_run
theorem dX5_findBranch_0 : decode cX5_findBranch 0 = .ok (.iload_n 1, 1) := by decide +kernel
theorem dX5_findBranch_1 : decode cX5_findBranch 1 = .ok (.ifCond .lt 9, 3) := by decide +kernel
theorem dX5_findBranch_4 : decode cX5_findBranch 4 = .ok (.iload_n 1, 1) := by decide +kernel
theorem dX5_findBranch_5 : decode cX5_findBranch 5 = .ok (.bipush 10, 2) := by decide +kernel
theorem dX5_findBranch_7 : decode cX5_findBranch 7 = .ok (.if_icmp .lt 13, 3) := by decide +kernel
theorem dX5_findBranch_10 : decode cX5_findBranch 10 = .ok (.new 178, 3) := by decide +kernel
theorem dX5_findBranch_13 : decode cX5_findBranch 13 = .ok (.dup, 1) := by decide +kernel
theorem dX5_findBranch_14 : decode cX5_findBranch 14 = .ok (.ldc 193, 2) := by decide +kernel
theorem dX5_findBranch_16 : decode cX5_findBranch 16 = .ok (.invokespecial 182, 3) := by decide +kernel
theorem dX5_findBranch_19 : decode cX5_findBranch 19 = .ok (.athrow, 1) := by decide +kernel
theorem dX5_findBranch_20 : decode cX5_findBranch 20 = .ok (.aload_n 0, 1) := by decide +kernel
theorem dX5_findBranch_21 : decode cX5_findBranch 21 = .ok (.getfield 10, 3) := by decide +kernel
theorem dX5_findBranch_24 : decode cX5_findBranch 24 = .ok (.invokevirtual 151, 3) := by decide +kernel
theorem dX5_findBranch_27 : decode cX5_findBranch 27 = .ok (.ldc2_w 154, 3) := by decide +kernel
theorem dX5_findBranch_30 : decode cX5_findBranch 30 = .ok (.lcmp, 1) := by decide +kernel
theorem dX5_findBranch_31 : decode cX5_findBranch 31 = .ok (.ifCond .gt 7, 3) := by decide +kernel
theorem dX5_findBranch_34 : decode cX5_findBranch 34 = .ok (.iconst 1, 1) := by decide +kernel
theorem dX5_findBranch_35 : decode cX5_findBranch 35 = .ok (.goto 4, 3) := by decide +kernel
theorem dX5_findBranch_38 : decode cX5_findBranch 38 = .ok (.iconst 0, 1) := by decide +kernel
theorem dX5_findBranch_39 : decode cX5_findBranch 39 = .ok (.istore_n 3, 1) := by decide +kernel
theorem dX5_findBranch_40 : decode cX5_findBranch 40 = .ok (.iload_n 3, 1) := by decide +kernel
theorem dX5_findBranch_41 : decode cX5_findBranch 41 = .ok (.ifCond .eq 43, 3) := by decide +kernel
theorem dX5_findBranch_44 : decode cX5_findBranch 44 = .ok (.aload_n 0, 1) := by decide +kernel
theorem dX5_findBranch_45 : decode cX5_findBranch 45 = .ok (.getfield 36, 3) := by decide +kernel
theorem dX5_findBranch_48 : decode cX5_findBranch 48 = .ok (.aload_n 0, 1) := by decide +kernel
theorem dX5_findBranch_49 : decode cX5_findBranch 49 = .ok (.getfield 10, 3) := by decide +kernel
theorem dX5_findBranch_52 : decode cX5_findBranch 52 = .ok (.aload_n 0, 1) := by decide +kernel
theorem dX5_findBranch_53 : decode cX5_findBranch 53 = .ok (.getfield 19, 3) := by decide +kernel
theorem dX5_findBranch_56 : decode cX5_findBranch 56 = .ok (.iload_n 2, 1) := by decide +kernel
theorem dX5_findBranch_57 : decode cX5_findBranch 57 = .ok (.invokevirtual 158, 3) := by decide +kernel
theorem dX5_findBranch_60 : decode cX5_findBranch 60 = .ok (.iload_n 1, 1) := by decide +kernel
theorem dX5_findBranch_61 : decode cX5_findBranch 61 = .ok (.aload_n 0, 1) := by decide +kernel
theorem dX5_findBranch_62 : decode cX5_findBranch 62 = .ok (.getfield 36, 3) := by decide +kernel
theorem dX5_findBranch_65 : decode cX5_findBranch 65 = .ok (.getfield 162, 3) := by decide +kernel
theorem dX5_findBranch_68 : decode cX5_findBranch 68 = .ok (.getfield 166, 3) := by decide +kernel
theorem dX5_findBranch_71 : decode cX5_findBranch 71 = .ok (.if_icmp .lt 13, 3) := by decide +kernel
theorem dX5_findBranch_74 : decode cX5_findBranch 74 = .ok (.new 178, 3) := by decide +kernel
theorem dX5_findBranch_77 : decode cX5_findBranch 77 = .ok (.dup, 1) := by decide +kernel
theorem dX5_findBranch_78 : decode cX5_findBranch 78 = .ok (.ldc 195, 2) := by decide +kernel
theorem dX5_findBranch_80 : decode cX5_findBranch 80 = .ok (.invokespecial 182, 3) := by decide +kernel
theorem dX5_findBranch_83 : decode cX5_findBranch 83 = .ok (.athrow, 1) := by decide +kernel
theorem dX5_findBranch_84 : decode cX5_findBranch 84 = .ok (.iload_n 2, 1) := by decide +kernel
theorem dX5_findBranch_85 : decode cX5_findBranch 85 = .ok (.ifCond .lt 8, 3) := by decide +kernel
theorem dX5_findBranch_88 : decode cX5_findBranch 88 = .ok (.iload_n 2, 1) := by decide +kernel
theorem dX5_findBranch_89 : decode cX5_findBranch 89 = .ok (.iconst 2, 1) := by decide +kernel
theorem dX5_findBranch_90 : decode cX5_findBranch 90 = .ok (.if_icmp .le 13, 3) := by decide +kernel
theorem dX5_findBranch_93 : decode cX5_findBranch 93 = .ok (.new 47, 3) := by decide +kernel
theorem dX5_findBranch_96 : decode cX5_findBranch 96 = .ok (.dup, 1) := by decide +kernel
theorem dX5_findBranch_97 : decode cX5_findBranch 97 = .ok (.ldc 197, 2) := by decide +kernel
theorem dX5_findBranch_99 : decode cX5_findBranch 99 = .ok (.invokespecial 51, 3) := by decide +kernel
theorem dX5_findBranch_102 : decode cX5_findBranch 102 = .ok (.athrow, 1) := by decide +kernel
theorem dX5_findBranch_103 : decode cX5_findBranch 103 = .ok (.iload_n 3, 1) := by decide +kernel
theorem dX5_findBranch_104 : decode cX5_findBranch 104 = .ok (.ifCond .ne 13, 3) := by decide +kernel
theorem dX5_findBranch_107 : decode cX5_findBranch 107 = .ok (.new 62, 3) := by decide +kernel
theorem dX5_findBranch_110 : decode cX5_findBranch 110 = .ok (.dup, 1) := by decide +kernel
theorem dX5_findBranch_111 : decode cX5_findBranch 111 = .ok (.ldc 156, 2) := by decide +kernel
theorem dX5_findBranch_113 : decode cX5_findBranch 113 = .ok (.invokespecial 66, 3) := by decide +kernel
theorem dX5_findBranch_116 : decode cX5_findBranch 116 = .ok (.athrow, 1) := by decide +kernel
theorem dX5_findBranch_117 : decode cX5_findBranch 117 = .ok (.return_, 1) := by decide +kernel
theorem dX5_sine_0 : decode cX5_sine 0 = .ok (.iload_n 0, 1) := by decide +kernel
theorem dX5_sine_1 : decode cX5_sine 1 = .ok (.bipush 31, 2) := by decide +kernel
theorem dX5_sine_3 : decode cX5_sine 3 = .ok (.iand, 1) := by decide +kernel
theorem dX5_sine_4 : decode cX5_sine 4 = .ok (.istore_n 1, 1) := by decide +kernel
theorem dX5_sine_5 : decode cX5_sine 5 = .ok (.getstatic 199, 3) := by decide +kernel
theorem dX5_sine_8 : decode cX5_sine 8 = .ok (.iload_n 1, 1) := by decide +kernel
theorem dX5_sine_9 : decode cX5_sine 9 = .ok (.bipush 16, 2) := by decide +kernel
theorem dX5_sine_11 : decode cX5_sine 11 = .ok (.if_icmp .gt 7, 3) := by decide +kernel
theorem dX5_sine_14 : decode cX5_sine 14 = .ok (.iload_n 1, 1) := by decide +kernel
theorem dX5_sine_15 : decode cX5_sine 15 = .ok (.goto 7, 3) := by decide +kernel
theorem dX5_sine_18 : decode cX5_sine 18 = .ok (.bipush 32, 2) := by decide +kernel
theorem dX5_sine_20 : decode cX5_sine 20 = .ok (.iload_n 1, 1) := by decide +kernel
theorem dX5_sine_21 : decode cX5_sine 21 = .ok (.isub, 1) := by decide +kernel
theorem dX5_sine_22 : decode cX5_sine 22 = .ok (.iaload, 1) := by decide +kernel
theorem dX5_sine_23 : decode cX5_sine 23 = .ok (.istore_n 2, 1) := by decide +kernel
theorem dX5_sine_24 : decode cX5_sine 24 = .ok (.iload_n 0, 1) := by decide +kernel
theorem dX5_sine_25 : decode cX5_sine 25 = .ok (.bipush 32, 2) := by decide +kernel
theorem dX5_sine_27 : decode cX5_sine 27 = .ok (.iand, 1) := by decide +kernel
theorem dX5_sine_28 : decode cX5_sine 28 = .ok (.ifCond .ne 7, 3) := by decide +kernel
theorem dX5_sine_31 : decode cX5_sine 31 = .ok (.iload_n 2, 1) := by decide +kernel
theorem dX5_sine_32 : decode cX5_sine 32 = .ok (.goto 5, 3) := by decide +kernel
theorem dX5_sine_35 : decode cX5_sine 35 = .ok (.iload_n 2, 1) := by decide +kernel
theorem dX5_sine_36 : decode cX5_sine 36 = .ok (.ineg, 1) := by decide +kernel
theorem dX5_sine_37 : decode cX5_sine 37 = .ok (.ireturn, 1) := by decide +kernel
set_option maxRecDepth 20000 in
theorem ggX5_cosine_X5_sine : GoodIn wsX5_cosine wsX5_sine := goodIn_r _ [4, 5] (by decide +kernel) (by decide +kernel)
set_option maxRecDepth 20000 in
theorem gX5_cosine_X5_sine : GoodIn wsX5_cosine (va_wsS RX5 202 yX5_sine wsX5_sine) := goodIn_app (goodIn_of _ (by decide +kernel)) ggX5_cosine_X5_sine
theorem dX5_cosine_0 : decode cX5_cosine 0 = .ok (.iload_n 0, 1) := by decide +kernel
theorem dX5_cosine_1 : decode cX5_cosine 1 = .ok (.bipush 16, 2) := by decide +kernel
theorem dX5_cosine_3 : decode cX5_cosine 3 = .ok (.iadd, 1) := by decide +kernel
theorem dX5_cosine_4 : decode cX5_cosine 4 = .ok (.invokestatic 202, 3) := by decide +kernel
theorem dX5_cosine_7 : decode cX5_cosine 7 = .ok (.ireturn, 1) := by decide +kernel
theorem dJ9_abs_0f7a4_0 : decode cJ9_abs_0f7a4 0 = .ok (.iload_n 0, 1) := by decide +kernel
theorem dJ9_abs_0f7a4_1 : decode cJ9_abs_0f7a4 1 = .ok (.ifCond .ge 8, 3) := by decide +kernel
theorem dJ9_abs_0f7a4_4 : decode cJ9_abs_0f7a4 4 = .ok (.iload_n 0, 1) := by decide +kernel
theorem dJ9_abs_0f7a4_5 : decode cJ9_abs_0f7a4 5 = .ok (.ineg, 1) := by decide +kernel
theorem dJ9_abs_0f7a4_6 : decode cJ9_abs_0f7a4 6 = .ok (.goto 4, 3) := by decide +kernel
theorem dJ9_abs_0f7a4_9 : decode cJ9_abs_0f7a4 9 = .ok (.iload_n 0, 1) := by decide +kernel
theorem dJ9_abs_0f7a4_10 : decode cJ9_abs_0f7a4 10 = .ok (.ireturn, 1) := by decide +kernel
theorem dJ9_abs_067f4_0 : decode cJ9_abs_067f4 0 = .ok (.lload_n 0, 1) := by decide +kernel
theorem dJ9_abs_067f4_1 : decode cJ9_abs_067f4 1 = .ok (.lconst 0, 1) := by decide +kernel
theorem dJ9_abs_067f4_2 : decode cJ9_abs_067f4 2 = .ok (.lcmp, 1) := by decide +kernel
theorem dJ9_abs_067f4_3 : decode cJ9_abs_067f4 3 = .ok (.ifCond .ge 8, 3) := by decide +kernel
theorem dJ9_abs_067f4_6 : decode cJ9_abs_067f4 6 = .ok (.lload_n 0, 1) := by decide +kernel
theorem dJ9_abs_067f4_7 : decode cJ9_abs_067f4 7 = .ok (.lneg, 1) := by decide +kernel
theorem dJ9_abs_067f4_8 : decode cJ9_abs_067f4 8 = .ok (.goto 4, 3) := by decide +kernel
theorem dJ9_abs_067f4_11 : decode cJ9_abs_067f4 11 = .ok (.lload_n 0, 1) := by decide +kernel
theorem dJ9_abs_067f4_12 : decode cJ9_abs_067f4 12 = .ok (.lreturn, 1) := by decide +kernel
theorem dJ9_max_7cf53_0 : decode cJ9_max_7cf53 0 = .ok (.iload_n 0, 1) := by decide +kernel
theorem dJ9_max_7cf53_1 : decode cJ9_max_7cf53 1 = .ok (.iload_n 1, 1) := by decide +kernel
theorem dJ9_max_7cf53_2 : decode cJ9_max_7cf53 2 = .ok (.if_icmp .lt 7, 3) := by decide +kernel
theorem dJ9_max_7cf53_5 : decode cJ9_max_7cf53 5 = .ok (.iload_n 0, 1) := by decide +kernel
theorem dJ9_max_7cf53_6 : decode cJ9_max_7cf53 6 = .ok (.goto 4, 3) := by decide +kernel
theorem dJ9_max_7cf53_9 : decode cJ9_max_7cf53 9 = .ok (.iload_n 1, 1) := by decide +kernel
theorem dJ9_max_7cf53_10 : decode cJ9_max_7cf53 10 = .ok (.ireturn, 1) := by decide +kernel
theorem dJ9_max_f86c9_0 : decode cJ9_max_f86c9 0 = .ok (.lload_n 0, 1) := by decide +kernel
theorem dJ9_max_f86c9_1 : decode cJ9_max_f86c9 1 = .ok (.lload_n 2, 1) := by decide +kernel
theorem dJ9_max_f86c9_2 : decode cJ9_max_f86c9 2 = .ok (.lcmp, 1) := by decide +kernel
theorem dJ9_max_f86c9_3 : decode cJ9_max_f86c9 3 = .ok (.ifCond .lt 7, 3) := by decide +kernel
theorem dJ9_max_f86c9_6 : decode cJ9_max_f86c9 6 = .ok (.lload_n 0, 1) := by decide +kernel
theorem dJ9_max_f86c9_7 : decode cJ9_max_f86c9 7 = .ok (.goto 4, 3) := by decide +kernel
theorem dJ9_max_f86c9_10 : decode cJ9_max_f86c9 10 = .ok (.lload_n 2, 1) := by decide +kernel
theorem dJ9_max_f86c9_11 : decode cJ9_max_f86c9 11 = .ok (.lreturn, 1) := by decide +kernel
theorem dJ9_min_7cf53_0 : decode cJ9_min_7cf53 0 = .ok (.iload_n 0, 1) := by decide +kernel
theorem dJ9_min_7cf53_1 : decode cJ9_min_7cf53 1 = .ok (.iload_n 1, 1) := by decide +kernel
theorem dJ9_min_7cf53_2 : decode cJ9_min_7cf53 2 = .ok (.if_icmp .gt 7, 3) := by decide +kernel
theorem dJ9_min_7cf53_5 : decode cJ9_min_7cf53 5 = .ok (.iload_n 0, 1) := by decide +kernel
theorem dJ9_min_7cf53_6 : decode cJ9_min_7cf53 6 = .ok (.goto 4, 3) := by decide +kernel
theorem dJ9_min_7cf53_9 : decode cJ9_min_7cf53 9 = .ok (.iload_n 1, 1) := by decide +kernel
theorem dJ9_min_7cf53_10 : decode cJ9_min_7cf53 10 = .ok (.ireturn, 1) := by decide +kernel
theorem dL_cell_0 : decode cL_cell 0 = .ok (.iload_n 1, 1) := by decide +kernel
theorem dL_cell_1 : decode cL_cell 1 = .ok (.aload_n 0, 1) := by decide +kernel
theorem dL_cell_2 : decode cL_cell 2 = .ok (.arraylength, 1) := by decide +kernel
theorem dL_cell_3 : decode cL_cell 3 = .ok (.if_icmp .ge 9, 3) := by decide +kernel
theorem dL_cell_6 : decode cL_cell 6 = .ok (.aload_n 0, 1) := by decide +kernel
theorem dL_cell_7 : decode cL_cell 7 = .ok (.iload_n 1, 1) := by decide +kernel
theorem dL_cell_8 : decode cL_cell 8 = .ok (.iaload, 1) := by decide +kernel
theorem dL_cell_9 : decode cL_cell 9 = .ok (.goto 10, 3) := by decide +kernel
theorem dL_cell_12 : decode cL_cell 12 = .ok (.ldc 7, 2) := by decide +kernel
theorem dL_cell_14 : decode cL_cell 14 = .ok (.iload_n 1, 1) := by decide +kernel
theorem dL_cell_15 : decode cL_cell 15 = .ok (.bipush 11, 2) := by decide +kernel
theorem dL_cell_17 : decode cL_cell 17 = .ok (.iadd, 1) := by decide +kernel
theorem dL_cell_18 : decode cL_cell 18 = .ok (.imul, 1) := by decide +kernel
theorem dL_cell_19 : decode cL_cell 19 = .ok (.ireturn, 1) := by decide +kernel
theorem dL_low_0 : decode cL_low 0 = .ok (.iload_n 0, 1) := by decide +kernel
theorem dL_low_1 : decode cL_low 1 = .ok (.iconst 1, 1) := by decide +kernel
theorem dL_low_2 : decode cL_low 2 = .ok (.iushr, 1) := by decide +kernel
theorem dL_low_3 : decode cL_low 3 = .ok (.iload_n 1, 1) := by decide +kernel
theorem dL_low_4 : decode cL_low 4 = .ok (.irem, 1) := by decide +kernel
theorem dL_low_5 : decode cL_low 5 = .ok (.ireturn, 1) := by decide +kernel
set_option maxRecDepth 20000 in
theorem ggL_joint_X5_joint : GoodIn wsL_joint wsX5_joint := goodIn_ca (goodIn_ca (goodIn_r _ [7, 8, 9, 10, 11, 12, 13, 14, 15, 16, 17, 18, 19, 20, 21, 22, 23, 24, 25, 26, 27, 28, 29, 30, 31, 32, 33, 34, 35, 36, 37, 38, 39, 40, 41, 42, 43, 44, 45, 46, 47, 48, 49] (by decide +kernel) (by decide +kernel)) (goodIn_sub (fun _ h => List.mem_cons_of_mem _ (List.mem_append_left _ (List.mem_append_right _ h))) (by decide +kernel))) (goodIn_sub (fun _ h => List.mem_cons_of_mem _ (List.mem_append_right _ h)) (by decide +kernel))
set_option maxRecDepth 20000 in
theorem gL_joint_X5_joint : GoodIn wsL_joint (wsV RL 8 RX5 yX5_joint wsX5_joint) := goodIn_app (goodIn_of _ (by decide +kernel)) ggL_joint_X5_joint
theorem dL_joint_0 : decode cL_joint 0 = .ok (.aload_n 0, 1) := by decide +kernel
theorem dL_joint_1 : decode cL_joint 1 = .ok (.iload_n 1, 1) := by decide +kernel
theorem dL_joint_2 : decode cL_joint 2 = .ok (.iload_n 2, 1) := by decide +kernel
theorem dL_joint_3 : decode cL_joint 3 = .ok (.iload_n 3, 1) := by decide +kernel
theorem dL_joint_4 : decode cL_joint 4 = .ok (.iload 4, 2) := by decide +kernel
theorem dL_joint_6 : decode cL_joint 6 = .ok (.invokevirtual 8, 3) := by decide +kernel
theorem dL_joint_9 : decode cL_joint 9 = .ok (.istore 5, 2) := by decide +kernel
theorem dL_joint_11 : decode cL_joint 11 = .ok (.goto 15, 3) := by decide +kernel
theorem dL_joint_14 : decode cL_joint 14 = .ok (.astore 6, 2) := by decide +kernel
theorem dL_joint_16 : decode cL_joint 16 = .ok (.sipush (-7200), 3) := by decide +kernel
theorem dL_joint_19 : decode cL_joint 19 = .ok (.ireturn, 1) := by decide +kernel
theorem dL_joint_20 : decode cL_joint 20 = .ok (.astore 6, 2) := by decide +kernel
theorem dL_joint_22 : decode cL_joint 22 = .ok (.sipush (-7300), 3) := by decide +kernel
theorem dL_joint_25 : decode cL_joint 25 = .ok (.ireturn, 1) := by decide +kernel
theorem dL_joint_26 : decode cL_joint 26 = .ok (.iload 5, 2) := by decide +kernel
theorem dL_joint_28 : decode cL_joint 28 = .ok (.ireturn, 1) := by decide +kernel
set_option maxRecDepth 20000 in
theorem ggL_set_X5_set : GoodIn wsL_set wsX5_set := goodIn_ca (goodIn_ca (goodIn_r _ [7, 8, 9, 10, 11, 12, 13, 6, 14, 15, 16, 17, 18, 19, 20, 21, 22, 23, 24, 25, 26, 27, 28, 29] (by decide +kernel) (by decide +kernel)) (goodIn_sub (fun _ h => List.mem_cons_of_mem _ (List.mem_append_left _ (List.mem_append_right _ h))) (by decide +kernel))) (goodIn_sub (fun _ h => List.mem_cons_of_mem _ (List.mem_append_right _ h)) (by decide +kernel))
set_option maxRecDepth 20000 in
theorem gL_set_X5_set : GoodIn wsL_set (wsV RL 18 RX5 yX5_set wsX5_set) := goodIn_app (goodIn_of _ (by decide +kernel)) ggL_set_X5_set
theorem dL_set_0 : decode cL_set 0 = .ok (.aload_n 0, 1) := by decide +kernel
theorem dL_set_1 : decode cL_set 1 = .ok (.iload_n 1, 1) := by decide +kernel
theorem dL_set_2 : decode cL_set 2 = .ok (.iload_n 2, 1) := by decide +kernel
theorem dL_set_3 : decode cL_set 3 = .ok (.invokevirtual 18, 3) := by decide +kernel
theorem dL_set_6 : decode cL_set 6 = .ok (.istore_n 3, 1) := by decide +kernel
theorem dL_set_7 : decode cL_set 7 = .ok (.goto 15, 3) := by decide +kernel
theorem dL_set_10 : decode cL_set 10 = .ok (.astore 4, 2) := by decide +kernel
theorem dL_set_12 : decode cL_set 12 = .ok (.sipush (-7100), 3) := by decide +kernel
theorem dL_set_15 : decode cL_set 15 = .ok (.ireturn, 1) := by decide +kernel
theorem dL_set_16 : decode cL_set 16 = .ok (.astore 4, 2) := by decide +kernel
theorem dL_set_18 : decode cL_set 18 = .ok (.sipush (-7200), 3) := by decide +kernel
theorem dL_set_21 : decode cL_set 21 = .ok (.ireturn, 1) := by decide +kernel
theorem dL_set_22 : decode cL_set 22 = .ok (.iload_n 3, 1) := by decide +kernel
theorem dL_set_23 : decode cL_set 23 = .ok (.ireturn, 1) := by decide +kernel
set_option maxRecDepth 20000 in
theorem ggL_value_X5_value : GoodIn wsL_value wsX5_value := goodIn_ca (goodIn_r _ [6, 7, 8, 9, 10, 5, 11, 12, 13, 14, 15, 16, 17, 18, 19, 20, 21, 22, 23, 24, 25, 26] (by decide +kernel) (by decide +kernel)) (goodIn_sub (fun _ h => List.mem_cons_of_mem _ (List.mem_append_right _ h)) (by decide +kernel))
set_option maxRecDepth 20000 in
theorem gL_value_X5_value : GoodIn wsL_value (wsV RL 24 RX5 yX5_value wsX5_value) := goodIn_app (goodIn_of _ (by decide +kernel)) ggL_value_X5_value
theorem dL_value_0 : decode cL_value 0 = .ok (.aload_n 0, 1) := by decide +kernel
theorem dL_value_1 : decode cL_value 1 = .ok (.iload_n 1, 1) := by decide +kernel
theorem dL_value_2 : decode cL_value 2 = .ok (.invokevirtual 24, 3) := by decide +kernel
theorem dL_value_5 : decode cL_value 5 = .ok (.istore_n 2, 1) := by decide +kernel
theorem dL_value_6 : decode cL_value 6 = .ok (.goto 8, 3) := by decide +kernel
theorem dL_value_9 : decode cL_value 9 = .ok (.astore_n 3, 1) := by decide +kernel
theorem dL_value_10 : decode cL_value 10 = .ok (.sipush (-7100), 3) := by decide +kernel
theorem dL_value_13 : decode cL_value 13 = .ok (.ireturn, 1) := by decide +kernel
theorem dL_value_14 : decode cL_value 14 = .ok (.iload_n 2, 1) := by decide +kernel
theorem dL_value_15 : decode cL_value 15 = .ok (.ireturn, 1) := by decide +kernel
set_option maxRecDepth 20000 in
theorem ggL_tip_X5_tip : GoodIn wsL_tip wsX5_tip := goodIn_ca (goodIn_r _ [7, 8, 9, 10, 11, 6, 12, 13, 14, 15, 16, 17, 18, 19, 20, 21, 22, 23, 24, 25, 26, 27, 28, 29, 30, 31, 32, 33, 34, 35, 36, 37, 38, 39, 40, 41, 42, 43, 44, 45, 46, 47, 48, 49, 50, 51, 52, 53, 54, 55, 56, 57, 58, 59, 60, 61, 62, 63, 64, 65, 66, 67] (by decide +kernel) (by decide +kernel)) (goodIn_sub (fun _ h => List.mem_cons_of_mem _ (List.mem_append_right _ h)) (by decide +kernel))
set_option maxRecDepth 20000 in
theorem gL_tip_X5_tip : GoodIn wsL_tip (wsV RL 28 RX5 yX5_tip wsX5_tip) := goodIn_app (goodIn_of _ (by decide +kernel)) ggL_tip_X5_tip
theorem dL_tip_0 : decode cL_tip 0 = .ok (.aload_n 0, 1) := by decide +kernel
theorem dL_tip_1 : decode cL_tip 1 = .ok (.iload_n 1, 1) := by decide +kernel
theorem dL_tip_2 : decode cL_tip 2 = .ok (.invokevirtual 28, 3) := by decide +kernel
theorem dL_tip_5 : decode cL_tip 5 = .ok (.istore_n 2, 1) := by decide +kernel
theorem dL_tip_6 : decode cL_tip 6 = .ok (.goto 7, 3) := by decide +kernel
theorem dL_tip_9 : decode cL_tip 9 = .ok (.astore_n 3, 1) := by decide +kernel
theorem dL_tip_10 : decode cL_tip 10 = .ok (.ldc 31, 2) := by decide +kernel
theorem dL_tip_12 : decode cL_tip 12 = .ok (.ireturn, 1) := by decide +kernel
theorem dL_tip_13 : decode cL_tip 13 = .ok (.iload_n 2, 1) := by decide +kernel
theorem dL_tip_14 : decode cL_tip 14 = .ok (.ireturn, 1) := by decide +kernel
set_option maxRecDepth 20000 in
theorem ggL_tipAnew_X5_tipAnew : GoodIn wsL_tipAnew wsX5_tipAnew := goodIn_ca (goodIn_r _ [7, 8, 9, 10, 11, 6, 12, 13, 14, 15, 16, 17, 18, 19, 20, 21, 22, 23, 24, 25, 26, 27, 28, 29, 30, 31, 32, 33, 34, 35, 36, 37, 38, 39, 40, 41, 42, 43, 44, 45, 46, 47, 48, 49, 50, 51, 52, 53, 54, 55, 56, 57, 58, 59, 60, 61, 62, 63, 64, 65, 66, 67, 68] (by decide +kernel) (by decide +kernel)) (goodIn_sub (fun _ h => List.mem_cons_of_mem _ (List.mem_append_right _ h)) (by decide +kernel))
set_option maxRecDepth 20000 in
theorem gL_tipAnew_X5_tipAnew : GoodIn wsL_tipAnew (wsV RL 32 RX5 yX5_tipAnew wsX5_tipAnew) := goodIn_app (goodIn_of _ (by decide +kernel)) ggL_tipAnew_X5_tipAnew
theorem dL_tipAnew_0 : decode cL_tipAnew 0 = .ok (.aload_n 0, 1) := by decide +kernel
theorem dL_tipAnew_1 : decode cL_tipAnew 1 = .ok (.iload_n 1, 1) := by decide +kernel
theorem dL_tipAnew_2 : decode cL_tipAnew 2 = .ok (.invokevirtual 32, 3) := by decide +kernel
theorem dL_tipAnew_5 : decode cL_tipAnew 5 = .ok (.istore_n 2, 1) := by decide +kernel
theorem dL_tipAnew_6 : decode cL_tipAnew 6 = .ok (.goto 7, 3) := by decide +kernel
theorem dL_tipAnew_9 : decode cL_tipAnew 9 = .ok (.astore_n 3, 1) := by decide +kernel
theorem dL_tipAnew_10 : decode cL_tipAnew 10 = .ok (.ldc 31, 2) := by decide +kernel
theorem dL_tipAnew_12 : decode cL_tipAnew 12 = .ok (.ireturn, 1) := by decide +kernel
theorem dL_tipAnew_13 : decode cL_tipAnew 13 = .ok (.iload_n 2, 1) := by decide +kernel
theorem dL_tipAnew_14 : decode cL_tipAnew 14 = .ok (.ireturn, 1) := by decide +kernel
set_option maxRecDepth 20000 in
theorem ggL_moves_X5_moves : GoodIn wsL_moves wsX5_moves := goodIn_ca (goodIn_ca (goodIn_r _ [9, 10, 11, 12, 13, 14, 15, 8, 16, 17, 18, 19, 20, 21, 22, 23, 24, 25, 26, 27, 28, 29, 30, 31, 32, 33, 34, 35, 36, 37, 38, 39, 40, 41, 42, 43, 44, 45, 46, 47, 48, 49, 50, 51, 52, 53, 54, 55, 56, 57, 58, 59, 60, 61, 62, 63, 64, 65, 66, 67, 68, 69, 70, 71, 72, 73, 74, 75, 76] (by decide +kernel) (by decide +kernel)) (goodIn_sub (fun _ h => List.mem_cons_of_mem _ (List.mem_append_left _ (List.mem_append_right _ h))) (by decide +kernel))) (goodIn_sub (fun _ h => List.mem_cons_of_mem _ (List.mem_append_right _ h)) (by decide +kernel))
set_option maxRecDepth 20000 in
theorem gL_moves_X5_moves : GoodIn wsL_moves (wsV RL 35 RX5 yX5_moves wsX5_moves) := goodIn_app (goodIn_of _ (by decide +kernel)) ggL_moves_X5_moves
theorem dL_moves_0 : decode cL_moves 0 = .ok (.aload_n 0, 1) := by decide +kernel
theorem dL_moves_1 : decode cL_moves 1 = .ok (.iload_n 1, 1) := by decide +kernel
theorem dL_moves_2 : decode cL_moves 2 = .ok (.iload_n 2, 1) := by decide +kernel
theorem dL_moves_3 : decode cL_moves 3 = .ok (.invokevirtual 35, 3) := by decide +kernel
theorem dL_moves_6 : decode cL_moves 6 = .ok (.istore_n 3, 1) := by decide +kernel
theorem dL_moves_7 : decode cL_moves 7 = .ok (.goto 13, 3) := by decide +kernel
theorem dL_moves_10 : decode cL_moves 10 = .ok (.astore 4, 2) := by decide +kernel
theorem dL_moves_12 : decode cL_moves 12 = .ok (.ldc 38, 2) := by decide +kernel
theorem dL_moves_14 : decode cL_moves 14 = .ok (.ireturn, 1) := by decide +kernel
theorem dL_moves_15 : decode cL_moves 15 = .ok (.astore 4, 2) := by decide +kernel
theorem dL_moves_17 : decode cL_moves 17 = .ok (.ldc 31, 2) := by decide +kernel
theorem dL_moves_19 : decode cL_moves 19 = .ok (.ireturn, 1) := by decide +kernel
theorem dL_moves_20 : decode cL_moves 20 = .ok (.iload_n 3, 1) := by decide +kernel
theorem dL_moves_21 : decode cL_moves 21 = .ok (.ireturn, 1) := by decide +kernel
set_option maxRecDepth 20000 in
theorem ggL_goal_X5_goal : GoodIn wsL_goal wsX5_goal := goodIn_ca (goodIn_r _ [7, 8, 9, 10, 11, 12, 13, 14, 15, 6, 16, 17, 18, 19, 20, 21, 22, 23, 24, 25, 26, 27, 28, 29, 30, 31, 32, 33, 34, 35, 36, 37, 38, 39, 40, 41, 42, 43, 44, 45, 46, 47, 48, 49, 50, 51, 52, 53, 54, 55, 56, 57, 58, 59, 60, 61, 62, 63, 64, 65, 66, 67, 68, 69, 70, 71, 72, 73, 74, 75, 76, 77] (by decide +kernel) (by decide +kernel)) (goodIn_sub (fun _ h => List.mem_cons_of_mem _ (List.mem_append_right _ h)) (by decide +kernel))
set_option maxRecDepth 20000 in
theorem gL_goal_X5_goal : GoodIn wsL_goal (wsV RL 39 RX5 yX5_goal wsX5_goal) := goodIn_app (goodIn_of _ (by decide +kernel)) ggL_goal_X5_goal
theorem dL_goal_0 : decode cL_goal 0 = .ok (.aload_n 0, 1) := by decide +kernel
theorem dL_goal_1 : decode cL_goal 1 = .ok (.iload_n 1, 1) := by decide +kernel
theorem dL_goal_2 : decode cL_goal 2 = .ok (.iload_n 2, 1) := by decide +kernel
theorem dL_goal_3 : decode cL_goal 3 = .ok (.invokevirtual 39, 3) := by decide +kernel
theorem dL_goal_6 : decode cL_goal 6 = .ok (.lstore_n 3, 1) := by decide +kernel
theorem dL_goal_7 : decode cL_goal 7 = .ok (.goto 9, 3) := by decide +kernel
theorem dL_goal_10 : decode cL_goal 10 = .ok (.astore 5, 2) := by decide +kernel
theorem dL_goal_12 : decode cL_goal 12 = .ok (.ldc2_w 43, 3) := by decide +kernel
theorem dL_goal_15 : decode cL_goal 15 = .ok (.lreturn, 1) := by decide +kernel
theorem dL_goal_16 : decode cL_goal 16 = .ok (.lload_n 3, 1) := by decide +kernel
theorem dL_goal_17 : decode cL_goal 17 = .ok (.lreturn, 1) := by decide +kernel
set_option maxRecDepth 20000 in
theorem ggL_steps_X5_steps : GoodIn wsL_steps wsX5_steps := goodIn_ca (goodIn_r _ [6, 7, 8, 9, 10, 11, 5, 12, 13, 14, 15, 16, 17, 18, 19, 20, 21, 22, 23, 24, 25, 26, 27, 28, 29, 30, 31, 32, 33, 34, 35, 36, 37, 38, 39, 40, 41, 42, 43, 44, 45, 46, 47, 48, 49, 50, 51, 52, 53, 54, 55, 56, 57, 58, 59, 60, 61, 62, 63, 64, 65, 66, 67, 68, 69, 70, 71, 72, 73, 74, 75, 76, 77, 78, 79, 80, 81, 82, 83, 84, 85, 86, 87, 88, 89, 90, 91, 92, 93, 94, 95] (by decide +kernel) (by decide +kernel)) (goodIn_sub (fun _ h => List.mem_cons_of_mem _ (List.mem_append_right _ h)) (by decide +kernel))
set_option maxRecDepth 20000 in
theorem gL_steps_X5_steps : GoodIn wsL_steps (wsV RL 45 RX5 yX5_steps wsX5_steps) := goodIn_app (goodIn_of _ (by decide +kernel)) ggL_steps_X5_steps
theorem dL_steps_0 : decode cL_steps 0 = .ok (.aload_n 0, 1) := by decide +kernel
theorem dL_steps_1 : decode cL_steps 1 = .ok (.iload_n 1, 1) := by decide +kernel
theorem dL_steps_2 : decode cL_steps 2 = .ok (.invokevirtual 45, 3) := by decide +kernel
theorem dL_steps_5 : decode cL_steps 5 = .ok (.istore_n 2, 1) := by decide +kernel
theorem dL_steps_6 : decode cL_steps 6 = .ok (.goto 8, 3) := by decide +kernel
theorem dL_steps_9 : decode cL_steps 9 = .ok (.astore_n 3, 1) := by decide +kernel
theorem dL_steps_10 : decode cL_steps 10 = .ok (.sipush (-7200), 3) := by decide +kernel
theorem dL_steps_13 : decode cL_steps 13 = .ok (.ireturn, 1) := by decide +kernel
theorem dL_steps_14 : decode cL_steps 14 = .ok (.iload_n 2, 1) := by decide +kernel
theorem dL_steps_15 : decode cL_steps 15 = .ok (.ireturn, 1) := by decide +kernel
set_option maxRecDepth 20000 in
theorem ggL_slack_X5_slack : GoodIn wsL_slack wsX5_slack := goodIn_ca (goodIn_r _ [6, 7, 8, 9, 10, 11, 12, 13, 14, 15, 16, 17, 18, 19, 20] (by decide +kernel) (by decide +kernel)) (goodIn_sub (fun _ h => List.mem_cons_of_mem _ (List.mem_append_right _ h)) (by decide +kernel))
set_option maxRecDepth 20000 in
theorem gL_slack_X5_slack : GoodIn wsL_slack (wsV RL 48 RX5 yX5_slack wsX5_slack) := goodIn_app (goodIn_of _ (by decide +kernel)) ggL_slack_X5_slack
theorem dL_slack_0 : decode cL_slack 0 = .ok (.aload_n 0, 1) := by decide +kernel
theorem dL_slack_1 : decode cL_slack 1 = .ok (.iload_n 1, 1) := by decide +kernel
theorem dL_slack_2 : decode cL_slack 2 = .ok (.invokevirtual 48, 3) := by decide +kernel
theorem dL_slack_5 : decode cL_slack 5 = .ok (.istore_n 2, 1) := by decide +kernel
theorem dL_slack_6 : decode cL_slack 6 = .ok (.goto 8, 3) := by decide +kernel
theorem dL_slack_9 : decode cL_slack 9 = .ok (.astore_n 3, 1) := by decide +kernel
theorem dL_slack_10 : decode cL_slack 10 = .ok (.sipush (-7200), 3) := by decide +kernel
theorem dL_slack_13 : decode cL_slack 13 = .ok (.ireturn, 1) := by decide +kernel
theorem dL_slack_14 : decode cL_slack 14 = .ok (.iload_n 2, 1) := by decide +kernel
theorem dL_slack_15 : decode cL_slack 15 = .ok (.ireturn, 1) := by decide +kernel
set_option maxRecDepth 20000 in
theorem ggL_branches_X5_branches : GoodIn wsL_branches wsX5_branches := goodIn_ca (goodIn_r _ [6, 7, 8, 9, 10, 11, 12, 13, 14, 15, 16, 17, 18, 19, 20, 21, 22, 23, 24, 25, 26, 27, 28, 29, 30, 31, 32, 33, 34, 35, 36, 37, 38, 39, 40, 41, 42, 43, 44, 45, 46, 47, 48, 49, 50, 51, 52, 53, 54, 55, 56, 57, 58, 59, 60, 61, 62, 63, 64, 65, 66, 67, 68, 69, 70, 71, 72, 73, 74, 75, 76, 77, 78, 79, 80, 81, 82, 83, 84, 85, 86, 87, 88, 89, 90, 91, 92, 93, 94, 95, 5, 96, 97, 98, 99, 100, 101, 102, 103, 104, 105, 106, 107, 108, 109, 110, 111, 112, 113, 114, 115, 116, 117, 118, 119, 120, 121, 122, 123, 124, 125, 126] (by decide +kernel) (by decide +kernel)) (goodIn_sub (fun _ h => List.mem_cons_of_mem _ (List.mem_append_right _ h)) (by decide +kernel))
set_option maxRecDepth 20000 in
theorem gL_branches_X5_branches : GoodIn wsL_branches (wsV RL 51 RX5 yX5_branches wsX5_branches) := goodIn_app (goodIn_of _ (by decide +kernel)) ggL_branches_X5_branches
theorem dL_branches_0 : decode cL_branches 0 = .ok (.aload_n 0, 1) := by decide +kernel
theorem dL_branches_1 : decode cL_branches 1 = .ok (.invokevirtual 51, 3) := by decide +kernel
theorem dL_branches_4 : decode cL_branches 4 = .ok (.istore_n 1, 1) := by decide +kernel
theorem dL_branches_5 : decode cL_branches 5 = .ok (.goto 8, 3) := by decide +kernel
theorem dL_branches_8 : decode cL_branches 8 = .ok (.astore_n 2, 1) := by decide +kernel
theorem dL_branches_9 : decode cL_branches 9 = .ok (.sipush (-7300), 3) := by decide +kernel
theorem dL_branches_12 : decode cL_branches 12 = .ok (.ireturn, 1) := by decide +kernel
theorem dL_branches_13 : decode cL_branches 13 = .ok (.iload_n 1, 1) := by decide +kernel
theorem dL_branches_14 : decode cL_branches 14 = .ok (.ireturn, 1) := by decide +kernel
set_option maxRecDepth 20000 in
theorem ggL_branch_X5_branch : GoodIn wsL_branch wsX5_branch := goodIn_ca (goodIn_ca (goodIn_ca (goodIn_r _ [8, 9, 10, 11, 12, 7, 13, 14, 15, 16, 17, 18, 19, 20, 21, 22, 23, 24, 25, 26, 27, 28, 29, 30, 31, 32, 33, 34, 35, 36, 37, 38, 39, 40, 41, 42, 43, 44, 45, 46, 47, 48, 49, 50, 51, 52, 53, 54, 55, 56, 57, 58, 59, 60, 61, 62, 63, 64, 65, 66, 67, 68, 69, 70, 71, 72, 73, 74, 75, 76, 77, 78, 79, 80, 81, 82, 83, 84, 85, 86, 87, 88, 89, 90, 91, 92, 93, 94, 95, 96, 97, 98, 99, 100, 101, 102, 103, 104, 105, 106, 107, 108, 109, 110, 111, 112, 113, 114, 115, 116, 117, 118, 119, 120, 121, 122, 123, 124, 125, 126, 127, 128, 129, 130, 131, 132, 133, 134, 135, 136, 137, 138, 139, 140, 141, 142, 143] (by decide +kernel) (by decide +kernel)) (goodIn_sub (fun _ h => List.mem_cons_of_mem _ (List.mem_append_left _ (List.mem_append_left _ (List.mem_append_right _ h)))) (by decide +kernel))) (goodIn_sub (fun _ h => List.mem_cons_of_mem _ (List.mem_append_left _ (List.mem_append_right _ h))) (by decide +kernel))) (goodIn_sub (fun _ h => List.mem_cons_of_mem _ (List.mem_append_right _ h)) (by decide +kernel))
set_option maxRecDepth 20000 in
theorem gL_branch_X5_branch : GoodIn wsL_branch (wsV RL 55 RX5 yX5_branch wsX5_branch) := goodIn_app (goodIn_of _ (by decide +kernel)) ggL_branch_X5_branch
theorem dL_branch_0 : decode cL_branch 0 = .ok (.aload_n 0, 1) := by decide +kernel
theorem dL_branch_1 : decode cL_branch 1 = .ok (.iload_n 1, 1) := by decide +kernel
theorem dL_branch_2 : decode cL_branch 2 = .ok (.iload_n 2, 1) := by decide +kernel
theorem dL_branch_3 : decode cL_branch 3 = .ok (.iload_n 3, 1) := by decide +kernel
theorem dL_branch_4 : decode cL_branch 4 = .ok (.invokevirtual 55, 3) := by decide +kernel
theorem dL_branch_7 : decode cL_branch 7 = .ok (.istore 4, 2) := by decide +kernel
theorem dL_branch_9 : decode cL_branch 9 = .ok (.goto 21, 3) := by decide +kernel
theorem dL_branch_12 : decode cL_branch 12 = .ok (.astore 5, 2) := by decide +kernel
theorem dL_branch_14 : decode cL_branch 14 = .ok (.sipush (-7100), 3) := by decide +kernel
theorem dL_branch_17 : decode cL_branch 17 = .ok (.ireturn, 1) := by decide +kernel
theorem dL_branch_18 : decode cL_branch 18 = .ok (.astore 5, 2) := by decide +kernel
theorem dL_branch_20 : decode cL_branch 20 = .ok (.sipush (-7200), 3) := by decide +kernel
theorem dL_branch_23 : decode cL_branch 23 = .ok (.ireturn, 1) := by decide +kernel
theorem dL_branch_24 : decode cL_branch 24 = .ok (.astore 5, 2) := by decide +kernel
theorem dL_branch_26 : decode cL_branch 26 = .ok (.sipush (-7300), 3) := by decide +kernel
theorem dL_branch_29 : decode cL_branch 29 = .ok (.ireturn, 1) := by decide +kernel
theorem dL_branch_30 : decode cL_branch 30 = .ok (.iload 4, 2) := by decide +kernel
theorem dL_branch_32 : decode cL_branch 32 = .ok (.ireturn, 1) := by decide +kernel
set_option maxRecDepth 20000 in
theorem ggL_take_X5_take : GoodIn wsL_take wsX5_take := goodIn_ca (goodIn_ca (goodIn_ca (goodIn_r _ [11, 12, 13, 14, 15, 16, 10, 17, 18, 19, 20, 21, 22, 23, 24, 25, 26, 27, 28, 29, 30, 31, 32, 33, 34, 35, 36, 37, 38, 39, 40, 41, 42, 43, 44, 45, 46, 47, 48, 49, 50, 51, 52, 53, 54, 55, 56, 57, 58, 59, 60, 61, 62, 63, 64, 65, 66, 67, 68, 69, 70, 71, 72, 73, 74, 75, 76, 77, 78, 79, 80, 81, 82, 83, 84, 85, 86, 87, 88, 89, 90, 91, 92, 93, 94, 95, 96, 97, 98, 99, 100, 101, 102, 103, 104, 105, 106, 107, 108, 109, 110, 111, 112, 113, 114, 115, 116, 117, 118, 119, 120, 121, 122, 123, 124, 125, 126, 127, 128, 129, 130, 131, 132, 133, 134, 135, 136, 137, 138, 139, 140, 141, 142, 143, 144, 145, 146, 147, 148, 149, 150, 151, 152, 153, 154, 155, 156, 157, 158, 159, 160, 161, 162, 163, 164, 165, 166, 167, 168, 169] (by decide +kernel) (by decide +kernel)) (goodIn_sub (fun _ h => List.mem_cons_of_mem _ (List.mem_append_left _ (List.mem_append_left _ (List.mem_append_right _ h)))) (by decide +kernel))) (goodIn_sub (fun _ h => List.mem_cons_of_mem _ (List.mem_append_left _ (List.mem_append_right _ h))) (by decide +kernel))) (goodIn_sub (fun _ h => List.mem_cons_of_mem _ (List.mem_append_right _ h)) (by decide +kernel))
set_option maxRecDepth 20000 in
theorem gL_take_X5_take : GoodIn wsL_take (wsV RL 59 RX5 yX5_take wsX5_take) := goodIn_app (goodIn_of _ (by decide +kernel)) ggL_take_X5_take
theorem dL_take_0 : decode cL_take 0 = .ok (.aload_n 0, 1) := by decide +kernel
theorem dL_take_1 : decode cL_take 1 = .ok (.iload_n 1, 1) := by decide +kernel
theorem dL_take_2 : decode cL_take 2 = .ok (.iload_n 2, 1) := by decide +kernel
theorem dL_take_3 : decode cL_take 3 = .ok (.invokevirtual 59, 3) := by decide +kernel
theorem dL_take_6 : decode cL_take 6 = .ok (.lstore_n 3, 1) := by decide +kernel
theorem dL_take_7 : decode cL_take 7 = .ok (.goto 21, 3) := by decide +kernel
theorem dL_take_10 : decode cL_take 10 = .ok (.astore 5, 2) := by decide +kernel
theorem dL_take_12 : decode cL_take 12 = .ok (.ldc2_w 62, 3) := by decide +kernel
theorem dL_take_15 : decode cL_take 15 = .ok (.lreturn, 1) := by decide +kernel
theorem dL_take_16 : decode cL_take 16 = .ok (.astore 5, 2) := by decide +kernel
theorem dL_take_18 : decode cL_take 18 = .ok (.ldc2_w 43, 3) := by decide +kernel
theorem dL_take_21 : decode cL_take 21 = .ok (.lreturn, 1) := by decide +kernel
theorem dL_take_22 : decode cL_take 22 = .ok (.astore 5, 2) := by decide +kernel
theorem dL_take_24 : decode cL_take 24 = .ok (.ldc2_w 64, 3) := by decide +kernel
theorem dL_take_27 : decode cL_take 27 = .ok (.lreturn, 1) := by decide +kernel
theorem dL_take_28 : decode cL_take 28 = .ok (.lload_n 3, 1) := by decide +kernel
theorem dL_take_29 : decode cL_take 29 = .ok (.lreturn, 1) := by decide +kernel
theorem dL_sine_0 : decode cL_sine 0 = .ok (.iload_n 0, 1) := by decide +kernel
theorem dL_sine_1 : decode cL_sine 1 = .ok (.bipush 63, 2) := by decide +kernel
theorem dL_sine_3 : decode cL_sine 3 = .ok (.iand, 1) := by decide +kernel
theorem dL_sine_4 : decode cL_sine 4 = .ok (.istore_n 2, 1) := by decide +kernel
theorem dL_sine_5 : decode cL_sine 5 = .ok (.iload_n 2, 1) := by decide +kernel
theorem dL_sine_6 : decode cL_sine 6 = .ok (.bipush 32, 2) := by decide +kernel
theorem dL_sine_8 : decode cL_sine 8 = .ok (.if_icmp .le 10, 3) := by decide +kernel
theorem dL_sine_11 : decode cL_sine 11 = .ok (.bipush 64, 2) := by decide +kernel
theorem dL_sine_13 : decode cL_sine 13 = .ok (.iload_n 2, 1) := by decide +kernel
theorem dL_sine_14 : decode cL_sine 14 = .ok (.isub, 1) := by decide +kernel
theorem dL_sine_15 : decode cL_sine 15 = .ok (.goto 4, 3) := by decide +kernel
theorem dL_sine_18 : decode cL_sine 18 = .ok (.iload_n 2, 1) := by decide +kernel
theorem dL_sine_19 : decode cL_sine 19 = .ok (.istore_n 3, 1) := by decide +kernel
theorem dL_sine_20 : decode cL_sine 20 = .ok (.aload_n 1, 1) := by decide +kernel
theorem dL_sine_21 : decode cL_sine 21 = .ok (.iload_n 3, 1) := by decide +kernel
theorem dL_sine_22 : decode cL_sine 22 = .ok (.bipush 16, 2) := by decide +kernel
theorem dL_sine_24 : decode cL_sine 24 = .ok (.if_icmp .le 10, 3) := by decide +kernel
theorem dL_sine_27 : decode cL_sine 27 = .ok (.bipush 32, 2) := by decide +kernel
theorem dL_sine_29 : decode cL_sine 29 = .ok (.iload_n 3, 1) := by decide +kernel
theorem dL_sine_30 : decode cL_sine 30 = .ok (.isub, 1) := by decide +kernel
theorem dL_sine_31 : decode cL_sine 31 = .ok (.goto 4, 3) := by decide +kernel
theorem dL_sine_34 : decode cL_sine 34 = .ok (.iload_n 3, 1) := by decide +kernel
theorem dL_sine_35 : decode cL_sine 35 = .ok (.iaload, 1) := by decide +kernel
theorem dL_sine_36 : decode cL_sine 36 = .ok (.istore 4, 2) := by decide +kernel
theorem dL_sine_38 : decode cL_sine 38 = .ok (.iload_n 2, 1) := by decide +kernel
theorem dL_sine_39 : decode cL_sine 39 = .ok (.bipush 32, 2) := by decide +kernel
theorem dL_sine_41 : decode cL_sine 41 = .ok (.if_icmp .le 9, 3) := by decide +kernel
theorem dL_sine_44 : decode cL_sine 44 = .ok (.iload 4, 2) := by decide +kernel
theorem dL_sine_46 : decode cL_sine 46 = .ok (.ineg, 1) := by decide +kernel
theorem dL_sine_47 : decode cL_sine 47 = .ok (.goto 5, 3) := by decide +kernel
theorem dL_sine_50 : decode cL_sine 50 = .ok (.iload 4, 2) := by decide +kernel
theorem dL_sine_52 : decode cL_sine 52 = .ok (.ireturn, 1) := by decide +kernel
theorem dL_heading_0 : decode cL_heading 0 = .ok (.iconst 0, 1) := by decide +kernel
theorem dL_heading_1 : decode cL_heading 1 = .ok (.istore 4, 2) := by decide +kernel
theorem dL_heading_3 : decode cL_heading 3 = .ok (.iconst 0, 1) := by decide +kernel
theorem dL_heading_4 : decode cL_heading 4 = .ok (.istore 5, 2) := by decide +kernel
theorem dL_heading_6 : decode cL_heading 6 = .ok (.iload 5, 2) := by decide +kernel
theorem dL_heading_8 : decode cL_heading 8 = .ok (.iload_n 0, 1) := by decide +kernel
theorem dL_heading_9 : decode cL_heading 9 = .ok (.if_icmp .gt 43, 3) := by decide +kernel
theorem dL_heading_12 : decode cL_heading 12 = .ok (.aload_n 3, 1) := by decide +kernel
theorem dL_heading_13 : decode cL_heading 13 = .ok (.iconst 5, 1) := by decide +kernel
theorem dL_heading_14 : decode cL_heading 14 = .ok (.iload 5, 2) := by decide +kernel
theorem dL_heading_16 : decode cL_heading 16 = .ok (.imul, 1) := by decide +kernel
theorem dL_heading_17 : decode cL_heading 17 = .ok (.iaload, 1) := by decide +kernel
theorem dL_heading_18 : decode cL_heading 18 = .ok (.ifCond .ne 28, 3) := by decide +kernel
theorem dL_heading_21 : decode cL_heading 21 = .ok (.iload 4, 2) := by decide +kernel
theorem dL_heading_23 : decode cL_heading 23 = .ok (.aload_n 3, 1) := by decide +kernel
theorem dL_heading_24 : decode cL_heading 24 = .ok (.iconst 5, 1) := by decide +kernel
theorem dL_heading_25 : decode cL_heading 25 = .ok (.iload 5, 2) := by decide +kernel
theorem dL_heading_27 : decode cL_heading 27 = .ok (.imul, 1) := by decide +kernel
theorem dL_heading_28 : decode cL_heading 28 = .ok (.iconst 4, 1) := by decide +kernel
theorem dL_heading_29 : decode cL_heading 29 = .ok (.iadd, 1) := by decide +kernel
theorem dL_heading_30 : decode cL_heading 30 = .ok (.iaload, 1) := by decide +kernel
theorem dL_heading_31 : decode cL_heading 31 = .ok (.iload 5, 2) := by decide +kernel
theorem dL_heading_33 : decode cL_heading 33 = .ok (.iload_n 1, 1) := by decide +kernel
theorem dL_heading_34 : decode cL_heading 34 = .ok (.if_icmp .ne 7, 3) := by decide +kernel
theorem dL_heading_37 : decode cL_heading 37 = .ok (.iload_n 2, 1) := by decide +kernel
theorem dL_heading_38 : decode cL_heading 38 = .ok (.goto 4, 3) := by decide +kernel
theorem dL_heading_41 : decode cL_heading 41 = .ok (.iconst 0, 1) := by decide +kernel
theorem dL_heading_42 : decode cL_heading 42 = .ok (.iadd, 1) := by decide +kernel
theorem dL_heading_43 : decode cL_heading 43 = .ok (.iadd, 1) := by decide +kernel
theorem dL_heading_44 : decode cL_heading 44 = .ok (.istore 4, 2) := by decide +kernel
theorem dL_heading_46 : decode cL_heading 46 = .ok (.iinc 5 1, 3) := by decide +kernel
theorem dL_heading_49 : decode cL_heading 49 = .ok (.goto (-43), 3) := by decide +kernel
theorem dL_heading_52 : decode cL_heading 52 = .ok (.iload 4, 2) := by decide +kernel
theorem dL_heading_54 : decode cL_heading 54 = .ok (.bipush 63, 2) := by decide +kernel
theorem dL_heading_56 : decode cL_heading 56 = .ok (.iand, 1) := by decide +kernel
theorem dL_heading_57 : decode cL_heading 57 = .ok (.ireturn, 1) := by decide +kernel
set_option maxRecDepth 20000 in
theorem ggL_tips_L_heading : GoodIn wsL_tips wsL_heading := goodIn_r _ [4] (by decide +kernel) (by decide +kernel)
set_option maxRecDepth 20000 in
theorem gL_tips_L_heading : GoodIn wsL_tips (va_wsS RL 68 yL_heading wsL_heading) := goodIn_app (goodIn_of _ (by decide +kernel)) ggL_tips_L_heading
set_option maxRecDepth 20000 in
theorem ggL_tips_L_sine : GoodIn wsL_tips wsL_sine := goodIn_r _ [7] (by decide +kernel) (by decide +kernel)
set_option maxRecDepth 20000 in
theorem gL_tips_L_sine : GoodIn wsL_tips (va_wsS RL 72 yL_sine wsL_sine) := goodIn_app (goodIn_of _ (by decide +kernel)) ggL_tips_L_sine
theorem dL_tips_0 : decode cL_tips 0 = .ok (.iconst 0, 1) := by decide +kernel
theorem dL_tips_1 : decode cL_tips 1 = .ok (.istore 6, 2) := by decide +kernel
theorem dL_tips_3 : decode cL_tips 3 = .ok (.aload 4, 2) := by decide +kernel
theorem dL_tips_5 : decode cL_tips 5 = .ok (.iconst 0, 1) := by decide +kernel
theorem dL_tips_6 : decode cL_tips 6 = .ok (.iaload, 1) := by decide +kernel
theorem dL_tips_7 : decode cL_tips 7 = .ok (.iconst 1, 1) := by decide +kernel
theorem dL_tips_8 : decode cL_tips 8 = .ok (.isub, 1) := by decide +kernel
theorem dL_tips_9 : decode cL_tips 9 = .ok (.istore 7, 2) := by decide +kernel
theorem dL_tips_11 : decode cL_tips 11 = .ok (.iload 7, 2) := by decide +kernel
theorem dL_tips_13 : decode cL_tips 13 = .ok (.ifCond .lt 86, 3) := by decide +kernel
theorem dL_tips_16 : decode cL_tips 16 = .ok (.aload_n 3, 1) := by decide +kernel
theorem dL_tips_17 : decode cL_tips 17 = .ok (.iconst 5, 1) := by decide +kernel
theorem dL_tips_18 : decode cL_tips 18 = .ok (.iload 7, 2) := by decide +kernel
theorem dL_tips_20 : decode cL_tips 20 = .ok (.imul, 1) := by decide +kernel
theorem dL_tips_21 : decode cL_tips 21 = .ok (.iconst 1, 1) := by decide +kernel
theorem dL_tips_22 : decode cL_tips 22 = .ok (.iadd, 1) := by decide +kernel
theorem dL_tips_23 : decode cL_tips 23 = .ok (.iaload, 1) := by decide +kernel
theorem dL_tips_24 : decode cL_tips 24 = .ok (.aload_n 3, 1) := by decide +kernel
theorem dL_tips_25 : decode cL_tips 25 = .ok (.iconst 5, 1) := by decide +kernel
theorem dL_tips_26 : decode cL_tips 26 = .ok (.iload 7, 2) := by decide +kernel
theorem dL_tips_28 : decode cL_tips 28 = .ok (.imul, 1) := by decide +kernel
theorem dL_tips_29 : decode cL_tips 29 = .ok (.iaload, 1) := by decide +kernel
theorem dL_tips_30 : decode cL_tips 30 = .ok (.iconst 1, 1) := by decide +kernel
theorem dL_tips_31 : decode cL_tips 31 = .ok (.if_icmp .ne 26, 3) := by decide +kernel
theorem dL_tips_34 : decode cL_tips 34 = .ok (.aload_n 3, 1) := by decide +kernel
theorem dL_tips_35 : decode cL_tips 35 = .ok (.iconst 5, 1) := by decide +kernel
theorem dL_tips_36 : decode cL_tips 36 = .ok (.iload 7, 2) := by decide +kernel
theorem dL_tips_38 : decode cL_tips 38 = .ok (.imul, 1) := by decide +kernel
theorem dL_tips_39 : decode cL_tips 39 = .ok (.iconst 4, 1) := by decide +kernel
theorem dL_tips_40 : decode cL_tips 40 = .ok (.iadd, 1) := by decide +kernel
theorem dL_tips_41 : decode cL_tips 41 = .ok (.iaload, 1) := by decide +kernel
theorem dL_tips_42 : decode cL_tips 42 = .ok (.iload 7, 2) := by decide +kernel
theorem dL_tips_44 : decode cL_tips 44 = .ok (.iload_n 1, 1) := by decide +kernel
theorem dL_tips_45 : decode cL_tips 45 = .ok (.if_icmp .ne 7, 3) := by decide +kernel
theorem dL_tips_48 : decode cL_tips 48 = .ok (.iload_n 2, 1) := by decide +kernel
theorem dL_tips_49 : decode cL_tips 49 = .ok (.goto 4, 3) := by decide +kernel
theorem dL_tips_52 : decode cL_tips 52 = .ok (.iconst 0, 1) := by decide +kernel
theorem dL_tips_53 : decode cL_tips 53 = .ok (.iadd, 1) := by decide +kernel
theorem dL_tips_54 : decode cL_tips 54 = .ok (.goto 4, 3) := by decide +kernel
theorem dL_tips_57 : decode cL_tips 57 = .ok (.iconst 0, 1) := by decide +kernel
theorem dL_tips_58 : decode cL_tips 58 = .ok (.iadd, 1) := by decide +kernel
theorem dL_tips_59 : decode cL_tips 59 = .ok (.istore 8, 2) := by decide +kernel
theorem dL_tips_61 : decode cL_tips 61 = .ok (.iload 6, 2) := by decide +kernel
theorem dL_tips_63 : decode cL_tips 63 = .ok (.iload 8, 2) := by decide +kernel
theorem dL_tips_65 : decode cL_tips 65 = .ok (.iload 7, 2) := by decide +kernel
theorem dL_tips_67 : decode cL_tips 67 = .ok (.iload_n 1, 1) := by decide +kernel
theorem dL_tips_68 : decode cL_tips 68 = .ok (.iload_n 2, 1) := by decide +kernel
