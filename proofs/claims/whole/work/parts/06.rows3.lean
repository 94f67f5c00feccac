theorem dX5_take_20 : decode cX5_take 20 = .ok (.getfield 10, 3) := by decide +kernel
theorem dX5_take_23 : decode cX5_take 23 = .ok (.getfield 83, 3) := by decide +kernel
theorem dX5_take_26 : decode cX5_take 26 = .ok (.iload_n 3, 1) := by decide +kernel
theorem dX5_take_27 : decode cX5_take 27 = .ok (.aload_n 0, 1) := by decide +kernel
theorem dX5_take_28 : decode cX5_take 28 = .ok (.getfield 36, 3) := by decide +kernel
theorem dX5_take_31 : decode cX5_take 31 = .ok (.getfield 162, 3) := by decide +kernel
theorem dX5_take_34 : decode cX5_take 34 = .ok (.iload_n 1, 1) := by decide +kernel
theorem dX5_take_35 : decode cX5_take 35 = .ok (.iload_n 3, 1) := by decide +kernel
theorem dX5_take_36 : decode cX5_take 36 = .ok (.invokevirtual 174, 3) := by decide +kernel
theorem dX5_take_39 : decode cX5_take 39 = .ok (.iastore, 1) := by decide +kernel
theorem dX5_take_40 : decode cX5_take 40 = .ok (.iinc 3 1, 3) := by decide +kernel
theorem dX5_take_43 : decode cX5_take 43 = .ok (.goto (-35), 3) := by decide +kernel
theorem dX5_take_46 : decode cX5_take 46 = .ok (.aload_n 0, 1) := by decide +kernel
theorem dX5_take_47 : decode cX5_take 47 = .ok (.invokevirtual 132, 3) := by decide +kernel
theorem dX5_take_50 : decode cX5_take 50 = .ok (.lreturn, 1) := by decide +kernel
theorem dX5_checkJoint_0 : decode cX5_checkJoint 0 = .ok (.iload_n 1, 1) := by decide +kernel
theorem dX5_checkJoint_1 : decode cX5_checkJoint 1 = .ok (.ifCond .lt 14, 3) := by decide +kernel
theorem dX5_checkJoint_4 : decode cX5_checkJoint 4 = .ok (.iload_n 1, 1) := by decide +kernel
theorem dX5_checkJoint_5 : decode cX5_checkJoint 5 = .ok (.aload_n 0, 1) := by decide +kernel
theorem dX5_checkJoint_6 : decode cX5_checkJoint 6 = .ok (.getfield 10, 3) := by decide +kernel
theorem dX5_checkJoint_9 : decode cX5_checkJoint 9 = .ok (.getfield 108, 3) := by decide +kernel
theorem dX5_checkJoint_12 : decode cX5_checkJoint 12 = .ok (.if_icmp .lt 13, 3) := by decide +kernel
theorem dX5_checkJoint_15 : decode cX5_checkJoint 15 = .ok (.new 178, 3) := by decide +kernel
theorem dX5_checkJoint_18 : decode cX5_checkJoint 18 = .ok (.dup, 1) := by decide +kernel
theorem dX5_checkJoint_19 : decode cX5_checkJoint 19 = .ok (.ldc 180, 2) := by decide +kernel
theorem dX5_checkJoint_21 : decode cX5_checkJoint 21 = .ok (.invokespecial 182, 3) := by decide +kernel
theorem dX5_checkJoint_24 : decode cX5_checkJoint 24 = .ok (.athrow, 1) := by decide +kernel
theorem dX5_checkJoint_25 : decode cX5_checkJoint 25 = .ok (.return_, 1) := by decide +kernel
theorem dX5_checkTold_0 : decode cX5_checkTold 0 = .ok (.iload_n 0, 1) := by decide +kernel
theorem dX5_checkTold_1 : decode cX5_checkTold 1 = .ok (.ifCond .lt 8, 3) := by decide +kernel
theorem dX5_checkTold_4 : decode cX5_checkTold 4 = .ok (.iload_n 0, 1) := by decide +kernel
theorem dX5_checkTold_5 : decode cX5_checkTold 5 = .ok (.iload_n 1, 1) := by decide +kernel
theorem dX5_checkTold_6 : decode cX5_checkTold 6 = .ok (.if_icmp .le 13, 3) := by decide +kernel
theorem dX5_checkTold_9 : decode cX5_checkTold 9 = .ok (.new 47, 3) := by decide +kernel
theorem dX5_checkTold_12 : decode cX5_checkTold 12 = .ok (.dup, 1) := by decide +kernel
theorem dX5_checkTold_13 : decode cX5_checkTold 13 = .ok (.ldc 183, 2) := by decide +kernel
theorem dX5_checkTold_15 : decode cX5_checkTold 15 = .ok (.invokespecial 51, 3) := by decide +kernel
theorem dX5_checkTold_18 : decode cX5_checkTold 18 = .ok (.athrow, 1) := by decide +kernel
theorem dX5_checkTold_19 : decode cX5_checkTold 19 = .ok (.return_, 1) := by decide +kernel
set_option maxRecDepth 20000 in
theorem ggX5_farNow_X4_follow : GoodIn wsX5_farNow wsX4_follow := goodIn_r _ [7, 8, 9, 10, 5, 11, 12, 13, 14, 15, 16, 17, 18, 19, 20, 21, 22, 23, 24, 25, 26, 27, 28, 29, 30, 31, 32, 33, 34, 35, 36, 37, 38, 55, 56, 57, 58, 59, 60, 52, 53, 54] (by decide +kernel) (by decide +kernel)
set_option maxRecDepth 20000 in
theorem gX5_farNow_X4_follow_n90 : GoodIn wsX5_farNow (wsX4_follow) := ggX5_farNow_X4_follow
set_option maxRecDepth 20000 in
theorem ggX5_farNow_X1_farFrom : GoodIn wsX5_farNow wsX1_farFrom := goodIn_r _ [42, 43, 44, 61, 62, 63] (by decide +kernel) (by decide +kernel)
set_option maxRecDepth 20000 in
theorem gX5_farNow_X1_farFrom_n187 : GoodIn wsX5_farNow (wsX1_farFrom) := ggX5_farNow_X1_farFrom
theorem dX5_farNow_0 : decode cX5_farNow 0 = .ok (.aload_n 0, 1) := by decide +kernel
theorem dX5_farNow_1 : decode cX5_farNow 1 = .ok (.getfield 26, 3) := by decide +kernel
theorem dX5_farNow_4 : decode cX5_farNow 4 = .ok (.aload_n 0, 1) := by decide +kernel
theorem dX5_farNow_5 : decode cX5_farNow 5 = .ok (.getfield 10, 3) := by decide +kernel
theorem dX5_farNow_8 : decode cX5_farNow 8 = .ok (.invokevirtual 90, 3) := by decide +kernel
theorem dX5_farNow_11 : decode cX5_farNow 11 = .ok (.aload_n 0, 1) := by decide +kernel
theorem dX5_farNow_12 : decode cX5_farNow 12 = .ok (.getfield 19, 3) := by decide +kernel
theorem dX5_farNow_15 : decode cX5_farNow 15 = .ok (.aload_n 0, 1) := by decide +kernel
theorem dX5_farNow_16 : decode cX5_farNow 16 = .ok (.getfield 26, 3) := by decide +kernel
theorem dX5_farNow_19 : decode cX5_farNow 19 = .ok (.getfield 185, 3) := by decide +kernel
theorem dX5_farNow_22 : decode cX5_farNow 22 = .ok (.aload_n 0, 1) := by decide +kernel
theorem dX5_farNow_23 : decode cX5_farNow 23 = .ok (.getfield 26, 3) := by decide +kernel
theorem dX5_farNow_26 : decode cX5_farNow 26 = .ok (.getfield 186, 3) := by decide +kernel
theorem dX5_farNow_29 : decode cX5_farNow 29 = .ok (.invokevirtual 187, 3) := by decide +kernel
theorem dX5_farNow_32 : decode cX5_farNow 32 = .ok (.lreturn, 1) := by decide +kernel
set_option maxRecDepth 20000 in
theorem ggX5_farWith_X4_followWith : GoodIn wsX5_farWith wsX4_followWith := goodIn_r _ [7, 8, 9, 10, 11, 5, 12, 13, 14, 15, 16, 17, 18, 19, 20, 21, 22, 23, 24, 25, 26, 27, 28, 29, 30, 31, 32, 33, 34, 51, 52, 53, 54, 55, 56, 48, 49, 50] (by decide +kernel) (by decide +kernel)
set_option maxRecDepth 20000 in
theorem gX5_farWith_X4_followWith_n101 : GoodIn wsX5_farWith (wsX4_followWith) := ggX5_farWith_X4_followWith
set_option maxRecDepth 20000 in
theorem ggX5_farWith_X1_farFrom : GoodIn wsX5_farWith wsX1_farFrom := goodIn_r _ [38, 39, 40, 57, 58, 59] (by decide +kernel) (by decide +kernel)
set_option maxRecDepth 20000 in
theorem gX5_farWith_X1_farFrom_n187 : GoodIn wsX5_farWith (wsX1_farFrom) := ggX5_farWith_X1_farFrom
theorem dX5_farWith_0 : decode cX5_farWith 0 = .ok (.aload_n 0, 1) := by decide +kernel
theorem dX5_farWith_1 : decode cX5_farWith 1 = .ok (.getfield 30, 3) := by decide +kernel
theorem dX5_farWith_4 : decode cX5_farWith 4 = .ok (.aload_n 0, 1) := by decide +kernel
theorem dX5_farWith_5 : decode cX5_farWith 5 = .ok (.getfield 10, 3) := by decide +kernel
theorem dX5_farWith_8 : decode cX5_farWith 8 = .ok (.iload_n 1, 1) := by decide +kernel
theorem dX5_farWith_9 : decode cX5_farWith 9 = .ok (.iload_n 2, 1) := by decide +kernel
theorem dX5_farWith_10 : decode cX5_farWith 10 = .ok (.invokevirtual 101, 3) := by decide +kernel
theorem dX5_farWith_13 : decode cX5_farWith 13 = .ok (.aload_n 0, 1) := by decide +kernel
theorem dX5_farWith_14 : decode cX5_farWith 14 = .ok (.getfield 19, 3) := by decide +kernel
theorem dX5_farWith_17 : decode cX5_farWith 17 = .ok (.aload_n 0, 1) := by decide +kernel
theorem dX5_farWith_18 : decode cX5_farWith 18 = .ok (.getfield 30, 3) := by decide +kernel
theorem dX5_farWith_21 : decode cX5_farWith 21 = .ok (.getfield 185, 3) := by decide +kernel
theorem dX5_farWith_24 : decode cX5_farWith 24 = .ok (.aload_n 0, 1) := by decide +kernel
theorem dX5_farWith_25 : decode cX5_farWith 25 = .ok (.getfield 30, 3) := by decide +kernel
theorem dX5_farWith_28 : decode cX5_farWith 28 = .ok (.getfield 186, 3) := by decide +kernel
theorem dX5_farWith_31 : decode cX5_farWith 31 = .ok (.invokevirtual 187, 3) := by decide +kernel
theorem dX5_farWith_34 : decode cX5_farWith 34 = .ok (.lreturn, 1) := by decide +kernel
set_option maxRecDepth 20000 in
theorem ggX5_findMoves_X4_follow : GoodIn wsX5_findMoves wsX4_follow := goodIn_r _ [9, 10, 11, 12, 7, 13, 14, 15, 16, 17, 18, 19, 20, 21, 22, 23, 24, 25, 26, 27, 28, 29, 30, 31, 32, 33, 34, 35, 36, 37, 38, 39, 40, 48, 49, 50, 51, 52, 53, 54, 55, 56] (by decide +kernel) (by decide +kernel)
set_option maxRecDepth 20000 in
theorem gX5_findMoves_X4_follow_n90 : GoodIn wsX5_findMoves (wsX4_follow) := ggX5_findMoves_X4_follow
set_option maxRecDepth 20000 in
theorem ggX5_findMoves_X4_followWith : GoodIn wsX5_findMoves wsX4_followWith := goodIn_r _ [13, 14, 15, 16, 17, 7, 18, 19, 20, 21, 22, 23, 24, 25, 26, 27, 28, 29, 30, 31, 32, 33, 34, 35, 36, 37, 38, 39, 40, 48, 49, 50, 51, 52, 53, 54, 55, 56] (by decide +kernel) (by decide +kernel)
set_option maxRecDepth 20000 in
theorem gX5_findMoves_X4_followWith_n101 : GoodIn wsX5_findMoves (wsX4_followWith) := ggX5_findMoves_X4_followWith
theorem dX5_findMoves_0 : decode cX5_findMoves 0 = .ok (.aload_n 0, 1) := by decide +kernel
theorem dX5_findMoves_1 : decode cX5_findMoves 1 = .ok (.getfield 26, 3) := by decide +kernel
theorem dX5_findMoves_4 : decode cX5_findMoves 4 = .ok (.aload_n 0, 1) := by decide +kernel
theorem dX5_findMoves_5 : decode cX5_findMoves 5 = .ok (.getfield 10, 3) := by decide +kernel
theorem dX5_findMoves_8 : decode cX5_findMoves 8 = .ok (.invokevirtual 90, 3) := by decide +kernel
theorem dX5_findMoves_11 : decode cX5_findMoves 11 = .ok (.iconst 0, 1) := by decide +kernel
theorem dX5_findMoves_12 : decode cX5_findMoves 12 = .ok (.istore_n 1, 1) := by decide +kernel
theorem dX5_findMoves_13 : decode cX5_findMoves 13 = .ok (.iload_n 1, 1) := by decide +kernel
theorem dX5_findMoves_14 : decode cX5_findMoves 14 = .ok (.aload_n 0, 1) := by decide +kernel
theorem dX5_findMoves_15 : decode cX5_findMoves 15 = .ok (.getfield 10, 3) := by decide +kernel
theorem dX5_findMoves_18 : decode cX5_findMoves 18 = .ok (.getfield 108, 3) := by decide +kernel
theorem dX5_findMoves_21 : decode cX5_findMoves 21 = .ok (.if_icmp .ge 74, 3) := by decide +kernel
theorem dX5_findMoves_24 : decode cX5_findMoves 24 = .ok (.aload_n 0, 1) := by decide +kernel
theorem dX5_findMoves_25 : decode cX5_findMoves 25 = .ok (.getfield 30, 3) := by decide +kernel
theorem dX5_findMoves_28 : decode cX5_findMoves 28 = .ok (.aload_n 0, 1) := by decide +kernel
theorem dX5_findMoves_29 : decode cX5_findMoves 29 = .ok (.getfield 10, 3) := by decide +kernel
theorem dX5_findMoves_32 : decode cX5_findMoves 32 = .ok (.iload_n 1, 1) := by decide +kernel
theorem dX5_findMoves_33 : decode cX5_findMoves 33 = .ok (.aload_n 0, 1) := by decide +kernel
theorem dX5_findMoves_34 : decode cX5_findMoves 34 = .ok (.getfield 10, 3) := by decide +kernel
theorem dX5_findMoves_37 : decode cX5_findMoves 37 = .ok (.getfield 83, 3) := by decide +kernel
theorem dX5_findMoves_40 : decode cX5_findMoves 40 = .ok (.iload_n 1, 1) := by decide +kernel
theorem dX5_findMoves_41 : decode cX5_findMoves 41 = .ok (.iaload, 1) := by decide +kernel
theorem dX5_findMoves_42 : decode cX5_findMoves 42 = .ok (.iconst 1, 1) := by decide +kernel
theorem dX5_findMoves_43 : decode cX5_findMoves 43 = .ok (.iadd, 1) := by decide +kernel
theorem dX5_findMoves_44 : decode cX5_findMoves 44 = .ok (.invokevirtual 101, 3) := by decide +kernel
theorem dX5_findMoves_47 : decode cX5_findMoves 47 = .ok (.aload_n 0, 1) := by decide +kernel
theorem dX5_findMoves_48 : decode cX5_findMoves 48 = .ok (.getfield 40, 3) := by decide +kernel
theorem dX5_findMoves_51 : decode cX5_findMoves 51 = .ok (.iload_n 1, 1) := by decide +kernel
theorem dX5_findMoves_52 : decode cX5_findMoves 52 = .ok (.aload_n 0, 1) := by decide +kernel
theorem dX5_findMoves_53 : decode cX5_findMoves 53 = .ok (.getfield 30, 3) := by decide +kernel
theorem dX5_findMoves_56 : decode cX5_findMoves 56 = .ok (.getfield 185, 3) := by decide +kernel
theorem dX5_findMoves_59 : decode cX5_findMoves 59 = .ok (.aload_n 0, 1) := by decide +kernel
theorem dX5_findMoves_60 : decode cX5_findMoves 60 = .ok (.getfield 26, 3) := by decide +kernel
theorem dX5_findMoves_63 : decode cX5_findMoves 63 = .ok (.getfield 185, 3) := by decide +kernel
theorem dX5_findMoves_66 : decode cX5_findMoves 66 = .ok (.isub, 1) := by decide +kernel
theorem dX5_findMoves_67 : decode cX5_findMoves 67 = .ok (.iastore, 1) := by decide +kernel
theorem dX5_findMoves_68 : decode cX5_findMoves 68 = .ok (.aload_n 0, 1) := by decide +kernel
theorem dX5_findMoves_69 : decode cX5_findMoves 69 = .ok (.getfield 44, 3) := by decide +kernel
theorem dX5_findMoves_72 : decode cX5_findMoves 72 = .ok (.iload_n 1, 1) := by decide +kernel
theorem dX5_findMoves_73 : decode cX5_findMoves 73 = .ok (.aload_n 0, 1) := by decide +kernel
theorem dX5_findMoves_74 : decode cX5_findMoves 74 = .ok (.getfield 30, 3) := by decide +kernel
theorem dX5_findMoves_77 : decode cX5_findMoves 77 = .ok (.getfield 186, 3) := by decide +kernel
theorem dX5_findMoves_80 : decode cX5_findMoves 80 = .ok (.aload_n 0, 1) := by decide +kernel
theorem dX5_findMoves_81 : decode cX5_findMoves 81 = .ok (.getfield 26, 3) := by decide +kernel
theorem dX5_findMoves_84 : decode cX5_findMoves 84 = .ok (.getfield 186, 3) := by decide +kernel
theorem dX5_findMoves_87 : decode cX5_findMoves 87 = .ok (.isub, 1) := by decide +kernel
theorem dX5_findMoves_88 : decode cX5_findMoves 88 = .ok (.iastore, 1) := by decide +kernel
theorem dX5_findMoves_89 : decode cX5_findMoves 89 = .ok (.iinc 1 1, 3) := by decide +kernel
theorem dX5_findMoves_92 : decode cX5_findMoves 92 = .ok (.goto (-79), 3) := by decide +kernel
theorem dX5_findMoves_95 : decode cX5_findMoves 95 = .ok (.return_, 1) := by decide +kernel
set_option maxRecDepth 20000 in
theorem ggX5_stepped_X5_farNow : GoodIn wsX5_stepped wsX5_farNow := goodIn_r _ [6, 7, 1, 8, 9, 10, 11, 12, 13, 14, 15, 16, 17, 18, 19, 20, 21, 22, 23, 24, 25, 26, 27, 28, 29, 30, 31, 32, 33, 34, 35, 36, 37, 5, 38, 39, 40, 41, 42, 43, 44, 45, 46, 47, 48, 66, 67, 68, 69, 70, 71, 72, 79, 80, 81, 73, 74, 75, 76, 77, 78, 82, 83, 84] (by decide +kernel) (by decide +kernel)
set_option maxRecDepth 20000 in
theorem gX5_stepped_X5_farNow : GoodIn wsX5_stepped (wsV RX5 132 RX5 yX5_farNow wsX5_farNow) := goodIn_app (goodIn_of _ (by decide +kernel)) ggX5_stepped_X5_farNow
set_option maxRecDepth 20000 in
theorem ggX5_stepped_X0_held : GoodIn wsX5_stepped wsX0_held := goodIn_r _ [51, 52, 53, 54, 55, 56, 57, 58, 59, 60, 73, 74, 75, 76, 77, 78] (by decide +kernel) (by decide +kernel)
set_option maxRecDepth 20000 in
theorem gX5_stepped_X0_held_n190 : GoodIn wsX5_stepped (wsX0_held) := ggX5_stepped_X0_held
set_option maxRecDepth 20000 in
theorem ggX5_stepped_X5_farWith : GoodIn wsX5_stepped wsX5_farWith := goodIn_r _ [64, 65, 1, 8, 14, 10, 15, 16, 17, 18, 19, 20, 21, 22, 23, 24, 25, 26, 27, 28, 29, 30, 31, 32, 33, 34, 35, 36, 37, 5, 38, 39, 40, 41, 42, 43, 44, 45, 46, 47, 48, 66, 67, 68, 69, 70, 71, 72, 79, 80, 81, 73, 74, 75, 76, 77, 78, 82, 83, 84] (by decide +kernel) (by decide +kernel)
set_option maxRecDepth 20000 in
theorem gX5_stepped_X5_farWith : GoodIn wsX5_stepped (wsV RX5 142 RX5 yX5_farWith wsX5_farWith) := goodIn_app (goodIn_of _ (by decide +kernel)) ggX5_stepped_X5_farWith
theorem dX5_stepped_0 : decode cX5_stepped 0 = .ok (.aload_n 0, 1) := by decide +kernel
theorem dX5_stepped_1 : decode cX5_stepped 1 = .ok (.invokevirtual 132, 3) := by decide +kernel
theorem dX5_stepped_4 : decode cX5_stepped 4 = .ok (.lstore_n 2, 1) := by decide +kernel
theorem dX5_stepped_5 : decode cX5_stepped 5 = .ok (.iconst (-1), 1) := by decide +kernel
theorem dX5_stepped_6 : decode cX5_stepped 6 = .ok (.istore 4, 2) := by decide +kernel
theorem dX5_stepped_8 : decode cX5_stepped 8 = .ok (.iconst 0, 1) := by decide +kernel
theorem dX5_stepped_9 : decode cX5_stepped 9 = .ok (.istore 5, 2) := by decide +kernel
theorem dX5_stepped_11 : decode cX5_stepped 11 = .ok (.iconst 0, 1) := by decide +kernel
theorem dX5_stepped_12 : decode cX5_stepped 12 = .ok (.istore 6, 2) := by decide +kernel
theorem dX5_stepped_14 : decode cX5_stepped 14 = .ok (.iload 6, 2) := by decide +kernel
theorem dX5_stepped_16 : decode cX5_stepped 16 = .ok (.aload_n 0, 1) := by decide +kernel
theorem dX5_stepped_17 : decode cX5_stepped 17 = .ok (.getfield 10, 3) := by decide +kernel
theorem dX5_stepped_20 : decode cX5_stepped 20 = .ok (.getfield 108, 3) := by decide +kernel
theorem dX5_stepped_23 : decode cX5_stepped 23 = .ok (.if_icmp .ge 78, 3) := by decide +kernel
theorem dX5_stepped_26 : decode cX5_stepped 26 = .ok (.iconst (-1), 1) := by decide +kernel
theorem dX5_stepped_27 : decode cX5_stepped 27 = .ok (.istore 7, 2) := by decide +kernel
theorem dX5_stepped_29 : decode cX5_stepped 29 = .ok (.iload 7, 2) := by decide +kernel
theorem dX5_stepped_31 : decode cX5_stepped 31 = .ok (.iconst 1, 1) := by decide +kernel
theorem dX5_stepped_32 : decode cX5_stepped 32 = .ok (.if_icmp .gt 63, 3) := by decide +kernel
theorem dX5_stepped_35 : decode cX5_stepped 35 = .ok (.aload_n 0, 1) := by decide +kernel
theorem dX5_stepped_36 : decode cX5_stepped 36 = .ok (.getfield 10, 3) := by decide +kernel
theorem dX5_stepped_39 : decode cX5_stepped 39 = .ok (.iload 6, 2) := by decide +kernel
theorem dX5_stepped_41 : decode cX5_stepped 41 = .ok (.aload_n 0, 1) := by decide +kernel
theorem dX5_stepped_42 : decode cX5_stepped 42 = .ok (.getfield 10, 3) := by decide +kernel
theorem dX5_stepped_45 : decode cX5_stepped 45 = .ok (.getfield 83, 3) := by decide +kernel
theorem dX5_stepped_48 : decode cX5_stepped 48 = .ok (.iload 6, 2) := by decide +kernel
theorem dX5_stepped_50 : decode cX5_stepped 50 = .ok (.iaload, 1) := by decide +kernel
theorem dX5_stepped_51 : decode cX5_stepped 51 = .ok (.iload 7, 2) := by decide +kernel
theorem dX5_stepped_53 : decode cX5_stepped 53 = .ok (.iload_n 1, 1) := by decide +kernel
theorem dX5_stepped_54 : decode cX5_stepped 54 = .ok (.imul, 1) := by decide +kernel
theorem dX5_stepped_55 : decode cX5_stepped 55 = .ok (.iadd, 1) := by decide +kernel
theorem dX5_stepped_56 : decode cX5_stepped 56 = .ok (.invokevirtual 190, 3) := by decide +kernel
theorem dX5_stepped_59 : decode cX5_stepped 59 = .ok (.istore 8, 2) := by decide +kernel
theorem dX5_stepped_61 : decode cX5_stepped 61 = .ok (.aload_n 0, 1) := by decide +kernel
theorem dX5_stepped_62 : decode cX5_stepped 62 = .ok (.iload 6, 2) := by decide +kernel
theorem dX5_stepped_64 : decode cX5_stepped 64 = .ok (.iload 8, 2) := by decide +kernel
theorem dX5_stepped_66 : decode cX5_stepped 66 = .ok (.invokevirtual 142, 3) := by decide +kernel
theorem dX5_stepped_69 : decode cX5_stepped 69 = .ok (.lstore 9, 2) := by decide +kernel
theorem dX5_stepped_71 : decode cX5_stepped 71 = .ok (.lload 9, 2) := by decide +kernel
theorem dX5_stepped_73 : decode cX5_stepped 73 = .ok (.lload_n 2, 1) := by decide +kernel
theorem dX5_stepped_74 : decode cX5_stepped 74 = .ok (.lcmp, 1) := by decide +kernel
theorem dX5_stepped_75 : decode cX5_stepped 75 = .ok (.ifCond .ge 14, 3) := by decide +kernel
theorem dX5_stepped_78 : decode cX5_stepped 78 = .ok (.lload 9, 2) := by decide +kernel
theorem dX5_stepped_80 : decode cX5_stepped 80 = .ok (.lstore_n 2, 1) := by decide +kernel
theorem dX5_stepped_81 : decode cX5_stepped 81 = .ok (.iload 6, 2) := by decide +kernel
theorem dX5_stepped_83 : decode cX5_stepped 83 = .ok (.istore 4, 2) := by decide +kernel
theorem dX5_stepped_85 : decode cX5_stepped 85 = .ok (.iload 8, 2) := by decide +kernel
theorem dX5_stepped_87 : decode cX5_stepped 87 = .ok (.istore 5, 2) := by decide +kernel
theorem dX5_stepped_89 : decode cX5_stepped 89 = .ok (.iinc 7 2, 3) := by decide +kernel
theorem dX5_stepped_92 : decode cX5_stepped 92 = .ok (.goto (-63), 3) := by decide +kernel
theorem dX5_stepped_95 : decode cX5_stepped 95 = .ok (.iinc 6 1, 3) := by decide +kernel
theorem dX5_stepped_98 : decode cX5_stepped 98 = .ok (.goto (-84), 3) := by decide +kernel
theorem dX5_stepped_101 : decode cX5_stepped 101 = .ok (.iload 4, 2) := by decide +kernel
theorem dX5_stepped_103 : decode cX5_stepped 103 = .ok (.iconst (-1), 1) := by decide +kernel
theorem dX5_stepped_104 : decode cX5_stepped 104 = .ok (.if_icmp .ne 5, 3) := by decide +kernel
theorem dX5_stepped_107 : decode cX5_stepped 107 = .ok (.iconst 0, 1) := by decide +kernel
theorem dX5_stepped_108 : decode cX5_stepped 108 = .ok (.ireturn, 1) := by decide +kernel
theorem dX5_stepped_109 : decode cX5_stepped 109 = .ok (.aload_n 0, 1) := by decide +kernel
theorem dX5_stepped_110 : decode cX5_stepped 110 = .ok (.getfield 10, 3) := by decide +kernel
theorem dX5_stepped_113 : decode cX5_stepped 113 = .ok (.getfield 83, 3) := by decide +kernel
theorem dX5_stepped_116 : decode cX5_stepped 116 = .ok (.iload 4, 2) := by decide +kernel
theorem dX5_stepped_118 : decode cX5_stepped 118 = .ok (.iload 5, 2) := by decide +kernel
theorem dX5_stepped_120 : decode cX5_stepped 120 = .ok (.iastore, 1) := by decide +kernel
theorem dX5_stepped_121 : decode cX5_stepped 121 = .ok (.iconst 1, 1) := by decide +kernel
theorem dX5_stepped_122 : decode cX5_stepped 122 = .ok (.ireturn, 1) := by decide +kernel
set_option maxRecDepth 20000 in
theorem ggX5_findBranch_X0_countPoses : GoodIn wsX5_findBranch wsX0_countPoses := goodIn_r _ [14, 15, 16, 17, 117, 118, 119, 120, 121, 122] (by decide +kernel) (by decide +kernel)
set_option maxRecDepth 20000 in
theorem gX5_findBranch_X0_countPoses_n151 : GoodIn wsX5_findBranch (wsX0_countPoses) := ggX5_findBranch_X0_countPoses
set_option maxRecDepth 20000 in
theorem ggX5_findBranch_X3_run : GoodIn wsX5_findBranch wsX3_run := goodIn_r _ [21, 22, 23, 24, 25, 26, 27, 28, 29, 30, 19, 31, 32, 33, 12, 34, 35, 36, 37, 38, 39, 40, 41, 42, 43, 44, 45, 46, 47, 48, 49, 50, 51, 52, 53, 54, 55, 56, 57, 58, 59, 60, 61, 62, 63, 64, 65, 66, 67, 68, 69, 70, 71, 72, 73, 74, 75, 76, 77, 78, 79, 80, 81, 82, 83, 84, 85, 86, 87, 88, 89, 90, 91, 92, 93, 94, 95, 96, 97, 98, 99, 107, 108, 109, 110, 111, 112, 113, 117, 118, 119, 120, 121, 122, 114, 115, 116, 123, 124, 125] (by decide +kernel) (by decide +kernel)
set_option maxRecDepth 20000 in
theorem gX5_findBranch_X3_run_n158 : GoodIn wsX5_findBranch (wsX3_run) := ggX5_findBranch_X3_run
theorem dX5_findBranch_0 : decode cX5_findBranch 0 = .ok (.iload_n 1, 1) := by decide +kernel
theorem dX5_findBranch_1 : decode cX5_findBranch 1 = .ok (.ifCond .lt 9, 3) := by decide +kernel
theorem dX5_findBranch_4 : decode cX5_findBranch 4 = .ok (.iload_n 1, 1) := by decide +kernel
theorem dX5_findBranch_5 : decode cX5_findBranch 5 = .ok (.bipush 10, 2) := by decide +kernel
theorem dX5_findBranch_7 : decode cX5_findBranch 7 = .ok (.if_icmp .lt 13, 3) := by decide +kernel
theorem dX5_findBranch_10 : decode cX5_findBranch 10 = .ok (.new 178, 3) := by decide +kernel
theorem dX5_findBranch_13 : decode cX5_findBranch 13 = .ok (.dup, 1) := by decide +kernel
theorem dX5_findBranch_14 : decode cX5_findBranch 14 = .ok (.ldc 193, 2) := by decide +kernel
theorem dX5_findBranch_16 : decode cX5_findBranch 16 = .ok (.invokespecial 182, 3) := by decide +kernel
theorem dX5_findBranch_19 : decode cX5_findBranch 19 = .ok (.athrow, 1) := by decide +kernel
theorem dX5_findBranch_20 : decode cX5_findBranch 20 = .ok (.aload_n 0, 1) := by decide +kernel
theorem dX5_findBranch_21 : decode cX5_findBranch 21 = .ok (.getfield 10, 3) := by decide +kernel
theorem dX5_findBranch_24 : decode cX5_findBranch 24 = .ok (.invokevirtual 151, 3) := by decide +kernel
theorem dX5_findBranch_27 : decode cX5_findBranch 27 = .ok (.ldc2_w 154, 3) := by decide +kernel
theorem dX5_findBranch_30 : decode cX5_findBranch 30 = .ok (.lcmp, 1) := by decide +kernel
theorem dX5_findBranch_31 : decode cX5_findBranch 31 = .ok (.ifCond .gt 7, 3) := by decide +kernel
theorem dX5_findBranch_34 : decode cX5_findBranch 34 = .ok (.iconst 1, 1) := by decide +kernel
theorem dX5_findBranch_35 : decode cX5_findBranch 35 = .ok (.goto 4, 3) := by decide +kernel
theorem dX5_findBranch_38 : decode cX5_findBranch 38 = .ok (.iconst 0, 1) := by decide +kernel
theorem dX5_findBranch_39 : decode cX5_findBranch 39 = .ok (.istore_n 3, 1) := by decide +kernel
theorem dX5_findBranch_40 : decode cX5_findBranch 40 = .ok (.iload_n 3, 1) := by decide +kernel
theorem dX5_findBranch_41 : decode cX5_findBranch 41 = .ok (.ifCond .eq 43, 3) := by decide +kernel
theorem dX5_findBranch_44 : decode cX5_findBranch 44 = .ok (.aload_n 0, 1) := by decide +kernel
theorem dX5_findBranch_45 : decode cX5_findBranch 45 = .ok (.getfield 36, 3) := by decide +kernel
theorem dX5_findBranch_48 : decode cX5_findBranch 48 = .ok (.aload_n 0, 1) := by decide +kernel
theorem dX5_findBranch_49 : decode cX5_findBranch 49 = .ok (.getfield 10, 3) := by decide +kernel
theorem dX5_findBranch_52 : decode cX5_findBranch 52 = .ok (.aload_n 0, 1) := by decide +kernel
theorem dX5_findBranch_53 : decode cX5_findBranch 53 = .ok (.getfield 19, 3) := by decide +kernel
theorem dX5_findBranch_56 : decode cX5_findBranch 56 = .ok (.iload_n 2, 1) := by decide +kernel
theorem dX5_findBranch_57 : decode cX5_findBranch 57 = .ok (.invokevirtual 158, 3) := by decide +kernel
theorem dX5_findBranch_60 : decode cX5_findBranch 60 = .ok (.iload_n 1, 1) := by decide +kernel
theorem dX5_findBranch_61 : decode cX5_findBranch 61 = .ok (.aload_n 0, 1) := by decide +kernel
theorem dX5_findBranch_62 : decode cX5_findBranch 62 = .ok (.getfield 36, 3) := by decide +kernel
theorem dX5_findBranch_65 : decode cX5_findBranch 65 = .ok (.getfield 162, 3) := by decide +kernel
theorem dX5_findBranch_68 : decode cX5_findBranch 68 = .ok (.getfield 166, 3) := by decide +kernel
theorem dX5_findBranch_71 : decode cX5_findBranch 71 = .ok (.if_icmp .lt 13, 3) := by decide +kernel
theorem dX5_findBranch_74 : decode cX5_findBranch 74 = .ok (.new 178, 3) := by decide +kernel
theorem dX5_findBranch_77 : decode cX5_findBranch 77 = .ok (.dup, 1) := by decide +kernel
theorem dX5_findBranch_78 : decode cX5_findBranch 78 = .ok (.ldc 195, 2) := by decide +kernel
theorem dX5_findBranch_80 : decode cX5_findBranch 80 = .ok (.invokespecial 182, 3) := by decide +kernel
theorem dX5_findBranch_83 : decode cX5_findBranch 83 = .ok (.athrow, 1) := by decide +kernel
theorem dX5_findBranch_84 : decode cX5_findBranch 84 = .ok (.iload_n 2, 1) := by decide +kernel
theorem dX5_findBranch_85 : decode cX5_findBranch 85 = .ok (.ifCond .lt 8, 3) := by decide +kernel
theorem dX5_findBranch_88 : decode cX5_findBranch 88 = .ok (.iload_n 2, 1) := by decide +kernel
theorem dX5_findBranch_89 : decode cX5_findBranch 89 = .ok (.iconst 2, 1) := by decide +kernel
theorem dX5_findBranch_90 : decode cX5_findBranch 90 = .ok (.if_icmp .le 13, 3) := by decide +kernel
theorem dX5_findBranch_93 : decode cX5_findBranch 93 = .ok (.new 47, 3) := by decide +kernel
theorem dX5_findBranch_96 : decode cX5_findBranch 96 = .ok (.dup, 1) := by decide +kernel
theorem dX5_findBranch_97 : decode cX5_findBranch 97 = .ok (.ldc 197, 2) := by decide +kernel
theorem dX5_findBranch_99 : decode cX5_findBranch 99 = .ok (.invokespecial 51, 3) := by decide +kernel
theorem dX5_findBranch_102 : decode cX5_findBranch 102 = .ok (.athrow, 1) := by decide +kernel
theorem dX5_findBranch_103 : decode cX5_findBranch 103 = .ok (.iload_n 3, 1) := by decide +kernel
theorem dX5_findBranch_104 : decode cX5_findBranch 104 = .ok (.ifCond .ne 13, 3) := by decide +kernel
theorem dX5_findBranch_107 : decode cX5_findBranch 107 = .ok (.new 62, 3) := by decide +kernel
theorem dX5_findBranch_110 : decode cX5_findBranch 110 = .ok (.dup, 1) := by decide +kernel
theorem dX5_findBranch_111 : decode cX5_findBranch 111 = .ok (.ldc 156, 2) := by decide +kernel
theorem dX5_findBranch_113 : decode cX5_findBranch 113 = .ok (.invokespecial 66, 3) := by decide +kernel
theorem dX5_findBranch_116 : decode cX5_findBranch 116 = .ok (.athrow, 1) := by decide +kernel
theorem dX5_findBranch_117 : decode cX5_findBranch 117 = .ok (.return_, 1) := by decide +kernel
theorem dX5_sine_0 : decode cX5_sine 0 = .ok (.iload_n 0, 1) := by decide +kernel
theorem dX5_sine_1 : decode cX5_sine 1 = .ok (.bipush 31, 2) := by decide +kernel
theorem dX5_sine_3 : decode cX5_sine 3 = .ok (.iand, 1) := by decide +kernel
theorem dX5_sine_4 : decode cX5_sine 4 = .ok (.istore_n 1, 1) := by decide +kernel
theorem dX5_sine_5 : decode cX5_sine 5 = .ok (.getstatic 199, 3) := by decide +kernel
theorem dX5_sine_8 : decode cX5_sine 8 = .ok (.iload_n 1, 1) := by decide +kernel
theorem dX5_sine_9 : decode cX5_sine 9 = .ok (.bipush 16, 2) := by decide +kernel
theorem dX5_sine_11 : decode cX5_sine 11 = .ok (.if_icmp .gt 7, 3) := by decide +kernel
theorem dX5_sine_14 : decode cX5_sine 14 = .ok (.iload_n 1, 1) := by decide +kernel
theorem dX5_sine_15 : decode cX5_sine 15 = .ok (.goto 7, 3) := by decide +kernel
theorem dX5_sine_18 : decode cX5_sine 18 = .ok (.bipush 32, 2) := by decide +kernel
theorem dX5_sine_20 : decode cX5_sine 20 = .ok (.iload_n 1, 1) := by decide +kernel
theorem dX5_sine_21 : decode cX5_sine 21 = .ok (.isub, 1) := by decide +kernel
theorem dX5_sine_22 : decode cX5_sine 22 = .ok (.iaload, 1) := by decide +kernel
theorem dX5_sine_23 : decode cX5_sine 23 = .ok (.istore_n 2, 1) := by decide +kernel
theorem dX5_sine_24 : decode cX5_sine 24 = .ok (.iload_n 0, 1) := by decide +kernel
theorem dX5_sine_25 : decode cX5_sine 25 = .ok (.bipush 32, 2) := by decide +kernel
theorem dX5_sine_27 : decode cX5_sine 27 = .ok (.iand, 1) := by decide +kernel
theorem dX5_sine_28 : decode cX5_sine 28 = .ok (.ifCond .ne 7, 3) := by decide +kernel
theorem dX5_sine_31 : decode cX5_sine 31 = .ok (.iload_n 2, 1) := by decide +kernel
theorem dX5_sine_32 : decode cX5_sine 32 = .ok (.goto 5, 3) := by decide +kernel
theorem dX5_sine_35 : decode cX5_sine 35 = .ok (.iload_n 2, 1) := by decide +kernel
theorem dX5_sine_36 : decode cX5_sine 36 = .ok (.ineg, 1) := by decide +kernel
theorem dX5_sine_37 : decode cX5_sine 37 = .ok (.ireturn, 1) := by decide +kernel
set_option maxRecDepth 20000 in
theorem ggX5_cosine_X5_sine : GoodIn wsX5_cosine wsX5_sine := goodIn_r _ [4, 5] (by decide +kernel) (by decide +kernel)
set_option maxRecDepth 20000 in
theorem gX5_cosine_X5_sine : GoodIn wsX5_cosine (va_wsS RX5 202 yX5_sine wsX5_sine) := goodIn_app (goodIn_of _ (by decide +kernel)) ggX5_cosine_X5_sine
theorem dX5_cosine_0 : decode cX5_cosine 0 = .ok (.iload_n 0, 1) := by decide +kernel
theorem dX5_cosine_1 : decode cX5_cosine 1 = .ok (.bipush 16, 2) := by decide +kernel
theorem dX5_cosine_3 : decode cX5_cosine 3 = .ok (.iadd, 1) := by decide +kernel
theorem dX5_cosine_4 : decode cX5_cosine 4 = .ok (.invokestatic 202, 3) := by decide +kernel
theorem dX5_cosine_7 : decode cX5_cosine 7 = .ok (.ireturn, 1) := by decide +kernel
theorem dX6_init_0 : decode cX6_init 0 = .ok (.aload_n 0, 1) := by decide +kernel
theorem dX6_init_1 : decode cX6_init 1 = .ok (.invokespecial 1, 3) := by decide +kernel
theorem dX6_init_4 : decode cX6_init 4 = .ok (.aload_n 0, 1) := by decide +kernel
theorem dX6_init_5 : decode cX6_init 5 = .ok (.iconst 5, 1) := by decide +kernel
theorem dX6_init_6 : decode cX6_init 6 = .ok (.newarray .int, 2) := by decide +kernel
theorem dX6_init_8 : decode cX6_init 8 = .ok (.putfield 7, 3) := by decide +kernel
theorem dX6_init_11 : decode cX6_init 11 = .ok (.aload_n 0, 1) := by decide +kernel
theorem dX6_init_12 : decode cX6_init 12 = .ok (.iconst 5, 1) := by decide +kernel
theorem dX6_init_13 : decode cX6_init 13 = .ok (.newarray .int, 2) := by decide +kernel
theorem dX6_init_15 : decode cX6_init 15 = .ok (.putfield 13, 3) := by decide +kernel
theorem dX6_init_18 : decode cX6_init 18 = .ok (.aload_n 0, 1) := by decide +kernel
theorem dX6_init_19 : decode cX6_init 19 = .ok (.iconst 5, 1) := by decide +kernel
theorem dX6_init_20 : decode cX6_init 20 = .ok (.newarray .int, 2) := by decide +kernel
theorem dX6_init_22 : decode cX6_init 22 = .ok (.putfield 16, 3) := by decide +kernel
theorem dX6_init_25 : decode cX6_init 25 = .ok (.aload_n 0, 1) := by decide +kernel
theorem dX6_init_26 : decode cX6_init 26 = .ok (.iconst 5, 1) := by decide +kernel
theorem dX6_init_27 : decode cX6_init 27 = .ok (.newarray .int, 2) := by decide +kernel
theorem dX6_init_29 : decode cX6_init 29 = .ok (.putfield 19, 3) := by decide +kernel
theorem dX6_init_32 : decode cX6_init 32 = .ok (.aload_n 0, 1) := by decide +kernel
theorem dX6_init_33 : decode cX6_init 33 = .ok (.iconst 5, 1) := by decide +kernel
theorem dX6_init_34 : decode cX6_init 34 = .ok (.newarray .int, 2) := by decide +kernel
theorem dX6_init_36 : decode cX6_init 36 = .ok (.putfield 22, 3) := by decide +kernel
theorem dX6_init_39 : decode cX6_init 39 = .ok (.aload_n 0, 1) := by decide +kernel
theorem dX6_init_40 : decode cX6_init 40 = .ok (.sipush 10000, 3) := by decide +kernel
theorem dX6_init_43 : decode cX6_init 43 = .ok (.putfield 25, 3) := by decide +kernel
theorem dX6_init_46 : decode cX6_init 46 = .ok (.aload_n 0, 1) := by decide +kernel
theorem dX6_init_47 : decode cX6_init 47 = .ok (.iconst 5, 1) := by decide +kernel
theorem dX6_init_48 : decode cX6_init 48 = .ok (.newarray .int, 2) := by decide +kernel
theorem dX6_init_50 : decode cX6_init 50 = .ok (.putfield 29, 3) := by decide +kernel
theorem dX6_init_53 : decode cX6_init 53 = .ok (.aload_n 0, 1) := by decide +kernel
theorem dX6_init_54 : decode cX6_init 54 = .ok (.iconst 5, 1) := by decide +kernel
theorem dX6_init_55 : decode cX6_init 55 = .ok (.newarray .int, 2) := by decide +kernel
theorem dX6_init_57 : decode cX6_init 57 = .ok (.putfield 32, 3) := by decide +kernel
theorem dX6_init_60 : decode cX6_init 60 = .ok (.aload_n 0, 1) := by decide +kernel
theorem dX6_init_61 : decode cX6_init 61 = .ok (.iconst 5, 1) := by decide +kernel
theorem dX6_init_62 : decode cX6_init 62 = .ok (.newarray .int, 2) := by decide +kernel
theorem dX6_init_64 : decode cX6_init 64 = .ok (.putfield 35, 3) := by decide +kernel
theorem dX6_init_67 : decode cX6_init 67 = .ok (.aload_n 0, 1) := by decide +kernel
theorem dX6_init_68 : decode cX6_init 68 = .ok (.bipush 10, 2) := by decide +kernel
theorem dX6_init_70 : decode cX6_init 70 = .ok (.newarray .long, 2) := by decide +kernel
theorem dX6_init_72 : decode cX6_init 72 = .ok (.putfield 38, 3) := by decide +kernel
theorem dX6_init_75 : decode cX6_init 75 = .ok (.aload_n 0, 1) := by decide +kernel
theorem dX6_init_76 : decode cX6_init 76 = .ok (.bipush 10, 2) := by decide +kernel
theorem dX6_init_78 : decode cX6_init 78 = .ok (.newarray .int, 2) := by decide +kernel
theorem dX6_init_80 : decode cX6_init 80 = .ok (.putfield 42, 3) := by decide +kernel
theorem dX6_init_83 : decode cX6_init 83 = .ok (.return_, 1) := by decide +kernel
theorem dX6_thrown_0 : decode cX6_thrown 0 = .ok (.aload_n 0, 1) := by decide +kernel
theorem dX6_thrown_1 : decode cX6_thrown 1 = .ok (.getfield 45, 3) := by decide +kernel
theorem dX6_thrown_4 : decode cX6_thrown 4 = .ok (.ireturn, 1) := by decide +kernel
theorem dX6_in_0 : decode cX6_in 0 = .ok (.iload_n 0, 1) := by decide +kernel
theorem dX6_in_1 : decode cX6_in 1 = .ok (.iload_n 1, 1) := by decide +kernel
theorem dX6_in_2 : decode cX6_in 2 = .ok (.if_icmp .lt 12, 3) := by decide +kernel
theorem dX6_in_5 : decode cX6_in 5 = .ok (.iload_n 0, 1) := by decide +kernel
theorem dX6_in_6 : decode cX6_in 6 = .ok (.iload_n 2, 1) := by decide +kernel
theorem dX6_in_7 : decode cX6_in 7 = .ok (.if_icmp .gt 7, 3) := by decide +kernel
theorem dX6_in_10 : decode cX6_in 10 = .ok (.iconst 1, 1) := by decide +kernel
theorem dX6_in_11 : decode cX6_in 11 = .ok (.goto 4, 3) := by decide +kernel
theorem dX6_in_14 : decode cX6_in 14 = .ok (.iconst 0, 1) := by decide +kernel
theorem dX6_in_15 : decode cX6_in 15 = .ok (.ireturn, 1) := by decide +kernel
set_option maxRecDepth 20000 in
theorem ggX6_isJoint_X6_in : GoodIn wsX6_isJoint wsX6_in := goodIn_r _ [5] (by decide +kernel) (by decide +kernel)
set_option maxRecDepth 20000 in
theorem gX6_isJoint_X6_in : GoodIn wsX6_isJoint (va_wsS RX6 51 yX6_in wsX6_in) := goodIn_app (goodIn_of _ (by decide +kernel)) ggX6_isJoint_X6_in
theorem dX6_isJoint_0 : decode cX6_isJoint 0 = .ok (.iload_n 1, 1) := by decide +kernel
theorem dX6_isJoint_1 : decode cX6_isJoint 1 = .ok (.iconst 0, 1) := by decide +kernel
theorem dX6_isJoint_2 : decode cX6_isJoint 2 = .ok (.aload_n 0, 1) := by decide +kernel
theorem dX6_isJoint_3 : decode cX6_isJoint 3 = .ok (.getfield 48, 3) := by decide +kernel
theorem dX6_isJoint_6 : decode cX6_isJoint 6 = .ok (.iconst 1, 1) := by decide +kernel
theorem dX6_isJoint_7 : decode cX6_isJoint 7 = .ok (.isub, 1) := by decide +kernel
theorem dX6_isJoint_8 : decode cX6_isJoint 8 = .ok (.invokestatic 51, 3) := by decide +kernel
theorem dX6_isJoint_11 : decode cX6_isJoint 11 = .ok (.ireturn, 1) := by decide +kernel
theorem dX6_quarter_0 : decode cX6_quarter 0 = .ok (.iload_n 0, 1) := by decide +kernel
theorem dX6_quarter_1 : decode cX6_quarter 1 = .ok (.tableswitch 140 0 15 #[79, 81, 84, 88, 92, 96, 100, 104, 108, 112, 116, 120, 124, 128, 132, 136], 79) := by decide +kernel
theorem dX6_quarter_80 : decode cX6_quarter 80 = .ok (.iconst 0, 1) := by decide +kernel
theorem dX6_quarter_81 : decode cX6_quarter 81 = .ok (.ireturn, 1) := by decide +kernel
theorem dX6_quarter_82 : decode cX6_quarter 82 = .ok (.bipush 98, 2) := by decide +kernel
theorem dX6_quarter_84 : decode cX6_quarter 84 = .ok (.ireturn, 1) := by decide +kernel
theorem dX6_quarter_85 : decode cX6_quarter 85 = .ok (.sipush 195, 3) := by decide +kernel
theorem dX6_quarter_88 : decode cX6_quarter 88 = .ok (.ireturn, 1) := by decide +kernel
theorem dX6_quarter_89 : decode cX6_quarter 89 = .ok (.sipush 290, 3) := by decide +kernel
theorem dX6_quarter_92 : decode cX6_quarter 92 = .ok (.ireturn, 1) := by decide +kernel
theorem dX6_quarter_93 : decode cX6_quarter 93 = .ok (.sipush 383, 3) := by decide +kernel
theorem dX6_quarter_96 : decode cX6_quarter 96 = .ok (.ireturn, 1) := by decide +kernel
theorem dX6_quarter_97 : decode cX6_quarter 97 = .ok (.sipush 471, 3) := by decide +kernel
theorem dX6_quarter_100 : decode cX6_quarter 100 = .ok (.ireturn, 1) := by decide +kernel
theorem dX6_quarter_101 : decode cX6_quarter 101 = .ok (.sipush 556, 3) := by decide +kernel
theorem dX6_quarter_104 : decode cX6_quarter 104 = .ok (.ireturn, 1) := by decide +kernel
theorem dX6_quarter_105 : decode cX6_quarter 105 = .ok (.sipush 634, 3) := by decide +kernel
theorem dX6_quarter_108 : decode cX6_quarter 108 = .ok (.ireturn, 1) := by decide +kernel
theorem dX6_quarter_109 : decode cX6_quarter 109 = .ok (.sipush 707, 3) := by decide +kernel
theorem dX6_quarter_112 : decode cX6_quarter 112 = .ok (.ireturn, 1) := by decide +kernel
theorem dX6_quarter_113 : decode cX6_quarter 113 = .ok (.sipush 773, 3) := by decide +kernel
theorem dX6_quarter_116 : decode cX6_quarter 116 = .ok (.ireturn, 1) := by decide +kernel
theorem dX6_quarter_117 : decode cX6_quarter 117 = .ok (.sipush 831, 3) := by decide +kernel
theorem dX6_quarter_120 : decode cX6_quarter 120 = .ok (.ireturn, 1) := by decide +kernel
theorem dX6_quarter_121 : decode cX6_quarter 121 = .ok (.sipush 882, 3) := by decide +kernel
theorem dX6_quarter_124 : decode cX6_quarter 124 = .ok (.ireturn, 1) := by decide +kernel
theorem dX6_quarter_125 : decode cX6_quarter 125 = .ok (.sipush 924, 3) := by decide +kernel
theorem dX6_quarter_128 : decode cX6_quarter 128 = .ok (.ireturn, 1) := by decide +kernel
theorem dX6_quarter_129 : decode cX6_quarter 129 = .ok (.sipush 957, 3) := by decide +kernel
theorem dX6_quarter_132 : decode cX6_quarter 132 = .ok (.ireturn, 1) := by decide +kernel
theorem dX6_quarter_133 : decode cX6_quarter 133 = .ok (.sipush 981, 3) := by decide +kernel
theorem dX6_quarter_136 : decode cX6_quarter 136 = .ok (.ireturn, 1) := by decide +kernel
theorem dX6_quarter_137 : decode cX6_quarter 137 = .ok (.sipush 995, 3) := by decide +kernel
theorem dX6_quarter_140 : decode cX6_quarter 140 = .ok (.ireturn, 1) := by decide +kernel
theorem dX6_quarter_141 : decode cX6_quarter 141 = .ok (.sipush 1000, 3) := by decide +kernel
theorem dX6_quarter_144 : decode cX6_quarter 144 = .ok (.ireturn, 1) := by decide +kernel
set_option maxRecDepth 20000 in
theorem ggX6_sine_X6_quarter : GoodIn wsX6_sine wsX6_quarter := goodIn_r _ [4] (by decide +kernel) (by decide +kernel)
set_option maxRecDepth 20000 in
theorem gX6_sine_X6_quarter : GoodIn wsX6_sine (va_wsS RX6 55 yX6_quarter wsX6_quarter) := goodIn_app (goodIn_of _ (by decide +kernel)) ggX6_sine_X6_quarter
theorem dX6_sine_0 : decode cX6_sine 0 = .ok (.iload_n 0, 1) := by decide +kernel
theorem dX6_sine_1 : decode cX6_sine 1 = .ok (.bipush 64, 2) := by decide +kernel
theorem dX6_sine_3 : decode cX6_sine 3 = .ok (.irem, 1) := by decide +kernel
theorem dX6_sine_4 : decode cX6_sine 4 = .ok (.istore_n 1, 1) := by decide +kernel
theorem dX6_sine_5 : decode cX6_sine 5 = .ok (.iload_n 1, 1) := by decide +kernel
theorem dX6_sine_6 : decode cX6_sine 6 = .ok (.bipush 32, 2) := by decide +kernel
theorem dX6_sine_8 : decode cX6_sine 8 = .ok (.irem, 1) := by decide +kernel
theorem dX6_sine_9 : decode cX6_sine 9 = .ok (.istore_n 2, 1) := by decide +kernel
theorem dX6_sine_10 : decode cX6_sine 10 = .ok (.iload_n 2, 1) := by decide +kernel
theorem dX6_sine_11 : decode cX6_sine 11 = .ok (.bipush 16, 2) := by decide +kernel
theorem dX6_sine_13 : decode cX6_sine 13 = .ok (.if_icmp .gt 10, 3) := by decide +kernel
theorem dX6_sine_16 : decode cX6_sine 16 = .ok (.iload_n 2, 1) := by decide +kernel
theorem dX6_sine_17 : decode cX6_sine 17 = .ok (.invokestatic 55, 3) := by decide +kernel
theorem dX6_sine_20 : decode cX6_sine 20 = .ok (.goto 10, 3) := by decide +kernel
theorem dX6_sine_23 : decode cX6_sine 23 = .ok (.bipush 32, 2) := by decide +kernel
theorem dX6_sine_25 : decode cX6_sine 25 = .ok (.iload_n 2, 1) := by decide +kernel
theorem dX6_sine_26 : decode cX6_sine 26 = .ok (.isub, 1) := by decide +kernel
theorem dX6_sine_27 : decode cX6_sine 27 = .ok (.invokestatic 55, 3) := by decide +kernel
theorem dX6_sine_30 : decode cX6_sine 30 = .ok (.istore_n 3, 1) := by decide +kernel
theorem dX6_sine_31 : decode cX6_sine 31 = .ok (.iload_n 1, 1) := by decide +kernel
theorem dX6_sine_32 : decode cX6_sine 32 = .ok (.bipush 32, 2) := by decide +kernel
theorem dX6_sine_34 : decode cX6_sine 34 = .ok (.if_icmp .ge 7, 3) := by decide +kernel
theorem dX6_sine_37 : decode cX6_sine 37 = .ok (.iload_n 3, 1) := by decide +kernel
theorem dX6_sine_38 : decode cX6_sine 38 = .ok (.goto 5, 3) := by decide +kernel
theorem dX6_sine_41 : decode cX6_sine 41 = .ok (.iload_n 3, 1) := by decide +kernel
theorem dX6_sine_42 : decode cX6_sine 42 = .ok (.ineg, 1) := by decide +kernel
theorem dX6_sine_43 : decode cX6_sine 43 = .ok (.ireturn, 1) := by decide +kernel
theorem dX6_told_0 : decode cX6_told 0 = .ok (.iload_n 0, 1) := by decide +kernel
theorem dX6_told_1 : decode cX6_told 1 = .ok (.bipush 64, 2) := by decide +kernel
theorem dX6_told_3 : decode cX6_told 3 = .ok (.irem, 1) := by decide +kernel
theorem dX6_told_4 : decode cX6_told 4 = .ok (.bipush 64, 2) := by decide +kernel
theorem dX6_told_6 : decode cX6_told 6 = .ok (.iadd, 1) := by decide +kernel
theorem dX6_told_7 : decode cX6_told 7 = .ok (.bipush 64, 2) := by decide +kernel
theorem dX6_told_9 : decode cX6_told 9 = .ok (.irem, 1) := by decide +kernel
theorem dX6_told_10 : decode cX6_told 10 = .ok (.ireturn, 1) := by decide +kernel
theorem dX6_copiesPose_0 : decode cX6_copiesPose 0 = .ok (.iconst 0, 1) := by decide +kernel
theorem dX6_copiesPose_1 : decode cX6_copiesPose 1 = .ok (.istore_n 1, 1) := by decide +kernel
theorem dX6_copiesPose_2 : decode cX6_copiesPose 2 = .ok (.iload_n 1, 1) := by decide +kernel
theorem dX6_copiesPose_3 : decode cX6_copiesPose 3 = .ok (.aload_n 0, 1) := by decide +kernel
theorem dX6_copiesPose_4 : decode cX6_copiesPose 4 = .ok (.getfield 48, 3) := by decide +kernel
theorem dX6_copiesPose_7 : decode cX6_copiesPose 7 = .ok (.if_icmp .ge 21, 3) := by decide +kernel
theorem dX6_copiesPose_10 : decode cX6_copiesPose 10 = .ok (.aload_n 0, 1) := by decide +kernel
theorem dX6_copiesPose_11 : decode cX6_copiesPose 11 = .ok (.getfield 29, 3) := by decide +kernel
theorem dX6_copiesPose_14 : decode cX6_copiesPose 14 = .ok (.iload_n 1, 1) := by decide +kernel
theorem dX6_copiesPose_15 : decode cX6_copiesPose 15 = .ok (.aload_n 0, 1) := by decide +kernel
theorem dX6_copiesPose_16 : decode cX6_copiesPose 16 = .ok (.getfield 22, 3) := by decide +kernel
theorem dX6_copiesPose_19 : decode cX6_copiesPose 19 = .ok (.iload_n 1, 1) := by decide +kernel
theorem dX6_copiesPose_20 : decode cX6_copiesPose 20 = .ok (.iaload, 1) := by decide +kernel
theorem dX6_copiesPose_21 : decode cX6_copiesPose 21 = .ok (.iastore, 1) := by decide +kernel
theorem dX6_copiesPose_22 : decode cX6_copiesPose 22 = .ok (.iinc 1 1, 3) := by decide +kernel
theorem dX6_copiesPose_25 : decode cX6_copiesPose 25 = .ok (.goto (-23), 3) := by decide +kernel
theorem dX6_copiesPose_28 : decode cX6_copiesPose 28 = .ok (.return_, 1) := by decide +kernel
set_option maxRecDepth 20000 in
theorem ggX6_looks_X6_told : GoodIn wsX6_looks wsX6_told := goodIn_r _ [11] (by decide +kernel) (by decide +kernel)
set_option maxRecDepth 20000 in
theorem gX6_looks_X6_told : GoodIn wsX6_looks (va_wsS RX6 68 yX6_told wsX6_told) := goodIn_app (goodIn_of _ (by decide +kernel)) ggX6_looks_X6_told
set_option maxRecDepth 20000 in
theorem ggX6_looks_X6_sine : GoodIn wsX6_looks wsX6_sine := goodIn_r _ [14, 15, 16, 10, 17] (by decide +kernel) (by decide +kernel)
set_option maxRecDepth 20000 in
theorem gX6_looks_X6_sine : GoodIn wsX6_looks (va_wsS RX6 71 yX6_sine wsX6_sine) := goodIn_app (goodIn_of _ (by decide +kernel)) ggX6_looks_X6_sine
theorem dX6_looks_0 : decode cX6_looks 0 = .ok (.aload_n 0, 1) := by decide +kernel
theorem dX6_looks_1 : decode cX6_looks 1 = .ok (.iconst 0, 1) := by decide +kernel
theorem dX6_looks_2 : decode cX6_looks 2 = .ok (.putfield 59, 3) := by decide +kernel
theorem dX6_looks_5 : decode cX6_looks 5 = .ok (.aload_n 0, 1) := by decide +kernel
theorem dX6_looks_6 : decode cX6_looks 6 = .ok (.iconst 0, 1) := by decide +kernel
theorem dX6_looks_7 : decode cX6_looks 7 = .ok (.putfield 62, 3) := by decide +kernel
theorem dX6_looks_10 : decode cX6_looks 10 = .ok (.aload_n 0, 1) := by decide +kernel
theorem dX6_looks_11 : decode cX6_looks 11 = .ok (.iconst 0, 1) := by decide +kernel
theorem dX6_looks_12 : decode cX6_looks 12 = .ok (.putfield 65, 3) := by decide +kernel
theorem dX6_looks_15 : decode cX6_looks 15 = .ok (.iconst 0, 1) := by decide +kernel
theorem dX6_looks_16 : decode cX6_looks 16 = .ok (.istore_n 1, 1) := by decide +kernel
theorem dX6_looks_17 : decode cX6_looks 17 = .ok (.iload_n 1, 1) := by decide +kernel
theorem dX6_looks_18 : decode cX6_looks 18 = .ok (.aload_n 0, 1) := by decide +kernel
theorem dX6_looks_19 : decode cX6_looks 19 = .ok (.getfield 48, 3) := by decide +kernel
theorem dX6_looks_22 : decode cX6_looks 22 = .ok (.if_icmp .ge 94, 3) := by decide +kernel
theorem dX6_looks_25 : decode cX6_looks 25 = .ok (.aload_n 0, 1) := by decide +kernel
theorem dX6_looks_26 : decode cX6_looks 26 = .ok (.getfield 13, 3) := by decide +kernel
theorem dX6_looks_29 : decode cX6_looks 29 = .ok (.iload_n 1, 1) := by decide +kernel
theorem dX6_looks_30 : decode cX6_looks 30 = .ok (.iaload, 1) := by decide +kernel
theorem dX6_looks_31 : decode cX6_looks 31 = .ok (.istore_n 2, 1) := by decide +kernel
theorem dX6_looks_32 : decode cX6_looks 32 = .ok (.aload_n 0, 1) := by decide +kernel
theorem dX6_looks_33 : decode cX6_looks 33 = .ok (.getfield 7, 3) := by decide +kernel
theorem dX6_looks_36 : decode cX6_looks 36 = .ok (.iload_n 1, 1) := by decide +kernel
theorem dX6_looks_37 : decode cX6_looks 37 = .ok (.iaload, 1) := by decide +kernel
theorem dX6_looks_38 : decode cX6_looks 38 = .ok (.ifCond .ne 24, 3) := by decide +kernel
theorem dX6_looks_41 : decode cX6_looks 41 = .ok (.aload_n 0, 1) := by decide +kernel
theorem dX6_looks_42 : decode cX6_looks 42 = .ok (.aload_n 0, 1) := by decide +kernel
theorem dX6_looks_43 : decode cX6_looks 43 = .ok (.getfield 65, 3) := by decide +kernel
theorem dX6_looks_46 : decode cX6_looks 46 = .ok (.aload_n 0, 1) := by decide +kernel
theorem dX6_looks_47 : decode cX6_looks 47 = .ok (.getfield 29, 3) := by decide +kernel
theorem dX6_looks_50 : decode cX6_looks 50 = .ok (.iload_n 1, 1) := by decide +kernel
theorem dX6_looks_51 : decode cX6_looks 51 = .ok (.iaload, 1) := by decide +kernel
theorem dX6_looks_52 : decode cX6_looks 52 = .ok (.iadd, 1) := by decide +kernel
theorem dX6_looks_53 : decode cX6_looks 53 = .ok (.invokestatic 68, 3) := by decide +kernel
theorem dX6_looks_56 : decode cX6_looks 56 = .ok (.putfield 65, 3) := by decide +kernel
theorem dX6_looks_59 : decode cX6_looks 59 = .ok (.goto 12, 3) := by decide +kernel
theorem dX6_looks_62 : decode cX6_looks 62 = .ok (.iload_n 2, 1) := by decide +kernel
theorem dX6_looks_63 : decode cX6_looks 63 = .ok (.aload_n 0, 1) := by decide +kernel
theorem dX6_looks_64 : decode cX6_looks 64 = .ok (.getfield 29, 3) := by decide +kernel
theorem dX6_looks_67 : decode cX6_looks 67 = .ok (.iload_n 1, 1) := by decide +kernel
theorem dX6_looks_68 : decode cX6_looks 68 = .ok (.iaload, 1) := by decide +kernel
theorem dX6_looks_69 : decode cX6_looks 69 = .ok (.iadd, 1) := by decide +kernel
theorem dX6_looks_70 : decode cX6_looks 70 = .ok (.istore_n 2, 1) := by decide +kernel
theorem dX6_looks_71 : decode cX6_looks 71 = .ok (.aload_n 0, 1) := by decide +kernel
theorem dX6_looks_72 : decode cX6_looks 72 = .ok (.dup, 1) := by decide +kernel
theorem dX6_looks_73 : decode cX6_looks 73 = .ok (.getfield 59, 3) := by decide +kernel
theorem dX6_looks_76 : decode cX6_looks 76 = .ok (.iload_n 2, 1) := by decide +kernel
theorem dX6_looks_77 : decode cX6_looks 77 = .ok (.aload_n 0, 1) := by decide +kernel
theorem dX6_looks_78 : decode cX6_looks 78 = .ok (.getfield 65, 3) := by decide +kernel
theorem dX6_looks_81 : decode cX6_looks 81 = .ok (.bipush 16, 2) := by decide +kernel
theorem dX6_looks_83 : decode cX6_looks 83 = .ok (.iadd, 1) := by decide +kernel
theorem dX6_looks_84 : decode cX6_looks 84 = .ok (.invokestatic 71, 3) := by decide +kernel
theorem dX6_looks_87 : decode cX6_looks 87 = .ok (.imul, 1) := by decide +kernel
theorem dX6_looks_88 : decode cX6_looks 88 = .ok (.iadd, 1) := by decide +kernel
theorem dX6_looks_89 : decode cX6_looks 89 = .ok (.putfield 59, 3) := by decide +kernel
theorem dX6_looks_92 : decode cX6_looks 92 = .ok (.aload_n 0, 1) := by decide +kernel
theorem dX6_looks_93 : decode cX6_looks 93 = .ok (.dup, 1) := by decide +kernel
theorem dX6_looks_94 : decode cX6_looks 94 = .ok (.getfield 62, 3) := by decide +kernel
theorem dX6_looks_97 : decode cX6_looks 97 = .ok (.iload_n 2, 1) := by decide +kernel
theorem dX6_looks_98 : decode cX6_looks 98 = .ok (.aload_n 0, 1) := by decide +kernel
theorem dX6_looks_99 : decode cX6_looks 99 = .ok (.getfield 65, 3) := by decide +kernel
theorem dX6_looks_102 : decode cX6_looks 102 = .ok (.invokestatic 71, 3) := by decide +kernel
theorem dX6_looks_105 : decode cX6_looks 105 = .ok (.imul, 1) := by decide +kernel
theorem dX6_looks_106 : decode cX6_looks 106 = .ok (.iadd, 1) := by decide +kernel
theorem dX6_looks_107 : decode cX6_looks 107 = .ok (.putfield 62, 3) := by decide +kernel
theorem dX6_looks_110 : decode cX6_looks 110 = .ok (.iinc 1 1, 3) := by decide +kernel
theorem dX6_looks_113 : decode cX6_looks 113 = .ok (.goto (-96), 3) := by decide +kernel
theorem dX6_looks_116 : decode cX6_looks 116 = .ok (.return_, 1) := by decide +kernel
set_option maxRecDepth 20000 in
theorem ggX6_looksNow_X6_copiesPose : GoodIn wsX6_looksNow wsX6_copiesPose := goodIn_r _ [5, 6, 7, 8, 27, 28, 29, 30, 31, 32, 33, 34, 35, 36, 37, 38, 39, 40, 41, 42, 43, 44, 45] (by decide +kernel) (by decide +kernel)
set_option maxRecDepth 20000 in
theorem gX6_looksNow_X6_copiesPose : GoodIn wsX6_looksNow (wsV RX6 74 RX6 yX6_copiesPose wsX6_copiesPose) := goodIn_app (goodIn_of _ (by decide +kernel)) ggX6_looksNow_X6_copiesPose
set_option maxRecDepth 20000 in
theorem ggX6_looksNow_X6_looks : GoodIn wsX6_looksNow wsX6_looks := goodIn_r _ [12, 13, 14, 15, 6, 16, 17, 7, 18, 19, 4, 20, 21, 22, 23, 24, 25, 26, 27, 28, 29, 30, 31, 32, 33, 34, 35, 36, 37, 38, 39, 40, 41, 42, 43, 44, 45] (by decide +kernel) (by decide +kernel)
set_option maxRecDepth 20000 in
theorem gX6_looksNow_X6_looks : GoodIn wsX6_looksNow (wsV RX6 77 RX6 yX6_looks wsX6_looks) := goodIn_app (goodIn_of _ (by decide +kernel)) ggX6_looksNow_X6_looks
theorem dX6_looksNow_0 : decode cX6_looksNow 0 = .ok (.aload_n 0, 1) := by decide +kernel
theorem dX6_looksNow_1 : decode cX6_looksNow 1 = .ok (.invokevirtual 74, 3) := by decide +kernel
theorem dX6_looksNow_4 : decode cX6_looksNow 4 = .ok (.aload_n 0, 1) := by decide +kernel
theorem dX6_looksNow_5 : decode cX6_looksNow 5 = .ok (.invokevirtual 77, 3) := by decide +kernel
theorem dX6_looksNow_8 : decode cX6_looksNow 8 = .ok (.return_, 1) := by decide +kernel
theorem dX6_farness_0 : decode cX6_farness 0 = .ok (.aload_n 0, 1) := by decide +kernel
theorem dX6_farness_1 : decode cX6_farness 1 = .ok (.getfield 59, 3) := by decide +kernel
theorem dX6_farness_4 : decode cX6_farness 4 = .ok (.aload_n 0, 1) := by decide +kernel
theorem dX6_farness_5 : decode cX6_farness 5 = .ok (.getfield 80, 3) := by decide +kernel
theorem dX6_farness_8 : decode cX6_farness 8 = .ok (.isub, 1) := by decide +kernel
theorem dX6_farness_9 : decode cX6_farness 9 = .ok (.i2l, 1) := by decide +kernel
theorem dX6_farness_10 : decode cX6_farness 10 = .ok (.lstore_n 1, 1) := by decide +kernel
theorem dX6_farness_11 : decode cX6_farness 11 = .ok (.aload_n 0, 1) := by decide +kernel
theorem dX6_farness_12 : decode cX6_farness 12 = .ok (.getfield 62, 3) := by decide +kernel
theorem dX6_farness_15 : decode cX6_farness 15 = .ok (.aload_n 0, 1) := by decide +kernel
theorem dX6_farness_16 : decode cX6_farness 16 = .ok (.getfield 83, 3) := by decide +kernel
theorem dX6_farness_19 : decode cX6_farness 19 = .ok (.isub, 1) := by decide +kernel
theorem dX6_farness_20 : decode cX6_farness 20 = .ok (.i2l, 1) := by decide +kernel
theorem dX6_farness_21 : decode cX6_farness 21 = .ok (.lstore_n 3, 1) := by decide +kernel
theorem dX6_farness_22 : decode cX6_farness 22 = .ok (.lload_n 1, 1) := by decide +kernel
theorem dX6_farness_23 : decode cX6_farness 23 = .ok (.lload_n 1, 1) := by decide +kernel
theorem dX6_farness_24 : decode cX6_farness 24 = .ok (.lmul, 1) := by decide +kernel
theorem dX6_farness_25 : decode cX6_farness 25 = .ok (.lload_n 3, 1) := by decide +kernel
theorem dX6_farness_26 : decode cX6_farness 26 = .ok (.lload_n 3, 1) := by decide +kernel
theorem dX6_farness_27 : decode cX6_farness 27 = .ok (.lmul, 1) := by decide +kernel
theorem dX6_farness_28 : decode cX6_farness 28 = .ok (.ladd, 1) := by decide +kernel
theorem dX6_farness_29 : decode cX6_farness 29 = .ok (.lreturn, 1) := by decide +kernel
set_option maxRecDepth 20000 in
theorem ggX6_farNow_X6_looksNow : GoodIn wsX6_farNow wsX6_looksNow := goodIn_r _ [5, 6, 7, 8, 4, 9, 10, 11, 12, 13, 14, 15, 16, 17, 18, 19, 20, 21, 22, 23, 24, 25, 26, 27, 28, 29, 30, 37, 38, 39, 40, 41, 42, 43, 44, 45, 46, 47, 48, 49, 50, 51, 52, 53, 54, 55] (by decide +kernel) (by decide +kernel)
set_option maxRecDepth 20000 in
theorem gX6_farNow_X6_looksNow : GoodIn wsX6_farNow (wsV RX6 86 RX6 yX6_looksNow wsX6_looksNow) := goodIn_app (goodIn_of _ (by decide +kernel)) ggX6_farNow_X6_looksNow
set_option maxRecDepth 20000 in
theorem ggX6_farNow_X6_farness : GoodIn wsX6_farNow wsX6_farness := goodIn_r _ [34, 17, 35, 18, 36, 37, 38, 39, 40, 41, 42, 43, 44, 45, 46, 47, 48, 49, 50, 51, 52, 53, 54, 55] (by decide +kernel) (by decide +kernel)
set_option maxRecDepth 20000 in
theorem gX6_farNow_X6_farness : GoodIn wsX6_farNow (wsV RX6 89 RX6 yX6_farness wsX6_farness) := goodIn_app (goodIn_of _ (by decide +kernel)) ggX6_farNow_X6_farness
theorem dX6_farNow_0 : decode cX6_farNow 0 = .ok (.aload_n 0, 1) := by decide +kernel
theorem dX6_farNow_1 : decode cX6_farNow 1 = .ok (.invokevirtual 86, 3) := by decide +kernel
theorem dX6_farNow_4 : decode cX6_farNow 4 = .ok (.aload_n 0, 1) := by decide +kernel
theorem dX6_farNow_5 : decode cX6_farNow 5 = .ok (.invokevirtual 89, 3) := by decide +kernel
theorem dX6_farNow_8 : decode cX6_farNow 8 = .ok (.lreturn, 1) := by decide +kernel
set_option maxRecDepth 20000 in
theorem ggX6_farWith_X6_copiesPose : GoodIn wsX6_farWith wsX6_copiesPose := goodIn_r _ [6, 7, 1, 8, 33, 34, 35, 36, 37, 38, 39, 40, 41, 42, 43, 44, 45, 46, 47, 48, 49, 50, 51] (by decide +kernel) (by decide +kernel)
set_option maxRecDepth 20000 in
theorem gX6_farWith_X6_copiesPose : GoodIn wsX6_farWith (wsV RX6 74 RX6 yX6_copiesPose wsX6_copiesPose) := goodIn_app (goodIn_of _ (by decide +kernel)) ggX6_farWith_X6_copiesPose
set_option maxRecDepth 20000 in
theorem ggX6_farWith_X6_looks : GoodIn wsX6_farWith wsX6_looks := goodIn_r _ [12, 13, 14, 15, 7, 16, 17, 1, 18, 19, 5, 20, 21, 22, 23, 24, 25, 26, 33, 34, 35, 36, 37, 38, 39, 40, 41, 42, 43, 44, 45, 46, 47, 48, 49, 50, 51] (by decide +kernel) (by decide +kernel)
set_option maxRecDepth 20000 in
theorem gX6_farWith_X6_looks : GoodIn wsX6_farWith (wsV RX6 77 RX6 yX6_looks wsX6_looks) := goodIn_app (goodIn_of _ (by decide +kernel)) ggX6_farWith_X6_looks
set_option maxRecDepth 20000 in
theorem ggX6_farWith_X6_farness : GoodIn wsX6_farWith wsX6_farness := goodIn_r _ [30, 13, 31, 14, 32, 33, 34, 35, 36, 37, 38, 39, 40, 41, 42, 43, 44, 45, 46, 47, 48, 49, 50, 51] (by decide +kernel) (by decide +kernel)
set_option maxRecDepth 20000 in
theorem gX6_farWith_X6_farness : GoodIn wsX6_farWith (wsV RX6 89 RX6 yX6_farness wsX6_farness) := goodIn_app (goodIn_of _ (by decide +kernel)) ggX6_farWith_X6_farness
theorem dX6_farWith_0 : decode cX6_farWith 0 = .ok (.aload_n 0, 1) := by decide +kernel
theorem dX6_farWith_1 : decode cX6_farWith 1 = .ok (.invokevirtual 74, 3) := by decide +kernel
theorem dX6_farWith_4 : decode cX6_farWith 4 = .ok (.aload_n 0, 1) := by decide +kernel
theorem dX6_farWith_5 : decode cX6_farWith 5 = .ok (.getfield 29, 3) := by decide +kernel
theorem dX6_farWith_8 : decode cX6_farWith 8 = .ok (.iload_n 1, 1) := by decide +kernel
theorem dX6_farWith_9 : decode cX6_farWith 9 = .ok (.iload_n 2, 1) := by decide +kernel
theorem dX6_farWith_10 : decode cX6_farWith 10 = .ok (.iastore, 1) := by decide +kernel
theorem dX6_farWith_11 : decode cX6_farWith 11 = .ok (.aload_n 0, 1) := by decide +kernel
theorem dX6_farWith_12 : decode cX6_farWith 12 = .ok (.invokevirtual 77, 3) := by decide +kernel
theorem dX6_farWith_15 : decode cX6_farWith 15 = .ok (.aload_n 0, 1) := by decide +kernel
theorem dX6_farWith_16 : decode cX6_farWith 16 = .ok (.invokevirtual 89, 3) := by decide +kernel
theorem dX6_farWith_19 : decode cX6_farWith 19 = .ok (.lreturn, 1) := by decide +kernel
theorem dX6_most_0 : decode cX6_most 0 = .ok (.iload_n 0, 1) := by decide +kernel
theorem dX6_most_1 : decode cX6_most 1 = .ok (.ifCond .ne 8, 3) := by decide +kernel
theorem dX6_most_4 : decode cX6_most 4 = .ok (.bipush 32, 2) := by decide +kernel
theorem dX6_most_6 : decode cX6_most 6 = .ok (.goto 5, 3) := by decide +kernel
theorem dX6_most_9 : decode cX6_most 9 = .ok (.bipush 100, 2) := by decide +kernel
theorem dX6_most_11 : decode cX6_most 11 = .ok (.ireturn, 1) := by decide +kernel
theorem dX6_held_0 : decode cX6_held 0 = .ok (.iload_n 0, 1) := by decide +kernel
theorem dX6_held_1 : decode cX6_held 1 = .ok (.iload_n 1, 1) := by decide +kernel
theorem dX6_held_2 : decode cX6_held 2 = .ok (.if_icmp .ge 7, 3) := by decide +kernel
theorem dX6_held_5 : decode cX6_held 5 = .ok (.iload_n 1, 1) := by decide +kernel
theorem dX6_held_6 : decode cX6_held 6 = .ok (.goto 13, 3) := by decide +kernel
theorem dX6_held_9 : decode cX6_held 9 = .ok (.iload_n 0, 1) := by decide +kernel
theorem dX6_held_10 : decode cX6_held 10 = .ok (.iload_n 2, 1) := by decide +kernel
theorem dX6_held_11 : decode cX6_held 11 = .ok (.if_icmp .le 7, 3) := by decide +kernel
theorem dX6_held_14 : decode cX6_held 14 = .ok (.iload_n 2, 1) := by decide +kernel
theorem dX6_held_15 : decode cX6_held 15 = .ok (.goto 4, 3) := by decide +kernel
theorem dX6_held_18 : decode cX6_held 18 = .ok (.iload_n 0, 1) := by decide +kernel
theorem dX6_held_19 : decode cX6_held 19 = .ok (.ireturn, 1) := by decide +kernel
set_option maxRecDepth 20000 in
theorem ggX6_joint_X6_in : GoodIn wsX6_joint wsX6_in := goodIn_r _ [11] (by decide +kernel) (by decide +kernel)
set_option maxRecDepth 20000 in
theorem gX6_joint_X6_in : GoodIn wsX6_joint (va_wsS RX6 51 yX6_in wsX6_in) := goodIn_app (goodIn_of _ (by decide +kernel)) ggX6_joint_X6_in
set_option maxRecDepth 20000 in
theorem ggX6_joint_X6_most : GoodIn wsX6_joint wsX6_most := goodIn_r _ [14] (by decide +kernel) (by decide +kernel)
set_option maxRecDepth 20000 in
theorem gX6_joint_X6_most : GoodIn wsX6_joint (va_wsS RX6 93 yX6_most wsX6_most) := goodIn_app (goodIn_of _ (by decide +kernel)) ggX6_joint_X6_most
set_option maxRecDepth 20000 in
theorem ggX6_joint_X6_held : GoodIn wsX6_joint wsX6_held := goodIn_r _ [17] (by decide +kernel) (by decide +kernel)
set_option maxRecDepth 20000 in
theorem gX6_joint_X6_held : GoodIn wsX6_joint (va_wsS RX6 96 yX6_held wsX6_held) := goodIn_app (goodIn_of _ (by decide +kernel)) ggX6_joint_X6_held
theorem dX6_joint_0 : decode cX6_joint 0 = .ok (.iload_n 1, 1) := by decide +kernel
theorem dX6_joint_1 : decode cX6_joint 1 = .ok (.iconst 0, 1) := by decide +kernel
theorem dX6_joint_2 : decode cX6_joint 2 = .ok (.iconst 1, 1) := by decide +kernel
theorem dX6_joint_3 : decode cX6_joint 3 = .ok (.invokestatic 51, 3) := by decide +kernel
theorem dX6_joint_6 : decode cX6_joint 6 = .ok (.ifCond .eq 52, 3) := by decide +kernel
theorem dX6_joint_9 : decode cX6_joint 9 = .ok (.iload_n 2, 1) := by decide +kernel
theorem dX6_joint_10 : decode cX6_joint 10 = .ok (.iconst 0, 1) := by decide +kernel
theorem dX6_joint_11 : decode cX6_joint 11 = .ok (.sipush 200, 3) := by decide +kernel
theorem dX6_joint_14 : decode cX6_joint 14 = .ok (.invokestatic 51, 3) := by decide +kernel
theorem dX6_joint_17 : decode cX6_joint 17 = .ok (.ifCond .eq 41, 3) := by decide +kernel
theorem dX6_joint_20 : decode cX6_joint 20 = .ok (.iload_n 3, 1) := by decide +kernel
theorem dX6_joint_21 : decode cX6_joint 21 = .ok (.iload_n 1, 1) := by decide +kernel
theorem dX6_joint_22 : decode cX6_joint 22 = .ok (.ifCond .ne 8, 3) := by decide +kernel
theorem dX6_joint_25 : decode cX6_joint 25 = .ok (.bipush (-32), 2) := by decide +kernel
theorem dX6_joint_27 : decode cX6_joint 27 = .ok (.goto 4, 3) := by decide +kernel
theorem dX6_joint_30 : decode cX6_joint 30 = .ok (.iconst 0, 1) := by decide +kernel
theorem dX6_joint_31 : decode cX6_joint 31 = .ok (.iload_n 1, 1) := by decide +kernel
theorem dX6_joint_32 : decode cX6_joint 32 = .ok (.invokestatic 93, 3) := by decide +kernel
theorem dX6_joint_35 : decode cX6_joint 35 = .ok (.invokestatic 51, 3) := by decide +kernel
theorem dX6_joint_38 : decode cX6_joint 38 = .ok (.ifCond .eq 20, 3) := by decide +kernel
theorem dX6_joint_41 : decode cX6_joint 41 = .ok (.iload 4, 2) := by decide +kernel
theorem dX6_joint_43 : decode cX6_joint 43 = .ok (.iload_n 3, 1) := by decide +kernel
theorem dX6_joint_44 : decode cX6_joint 44 = .ok (.iload_n 1, 1) := by decide +kernel
theorem dX6_joint_45 : decode cX6_joint 45 = .ok (.invokestatic 93, 3) := by decide +kernel
theorem dX6_joint_48 : decode cX6_joint 48 = .ok (.invokestatic 51, 3) := by decide +kernel
theorem dX6_joint_51 : decode cX6_joint 51 = .ok (.ifCond .eq 7, 3) := by decide +kernel
theorem dX6_joint_54 : decode cX6_joint 54 = .ok (.iconst 1, 1) := by decide +kernel
theorem dX6_joint_55 : decode cX6_joint 55 = .ok (.goto 4, 3) := by decide +kernel
theorem dX6_joint_58 : decode cX6_joint 58 = .ok (.iconst 0, 1) := by decide +kernel
theorem dX6_joint_59 : decode cX6_joint 59 = .ok (.istore 5, 2) := by decide +kernel
theorem dX6_joint_61 : decode cX6_joint 61 = .ok (.aload_n 0, 1) := by decide +kernel
theorem dX6_joint_62 : decode cX6_joint 62 = .ok (.iload 5, 2) := by decide +kernel
theorem dX6_joint_64 : decode cX6_joint 64 = .ok (.ifCond .ne 7, 3) := by decide +kernel
theorem dX6_joint_67 : decode cX6_joint 67 = .ok (.iconst 1, 1) := by decide +kernel
theorem dX6_joint_68 : decode cX6_joint 68 = .ok (.goto 16, 3) := by decide +kernel
theorem dX6_joint_71 : decode cX6_joint 71 = .ok (.aload_n 0, 1) := by decide +kernel
theorem dX6_joint_72 : decode cX6_joint 72 = .ok (.getfield 48, 3) := by decide +kernel
