set_option maxRecDepth 20000 in
theorem ggX4_followWith_X4_start : GoodIn wsX4_followWith wsX4_start := goodIn_r _ [6, 7, 8, 1, 35, 36, 37] (by decide +kernel) (by decide +kernel)
set_option maxRecDepth 20000 in
theorem gX4_followWith_X4_start : GoodIn wsX4_followWith (wsV RX4 32 RX4 yX4_start wsX4_start) := goodIn_app (goodIn_of _ (by decide +kernel)) ggX4_followWith_X4_start
set_option maxRecDepth 20000 in
theorem ggX4_followWith_X0_turnOf : GoodIn wsX4_followWith wsX0_turnOf := goodIn_r _ [12, 13, 29, 30, 31, 32, 33, 34] (by decide +kernel) (by decide +kernel)
set_option maxRecDepth 20000 in
theorem gX4_followWith_X0_turnOf_n44 : GoodIn wsX4_followWith (wsX0_turnOf) := ggX4_followWith_X0_turnOf
set_option maxRecDepth 20000 in
theorem ggX4_followWith_X0_distanceOf : GoodIn wsX4_followWith wsX0_distanceOf := goodIn_r _ [16, 13, 17, 29, 30, 31, 32, 33, 34] (by decide +kernel) (by decide +kernel)
set_option maxRecDepth 20000 in
theorem gX4_followWith_X0_distanceOf_n48 : GoodIn wsX4_followWith (wsX0_distanceOf) := ggX4_followWith_X0_distanceOf
set_option maxRecDepth 20000 in
theorem ggX4_followWith_X4_go : GoodIn wsX4_followWith wsX4_go := goodIn_r _ [21, 7, 8, 22, 23, 24, 25, 26, 27, 28, 35, 36, 37] (by decide +kernel) (by decide +kernel)
set_option maxRecDepth 20000 in
theorem gX4_followWith_X4_go : GoodIn wsX4_followWith (wsV RX4 51 RX4 yX4_go wsX4_go) := goodIn_app (goodIn_of _ (by decide +kernel)) ggX4_followWith_X4_go
theorem dX4_followWith_0 : decode cX4_followWith 0 = .ok (.aload_n 0, 1) := by decide +kernel
theorem dX4_followWith_1 : decode cX4_followWith 1 = .ok (.invokevirtual 32, 3) := by decide +kernel
theorem dX4_followWith_4 : decode cX4_followWith 4 = .ok (.iconst 0, 1) := by decide +kernel
theorem dX4_followWith_5 : decode cX4_followWith 5 = .ok (.istore 4, 2) := by decide +kernel
theorem dX4_followWith_7 : decode cX4_followWith 7 = .ok (.iload 4, 2) := by decide +kernel
theorem dX4_followWith_9 : decode cX4_followWith 9 = .ok (.aload_n 1, 1) := by decide +kernel
theorem dX4_followWith_10 : decode cX4_followWith 10 = .ok (.getfield 35, 3) := by decide +kernel
theorem dX4_followWith_13 : decode cX4_followWith 13 = .ok (.if_icmp .ge 64, 3) := by decide +kernel
theorem dX4_followWith_16 : decode cX4_followWith 16 = .ok (.iload 4, 2) := by decide +kernel
theorem dX4_followWith_18 : decode cX4_followWith 18 = .ok (.iload_n 2, 1) := by decide +kernel
theorem dX4_followWith_19 : decode cX4_followWith 19 = .ok (.if_icmp .ne 7, 3) := by decide +kernel
theorem dX4_followWith_22 : decode cX4_followWith 22 = .ok (.iload_n 3, 1) := by decide +kernel
theorem dX4_followWith_23 : decode cX4_followWith 23 = .ok (.goto 10, 3) := by decide +kernel
theorem dX4_followWith_26 : decode cX4_followWith 26 = .ok (.aload_n 1, 1) := by decide +kernel
theorem dX4_followWith_27 : decode cX4_followWith 27 = .ok (.getfield 40, 3) := by decide +kernel
theorem dX4_followWith_30 : decode cX4_followWith 30 = .ok (.iload 4, 2) := by decide +kernel
theorem dX4_followWith_32 : decode cX4_followWith 32 = .ok (.iaload, 1) := by decide +kernel
theorem dX4_followWith_33 : decode cX4_followWith 33 = .ok (.istore 5, 2) := by decide +kernel
theorem dX4_followWith_35 : decode cX4_followWith 35 = .ok (.aload_n 0, 1) := by decide +kernel
theorem dX4_followWith_36 : decode cX4_followWith 36 = .ok (.aload_n 0, 1) := by decide +kernel
theorem dX4_followWith_37 : decode cX4_followWith 37 = .ok (.getfield 18, 3) := by decide +kernel
theorem dX4_followWith_40 : decode cX4_followWith 40 = .ok (.aload_n 1, 1) := by decide +kernel
theorem dX4_followWith_41 : decode cX4_followWith 41 = .ok (.iload 4, 2) := by decide +kernel
theorem dX4_followWith_43 : decode cX4_followWith 43 = .ok (.iload 5, 2) := by decide +kernel
theorem dX4_followWith_45 : decode cX4_followWith 45 = .ok (.invokevirtual 44, 3) := by decide +kernel
theorem dX4_followWith_48 : decode cX4_followWith 48 = .ok (.iadd, 1) := by decide +kernel
theorem dX4_followWith_49 : decode cX4_followWith 49 = .ok (.bipush 63, 2) := by decide +kernel
theorem dX4_followWith_51 : decode cX4_followWith 51 = .ok (.iand, 1) := by decide +kernel
theorem dX4_followWith_52 : decode cX4_followWith 52 = .ok (.putfield 18, 3) := by decide +kernel
theorem dX4_followWith_55 : decode cX4_followWith 55 = .ok (.aload_n 0, 1) := by decide +kernel
theorem dX4_followWith_56 : decode cX4_followWith 56 = .ok (.aload_n 1, 1) := by decide +kernel
theorem dX4_followWith_57 : decode cX4_followWith 57 = .ok (.iload 4, 2) := by decide +kernel
theorem dX4_followWith_59 : decode cX4_followWith 59 = .ok (.iload 5, 2) := by decide +kernel
theorem dX4_followWith_61 : decode cX4_followWith 61 = .ok (.invokevirtual 48, 3) := by decide +kernel
theorem dX4_followWith_64 : decode cX4_followWith 64 = .ok (.aload_n 0, 1) := by decide +kernel
theorem dX4_followWith_65 : decode cX4_followWith 65 = .ok (.getfield 18, 3) := by decide +kernel
theorem dX4_followWith_68 : decode cX4_followWith 68 = .ok (.invokevirtual 51, 3) := by decide +kernel
theorem dX4_followWith_71 : decode cX4_followWith 71 = .ok (.iinc 4 1, 3) := by decide +kernel
theorem dX4_followWith_74 : decode cX4_followWith 74 = .ok (.goto (-67), 3) := by decide +kernel
theorem dX4_followWith_77 : decode cX4_followWith 77 = .ok (.return_, 1) := by decide +kernel
set_option maxRecDepth 20000 in
theorem ggX4_followBack_X4_start : GoodIn wsX4_followBack wsX4_start := goodIn_r _ [6, 7, 8, 1, 40, 41, 42] (by decide +kernel) (by decide +kernel)
set_option maxRecDepth 20000 in
theorem gX4_followBack_X4_start : GoodIn wsX4_followBack (wsV RX4 32 RX4 yX4_start wsX4_start) := goodIn_app (goodIn_of _ (by decide +kernel)) ggX4_followBack_X4_start
set_option maxRecDepth 20000 in
theorem ggX4_followBack_X0_distanceOf : GoodIn wsX4_followBack wsX0_distanceOf := goodIn_r _ [12, 13, 14, 34, 35, 36, 37, 38, 39] (by decide +kernel) (by decide +kernel)
set_option maxRecDepth 20000 in
theorem gX4_followBack_X0_distanceOf_n48 : GoodIn wsX4_followBack (wsX0_distanceOf) := ggX4_followBack_X0_distanceOf
set_option maxRecDepth 20000 in
theorem ggX4_followBack_X0_headingAt : GoodIn wsX4_followBack wsX0_headingAt := goodIn_r _ [17, 18, 19, 20, 21, 10, 22, 13, 34, 35, 36, 37, 38, 39] (by decide +kernel) (by decide +kernel)
set_option maxRecDepth 20000 in
theorem gX4_followBack_X0_headingAt_n55 : GoodIn wsX4_followBack (wsX0_headingAt) := ggX4_followBack_X0_headingAt
set_option maxRecDepth 20000 in
theorem ggX4_followBack_X4_go : GoodIn wsX4_followBack wsX4_go := goodIn_r _ [26, 7, 8, 27, 28, 29, 30, 31, 32, 33, 40, 41, 42] (by decide +kernel) (by decide +kernel)
set_option maxRecDepth 20000 in
theorem gX4_followBack_X4_go : GoodIn wsX4_followBack (wsV RX4 51 RX4 yX4_go wsX4_go) := goodIn_app (goodIn_of _ (by decide +kernel)) ggX4_followBack_X4_go
theorem dX4_followBack_0 : decode cX4_followBack 0 = .ok (.aload_n 0, 1) := by decide +kernel
theorem dX4_followBack_1 : decode cX4_followBack 1 = .ok (.invokevirtual 32, 3) := by decide +kernel
theorem dX4_followBack_4 : decode cX4_followBack 4 = .ok (.aload_n 1, 1) := by decide +kernel
theorem dX4_followBack_5 : decode cX4_followBack 5 = .ok (.getfield 35, 3) := by decide +kernel
theorem dX4_followBack_8 : decode cX4_followBack 8 = .ok (.iconst 1, 1) := by decide +kernel
theorem dX4_followBack_9 : decode cX4_followBack 9 = .ok (.isub, 1) := by decide +kernel
theorem dX4_followBack_10 : decode cX4_followBack 10 = .ok (.istore_n 2, 1) := by decide +kernel
theorem dX4_followBack_11 : decode cX4_followBack 11 = .ok (.iload_n 2, 1) := by decide +kernel
theorem dX4_followBack_12 : decode cX4_followBack 12 = .ok (.ifCond .lt 29, 3) := by decide +kernel
theorem dX4_followBack_15 : decode cX4_followBack 15 = .ok (.aload_n 0, 1) := by decide +kernel
theorem dX4_followBack_16 : decode cX4_followBack 16 = .ok (.aload_n 1, 1) := by decide +kernel
theorem dX4_followBack_17 : decode cX4_followBack 17 = .ok (.iload_n 2, 1) := by decide +kernel
theorem dX4_followBack_18 : decode cX4_followBack 18 = .ok (.aload_n 1, 1) := by decide +kernel
theorem dX4_followBack_19 : decode cX4_followBack 19 = .ok (.getfield 40, 3) := by decide +kernel
theorem dX4_followBack_22 : decode cX4_followBack 22 = .ok (.iload_n 2, 1) := by decide +kernel
theorem dX4_followBack_23 : decode cX4_followBack 23 = .ok (.iaload, 1) := by decide +kernel
theorem dX4_followBack_24 : decode cX4_followBack 24 = .ok (.invokevirtual 48, 3) := by decide +kernel
theorem dX4_followBack_27 : decode cX4_followBack 27 = .ok (.aload_n 1, 1) := by decide +kernel
theorem dX4_followBack_28 : decode cX4_followBack 28 = .ok (.iload_n 2, 1) := by decide +kernel
theorem dX4_followBack_29 : decode cX4_followBack 29 = .ok (.invokevirtual 55, 3) := by decide +kernel
theorem dX4_followBack_32 : decode cX4_followBack 32 = .ok (.invokevirtual 51, 3) := by decide +kernel
theorem dX4_followBack_35 : decode cX4_followBack 35 = .ok (.iinc 2 (-1), 3) := by decide +kernel
theorem dX4_followBack_38 : decode cX4_followBack 38 = .ok (.goto (-27), 3) := by decide +kernel
theorem dX4_followBack_41 : decode cX4_followBack 41 = .ok (.aload_n 0, 1) := by decide +kernel
theorem dX4_followBack_42 : decode cX4_followBack 42 = .ok (.aload_n 1, 1) := by decide +kernel
theorem dX4_followBack_43 : decode cX4_followBack 43 = .ok (.aload_n 1, 1) := by decide +kernel
theorem dX4_followBack_44 : decode cX4_followBack 44 = .ok (.getfield 35, 3) := by decide +kernel
theorem dX4_followBack_47 : decode cX4_followBack 47 = .ok (.iconst 1, 1) := by decide +kernel
theorem dX4_followBack_48 : decode cX4_followBack 48 = .ok (.isub, 1) := by decide +kernel
theorem dX4_followBack_49 : decode cX4_followBack 49 = .ok (.invokevirtual 55, 3) := by decide +kernel
theorem dX4_followBack_52 : decode cX4_followBack 52 = .ok (.putfield 18, 3) := by decide +kernel
theorem dX4_followBack_55 : decode cX4_followBack 55 = .ok (.return_, 1) := by decide +kernel
theorem dX4_told_0 : decode cX4_told 0 = .ok (.iload_n 1, 1) := by decide +kernel
theorem dX4_told_1 : decode cX4_told 1 = .ok (.ifCond .ne 8, 3) := by decide +kernel
theorem dX4_told_4 : decode cX4_told 4 = .ok (.aload_n 0, 1) := by decide +kernel
theorem dX4_told_5 : decode cX4_told 5 = .ok (.getfield 9, 3) := by decide +kernel
theorem dX4_told_8 : decode cX4_told 8 = .ok (.ireturn, 1) := by decide +kernel
theorem dX4_told_9 : decode cX4_told 9 = .ok (.iload_n 1, 1) := by decide +kernel
theorem dX4_told_10 : decode cX4_told 10 = .ok (.iconst 1, 1) := by decide +kernel
theorem dX4_told_11 : decode cX4_told 11 = .ok (.if_icmp .ne 10, 3) := by decide +kernel
theorem dX4_told_14 : decode cX4_told 14 = .ok (.aload_n 0, 1) := by decide +kernel
theorem dX4_told_15 : decode cX4_told 15 = .ok (.getfield 15, 3) := by decide +kernel
theorem dX4_told_18 : decode cX4_told 18 = .ok (.goto 7, 3) := by decide +kernel
theorem dX4_told_21 : decode cX4_told 21 = .ok (.aload_n 0, 1) := by decide +kernel
theorem dX4_told_22 : decode cX4_told 22 = .ok (.getfield 18, 3) := by decide +kernel
theorem dX4_told_25 : decode cX4_told 25 = .ok (.ireturn, 1) := by decide +kernel
set_option maxRecDepth 20000 in
theorem ggX5_init_X0_init : GoodIn wsX5_init wsX0_init := goodIn_r _ [25, 26, 2, 3, 21, 27, 28, 29, 30, 31, 58, 59, 60, 61, 62, 63] (by decide +kernel) (by decide +kernel)
set_option maxRecDepth 20000 in
theorem gX5_init_X0_init_n9 : GoodIn wsX5_init (wsX0_init) := ggX5_init_X0_init
set_option maxRecDepth 20000 in
theorem ggX5_init_X1_init : GoodIn wsX5_init wsX1_init := goodIn_r _ [33, 34, 2, 3, 35, 71, 72, 73] (by decide +kernel) (by decide +kernel)
set_option maxRecDepth 20000 in
theorem gX5_init_X1_init_n18 : GoodIn wsX5_init (wsX1_init) := ggX5_init_X1_init
set_option maxRecDepth 20000 in
theorem ggX5_init_X4_init : GoodIn wsX5_init wsX4_init := goodIn_r _ [37, 38, 2, 3] (by decide +kernel) (by decide +kernel)
set_option maxRecDepth 20000 in
theorem gX5_init_X4_init_n25 : GoodIn wsX5_init (wsX4_init) := ggX5_init_X4_init
set_option maxRecDepth 20000 in
theorem ggX5_init_X3_init : GoodIn wsX5_init wsX3_init := goodIn_r _ [40, 41, 2, 3, 42, 43, 44, 45, 21, 46, 47, 48, 49, 50, 51, 52, 53, 54, 55, 56, 57, 84, 85, 86, 77, 78, 79, 80, 81, 82, 83] (by decide +kernel) (by decide +kernel)
set_option maxRecDepth 20000 in
theorem gX5_init_X3_init_n35 : GoodIn wsX5_init (wsX3_init) := ggX5_init_X3_init
theorem dX5_init_0 : decode cX5_init 0 = .ok (.aload_n 0, 1) := by decide +kernel
theorem dX5_init_1 : decode cX5_init 1 = .ok (.invokespecial 1, 3) := by decide +kernel
theorem dX5_init_4 : decode cX5_init 4 = .ok (.aload_n 0, 1) := by decide +kernel
theorem dX5_init_5 : decode cX5_init 5 = .ok (.new 7, 3) := by decide +kernel
theorem dX5_init_8 : decode cX5_init 8 = .ok (.dup, 1) := by decide +kernel
theorem dX5_init_9 : decode cX5_init 9 = .ok (.invokespecial 9, 3) := by decide +kernel
theorem dX5_init_12 : decode cX5_init 12 = .ok (.putfield 10, 3) := by decide +kernel
theorem dX5_init_15 : decode cX5_init 15 = .ok (.aload_n 0, 1) := by decide +kernel
theorem dX5_init_16 : decode cX5_init 16 = .ok (.new 16, 3) := by decide +kernel
theorem dX5_init_19 : decode cX5_init 19 = .ok (.dup, 1) := by decide +kernel
theorem dX5_init_20 : decode cX5_init 20 = .ok (.invokespecial 18, 3) := by decide +kernel
theorem dX5_init_23 : decode cX5_init 23 = .ok (.putfield 19, 3) := by decide +kernel
theorem dX5_init_26 : decode cX5_init 26 = .ok (.aload_n 0, 1) := by decide +kernel
theorem dX5_init_27 : decode cX5_init 27 = .ok (.new 23, 3) := by decide +kernel
theorem dX5_init_30 : decode cX5_init 30 = .ok (.dup, 1) := by decide +kernel
theorem dX5_init_31 : decode cX5_init 31 = .ok (.invokespecial 25, 3) := by decide +kernel
theorem dX5_init_34 : decode cX5_init 34 = .ok (.putfield 26, 3) := by decide +kernel
theorem dX5_init_37 : decode cX5_init 37 = .ok (.aload_n 0, 1) := by decide +kernel
theorem dX5_init_38 : decode cX5_init 38 = .ok (.new 23, 3) := by decide +kernel
theorem dX5_init_41 : decode cX5_init 41 = .ok (.dup, 1) := by decide +kernel
theorem dX5_init_42 : decode cX5_init 42 = .ok (.invokespecial 25, 3) := by decide +kernel
theorem dX5_init_45 : decode cX5_init 45 = .ok (.putfield 30, 3) := by decide +kernel
theorem dX5_init_48 : decode cX5_init 48 = .ok (.aload_n 0, 1) := by decide +kernel
theorem dX5_init_49 : decode cX5_init 49 = .ok (.new 33, 3) := by decide +kernel
theorem dX5_init_52 : decode cX5_init 52 = .ok (.dup, 1) := by decide +kernel
theorem dX5_init_53 : decode cX5_init 53 = .ok (.invokespecial 35, 3) := by decide +kernel
theorem dX5_init_56 : decode cX5_init 56 = .ok (.putfield 36, 3) := by decide +kernel
theorem dX5_init_59 : decode cX5_init 59 = .ok (.aload_n 0, 1) := by decide +kernel
theorem dX5_init_60 : decode cX5_init 60 = .ok (.iconst 5, 1) := by decide +kernel
theorem dX5_init_61 : decode cX5_init 61 = .ok (.newarray .int, 2) := by decide +kernel
theorem dX5_init_63 : decode cX5_init 63 = .ok (.putfield 40, 3) := by decide +kernel
theorem dX5_init_66 : decode cX5_init 66 = .ok (.aload_n 0, 1) := by decide +kernel
theorem dX5_init_67 : decode cX5_init 67 = .ok (.iconst 5, 1) := by decide +kernel
theorem dX5_init_68 : decode cX5_init 68 = .ok (.newarray .int, 2) := by decide +kernel
theorem dX5_init_70 : decode cX5_init 70 = .ok (.putfield 44, 3) := by decide +kernel
theorem dX5_init_73 : decode cX5_init 73 = .ok (.return_, 1) := by decide +kernel
set_option maxRecDepth 20000 in
theorem ggX5_joint_X0_isFull : GoodIn wsX5_joint wsX0_isFull := goodIn_r _ [9, 10, 37, 38, 39, 40, 41, 42] (by decide +kernel) (by decide +kernel)
set_option maxRecDepth 20000 in
theorem gX5_joint_X0_isFull_n58 : GoodIn wsX5_joint (wsX0_isFull) := ggX5_joint_X0_isFull
set_option maxRecDepth 20000 in
theorem ggX5_joint_X0_add : GoodIn wsX5_joint wsX0_add := goodIn_r _ [13, 10, 14, 15, 16, 17, 18, 19, 20, 21, 7, 22, 23, 24, 25, 26, 27, 28, 29, 37, 38, 39, 40, 41, 42] (by decide +kernel) (by decide +kernel)
set_option maxRecDepth 20000 in
theorem gX5_joint_X0_add_n67 : GoodIn wsX5_joint (wsX0_add) := ggX5_joint_X0_add
theorem dX5_joint_0 : decode cX5_joint 0 = .ok (.iload_n 1, 1) := by decide +kernel
theorem dX5_joint_1 : decode cX5_joint 1 = .ok (.ifCond .eq 18, 3) := by decide +kernel
theorem dX5_joint_4 : decode cX5_joint 4 = .ok (.iload_n 1, 1) := by decide +kernel
theorem dX5_joint_5 : decode cX5_joint 5 = .ok (.iconst 1, 1) := by decide +kernel
theorem dX5_joint_6 : decode cX5_joint 6 = .ok (.if_icmp .eq 13, 3) := by decide +kernel
theorem dX5_joint_9 : decode cX5_joint 9 = .ok (.new 47, 3) := by decide +kernel
theorem dX5_joint_12 : decode cX5_joint 12 = .ok (.dup, 1) := by decide +kernel
theorem dX5_joint_13 : decode cX5_joint 13 = .ok (.ldc 49, 2) := by decide +kernel
theorem dX5_joint_15 : decode cX5_joint 15 = .ok (.invokespecial 51, 3) := by decide +kernel
theorem dX5_joint_18 : decode cX5_joint 18 = .ok (.athrow, 1) := by decide +kernel
theorem dX5_joint_19 : decode cX5_joint 19 = .ok (.iload_n 2, 1) := by decide +kernel
theorem dX5_joint_20 : decode cX5_joint 20 = .ok (.ifCond .lt 10, 3) := by decide +kernel
theorem dX5_joint_23 : decode cX5_joint 23 = .ok (.iload_n 2, 1) := by decide +kernel
theorem dX5_joint_24 : decode cX5_joint 24 = .ok (.sipush 200, 3) := by decide +kernel
theorem dX5_joint_27 : decode cX5_joint 27 = .ok (.if_icmp .le 13, 3) := by decide +kernel
theorem dX5_joint_30 : decode cX5_joint 30 = .ok (.new 47, 3) := by decide +kernel
theorem dX5_joint_33 : decode cX5_joint 33 = .ok (.dup, 1) := by decide +kernel
theorem dX5_joint_34 : decode cX5_joint 34 = .ok (.ldc 54, 2) := by decide +kernel
theorem dX5_joint_36 : decode cX5_joint 36 = .ok (.invokespecial 51, 3) := by decide +kernel
theorem dX5_joint_39 : decode cX5_joint 39 = .ok (.athrow, 1) := by decide +kernel
theorem dX5_joint_40 : decode cX5_joint 40 = .ok (.iload_n 1, 1) := by decide +kernel
theorem dX5_joint_41 : decode cX5_joint 41 = .ok (.ifCond .ne 8, 3) := by decide +kernel
theorem dX5_joint_44 : decode cX5_joint 44 = .ok (.bipush (-32), 2) := by decide +kernel
theorem dX5_joint_46 : decode cX5_joint 46 = .ok (.goto 4, 3) := by decide +kernel
theorem dX5_joint_49 : decode cX5_joint 49 = .ok (.iconst 0, 1) := by decide +kernel
theorem dX5_joint_50 : decode cX5_joint 50 = .ok (.istore 5, 2) := by decide +kernel
theorem dX5_joint_52 : decode cX5_joint 52 = .ok (.iload_n 1, 1) := by decide +kernel
theorem dX5_joint_53 : decode cX5_joint 53 = .ok (.ifCond .ne 8, 3) := by decide +kernel
theorem dX5_joint_56 : decode cX5_joint 56 = .ok (.bipush 32, 2) := by decide +kernel
theorem dX5_joint_58 : decode cX5_joint 58 = .ok (.goto 5, 3) := by decide +kernel
theorem dX5_joint_61 : decode cX5_joint 61 = .ok (.bipush 100, 2) := by decide +kernel
theorem dX5_joint_63 : decode cX5_joint 63 = .ok (.istore 6, 2) := by decide +kernel
theorem dX5_joint_65 : decode cX5_joint 65 = .ok (.iload_n 3, 1) := by decide +kernel
theorem dX5_joint_66 : decode cX5_joint 66 = .ok (.iload 5, 2) := by decide +kernel
theorem dX5_joint_68 : decode cX5_joint 68 = .ok (.if_icmp .lt 16, 3) := by decide +kernel
theorem dX5_joint_71 : decode cX5_joint 71 = .ok (.iload 4, 2) := by decide +kernel
theorem dX5_joint_73 : decode cX5_joint 73 = .ok (.iload 6, 2) := by decide +kernel
theorem dX5_joint_75 : decode cX5_joint 75 = .ok (.if_icmp .gt 9, 3) := by decide +kernel
theorem dX5_joint_78 : decode cX5_joint 78 = .ok (.iload_n 3, 1) := by decide +kernel
theorem dX5_joint_79 : decode cX5_joint 79 = .ok (.iload 4, 2) := by decide +kernel
theorem dX5_joint_81 : decode cX5_joint 81 = .ok (.if_icmp .le 13, 3) := by decide +kernel
theorem dX5_joint_84 : decode cX5_joint 84 = .ok (.new 47, 3) := by decide +kernel
theorem dX5_joint_87 : decode cX5_joint 87 = .ok (.dup, 1) := by decide +kernel
theorem dX5_joint_88 : decode cX5_joint 88 = .ok (.ldc 56, 2) := by decide +kernel
theorem dX5_joint_90 : decode cX5_joint 90 = .ok (.invokespecial 51, 3) := by decide +kernel
theorem dX5_joint_93 : decode cX5_joint 93 = .ok (.athrow, 1) := by decide +kernel
theorem dX5_joint_94 : decode cX5_joint 94 = .ok (.aload_n 0, 1) := by decide +kernel
theorem dX5_joint_95 : decode cX5_joint 95 = .ok (.getfield 10, 3) := by decide +kernel
theorem dX5_joint_98 : decode cX5_joint 98 = .ok (.invokevirtual 58, 3) := by decide +kernel
theorem dX5_joint_101 : decode cX5_joint 101 = .ok (.ifCond .eq 13, 3) := by decide +kernel
theorem dX5_joint_104 : decode cX5_joint 104 = .ok (.new 62, 3) := by decide +kernel
theorem dX5_joint_107 : decode cX5_joint 107 = .ok (.dup, 1) := by decide +kernel
theorem dX5_joint_108 : decode cX5_joint 108 = .ok (.ldc 64, 2) := by decide +kernel
theorem dX5_joint_110 : decode cX5_joint 110 = .ok (.invokespecial 66, 3) := by decide +kernel
theorem dX5_joint_113 : decode cX5_joint 113 = .ok (.athrow, 1) := by decide +kernel
theorem dX5_joint_114 : decode cX5_joint 114 = .ok (.aload_n 0, 1) := by decide +kernel
theorem dX5_joint_115 : decode cX5_joint 115 = .ok (.getfield 10, 3) := by decide +kernel
theorem dX5_joint_118 : decode cX5_joint 118 = .ok (.iload_n 1, 1) := by decide +kernel
theorem dX5_joint_119 : decode cX5_joint 119 = .ok (.iload_n 2, 1) := by decide +kernel
theorem dX5_joint_120 : decode cX5_joint 120 = .ok (.iload_n 3, 1) := by decide +kernel
theorem dX5_joint_121 : decode cX5_joint 121 = .ok (.iload 4, 2) := by decide +kernel
theorem dX5_joint_123 : decode cX5_joint 123 = .ok (.invokevirtual 67, 3) := by decide +kernel
theorem dX5_joint_126 : decode cX5_joint 126 = .ok (.ireturn, 1) := by decide +kernel
set_option maxRecDepth 20000 in
theorem ggX5_set_X5_checkJoint : GoodIn wsX5_set wsX5_checkJoint := goodIn_ca (goodIn_r _ [8, 9, 10, 3, 11, 12, 13, 14, 15, 16, 17, 18, 19, 20, 21, 22, 23] (by decide +kernel) (by decide +kernel)) (goodIn_sub (fun _ h => List.mem_cons_of_mem _ (List.mem_append_right _ h)) (by decide +kernel))
set_option maxRecDepth 20000 in
theorem gX5_set_X5_checkJoint : GoodIn wsX5_set (wsV RX5 71 RX5 yX5_checkJoint wsX5_checkJoint) := goodIn_app (goodIn_of _ (by decide +kernel)) ggX5_set_X5_checkJoint
theorem dX5_set_0 : decode cX5_set 0 = .ok (.aload_n 0, 1) := by decide +kernel
theorem dX5_set_1 : decode cX5_set 1 = .ok (.iload_n 1, 1) := by decide +kernel
theorem dX5_set_2 : decode cX5_set 2 = .ok (.invokevirtual 71, 3) := by decide +kernel
theorem dX5_set_5 : decode cX5_set 5 = .ok (.iload_n 2, 1) := by decide +kernel
theorem dX5_set_6 : decode cX5_set 6 = .ok (.aload_n 0, 1) := by decide +kernel
theorem dX5_set_7 : decode cX5_set 7 = .ok (.getfield 10, 3) := by decide +kernel
theorem dX5_set_10 : decode cX5_set 10 = .ok (.getfield 75, 3) := by decide +kernel
theorem dX5_set_13 : decode cX5_set 13 = .ok (.iload_n 1, 1) := by decide +kernel
theorem dX5_set_14 : decode cX5_set 14 = .ok (.iaload, 1) := by decide +kernel
theorem dX5_set_15 : decode cX5_set 15 = .ok (.if_icmp .lt 16, 3) := by decide +kernel
theorem dX5_set_18 : decode cX5_set 18 = .ok (.iload_n 2, 1) := by decide +kernel
theorem dX5_set_19 : decode cX5_set 19 = .ok (.aload_n 0, 1) := by decide +kernel
theorem dX5_set_20 : decode cX5_set 20 = .ok (.getfield 10, 3) := by decide +kernel
theorem dX5_set_23 : decode cX5_set 23 = .ok (.getfield 78, 3) := by decide +kernel
theorem dX5_set_26 : decode cX5_set 26 = .ok (.iload_n 1, 1) := by decide +kernel
theorem dX5_set_27 : decode cX5_set 27 = .ok (.iaload, 1) := by decide +kernel
theorem dX5_set_28 : decode cX5_set 28 = .ok (.if_icmp .le 13, 3) := by decide +kernel
theorem dX5_set_31 : decode cX5_set 31 = .ok (.new 47, 3) := by decide +kernel
theorem dX5_set_34 : decode cX5_set 34 = .ok (.dup, 1) := by decide +kernel
theorem dX5_set_35 : decode cX5_set 35 = .ok (.ldc 81, 2) := by decide +kernel
theorem dX5_set_37 : decode cX5_set 37 = .ok (.invokespecial 51, 3) := by decide +kernel
theorem dX5_set_40 : decode cX5_set 40 = .ok (.athrow, 1) := by decide +kernel
theorem dX5_set_41 : decode cX5_set 41 = .ok (.aload_n 0, 1) := by decide +kernel
theorem dX5_set_42 : decode cX5_set 42 = .ok (.getfield 10, 3) := by decide +kernel
theorem dX5_set_45 : decode cX5_set 45 = .ok (.getfield 83, 3) := by decide +kernel
theorem dX5_set_48 : decode cX5_set 48 = .ok (.iload_n 1, 1) := by decide +kernel
theorem dX5_set_49 : decode cX5_set 49 = .ok (.iaload, 1) := by decide +kernel
theorem dX5_set_50 : decode cX5_set 50 = .ok (.istore_n 3, 1) := by decide +kernel
theorem dX5_set_51 : decode cX5_set 51 = .ok (.aload_n 0, 1) := by decide +kernel
theorem dX5_set_52 : decode cX5_set 52 = .ok (.getfield 10, 3) := by decide +kernel
theorem dX5_set_55 : decode cX5_set 55 = .ok (.getfield 83, 3) := by decide +kernel
theorem dX5_set_58 : decode cX5_set 58 = .ok (.iload_n 1, 1) := by decide +kernel
theorem dX5_set_59 : decode cX5_set 59 = .ok (.iload_n 2, 1) := by decide +kernel
theorem dX5_set_60 : decode cX5_set 60 = .ok (.iastore, 1) := by decide +kernel
theorem dX5_set_61 : decode cX5_set 61 = .ok (.iload_n 3, 1) := by decide +kernel
theorem dX5_set_62 : decode cX5_set 62 = .ok (.ireturn, 1) := by decide +kernel
set_option maxRecDepth 20000 in
theorem ggX5_value_X5_checkJoint : GoodIn wsX5_value wsX5_checkJoint := goodIn_ca (goodIn_r _ [6, 7, 8, 1, 9, 10, 11, 12, 13, 14, 15, 16, 17, 18, 19, 20, 21] (by decide +kernel) (by decide +kernel)) (goodIn_sub (fun _ h => List.mem_cons_of_mem _ (List.mem_append_right _ h)) (by decide +kernel))
set_option maxRecDepth 20000 in
theorem gX5_value_X5_checkJoint : GoodIn wsX5_value (wsV RX5 71 RX5 yX5_checkJoint wsX5_checkJoint) := goodIn_app (goodIn_of _ (by decide +kernel)) ggX5_value_X5_checkJoint
theorem dX5_value_0 : decode cX5_value 0 = .ok (.aload_n 0, 1) := by decide +kernel
theorem dX5_value_1 : decode cX5_value 1 = .ok (.iload_n 1, 1) := by decide +kernel
theorem dX5_value_2 : decode cX5_value 2 = .ok (.invokevirtual 71, 3) := by decide +kernel
theorem dX5_value_5 : decode cX5_value 5 = .ok (.aload_n 0, 1) := by decide +kernel
theorem dX5_value_6 : decode cX5_value 6 = .ok (.getfield 10, 3) := by decide +kernel
theorem dX5_value_9 : decode cX5_value 9 = .ok (.getfield 83, 3) := by decide +kernel
theorem dX5_value_12 : decode cX5_value 12 = .ok (.iload_n 1, 1) := by decide +kernel
theorem dX5_value_13 : decode cX5_value 13 = .ok (.iaload, 1) := by decide +kernel
theorem dX5_value_14 : decode cX5_value 14 = .ok (.ireturn, 1) := by decide +kernel
set_option maxRecDepth 20000 in
theorem ggX5_tip_X5_checkTold : GoodIn wsX5_tip wsX5_checkTold := goodIn_ca (goodIn_r _ [6, 7, 8] (by decide +kernel) (by decide +kernel)) (goodIn_sub (fun _ h => List.mem_cons_of_mem _ (List.mem_append_right _ h)) (by decide +kernel))
set_option maxRecDepth 20000 in
theorem gX5_tip_X5_checkTold : GoodIn wsX5_tip (va_wsS RX5 86 yX5_checkTold wsX5_checkTold) := goodIn_app (goodIn_of _ (by decide +kernel)) ggX5_tip_X5_checkTold
set_option maxRecDepth 20000 in
theorem ggX5_tip_X4_follow : GoodIn wsX5_tip wsX4_follow := goodIn_r _ [12, 13, 14, 15, 10, 16, 17, 18, 19, 20, 21, 22, 23, 24, 25, 26, 27, 28, 29, 30, 31, 32, 33, 34, 35, 36, 37, 5, 38, 39, 40, 41, 42, 53, 54, 55, 56, 57, 58, 59, 60, 61] (by decide +kernel) (by decide +kernel)
set_option maxRecDepth 20000 in
theorem gX5_tip_X4_follow_n90 : GoodIn wsX5_tip (wsX4_follow) := ggX5_tip_X4_follow
set_option maxRecDepth 20000 in
theorem ggX5_tip_X4_told : GoodIn wsX5_tip wsX4_told := goodIn_r _ [45, 22, 23, 17, 59, 60, 61] (by decide +kernel) (by decide +kernel)
set_option maxRecDepth 20000 in
theorem gX5_tip_X4_told_n94 : GoodIn wsX5_tip (wsX4_told) := ggX5_tip_X4_told
theorem dX5_tip_0 : decode cX5_tip 0 = .ok (.iload_n 1, 1) := by decide +kernel
theorem dX5_tip_1 : decode cX5_tip 1 = .ok (.iconst 2, 1) := by decide +kernel
theorem dX5_tip_2 : decode cX5_tip 2 = .ok (.invokestatic 86, 3) := by decide +kernel
theorem dX5_tip_5 : decode cX5_tip 5 = .ok (.aload_n 0, 1) := by decide +kernel
theorem dX5_tip_6 : decode cX5_tip 6 = .ok (.getfield 26, 3) := by decide +kernel
theorem dX5_tip_9 : decode cX5_tip 9 = .ok (.aload_n 0, 1) := by decide +kernel
theorem dX5_tip_10 : decode cX5_tip 10 = .ok (.getfield 10, 3) := by decide +kernel
theorem dX5_tip_13 : decode cX5_tip 13 = .ok (.invokevirtual 90, 3) := by decide +kernel
theorem dX5_tip_16 : decode cX5_tip 16 = .ok (.aload_n 0, 1) := by decide +kernel
theorem dX5_tip_17 : decode cX5_tip 17 = .ok (.getfield 26, 3) := by decide +kernel
theorem dX5_tip_20 : decode cX5_tip 20 = .ok (.iload_n 1, 1) := by decide +kernel
theorem dX5_tip_21 : decode cX5_tip 21 = .ok (.invokevirtual 94, 3) := by decide +kernel
theorem dX5_tip_24 : decode cX5_tip 24 = .ok (.ireturn, 1) := by decide +kernel
set_option maxRecDepth 20000 in
theorem ggX5_tipAnew_X5_checkTold : GoodIn wsX5_tipAnew wsX5_checkTold := goodIn_ca (goodIn_r _ [6, 7, 8] (by decide +kernel) (by decide +kernel)) (goodIn_sub (fun _ h => List.mem_cons_of_mem _ (List.mem_append_right _ h)) (by decide +kernel))
set_option maxRecDepth 20000 in
theorem gX5_tipAnew_X5_checkTold : GoodIn wsX5_tipAnew (va_wsS RX5 86 yX5_checkTold wsX5_checkTold) := goodIn_app (goodIn_of _ (by decide +kernel)) ggX5_tipAnew_X5_checkTold
set_option maxRecDepth 20000 in
theorem ggX5_tipAnew_X4_followBack : GoodIn wsX5_tipAnew wsX4_followBack := goodIn_r _ [12, 13, 14, 15, 16, 10, 17, 18, 19, 20, 21, 22, 23, 24, 25, 26, 27, 28, 29, 30, 31, 32, 33, 34, 35, 36, 37, 38, 5, 39, 40, 41, 42, 43, 54, 55, 56, 57, 58, 59, 60, 61, 62] (by decide +kernel) (by decide +kernel)
set_option maxRecDepth 20000 in
theorem gX5_tipAnew_X4_followBack_n98 : GoodIn wsX5_tipAnew (wsX4_followBack) := ggX5_tipAnew_X4_followBack
set_option maxRecDepth 20000 in
theorem ggX5_tipAnew_X4_told : GoodIn wsX5_tipAnew wsX4_told := goodIn_r _ [46, 18, 19, 13, 60, 61, 62] (by decide +kernel) (by decide +kernel)
set_option maxRecDepth 20000 in
theorem gX5_tipAnew_X4_told_n94 : GoodIn wsX5_tipAnew (wsX4_told) := ggX5_tipAnew_X4_told
theorem dX5_tipAnew_0 : decode cX5_tipAnew 0 = .ok (.iload_n 1, 1) := by decide +kernel
theorem dX5_tipAnew_1 : decode cX5_tipAnew 1 = .ok (.iconst 2, 1) := by decide +kernel
theorem dX5_tipAnew_2 : decode cX5_tipAnew 2 = .ok (.invokestatic 86, 3) := by decide +kernel
theorem dX5_tipAnew_5 : decode cX5_tipAnew 5 = .ok (.aload_n 0, 1) := by decide +kernel
theorem dX5_tipAnew_6 : decode cX5_tipAnew 6 = .ok (.getfield 30, 3) := by decide +kernel
theorem dX5_tipAnew_9 : decode cX5_tipAnew 9 = .ok (.aload_n 0, 1) := by decide +kernel
theorem dX5_tipAnew_10 : decode cX5_tipAnew 10 = .ok (.getfield 10, 3) := by decide +kernel
theorem dX5_tipAnew_13 : decode cX5_tipAnew 13 = .ok (.invokevirtual 98, 3) := by decide +kernel
theorem dX5_tipAnew_16 : decode cX5_tipAnew 16 = .ok (.aload_n 0, 1) := by decide +kernel
theorem dX5_tipAnew_17 : decode cX5_tipAnew 17 = .ok (.getfield 30, 3) := by decide +kernel
theorem dX5_tipAnew_20 : decode cX5_tipAnew 20 = .ok (.iload_n 1, 1) := by decide +kernel
theorem dX5_tipAnew_21 : decode cX5_tipAnew 21 = .ok (.invokevirtual 94, 3) := by decide +kernel
theorem dX5_tipAnew_24 : decode cX5_tipAnew 24 = .ok (.ireturn, 1) := by decide +kernel
set_option maxRecDepth 20000 in
theorem ggX5_moves_X5_checkJoint : GoodIn wsX5_moves wsX5_checkJoint := goodIn_ca (goodIn_r _ [8, 9, 10, 2, 53, 54, 55, 56, 57, 58, 59, 60, 61, 62, 63, 64, 65] (by decide +kernel) (by decide +kernel)) (goodIn_sub (fun _ h => List.mem_cons_of_mem _ (List.mem_append_left _ (List.mem_append_right _ h))) (by decide +kernel))
set_option maxRecDepth 20000 in
theorem gX5_moves_X5_checkJoint : GoodIn wsX5_moves (wsV RX5 71 RX5 yX5_checkJoint wsX5_checkJoint) := goodIn_app (goodIn_of _ (by decide +kernel)) ggX5_moves_X5_checkJoint
set_option maxRecDepth 20000 in
theorem ggX5_moves_X5_checkTold : GoodIn wsX5_moves wsX5_checkTold := goodIn_ca (goodIn_r _ [13, 14, 15] (by decide +kernel) (by decide +kernel)) (goodIn_sub (fun _ h => List.mem_cons_of_mem _ (List.mem_append_right _ h)) (by decide +kernel))
set_option maxRecDepth 20000 in
theorem gX5_moves_X5_checkTold : GoodIn wsX5_moves (va_wsS RX5 86 yX5_checkTold wsX5_checkTold) := goodIn_app (goodIn_of _ (by decide +kernel)) ggX5_moves_X5_checkTold
set_option maxRecDepth 20000 in
theorem ggX5_moves_X4_follow : GoodIn wsX5_moves wsX4_follow := goodIn_r _ [19, 20, 21, 22, 17, 23, 24, 25, 26, 27, 28, 29, 30, 31, 32, 33, 34, 35, 36, 37, 38, 39, 40, 41, 42, 43, 44, 7, 45, 46, 47, 48, 49, 60, 61, 62, 63, 64, 65, 66, 67, 68] (by decide +kernel) (by decide +kernel)
set_option maxRecDepth 20000 in
theorem gX5_moves_X4_follow_n90 : GoodIn wsX5_moves (wsX4_follow) := ggX5_moves_X4_follow
set_option maxRecDepth 20000 in
theorem ggX5_moves_X4_followWith : GoodIn wsX5_moves wsX4_followWith := goodIn_r _ [23, 24, 25, 26, 27, 17, 28, 29, 30, 31, 32, 33, 34, 35, 36, 37, 38, 39, 40, 41, 42, 43, 44, 7, 45, 46, 47, 48, 49, 60, 61, 62, 63, 64, 65, 66, 67, 68] (by decide +kernel) (by decide +kernel)
set_option maxRecDepth 20000 in
theorem gX5_moves_X4_followWith_n101 : GoodIn wsX5_moves (wsX4_followWith) := ggX5_moves_X4_followWith
set_option maxRecDepth 20000 in
theorem ggX5_moves_X4_told : GoodIn wsX5_moves wsX4_told := goodIn_r _ [52, 29, 30, 24, 66, 67, 68] (by decide +kernel) (by decide +kernel)
set_option maxRecDepth 20000 in
theorem gX5_moves_X4_told_n94 : GoodIn wsX5_moves (wsX4_told) := ggX5_moves_X4_told
theorem dX5_moves_0 : decode cX5_moves 0 = .ok (.aload_n 0, 1) := by decide +kernel
theorem dX5_moves_1 : decode cX5_moves 1 = .ok (.iload_n 1, 1) := by decide +kernel
theorem dX5_moves_2 : decode cX5_moves 2 = .ok (.invokevirtual 71, 3) := by decide +kernel
theorem dX5_moves_5 : decode cX5_moves 5 = .ok (.iload_n 2, 1) := by decide +kernel
theorem dX5_moves_6 : decode cX5_moves 6 = .ok (.iconst 1, 1) := by decide +kernel
theorem dX5_moves_7 : decode cX5_moves 7 = .ok (.invokestatic 86, 3) := by decide +kernel
theorem dX5_moves_10 : decode cX5_moves 10 = .ok (.aload_n 0, 1) := by decide +kernel
theorem dX5_moves_11 : decode cX5_moves 11 = .ok (.getfield 26, 3) := by decide +kernel
theorem dX5_moves_14 : decode cX5_moves 14 = .ok (.aload_n 0, 1) := by decide +kernel
theorem dX5_moves_15 : decode cX5_moves 15 = .ok (.getfield 10, 3) := by decide +kernel
theorem dX5_moves_18 : decode cX5_moves 18 = .ok (.invokevirtual 90, 3) := by decide +kernel
theorem dX5_moves_21 : decode cX5_moves 21 = .ok (.aload_n 0, 1) := by decide +kernel
theorem dX5_moves_22 : decode cX5_moves 22 = .ok (.getfield 30, 3) := by decide +kernel
theorem dX5_moves_25 : decode cX5_moves 25 = .ok (.aload_n 0, 1) := by decide +kernel
theorem dX5_moves_26 : decode cX5_moves 26 = .ok (.getfield 10, 3) := by decide +kernel
theorem dX5_moves_29 : decode cX5_moves 29 = .ok (.iload_n 1, 1) := by decide +kernel
theorem dX5_moves_30 : decode cX5_moves 30 = .ok (.aload_n 0, 1) := by decide +kernel
theorem dX5_moves_31 : decode cX5_moves 31 = .ok (.getfield 10, 3) := by decide +kernel
theorem dX5_moves_34 : decode cX5_moves 34 = .ok (.getfield 83, 3) := by decide +kernel
theorem dX5_moves_37 : decode cX5_moves 37 = .ok (.iload_n 1, 1) := by decide +kernel
theorem dX5_moves_38 : decode cX5_moves 38 = .ok (.iaload, 1) := by decide +kernel
theorem dX5_moves_39 : decode cX5_moves 39 = .ok (.iconst 1, 1) := by decide +kernel
theorem dX5_moves_40 : decode cX5_moves 40 = .ok (.iadd, 1) := by decide +kernel
theorem dX5_moves_41 : decode cX5_moves 41 = .ok (.invokevirtual 101, 3) := by decide +kernel
theorem dX5_moves_44 : decode cX5_moves 44 = .ok (.aload_n 0, 1) := by decide +kernel
theorem dX5_moves_45 : decode cX5_moves 45 = .ok (.getfield 30, 3) := by decide +kernel
theorem dX5_moves_48 : decode cX5_moves 48 = .ok (.iload_n 2, 1) := by decide +kernel
theorem dX5_moves_49 : decode cX5_moves 49 = .ok (.invokevirtual 94, 3) := by decide +kernel
theorem dX5_moves_52 : decode cX5_moves 52 = .ok (.aload_n 0, 1) := by decide +kernel
theorem dX5_moves_53 : decode cX5_moves 53 = .ok (.getfield 26, 3) := by decide +kernel
theorem dX5_moves_56 : decode cX5_moves 56 = .ok (.iload_n 2, 1) := by decide +kernel
theorem dX5_moves_57 : decode cX5_moves 57 = .ok (.invokevirtual 94, 3) := by decide +kernel
theorem dX5_moves_60 : decode cX5_moves 60 = .ok (.isub, 1) := by decide +kernel
theorem dX5_moves_61 : decode cX5_moves 61 = .ok (.ireturn, 1) := by decide +kernel
set_option maxRecDepth 20000 in
theorem ggX5_freedom_X5_findMoves : GoodIn wsX5_freedom wsX5_findMoves := goodIn_r _ [15, 16, 1, 17, 2, 3, 18, 19, 20, 21, 22, 23, 24, 25, 26, 27, 28, 29, 30, 31, 32, 33, 34, 35, 36, 37, 38, 39, 40, 41, 42, 43, 44, 45, 46, 14, 47, 48, 49, 50, 51, 52, 53, 54, 55, 56, 57, 58, 59, 60, 61, 62, 63, 64, 65, 66, 67] (by decide +kernel) (by decide +kernel)
set_option maxRecDepth 20000 in
theorem gX5_freedom_X5_findMoves : GoodIn wsX5_freedom (wsV RX5 105 RX5 yX5_findMoves wsX5_findMoves) := goodIn_app (goodIn_of _ (by decide +kernel)) ggX5_freedom_X5_findMoves
theorem dX5_freedom_0 : decode cX5_freedom 0 = .ok (.aload_n 0, 1) := by decide +kernel
theorem dX5_freedom_1 : decode cX5_freedom 1 = .ok (.invokevirtual 105, 3) := by decide +kernel
theorem dX5_freedom_4 : decode cX5_freedom 4 = .ok (.lconst 0, 1) := by decide +kernel
theorem dX5_freedom_5 : decode cX5_freedom 5 = .ok (.lstore_n 1, 1) := by decide +kernel
theorem dX5_freedom_6 : decode cX5_freedom 6 = .ok (.iconst 0, 1) := by decide +kernel
theorem dX5_freedom_7 : decode cX5_freedom 7 = .ok (.istore_n 3, 1) := by decide +kernel
theorem dX5_freedom_8 : decode cX5_freedom 8 = .ok (.iload_n 3, 1) := by decide +kernel
theorem dX5_freedom_9 : decode cX5_freedom 9 = .ok (.aload_n 0, 1) := by decide +kernel
theorem dX5_freedom_10 : decode cX5_freedom 10 = .ok (.getfield 10, 3) := by decide +kernel
theorem dX5_freedom_13 : decode cX5_freedom 13 = .ok (.getfield 108, 3) := by decide +kernel
theorem dX5_freedom_16 : decode cX5_freedom 16 = .ok (.if_icmp .ge 77, 3) := by decide +kernel
theorem dX5_freedom_19 : decode cX5_freedom 19 = .ok (.iload_n 3, 1) := by decide +kernel
theorem dX5_freedom_20 : decode cX5_freedom 20 = .ok (.iconst 1, 1) := by decide +kernel
theorem dX5_freedom_21 : decode cX5_freedom 21 = .ok (.iadd, 1) := by decide +kernel
theorem dX5_freedom_22 : decode cX5_freedom 22 = .ok (.istore 4, 2) := by decide +kernel
theorem dX5_freedom_24 : decode cX5_freedom 24 = .ok (.iload 4, 2) := by decide +kernel
theorem dX5_freedom_26 : decode cX5_freedom 26 = .ok (.aload_n 0, 1) := by decide +kernel
theorem dX5_freedom_27 : decode cX5_freedom 27 = .ok (.getfield 10, 3) := by decide +kernel
theorem dX5_freedom_30 : decode cX5_freedom 30 = .ok (.getfield 108, 3) := by decide +kernel
theorem dX5_freedom_33 : decode cX5_freedom 33 = .ok (.if_icmp .ge 54, 3) := by decide +kernel
theorem dX5_freedom_36 : decode cX5_freedom 36 = .ok (.aload_n 0, 1) := by decide +kernel
theorem dX5_freedom_37 : decode cX5_freedom 37 = .ok (.getfield 40, 3) := by decide +kernel
theorem dX5_freedom_40 : decode cX5_freedom 40 = .ok (.iload_n 3, 1) := by decide +kernel
theorem dX5_freedom_41 : decode cX5_freedom 41 = .ok (.iaload, 1) := by decide +kernel
theorem dX5_freedom_42 : decode cX5_freedom 42 = .ok (.i2l, 1) := by decide +kernel
theorem dX5_freedom_43 : decode cX5_freedom 43 = .ok (.aload_n 0, 1) := by decide +kernel
theorem dX5_freedom_44 : decode cX5_freedom 44 = .ok (.getfield 44, 3) := by decide +kernel
theorem dX5_freedom_47 : decode cX5_freedom 47 = .ok (.iload 4, 2) := by decide +kernel
theorem dX5_freedom_49 : decode cX5_freedom 49 = .ok (.iaload, 1) := by decide +kernel
theorem dX5_freedom_50 : decode cX5_freedom 50 = .ok (.i2l, 1) := by decide +kernel
theorem dX5_freedom_51 : decode cX5_freedom 51 = .ok (.lmul, 1) := by decide +kernel
theorem dX5_freedom_52 : decode cX5_freedom 52 = .ok (.aload_n 0, 1) := by decide +kernel
theorem dX5_freedom_53 : decode cX5_freedom 53 = .ok (.getfield 44, 3) := by decide +kernel
theorem dX5_freedom_56 : decode cX5_freedom 56 = .ok (.iload_n 3, 1) := by decide +kernel
theorem dX5_freedom_57 : decode cX5_freedom 57 = .ok (.iaload, 1) := by decide +kernel
theorem dX5_freedom_58 : decode cX5_freedom 58 = .ok (.i2l, 1) := by decide +kernel
theorem dX5_freedom_59 : decode cX5_freedom 59 = .ok (.aload_n 0, 1) := by decide +kernel
theorem dX5_freedom_60 : decode cX5_freedom 60 = .ok (.getfield 40, 3) := by decide +kernel
theorem dX5_freedom_63 : decode cX5_freedom 63 = .ok (.iload 4, 2) := by decide +kernel
theorem dX5_freedom_65 : decode cX5_freedom 65 = .ok (.iaload, 1) := by decide +kernel
theorem dX5_freedom_66 : decode cX5_freedom 66 = .ok (.i2l, 1) := by decide +kernel
theorem dX5_freedom_67 : decode cX5_freedom 67 = .ok (.lmul, 1) := by decide +kernel
theorem dX5_freedom_68 : decode cX5_freedom 68 = .ok (.lsub, 1) := by decide +kernel
theorem dX5_freedom_69 : decode cX5_freedom 69 = .ok (.lstore 5, 2) := by decide +kernel
theorem dX5_freedom_71 : decode cX5_freedom 71 = .ok (.lload_n 1, 1) := by decide +kernel
theorem dX5_freedom_72 : decode cX5_freedom 72 = .ok (.lload 5, 2) := by decide +kernel
theorem dX5_freedom_74 : decode cX5_freedom 74 = .ok (.invokestatic 112, 3) := by decide +kernel
theorem dX5_freedom_77 : decode cX5_freedom 77 = .ok (.invokestatic 118, 3) := by decide +kernel
theorem dX5_freedom_80 : decode cX5_freedom 80 = .ok (.lstore_n 1, 1) := by decide +kernel
theorem dX5_freedom_81 : decode cX5_freedom 81 = .ok (.iinc 4 1, 3) := by decide +kernel
theorem dX5_freedom_84 : decode cX5_freedom 84 = .ok (.goto (-60), 3) := by decide +kernel
theorem dX5_freedom_87 : decode cX5_freedom 87 = .ok (.iinc 3 1, 3) := by decide +kernel
theorem dX5_freedom_90 : decode cX5_freedom 90 = .ok (.goto (-82), 3) := by decide +kernel
theorem dX5_freedom_93 : decode cX5_freedom 93 = .ok (.lload_n 1, 1) := by decide +kernel
theorem dX5_freedom_94 : decode cX5_freedom 94 = .ok (.lreturn, 1) := by decide +kernel
set_option maxRecDepth 20000 in
theorem ggX5_goal_X5_farNow : GoodIn wsX5_goal wsX5_farNow := goodIn_r _ [10, 11, 12, 5, 13, 14, 15, 16, 17, 18, 19, 20, 21, 22, 23, 24, 25, 26, 27, 28, 29, 30, 31, 32, 33, 34, 35, 36, 37, 38, 39, 40, 41, 9, 42, 43, 44, 45, 46, 47, 48, 49, 50, 51, 52, 53, 54, 55, 56, 57, 58, 59, 63, 64, 65, 66, 67, 68, 69, 70, 71, 60, 61, 62] (by decide +kernel) (by decide +kernel)
set_option maxRecDepth 20000 in
theorem gX5_goal_X5_farNow : GoodIn wsX5_goal (wsV RX5 132 RX5 yX5_farNow wsX5_farNow) := goodIn_app (goodIn_of _ (by decide +kernel)) ggX5_goal_X5_farNow
theorem dX5_goal_0 : decode cX5_goal 0 = .ok (.iload_n 1, 1) := by decide +kernel
theorem dX5_goal_1 : decode cX5_goal 1 = .ok (.ldc 122, 2) := by decide +kernel
theorem dX5_goal_3 : decode cX5_goal 3 = .ok (.if_icmp .lt 21, 3) := by decide +kernel
theorem dX5_goal_6 : decode cX5_goal 6 = .ok (.iload_n 1, 1) := by decide +kernel
theorem dX5_goal_7 : decode cX5_goal 7 = .ok (.ldc 123, 2) := by decide +kernel
theorem dX5_goal_9 : decode cX5_goal 9 = .ok (.if_icmp .gt 15, 3) := by decide +kernel
theorem dX5_goal_12 : decode cX5_goal 12 = .ok (.iload_n 2, 1) := by decide +kernel
theorem dX5_goal_13 : decode cX5_goal 13 = .ok (.ldc 122, 2) := by decide +kernel
theorem dX5_goal_15 : decode cX5_goal 15 = .ok (.if_icmp .lt 9, 3) := by decide +kernel
theorem dX5_goal_18 : decode cX5_goal 18 = .ok (.iload_n 2, 1) := by decide +kernel
theorem dX5_goal_19 : decode cX5_goal 19 = .ok (.ldc 123, 2) := by decide +kernel
theorem dX5_goal_21 : decode cX5_goal 21 = .ok (.if_icmp .le 13, 3) := by decide +kernel
theorem dX5_goal_24 : decode cX5_goal 24 = .ok (.new 47, 3) := by decide +kernel
theorem dX5_goal_27 : decode cX5_goal 27 = .ok (.dup, 1) := by decide +kernel
theorem dX5_goal_28 : decode cX5_goal 28 = .ok (.ldc 124, 2) := by decide +kernel
theorem dX5_goal_30 : decode cX5_goal 30 = .ok (.invokespecial 51, 3) := by decide +kernel
theorem dX5_goal_33 : decode cX5_goal 33 = .ok (.athrow, 1) := by decide +kernel
theorem dX5_goal_34 : decode cX5_goal 34 = .ok (.aload_n 0, 1) := by decide +kernel
theorem dX5_goal_35 : decode cX5_goal 35 = .ok (.getfield 19, 3) := by decide +kernel
theorem dX5_goal_38 : decode cX5_goal 38 = .ok (.iload_n 1, 1) := by decide +kernel
theorem dX5_goal_39 : decode cX5_goal 39 = .ok (.putfield 126, 3) := by decide +kernel
theorem dX5_goal_42 : decode cX5_goal 42 = .ok (.aload_n 0, 1) := by decide +kernel
theorem dX5_goal_43 : decode cX5_goal 43 = .ok (.getfield 19, 3) := by decide +kernel
theorem dX5_goal_46 : decode cX5_goal 46 = .ok (.iload_n 2, 1) := by decide +kernel
theorem dX5_goal_47 : decode cX5_goal 47 = .ok (.putfield 129, 3) := by decide +kernel
theorem dX5_goal_50 : decode cX5_goal 50 = .ok (.aload_n 0, 1) := by decide +kernel
theorem dX5_goal_51 : decode cX5_goal 51 = .ok (.invokevirtual 132, 3) := by decide +kernel
theorem dX5_goal_54 : decode cX5_goal 54 = .ok (.lreturn, 1) := by decide +kernel
set_option maxRecDepth 20000 in
theorem ggX5_far_X5_farNow : GoodIn wsX5_far wsX5_farNow := goodIn_r _ [5, 6, 7, 8, 9, 10, 11, 12, 13, 14, 15, 16, 17, 18, 19, 20, 21, 22, 23, 24, 25, 26, 27, 28, 29, 30, 31, 32, 33, 34, 35, 36, 37, 4, 38, 39, 40, 41, 42, 43, 44, 45, 46, 47, 48, 49, 50, 51, 52, 53, 54, 55, 56, 57, 58, 59, 60, 61, 62, 63, 64, 65, 66, 67] (by decide +kernel) (by decide +kernel)
set_option maxRecDepth 20000 in
theorem gX5_far_X5_farNow : GoodIn wsX5_far (wsV RX5 132 RX5 yX5_farNow wsX5_farNow) := goodIn_app (goodIn_of _ (by decide +kernel)) ggX5_far_X5_farNow
theorem dX5_far_0 : decode cX5_far 0 = .ok (.aload_n 0, 1) := by decide +kernel
theorem dX5_far_1 : decode cX5_far 1 = .ok (.invokevirtual 132, 3) := by decide +kernel
theorem dX5_far_4 : decode cX5_far 4 = .ok (.lreturn, 1) := by decide +kernel
set_option maxRecDepth 20000 in
theorem ggX5_steps_X5_stepped : GoodIn wsX5_steps wsX5_stepped := goodIn_r _ [7, 8, 9, 10, 11, 6, 12, 13, 14, 15, 16, 17, 18, 19, 20, 21, 22, 23, 24, 25, 26, 27, 28, 29, 30, 31, 32, 33, 34, 35, 36, 37, 38, 39, 40, 41, 42, 43, 44, 45, 46, 47, 48, 49, 50, 51, 52, 53, 54, 55, 56, 57, 58, 59, 60, 61, 62, 63, 64, 65, 66, 67, 68, 69, 70, 71, 72, 73, 74, 75, 76, 77, 78, 79, 80, 81, 82, 83, 84, 85, 86, 87, 88, 89, 90] (by decide +kernel) (by decide +kernel)
set_option maxRecDepth 20000 in
theorem gX5_steps_X5_stepped : GoodIn wsX5_steps (wsV RX5 138 RX5 yX5_stepped wsX5_stepped) := goodIn_app (goodIn_of _ (by decide +kernel)) ggX5_steps_X5_stepped
theorem dX5_steps_0 : decode cX5_steps 0 = .ok (.iload_n 1, 1) := by decide +kernel
theorem dX5_steps_1 : decode cX5_steps 1 = .ok (.iconst 1, 1) := by decide +kernel
theorem dX5_steps_2 : decode cX5_steps 2 = .ok (.if_icmp .lt 10, 3) := by decide +kernel
theorem dX5_steps_5 : decode cX5_steps 5 = .ok (.iload_n 1, 1) := by decide +kernel
theorem dX5_steps_6 : decode cX5_steps 6 = .ok (.sipush 200, 3) := by decide +kernel
theorem dX5_steps_9 : decode cX5_steps 9 = .ok (.if_icmp .le 13, 3) := by decide +kernel
theorem dX5_steps_12 : decode cX5_steps 12 = .ok (.new 47, 3) := by decide +kernel
theorem dX5_steps_15 : decode cX5_steps 15 = .ok (.dup, 1) := by decide +kernel
theorem dX5_steps_16 : decode cX5_steps 16 = .ok (.ldc 136, 2) := by decide +kernel
theorem dX5_steps_18 : decode cX5_steps 18 = .ok (.invokespecial 51, 3) := by decide +kernel
theorem dX5_steps_21 : decode cX5_steps 21 = .ok (.athrow, 1) := by decide +kernel
theorem dX5_steps_22 : decode cX5_steps 22 = .ok (.iconst 0, 1) := by decide +kernel
theorem dX5_steps_23 : decode cX5_steps 23 = .ok (.istore_n 2, 1) := by decide +kernel
theorem dX5_steps_24 : decode cX5_steps 24 = .ok (.bipush 8, 2) := by decide +kernel
theorem dX5_steps_26 : decode cX5_steps 26 = .ok (.istore_n 3, 1) := by decide +kernel
theorem dX5_steps_27 : decode cX5_steps 27 = .ok (.iload_n 3, 1) := by decide +kernel
theorem dX5_steps_28 : decode cX5_steps 28 = .ok (.iconst 1, 1) := by decide +kernel
theorem dX5_steps_29 : decode cX5_steps 29 = .ok (.if_icmp .lt 29, 3) := by decide +kernel
theorem dX5_steps_32 : decode cX5_steps 32 = .ok (.iload_n 2, 1) := by decide +kernel
theorem dX5_steps_33 : decode cX5_steps 33 = .ok (.iload_n 1, 1) := by decide +kernel
theorem dX5_steps_34 : decode cX5_steps 34 = .ok (.if_icmp .ge 17, 3) := by decide +kernel
theorem dX5_steps_37 : decode cX5_steps 37 = .ok (.aload_n 0, 1) := by decide +kernel
theorem dX5_steps_38 : decode cX5_steps 38 = .ok (.iload_n 3, 1) := by decide +kernel
theorem dX5_steps_39 : decode cX5_steps 39 = .ok (.invokevirtual 138, 3) := by decide +kernel
theorem dX5_steps_42 : decode cX5_steps 42 = .ok (.ifCond .eq 9, 3) := by decide +kernel
theorem dX5_steps_45 : decode cX5_steps 45 = .ok (.iinc 2 1, 3) := by decide +kernel
theorem dX5_steps_48 : decode cX5_steps 48 = .ok (.goto (-16), 3) := by decide +kernel
theorem dX5_steps_51 : decode cX5_steps 51 = .ok (.iload_n 3, 1) := by decide +kernel
theorem dX5_steps_52 : decode cX5_steps 52 = .ok (.iconst 2, 1) := by decide +kernel
theorem dX5_steps_53 : decode cX5_steps 53 = .ok (.idiv, 1) := by decide +kernel
theorem dX5_steps_54 : decode cX5_steps 54 = .ok (.istore_n 3, 1) := by decide +kernel
theorem dX5_steps_55 : decode cX5_steps 55 = .ok (.goto (-28), 3) := by decide +kernel
theorem dX5_steps_58 : decode cX5_steps 58 = .ok (.iload_n 2, 1) := by decide +kernel
theorem dX5_steps_59 : decode cX5_steps 59 = .ok (.ireturn, 1) := by decide +kernel
set_option maxRecDepth 20000 in
theorem ggX5_hindrance_X5_farNow : GoodIn wsX5_hindrance wsX5_farNow := goodIn_r _ [6, 7, 1, 8, 9, 10, 11, 12, 13, 14, 15, 16, 17, 18, 19, 20, 21, 22, 23, 24, 25, 26, 27, 28, 29, 30, 31, 32, 33, 34, 35, 36, 37, 5, 38, 39, 40, 41, 42, 43, 44, 45, 46, 47, 48, 54, 55, 56, 57, 58, 59, 60, 67, 68, 69, 61, 62, 63, 64, 65, 66, 70, 71, 72] (by decide +kernel) (by decide +kernel)
set_option maxRecDepth 20000 in
theorem gX5_hindrance_X5_farNow : GoodIn wsX5_hindrance (wsV RX5 132 RX5 yX5_farNow wsX5_farNow) := goodIn_app (goodIn_of _ (by decide +kernel)) ggX5_hindrance_X5_farNow
set_option maxRecDepth 20000 in
theorem ggX5_hindrance_X5_farWith : GoodIn wsX5_hindrance wsX5_farWith := goodIn_r _ [52, 53, 1, 8, 14, 10, 15, 16, 17, 18, 19, 20, 21, 22, 23, 24, 25, 26, 27, 28, 29, 30, 31, 32, 33, 34, 35, 36, 37, 5, 38, 39, 40, 41, 42, 43, 44, 45, 46, 47, 48, 54, 55, 56, 57, 58, 59, 60, 67, 68, 69, 61, 62, 63, 64, 65, 66, 70, 71, 72] (by decide +kernel) (by decide +kernel)
set_option maxRecDepth 20000 in
theorem gX5_hindrance_X5_farWith : GoodIn wsX5_hindrance (wsV RX5 142 RX5 yX5_farWith wsX5_farWith) := goodIn_app (goodIn_of _ (by decide +kernel)) ggX5_hindrance_X5_farWith
theorem dX5_hindrance_0 : decode cX5_hindrance 0 = .ok (.aload_n 0, 1) := by decide +kernel
theorem dX5_hindrance_1 : decode cX5_hindrance 1 = .ok (.invokevirtual 132, 3) := by decide +kernel
theorem dX5_hindrance_4 : decode cX5_hindrance 4 = .ok (.lstore_n 1, 1) := by decide +kernel
theorem dX5_hindrance_5 : decode cX5_hindrance 5 = .ok (.iconst 0, 1) := by decide +kernel
theorem dX5_hindrance_6 : decode cX5_hindrance 6 = .ok (.istore_n 3, 1) := by decide +kernel
theorem dX5_hindrance_7 : decode cX5_hindrance 7 = .ok (.iload_n 3, 1) := by decide +kernel
theorem dX5_hindrance_8 : decode cX5_hindrance 8 = .ok (.aload_n 0, 1) := by decide +kernel
theorem dX5_hindrance_9 : decode cX5_hindrance 9 = .ok (.getfield 10, 3) := by decide +kernel
theorem dX5_hindrance_12 : decode cX5_hindrance 12 = .ok (.getfield 108, 3) := by decide +kernel
theorem dX5_hindrance_15 : decode cX5_hindrance 15 = .ok (.if_icmp .ge 80, 3) := by decide +kernel
theorem dX5_hindrance_18 : decode cX5_hindrance 18 = .ok (.aload_n 0, 1) := by decide +kernel
theorem dX5_hindrance_19 : decode cX5_hindrance 19 = .ok (.getfield 10, 3) := by decide +kernel
theorem dX5_hindrance_22 : decode cX5_hindrance 22 = .ok (.getfield 83, 3) := by decide +kernel
theorem dX5_hindrance_25 : decode cX5_hindrance 25 = .ok (.iload_n 3, 1) := by decide +kernel
theorem dX5_hindrance_26 : decode cX5_hindrance 26 = .ok (.iaload, 1) := by decide +kernel
theorem dX5_hindrance_27 : decode cX5_hindrance 27 = .ok (.istore 4, 2) := by decide +kernel
theorem dX5_hindrance_29 : decode cX5_hindrance 29 = .ok (.iload 4, 2) := by decide +kernel
theorem dX5_hindrance_31 : decode cX5_hindrance 31 = .ok (.aload_n 0, 1) := by decide +kernel
theorem dX5_hindrance_32 : decode cX5_hindrance 32 = .ok (.getfield 10, 3) := by decide +kernel
theorem dX5_hindrance_35 : decode cX5_hindrance 35 = .ok (.getfield 78, 3) := by decide +kernel
theorem dX5_hindrance_38 : decode cX5_hindrance 38 = .ok (.iload_n 3, 1) := by decide +kernel
theorem dX5_hindrance_39 : decode cX5_hindrance 39 = .ok (.iaload, 1) := by decide +kernel
theorem dX5_hindrance_40 : decode cX5_hindrance 40 = .ok (.if_icmp .ne 19, 3) := by decide +kernel
theorem dX5_hindrance_43 : decode cX5_hindrance 43 = .ok (.aload_n 0, 1) := by decide +kernel
theorem dX5_hindrance_44 : decode cX5_hindrance 44 = .ok (.iload_n 3, 1) := by decide +kernel
theorem dX5_hindrance_45 : decode cX5_hindrance 45 = .ok (.iload 4, 2) := by decide +kernel
theorem dX5_hindrance_47 : decode cX5_hindrance 47 = .ok (.iconst 1, 1) := by decide +kernel
theorem dX5_hindrance_48 : decode cX5_hindrance 48 = .ok (.iadd, 1) := by decide +kernel
theorem dX5_hindrance_49 : decode cX5_hindrance 49 = .ok (.invokevirtual 142, 3) := by decide +kernel
theorem dX5_hindrance_52 : decode cX5_hindrance 52 = .ok (.lload_n 1, 1) := by decide +kernel
theorem dX5_hindrance_53 : decode cX5_hindrance 53 = .ok (.lcmp, 1) := by decide +kernel
theorem dX5_hindrance_54 : decode cX5_hindrance 54 = .ok (.ifCond .ge 5, 3) := by decide +kernel
theorem dX5_hindrance_57 : decode cX5_hindrance 57 = .ok (.iload_n 3, 1) := by decide +kernel
theorem dX5_hindrance_58 : decode cX5_hindrance 58 = .ok (.ireturn, 1) := by decide +kernel
theorem dX5_hindrance_59 : decode cX5_hindrance 59 = .ok (.iload 4, 2) := by decide +kernel
theorem dX5_hindrance_61 : decode cX5_hindrance 61 = .ok (.aload_n 0, 1) := by decide +kernel
theorem dX5_hindrance_62 : decode cX5_hindrance 62 = .ok (.getfield 10, 3) := by decide +kernel
theorem dX5_hindrance_65 : decode cX5_hindrance 65 = .ok (.getfield 75, 3) := by decide +kernel
theorem dX5_hindrance_68 : decode cX5_hindrance 68 = .ok (.iload_n 3, 1) := by decide +kernel
theorem dX5_hindrance_69 : decode cX5_hindrance 69 = .ok (.iaload, 1) := by decide +kernel
theorem dX5_hindrance_70 : decode cX5_hindrance 70 = .ok (.if_icmp .ne 19, 3) := by decide +kernel
theorem dX5_hindrance_73 : decode cX5_hindrance 73 = .ok (.aload_n 0, 1) := by decide +kernel
theorem dX5_hindrance_74 : decode cX5_hindrance 74 = .ok (.iload_n 3, 1) := by decide +kernel
theorem dX5_hindrance_75 : decode cX5_hindrance 75 = .ok (.iload 4, 2) := by decide +kernel
theorem dX5_hindrance_77 : decode cX5_hindrance 77 = .ok (.iconst 1, 1) := by decide +kernel
theorem dX5_hindrance_78 : decode cX5_hindrance 78 = .ok (.isub, 1) := by decide +kernel
theorem dX5_hindrance_79 : decode cX5_hindrance 79 = .ok (.invokevirtual 142, 3) := by decide +kernel
theorem dX5_hindrance_82 : decode cX5_hindrance 82 = .ok (.lload_n 1, 1) := by decide +kernel
theorem dX5_hindrance_83 : decode cX5_hindrance 83 = .ok (.lcmp, 1) := by decide +kernel
theorem dX5_hindrance_84 : decode cX5_hindrance 84 = .ok (.ifCond .ge 5, 3) := by decide +kernel
theorem dX5_hindrance_87 : decode cX5_hindrance 87 = .ok (.iload_n 3, 1) := by decide +kernel
theorem dX5_hindrance_88 : decode cX5_hindrance 88 = .ok (.ireturn, 1) := by decide +kernel
theorem dX5_hindrance_89 : decode cX5_hindrance 89 = .ok (.iinc 3 1, 3) := by decide +kernel
theorem dX5_hindrance_92 : decode cX5_hindrance 92 = .ok (.goto (-85), 3) := by decide +kernel
theorem dX5_hindrance_95 : decode cX5_hindrance 95 = .ok (.iconst (-1), 1) := by decide +kernel
theorem dX5_hindrance_96 : decode cX5_hindrance 96 = .ok (.ireturn, 1) := by decide +kernel
theorem dX5_slack_0 : decode cX5_slack 0 = .ok (.iload_n 1, 1) := by decide +kernel
theorem dX5_slack_1 : decode cX5_slack 1 = .ok (.ifCond .lt 9, 3) := by decide +kernel
theorem dX5_slack_4 : decode cX5_slack 4 = .ok (.iload_n 1, 1) := by decide +kernel
theorem dX5_slack_5 : decode cX5_slack 5 = .ok (.ldc 146, 2) := by decide +kernel
theorem dX5_slack_7 : decode cX5_slack 7 = .ok (.if_icmp .le 13, 3) := by decide +kernel
theorem dX5_slack_10 : decode cX5_slack 10 = .ok (.new 47, 3) := by decide +kernel
theorem dX5_slack_13 : decode cX5_slack 13 = .ok (.dup, 1) := by decide +kernel
theorem dX5_slack_14 : decode cX5_slack 14 = .ok (.ldc 147, 2) := by decide +kernel
theorem dX5_slack_16 : decode cX5_slack 16 = .ok (.invokespecial 51, 3) := by decide +kernel
theorem dX5_slack_19 : decode cX5_slack 19 = .ok (.athrow, 1) := by decide +kernel
theorem dX5_slack_20 : decode cX5_slack 20 = .ok (.aload_n 0, 1) := by decide +kernel
theorem dX5_slack_21 : decode cX5_slack 21 = .ok (.getfield 19, 3) := by decide +kernel
theorem dX5_slack_24 : decode cX5_slack 24 = .ok (.getfield 149, 3) := by decide +kernel
theorem dX5_slack_27 : decode cX5_slack 27 = .ok (.istore_n 2, 1) := by decide +kernel
theorem dX5_slack_28 : decode cX5_slack 28 = .ok (.aload_n 0, 1) := by decide +kernel
theorem dX5_slack_29 : decode cX5_slack 29 = .ok (.getfield 19, 3) := by decide +kernel
theorem dX5_slack_32 : decode cX5_slack 32 = .ok (.iload_n 1, 1) := by decide +kernel
theorem dX5_slack_33 : decode cX5_slack 33 = .ok (.putfield 149, 3) := by decide +kernel
theorem dX5_slack_36 : decode cX5_slack 36 = .ok (.iload_n 2, 1) := by decide +kernel
theorem dX5_slack_37 : decode cX5_slack 37 = .ok (.ireturn, 1) := by decide +kernel
set_option maxRecDepth 20000 in
theorem ggX5_branches_X0_countPoses : GoodIn wsX5_branches wsX0_countPoses := goodIn_r _ [10, 11, 12, 13, 113, 114, 115, 116, 117, 118] (by decide +kernel) (by decide +kernel)
set_option maxRecDepth 20000 in
theorem gX5_branches_X0_countPoses_n151 : GoodIn wsX5_branches (wsX0_countPoses) := ggX5_branches_X0_countPoses
set_option maxRecDepth 20000 in
theorem ggX5_branches_X3_run : GoodIn wsX5_branches wsX3_run := goodIn_r _ [17, 18, 19, 20, 21, 22, 23, 24, 25, 26, 15, 27, 28, 29, 8, 30, 31, 32, 33, 34, 35, 36, 37, 38, 39, 40, 41, 42, 43, 44, 45, 46, 47, 48, 49, 50, 51, 52, 53, 54, 55, 56, 57, 58, 59, 60, 61, 62, 63, 64, 65, 66, 67, 68, 69, 70, 71, 72, 73, 74, 75, 76, 77, 78, 79, 80, 81, 82, 83, 84, 85, 86, 87, 88, 89, 90, 91, 92, 93, 94, 95, 103, 104, 105, 106, 107, 108, 109, 113, 114, 115, 116, 117, 118, 110, 111, 112, 119, 120, 121] (by decide +kernel) (by decide +kernel)
set_option maxRecDepth 20000 in
theorem gX5_branches_X3_run_n158 : GoodIn wsX5_branches (wsX3_run) := ggX5_branches_X3_run
theorem dX5_branches_0 : decode cX5_branches 0 = .ok (.aload_n 0, 1) := by decide +kernel
theorem dX5_branches_1 : decode cX5_branches 1 = .ok (.getfield 10, 3) := by decide +kernel
theorem dX5_branches_4 : decode cX5_branches 4 = .ok (.invokevirtual 151, 3) := by decide +kernel
theorem dX5_branches_7 : decode cX5_branches 7 = .ok (.ldc2_w 154, 3) := by decide +kernel
theorem dX5_branches_10 : decode cX5_branches 10 = .ok (.lcmp, 1) := by decide +kernel
theorem dX5_branches_11 : decode cX5_branches 11 = .ok (.ifCond .le 13, 3) := by decide +kernel
theorem dX5_branches_14 : decode cX5_branches 14 = .ok (.new 62, 3) := by decide +kernel
theorem dX5_branches_17 : decode cX5_branches 17 = .ok (.dup, 1) := by decide +kernel
theorem dX5_branches_18 : decode cX5_branches 18 = .ok (.ldc 156, 2) := by decide +kernel
theorem dX5_branches_20 : decode cX5_branches 20 = .ok (.invokespecial 66, 3) := by decide +kernel
theorem dX5_branches_23 : decode cX5_branches 23 = .ok (.athrow, 1) := by decide +kernel
theorem dX5_branches_24 : decode cX5_branches 24 = .ok (.aload_n 0, 1) := by decide +kernel
theorem dX5_branches_25 : decode cX5_branches 25 = .ok (.getfield 36, 3) := by decide +kernel
theorem dX5_branches_28 : decode cX5_branches 28 = .ok (.aload_n 0, 1) := by decide +kernel
theorem dX5_branches_29 : decode cX5_branches 29 = .ok (.getfield 10, 3) := by decide +kernel
theorem dX5_branches_32 : decode cX5_branches 32 = .ok (.aload_n 0, 1) := by decide +kernel
theorem dX5_branches_33 : decode cX5_branches 33 = .ok (.getfield 19, 3) := by decide +kernel
theorem dX5_branches_36 : decode cX5_branches 36 = .ok (.iconst 0, 1) := by decide +kernel
theorem dX5_branches_37 : decode cX5_branches 37 = .ok (.invokevirtual 158, 3) := by decide +kernel
theorem dX5_branches_40 : decode cX5_branches 40 = .ok (.aload_n 0, 1) := by decide +kernel
theorem dX5_branches_41 : decode cX5_branches 41 = .ok (.getfield 36, 3) := by decide +kernel
theorem dX5_branches_44 : decode cX5_branches 44 = .ok (.getfield 162, 3) := by decide +kernel
theorem dX5_branches_47 : decode cX5_branches 47 = .ok (.getfield 166, 3) := by decide +kernel
theorem dX5_branches_50 : decode cX5_branches 50 = .ok (.ireturn, 1) := by decide +kernel
set_option maxRecDepth 20000 in
theorem ggX5_branch_X5_checkJoint : GoodIn wsX5_branch wsX5_checkJoint := goodIn_ca (goodIn_r _ [6, 7, 8, 9, 111, 112, 113, 114, 115, 116, 117, 125, 126, 127, 128, 129, 130] (by decide +kernel) (by decide +kernel)) (goodIn_sub (fun _ h => List.mem_cons_of_mem _ (List.mem_append_left _ (List.mem_append_left _ (List.mem_append_right _ h)))) (by decide +kernel))
set_option maxRecDepth 20000 in
theorem gX5_branch_X5_checkJoint : GoodIn wsX5_branch (wsV RX5 71 RX5 yX5_checkJoint wsX5_checkJoint) := goodIn_app (goodIn_of _ (by decide +kernel)) ggX5_branch_X5_checkJoint
set_option maxRecDepth 20000 in
theorem ggX5_branch_X5_findBranch : GoodIn wsX5_branch wsX5_findBranch := goodIn_ca (goodIn_ca (goodIn_ca (goodIn_r _ [13, 7, 8, 14, 15, 16, 17, 9, 18, 1, 19, 20, 21, 22, 23, 24, 25, 26, 27, 28, 29, 30, 31, 32, 33, 34, 35, 36, 37, 38, 39, 40, 41, 42, 43, 44, 45, 46, 47, 48, 49, 50, 51, 52, 53, 54, 55, 56, 57, 58, 59, 60, 61, 62, 63, 64, 65, 66, 67, 68, 69, 70, 71, 72, 73, 74, 75, 76, 77, 78, 79, 80, 81, 82, 83, 84, 85, 86, 87, 88, 89, 90, 91, 92, 93, 94, 95, 96, 97, 98, 99, 100, 101, 102, 5, 103, 104, 105, 106, 107, 111, 112, 113, 114, 115, 116, 117, 118, 119, 120, 121, 122, 123, 124, 131, 132, 133, 125, 126, 127, 128, 129, 130, 134, 135, 136] (by decide +kernel) (by decide +kernel)) (goodIn_sub (fun _ h => List.mem_cons_of_mem _ (List.mem_append_left _ (List.mem_append_left _ (List.mem_append_right _ h)))) (by decide +kernel))) (goodIn_sub (fun _ h => List.mem_cons_of_mem _ (List.mem_append_left _ (List.mem_append_right _ h))) (by decide +kernel))) (goodIn_sub (fun _ h => List.mem_cons_of_mem _ (List.mem_append_right _ h)) (by decide +kernel))
set_option maxRecDepth 20000 in
theorem gX5_branch_X5_findBranch : GoodIn wsX5_branch (wsV RX5 171 RX5 yX5_findBranch wsX5_findBranch) := goodIn_app (goodIn_of _ (by decide +kernel)) ggX5_branch_X5_findBranch
set_option maxRecDepth 20000 in
theorem ggX5_branch_X2_valueOf : GoodIn wsX5_branch wsX2_valueOf := goodIn_r _ [110, 88, 131, 132, 133] (by decide +kernel) (by decide +kernel)
set_option maxRecDepth 20000 in
theorem gX5_branch_X2_valueOf_n174 : GoodIn wsX5_branch (wsX2_valueOf) := ggX5_branch_X2_valueOf
theorem dX5_branch_0 : decode cX5_branch 0 = .ok (.aload_n 0, 1) := by decide +kernel
theorem dX5_branch_1 : decode cX5_branch 1 = .ok (.iload_n 3, 1) := by decide +kernel
theorem dX5_branch_2 : decode cX5_branch 2 = .ok (.invokevirtual 71, 3) := by decide +kernel
theorem dX5_branch_5 : decode cX5_branch 5 = .ok (.aload_n 0, 1) := by decide +kernel
theorem dX5_branch_6 : decode cX5_branch 6 = .ok (.iload_n 1, 1) := by decide +kernel
theorem dX5_branch_7 : decode cX5_branch 7 = .ok (.iload_n 2, 1) := by decide +kernel
theorem dX5_branch_8 : decode cX5_branch 8 = .ok (.invokevirtual 171, 3) := by decide +kernel
theorem dX5_branch_11 : decode cX5_branch 11 = .ok (.aload_n 0, 1) := by decide +kernel
theorem dX5_branch_12 : decode cX5_branch 12 = .ok (.getfield 36, 3) := by decide +kernel
theorem dX5_branch_15 : decode cX5_branch 15 = .ok (.getfield 162, 3) := by decide +kernel
theorem dX5_branch_18 : decode cX5_branch 18 = .ok (.iload_n 1, 1) := by decide +kernel
theorem dX5_branch_19 : decode cX5_branch 19 = .ok (.iload_n 3, 1) := by decide +kernel
theorem dX5_branch_20 : decode cX5_branch 20 = .ok (.invokevirtual 174, 3) := by decide +kernel
theorem dX5_branch_23 : decode cX5_branch 23 = .ok (.ireturn, 1) := by decide +kernel
set_option maxRecDepth 20000 in
theorem ggX5_take_X5_findBranch : GoodIn wsX5_take wsX5_findBranch := goodIn_ca (goodIn_ca (goodIn_ca (goodIn_r _ [7, 8, 9, 10, 11, 12, 13, 1, 14, 2, 15, 16, 17, 18, 19, 20, 21, 22, 23, 24, 25, 26, 27, 28, 29, 30, 31, 32, 33, 34, 35, 36, 37, 38, 39, 40, 41, 42, 43, 44, 45, 46, 47, 48, 49, 50, 51, 52, 53, 54, 55, 56, 57, 58, 59, 60, 61, 62, 63, 64, 65, 66, 67, 68, 69, 70, 71, 72, 73, 74, 75, 76, 77, 78, 79, 80, 81, 82, 83, 84, 85, 86, 87, 88, 89, 90, 91, 92, 93, 94, 95, 96, 97, 98, 6, 99, 100, 101, 102, 103, 131, 132, 133, 134, 135, 136, 137, 144, 145, 146, 147, 148, 149, 150, 151, 152, 153, 138, 139, 140, 141, 142, 143, 154, 155, 156] (by decide +kernel) (by decide +kernel)) (goodIn_sub (fun _ h => List.mem_cons_of_mem _ (List.mem_append_left _ (List.mem_append_left _ (List.mem_append_right _ h)))) (by decide +kernel))) (goodIn_sub (fun _ h => List.mem_cons_of_mem _ (List.mem_append_left _ (List.mem_append_right _ h))) (by decide +kernel))) (goodIn_sub (fun _ h => List.mem_cons_of_mem _ (List.mem_append_right _ h)) (by decide +kernel))
set_option maxRecDepth 20000 in
theorem gX5_take_X5_findBranch : GoodIn wsX5_take (wsV RX5 171 RX5 yX5_findBranch wsX5_findBranch) := goodIn_app (goodIn_of _ (by decide +kernel)) ggX5_take_X5_findBranch
set_option maxRecDepth 20000 in
theorem ggX5_take_X2_valueOf : GoodIn wsX5_take wsX2_valueOf := goodIn_r _ [106, 84, 151, 152, 153] (by decide +kernel) (by decide +kernel)
set_option maxRecDepth 20000 in
theorem gX5_take_X2_valueOf_n174 : GoodIn wsX5_take (wsX2_valueOf) := ggX5_take_X2_valueOf
set_option maxRecDepth 20000 in
theorem ggX5_take_X5_farNow : GoodIn wsX5_take wsX5_farNow := goodIn_r _ [110, 111, 1, 15, 112, 113, 114, 115, 116, 117, 118, 119, 120, 121, 122, 123, 124, 125, 126, 76, 17, 77, 78, 41, 38, 39, 40, 42, 127, 128, 129, 130, 98, 6, 99, 100, 101, 102, 103, 68, 50, 69, 70, 53, 58, 131, 132, 133, 134, 135, 136, 137, 157, 158, 159, 138, 139, 140, 141, 142, 143, 154, 155, 156] (by decide +kernel) (by decide +kernel)
set_option maxRecDepth 20000 in
theorem gX5_take_X5_farNow : GoodIn wsX5_take (wsV RX5 132 RX5 yX5_farNow wsX5_farNow) := goodIn_app (goodIn_of _ (by decide +kernel)) ggX5_take_X5_farNow
theorem dX5_take_0 : decode cX5_take 0 = .ok (.aload_n 0, 1) := by decide +kernel
theorem dX5_take_1 : decode cX5_take 1 = .ok (.iload_n 1, 1) := by decide +kernel
theorem dX5_take_2 : decode cX5_take 2 = .ok (.iload_n 2, 1) := by decide +kernel
theorem dX5_take_3 : decode cX5_take 3 = .ok (.invokevirtual 171, 3) := by decide +kernel
theorem dX5_take_6 : decode cX5_take 6 = .ok (.iconst 0, 1) := by decide +kernel
theorem dX5_take_7 : decode cX5_take 7 = .ok (.istore_n 3, 1) := by decide +kernel
theorem dX5_take_8 : decode cX5_take 8 = .ok (.iload_n 3, 1) := by decide +kernel
theorem dX5_take_9 : decode cX5_take 9 = .ok (.aload_n 0, 1) := by decide +kernel
theorem dX5_take_10 : decode cX5_take 10 = .ok (.getfield 10, 3) := by decide +kernel
theorem dX5_take_13 : decode cX5_take 13 = .ok (.getfield 108, 3) := by decide +kernel
theorem dX5_take_16 : decode cX5_take 16 = .ok (.if_icmp .ge 30, 3) := by decide +kernel
theorem dX5_take_19 : decode cX5_take 19 = .ok (.aload_n 0, 1) := by decide +kernel
