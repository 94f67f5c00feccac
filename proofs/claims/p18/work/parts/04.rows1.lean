theorem dX0_init_0 : decode cX0_init 0 = .ok (.aload_n 0, 1) := by decide +kernel
theorem dX0_init_1 : decode cX0_init 1 = .ok (.invokespecial 3, 3) := by decide +kernel
theorem dX0_init_4 : decode cX0_init 4 = .ok (.aload_n 0, 1) := by decide +kernel
theorem dX0_init_5 : decode cX0_init 5 = .ok (.iconst 5, 1) := by decide +kernel
theorem dX0_init_6 : decode cX0_init 6 = .ok (.newarray .int, 2) := by decide +kernel
theorem dX0_init_8 : decode cX0_init 8 = .ok (.putfield 9, 3) := by decide +kernel
theorem dX0_init_11 : decode cX0_init 11 = .ok (.aload_n 0, 1) := by decide +kernel
theorem dX0_init_12 : decode cX0_init 12 = .ok (.iconst 5, 1) := by decide +kernel
theorem dX0_init_13 : decode cX0_init 13 = .ok (.newarray .int, 2) := by decide +kernel
theorem dX0_init_15 : decode cX0_init 15 = .ok (.putfield 15, 3) := by decide +kernel
theorem dX0_init_18 : decode cX0_init 18 = .ok (.aload_n 0, 1) := by decide +kernel
theorem dX0_init_19 : decode cX0_init 19 = .ok (.iconst 5, 1) := by decide +kernel
theorem dX0_init_20 : decode cX0_init 20 = .ok (.newarray .int, 2) := by decide +kernel
theorem dX0_init_22 : decode cX0_init 22 = .ok (.putfield 18, 3) := by decide +kernel
theorem dX0_init_25 : decode cX0_init 25 = .ok (.aload_n 0, 1) := by decide +kernel
theorem dX0_init_26 : decode cX0_init 26 = .ok (.iconst 5, 1) := by decide +kernel
theorem dX0_init_27 : decode cX0_init 27 = .ok (.newarray .int, 2) := by decide +kernel
theorem dX0_init_29 : decode cX0_init 29 = .ok (.putfield 21, 3) := by decide +kernel
theorem dX0_init_32 : decode cX0_init 32 = .ok (.aload_n 0, 1) := by decide +kernel
theorem dX0_init_33 : decode cX0_init 33 = .ok (.iconst 5, 1) := by decide +kernel
theorem dX0_init_34 : decode cX0_init 34 = .ok (.newarray .int, 2) := by decide +kernel
theorem dX0_init_36 : decode cX0_init 36 = .ok (.putfield 24, 3) := by decide +kernel
theorem dX0_init_39 : decode cX0_init 39 = .ok (.return_, 1) := by decide +kernel
theorem dX0_isFull_0 : decode cX0_isFull 0 = .ok (.aload_n 0, 1) := by decide +kernel
theorem dX0_isFull_1 : decode cX0_isFull 1 = .ok (.getfield 27, 3) := by decide +kernel
theorem dX0_isFull_4 : decode cX0_isFull 4 = .ok (.iconst 5, 1) := by decide +kernel
theorem dX0_isFull_5 : decode cX0_isFull 5 = .ok (.if_icmp .lt 7, 3) := by decide +kernel
theorem dX0_isFull_8 : decode cX0_isFull 8 = .ok (.iconst 1, 1) := by decide +kernel
theorem dX0_isFull_9 : decode cX0_isFull 9 = .ok (.goto 4, 3) := by decide +kernel
theorem dX0_isFull_12 : decode cX0_isFull 12 = .ok (.iconst 0, 1) := by decide +kernel
theorem dX0_isFull_13 : decode cX0_isFull 13 = .ok (.ireturn, 1) := by decide +kernel
set_option maxRecDepth 20000 in
theorem ggX0_add_X0_held : GoodIn wsX0_add wsX0_held := goodIn_r _ [11, 4, 5, 12, 13, 14, 15, 16, 17, 18, 19, 20, 21, 22, 23, 24] (by decide +kernel) (by decide +kernel)
set_option maxRecDepth 20000 in
theorem gX0_add_X0_held : GoodIn wsX0_add (wsV RX0 31 RX0 yX0_held wsX0_held) := goodIn_app (goodIn_of _ (by decide +kernel)) ggX0_add_X0_held
theorem dX0_add_0 : decode cX0_add 0 = .ok (.aload_n 0, 1) := by decide +kernel
theorem dX0_add_1 : decode cX0_add 1 = .ok (.getfield 27, 3) := by decide +kernel
theorem dX0_add_4 : decode cX0_add 4 = .ok (.istore 5, 2) := by decide +kernel
theorem dX0_add_6 : decode cX0_add 6 = .ok (.aload_n 0, 1) := by decide +kernel
theorem dX0_add_7 : decode cX0_add 7 = .ok (.getfield 9, 3) := by decide +kernel
theorem dX0_add_10 : decode cX0_add 10 = .ok (.iload 5, 2) := by decide +kernel
theorem dX0_add_12 : decode cX0_add 12 = .ok (.iload_n 1, 1) := by decide +kernel
theorem dX0_add_13 : decode cX0_add 13 = .ok (.iastore, 1) := by decide +kernel
theorem dX0_add_14 : decode cX0_add 14 = .ok (.aload_n 0, 1) := by decide +kernel
theorem dX0_add_15 : decode cX0_add 15 = .ok (.getfield 15, 3) := by decide +kernel
theorem dX0_add_18 : decode cX0_add 18 = .ok (.iload 5, 2) := by decide +kernel
theorem dX0_add_20 : decode cX0_add 20 = .ok (.iload_n 2, 1) := by decide +kernel
theorem dX0_add_21 : decode cX0_add 21 = .ok (.iastore, 1) := by decide +kernel
theorem dX0_add_22 : decode cX0_add 22 = .ok (.aload_n 0, 1) := by decide +kernel
theorem dX0_add_23 : decode cX0_add 23 = .ok (.getfield 18, 3) := by decide +kernel
theorem dX0_add_26 : decode cX0_add 26 = .ok (.iload 5, 2) := by decide +kernel
theorem dX0_add_28 : decode cX0_add 28 = .ok (.iload_n 3, 1) := by decide +kernel
theorem dX0_add_29 : decode cX0_add 29 = .ok (.iastore, 1) := by decide +kernel
theorem dX0_add_30 : decode cX0_add 30 = .ok (.aload_n 0, 1) := by decide +kernel
theorem dX0_add_31 : decode cX0_add 31 = .ok (.getfield 21, 3) := by decide +kernel
theorem dX0_add_34 : decode cX0_add 34 = .ok (.iload 5, 2) := by decide +kernel
theorem dX0_add_36 : decode cX0_add 36 = .ok (.iload 4, 2) := by decide +kernel
theorem dX0_add_38 : decode cX0_add 38 = .ok (.iastore, 1) := by decide +kernel
theorem dX0_add_39 : decode cX0_add 39 = .ok (.aload_n 0, 1) := by decide +kernel
theorem dX0_add_40 : decode cX0_add 40 = .ok (.getfield 24, 3) := by decide +kernel
theorem dX0_add_43 : decode cX0_add 43 = .ok (.iload 5, 2) := by decide +kernel
theorem dX0_add_45 : decode cX0_add 45 = .ok (.aload_n 0, 1) := by decide +kernel
theorem dX0_add_46 : decode cX0_add 46 = .ok (.iload 5, 2) := by decide +kernel
theorem dX0_add_48 : decode cX0_add 48 = .ok (.iconst 0, 1) := by decide +kernel
theorem dX0_add_49 : decode cX0_add 49 = .ok (.invokevirtual 31, 3) := by decide +kernel
theorem dX0_add_52 : decode cX0_add 52 = .ok (.iastore, 1) := by decide +kernel
theorem dX0_add_53 : decode cX0_add 53 = .ok (.aload_n 0, 1) := by decide +kernel
theorem dX0_add_54 : decode cX0_add 54 = .ok (.dup, 1) := by decide +kernel
theorem dX0_add_55 : decode cX0_add 55 = .ok (.getfield 27, 3) := by decide +kernel
theorem dX0_add_58 : decode cX0_add 58 = .ok (.iconst 1, 1) := by decide +kernel
theorem dX0_add_59 : decode cX0_add 59 = .ok (.iadd, 1) := by decide +kernel
theorem dX0_add_60 : decode cX0_add 60 = .ok (.putfield 27, 3) := by decide +kernel
theorem dX0_add_63 : decode cX0_add 63 = .ok (.iload 5, 2) := by decide +kernel
theorem dX0_add_65 : decode cX0_add 65 = .ok (.ireturn, 1) := by decide +kernel
theorem dX0_held_0 : decode cX0_held 0 = .ok (.aload_n 0, 1) := by decide +kernel
theorem dX0_held_1 : decode cX0_held 1 = .ok (.getfield 18, 3) := by decide +kernel
theorem dX0_held_4 : decode cX0_held 4 = .ok (.iload_n 1, 1) := by decide +kernel
theorem dX0_held_5 : decode cX0_held 5 = .ok (.iaload, 1) := by decide +kernel
theorem dX0_held_6 : decode cX0_held 6 = .ok (.aload_n 0, 1) := by decide +kernel
theorem dX0_held_7 : decode cX0_held 7 = .ok (.getfield 21, 3) := by decide +kernel
theorem dX0_held_10 : decode cX0_held 10 = .ok (.iload_n 1, 1) := by decide +kernel
theorem dX0_held_11 : decode cX0_held 11 = .ok (.iaload, 1) := by decide +kernel
theorem dX0_held_12 : decode cX0_held 12 = .ok (.iload_n 2, 1) := by decide +kernel
theorem dX0_held_13 : decode cX0_held 13 = .ok (.invokestatic 35, 3) := by decide +kernel
theorem dX0_held_16 : decode cX0_held 16 = .ok (.invokestatic 40, 3) := by decide +kernel
theorem dX0_held_19 : decode cX0_held 19 = .ok (.ireturn, 1) := by decide +kernel
theorem dX0_turnOf_0 : decode cX0_turnOf 0 = .ok (.aload_n 0, 1) := by decide +kernel
theorem dX0_turnOf_1 : decode cX0_turnOf 1 = .ok (.getfield 9, 3) := by decide +kernel
theorem dX0_turnOf_4 : decode cX0_turnOf 4 = .ok (.iload_n 1, 1) := by decide +kernel
theorem dX0_turnOf_5 : decode cX0_turnOf 5 = .ok (.iaload, 1) := by decide +kernel
theorem dX0_turnOf_6 : decode cX0_turnOf 6 = .ok (.ifCond .ne 7, 3) := by decide +kernel
theorem dX0_turnOf_9 : decode cX0_turnOf 9 = .ok (.iload_n 2, 1) := by decide +kernel
theorem dX0_turnOf_10 : decode cX0_turnOf 10 = .ok (.goto 4, 3) := by decide +kernel
theorem dX0_turnOf_13 : decode cX0_turnOf 13 = .ok (.iconst 0, 1) := by decide +kernel
theorem dX0_turnOf_14 : decode cX0_turnOf 14 = .ok (.ireturn, 1) := by decide +kernel
theorem dX0_distanceOf_0 : decode cX0_distanceOf 0 = .ok (.aload_n 0, 1) := by decide +kernel
theorem dX0_distanceOf_1 : decode cX0_distanceOf 1 = .ok (.getfield 9, 3) := by decide +kernel
theorem dX0_distanceOf_4 : decode cX0_distanceOf 4 = .ok (.iload_n 1, 1) := by decide +kernel
theorem dX0_distanceOf_5 : decode cX0_distanceOf 5 = .ok (.iaload, 1) := by decide +kernel
theorem dX0_distanceOf_6 : decode cX0_distanceOf 6 = .ok (.ifCond .ne 12, 3) := by decide +kernel
theorem dX0_distanceOf_9 : decode cX0_distanceOf 9 = .ok (.aload_n 0, 1) := by decide +kernel
theorem dX0_distanceOf_10 : decode cX0_distanceOf 10 = .ok (.getfield 15, 3) := by decide +kernel
theorem dX0_distanceOf_13 : decode cX0_distanceOf 13 = .ok (.iload_n 1, 1) := by decide +kernel
theorem dX0_distanceOf_14 : decode cX0_distanceOf 14 = .ok (.iaload, 1) := by decide +kernel
theorem dX0_distanceOf_15 : decode cX0_distanceOf 15 = .ok (.goto 11, 3) := by decide +kernel
theorem dX0_distanceOf_18 : decode cX0_distanceOf 18 = .ok (.aload_n 0, 1) := by decide +kernel
theorem dX0_distanceOf_19 : decode cX0_distanceOf 19 = .ok (.getfield 15, 3) := by decide +kernel
theorem dX0_distanceOf_22 : decode cX0_distanceOf 22 = .ok (.iload_n 1, 1) := by decide +kernel
theorem dX0_distanceOf_23 : decode cX0_distanceOf 23 = .ok (.iaload, 1) := by decide +kernel
theorem dX0_distanceOf_24 : decode cX0_distanceOf 24 = .ok (.iload_n 2, 1) := by decide +kernel
theorem dX0_distanceOf_25 : decode cX0_distanceOf 25 = .ok (.iadd, 1) := by decide +kernel
theorem dX0_distanceOf_26 : decode cX0_distanceOf 26 = .ok (.ireturn, 1) := by decide +kernel
set_option maxRecDepth 20000 in
theorem ggX0_headingAt_X0_turnOf : GoodIn wsX0_headingAt wsX0_turnOf := goodIn_r _ [6, 7, 8, 9, 10, 11, 12, 13] (by decide +kernel) (by decide +kernel)
set_option maxRecDepth 20000 in
theorem gX0_headingAt_X0_turnOf : GoodIn wsX0_headingAt (wsV RX0 43 RX0 yX0_turnOf wsX0_turnOf) := goodIn_app (goodIn_of _ (by decide +kernel)) ggX0_headingAt_X0_turnOf
theorem dX0_headingAt_0 : decode cX0_headingAt 0 = .ok (.iconst 0, 1) := by decide +kernel
theorem dX0_headingAt_1 : decode cX0_headingAt 1 = .ok (.istore_n 2, 1) := by decide +kernel
theorem dX0_headingAt_2 : decode cX0_headingAt 2 = .ok (.iconst 0, 1) := by decide +kernel
theorem dX0_headingAt_3 : decode cX0_headingAt 3 = .ok (.istore_n 3, 1) := by decide +kernel
theorem dX0_headingAt_4 : decode cX0_headingAt 4 = .ok (.iload_n 3, 1) := by decide +kernel
theorem dX0_headingAt_5 : decode cX0_headingAt 5 = .ok (.iload_n 1, 1) := by decide +kernel
theorem dX0_headingAt_6 : decode cX0_headingAt 6 = .ok (.if_icmp .gt 23, 3) := by decide +kernel
theorem dX0_headingAt_9 : decode cX0_headingAt 9 = .ok (.iload_n 2, 1) := by decide +kernel
theorem dX0_headingAt_10 : decode cX0_headingAt 10 = .ok (.aload_n 0, 1) := by decide +kernel
theorem dX0_headingAt_11 : decode cX0_headingAt 11 = .ok (.iload_n 3, 1) := by decide +kernel
theorem dX0_headingAt_12 : decode cX0_headingAt 12 = .ok (.aload_n 0, 1) := by decide +kernel
theorem dX0_headingAt_13 : decode cX0_headingAt 13 = .ok (.getfield 24, 3) := by decide +kernel
theorem dX0_headingAt_16 : decode cX0_headingAt 16 = .ok (.iload_n 3, 1) := by decide +kernel
theorem dX0_headingAt_17 : decode cX0_headingAt 17 = .ok (.iaload, 1) := by decide +kernel
theorem dX0_headingAt_18 : decode cX0_headingAt 18 = .ok (.invokevirtual 43, 3) := by decide +kernel
theorem dX0_headingAt_21 : decode cX0_headingAt 21 = .ok (.iadd, 1) := by decide +kernel
theorem dX0_headingAt_22 : decode cX0_headingAt 22 = .ok (.istore_n 2, 1) := by decide +kernel
theorem dX0_headingAt_23 : decode cX0_headingAt 23 = .ok (.iinc 3 1, 3) := by decide +kernel
theorem dX0_headingAt_26 : decode cX0_headingAt 26 = .ok (.goto (-22), 3) := by decide +kernel
theorem dX0_headingAt_29 : decode cX0_headingAt 29 = .ok (.iload_n 2, 1) := by decide +kernel
theorem dX0_headingAt_30 : decode cX0_headingAt 30 = .ok (.bipush 63, 2) := by decide +kernel
theorem dX0_headingAt_32 : decode cX0_headingAt 32 = .ok (.iand, 1) := by decide +kernel
theorem dX0_headingAt_33 : decode cX0_headingAt 33 = .ok (.ireturn, 1) := by decide +kernel
theorem dX0_countPoses_0 : decode cX0_countPoses 0 = .ok (.lconst 1, 1) := by decide +kernel
theorem dX0_countPoses_1 : decode cX0_countPoses 1 = .ok (.lstore_n 1, 1) := by decide +kernel
theorem dX0_countPoses_2 : decode cX0_countPoses 2 = .ok (.iconst 0, 1) := by decide +kernel
theorem dX0_countPoses_3 : decode cX0_countPoses 3 = .ok (.istore_n 3, 1) := by decide +kernel
theorem dX0_countPoses_4 : decode cX0_countPoses 4 = .ok (.iload_n 3, 1) := by decide +kernel
theorem dX0_countPoses_5 : decode cX0_countPoses 5 = .ok (.aload_n 0, 1) := by decide +kernel
theorem dX0_countPoses_6 : decode cX0_countPoses 6 = .ok (.getfield 27, 3) := by decide +kernel
theorem dX0_countPoses_9 : decode cX0_countPoses 9 = .ok (.if_icmp .ge 28, 3) := by decide +kernel
theorem dX0_countPoses_12 : decode cX0_countPoses 12 = .ok (.lload_n 1, 1) := by decide +kernel
theorem dX0_countPoses_13 : decode cX0_countPoses 13 = .ok (.aload_n 0, 1) := by decide +kernel
theorem dX0_countPoses_14 : decode cX0_countPoses 14 = .ok (.getfield 21, 3) := by decide +kernel
theorem dX0_countPoses_17 : decode cX0_countPoses 17 = .ok (.iload_n 3, 1) := by decide +kernel
theorem dX0_countPoses_18 : decode cX0_countPoses 18 = .ok (.iaload, 1) := by decide +kernel
theorem dX0_countPoses_19 : decode cX0_countPoses 19 = .ok (.aload_n 0, 1) := by decide +kernel
theorem dX0_countPoses_20 : decode cX0_countPoses 20 = .ok (.getfield 18, 3) := by decide +kernel
theorem dX0_countPoses_23 : decode cX0_countPoses 23 = .ok (.iload_n 3, 1) := by decide +kernel
theorem dX0_countPoses_24 : decode cX0_countPoses 24 = .ok (.iaload, 1) := by decide +kernel
theorem dX0_countPoses_25 : decode cX0_countPoses 25 = .ok (.isub, 1) := by decide +kernel
theorem dX0_countPoses_26 : decode cX0_countPoses 26 = .ok (.iconst 1, 1) := by decide +kernel
theorem dX0_countPoses_27 : decode cX0_countPoses 27 = .ok (.iadd, 1) := by decide +kernel
theorem dX0_countPoses_28 : decode cX0_countPoses 28 = .ok (.i2l, 1) := by decide +kernel
theorem dX0_countPoses_29 : decode cX0_countPoses 29 = .ok (.lmul, 1) := by decide +kernel
theorem dX0_countPoses_30 : decode cX0_countPoses 30 = .ok (.lstore_n 1, 1) := by decide +kernel
theorem dX0_countPoses_31 : decode cX0_countPoses 31 = .ok (.iinc 3 1, 3) := by decide +kernel
theorem dX0_countPoses_34 : decode cX0_countPoses 34 = .ok (.goto (-30), 3) := by decide +kernel
theorem dX0_countPoses_37 : decode cX0_countPoses 37 = .ok (.lload_n 1, 1) := by decide +kernel
theorem dX0_countPoses_38 : decode cX0_countPoses 38 = .ok (.lreturn, 1) := by decide +kernel
theorem dX1_init_0 : decode cX1_init 0 = .ok (.aload_n 0, 1) := by decide +kernel
theorem dX1_init_1 : decode cX1_init 1 = .ok (.invokespecial 3, 3) := by decide +kernel
theorem dX1_init_4 : decode cX1_init 4 = .ok (.aload_n 0, 1) := by decide +kernel
theorem dX1_init_5 : decode cX1_init 5 = .ok (.sipush 10000, 3) := by decide +kernel
theorem dX1_init_8 : decode cX1_init 8 = .ok (.putfield 9, 3) := by decide +kernel
theorem dX1_init_11 : decode cX1_init 11 = .ok (.return_, 1) := by decide +kernel
theorem dX1_farFrom_0 : decode cX1_farFrom 0 = .ok (.iload_n 1, 1) := by decide +kernel
theorem dX1_farFrom_1 : decode cX1_farFrom 1 = .ok (.i2l, 1) := by decide +kernel
theorem dX1_farFrom_2 : decode cX1_farFrom 2 = .ok (.aload_n 0, 1) := by decide +kernel
theorem dX1_farFrom_3 : decode cX1_farFrom 3 = .ok (.getfield 15, 3) := by decide +kernel
theorem dX1_farFrom_6 : decode cX1_farFrom 6 = .ok (.i2l, 1) := by decide +kernel
theorem dX1_farFrom_7 : decode cX1_farFrom 7 = .ok (.lsub, 1) := by decide +kernel
theorem dX1_farFrom_8 : decode cX1_farFrom 8 = .ok (.lstore_n 3, 1) := by decide +kernel
theorem dX1_farFrom_9 : decode cX1_farFrom 9 = .ok (.iload_n 2, 1) := by decide +kernel
theorem dX1_farFrom_10 : decode cX1_farFrom 10 = .ok (.i2l, 1) := by decide +kernel
theorem dX1_farFrom_11 : decode cX1_farFrom 11 = .ok (.aload_n 0, 1) := by decide +kernel
theorem dX1_farFrom_12 : decode cX1_farFrom 12 = .ok (.getfield 18, 3) := by decide +kernel
theorem dX1_farFrom_15 : decode cX1_farFrom 15 = .ok (.i2l, 1) := by decide +kernel
theorem dX1_farFrom_16 : decode cX1_farFrom 16 = .ok (.lsub, 1) := by decide +kernel
theorem dX1_farFrom_17 : decode cX1_farFrom 17 = .ok (.lstore 5, 2) := by decide +kernel
theorem dX1_farFrom_19 : decode cX1_farFrom 19 = .ok (.lload_n 3, 1) := by decide +kernel
theorem dX1_farFrom_20 : decode cX1_farFrom 20 = .ok (.lload_n 3, 1) := by decide +kernel
theorem dX1_farFrom_21 : decode cX1_farFrom 21 = .ok (.lmul, 1) := by decide +kernel
theorem dX1_farFrom_22 : decode cX1_farFrom 22 = .ok (.lload 5, 2) := by decide +kernel
theorem dX1_farFrom_24 : decode cX1_farFrom 24 = .ok (.lload 5, 2) := by decide +kernel
theorem dX1_farFrom_26 : decode cX1_farFrom 26 = .ok (.lmul, 1) := by decide +kernel
theorem dX1_farFrom_27 : decode cX1_farFrom 27 = .ok (.ladd, 1) := by decide +kernel
theorem dX1_farFrom_28 : decode cX1_farFrom 28 = .ok (.lreturn, 1) := by decide +kernel
theorem dX1_isWithin_0 : decode cX1_isWithin 0 = .ok (.iload_n 2, 1) := by decide +kernel
theorem dX1_isWithin_1 : decode cX1_isWithin 1 = .ok (.aload_n 0, 1) := by decide +kernel
theorem dX1_isWithin_2 : decode cX1_isWithin 2 = .ok (.getfield 15, 3) := by decide +kernel
theorem dX1_isWithin_5 : decode cX1_isWithin 5 = .ok (.isub, 1) := by decide +kernel
theorem dX1_isWithin_6 : decode cX1_isWithin 6 = .ok (.invokestatic 21, 3) := by decide +kernel
theorem dX1_isWithin_9 : decode cX1_isWithin 9 = .ok (.iload_n 1, 1) := by decide +kernel
theorem dX1_isWithin_10 : decode cX1_isWithin 10 = .ok (.if_icmp .gt 20, 3) := by decide +kernel
theorem dX1_isWithin_13 : decode cX1_isWithin 13 = .ok (.iload_n 3, 1) := by decide +kernel
theorem dX1_isWithin_14 : decode cX1_isWithin 14 = .ok (.aload_n 0, 1) := by decide +kernel
theorem dX1_isWithin_15 : decode cX1_isWithin 15 = .ok (.getfield 18, 3) := by decide +kernel
theorem dX1_isWithin_18 : decode cX1_isWithin 18 = .ok (.isub, 1) := by decide +kernel
theorem dX1_isWithin_19 : decode cX1_isWithin 19 = .ok (.invokestatic 21, 3) := by decide +kernel
theorem dX1_isWithin_22 : decode cX1_isWithin 22 = .ok (.iload_n 1, 1) := by decide +kernel
theorem dX1_isWithin_23 : decode cX1_isWithin 23 = .ok (.if_icmp .gt 7, 3) := by decide +kernel
theorem dX1_isWithin_26 : decode cX1_isWithin 26 = .ok (.iconst 1, 1) := by decide +kernel
theorem dX1_isWithin_27 : decode cX1_isWithin 27 = .ok (.goto 4, 3) := by decide +kernel
theorem dX1_isWithin_30 : decode cX1_isWithin 30 = .ok (.iconst 0, 1) := by decide +kernel
theorem dX1_isWithin_31 : decode cX1_isWithin 31 = .ok (.ireturn, 1) := by decide +kernel
theorem dX2_init_0 : decode cX2_init 0 = .ok (.aload_n 0, 1) := by decide +kernel
theorem dX2_init_1 : decode cX2_init 1 = .ok (.invokespecial 3, 3) := by decide +kernel
theorem dX2_init_4 : decode cX2_init 4 = .ok (.aload_n 0, 1) := by decide +kernel
theorem dX2_init_5 : decode cX2_init 5 = .ok (.bipush 10, 2) := by decide +kernel
theorem dX2_init_7 : decode cX2_init 7 = .ok (.newarray .long, 2) := by decide +kernel
theorem dX2_init_9 : decode cX2_init 9 = .ok (.putfield 9, 3) := by decide +kernel
theorem dX2_init_12 : decode cX2_init 12 = .ok (.aload_n 0, 1) := by decide +kernel
theorem dX2_init_13 : decode cX2_init 13 = .ok (.bipush 50, 2) := by decide +kernel
theorem dX2_init_15 : decode cX2_init 15 = .ok (.newarray .int, 2) := by decide +kernel
theorem dX2_init_17 : decode cX2_init 17 = .ok (.putfield 15, 3) := by decide +kernel
theorem dX2_init_20 : decode cX2_init 20 = .ok (.return_, 1) := by decide +kernel
theorem dX2_clear_0 : decode cX2_clear 0 = .ok (.aload_n 0, 1) := by decide +kernel
theorem dX2_clear_1 : decode cX2_clear 1 = .ok (.iconst 0, 1) := by decide +kernel
theorem dX2_clear_2 : decode cX2_clear 2 = .ok (.putfield 19, 3) := by decide +kernel
theorem dX2_clear_5 : decode cX2_clear 5 = .ok (.return_, 1) := by decide +kernel
set_option maxRecDepth 20000 in
theorem ggX2_add_X2_moveDown : GoodIn wsX2_add wsX2_moveDown := goodIn_r _ [16, 6, 7, 8, 9, 10, 11, 17, 18, 19] (by decide +kernel) (by decide +kernel)
set_option maxRecDepth 20000 in
theorem gX2_add_X2_moveDown : GoodIn wsX2_add (wsV RX2 29 RX2 yX2_moveDown wsX2_moveDown) := goodIn_app (goodIn_of _ (by decide +kernel)) ggX2_add_X2_moveDown
theorem dX2_add_0 : decode cX2_add 0 = .ok (.aload_n 0, 1) := by decide +kernel
theorem dX2_add_1 : decode cX2_add 1 = .ok (.getfield 19, 3) := by decide +kernel
theorem dX2_add_4 : decode cX2_add 4 = .ok (.bipush 10, 2) := by decide +kernel
theorem dX2_add_6 : decode cX2_add 6 = .ok (.invokestatic 23, 3) := by decide +kernel
theorem dX2_add_9 : decode cX2_add 9 = .ok (.istore 4, 2) := by decide +kernel
theorem dX2_add_11 : decode cX2_add 11 = .ok (.aload_n 0, 1) := by decide +kernel
theorem dX2_add_12 : decode cX2_add 12 = .ok (.dup, 1) := by decide +kernel
theorem dX2_add_13 : decode cX2_add 13 = .ok (.getfield 19, 3) := by decide +kernel
theorem dX2_add_16 : decode cX2_add 16 = .ok (.iconst 1, 1) := by decide +kernel
theorem dX2_add_17 : decode cX2_add 17 = .ok (.iadd, 1) := by decide +kernel
theorem dX2_add_18 : decode cX2_add 18 = .ok (.putfield 19, 3) := by decide +kernel
theorem dX2_add_21 : decode cX2_add 21 = .ok (.iload 4, 2) := by decide +kernel
theorem dX2_add_23 : decode cX2_add 23 = .ok (.ifCond .le 29, 3) := by decide +kernel
theorem dX2_add_26 : decode cX2_add 26 = .ok (.aload_n 0, 1) := by decide +kernel
theorem dX2_add_27 : decode cX2_add 27 = .ok (.getfield 9, 3) := by decide +kernel
theorem dX2_add_30 : decode cX2_add 30 = .ok (.iload 4, 2) := by decide +kernel
theorem dX2_add_32 : decode cX2_add 32 = .ok (.iconst 1, 1) := by decide +kernel
theorem dX2_add_33 : decode cX2_add 33 = .ok (.isub, 1) := by decide +kernel
theorem dX2_add_34 : decode cX2_add 34 = .ok (.laload, 1) := by decide +kernel
theorem dX2_add_35 : decode cX2_add 35 = .ok (.lload_n 1, 1) := by decide +kernel
theorem dX2_add_36 : decode cX2_add 36 = .ok (.lcmp, 1) := by decide +kernel
theorem dX2_add_37 : decode cX2_add 37 = .ok (.ifCond .le 15, 3) := by decide +kernel
theorem dX2_add_40 : decode cX2_add 40 = .ok (.iinc 4 (-1), 3) := by decide +kernel
theorem dX2_add_43 : decode cX2_add 43 = .ok (.aload_n 0, 1) := by decide +kernel
theorem dX2_add_44 : decode cX2_add 44 = .ok (.iload 4, 2) := by decide +kernel
theorem dX2_add_46 : decode cX2_add 46 = .ok (.invokevirtual 29, 3) := by decide +kernel
theorem dX2_add_49 : decode cX2_add 49 = .ok (.goto (-28), 3) := by decide +kernel
theorem dX2_add_52 : decode cX2_add 52 = .ok (.iload 4, 2) := by decide +kernel
theorem dX2_add_54 : decode cX2_add 54 = .ok (.bipush 10, 2) := by decide +kernel
theorem dX2_add_56 : decode cX2_add 56 = .ok (.if_icmp .ge 25, 3) := by decide +kernel
theorem dX2_add_59 : decode cX2_add 59 = .ok (.aload_n 0, 1) := by decide +kernel
theorem dX2_add_60 : decode cX2_add 60 = .ok (.getfield 9, 3) := by decide +kernel
theorem dX2_add_63 : decode cX2_add 63 = .ok (.iload 4, 2) := by decide +kernel
theorem dX2_add_65 : decode cX2_add 65 = .ok (.lload_n 1, 1) := by decide +kernel
theorem dX2_add_66 : decode cX2_add 66 = .ok (.lastore, 1) := by decide +kernel
theorem dX2_add_67 : decode cX2_add 67 = .ok (.aload_n 3, 1) := by decide +kernel
theorem dX2_add_68 : decode cX2_add 68 = .ok (.iconst 0, 1) := by decide +kernel
theorem dX2_add_69 : decode cX2_add 69 = .ok (.aload_n 0, 1) := by decide +kernel
theorem dX2_add_70 : decode cX2_add 70 = .ok (.getfield 15, 3) := by decide +kernel
theorem dX2_add_73 : decode cX2_add 73 = .ok (.iload 4, 2) := by decide +kernel
theorem dX2_add_75 : decode cX2_add 75 = .ok (.iconst 5, 1) := by decide +kernel
theorem dX2_add_76 : decode cX2_add 76 = .ok (.imul, 1) := by decide +kernel
theorem dX2_add_77 : decode cX2_add 77 = .ok (.iconst 5, 1) := by decide +kernel
theorem dX2_add_78 : decode cX2_add 78 = .ok (.invokestatic 33, 3) := by decide +kernel
theorem dX2_add_81 : decode cX2_add 81 = .ok (.return_, 1) := by decide +kernel
theorem dX2_moveDown_0 : decode cX2_moveDown 0 = .ok (.iload_n 1, 1) := by decide +kernel
theorem dX2_moveDown_1 : decode cX2_moveDown 1 = .ok (.iconst 1, 1) := by decide +kernel
theorem dX2_moveDown_2 : decode cX2_moveDown 2 = .ok (.iadd, 1) := by decide +kernel
theorem dX2_moveDown_3 : decode cX2_moveDown 3 = .ok (.bipush 10, 2) := by decide +kernel
theorem dX2_moveDown_5 : decode cX2_moveDown 5 = .ok (.if_icmp .ge 37, 3) := by decide +kernel
theorem dX2_moveDown_8 : decode cX2_moveDown 8 = .ok (.aload_n 0, 1) := by decide +kernel
theorem dX2_moveDown_9 : decode cX2_moveDown 9 = .ok (.getfield 9, 3) := by decide +kernel
theorem dX2_moveDown_12 : decode cX2_moveDown 12 = .ok (.iload_n 1, 1) := by decide +kernel
theorem dX2_moveDown_13 : decode cX2_moveDown 13 = .ok (.iconst 1, 1) := by decide +kernel
theorem dX2_moveDown_14 : decode cX2_moveDown 14 = .ok (.iadd, 1) := by decide +kernel
theorem dX2_moveDown_15 : decode cX2_moveDown 15 = .ok (.aload_n 0, 1) := by decide +kernel
theorem dX2_moveDown_16 : decode cX2_moveDown 16 = .ok (.getfield 9, 3) := by decide +kernel
theorem dX2_moveDown_19 : decode cX2_moveDown 19 = .ok (.iload_n 1, 1) := by decide +kernel
theorem dX2_moveDown_20 : decode cX2_moveDown 20 = .ok (.laload, 1) := by decide +kernel
theorem dX2_moveDown_21 : decode cX2_moveDown 21 = .ok (.lastore, 1) := by decide +kernel
theorem dX2_moveDown_22 : decode cX2_moveDown 22 = .ok (.aload_n 0, 1) := by decide +kernel
theorem dX2_moveDown_23 : decode cX2_moveDown 23 = .ok (.getfield 15, 3) := by decide +kernel
theorem dX2_moveDown_26 : decode cX2_moveDown 26 = .ok (.iload_n 1, 1) := by decide +kernel
theorem dX2_moveDown_27 : decode cX2_moveDown 27 = .ok (.iconst 5, 1) := by decide +kernel
theorem dX2_moveDown_28 : decode cX2_moveDown 28 = .ok (.imul, 1) := by decide +kernel
theorem dX2_moveDown_29 : decode cX2_moveDown 29 = .ok (.aload_n 0, 1) := by decide +kernel
theorem dX2_moveDown_30 : decode cX2_moveDown 30 = .ok (.getfield 15, 3) := by decide +kernel
theorem dX2_moveDown_33 : decode cX2_moveDown 33 = .ok (.iload_n 1, 1) := by decide +kernel
theorem dX2_moveDown_34 : decode cX2_moveDown 34 = .ok (.iconst 1, 1) := by decide +kernel
theorem dX2_moveDown_35 : decode cX2_moveDown 35 = .ok (.iadd, 1) := by decide +kernel
theorem dX2_moveDown_36 : decode cX2_moveDown 36 = .ok (.iconst 5, 1) := by decide +kernel
theorem dX2_moveDown_37 : decode cX2_moveDown 37 = .ok (.imul, 1) := by decide +kernel
theorem dX2_moveDown_38 : decode cX2_moveDown 38 = .ok (.iconst 5, 1) := by decide +kernel
theorem dX2_moveDown_39 : decode cX2_moveDown 39 = .ok (.invokestatic 33, 3) := by decide +kernel
theorem dX2_moveDown_42 : decode cX2_moveDown 42 = .ok (.return_, 1) := by decide +kernel
theorem dX2_valueOf_0 : decode cX2_valueOf 0 = .ok (.aload_n 0, 1) := by decide +kernel
theorem dX2_valueOf_1 : decode cX2_valueOf 1 = .ok (.getfield 15, 3) := by decide +kernel
theorem dX2_valueOf_4 : decode cX2_valueOf 4 = .ok (.iload_n 1, 1) := by decide +kernel
theorem dX2_valueOf_5 : decode cX2_valueOf 5 = .ok (.iconst 5, 1) := by decide +kernel
theorem dX2_valueOf_6 : decode cX2_valueOf 6 = .ok (.imul, 1) := by decide +kernel
theorem dX2_valueOf_7 : decode cX2_valueOf 7 = .ok (.iload_n 2, 1) := by decide +kernel
theorem dX2_valueOf_8 : decode cX2_valueOf 8 = .ok (.iadd, 1) := by decide +kernel
theorem dX2_valueOf_9 : decode cX2_valueOf 9 = .ok (.iaload, 1) := by decide +kernel
theorem dX2_valueOf_10 : decode cX2_valueOf 10 = .ok (.ireturn, 1) := by decide +kernel
set_option maxRecDepth 20000 in
theorem ggX3_init_X2_init : GoodIn wsX3_init wsX2_init := goodIn_r _ [16, 17, 2, 3, 18, 19, 8, 20, 21, 22, 23] (by decide +kernel) (by decide +kernel)
set_option maxRecDepth 20000 in
theorem gX3_init_X2_init_n11 : GoodIn wsX3_init (wsX2_init) := ggX3_init_X2_init
theorem dX3_init_0 : decode cX3_init 0 = .ok (.aload_n 0, 1) := by decide +kernel
theorem dX3_init_1 : decode cX3_init 1 = .ok (.invokespecial 3, 3) := by decide +kernel
theorem dX3_init_4 : decode cX3_init 4 = .ok (.aload_n 0, 1) := by decide +kernel
theorem dX3_init_5 : decode cX3_init 5 = .ok (.new 9, 3) := by decide +kernel
theorem dX3_init_8 : decode cX3_init 8 = .ok (.dup, 1) := by decide +kernel
theorem dX3_init_9 : decode cX3_init 9 = .ok (.invokespecial 11, 3) := by decide +kernel
theorem dX3_init_12 : decode cX3_init 12 = .ok (.putfield 12, 3) := by decide +kernel
theorem dX3_init_15 : decode cX3_init 15 = .ok (.aload_n 0, 1) := by decide +kernel
theorem dX3_init_16 : decode cX3_init 16 = .ok (.iconst 5, 1) := by decide +kernel
theorem dX3_init_17 : decode cX3_init 17 = .ok (.newarray .int, 2) := by decide +kernel
theorem dX3_init_19 : decode cX3_init 19 = .ok (.putfield 18, 3) := by decide +kernel
theorem dX3_init_22 : decode cX3_init 22 = .ok (.aload_n 0, 1) := by decide +kernel
theorem dX3_init_23 : decode cX3_init 23 = .ok (.bipush 6, 2) := by decide +kernel
theorem dX3_init_25 : decode cX3_init 25 = .ok (.newarray .int, 2) := by decide +kernel
theorem dX3_init_27 : decode cX3_init 27 = .ok (.putfield 22, 3) := by decide +kernel
theorem dX3_init_30 : decode cX3_init 30 = .ok (.aload_n 0, 1) := by decide +kernel
theorem dX3_init_31 : decode cX3_init 31 = .ok (.bipush 6, 2) := by decide +kernel
theorem dX3_init_33 : decode cX3_init 33 = .ok (.newarray .int, 2) := by decide +kernel
theorem dX3_init_35 : decode cX3_init 35 = .ok (.putfield 25, 3) := by decide +kernel
theorem dX3_init_38 : decode cX3_init 38 = .ok (.aload_n 0, 1) := by decide +kernel
theorem dX3_init_39 : decode cX3_init 39 = .ok (.bipush 6, 2) := by decide +kernel
theorem dX3_init_41 : decode cX3_init 41 = .ok (.newarray .int, 2) := by decide +kernel
theorem dX3_init_43 : decode cX3_init 43 = .ok (.putfield 28, 3) := by decide +kernel
theorem dX3_init_46 : decode cX3_init 46 = .ok (.aload_n 0, 1) := by decide +kernel
theorem dX3_init_47 : decode cX3_init 47 = .ok (.bipush 6, 2) := by decide +kernel
theorem dX3_init_49 : decode cX3_init 49 = .ok (.newarray .int, 2) := by decide +kernel
theorem dX3_init_51 : decode cX3_init 51 = .ok (.putfield 31, 3) := by decide +kernel
theorem dX3_init_54 : decode cX3_init 54 = .ok (.aload_n 0, 1) := by decide +kernel
theorem dX3_init_55 : decode cX3_init 55 = .ok (.bipush 6, 2) := by decide +kernel
theorem dX3_init_57 : decode cX3_init 57 = .ok (.newarray .int, 2) := by decide +kernel
theorem dX3_init_59 : decode cX3_init 59 = .ok (.putfield 34, 3) := by decide +kernel
theorem dX3_init_62 : decode cX3_init 62 = .ok (.return_, 1) := by decide +kernel
set_option maxRecDepth 20000 in
theorem ggX3_run_X2_clear : GoodIn wsX3_run wsX2_clear := goodIn_r _ [5, 6, 94, 95, 96] (by decide +kernel) (by decide +kernel)
set_option maxRecDepth 20000 in
theorem gX3_run_X2_clear_n37 : GoodIn wsX3_run (wsX2_clear) := ggX3_run_X2_clear
set_option maxRecDepth 20000 in
theorem ggX3_run_X3_findReach : GoodIn wsX3_run wsX3_findReach := goodIn_r _ [11, 12, 13, 14, 15, 16, 17, 18, 81, 82, 83, 84, 85, 86, 87, 88, 89, 90, 91, 92, 93, 97, 98, 99] (by decide +kernel) (by decide +kernel)
set_option maxRecDepth 20000 in
theorem gX3_run_X3_findReach : GoodIn wsX3_run (wsV RX3 40 RX3 yX3_findReach wsX3_findReach) := goodIn_app (goodIn_of _ (by decide +kernel)) ggX3_run_X3_findReach
set_option maxRecDepth 20000 in
theorem ggX3_run_X3_goThrough : GoodIn wsX3_run wsX3_goThrough := goodIn_r _ [21, 12, 22, 23, 1, 24, 25, 26, 27, 28, 29, 30, 31, 32, 33, 34, 35, 36, 37, 10, 38, 39, 40, 41, 42, 43, 44, 45, 46, 47, 14, 48, 49, 50, 51, 52, 53, 54, 17, 55, 3, 56, 57, 6, 58, 59, 60, 61, 62, 63, 64, 65, 66, 67, 68, 69, 70, 71, 72, 73, 13, 15, 16, 18, 74, 75, 76, 77, 78, 79, 80, 19, 20, 88, 89, 90, 91, 92, 93, 81, 82, 83, 84, 85, 86, 87, 97, 98, 99, 94, 95, 96] (by decide +kernel) (by decide +kernel)
set_option maxRecDepth 20000 in
theorem gX3_run_X3_goThrough : GoodIn wsX3_run (va_wsS RX3 50 yX3_goThrough wsX3_goThrough) := goodIn_app (goodIn_of _ (by decide +kernel)) ggX3_run_X3_goThrough
theorem dX3_run_0 : decode cX3_run 0 = .ok (.aload_n 0, 1) := by decide +kernel
theorem dX3_run_1 : decode cX3_run 1 = .ok (.getfield 12, 3) := by decide +kernel
theorem dX3_run_4 : decode cX3_run 4 = .ok (.invokevirtual 37, 3) := by decide +kernel
theorem dX3_run_7 : decode cX3_run 7 = .ok (.aload_n 0, 1) := by decide +kernel
theorem dX3_run_8 : decode cX3_run 8 = .ok (.aload_n 1, 1) := by decide +kernel
theorem dX3_run_9 : decode cX3_run 9 = .ok (.aload_n 2, 1) := by decide +kernel
theorem dX3_run_10 : decode cX3_run 10 = .ok (.invokevirtual 40, 3) := by decide +kernel
theorem dX3_run_13 : decode cX3_run 13 = .ok (.aload_n 1, 1) := by decide +kernel
theorem dX3_run_14 : decode cX3_run 14 = .ok (.getfield 44, 3) := by decide +kernel
theorem dX3_run_17 : decode cX3_run 17 = .ok (.ifCond .le 11, 3) := by decide +kernel
theorem dX3_run_20 : decode cX3_run 20 = .ok (.aload_n 0, 1) := by decide +kernel
theorem dX3_run_21 : decode cX3_run 21 = .ok (.aload_n 1, 1) := by decide +kernel
theorem dX3_run_22 : decode cX3_run 22 = .ok (.aload_n 2, 1) := by decide +kernel
theorem dX3_run_23 : decode cX3_run 23 = .ok (.iload_n 3, 1) := by decide +kernel
theorem dX3_run_24 : decode cX3_run 24 = .ok (.iconst 0, 1) := by decide +kernel
theorem dX3_run_25 : decode cX3_run 25 = .ok (.invokestatic 50, 3) := by decide +kernel
theorem dX3_run_28 : decode cX3_run 28 = .ok (.return_, 1) := by decide +kernel
set_option maxRecDepth 20000 in
theorem ggX3_findReach_X0_distanceOf : GoodIn wsX3_findReach wsX0_distanceOf := goodIn_r _ [5, 6, 7, 15, 16, 17, 18, 19, 20] (by decide +kernel) (by decide +kernel)
set_option maxRecDepth 20000 in
theorem gX3_findReach_X0_distanceOf_n62 : GoodIn wsX3_findReach (wsX0_distanceOf) := ggX3_findReach_X0_distanceOf
theorem dX3_findReach_0 : decode cX3_findReach 0 = .ok (.aload_n 0, 1) := by decide +kernel
theorem dX3_findReach_1 : decode cX3_findReach 1 = .ok (.getfield 22, 3) := by decide +kernel
theorem dX3_findReach_4 : decode cX3_findReach 4 = .ok (.aload_n 1, 1) := by decide +kernel
theorem dX3_findReach_5 : decode cX3_findReach 5 = .ok (.getfield 44, 3) := by decide +kernel
theorem dX3_findReach_8 : decode cX3_findReach 8 = .ok (.aload_n 2, 1) := by decide +kernel
theorem dX3_findReach_9 : decode cX3_findReach 9 = .ok (.getfield 54, 3) := by decide +kernel
theorem dX3_findReach_12 : decode cX3_findReach 12 = .ok (.iastore, 1) := by decide +kernel
theorem dX3_findReach_13 : decode cX3_findReach 13 = .ok (.aload_n 1, 1) := by decide +kernel
theorem dX3_findReach_14 : decode cX3_findReach 14 = .ok (.getfield 44, 3) := by decide +kernel
theorem dX3_findReach_17 : decode cX3_findReach 17 = .ok (.iconst 1, 1) := by decide +kernel
theorem dX3_findReach_18 : decode cX3_findReach 18 = .ok (.isub, 1) := by decide +kernel
theorem dX3_findReach_19 : decode cX3_findReach 19 = .ok (.istore_n 3, 1) := by decide +kernel
theorem dX3_findReach_20 : decode cX3_findReach 20 = .ok (.iload_n 3, 1) := by decide +kernel
theorem dX3_findReach_21 : decode cX3_findReach 21 = .ok (.ifCond .lt 39, 3) := by decide +kernel
theorem dX3_findReach_24 : decode cX3_findReach 24 = .ok (.aload_n 0, 1) := by decide +kernel
theorem dX3_findReach_25 : decode cX3_findReach 25 = .ok (.getfield 22, 3) := by decide +kernel
theorem dX3_findReach_28 : decode cX3_findReach 28 = .ok (.iload_n 3, 1) := by decide +kernel
theorem dX3_findReach_29 : decode cX3_findReach 29 = .ok (.aload_n 0, 1) := by decide +kernel
theorem dX3_findReach_30 : decode cX3_findReach 30 = .ok (.getfield 22, 3) := by decide +kernel
theorem dX3_findReach_33 : decode cX3_findReach 33 = .ok (.iload_n 3, 1) := by decide +kernel
theorem dX3_findReach_34 : decode cX3_findReach 34 = .ok (.iconst 1, 1) := by decide +kernel
theorem dX3_findReach_35 : decode cX3_findReach 35 = .ok (.iadd, 1) := by decide +kernel
theorem dX3_findReach_36 : decode cX3_findReach 36 = .ok (.iaload, 1) := by decide +kernel
theorem dX3_findReach_37 : decode cX3_findReach 37 = .ok (.sipush 1000, 3) := by decide +kernel
theorem dX3_findReach_40 : decode cX3_findReach 40 = .ok (.aload_n 1, 1) := by decide +kernel
theorem dX3_findReach_41 : decode cX3_findReach 41 = .ok (.iload_n 3, 1) := by decide +kernel
theorem dX3_findReach_42 : decode cX3_findReach 42 = .ok (.aload_n 1, 1) := by decide +kernel
theorem dX3_findReach_43 : decode cX3_findReach 43 = .ok (.getfield 59, 3) := by decide +kernel
theorem dX3_findReach_46 : decode cX3_findReach 46 = .ok (.iload_n 3, 1) := by decide +kernel
theorem dX3_findReach_47 : decode cX3_findReach 47 = .ok (.iaload, 1) := by decide +kernel
theorem dX3_findReach_48 : decode cX3_findReach 48 = .ok (.invokevirtual 62, 3) := by decide +kernel
theorem dX3_findReach_51 : decode cX3_findReach 51 = .ok (.imul, 1) := by decide +kernel
theorem dX3_findReach_52 : decode cX3_findReach 52 = .ok (.iadd, 1) := by decide +kernel
theorem dX3_findReach_53 : decode cX3_findReach 53 = .ok (.iastore, 1) := by decide +kernel
theorem dX3_findReach_54 : decode cX3_findReach 54 = .ok (.iinc 3 (-1), 3) := by decide +kernel
theorem dX3_findReach_57 : decode cX3_findReach 57 = .ok (.goto (-37), 3) := by decide +kernel
theorem dX3_findReach_60 : decode cX3_findReach 60 = .ok (.return_, 1) := by decide +kernel
set_option maxRecDepth 20000 in
theorem ggX3_goThrough_X1_isWithin : GoodIn wsX3_goThrough wsX1_isWithin := goodIn_r _ [9, 10, 11, 12, 13, 14, 15, 86, 87, 88] (by decide +kernel) (by decide +kernel)
set_option maxRecDepth 20000 in
theorem gX3_goThrough_X1_isWithin_n66 : GoodIn wsX3_goThrough (wsX1_isWithin) := ggX3_goThrough_X1_isWithin
set_option maxRecDepth 20000 in
theorem ggX3_goThrough_X3_keyOf : GoodIn wsX3_goThrough wsX3_keyOf := goodIn_r _ [20, 2, 3, 21, 22, 23, 24, 13, 25, 26, 7, 27, 28, 10, 15, 29, 30, 31, 32, 33, 34, 35, 36, 37, 38, 73, 74, 75, 76, 77, 78, 79, 80, 81, 82, 83, 84, 85, 86, 87, 88] (by decide +kernel) (by decide +kernel)
set_option maxRecDepth 20000 in
theorem gX3_goThrough_X3_keyOf : GoodIn wsX3_goThrough (wsV RX3 70 RX3 yX3_keyOf wsX3_keyOf) := goodIn_app (goodIn_of _ (by decide +kernel)) ggX3_goThrough_X3_keyOf
set_option maxRecDepth 20000 in
theorem ggX3_goThrough_X2_add : GoodIn wsX3_goThrough wsX2_add := goodIn_r _ [42, 43, 44, 24, 13, 25, 45, 46, 47, 48, 49, 50, 51, 52, 53, 40, 54, 89, 90, 91] (by decide +kernel) (by decide +kernel)
set_option maxRecDepth 20000 in
theorem gX3_goThrough_X2_add_n74 : GoodIn wsX3_goThrough (wsX2_add) := ggX3_goThrough_X2_add
set_option maxRecDepth 20000 in
theorem ggX3_goThrough_X3_lead : GoodIn wsX3_goThrough wsX3_lead := goodIn_r _ [58, 22, 5, 2, 3, 21, 59, 12, 13, 14, 35, 30, 36, 37, 38, 60, 61, 62, 63, 64, 65, 66, 67, 68, 69, 70, 79, 80, 81, 82, 83, 84, 85, 73, 74, 75, 76, 77, 78] (by decide +kernel) (by decide +kernel)
set_option maxRecDepth 20000 in
theorem gX3_goThrough_X3_lead : GoodIn wsX3_goThrough (wsV RX3 81 RX3 yX3_lead wsX3_lead) := goodIn_app (goodIn_of _ (by decide +kernel)) ggX3_goThrough_X3_lead
set_option maxRecDepth 20000 in
theorem ggX3_goThrough_X3_goThrough : GoodIn wsX3_goThrough wsX3_goThrough := goodIn_r _ [0, 1, 2, 3, 4, 5, 6, 7, 8, 9, 10, 11, 12, 13, 14, 15, 16, 17, 18, 19, 20, 21, 22, 23, 24, 25, 26, 27, 28, 29, 30, 31, 32, 33, 34, 35, 36, 37, 38, 39, 40, 41, 42, 43, 44, 45, 46, 47, 48, 49, 50, 51, 52, 53, 54, 55, 56, 57, 58, 59, 60, 61, 62, 63, 64, 65, 66, 67, 68, 69, 70, 71, 72, 73, 74, 75, 76, 77, 78, 79, 80, 81, 82, 83, 84, 85, 86, 87, 88, 89, 90, 91] (by decide +kernel) (by decide +kernel)
set_option maxRecDepth 20000 in
theorem gX3_goThrough_X3_goThrough : GoodIn wsX3_goThrough (va_wsS RX3 50 yX3_goThrough wsX3_goThrough) := goodIn_app (goodIn_of _ (by decide +kernel)) ggX3_goThrough_X3_goThrough
theorem dX3_goThrough_0 : decode cX3_goThrough 0 = .ok (.iload 4, 2) := by decide +kernel
theorem dX3_goThrough_2 : decode cX3_goThrough 2 = .ok (.aload_n 1, 1) := by decide +kernel
theorem dX3_goThrough_3 : decode cX3_goThrough 3 = .ok (.getfield 44, 3) := by decide +kernel
theorem dX3_goThrough_6 : decode cX3_goThrough 6 = .ok (.if_icmp .gt 31, 3) := by decide +kernel
theorem dX3_goThrough_9 : decode cX3_goThrough 9 = .ok (.aload_n 2, 1) := by decide +kernel
theorem dX3_goThrough_10 : decode cX3_goThrough 10 = .ok (.aload_n 0, 1) := by decide +kernel
theorem dX3_goThrough_11 : decode cX3_goThrough 11 = .ok (.getfield 22, 3) := by decide +kernel
theorem dX3_goThrough_14 : decode cX3_goThrough 14 = .ok (.iload 4, 2) := by decide +kernel
theorem dX3_goThrough_16 : decode cX3_goThrough 16 = .ok (.iaload, 1) := by decide +kernel
theorem dX3_goThrough_17 : decode cX3_goThrough 17 = .ok (.aload_n 0, 1) := by decide +kernel
theorem dX3_goThrough_18 : decode cX3_goThrough 18 = .ok (.getfield 25, 3) := by decide +kernel
theorem dX3_goThrough_21 : decode cX3_goThrough 21 = .ok (.iload 4, 2) := by decide +kernel
theorem dX3_goThrough_23 : decode cX3_goThrough 23 = .ok (.iaload, 1) := by decide +kernel
theorem dX3_goThrough_24 : decode cX3_goThrough 24 = .ok (.aload_n 0, 1) := by decide +kernel
theorem dX3_goThrough_25 : decode cX3_goThrough 25 = .ok (.getfield 28, 3) := by decide +kernel
theorem dX3_goThrough_28 : decode cX3_goThrough 28 = .ok (.iload 4, 2) := by decide +kernel
theorem dX3_goThrough_30 : decode cX3_goThrough 30 = .ok (.iaload, 1) := by decide +kernel
theorem dX3_goThrough_31 : decode cX3_goThrough 31 = .ok (.invokevirtual 66, 3) := by decide +kernel
theorem dX3_goThrough_34 : decode cX3_goThrough 34 = .ok (.ifCond .ne 4, 3) := by decide +kernel
theorem dX3_goThrough_37 : decode cX3_goThrough 37 = .ok (.return_, 1) := by decide +kernel
theorem dX3_goThrough_38 : decode cX3_goThrough 38 = .ok (.iload 4, 2) := by decide +kernel
theorem dX3_goThrough_40 : decode cX3_goThrough 40 = .ok (.aload_n 1, 1) := by decide +kernel
theorem dX3_goThrough_41 : decode cX3_goThrough 41 = .ok (.getfield 44, 3) := by decide +kernel
theorem dX3_goThrough_44 : decode cX3_goThrough 44 = .ok (.if_icmp .ne 22, 3) := by decide +kernel
theorem dX3_goThrough_47 : decode cX3_goThrough 47 = .ok (.aload_n 0, 1) := by decide +kernel
theorem dX3_goThrough_48 : decode cX3_goThrough 48 = .ok (.getfield 12, 3) := by decide +kernel
theorem dX3_goThrough_51 : decode cX3_goThrough 51 = .ok (.aload_n 0, 1) := by decide +kernel
theorem dX3_goThrough_52 : decode cX3_goThrough 52 = .ok (.aload_n 1, 1) := by decide +kernel
theorem dX3_goThrough_53 : decode cX3_goThrough 53 = .ok (.aload_n 2, 1) := by decide +kernel
theorem dX3_goThrough_54 : decode cX3_goThrough 54 = .ok (.iload_n 3, 1) := by decide +kernel
theorem dX3_goThrough_55 : decode cX3_goThrough 55 = .ok (.invokevirtual 70, 3) := by decide +kernel
theorem dX3_goThrough_58 : decode cX3_goThrough 58 = .ok (.aload_n 0, 1) := by decide +kernel
theorem dX3_goThrough_59 : decode cX3_goThrough 59 = .ok (.getfield 18, 3) := by decide +kernel
theorem dX3_goThrough_62 : decode cX3_goThrough 62 = .ok (.invokevirtual 74, 3) := by decide +kernel
theorem dX3_goThrough_65 : decode cX3_goThrough 65 = .ok (.return_, 1) := by decide +kernel
theorem dX3_goThrough_66 : decode cX3_goThrough 66 = .ok (.aload_n 1, 1) := by decide +kernel
theorem dX3_goThrough_67 : decode cX3_goThrough 67 = .ok (.getfield 78, 3) := by decide +kernel
theorem dX3_goThrough_70 : decode cX3_goThrough 70 = .ok (.iload 4, 2) := by decide +kernel
theorem dX3_goThrough_72 : decode cX3_goThrough 72 = .ok (.iaload, 1) := by decide +kernel
theorem dX3_goThrough_73 : decode cX3_goThrough 73 = .ok (.istore 5, 2) := by decide +kernel
theorem dX3_goThrough_75 : decode cX3_goThrough 75 = .ok (.iload 5, 2) := by decide +kernel
theorem dX3_goThrough_77 : decode cX3_goThrough 77 = .ok (.aload_n 1, 1) := by decide +kernel
theorem dX3_goThrough_78 : decode cX3_goThrough 78 = .ok (.getfield 59, 3) := by decide +kernel
theorem dX3_goThrough_81 : decode cX3_goThrough 81 = .ok (.iload 4, 2) := by decide +kernel
theorem dX3_goThrough_83 : decode cX3_goThrough 83 = .ok (.iaload, 1) := by decide +kernel
theorem dX3_goThrough_84 : decode cX3_goThrough 84 = .ok (.if_icmp .gt 29, 3) := by decide +kernel
theorem dX3_goThrough_87 : decode cX3_goThrough 87 = .ok (.aload_n 0, 1) := by decide +kernel
theorem dX3_goThrough_88 : decode cX3_goThrough 88 = .ok (.aload_n 1, 1) := by decide +kernel
theorem dX3_goThrough_89 : decode cX3_goThrough 89 = .ok (.iload 4, 2) := by decide +kernel
theorem dX3_goThrough_91 : decode cX3_goThrough 91 = .ok (.iload 5, 2) := by decide +kernel
theorem dX3_goThrough_93 : decode cX3_goThrough 93 = .ok (.invokevirtual 81, 3) := by decide +kernel
theorem dX3_goThrough_96 : decode cX3_goThrough 96 = .ok (.aload_n 0, 1) := by decide +kernel
theorem dX3_goThrough_97 : decode cX3_goThrough 97 = .ok (.aload_n 1, 1) := by decide +kernel
theorem dX3_goThrough_98 : decode cX3_goThrough 98 = .ok (.aload_n 2, 1) := by decide +kernel
theorem dX3_goThrough_99 : decode cX3_goThrough 99 = .ok (.iload_n 3, 1) := by decide +kernel
theorem dX3_goThrough_100 : decode cX3_goThrough 100 = .ok (.iload 4, 2) := by decide +kernel
theorem dX3_goThrough_102 : decode cX3_goThrough 102 = .ok (.iconst 1, 1) := by decide +kernel
theorem dX3_goThrough_103 : decode cX3_goThrough 103 = .ok (.iadd, 1) := by decide +kernel
theorem dX3_goThrough_104 : decode cX3_goThrough 104 = .ok (.invokestatic 50, 3) := by decide +kernel
theorem dX3_goThrough_107 : decode cX3_goThrough 107 = .ok (.iinc 5 1, 3) := by decide +kernel
theorem dX3_goThrough_110 : decode cX3_goThrough 110 = .ok (.goto (-35), 3) := by decide +kernel
theorem dX3_goThrough_113 : decode cX3_goThrough 113 = .ok (.return_, 1) := by decide +kernel
set_option maxRecDepth 20000 in
theorem ggX3_lead_X0_turnOf : GoodIn wsX3_lead wsX0_turnOf := goodIn_r _ [13, 14, 33, 34, 35, 36, 37, 38] (by decide +kernel) (by decide +kernel)
set_option maxRecDepth 20000 in
theorem gX3_lead_X0_turnOf_n85 : GoodIn wsX3_lead (wsX0_turnOf) := ggX3_lead_X0_turnOf
set_option maxRecDepth 20000 in
theorem ggX3_lead_X0_distanceOf : GoodIn wsX3_lead wsX0_distanceOf := goodIn_r _ [17, 14, 18, 33, 34, 35, 36, 37, 38] (by decide +kernel) (by decide +kernel)
set_option maxRecDepth 20000 in
theorem gX3_lead_X0_distanceOf_n62 : GoodIn wsX3_lead (wsX0_distanceOf) := ggX3_lead_X0_distanceOf
set_option maxRecDepth 20000 in
theorem ggX3_lead_X5_cosine : GoodIn wsX3_lead wsX5_cosine := goodIn_r _ [21, 22, 23, 20, 24, 25] (by decide +kernel) (by decide +kernel)
set_option maxRecDepth 20000 in
theorem gX3_lead_X5_cosine_n88 : GoodIn wsX3_lead (wsX5_cosine) := ggX3_lead_X5_cosine
set_option maxRecDepth 20000 in
theorem ggX3_lead_X5_sine : GoodIn wsX3_lead wsX5_sine := goodIn_r _ [24, 25] (by decide +kernel) (by decide +kernel)
set_option maxRecDepth 20000 in
theorem gX3_lead_X5_sine_n92 : GoodIn wsX3_lead (wsX5_sine) := ggX3_lead_X5_sine
theorem dX3_lead_0 : decode cX3_lead 0 = .ok (.aload_n 0, 1) := by decide +kernel
theorem dX3_lead_1 : decode cX3_lead 1 = .ok (.getfield 31, 3) := by decide +kernel
theorem dX3_lead_4 : decode cX3_lead 4 = .ok (.iload_n 2, 1) := by decide +kernel
theorem dX3_lead_5 : decode cX3_lead 5 = .ok (.iaload, 1) := by decide +kernel
theorem dX3_lead_6 : decode cX3_lead 6 = .ok (.aload_n 1, 1) := by decide +kernel
theorem dX3_lead_7 : decode cX3_lead 7 = .ok (.iload_n 2, 1) := by decide +kernel
theorem dX3_lead_8 : decode cX3_lead 8 = .ok (.iload_n 3, 1) := by decide +kernel
theorem dX3_lead_9 : decode cX3_lead 9 = .ok (.invokevirtual 85, 3) := by decide +kernel
theorem dX3_lead_12 : decode cX3_lead 12 = .ok (.iadd, 1) := by decide +kernel
theorem dX3_lead_13 : decode cX3_lead 13 = .ok (.bipush 63, 2) := by decide +kernel
theorem dX3_lead_15 : decode cX3_lead 15 = .ok (.iand, 1) := by decide +kernel
theorem dX3_lead_16 : decode cX3_lead 16 = .ok (.istore 4, 2) := by decide +kernel
theorem dX3_lead_18 : decode cX3_lead 18 = .ok (.aload_n 1, 1) := by decide +kernel
theorem dX3_lead_19 : decode cX3_lead 19 = .ok (.iload_n 2, 1) := by decide +kernel
theorem dX3_lead_20 : decode cX3_lead 20 = .ok (.iload_n 3, 1) := by decide +kernel
theorem dX3_lead_21 : decode cX3_lead 21 = .ok (.invokevirtual 62, 3) := by decide +kernel
theorem dX3_lead_24 : decode cX3_lead 24 = .ok (.istore 5, 2) := by decide +kernel
theorem dX3_lead_26 : decode cX3_lead 26 = .ok (.aload_n 0, 1) := by decide +kernel
theorem dX3_lead_27 : decode cX3_lead 27 = .ok (.getfield 18, 3) := by decide +kernel
theorem dX3_lead_30 : decode cX3_lead 30 = .ok (.iload_n 2, 1) := by decide +kernel
theorem dX3_lead_31 : decode cX3_lead 31 = .ok (.iload_n 3, 1) := by decide +kernel
theorem dX3_lead_32 : decode cX3_lead 32 = .ok (.iastore, 1) := by decide +kernel
theorem dX3_lead_33 : decode cX3_lead 33 = .ok (.aload_n 0, 1) := by decide +kernel
theorem dX3_lead_34 : decode cX3_lead 34 = .ok (.getfield 25, 3) := by decide +kernel
theorem dX3_lead_37 : decode cX3_lead 37 = .ok (.iload_n 2, 1) := by decide +kernel
theorem dX3_lead_38 : decode cX3_lead 38 = .ok (.iconst 1, 1) := by decide +kernel
theorem dX3_lead_39 : decode cX3_lead 39 = .ok (.iadd, 1) := by decide +kernel
theorem dX3_lead_40 : decode cX3_lead 40 = .ok (.aload_n 0, 1) := by decide +kernel
theorem dX3_lead_41 : decode cX3_lead 41 = .ok (.getfield 25, 3) := by decide +kernel
theorem dX3_lead_44 : decode cX3_lead 44 = .ok (.iload_n 2, 1) := by decide +kernel
theorem dX3_lead_45 : decode cX3_lead 45 = .ok (.iaload, 1) := by decide +kernel
theorem dX3_lead_46 : decode cX3_lead 46 = .ok (.iload 5, 2) := by decide +kernel
theorem dX3_lead_48 : decode cX3_lead 48 = .ok (.iload 4, 2) := by decide +kernel
theorem dX3_lead_50 : decode cX3_lead 50 = .ok (.invokestatic 88, 3) := by decide +kernel
theorem dX3_lead_53 : decode cX3_lead 53 = .ok (.imul, 1) := by decide +kernel
theorem dX3_lead_54 : decode cX3_lead 54 = .ok (.iadd, 1) := by decide +kernel
theorem dX3_lead_55 : decode cX3_lead 55 = .ok (.iastore, 1) := by decide +kernel
theorem dX3_lead_56 : decode cX3_lead 56 = .ok (.aload_n 0, 1) := by decide +kernel
theorem dX3_lead_57 : decode cX3_lead 57 = .ok (.getfield 28, 3) := by decide +kernel
theorem dX3_lead_60 : decode cX3_lead 60 = .ok (.iload_n 2, 1) := by decide +kernel
theorem dX3_lead_61 : decode cX3_lead 61 = .ok (.iconst 1, 1) := by decide +kernel
theorem dX3_lead_62 : decode cX3_lead 62 = .ok (.iadd, 1) := by decide +kernel
theorem dX3_lead_63 : decode cX3_lead 63 = .ok (.aload_n 0, 1) := by decide +kernel
theorem dX3_lead_64 : decode cX3_lead 64 = .ok (.getfield 28, 3) := by decide +kernel
theorem dX3_lead_67 : decode cX3_lead 67 = .ok (.iload_n 2, 1) := by decide +kernel
theorem dX3_lead_68 : decode cX3_lead 68 = .ok (.iaload, 1) := by decide +kernel
theorem dX3_lead_69 : decode cX3_lead 69 = .ok (.iload 5, 2) := by decide +kernel
theorem dX3_lead_71 : decode cX3_lead 71 = .ok (.iload 4, 2) := by decide +kernel
theorem dX3_lead_73 : decode cX3_lead 73 = .ok (.invokestatic 92, 3) := by decide +kernel
theorem dX3_lead_76 : decode cX3_lead 76 = .ok (.imul, 1) := by decide +kernel
theorem dX3_lead_77 : decode cX3_lead 77 = .ok (.iadd, 1) := by decide +kernel
theorem dX3_lead_78 : decode cX3_lead 78 = .ok (.iastore, 1) := by decide +kernel
theorem dX3_lead_79 : decode cX3_lead 79 = .ok (.aload_n 0, 1) := by decide +kernel
theorem dX3_lead_80 : decode cX3_lead 80 = .ok (.getfield 31, 3) := by decide +kernel
theorem dX3_lead_83 : decode cX3_lead 83 = .ok (.iload_n 2, 1) := by decide +kernel
theorem dX3_lead_84 : decode cX3_lead 84 = .ok (.iconst 1, 1) := by decide +kernel
theorem dX3_lead_85 : decode cX3_lead 85 = .ok (.iadd, 1) := by decide +kernel
theorem dX3_lead_86 : decode cX3_lead 86 = .ok (.iload 4, 2) := by decide +kernel
theorem dX3_lead_88 : decode cX3_lead 88 = .ok (.iastore, 1) := by decide +kernel
theorem dX3_lead_89 : decode cX3_lead 89 = .ok (.aload_n 0, 1) := by decide +kernel
theorem dX3_lead_90 : decode cX3_lead 90 = .ok (.getfield 34, 3) := by decide +kernel
theorem dX3_lead_93 : decode cX3_lead 93 = .ok (.iload_n 2, 1) := by decide +kernel
theorem dX3_lead_94 : decode cX3_lead 94 = .ok (.iconst 1, 1) := by decide +kernel
theorem dX3_lead_95 : decode cX3_lead 95 = .ok (.iadd, 1) := by decide +kernel
theorem dX3_lead_96 : decode cX3_lead 96 = .ok (.aload_n 0, 1) := by decide +kernel
theorem dX3_lead_97 : decode cX3_lead 97 = .ok (.getfield 34, 3) := by decide +kernel
theorem dX3_lead_100 : decode cX3_lead 100 = .ok (.iload_n 2, 1) := by decide +kernel
theorem dX3_lead_101 : decode cX3_lead 101 = .ok (.iaload, 1) := by decide +kernel
theorem dX3_lead_102 : decode cX3_lead 102 = .ok (.iload_n 3, 1) := by decide +kernel
theorem dX3_lead_103 : decode cX3_lead 103 = .ok (.aload_n 1, 1) := by decide +kernel
theorem dX3_lead_104 : decode cX3_lead 104 = .ok (.getfield 95, 3) := by decide +kernel
theorem dX3_lead_107 : decode cX3_lead 107 = .ok (.iload_n 2, 1) := by decide +kernel
theorem dX3_lead_108 : decode cX3_lead 108 = .ok (.iaload, 1) := by decide +kernel
theorem dX3_lead_109 : decode cX3_lead 109 = .ok (.isub, 1) := by decide +kernel
theorem dX3_lead_110 : decode cX3_lead 110 = .ok (.invokestatic 98, 3) := by decide +kernel
theorem dX3_lead_113 : decode cX3_lead 113 = .ok (.iadd, 1) := by decide +kernel
theorem dX3_lead_114 : decode cX3_lead 114 = .ok (.iastore, 1) := by decide +kernel
theorem dX3_lead_115 : decode cX3_lead 115 = .ok (.return_, 1) := by decide +kernel
set_option maxRecDepth 20000 in
theorem ggX3_keyOf_X1_farFrom : GoodIn wsX3_keyOf wsX1_farFrom := goodIn_r _ [12, 13, 14, 38, 39, 40] (by decide +kernel) (by decide +kernel)
set_option maxRecDepth 20000 in
theorem gX3_keyOf_X1_farFrom_n103 : GoodIn wsX3_keyOf (wsX1_farFrom) := ggX3_keyOf_X1_farFrom
set_option maxRecDepth 20000 in
theorem ggX3_keyOf_X0_headingAt : GoodIn wsX3_keyOf wsX0_headingAt := goodIn_r _ [18, 19, 20, 21, 22, 16, 23, 24, 25, 26, 27, 28, 29, 30] (by decide +kernel) (by decide +kernel)
set_option maxRecDepth 20000 in
theorem gX3_keyOf_X0_headingAt_n107 : GoodIn wsX3_keyOf (wsX0_headingAt) := ggX3_keyOf_X0_headingAt
theorem dX3_keyOf_0 : decode cX3_keyOf 0 = .ok (.aload_n 1, 1) := by decide +kernel
theorem dX3_keyOf_1 : decode cX3_keyOf 1 = .ok (.getfield 44, 3) := by decide +kernel
theorem dX3_keyOf_4 : decode cX3_keyOf 4 = .ok (.istore 4, 2) := by decide +kernel
theorem dX3_keyOf_6 : decode cX3_keyOf 6 = .ok (.iload_n 3, 1) := by decide +kernel
theorem dX3_keyOf_7 : decode cX3_keyOf 7 = .ok (.ifCond .ne 22, 3) := by decide +kernel
theorem dX3_keyOf_10 : decode cX3_keyOf 10 = .ok (.aload_n 2, 1) := by decide +kernel
theorem dX3_keyOf_11 : decode cX3_keyOf 11 = .ok (.aload_n 0, 1) := by decide +kernel
theorem dX3_keyOf_12 : decode cX3_keyOf 12 = .ok (.getfield 25, 3) := by decide +kernel
theorem dX3_keyOf_15 : decode cX3_keyOf 15 = .ok (.iload 4, 2) := by decide +kernel
theorem dX3_keyOf_17 : decode cX3_keyOf 17 = .ok (.iaload, 1) := by decide +kernel
theorem dX3_keyOf_18 : decode cX3_keyOf 18 = .ok (.aload_n 0, 1) := by decide +kernel
theorem dX3_keyOf_19 : decode cX3_keyOf 19 = .ok (.getfield 28, 3) := by decide +kernel
theorem dX3_keyOf_22 : decode cX3_keyOf 22 = .ok (.iload 4, 2) := by decide +kernel
theorem dX3_keyOf_24 : decode cX3_keyOf 24 = .ok (.iaload, 1) := by decide +kernel
theorem dX3_keyOf_25 : decode cX3_keyOf 25 = .ok (.invokevirtual 103, 3) := by decide +kernel
theorem dX3_keyOf_28 : decode cX3_keyOf 28 = .ok (.lreturn, 1) := by decide +kernel
theorem dX3_keyOf_29 : decode cX3_keyOf 29 = .ok (.iload_n 3, 1) := by decide +kernel
theorem dX3_keyOf_30 : decode cX3_keyOf 30 = .ok (.iconst 1, 1) := by decide +kernel
theorem dX3_keyOf_31 : decode cX3_keyOf 31 = .ok (.if_icmp .ne 12, 3) := by decide +kernel
theorem dX3_keyOf_34 : decode cX3_keyOf 34 = .ok (.aload_n 0, 1) := by decide +kernel
theorem dX3_keyOf_35 : decode cX3_keyOf 35 = .ok (.getfield 34, 3) := by decide +kernel
theorem dX3_keyOf_38 : decode cX3_keyOf 38 = .ok (.iload 4, 2) := by decide +kernel
theorem dX3_keyOf_40 : decode cX3_keyOf 40 = .ok (.iaload, 1) := by decide +kernel
theorem dX3_keyOf_41 : decode cX3_keyOf 41 = .ok (.i2l, 1) := by decide +kernel
theorem dX3_keyOf_42 : decode cX3_keyOf 42 = .ok (.lreturn, 1) := by decide +kernel
theorem dX3_keyOf_43 : decode cX3_keyOf 43 = .ok (.aload_n 0, 1) := by decide +kernel
theorem dX3_keyOf_44 : decode cX3_keyOf 44 = .ok (.getfield 31, 3) := by decide +kernel
theorem dX3_keyOf_47 : decode cX3_keyOf 47 = .ok (.iload 4, 2) := by decide +kernel
theorem dX3_keyOf_49 : decode cX3_keyOf 49 = .ok (.iaload, 1) := by decide +kernel
theorem dX3_keyOf_50 : decode cX3_keyOf 50 = .ok (.aload_n 1, 1) := by decide +kernel
theorem dX3_keyOf_51 : decode cX3_keyOf 51 = .ok (.iload 4, 2) := by decide +kernel
theorem dX3_keyOf_53 : decode cX3_keyOf 53 = .ok (.iconst 1, 1) := by decide +kernel
theorem dX3_keyOf_54 : decode cX3_keyOf 54 = .ok (.isub, 1) := by decide +kernel
theorem dX3_keyOf_55 : decode cX3_keyOf 55 = .ok (.invokevirtual 107, 3) := by decide +kernel
theorem dX3_keyOf_58 : decode cX3_keyOf 58 = .ok (.isub, 1) := by decide +kernel
theorem dX3_keyOf_59 : decode cX3_keyOf 59 = .ok (.bipush 63, 2) := by decide +kernel
theorem dX3_keyOf_61 : decode cX3_keyOf 61 = .ok (.iand, 1) := by decide +kernel
theorem dX3_keyOf_62 : decode cX3_keyOf 62 = .ok (.istore 5, 2) := by decide +kernel
theorem dX3_keyOf_64 : decode cX3_keyOf 64 = .ok (.iload 5, 2) := by decide +kernel
theorem dX3_keyOf_66 : decode cX3_keyOf 66 = .ok (.bipush 64, 2) := by decide +kernel
theorem dX3_keyOf_68 : decode cX3_keyOf 68 = .ok (.iload 5, 2) := by decide +kernel
theorem dX3_keyOf_70 : decode cX3_keyOf 70 = .ok (.isub, 1) := by decide +kernel
theorem dX3_keyOf_71 : decode cX3_keyOf 71 = .ok (.invokestatic 110, 3) := by decide +kernel
theorem dX3_keyOf_74 : decode cX3_keyOf 74 = .ok (.i2l, 1) := by decide +kernel
theorem dX3_keyOf_75 : decode cX3_keyOf 75 = .ok (.lreturn, 1) := by decide +kernel
theorem dX4_init_0 : decode cX4_init 0 = .ok (.aload_n 0, 1) := by decide +kernel
theorem dX4_init_1 : decode cX4_init 1 = .ok (.invokespecial 3, 3) := by decide +kernel
theorem dX4_init_4 : decode cX4_init 4 = .ok (.return_, 1) := by decide +kernel
theorem dX4_start_0 : decode cX4_start 0 = .ok (.aload_n 0, 1) := by decide +kernel
theorem dX4_start_1 : decode cX4_start 1 = .ok (.iconst 0, 1) := by decide +kernel
theorem dX4_start_2 : decode cX4_start 2 = .ok (.putfield 9, 3) := by decide +kernel
theorem dX4_start_5 : decode cX4_start 5 = .ok (.aload_n 0, 1) := by decide +kernel
theorem dX4_start_6 : decode cX4_start 6 = .ok (.iconst 0, 1) := by decide +kernel
theorem dX4_start_7 : decode cX4_start 7 = .ok (.putfield 15, 3) := by decide +kernel
theorem dX4_start_10 : decode cX4_start 10 = .ok (.aload_n 0, 1) := by decide +kernel
theorem dX4_start_11 : decode cX4_start 11 = .ok (.iconst 0, 1) := by decide +kernel
theorem dX4_start_12 : decode cX4_start 12 = .ok (.putfield 18, 3) := by decide +kernel
theorem dX4_start_15 : decode cX4_start 15 = .ok (.return_, 1) := by decide +kernel
set_option maxRecDepth 20000 in
theorem ggX4_go_X5_cosine : GoodIn wsX4_go wsX5_cosine := goodIn_r _ [5, 6, 7, 4, 8, 9] (by decide +kernel) (by decide +kernel)
set_option maxRecDepth 20000 in
theorem gX4_go_X5_cosine_n21 : GoodIn wsX4_go (wsX5_cosine) := ggX4_go_X5_cosine
set_option maxRecDepth 20000 in
theorem ggX4_go_X5_sine : GoodIn wsX4_go wsX5_sine := goodIn_r _ [8, 9] (by decide +kernel) (by decide +kernel)
set_option maxRecDepth 20000 in
theorem gX4_go_X5_sine_n25 : GoodIn wsX4_go (wsX5_sine) := ggX4_go_X5_sine
theorem dX4_go_0 : decode cX4_go 0 = .ok (.aload_n 0, 1) := by decide +kernel
theorem dX4_go_1 : decode cX4_go 1 = .ok (.dup, 1) := by decide +kernel
theorem dX4_go_2 : decode cX4_go 2 = .ok (.getfield 9, 3) := by decide +kernel
theorem dX4_go_5 : decode cX4_go 5 = .ok (.iload_n 1, 1) := by decide +kernel
theorem dX4_go_6 : decode cX4_go 6 = .ok (.iload_n 2, 1) := by decide +kernel
theorem dX4_go_7 : decode cX4_go 7 = .ok (.invokestatic 21, 3) := by decide +kernel
theorem dX4_go_10 : decode cX4_go 10 = .ok (.imul, 1) := by decide +kernel
theorem dX4_go_11 : decode cX4_go 11 = .ok (.iadd, 1) := by decide +kernel
theorem dX4_go_12 : decode cX4_go 12 = .ok (.putfield 9, 3) := by decide +kernel
theorem dX4_go_15 : decode cX4_go 15 = .ok (.aload_n 0, 1) := by decide +kernel
theorem dX4_go_16 : decode cX4_go 16 = .ok (.dup, 1) := by decide +kernel
theorem dX4_go_17 : decode cX4_go 17 = .ok (.getfield 15, 3) := by decide +kernel
theorem dX4_go_20 : decode cX4_go 20 = .ok (.iload_n 1, 1) := by decide +kernel
theorem dX4_go_21 : decode cX4_go 21 = .ok (.iload_n 2, 1) := by decide +kernel
theorem dX4_go_22 : decode cX4_go 22 = .ok (.invokestatic 25, 3) := by decide +kernel
theorem dX4_go_25 : decode cX4_go 25 = .ok (.imul, 1) := by decide +kernel
theorem dX4_go_26 : decode cX4_go 26 = .ok (.iadd, 1) := by decide +kernel
theorem dX4_go_27 : decode cX4_go 27 = .ok (.putfield 15, 3) := by decide +kernel
theorem dX4_go_30 : decode cX4_go 30 = .ok (.return_, 1) := by decide +kernel
set_option maxRecDepth 20000 in
theorem ggX4_follow_X4_followWith : GoodIn wsX4_follow wsX4_followWith := goodIn_r _ [5, 6, 7, 8, 9, 4, 10, 11, 12, 13, 14, 15, 16, 17, 18, 19, 20, 21, 22, 23, 24, 25, 26, 27, 28, 29, 30, 31, 32, 33, 34, 35, 36, 37, 38, 39, 40, 41] (by decide +kernel) (by decide +kernel)
set_option maxRecDepth 20000 in
theorem gX4_follow_X4_followWith : GoodIn wsX4_follow (wsV RX4 28 RX4 yX4_followWith wsX4_followWith) := goodIn_app (goodIn_of _ (by decide +kernel)) ggX4_follow_X4_followWith
theorem dX4_follow_0 : decode cX4_follow 0 = .ok (.aload_n 0, 1) := by decide +kernel
theorem dX4_follow_1 : decode cX4_follow 1 = .ok (.aload_n 1, 1) := by decide +kernel
theorem dX4_follow_2 : decode cX4_follow 2 = .ok (.iconst (-1), 1) := by decide +kernel
theorem dX4_follow_3 : decode cX4_follow 3 = .ok (.iconst 0, 1) := by decide +kernel
theorem dX4_follow_4 : decode cX4_follow 4 = .ok (.invokevirtual 28, 3) := by decide +kernel
theorem dX4_follow_7 : decode cX4_follow 7 = .ok (.return_, 1) := by decide +kernel
