theorem dL_tips_69 : decode cL_tips 69 = .ok (.aload_n 3, 1) := by decide +kernel
theorem dL_tips_70 : decode cL_tips 70 = .ok (.invokestatic 68, 3) := by decide +kernel
theorem dL_tips_73 : decode cL_tips 73 = .ok (.iload_n 0, 1) := by decide +kernel
theorem dL_tips_74 : decode cL_tips 74 = .ok (.ifCond .eq 8, 3) := by decide +kernel
theorem dL_tips_77 : decode cL_tips 77 = .ok (.bipush 16, 2) := by decide +kernel
theorem dL_tips_79 : decode cL_tips 79 = .ok (.goto 4, 3) := by decide +kernel
theorem dL_tips_82 : decode cL_tips 82 = .ok (.iconst 0, 1) := by decide +kernel
theorem dL_tips_83 : decode cL_tips 83 = .ok (.iadd, 1) := by decide +kernel
theorem dL_tips_84 : decode cL_tips 84 = .ok (.aload 5, 2) := by decide +kernel
theorem dL_tips_86 : decode cL_tips 86 = .ok (.invokestatic 72, 3) := by decide +kernel
theorem dL_tips_89 : decode cL_tips 89 = .ok (.imul, 1) := by decide +kernel
theorem dL_tips_90 : decode cL_tips 90 = .ok (.iadd, 1) := by decide +kernel
theorem dL_tips_91 : decode cL_tips 91 = .ok (.istore 6, 2) := by decide +kernel
theorem dL_tips_93 : decode cL_tips 93 = .ok (.iinc 7 (-1), 3) := by decide +kernel
theorem dL_tips_96 : decode cL_tips 96 = .ok (.goto (-85), 3) := by decide +kernel
theorem dL_tips_99 : decode cL_tips 99 = .ok (.iload 6, 2) := by decide +kernel
theorem dL_tips_101 : decode cL_tips 101 = .ok (.ireturn, 1) := by decide +kernel
set_option maxRecDepth 20000 in
theorem ggL_far_L_tips : GoodIn wsL_far wsL_tips := goodIn_r _ [4, 5, 6, 3, 7, 8, 9, 10] (by decide +kernel) (by decide +kernel)
set_option maxRecDepth 20000 in
theorem gL_far_L_tips : GoodIn wsL_far (va_wsS RL 76 yL_tips wsL_tips) := goodIn_app (goodIn_of _ (by decide +kernel)) ggL_far_L_tips
theorem dL_far_0 : decode cL_far 0 = .ok (.iconst 1, 1) := by decide +kernel
theorem dL_far_1 : decode cL_far 1 = .ok (.iload_n 0, 1) := by decide +kernel
theorem dL_far_2 : decode cL_far 2 = .ok (.iload_n 1, 1) := by decide +kernel
theorem dL_far_3 : decode cL_far 3 = .ok (.aload_n 2, 1) := by decide +kernel
theorem dL_far_4 : decode cL_far 4 = .ok (.aload_n 3, 1) := by decide +kernel
theorem dL_far_5 : decode cL_far 5 = .ok (.aload 4, 2) := by decide +kernel
theorem dL_far_7 : decode cL_far 7 = .ok (.invokestatic 76, 3) := by decide +kernel
theorem dL_far_10 : decode cL_far 10 = .ok (.aload_n 3, 1) := by decide +kernel
theorem dL_far_11 : decode cL_far 11 = .ok (.iconst 1, 1) := by decide +kernel
theorem dL_far_12 : decode cL_far 12 = .ok (.iaload, 1) := by decide +kernel
theorem dL_far_13 : decode cL_far 13 = .ok (.isub, 1) := by decide +kernel
theorem dL_far_14 : decode cL_far 14 = .ok (.i2l, 1) := by decide +kernel
theorem dL_far_15 : decode cL_far 15 = .ok (.lstore 5, 2) := by decide +kernel
theorem dL_far_17 : decode cL_far 17 = .ok (.iconst 0, 1) := by decide +kernel
theorem dL_far_18 : decode cL_far 18 = .ok (.iload_n 0, 1) := by decide +kernel
theorem dL_far_19 : decode cL_far 19 = .ok (.iload_n 1, 1) := by decide +kernel
theorem dL_far_20 : decode cL_far 20 = .ok (.aload_n 2, 1) := by decide +kernel
theorem dL_far_21 : decode cL_far 21 = .ok (.aload_n 3, 1) := by decide +kernel
theorem dL_far_22 : decode cL_far 22 = .ok (.aload 4, 2) := by decide +kernel
theorem dL_far_24 : decode cL_far 24 = .ok (.invokestatic 76, 3) := by decide +kernel
theorem dL_far_27 : decode cL_far 27 = .ok (.aload_n 3, 1) := by decide +kernel
theorem dL_far_28 : decode cL_far 28 = .ok (.iconst 2, 1) := by decide +kernel
theorem dL_far_29 : decode cL_far 29 = .ok (.iaload, 1) := by decide +kernel
theorem dL_far_30 : decode cL_far 30 = .ok (.isub, 1) := by decide +kernel
theorem dL_far_31 : decode cL_far 31 = .ok (.i2l, 1) := by decide +kernel
theorem dL_far_32 : decode cL_far 32 = .ok (.lstore 7, 2) := by decide +kernel
theorem dL_far_34 : decode cL_far 34 = .ok (.lload 5, 2) := by decide +kernel
theorem dL_far_36 : decode cL_far 36 = .ok (.lload 5, 2) := by decide +kernel
theorem dL_far_38 : decode cL_far 38 = .ok (.lmul, 1) := by decide +kernel
theorem dL_far_39 : decode cL_far 39 = .ok (.lload 7, 2) := by decide +kernel
theorem dL_far_41 : decode cL_far 41 = .ok (.lload 7, 2) := by decide +kernel
theorem dL_far_43 : decode cL_far 43 = .ok (.lmul, 1) := by decide +kernel
theorem dL_far_44 : decode cL_far 44 = .ok (.ladd, 1) := by decide +kernel
theorem dL_far_45 : decode cL_far 45 = .ok (.lreturn, 1) := by decide +kernel
theorem dL_poses_0 : decode cL_poses 0 = .ok (.lconst 1, 1) := by decide +kernel
theorem dL_poses_1 : decode cL_poses 1 = .ok (.lstore_n 2, 1) := by decide +kernel
theorem dL_poses_2 : decode cL_poses 2 = .ok (.iconst 0, 1) := by decide +kernel
theorem dL_poses_3 : decode cL_poses 3 = .ok (.istore 4, 2) := by decide +kernel
theorem dL_poses_5 : decode cL_poses 5 = .ok (.iload 4, 2) := by decide +kernel
theorem dL_poses_7 : decode cL_poses 7 = .ok (.aload_n 1, 1) := by decide +kernel
theorem dL_poses_8 : decode cL_poses 8 = .ok (.iconst 0, 1) := by decide +kernel
theorem dL_poses_9 : decode cL_poses 9 = .ok (.iaload, 1) := by decide +kernel
theorem dL_poses_10 : decode cL_poses 10 = .ok (.if_icmp .ge 32, 3) := by decide +kernel
theorem dL_poses_13 : decode cL_poses 13 = .ok (.lload_n 2, 1) := by decide +kernel
theorem dL_poses_14 : decode cL_poses 14 = .ok (.aload_n 0, 1) := by decide +kernel
theorem dL_poses_15 : decode cL_poses 15 = .ok (.iconst 5, 1) := by decide +kernel
theorem dL_poses_16 : decode cL_poses 16 = .ok (.iload 4, 2) := by decide +kernel
theorem dL_poses_18 : decode cL_poses 18 = .ok (.imul, 1) := by decide +kernel
theorem dL_poses_19 : decode cL_poses 19 = .ok (.iconst 3, 1) := by decide +kernel
theorem dL_poses_20 : decode cL_poses 20 = .ok (.iadd, 1) := by decide +kernel
theorem dL_poses_21 : decode cL_poses 21 = .ok (.iaload, 1) := by decide +kernel
theorem dL_poses_22 : decode cL_poses 22 = .ok (.aload_n 0, 1) := by decide +kernel
theorem dL_poses_23 : decode cL_poses 23 = .ok (.iconst 5, 1) := by decide +kernel
theorem dL_poses_24 : decode cL_poses 24 = .ok (.iload 4, 2) := by decide +kernel
theorem dL_poses_26 : decode cL_poses 26 = .ok (.imul, 1) := by decide +kernel
theorem dL_poses_27 : decode cL_poses 27 = .ok (.iconst 2, 1) := by decide +kernel
theorem dL_poses_28 : decode cL_poses 28 = .ok (.iadd, 1) := by decide +kernel
theorem dL_poses_29 : decode cL_poses 29 = .ok (.iaload, 1) := by decide +kernel
theorem dL_poses_30 : decode cL_poses 30 = .ok (.isub, 1) := by decide +kernel
theorem dL_poses_31 : decode cL_poses 31 = .ok (.iconst 1, 1) := by decide +kernel
theorem dL_poses_32 : decode cL_poses 32 = .ok (.iadd, 1) := by decide +kernel
theorem dL_poses_33 : decode cL_poses 33 = .ok (.i2l, 1) := by decide +kernel
theorem dL_poses_34 : decode cL_poses 34 = .ok (.lmul, 1) := by decide +kernel
theorem dL_poses_35 : decode cL_poses 35 = .ok (.lstore_n 2, 1) := by decide +kernel
theorem dL_poses_36 : decode cL_poses 36 = .ok (.iinc 4 1, 3) := by decide +kernel
theorem dL_poses_39 : decode cL_poses 39 = .ok (.goto (-34), 3) := by decide +kernel
theorem dL_poses_42 : decode cL_poses 42 = .ok (.lload_n 2, 1) := by decide +kernel
theorem dL_poses_43 : decode cL_poses 43 = .ok (.ldc2_w 80, 3) := by decide +kernel
theorem dL_poses_46 : decode cL_poses 46 = .ok (.lcmp, 1) := by decide +kernel
theorem dL_poses_47 : decode cL_poses 47 = .ok (.ifCond .le 8, 3) := by decide +kernel
theorem dL_poses_50 : decode cL_poses 50 = .ok (.ldc 82, 2) := by decide +kernel
theorem dL_poses_52 : decode cL_poses 52 = .ok (.goto 5, 3) := by decide +kernel
theorem dL_poses_55 : decode cL_poses 55 = .ok (.lload_n 2, 1) := by decide +kernel
theorem dL_poses_56 : decode cL_poses 56 = .ok (.l2i, 1) := by decide +kernel
theorem dL_poses_57 : decode cL_poses 57 = .ok (.ireturn, 1) := by decide +kernel
theorem dL_lays_0 : decode cL_lays 0 = .ok (.iload_n 0, 1) := by decide +kernel
theorem dL_lays_1 : decode cL_lays 1 = .ok (.istore_n 3, 1) := by decide +kernel
theorem dL_lays_2 : decode cL_lays 2 = .ok (.aload_n 2, 1) := by decide +kernel
theorem dL_lays_3 : decode cL_lays 3 = .ok (.iconst 0, 1) := by decide +kernel
theorem dL_lays_4 : decode cL_lays 4 = .ok (.iaload, 1) := by decide +kernel
theorem dL_lays_5 : decode cL_lays 5 = .ok (.iconst 1, 1) := by decide +kernel
theorem dL_lays_6 : decode cL_lays 6 = .ok (.isub, 1) := by decide +kernel
theorem dL_lays_7 : decode cL_lays 7 = .ok (.istore 4, 2) := by decide +kernel
theorem dL_lays_9 : decode cL_lays 9 = .ok (.iload 4, 2) := by decide +kernel
theorem dL_lays_11 : decode cL_lays 11 = .ok (.ifCond .lt 56, 3) := by decide +kernel
theorem dL_lays_14 : decode cL_lays 14 = .ok (.aload_n 1, 1) := by decide +kernel
theorem dL_lays_15 : decode cL_lays 15 = .ok (.iconst 5, 1) := by decide +kernel
theorem dL_lays_16 : decode cL_lays 16 = .ok (.iload 4, 2) := by decide +kernel
theorem dL_lays_18 : decode cL_lays 18 = .ok (.imul, 1) := by decide +kernel
theorem dL_lays_19 : decode cL_lays 19 = .ok (.iconst 3, 1) := by decide +kernel
theorem dL_lays_20 : decode cL_lays 20 = .ok (.iadd, 1) := by decide +kernel
theorem dL_lays_21 : decode cL_lays 21 = .ok (.iaload, 1) := by decide +kernel
theorem dL_lays_22 : decode cL_lays 22 = .ok (.aload_n 1, 1) := by decide +kernel
theorem dL_lays_23 : decode cL_lays 23 = .ok (.iconst 5, 1) := by decide +kernel
theorem dL_lays_24 : decode cL_lays 24 = .ok (.iload 4, 2) := by decide +kernel
theorem dL_lays_26 : decode cL_lays 26 = .ok (.imul, 1) := by decide +kernel
theorem dL_lays_27 : decode cL_lays 27 = .ok (.iconst 2, 1) := by decide +kernel
theorem dL_lays_28 : decode cL_lays 28 = .ok (.iadd, 1) := by decide +kernel
theorem dL_lays_29 : decode cL_lays 29 = .ok (.iaload, 1) := by decide +kernel
theorem dL_lays_30 : decode cL_lays 30 = .ok (.isub, 1) := by decide +kernel
theorem dL_lays_31 : decode cL_lays 31 = .ok (.iconst 1, 1) := by decide +kernel
theorem dL_lays_32 : decode cL_lays 32 = .ok (.iadd, 1) := by decide +kernel
theorem dL_lays_33 : decode cL_lays 33 = .ok (.istore 5, 2) := by decide +kernel
theorem dL_lays_35 : decode cL_lays 35 = .ok (.aload_n 1, 1) := by decide +kernel
theorem dL_lays_36 : decode cL_lays 36 = .ok (.iconst 5, 1) := by decide +kernel
theorem dL_lays_37 : decode cL_lays 37 = .ok (.iload 4, 2) := by decide +kernel
theorem dL_lays_39 : decode cL_lays 39 = .ok (.imul, 1) := by decide +kernel
theorem dL_lays_40 : decode cL_lays 40 = .ok (.iconst 4, 1) := by decide +kernel
theorem dL_lays_41 : decode cL_lays 41 = .ok (.iadd, 1) := by decide +kernel
theorem dL_lays_42 : decode cL_lays 42 = .ok (.aload_n 1, 1) := by decide +kernel
theorem dL_lays_43 : decode cL_lays 43 = .ok (.iconst 5, 1) := by decide +kernel
theorem dL_lays_44 : decode cL_lays 44 = .ok (.iload 4, 2) := by decide +kernel
theorem dL_lays_46 : decode cL_lays 46 = .ok (.imul, 1) := by decide +kernel
theorem dL_lays_47 : decode cL_lays 47 = .ok (.iconst 2, 1) := by decide +kernel
theorem dL_lays_48 : decode cL_lays 48 = .ok (.iadd, 1) := by decide +kernel
theorem dL_lays_49 : decode cL_lays 49 = .ok (.iaload, 1) := by decide +kernel
theorem dL_lays_50 : decode cL_lays 50 = .ok (.iload_n 3, 1) := by decide +kernel
theorem dL_lays_51 : decode cL_lays 51 = .ok (.iload 5, 2) := by decide +kernel
theorem dL_lays_53 : decode cL_lays 53 = .ok (.irem, 1) := by decide +kernel
theorem dL_lays_54 : decode cL_lays 54 = .ok (.iadd, 1) := by decide +kernel
theorem dL_lays_55 : decode cL_lays 55 = .ok (.iastore, 1) := by decide +kernel
theorem dL_lays_56 : decode cL_lays 56 = .ok (.iload_n 3, 1) := by decide +kernel
theorem dL_lays_57 : decode cL_lays 57 = .ok (.iload 5, 2) := by decide +kernel
theorem dL_lays_59 : decode cL_lays 59 = .ok (.idiv, 1) := by decide +kernel
theorem dL_lays_60 : decode cL_lays 60 = .ok (.istore_n 3, 1) := by decide +kernel
theorem dL_lays_61 : decode cL_lays 61 = .ok (.iinc 4 (-1), 3) := by decide +kernel
theorem dL_lays_64 : decode cL_lays 64 = .ok (.goto (-55), 3) := by decide +kernel
theorem dL_lays_67 : decode cL_lays 67 = .ok (.return_, 1) := by decide +kernel
set_option maxRecDepth 20000 in
theorem ggL_key_L_tips : GoodIn wsL_key wsL_tips := goodIn_r _ [5, 6, 7, 4, 8, 9, 10, 11] (by decide +kernel) (by decide +kernel)
set_option maxRecDepth 20000 in
theorem gL_key_L_tips : GoodIn wsL_key (va_wsS RL 76 yL_tips wsL_tips) := goodIn_app (goodIn_of _ (by decide +kernel)) ggL_key_L_tips
set_option maxRecDepth 20000 in
theorem ggL_key_L_heading : GoodIn wsL_key wsL_heading := goodIn_r _ [8] (by decide +kernel) (by decide +kernel)
set_option maxRecDepth 20000 in
theorem gL_key_L_heading : GoodIn wsL_key (va_wsS RL 68 yL_heading wsL_heading) := goodIn_app (goodIn_of _ (by decide +kernel)) ggL_key_L_heading
theorem dL_key_0 : decode cL_key 0 = .ok (.iconst 1, 1) := by decide +kernel
theorem dL_key_1 : decode cL_key 1 = .ok (.iconst (-1), 1) := by decide +kernel
theorem dL_key_2 : decode cL_key 2 = .ok (.iconst 0, 1) := by decide +kernel
theorem dL_key_3 : decode cL_key 3 = .ok (.aload_n 1, 1) := by decide +kernel
theorem dL_key_4 : decode cL_key 4 = .ok (.aload_n 3, 1) := by decide +kernel
theorem dL_key_5 : decode cL_key 5 = .ok (.aload 4, 2) := by decide +kernel
theorem dL_key_7 : decode cL_key 7 = .ok (.invokestatic 76, 3) := by decide +kernel
theorem dL_key_10 : decode cL_key 10 = .ok (.aload_n 3, 1) := by decide +kernel
theorem dL_key_11 : decode cL_key 11 = .ok (.iconst 1, 1) := by decide +kernel
theorem dL_key_12 : decode cL_key 12 = .ok (.iaload, 1) := by decide +kernel
theorem dL_key_13 : decode cL_key 13 = .ok (.isub, 1) := by decide +kernel
theorem dL_key_14 : decode cL_key 14 = .ok (.istore 5, 2) := by decide +kernel
theorem dL_key_16 : decode cL_key 16 = .ok (.iconst 0, 1) := by decide +kernel
theorem dL_key_17 : decode cL_key 17 = .ok (.iconst (-1), 1) := by decide +kernel
theorem dL_key_18 : decode cL_key 18 = .ok (.iconst 0, 1) := by decide +kernel
theorem dL_key_19 : decode cL_key 19 = .ok (.aload_n 1, 1) := by decide +kernel
theorem dL_key_20 : decode cL_key 20 = .ok (.aload_n 3, 1) := by decide +kernel
theorem dL_key_21 : decode cL_key 21 = .ok (.aload 4, 2) := by decide +kernel
theorem dL_key_23 : decode cL_key 23 = .ok (.invokestatic 76, 3) := by decide +kernel
theorem dL_key_26 : decode cL_key 26 = .ok (.aload_n 3, 1) := by decide +kernel
theorem dL_key_27 : decode cL_key 27 = .ok (.iconst 2, 1) := by decide +kernel
theorem dL_key_28 : decode cL_key 28 = .ok (.iaload, 1) := by decide +kernel
theorem dL_key_29 : decode cL_key 29 = .ok (.isub, 1) := by decide +kernel
theorem dL_key_30 : decode cL_key 30 = .ok (.istore 6, 2) := by decide +kernel
theorem dL_key_32 : decode cL_key 32 = .ok (.iload 5, 2) := by decide +kernel
theorem dL_key_34 : decode cL_key 34 = .ok (.aload_n 3, 1) := by decide +kernel
theorem dL_key_35 : decode cL_key 35 = .ok (.iconst 3, 1) := by decide +kernel
theorem dL_key_36 : decode cL_key 36 = .ok (.iaload, 1) := by decide +kernel
theorem dL_key_37 : decode cL_key 37 = .ok (.if_icmp .gt 29, 3) := by decide +kernel
theorem dL_key_40 : decode cL_key 40 = .ok (.iload 5, 2) := by decide +kernel
theorem dL_key_42 : decode cL_key 42 = .ok (.aload_n 3, 1) := by decide +kernel
theorem dL_key_43 : decode cL_key 43 = .ok (.iconst 3, 1) := by decide +kernel
theorem dL_key_44 : decode cL_key 44 = .ok (.iaload, 1) := by decide +kernel
theorem dL_key_45 : decode cL_key 45 = .ok (.ineg, 1) := by decide +kernel
theorem dL_key_46 : decode cL_key 46 = .ok (.if_icmp .lt 20, 3) := by decide +kernel
theorem dL_key_49 : decode cL_key 49 = .ok (.iload 6, 2) := by decide +kernel
theorem dL_key_51 : decode cL_key 51 = .ok (.aload_n 3, 1) := by decide +kernel
theorem dL_key_52 : decode cL_key 52 = .ok (.iconst 3, 1) := by decide +kernel
theorem dL_key_53 : decode cL_key 53 = .ok (.iaload, 1) := by decide +kernel
theorem dL_key_54 : decode cL_key 54 = .ok (.if_icmp .gt 12, 3) := by decide +kernel
theorem dL_key_57 : decode cL_key 57 = .ok (.iload 6, 2) := by decide +kernel
theorem dL_key_59 : decode cL_key 59 = .ok (.aload_n 3, 1) := by decide +kernel
theorem dL_key_60 : decode cL_key 60 = .ok (.iconst 3, 1) := by decide +kernel
theorem dL_key_61 : decode cL_key 61 = .ok (.iaload, 1) := by decide +kernel
theorem dL_key_62 : decode cL_key 62 = .ok (.ineg, 1) := by decide +kernel
theorem dL_key_63 : decode cL_key 63 = .ok (.if_icmp .ge 7, 3) := by decide +kernel
theorem dL_key_66 : decode cL_key 66 = .ok (.ldc2_w 83, 3) := by decide +kernel
theorem dL_key_69 : decode cL_key 69 = .ok (.lreturn, 1) := by decide +kernel
theorem dL_key_70 : decode cL_key 70 = .ok (.iload_n 0, 1) := by decide +kernel
theorem dL_key_71 : decode cL_key 71 = .ok (.ifCond .ne 19, 3) := by decide +kernel
theorem dL_key_74 : decode cL_key 74 = .ok (.iload 5, 2) := by decide +kernel
theorem dL_key_76 : decode cL_key 76 = .ok (.i2l, 1) := by decide +kernel
theorem dL_key_77 : decode cL_key 77 = .ok (.iload 5, 2) := by decide +kernel
theorem dL_key_79 : decode cL_key 79 = .ok (.i2l, 1) := by decide +kernel
theorem dL_key_80 : decode cL_key 80 = .ok (.lmul, 1) := by decide +kernel
theorem dL_key_81 : decode cL_key 81 = .ok (.iload 6, 2) := by decide +kernel
theorem dL_key_83 : decode cL_key 83 = .ok (.i2l, 1) := by decide +kernel
theorem dL_key_84 : decode cL_key 84 = .ok (.iload 6, 2) := by decide +kernel
theorem dL_key_86 : decode cL_key 86 = .ok (.i2l, 1) := by decide +kernel
theorem dL_key_87 : decode cL_key 87 = .ok (.lmul, 1) := by decide +kernel
theorem dL_key_88 : decode cL_key 88 = .ok (.ladd, 1) := by decide +kernel
theorem dL_key_89 : decode cL_key 89 = .ok (.lreturn, 1) := by decide +kernel
theorem dL_key_90 : decode cL_key 90 = .ok (.iload_n 0, 1) := by decide +kernel
theorem dL_key_91 : decode cL_key 91 = .ok (.iconst 2, 1) := by decide +kernel
theorem dL_key_92 : decode cL_key 92 = .ok (.if_icmp .ne 51, 3) := by decide +kernel
theorem dL_key_95 : decode cL_key 95 = .ok (.aload_n 3, 1) := by decide +kernel
theorem dL_key_96 : decode cL_key 96 = .ok (.iconst 0, 1) := by decide +kernel
theorem dL_key_97 : decode cL_key 97 = .ok (.iaload, 1) := by decide +kernel
theorem dL_key_98 : decode cL_key 98 = .ok (.iconst 1, 1) := by decide +kernel
theorem dL_key_99 : decode cL_key 99 = .ok (.isub, 1) := by decide +kernel
theorem dL_key_100 : decode cL_key 100 = .ok (.iconst (-1), 1) := by decide +kernel
theorem dL_key_101 : decode cL_key 101 = .ok (.iconst 0, 1) := by decide +kernel
theorem dL_key_102 : decode cL_key 102 = .ok (.aload_n 1, 1) := by decide +kernel
theorem dL_key_103 : decode cL_key 103 = .ok (.invokestatic 68, 3) := by decide +kernel
theorem dL_key_106 : decode cL_key 106 = .ok (.aload_n 3, 1) := by decide +kernel
theorem dL_key_107 : decode cL_key 107 = .ok (.iconst 0, 1) := by decide +kernel
theorem dL_key_108 : decode cL_key 108 = .ok (.iaload, 1) := by decide +kernel
theorem dL_key_109 : decode cL_key 109 = .ok (.iconst 1, 1) := by decide +kernel
theorem dL_key_110 : decode cL_key 110 = .ok (.isub, 1) := by decide +kernel
theorem dL_key_111 : decode cL_key 111 = .ok (.iconst (-1), 1) := by decide +kernel
theorem dL_key_112 : decode cL_key 112 = .ok (.iconst 0, 1) := by decide +kernel
theorem dL_key_113 : decode cL_key 113 = .ok (.aload_n 2, 1) := by decide +kernel
theorem dL_key_114 : decode cL_key 114 = .ok (.invokestatic 68, 3) := by decide +kernel
theorem dL_key_117 : decode cL_key 117 = .ok (.isub, 1) := by decide +kernel
theorem dL_key_118 : decode cL_key 118 = .ok (.bipush 63, 2) := by decide +kernel
theorem dL_key_120 : decode cL_key 120 = .ok (.iand, 1) := by decide +kernel
theorem dL_key_121 : decode cL_key 121 = .ok (.istore 7, 2) := by decide +kernel
theorem dL_key_123 : decode cL_key 123 = .ok (.iload 7, 2) := by decide +kernel
theorem dL_key_125 : decode cL_key 125 = .ok (.bipush 32, 2) := by decide +kernel
theorem dL_key_127 : decode cL_key 127 = .ok (.if_icmp .le 12, 3) := by decide +kernel
theorem dL_key_130 : decode cL_key 130 = .ok (.bipush 64, 2) := by decide +kernel
theorem dL_key_132 : decode cL_key 132 = .ok (.iload 7, 2) := by decide +kernel
theorem dL_key_134 : decode cL_key 134 = .ok (.isub, 1) := by decide +kernel
theorem dL_key_135 : decode cL_key 135 = .ok (.i2l, 1) := by decide +kernel
theorem dL_key_136 : decode cL_key 136 = .ok (.goto 6, 3) := by decide +kernel
theorem dL_key_139 : decode cL_key 139 = .ok (.iload 7, 2) := by decide +kernel
theorem dL_key_141 : decode cL_key 141 = .ok (.i2l, 1) := by decide +kernel
theorem dL_key_142 : decode cL_key 142 = .ok (.lreturn, 1) := by decide +kernel
theorem dL_key_143 : decode cL_key 143 = .ok (.iconst 0, 1) := by decide +kernel
theorem dL_key_144 : decode cL_key 144 = .ok (.istore 7, 2) := by decide +kernel
theorem dL_key_146 : decode cL_key 146 = .ok (.iconst 0, 1) := by decide +kernel
theorem dL_key_147 : decode cL_key 147 = .ok (.istore 8, 2) := by decide +kernel
theorem dL_key_149 : decode cL_key 149 = .ok (.iload 8, 2) := by decide +kernel
theorem dL_key_151 : decode cL_key 151 = .ok (.aload_n 3, 1) := by decide +kernel
theorem dL_key_152 : decode cL_key 152 = .ok (.iconst 0, 1) := by decide +kernel
theorem dL_key_153 : decode cL_key 153 = .ok (.iaload, 1) := by decide +kernel
theorem dL_key_154 : decode cL_key 154 = .ok (.if_icmp .ge 70, 3) := by decide +kernel
theorem dL_key_157 : decode cL_key 157 = .ok (.iload 7, 2) := by decide +kernel
theorem dL_key_159 : decode cL_key 159 = .ok (.aload_n 1, 1) := by decide +kernel
theorem dL_key_160 : decode cL_key 160 = .ok (.iconst 5, 1) := by decide +kernel
theorem dL_key_161 : decode cL_key 161 = .ok (.iload 8, 2) := by decide +kernel
theorem dL_key_163 : decode cL_key 163 = .ok (.imul, 1) := by decide +kernel
theorem dL_key_164 : decode cL_key 164 = .ok (.iconst 4, 1) := by decide +kernel
theorem dL_key_165 : decode cL_key 165 = .ok (.iadd, 1) := by decide +kernel
theorem dL_key_166 : decode cL_key 166 = .ok (.iaload, 1) := by decide +kernel
theorem dL_key_167 : decode cL_key 167 = .ok (.aload_n 2, 1) := by decide +kernel
theorem dL_key_168 : decode cL_key 168 = .ok (.iconst 5, 1) := by decide +kernel
theorem dL_key_169 : decode cL_key 169 = .ok (.iload 8, 2) := by decide +kernel
theorem dL_key_171 : decode cL_key 171 = .ok (.imul, 1) := by decide +kernel
theorem dL_key_172 : decode cL_key 172 = .ok (.iconst 4, 1) := by decide +kernel
theorem dL_key_173 : decode cL_key 173 = .ok (.iadd, 1) := by decide +kernel
theorem dL_key_174 : decode cL_key 174 = .ok (.iaload, 1) := by decide +kernel
theorem dL_key_175 : decode cL_key 175 = .ok (.if_icmp .le 23, 3) := by decide +kernel
theorem dL_key_178 : decode cL_key 178 = .ok (.aload_n 1, 1) := by decide +kernel
theorem dL_key_179 : decode cL_key 179 = .ok (.iconst 5, 1) := by decide +kernel
theorem dL_key_180 : decode cL_key 180 = .ok (.iload 8, 2) := by decide +kernel
theorem dL_key_182 : decode cL_key 182 = .ok (.imul, 1) := by decide +kernel
theorem dL_key_183 : decode cL_key 183 = .ok (.iconst 4, 1) := by decide +kernel
theorem dL_key_184 : decode cL_key 184 = .ok (.iadd, 1) := by decide +kernel
theorem dL_key_185 : decode cL_key 185 = .ok (.iaload, 1) := by decide +kernel
theorem dL_key_186 : decode cL_key 186 = .ok (.aload_n 2, 1) := by decide +kernel
theorem dL_key_187 : decode cL_key 187 = .ok (.iconst 5, 1) := by decide +kernel
theorem dL_key_188 : decode cL_key 188 = .ok (.iload 8, 2) := by decide +kernel
theorem dL_key_190 : decode cL_key 190 = .ok (.imul, 1) := by decide +kernel
theorem dL_key_191 : decode cL_key 191 = .ok (.iconst 4, 1) := by decide +kernel
theorem dL_key_192 : decode cL_key 192 = .ok (.iadd, 1) := by decide +kernel
theorem dL_key_193 : decode cL_key 193 = .ok (.iaload, 1) := by decide +kernel
theorem dL_key_194 : decode cL_key 194 = .ok (.isub, 1) := by decide +kernel
theorem dL_key_195 : decode cL_key 195 = .ok (.goto 20, 3) := by decide +kernel
theorem dL_key_198 : decode cL_key 198 = .ok (.aload_n 2, 1) := by decide +kernel
theorem dL_key_199 : decode cL_key 199 = .ok (.iconst 5, 1) := by decide +kernel
theorem dL_key_200 : decode cL_key 200 = .ok (.iload 8, 2) := by decide +kernel
theorem dL_key_202 : decode cL_key 202 = .ok (.imul, 1) := by decide +kernel
theorem dL_key_203 : decode cL_key 203 = .ok (.iconst 4, 1) := by decide +kernel
theorem dL_key_204 : decode cL_key 204 = .ok (.iadd, 1) := by decide +kernel
theorem dL_key_205 : decode cL_key 205 = .ok (.iaload, 1) := by decide +kernel
theorem dL_key_206 : decode cL_key 206 = .ok (.aload_n 1, 1) := by decide +kernel
theorem dL_key_207 : decode cL_key 207 = .ok (.iconst 5, 1) := by decide +kernel
theorem dL_key_208 : decode cL_key 208 = .ok (.iload 8, 2) := by decide +kernel
theorem dL_key_210 : decode cL_key 210 = .ok (.imul, 1) := by decide +kernel
theorem dL_key_211 : decode cL_key 211 = .ok (.iconst 4, 1) := by decide +kernel
theorem dL_key_212 : decode cL_key 212 = .ok (.iadd, 1) := by decide +kernel
theorem dL_key_213 : decode cL_key 213 = .ok (.iaload, 1) := by decide +kernel
theorem dL_key_214 : decode cL_key 214 = .ok (.isub, 1) := by decide +kernel
theorem dL_key_215 : decode cL_key 215 = .ok (.iadd, 1) := by decide +kernel
theorem dL_key_216 : decode cL_key 216 = .ok (.istore 7, 2) := by decide +kernel
theorem dL_key_218 : decode cL_key 218 = .ok (.iinc 8 1, 3) := by decide +kernel
theorem dL_key_221 : decode cL_key 221 = .ok (.goto (-72), 3) := by decide +kernel
theorem dL_key_224 : decode cL_key 224 = .ok (.iload 7, 2) := by decide +kernel
theorem dL_key_226 : decode cL_key 226 = .ok (.i2l, 1) := by decide +kernel
theorem dL_key_227 : decode cL_key 227 = .ok (.lreturn, 1) := by decide +kernel
set_option maxRecDepth 20000 in
theorem ggL_ranked_L_poses : GoodIn wsL_ranked wsL_poses := goodIn_r _ [6, 7, 8] (by decide +kernel) (by decide +kernel)
set_option maxRecDepth 20000 in
theorem gL_ranked_L_poses : GoodIn wsL_ranked (va_wsS RL 85 yL_poses wsL_poses) := goodIn_app (goodIn_of _ (by decide +kernel)) ggL_ranked_L_poses
set_option maxRecDepth 20000 in
theorem ggL_ranked_L_lays : GoodIn wsL_ranked wsL_lays := goodIn_r _ [11] (by decide +kernel) (by decide +kernel)
set_option maxRecDepth 20000 in
theorem gL_ranked_L_lays : GoodIn wsL_ranked (va_wsS RL 89 yL_lays wsL_lays) := goodIn_app (goodIn_of _ (by decide +kernel)) ggL_ranked_L_lays
set_option maxRecDepth 20000 in
theorem ggL_ranked_L_key : GoodIn wsL_ranked wsL_key := goodIn_r _ [14, 2, 15, 16, 5, 17, 18, 19, 20, 21, 22, 23] (by decide +kernel) (by decide +kernel)
set_option maxRecDepth 20000 in
theorem gL_ranked_L_key : GoodIn wsL_ranked (va_wsS RL 93 yL_key wsL_key) := goodIn_app (goodIn_of _ (by decide +kernel)) ggL_ranked_L_key
theorem dL_ranked_0 : decode cL_ranked 0 = .ok (.bipush 25, 2) := by decide +kernel
theorem dL_ranked_2 : decode cL_ranked 2 = .ok (.newarray .int, 2) := by decide +kernel
theorem dL_ranked_4 : decode cL_ranked 4 = .ok (.astore 5, 2) := by decide +kernel
theorem dL_ranked_6 : decode cL_ranked 6 = .ok (.iconst 0, 1) := by decide +kernel
theorem dL_ranked_7 : decode cL_ranked 7 = .ok (.istore 6, 2) := by decide +kernel
theorem dL_ranked_9 : decode cL_ranked 9 = .ok (.iload 6, 2) := by decide +kernel
theorem dL_ranked_11 : decode cL_ranked 11 = .ok (.bipush 25, 2) := by decide +kernel
theorem dL_ranked_13 : decode cL_ranked 13 = .ok (.if_icmp .ge 18, 3) := by decide +kernel
theorem dL_ranked_16 : decode cL_ranked 16 = .ok (.aload 5, 2) := by decide +kernel
theorem dL_ranked_18 : decode cL_ranked 18 = .ok (.iload 6, 2) := by decide +kernel
theorem dL_ranked_20 : decode cL_ranked 20 = .ok (.aload_n 2, 1) := by decide +kernel
theorem dL_ranked_21 : decode cL_ranked 21 = .ok (.iload 6, 2) := by decide +kernel
theorem dL_ranked_23 : decode cL_ranked 23 = .ok (.iaload, 1) := by decide +kernel
theorem dL_ranked_24 : decode cL_ranked 24 = .ok (.iastore, 1) := by decide +kernel
theorem dL_ranked_25 : decode cL_ranked 25 = .ok (.iinc 6 1, 3) := by decide +kernel
theorem dL_ranked_28 : decode cL_ranked 28 = .ok (.goto (-19), 3) := by decide +kernel
theorem dL_ranked_31 : decode cL_ranked 31 = .ok (.ldc2_w 83, 3) := by decide +kernel
theorem dL_ranked_34 : decode cL_ranked 34 = .ok (.lstore 6, 2) := by decide +kernel
theorem dL_ranked_36 : decode cL_ranked 36 = .ok (.iconst (-1), 1) := by decide +kernel
theorem dL_ranked_37 : decode cL_ranked 37 = .ok (.istore 8, 2) := by decide +kernel
theorem dL_ranked_39 : decode cL_ranked 39 = .ok (.iconst 0, 1) := by decide +kernel
theorem dL_ranked_40 : decode cL_ranked 40 = .ok (.istore 9, 2) := by decide +kernel
theorem dL_ranked_42 : decode cL_ranked 42 = .ok (.iload 9, 2) := by decide +kernel
theorem dL_ranked_44 : decode cL_ranked 44 = .ok (.iload_n 0, 1) := by decide +kernel
theorem dL_ranked_45 : decode cL_ranked 45 = .ok (.if_icmp .gt 127, 3) := by decide +kernel
theorem dL_ranked_48 : decode cL_ranked 48 = .ok (.ldc2_w 83, 3) := by decide +kernel
theorem dL_ranked_51 : decode cL_ranked 51 = .ok (.lstore 10, 2) := by decide +kernel
theorem dL_ranked_53 : decode cL_ranked 53 = .ok (.iconst (-1), 1) := by decide +kernel
theorem dL_ranked_54 : decode cL_ranked 54 = .ok (.istore 12, 2) := by decide +kernel
theorem dL_ranked_56 : decode cL_ranked 56 = .ok (.iconst 0, 1) := by decide +kernel
theorem dL_ranked_57 : decode cL_ranked 57 = .ok (.istore 13, 2) := by decide +kernel
theorem dL_ranked_59 : decode cL_ranked 59 = .ok (.iload 13, 2) := by decide +kernel
theorem dL_ranked_61 : decode cL_ranked 61 = .ok (.aload_n 2, 1) := by decide +kernel
theorem dL_ranked_62 : decode cL_ranked 62 = .ok (.aload_n 3, 1) := by decide +kernel
theorem dL_ranked_63 : decode cL_ranked 63 = .ok (.invokestatic 85, 3) := by decide +kernel
theorem dL_ranked_66 : decode cL_ranked 66 = .ok (.if_icmp .ge 84, 3) := by decide +kernel
theorem dL_ranked_69 : decode cL_ranked 69 = .ok (.iload 13, 2) := by decide +kernel
theorem dL_ranked_71 : decode cL_ranked 71 = .ok (.aload 5, 2) := by decide +kernel
theorem dL_ranked_73 : decode cL_ranked 73 = .ok (.aload_n 3, 1) := by decide +kernel
theorem dL_ranked_74 : decode cL_ranked 74 = .ok (.invokestatic 89, 3) := by decide +kernel
theorem dL_ranked_77 : decode cL_ranked 77 = .ok (.iload_n 1, 1) := by decide +kernel
theorem dL_ranked_78 : decode cL_ranked 78 = .ok (.aload 5, 2) := by decide +kernel
theorem dL_ranked_80 : decode cL_ranked 80 = .ok (.aload_n 2, 1) := by decide +kernel
theorem dL_ranked_81 : decode cL_ranked 81 = .ok (.aload_n 3, 1) := by decide +kernel
theorem dL_ranked_82 : decode cL_ranked 82 = .ok (.aload 4, 2) := by decide +kernel
theorem dL_ranked_84 : decode cL_ranked 84 = .ok (.invokestatic 93, 3) := by decide +kernel
theorem dL_ranked_87 : decode cL_ranked 87 = .ok (.lstore 14, 2) := by decide +kernel
theorem dL_ranked_89 : decode cL_ranked 89 = .ok (.lload 14, 2) := by decide +kernel
theorem dL_ranked_91 : decode cL_ranked 91 = .ok (.lconst 0, 1) := by decide +kernel
theorem dL_ranked_92 : decode cL_ranked 92 = .ok (.lcmp, 1) := by decide +kernel
theorem dL_ranked_93 : decode cL_ranked 93 = .ok (.ifCond .lt 51, 3) := by decide +kernel
theorem dL_ranked_96 : decode cL_ranked 96 = .ok (.lload 14, 2) := by decide +kernel
theorem dL_ranked_98 : decode cL_ranked 98 = .ok (.lload 6, 2) := by decide +kernel
theorem dL_ranked_100 : decode cL_ranked 100 = .ok (.lcmp, 1) := by decide +kernel
theorem dL_ranked_101 : decode cL_ranked 101 = .ok (.ifCond .lt 43, 3) := by decide +kernel
theorem dL_ranked_104 : decode cL_ranked 104 = .ok (.lload 14, 2) := by decide +kernel
theorem dL_ranked_106 : decode cL_ranked 106 = .ok (.lload 6, 2) := by decide +kernel
theorem dL_ranked_108 : decode cL_ranked 108 = .ok (.lcmp, 1) := by decide +kernel
theorem dL_ranked_109 : decode cL_ranked 109 = .ok (.ifCond .ne 13, 3) := by decide +kernel
theorem dL_ranked_112 : decode cL_ranked 112 = .ok (.iload 13, 2) := by decide +kernel
theorem dL_ranked_114 : decode cL_ranked 114 = .ok (.iload 8, 2) := by decide +kernel
theorem dL_ranked_116 : decode cL_ranked 116 = .ok (.if_icmp .gt 6, 3) := by decide +kernel
theorem dL_ranked_119 : decode cL_ranked 119 = .ok (.goto 25, 3) := by decide +kernel
theorem dL_ranked_122 : decode cL_ranked 122 = .ok (.iload 12, 2) := by decide +kernel
theorem dL_ranked_124 : decode cL_ranked 124 = .ok (.iconst (-1), 1) := by decide +kernel
theorem dL_ranked_125 : decode cL_ranked 125 = .ok (.if_icmp .eq 11, 3) := by decide +kernel
theorem dL_ranked_128 : decode cL_ranked 128 = .ok (.lload 14, 2) := by decide +kernel
theorem dL_ranked_130 : decode cL_ranked 130 = .ok (.lload 10, 2) := by decide +kernel
theorem dL_ranked_132 : decode cL_ranked 132 = .ok (.lcmp, 1) := by decide +kernel
theorem dL_ranked_133 : decode cL_ranked 133 = .ok (.ifCond .ge 11, 3) := by decide +kernel
theorem dL_ranked_136 : decode cL_ranked 136 = .ok (.lload 14, 2) := by decide +kernel
theorem dL_ranked_138 : decode cL_ranked 138 = .ok (.lstore 10, 2) := by decide +kernel
theorem dL_ranked_140 : decode cL_ranked 140 = .ok (.iload 13, 2) := by decide +kernel
theorem dL_ranked_142 : decode cL_ranked 142 = .ok (.istore 12, 2) := by decide +kernel
theorem dL_ranked_144 : decode cL_ranked 144 = .ok (.iinc 13 1, 3) := by decide +kernel
theorem dL_ranked_147 : decode cL_ranked 147 = .ok (.goto (-88), 3) := by decide +kernel
theorem dL_ranked_150 : decode cL_ranked 150 = .ok (.iload 12, 2) := by decide +kernel
theorem dL_ranked_152 : decode cL_ranked 152 = .ok (.iconst (-1), 1) := by decide +kernel
theorem dL_ranked_153 : decode cL_ranked 153 = .ok (.if_icmp .ne 5, 3) := by decide +kernel
theorem dL_ranked_156 : decode cL_ranked 156 = .ok (.iconst (-1), 1) := by decide +kernel
theorem dL_ranked_157 : decode cL_ranked 157 = .ok (.ireturn, 1) := by decide +kernel
theorem dL_ranked_158 : decode cL_ranked 158 = .ok (.lload 10, 2) := by decide +kernel
theorem dL_ranked_160 : decode cL_ranked 160 = .ok (.lstore 6, 2) := by decide +kernel
theorem dL_ranked_162 : decode cL_ranked 162 = .ok (.iload 12, 2) := by decide +kernel
theorem dL_ranked_164 : decode cL_ranked 164 = .ok (.istore 8, 2) := by decide +kernel
theorem dL_ranked_166 : decode cL_ranked 166 = .ok (.iinc 9 1, 3) := by decide +kernel
theorem dL_ranked_169 : decode cL_ranked 169 = .ok (.goto (-127), 3) := by decide +kernel
theorem dL_ranked_172 : decode cL_ranked 172 = .ok (.iload 8, 2) := by decide +kernel
theorem dL_ranked_174 : decode cL_ranked 174 = .ok (.ireturn, 1) := by decide +kernel
set_option maxRecDepth 20000 in
theorem ggL_reaches_L_poses : GoodIn wsL_reaches wsL_poses := goodIn_r _ [5, 6, 7] (by decide +kernel) (by decide +kernel)
set_option maxRecDepth 20000 in
theorem gL_reaches_L_poses : GoodIn wsL_reaches (va_wsS RL 85 yL_poses wsL_poses) := goodIn_app (goodIn_of _ (by decide +kernel)) ggL_reaches_L_poses
set_option maxRecDepth 20000 in
theorem ggL_reaches_L_lays : GoodIn wsL_reaches wsL_lays := goodIn_r _ [10] (by decide +kernel) (by decide +kernel)
set_option maxRecDepth 20000 in
theorem gL_reaches_L_lays : GoodIn wsL_reaches (va_wsS RL 89 yL_lays wsL_lays) := goodIn_app (goodIn_of _ (by decide +kernel)) ggL_reaches_L_lays
set_option maxRecDepth 20000 in
theorem ggL_reaches_L_key : GoodIn wsL_reaches wsL_key := goodIn_r _ [13, 14, 15, 16, 4, 17, 18, 19, 20, 21, 22, 23] (by decide +kernel) (by decide +kernel)
set_option maxRecDepth 20000 in
theorem gL_reaches_L_key : GoodIn wsL_reaches (va_wsS RL 93 yL_key wsL_key) := goodIn_app (goodIn_of _ (by decide +kernel)) ggL_reaches_L_key
theorem dL_reaches_0 : decode cL_reaches 0 = .ok (.bipush 25, 2) := by decide +kernel
theorem dL_reaches_2 : decode cL_reaches 2 = .ok (.newarray .int, 2) := by decide +kernel
theorem dL_reaches_4 : decode cL_reaches 4 = .ok (.astore_n 3, 1) := by decide +kernel
theorem dL_reaches_5 : decode cL_reaches 5 = .ok (.iconst 0, 1) := by decide +kernel
theorem dL_reaches_6 : decode cL_reaches 6 = .ok (.istore 4, 2) := by decide +kernel
theorem dL_reaches_8 : decode cL_reaches 8 = .ok (.iload 4, 2) := by decide +kernel
theorem dL_reaches_10 : decode cL_reaches 10 = .ok (.bipush 25, 2) := by decide +kernel
theorem dL_reaches_12 : decode cL_reaches 12 = .ok (.if_icmp .ge 17, 3) := by decide +kernel
theorem dL_reaches_15 : decode cL_reaches 15 = .ok (.aload_n 3, 1) := by decide +kernel
theorem dL_reaches_16 : decode cL_reaches 16 = .ok (.iload 4, 2) := by decide +kernel
theorem dL_reaches_18 : decode cL_reaches 18 = .ok (.aload_n 0, 1) := by decide +kernel
theorem dL_reaches_19 : decode cL_reaches 19 = .ok (.iload 4, 2) := by decide +kernel
theorem dL_reaches_21 : decode cL_reaches 21 = .ok (.iaload, 1) := by decide +kernel
theorem dL_reaches_22 : decode cL_reaches 22 = .ok (.iastore, 1) := by decide +kernel
theorem dL_reaches_23 : decode cL_reaches 23 = .ok (.iinc 4 1, 3) := by decide +kernel
theorem dL_reaches_26 : decode cL_reaches 26 = .ok (.goto (-18), 3) := by decide +kernel
theorem dL_reaches_29 : decode cL_reaches 29 = .ok (.iconst 0, 1) := by decide +kernel
theorem dL_reaches_30 : decode cL_reaches 30 = .ok (.istore 4, 2) := by decide +kernel
theorem dL_reaches_32 : decode cL_reaches 32 = .ok (.iconst 0, 1) := by decide +kernel
theorem dL_reaches_33 : decode cL_reaches 33 = .ok (.istore 5, 2) := by decide +kernel
theorem dL_reaches_35 : decode cL_reaches 35 = .ok (.iload 5, 2) := by decide +kernel
theorem dL_reaches_37 : decode cL_reaches 37 = .ok (.aload_n 0, 1) := by decide +kernel
theorem dL_reaches_38 : decode cL_reaches 38 = .ok (.aload_n 1, 1) := by decide +kernel
theorem dL_reaches_39 : decode cL_reaches 39 = .ok (.invokestatic 85, 3) := by decide +kernel
theorem dL_reaches_42 : decode cL_reaches 42 = .ok (.if_icmp .ge 39, 3) := by decide +kernel
theorem dL_reaches_45 : decode cL_reaches 45 = .ok (.iload 5, 2) := by decide +kernel
theorem dL_reaches_47 : decode cL_reaches 47 = .ok (.aload_n 3, 1) := by decide +kernel
theorem dL_reaches_48 : decode cL_reaches 48 = .ok (.aload_n 1, 1) := by decide +kernel
theorem dL_reaches_49 : decode cL_reaches 49 = .ok (.invokestatic 89, 3) := by decide +kernel
theorem dL_reaches_52 : decode cL_reaches 52 = .ok (.iload 4, 2) := by decide +kernel
theorem dL_reaches_54 : decode cL_reaches 54 = .ok (.iconst 0, 1) := by decide +kernel
theorem dL_reaches_55 : decode cL_reaches 55 = .ok (.aload_n 3, 1) := by decide +kernel
theorem dL_reaches_56 : decode cL_reaches 56 = .ok (.aload_n 0, 1) := by decide +kernel
theorem dL_reaches_57 : decode cL_reaches 57 = .ok (.aload_n 1, 1) := by decide +kernel
theorem dL_reaches_58 : decode cL_reaches 58 = .ok (.aload_n 2, 1) := by decide +kernel
theorem dL_reaches_59 : decode cL_reaches 59 = .ok (.invokestatic 93, 3) := by decide +kernel
theorem dL_reaches_62 : decode cL_reaches 62 = .ok (.lconst 0, 1) := by decide +kernel
theorem dL_reaches_63 : decode cL_reaches 63 = .ok (.lcmp, 1) := by decide +kernel
theorem dL_reaches_64 : decode cL_reaches 64 = .ok (.ifCond .ge 7, 3) := by decide +kernel
theorem dL_reaches_67 : decode cL_reaches 67 = .ok (.iconst 0, 1) := by decide +kernel
theorem dL_reaches_68 : decode cL_reaches 68 = .ok (.goto 4, 3) := by decide +kernel
theorem dL_reaches_71 : decode cL_reaches 71 = .ok (.iconst 1, 1) := by decide +kernel
theorem dL_reaches_72 : decode cL_reaches 72 = .ok (.iadd, 1) := by decide +kernel
theorem dL_reaches_73 : decode cL_reaches 73 = .ok (.istore 4, 2) := by decide +kernel
theorem dL_reaches_75 : decode cL_reaches 75 = .ok (.iinc 5 1, 3) := by decide +kernel
theorem dL_reaches_78 : decode cL_reaches 78 = .ok (.goto (-43), 3) := by decide +kernel
theorem dL_reaches_81 : decode cL_reaches 81 = .ok (.iload 4, 2) := by decide +kernel
theorem dL_reaches_83 : decode cL_reaches 83 = .ok (.ireturn, 1) := by decide +kernel
set_option maxRecDepth 20000 in
theorem ggL_isTold_L_tips : GoodIn wsL_isTold wsL_tips := goodIn_r _ [5, 6, 7, 4, 8, 9, 10, 11] (by decide +kernel) (by decide +kernel)
set_option maxRecDepth 20000 in
theorem gL_isTold_L_tips : GoodIn wsL_isTold (va_wsS RL 76 yL_tips wsL_tips) := goodIn_app (goodIn_of _ (by decide +kernel)) ggL_isTold_L_tips
set_option maxRecDepth 20000 in
theorem ggL_isTold_L_heading : GoodIn wsL_isTold wsL_heading := goodIn_r _ [8] (by decide +kernel) (by decide +kernel)
set_option maxRecDepth 20000 in
theorem gL_isTold_L_heading : GoodIn wsL_isTold (va_wsS RL 68 yL_heading wsL_heading) := goodIn_app (goodIn_of _ (by decide +kernel)) ggL_isTold_L_heading
set_option maxRecDepth 20000 in
theorem ggL_isTold_L_tip : GoodIn wsL_isTold wsL_tip := goodIn_ca (goodIn_r _ [14, 15, 16, 17, 18, 19, 20, 21, 22, 23, 24, 25, 26, 27, 28, 29, 30, 31, 32, 33, 34, 35, 36, 37, 38, 39, 40, 41, 42, 43, 44, 45, 46, 47, 48, 49, 50, 51, 52, 53, 54, 55, 56, 57, 58, 59, 60, 61, 62, 63, 64, 65, 149, 150, 151, 152, 153, 154, 155, 156, 157, 158, 159, 160, 161, 162, 163, 164] (by decide +kernel) (by decide +kernel)) (goodIn_sub (fun _ h => List.mem_cons_of_mem _ (List.mem_append_left _ (List.mem_append_right _ h))) (by decide +kernel))
set_option maxRecDepth 20000 in
theorem gL_isTold_L_tip : GoodIn wsL_isTold (va_wsS RL 97 yL_tip wsL_tip) := goodIn_app (goodIn_of _ (by decide +kernel)) ggL_isTold_L_tip
set_option maxRecDepth 20000 in
theorem ggL_isTold_L_tipAnew : GoodIn wsL_isTold wsL_tipAnew := goodIn_ca (goodIn_r _ [68, 15, 16, 69, 70, 71, 20, 72, 73, 23, 24, 25, 26, 27, 28, 74, 30, 75, 76, 37, 38, 39, 40, 41, 42, 43, 49, 45, 50, 51, 48, 52, 77, 78, 79, 80, 81, 44, 46, 47, 53, 54, 55, 56, 57, 58, 59, 60, 61, 62, 63, 64, 65, 149, 150, 151, 152, 153, 154, 155, 156, 157, 158, 159, 160, 161, 162, 163, 164] (by decide +kernel) (by decide +kernel)) (goodIn_sub (fun _ h => List.mem_cons_of_mem _ (List.mem_append_left _ (List.mem_append_right _ h))) (by decide +kernel))
set_option maxRecDepth 20000 in
theorem gL_isTold_L_tipAnew : GoodIn wsL_isTold (va_wsS RL 100 yL_tipAnew wsL_tipAnew) := goodIn_app (goodIn_of _ (by decide +kernel)) ggL_isTold_L_tipAnew
set_option maxRecDepth 20000 in
theorem ggL_isTold_X5_far : GoodIn wsL_isTold wsX5_far := goodIn_r _ [85, 86, 87, 88, 20, 89, 22, 23, 90, 29, 30, 31, 32, 33, 34, 35, 36, 37, 38, 39, 40, 41, 42, 43, 44, 45, 46, 47, 48, 49, 50, 51, 52, 53, 54, 55, 56, 57, 58, 59, 60, 61, 62, 91, 92, 93, 94, 95, 96, 149, 150, 151, 152, 153, 154, 155, 162, 163, 164, 156, 157, 158, 159, 160, 161, 165, 166, 167] (by decide +kernel) (by decide +kernel)
set_option maxRecDepth 20000 in
theorem gL_isTold_X5_far : GoodIn wsL_isTold (wsV RL 102 RX5 yX5_far wsX5_far) := goodIn_app (goodIn_of _ (by decide +kernel)) ggL_isTold_X5_far
set_option maxRecDepth 20000 in
theorem ggL_isTold_L_far : GoodIn wsL_isTold wsL_far := goodIn_r _ [99, 2, 3, 4, 5, 6, 7, 8, 9, 10, 11] (by decide +kernel) (by decide +kernel)
set_option maxRecDepth 20000 in
theorem gL_isTold_L_far : GoodIn wsL_isTold (va_wsS RL 106 yL_far wsL_far) := goodIn_app (goodIn_of _ (by decide +kernel)) ggL_isTold_L_far
set_option maxRecDepth 20000 in
theorem ggL_isTold_L_value : GoodIn wsL_isTold wsL_value := goodIn_ca (goodIn_r _ [102, 103, 104, 105, 106, 20, 107, 23, 108, 109, 110, 111, 112, 113, 149, 150, 151, 152, 153, 154, 155, 156, 157, 158, 159, 160, 161] (by decide +kernel) (by decide +kernel)) (goodIn_sub (fun _ h => List.mem_cons_of_mem _ (List.mem_append_right _ h)) (by decide +kernel))
set_option maxRecDepth 20000 in
theorem gL_isTold_L_value : GoodIn wsL_isTold (va_wsS RL 109 yL_value wsL_value) := goodIn_app (goodIn_of _ (by decide +kernel)) ggL_isTold_L_value
set_option maxRecDepth 20000 in
theorem ggL_isTold_L_moves : GoodIn wsL_isTold wsL_moves := goodIn_ca (goodIn_ca (goodIn_r _ [116, 103, 15, 1, 16, 117, 118, 119, 20, 120, 22, 23, 73, 108, 109, 110, 111, 112, 113, 24, 25, 26, 27, 28, 29, 30, 31, 32, 33, 34, 35, 36, 37, 38, 39, 40, 41, 42, 43, 44, 45, 46, 47, 48, 49, 50, 51, 52, 53, 54, 55, 56, 57, 58, 59, 60, 61, 62, 63, 64, 65, 149, 150, 151, 152, 153, 154, 155, 156, 157, 158, 159, 160, 161, 162, 163, 164] (by decide +kernel) (by decide +kernel)) (goodIn_sub (fun _ h => List.mem_cons_of_mem _ (List.mem_append_right _ h)) (by decide +kernel))) (goodIn_sub (fun _ h => List.mem_cons_of_mem _ (List.mem_append_left _ (List.mem_append_right _ h))) (by decide +kernel))
set_option maxRecDepth 20000 in
theorem gL_isTold_L_moves : GoodIn wsL_isTold (va_wsS RL 111 yL_moves wsL_moves) := goodIn_app (goodIn_of _ (by decide +kernel)) ggL_isTold_L_moves
set_option maxRecDepth 20000 in
theorem ggL_isTold_X5_freedom : GoodIn wsL_isTold wsX5_freedom := goodIn_r _ [124, 23, 125, 126, 127, 128, 129, 130, 131, 132, 133, 134, 135, 136, 20, 137, 22, 73, 29, 30, 31, 32, 33, 34, 35, 36, 37, 38, 39, 40, 41, 42, 43, 44, 45, 46, 47, 48, 49, 50, 51, 52, 53, 54, 55, 56, 57, 58, 59, 60, 61, 62, 149, 150, 151, 152, 153, 154, 155, 156, 157, 158, 159, 160, 161, 162, 163, 164] (by decide +kernel) (by decide +kernel)
set_option maxRecDepth 20000 in
theorem gL_isTold_X5_freedom : GoodIn wsL_isTold (wsV RL 114 RX5 yX5_freedom wsX5_freedom) := goodIn_app (goodIn_of _ (by decide +kernel)) ggL_isTold_X5_freedom
set_option maxRecDepth 20000 in
theorem ggL_isTold_X5_hindrance : GoodIn wsL_isTold wsX5_hindrance := goodIn_r _ [141, 23, 86, 87, 88, 20, 89, 22, 90, 29, 30, 31, 32, 33, 34, 35, 36, 37, 38, 39, 40, 41, 42, 43, 44, 45, 46, 47, 48, 49, 50, 51, 52, 53, 54, 55, 56, 57, 58, 59, 60, 61, 62, 91, 92, 93, 94, 95, 96, 142, 143, 144, 145, 73, 149, 150, 151, 152, 153, 154, 155, 156, 157, 158, 159, 160, 161, 162, 163, 164, 165, 166, 167] (by decide +kernel) (by decide +kernel)
set_option maxRecDepth 20000 in
theorem gL_isTold_X5_hindrance : GoodIn wsL_isTold (wsV RL 117 RX5 yX5_hindrance wsX5_hindrance) := goodIn_app (goodIn_of _ (by decide +kernel)) ggL_isTold_X5_hindrance
set_option maxRecDepth 20000 in
theorem ggL_isTold_L_low : GoodIn wsL_isTold wsL_low := goodIn_r _ [148] (by decide +kernel) (by decide +kernel)
set_option maxRecDepth 20000 in
theorem gL_isTold_L_low : GoodIn wsL_isTold (va_wsS RL 120 yL_low wsL_low) := goodIn_app (goodIn_of _ (by decide +kernel)) ggL_isTold_L_low
theorem dL_isTold_0 : decode cL_isTold 0 = .ok (.iconst 1, 1) := by decide +kernel
theorem dL_isTold_1 : decode cL_isTold 1 = .ok (.iconst (-1), 1) := by decide +kernel
theorem dL_isTold_2 : decode cL_isTold 2 = .ok (.iconst 0, 1) := by decide +kernel
theorem dL_isTold_3 : decode cL_isTold 3 = .ok (.aload_n 2, 1) := by decide +kernel
theorem dL_isTold_4 : decode cL_isTold 4 = .ok (.aload_n 3, 1) := by decide +kernel
theorem dL_isTold_5 : decode cL_isTold 5 = .ok (.aload 4, 2) := by decide +kernel
theorem dL_isTold_7 : decode cL_isTold 7 = .ok (.invokestatic 76, 3) := by decide +kernel
theorem dL_isTold_10 : decode cL_isTold 10 = .ok (.istore 5, 2) := by decide +kernel
theorem dL_isTold_12 : decode cL_isTold 12 = .ok (.iconst 0, 1) := by decide +kernel
theorem dL_isTold_13 : decode cL_isTold 13 = .ok (.iconst (-1), 1) := by decide +kernel
theorem dL_isTold_14 : decode cL_isTold 14 = .ok (.iconst 0, 1) := by decide +kernel
theorem dL_isTold_15 : decode cL_isTold 15 = .ok (.aload_n 2, 1) := by decide +kernel
theorem dL_isTold_16 : decode cL_isTold 16 = .ok (.aload_n 3, 1) := by decide +kernel
theorem dL_isTold_17 : decode cL_isTold 17 = .ok (.aload 4, 2) := by decide +kernel
theorem dL_isTold_19 : decode cL_isTold 19 = .ok (.invokestatic 76, 3) := by decide +kernel
theorem dL_isTold_22 : decode cL_isTold 22 = .ok (.istore 6, 2) := by decide +kernel
theorem dL_isTold_24 : decode cL_isTold 24 = .ok (.aload_n 3, 1) := by decide +kernel
theorem dL_isTold_25 : decode cL_isTold 25 = .ok (.iconst 0, 1) := by decide +kernel
theorem dL_isTold_26 : decode cL_isTold 26 = .ok (.iaload, 1) := by decide +kernel
theorem dL_isTold_27 : decode cL_isTold 27 = .ok (.iconst 1, 1) := by decide +kernel
theorem dL_isTold_28 : decode cL_isTold 28 = .ok (.isub, 1) := by decide +kernel
theorem dL_isTold_29 : decode cL_isTold 29 = .ok (.iconst (-1), 1) := by decide +kernel
theorem dL_isTold_30 : decode cL_isTold 30 = .ok (.iconst 0, 1) := by decide +kernel
theorem dL_isTold_31 : decode cL_isTold 31 = .ok (.aload_n 2, 1) := by decide +kernel
theorem dL_isTold_32 : decode cL_isTold 32 = .ok (.invokestatic 68, 3) := by decide +kernel
theorem dL_isTold_35 : decode cL_isTold 35 = .ok (.istore 7, 2) := by decide +kernel
theorem dL_isTold_37 : decode cL_isTold 37 = .ok (.aload_n 0, 1) := by decide +kernel
theorem dL_isTold_38 : decode cL_isTold 38 = .ok (.iconst 0, 1) := by decide +kernel
theorem dL_isTold_39 : decode cL_isTold 39 = .ok (.invokestatic 97, 3) := by decide +kernel
theorem dL_isTold_42 : decode cL_isTold 42 = .ok (.iload 5, 2) := by decide +kernel
theorem dL_isTold_44 : decode cL_isTold 44 = .ok (.if_icmp .ne 70, 3) := by decide +kernel
theorem dL_isTold_47 : decode cL_isTold 47 = .ok (.aload_n 0, 1) := by decide +kernel
theorem dL_isTold_48 : decode cL_isTold 48 = .ok (.iconst 1, 1) := by decide +kernel
theorem dL_isTold_49 : decode cL_isTold 49 = .ok (.invokestatic 97, 3) := by decide +kernel
theorem dL_isTold_52 : decode cL_isTold 52 = .ok (.iload 6, 2) := by decide +kernel
theorem dL_isTold_54 : decode cL_isTold 54 = .ok (.if_icmp .ne 60, 3) := by decide +kernel
theorem dL_isTold_57 : decode cL_isTold 57 = .ok (.aload_n 0, 1) := by decide +kernel
theorem dL_isTold_58 : decode cL_isTold 58 = .ok (.iconst 2, 1) := by decide +kernel
theorem dL_isTold_59 : decode cL_isTold 59 = .ok (.invokestatic 97, 3) := by decide +kernel
theorem dL_isTold_62 : decode cL_isTold 62 = .ok (.iload 7, 2) := by decide +kernel
theorem dL_isTold_64 : decode cL_isTold 64 = .ok (.if_icmp .ne 50, 3) := by decide +kernel
theorem dL_isTold_67 : decode cL_isTold 67 = .ok (.aload_n 0, 1) := by decide +kernel
theorem dL_isTold_68 : decode cL_isTold 68 = .ok (.iconst 0, 1) := by decide +kernel
theorem dL_isTold_69 : decode cL_isTold 69 = .ok (.invokestatic 100, 3) := by decide +kernel
theorem dL_isTold_72 : decode cL_isTold 72 = .ok (.iload 5, 2) := by decide +kernel
theorem dL_isTold_74 : decode cL_isTold 74 = .ok (.if_icmp .ne 40, 3) := by decide +kernel
theorem dL_isTold_77 : decode cL_isTold 77 = .ok (.aload_n 0, 1) := by decide +kernel
theorem dL_isTold_78 : decode cL_isTold 78 = .ok (.iconst 1, 1) := by decide +kernel
theorem dL_isTold_79 : decode cL_isTold 79 = .ok (.invokestatic 100, 3) := by decide +kernel
theorem dL_isTold_82 : decode cL_isTold 82 = .ok (.iload 6, 2) := by decide +kernel
theorem dL_isTold_84 : decode cL_isTold 84 = .ok (.if_icmp .ne 30, 3) := by decide +kernel
theorem dL_isTold_87 : decode cL_isTold 87 = .ok (.aload_n 0, 1) := by decide +kernel
theorem dL_isTold_88 : decode cL_isTold 88 = .ok (.iconst 2, 1) := by decide +kernel
theorem dL_isTold_89 : decode cL_isTold 89 = .ok (.invokestatic 100, 3) := by decide +kernel
theorem dL_isTold_92 : decode cL_isTold 92 = .ok (.iload 7, 2) := by decide +kernel
theorem dL_isTold_94 : decode cL_isTold 94 = .ok (.if_icmp .ne 20, 3) := by decide +kernel
theorem dL_isTold_97 : decode cL_isTold 97 = .ok (.aload_n 0, 1) := by decide +kernel
theorem dL_isTold_98 : decode cL_isTold 98 = .ok (.invokevirtual 102, 3) := by decide +kernel
theorem dL_isTold_101 : decode cL_isTold 101 = .ok (.iconst (-1), 1) := by decide +kernel
theorem dL_isTold_102 : decode cL_isTold 102 = .ok (.iconst 0, 1) := by decide +kernel
theorem dL_isTold_103 : decode cL_isTold 103 = .ok (.aload_n 2, 1) := by decide +kernel
theorem dL_isTold_104 : decode cL_isTold 104 = .ok (.aload_n 3, 1) := by decide +kernel
theorem dL_isTold_105 : decode cL_isTold 105 = .ok (.aload 4, 2) := by decide +kernel
theorem dL_isTold_107 : decode cL_isTold 107 = .ok (.invokestatic 106, 3) := by decide +kernel
theorem dL_isTold_110 : decode cL_isTold 110 = .ok (.lcmp, 1) := by decide +kernel
theorem dL_isTold_111 : decode cL_isTold 111 = .ok (.ifCond .eq 5, 3) := by decide +kernel
theorem dL_isTold_114 : decode cL_isTold 114 = .ok (.iconst 0, 1) := by decide +kernel
theorem dL_isTold_115 : decode cL_isTold 115 = .ok (.ireturn, 1) := by decide +kernel
theorem dL_isTold_116 : decode cL_isTold 116 = .ok (.lconst 0, 1) := by decide +kernel
theorem dL_isTold_117 : decode cL_isTold 117 = .ok (.lstore 8, 2) := by decide +kernel
theorem dL_isTold_119 : decode cL_isTold 119 = .ok (.iconst (-1), 1) := by decide +kernel
theorem dL_isTold_120 : decode cL_isTold 120 = .ok (.istore 10, 2) := by decide +kernel
theorem dL_isTold_122 : decode cL_isTold 122 = .ok (.aload_n 3, 1) := by decide +kernel
theorem dL_isTold_123 : decode cL_isTold 123 = .ok (.iconst 0, 1) := by decide +kernel
theorem dL_isTold_124 : decode cL_isTold 124 = .ok (.iaload, 1) := by decide +kernel
theorem dL_isTold_125 : decode cL_isTold 125 = .ok (.iconst 1, 1) := by decide +kernel
theorem dL_isTold_126 : decode cL_isTold 126 = .ok (.isub, 1) := by decide +kernel
theorem dL_isTold_127 : decode cL_isTold 127 = .ok (.istore 11, 2) := by decide +kernel
theorem dL_isTold_129 : decode cL_isTold 129 = .ok (.iload 11, 2) := by decide +kernel
theorem dL_isTold_131 : decode cL_isTold 131 = .ok (.ifCond .lt 275, 3) := by decide +kernel
theorem dL_isTold_134 : decode cL_isTold 134 = .ok (.iconst 1, 1) := by decide +kernel
theorem dL_isTold_135 : decode cL_isTold 135 = .ok (.iload 11, 2) := by decide +kernel
theorem dL_isTold_137 : decode cL_isTold 137 = .ok (.iconst 1, 1) := by decide +kernel
theorem dL_isTold_138 : decode cL_isTold 138 = .ok (.aload_n 2, 1) := by decide +kernel
theorem dL_isTold_139 : decode cL_isTold 139 = .ok (.aload_n 3, 1) := by decide +kernel
theorem dL_isTold_140 : decode cL_isTold 140 = .ok (.aload 4, 2) := by decide +kernel
theorem dL_isTold_142 : decode cL_isTold 142 = .ok (.invokestatic 76, 3) := by decide +kernel
theorem dL_isTold_145 : decode cL_isTold 145 = .ok (.iload 5, 2) := by decide +kernel
theorem dL_isTold_147 : decode cL_isTold 147 = .ok (.isub, 1) := by decide +kernel
theorem dL_isTold_148 : decode cL_isTold 148 = .ok (.istore 12, 2) := by decide +kernel
theorem dL_isTold_150 : decode cL_isTold 150 = .ok (.iconst 0, 1) := by decide +kernel
theorem dL_isTold_151 : decode cL_isTold 151 = .ok (.iload 11, 2) := by decide +kernel
theorem dL_isTold_153 : decode cL_isTold 153 = .ok (.iconst 1, 1) := by decide +kernel
theorem dL_isTold_154 : decode cL_isTold 154 = .ok (.aload_n 2, 1) := by decide +kernel
theorem dL_isTold_155 : decode cL_isTold 155 = .ok (.aload_n 3, 1) := by decide +kernel
theorem dL_isTold_156 : decode cL_isTold 156 = .ok (.aload 4, 2) := by decide +kernel
theorem dL_isTold_158 : decode cL_isTold 158 = .ok (.invokestatic 76, 3) := by decide +kernel
theorem dL_isTold_161 : decode cL_isTold 161 = .ok (.iload 6, 2) := by decide +kernel
theorem dL_isTold_163 : decode cL_isTold 163 = .ok (.isub, 1) := by decide +kernel
theorem dL_isTold_164 : decode cL_isTold 164 = .ok (.istore 13, 2) := by decide +kernel
theorem dL_isTold_166 : decode cL_isTold 166 = .ok (.aload_n 0, 1) := by decide +kernel
theorem dL_isTold_167 : decode cL_isTold 167 = .ok (.iload 11, 2) := by decide +kernel
theorem dL_isTold_169 : decode cL_isTold 169 = .ok (.invokestatic 109, 3) := by decide +kernel
theorem dL_isTold_172 : decode cL_isTold 172 = .ok (.aload_n 2, 1) := by decide +kernel
theorem dL_isTold_173 : decode cL_isTold 173 = .ok (.iconst 5, 1) := by decide +kernel
theorem dL_isTold_174 : decode cL_isTold 174 = .ok (.iload 11, 2) := by decide +kernel
theorem dL_isTold_176 : decode cL_isTold 176 = .ok (.imul, 1) := by decide +kernel
theorem dL_isTold_177 : decode cL_isTold 177 = .ok (.iconst 4, 1) := by decide +kernel
theorem dL_isTold_178 : decode cL_isTold 178 = .ok (.iadd, 1) := by decide +kernel
theorem dL_isTold_179 : decode cL_isTold 179 = .ok (.iaload, 1) := by decide +kernel
theorem dL_isTold_180 : decode cL_isTold 180 = .ok (.if_icmp .ne 27, 3) := by decide +kernel
theorem dL_isTold_183 : decode cL_isTold 183 = .ok (.aload_n 0, 1) := by decide +kernel
theorem dL_isTold_184 : decode cL_isTold 184 = .ok (.iload 11, 2) := by decide +kernel
theorem dL_isTold_186 : decode cL_isTold 186 = .ok (.iconst 0, 1) := by decide +kernel
theorem dL_isTold_187 : decode cL_isTold 187 = .ok (.invokestatic 111, 3) := by decide +kernel
theorem dL_isTold_190 : decode cL_isTold 190 = .ok (.iload 12, 2) := by decide +kernel
theorem dL_isTold_192 : decode cL_isTold 192 = .ok (.if_icmp .ne 15, 3) := by decide +kernel
theorem dL_isTold_195 : decode cL_isTold 195 = .ok (.aload_n 0, 1) := by decide +kernel
theorem dL_isTold_196 : decode cL_isTold 196 = .ok (.iload 11, 2) := by decide +kernel
theorem dL_isTold_198 : decode cL_isTold 198 = .ok (.iconst 1, 1) := by decide +kernel
theorem dL_isTold_199 : decode cL_isTold 199 = .ok (.invokestatic 111, 3) := by decide +kernel
theorem dL_isTold_202 : decode cL_isTold 202 = .ok (.iload 13, 2) := by decide +kernel
theorem dL_isTold_204 : decode cL_isTold 204 = .ok (.if_icmp .eq 5, 3) := by decide +kernel
theorem dL_isTold_207 : decode cL_isTold 207 = .ok (.iconst 0, 1) := by decide +kernel
theorem dL_isTold_208 : decode cL_isTold 208 = .ok (.ireturn, 1) := by decide +kernel
theorem dL_isTold_209 : decode cL_isTold 209 = .ok (.iconst 0, 1) := by decide +kernel
theorem dL_isTold_210 : decode cL_isTold 210 = .ok (.istore 14, 2) := by decide +kernel
theorem dL_isTold_212 : decode cL_isTold 212 = .ok (.iload 14, 2) := by decide +kernel
theorem dL_isTold_214 : decode cL_isTold 214 = .ok (.iload 11, 2) := by decide +kernel
theorem dL_isTold_216 : decode cL_isTold 216 = .ok (.if_icmp .ge 82, 3) := by decide +kernel
theorem dL_isTold_219 : decode cL_isTold 219 = .ok (.iload 12, 2) := by decide +kernel
theorem dL_isTold_221 : decode cL_isTold 221 = .ok (.i2l, 1) := by decide +kernel
theorem dL_isTold_222 : decode cL_isTold 222 = .ok (.iconst 0, 1) := by decide +kernel
theorem dL_isTold_223 : decode cL_isTold 223 = .ok (.iload 14, 2) := by decide +kernel
theorem dL_isTold_225 : decode cL_isTold 225 = .ok (.iconst 1, 1) := by decide +kernel
theorem dL_isTold_226 : decode cL_isTold 226 = .ok (.aload_n 2, 1) := by decide +kernel
theorem dL_isTold_227 : decode cL_isTold 227 = .ok (.aload_n 3, 1) := by decide +kernel
theorem dL_isTold_228 : decode cL_isTold 228 = .ok (.aload 4, 2) := by decide +kernel
theorem dL_isTold_230 : decode cL_isTold 230 = .ok (.invokestatic 76, 3) := by decide +kernel
theorem dL_isTold_233 : decode cL_isTold 233 = .ok (.iload 6, 2) := by decide +kernel
theorem dL_isTold_235 : decode cL_isTold 235 = .ok (.isub, 1) := by decide +kernel
theorem dL_isTold_236 : decode cL_isTold 236 = .ok (.i2l, 1) := by decide +kernel
theorem dL_isTold_237 : decode cL_isTold 237 = .ok (.lmul, 1) := by decide +kernel
theorem dL_isTold_238 : decode cL_isTold 238 = .ok (.iload 13, 2) := by decide +kernel
theorem dL_isTold_240 : decode cL_isTold 240 = .ok (.i2l, 1) := by decide +kernel
theorem dL_isTold_241 : decode cL_isTold 241 = .ok (.iconst 1, 1) := by decide +kernel
theorem dL_isTold_242 : decode cL_isTold 242 = .ok (.iload 14, 2) := by decide +kernel
theorem dL_isTold_244 : decode cL_isTold 244 = .ok (.iconst 1, 1) := by decide +kernel
theorem dL_isTold_245 : decode cL_isTold 245 = .ok (.aload_n 2, 1) := by decide +kernel
theorem dL_isTold_246 : decode cL_isTold 246 = .ok (.aload_n 3, 1) := by decide +kernel
theorem dL_isTold_247 : decode cL_isTold 247 = .ok (.aload 4, 2) := by decide +kernel
theorem dL_isTold_249 : decode cL_isTold 249 = .ok (.invokestatic 76, 3) := by decide +kernel
theorem dL_isTold_252 : decode cL_isTold 252 = .ok (.iload 5, 2) := by decide +kernel
theorem dL_isTold_254 : decode cL_isTold 254 = .ok (.isub, 1) := by decide +kernel
theorem dL_isTold_255 : decode cL_isTold 255 = .ok (.i2l, 1) := by decide +kernel
theorem dL_isTold_256 : decode cL_isTold 256 = .ok (.lmul, 1) := by decide +kernel
theorem dL_isTold_257 : decode cL_isTold 257 = .ok (.lsub, 1) := by decide +kernel
theorem dL_isTold_258 : decode cL_isTold 258 = .ok (.lstore 15, 2) := by decide +kernel
theorem dL_isTold_260 : decode cL_isTold 260 = .ok (.lload 15, 2) := by decide +kernel
theorem dL_isTold_262 : decode cL_isTold 262 = .ok (.lload 8, 2) := by decide +kernel
theorem dL_isTold_264 : decode cL_isTold 264 = .ok (.lcmp, 1) := by decide +kernel
theorem dL_isTold_265 : decode cL_isTold 265 = .ok (.ifCond .le 8, 3) := by decide +kernel
theorem dL_isTold_268 : decode cL_isTold 268 = .ok (.lload 15, 2) := by decide +kernel
theorem dL_isTold_270 : decode cL_isTold 270 = .ok (.goto 20, 3) := by decide +kernel
theorem dL_isTold_273 : decode cL_isTold 273 = .ok (.lload 15, 2) := by decide +kernel
theorem dL_isTold_275 : decode cL_isTold 275 = .ok (.lneg, 1) := by decide +kernel
theorem dL_isTold_276 : decode cL_isTold 276 = .ok (.lload 8, 2) := by decide +kernel
theorem dL_isTold_278 : decode cL_isTold 278 = .ok (.lcmp, 1) := by decide +kernel
theorem dL_isTold_279 : decode cL_isTold 279 = .ok (.ifCond .le 9, 3) := by decide +kernel
theorem dL_isTold_282 : decode cL_isTold 282 = .ok (.lload 15, 2) := by decide +kernel
theorem dL_isTold_284 : decode cL_isTold 284 = .ok (.lneg, 1) := by decide +kernel
theorem dL_isTold_285 : decode cL_isTold 285 = .ok (.goto 5, 3) := by decide +kernel
theorem dL_isTold_288 : decode cL_isTold 288 = .ok (.lload 8, 2) := by decide +kernel
theorem dL_isTold_290 : decode cL_isTold 290 = .ok (.lstore 8, 2) := by decide +kernel
theorem dL_isTold_292 : decode cL_isTold 292 = .ok (.iinc 14 1, 3) := by decide +kernel
theorem dL_isTold_295 : decode cL_isTold 295 = .ok (.goto (-83), 3) := by decide +kernel
theorem dL_isTold_298 : decode cL_isTold 298 = .ok (.aload_n 2, 1) := by decide +kernel
