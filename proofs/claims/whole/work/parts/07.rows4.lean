theorem dX6_joint_75 : decode cX6_joint 75 = .ok (.iconst 5, 1) := by decide +kernel
theorem dX6_joint_76 : decode cX6_joint 76 = .ok (.if_icmp .ne 7, 3) := by decide +kernel
theorem dX6_joint_79 : decode cX6_joint 79 = .ok (.iconst 2, 1) := by decide +kernel
theorem dX6_joint_80 : decode cX6_joint 80 = .ok (.goto 4, 3) := by decide +kernel
theorem dX6_joint_83 : decode cX6_joint 83 = .ok (.iconst 0, 1) := by decide +kernel
theorem dX6_joint_84 : decode cX6_joint 84 = .ok (.putfield 45, 3) := by decide +kernel
theorem dX6_joint_87 : decode cX6_joint 87 = .ok (.aload_n 0, 1) := by decide +kernel
theorem dX6_joint_88 : decode cX6_joint 88 = .ok (.getfield 45, 3) := by decide +kernel
theorem dX6_joint_91 : decode cX6_joint 91 = .ok (.ifCond .le 5, 3) := by decide +kernel
theorem dX6_joint_94 : decode cX6_joint 94 = .ok (.iconst 0, 1) := by decide +kernel
theorem dX6_joint_95 : decode cX6_joint 95 = .ok (.ireturn, 1) := by decide +kernel
theorem dX6_joint_96 : decode cX6_joint 96 = .ok (.aload_n 0, 1) := by decide +kernel
theorem dX6_joint_97 : decode cX6_joint 97 = .ok (.getfield 7, 3) := by decide +kernel
theorem dX6_joint_100 : decode cX6_joint 100 = .ok (.aload_n 0, 1) := by decide +kernel
theorem dX6_joint_101 : decode cX6_joint 101 = .ok (.getfield 48, 3) := by decide +kernel
theorem dX6_joint_104 : decode cX6_joint 104 = .ok (.iload_n 1, 1) := by decide +kernel
theorem dX6_joint_105 : decode cX6_joint 105 = .ok (.iastore, 1) := by decide +kernel
theorem dX6_joint_106 : decode cX6_joint 106 = .ok (.aload_n 0, 1) := by decide +kernel
theorem dX6_joint_107 : decode cX6_joint 107 = .ok (.getfield 13, 3) := by decide +kernel
theorem dX6_joint_110 : decode cX6_joint 110 = .ok (.aload_n 0, 1) := by decide +kernel
theorem dX6_joint_111 : decode cX6_joint 111 = .ok (.getfield 48, 3) := by decide +kernel
theorem dX6_joint_114 : decode cX6_joint 114 = .ok (.iload_n 2, 1) := by decide +kernel
theorem dX6_joint_115 : decode cX6_joint 115 = .ok (.iastore, 1) := by decide +kernel
theorem dX6_joint_116 : decode cX6_joint 116 = .ok (.aload_n 0, 1) := by decide +kernel
theorem dX6_joint_117 : decode cX6_joint 117 = .ok (.getfield 16, 3) := by decide +kernel
theorem dX6_joint_120 : decode cX6_joint 120 = .ok (.aload_n 0, 1) := by decide +kernel
theorem dX6_joint_121 : decode cX6_joint 121 = .ok (.getfield 48, 3) := by decide +kernel
theorem dX6_joint_124 : decode cX6_joint 124 = .ok (.iload_n 3, 1) := by decide +kernel
theorem dX6_joint_125 : decode cX6_joint 125 = .ok (.iastore, 1) := by decide +kernel
theorem dX6_joint_126 : decode cX6_joint 126 = .ok (.aload_n 0, 1) := by decide +kernel
theorem dX6_joint_127 : decode cX6_joint 127 = .ok (.getfield 19, 3) := by decide +kernel
theorem dX6_joint_130 : decode cX6_joint 130 = .ok (.aload_n 0, 1) := by decide +kernel
theorem dX6_joint_131 : decode cX6_joint 131 = .ok (.getfield 48, 3) := by decide +kernel
theorem dX6_joint_134 : decode cX6_joint 134 = .ok (.iload 4, 2) := by decide +kernel
theorem dX6_joint_136 : decode cX6_joint 136 = .ok (.iastore, 1) := by decide +kernel
theorem dX6_joint_137 : decode cX6_joint 137 = .ok (.aload_n 0, 1) := by decide +kernel
theorem dX6_joint_138 : decode cX6_joint 138 = .ok (.getfield 22, 3) := by decide +kernel
theorem dX6_joint_141 : decode cX6_joint 141 = .ok (.aload_n 0, 1) := by decide +kernel
theorem dX6_joint_142 : decode cX6_joint 142 = .ok (.getfield 48, 3) := by decide +kernel
theorem dX6_joint_145 : decode cX6_joint 145 = .ok (.iconst 0, 1) := by decide +kernel
theorem dX6_joint_146 : decode cX6_joint 146 = .ok (.iload_n 3, 1) := by decide +kernel
theorem dX6_joint_147 : decode cX6_joint 147 = .ok (.iload 4, 2) := by decide +kernel
theorem dX6_joint_149 : decode cX6_joint 149 = .ok (.invokestatic 96, 3) := by decide +kernel
theorem dX6_joint_152 : decode cX6_joint 152 = .ok (.iastore, 1) := by decide +kernel
theorem dX6_joint_153 : decode cX6_joint 153 = .ok (.aload_n 0, 1) := by decide +kernel
theorem dX6_joint_154 : decode cX6_joint 154 = .ok (.dup, 1) := by decide +kernel
theorem dX6_joint_155 : decode cX6_joint 155 = .ok (.getfield 48, 3) := by decide +kernel
theorem dX6_joint_158 : decode cX6_joint 158 = .ok (.iconst 1, 1) := by decide +kernel
theorem dX6_joint_159 : decode cX6_joint 159 = .ok (.iadd, 1) := by decide +kernel
theorem dX6_joint_160 : decode cX6_joint 160 = .ok (.putfield 48, 3) := by decide +kernel
theorem dX6_joint_163 : decode cX6_joint 163 = .ok (.aload_n 0, 1) := by decide +kernel
theorem dX6_joint_164 : decode cX6_joint 164 = .ok (.getfield 48, 3) := by decide +kernel
theorem dX6_joint_167 : decode cX6_joint 167 = .ok (.iconst 1, 1) := by decide +kernel
theorem dX6_joint_168 : decode cX6_joint 168 = .ok (.isub, 1) := by decide +kernel
theorem dX6_joint_169 : decode cX6_joint 169 = .ok (.ireturn, 1) := by decide +kernel
set_option maxRecDepth 20000 in
theorem ggX6_set_X6_isJoint : GoodIn wsX6_set wsX6_isJoint := goodIn_r _ [9, 10, 11, 12, 8, 13, 14, 15, 16, 17, 18, 19, 20, 21, 22, 23, 24, 25, 26, 27, 28, 29, 30, 31, 32] (by decide +kernel) (by decide +kernel)
set_option maxRecDepth 20000 in
theorem gX6_set_X6_isJoint : GoodIn wsX6_set (wsV RX6 100 RX6 yX6_isJoint wsX6_isJoint) := goodIn_app (goodIn_of _ (by decide +kernel)) ggX6_set_X6_isJoint
set_option maxRecDepth 20000 in
theorem ggX6_set_X6_in : GoodIn wsX6_set wsX6_in := goodIn_r _ [13] (by decide +kernel) (by decide +kernel)
set_option maxRecDepth 20000 in
theorem gX6_set_X6_in : GoodIn wsX6_set (va_wsS RX6 51 yX6_in wsX6_in) := goodIn_app (goodIn_of _ (by decide +kernel)) ggX6_set_X6_in
theorem dX6_set_0 : decode cX6_set 0 = .ok (.aload_n 0, 1) := by decide +kernel
theorem dX6_set_1 : decode cX6_set 1 = .ok (.aload_n 0, 1) := by decide +kernel
theorem dX6_set_2 : decode cX6_set 2 = .ok (.iload_n 1, 1) := by decide +kernel
theorem dX6_set_3 : decode cX6_set 3 = .ok (.invokevirtual 100, 3) := by decide +kernel
theorem dX6_set_6 : decode cX6_set 6 = .ok (.ifCond .ne 7, 3) := by decide +kernel
theorem dX6_set_9 : decode cX6_set 9 = .ok (.iconst 1, 1) := by decide +kernel
theorem dX6_set_10 : decode cX6_set 10 = .ok (.goto 27, 3) := by decide +kernel
theorem dX6_set_13 : decode cX6_set 13 = .ok (.iload_n 2, 1) := by decide +kernel
theorem dX6_set_14 : decode cX6_set 14 = .ok (.aload_n 0, 1) := by decide +kernel
theorem dX6_set_15 : decode cX6_set 15 = .ok (.getfield 16, 3) := by decide +kernel
theorem dX6_set_18 : decode cX6_set 18 = .ok (.iload_n 1, 1) := by decide +kernel
theorem dX6_set_19 : decode cX6_set 19 = .ok (.iaload, 1) := by decide +kernel
theorem dX6_set_20 : decode cX6_set 20 = .ok (.aload_n 0, 1) := by decide +kernel
theorem dX6_set_21 : decode cX6_set 21 = .ok (.getfield 19, 3) := by decide +kernel
theorem dX6_set_24 : decode cX6_set 24 = .ok (.iload_n 1, 1) := by decide +kernel
theorem dX6_set_25 : decode cX6_set 25 = .ok (.iaload, 1) := by decide +kernel
theorem dX6_set_26 : decode cX6_set 26 = .ok (.invokestatic 51, 3) := by decide +kernel
theorem dX6_set_29 : decode cX6_set 29 = .ok (.ifCond .eq 7, 3) := by decide +kernel
theorem dX6_set_32 : decode cX6_set 32 = .ok (.iconst 0, 1) := by decide +kernel
theorem dX6_set_33 : decode cX6_set 33 = .ok (.goto 4, 3) := by decide +kernel
theorem dX6_set_36 : decode cX6_set 36 = .ok (.iconst 2, 1) := by decide +kernel
theorem dX6_set_37 : decode cX6_set 37 = .ok (.putfield 45, 3) := by decide +kernel
theorem dX6_set_40 : decode cX6_set 40 = .ok (.aload_n 0, 1) := by decide +kernel
theorem dX6_set_41 : decode cX6_set 41 = .ok (.getfield 45, 3) := by decide +kernel
theorem dX6_set_44 : decode cX6_set 44 = .ok (.ifCond .le 5, 3) := by decide +kernel
theorem dX6_set_47 : decode cX6_set 47 = .ok (.iconst 0, 1) := by decide +kernel
theorem dX6_set_48 : decode cX6_set 48 = .ok (.ireturn, 1) := by decide +kernel
theorem dX6_set_49 : decode cX6_set 49 = .ok (.aload_n 0, 1) := by decide +kernel
theorem dX6_set_50 : decode cX6_set 50 = .ok (.getfield 22, 3) := by decide +kernel
theorem dX6_set_53 : decode cX6_set 53 = .ok (.iload_n 1, 1) := by decide +kernel
theorem dX6_set_54 : decode cX6_set 54 = .ok (.iaload, 1) := by decide +kernel
theorem dX6_set_55 : decode cX6_set 55 = .ok (.istore_n 3, 1) := by decide +kernel
theorem dX6_set_56 : decode cX6_set 56 = .ok (.aload_n 0, 1) := by decide +kernel
theorem dX6_set_57 : decode cX6_set 57 = .ok (.getfield 22, 3) := by decide +kernel
theorem dX6_set_60 : decode cX6_set 60 = .ok (.iload_n 1, 1) := by decide +kernel
theorem dX6_set_61 : decode cX6_set 61 = .ok (.iload_n 2, 1) := by decide +kernel
theorem dX6_set_62 : decode cX6_set 62 = .ok (.iastore, 1) := by decide +kernel
theorem dX6_set_63 : decode cX6_set 63 = .ok (.iload_n 3, 1) := by decide +kernel
theorem dX6_set_64 : decode cX6_set 64 = .ok (.ireturn, 1) := by decide +kernel
set_option maxRecDepth 20000 in
theorem ggX6_value_X6_isJoint : GoodIn wsX6_value wsX6_isJoint := goodIn_r _ [7, 8, 9, 10, 6, 11, 12, 13, 14, 15, 16, 17, 18, 19, 20, 21, 22, 23, 24, 25, 26, 27, 28, 29, 30] (by decide +kernel) (by decide +kernel)
set_option maxRecDepth 20000 in
theorem gX6_value_X6_isJoint : GoodIn wsX6_value (wsV RX6 100 RX6 yX6_isJoint wsX6_isJoint) := goodIn_app (goodIn_of _ (by decide +kernel)) ggX6_value_X6_isJoint
theorem dX6_value_0 : decode cX6_value 0 = .ok (.aload_n 0, 1) := by decide +kernel
theorem dX6_value_1 : decode cX6_value 1 = .ok (.aload_n 0, 1) := by decide +kernel
theorem dX6_value_2 : decode cX6_value 2 = .ok (.iload_n 1, 1) := by decide +kernel
theorem dX6_value_3 : decode cX6_value 3 = .ok (.invokevirtual 100, 3) := by decide +kernel
theorem dX6_value_6 : decode cX6_value 6 = .ok (.ifCond .eq 7, 3) := by decide +kernel
theorem dX6_value_9 : decode cX6_value 9 = .ok (.iconst 0, 1) := by decide +kernel
theorem dX6_value_10 : decode cX6_value 10 = .ok (.goto 4, 3) := by decide +kernel
theorem dX6_value_13 : decode cX6_value 13 = .ok (.iconst 1, 1) := by decide +kernel
theorem dX6_value_14 : decode cX6_value 14 = .ok (.putfield 45, 3) := by decide +kernel
theorem dX6_value_17 : decode cX6_value 17 = .ok (.aload_n 0, 1) := by decide +kernel
theorem dX6_value_18 : decode cX6_value 18 = .ok (.getfield 45, 3) := by decide +kernel
theorem dX6_value_21 : decode cX6_value 21 = .ok (.ifCond .le 7, 3) := by decide +kernel
theorem dX6_value_24 : decode cX6_value 24 = .ok (.iconst 0, 1) := by decide +kernel
theorem dX6_value_25 : decode cX6_value 25 = .ok (.goto 9, 3) := by decide +kernel
theorem dX6_value_28 : decode cX6_value 28 = .ok (.aload_n 0, 1) := by decide +kernel
theorem dX6_value_29 : decode cX6_value 29 = .ok (.getfield 22, 3) := by decide +kernel
theorem dX6_value_32 : decode cX6_value 32 = .ok (.iload_n 1, 1) := by decide +kernel
theorem dX6_value_33 : decode cX6_value 33 = .ok (.iaload, 1) := by decide +kernel
theorem dX6_value_34 : decode cX6_value 34 = .ok (.ireturn, 1) := by decide +kernel
set_option maxRecDepth 20000 in
theorem ggX6_tip_X6_in : GoodIn wsX6_tip wsX6_in := goodIn_r _ [8] (by decide +kernel) (by decide +kernel)
set_option maxRecDepth 20000 in
theorem gX6_tip_X6_in : GoodIn wsX6_tip (va_wsS RX6 51 yX6_in wsX6_in) := goodIn_app (goodIn_of _ (by decide +kernel)) ggX6_tip_X6_in
set_option maxRecDepth 20000 in
theorem ggX6_tip_X6_looksNow : GoodIn wsX6_tip wsX6_looksNow := goodIn_r _ [12, 13, 14, 15, 7, 16, 17, 18, 19, 20, 21, 22, 23, 2, 3, 4, 24, 25, 26, 27, 28, 29, 30, 31, 32, 33, 34, 35, 36, 37, 38, 39, 40, 41, 42, 43, 44, 45, 46, 47, 48, 49, 50, 51, 52, 53] (by decide +kernel) (by decide +kernel)
set_option maxRecDepth 20000 in
theorem gX6_tip_X6_looksNow : GoodIn wsX6_tip (wsV RX6 86 RX6 yX6_looksNow wsX6_looksNow) := goodIn_app (goodIn_of _ (by decide +kernel)) ggX6_tip_X6_looksNow
theorem dX6_tip_0 : decode cX6_tip 0 = .ok (.aload_n 0, 1) := by decide +kernel
theorem dX6_tip_1 : decode cX6_tip 1 = .ok (.iload_n 1, 1) := by decide +kernel
theorem dX6_tip_2 : decode cX6_tip 2 = .ok (.iconst 0, 1) := by decide +kernel
theorem dX6_tip_3 : decode cX6_tip 3 = .ok (.iconst 2, 1) := by decide +kernel
theorem dX6_tip_4 : decode cX6_tip 4 = .ok (.invokestatic 51, 3) := by decide +kernel
theorem dX6_tip_7 : decode cX6_tip 7 = .ok (.ifCond .eq 7, 3) := by decide +kernel
theorem dX6_tip_10 : decode cX6_tip 10 = .ok (.iconst 0, 1) := by decide +kernel
theorem dX6_tip_11 : decode cX6_tip 11 = .ok (.goto 4, 3) := by decide +kernel
theorem dX6_tip_14 : decode cX6_tip 14 = .ok (.iconst 1, 1) := by decide +kernel
theorem dX6_tip_15 : decode cX6_tip 15 = .ok (.putfield 45, 3) := by decide +kernel
theorem dX6_tip_18 : decode cX6_tip 18 = .ok (.aload_n 0, 1) := by decide +kernel
theorem dX6_tip_19 : decode cX6_tip 19 = .ok (.getfield 45, 3) := by decide +kernel
theorem dX6_tip_22 : decode cX6_tip 22 = .ok (.ifCond .le 5, 3) := by decide +kernel
theorem dX6_tip_25 : decode cX6_tip 25 = .ok (.iconst 0, 1) := by decide +kernel
theorem dX6_tip_26 : decode cX6_tip 26 = .ok (.ireturn, 1) := by decide +kernel
theorem dX6_tip_27 : decode cX6_tip 27 = .ok (.aload_n 0, 1) := by decide +kernel
theorem dX6_tip_28 : decode cX6_tip 28 = .ok (.invokevirtual 86, 3) := by decide +kernel
theorem dX6_tip_31 : decode cX6_tip 31 = .ok (.iload_n 1, 1) := by decide +kernel
theorem dX6_tip_32 : decode cX6_tip 32 = .ok (.ifCond .ne 10, 3) := by decide +kernel
theorem dX6_tip_35 : decode cX6_tip 35 = .ok (.aload_n 0, 1) := by decide +kernel
theorem dX6_tip_36 : decode cX6_tip 36 = .ok (.getfield 59, 3) := by decide +kernel
theorem dX6_tip_39 : decode cX6_tip 39 = .ok (.goto 19, 3) := by decide +kernel
theorem dX6_tip_42 : decode cX6_tip 42 = .ok (.iload_n 1, 1) := by decide +kernel
theorem dX6_tip_43 : decode cX6_tip 43 = .ok (.iconst 1, 1) := by decide +kernel
theorem dX6_tip_44 : decode cX6_tip 44 = .ok (.if_icmp .ne 10, 3) := by decide +kernel
theorem dX6_tip_47 : decode cX6_tip 47 = .ok (.aload_n 0, 1) := by decide +kernel
theorem dX6_tip_48 : decode cX6_tip 48 = .ok (.getfield 62, 3) := by decide +kernel
theorem dX6_tip_51 : decode cX6_tip 51 = .ok (.goto 7, 3) := by decide +kernel
theorem dX6_tip_54 : decode cX6_tip 54 = .ok (.aload_n 0, 1) := by decide +kernel
theorem dX6_tip_55 : decode cX6_tip 55 = .ok (.getfield 65, 3) := by decide +kernel
theorem dX6_tip_58 : decode cX6_tip 58 = .ok (.ireturn, 1) := by decide +kernel
set_option maxRecDepth 20000 in
theorem ggX6_tipAnew_X6_tip : GoodIn wsX6_tipAnew wsX6_tip := goodIn_r _ [5, 6, 7, 8, 9, 10, 11, 4, 12, 13, 14, 15, 16, 17, 18, 19, 20, 21, 22, 23, 24, 25, 26, 27, 28, 29, 30, 31, 32, 33, 34, 35, 36, 37, 38, 39, 40, 41, 42, 43, 44, 45, 46, 47, 48, 49, 50, 51, 52, 53, 54, 55, 56, 57] (by decide +kernel) (by decide +kernel)
set_option maxRecDepth 20000 in
theorem gX6_tipAnew_X6_tip : GoodIn wsX6_tipAnew (wsV RX6 104 RX6 yX6_tip wsX6_tip) := goodIn_app (goodIn_of _ (by decide +kernel)) ggX6_tipAnew_X6_tip
theorem dX6_tipAnew_0 : decode cX6_tipAnew 0 = .ok (.aload_n 0, 1) := by decide +kernel
theorem dX6_tipAnew_1 : decode cX6_tipAnew 1 = .ok (.iload_n 1, 1) := by decide +kernel
theorem dX6_tipAnew_2 : decode cX6_tipAnew 2 = .ok (.invokevirtual 104, 3) := by decide +kernel
theorem dX6_tipAnew_5 : decode cX6_tipAnew 5 = .ok (.ireturn, 1) := by decide +kernel
set_option maxRecDepth 20000 in
theorem ggX6_findsMoves_X6_looksNow : GoodIn wsX6_findsMoves wsX6_looksNow := goodIn_r _ [11, 12, 13, 14, 10, 15, 3, 4, 16, 17, 18, 19, 20, 1, 2, 21, 22, 23, 24, 25, 26, 27, 28, 29, 30, 31, 32, 33, 34, 35, 36, 37, 38, 39, 40, 41, 42, 43, 44, 45, 46, 47, 48, 49, 50, 51] (by decide +kernel) (by decide +kernel)
set_option maxRecDepth 20000 in
theorem gX6_findsMoves_X6_looksNow : GoodIn wsX6_findsMoves (wsV RX6 86 RX6 yX6_looksNow wsX6_looksNow) := goodIn_app (goodIn_of _ (by decide +kernel)) ggX6_findsMoves_X6_looksNow
set_option maxRecDepth 20000 in
theorem ggX6_findsMoves_X6_copiesPose : GoodIn wsX6_findsMoves wsX6_copiesPose := goodIn_r _ [15, 3, 4, 16, 33, 34, 35, 36, 37, 38, 39, 40, 41, 42, 43, 44, 45, 46, 47, 48, 49, 50, 51] (by decide +kernel) (by decide +kernel)
set_option maxRecDepth 20000 in
theorem gX6_findsMoves_X6_copiesPose : GoodIn wsX6_findsMoves (wsV RX6 74 RX6 yX6_copiesPose wsX6_copiesPose) := goodIn_app (goodIn_of _ (by decide +kernel)) ggX6_findsMoves_X6_copiesPose
set_option maxRecDepth 20000 in
theorem ggX6_findsMoves_X6_looks : GoodIn wsX6_findsMoves wsX6_looks := goodIn_r _ [20, 1, 2, 21, 3, 22, 23, 4, 24, 25, 10, 26, 27, 28, 29, 30, 31, 32, 33, 34, 35, 36, 37, 38, 39, 40, 41, 42, 43, 44, 45, 46, 47, 48, 49, 50, 51] (by decide +kernel) (by decide +kernel)
set_option maxRecDepth 20000 in
theorem gX6_findsMoves_X6_looks : GoodIn wsX6_findsMoves (wsV RX6 77 RX6 yX6_looks wsX6_looks) := goodIn_app (goodIn_of _ (by decide +kernel)) ggX6_findsMoves_X6_looks
theorem dX6_findsMoves_0 : decode cX6_findsMoves 0 = .ok (.aload_n 0, 1) := by decide +kernel
theorem dX6_findsMoves_1 : decode cX6_findsMoves 1 = .ok (.invokevirtual 86, 3) := by decide +kernel
theorem dX6_findsMoves_4 : decode cX6_findsMoves 4 = .ok (.aload_n 0, 1) := by decide +kernel
theorem dX6_findsMoves_5 : decode cX6_findsMoves 5 = .ok (.getfield 59, 3) := by decide +kernel
theorem dX6_findsMoves_8 : decode cX6_findsMoves 8 = .ok (.istore_n 1, 1) := by decide +kernel
theorem dX6_findsMoves_9 : decode cX6_findsMoves 9 = .ok (.aload_n 0, 1) := by decide +kernel
theorem dX6_findsMoves_10 : decode cX6_findsMoves 10 = .ok (.getfield 62, 3) := by decide +kernel
theorem dX6_findsMoves_13 : decode cX6_findsMoves 13 = .ok (.istore_n 2, 1) := by decide +kernel
theorem dX6_findsMoves_14 : decode cX6_findsMoves 14 = .ok (.iconst 0, 1) := by decide +kernel
theorem dX6_findsMoves_15 : decode cX6_findsMoves 15 = .ok (.istore_n 3, 1) := by decide +kernel
theorem dX6_findsMoves_16 : decode cX6_findsMoves 16 = .ok (.iload_n 3, 1) := by decide +kernel
theorem dX6_findsMoves_17 : decode cX6_findsMoves 17 = .ok (.aload_n 0, 1) := by decide +kernel
theorem dX6_findsMoves_18 : decode cX6_findsMoves 18 = .ok (.getfield 48, 3) := by decide +kernel
theorem dX6_findsMoves_21 : decode cX6_findsMoves 21 = .ok (.if_icmp .ge 51, 3) := by decide +kernel
theorem dX6_findsMoves_24 : decode cX6_findsMoves 24 = .ok (.aload_n 0, 1) := by decide +kernel
theorem dX6_findsMoves_25 : decode cX6_findsMoves 25 = .ok (.invokevirtual 74, 3) := by decide +kernel
theorem dX6_findsMoves_28 : decode cX6_findsMoves 28 = .ok (.aload_n 0, 1) := by decide +kernel
theorem dX6_findsMoves_29 : decode cX6_findsMoves 29 = .ok (.getfield 29, 3) := by decide +kernel
theorem dX6_findsMoves_32 : decode cX6_findsMoves 32 = .ok (.iload_n 3, 1) := by decide +kernel
theorem dX6_findsMoves_33 : decode cX6_findsMoves 33 = .ok (.dup2, 1) := by decide +kernel
theorem dX6_findsMoves_34 : decode cX6_findsMoves 34 = .ok (.iaload, 1) := by decide +kernel
theorem dX6_findsMoves_35 : decode cX6_findsMoves 35 = .ok (.iconst 1, 1) := by decide +kernel
theorem dX6_findsMoves_36 : decode cX6_findsMoves 36 = .ok (.iadd, 1) := by decide +kernel
theorem dX6_findsMoves_37 : decode cX6_findsMoves 37 = .ok (.iastore, 1) := by decide +kernel
theorem dX6_findsMoves_38 : decode cX6_findsMoves 38 = .ok (.aload_n 0, 1) := by decide +kernel
theorem dX6_findsMoves_39 : decode cX6_findsMoves 39 = .ok (.invokevirtual 77, 3) := by decide +kernel
theorem dX6_findsMoves_42 : decode cX6_findsMoves 42 = .ok (.aload_n 0, 1) := by decide +kernel
theorem dX6_findsMoves_43 : decode cX6_findsMoves 43 = .ok (.getfield 32, 3) := by decide +kernel
theorem dX6_findsMoves_46 : decode cX6_findsMoves 46 = .ok (.iload_n 3, 1) := by decide +kernel
theorem dX6_findsMoves_47 : decode cX6_findsMoves 47 = .ok (.aload_n 0, 1) := by decide +kernel
theorem dX6_findsMoves_48 : decode cX6_findsMoves 48 = .ok (.getfield 59, 3) := by decide +kernel
theorem dX6_findsMoves_51 : decode cX6_findsMoves 51 = .ok (.iload_n 1, 1) := by decide +kernel
theorem dX6_findsMoves_52 : decode cX6_findsMoves 52 = .ok (.isub, 1) := by decide +kernel
theorem dX6_findsMoves_53 : decode cX6_findsMoves 53 = .ok (.iastore, 1) := by decide +kernel
theorem dX6_findsMoves_54 : decode cX6_findsMoves 54 = .ok (.aload_n 0, 1) := by decide +kernel
theorem dX6_findsMoves_55 : decode cX6_findsMoves 55 = .ok (.getfield 35, 3) := by decide +kernel
theorem dX6_findsMoves_58 : decode cX6_findsMoves 58 = .ok (.iload_n 3, 1) := by decide +kernel
theorem dX6_findsMoves_59 : decode cX6_findsMoves 59 = .ok (.aload_n 0, 1) := by decide +kernel
theorem dX6_findsMoves_60 : decode cX6_findsMoves 60 = .ok (.getfield 62, 3) := by decide +kernel
theorem dX6_findsMoves_63 : decode cX6_findsMoves 63 = .ok (.iload_n 2, 1) := by decide +kernel
theorem dX6_findsMoves_64 : decode cX6_findsMoves 64 = .ok (.isub, 1) := by decide +kernel
theorem dX6_findsMoves_65 : decode cX6_findsMoves 65 = .ok (.iastore, 1) := by decide +kernel
theorem dX6_findsMoves_66 : decode cX6_findsMoves 66 = .ok (.iinc 3 1, 3) := by decide +kernel
theorem dX6_findsMoves_69 : decode cX6_findsMoves 69 = .ok (.goto (-53), 3) := by decide +kernel
theorem dX6_findsMoves_72 : decode cX6_findsMoves 72 = .ok (.return_, 1) := by decide +kernel
set_option maxRecDepth 20000 in
theorem ggX6_moves_X6_isJoint : GoodIn wsX6_moves wsX6_isJoint := goodIn_r _ [8, 9, 10, 11, 7, 12, 45, 46, 47, 48, 49, 50, 51, 52, 53, 54, 55, 56, 57, 58, 59, 60, 61, 62, 63] (by decide +kernel) (by decide +kernel)
set_option maxRecDepth 20000 in
theorem gX6_moves_X6_isJoint : GoodIn wsX6_moves (wsV RX6 100 RX6 yX6_isJoint wsX6_isJoint) := goodIn_app (goodIn_of _ (by decide +kernel)) ggX6_moves_X6_isJoint
set_option maxRecDepth 20000 in
theorem ggX6_moves_X6_in : GoodIn wsX6_moves wsX6_in := goodIn_r _ [12] (by decide +kernel) (by decide +kernel)
set_option maxRecDepth 20000 in
theorem gX6_moves_X6_in : GoodIn wsX6_moves (va_wsS RX6 51 yX6_in wsX6_in) := goodIn_app (goodIn_of _ (by decide +kernel)) ggX6_moves_X6_in
set_option maxRecDepth 20000 in
theorem ggX6_moves_X6_findsMoves : GoodIn wsX6_moves wsX6_findsMoves := goodIn_r _ [16, 17, 18, 9, 19, 2, 3, 20, 21, 22, 7, 23, 24, 25, 26, 27, 28, 29, 30, 31, 32, 33, 34, 35, 36, 37, 38, 39, 40, 41, 42, 43, 44, 45, 46, 47, 48, 49, 50, 51, 52, 53, 54, 55, 56, 57, 58, 59, 60, 61, 62, 63] (by decide +kernel) (by decide +kernel)
set_option maxRecDepth 20000 in
theorem gX6_moves_X6_findsMoves : GoodIn wsX6_moves (wsV RX6 107 RX6 yX6_findsMoves wsX6_findsMoves) := goodIn_app (goodIn_of _ (by decide +kernel)) ggX6_moves_X6_findsMoves
theorem dX6_moves_0 : decode cX6_moves 0 = .ok (.aload_n 0, 1) := by decide +kernel
theorem dX6_moves_1 : decode cX6_moves 1 = .ok (.aload_n 0, 1) := by decide +kernel
theorem dX6_moves_2 : decode cX6_moves 2 = .ok (.iload_n 1, 1) := by decide +kernel
theorem dX6_moves_3 : decode cX6_moves 3 = .ok (.invokevirtual 100, 3) := by decide +kernel
theorem dX6_moves_6 : decode cX6_moves 6 = .ok (.ifCond .ne 7, 3) := by decide +kernel
theorem dX6_moves_9 : decode cX6_moves 9 = .ok (.iconst 1, 1) := by decide +kernel
theorem dX6_moves_10 : decode cX6_moves 10 = .ok (.goto 17, 3) := by decide +kernel
theorem dX6_moves_13 : decode cX6_moves 13 = .ok (.iload_n 2, 1) := by decide +kernel
theorem dX6_moves_14 : decode cX6_moves 14 = .ok (.iconst 0, 1) := by decide +kernel
theorem dX6_moves_15 : decode cX6_moves 15 = .ok (.iconst 1, 1) := by decide +kernel
theorem dX6_moves_16 : decode cX6_moves 16 = .ok (.invokestatic 51, 3) := by decide +kernel
theorem dX6_moves_19 : decode cX6_moves 19 = .ok (.ifCond .eq 7, 3) := by decide +kernel
theorem dX6_moves_22 : decode cX6_moves 22 = .ok (.iconst 0, 1) := by decide +kernel
theorem dX6_moves_23 : decode cX6_moves 23 = .ok (.goto 4, 3) := by decide +kernel
theorem dX6_moves_26 : decode cX6_moves 26 = .ok (.iconst 2, 1) := by decide +kernel
theorem dX6_moves_27 : decode cX6_moves 27 = .ok (.putfield 45, 3) := by decide +kernel
theorem dX6_moves_30 : decode cX6_moves 30 = .ok (.aload_n 0, 1) := by decide +kernel
theorem dX6_moves_31 : decode cX6_moves 31 = .ok (.getfield 45, 3) := by decide +kernel
theorem dX6_moves_34 : decode cX6_moves 34 = .ok (.ifCond .le 5, 3) := by decide +kernel
theorem dX6_moves_37 : decode cX6_moves 37 = .ok (.iconst 0, 1) := by decide +kernel
theorem dX6_moves_38 : decode cX6_moves 38 = .ok (.ireturn, 1) := by decide +kernel
theorem dX6_moves_39 : decode cX6_moves 39 = .ok (.aload_n 0, 1) := by decide +kernel
theorem dX6_moves_40 : decode cX6_moves 40 = .ok (.invokevirtual 107, 3) := by decide +kernel
theorem dX6_moves_43 : decode cX6_moves 43 = .ok (.iload_n 2, 1) := by decide +kernel
theorem dX6_moves_44 : decode cX6_moves 44 = .ok (.ifCond .ne 12, 3) := by decide +kernel
theorem dX6_moves_47 : decode cX6_moves 47 = .ok (.aload_n 0, 1) := by decide +kernel
theorem dX6_moves_48 : decode cX6_moves 48 = .ok (.getfield 32, 3) := by decide +kernel
theorem dX6_moves_51 : decode cX6_moves 51 = .ok (.iload_n 1, 1) := by decide +kernel
theorem dX6_moves_52 : decode cX6_moves 52 = .ok (.iaload, 1) := by decide +kernel
theorem dX6_moves_53 : decode cX6_moves 53 = .ok (.goto 9, 3) := by decide +kernel
theorem dX6_moves_56 : decode cX6_moves 56 = .ok (.aload_n 0, 1) := by decide +kernel
theorem dX6_moves_57 : decode cX6_moves 57 = .ok (.getfield 35, 3) := by decide +kernel
theorem dX6_moves_60 : decode cX6_moves 60 = .ok (.iload_n 1, 1) := by decide +kernel
theorem dX6_moves_61 : decode cX6_moves 61 = .ok (.iaload, 1) := by decide +kernel
theorem dX6_moves_62 : decode cX6_moves 62 = .ok (.ireturn, 1) := by decide +kernel
set_option maxRecDepth 20000 in
theorem ggX6_freedom_X6_findsMoves : GoodIn wsX6_freedom wsX6_findsMoves := goodIn_r _ [9, 10, 11, 2, 12, 3, 4, 13, 14, 15, 8, 16, 17, 18, 19, 20, 21, 22, 23, 24, 25, 26, 27, 28, 29, 30, 31, 32, 33, 34, 35, 36, 37, 38, 39, 40, 41, 42, 43, 44, 45, 46, 47, 48, 49, 50, 51, 52, 53, 54, 55, 56] (by decide +kernel) (by decide +kernel)
set_option maxRecDepth 20000 in
theorem gX6_freedom_X6_findsMoves : GoodIn wsX6_freedom (wsV RX6 107 RX6 yX6_findsMoves wsX6_findsMoves) := goodIn_app (goodIn_of _ (by decide +kernel)) ggX6_freedom_X6_findsMoves
theorem dX6_freedom_0 : decode cX6_freedom 0 = .ok (.aload_n 0, 1) := by decide +kernel
theorem dX6_freedom_1 : decode cX6_freedom 1 = .ok (.iconst 0, 1) := by decide +kernel
theorem dX6_freedom_2 : decode cX6_freedom 2 = .ok (.putfield 45, 3) := by decide +kernel
theorem dX6_freedom_5 : decode cX6_freedom 5 = .ok (.aload_n 0, 1) := by decide +kernel
theorem dX6_freedom_6 : decode cX6_freedom 6 = .ok (.invokevirtual 107, 3) := by decide +kernel
theorem dX6_freedom_9 : decode cX6_freedom 9 = .ok (.lconst 0, 1) := by decide +kernel
theorem dX6_freedom_10 : decode cX6_freedom 10 = .ok (.lstore_n 1, 1) := by decide +kernel
theorem dX6_freedom_11 : decode cX6_freedom 11 = .ok (.iconst 0, 1) := by decide +kernel
theorem dX6_freedom_12 : decode cX6_freedom 12 = .ok (.istore_n 3, 1) := by decide +kernel
theorem dX6_freedom_13 : decode cX6_freedom 13 = .ok (.iload_n 3, 1) := by decide +kernel
theorem dX6_freedom_14 : decode cX6_freedom 14 = .ok (.aload_n 0, 1) := by decide +kernel
theorem dX6_freedom_15 : decode cX6_freedom 15 = .ok (.getfield 48, 3) := by decide +kernel
theorem dX6_freedom_18 : decode cX6_freedom 18 = .ok (.if_icmp .ge 90, 3) := by decide +kernel
theorem dX6_freedom_21 : decode cX6_freedom 21 = .ok (.iconst 0, 1) := by decide +kernel
theorem dX6_freedom_22 : decode cX6_freedom 22 = .ok (.istore 4, 2) := by decide +kernel
theorem dX6_freedom_24 : decode cX6_freedom 24 = .ok (.iload 4, 2) := by decide +kernel
theorem dX6_freedom_26 : decode cX6_freedom 26 = .ok (.iload_n 3, 1) := by decide +kernel
theorem dX6_freedom_27 : decode cX6_freedom 27 = .ok (.if_icmp .ge 75, 3) := by decide +kernel
theorem dX6_freedom_30 : decode cX6_freedom 30 = .ok (.aload_n 0, 1) := by decide +kernel
theorem dX6_freedom_31 : decode cX6_freedom 31 = .ok (.getfield 32, 3) := by decide +kernel
theorem dX6_freedom_34 : decode cX6_freedom 34 = .ok (.iload_n 3, 1) := by decide +kernel
theorem dX6_freedom_35 : decode cX6_freedom 35 = .ok (.iaload, 1) := by decide +kernel
theorem dX6_freedom_36 : decode cX6_freedom 36 = .ok (.i2l, 1) := by decide +kernel
theorem dX6_freedom_37 : decode cX6_freedom 37 = .ok (.aload_n 0, 1) := by decide +kernel
theorem dX6_freedom_38 : decode cX6_freedom 38 = .ok (.getfield 35, 3) := by decide +kernel
theorem dX6_freedom_41 : decode cX6_freedom 41 = .ok (.iload 4, 2) := by decide +kernel
theorem dX6_freedom_43 : decode cX6_freedom 43 = .ok (.iaload, 1) := by decide +kernel
theorem dX6_freedom_44 : decode cX6_freedom 44 = .ok (.i2l, 1) := by decide +kernel
theorem dX6_freedom_45 : decode cX6_freedom 45 = .ok (.lmul, 1) := by decide +kernel
theorem dX6_freedom_46 : decode cX6_freedom 46 = .ok (.aload_n 0, 1) := by decide +kernel
theorem dX6_freedom_47 : decode cX6_freedom 47 = .ok (.getfield 35, 3) := by decide +kernel
theorem dX6_freedom_50 : decode cX6_freedom 50 = .ok (.iload_n 3, 1) := by decide +kernel
theorem dX6_freedom_51 : decode cX6_freedom 51 = .ok (.iaload, 1) := by decide +kernel
theorem dX6_freedom_52 : decode cX6_freedom 52 = .ok (.i2l, 1) := by decide +kernel
theorem dX6_freedom_53 : decode cX6_freedom 53 = .ok (.aload_n 0, 1) := by decide +kernel
theorem dX6_freedom_54 : decode cX6_freedom 54 = .ok (.getfield 32, 3) := by decide +kernel
theorem dX6_freedom_57 : decode cX6_freedom 57 = .ok (.iload 4, 2) := by decide +kernel
theorem dX6_freedom_59 : decode cX6_freedom 59 = .ok (.iaload, 1) := by decide +kernel
theorem dX6_freedom_60 : decode cX6_freedom 60 = .ok (.i2l, 1) := by decide +kernel
theorem dX6_freedom_61 : decode cX6_freedom 61 = .ok (.lmul, 1) := by decide +kernel
theorem dX6_freedom_62 : decode cX6_freedom 62 = .ok (.lsub, 1) := by decide +kernel
theorem dX6_freedom_63 : decode cX6_freedom 63 = .ok (.lstore 5, 2) := by decide +kernel
theorem dX6_freedom_65 : decode cX6_freedom 65 = .ok (.lload 5, 2) := by decide +kernel
theorem dX6_freedom_67 : decode cX6_freedom 67 = .ok (.lconst 0, 1) := by decide +kernel
theorem dX6_freedom_68 : decode cX6_freedom 68 = .ok (.lcmp, 1) := by decide +kernel
theorem dX6_freedom_69 : decode cX6_freedom 69 = .ok (.ifCond .ge 9, 3) := by decide +kernel
theorem dX6_freedom_72 : decode cX6_freedom 72 = .ok (.lload 5, 2) := by decide +kernel
theorem dX6_freedom_74 : decode cX6_freedom 74 = .ok (.lneg, 1) := by decide +kernel
theorem dX6_freedom_75 : decode cX6_freedom 75 = .ok (.goto 5, 3) := by decide +kernel
theorem dX6_freedom_78 : decode cX6_freedom 78 = .ok (.lload 5, 2) := by decide +kernel
theorem dX6_freedom_80 : decode cX6_freedom 80 = .ok (.lstore 5, 2) := by decide +kernel
theorem dX6_freedom_82 : decode cX6_freedom 82 = .ok (.lload 5, 2) := by decide +kernel
theorem dX6_freedom_84 : decode cX6_freedom 84 = .ok (.lload_n 1, 1) := by decide +kernel
theorem dX6_freedom_85 : decode cX6_freedom 85 = .ok (.lcmp, 1) := by decide +kernel
theorem dX6_freedom_86 : decode cX6_freedom 86 = .ok (.ifCond .le 8, 3) := by decide +kernel
theorem dX6_freedom_89 : decode cX6_freedom 89 = .ok (.lload 5, 2) := by decide +kernel
theorem dX6_freedom_91 : decode cX6_freedom 91 = .ok (.goto 4, 3) := by decide +kernel
theorem dX6_freedom_94 : decode cX6_freedom 94 = .ok (.lload_n 1, 1) := by decide +kernel
theorem dX6_freedom_95 : decode cX6_freedom 95 = .ok (.lstore_n 1, 1) := by decide +kernel
theorem dX6_freedom_96 : decode cX6_freedom 96 = .ok (.iinc 4 1, 3) := by decide +kernel
theorem dX6_freedom_99 : decode cX6_freedom 99 = .ok (.goto (-75), 3) := by decide +kernel
theorem dX6_freedom_102 : decode cX6_freedom 102 = .ok (.iinc 3 1, 3) := by decide +kernel
theorem dX6_freedom_105 : decode cX6_freedom 105 = .ok (.goto (-92), 3) := by decide +kernel
theorem dX6_freedom_108 : decode cX6_freedom 108 = .ok (.lload_n 1, 1) := by decide +kernel
theorem dX6_freedom_109 : decode cX6_freedom 109 = .ok (.lreturn, 1) := by decide +kernel
set_option maxRecDepth 20000 in
theorem ggX6_goal_X6_in : GoodIn wsX6_goal wsX6_in := goodIn_r _ [9] (by decide +kernel) (by decide +kernel)
set_option maxRecDepth 20000 in
theorem gX6_goal_X6_in : GoodIn wsX6_goal (va_wsS RX6 51 yX6_in wsX6_in) := goodIn_app (goodIn_of _ (by decide +kernel)) ggX6_goal_X6_in
set_option maxRecDepth 20000 in
theorem ggX6_goal_X6_farNow : GoodIn wsX6_goal wsX6_farNow := goodIn_r _ [13, 14, 15, 16, 8, 17, 18, 19, 20, 21, 22, 23, 24, 25, 26, 27, 28, 29, 30, 31, 32, 33, 34, 35, 36, 37, 38, 39, 40, 41, 42, 43, 44, 45, 46, 4, 5, 47, 48, 49, 50, 51, 52, 53, 54, 55, 56, 57, 58, 59, 60, 61, 62, 63, 64, 65] (by decide +kernel) (by decide +kernel)
set_option maxRecDepth 20000 in
theorem gX6_goal_X6_farNow : GoodIn wsX6_goal (wsV RX6 112 RX6 yX6_farNow wsX6_farNow) := goodIn_app (goodIn_of _ (by decide +kernel)) ggX6_goal_X6_farNow
theorem dX6_goal_0 : decode cX6_goal 0 = .ok (.aload_n 0, 1) := by decide +kernel
theorem dX6_goal_1 : decode cX6_goal 1 = .ok (.iload_n 1, 1) := by decide +kernel
theorem dX6_goal_2 : decode cX6_goal 2 = .ok (.ldc 110, 2) := by decide +kernel
theorem dX6_goal_4 : decode cX6_goal 4 = .ok (.ldc 111, 2) := by decide +kernel
theorem dX6_goal_6 : decode cX6_goal 6 = .ok (.invokestatic 51, 3) := by decide +kernel
theorem dX6_goal_9 : decode cX6_goal 9 = .ok (.ifCond .eq 18, 3) := by decide +kernel
theorem dX6_goal_12 : decode cX6_goal 12 = .ok (.iload_n 2, 1) := by decide +kernel
theorem dX6_goal_13 : decode cX6_goal 13 = .ok (.ldc 110, 2) := by decide +kernel
theorem dX6_goal_15 : decode cX6_goal 15 = .ok (.ldc 111, 2) := by decide +kernel
theorem dX6_goal_17 : decode cX6_goal 17 = .ok (.invokestatic 51, 3) := by decide +kernel
theorem dX6_goal_20 : decode cX6_goal 20 = .ok (.ifCond .eq 7, 3) := by decide +kernel
theorem dX6_goal_23 : decode cX6_goal 23 = .ok (.iconst 0, 1) := by decide +kernel
theorem dX6_goal_24 : decode cX6_goal 24 = .ok (.goto 4, 3) := by decide +kernel
theorem dX6_goal_27 : decode cX6_goal 27 = .ok (.iconst 1, 1) := by decide +kernel
theorem dX6_goal_28 : decode cX6_goal 28 = .ok (.putfield 45, 3) := by decide +kernel
theorem dX6_goal_31 : decode cX6_goal 31 = .ok (.aload_n 0, 1) := by decide +kernel
theorem dX6_goal_32 : decode cX6_goal 32 = .ok (.getfield 45, 3) := by decide +kernel
theorem dX6_goal_35 : decode cX6_goal 35 = .ok (.ifCond .le 5, 3) := by decide +kernel
theorem dX6_goal_38 : decode cX6_goal 38 = .ok (.lconst 0, 1) := by decide +kernel
theorem dX6_goal_39 : decode cX6_goal 39 = .ok (.lreturn, 1) := by decide +kernel
theorem dX6_goal_40 : decode cX6_goal 40 = .ok (.aload_n 0, 1) := by decide +kernel
theorem dX6_goal_41 : decode cX6_goal 41 = .ok (.iload_n 1, 1) := by decide +kernel
theorem dX6_goal_42 : decode cX6_goal 42 = .ok (.putfield 80, 3) := by decide +kernel
theorem dX6_goal_45 : decode cX6_goal 45 = .ok (.aload_n 0, 1) := by decide +kernel
theorem dX6_goal_46 : decode cX6_goal 46 = .ok (.iload_n 2, 1) := by decide +kernel
theorem dX6_goal_47 : decode cX6_goal 47 = .ok (.putfield 83, 3) := by decide +kernel
theorem dX6_goal_50 : decode cX6_goal 50 = .ok (.aload_n 0, 1) := by decide +kernel
theorem dX6_goal_51 : decode cX6_goal 51 = .ok (.invokevirtual 112, 3) := by decide +kernel
theorem dX6_goal_54 : decode cX6_goal 54 = .ok (.lreturn, 1) := by decide +kernel
set_option maxRecDepth 20000 in
theorem ggX6_far_X6_farNow : GoodIn wsX6_far wsX6_farNow := goodIn_r _ [6, 7, 8, 9, 5, 10, 11, 12, 13, 14, 15, 16, 17, 18, 19, 20, 21, 22, 23, 24, 25, 26, 27, 28, 29, 30, 31, 32, 33, 34, 35, 36, 37, 38, 39, 40, 41, 42, 43, 44, 45, 46, 47, 48, 49, 50, 51, 52, 53, 54, 55, 56, 57, 58, 59, 60] (by decide +kernel) (by decide +kernel)
set_option maxRecDepth 20000 in
theorem gX6_far_X6_farNow : GoodIn wsX6_far (wsV RX6 112 RX6 yX6_farNow wsX6_farNow) := goodIn_app (goodIn_of _ (by decide +kernel)) ggX6_far_X6_farNow
theorem dX6_far_0 : decode cX6_far 0 = .ok (.aload_n 0, 1) := by decide +kernel
theorem dX6_far_1 : decode cX6_far 1 = .ok (.iconst 0, 1) := by decide +kernel
theorem dX6_far_2 : decode cX6_far 2 = .ok (.putfield 45, 3) := by decide +kernel
theorem dX6_far_5 : decode cX6_far 5 = .ok (.aload_n 0, 1) := by decide +kernel
theorem dX6_far_6 : decode cX6_far 6 = .ok (.invokevirtual 112, 3) := by decide +kernel
theorem dX6_far_9 : decode cX6_far 9 = .ok (.lreturn, 1) := by decide +kernel
set_option maxRecDepth 20000 in
theorem ggX6_goesOn_X6_farNow : GoodIn wsX6_goesOn wsX6_farNow := goodIn_r _ [9, 10, 11, 12, 8, 13, 14, 15, 16, 17, 1, 18, 2, 19, 20, 21, 22, 23, 24, 25, 26, 27, 28, 29, 30, 31, 32, 33, 34, 35, 36, 37, 38, 39, 40, 41, 42, 50, 51, 52, 53, 54, 55, 56, 57, 58, 59, 60, 61, 62, 63, 64, 65, 66, 67, 68] (by decide +kernel) (by decide +kernel)
set_option maxRecDepth 20000 in
theorem gX6_goesOn_X6_farNow : GoodIn wsX6_goesOn (wsV RX6 112 RX6 yX6_farNow wsX6_farNow) := goodIn_app (goodIn_of _ (by decide +kernel)) ggX6_goesOn_X6_farNow
set_option maxRecDepth 20000 in
theorem ggX6_goesOn_X6_held : GoodIn wsX6_goesOn wsX6_held := goodIn_r _ [45] (by decide +kernel) (by decide +kernel)
set_option maxRecDepth 20000 in
theorem gX6_goesOn_X6_held : GoodIn wsX6_goesOn (va_wsS RX6 96 yX6_held wsX6_held) := goodIn_app (goodIn_of _ (by decide +kernel)) ggX6_goesOn_X6_held
set_option maxRecDepth 20000 in
theorem ggX6_goesOn_X6_farWith : GoodIn wsX6_goesOn wsX6_farWith := goodIn_r _ [49, 18, 14, 15, 16, 8, 17, 1, 2, 19, 20, 21, 22, 23, 24, 25, 26, 27, 28, 29, 30, 31, 32, 33, 34, 35, 36, 37, 38, 39, 40, 41, 42, 50, 51, 52, 53, 54, 55, 56, 57, 58, 59, 60, 61, 62, 63, 64, 65, 66, 67, 68] (by decide +kernel) (by decide +kernel)
set_option maxRecDepth 20000 in
theorem gX6_goesOn_X6_farWith : GoodIn wsX6_goesOn (wsV RX6 115 RX6 yX6_farWith wsX6_farWith) := goodIn_app (goodIn_of _ (by decide +kernel)) ggX6_goesOn_X6_farWith
theorem dX6_goesOn_0 : decode cX6_goesOn 0 = .ok (.aload_n 0, 1) := by decide +kernel
theorem dX6_goesOn_1 : decode cX6_goesOn 1 = .ok (.invokevirtual 112, 3) := by decide +kernel
theorem dX6_goesOn_4 : decode cX6_goesOn 4 = .ok (.lstore_n 2, 1) := by decide +kernel
theorem dX6_goesOn_5 : decode cX6_goesOn 5 = .ok (.iconst (-1), 1) := by decide +kernel
theorem dX6_goesOn_6 : decode cX6_goesOn 6 = .ok (.istore 4, 2) := by decide +kernel
theorem dX6_goesOn_8 : decode cX6_goesOn 8 = .ok (.iconst 0, 1) := by decide +kernel
theorem dX6_goesOn_9 : decode cX6_goesOn 9 = .ok (.istore 5, 2) := by decide +kernel
theorem dX6_goesOn_11 : decode cX6_goesOn 11 = .ok (.iconst 0, 1) := by decide +kernel
theorem dX6_goesOn_12 : decode cX6_goesOn 12 = .ok (.istore 6, 2) := by decide +kernel
theorem dX6_goesOn_14 : decode cX6_goesOn 14 = .ok (.iload 6, 2) := by decide +kernel
theorem dX6_goesOn_16 : decode cX6_goesOn 16 = .ok (.aload_n 0, 1) := by decide +kernel
theorem dX6_goesOn_17 : decode cX6_goesOn 17 = .ok (.getfield 48, 3) := by decide +kernel
theorem dX6_goesOn_20 : decode cX6_goesOn 20 = .ok (.if_icmp .ge 83, 3) := by decide +kernel
theorem dX6_goesOn_23 : decode cX6_goesOn 23 = .ok (.iconst (-1), 1) := by decide +kernel
theorem dX6_goesOn_24 : decode cX6_goesOn 24 = .ok (.istore 7, 2) := by decide +kernel
theorem dX6_goesOn_26 : decode cX6_goesOn 26 = .ok (.iload 7, 2) := by decide +kernel
theorem dX6_goesOn_28 : decode cX6_goesOn 28 = .ok (.iconst 1, 1) := by decide +kernel
theorem dX6_goesOn_29 : decode cX6_goesOn 29 = .ok (.if_icmp .gt 68, 3) := by decide +kernel
theorem dX6_goesOn_32 : decode cX6_goesOn 32 = .ok (.aload_n 0, 1) := by decide +kernel
theorem dX6_goesOn_33 : decode cX6_goesOn 33 = .ok (.getfield 22, 3) := by decide +kernel
theorem dX6_goesOn_36 : decode cX6_goesOn 36 = .ok (.iload 6, 2) := by decide +kernel
theorem dX6_goesOn_38 : decode cX6_goesOn 38 = .ok (.iaload, 1) := by decide +kernel
theorem dX6_goesOn_39 : decode cX6_goesOn 39 = .ok (.iload 7, 2) := by decide +kernel
theorem dX6_goesOn_41 : decode cX6_goesOn 41 = .ok (.iload_n 1, 1) := by decide +kernel
theorem dX6_goesOn_42 : decode cX6_goesOn 42 = .ok (.imul, 1) := by decide +kernel
theorem dX6_goesOn_43 : decode cX6_goesOn 43 = .ok (.iadd, 1) := by decide +kernel
theorem dX6_goesOn_44 : decode cX6_goesOn 44 = .ok (.aload_n 0, 1) := by decide +kernel
theorem dX6_goesOn_45 : decode cX6_goesOn 45 = .ok (.getfield 16, 3) := by decide +kernel
theorem dX6_goesOn_48 : decode cX6_goesOn 48 = .ok (.iload 6, 2) := by decide +kernel
theorem dX6_goesOn_50 : decode cX6_goesOn 50 = .ok (.iaload, 1) := by decide +kernel
theorem dX6_goesOn_51 : decode cX6_goesOn 51 = .ok (.aload_n 0, 1) := by decide +kernel
theorem dX6_goesOn_52 : decode cX6_goesOn 52 = .ok (.getfield 19, 3) := by decide +kernel
theorem dX6_goesOn_55 : decode cX6_goesOn 55 = .ok (.iload 6, 2) := by decide +kernel
theorem dX6_goesOn_57 : decode cX6_goesOn 57 = .ok (.iaload, 1) := by decide +kernel
theorem dX6_goesOn_58 : decode cX6_goesOn 58 = .ok (.invokestatic 96, 3) := by decide +kernel
theorem dX6_goesOn_61 : decode cX6_goesOn 61 = .ok (.istore 8, 2) := by decide +kernel
theorem dX6_goesOn_63 : decode cX6_goesOn 63 = .ok (.aload_n 0, 1) := by decide +kernel
theorem dX6_goesOn_64 : decode cX6_goesOn 64 = .ok (.iload 6, 2) := by decide +kernel
theorem dX6_goesOn_66 : decode cX6_goesOn 66 = .ok (.iload 8, 2) := by decide +kernel
theorem dX6_goesOn_68 : decode cX6_goesOn 68 = .ok (.invokevirtual 115, 3) := by decide +kernel
theorem dX6_goesOn_71 : decode cX6_goesOn 71 = .ok (.lstore 9, 2) := by decide +kernel
theorem dX6_goesOn_73 : decode cX6_goesOn 73 = .ok (.lload 9, 2) := by decide +kernel
theorem dX6_goesOn_75 : decode cX6_goesOn 75 = .ok (.lload_n 2, 1) := by decide +kernel
theorem dX6_goesOn_76 : decode cX6_goesOn 76 = .ok (.lcmp, 1) := by decide +kernel
theorem dX6_goesOn_77 : decode cX6_goesOn 77 = .ok (.ifCond .ge 14, 3) := by decide +kernel
theorem dX6_goesOn_80 : decode cX6_goesOn 80 = .ok (.lload 9, 2) := by decide +kernel
theorem dX6_goesOn_82 : decode cX6_goesOn 82 = .ok (.lstore_n 2, 1) := by decide +kernel
theorem dX6_goesOn_83 : decode cX6_goesOn 83 = .ok (.iload 6, 2) := by decide +kernel
theorem dX6_goesOn_85 : decode cX6_goesOn 85 = .ok (.istore 4, 2) := by decide +kernel
theorem dX6_goesOn_87 : decode cX6_goesOn 87 = .ok (.iload 8, 2) := by decide +kernel
theorem dX6_goesOn_89 : decode cX6_goesOn 89 = .ok (.istore 5, 2) := by decide +kernel
theorem dX6_goesOn_91 : decode cX6_goesOn 91 = .ok (.iinc 7 2, 3) := by decide +kernel
theorem dX6_goesOn_94 : decode cX6_goesOn 94 = .ok (.goto (-68), 3) := by decide +kernel
theorem dX6_goesOn_97 : decode cX6_goesOn 97 = .ok (.iinc 6 1, 3) := by decide +kernel
theorem dX6_goesOn_100 : decode cX6_goesOn 100 = .ok (.goto (-86), 3) := by decide +kernel
theorem dX6_goesOn_103 : decode cX6_goesOn 103 = .ok (.iload 4, 2) := by decide +kernel
theorem dX6_goesOn_105 : decode cX6_goesOn 105 = .ok (.iconst (-1), 1) := by decide +kernel
theorem dX6_goesOn_106 : decode cX6_goesOn 106 = .ok (.if_icmp .eq 12, 3) := by decide +kernel
theorem dX6_goesOn_109 : decode cX6_goesOn 109 = .ok (.aload_n 0, 1) := by decide +kernel
theorem dX6_goesOn_110 : decode cX6_goesOn 110 = .ok (.getfield 22, 3) := by decide +kernel
theorem dX6_goesOn_113 : decode cX6_goesOn 113 = .ok (.iload 4, 2) := by decide +kernel
theorem dX6_goesOn_115 : decode cX6_goesOn 115 = .ok (.iload 5, 2) := by decide +kernel
theorem dX6_goesOn_117 : decode cX6_goesOn 117 = .ok (.iastore, 1) := by decide +kernel
theorem dX6_goesOn_118 : decode cX6_goesOn 118 = .ok (.iload 4, 2) := by decide +kernel
theorem dX6_goesOn_120 : decode cX6_goesOn 120 = .ok (.iconst (-1), 1) := by decide +kernel
theorem dX6_goesOn_121 : decode cX6_goesOn 121 = .ok (.if_icmp .eq 7, 3) := by decide +kernel
theorem dX6_goesOn_124 : decode cX6_goesOn 124 = .ok (.iconst 1, 1) := by decide +kernel
theorem dX6_goesOn_125 : decode cX6_goesOn 125 = .ok (.goto 4, 3) := by decide +kernel
theorem dX6_goesOn_128 : decode cX6_goesOn 128 = .ok (.iconst 0, 1) := by decide +kernel
theorem dX6_goesOn_129 : decode cX6_goesOn 129 = .ok (.ireturn, 1) := by decide +kernel
set_option maxRecDepth 20000 in
theorem ggX6_steps_X6_in : GoodIn wsX6_steps wsX6_in := goodIn_r _ [5] (by decide +kernel) (by decide +kernel)
set_option maxRecDepth 20000 in
theorem gX6_steps_X6_in : GoodIn wsX6_steps (va_wsS RX6 51 yX6_in wsX6_in) := goodIn_app (goodIn_of _ (by decide +kernel)) ggX6_steps_X6_in
set_option maxRecDepth 20000 in
theorem ggX6_steps_X6_goesOn : GoodIn wsX6_steps wsX6_goesOn := goodIn_r _ [9, 10, 11, 12, 13, 14, 15, 16, 4, 17, 18, 19, 20, 21, 22, 23, 24, 25, 26, 27, 28, 29, 30, 31, 32, 33, 34, 35, 36, 37, 38, 39, 40, 41, 42, 43, 44, 45, 46, 47, 48, 49, 50, 51, 52, 53, 54, 55, 56, 57, 58, 59, 60, 61, 62, 63, 64, 65, 66, 67, 68, 69, 70, 71, 72, 73, 74, 75, 76] (by decide +kernel) (by decide +kernel)
set_option maxRecDepth 20000 in
theorem gX6_steps_X6_goesOn : GoodIn wsX6_steps (wsV RX6 119 RX6 yX6_goesOn wsX6_goesOn) := goodIn_app (goodIn_of _ (by decide +kernel)) ggX6_steps_X6_goesOn
theorem dX6_steps_0 : decode cX6_steps 0 = .ok (.aload_n 0, 1) := by decide +kernel
theorem dX6_steps_1 : decode cX6_steps 1 = .ok (.iload_n 1, 1) := by decide +kernel
theorem dX6_steps_2 : decode cX6_steps 2 = .ok (.iconst 1, 1) := by decide +kernel
theorem dX6_steps_3 : decode cX6_steps 3 = .ok (.sipush 200, 3) := by decide +kernel
theorem dX6_steps_6 : decode cX6_steps 6 = .ok (.invokestatic 51, 3) := by decide +kernel
theorem dX6_steps_9 : decode cX6_steps 9 = .ok (.ifCond .eq 7, 3) := by decide +kernel
theorem dX6_steps_12 : decode cX6_steps 12 = .ok (.iconst 0, 1) := by decide +kernel
theorem dX6_steps_13 : decode cX6_steps 13 = .ok (.goto 4, 3) := by decide +kernel
theorem dX6_steps_16 : decode cX6_steps 16 = .ok (.iconst 1, 1) := by decide +kernel
theorem dX6_steps_17 : decode cX6_steps 17 = .ok (.putfield 45, 3) := by decide +kernel
theorem dX6_steps_20 : decode cX6_steps 20 = .ok (.iconst 0, 1) := by decide +kernel
theorem dX6_steps_21 : decode cX6_steps 21 = .ok (.istore_n 2, 1) := by decide +kernel
theorem dX6_steps_22 : decode cX6_steps 22 = .ok (.aload_n 0, 1) := by decide +kernel
theorem dX6_steps_23 : decode cX6_steps 23 = .ok (.getfield 45, 3) := by decide +kernel
theorem dX6_steps_26 : decode cX6_steps 26 = .ok (.ifCond .le 7, 3) := by decide +kernel
theorem dX6_steps_29 : decode cX6_steps 29 = .ok (.iconst 0, 1) := by decide +kernel
theorem dX6_steps_30 : decode cX6_steps 30 = .ok (.goto 5, 3) := by decide +kernel
theorem dX6_steps_33 : decode cX6_steps 33 = .ok (.bipush 8, 2) := by decide +kernel
theorem dX6_steps_35 : decode cX6_steps 35 = .ok (.istore_n 3, 1) := by decide +kernel
theorem dX6_steps_36 : decode cX6_steps 36 = .ok (.iload_n 3, 1) := by decide +kernel
theorem dX6_steps_37 : decode cX6_steps 37 = .ok (.ifCond .le 29, 3) := by decide +kernel
theorem dX6_steps_40 : decode cX6_steps 40 = .ok (.iload_n 2, 1) := by decide +kernel
theorem dX6_steps_41 : decode cX6_steps 41 = .ok (.iload_n 1, 1) := by decide +kernel
theorem dX6_steps_42 : decode cX6_steps 42 = .ok (.if_icmp .ge 24, 3) := by decide +kernel
theorem dX6_steps_45 : decode cX6_steps 45 = .ok (.aload_n 0, 1) := by decide +kernel
theorem dX6_steps_46 : decode cX6_steps 46 = .ok (.iload_n 3, 1) := by decide +kernel
theorem dX6_steps_47 : decode cX6_steps 47 = .ok (.invokevirtual 119, 3) := by decide +kernel
theorem dX6_steps_50 : decode cX6_steps 50 = .ok (.ifCond .eq 9, 3) := by decide +kernel
theorem dX6_steps_53 : decode cX6_steps 53 = .ok (.iinc 2 1, 3) := by decide +kernel
theorem dX6_steps_56 : decode cX6_steps 56 = .ok (.goto (-20), 3) := by decide +kernel
theorem dX6_steps_59 : decode cX6_steps 59 = .ok (.iload_n 3, 1) := by decide +kernel
theorem dX6_steps_60 : decode cX6_steps 60 = .ok (.iconst 2, 1) := by decide +kernel
theorem dX6_steps_61 : decode cX6_steps 61 = .ok (.idiv, 1) := by decide +kernel
theorem dX6_steps_62 : decode cX6_steps 62 = .ok (.istore_n 3, 1) := by decide +kernel
theorem dX6_steps_63 : decode cX6_steps 63 = .ok (.goto (-27), 3) := by decide +kernel
theorem dX6_steps_66 : decode cX6_steps 66 = .ok (.iload_n 2, 1) := by decide +kernel
theorem dX6_steps_67 : decode cX6_steps 67 = .ok (.ireturn, 1) := by decide +kernel
set_option maxRecDepth 20000 in
theorem ggX6_hindrance_X6_farNow : GoodIn wsX6_hindrance wsX6_farNow := goodIn_r _ [10, 11, 12, 13, 9, 14, 15, 16, 17, 18, 2, 19, 3, 20, 21, 22, 23, 24, 25, 26, 27, 28, 29, 30, 31, 32, 33, 34, 35, 36, 37, 38, 39, 40, 41, 42, 43, 48, 49, 50, 51, 52, 53, 54, 55, 56, 57, 58, 59, 60, 61, 62, 63, 64, 65, 66] (by decide +kernel) (by decide +kernel)
set_option maxRecDepth 20000 in
theorem gX6_hindrance_X6_farNow : GoodIn wsX6_hindrance (wsV RX6 112 RX6 yX6_farNow wsX6_farNow) := goodIn_app (goodIn_of _ (by decide +kernel)) ggX6_hindrance_X6_farNow
set_option maxRecDepth 20000 in
theorem ggX6_hindrance_X6_farWith : GoodIn wsX6_hindrance wsX6_farWith := goodIn_r _ [47, 19, 15, 16, 17, 9, 18, 2, 3, 20, 21, 22, 23, 24, 25, 26, 27, 28, 29, 30, 31, 32, 33, 34, 35, 36, 37, 38, 39, 40, 41, 42, 43, 48, 49, 50, 51, 52, 53, 54, 55, 56, 57, 58, 59, 60, 61, 62, 63, 64, 65, 66] (by decide +kernel) (by decide +kernel)
set_option maxRecDepth 20000 in
theorem gX6_hindrance_X6_farWith : GoodIn wsX6_hindrance (wsV RX6 115 RX6 yX6_farWith wsX6_farWith) := goodIn_app (goodIn_of _ (by decide +kernel)) ggX6_hindrance_X6_farWith
theorem dX6_hindrance_0 : decode cX6_hindrance 0 = .ok (.aload_n 0, 1) := by decide +kernel
theorem dX6_hindrance_1 : decode cX6_hindrance 1 = .ok (.iconst 0, 1) := by decide +kernel
theorem dX6_hindrance_2 : decode cX6_hindrance 2 = .ok (.putfield 45, 3) := by decide +kernel
theorem dX6_hindrance_5 : decode cX6_hindrance 5 = .ok (.iconst (-1), 1) := by decide +kernel
theorem dX6_hindrance_6 : decode cX6_hindrance 6 = .ok (.istore_n 1, 1) := by decide +kernel
theorem dX6_hindrance_7 : decode cX6_hindrance 7 = .ok (.aload_n 0, 1) := by decide +kernel
theorem dX6_hindrance_8 : decode cX6_hindrance 8 = .ok (.invokevirtual 112, 3) := by decide +kernel
theorem dX6_hindrance_11 : decode cX6_hindrance 11 = .ok (.lstore_n 2, 1) := by decide +kernel
theorem dX6_hindrance_12 : decode cX6_hindrance 12 = .ok (.iconst 0, 1) := by decide +kernel
theorem dX6_hindrance_13 : decode cX6_hindrance 13 = .ok (.istore 4, 2) := by decide +kernel
theorem dX6_hindrance_15 : decode cX6_hindrance 15 = .ok (.iload 4, 2) := by decide +kernel
theorem dX6_hindrance_17 : decode cX6_hindrance 17 = .ok (.aload_n 0, 1) := by decide +kernel
theorem dX6_hindrance_18 : decode cX6_hindrance 18 = .ok (.getfield 48, 3) := by decide +kernel
theorem dX6_hindrance_21 : decode cX6_hindrance 21 = .ok (.if_icmp .ge 119, 3) := by decide +kernel
theorem dX6_hindrance_24 : decode cX6_hindrance 24 = .ok (.iload_n 1, 1) := by decide +kernel
theorem dX6_hindrance_25 : decode cX6_hindrance 25 = .ok (.iconst (-1), 1) := by decide +kernel
theorem dX6_hindrance_26 : decode cX6_hindrance 26 = .ok (.if_icmp .ne 114, 3) := by decide +kernel
theorem dX6_hindrance_29 : decode cX6_hindrance 29 = .ok (.aload_n 0, 1) := by decide +kernel
theorem dX6_hindrance_30 : decode cX6_hindrance 30 = .ok (.getfield 22, 3) := by decide +kernel
theorem dX6_hindrance_33 : decode cX6_hindrance 33 = .ok (.iload 4, 2) := by decide +kernel
theorem dX6_hindrance_35 : decode cX6_hindrance 35 = .ok (.iaload, 1) := by decide +kernel
theorem dX6_hindrance_36 : decode cX6_hindrance 36 = .ok (.aload_n 0, 1) := by decide +kernel
theorem dX6_hindrance_37 : decode cX6_hindrance 37 = .ok (.getfield 19, 3) := by decide +kernel
theorem dX6_hindrance_40 : decode cX6_hindrance 40 = .ok (.iload 4, 2) := by decide +kernel
theorem dX6_hindrance_42 : decode cX6_hindrance 42 = .ok (.iaload, 1) := by decide +kernel
theorem dX6_hindrance_43 : decode cX6_hindrance 43 = .ok (.if_icmp .ne 27, 3) := by decide +kernel
theorem dX6_hindrance_46 : decode cX6_hindrance 46 = .ok (.aload_n 0, 1) := by decide +kernel
theorem dX6_hindrance_47 : decode cX6_hindrance 47 = .ok (.iload 4, 2) := by decide +kernel
theorem dX6_hindrance_49 : decode cX6_hindrance 49 = .ok (.aload_n 0, 1) := by decide +kernel
theorem dX6_hindrance_50 : decode cX6_hindrance 50 = .ok (.getfield 22, 3) := by decide +kernel
theorem dX6_hindrance_53 : decode cX6_hindrance 53 = .ok (.iload 4, 2) := by decide +kernel
theorem dX6_hindrance_55 : decode cX6_hindrance 55 = .ok (.iaload, 1) := by decide +kernel
theorem dX6_hindrance_56 : decode cX6_hindrance 56 = .ok (.iconst 1, 1) := by decide +kernel
theorem dX6_hindrance_57 : decode cX6_hindrance 57 = .ok (.iadd, 1) := by decide +kernel
theorem dX6_hindrance_58 : decode cX6_hindrance 58 = .ok (.invokevirtual 115, 3) := by decide +kernel
theorem dX6_hindrance_61 : decode cX6_hindrance 61 = .ok (.lload_n 2, 1) := by decide +kernel
theorem dX6_hindrance_62 : decode cX6_hindrance 62 = .ok (.lcmp, 1) := by decide +kernel
theorem dX6_hindrance_63 : decode cX6_hindrance 63 = .ok (.ifCond .ge 7, 3) := by decide +kernel
theorem dX6_hindrance_66 : decode cX6_hindrance 66 = .ok (.iconst 1, 1) := by decide +kernel
theorem dX6_hindrance_67 : decode cX6_hindrance 67 = .ok (.goto 4, 3) := by decide +kernel
theorem dX6_hindrance_70 : decode cX6_hindrance 70 = .ok (.iconst 0, 1) := by decide +kernel
theorem dX6_hindrance_71 : decode cX6_hindrance 71 = .ok (.istore 5, 2) := by decide +kernel
theorem dX6_hindrance_73 : decode cX6_hindrance 73 = .ok (.iload 5, 2) := by decide +kernel
theorem dX6_hindrance_75 : decode cX6_hindrance 75 = .ok (.ifCond .ne 40, 3) := by decide +kernel
theorem dX6_hindrance_78 : decode cX6_hindrance 78 = .ok (.aload_n 0, 1) := by decide +kernel
theorem dX6_hindrance_79 : decode cX6_hindrance 79 = .ok (.getfield 22, 3) := by decide +kernel
theorem dX6_hindrance_82 : decode cX6_hindrance 82 = .ok (.iload 4, 2) := by decide +kernel
theorem dX6_hindrance_84 : decode cX6_hindrance 84 = .ok (.iaload, 1) := by decide +kernel
theorem dX6_hindrance_85 : decode cX6_hindrance 85 = .ok (.aload_n 0, 1) := by decide +kernel
theorem dX6_hindrance_86 : decode cX6_hindrance 86 = .ok (.getfield 16, 3) := by decide +kernel
theorem dX6_hindrance_89 : decode cX6_hindrance 89 = .ok (.iload 4, 2) := by decide +kernel
theorem dX6_hindrance_91 : decode cX6_hindrance 91 = .ok (.iaload, 1) := by decide +kernel
theorem dX6_hindrance_92 : decode cX6_hindrance 92 = .ok (.if_icmp .ne 27, 3) := by decide +kernel
theorem dX6_hindrance_95 : decode cX6_hindrance 95 = .ok (.aload_n 0, 1) := by decide +kernel
theorem dX6_hindrance_96 : decode cX6_hindrance 96 = .ok (.iload 4, 2) := by decide +kernel
theorem dX6_hindrance_98 : decode cX6_hindrance 98 = .ok (.aload_n 0, 1) := by decide +kernel
theorem dX6_hindrance_99 : decode cX6_hindrance 99 = .ok (.getfield 22, 3) := by decide +kernel
theorem dX6_hindrance_102 : decode cX6_hindrance 102 = .ok (.iload 4, 2) := by decide +kernel
theorem dX6_hindrance_104 : decode cX6_hindrance 104 = .ok (.iaload, 1) := by decide +kernel
theorem dX6_hindrance_105 : decode cX6_hindrance 105 = .ok (.iconst 1, 1) := by decide +kernel
theorem dX6_hindrance_106 : decode cX6_hindrance 106 = .ok (.isub, 1) := by decide +kernel
theorem dX6_hindrance_107 : decode cX6_hindrance 107 = .ok (.invokevirtual 115, 3) := by decide +kernel
theorem dX6_hindrance_110 : decode cX6_hindrance 110 = .ok (.lload_n 2, 1) := by decide +kernel
theorem dX6_hindrance_111 : decode cX6_hindrance 111 = .ok (.lcmp, 1) := by decide +kernel
theorem dX6_hindrance_112 : decode cX6_hindrance 112 = .ok (.ifCond .ge 7, 3) := by decide +kernel
theorem dX6_hindrance_115 : decode cX6_hindrance 115 = .ok (.iconst 1, 1) := by decide +kernel
theorem dX6_hindrance_116 : decode cX6_hindrance 116 = .ok (.goto 4, 3) := by decide +kernel
theorem dX6_hindrance_119 : decode cX6_hindrance 119 = .ok (.iconst 0, 1) := by decide +kernel
theorem dX6_hindrance_120 : decode cX6_hindrance 120 = .ok (.istore 5, 2) := by decide +kernel
theorem dX6_hindrance_122 : decode cX6_hindrance 122 = .ok (.iload 5, 2) := by decide +kernel
theorem dX6_hindrance_124 : decode cX6_hindrance 124 = .ok (.ifCond .eq 8, 3) := by decide +kernel
theorem dX6_hindrance_127 : decode cX6_hindrance 127 = .ok (.iload 4, 2) := by decide +kernel
theorem dX6_hindrance_129 : decode cX6_hindrance 129 = .ok (.goto 4, 3) := by decide +kernel
theorem dX6_hindrance_132 : decode cX6_hindrance 132 = .ok (.iload_n 1, 1) := by decide +kernel
theorem dX6_hindrance_133 : decode cX6_hindrance 133 = .ok (.istore_n 1, 1) := by decide +kernel
theorem dX6_hindrance_134 : decode cX6_hindrance 134 = .ok (.iinc 4 1, 3) := by decide +kernel
theorem dX6_hindrance_137 : decode cX6_hindrance 137 = .ok (.goto (-122), 3) := by decide +kernel
theorem dX6_hindrance_140 : decode cX6_hindrance 140 = .ok (.iload_n 1, 1) := by decide +kernel
theorem dX6_hindrance_141 : decode cX6_hindrance 141 = .ok (.ireturn, 1) := by decide +kernel
set_option maxRecDepth 20000 in
theorem ggX6_slack_X6_in : GoodIn wsX6_slack wsX6_in := goodIn_r _ [7] (by decide +kernel) (by decide +kernel)
set_option maxRecDepth 20000 in
theorem gX6_slack_X6_in : GoodIn wsX6_slack (va_wsS RX6 51 yX6_in wsX6_in) := goodIn_app (goodIn_of _ (by decide +kernel)) ggX6_slack_X6_in
theorem dX6_slack_0 : decode cX6_slack 0 = .ok (.aload_n 0, 1) := by decide +kernel
theorem dX6_slack_1 : decode cX6_slack 1 = .ok (.iload_n 1, 1) := by decide +kernel
theorem dX6_slack_2 : decode cX6_slack 2 = .ok (.iconst 0, 1) := by decide +kernel
theorem dX6_slack_3 : decode cX6_slack 3 = .ok (.ldc 122, 2) := by decide +kernel
theorem dX6_slack_5 : decode cX6_slack 5 = .ok (.invokestatic 51, 3) := by decide +kernel
theorem dX6_slack_8 : decode cX6_slack 8 = .ok (.ifCond .eq 7, 3) := by decide +kernel
theorem dX6_slack_11 : decode cX6_slack 11 = .ok (.iconst 0, 1) := by decide +kernel
theorem dX6_slack_12 : decode cX6_slack 12 = .ok (.goto 4, 3) := by decide +kernel
theorem dX6_slack_15 : decode cX6_slack 15 = .ok (.iconst 1, 1) := by decide +kernel
theorem dX6_slack_16 : decode cX6_slack 16 = .ok (.putfield 45, 3) := by decide +kernel
theorem dX6_slack_19 : decode cX6_slack 19 = .ok (.aload_n 0, 1) := by decide +kernel
theorem dX6_slack_20 : decode cX6_slack 20 = .ok (.getfield 45, 3) := by decide +kernel
theorem dX6_slack_23 : decode cX6_slack 23 = .ok (.ifCond .le 5, 3) := by decide +kernel
theorem dX6_slack_26 : decode cX6_slack 26 = .ok (.iconst 0, 1) := by decide +kernel
theorem dX6_slack_27 : decode cX6_slack 27 = .ok (.ireturn, 1) := by decide +kernel
theorem dX6_slack_28 : decode cX6_slack 28 = .ok (.aload_n 0, 1) := by decide +kernel
theorem dX6_slack_29 : decode cX6_slack 29 = .ok (.getfield 25, 3) := by decide +kernel
theorem dX6_slack_32 : decode cX6_slack 32 = .ok (.istore_n 2, 1) := by decide +kernel
theorem dX6_slack_33 : decode cX6_slack 33 = .ok (.aload_n 0, 1) := by decide +kernel
theorem dX6_slack_34 : decode cX6_slack 34 = .ok (.iload_n 1, 1) := by decide +kernel
theorem dX6_slack_35 : decode cX6_slack 35 = .ok (.putfield 25, 3) := by decide +kernel
theorem dX6_slack_38 : decode cX6_slack 38 = .ok (.iload_n 2, 1) := by decide +kernel
theorem dX6_slack_39 : decode cX6_slack 39 = .ok (.ireturn, 1) := by decide +kernel
theorem dX6_poses_0 : decode cX6_poses 0 = .ok (.iconst 1, 1) := by decide +kernel
theorem dX6_poses_1 : decode cX6_poses 1 = .ok (.istore_n 1, 1) := by decide +kernel
theorem dX6_poses_2 : decode cX6_poses 2 = .ok (.iconst 0, 1) := by decide +kernel
theorem dX6_poses_3 : decode cX6_poses 3 = .ok (.istore_n 2, 1) := by decide +kernel
theorem dX6_poses_4 : decode cX6_poses 4 = .ok (.iload_n 2, 1) := by decide +kernel
theorem dX6_poses_5 : decode cX6_poses 5 = .ok (.aload_n 0, 1) := by decide +kernel
theorem dX6_poses_6 : decode cX6_poses 6 = .ok (.getfield 48, 3) := by decide +kernel
theorem dX6_poses_9 : decode cX6_poses 9 = .ok (.if_icmp .ge 33, 3) := by decide +kernel
theorem dX6_poses_12 : decode cX6_poses 12 = .ok (.iload_n 1, 1) := by decide +kernel
theorem dX6_poses_13 : decode cX6_poses 13 = .ok (.ldc 123, 2) := by decide +kernel
theorem dX6_poses_15 : decode cX6_poses 15 = .ok (.if_icmp .gt 27, 3) := by decide +kernel
theorem dX6_poses_18 : decode cX6_poses 18 = .ok (.iload_n 1, 1) := by decide +kernel
theorem dX6_poses_19 : decode cX6_poses 19 = .ok (.aload_n 0, 1) := by decide +kernel
theorem dX6_poses_20 : decode cX6_poses 20 = .ok (.getfield 19, 3) := by decide +kernel
theorem dX6_poses_23 : decode cX6_poses 23 = .ok (.iload_n 2, 1) := by decide +kernel
theorem dX6_poses_24 : decode cX6_poses 24 = .ok (.iaload, 1) := by decide +kernel
theorem dX6_poses_25 : decode cX6_poses 25 = .ok (.aload_n 0, 1) := by decide +kernel
theorem dX6_poses_26 : decode cX6_poses 26 = .ok (.getfield 16, 3) := by decide +kernel
theorem dX6_poses_29 : decode cX6_poses 29 = .ok (.iload_n 2, 1) := by decide +kernel
theorem dX6_poses_30 : decode cX6_poses 30 = .ok (.iaload, 1) := by decide +kernel
theorem dX6_poses_31 : decode cX6_poses 31 = .ok (.isub, 1) := by decide +kernel
theorem dX6_poses_32 : decode cX6_poses 32 = .ok (.iconst 1, 1) := by decide +kernel
theorem dX6_poses_33 : decode cX6_poses 33 = .ok (.iadd, 1) := by decide +kernel
theorem dX6_poses_34 : decode cX6_poses 34 = .ok (.imul, 1) := by decide +kernel
theorem dX6_poses_35 : decode cX6_poses 35 = .ok (.istore_n 1, 1) := by decide +kernel
theorem dX6_poses_36 : decode cX6_poses 36 = .ok (.iinc 2 1, 3) := by decide +kernel
theorem dX6_poses_39 : decode cX6_poses 39 = .ok (.goto (-35), 3) := by decide +kernel
theorem dX6_poses_42 : decode cX6_poses 42 = .ok (.iload_n 1, 1) := by decide +kernel
theorem dX6_poses_43 : decode cX6_poses 43 = .ok (.ireturn, 1) := by decide +kernel
theorem dX6_makesPose_0 : decode cX6_makesPose 0 = .ok (.iload_n 1, 1) := by decide +kernel
theorem dX6_makesPose_1 : decode cX6_makesPose 1 = .ok (.istore_n 2, 1) := by decide +kernel
theorem dX6_makesPose_2 : decode cX6_makesPose 2 = .ok (.aload_n 0, 1) := by decide +kernel
theorem dX6_makesPose_3 : decode cX6_makesPose 3 = .ok (.getfield 48, 3) := by decide +kernel
theorem dX6_makesPose_6 : decode cX6_makesPose 6 = .ok (.iconst 1, 1) := by decide +kernel
theorem dX6_makesPose_7 : decode cX6_makesPose 7 = .ok (.isub, 1) := by decide +kernel
theorem dX6_makesPose_8 : decode cX6_makesPose 8 = .ok (.istore_n 3, 1) := by decide +kernel
theorem dX6_makesPose_9 : decode cX6_makesPose 9 = .ok (.iload_n 3, 1) := by decide +kernel
theorem dX6_makesPose_10 : decode cX6_makesPose 10 = .ok (.ifCond .lt 48, 3) := by decide +kernel
theorem dX6_makesPose_13 : decode cX6_makesPose 13 = .ok (.aload_n 0, 1) := by decide +kernel
theorem dX6_makesPose_14 : decode cX6_makesPose 14 = .ok (.getfield 19, 3) := by decide +kernel
theorem dX6_makesPose_17 : decode cX6_makesPose 17 = .ok (.iload_n 3, 1) := by decide +kernel
theorem dX6_makesPose_18 : decode cX6_makesPose 18 = .ok (.iaload, 1) := by decide +kernel
theorem dX6_makesPose_19 : decode cX6_makesPose 19 = .ok (.aload_n 0, 1) := by decide +kernel
theorem dX6_makesPose_20 : decode cX6_makesPose 20 = .ok (.getfield 16, 3) := by decide +kernel
theorem dX6_makesPose_23 : decode cX6_makesPose 23 = .ok (.iload_n 3, 1) := by decide +kernel
theorem dX6_makesPose_24 : decode cX6_makesPose 24 = .ok (.iaload, 1) := by decide +kernel
theorem dX6_makesPose_25 : decode cX6_makesPose 25 = .ok (.isub, 1) := by decide +kernel
theorem dX6_makesPose_26 : decode cX6_makesPose 26 = .ok (.iconst 1, 1) := by decide +kernel
theorem dX6_makesPose_27 : decode cX6_makesPose 27 = .ok (.iadd, 1) := by decide +kernel
theorem dX6_makesPose_28 : decode cX6_makesPose 28 = .ok (.istore 4, 2) := by decide +kernel
theorem dX6_makesPose_30 : decode cX6_makesPose 30 = .ok (.aload_n 0, 1) := by decide +kernel
theorem dX6_makesPose_31 : decode cX6_makesPose 31 = .ok (.getfield 29, 3) := by decide +kernel
theorem dX6_makesPose_34 : decode cX6_makesPose 34 = .ok (.iload_n 3, 1) := by decide +kernel
theorem dX6_makesPose_35 : decode cX6_makesPose 35 = .ok (.aload_n 0, 1) := by decide +kernel
theorem dX6_makesPose_36 : decode cX6_makesPose 36 = .ok (.getfield 16, 3) := by decide +kernel
theorem dX6_makesPose_39 : decode cX6_makesPose 39 = .ok (.iload_n 3, 1) := by decide +kernel
theorem dX6_makesPose_40 : decode cX6_makesPose 40 = .ok (.iaload, 1) := by decide +kernel
theorem dX6_makesPose_41 : decode cX6_makesPose 41 = .ok (.iload_n 2, 1) := by decide +kernel
theorem dX6_makesPose_42 : decode cX6_makesPose 42 = .ok (.iload 4, 2) := by decide +kernel
theorem dX6_makesPose_44 : decode cX6_makesPose 44 = .ok (.irem, 1) := by decide +kernel
theorem dX6_makesPose_45 : decode cX6_makesPose 45 = .ok (.iadd, 1) := by decide +kernel
theorem dX6_makesPose_46 : decode cX6_makesPose 46 = .ok (.iastore, 1) := by decide +kernel
theorem dX6_makesPose_47 : decode cX6_makesPose 47 = .ok (.iload_n 2, 1) := by decide +kernel
theorem dX6_makesPose_48 : decode cX6_makesPose 48 = .ok (.iload 4, 2) := by decide +kernel
theorem dX6_makesPose_50 : decode cX6_makesPose 50 = .ok (.idiv, 1) := by decide +kernel
theorem dX6_makesPose_51 : decode cX6_makesPose 51 = .ok (.istore_n 2, 1) := by decide +kernel
theorem dX6_makesPose_52 : decode cX6_makesPose 52 = .ok (.iinc 3 (-1), 3) := by decide +kernel
