section
-- ===== PART A: goes FIRST, ahead of the names: the tables' words, and 'selects' of the private methods out of them =====
/-- a private method of a class that the tables say can be made, by its rows of tables_1 -/
def lw_okq (q : MethodName × Nat) : Prop := (q.1.cls ≠ "java/lang/invoke/MethodHandle" ∧ q.1.cls ≠ "java/lang/invoke/VarHandle") ∧ Cond.instantiable q.1.cls q.2 ∈ tables_1 ∧ Cond.privateMethod q.1 ∈ tables_1 ∧ Cond.instanceMethod q.1 ∈ tables_1
theorem lw_p0 : lw_okq (⟨"ArmRoom", "findMoves", "()V"⟩, 7) := ⟨⟨by decide +kernel, by decide +kernel⟩, List.mem_of_getElem? (i := 17) (by decide +kernel), List.mem_of_getElem? (i := 172) (by decide +kernel), List.mem_of_getElem? (i := 173) (by decide +kernel)⟩
theorem lw_p1 : lw_okq (⟨"ArmRoom$Tip", "follow", "(LArmRoom$Arm;)V"⟩, 3) := ⟨⟨by decide +kernel, by decide +kernel⟩, List.mem_of_getElem? (i := 81) (by decide +kernel), List.mem_of_getElem? (i := 176) (by decide +kernel), List.mem_of_getElem? (i := 177) (by decide +kernel)⟩
theorem lw_p2 : lw_okq (⟨"ArmRoom$Tip", "followWith", "(LArmRoom$Arm;II)V"⟩, 3) := ⟨⟨by decide +kernel, by decide +kernel⟩, List.mem_of_getElem? (i := 81) (by decide +kernel), List.mem_of_getElem? (i := 180) (by decide +kernel), List.mem_of_getElem? (i := 181) (by decide +kernel)⟩
theorem lw_p3 : lw_okq (⟨"ArmRoom$Tip", "start", "()V"⟩, 3) := ⟨⟨by decide +kernel, by decide +kernel⟩, List.mem_of_getElem? (i := 81) (by decide +kernel), List.mem_of_getElem? (i := 184) (by decide +kernel), List.mem_of_getElem? (i := 185) (by decide +kernel)⟩
theorem lw_p4 : lw_okq (⟨"ArmRoom$Arm", "turnOf", "(II)I"⟩, 6) := ⟨⟨by decide +kernel, by decide +kernel⟩, List.mem_of_getElem? (i := 25) (by decide +kernel), List.mem_of_getElem? (i := 188) (by decide +kernel), List.mem_of_getElem? (i := 189) (by decide +kernel)⟩
theorem lw_p5 : lw_okq (⟨"ArmRoom$Arm", "distanceOf", "(II)I"⟩, 6) := ⟨⟨by decide +kernel, by decide +kernel⟩, List.mem_of_getElem? (i := 25) (by decide +kernel), List.mem_of_getElem? (i := 192) (by decide +kernel), List.mem_of_getElem? (i := 193) (by decide +kernel)⟩
theorem lw_p6 : lw_okq (⟨"ArmRoom$Tip", "go", "(II)V"⟩, 3) := ⟨⟨by decide +kernel, by decide +kernel⟩, List.mem_of_getElem? (i := 81) (by decide +kernel), List.mem_of_getElem? (i := 196) (by decide +kernel), List.mem_of_getElem? (i := 197) (by decide +kernel)⟩
theorem lw_p7 : lw_okq (⟨"ArmRoom", "farNow", "()J"⟩, 7) := ⟨⟨by decide +kernel, by decide +kernel⟩, List.mem_of_getElem? (i := 17) (by decide +kernel), List.mem_of_getElem? (i := 220) (by decide +kernel), List.mem_of_getElem? (i := 221) (by decide +kernel)⟩
theorem lw_p8 : lw_okq (⟨"ArmRoom$Goal", "farFrom", "(II)J"⟩, 3) := ⟨⟨by decide +kernel, by decide +kernel⟩, List.mem_of_getElem? (i := 61) (by decide +kernel), List.mem_of_getElem? (i := 224) (by decide +kernel), List.mem_of_getElem? (i := 225) (by decide +kernel)⟩
theorem lw_p9 : lw_okq (⟨"ArmRoom", "farWith", "(II)J"⟩, 7) := ⟨⟨by decide +kernel, by decide +kernel⟩, List.mem_of_getElem? (i := 17) (by decide +kernel), List.mem_of_getElem? (i := 232) (by decide +kernel), List.mem_of_getElem? (i := 233) (by decide +kernel)⟩
theorem lw_p10 : lw_okq (⟨"java/lang/Throwable", "fillInStackTrace", "(I)Ljava/lang/Throwable;"⟩, 6) := ⟨⟨by decide +kernel, by decide +kernel⟩, List.mem_of_getElem? (i := 283) (by decide +kernel), List.mem_of_getElem? (i := 281) (by decide +kernel), List.mem_of_getElem? (i := 282) (by decide +kernel)⟩
theorem lw_p11 : lw_okq (⟨"ArmRoom$Arm", "isFull", "()Z"⟩, 6) := ⟨⟨by decide +kernel, by decide +kernel⟩, List.mem_of_getElem? (i := 25) (by decide +kernel), List.mem_of_getElem? (i := 315) (by decide +kernel), List.mem_of_getElem? (i := 316) (by decide +kernel)⟩
theorem lw_p12 : lw_okq (⟨"ArmRoom$Arm", "add", "(IIII)I"⟩, 6) := ⟨⟨by decide +kernel, by decide +kernel⟩, List.mem_of_getElem? (i := 25) (by decide +kernel), List.mem_of_getElem? (i := 335) (by decide +kernel), List.mem_of_getElem? (i := 336) (by decide +kernel)⟩
theorem lw_p13 : lw_okq (⟨"ArmRoom$Arm", "held", "(II)I"⟩, 6) := ⟨⟨by decide +kernel, by decide +kernel⟩, List.mem_of_getElem? (i := 25) (by decide +kernel), List.mem_of_getElem? (i := 339) (by decide +kernel), List.mem_of_getElem? (i := 340) (by decide +kernel)⟩
theorem lw_p14 : lw_okq (⟨"ArmRoom", "checkJoint", "(I)V"⟩, 7) := ⟨⟨by decide +kernel, by decide +kernel⟩, List.mem_of_getElem? (i := 17) (by decide +kernel), List.mem_of_getElem? (i := 357) (by decide +kernel), List.mem_of_getElem? (i := 358) (by decide +kernel)⟩
theorem lw_p15 : lw_okq (⟨"ArmRoom$Tip", "told", "(I)I"⟩, 3) := ⟨⟨by decide +kernel, by decide +kernel⟩, List.mem_of_getElem? (i := 81) (by decide +kernel), List.mem_of_getElem? (i := 396) (by decide +kernel), List.mem_of_getElem? (i := 397) (by decide +kernel)⟩
def lw_privs_1 : List (MethodName × Nat) := [(⟨"ArmRoom", "findMoves", "()V"⟩, 7), (⟨"ArmRoom$Tip", "follow", "(LArmRoom$Arm;)V"⟩, 3), (⟨"ArmRoom$Tip", "followWith", "(LArmRoom$Arm;II)V"⟩, 3), (⟨"ArmRoom$Tip", "start", "()V"⟩, 3), (⟨"ArmRoom$Arm", "turnOf", "(II)I"⟩, 6), (⟨"ArmRoom$Arm", "distanceOf", "(II)I"⟩, 6), (⟨"ArmRoom$Tip", "go", "(II)V"⟩, 3), (⟨"ArmRoom", "farNow", "()J"⟩, 7), (⟨"ArmRoom$Goal", "farFrom", "(II)J"⟩, 3), (⟨"ArmRoom", "farWith", "(II)J"⟩, 7), (⟨"java/lang/Throwable", "fillInStackTrace", "(I)Ljava/lang/Throwable;"⟩, 6), (⟨"ArmRoom$Arm", "isFull", "()Z"⟩, 6), (⟨"ArmRoom$Arm", "add", "(IIII)I"⟩, 6), (⟨"ArmRoom$Arm", "held", "(II)I"⟩, 6), (⟨"ArmRoom", "checkJoint", "(I)V"⟩, 7), (⟨"ArmRoom$Tip", "told", "(I)I"⟩, 3)]
theorem lw_r1 : ∀ q ∈ lw_privs_1, lw_okq q := List.forall_mem_cons.mpr ⟨lw_p0, List.forall_mem_cons.mpr ⟨lw_p1, List.forall_mem_cons.mpr ⟨lw_p2, List.forall_mem_cons.mpr ⟨lw_p3, List.forall_mem_cons.mpr ⟨lw_p4, List.forall_mem_cons.mpr ⟨lw_p5, List.forall_mem_cons.mpr ⟨lw_p6, List.forall_mem_cons.mpr ⟨lw_p7, List.forall_mem_cons.mpr ⟨lw_p8, List.forall_mem_cons.mpr ⟨lw_p9, List.forall_mem_cons.mpr ⟨lw_p10, List.forall_mem_cons.mpr ⟨lw_p11, List.forall_mem_cons.mpr ⟨lw_p12, List.forall_mem_cons.mpr ⟨lw_p13, List.forall_mem_cons.mpr ⟨lw_p14, List.forall_mem_cons.mpr ⟨lw_p15, fun _ h => absurd h List.not_mem_nil⟩⟩⟩⟩⟩⟩⟩⟩⟩⟩⟩⟩⟩⟩⟩⟩
theorem lw_p16 : lw_okq (⟨"ArmRoom$Tip", "followBack", "(LArmRoom$Arm;)V"⟩, 3) := ⟨⟨by decide +kernel, by decide +kernel⟩, List.mem_of_getElem? (i := 81) (by decide +kernel), List.mem_of_getElem? (i := 407) (by decide +kernel), List.mem_of_getElem? (i := 408) (by decide +kernel)⟩
theorem lw_p17 : lw_okq (⟨"ArmRoom$Arm", "headingAt", "(I)I"⟩, 6) := ⟨⟨by decide +kernel, by decide +kernel⟩, List.mem_of_getElem? (i := 25) (by decide +kernel), List.mem_of_getElem? (i := 411) (by decide +kernel), List.mem_of_getElem? (i := 412) (by decide +kernel)⟩
theorem lw_p18 : lw_okq (⟨"ArmRoom", "stepped", "(I)Z"⟩, 7) := ⟨⟨by decide +kernel, by decide +kernel⟩, List.mem_of_getElem? (i := 17) (by decide +kernel), List.mem_of_getElem? (i := 441) (by decide +kernel), List.mem_of_getElem? (i := 442) (by decide +kernel)⟩
theorem lw_p19 : lw_okq (⟨"ArmRoom$Arm", "countPoses", "()J"⟩, 6) := ⟨⟨by decide +kernel, by decide +kernel⟩, List.mem_of_getElem? (i := 25) (by decide +kernel), List.mem_of_getElem? (i := 462) (by decide +kernel), List.mem_of_getElem? (i := 463) (by decide +kernel)⟩
theorem lw_p20 : lw_okq (⟨"ArmRoom$Search", "run", "(LArmRoom$Arm;LArmRoom$Goal;I)V"⟩, 7) := ⟨⟨by decide +kernel, by decide +kernel⟩, List.mem_of_getElem? (i := 99) (by decide +kernel), List.mem_of_getElem? (i := 468) (by decide +kernel), List.mem_of_getElem? (i := 469) (by decide +kernel)⟩
theorem lw_p21 : lw_okq (⟨"ArmRoom$Ranking", "clear", "()V"⟩, 3) := ⟨⟨by decide +kernel, by decide +kernel⟩, List.mem_of_getElem? (i := 105) (by decide +kernel), List.mem_of_getElem? (i := 472) (by decide +kernel), List.mem_of_getElem? (i := 473) (by decide +kernel)⟩
theorem lw_p22 : lw_okq (⟨"ArmRoom$Search", "findReach", "(LArmRoom$Arm;LArmRoom$Goal;)V"⟩, 7) := ⟨⟨by decide +kernel, by decide +kernel⟩, List.mem_of_getElem? (i := 99) (by decide +kernel), List.mem_of_getElem? (i := 476) (by decide +kernel), List.mem_of_getElem? (i := 477) (by decide +kernel)⟩
theorem lw_p23 : lw_okq (⟨"ArmRoom$Goal", "isWithin", "(III)Z"⟩, 3) := ⟨⟨by decide +kernel, by decide +kernel⟩, List.mem_of_getElem? (i := 61) (by decide +kernel), List.mem_of_getElem? (i := 484) (by decide +kernel), List.mem_of_getElem? (i := 485) (by decide +kernel)⟩
theorem lw_p24 : lw_okq (⟨"ArmRoom$Search", "keyOf", "(LArmRoom$Arm;LArmRoom$Goal;I)J"⟩, 7) := ⟨⟨by decide +kernel, by decide +kernel⟩, List.mem_of_getElem? (i := 99) (by decide +kernel), List.mem_of_getElem? (i := 491) (by decide +kernel), List.mem_of_getElem? (i := 492) (by decide +kernel)⟩
theorem lw_p25 : lw_okq (⟨"ArmRoom$Ranking", "add", "(J[I)V"⟩, 3) := ⟨⟨by decide +kernel, by decide +kernel⟩, List.mem_of_getElem? (i := 105) (by decide +kernel), List.mem_of_getElem? (i := 498) (by decide +kernel), List.mem_of_getElem? (i := 499) (by decide +kernel)⟩
theorem lw_p26 : lw_okq (⟨"ArmRoom$Ranking", "moveDown", "(I)V"⟩, 3) := ⟨⟨by decide +kernel, by decide +kernel⟩, List.mem_of_getElem? (i := 105) (by decide +kernel), List.mem_of_getElem? (i := 503) (by decide +kernel), List.mem_of_getElem? (i := 504) (by decide +kernel)⟩
theorem lw_p27 : lw_okq (⟨"ArmRoom$Search", "lead", "(LArmRoom$Arm;II)V"⟩, 7) := ⟨⟨by decide +kernel, by decide +kernel⟩, List.mem_of_getElem? (i := 99) (by decide +kernel), List.mem_of_getElem? (i := 510) (by decide +kernel), List.mem_of_getElem? (i := 511) (by decide +kernel)⟩
theorem lw_p28 : lw_okq (⟨"ArmRoom", "findBranch", "(II)V"⟩, 7) := ⟨⟨by decide +kernel, by decide +kernel⟩, List.mem_of_getElem? (i := 17) (by decide +kernel), List.mem_of_getElem? (i := 525) (by decide +kernel), List.mem_of_getElem? (i := 526) (by decide +kernel)⟩
theorem lw_p29 : lw_okq (⟨"ArmRoom$Ranking", "valueOf", "(II)I"⟩, 3) := ⟨⟨by decide +kernel, by decide +kernel⟩, List.mem_of_getElem? (i := 105) (by decide +kernel), List.mem_of_getElem? (i := 532) (by decide +kernel), List.mem_of_getElem? (i := 533) (by decide +kernel)⟩
theorem lw_p30 : lw_okq (⟨"ArmRoomModel", "isJoint", "(I)Z"⟩, 19) := ⟨⟨by decide +kernel, by decide +kernel⟩, List.mem_of_getElem? (i := 543) (by decide +kernel), List.mem_of_getElem? (i := 628) (by decide +kernel), List.mem_of_getElem? (i := 629) (by decide +kernel)⟩
theorem lw_p31 : lw_okq (⟨"ArmRoomModel", "looksNow", "()V"⟩, 19) := ⟨⟨by decide +kernel, by decide +kernel⟩, List.mem_of_getElem? (i := 543) (by decide +kernel), List.mem_of_getElem? (i := 640) (by decide +kernel), List.mem_of_getElem? (i := 641) (by decide +kernel)⟩
def lw_privs_2 : List (MethodName × Nat) := [(⟨"ArmRoom$Tip", "followBack", "(LArmRoom$Arm;)V"⟩, 3), (⟨"ArmRoom$Arm", "headingAt", "(I)I"⟩, 6), (⟨"ArmRoom", "stepped", "(I)Z"⟩, 7), (⟨"ArmRoom$Arm", "countPoses", "()J"⟩, 6), (⟨"ArmRoom$Search", "run", "(LArmRoom$Arm;LArmRoom$Goal;I)V"⟩, 7), (⟨"ArmRoom$Ranking", "clear", "()V"⟩, 3), (⟨"ArmRoom$Search", "findReach", "(LArmRoom$Arm;LArmRoom$Goal;)V"⟩, 7), (⟨"ArmRoom$Goal", "isWithin", "(III)Z"⟩, 3), (⟨"ArmRoom$Search", "keyOf", "(LArmRoom$Arm;LArmRoom$Goal;I)J"⟩, 7), (⟨"ArmRoom$Ranking", "add", "(J[I)V"⟩, 3), (⟨"ArmRoom$Ranking", "moveDown", "(I)V"⟩, 3), (⟨"ArmRoom$Search", "lead", "(LArmRoom$Arm;II)V"⟩, 7), (⟨"ArmRoom", "findBranch", "(II)V"⟩, 7), (⟨"ArmRoom$Ranking", "valueOf", "(II)I"⟩, 3), (⟨"ArmRoomModel", "isJoint", "(I)Z"⟩, 19), (⟨"ArmRoomModel", "looksNow", "()V"⟩, 19)]
theorem lw_r2 : ∀ q ∈ lw_privs_2, lw_okq q := List.forall_mem_cons.mpr ⟨lw_p16, List.forall_mem_cons.mpr ⟨lw_p17, List.forall_mem_cons.mpr ⟨lw_p18, List.forall_mem_cons.mpr ⟨lw_p19, List.forall_mem_cons.mpr ⟨lw_p20, List.forall_mem_cons.mpr ⟨lw_p21, List.forall_mem_cons.mpr ⟨lw_p22, List.forall_mem_cons.mpr ⟨lw_p23, List.forall_mem_cons.mpr ⟨lw_p24, List.forall_mem_cons.mpr ⟨lw_p25, List.forall_mem_cons.mpr ⟨lw_p26, List.forall_mem_cons.mpr ⟨lw_p27, List.forall_mem_cons.mpr ⟨lw_p28, List.forall_mem_cons.mpr ⟨lw_p29, List.forall_mem_cons.mpr ⟨lw_p30, List.forall_mem_cons.mpr ⟨lw_p31, fun _ h => absurd h List.not_mem_nil⟩⟩⟩⟩⟩⟩⟩⟩⟩⟩⟩⟩⟩⟩⟩⟩
theorem lw_p32 : lw_okq (⟨"ArmRoomModel", "copiesPose", "()V"⟩, 19) := ⟨⟨by decide +kernel, by decide +kernel⟩, List.mem_of_getElem? (i := 543) (by decide +kernel), List.mem_of_getElem? (i := 644) (by decide +kernel), List.mem_of_getElem? (i := 645) (by decide +kernel)⟩
theorem lw_p33 : lw_okq (⟨"ArmRoomModel", "looks", "()V"⟩, 19) := ⟨⟨by decide +kernel, by decide +kernel⟩, List.mem_of_getElem? (i := 543) (by decide +kernel), List.mem_of_getElem? (i := 648) (by decide +kernel), List.mem_of_getElem? (i := 649) (by decide +kernel)⟩
theorem lw_p34 : lw_okq (⟨"ArmRoomModel", "findsMoves", "()V"⟩, 19) := ⟨⟨by decide +kernel, by decide +kernel⟩, List.mem_of_getElem? (i := 543) (by decide +kernel), List.mem_of_getElem? (i := 670) (by decide +kernel), List.mem_of_getElem? (i := 671) (by decide +kernel)⟩
theorem lw_p35 : lw_okq (⟨"ArmRoomModel", "farNow", "()J"⟩, 19) := ⟨⟨by decide +kernel, by decide +kernel⟩, List.mem_of_getElem? (i := 543) (by decide +kernel), List.mem_of_getElem? (i := 684) (by decide +kernel), List.mem_of_getElem? (i := 685) (by decide +kernel)⟩
theorem lw_p36 : lw_okq (⟨"ArmRoomModel", "farness", "()J"⟩, 19) := ⟨⟨by decide +kernel, by decide +kernel⟩, List.mem_of_getElem? (i := 543) (by decide +kernel), List.mem_of_getElem? (i := 688) (by decide +kernel), List.mem_of_getElem? (i := 689) (by decide +kernel)⟩
theorem lw_p37 : lw_okq (⟨"ArmRoomModel", "goesOn", "(I)Z"⟩, 19) := ⟨⟨by decide +kernel, by decide +kernel⟩, List.mem_of_getElem? (i := 543) (by decide +kernel), List.mem_of_getElem? (i := 700) (by decide +kernel), List.mem_of_getElem? (i := 701) (by decide +kernel)⟩
theorem lw_p38 : lw_okq (⟨"ArmRoomModel", "farWith", "(II)J"⟩, 19) := ⟨⟨by decide +kernel, by decide +kernel⟩, List.mem_of_getElem? (i := 543) (by decide +kernel), List.mem_of_getElem? (i := 704) (by decide +kernel), List.mem_of_getElem? (i := 705) (by decide +kernel)⟩
theorem lw_p39 : lw_okq (⟨"ArmRoomModel", "poses", "()I"⟩, 19) := ⟨⟨by decide +kernel, by decide +kernel⟩, List.mem_of_getElem? (i := 543) (by decide +kernel), List.mem_of_getElem? (i := 721) (by decide +kernel), List.mem_of_getElem? (i := 722) (by decide +kernel)⟩
theorem lw_p40 : lw_okq (⟨"ArmRoomModel", "findsBranches", "(I)V"⟩, 19) := ⟨⟨by decide +kernel, by decide +kernel⟩, List.mem_of_getElem? (i := 543) (by decide +kernel), List.mem_of_getElem? (i := 726) (by decide +kernel), List.mem_of_getElem? (i := 727) (by decide +kernel)⟩
theorem lw_p41 : lw_okq (⟨"ArmRoomModel", "makesPose", "(I)V"⟩, 19) := ⟨⟨by decide +kernel, by decide +kernel⟩, List.mem_of_getElem? (i := 543) (by decide +kernel), List.mem_of_getElem? (i := 730) (by decide +kernel), List.mem_of_getElem? (i := 731) (by decide +kernel)⟩
theorem lw_p42 : lw_okq (⟨"ArmRoomModel", "keyOf", "(II)J"⟩, 19) := ⟨⟨by decide +kernel, by decide +kernel⟩, List.mem_of_getElem? (i := 543) (by decide +kernel), List.mem_of_getElem? (i := 737) (by decide +kernel), List.mem_of_getElem? (i := 738) (by decide +kernel)⟩
theorem lw_p43 : lw_okq (⟨"ArmRoomModel", "ranks", "(IJ)V"⟩, 19) := ⟨⟨by decide +kernel, by decide +kernel⟩, List.mem_of_getElem? (i := 543) (by decide +kernel), List.mem_of_getElem? (i := 741) (by decide +kernel), List.mem_of_getElem? (i := 742) (by decide +kernel)⟩
theorem lw_p44 : lw_okq (⟨"ArmRoomModel", "findsBranch", "(IIZ)Z"⟩, 19) := ⟨⟨by decide +kernel, by decide +kernel⟩, List.mem_of_getElem? (i := 543) (by decide +kernel), List.mem_of_getElem? (i := 749) (by decide +kernel), List.mem_of_getElem? (i := 750) (by decide +kernel)⟩
def lw_privs_3 : List (MethodName × Nat) := [(⟨"ArmRoomModel", "copiesPose", "()V"⟩, 19), (⟨"ArmRoomModel", "looks", "()V"⟩, 19), (⟨"ArmRoomModel", "findsMoves", "()V"⟩, 19), (⟨"ArmRoomModel", "farNow", "()J"⟩, 19), (⟨"ArmRoomModel", "farness", "()J"⟩, 19), (⟨"ArmRoomModel", "goesOn", "(I)Z"⟩, 19), (⟨"ArmRoomModel", "farWith", "(II)J"⟩, 19), (⟨"ArmRoomModel", "poses", "()I"⟩, 19), (⟨"ArmRoomModel", "findsBranches", "(I)V"⟩, 19), (⟨"ArmRoomModel", "makesPose", "(I)V"⟩, 19), (⟨"ArmRoomModel", "keyOf", "(II)J"⟩, 19), (⟨"ArmRoomModel", "ranks", "(IJ)V"⟩, 19), (⟨"ArmRoomModel", "findsBranch", "(IIZ)Z"⟩, 19)]
theorem lw_r3 : ∀ q ∈ lw_privs_3, lw_okq q := List.forall_mem_cons.mpr ⟨lw_p32, List.forall_mem_cons.mpr ⟨lw_p33, List.forall_mem_cons.mpr ⟨lw_p34, List.forall_mem_cons.mpr ⟨lw_p35, List.forall_mem_cons.mpr ⟨lw_p36, List.forall_mem_cons.mpr ⟨lw_p37, List.forall_mem_cons.mpr ⟨lw_p38, List.forall_mem_cons.mpr ⟨lw_p39, List.forall_mem_cons.mpr ⟨lw_p40, List.forall_mem_cons.mpr ⟨lw_p41, List.forall_mem_cons.mpr ⟨lw_p42, List.forall_mem_cons.mpr ⟨lw_p43, List.forall_mem_cons.mpr ⟨lw_p44, fun _ h => absurd h List.not_mem_nil⟩⟩⟩⟩⟩⟩⟩⟩⟩⟩⟩⟩⟩
def lw_privs : List (MethodName × Nat) := lw_privs_1 ++ (lw_privs_2 ++ (lw_privs_3))
def lw_tbl : List Cond := k2_sels lw_privs ++ tables_1
theorem lw_privs_ok : ∀ q ∈ lw_privs, lw_okq q := by
  show ∀ q ∈ lw_privs_1 ++ (lw_privs_2 ++ (lw_privs_3)), lw_okq q
  exact List.forall_mem_append.mpr ⟨lw_r1, List.forall_mem_append.mpr ⟨lw_r2, lw_r3⟩⟩
-- ===== end of PART A; then your names; then what follows =====
end
section
/-! ===== BEGIN words of one list among another's, by their places ===== -/
theorem goodIn_r {big : List Cond} (ws : List Cond) (ps : List Nat) (hp : ws = ps.filterMap (fun i => big[i]?)) (h : ws.all goodWord = true) : GoodIn big ws := by
  intro w hw
  have h1 := List.all_eq_true.mp h w hw
  rw [hp] at hw
  obtain ⟨i, -, hi⟩ := List.mem_filterMap.mp hw
  have hm : w ∈ big := by first | exact List.mem_of_getElem? hi | exact List.getElem?_mem hi
  exact ⟨hm, good_of_word h1⟩
theorem goodIn_app {big a b : List Cond} (ha : GoodIn big a) (hb : GoodIn big b) : GoodIn big (a ++ b) := fun w h => (List.mem_append.mp h).elim (ha w) (hb w)
theorem goodIn_ca {big a b : List Cond} {c : Cond} (ha : GoodIn big (c :: a)) (hb : GoodIn big b) : GoodIn big (c :: (a ++ b)) := fun w h => (List.mem_cons.mp h).elim (fun e => ha w (List.mem_cons.mpr (Or.inl e))) (fun h => (List.mem_append.mp h).elim (fun h => ha w (List.mem_cons.mpr (Or.inr h))) (hb w))
theorem goodIn_sub {big ws : List Cond} (hm : ∀ w ∈ ws, w ∈ big) (h : ws.all goodWord = true) : GoodIn big ws := fun w hw => ⟨hm w hw, good_of_word (List.all_eq_true.mp h w hw)⟩
/-! ===== END ===== -/

/-! ===== BEGIN exceptions that leave a method, and their catching by the caller (launches without stack traces) ===== -/
section VXA
/-! The laws vx_back, vx_callV, vx_callS, vx_callSW, vx_throw0, vx_throwS follow proofs of the library, with one case more: JvmDerived/Free/Laws.lean (Back.of_free), Shelf42/LK1.lean (callV, callS), Shelf/KitTraced.lean (throwNew0V, throwNewS). -/
/-- where a method has thrown q: the class by its name, the cell, what was written, the world -/
def vx_T (XC : String → State → State → Prop) (st : State) (q : Addr) (t : State) (mc ms : Nat) (free : Addr → Prop) : Prop :=
  ∃ (E : String) (ce : Cell) (L : List Loc), XC E st t ∧ t.heap[q]? = some ce ∧ ce.vm = .none ∧ st.vm.findClass E = some ce.cls ∧ st.WarmedH t.vm ∧ st.sameButNew ({ t with vm := st.vm } : State) L mc ms ∧ ∀ z ∈ L, free z.base
def vx_Q (Qc : Array Value → State → Outcome → State → Prop) (XC : String → State → State → Prop) (mc ms : Nat) (free : Addr → Prop) : Array Value → State → Outcome → State → Prop := fun a st o t =>
  (Qc a st o t ∧ ∃ L, FrameEnd st o t L mc ms ∧ ∀ q ∈ L, free q.base) ∨ ∃ q, o = .threw q ∧ vx_T XC st q t mc ms free
/-- a callee that returns or throws -/
def vx_Met (l : Launch) (y : MethodName) (ws : List Cond) (rm : Room) (Pc : Array Value → State → Prop) (Qc : Array Value → State → Outcome → State → Prop) (XC : String → State → State → Prop) (mc ms : Nat) (free : Addr → Prop) : Prop :=
  MetFree l y (headSpec ws rm) Pc (fun _ _ _ _ _ => True) (vx_Q Qc XC mc ms free)
def vx_Post (XC : String → State → State → Prop) (mc ms : Nat) (free : Addr → Prop) : Pt → Array Value → Addr → Pt → Prop := fun A a q B =>
  ∃ (g : JFrame) (mk : MethodId) (t : State) (L : List Loc) (E : String) (ce : Cell), B.U.heap = t.heap ∧ B.U.vm = t.vm ∧ XC E (A.U.calling g mk a) t ∧ t.heap[q]? = some ce ∧ ce.vm = .none ∧ A.U.vm.findClass E = some ce.cls ∧ B.locs = A.locs ++ L ∧ (∀ z ∈ L, free z.base) ∧ B.cells = A.cells + mc ∧ B.slots = A.slots + ms
def vx_Back (l : Launch) (R : Room) (p : Program) (e : Env) (below : List Frame) (s : State) (sargs : Array Value) (y : MethodName) (len W9 : Nat)
    (Pre : Pt → Array Value → Prop) (Post : Pt → Array Value → Option Value → Pt → Prop) (PostX : Pt → Array Value → Addr → Pt → Prop) : Prop :=
  ∀ (m : MethodId) (meth : Method) (c : Code) (A : Pt) (g : JFrame) (ig : Instr) (mk : MethodId) (a : Array Value),
    Stand p l e R s m sargs below meth c A.U A.locs A.cells A.slots → g.method = m → g.locals.size = c.maxLocals → decode c.code g.pc = .ok (ig, len) →
    2 * g.monitorRoom + (g.stack.map fun v => v.category).sum ≤ W9 → A.U.methodNamed? y = some mk → Pre A a →
    (∃ (v : Option Value) (B : Pt), Stand p l e R s m sargs below meth c B.U B.locs B.cells B.slots ∧ Post A a v B ∧
      Steps p.tables e below (doInvoke e (A.U.setTop g) [] mk a).1 (B.U.setTop { g with pc := g.pc + len, stack := v.toList ++ g.stack })) ∨
    (∃ (q : Addr) (B : Pt), Stand p l e R s m sargs below meth c B.U B.locs B.cells B.slots ∧ PostX A a q B ∧
      Steps p.tables e below (doInvoke e (A.U.setTop g) [] mk a).1 ((B.U.setTop g).pushFrame (.throwing q)))
section Payer
variable {l : Launch} {R : Room} {p : Program} {e : Env} {below : List Frame} {s : State} {sargs : Array Value} {y : MethodName} {len W9 : Nat}
theorem vx_back {ws : List Cond} {rm : Room} {Pc : Array Value → State → Prop} {Qc : Array Value → State → Outcome → State → Prop} {XC : String → State → State → Prop} {mc ms : Nat} {free : Addr → Prop} {bytes : ByteArray} {maxL : Nat} {ret : Option FieldType}
    (hM : vx_Met l y ws rm Pc Qc XC mc ms free) (hblind : FrameBlind Pc) (hrc : rm.cells = mc) (hrs : rm.slots = ms)
    (hframes : rm.frames + 1 ≤ R.frames) (hlocals : W9 + (maxL + 11) + rm.locals ≤ R.locals)
    (hws : ∀ w ∈ ws, ∀ a' U, s.WarmedH U.vm → w.before a' U = true) (hcode : Cond.code y bytes maxL ret ∈ ws) (hinit : ∀ a' U, s.WarmedH U.vm → (Cond.initialized y.cls).before a' U = true) :
    vx_Back l R p e below s sargs y len W9 (PreOf R mc ms Pc) (PostOf Qc mc ms free) (vx_Post XC mc ms free) := by
  intro m meth c A g ig mk a X hg hsize hdg hW hn hp
  have h1 : (headSpec ws rm).pre.before a A.U = true := atoms_intro fun w hw => hws w hw _ _ X.warmed
  have h2 : (Cond.code y bytes maxL ret).before a A.U = true := hws _ hcode _ _ X.warmed
  have h3 : (Cond.initialized y.cls).before a A.U = true := hinit _ _ X.warmed
  have h4 : A.cells + (headSpec ws rm).room.cells ≤ R.cells := by rw [show (headSpec ws rm).room.cells = mc from hrc]; exact hp.1
  have h5 : A.slots + (headSpec ws rm).room.slots ≤ R.slots := by rw [show (headSpec ws rm).room.slots = ms from hrs]; exact hp.2.1
  have hPc : Pc a (A.U.calling g mk a) := hblind _ _ _ _ hp.2.2
  obtain ⟨U, Ls, c0, s0⟩ := A
  dsimp only [Pt.U, Pt.locs, Pt.cells, Pt.slots] at h1 h2 h3 h4 h5 X hn hPc ⊢
  obtain ⟨methY, cY, hmY, hcY, -, hlY, -, -, -, -⟩ := Cond.code_spec hn h2
  obtain ⟨kY, hkY, -⟩ := className_of_methodNamed hn
  have hinitY : kY.init = .initialized := Cond.initialized_spec (findClass_of_methodNamed hn) hkY h3
  have h : At U g.method c below := by rw [hg]; exact X.here
  have hlocals9 : W9 + (maxL + 11) + (headSpec ws rm).room.locals ≤ R.locals := hlocals
  have happ : (headSpec ws rm).appliesLoose y e.platform (U.calling g mk a) = true :=
    Spec.appliesLoose_calling (g := g) h hdg hn hkY hinitY
      (X.room_calling (g := g) (R' := (headSpec ws rm).room) hsize hmY hcY hframes (by rw [hlY]; omega) h4 h5) h1
  obtain ⟨mid, hmid⟩ := h.above
  have hfr : (U.setTop g).frames = (.java g :: mid) ++ below := by rw [State.frames_setTop' g h.top, hmid]; rfl
  obtain ⟨o, s₂, hsteps, -, hend, hq⟩ := Steps.callFree hM p X.admits X.cas X.clock (acts := []) hfr happ hPc trivial
  have hq' : vx_Q Qc XC mc ms free a (U.calling g mk a) o s₂ := hq
  rw [State.frames_setTop' g h.top] at hend
  obtain ⟨g₀, hg0⟩ := Option.isSome_iff_exists.mp h.top
  obtain ⟨r, hr⟩ := State.topJava?_eq_some.mp hg0
  have hr' : (({ U with heap := s₂.heap, slotsUsed := s₂.slotsUsed } : State).setVm s₂.vm).frames = .java g₀ :: r := hr
  rcases hq' with ⟨hqc, L, hfe, hL⟩ | ⟨q, rfl, E, ce, L, hx, hce, hcv, hcl, hW₂, hsm, hL⟩
  · obtain ⟨⟨v, rfl⟩, hW₂, e2, q2, q3, q4, q5, q6⟩ := id hfe
    have e3 : s₂ = ({ (U.calling g mk a).setFrames s₂.frames with heap := s₂.heap, slotsUsed := s₂.slotsUsed } : State).setVm s₂.vm := by
      have : s₂ = ({ s₂ with vm := (U.calling g mk a).vm } : State).setVm s₂.vm := rfl
      rw [e2] at this
      exact this
    obtain ⟨c₂, i₂, len₂, hc₂, hd₂, hf₂⟩ := hend
    have hW' : U.WarmedH s₂.vm := hW₂
    have hcc : c₂ = c := by
      have h1 : s₂.code? g.method = U.code? g.method := by
        rw [State.code?_eq, State.code?_eq, hW'.alike.method?]
      exact Option.some.inj (hc₂.symm.trans (h1.trans h.code))
    subst hcc
    have hlen : len₂ = len := by rw [hdg] at hd₂; cases hd₂; rfl
    subst hlen
    have hs₂ : s₂ = (({ U with heap := s₂.heap, slotsUsed := s₂.slotsUsed } : State).setVm s₂.vm).setTop { g with pc := g.pc + len₂, stack := v.toList ++ g.stack } := by
      refine e3.trans ?_
      rw [hf₂, State.calling_eq h.top, State.setFrames_setFrames, State.setTop_of_frames _ hr', hr]
      rfl
    have hsame : U.sameButNew ({ U with heap := s₂.heap, slotsUsed := s₂.slotsUsed } : State) L mc ms := by
      refine ⟨?_, q2, q3, q4, q5, q6⟩
      obtain ⟨t, ht, -⟩ := State.frames_cons hr
      show ({ U with heap := s₂.heap, slotsUsed := s₂.slotsUsed } : State) = { U.setFrames U.frames with heap := s₂.heap, slotsUsed := s₂.slotsUsed }
      rw [State.setFrames_self ht]
    subst hg
    refine Or.inl ⟨v, ⟨(({ U with heap := s₂.heap, slotsUsed := s₂.slotsUsed } : State).setVm s₂.vm), Ls ++ L, c0 + mc, s0 + ms⟩,
      ⟨X.admits, X.cas, X.clock, X.frames, X.room, X.hears, X.method, X.code, (X.here.setHeapUsed s₂.heap s₂.slotsUsed).setVm hW'.alike, X.tail, State.WarmedH.trans X.warmed hW', X.limits, X.bytes, X.same.trans (hsame.setVm s.vm)⟩,
      ⟨g, mk, s₂, L, rfl, rfl, hqc, rfl, hL, rfl, rfl⟩, ?_⟩
    show Steps p.tables e below _ ((({ U with heap := s₂.heap, slotsUsed := s₂.slotsUsed } : State).setVm s₂.vm).setTop { g with pc := g.pc + len₂, stack := v.toList ++ g.stack })
    rw [← hs₂]
    exact hsteps
  · obtain ⟨e2, q2, q3, q4, q5, q6⟩ := id hsm
    have e3 : s₂ = ({ (U.calling g mk a).setFrames s₂.frames with heap := s₂.heap, slotsUsed := s₂.slotsUsed } : State).setVm s₂.vm := by
      have : s₂ = ({ s₂ with vm := (U.calling g mk a).vm } : State).setVm s₂.vm := rfl
      rw [e2] at this
      exact this
    have hf₂ : s₂.frames = .throwing q :: .java g :: U.frames.tail := hend
    have hW' : U.WarmedH s₂.vm := hW₂
    have hs₂ : s₂ = ((({ U with heap := s₂.heap, slotsUsed := s₂.slotsUsed } : State).setVm s₂.vm).setTop g).pushFrame (.throwing q) := by
      refine e3.trans ?_
      rw [hf₂, State.calling_eq h.top, State.setFrames_setFrames, State.pushFrame, State.frames_setTop _ hr', State.setTop_of_frames _ hr', State.setFrames_setFrames, hr]
      rfl
    have hsame : U.sameButNew ({ U with heap := s₂.heap, slotsUsed := s₂.slotsUsed } : State) L mc ms := by
      refine ⟨?_, q2, q3, q4, q5, q6⟩
      obtain ⟨t, ht, -⟩ := State.frames_cons hr
      show ({ U with heap := s₂.heap, slotsUsed := s₂.slotsUsed } : State) = { U.setFrames U.frames with heap := s₂.heap, slotsUsed := s₂.slotsUsed }
      rw [State.setFrames_self ht]
    subst hg
    refine Or.inr ⟨q, ⟨(({ U with heap := s₂.heap, slotsUsed := s₂.slotsUsed } : State).setVm s₂.vm), Ls ++ L, c0 + mc, s0 + ms⟩,
      ⟨X.admits, X.cas, X.clock, X.frames, X.room, X.hears, X.method, X.code, (X.here.setHeapUsed s₂.heap s₂.slotsUsed).setVm hW'.alike, X.tail, State.WarmedH.trans X.warmed hW', X.limits, X.bytes, X.same.trans (hsame.setVm s.vm)⟩,
      ⟨g, mk, s₂, L, E, ce, rfl, rfl, hx, hce, hcv, hcl, rfl, hL, rfl, rfl⟩, ?_⟩
    show Steps p.tables e below _ (((({ U with heap := s₂.heap, slotsUsed := s₂.slotsUsed } : State).setVm s₂.vm).setTop g).pushFrame (.throwing q))
    rw [← hs₂]
    exact hsteps
end Payer
section Calls
variable {p : Program} {l : Launch} {e : Env} {R : Room} {s : State} {m : MethodId} {args : Array Value} {below : List Frame} {meth : Method} {c : Code} {T : State} {locs : List Loc} {cells slots : Nat}
theorem vx_callV (X : Stand p l e R s m args below meth c T locs cells slots) (hexec : p.tables.exec = Jvm.exec) {own C : String} {index : Nat} {y : MethodName} {bytes : ByteArray} {maxL : Nat} {ret : Option FieldType}
    (hown : s.vm.findClass own = some m.cls) (hlink : (Cond.methodLink own index y).before args s = true) (hinst : (Cond.instanceMethod y).before args s = true) (hsel : (Cond.selects C y y).before args s = true)
    (hcode : (Cond.code y bytes maxL ret).before args s = true) (hy : y.cls ≠ "java/lang/invoke/MethodHandle" ∧ y.cls ≠ "java/lang/invoke/VarHandle")
    {W9 : Nat} {Pre : Pt → Array Value → Prop} {Post : Pt → Array Value → Option Value → Pt → Prop} {PostX : Pt → Array Value → Addr → Pt → Prop} (hK : vx_Back l R p e below s args y 3 W9 Pre Post PostX)
    {b : Addr} {cellB : Cell} (hcell : T.heap[b]? = some cellB) (hobj : cellB.vm.isStatics = false) (hcls : s.vm.findClass C = some cellB.cls)
    {g : JFrame} (hg : g.method = m) (hsize : g.locals.size = c.maxLocals) {argsL rest : List Value} (hlen : ∀ sig, parseMethodDescriptor y.desc = some sig → argsL.length = sig.parameters.length)
    (hstack : g.stack = argsL.reverse ++ .ref b :: rest) (hW : 2 * g.monitorRoom + (rest.map fun v => v.category).sum ≤ W9) (hdg : decode c.code g.pc = .ok (.invokevirtual index, 3))
    (hpre : ∀ vm₁, s.WarmedH vm₁ → Pre ⟨T.setVm vm₁, locs, cells, slots⟩ (Value.ref b :: argsL).toArray) :
    (∃ (v : Option Value) (vm₁ : Vm) (B : Pt), s.WarmedH vm₁ ∧ Stand p l e R s m args below meth c B.U B.locs B.cells B.slots ∧ Post ⟨T.setVm vm₁, locs, cells, slots⟩ (Value.ref b :: argsL).toArray v B ∧
      ∀ target, Steps p.tables e below (B.U.setTop { g with pc := g.pc + 3, stack := v.toList ++ rest }) target → Steps p.tables e below (T.setTop g) target) ∨
    (∃ (q : Addr) (vm₁ : Vm) (B : Pt), s.WarmedH vm₁ ∧ Stand p l e R s m args below meth c B.U B.locs B.cells B.slots ∧ PostX ⟨T.setVm vm₁, locs, cells, slots⟩ (Value.ref b :: argsL).toArray q B ∧
      Steps p.tables e below (T.setTop g) ((B.U.setTop { g with stack := rest }).pushFrame (.throwing q))) := by
  obtain ⟨mk, methM, hnamed, hmethM, hstM, habM⟩ := Cond.instanceMethod_spec hinst
  obtain ⟨methM', cM, hmethM', -, -, -, -, -, -, hsigM⟩ := Cond.code_spec hnamed hcode
  cases hmethM.symm.trans hmethM'
  obtain ⟨c2, r2, m2, q1, q2, q3, q4, kP, hkP, hkPi⟩ := Cond.selects_spec hsel
  cases hcls.symm.trans q1
  cases (State.methodFound?_of_named hnamed hy).symm.trans q2
  cases hnamed.symm.trans q3
  have hselP : selectMethod e.platform s.vm cellB.cls mk = .method mk := by rw [Launch.admits_selectMethod X.admits]; exact q4
  obtain ⟨vm₁, X₁, hstep₁⟩ := X.invokevirtual hexec hown hlink hnamed hmethM hstM hkP hkPi hy (a := b) (cell := cellB) hcell
    (fun z h => by rw [h] at hobj; cases hobj) hselP hmethM habM hkP hkPi (g := g) hg (argsL := argsL) (rest := rest) (hlen _ hsigM) hstack hdg
  rcases hK m meth c ⟨T.setVm vm₁, locs, cells, slots⟩ { g with stack := rest } (.invokevirtual index) mk (Value.ref b :: argsL).toArray X₁ hg hsize hdg hW (X₁.named hnamed) (hpre vm₁ X₁.warmed) with ⟨v, B, X', hpost, hsteps⟩ | ⟨q, B, X', hpost, hsteps⟩
  · exact Or.inl ⟨v, vm₁, B, X₁.warmed, X', hpost, fun target h => hstep₁ _ fun acts => by rw [doInvoke_state]; exact hsteps.trans h⟩
  · exact Or.inr ⟨q, vm₁, B, X₁.warmed, X', hpost, hstep₁ _ fun acts => by rw [doInvoke_state]; exact hsteps⟩
theorem vx_callS (X : Stand p l e R s m args below meth c T locs cells slots) (hexec : p.tables.exec = Jvm.exec) {own : String} {index : Nat} {y : MethodName} {bytes : ByteArray} {maxL : Nat} {ret : Option FieldType}
    (hown : s.vm.findClass own = some m.cls) (hlink : (Cond.methodLink own index y).before args s = true) (hstat : (Cond.static y).before args s = true) (hinit : (Cond.initialized y.cls).before args s = true)
    (hcode : (Cond.code y bytes maxL ret).before args s = true) (hy : y.cls ≠ "java/lang/invoke/MethodHandle" ∧ y.cls ≠ "java/lang/invoke/VarHandle")
    {W9 : Nat} {Pre : Pt → Array Value → Prop} {Post : Pt → Array Value → Option Value → Pt → Prop} {PostX : Pt → Array Value → Addr → Pt → Prop} (hK : vx_Back l R p e below s args y 3 W9 Pre Post PostX)
    {g : JFrame} (hg : g.method = m) (hsize : g.locals.size = c.maxLocals) {argsL rest : List Value} (hlen : ∀ sig, parseMethodDescriptor y.desc = some sig → argsL.length = sig.parameters.length)
    (hstack : g.stack = argsL.reverse ++ rest) (hW : 2 * g.monitorRoom + (rest.map fun v => v.category).sum ≤ W9) (hdg : decode c.code g.pc = .ok (.invokestatic index, 3))
    (hpre : ∀ vm₁, s.WarmedH vm₁ → Pre ⟨T.setVm vm₁, locs, cells, slots⟩ argsL.toArray) :
    (∃ (v : Option Value) (vm₁ : Vm) (B : Pt), s.WarmedH vm₁ ∧ Stand p l e R s m args below meth c B.U B.locs B.cells B.slots ∧ Post ⟨T.setVm vm₁, locs, cells, slots⟩ argsL.toArray v B ∧
      ∀ target, Steps p.tables e below (B.U.setTop { g with pc := g.pc + 3, stack := v.toList ++ rest }) target → Steps p.tables e below (T.setTop g) target) ∨
    (∃ (q : Addr) (vm₁ : Vm) (B : Pt), s.WarmedH vm₁ ∧ Stand p l e R s m args below meth c B.U B.locs B.cells B.slots ∧ PostX ⟨T.setVm vm₁, locs, cells, slots⟩ argsL.toArray q B ∧
      Steps p.tables e below (T.setTop g) ((B.U.setTop { g with stack := rest }).pushFrame (.throwing q))) := by
  obtain ⟨mk, hnamed⟩ := Cond.code_named hcode
  obtain ⟨methM, cM, hmethM, -, -, -, -, -, -, hsigM⟩ := Cond.code_spec hnamed hcode
  have hstatic : methM.isStatic = true := Cond.static_spec hnamed hmethM hstat
  obtain ⟨kP, hkP, -⟩ := className_of_methodNamed hnamed
  have hinitP : kP.init = .initialized := Cond.initialized_spec (findClass_of_methodNamed hnamed) hkP hinit
  obtain ⟨vm₁, X₁, hstep₁⟩ := X.invokestatic hexec hown hlink hnamed hmethM hstatic hkP hinitP hy (g := g) hg (argsL := argsL) (rest := rest) (hlen _ hsigM) hstack hdg
  rcases hK m meth c ⟨T.setVm vm₁, locs, cells, slots⟩ { g with stack := rest } (.invokestatic index) mk argsL.toArray X₁ hg hsize hdg hW (X₁.named hnamed) (hpre vm₁ X₁.warmed) with ⟨v, B, X', hpost, hsteps⟩ | ⟨q, B, X', hpost, hsteps⟩
  · exact Or.inl ⟨v, vm₁, B, X₁.warmed, X', hpost, fun target h => hstep₁ _ fun acts => by rw [doInvoke_state]; exact hsteps.trans h⟩
  · exact Or.inr ⟨q, vm₁, B, X₁.warmed, X', hpost, hstep₁ _ fun acts => by rw [doInvoke_state]; exact hsteps⟩
end Calls
theorem vx_cls {s : State} {T : State} {vm₁ : Vm} {E : String} {k : ClassId} (hW : s.WarmedH vm₁) (h : (T.setVm vm₁).vm.findClass E = some k) : s.vm.findClass E = some k := by
  have h1 : vm₁.findClass E = some k := h
  rw [hW.alike.findClass] at h1
  exact h1
/-- the method's frame g, with q thrown over it -/
def vx_W (p : Program) (l : Launch) (e : Env) (R : Room) (s : State) (m : MethodId) (args : Array Value) (below : List Frame) (meth : Method) (c : Code) (H : Heap) (locs : List Loc) (cells slots : Nat) (Q : State → Prop) (g : JFrame) (q : Addr) : Prop :=
  ∀ T : State, T.heap = H → Stand p l e R s m args below meth c T locs cells slots → ∃ t, Steps p.tables e below ((T.setTop g).pushFrame (.throwing q)) t ∧ Q t
def vx_Run (p : Program) (l : Launch) (e : Env) (R : Room) (s : State) (m : MethodId) (args : Array Value) (below : List Frame) (meth : Method) (c : Code) (H : Heap) (locs : List Loc) (cells slots mc ms : Nat) (g : JFrame) (rest : List Value) (Qa : State → Outcome → State → Prop) (XC : String → State → State → Prop) (free : Addr → Prop) : Prop :=
  ∀ T : State, T.heap = H → Stand p l e R s m args below meth c T locs cells slots →
    (∃ (v : Option Value) (st₀ t T' : State) (L : List Loc), st₀.heap = H ∧ Stand p l e R s m args below meth c T' (locs ++ L) (cells + mc) (slots + ms) ∧ (∀ q ∈ L, free q.base) ∧ T'.heap = t.heap ∧ T'.vm = t.vm ∧ Qa st₀ (.returned v) t ∧
      Goes p e below T g T' { g with pc := g.pc + 3, stack := v.toList ++ rest }) ∨
    (∃ (q : Addr) (st₀ t T' : State) (L : List Loc) (E : String) (ce : Cell), st₀.heap = H ∧ Stand p l e R s m args below meth c T' (locs ++ L) (cells + mc) (slots + ms) ∧ (∀ z ∈ L, free z.base) ∧ T'.heap = t.heap ∧ T'.vm = t.vm ∧ XC E st₀ t ∧ t.heap[q]? = some ce ∧ ce.vm = .none ∧ s.vm.findClass E = some ce.cls ∧
      Steps p.tables e below (T.setTop g) ((T'.setTop { g with stack := rest }).pushFrame (.throwing q)))
def vx_X {S : Type} (px : S → Prop) (B : String → S → State → Prop) (A : Nat → Prop) : String → State → State → Prop := fun E st t => ∃ u : S, px u ∧ B E u t ∧ va_F A st t
section Runs
variable {p : Program} {l : Launch} {e : Env} {R : Room} {s : State} {m : MethodId} {args : Array Value} {below : List Frame} {meth : Method} {c : Code} {H : Heap} {locs : List Loc} {cells slots : Nat}
variable {y : MethodName} {bytes cc : ByteArray} {maxL nL mc ms n index : Nat} {ret : Option FieldType} {ws : List Cond} {rm : Room} {Pc : Array Value → State → Prop} {Qc : Array Value → State → Outcome → State → Prop} {XC : String → State → State → Prop} {free : Addr → Prop} {Ts : List Cond} {own C : String} {b : Addr} {As rest : List Value} {g : JFrame}
theorem vx_callBack (cb : CallB R s args own index y bytes maxL ret ws rm mc ms n) (hM : vx_Met l y ws rm Pc Qc XC mc ms free) (hbl : FrameBlind Pc) : vx_Back l R p e below s args y 3 8 (PreOf R mc ms Pc) (PostOf Qc mc ms free) (vx_Post XC mc ms free) := by
  obtain ⟨hrc, hrs, hfr, hlo, hws, hcw, -, hini, -⟩ := cb
  exact vx_back (bytes := bytes) (maxL := maxL) (ret := ret) hM hbl hrc hrs hfr hlo hws hcw (fun a' U hW => word_at hW (Or.inl (by first | rfl | simp [Cond.onTables, Cond.keeps, Cond.steady])) hini)
theorem vx_runV (S : CallFix p m c cc nL s args Ts own) (hM : vx_Met l y ws rm Pc Qc XC mc ms free) (cw : CallW R s args own C index y bytes maxL ret ws rm mc ms n) (hp : PreV s H C b Pc As)
    (hg : g.method = m) (hn : As.length = n) (hsize : g.locals.size = nL) (hstack : g.stack = As.reverse ++ .ref b :: rest) (hW : 2 * g.monitorRoom + (rest.map fun v => v.category).sum ≤ 8) (hdg : decode cc g.pc = .ok (.invokevirtual index, 3)) (hf : cells + mc ≤ R.cells ∧ slots + ms ≤ R.slots) :
    vx_Run p l e R s m args below meth c H locs cells slots mc ms g rest (Qc (Value.ref b :: As).toArray) XC free := by
  have hK : vx_Back l R p e below s args y 3 8 (PreOf R mc ms Pc) (PostOf Qc mc ms free) (vx_Post XC mc ms free) := vx_callBack cw.1 hM hp.1
  obtain ⟨⟨-, -, -, -, -, -, hcode, -, hy, hlen, hl⟩, hin, hse⟩ := cw
  obtain ⟨hx, hb, hml, ho, -⟩ := S
  obtain ⟨-, ⟨cellB, hcB, hoB, hclB⟩, hPc⟩ := hp
  intro T hT X
  rcases vx_callV X hx (C := C) (bytes := bytes) (maxL := maxL) (ret := ret) ho hl hin hse hcode hy hK (by rw [hT]; exact hcB) hoB hclB hg (hsize.trans hml.symm) (argsL := As) (rest := rest) (fun sig h => hn.trans (hlen sig h)) hstack hW (by rw [hb]; exact hdg)
    (fun vm₁ hW₁ => ⟨hf.1, hf.2, hPc (T.setVm vm₁) hT hW₁⟩) with ⟨v, vm₁, ⟨U', l2, c2, s2⟩, hW₁, X', ⟨g', mk, t, L, e1, e2, hq, h1, hL, h2, h3⟩, st⟩ | ⟨q, vm₁, ⟨U', l2, c2, s2⟩, hW₁, X', ⟨g', mk, t, L, E, ce, e1, e2, hq, hce, hcv, hcl, h1, hL, h2, h3⟩, st⟩
  · dsimp only [Pt.U, Pt.locs, Pt.cells, Pt.slots] at X' e1 e2 h1 h2 h3 st
    subst h1; subst h2; subst h3
    exact Or.inl ⟨v, (T.setVm vm₁).calling g' mk (Value.ref b :: As).toArray, t, U', L, hT, X', hL, e1, e2, hq, st⟩
  · dsimp only [Pt.U, Pt.locs, Pt.cells, Pt.slots] at X' e1 e2 h1 h2 h3 st hcl
    subst h1; subst h2; subst h3
    exact Or.inr ⟨q, (T.setVm vm₁).calling g' mk (Value.ref b :: As).toArray, t, U', L, E, ce, hT, X', hL, e1, e2, hq, hce, hcv, vx_cls hW₁ hcl, st⟩
theorem vx_runS (S : CallFix p m c cc nL s args Ts own) (hM : vx_Met l y ws rm Pc Qc XC mc ms free) (cw : CallB R s args own index y bytes maxL ret ws rm mc ms n ∧ (Cond.static y).before args s = true) (hp : PreS s H Pc As)
    (hg : g.method = m) (hn : As.length = n) (hsize : g.locals.size = nL) (hstack : g.stack = As.reverse ++ rest) (hW : 2 * g.monitorRoom + (rest.map fun v => v.category).sum ≤ 8) (hdg : decode cc g.pc = .ok (.invokestatic index, 3)) (hf : cells + mc ≤ R.cells ∧ slots + ms ≤ R.slots) :
    vx_Run p l e R s m args below meth c H locs cells slots mc ms g rest (Qc As.toArray) XC free := by
  have hK : vx_Back l R p e below s args y 3 8 (PreOf R mc ms Pc) (PostOf Qc mc ms free) (vx_Post XC mc ms free) := vx_callBack cw.1 hM hp.1
  obtain ⟨⟨-, -, -, -, -, -, hcode, hini, hy, hlen, hl⟩, hstt⟩ := cw
  obtain ⟨hx, hb, hml, ho, -⟩ := S
  intro T hT X
  rcases vx_callS X hx (bytes := bytes) (maxL := maxL) (ret := ret) ho hl hstt hini hcode hy hK hg (hsize.trans hml.symm) (argsL := As) (rest := rest) (fun sig h => hn.trans (hlen sig h)) hstack hW (by rw [hb]; exact hdg)
    (fun vm₁ hW₁ => ⟨hf.1, hf.2, hp.2 (T.setVm vm₁) hT hW₁⟩) with ⟨v, vm₁, ⟨U', l2, c2, s2⟩, hW₁, X', ⟨g', mk, t, L, e1, e2, hq, h1, hL, h2, h3⟩, st⟩ | ⟨q, vm₁, ⟨U', l2, c2, s2⟩, hW₁, X', ⟨g', mk, t, L, E, ce, e1, e2, hq, hce, hcv, hcl, h1, hL, h2, h3⟩, st⟩
  · dsimp only [Pt.U, Pt.locs, Pt.cells, Pt.slots] at X' e1 e2 h1 h2 h3 st
    subst h1; subst h2; subst h3
    exact Or.inl ⟨v, (T.setVm vm₁).calling g' mk As.toArray, t, U', L, hT, X', hL, e1, e2, hq, st⟩
  · dsimp only [Pt.U, Pt.locs, Pt.cells, Pt.slots] at X' e1 e2 h1 h2 h3 st hcl
    subst h1; subst h2; subst h3
    exact Or.inr ⟨q, (T.setVm vm₁).calling g' mk As.toArray, t, U', L, E, ce, hT, X', hL, e1, e2, hq, hce, hcv, vx_cls hW₁ hcl, st⟩
end Runs
section Rows
variable {p : Program} {l : Launch} {e : Env} {R : Room} {s : State} {m : MethodId} {args : Array Value} {below : List Frame} {meth : Method} {c : Code} {H : Heap} {locs : List Loc} {cells slots : Nat} {Q : State → Prop}
variable {mc ms : Nat} {free : Addr → Prop} {A0 A1 : Nat → Prop} {H0 : Heap} {a : Array Value} {pc : Nat} {ls : Array Slot} {st0 rest : List Value}
theorem vx_keep {st₀ t T' : State} {L : List Loc} (h0 : st₀.heap = H) (e1 : T'.heap = t.heap) (hS : va_S A0 H0 H locs) (hA : ∀ q, q < H.size → A1 q → A0 q) (hf : ∀ q, free q → A0 q) (hL : ∀ q ∈ L, free q.base) (hF : va_F A1 st₀ t) :
    H.size ≤ T'.heap.size ∧ (∀ q : Nat, q < H.size → ¬ A1 q → T'.heap[q]? = H[q]?) ∧ va_S A0 H0 T'.heap (locs ++ L) := by
  obtain ⟨hz, hk⟩ := hF
  rw [h0] at hz hk
  exact ⟨by rw [e1]; exact hz, fun q h1 h2 => by rw [e1]; exact hk q h1 h2,
    ⟨Nat.le_trans hS.1 (by rw [e1]; exact hz), fun q h1 h2 => by rw [e1, hk q (Nat.lt_of_lt_of_le h1 hS.1) (fun z => h2 (hA q (Nat.lt_of_lt_of_le h1 hS.1) z))]; exact hS.2.1 q h1 h2, fun q hq => by
      rcases List.mem_append.mp hq with h | h
      · exact hS.2.2 q h
      · exact hf _ (hL q h)⟩⟩
theorem vx_calli {S SX : Type} {post : Int32 → S → Prop} {px : SX → Prop} {B : S → State → Prop} {BX : String → SX → State → Prop} {AX : Nat → Prop} (hr : vx_Run p l e R s m args below meth c H locs cells slots mc ms (F0 m pc ls st0) rest (va_Qi post B A1 a) (vx_X px BX AX) free) (hS : va_S A0 H0 H locs) (hA : ∀ q, q < H.size → A1 q → A0 q) (hf : ∀ q, free q → A0 q) (hAX : ∀ q, q < H.size → AX q → A0 q)
    (kx : ∀ (E : String) (ce : Cell) (q9 : Addr) (u : SX) (t : State) (H1 : Heap) (locs1 : List Loc), t.heap = H1 → s.vm.Alike t.vm → px u → BX E u t → H.size ≤ H1.size → (∀ q : Nat, q < H.size → ¬ AX q → H1[q]? = H[q]?) → va_S A0 H0 H1 locs1 → H1[q9]? = some ce → ce.vm = .none → s.vm.findClass E = some ce.cls → vx_W p l e R s m args below meth c H1 locs1 (cells + mc) (slots + ms) Q (F0 m pc ls rest) q9)
    (kk : ∀ (r : Int32) (u : S) (t : State) (H1 : Heap) (locs1 : List Loc), t.heap = H1 → s.vm.Alike t.vm → post r u → B u t → H.size ≤ H1.size → (∀ q : Nat, q < H.size → ¬ A1 q → H1[q]? = H[q]?) → va_S A0 H0 H1 locs1 → W p l e R s m args below meth c H1 locs1 (cells + mc) (slots + ms) Q (F0 m (pc + 3) ls (.int r :: rest))) : W p l e R s m args below meth c H locs cells slots Q (F0 m pc ls st0) := by
  intro T hT X
  rcases hr T hT X with ⟨v, st₀, t, T', L, h0, X', hL, e1, e2, ⟨⟨r, u, hv, hp, hb⟩, hF⟩, st⟩ | ⟨q, st₀, t, T', L, E, ce, h0, X', hL, e1, e2, ⟨u, hp, hb, hF⟩, hce, hcv, hcl, st⟩
  · cases hv
    obtain ⟨k1, k2, k3⟩ := vx_keep h0 e1 hS hA hf hL hF
    obtain ⟨t2, a1, b1⟩ := kk r u t T'.heap (locs ++ L) e1.symm (by rw [← e2]; exact X'.warmed.alike) hp hb k1 k2 k3 T' rfl X'
    exact ⟨t2, st t2 a1, b1⟩
  · obtain ⟨k1, k2, k3⟩ := vx_keep h0 e1 hS hAX hf hL hF
    obtain ⟨t2, a1, b1⟩ := kx E ce q u t T'.heap (locs ++ L) e1.symm (by rw [← e2]; exact X'.warmed.alike) hp hb k1 k2 k3 (by rw [e1]; exact hce) hcv hcl T' rfl X'
    exact ⟨t2, st.trans a1, b1⟩
theorem vx_calll {S SX : Type} {post : Int64 → S → Prop} {px : SX → Prop} {B : S → State → Prop} {BX : String → SX → State → Prop} {AX : Nat → Prop} (hr : vx_Run p l e R s m args below meth c H locs cells slots mc ms (F0 m pc ls st0) rest (va_Ql post B A1 a) (vx_X px BX AX) free) (hS : va_S A0 H0 H locs) (hA : ∀ q, q < H.size → A1 q → A0 q) (hf : ∀ q, free q → A0 q) (hAX : ∀ q, q < H.size → AX q → A0 q)
    (kx : ∀ (E : String) (ce : Cell) (q9 : Addr) (u : SX) (t : State) (H1 : Heap) (locs1 : List Loc), t.heap = H1 → s.vm.Alike t.vm → px u → BX E u t → H.size ≤ H1.size → (∀ q : Nat, q < H.size → ¬ AX q → H1[q]? = H[q]?) → va_S A0 H0 H1 locs1 → H1[q9]? = some ce → ce.vm = .none → s.vm.findClass E = some ce.cls → vx_W p l e R s m args below meth c H1 locs1 (cells + mc) (slots + ms) Q (F0 m pc ls rest) q9)
    (kk : ∀ (r : Int64) (u : S) (t : State) (H1 : Heap) (locs1 : List Loc), t.heap = H1 → s.vm.Alike t.vm → post r u → B u t → H.size ≤ H1.size → (∀ q : Nat, q < H.size → ¬ A1 q → H1[q]? = H[q]?) → va_S A0 H0 H1 locs1 → W p l e R s m args below meth c H1 locs1 (cells + mc) (slots + ms) Q (F0 m (pc + 3) ls (.long r :: rest))) : W p l e R s m args below meth c H locs cells slots Q (F0 m pc ls st0) := by
  intro T hT X
  rcases hr T hT X with ⟨v, st₀, t, T', L, h0, X', hL, e1, e2, ⟨⟨r, u, hv, hp, hb⟩, hF⟩, st⟩ | ⟨q, st₀, t, T', L, E, ce, h0, X', hL, e1, e2, ⟨u, hp, hb, hF⟩, hce, hcv, hcl, st⟩
  · cases hv
    obtain ⟨k1, k2, k3⟩ := vx_keep h0 e1 hS hA hf hL hF
    obtain ⟨t2, a1, b1⟩ := kk r u t T'.heap (locs ++ L) e1.symm (by rw [← e2]; exact X'.warmed.alike) hp hb k1 k2 k3 T' rfl X'
    exact ⟨t2, st t2 a1, b1⟩
  · obtain ⟨k1, k2, k3⟩ := vx_keep h0 e1 hS hAX hf hL hF
    obtain ⟨t2, a1, b1⟩ := kx E ce q u t T'.heap (locs ++ L) e1.symm (by rw [← e2]; exact X'.warmed.alike) hp hb k1 k2 k3 (by rw [e1]; exact hce) hcv hcl T' rfl X'
    exact ⟨t2, st.trans a1, b1⟩
theorem vx_callf {S SX : Type} {post : UInt32 → S → Prop} {px : SX → Prop} {B : S → State → Prop} {BX : String → SX → State → Prop} {AX : Nat → Prop} (hr : vx_Run p l e R s m args below meth c H locs cells slots mc ms (F0 m pc ls st0) rest (va_Qf post B A1 a) (vx_X px BX AX) free) (hS : va_S A0 H0 H locs) (hA : ∀ q, q < H.size → A1 q → A0 q) (hf : ∀ q, free q → A0 q) (hAX : ∀ q, q < H.size → AX q → A0 q)
    (kx : ∀ (E : String) (ce : Cell) (q9 : Addr) (u : SX) (t : State) (H1 : Heap) (locs1 : List Loc), t.heap = H1 → s.vm.Alike t.vm → px u → BX E u t → H.size ≤ H1.size → (∀ q : Nat, q < H.size → ¬ AX q → H1[q]? = H[q]?) → va_S A0 H0 H1 locs1 → H1[q9]? = some ce → ce.vm = .none → s.vm.findClass E = some ce.cls → vx_W p l e R s m args below meth c H1 locs1 (cells + mc) (slots + ms) Q (F0 m pc ls rest) q9)
    (kk : ∀ (r : UInt32) (u : S) (t : State) (H1 : Heap) (locs1 : List Loc), t.heap = H1 → s.vm.Alike t.vm → post r u → B u t → H.size ≤ H1.size → (∀ q : Nat, q < H.size → ¬ A1 q → H1[q]? = H[q]?) → va_S A0 H0 H1 locs1 → W p l e R s m args below meth c H1 locs1 (cells + mc) (slots + ms) Q (F0 m (pc + 3) ls (.float r :: rest))) : W p l e R s m args below meth c H locs cells slots Q (F0 m pc ls st0) := by
  intro T hT X
  rcases hr T hT X with ⟨v, st₀, t, T', L, h0, X', hL, e1, e2, ⟨⟨r, u, hv, hp, hb⟩, hF⟩, st⟩ | ⟨q, st₀, t, T', L, E, ce, h0, X', hL, e1, e2, ⟨u, hp, hb, hF⟩, hce, hcv, hcl, st⟩
  · cases hv
    obtain ⟨k1, k2, k3⟩ := vx_keep h0 e1 hS hA hf hL hF
    obtain ⟨t2, a1, b1⟩ := kk r u t T'.heap (locs ++ L) e1.symm (by rw [← e2]; exact X'.warmed.alike) hp hb k1 k2 k3 T' rfl X'
    exact ⟨t2, st t2 a1, b1⟩
  · obtain ⟨k1, k2, k3⟩ := vx_keep h0 e1 hS hAX hf hL hF
    obtain ⟨t2, a1, b1⟩ := kx E ce q u t T'.heap (locs ++ L) e1.symm (by rw [← e2]; exact X'.warmed.alike) hp hb k1 k2 k3 (by rw [e1]; exact hce) hcv hcl T' rfl X'
    exact ⟨t2, st.trans a1, b1⟩
theorem vx_calld {S SX : Type} {post : UInt64 → S → Prop} {px : SX → Prop} {B : S → State → Prop} {BX : String → SX → State → Prop} {AX : Nat → Prop} (hr : vx_Run p l e R s m args below meth c H locs cells slots mc ms (F0 m pc ls st0) rest (va_Qd post B A1 a) (vx_X px BX AX) free) (hS : va_S A0 H0 H locs) (hA : ∀ q, q < H.size → A1 q → A0 q) (hf : ∀ q, free q → A0 q) (hAX : ∀ q, q < H.size → AX q → A0 q)
    (kx : ∀ (E : String) (ce : Cell) (q9 : Addr) (u : SX) (t : State) (H1 : Heap) (locs1 : List Loc), t.heap = H1 → s.vm.Alike t.vm → px u → BX E u t → H.size ≤ H1.size → (∀ q : Nat, q < H.size → ¬ AX q → H1[q]? = H[q]?) → va_S A0 H0 H1 locs1 → H1[q9]? = some ce → ce.vm = .none → s.vm.findClass E = some ce.cls → vx_W p l e R s m args below meth c H1 locs1 (cells + mc) (slots + ms) Q (F0 m pc ls rest) q9)
    (kk : ∀ (r : UInt64) (u : S) (t : State) (H1 : Heap) (locs1 : List Loc), t.heap = H1 → s.vm.Alike t.vm → post r u → B u t → H.size ≤ H1.size → (∀ q : Nat, q < H.size → ¬ A1 q → H1[q]? = H[q]?) → va_S A0 H0 H1 locs1 → W p l e R s m args below meth c H1 locs1 (cells + mc) (slots + ms) Q (F0 m (pc + 3) ls (.double r :: rest))) : W p l e R s m args below meth c H locs cells slots Q (F0 m pc ls st0) := by
  intro T hT X
  rcases hr T hT X with ⟨v, st₀, t, T', L, h0, X', hL, e1, e2, ⟨⟨r, u, hv, hp, hb⟩, hF⟩, st⟩ | ⟨q, st₀, t, T', L, E, ce, h0, X', hL, e1, e2, ⟨u, hp, hb, hF⟩, hce, hcv, hcl, st⟩
  · cases hv
    obtain ⟨k1, k2, k3⟩ := vx_keep h0 e1 hS hA hf hL hF
    obtain ⟨t2, a1, b1⟩ := kk r u t T'.heap (locs ++ L) e1.symm (by rw [← e2]; exact X'.warmed.alike) hp hb k1 k2 k3 T' rfl X'
    exact ⟨t2, st t2 a1, b1⟩
  · obtain ⟨k1, k2, k3⟩ := vx_keep h0 e1 hS hAX hf hL hF
    obtain ⟨t2, a1, b1⟩ := kx E ce q u t T'.heap (locs ++ L) e1.symm (by rw [← e2]; exact X'.warmed.alike) hp hb k1 k2 k3 (by rw [e1]; exact hce) hcv hcl T' rfl X'
    exact ⟨t2, st.trans a1, b1⟩
theorem vx_callv {S SX : Type} {post : S → Prop} {px : SX → Prop} {B : S → State → Prop} {BX : String → SX → State → Prop} {AX : Nat → Prop} (hr : vx_Run p l e R s m args below meth c H locs cells slots mc ms (F0 m pc ls st0) rest (va_Qv post B A1 a) (vx_X px BX AX) free) (hS : va_S A0 H0 H locs) (hA : ∀ q, q < H.size → A1 q → A0 q) (hf : ∀ q, free q → A0 q) (hAX : ∀ q, q < H.size → AX q → A0 q)
    (kx : ∀ (E : String) (ce : Cell) (q9 : Addr) (u : SX) (t : State) (H1 : Heap) (locs1 : List Loc), t.heap = H1 → s.vm.Alike t.vm → px u → BX E u t → H.size ≤ H1.size → (∀ q : Nat, q < H.size → ¬ AX q → H1[q]? = H[q]?) → va_S A0 H0 H1 locs1 → H1[q9]? = some ce → ce.vm = .none → s.vm.findClass E = some ce.cls → vx_W p l e R s m args below meth c H1 locs1 (cells + mc) (slots + ms) Q (F0 m pc ls rest) q9)
    (kk : ∀ (u : S) (t : State) (H1 : Heap) (locs1 : List Loc), t.heap = H1 → s.vm.Alike t.vm → post u → B u t → H.size ≤ H1.size → (∀ q : Nat, q < H.size → ¬ A1 q → H1[q]? = H[q]?) → va_S A0 H0 H1 locs1 → W p l e R s m args below meth c H1 locs1 (cells + mc) (slots + ms) Q (F0 m (pc + 3) ls (rest))) : W p l e R s m args below meth c H locs cells slots Q (F0 m pc ls st0) := by
  intro T hT X
  rcases hr T hT X with ⟨v, st₀, t, T', L, h0, X', hL, e1, e2, ⟨⟨u, hv, hp, hb⟩, hF⟩, st⟩ | ⟨q, st₀, t, T', L, E, ce, h0, X', hL, e1, e2, ⟨u, hp, hb, hF⟩, hce, hcv, hcl, st⟩
  · cases hv
    obtain ⟨k1, k2, k3⟩ := vx_keep h0 e1 hS hA hf hL hF
    obtain ⟨t2, a1, b1⟩ := kk u t T'.heap (locs ++ L) e1.symm (by rw [← e2]; exact X'.warmed.alike) hp hb k1 k2 k3 T' rfl X'
    exact ⟨t2, st t2 a1, b1⟩
  · obtain ⟨k1, k2, k3⟩ := vx_keep h0 e1 hS hAX hf hL hF
    obtain ⟨t2, a1, b1⟩ := kx E ce q u t T'.heap (locs ++ L) e1.symm (by rw [← e2]; exact X'.warmed.alike) hp hb k1 k2 k3 (by rw [e1]; exact hce) hcv hcl T' rfl X'
    exact ⟨t2, st.trans a1, b1⟩
/-- caught by the row x of this method's table; the rows ahead don't take it -/
theorem vx_catch {own name : String} {E : String} {ce : Cell} {q : Addr} (hown : s.vm.findClass own = some m.cls) (pre : List ExceptionTableEntry) (x : ExceptionTableEntry) (suf : List ExceptionTableEntry) (hsplit : c.exceptionTable.toList = pre ++ x :: suf)
    (hpass : ∀ z ∈ pre, covers z pc = false ∨ (z.catchType ≠ 0 ∧ ∃ nm : String, (Cond.classLink own z.catchType nm).before args s = true ∧ va_Nc E nm s)) (hx : covers x pc = true) (h0 : x.catchType ≠ 0)
    (hlink : (Cond.classLink own x.catchType name).before args s = true) (hcast : (Cond.castable E name).before args s = true) (hcell : H[q]? = some ce) (hv : ce.vm = .none) (hcl : s.vm.findClass E = some ce.cls)
    (kk : W p l e R s m args below meth c H locs cells slots Q (F0 m x.handlerPc ls [.ref q])) : vx_W p l e R s m args below meth c H locs cells slots Q (F0 m pc ls rest) q := by
  intro T hT X
  have hpl : e.platform.magicAccessors = ({} : Platform).magicAccessors := by rw [X.admits.platform]
  obtain ⟨c3, c4, hc3, hc4, hasg⟩ := Cond.castable_spec hcast
  cases Option.some.inj (hc3.symm.trans hcl)
  obtain ⟨c5, hc5, hcl5⟩ := Cond.classLink_spec hown hlink e.platform hpl
  cases Option.some.inj (hc4.symm.trans hc5)
  obtain ⟨vm', X', st⟩ := X.thenCaughtThrough q (g := F0 m pc ls rest) rfl (Steps.refl _) (by rw [hT]; exact hcell) (by rw [hv]; rfl) (by obtain ⟨k9, h9, -⟩ := Vm.findClass_spec hcl; exact ⟨k9, h9⟩) pre x suf hsplit
    (fun z hz => by
      rcases hpass z hz with h | ⟨hz0, nm, hl1, hn1⟩
      · exact Or.inl h
      · obtain ⟨c6, hc6, hcl6⟩ := Cond.classLink_spec hown hl1 e.platform hpl
        obtain ⟨a8, b8, h1, h2, h3⟩ := hn1
        cases Option.some.inj (h1.symm.trans hcl)
        cases Option.some.inj (h2.symm.trans hc6)
        exact Or.inr ⟨hz0, _, hcl6, h3⟩) hx (Or.inr ⟨h0, c4, hcl5, hasg⟩)
  obtain ⟨t, a1, b1⟩ := kk (T.setVm vm') hT X'
  exact ⟨t, st.trans a1, b1⟩
end Rows
section Ends
variable {p : Program} {l : Launch} {e : Env} {R : Room} {s : State} {m : MethodId} {args : Array Value} {below : List Frame} {meth : Method} {c : Code} {H : Heap} {locs : List Loc} {cells slots : Nat} {Q : State → Prop}
variable {mc ms : Nat} {free : Addr → Prop} {A0 A1 : Nat → Prop} {H0 : Heap} {a : Array Value} {ls : Array Slot} {st0 rest : List Value}
variable {Qc : Array Value → State → Outcome → State → Prop} {XC : String → State → State → Prop}
/-- what a body that may throw owes at its end -/
def vx_MQ (below : List Frame) (Qc : Array Value → State → Outcome → State → Prop) (XC : String → State → State → Prop) (a : Array Value) (s : State) (mc ms : Nat) (free : Addr → Prop) : State → Prop := fun t =>
  ∃ o, t.status = .running ∧ Ended t below o ∧ vx_Q Qc XC mc ms free a s o t
theorem vx_ret {g : JFrame} {mc ms : Nat} (k : W p l e R s m args below meth c H locs cells slots (MQ below Qc args s mc ms free) g) : W p l e R s m args below meth c H locs cells slots (vx_MQ below Qc XC args s mc ms free) g := by
  intro T hT X
  obtain ⟨t, a1, o, b1, b2, b3, b4⟩ := k T hT X
  exact ⟨t, a1, o, b1, b2, Or.inl ⟨b3, b4⟩⟩
/-- not caught here: it goes on to the caller -/
theorem vx_widen {g : JFrame} {q : Addr} {k n : Nat} (h1 : cells ≤ k) (h2 : slots ≤ n) (kk : vx_W p l e R s m args below meth c H locs k n Q g q) : vx_W p l e R s m args below meth c H locs cells slots Q g q := fun T hT X => kk T hT (stand_widen X h1 h2)
theorem vx_out {pc : Nat} {E : String} {ce : Cell} {q : Addr} {mc ms : Nat} (hout : ∀ x ∈ c.exceptionTable.toList, covers x pc = false) (hlocks : meth.locks = false) (hcell : H[q]? = some ce) (hv : ce.vm = .none) (hcl : s.vm.findClass E = some ce.cls)
    (hx : ∀ t : State, t.heap = H → s.vm.Alike t.vm → XC E s t) (hf : ∀ z ∈ locs, free z.base) (hc : cells ≤ mc) (hs : slots ≤ ms) :
    vx_W p l e R s m args below meth c H locs cells slots (vx_MQ below Qc XC args s mc ms free) (F0 m pc ls rest) q := by
  intro T hT X
  obtain ⟨st1, hrun, hend, hW, hsm⟩ := X.leaveThrown q (g := F0 m pc ls rest) rfl rfl rfl hout hlocks
  have hcell9 : (T.setFrames (.throwing q :: below)).heap[q]? = some ce := by
    show T.heap[q]? = some ce
    rw [hT]; exact hcell
  exact ⟨_, st1, .threw q, hrun, hend, Or.inr ⟨q, rfl, E, ce, locs, hx _ hT hW.alike, hcell9, hv, hcl, hW, hsm.mono hc hs, hf⟩⟩
theorem vx_frame {U : State} {k n : Nat} (h : s.sameButNew ({ U with vm := s.vm } : State) locs k n) : s.heap.size ≤ U.heap.size ∧ ∀ q : Nat, q < s.heap.size → (∀ z ∈ locs, z.base ≠ q) → U.heap[q]? = s.heap[q]? := by
  obtain ⟨-, h2, -, -, -, h6⟩ := h
  refine ⟨h2, fun q hq hz => ?_⟩
  obtain ⟨c9, e1, e2, e3, e4⟩ := h6 q _ (Array.getElem?_eq_getElem hq)
  have hs : c9.slots = (s.heap[q]).slots := Array.ext_getElem? fun i => e4 i fun hm => hz _ hm rfl
  have h9 : c9 = s.heap[q] := by
    rw [hs] at e2
    exact e2
  have e5 : U.heap[q]? = some c9 := e1
  rw [e5, h9, Array.getElem?_eq_getElem hq]
/-- the words of a throw but the four that speak of the heap -/
def vx_no (w : Cond) : Bool := decide (w ≠ .isRef (.static Bundle.tN "UNASSIGNED_STACK" Bundle.steD)) && decide (w ≠ .isRef (.static Bundle.tN "SUPPRESSED_SENTINEL" Bundle.listD)) && decide (w ≠ .laysStatic Bundle.tN "UNASSIGNED_STACK" Bundle.steD) && decide (w ≠ .laysStatic Bundle.tN "SUPPRESSED_SENTINEL" Bundle.listD)
def vx_at0 (own : String) (ic : Nat) (X : String) (names : List String) : List Cond := (Bundle.ownAtoms0 own ic X names).filter vx_no
def vx_atS (own : String) (ic : Nat) (X : String) (names : List String) : List Cond := (Bundle.ownAtoms own ic X names).filter vx_no
/-- a word that the tables alone decide, or a good one -/
def vx_ot (w : Cond) : Bool := w.onTables || goodWord w
theorem vx_ot_at {args a' : Array Value} {s U : State} {w : Cond} (hW : s.WarmedH U.vm) (hvm : s.vm = U.vm) (hg : vx_ot w = true) (h : w.before args s = true) : w.before a' U = true := by
  simp only [vx_ot, Bool.or_eq_true] at hg
  rcases hg with hg | hg
  · exact va_tabs hg hvm h
  · exact word_at hW (good_of_word hg) h
/-- a list's words: the good ones out of the method's own list, the others by premises of their own -/
theorem vx_hat {args : Array Value} {s : State} {L B : List Cond} (h1 : ∀ w ∈ L.filter goodWord, w.before args s = true) (h2 : ∀ w ∈ L.filter (fun w => !goodWord w), w ∈ B) (h3 : ∀ w ∈ B, w.before args s = true) : ∀ w ∈ L, w.before args s = true := by
  intro w hw
  by_cases g : goodWord w = true
  · exact h1 w (List.mem_filter.mpr ⟨hw, g⟩)
  · refine h3 w (h2 w (List.mem_filter.mpr ⟨hw, ?_⟩))
    show (!goodWord w) = true
    cases hgw : goodWord w
    · rfl
    · exact absurd hgw g
theorem vx_c {args : Array Value} {s : State} {w : Cond} {B : List Cond} (h : w.before args s = true) (t : ∀ w ∈ B, w.before args s = true) : ∀ w' ∈ w :: B, w'.before args s = true := fun w' h' => (List.mem_cons.mp h').elim (fun e => by rw [e]; exact h) (t w')
theorem vx_n {args : Array Value} {s : State} : ∀ w ∈ ([] : List Cond), w.before args s = true := fun _ h => nomatch h
theorem vx_own {args : Array Value} {s : State} {L : List Cond} (h1 : ∀ w ∈ L.filter vx_no, w.before args s = true)
    (hU : (Cond.isRef (.static Bundle.tN "UNASSIGNED_STACK" Bundle.steD)).before args s = true) (hN : (Cond.isRef (.static Bundle.tN "SUPPRESSED_SENTINEL" Bundle.listD)).before args s = true)
    (lU : (Cond.laysStatic Bundle.tN "UNASSIGNED_STACK" Bundle.steD).before args s = true) (lN : (Cond.laysStatic Bundle.tN "SUPPRESSED_SENTINEL" Bundle.listD).before args s = true) : ∀ w ∈ L, w.before args s = true := by
  intro w hw
  by_cases e1 : w = .isRef (.static Bundle.tN "UNASSIGNED_STACK" Bundle.steD)
  · rw [e1]; exact hU
  · by_cases e2 : w = .isRef (.static Bundle.tN "SUPPRESSED_SENTINEL" Bundle.listD)
    · rw [e2]; exact hN
    · by_cases e3 : w = .laysStatic Bundle.tN "UNASSIGNED_STACK" Bundle.steD
      · rw [e3]; exact lU
      · by_cases e4 : w = .laysStatic Bundle.tN "SUPPRESSED_SENTINEL" Bundle.listD
        · rw [e4]; exact lN
        · exact h1 w (List.mem_filter.mpr ⟨hw, by unfold vx_no; rw [decide_eq_true e1, decide_eq_true e2, decide_eq_true e3, decide_eq_true e4]; rfl⟩)
/-- where a static field lies, its class's statics cell in H -/
def vx_L (C n d : String) (A : Nat → Prop) (U : State) (H : Heap) : Prop := ∃ (c : ClassId) (k : Class) (i : Nat) (f : Field) (a : Nat) (cell : Cell), U.vm.findClass C = some c ∧ U.fieldFound? C n d = some (c, k, i, f) ∧ f.isStatic = true ∧ k.statics = some a ∧ H[a]? = some cell ∧ cell.vm.isStatics = true ∧ cell.cls = c ∧ f.slot < cell.slots.size ∧ k.staticTypes[f.slot]? = some f.type ∧ ¬ A a
theorem vx_L.moved {C n d : String} {A : Nat → Prop} {u U : State} {H : Heap} (hvm : u.vm.Alike U.vm) (h : vx_L C n d A u H) : vx_L C n d A U H := by
  obtain ⟨c, k, i, f, a, cell, h1, h2, h3, h4, h5, h6, h7, h8, h9, h10⟩ := h
  obtain ⟨k', hi', he⟩ := State.fieldFound?_setVm hvm h2
  exact ⟨c, k', i, f, a, cell, by rw [hvm.findClass]; exact h1, hi', h3, by rw [he]; exact h4, h5, h6, h7, h8, by rw [he]; exact h9, h10⟩
theorem vx_L.kept {C n d : String} {A : Nat → Prop} {U : State} {H H1 : Heap} (h : vx_L C n d A U H) (hq : ∀ a : Nat, a < H.size → ¬ A a → H1[a]? = H[a]?) : vx_L C n d A U H1 := by
  obtain ⟨c, k, i, f, a, cell, h1, h2, h3, h4, h5, h6, h7, h8, h9, h10⟩ := h
  exact ⟨c, k, i, f, a, cell, h1, h2, h3, h4, by rw [hq a (Array.getElem?_eq_some_iff.mp h5).1 h10]; exact h5, h6, h7, h8, h9, h10⟩
theorem vx_L.narrow {C n d : String} {A B : Nat → Prop} {U : State} {H : Heap} (h : vx_L C n d A U H) (hAB : ∀ q, B q → A q) : vx_L C n d B U H := by
  obtain ⟨c, k, i, f, a, cell, h1, h2, h3, h4, h5, h6, h7, h8, h9, h10⟩ := h
  exact ⟨c, k, i, f, a, cell, h1, h2, h3, h4, h5, h6, h7, h8, h9, fun z => h10 (hAB _ z)⟩
theorem vx_L.word {C n d : String} {A : Nat → Prop} {s : State} {args : Array Value} (h : vx_L C n d A s s.heap) : (Cond.laysStatic C n d).before args s = true := by
  obtain ⟨c, k, i, f, a, cell, h1, h2, h3, h4, h5, h6, h7, h8, h9, -⟩ := h
  show (Cond.laysStatic C n d).holds args s none s [] = true
  exact Cond.laysStatic_of h1 h2 h3 h4 h5 h6 h7 h8 h9
/-- .. and what it holds: null or some reference -/
def vx_Zq (C n d : String) (A : Nat → Prop) (U : State) (H : Heap) : Prop := va_Zq C n d A U H ∧ vx_L C n d A U H
theorem vx_Zq.moved {C n d : String} {A : Nat → Prop} {u U : State} {H : Heap} (hvm : u.vm.Alike U.vm) (h : vx_Zq C n d A u H) : vx_Zq C n d A U H := ⟨va_Zq.moved hvm h.1, vx_L.moved hvm h.2⟩
theorem vx_Zq.kept {C n d : String} {A : Nat → Prop} {U : State} {H H1 : Heap} (h : vx_Zq C n d A U H) (hq : ∀ a : Nat, a < H.size → ¬ A a → H1[a]? = H[a]?) : vx_Zq C n d A U H1 := ⟨va_Zq.kept h.1 hq, vx_L.kept h.2 hq⟩
theorem vx_Zq.narrow {C n d : String} {A B : Nat → Prop} {U : State} {H : Heap} (h : vx_Zq C n d A U H) (hAB : ∀ q, B q → A q) : vx_Zq C n d B U H := ⟨va_Zq.narrow h.1 hAB, vx_L.narrow h.2 hAB⟩
theorem vx_Zqof {args : Array Value} {s : State} {C n d : String} {A : Nat → Prop} (hl : (Cond.laysStatic C n d).before args s = true) (hini : (Cond.initialized C).before args s = true) (h : (Cond.isRef (.static C n d)).before args s = true) (hA : ∀ a : Nat, a < s.heap.size → ¬ A a) : vx_Zq C n d A s s.heap := by
  refine ⟨va_Zqof hl hini h hA, ?_⟩
  obtain ⟨c, k, i, f, a, cell, h1, h2, h3, h4, h5, h6, h7, h8, h9⟩ := Cond.laysStatic_spec hl
  exact ⟨c, k, i, f, a, cell, h1, h2, h3, h4, h5, h6, h7, h8, h9, hA a (Array.getElem?_eq_some_iff.mp h5).1⟩
theorem vx_isRef {C n d : String} {v : Value} {A : Nat → Prop} {s : State} {args : Array Value} (h : va_Z C n d v A s s.heap) (hv : v.isRef = true) : (Cond.isRef (.static C n d)).before args s = true := by
  obtain ⟨cf, kf, fi, f, a, cell, h1, h2, h3, h4, h5, h6, h7, -⟩ := h
  have he : (Term.static C n d).eval args s none [] s = some v := by
    simp [Term.eval, State.fieldNamed?, h1, h2, h4, h5, h6, h7]
  simp only [Cond.before, Cond.holds, Cond.value, he]
  cases v <;> simp_all [Value.isRef]
theorem vx_isRefq {C n d : String} {A : Nat → Prop} {s : State} {args : Array Value} (h : va_Zq C n d A s s.heap) : (Cond.isRef (.static C n d)).before args s = true := by
  rcases h with h | ⟨t, h⟩
  · exact vx_isRef h rfl
  · exact vx_isRef h rfl
/-- the same frame, seen from here: as if the method were called anew in this heap -/
theorem vx_rebase {T : State} (X : Stand p l e R s m args below meth c T locs cells slots) {R' : Room} (hf : R'.frames ≤ R.frames) (hl : R'.locals ≤ R.locals) (hc : cells + R'.cells ≤ R.cells) (hs : slots + R'.slots ≤ R.slots) :
    Stand p l e R' ((T.setVm s.vm).setFrames (.invoking m args :: below)) m args below meth c T [] 0 0 := by
  have htop : (T.setVm s.vm).topJava?.isSome := X.here.top
  have hF : ((T.setVm s.vm).setFrames (.invoking m args :: below)).frames = .invoking m args :: below := State.frames_setFrames _ (State.cur_lt_of_top htop)
  obtain ⟨g₀, hg0⟩ := Option.isSome_iff_exists.mp htop
  obtain ⟨r, hr⟩ := State.topJava?_eq_some.mp hg0
  have hl9 : e.platform.stackLimits (T.setVm s.vm).me = e.platform.stackLimits s.me := X.limits
  have hb9 : (T.setVm s.vm).me.stackBytes = s.me.stackBytes := X.bytes
  refine ⟨X.admits, X.cas, X.clock, hF, ?_, X.hears, X.method, X.code, X.here, X.tail, X.warmed, ?_, ?_, ?_⟩
  · have h := X.room
    have hU : ((T.setVm s.vm).setFrames (.invoking m args :: below)).localsInUse = s.localsInUse := by
      rw [State.localsInUse_invoking hF (meth := meth) (c := c) X.method X.code, State.localsInUse_invoking X.frames X.method X.code]
    simp only [State.hasRoom, Bool.and_eq_true, decide_eq_true_eq] at h ⊢
    obtain ⟨⟨⟨⟨h1, h2, h3, h4, h5, h6⟩, h7⟩, h8⟩, h9⟩ := h
    rw [X.frames, List.length_cons] at h2 h3
    have q1 := X.heapSize
    have q2 := X.used
    simp only [hF, hU, List.length_cons, State.stackLimits_setFrames, State.stackBytes_setFrames, hl9, hb9]
    refine ⟨⟨⟨⟨by omega, by omega, by omega, by omega, by omega, h6⟩, ?_⟩, ?_⟩, X.book⟩
    · show T.heap.size + R'.cells ≤ e.platform.maxCells
      omega
    · show T.slotsUsed + R'.slots ≤ e.platform.maxSlots
      omega
  · rw [State.stackLimits_setFrames]; rfl
  · rw [State.stackBytes_setFrames]; rfl
  · refine ⟨?_, Nat.le_refl _, Nat.le_refl _, ?_, ?_, fun a c9 h9 => ⟨c9, h9, rfl, rfl, fun _ _ => rfl⟩⟩
    · obtain ⟨t, ht, -⟩ := State.frames_cons hr
      show T.setVm s.vm = { ((T.setVm s.vm).setFrames (.invoking m args :: below)).setFrames (T.setVm s.vm).frames with heap := T.heap, slotsUsed := T.slotsUsed }
      rw [State.setFrames_setFrames, State.setFrames_self ht]
      rfl
    · show T.slotsUsed = T.slotsUsed + ((T.heap.toList.drop T.heap.size).map (·.slots.size)).sum
      rw [List.drop_eq_nil_of_le (Nat.le_of_eq Array.length_toList)]
      rfl
    · show ((T.heap.toList.drop T.heap.size).map (·.slots.size)).sum ≤ 0
      rw [List.drop_eq_nil_of_le (Nat.le_of_eq Array.length_toList)]
      exact Nat.le_refl _
/-- 'throw new E()': new; dup; invokespecial; athrow -/
theorem vx_throw0 {cc : ByteArray} {pc : Nat} (hexec : p.tables.exec = Jvm.exec) (hb : c.code = cc) (hl : l.stackTraces = false) {own cls : String} {names : List String} {ik ic mc ms : Nat} {A : Nat → Prop}
    (hown : s.vm.findClass own = some m.cls) (hcls : Bundle.fit cls = true) (hnames : ∀ n ∈ names, Bundle.fit n = true)
    (hk : (Cond.classLink own ik cls).before args s = true) (hini : (Cond.initialized cls).before args s = true) (hat : ∀ w ∈ vx_at0 own ic cls names, w.before args s = true)
    (hgood : ∀ w ∈ Cond.classLink own ik cls :: Cond.initialized cls :: vx_at0 own ic cls names, vx_ot w = true)
    (hU : vx_Zq Bundle.tN "UNASSIGNED_STACK" Bundle.steD A s s.heap) (hN : vx_Zq Bundle.tN "SUPPRESSED_SENTINEL" Bundle.listD A s s.heap) (hS : va_S A s.heap H locs) (hsize : ls.size = c.maxLocals)
    (d0 : decode cc pc = .ok (.new ik, 3)) (d3 : decode cc (pc + 3) = .ok (.dup, 1)) (d4 : decode cc (pc + 4) = .ok (.invokespecial ic, 3)) (d7 : decode cc (pc + 7) = .ok (.athrow, 1))
    (hout : ∀ x ∈ c.exceptionTable.toList, covers x (pc + 7) = false)
    (hRframes : names.length + 3 < R.frames) (hRlocals : (rest.map fun v => v.category).sum + (13 * (names.length + 1) + 42) ≤ R.locals) (hRcells : cells + 1 ≤ R.cells) (hRslots : slots + 6 ≤ R.slots) (hlocks : meth.locks = false)
    (hx : ∀ t : State, s.vm.Alike t.vm → H.size ≤ t.heap.size → (∀ q : Nat, q < H.size → t.heap[q]? = H[q]?) → XC cls s t)
    (hf : ∀ z ∈ locs, free z.base) (hc : cells + 1 ≤ mc) (hs : slots + 6 ≤ ms) :
    W p l e R s m args below meth c H locs cells slots (vx_MQ below Qc XC args s mc ms free) (F0 m pc ls rest) := by
  intro T hT X
  have htr : e.platform.stackTraces = false := (show e.platform.stackTraces = l.stackTraces by rw [X.admits.platform]).trans hl
  have Y := vx_rebase X (R' := { frames := R.frames, locals := R.locals, cells := 1, slots := 6 }) (Nat.le_refl _) (Nat.le_refl _) hRcells hRslots
  obtain ⟨s', hA⟩ : ∃ z, z = (T.setVm s.vm).setFrames (.invoking m args :: below) := ⟨_, rfl⟩
  rw [← hA] at Y
  have hvm : s'.vm = s.vm := by rw [hA]; rfl
  have hhp : s'.heap = H := by rw [hA]; exact hT
  have hW0 : s.WarmedH s'.vm := by rw [hvm]; exact State.WarmedH.refl s
  have hat' : ∀ w ∈ vx_at0 own ic cls names, w.before args s' = true := fun w hw => vx_ot_at hW0 hvm.symm (hgood w (List.mem_cons_of_mem _ (List.mem_cons_of_mem _ hw))) (hat w hw)
  have hk' : (Cond.classLink own ik cls).before args s' = true := vx_ot_at hW0 hvm.symm (hgood _ List.mem_cons_self) hk
  have hini' : (Cond.initialized cls).before args s' = true := vx_ot_at hW0 hvm.symm (hgood _ (List.mem_cons_of_mem _ List.mem_cons_self)) hini
  have hU' : vx_Zq Bundle.tN "UNASSIGNED_STACK" Bundle.steD A s' s'.heap := by rw [hhp]; exact vx_Zq.moved hW0.alike (hU.kept hS.2.1)
  have hN' : vx_Zq Bundle.tN "SUPPRESSED_SENTINEL" Bundle.listD A s' s'.heap := by rw [hhp]; exact vx_Zq.moved hW0.alike (hN.kept hS.2.1)
  have h : ∀ w ∈ Bundle.ownAtoms0 own ic cls names, w.before args s' = true := vx_own hat' (vx_isRefq hU'.1) (vx_isRefq hN'.1) hU'.2.word hN'.2.word
  have hown' : s'.vm.findClass own = some m.cls := by rw [hvm]; exact hown
  have hins : (Cond.instantiable cls 6).before args s' = true := h _ (by simp [Bundle.ownAtoms0])
  obtain ⟨vm₁, cX, kX, hfX, hkX, -, -, X₁, st1⟩ := Y.newCold hexec (own := own) (C := cls) (index := ik) (n := 6) hown' hk' hins hini'
    (g := F0 m pc ls rest) rfl (by rw [hb]; exact d0) (Nat.le_refl _) (Nat.le_refl _)
  generalize hT1 : (T.setVm vm₁).pushCell { cls := cX, slots := kX.instanceTypes.map defaultValue, vm := .none } = T1 at X₁ st1
  have hcat : (Value.ref T.heap.size).category = 1 := rfl
  have hcellA : T1.heap[T.heap.size]? = some (freshCell cX kX) := by rw [← hT1]; exact State.heap_pushCell_size _ _
  have d3' : decode c.code (pc + 3) = .ok (.dup, 1) := by rw [hb]; exact d3
  obtain ⟨U, hsteps, hrun, hend, hW, hsame, ce, hce, hO⟩ := X₁.ctorThrow0 hexec htr (own := own) (cls := cls) (names := names) (ic := ic) hown' hcls hnames h (fun x hx => nomatch hx) hfX hkX hcellA (by rw [hhp, hT]; exact Nat.le_refl _)
    (g := { method := m, pc := pc + 4, locals := ls, stack := .ref T.heap.size :: .ref T.heap.size :: rest, locked := none }) rfl hsize rfl rfl (rest := rest) rfl
    (by rw [hb]; exact d4) (by rw [hb]; exact d7) hout hRframes (by simp only [List.map_cons, List.sum_cons, hcat]; omega) hlocks
  obtain ⟨f1, f2⟩ := vx_frame hsame
  rw [hhp] at f1 f2
  have hWs : s.WarmedH U.vm := State.WarmedH.trans hW0 hW
  have hcl : s.vm.findClass cls = some ce.cls := by
    have h9 := hO.cls
    rw [hvm] at h9
    exact h9
  have hall : s.sameButNew ({ U with vm := s.vm } : State) locs mc ms := by
    subst hA
    obtain ⟨e1, e2⟩ := hsame
    rw [State.setFrames_setFrames] at e1
    have h2 : (T.setVm s.vm).sameButNew ({ U with vm := s.vm } : State) [] (0 + 1) (0 + 6) := ⟨e1, e2⟩
    have h3 := X.same.trans h2
    rw [List.append_nil] at h3
    exact h3.mono hc hs
  refine ⟨U, ?_, .threw T.heap.size, hrun, hend, Or.inr ⟨T.heap.size, rfl, cls, ce, locs, hx U hWs.alike f1 (fun q hq => f2 q hq (fun z hz => nomatch hz)), hce, hO.vm, hcl, hWs, hall, hf⟩⟩
  refine st1 _ ?_
  show Steps p.tables e below (T1.setTop { method := m, pc := pc + 3, locals := ls, stack := .ref T.heap.size :: rest, locked := none }) _
  jvm_step X₁.here [X₁.here.top, hexec, d3', Value.category]
  exact hsteps
/-- 'throw new E("text")': new; dup; ldc; invokespecial; athrow -/
theorem vx_throwS {cc : ByteArray} {pc : Nat} (hexec : p.tables.exec = Jvm.exec) (hb : c.code = cc) (hl : l.stackTraces = false) {own cls text : String} {names : List String} {ik is ic mc ms sa : Nat} {A : Nat → Prop}
    (hown : s.vm.findClass own = some m.cls) (hcls : Bundle.fit cls = true) (hnames : ∀ n ∈ names, Bundle.fit n = true)
    (hk : (Cond.classLink own ik cls).before args s = true) (hini : (Cond.initialized cls).before args s = true) (hstr : vk_R own is text sa s) (hat : ∀ w ∈ vx_atS own ic cls names, w.before args s = true)
    (hgood : ∀ w ∈ Cond.classLink own ik cls :: Cond.initialized cls :: vx_atS own ic cls names, vx_ot w = true)
    (hU : vx_Zq Bundle.tN "UNASSIGNED_STACK" Bundle.steD A s s.heap) (hN : vx_Zq Bundle.tN "SUPPRESSED_SENTINEL" Bundle.listD A s s.heap) (hS : va_S A s.heap H locs) (hsize : ls.size = c.maxLocals)
    (d0 : decode cc pc = .ok (.new ik, 3)) (d3 : decode cc (pc + 3) = .ok (.dup, 1)) (d4 : decode cc (pc + 4) = .ok (.ldc is, 2)) (d6 : decode cc (pc + 6) = .ok (.invokespecial ic, 3)) (d9 : decode cc (pc + 9) = .ok (.athrow, 1))
    (hout : ∀ x ∈ c.exceptionTable.toList, covers x (pc + 9) = false)
    (hRframes : names.length + 3 < R.frames) (hRlocals : (rest.map fun v => v.category).sum + (13 * (names.length + 1) + 43) ≤ R.locals) (hRcells : cells + 1 ≤ R.cells) (hRslots : slots + 6 ≤ R.slots) (hlocks : meth.locks = false)
    (hx : ∀ t : State, s.vm.Alike t.vm → H.size ≤ t.heap.size → (∀ q : Nat, q < H.size → t.heap[q]? = H[q]?) → XC cls s t)
    (hf : ∀ z ∈ locs, free z.base) (hc : cells + 1 ≤ mc) (hs : slots + 6 ≤ ms) :
    W p l e R s m args below meth c H locs cells slots (vx_MQ below Qc XC args s mc ms free) (F0 m pc ls rest) := by
  intro T hT X
  have htr : e.platform.stackTraces = false := (show e.platform.stackTraces = l.stackTraces by rw [X.admits.platform]).trans hl
  have Y := vx_rebase X (R' := { frames := R.frames, locals := R.locals, cells := 1, slots := 6 }) (Nat.le_refl _) (Nat.le_refl _) hRcells hRslots
  obtain ⟨s', hA⟩ : ∃ z, z = (T.setVm s.vm).setFrames (.invoking m args :: below) := ⟨_, rfl⟩
  rw [← hA] at Y
  have hvm : s'.vm = s.vm := by rw [hA]; rfl
  have hhp : s'.heap = H := by rw [hA]; exact hT
  have hW0 : s.WarmedH s'.vm := by rw [hvm]; exact State.WarmedH.refl s
  have hat' : ∀ w ∈ vx_atS own ic cls names, w.before args s' = true := fun w hw => vx_ot_at hW0 hvm.symm (hgood w (List.mem_cons_of_mem _ (List.mem_cons_of_mem _ hw))) (hat w hw)
  have hk' : (Cond.classLink own ik cls).before args s' = true := vx_ot_at hW0 hvm.symm (hgood _ List.mem_cons_self) hk
  have hini' : (Cond.initialized cls).before args s' = true := vx_ot_at hW0 hvm.symm (hgood _ (List.mem_cons_of_mem _ List.mem_cons_self)) hini
  have hU' : vx_Zq Bundle.tN "UNASSIGNED_STACK" Bundle.steD A s' s'.heap := by rw [hhp]; exact vx_Zq.moved hW0.alike (hU.kept hS.2.1)
  have hN' : vx_Zq Bundle.tN "SUPPRESSED_SENTINEL" Bundle.listD A s' s'.heap := by rw [hhp]; exact vx_Zq.moved hW0.alike (hN.kept hS.2.1)
  have h : ∀ w ∈ Bundle.ownAtoms own ic cls names, w.before args s' = true := vx_own hat' (vx_isRefq hU'.1) (vx_isRefq hN'.1) hU'.2.word hN'.2.word
  have hown' : s'.vm.findClass own = some m.cls := by rw [hvm]; exact hown
  have hins : (Cond.instantiable cls 6).before args s' = true := h _ (by simp [Bundle.ownAtoms])
  obtain ⟨vm₁, cX, kX, hfX, hkX, -, -, X₁, st1⟩ := Y.newCold hexec (own := own) (C := cls) (index := ik) (n := 6) hown' hk' hins hini'
    (g := F0 m pc ls rest) rfl (by rw [hb]; exact d0) (Nat.le_refl _) (Nat.le_refl _)
  generalize hT1 : (T.setVm vm₁).pushCell { cls := cX, slots := kX.instanceTypes.map defaultValue, vm := .none } = T1 at X₁ st1
  have hcat : (Value.ref T.heap.size).category = 1 := rfl
  have hcellA : T1.heap[T.heap.size]? = some (freshCell cX kX) := by rw [← hT1]; exact State.heap_pushCell_size _ _
  have d3' : decode c.code (pc + 3) = .ok (.dup, 1) := by rw [hb]; exact d3
  have d4' : decode c.code (pc + 4) = .ok (.ldc is, 2) := by rw [hb]; exact d4
  have hstr' : vk_R own is text sa s' := vk_R.warm hW0 hstr
  obtain ⟨U, hsteps, hrun, hend, hW, hsame, ce, hce, hO⟩ := X₁.ctorThrowS hexec htr (own := own) (cls := cls) (names := names) (ic := ic) hown' hcls hnames h (fun x hx => nomatch hx) hfX hkX hcellA (by rw [hhp, hT]; exact Nat.le_refl _) (msg := .ref sa) rfl
    (g := { method := m, pc := pc + 6, locals := ls, stack := .ref sa :: .ref T.heap.size :: .ref T.heap.size :: rest, locked := none }) rfl hsize rfl rfl (rest := rest) rfl
    (by rw [hb]; exact d6) (by rw [hb]; exact d9) hout hRframes (by simp only [List.map_cons, List.sum_cons, hcat]; omega) hlocks
  obtain ⟨f1, f2⟩ := vx_frame hsame
  rw [hhp] at f1 f2
  have hWs : s.WarmedH U.vm := State.WarmedH.trans hW0 hW
  have hcl : s.vm.findClass cls = some ce.cls := by
    have h9 := hO.cls
    rw [hvm] at h9
    exact h9
  have hall : s.sameButNew ({ U with vm := s.vm } : State) locs mc ms := by
    subst hA
    obtain ⟨e1, e2⟩ := hsame
    rw [State.setFrames_setFrames] at e1
    have h2 : (T.setVm s.vm).sameButNew ({ U with vm := s.vm } : State) [] (0 + 1) (0 + 6) := ⟨e1, e2⟩
    have h3 := X.same.trans h2
    rw [List.append_nil] at h3
    exact h3.mono hc hs
  refine ⟨U, ?_, .threw T.heap.size, hrun, hend, Or.inr ⟨T.heap.size, rfl, cls, ce, locs, hx U hWs.alike f1 (fun q hq => f2 q hq (fun z hz => nomatch hz)), hce, hO.vm, hcl, hWs, hall, hf⟩⟩
  refine st1 _ ?_
  show Steps p.tables e below (T1.setTop { method := m, pc := pc + 3, locals := ls, stack := .ref T.heap.size :: rest, locked := none }) _
  jvm_step X₁.here [X₁.here.top, hexec, d3', Value.category]
  exact X₁.ldcString hexec (own := own) (text := text) (index := is) (a := sa) hown' hstr'.1 hstr'.2
    (g := { method := m, pc := pc + 4, locals := ls, stack := .ref T.heap.size :: .ref T.heap.size :: rest, locked := none }) rfl d4' _ hsteps
/-- 'throw new E("text")', the text by a wide index -/
theorem vx_throwSW {cc : ByteArray} {pc : Nat} (hexec : p.tables.exec = Jvm.exec) (hb : c.code = cc) (hl : l.stackTraces = false) {own cls text : String} {names : List String} {ik is ic mc ms sa : Nat} {A : Nat → Prop}
    (hown : s.vm.findClass own = some m.cls) (hcls : Bundle.fit cls = true) (hnames : ∀ n ∈ names, Bundle.fit n = true)
    (hk : (Cond.classLink own ik cls).before args s = true) (hini : (Cond.initialized cls).before args s = true) (hstr : vk_R own is text sa s) (hat : ∀ w ∈ vx_atS own ic cls names, w.before args s = true)
    (hgood : ∀ w ∈ Cond.classLink own ik cls :: Cond.initialized cls :: vx_atS own ic cls names, vx_ot w = true)
    (hU : vx_Zq Bundle.tN "UNASSIGNED_STACK" Bundle.steD A s s.heap) (hN : vx_Zq Bundle.tN "SUPPRESSED_SENTINEL" Bundle.listD A s s.heap) (hS : va_S A s.heap H locs) (hsize : ls.size = c.maxLocals)
    (d0 : decode cc pc = .ok (.new ik, 3)) (d3 : decode cc (pc + 3) = .ok (.dup, 1)) (d4 : decode cc (pc + 4) = .ok (.ldc_w is, 3)) (d7 : decode cc (pc + 7) = .ok (.invokespecial ic, 3)) (d10 : decode cc (pc + 10) = .ok (.athrow, 1))
    (hout : ∀ x ∈ c.exceptionTable.toList, covers x (pc + 10) = false)
    (hRframes : names.length + 3 < R.frames) (hRlocals : (rest.map fun v => v.category).sum + (13 * (names.length + 1) + 43) ≤ R.locals) (hRcells : cells + 1 ≤ R.cells) (hRslots : slots + 6 ≤ R.slots) (hlocks : meth.locks = false)
    (hx : ∀ t : State, s.vm.Alike t.vm → H.size ≤ t.heap.size → (∀ q : Nat, q < H.size → t.heap[q]? = H[q]?) → XC cls s t)
    (hf : ∀ z ∈ locs, free z.base) (hc : cells + 1 ≤ mc) (hs : slots + 6 ≤ ms) :
    W p l e R s m args below meth c H locs cells slots (vx_MQ below Qc XC args s mc ms free) (F0 m pc ls rest) := by
  intro T hT X
  have htr : e.platform.stackTraces = false := (show e.platform.stackTraces = l.stackTraces by rw [X.admits.platform]).trans hl
  have Y := vx_rebase X (R' := { frames := R.frames, locals := R.locals, cells := 1, slots := 6 }) (Nat.le_refl _) (Nat.le_refl _) hRcells hRslots
  obtain ⟨s', hA⟩ : ∃ z, z = (T.setVm s.vm).setFrames (.invoking m args :: below) := ⟨_, rfl⟩
  rw [← hA] at Y
  have hvm : s'.vm = s.vm := by rw [hA]; rfl
  have hhp : s'.heap = H := by rw [hA]; exact hT
  have hW0 : s.WarmedH s'.vm := by rw [hvm]; exact State.WarmedH.refl s
  have hat' : ∀ w ∈ vx_atS own ic cls names, w.before args s' = true := fun w hw => vx_ot_at hW0 hvm.symm (hgood w (List.mem_cons_of_mem _ (List.mem_cons_of_mem _ hw))) (hat w hw)
  have hk' : (Cond.classLink own ik cls).before args s' = true := vx_ot_at hW0 hvm.symm (hgood _ List.mem_cons_self) hk
  have hini' : (Cond.initialized cls).before args s' = true := vx_ot_at hW0 hvm.symm (hgood _ (List.mem_cons_of_mem _ List.mem_cons_self)) hini
  have hU' : vx_Zq Bundle.tN "UNASSIGNED_STACK" Bundle.steD A s' s'.heap := by rw [hhp]; exact vx_Zq.moved hW0.alike (hU.kept hS.2.1)
  have hN' : vx_Zq Bundle.tN "SUPPRESSED_SENTINEL" Bundle.listD A s' s'.heap := by rw [hhp]; exact vx_Zq.moved hW0.alike (hN.kept hS.2.1)
  have h : ∀ w ∈ Bundle.ownAtoms own ic cls names, w.before args s' = true := vx_own hat' (vx_isRefq hU'.1) (vx_isRefq hN'.1) hU'.2.word hN'.2.word
  have hown' : s'.vm.findClass own = some m.cls := by rw [hvm]; exact hown
  have hins : (Cond.instantiable cls 6).before args s' = true := h _ (by simp [Bundle.ownAtoms])
  obtain ⟨vm₁, cX, kX, hfX, hkX, -, -, X₁, st1⟩ := Y.newCold hexec (own := own) (C := cls) (index := ik) (n := 6) hown' hk' hins hini'
    (g := F0 m pc ls rest) rfl (by rw [hb]; exact d0) (Nat.le_refl _) (Nat.le_refl _)
  generalize hT1 : (T.setVm vm₁).pushCell { cls := cX, slots := kX.instanceTypes.map defaultValue, vm := .none } = T1 at X₁ st1
  have hcat : (Value.ref T.heap.size).category = 1 := rfl
  have hcellA : T1.heap[T.heap.size]? = some (freshCell cX kX) := by rw [← hT1]; exact State.heap_pushCell_size _ _
  have d3' : decode c.code (pc + 3) = .ok (.dup, 1) := by rw [hb]; exact d3
  have d4' : decode c.code (pc + 4) = .ok (.ldc_w is, 3) := by rw [hb]; exact d4
  have hstr' : vk_R own is text sa s' := vk_R.warm hW0 hstr
  obtain ⟨U, hsteps, hrun, hend, hW, hsame, ce, hce, hO⟩ := X₁.ctorThrowS hexec htr (own := own) (cls := cls) (names := names) (ic := ic) hown' hcls hnames h (fun x hx => nomatch hx) hfX hkX hcellA (by rw [hhp, hT]; exact Nat.le_refl _) (msg := .ref sa) rfl
    (g := { method := m, pc := pc + 7, locals := ls, stack := .ref sa :: .ref T.heap.size :: .ref T.heap.size :: rest, locked := none }) rfl hsize rfl rfl (rest := rest) rfl
    (by rw [hb]; exact d7) (by rw [hb]; exact d10) hout hRframes (by simp only [List.map_cons, List.sum_cons, hcat]; omega) hlocks
  obtain ⟨f1, f2⟩ := vx_frame hsame
  rw [hhp] at f1 f2
  have hWs : s.WarmedH U.vm := State.WarmedH.trans hW0 hW
  have hcl : s.vm.findClass cls = some ce.cls := by
    have h9 := hO.cls
    rw [hvm] at h9
    exact h9
  have hall : s.sameButNew ({ U with vm := s.vm } : State) locs mc ms := by
    subst hA
    obtain ⟨e1, e2⟩ := hsame
    rw [State.setFrames_setFrames] at e1
    have h2 : (T.setVm s.vm).sameButNew ({ U with vm := s.vm } : State) [] (0 + 1) (0 + 6) := ⟨e1, e2⟩
    have h3 := X.same.trans h2
    rw [List.append_nil] at h3
    exact h3.mono hc hs
  refine ⟨U, ?_, .threw T.heap.size, hrun, hend, Or.inr ⟨T.heap.size, rfl, cls, ce, locs, hx U hWs.alike f1 (fun q hq => f2 q hq (fun z hz => nomatch hz)), hce, hO.vm, hcl, hWs, hall, hf⟩⟩
  refine st1 _ ?_
  show Steps p.tables e below (T1.setTop { method := m, pc := pc + 3, locals := ls, stack := .ref T.heap.size :: rest, locked := none }) _
  jvm_step X₁.here [X₁.here.top, hexec, d3', Value.category]
  exact X₁.ldcStringW hexec (own := own) (text := text) (index := is) (a := sa) hown' hstr'.1 hstr'.2
    (g := { method := m, pc := pc + 4, locals := ls, stack := .ref T.heap.size :: .ref T.heap.size :: rest, locked := none }) rfl d4' _ hsteps
end Ends
section Bodies
variable {l : Launch}
theorem vx_ofW {y : MethodName} {ws ws' : List Cond} {rm : Room} {Pc : Array Value → State → Prop} {Qc : Array Value → State → Outcome → State → Prop} {XC : String → State → State → Prop} {mc ms : Nat} {free : Addr → Prop} {cc : ByteArray} {maxL : Nat} {ret : Option FieldType}
    (hy : plainName y.cls = true) (hw : ws = Cond.code y cc maxL ret :: ws')
    (body : ∀ p e s m args below meth c s₁, BodyLoose p l y (headSpec ws rm) cc maxL ret e s m args below meth c s₁ → c.maxLocals = maxL → (∀ x ∈ c.exceptionTable.toList, False) → Pc args s →
      W p l e (headSpec ws rm).room s m args below meth c s.heap [] 0 0 (vx_MQ below Qc XC args s mc ms free) (entryFrame m args maxL)) : vx_Met l y ws rm Pc Qc XC mc ms free := by
  refine MetFree.of_bodyS (code := cc) (maxLocals := maxL) (ret := ret) hy ?_ ?_
  · intro args s m h hn
    obtain ⟨meth, c, h1, h2, h3, h4, h5, h6, -, -⟩ := Cond.code_spec hn (atoms_spec (ws := ws) h _ (by rw [hw]; exact List.mem_cons_self))
    exact ⟨meth, c, h1, h2, h3, h4, h5, h6⟩
  · intro p e s m args below meth c s₁ B hml hP _
    have hh0 : s₁.heap = s.heap := by rw [B.state]; rfl
    have ht : ∀ x ∈ c.exceptionTable.toList, False := by
      obtain ⟨meth9, c9, h1, h2, -, -, -, -, h7, -⟩ := Cond.code_spec B.named (atoms_spec (ws := ws) B.pre _ (by rw [hw]; exact List.mem_cons_self))
      cases Option.some.inj (h1.symm.trans B.method)
      cases Option.some.inj (h2.symm.trans (Stand.of_body B).code)
      intro x hx
      rw [Array.isEmpty_iff.mp h7] at hx
      cases hx
    obtain ⟨t, a1, o, b1, b2, b3⟩ := body p e s m args below meth c s₁ B hml ht hP s₁ hh0 (Stand.of_body B)
    exact ⟨t, o, a1, b1, b2, b3⟩
/-- the table of a body with handlers -/
theorem vx_table {p : Program} {x y : MethodName} {S : Spec} {cc bytes : ByteArray} {maxL maxL' : Nat} {ret ret' : Option FieldType} {e : Env} {s s₁ : State} {m : MethodId} {args : Array Value} {below : List Frame} {meth : Method} {c : Code} {hh : List (Nat × Nat × Nat × Nat)}
    (B : BodyLoose p l y S cc maxL ret e s m args below meth c s₁) (h : (Cond.codeWith y bytes maxL' ret' hh).before args s = true) : c.exceptionTable.toList = tableOf hh := by
  obtain ⟨m9, meth9, c9, hn9, h1, h2, -, -, h6, -⟩ := Cond.codeWith_spec h
  cases Option.some.inj (hn9.symm.trans B.named)
  cases Option.some.inj (h1.symm.trans B.method)
  cases Option.some.inj (h2.symm.trans (Stand.of_body B).code)
  rw [← h6, table_eq]
end Bodies
end VXA
/-! ===== END ===== -/
/-! ===== BEGIN a static call of a method with an exception table ===== -/
section VXS
variable {p : Program} {l : Launch} {e : Env} {R : Room} {s : State} {m : MethodId} {args : Array Value} {below : List Frame} {meth : Method} {c : Code} {T : State} {H : Heap} {locs : List Loc} {cells slots : Nat}
abbrev vx_CSW (R : Room) (s : State) (args : Array Value) (own : String) (index : Nat) (y : MethodName) (bytes : ByteArray) (maxL : Nat) (ret : Option FieldType) (hh : List (Nat × Nat × Nat × Nat)) (ws : List Cond) (rm : Room) (mc ms n : Nat) : Prop :=
  (rm.cells = mc ∧ rm.slots = ms ∧ rm.frames + 1 ≤ R.frames ∧ 8 + (maxL + 11) + rm.locals ≤ R.locals ∧ (∀ w ∈ ws, ∀ (a' : Array Value) (U : State), s.WarmedH U.vm → w.before a' U = true) ∧ Cond.codeWith y bytes maxL ret hh ∈ ws) ∧
  (Cond.codeWith y bytes maxL ret hh).before args s = true ∧ (Cond.initialized y.cls).before args s = true ∧ (y.cls ≠ "java/lang/invoke/MethodHandle" ∧ y.cls ≠ "java/lang/invoke/VarHandle") ∧
  (∀ sig, parseMethodDescriptor y.desc = some sig → n = sig.parameters.length) ∧ (Cond.methodLink own index y).before args s = true ∧ (Cond.static y).before args s = true
theorem vx_cwSW {own : String} {index maxL mc ms : Nat} {y : MethodName} {bytes : ByteArray} {ret : Option FieldType} {hh : List (Nat × Nat × Nat × Nat)} {Ts ws ws' : List Cond} {rm : Room} (n : Nat) (ht : ∀ w ∈ Ts, w.before args s = true) (hT : GoodIn Ts (va_wsS own index y ws)) (hw : ws = Cond.codeWith y bytes maxL ret hh :: ws') (hrc : rm.cells = mc) (hrs : rm.slots = ms)
    (hd : y.cls ≠ "java/lang/invoke/MethodHandle" ∧ y.cls ≠ "java/lang/invoke/VarHandle" ∧ (parseMethodDescriptor y.desc).map (fun d => d.parameters.length) = some n) (hR : rm.frames + 1 ≤ R.frames ∧ 8 + (maxL + 11) + rm.locals ≤ R.locals) :
    vx_CSW R s args own index y bytes maxL ret hh ws rm mc ms n := by
  have ok : ∀ w ∈ va_wsS own index y ws, w.before args s = true := fun w h => ht w (hT w h).1
  have hG : GoodIn Ts ws := fun w h => hT w (by unfold va_wsS; exact List.mem_append_right _ h)
  have hc : Cond.codeWith y bytes maxL ret hh ∈ ws := by rw [hw]; exact List.mem_cons_self
  refine ⟨⟨hrc, hrs, hR.1, hR.2, pay_in ht hG, hc⟩, ht _ (hG _ hc).1, ok _ (by simp [va_wsS]), ⟨hd.1, hd.2.1⟩, fun sig h => ?_, ok _ (by simp [va_wsS]), ok _ (by simp [va_wsS])⟩
  have h2 := hd.2.2
  rw [h] at h2
  exact (Option.some.inj h2).symm
theorem vx_callSW (X : Stand p l e R s m args below meth c T locs cells slots) (hexec : p.tables.exec = Jvm.exec) {own : String} {index : Nat} {y : MethodName} {bytes : ByteArray} {maxL : Nat} {ret : Option FieldType} {hh : List (Nat × Nat × Nat × Nat)}
    (hown : s.vm.findClass own = some m.cls) (hlink : (Cond.methodLink own index y).before args s = true) (hstat : (Cond.static y).before args s = true) (hinit : (Cond.initialized y.cls).before args s = true)
    (hcode : (Cond.codeWith y bytes maxL ret hh).before args s = true) (hy : y.cls ≠ "java/lang/invoke/MethodHandle" ∧ y.cls ≠ "java/lang/invoke/VarHandle")
    {W9 : Nat} {Pre : Pt → Array Value → Prop} {Post : Pt → Array Value → Option Value → Pt → Prop} (hK : Back l R p e below s args y 3 W9 Pre Post)
    {g : JFrame} (hg : g.method = m) (hsize : g.locals.size = c.maxLocals) {argsL rest : List Value} (hlen : ∀ sig, parseMethodDescriptor y.desc = some sig → argsL.length = sig.parameters.length)
    (hstack : g.stack = argsL.reverse ++ rest) (hW : 2 * g.monitorRoom + (rest.map fun v => v.category).sum ≤ W9) (hdg : decode c.code g.pc = .ok (.invokestatic index, 3))
    (hpre : ∀ vm₁, s.WarmedH vm₁ → Pre ⟨T.setVm vm₁, locs, cells, slots⟩ argsL.toArray) :
    ∃ (v : Option Value) (vm₁ : Vm) (B : Pt), s.WarmedH vm₁ ∧ Stand p l e R s m args below meth c B.U B.locs B.cells B.slots ∧ Post ⟨T.setVm vm₁, locs, cells, slots⟩ argsL.toArray v B ∧
      ∀ target, Steps p.tables e below (B.U.setTop { g with pc := g.pc + 3, stack := v.toList ++ rest }) target → Steps p.tables e below (T.setTop g) target := by
  obtain ⟨mk, methM, cM, hnamed, hmethM, -, -, -, -, -, -, hsigM⟩ := Cond.codeWith_spec hcode
  have hstatic : methM.isStatic = true := Cond.static_spec hnamed hmethM hstat
  obtain ⟨kP, hkP, -⟩ := className_of_methodNamed hnamed
  have hinitP : kP.init = .initialized := Cond.initialized_spec (findClass_of_methodNamed hnamed) hkP hinit
  obtain ⟨vm₁, X₁, hstep₁⟩ := X.invokestatic hexec hown hlink hnamed hmethM hstatic hkP hinitP hy (g := g) hg (argsL := argsL) (rest := rest) (hlen _ hsigM) hstack hdg
  obtain ⟨v, B, X', hpost, hsteps⟩ := hK m meth c ⟨T.setVm vm₁, locs, cells, slots⟩ { g with stack := rest } (.invokestatic index) mk argsL.toArray X₁ hg hsize hdg hW (X₁.named hnamed) (hpre vm₁ X₁.warmed)
  exact ⟨v, vm₁, B, X₁.warmed, X', hpost, fun target h => hstep₁ _ fun acts => by rw [doInvoke_state]; exact hsteps.trans h⟩
theorem vx_runSW {y : MethodName} {bytes cc : ByteArray} {maxL nL mc ms n index : Nat} {ret : Option FieldType} {hh : List (Nat × Nat × Nat × Nat)} {ws : List Cond} {rm : Room} {Pc : Array Value → State → Prop} {Qc : Array Value → State → Outcome → State → Prop} {free : Addr → Prop} {Ts : List Cond} {own : String} {As rest : List Value} {g : JFrame}
    (S : CallFix p m c cc nL s args Ts own) (hM : Met l y ws rm Pc Qc mc ms free) (cw : vx_CSW R s args own index y bytes maxL ret hh ws rm mc ms n) (hp : PreS s H Pc As)
    (hg : g.method = m) (hn : As.length = n) (hsize : g.locals.size = nL) (hstack : g.stack = As.reverse ++ rest) (hW : 2 * g.monitorRoom + (rest.map fun v => v.category).sum ≤ 8) (hdg : decode cc g.pc = .ok (.invokestatic index, 3)) (hf : cells + mc ≤ R.cells ∧ slots + ms ≤ R.slots) :
    va_Run p l e R s m args below meth c H locs cells slots mc ms g rest (Qc As.toArray) (free) := by
  obtain ⟨⟨hrc, hrs, hfr, hlo, hws, hcw⟩, hcode, hini, hy, hlen, hl, hstt⟩ := cw
  have hK : Back l R p e below s args y 3 8 (PreOf R mc ms Pc) (PostOf Qc mc ms free) := va_backW (hh := hh) (bytes := bytes) (maxL := maxL) (ret := ret) hM hp.1 hrc hrs hfr hlo hws hcw (fun a' U hW => word_at hW (Or.inl (by first | rfl | simp [Cond.onTables, Cond.keeps, Cond.steady])) hini)
  obtain ⟨hx, hb, hml, ho, -⟩ := S
  intro T hT X
  obtain ⟨v, vm₁, ⟨U', l2, c2, s2⟩, hW₁, X', ⟨g', mk, t, L, e1, e2, hq, h1, hL, h2, h3⟩, st⟩ := vx_callSW X hx (hh := hh) (bytes := bytes) (maxL := maxL) (ret := ret) ho hl hstt hini hcode hy hK hg (hsize.trans hml.symm) (argsL := As) (rest := rest) (fun sig h => hn.trans (hlen sig h)) hstack hW (by rw [hb]; exact hdg)
    (fun vm₁ hW₁ => ⟨hf.1, hf.2, hp.2 (T.setVm vm₁) hT hW₁⟩)
  dsimp only [Pt.U, Pt.locs, Pt.cells, Pt.slots] at X' e1 e2 h1 h2 h3 st
  subst h1; subst h2; subst h3
  exact ⟨v, (T.setVm vm₁).calling g' mk As.toArray, t, U', L, hT, X', hL, e1, e2, hq, st⟩
/-- not caught here, past rows that name other classes: it goes on to the caller -/
theorem vx_outP {p : Program} {l : Launch} {e : Env} {R : Room} {s : State} {m : MethodId} {args : Array Value} {below : List Frame} {meth : Method} {c : Code} {H : Heap} {locs : List Loc} {cells slots : Nat} {free : Addr → Prop} {ls : Array Slot} {rest : List Value} {Qc : Array Value → State → Outcome → State → Prop} {XC : String → State → State → Prop}
    {pc : Nat} {own E : String} {ce : Cell} {q : Addr} {mc ms : Nat} (hown : s.vm.findClass own = some m.cls) (hlocks : meth.locks = false)
    (hpass : ∀ z ∈ c.exceptionTable.toList, covers z pc = false ∨ (z.catchType ≠ 0 ∧ ∃ nm : String, (Cond.classLink own z.catchType nm).before args s = true ∧ va_Nc E nm s)) (hcell : H[q]? = some ce) (hv : ce.vm = .none) (hcl : s.vm.findClass E = some ce.cls)
    (hx : ∀ t : State, t.heap = H → s.vm.Alike t.vm → XC E s t) (hf : ∀ z ∈ locs, free z.base) (hc : cells ≤ mc) (hs : slots ≤ ms) :
    vx_W p l e R s m args below meth c H locs cells slots (vx_MQ below Qc XC args s mc ms free) (F0 m pc ls rest) q := by
  intro T hT X
  have hpl : e.platform.magicAccessors = ({} : Platform).magicAccessors := by rw [X.admits.platform]
  obtain ⟨vm', hW', X', st⟩ := X.outThrough hlocks q (g := F0 m pc ls rest) rfl rfl rfl (cell := ce) (by rw [hT]; exact hcell) (by rw [hv]; rfl)
    (by obtain ⟨k9, h9, -⟩ := Vm.findClass_spec hcl; exact ⟨k9, h9⟩) (fun z hz => by
      rcases hpass z hz with h | ⟨hz0, nm, hl1, hn1⟩
      · exact Or.inl h
      · obtain ⟨c6, hc6, hcl6⟩ := Cond.classLink_spec hown hl1 e.platform hpl
        obtain ⟨a8, b8, h1, h2, h3⟩ := hn1
        cases Option.some.inj (h1.symm.trans hcl)
        cases Option.some.inj (h2.symm.trans hc6)
        exact Or.inr ⟨hz0, _, hcl6, h3⟩)
  obtain ⟨g₀, hfr⟩ := X'.frames_eq
  have hcell9 : ((T.setVm vm').setFrames (.throwing q :: below)).heap[q]? = some ce := by
    show T.heap[q]? = some ce
    rw [hT]; exact hcell
  have hend : Ended ((T.setVm vm').setFrames (.throwing q :: below)) below (.threw q) := State.frames_setFrames _ (State.cur_lt_of_frames hfr)
  refine ⟨(T.setVm vm').setFrames (.throwing q :: below), ?_, .threw q, X'.here.running, hend, Or.inr ⟨q, rfl, E, ce, locs, hx _ hT (X'.ends _).1.alike, hcell9, hv, hcl, (X'.ends _).1, (X'.ends _).2.mono hc hs, hf⟩⟩
  rw [X.pushThrowing_eq]
  exact st
/-- a thing of a world lies in the heap -/
theorem vx_lt {D : va_G} {cl : List vw_C} {ws : va_W} {H1 : Heap} (h : va_P D cl ws H1) {k : Nat} {q : Nat × va_E} (hk : ws[k]? = some q) : q.1 < H1.size := (h k q hk).lt
end VXS
/-! ===== END ===== -/
/-! ===== BEGIN methods with a table of their own: called by a name, returning or throwing ===== -/
section VXH
/-! vx_backW, vx_callVX, vx_callSX, vx_callVW, vx_runVW, vx_runVX, vx_runSX, vx_ofWH follow the same proofs as their sisters above (Free/Laws.lean, Shelf42/LK1.lean); vx_outP calls Shelf42/NT130.lean (outThrough). -/
section
variable {l : Launch} {R : Room} {p : Program} {e : Env} {below : List Frame} {s : State} {sargs : Array Value} {y : MethodName} {len W9 : Nat}
theorem vx_backW {ws : List Cond} {rm : Room} {Pc : Array Value → State → Prop} {Qc : Array Value → State → Outcome → State → Prop} {XC : String → State → State → Prop} {mc ms : Nat} {free : Addr → Prop} {bytes : ByteArray} {maxL : Nat} {ret : Option FieldType} {hh : List (Nat × Nat × Nat × Nat)}
    (hM : vx_Met l y ws rm Pc Qc XC mc ms free) (hblind : FrameBlind Pc) (hrc : rm.cells = mc) (hrs : rm.slots = ms)
    (hframes : rm.frames + 1 ≤ R.frames) (hlocals : W9 + (maxL + 11) + rm.locals ≤ R.locals)
    (hws : ∀ w ∈ ws, ∀ a' U, s.WarmedH U.vm → w.before a' U = true) (hcode : Cond.codeWith y bytes maxL ret hh ∈ ws) (hinit : ∀ a' U, s.WarmedH U.vm → (Cond.initialized y.cls).before a' U = true) :
    vx_Back l R p e below s sargs y len W9 (PreOf R mc ms Pc) (PostOf Qc mc ms free) (vx_Post XC mc ms free) := by
  intro m meth c A g ig mk a X hg hsize hdg hW hn hp
  have h1 : (headSpec ws rm).pre.before a A.U = true := atoms_intro fun w hw => hws w hw _ _ X.warmed
  have h2 : (Cond.codeWith y bytes maxL ret hh).before a A.U = true := hws _ hcode _ _ X.warmed
  have h3 : (Cond.initialized y.cls).before a A.U = true := hinit _ _ X.warmed
  have h4 : A.cells + (headSpec ws rm).room.cells ≤ R.cells := by rw [show (headSpec ws rm).room.cells = mc from hrc]; exact hp.1
  have h5 : A.slots + (headSpec ws rm).room.slots ≤ R.slots := by rw [show (headSpec ws rm).room.slots = ms from hrs]; exact hp.2.1
  have hPc : Pc a (A.U.calling g mk a) := hblind _ _ _ _ hp.2.2
  obtain ⟨U, Ls, c0, s0⟩ := A
  dsimp only [Pt.U, Pt.locs, Pt.cells, Pt.slots] at h1 h2 h3 h4 h5 X hn hPc ⊢
  obtain ⟨m9, methY, cY, hn9, hmY, hcY, -, hlY, -⟩ := Cond.codeWith_spec h2
  cases Option.some.inj (hn9.symm.trans hn)
  obtain ⟨kY, hkY, -⟩ := className_of_methodNamed hn
  have hinitY : kY.init = .initialized := Cond.initialized_spec (findClass_of_methodNamed hn) hkY h3
  have h : At U g.method c below := by rw [hg]; exact X.here
  have hlocals9 : W9 + (maxL + 11) + (headSpec ws rm).room.locals ≤ R.locals := hlocals
  have happ : (headSpec ws rm).appliesLoose y e.platform (U.calling g mk a) = true :=
    Spec.appliesLoose_calling (g := g) h hdg hn hkY hinitY
      (X.room_calling (g := g) (R' := (headSpec ws rm).room) hsize hmY hcY hframes (by rw [hlY]; omega) h4 h5) h1
  obtain ⟨mid, hmid⟩ := h.above
  have hfr : (U.setTop g).frames = (.java g :: mid) ++ below := by rw [State.frames_setTop' g h.top, hmid]; rfl
  obtain ⟨o, s₂, hsteps, -, hend, hq⟩ := Steps.callFree hM p X.admits X.cas X.clock (acts := []) hfr happ hPc trivial
  have hq' : vx_Q Qc XC mc ms free a (U.calling g mk a) o s₂ := hq
  rw [State.frames_setTop' g h.top] at hend
  obtain ⟨g₀, hg0⟩ := Option.isSome_iff_exists.mp h.top
  obtain ⟨r, hr⟩ := State.topJava?_eq_some.mp hg0
  have hr' : (({ U with heap := s₂.heap, slotsUsed := s₂.slotsUsed } : State).setVm s₂.vm).frames = .java g₀ :: r := hr
  rcases hq' with ⟨hqc, L, hfe, hL⟩ | ⟨q, rfl, E, ce, L, hx, hce, hcv, hcl, hW₂, hsm, hL⟩
  · obtain ⟨⟨v, rfl⟩, hW₂, e2, q2, q3, q4, q5, q6⟩ := id hfe
    have e3 : s₂ = ({ (U.calling g mk a).setFrames s₂.frames with heap := s₂.heap, slotsUsed := s₂.slotsUsed } : State).setVm s₂.vm := by
      have : s₂ = ({ s₂ with vm := (U.calling g mk a).vm } : State).setVm s₂.vm := rfl
      rw [e2] at this
      exact this
    obtain ⟨c₂, i₂, len₂, hc₂, hd₂, hf₂⟩ := hend
    have hW' : U.WarmedH s₂.vm := hW₂
    have hcc : c₂ = c := by
      have h1 : s₂.code? g.method = U.code? g.method := by
        rw [State.code?_eq, State.code?_eq, hW'.alike.method?]
      exact Option.some.inj (hc₂.symm.trans (h1.trans h.code))
    subst hcc
    have hlen : len₂ = len := by rw [hdg] at hd₂; cases hd₂; rfl
    subst hlen
    have hs₂ : s₂ = (({ U with heap := s₂.heap, slotsUsed := s₂.slotsUsed } : State).setVm s₂.vm).setTop { g with pc := g.pc + len₂, stack := v.toList ++ g.stack } := by
      refine e3.trans ?_
      rw [hf₂, State.calling_eq h.top, State.setFrames_setFrames, State.setTop_of_frames _ hr', hr]
      rfl
    have hsame : U.sameButNew ({ U with heap := s₂.heap, slotsUsed := s₂.slotsUsed } : State) L mc ms := by
      refine ⟨?_, q2, q3, q4, q5, q6⟩
      obtain ⟨t, ht, -⟩ := State.frames_cons hr
      show ({ U with heap := s₂.heap, slotsUsed := s₂.slotsUsed } : State) = { U.setFrames U.frames with heap := s₂.heap, slotsUsed := s₂.slotsUsed }
      rw [State.setFrames_self ht]
    subst hg
    refine Or.inl ⟨v, ⟨(({ U with heap := s₂.heap, slotsUsed := s₂.slotsUsed } : State).setVm s₂.vm), Ls ++ L, c0 + mc, s0 + ms⟩,
      ⟨X.admits, X.cas, X.clock, X.frames, X.room, X.hears, X.method, X.code, (X.here.setHeapUsed s₂.heap s₂.slotsUsed).setVm hW'.alike, X.tail, State.WarmedH.trans X.warmed hW', X.limits, X.bytes, X.same.trans (hsame.setVm s.vm)⟩,
      ⟨g, mk, s₂, L, rfl, rfl, hqc, rfl, hL, rfl, rfl⟩, ?_⟩
    show Steps p.tables e below _ ((({ U with heap := s₂.heap, slotsUsed := s₂.slotsUsed } : State).setVm s₂.vm).setTop { g with pc := g.pc + len₂, stack := v.toList ++ g.stack })
    rw [← hs₂]
    exact hsteps
  · obtain ⟨e2, q2, q3, q4, q5, q6⟩ := id hsm
    have e3 : s₂ = ({ (U.calling g mk a).setFrames s₂.frames with heap := s₂.heap, slotsUsed := s₂.slotsUsed } : State).setVm s₂.vm := by
      have : s₂ = ({ s₂ with vm := (U.calling g mk a).vm } : State).setVm s₂.vm := rfl
      rw [e2] at this
      exact this
    have hf₂ : s₂.frames = .throwing q :: .java g :: U.frames.tail := hend
    have hW' : U.WarmedH s₂.vm := hW₂
    have hs₂ : s₂ = ((({ U with heap := s₂.heap, slotsUsed := s₂.slotsUsed } : State).setVm s₂.vm).setTop g).pushFrame (.throwing q) := by
      refine e3.trans ?_
      rw [hf₂, State.calling_eq h.top, State.setFrames_setFrames, State.pushFrame, State.frames_setTop _ hr', State.setTop_of_frames _ hr', State.setFrames_setFrames, hr]
      rfl
    have hsame : U.sameButNew ({ U with heap := s₂.heap, slotsUsed := s₂.slotsUsed } : State) L mc ms := by
      refine ⟨?_, q2, q3, q4, q5, q6⟩
      obtain ⟨t, ht, -⟩ := State.frames_cons hr
      show ({ U with heap := s₂.heap, slotsUsed := s₂.slotsUsed } : State) = { U.setFrames U.frames with heap := s₂.heap, slotsUsed := s₂.slotsUsed }
      rw [State.setFrames_self ht]
    subst hg
    refine Or.inr ⟨q, ⟨(({ U with heap := s₂.heap, slotsUsed := s₂.slotsUsed } : State).setVm s₂.vm), Ls ++ L, c0 + mc, s0 + ms⟩,
      ⟨X.admits, X.cas, X.clock, X.frames, X.room, X.hears, X.method, X.code, (X.here.setHeapUsed s₂.heap s₂.slotsUsed).setVm hW'.alike, X.tail, State.WarmedH.trans X.warmed hW', X.limits, X.bytes, X.same.trans (hsame.setVm s.vm)⟩,
      ⟨g, mk, s₂, L, E, ce, rfl, rfl, hx, hce, hcv, hcl, rfl, hL, rfl, rfl⟩, ?_⟩
    show Steps p.tables e below _ (((({ U with heap := s₂.heap, slotsUsed := s₂.slotsUsed } : State).setVm s₂.vm).setTop g).pushFrame (.throwing q))
    rw [← hs₂]
    exact hsteps
end
variable {p : Program} {l : Launch} {e : Env} {R : Room} {s : State} {m : MethodId} {args : Array Value} {below : List Frame} {meth : Method} {c : Code} {T : State} {H : Heap} {locs : List Loc} {cells slots : Nat}
theorem vx_callVX (X : Stand p l e R s m args below meth c T locs cells slots) (hexec : p.tables.exec = Jvm.exec) {own C : String} {index : Nat} {y : MethodName} {bytes : ByteArray} {maxL : Nat} {ret : Option FieldType} {hh : List (Nat × Nat × Nat × Nat)}
    (hown : s.vm.findClass own = some m.cls) (hlink : (Cond.methodLink own index y).before args s = true) (hinst : (Cond.instanceMethod y).before args s = true) (hsel : (Cond.selects C y y).before args s = true)
    (hcode : (Cond.codeWith y bytes maxL ret hh).before args s = true) (hy : y.cls ≠ "java/lang/invoke/MethodHandle" ∧ y.cls ≠ "java/lang/invoke/VarHandle")
    {W9 : Nat} {Pre : Pt → Array Value → Prop} {Post : Pt → Array Value → Option Value → Pt → Prop} {PostX : Pt → Array Value → Addr → Pt → Prop} (hK : vx_Back l R p e below s args y 3 W9 Pre Post PostX)
    {b : Addr} {cellB : Cell} (hcell : T.heap[b]? = some cellB) (hobj : cellB.vm.isStatics = false) (hcls : s.vm.findClass C = some cellB.cls)
    {g : JFrame} (hg : g.method = m) (hsize : g.locals.size = c.maxLocals) {argsL rest : List Value} (hlen : ∀ sig, parseMethodDescriptor y.desc = some sig → argsL.length = sig.parameters.length)
    (hstack : g.stack = argsL.reverse ++ .ref b :: rest) (hW : 2 * g.monitorRoom + (rest.map fun v => v.category).sum ≤ W9) (hdg : decode c.code g.pc = .ok (.invokevirtual index, 3))
    (hpre : ∀ vm₁, s.WarmedH vm₁ → Pre ⟨T.setVm vm₁, locs, cells, slots⟩ (Value.ref b :: argsL).toArray) :
    (∃ (v : Option Value) (vm₁ : Vm) (B : Pt), s.WarmedH vm₁ ∧ Stand p l e R s m args below meth c B.U B.locs B.cells B.slots ∧ Post ⟨T.setVm vm₁, locs, cells, slots⟩ (Value.ref b :: argsL).toArray v B ∧
      ∀ target, Steps p.tables e below (B.U.setTop { g with pc := g.pc + 3, stack := v.toList ++ rest }) target → Steps p.tables e below (T.setTop g) target) ∨
    (∃ (q : Addr) (vm₁ : Vm) (B : Pt), s.WarmedH vm₁ ∧ Stand p l e R s m args below meth c B.U B.locs B.cells B.slots ∧ PostX ⟨T.setVm vm₁, locs, cells, slots⟩ (Value.ref b :: argsL).toArray q B ∧
      Steps p.tables e below (T.setTop g) ((B.U.setTop { g with stack := rest }).pushFrame (.throwing q))) := by
  obtain ⟨mk, methM, hnamed, hmethM, hstM, habM⟩ := Cond.instanceMethod_spec hinst
  obtain ⟨m8, methM', cM, hn8, hmethM', -, -, -, -, -, -, hsigM⟩ := Cond.codeWith_spec hcode
  cases Option.some.inj (hn8.symm.trans hnamed)
  cases hmethM.symm.trans hmethM'
  obtain ⟨c2, r2, m2, q1, q2, q3, q4, kP, hkP, hkPi⟩ := Cond.selects_spec hsel
  cases hcls.symm.trans q1
  cases (State.methodFound?_of_named hnamed hy).symm.trans q2
  cases hnamed.symm.trans q3
  have hselP : selectMethod e.platform s.vm cellB.cls mk = .method mk := by rw [Launch.admits_selectMethod X.admits]; exact q4
  obtain ⟨vm₁, X₁, hstep₁⟩ := X.invokevirtual hexec hown hlink hnamed hmethM hstM hkP hkPi hy (a := b) (cell := cellB) hcell
    (fun z h => by rw [h] at hobj; cases hobj) hselP hmethM habM hkP hkPi (g := g) hg (argsL := argsL) (rest := rest) (hlen _ hsigM) hstack hdg
  rcases hK m meth c ⟨T.setVm vm₁, locs, cells, slots⟩ { g with stack := rest } (.invokevirtual index) mk (Value.ref b :: argsL).toArray X₁ hg hsize hdg hW (X₁.named hnamed) (hpre vm₁ X₁.warmed) with ⟨v, B, X', hpost, hsteps⟩ | ⟨q, B, X', hpost, hsteps⟩
  · exact Or.inl ⟨v, vm₁, B, X₁.warmed, X', hpost, fun target h => hstep₁ _ fun acts => by rw [doInvoke_state]; exact hsteps.trans h⟩
  · exact Or.inr ⟨q, vm₁, B, X₁.warmed, X', hpost, hstep₁ _ fun acts => by rw [doInvoke_state]; exact hsteps⟩
theorem vx_callSX (X : Stand p l e R s m args below meth c T locs cells slots) (hexec : p.tables.exec = Jvm.exec) {own : String} {index : Nat} {y : MethodName} {bytes : ByteArray} {maxL : Nat} {ret : Option FieldType} {hh : List (Nat × Nat × Nat × Nat)}
    (hown : s.vm.findClass own = some m.cls) (hlink : (Cond.methodLink own index y).before args s = true) (hstat : (Cond.static y).before args s = true) (hinit : (Cond.initialized y.cls).before args s = true)
    (hcode : (Cond.codeWith y bytes maxL ret hh).before args s = true) (hy : y.cls ≠ "java/lang/invoke/MethodHandle" ∧ y.cls ≠ "java/lang/invoke/VarHandle")
    {W9 : Nat} {Pre : Pt → Array Value → Prop} {Post : Pt → Array Value → Option Value → Pt → Prop} {PostX : Pt → Array Value → Addr → Pt → Prop} (hK : vx_Back l R p e below s args y 3 W9 Pre Post PostX)
    {g : JFrame} (hg : g.method = m) (hsize : g.locals.size = c.maxLocals) {argsL rest : List Value} (hlen : ∀ sig, parseMethodDescriptor y.desc = some sig → argsL.length = sig.parameters.length)
    (hstack : g.stack = argsL.reverse ++ rest) (hW : 2 * g.monitorRoom + (rest.map fun v => v.category).sum ≤ W9) (hdg : decode c.code g.pc = .ok (.invokestatic index, 3))
    (hpre : ∀ vm₁, s.WarmedH vm₁ → Pre ⟨T.setVm vm₁, locs, cells, slots⟩ argsL.toArray) :
    (∃ (v : Option Value) (vm₁ : Vm) (B : Pt), s.WarmedH vm₁ ∧ Stand p l e R s m args below meth c B.U B.locs B.cells B.slots ∧ Post ⟨T.setVm vm₁, locs, cells, slots⟩ argsL.toArray v B ∧
      ∀ target, Steps p.tables e below (B.U.setTop { g with pc := g.pc + 3, stack := v.toList ++ rest }) target → Steps p.tables e below (T.setTop g) target) ∨
    (∃ (q : Addr) (vm₁ : Vm) (B : Pt), s.WarmedH vm₁ ∧ Stand p l e R s m args below meth c B.U B.locs B.cells B.slots ∧ PostX ⟨T.setVm vm₁, locs, cells, slots⟩ argsL.toArray q B ∧
      Steps p.tables e below (T.setTop g) ((B.U.setTop { g with stack := rest }).pushFrame (.throwing q))) := by
  obtain ⟨mk, methM, cM, hnamed, hmethM, -, -, -, -, -, -, hsigM⟩ := Cond.codeWith_spec hcode
  have hstatic : methM.isStatic = true := Cond.static_spec hnamed hmethM hstat
  obtain ⟨kP, hkP, -⟩ := className_of_methodNamed hnamed
  have hinitP : kP.init = .initialized := Cond.initialized_spec (findClass_of_methodNamed hnamed) hkP hinit
  obtain ⟨vm₁, X₁, hstep₁⟩ := X.invokestatic hexec hown hlink hnamed hmethM hstatic hkP hinitP hy (g := g) hg (argsL := argsL) (rest := rest) (hlen _ hsigM) hstack hdg
  rcases hK m meth c ⟨T.setVm vm₁, locs, cells, slots⟩ { g with stack := rest } (.invokestatic index) mk argsL.toArray X₁ hg hsize hdg hW (X₁.named hnamed) (hpre vm₁ X₁.warmed) with ⟨v, B, X', hpost, hsteps⟩ | ⟨q, B, X', hpost, hsteps⟩
  · exact Or.inl ⟨v, vm₁, B, X₁.warmed, X', hpost, fun target h => hstep₁ _ fun acts => by rw [doInvoke_state]; exact hsteps.trans h⟩
  · exact Or.inr ⟨q, vm₁, B, X₁.warmed, X', hpost, hstep₁ _ fun acts => by rw [doInvoke_state]; exact hsteps⟩
theorem vx_callVW (X : Stand p l e R s m args below meth c T locs cells slots) (hexec : p.tables.exec = Jvm.exec) {own C : String} {index : Nat} {y : MethodName} {bytes : ByteArray} {maxL : Nat} {ret : Option FieldType} {hh : List (Nat × Nat × Nat × Nat)}
    (hown : s.vm.findClass own = some m.cls) (hlink : (Cond.methodLink own index y).before args s = true) (hinst : (Cond.instanceMethod y).before args s = true) (hsel : (Cond.selects C y y).before args s = true)
    (hcode : (Cond.codeWith y bytes maxL ret hh).before args s = true) (hy : y.cls ≠ "java/lang/invoke/MethodHandle" ∧ y.cls ≠ "java/lang/invoke/VarHandle")
    {W9 : Nat} {Pre : Pt → Array Value → Prop} {Post : Pt → Array Value → Option Value → Pt → Prop} (hK : Back l R p e below s args y 3 W9 Pre Post)
    {b : Addr} {cellB : Cell} (hcell : T.heap[b]? = some cellB) (hobj : cellB.vm.isStatics = false) (hcls : s.vm.findClass C = some cellB.cls)
    {g : JFrame} (hg : g.method = m) (hsize : g.locals.size = c.maxLocals) {argsL rest : List Value} (hlen : ∀ sig, parseMethodDescriptor y.desc = some sig → argsL.length = sig.parameters.length)
    (hstack : g.stack = argsL.reverse ++ .ref b :: rest) (hW : 2 * g.monitorRoom + (rest.map fun v => v.category).sum ≤ W9) (hdg : decode c.code g.pc = .ok (.invokevirtual index, 3))
    (hpre : ∀ vm₁, s.WarmedH vm₁ → Pre ⟨T.setVm vm₁, locs, cells, slots⟩ (Value.ref b :: argsL).toArray) :
    ∃ (v : Option Value) (vm₁ : Vm) (B : Pt), s.WarmedH vm₁ ∧ Stand p l e R s m args below meth c B.U B.locs B.cells B.slots ∧ Post ⟨T.setVm vm₁, locs, cells, slots⟩ (Value.ref b :: argsL).toArray v B ∧
      ∀ target, Steps p.tables e below (B.U.setTop { g with pc := g.pc + 3, stack := v.toList ++ rest }) target → Steps p.tables e below (T.setTop g) target := by
  obtain ⟨mk, methM, hnamed, hmethM, hstM, habM⟩ := Cond.instanceMethod_spec hinst
  obtain ⟨m8, methM', cM, hn8, hmethM', -, -, -, -, -, -, hsigM⟩ := Cond.codeWith_spec hcode
  cases Option.some.inj (hn8.symm.trans hnamed)
  cases hmethM.symm.trans hmethM'
  obtain ⟨c2, r2, m2, q1, q2, q3, q4, kP, hkP, hkPi⟩ := Cond.selects_spec hsel
  cases hcls.symm.trans q1
  cases (State.methodFound?_of_named hnamed hy).symm.trans q2
  cases hnamed.symm.trans q3
  have hselP : selectMethod e.platform s.vm cellB.cls mk = .method mk := by rw [Launch.admits_selectMethod X.admits]; exact q4
  obtain ⟨vm₁, X₁, hstep₁⟩ := X.invokevirtual hexec hown hlink hnamed hmethM hstM hkP hkPi hy (a := b) (cell := cellB) hcell
    (fun z h => by rw [h] at hobj; cases hobj) hselP hmethM habM hkP hkPi (g := g) hg (argsL := argsL) (rest := rest) (hlen _ hsigM) hstack hdg
  obtain ⟨v, B, X', hpost, hsteps⟩ := hK m meth c ⟨T.setVm vm₁, locs, cells, slots⟩ { g with stack := rest } (.invokevirtual index) mk (Value.ref b :: argsL).toArray X₁ hg hsize hdg hW (X₁.named hnamed) (hpre vm₁ X₁.warmed)
  exact ⟨v, vm₁, B, X₁.warmed, X', hpost, fun target h => hstep₁ _ fun acts => by rw [doInvoke_state]; exact hsteps.trans h⟩
abbrev vx_CVW (R : Room) (s : State) (args : Array Value) (own C : String) (index : Nat) (y : MethodName) (bytes : ByteArray) (maxL : Nat) (ret : Option FieldType) (hh : List (Nat × Nat × Nat × Nat)) (ws : List Cond) (rm : Room) (mc ms n : Nat) : Prop :=
  (rm.cells = mc ∧ rm.slots = ms ∧ rm.frames + 1 ≤ R.frames ∧ 8 + (maxL + 11) + rm.locals ≤ R.locals ∧ (∀ w ∈ ws, ∀ (a' : Array Value) (U : State), s.WarmedH U.vm → w.before a' U = true) ∧ Cond.codeWith y bytes maxL ret hh ∈ ws) ∧
  (Cond.codeWith y bytes maxL ret hh).before args s = true ∧ (Cond.initialized y.cls).before args s = true ∧ (y.cls ≠ "java/lang/invoke/MethodHandle" ∧ y.cls ≠ "java/lang/invoke/VarHandle") ∧
  (∀ sig, parseMethodDescriptor y.desc = some sig → n = sig.parameters.length) ∧ (Cond.methodLink own index y).before args s = true ∧ (Cond.instanceMethod y).before args s = true ∧ (Cond.selects C y y).before args s = true
theorem vx_cwVW {own C : String} {index maxL mc ms : Nat} {y : MethodName} {bytes : ByteArray} {ret : Option FieldType} {hh : List (Nat × Nat × Nat × Nat)} {Ts ws ws' : List Cond} {rm : Room} (n : Nat) (ht : ∀ w ∈ Ts, w.before args s = true) (hT : GoodIn Ts (wsV own index C y ws)) (hw : ws = Cond.codeWith y bytes maxL ret hh :: ws') (hrc : rm.cells = mc) (hrs : rm.slots = ms)
    (hd : y.cls = C ∧ y.cls ≠ "java/lang/invoke/MethodHandle" ∧ y.cls ≠ "java/lang/invoke/VarHandle" ∧ (parseMethodDescriptor y.desc).map (fun d => d.parameters.length) = some n) (hR : rm.frames + 1 ≤ R.frames ∧ 8 + (maxL + 11) + rm.locals ≤ R.locals) :
    vx_CVW R s args own C index y bytes maxL ret hh ws rm mc ms n := by
  obtain ⟨hC, hd⟩ := hd
  subst hC
  have ok : ∀ w ∈ wsV own index y.cls y ws, w.before args s = true := fun w h => ht w (hT w h).1
  have hG : GoodIn Ts ws := fun w h => hT w (by unfold wsV; exact List.mem_append_right _ h)
  have hc : Cond.codeWith y bytes maxL ret hh ∈ ws := by rw [hw]; exact List.mem_cons_self
  refine ⟨⟨hrc, hrs, hR.1, hR.2, pay_in ht hG, hc⟩, ht _ (hG _ hc).1, ok _ (by simp [wsV]), ⟨hd.1, hd.2.1⟩, fun sig h => ?_, ok _ (by simp [wsV]), ok _ (by simp [wsV]), ok _ (by simp [wsV])⟩
  have h2 := hd.2.2
  rw [h] at h2
  exact (Option.some.inj h2).symm
theorem vx_runVW {y : MethodName} {bytes cc : ByteArray} {maxL nL mc ms n index : Nat} {ret : Option FieldType} {hh : List (Nat × Nat × Nat × Nat)} {ws : List Cond} {rm : Room} {Pc : Array Value → State → Prop} {Qc : Array Value → State → Outcome → State → Prop} {free : Addr → Prop} {Ts : List Cond} {own C : String} {b : Addr} {As rest : List Value} {g : JFrame}
    (S : CallFix p m c cc nL s args Ts own) (hM : Met l y ws rm Pc Qc mc ms free) (cw : vx_CVW R s args own C index y bytes maxL ret hh ws rm mc ms n) (hp : PreV s H C b Pc As)
    (hg : g.method = m) (hn : As.length = n) (hsize : g.locals.size = nL) (hstack : g.stack = As.reverse ++ .ref b :: rest) (hW : 2 * g.monitorRoom + (rest.map fun v => v.category).sum ≤ 8) (hdg : decode cc g.pc = .ok (.invokevirtual index, 3)) (hf : cells + mc ≤ R.cells ∧ slots + ms ≤ R.slots) :
    va_Run p l e R s m args below meth c H locs cells slots mc ms g rest (Qc (Value.ref b :: As).toArray) free := by
  obtain ⟨⟨hrc, hrs, hfr, hlo, hws, hcw⟩, hcode, hini, hy, hlen, hl, hin, hse⟩ := cw
  have hK : Back l R p e below s args y 3 8 (PreOf R mc ms Pc) (PostOf Qc mc ms free) := va_backW (hh := hh) (bytes := bytes) (maxL := maxL) (ret := ret) hM hp.1 hrc hrs hfr hlo hws hcw (fun a' U hW => word_at hW (Or.inl (by first | rfl | simp [Cond.onTables, Cond.keeps, Cond.steady])) hini)
  obtain ⟨hx, hb, hml, ho, -⟩ := S
  obtain ⟨-, ⟨cellB, hcB, hoB, hclB⟩, hPc⟩ := hp
  intro T hT X
  obtain ⟨v, vm₁, ⟨U', l2, c2, s2⟩, hW₁, X', ⟨g', mk, t, L, e1, e2, hq, h1, hL, h2, h3⟩, st⟩ := vx_callVW X hx (C := C) (hh := hh) (bytes := bytes) (maxL := maxL) (ret := ret) ho hl hin hse hcode hy hK (by rw [hT]; exact hcB) hoB hclB hg (hsize.trans hml.symm) (argsL := As) (rest := rest) (fun sig h => hn.trans (hlen sig h)) hstack hW (by rw [hb]; exact hdg)
    (fun vm₁ hW₁ => ⟨hf.1, hf.2, hPc (T.setVm vm₁) hT hW₁⟩)
  dsimp only [Pt.U, Pt.locs, Pt.cells, Pt.slots] at X' e1 e2 h1 h2 h3 st
  subst h1; subst h2; subst h3
  exact ⟨v, (T.setVm vm₁).calling g' mk (Value.ref b :: As).toArray, t, U', L, hT, X', hL, e1, e2, hq, st⟩
section
variable {y : MethodName} {bytes cc : ByteArray} {maxL nL mc ms n index : Nat} {ret : Option FieldType} {ws : List Cond} {rm : Room} {Pc : Array Value → State → Prop} {Qc : Array Value → State → Outcome → State → Prop} {XC : String → State → State → Prop} {free : Addr → Prop} {Ts : List Cond} {own C : String} {b : Addr} {As rest : List Value} {g : JFrame}
theorem vx_runVX {hh : List (Nat × Nat × Nat × Nat)} (S : CallFix p m c cc nL s args Ts own) (hM : vx_Met l y ws rm Pc Qc XC mc ms free) (cw : vx_CVW R s args own C index y bytes maxL ret hh ws rm mc ms n) (hp : PreV s H C b Pc As)
    (hg : g.method = m) (hn : As.length = n) (hsize : g.locals.size = nL) (hstack : g.stack = As.reverse ++ .ref b :: rest) (hW : 2 * g.monitorRoom + (rest.map fun v => v.category).sum ≤ 8) (hdg : decode cc g.pc = .ok (.invokevirtual index, 3)) (hf : cells + mc ≤ R.cells ∧ slots + ms ≤ R.slots) :
    vx_Run p l e R s m args below meth c H locs cells slots mc ms g rest (Qc (Value.ref b :: As).toArray) XC free := by
  obtain ⟨⟨hrc, hrs, hfr, hlo, hws, hcw⟩, hcode, hini, hy, hlen, hl, hin, hse⟩ := cw
  have hK : vx_Back l R p e below s args y 3 8 (PreOf R mc ms Pc) (PostOf Qc mc ms free) (vx_Post XC mc ms free) := vx_backW (hh := hh) (bytes := bytes) (maxL := maxL) (ret := ret) hM hp.1 hrc hrs hfr hlo hws hcw (fun a' U hW => word_at hW (Or.inl (by first | rfl | simp [Cond.onTables, Cond.keeps, Cond.steady])) hini)
  obtain ⟨hx, hb, hml, ho, -⟩ := S
  obtain ⟨-, ⟨cellB, hcB, hoB, hclB⟩, hPc⟩ := hp
  intro T hT X
  rcases vx_callVX X hx (C := C) (hh := hh) (bytes := bytes) (maxL := maxL) (ret := ret) ho hl hin hse hcode hy hK (by rw [hT]; exact hcB) hoB hclB hg (hsize.trans hml.symm) (argsL := As) (rest := rest) (fun sig h => hn.trans (hlen sig h)) hstack hW (by rw [hb]; exact hdg)
    (fun vm₁ hW₁ => ⟨hf.1, hf.2, hPc (T.setVm vm₁) hT hW₁⟩) with ⟨v, vm₁, ⟨U', l2, c2, s2⟩, hW₁, X', ⟨g', mk, t, L, e1, e2, hq, h1, hL, h2, h3⟩, st⟩ | ⟨q, vm₁, ⟨U', l2, c2, s2⟩, hW₁, X', ⟨g', mk, t, L, E, ce, e1, e2, hq, hce, hcv, hcl, h1, hL, h2, h3⟩, st⟩
  · dsimp only [Pt.U, Pt.locs, Pt.cells, Pt.slots] at X' e1 e2 h1 h2 h3 st
    subst h1; subst h2; subst h3
    exact Or.inl ⟨v, (T.setVm vm₁).calling g' mk (Value.ref b :: As).toArray, t, U', L, hT, X', hL, e1, e2, hq, st⟩
  · dsimp only [Pt.U, Pt.locs, Pt.cells, Pt.slots] at X' e1 e2 h1 h2 h3 st hcl
    subst h1; subst h2; subst h3
    exact Or.inr ⟨q, (T.setVm vm₁).calling g' mk (Value.ref b :: As).toArray, t, U', L, E, ce, hT, X', hL, e1, e2, hq, hce, hcv, vx_cls hW₁ hcl, st⟩
theorem vx_runSX {hh : List (Nat × Nat × Nat × Nat)} (S : CallFix p m c cc nL s args Ts own) (hM : vx_Met l y ws rm Pc Qc XC mc ms free) (cw : vx_CSW R s args own index y bytes maxL ret hh ws rm mc ms n) (hp : PreS s H Pc As)
    (hg : g.method = m) (hn : As.length = n) (hsize : g.locals.size = nL) (hstack : g.stack = As.reverse ++ rest) (hW : 2 * g.monitorRoom + (rest.map fun v => v.category).sum ≤ 8) (hdg : decode cc g.pc = .ok (.invokestatic index, 3)) (hf : cells + mc ≤ R.cells ∧ slots + ms ≤ R.slots) :
    vx_Run p l e R s m args below meth c H locs cells slots mc ms g rest (Qc As.toArray) XC free := by
  obtain ⟨⟨hrc, hrs, hfr, hlo, hws, hcw⟩, hcode, hini, hy, hlen, hl, hstt⟩ := cw
  have hK : vx_Back l R p e below s args y 3 8 (PreOf R mc ms Pc) (PostOf Qc mc ms free) (vx_Post XC mc ms free) := vx_backW (hh := hh) (bytes := bytes) (maxL := maxL) (ret := ret) hM hp.1 hrc hrs hfr hlo hws hcw (fun a' U hW => word_at hW (Or.inl (by first | rfl | simp [Cond.onTables, Cond.keeps, Cond.steady])) hini)
  obtain ⟨hx, hb, hml, ho, -⟩ := S
  intro T hT X
  rcases vx_callSX X hx (hh := hh) (bytes := bytes) (maxL := maxL) (ret := ret) ho hl hstt hini hcode hy hK hg (hsize.trans hml.symm) (argsL := As) (rest := rest) (fun sig h => hn.trans (hlen sig h)) hstack hW (by rw [hb]; exact hdg)
    (fun vm₁ hW₁ => ⟨hf.1, hf.2, hp.2 (T.setVm vm₁) hT hW₁⟩) with ⟨v, vm₁, ⟨U', l2, c2, s2⟩, hW₁, X', ⟨g', mk, t, L, e1, e2, hq, h1, hL, h2, h3⟩, st⟩ | ⟨q, vm₁, ⟨U', l2, c2, s2⟩, hW₁, X', ⟨g', mk, t, L, E, ce, e1, e2, hq, hce, hcv, hcl, h1, hL, h2, h3⟩, st⟩
  · dsimp only [Pt.U, Pt.locs, Pt.cells, Pt.slots] at X' e1 e2 h1 h2 h3 st
    subst h1; subst h2; subst h3
    exact Or.inl ⟨v, (T.setVm vm₁).calling g' mk As.toArray, t, U', L, hT, X', hL, e1, e2, hq, st⟩
  · dsimp only [Pt.U, Pt.locs, Pt.cells, Pt.slots] at X' e1 e2 h1 h2 h3 st hcl
    subst h1; subst h2; subst h3
    exact Or.inr ⟨q, (T.setVm vm₁).calling g' mk As.toArray, t, U', L, E, ce, hT, X', hL, e1, e2, hq, hce, hcv, vx_cls hW₁ hcl, st⟩
end
end VXH
theorem vx_ofWH {l : Launch} {y : MethodName} {ws ws' : List Cond} {rm : Room} {Pc : Array Value → State → Prop} {Qc : Array Value → State → Outcome → State → Prop} {XC : String → State → State → Prop} {mc ms : Nat} {free : Addr → Prop} {cc : ByteArray} {maxL : Nat} {ret : Option FieldType} {hh : List (Nat × Nat × Nat × Nat)}
    (hy : plainName y.cls = true) (hw : ws = Cond.codeWith y cc maxL ret hh :: ws')
    (body : ∀ p e s m args below meth c s₁, BodyLoose p l y (headSpec ws rm) cc maxL ret e s m args below meth c s₁ → c.maxLocals = maxL → Pc args s →
      W p l e (headSpec ws rm).room s m args below meth c s.heap [] 0 0 (vx_MQ below Qc XC args s mc ms free) (entryFrame m args maxL)) : vx_Met l y ws rm Pc Qc XC mc ms free := by
  refine MetFree.of_bodyS (code := cc) (maxLocals := maxL) (ret := ret) hy ?_ ?_
  · intro args s m h hn
    obtain ⟨m9, meth, c, hn9, h1, h2, h3, h4, -, h5, h6, -⟩ := Cond.codeWith_spec (atoms_spec (ws := ws) h _ (by rw [hw]; exact List.mem_cons_self))
    cases hn.symm.trans hn9
    exact ⟨meth, c, h1, h2, h3, h4, h5, h6⟩
  · intro p e s m args below meth c s₁ B hml hP _
    have hh0 : s₁.heap = s.heap := by rw [B.state]; rfl
    obtain ⟨t, a1, o, b1, b2, b3⟩ := body p e s m args below meth c s₁ B hml hP s₁ hh0 (Stand.of_body B)
    exact ⟨t, o, a1, b1, b2, b3⟩
/-! ===== END ===== -/
end
section
/-! ===== BEGIN printed: names, fields, word lists, decode rows ===== -/
def RX0 : String := "ArmRoom$Arm"
def TX0 : u_T := fun k => match k with
  | 0 => ("ArmRoom$Arm", "kinds", "[I", true)
  | 1 => ("ArmRoom$Arm", "lengths", "[I", true)
  | 2 => ("ArmRoom$Arm", "lows", "[I", true)
  | 3 => ("ArmRoom$Arm", "highs", "[I", true)
  | 4 => ("ArmRoom$Arm", "values", "[I", true)
  | _ => ("ArmRoom$Arm", "count", "I", false)
def tyX0 : Nat → FieldType := fun k => match k with
  | 0 => .array .int
  | 1 => .array .int
  | 2 => .array .int
  | 3 => .array .int
  | 4 => .array .int
  | _ => .int
abbrev wsX00 : List Cond := u_ws RX0 TX0 6
theorem nmX0 : ∀ a, a < 6 → ∀ b, b < 6 → a ≠ b → (TX0 a).2.1 ≠ (TX0 b).2.1 := by decide +kernel
theorem tyX0_ok : ∀ k, k < 6 → parseFieldDescriptor (TX0 k).2.2.1 = some (tyX0 k) := by decide +kernel
abbrev cX0_init : ByteArray := prog_2_method_1_code
def yX0_init : MethodName := ⟨RX0, "<init>", "()V"⟩
abbrev cX0_isFull : ByteArray := prog_2_method_2_code
def yX0_isFull : MethodName := ⟨RX0, "isFull", "()Z"⟩
abbrev cX0_add : ByteArray := prog_2_method_3_code
def yX0_add : MethodName := ⟨RX0, "add", "(IIII)I"⟩
abbrev cX0_held : ByteArray := prog_2_method_4_code
def yX0_held : MethodName := ⟨RX0, "held", "(II)I"⟩
abbrev cX0_turnOf : ByteArray := prog_2_method_5_code
def yX0_turnOf : MethodName := ⟨RX0, "turnOf", "(II)I"⟩
abbrev cX0_distanceOf : ByteArray := prog_2_method_6_code
def yX0_distanceOf : MethodName := ⟨RX0, "distanceOf", "(II)I"⟩
abbrev cX0_headingAt : ByteArray := prog_2_method_7_code
def yX0_headingAt : MethodName := ⟨RX0, "headingAt", "(I)I"⟩
abbrev cX0_countPoses : ByteArray := prog_2_method_8_code
def yX0_countPoses : MethodName := ⟨RX0, "countPoses", "()J"⟩
def RX1 : String := "ArmRoom$Goal"
def TX1 : u_T := fun k => match k with
  | 0 => ("ArmRoom$Goal", "x", "I", false)
  | 1 => ("ArmRoom$Goal", "y", "I", false)
  | _ => ("ArmRoom$Goal", "slack", "I", false)
def tyX1 : Nat → FieldType := fun k => match k with
  | 0 => .int
  | 1 => .int
  | _ => .int
abbrev wsX10 : List Cond := u_ws RX1 TX1 3
theorem nmX1 : ∀ a, a < 3 → ∀ b, b < 3 → a ≠ b → (TX1 a).2.1 ≠ (TX1 b).2.1 := by decide +kernel
theorem tyX1_ok : ∀ k, k < 3 → parseFieldDescriptor (TX1 k).2.2.1 = some (tyX1 k) := by decide +kernel
abbrev cX1_init : ByteArray := prog_3_method_1_code
def yX1_init : MethodName := ⟨RX1, "<init>", "()V"⟩
abbrev cX1_farFrom : ByteArray := prog_3_method_2_code
def yX1_farFrom : MethodName := ⟨RX1, "farFrom", "(II)J"⟩
abbrev cX1_isWithin : ByteArray := prog_3_method_3_code
def yX1_isWithin : MethodName := ⟨RX1, "isWithin", "(III)Z"⟩
def RX2 : String := "ArmRoom$Ranking"
def TX2 : u_T := fun k => match k with
  | 0 => ("ArmRoom$Ranking", "keys", "[J", true)
  | 1 => ("ArmRoom$Ranking", "rows", "[I", true)
  | _ => ("ArmRoom$Ranking", "found", "I", false)
def tyX2 : Nat → FieldType := fun k => match k with
  | 0 => .array .long
  | 1 => .array .int
  | _ => .int
abbrev wsX20 : List Cond := u_ws RX2 TX2 3
theorem nmX2 : ∀ a, a < 3 → ∀ b, b < 3 → a ≠ b → (TX2 a).2.1 ≠ (TX2 b).2.1 := by decide +kernel
theorem tyX2_ok : ∀ k, k < 3 → parseFieldDescriptor (TX2 k).2.2.1 = some (tyX2 k) := by decide +kernel
abbrev cX2_init : ByteArray := prog_4_method_1_code
def yX2_init : MethodName := ⟨RX2, "<init>", "()V"⟩
abbrev cX2_clear : ByteArray := prog_4_method_2_code
def yX2_clear : MethodName := ⟨RX2, "clear", "()V"⟩
abbrev cX2_add : ByteArray := prog_4_method_3_code
def yX2_add : MethodName := ⟨RX2, "add", "(J[I)V"⟩
abbrev cX2_moveDown : ByteArray := prog_4_method_4_code
def yX2_moveDown : MethodName := ⟨RX2, "moveDown", "(I)V"⟩
abbrev cX2_valueOf : ByteArray := prog_4_method_5_code
def yX2_valueOf : MethodName := ⟨RX2, "valueOf", "(II)I"⟩
def RX3 : String := "ArmRoom$Search"
def TX3 : u_T := fun k => match k with
  | 0 => ("ArmRoom$Search", "ranking", "LArmRoom$Ranking;", true)
  | 1 => ("ArmRoom$Search", "pose", "[I", true)
  | 2 => ("ArmRoom$Search", "reach", "[I", true)
  | 3 => ("ArmRoom$Search", "xs", "[I", true)
  | 4 => ("ArmRoom$Search", "ys", "[I", true)
  | 5 => ("ArmRoom$Search", "headings", "[I", true)
  | _ => ("ArmRoom$Search", "ways", "[I", true)
def tyX3 : Nat → FieldType := fun k => match k with
  | 0 => .object "ArmRoom$Ranking"
  | 1 => .array .int
  | 2 => .array .int
  | 3 => .array .int
  | 4 => .array .int
  | 5 => .array .int
  | _ => .array .int
abbrev wsX30 : List Cond := u_ws RX3 TX3 7
theorem nmX3 : ∀ a, a < 7 → ∀ b, b < 7 → a ≠ b → (TX3 a).2.1 ≠ (TX3 b).2.1 := by decide +kernel
theorem tyX3_ok : ∀ k, k < 7 → parseFieldDescriptor (TX3 k).2.2.1 = some (tyX3 k) := by decide +kernel
abbrev cX3_init : ByteArray := prog_5_method_1_code
def yX3_init : MethodName := ⟨RX3, "<init>", "()V"⟩
abbrev cX3_run : ByteArray := prog_5_method_2_code
def yX3_run : MethodName := ⟨RX3, "run", "(LArmRoom$Arm;LArmRoom$Goal;I)V"⟩
abbrev cX3_findReach : ByteArray := prog_5_method_3_code
def yX3_findReach : MethodName := ⟨RX3, "findReach", "(LArmRoom$Arm;LArmRoom$Goal;)V"⟩
abbrev cX3_goThrough : ByteArray := prog_5_method_4_code
def yX3_goThrough : MethodName := ⟨RX3, "goThrough", "(LArmRoom$Search;LArmRoom$Arm;LArmRoom$Goal;II)V"⟩
abbrev cX3_lead : ByteArray := prog_5_method_5_code
def yX3_lead : MethodName := ⟨RX3, "lead", "(LArmRoom$Arm;II)V"⟩
abbrev cX3_keyOf : ByteArray := prog_5_method_6_code
def yX3_keyOf : MethodName := ⟨RX3, "keyOf", "(LArmRoom$Arm;LArmRoom$Goal;I)J"⟩
def RX4 : String := "ArmRoom$Tip"
def TX4 : u_T := fun k => match k with
  | 0 => ("ArmRoom$Tip", "x", "I", false)
  | 1 => ("ArmRoom$Tip", "y", "I", false)
  | _ => ("ArmRoom$Tip", "heading", "I", false)
def tyX4 : Nat → FieldType := fun k => match k with
  | 0 => .int
  | 1 => .int
  | _ => .int
abbrev wsX40 : List Cond := u_ws RX4 TX4 3
theorem nmX4 : ∀ a, a < 3 → ∀ b, b < 3 → a ≠ b → (TX4 a).2.1 ≠ (TX4 b).2.1 := by decide +kernel
theorem tyX4_ok : ∀ k, k < 3 → parseFieldDescriptor (TX4 k).2.2.1 = some (tyX4 k) := by decide +kernel
abbrev cX4_init : ByteArray := prog_6_method_1_code
def yX4_init : MethodName := ⟨RX4, "<init>", "()V"⟩
abbrev cX4_start : ByteArray := prog_6_method_2_code
def yX4_start : MethodName := ⟨RX4, "start", "()V"⟩
abbrev cX4_go : ByteArray := prog_6_method_3_code
def yX4_go : MethodName := ⟨RX4, "go", "(II)V"⟩
abbrev cX4_follow : ByteArray := prog_6_method_4_code
def yX4_follow : MethodName := ⟨RX4, "follow", "(LArmRoom$Arm;)V"⟩
abbrev cX4_followWith : ByteArray := prog_6_method_5_code
def yX4_followWith : MethodName := ⟨RX4, "followWith", "(LArmRoom$Arm;II)V"⟩
abbrev cX4_followBack : ByteArray := prog_6_method_6_code
def yX4_followBack : MethodName := ⟨RX4, "followBack", "(LArmRoom$Arm;)V"⟩
abbrev cX4_told : ByteArray := prog_6_method_7_code
def yX4_told : MethodName := ⟨RX4, "told", "(I)I"⟩
def RX5 : String := "ArmRoom"
def TX5 : u_T := fun k => match k with
  | 0 => ("ArmRoom", "arm", "LArmRoom$Arm;", true)
  | 1 => ("ArmRoom", "goal", "LArmRoom$Goal;", true)
  | 2 => ("ArmRoom", "now", "LArmRoom$Tip;", true)
  | 3 => ("ArmRoom", "then", "LArmRoom$Tip;", true)
  | 4 => ("ArmRoom", "search", "LArmRoom$Search;", true)
  | 5 => ("ArmRoom", "movesX", "[I", true)
  | _ => ("ArmRoom", "movesY", "[I", true)
def tyX5 : Nat → FieldType := fun k => match k with
  | 0 => .object "ArmRoom$Arm"
  | 1 => .object "ArmRoom$Goal"
  | 2 => .object "ArmRoom$Tip"
  | 3 => .object "ArmRoom$Tip"
  | 4 => .object "ArmRoom$Search"
  | 5 => .array .int
  | _ => .array .int
abbrev wsX50 : List Cond := u_ws RX5 TX5 7
theorem nmX5 : ∀ a, a < 7 → ∀ b, b < 7 → a ≠ b → (TX5 a).2.1 ≠ (TX5 b).2.1 := by decide +kernel
theorem tyX5_ok : ∀ k, k < 7 → parseFieldDescriptor (TX5 k).2.2.1 = some (tyX5 k) := by decide +kernel
abbrev cX5_init : ByteArray := prog_1_method_1_code
def yX5_init : MethodName := ⟨RX5, "<init>", "()V"⟩
abbrev cX5_joint : ByteArray := prog_1_method_2_code
def yX5_joint : MethodName := ⟨RX5, "joint", "(IIII)I"⟩
abbrev cX5_set : ByteArray := prog_1_method_3_code
def yX5_set : MethodName := ⟨RX5, "set", "(II)I"⟩
abbrev cX5_value : ByteArray := prog_1_method_4_code
def yX5_value : MethodName := ⟨RX5, "value", "(I)I"⟩
abbrev cX5_tip : ByteArray := prog_1_method_5_code
def yX5_tip : MethodName := ⟨RX5, "tip", "(I)I"⟩
abbrev cX5_tipAnew : ByteArray := prog_1_method_6_code
def yX5_tipAnew : MethodName := ⟨RX5, "tipAnew", "(I)I"⟩
abbrev cX5_moves : ByteArray := prog_1_method_7_code
def yX5_moves : MethodName := ⟨RX5, "moves", "(II)I"⟩
abbrev cX5_freedom : ByteArray := prog_1_method_8_code
def yX5_freedom : MethodName := ⟨RX5, "freedom", "()J"⟩
abbrev cX5_goal : ByteArray := prog_1_method_9_code
def yX5_goal : MethodName := ⟨RX5, "goal", "(II)J"⟩
abbrev cX5_far : ByteArray := prog_1_method_10_code
def yX5_far : MethodName := ⟨RX5, "far", "()J"⟩
abbrev cX5_steps : ByteArray := prog_1_method_11_code
def yX5_steps : MethodName := ⟨RX5, "steps", "(I)I"⟩
abbrev cX5_hindrance : ByteArray := prog_1_method_12_code
def yX5_hindrance : MethodName := ⟨RX5, "hindrance", "()I"⟩
abbrev cX5_slack : ByteArray := prog_1_method_13_code
def yX5_slack : MethodName := ⟨RX5, "slack", "(I)I"⟩
abbrev cX5_branches : ByteArray := prog_1_method_14_code
def yX5_branches : MethodName := ⟨RX5, "branches", "()I"⟩
abbrev cX5_branch : ByteArray := prog_1_method_15_code
def yX5_branch : MethodName := ⟨RX5, "branch", "(III)I"⟩
abbrev cX5_take : ByteArray := prog_1_method_16_code
def yX5_take : MethodName := ⟨RX5, "take", "(II)J"⟩
abbrev cX5_checkJoint : ByteArray := prog_1_method_17_code
def yX5_checkJoint : MethodName := ⟨RX5, "checkJoint", "(I)V"⟩
abbrev cX5_checkTold : ByteArray := prog_1_method_18_code
def yX5_checkTold : MethodName := ⟨RX5, "checkTold", "(II)V"⟩
abbrev cX5_farNow : ByteArray := prog_1_method_19_code
def yX5_farNow : MethodName := ⟨RX5, "farNow", "()J"⟩
abbrev cX5_farWith : ByteArray := prog_1_method_20_code
def yX5_farWith : MethodName := ⟨RX5, "farWith", "(II)J"⟩
abbrev cX5_findMoves : ByteArray := prog_1_method_21_code
def yX5_findMoves : MethodName := ⟨RX5, "findMoves", "()V"⟩
abbrev cX5_stepped : ByteArray := prog_1_method_22_code
def yX5_stepped : MethodName := ⟨RX5, "stepped", "(I)Z"⟩
abbrev cX5_findBranch : ByteArray := prog_1_method_23_code
def yX5_findBranch : MethodName := ⟨RX5, "findBranch", "(II)V"⟩
abbrev cX5_sine : ByteArray := prog_1_method_24_code
def yX5_sine : MethodName := ⟨RX5, "sine", "(I)I"⟩
abbrev cX5_cosine : ByteArray := prog_1_method_25_code
def yX5_cosine : MethodName := ⟨RX5, "cosine", "(I)I"⟩
def RX6 : String := "ArmRoomModel"
def TX6 : u_T := fun k => match k with
  | 0 => ("ArmRoomModel", "thrown", "I", false)
  | 1 => ("ArmRoomModel", "joints", "I", false)
  | 2 => ("ArmRoomModel", "kind", "[I", true)
  | 3 => ("ArmRoomModel", "length", "[I", true)
  | 4 => ("ArmRoomModel", "low", "[I", true)
  | 5 => ("ArmRoomModel", "high", "[I", true)
  | 6 => ("ArmRoomModel", "value", "[I", true)
  | 7 => ("ArmRoomModel", "goalX", "I", false)
  | 8 => ("ArmRoomModel", "goalY", "I", false)
  | 9 => ("ArmRoomModel", "slack", "I", false)
  | 10 => ("ArmRoomModel", "pose", "[I", true)
  | 11 => ("ArmRoomModel", "x", "I", false)
  | 12 => ("ArmRoomModel", "y", "I", false)
  | 13 => ("ArmRoomModel", "heading", "I", false)
  | 14 => ("ArmRoomModel", "moveX", "[I", true)
  | 15 => ("ArmRoomModel", "moveY", "[I", true)
  | 16 => ("ArmRoomModel", "found", "I", false)
  | 17 => ("ArmRoomModel", "key", "[J", true)
  | _ => ("ArmRoomModel", "which", "[I", true)
def tyX6 : Nat → FieldType := fun k => match k with
  | 0 => .int
  | 1 => .int
  | 2 => .array .int
  | 3 => .array .int
  | 4 => .array .int
  | 5 => .array .int
  | 6 => .array .int
  | 7 => .int
  | 8 => .int
  | 9 => .int
  | 10 => .array .int
  | 11 => .int
  | 12 => .int
  | 13 => .int
  | 14 => .array .int
  | 15 => .array .int
  | 16 => .int
  | 17 => .array .long
  | _ => .array .int
abbrev wsX60 : List Cond := u_ws RX6 TX6 19
theorem nmX6 : ∀ a, a < 19 → ∀ b, b < 19 → a ≠ b → (TX6 a).2.1 ≠ (TX6 b).2.1 := by decide +kernel
theorem tyX6_ok : ∀ k, k < 19 → parseFieldDescriptor (TX6 k).2.2.1 = some (tyX6 k) := by decide +kernel
abbrev cX6_init : ByteArray := prog_8_method_1_code
def yX6_init : MethodName := ⟨RX6, "<init>", "()V"⟩
abbrev cX6_thrown : ByteArray := prog_8_method_2_code
def yX6_thrown : MethodName := ⟨RX6, "thrown", "()I"⟩
abbrev cX6_in : ByteArray := prog_8_method_3_code
def yX6_in : MethodName := ⟨RX6, "in", "(III)Z"⟩
abbrev cX6_isJoint : ByteArray := prog_8_method_4_code
def yX6_isJoint : MethodName := ⟨RX6, "isJoint", "(I)Z"⟩
abbrev cX6_quarter : ByteArray := prog_8_method_5_code
def yX6_quarter : MethodName := ⟨RX6, "quarter", "(I)I"⟩
abbrev cX6_sine : ByteArray := prog_8_method_6_code
def yX6_sine : MethodName := ⟨RX6, "sine", "(I)I"⟩
abbrev cX6_told : ByteArray := prog_8_method_7_code
def yX6_told : MethodName := ⟨RX6, "told", "(I)I"⟩
abbrev cX6_copiesPose : ByteArray := prog_8_method_8_code
def yX6_copiesPose : MethodName := ⟨RX6, "copiesPose", "()V"⟩
abbrev cX6_looks : ByteArray := prog_8_method_9_code
def yX6_looks : MethodName := ⟨RX6, "looks", "()V"⟩
abbrev cX6_looksNow : ByteArray := prog_8_method_10_code
def yX6_looksNow : MethodName := ⟨RX6, "looksNow", "()V"⟩
abbrev cX6_farness : ByteArray := prog_8_method_11_code
def yX6_farness : MethodName := ⟨RX6, "farness", "()J"⟩
abbrev cX6_farNow : ByteArray := prog_8_method_12_code
def yX6_farNow : MethodName := ⟨RX6, "farNow", "()J"⟩
abbrev cX6_farWith : ByteArray := prog_8_method_13_code
def yX6_farWith : MethodName := ⟨RX6, "farWith", "(II)J"⟩
abbrev cX6_most : ByteArray := prog_8_method_14_code
def yX6_most : MethodName := ⟨RX6, "most", "(I)I"⟩
abbrev cX6_held : ByteArray := prog_8_method_15_code
def yX6_held : MethodName := ⟨RX6, "held", "(III)I"⟩
abbrev cX6_joint : ByteArray := prog_8_method_16_code
def yX6_joint : MethodName := ⟨RX6, "joint", "(IIII)I"⟩
abbrev cX6_set : ByteArray := prog_8_method_17_code
def yX6_set : MethodName := ⟨RX6, "set", "(II)I"⟩
abbrev cX6_value : ByteArray := prog_8_method_18_code
def yX6_value : MethodName := ⟨RX6, "value", "(I)I"⟩
abbrev cX6_tip : ByteArray := prog_8_method_19_code
def yX6_tip : MethodName := ⟨RX6, "tip", "(I)I"⟩
abbrev cX6_tipAnew : ByteArray := prog_8_method_20_code
def yX6_tipAnew : MethodName := ⟨RX6, "tipAnew", "(I)I"⟩
abbrev cX6_findsMoves : ByteArray := prog_8_method_21_code
def yX6_findsMoves : MethodName := ⟨RX6, "findsMoves", "()V"⟩
abbrev cX6_moves : ByteArray := prog_8_method_22_code
def yX6_moves : MethodName := ⟨RX6, "moves", "(II)I"⟩
abbrev cX6_freedom : ByteArray := prog_8_method_23_code
def yX6_freedom : MethodName := ⟨RX6, "freedom", "()J"⟩
abbrev cX6_goal : ByteArray := prog_8_method_24_code
def yX6_goal : MethodName := ⟨RX6, "goal", "(II)J"⟩
abbrev cX6_far : ByteArray := prog_8_method_25_code
def yX6_far : MethodName := ⟨RX6, "far", "()J"⟩
abbrev cX6_goesOn : ByteArray := prog_8_method_26_code
def yX6_goesOn : MethodName := ⟨RX6, "goesOn", "(I)Z"⟩
abbrev cX6_steps : ByteArray := prog_8_method_27_code
def yX6_steps : MethodName := ⟨RX6, "steps", "(I)I"⟩
abbrev cX6_hindrance : ByteArray := prog_8_method_28_code
def yX6_hindrance : MethodName := ⟨RX6, "hindrance", "()I"⟩
abbrev cX6_slack : ByteArray := prog_8_method_29_code
def yX6_slack : MethodName := ⟨RX6, "slack", "(I)I"⟩
abbrev cX6_poses : ByteArray := prog_8_method_30_code
def yX6_poses : MethodName := ⟨RX6, "poses", "()I"⟩
abbrev cX6_makesPose : ByteArray := prog_8_method_31_code
def yX6_makesPose : MethodName := ⟨RX6, "makesPose", "(I)V"⟩
abbrev cX6_size : ByteArray := prog_8_method_32_code
def yX6_size : MethodName := ⟨RX6, "size", "(I)I"⟩
abbrev cX6_keyOf : ByteArray := prog_8_method_33_code
def yX6_keyOf : MethodName := ⟨RX6, "keyOf", "(II)J"⟩
abbrev cX6_ranks : ByteArray := prog_8_method_34_code
def yX6_ranks : MethodName := ⟨RX6, "ranks", "(IJ)V"⟩
abbrev cX6_findsBranches : ByteArray := prog_8_method_35_code
def yX6_findsBranches : MethodName := ⟨RX6, "findsBranches", "(I)V"⟩
abbrev cX6_branches : ByteArray := prog_8_method_36_code
def yX6_branches : MethodName := ⟨RX6, "branches", "()I"⟩
abbrev cX6_findsBranch : ByteArray := prog_8_method_37_code
def yX6_findsBranch : MethodName := ⟨RX6, "findsBranch", "(IIZ)Z"⟩
abbrev cX6_branch : ByteArray := prog_8_method_38_code
def yX6_branch : MethodName := ⟨RX6, "branch", "(III)I"⟩
abbrev cX6_take : ByteArray := prog_8_method_39_code
def yX6_take : MethodName := ⟨RX6, "take", "(II)J"⟩
def RJ9 : String := "java/lang/Math"
def TJ9 : u_T := fun k => match k with
  | _ => ("", "", "", false)
def tyJ9 : Nat → FieldType := fun k => match k with
  | _ => .int
abbrev wsJ90 : List Cond := u_ws RJ9 TJ9 0
theorem nmJ9 : ∀ a, a < 0 → ∀ b, b < 0 → a ≠ b → (TJ9 a).2.1 ≠ (TJ9 b).2.1 := by decide +kernel
theorem tyJ9_ok : ∀ k, k < 0 → parseFieldDescriptor (TJ9 k).2.2.1 = some (tyJ9 k) := by decide +kernel
abbrev cJ9_abs_0f7a4 : ByteArray := prog_13_method_59_code
def yJ9_abs_0f7a4 : MethodName := ⟨RJ9, "abs", "(I)I"⟩
abbrev cJ9_abs_067f4 : ByteArray := prog_13_method_61_code
def yJ9_abs_067f4 : MethodName := ⟨RJ9, "abs", "(J)J"⟩
abbrev cJ9_max_7cf53 : ByteArray := prog_13_method_65_code
def yJ9_max_7cf53 : MethodName := ⟨RJ9, "max", "(II)I"⟩
abbrev cJ9_max_f86c9 : ByteArray := prog_13_method_66_code
def yJ9_max_f86c9 : MethodName := ⟨RJ9, "max", "(JJ)J"⟩
abbrev cJ9_min_7cf53 : ByteArray := prog_13_method_69_code
def yJ9_min_7cf53 : MethodName := ⟨RJ9, "min", "(II)I"⟩
def RJ0 : String := "java/lang/String"
def TJ0 : u_T := fun k => match k with
  | _ => ("", "", "", false)
def tyJ0 : Nat → FieldType := fun k => match k with
  | _ => .int
abbrev wsJ00 : List Cond := u_ws RJ0 TJ0 0
theorem nmJ0 : ∀ a, a < 0 → ∀ b, b < 0 → a ≠ b → (TJ0 a).2.1 ≠ (TJ0 b).2.1 := by decide +kernel
theorem tyJ0_ok : ∀ k, k < 0 → parseFieldDescriptor (TJ0 k).2.2.1 = some (tyJ0 k) := by decide +kernel
def RJ10 : String := "java/lang/System"
def TJ10 : u_T := fun k => match k with
  | _ => ("", "", "", false)
def tyJ10 : Nat → FieldType := fun k => match k with
  | _ => .int
abbrev wsJ100 : List Cond := u_ws RJ10 TJ10 0
theorem nmJ10 : ∀ a, a < 0 → ∀ b, b < 0 → a ≠ b → (TJ10 a).2.1 ≠ (TJ10 b).2.1 := by decide +kernel
theorem tyJ10_ok : ∀ k, k < 0 → parseFieldDescriptor (TJ10 k).2.2.1 = some (tyJ10 k) := by decide +kernel
def RL : String := "ArmRoomLaw"
abbrev cL_joint : ByteArray := method_3_code
def yL_joint : MethodName := ⟨RL, "joint", "(LArmRoom;IIII[J)I"⟩
abbrev cL_set : ByteArray := method_4_code
def yL_set : MethodName := ⟨RL, "set", "(LArmRoom;II[J)I"⟩
abbrev cL_value : ByteArray := method_5_code
def yL_value : MethodName := ⟨RL, "value", "(LArmRoom;I[J)I"⟩
abbrev cL_tip : ByteArray := method_6_code
def yL_tip : MethodName := ⟨RL, "tip", "(LArmRoom;I[J)I"⟩
abbrev cL_tipAnew : ByteArray := method_7_code
def yL_tipAnew : MethodName := ⟨RL, "tipAnew", "(LArmRoom;I[J)I"⟩
abbrev cL_moves : ByteArray := method_8_code
def yL_moves : MethodName := ⟨RL, "moves", "(LArmRoom;II[J)I"⟩
abbrev cL_goal : ByteArray := method_9_code
def yL_goal : MethodName := ⟨RL, "goal", "(LArmRoom;II[J)I"⟩
abbrev cL_steps : ByteArray := method_10_code
def yL_steps : MethodName := ⟨RL, "steps", "(LArmRoom;I[J)I"⟩
abbrev cL_slack : ByteArray := method_11_code
def yL_slack : MethodName := ⟨RL, "slack", "(LArmRoom;I[J)I"⟩
abbrev cL_branches : ByteArray := method_12_code
def yL_branches : MethodName := ⟨RL, "branches", "(LArmRoom;[J)I"⟩
abbrev cL_branch : ByteArray := method_13_code
def yL_branch : MethodName := ⟨RL, "branch", "(LArmRoom;III[J)I"⟩
abbrev cL_take : ByteArray := method_14_code
def yL_take : MethodName := ⟨RL, "take", "(LArmRoom;II[J)I"⟩
abbrev cL_law : ByteArray := code
def yL_law : MethodName := ⟨RL, "law", "([I)Z"⟩
def wsX0_init : List Cond := .code yX0_init cX0_init 1 none :: ([.methodLink RX0 3 objectInit, .instanceMethod objectInit, .code objectInit ⟨#[0xb1]⟩ 1 none, .arrayClass .int, .fieldLink RX0 9 "ArmRoom$Arm" "kinds" "[I", .fieldLink RX0 15 "ArmRoom$Arm" "lengths" "[I", .fieldLink RX0 18 "ArmRoom$Arm" "lows" "[I", .fieldLink RX0 21 "ArmRoom$Arm" "highs" "[I", .fieldLink RX0 24 "ArmRoom$Arm" "values" "[I"] ++ wsX00)
def wsX0_isFull : List Cond := .code yX0_isFull cX0_isFull 1 (some .boolean) :: ([.fieldLink RX0 27 "ArmRoom$Arm" "count" "I"] ++ wsX00)
def wsX0_held : List Cond := .code yX0_held cX0_held 3 (some .int) :: ([.fieldLink RX0 18 "ArmRoom$Arm" "lows" "[I", .fieldLink RX0 21 "ArmRoom$Arm" "highs" "[I", .methodLink RX0 35 Lib.Math.min.name, .static Lib.Math.min.name, .initialized "java/lang/Math", .code Lib.Math.min.name Lib.Math.min.code 2 (some .int), .methodLink RX0 40 Lib.Math.max.name, .static Lib.Math.max.name, .code Lib.Math.max.name Lib.Math.max.code 2 (some .int)] ++ wsX00)
def wsX0_add : List Cond := .code yX0_add cX0_add 6 (some .int) :: ([.fieldLink RX0 27 "ArmRoom$Arm" "count" "I", .fieldLink RX0 9 "ArmRoom$Arm" "kinds" "[I", .fieldLink RX0 15 "ArmRoom$Arm" "lengths" "[I", .fieldLink RX0 18 "ArmRoom$Arm" "lows" "[I", .fieldLink RX0 21 "ArmRoom$Arm" "highs" "[I", .fieldLink RX0 24 "ArmRoom$Arm" "values" "[I", .methodLink RX0 31 yX0_held, .instanceMethod yX0_held, .selects RX0 yX0_held yX0_held, .initialized RX0, .code yX0_held cX0_held 3 (some .int), .methodLink RX0 35 Lib.Math.min.name, .static Lib.Math.min.name, .initialized "java/lang/Math", .code Lib.Math.min.name Lib.Math.min.code 2 (some .int), .methodLink RX0 40 Lib.Math.max.name, .static Lib.Math.max.name, .code Lib.Math.max.name Lib.Math.max.code 2 (some .int)] ++ wsX00)
def wsX0_turnOf : List Cond := .code yX0_turnOf cX0_turnOf 3 (some .int) :: ([.fieldLink RX0 9 "ArmRoom$Arm" "kinds" "[I"] ++ wsX00)
def wsX0_distanceOf : List Cond := .code yX0_distanceOf cX0_distanceOf 3 (some .int) :: ([.fieldLink RX0 9 "ArmRoom$Arm" "kinds" "[I", .fieldLink RX0 15 "ArmRoom$Arm" "lengths" "[I"] ++ wsX00)
def wsX0_headingAt : List Cond := .code yX0_headingAt cX0_headingAt 4 (some .int) :: ([.fieldLink RX0 24 "ArmRoom$Arm" "values" "[I", .methodLink RX0 43 yX0_turnOf, .instanceMethod yX0_turnOf, .selects RX0 yX0_turnOf yX0_turnOf, .initialized RX0, .code yX0_turnOf cX0_turnOf 3 (some .int), .fieldLink RX0 9 "ArmRoom$Arm" "kinds" "[I"] ++ wsX00)
def wsX0_countPoses : List Cond := .code yX0_countPoses cX0_countPoses 4 (some .long) :: ([.fieldLink RX0 27 "ArmRoom$Arm" "count" "I", .fieldLink RX0 21 "ArmRoom$Arm" "highs" "[I", .fieldLink RX0 18 "ArmRoom$Arm" "lows" "[I"] ++ wsX00)
def wsX1_init : List Cond := .code yX1_init cX1_init 1 none :: ([.methodLink RX1 3 objectInit, .instanceMethod objectInit, .code objectInit ⟨#[0xb1]⟩ 1 none, .fieldLink RX1 9 "ArmRoom$Goal" "slack" "I"] ++ wsX10)
def wsX1_farFrom : List Cond := .code yX1_farFrom cX1_farFrom 7 (some .long) :: ([.fieldLink RX1 15 "ArmRoom$Goal" "x" "I", .fieldLink RX1 18 "ArmRoom$Goal" "y" "I"] ++ wsX10)
def wsX1_isWithin : List Cond := .code yX1_isWithin cX1_isWithin 4 (some .boolean) :: ([.fieldLink RX1 15 "ArmRoom$Goal" "x" "I", .methodLink RX1 21 Lib.Math.abs.name, .static Lib.Math.abs.name, .initialized "java/lang/Math", .code Lib.Math.abs.name Lib.Math.abs.code 1 (some .int), .fieldLink RX1 18 "ArmRoom$Goal" "y" "I"] ++ wsX10)
def wsX2_init : List Cond := .code yX2_init cX2_init 1 none :: ([.methodLink RX2 3 objectInit, .instanceMethod objectInit, .code objectInit ⟨#[0xb1]⟩ 1 none, .arrayClass .long, .fieldLink RX2 9 "ArmRoom$Ranking" "keys" "[J", .arrayClass .int, .fieldLink RX2 15 "ArmRoom$Ranking" "rows" "[I"] ++ wsX20)
def wsX2_clear : List Cond := .code yX2_clear cX2_clear 1 none :: ([.fieldLink RX2 19 "ArmRoom$Ranking" "found" "I"] ++ wsX20)
def wsX2_moveDown : List Cond := .code yX2_moveDown cX2_moveDown 2 none :: ([.fieldLink RX2 9 "ArmRoom$Ranking" "keys" "[J", .fieldLink RX2 15 "ArmRoom$Ranking" "rows" "[I", .methodLink RX2 33 arraycopyName, .native arraycopyName, .static arraycopyName, .initialized "java/lang/System"] ++ wsX20)
def wsX2_add : List Cond := .code yX2_add cX2_add 5 none :: ([.fieldLink RX2 19 "ArmRoom$Ranking" "found" "I", .methodLink RX2 23 Lib.Math.min.name, .static Lib.Math.min.name, .initialized "java/lang/Math", .code Lib.Math.min.name Lib.Math.min.code 2 (some .int), .fieldLink RX2 9 "ArmRoom$Ranking" "keys" "[J", .fieldLink RX2 15 "ArmRoom$Ranking" "rows" "[I", .methodLink RX2 33 arraycopyName, .native arraycopyName, .static arraycopyName, .initialized "java/lang/System", .methodLink RX2 29 yX2_moveDown, .instanceMethod yX2_moveDown, .selects RX2 yX2_moveDown yX2_moveDown, .initialized RX2, .code yX2_moveDown cX2_moveDown 2 none] ++ wsX20)
def wsX2_valueOf : List Cond := .code yX2_valueOf cX2_valueOf 3 (some .int) :: ([.fieldLink RX2 15 "ArmRoom$Ranking" "rows" "[I"] ++ wsX20)
def wsX3_init : List Cond := .code yX3_init cX3_init 1 none :: ([.methodLink RX3 3 objectInit, .instanceMethod objectInit, .code objectInit ⟨#[0xb1]⟩ 1 none, .classLink RX3 9 RX2, .instantiable RX2 3, .initialized RX2, .fieldLink RX3 12 "ArmRoom$Search" "ranking" "LArmRoom$Ranking;", .arrayClass .int, .fieldLink RX3 18 "ArmRoom$Search" "pose" "[I", .fieldLink RX3 22 "ArmRoom$Search" "reach" "[I", .fieldLink RX3 25 "ArmRoom$Search" "xs" "[I", .fieldLink RX3 28 "ArmRoom$Search" "ys" "[I", .fieldLink RX3 31 "ArmRoom$Search" "headings" "[I", .fieldLink RX3 34 "ArmRoom$Search" "ways" "[I", .instanceMethod yX2_init, .code yX2_init cX2_init 1 none, .methodLink RX2 3 objectInit, .arrayClass .long, .fieldLink RX2 9 "ArmRoom$Ranking" "keys" "[J", .fieldLink RX2 15 "ArmRoom$Ranking" "rows" "[I"] ++ wsX20 ++ wsX30)
def wsX3_findReach : List Cond := .code yX3_findReach cX3_findReach 4 none :: ([.fieldLink RX3 22 "ArmRoom$Search" "reach" "[I", .instanceMethod yX0_distanceOf, .initialized RX0, .selects RX0 yX0_distanceOf yX0_distanceOf, .code yX0_distanceOf cX0_distanceOf 3 (some .int), .fieldLink RX0 9 "ArmRoom$Arm" "kinds" "[I", .fieldLink RX0 15 "ArmRoom$Arm" "lengths" "[I"] ++ wsX30 ++ wsX00 ++ wsX10)
def wsX3_keyOf : List Cond := .code yX3_keyOf cX3_keyOf 6 (some .long) :: ([.fieldLink RX3 25 "ArmRoom$Search" "xs" "[I", .fieldLink RX3 28 "ArmRoom$Search" "ys" "[I", .fieldLink RX3 34 "ArmRoom$Search" "ways" "[I", .fieldLink RX3 31 "ArmRoom$Search" "headings" "[I", .methodLink RX3 110 Lib.Math.min.name, .static Lib.Math.min.name, .initialized "java/lang/Math", .code Lib.Math.min.name Lib.Math.min.code 2 (some .int), .instanceMethod yX1_farFrom, .initialized RX1, .selects RX1 yX1_farFrom yX1_farFrom, .code yX1_farFrom cX1_farFrom 7 (some .long), .fieldLink RX1 15 "ArmRoom$Goal" "x" "I", .fieldLink RX1 18 "ArmRoom$Goal" "y" "I", .instanceMethod yX0_headingAt, .initialized RX0, .selects RX0 yX0_headingAt yX0_headingAt, .code yX0_headingAt cX0_headingAt 4 (some .int), .fieldLink RX0 24 "ArmRoom$Arm" "values" "[I", .methodLink RX0 43 yX0_turnOf, .instanceMethod yX0_turnOf, .selects RX0 yX0_turnOf yX0_turnOf, .code yX0_turnOf cX0_turnOf 3 (some .int), .fieldLink RX0 9 "ArmRoom$Arm" "kinds" "[I"] ++ wsX00 ++ wsX30 ++ wsX10)
def wsX5_sine : List Cond := .code yX5_sine cX5_sine 3 (some .int) :: ([.fieldLink RX5 199 "ArmRoom" "SINES" "[I"])
def wsX5_cosine : List Cond := .code yX5_cosine cX5_cosine 1 (some .int) :: ([.methodLink RX5 202 yX5_sine, .static yX5_sine, .initialized RX5, .code yX5_sine cX5_sine 3 (some .int), .fieldLink RX5 199 "ArmRoom" "SINES" "[I"])
def wsX3_lead_r1 : List Cond := [Cond.fieldLink RX3 31 "ArmRoom$Search" "headings" "[I", Cond.fieldLink RX3 18 "ArmRoom$Search" "pose" "[I", Cond.fieldLink RX3 25 "ArmRoom$Search" "xs" "[I", Cond.fieldLink RX3 28 "ArmRoom$Search" "ys" "[I", Cond.fieldLink RX3 34 "ArmRoom$Search" "ways" "[I", Cond.methodLink RX3 98 Lib.Math.abs.name, Cond.static Lib.Math.abs.name, Cond.initialized "java/lang/Math", Cond.code Lib.Math.abs.name Lib.Math.abs.code 1 (some .int), Cond.instanceMethod yX0_turnOf, Cond.initialized RX0, Cond.selects RX0 yX0_turnOf yX0_turnOf, Cond.code yX0_turnOf cX0_turnOf 3 (some .int), Cond.fieldLink RX0 9 "ArmRoom$Arm" "kinds" "[I", Cond.instanceMethod yX0_distanceOf, Cond.selects RX0 yX0_distanceOf yX0_distanceOf, Cond.code yX0_distanceOf cX0_distanceOf 3 (some .int), Cond.fieldLink RX0 15 "ArmRoom$Arm" "lengths" "[I", Cond.static yX5_cosine, Cond.initialized RX5, Cond.code yX5_cosine cX5_cosine 1 (some .int), Cond.methodLink RX5 202 yX5_sine, Cond.static yX5_sine, Cond.code yX5_sine cX5_sine 3 (some .int)]
def wsX3_lead_r2 : List Cond := [Cond.fieldLink RX5 199 "ArmRoom" "SINES" "[I"]
def wsX3_lead : List Cond := .code yX3_lead cX3_lead 6 none :: ((wsX3_lead_r1 ++ wsX3_lead_r2) ++ wsX30 ++ wsX00)
def wsX3_goThrough_r1 : List Cond := [Cond.fieldLink RX3 22 "ArmRoom$Search" "reach" "[I", Cond.fieldLink RX3 25 "ArmRoom$Search" "xs" "[I", Cond.fieldLink RX3 28 "ArmRoom$Search" "ys" "[I", Cond.fieldLink RX3 12 "ArmRoom$Search" "ranking" "LArmRoom$Ranking;", Cond.fieldLink RX3 18 "ArmRoom$Search" "pose" "[I", Cond.instanceMethod yX1_isWithin, Cond.initialized RX1, Cond.selects RX1 yX1_isWithin yX1_isWithin, Cond.code yX1_isWithin cX1_isWithin 4 (some .boolean), Cond.fieldLink RX1 15 "ArmRoom$Goal" "x" "I", Cond.methodLink RX1 21 Lib.Math.abs.name, Cond.static Lib.Math.abs.name, Cond.initialized "java/lang/Math", Cond.code Lib.Math.abs.name Lib.Math.abs.code 1 (some .int), Cond.fieldLink RX1 18 "ArmRoom$Goal" "y" "I", Cond.methodLink RX3 70 yX3_keyOf, Cond.instanceMethod yX3_keyOf, Cond.selects RX3 yX3_keyOf yX3_keyOf, Cond.initialized RX3, Cond.code yX3_keyOf cX3_keyOf 6 (some .long), Cond.fieldLink RX3 34 "ArmRoom$Search" "ways" "[I", Cond.fieldLink RX3 31 "ArmRoom$Search" "headings" "[I", Cond.methodLink RX3 110 Lib.Math.min.name, Cond.static Lib.Math.min.name]
def wsX3_goThrough_r2 : List Cond := [Cond.code Lib.Math.min.name Lib.Math.min.code 2 (some .int), Cond.instanceMethod yX1_farFrom, Cond.selects RX1 yX1_farFrom yX1_farFrom, Cond.code yX1_farFrom cX1_farFrom 7 (some .long), Cond.instanceMethod yX0_headingAt, Cond.initialized RX0, Cond.selects RX0 yX0_headingAt yX0_headingAt, Cond.code yX0_headingAt cX0_headingAt 4 (some .int), Cond.fieldLink RX0 24 "ArmRoom$Arm" "values" "[I", Cond.methodLink RX0 43 yX0_turnOf, Cond.instanceMethod yX0_turnOf, Cond.selects RX0 yX0_turnOf yX0_turnOf, Cond.code yX0_turnOf cX0_turnOf 3 (some .int), Cond.fieldLink RX0 9 "ArmRoom$Arm" "kinds" "[I", Cond.instanceMethod yX2_add, Cond.initialized RX2, Cond.selects RX2 yX2_add yX2_add, Cond.code yX2_add cX2_add 5 none, Cond.fieldLink RX2 19 "ArmRoom$Ranking" "found" "I", Cond.methodLink RX2 23 Lib.Math.min.name, Cond.fieldLink RX2 9 "ArmRoom$Ranking" "keys" "[J", Cond.fieldLink RX2 15 "ArmRoom$Ranking" "rows" "[I", Cond.methodLink RX2 33 arraycopyName, Cond.native arraycopyName]
def wsX3_goThrough_r3 : List Cond := [Cond.static arraycopyName, Cond.initialized "java/lang/System", Cond.methodLink RX2 29 yX2_moveDown, Cond.instanceMethod yX2_moveDown, Cond.selects RX2 yX2_moveDown yX2_moveDown, Cond.code yX2_moveDown cX2_moveDown 2 none, Cond.methodLink RX3 81 yX3_lead, Cond.instanceMethod yX3_lead, Cond.selects RX3 yX3_lead yX3_lead, Cond.code yX3_lead cX3_lead 6 none, Cond.methodLink RX3 98 Lib.Math.abs.name, Cond.instanceMethod yX0_distanceOf, Cond.selects RX0 yX0_distanceOf yX0_distanceOf, Cond.code yX0_distanceOf cX0_distanceOf 3 (some .int), Cond.fieldLink RX0 15 "ArmRoom$Arm" "lengths" "[I", Cond.static yX5_cosine, Cond.initialized RX5, Cond.code yX5_cosine cX5_cosine 1 (some .int), Cond.methodLink RX5 202 yX5_sine, Cond.static yX5_sine, Cond.code yX5_sine cX5_sine 3 (some .int), Cond.fieldLink RX5 199 "ArmRoom" "SINES" "[I", Cond.methodLink RX3 50 yX3_goThrough, Cond.static yX3_goThrough]
def wsX3_goThrough : List Cond := .code yX3_goThrough cX3_goThrough 6 none :: ((wsX3_goThrough_r1 ++ (wsX3_goThrough_r2 ++ wsX3_goThrough_r3)) ++ wsX00 ++ wsX30 ++ wsX10 ++ wsX20)
def wsX3_run_r1 : List Cond := [Cond.fieldLink RX3 12 "ArmRoom$Search" "ranking" "LArmRoom$Ranking;", Cond.instanceMethod yX2_clear, Cond.initialized RX2, Cond.selects RX2 yX2_clear yX2_clear, Cond.code yX2_clear cX2_clear 1 none, Cond.fieldLink RX2 19 "ArmRoom$Ranking" "found" "I", Cond.methodLink RX3 40 yX3_findReach, Cond.instanceMethod yX3_findReach, Cond.selects RX3 yX3_findReach yX3_findReach, Cond.initialized RX3, Cond.code yX3_findReach cX3_findReach 4 none, Cond.fieldLink RX3 22 "ArmRoom$Search" "reach" "[I", Cond.instanceMethod yX0_distanceOf, Cond.initialized RX0, Cond.selects RX0 yX0_distanceOf yX0_distanceOf, Cond.code yX0_distanceOf cX0_distanceOf 3 (some .int), Cond.fieldLink RX0 9 "ArmRoom$Arm" "kinds" "[I", Cond.fieldLink RX0 15 "ArmRoom$Arm" "lengths" "[I", Cond.methodLink RX3 50 yX3_goThrough, Cond.static yX3_goThrough, Cond.code yX3_goThrough cX3_goThrough 6 none, Cond.fieldLink RX3 25 "ArmRoom$Search" "xs" "[I", Cond.fieldLink RX3 28 "ArmRoom$Search" "ys" "[I", Cond.fieldLink RX3 18 "ArmRoom$Search" "pose" "[I"]
def wsX3_run_r2 : List Cond := [Cond.instanceMethod yX1_isWithin, Cond.initialized RX1, Cond.selects RX1 yX1_isWithin yX1_isWithin, Cond.code yX1_isWithin cX1_isWithin 4 (some .boolean), Cond.fieldLink RX1 15 "ArmRoom$Goal" "x" "I", Cond.methodLink RX1 21 Lib.Math.abs.name, Cond.static Lib.Math.abs.name, Cond.initialized "java/lang/Math", Cond.code Lib.Math.abs.name Lib.Math.abs.code 1 (some .int), Cond.fieldLink RX1 18 "ArmRoom$Goal" "y" "I", Cond.methodLink RX3 70 yX3_keyOf, Cond.instanceMethod yX3_keyOf, Cond.selects RX3 yX3_keyOf yX3_keyOf, Cond.code yX3_keyOf cX3_keyOf 6 (some .long), Cond.fieldLink RX3 34 "ArmRoom$Search" "ways" "[I", Cond.fieldLink RX3 31 "ArmRoom$Search" "headings" "[I", Cond.methodLink RX3 110 Lib.Math.min.name, Cond.static Lib.Math.min.name, Cond.code Lib.Math.min.name Lib.Math.min.code 2 (some .int), Cond.instanceMethod yX1_farFrom, Cond.selects RX1 yX1_farFrom yX1_farFrom, Cond.code yX1_farFrom cX1_farFrom 7 (some .long), Cond.instanceMethod yX0_headingAt, Cond.selects RX0 yX0_headingAt yX0_headingAt]
def wsX3_run_r3 : List Cond := [Cond.code yX0_headingAt cX0_headingAt 4 (some .int), Cond.fieldLink RX0 24 "ArmRoom$Arm" "values" "[I", Cond.methodLink RX0 43 yX0_turnOf, Cond.instanceMethod yX0_turnOf, Cond.selects RX0 yX0_turnOf yX0_turnOf, Cond.code yX0_turnOf cX0_turnOf 3 (some .int), Cond.instanceMethod yX2_add, Cond.selects RX2 yX2_add yX2_add, Cond.code yX2_add cX2_add 5 none, Cond.methodLink RX2 23 Lib.Math.min.name, Cond.fieldLink RX2 9 "ArmRoom$Ranking" "keys" "[J", Cond.fieldLink RX2 15 "ArmRoom$Ranking" "rows" "[I", Cond.methodLink RX2 33 arraycopyName, Cond.native arraycopyName, Cond.static arraycopyName, Cond.initialized "java/lang/System", Cond.methodLink RX2 29 yX2_moveDown, Cond.instanceMethod yX2_moveDown, Cond.selects RX2 yX2_moveDown yX2_moveDown, Cond.code yX2_moveDown cX2_moveDown 2 none, Cond.methodLink RX3 81 yX3_lead, Cond.instanceMethod yX3_lead, Cond.selects RX3 yX3_lead yX3_lead, Cond.code yX3_lead cX3_lead 6 none]
def wsX3_run_r4 : List Cond := [Cond.methodLink RX3 98 Lib.Math.abs.name, Cond.static yX5_cosine, Cond.initialized RX5, Cond.code yX5_cosine cX5_cosine 1 (some .int), Cond.methodLink RX5 202 yX5_sine, Cond.static yX5_sine, Cond.code yX5_sine cX5_sine 3 (some .int), Cond.fieldLink RX5 199 "ArmRoom" "SINES" "[I"]
def wsX3_run : List Cond := .code yX3_run cX3_run 4 none :: ((wsX3_run_r1 ++ (wsX3_run_r2 ++ (wsX3_run_r3 ++ wsX3_run_r4))) ++ wsX30 ++ wsX00 ++ wsX20 ++ wsX10)
def wsX4_init : List Cond := .code yX4_init cX4_init 1 none :: ([.methodLink RX4 3 objectInit, .instanceMethod objectInit, .code objectInit ⟨#[0xb1]⟩ 1 none])
def wsX4_start : List Cond := .code yX4_start cX4_start 1 none :: ([.fieldLink RX4 9 "ArmRoom$Tip" "x" "I", .fieldLink RX4 15 "ArmRoom$Tip" "y" "I", .fieldLink RX4 18 "ArmRoom$Tip" "heading" "I"] ++ wsX40)
def wsX4_go : List Cond := .code yX4_go cX4_go 3 none :: ([.fieldLink RX4 9 "ArmRoom$Tip" "x" "I", .fieldLink RX4 15 "ArmRoom$Tip" "y" "I", .static yX5_cosine, .initialized RX5, .code yX5_cosine cX5_cosine 1 (some .int), .methodLink RX5 202 yX5_sine, .static yX5_sine, .code yX5_sine cX5_sine 3 (some .int), .fieldLink RX5 199 "ArmRoom" "SINES" "[I"] ++ wsX40)
def wsX4_followWith_r1 : List Cond := [Cond.fieldLink RX4 18 "ArmRoom$Tip" "heading" "I", Cond.methodLink RX4 32 yX4_start, Cond.instanceMethod yX4_start, Cond.selects RX4 yX4_start yX4_start, Cond.initialized RX4, Cond.code yX4_start cX4_start 1 none, Cond.fieldLink RX4 9 "ArmRoom$Tip" "x" "I", Cond.fieldLink RX4 15 "ArmRoom$Tip" "y" "I", Cond.instanceMethod yX0_turnOf, Cond.initialized RX0, Cond.selects RX0 yX0_turnOf yX0_turnOf, Cond.code yX0_turnOf cX0_turnOf 3 (some .int), Cond.fieldLink RX0 9 "ArmRoom$Arm" "kinds" "[I", Cond.instanceMethod yX0_distanceOf, Cond.selects RX0 yX0_distanceOf yX0_distanceOf, Cond.code yX0_distanceOf cX0_distanceOf 3 (some .int), Cond.fieldLink RX0 15 "ArmRoom$Arm" "lengths" "[I", Cond.methodLink RX4 51 yX4_go, Cond.instanceMethod yX4_go, Cond.selects RX4 yX4_go yX4_go, Cond.code yX4_go cX4_go 3 none, Cond.static yX5_cosine, Cond.initialized RX5, Cond.code yX5_cosine cX5_cosine 1 (some .int)]
def wsX4_followWith_r2 : List Cond := [Cond.methodLink RX5 202 yX5_sine, Cond.static yX5_sine, Cond.code yX5_sine cX5_sine 3 (some .int), Cond.fieldLink RX5 199 "ArmRoom" "SINES" "[I"]
def wsX4_followWith : List Cond := .code yX4_followWith cX4_followWith 6 none :: ((wsX4_followWith_r1 ++ wsX4_followWith_r2) ++ wsX00 ++ wsX40)
def wsX4_follow_r1 : List Cond := [Cond.methodLink RX4 28 yX4_followWith, Cond.instanceMethod yX4_followWith, Cond.selects RX4 yX4_followWith yX4_followWith, Cond.initialized RX4, Cond.code yX4_followWith cX4_followWith 6 none, Cond.fieldLink RX4 18 "ArmRoom$Tip" "heading" "I", Cond.methodLink RX4 32 yX4_start, Cond.instanceMethod yX4_start, Cond.selects RX4 yX4_start yX4_start, Cond.code yX4_start cX4_start 1 none, Cond.fieldLink RX4 9 "ArmRoom$Tip" "x" "I", Cond.fieldLink RX4 15 "ArmRoom$Tip" "y" "I", Cond.instanceMethod yX0_turnOf, Cond.initialized RX0, Cond.selects RX0 yX0_turnOf yX0_turnOf, Cond.code yX0_turnOf cX0_turnOf 3 (some .int), Cond.fieldLink RX0 9 "ArmRoom$Arm" "kinds" "[I", Cond.instanceMethod yX0_distanceOf, Cond.selects RX0 yX0_distanceOf yX0_distanceOf, Cond.code yX0_distanceOf cX0_distanceOf 3 (some .int), Cond.fieldLink RX0 15 "ArmRoom$Arm" "lengths" "[I", Cond.methodLink RX4 51 yX4_go, Cond.instanceMethod yX4_go, Cond.selects RX4 yX4_go yX4_go]
def wsX4_follow_r2 : List Cond := [Cond.code yX4_go cX4_go 3 none, Cond.static yX5_cosine, Cond.initialized RX5, Cond.code yX5_cosine cX5_cosine 1 (some .int), Cond.methodLink RX5 202 yX5_sine, Cond.static yX5_sine, Cond.code yX5_sine cX5_sine 3 (some .int), Cond.fieldLink RX5 199 "ArmRoom" "SINES" "[I"]
def wsX4_follow : List Cond := .code yX4_follow cX4_follow 2 none :: ((wsX4_follow_r1 ++ wsX4_follow_r2) ++ wsX00 ++ wsX40)
def wsX4_followBack_r1 : List Cond := [Cond.fieldLink RX4 18 "ArmRoom$Tip" "heading" "I", Cond.methodLink RX4 32 yX4_start, Cond.instanceMethod yX4_start, Cond.selects RX4 yX4_start yX4_start, Cond.initialized RX4, Cond.code yX4_start cX4_start 1 none, Cond.fieldLink RX4 9 "ArmRoom$Tip" "x" "I", Cond.fieldLink RX4 15 "ArmRoom$Tip" "y" "I", Cond.instanceMethod yX0_distanceOf, Cond.initialized RX0, Cond.selects RX0 yX0_distanceOf yX0_distanceOf, Cond.code yX0_distanceOf cX0_distanceOf 3 (some .int), Cond.fieldLink RX0 9 "ArmRoom$Arm" "kinds" "[I", Cond.fieldLink RX0 15 "ArmRoom$Arm" "lengths" "[I", Cond.instanceMethod yX0_headingAt, Cond.selects RX0 yX0_headingAt yX0_headingAt, Cond.code yX0_headingAt cX0_headingAt 4 (some .int), Cond.fieldLink RX0 24 "ArmRoom$Arm" "values" "[I", Cond.methodLink RX0 43 yX0_turnOf, Cond.instanceMethod yX0_turnOf, Cond.selects RX0 yX0_turnOf yX0_turnOf, Cond.code yX0_turnOf cX0_turnOf 3 (some .int), Cond.methodLink RX4 51 yX4_go, Cond.instanceMethod yX4_go]
def wsX4_followBack_r2 : List Cond := [Cond.selects RX4 yX4_go yX4_go, Cond.code yX4_go cX4_go 3 none, Cond.static yX5_cosine, Cond.initialized RX5, Cond.code yX5_cosine cX5_cosine 1 (some .int), Cond.methodLink RX5 202 yX5_sine, Cond.static yX5_sine, Cond.code yX5_sine cX5_sine 3 (some .int), Cond.fieldLink RX5 199 "ArmRoom" "SINES" "[I"]
def wsX4_followBack : List Cond := .code yX4_followBack cX4_followBack 3 none :: ((wsX4_followBack_r1 ++ wsX4_followBack_r2) ++ wsX00 ++ wsX40)
def wsX4_told : List Cond := .code yX4_told cX4_told 2 (some .int) :: ([.fieldLink RX4 9 "ArmRoom$Tip" "x" "I", .fieldLink RX4 15 "ArmRoom$Tip" "y" "I", .fieldLink RX4 18 "ArmRoom$Tip" "heading" "I"] ++ wsX40)
def wsX5_init_r1 : List Cond := [Cond.methodLink RX5 1 objectInit, Cond.instanceMethod objectInit, Cond.code objectInit ⟨#[0xb1]⟩ 1 none, Cond.classLink RX5 7 RX0, Cond.instantiable RX0 6, Cond.initialized RX0, Cond.fieldLink RX5 10 "ArmRoom" "arm" "LArmRoom$Arm;", Cond.classLink RX5 16 RX1, Cond.instantiable RX1 3, Cond.initialized RX1, Cond.fieldLink RX5 19 "ArmRoom" "goal" "LArmRoom$Goal;", Cond.classLink RX5 23 RX4, Cond.instantiable RX4 3, Cond.initialized RX4, Cond.fieldLink RX5 26 "ArmRoom" "now" "LArmRoom$Tip;", Cond.fieldLink RX5 30 "ArmRoom" "then" "LArmRoom$Tip;", Cond.classLink RX5 33 RX3, Cond.instantiable RX3 7, Cond.initialized RX3, Cond.fieldLink RX5 36 "ArmRoom" "search" "LArmRoom$Search;", Cond.arrayClass .int, Cond.fieldLink RX5 40 "ArmRoom" "movesX" "[I", Cond.fieldLink RX5 44 "ArmRoom" "movesY" "[I", Cond.instanceMethod yX0_init]
def wsX5_init_r2 : List Cond := [Cond.code yX0_init cX0_init 1 none, Cond.methodLink RX0 3 objectInit, Cond.fieldLink RX0 9 "ArmRoom$Arm" "kinds" "[I", Cond.fieldLink RX0 15 "ArmRoom$Arm" "lengths" "[I", Cond.fieldLink RX0 18 "ArmRoom$Arm" "lows" "[I", Cond.fieldLink RX0 21 "ArmRoom$Arm" "highs" "[I", Cond.fieldLink RX0 24 "ArmRoom$Arm" "values" "[I", Cond.instanceMethod yX1_init, Cond.code yX1_init cX1_init 1 none, Cond.methodLink RX1 3 objectInit, Cond.fieldLink RX1 9 "ArmRoom$Goal" "slack" "I", Cond.instanceMethod yX4_init, Cond.code yX4_init cX4_init 1 none, Cond.methodLink RX4 3 objectInit, Cond.instanceMethod yX3_init, Cond.code yX3_init cX3_init 1 none, Cond.methodLink RX3 3 objectInit, Cond.classLink RX3 9 RX2, Cond.instantiable RX2 3, Cond.initialized RX2, Cond.fieldLink RX3 12 "ArmRoom$Search" "ranking" "LArmRoom$Ranking;", Cond.fieldLink RX3 18 "ArmRoom$Search" "pose" "[I", Cond.fieldLink RX3 22 "ArmRoom$Search" "reach" "[I", Cond.fieldLink RX3 25 "ArmRoom$Search" "xs" "[I"]
def wsX5_init_r3 : List Cond := [Cond.fieldLink RX3 28 "ArmRoom$Search" "ys" "[I", Cond.fieldLink RX3 31 "ArmRoom$Search" "headings" "[I", Cond.fieldLink RX3 34 "ArmRoom$Search" "ways" "[I", Cond.instanceMethod yX2_init, Cond.code yX2_init cX2_init 1 none, Cond.methodLink RX2 3 objectInit, Cond.arrayClass .long, Cond.fieldLink RX2 9 "ArmRoom$Ranking" "keys" "[J", Cond.fieldLink RX2 15 "ArmRoom$Ranking" "rows" "[I"]
def wsX5_init : List Cond := .code yX5_init cX5_init 1 none :: ((wsX5_init_r1 ++ (wsX5_init_r2 ++ wsX5_init_r3)) ++ wsX00 ++ wsX50 ++ wsX10 ++ wsX40 ++ wsX30 ++ wsX20)
def wsX5_joint_r1 : List Cond := [Cond.classLink RX5 47 "java/lang/IllegalArgumentException", Cond.initialized "java/lang/IllegalArgumentException", Cond.classLink RX5 62 "java/lang/IllegalStateException", Cond.initialized "java/lang/IllegalStateException", Cond.fieldLink RX5 10 "ArmRoom" "arm" "LArmRoom$Arm;", Cond.instanceMethod yX0_isFull, Cond.initialized RX0, Cond.selects RX0 yX0_isFull yX0_isFull, Cond.code yX0_isFull cX0_isFull 1 (some .boolean), Cond.fieldLink RX0 27 "ArmRoom$Arm" "count" "I", Cond.instanceMethod yX0_add, Cond.selects RX0 yX0_add yX0_add, Cond.code yX0_add cX0_add 6 (some .int), Cond.fieldLink RX0 9 "ArmRoom$Arm" "kinds" "[I", Cond.fieldLink RX0 15 "ArmRoom$Arm" "lengths" "[I", Cond.fieldLink RX0 18 "ArmRoom$Arm" "lows" "[I", Cond.fieldLink RX0 21 "ArmRoom$Arm" "highs" "[I", Cond.fieldLink RX0 24 "ArmRoom$Arm" "values" "[I", Cond.methodLink RX0 31 yX0_held, Cond.instanceMethod yX0_held, Cond.selects RX0 yX0_held yX0_held, Cond.code yX0_held cX0_held 3 (some .int), Cond.methodLink RX0 35 Lib.Math.min.name, Cond.static Lib.Math.min.name]
def wsX5_joint_r2 : List Cond := [Cond.initialized "java/lang/Math", Cond.code Lib.Math.min.name Lib.Math.min.code 2 (some .int), Cond.methodLink RX0 40 Lib.Math.max.name, Cond.static Lib.Math.max.name, Cond.code Lib.Math.max.name Lib.Math.max.code 2 (some .int)]
def wsX5_joint : List Cond := .code yX5_joint cX5_joint 7 (some .int) :: ((wsX5_joint_r1 ++ wsX5_joint_r2) ++ wsX50 ++ wsX00 ++ (vx_atS RX5 51 "java/lang/IllegalArgumentException" ["java/lang/RuntimeException", "java/lang/Exception"]).filter goodWord ++ (vx_atS RX5 66 "java/lang/IllegalStateException" ["java/lang/RuntimeException", "java/lang/Exception"]).filter goodWord)
def wsX5_checkJoint : List Cond := .code yX5_checkJoint cX5_checkJoint 2 none :: ([.classLink RX5 178 "java/lang/IndexOutOfBoundsException", .initialized "java/lang/IndexOutOfBoundsException", .fieldLink RX5 10 "ArmRoom" "arm" "LArmRoom$Arm;"] ++ wsX50 ++ wsX00 ++ (vx_atS RX5 182 "java/lang/IndexOutOfBoundsException" ["java/lang/RuntimeException", "java/lang/Exception"]).filter goodWord)
def wsX5_set : List Cond := .code yX5_set cX5_set 4 (some .int) :: ([.classLink RX5 47 "java/lang/IllegalArgumentException", .initialized "java/lang/IllegalArgumentException", .fieldLink RX5 10 "ArmRoom" "arm" "LArmRoom$Arm;", .methodLink RX5 71 yX5_checkJoint, .instanceMethod yX5_checkJoint, .selects RX5 yX5_checkJoint yX5_checkJoint, .initialized RX5, .code yX5_checkJoint cX5_checkJoint 2 none, .classLink RX5 178 "java/lang/IndexOutOfBoundsException", .initialized "java/lang/IndexOutOfBoundsException"] ++ wsX50 ++ wsX00 ++ (vx_atS RX5 51 "java/lang/IllegalArgumentException" ["java/lang/RuntimeException", "java/lang/Exception"]).filter goodWord ++ (vx_atS RX5 182 "java/lang/IndexOutOfBoundsException" ["java/lang/RuntimeException", "java/lang/Exception"]).filter goodWord)
def wsX5_value : List Cond := .code yX5_value cX5_value 2 (some .int) :: ([.fieldLink RX5 10 "ArmRoom" "arm" "LArmRoom$Arm;", .methodLink RX5 71 yX5_checkJoint, .instanceMethod yX5_checkJoint, .selects RX5 yX5_checkJoint yX5_checkJoint, .initialized RX5, .code yX5_checkJoint cX5_checkJoint 2 none, .classLink RX5 178 "java/lang/IndexOutOfBoundsException", .initialized "java/lang/IndexOutOfBoundsException"] ++ wsX50 ++ wsX00 ++ (vx_atS RX5 182 "java/lang/IndexOutOfBoundsException" ["java/lang/RuntimeException", "java/lang/Exception"]).filter goodWord)
def wsX5_checkTold : List Cond := .code yX5_checkTold cX5_checkTold 2 none :: ([.classLink RX5 47 "java/lang/IllegalArgumentException", .initialized "java/lang/IllegalArgumentException"] ++ (vx_atS RX5 51 "java/lang/IllegalArgumentException" ["java/lang/RuntimeException", "java/lang/Exception"]).filter goodWord)
def wsX5_tip_r1 : List Cond := [Cond.fieldLink RX5 26 "ArmRoom" "now" "LArmRoom$Tip;", Cond.fieldLink RX5 10 "ArmRoom" "arm" "LArmRoom$Arm;", Cond.methodLink RX5 86 yX5_checkTold, Cond.static yX5_checkTold, Cond.initialized RX5, Cond.code yX5_checkTold cX5_checkTold 2 none, Cond.classLink RX5 47 "java/lang/IllegalArgumentException", Cond.initialized "java/lang/IllegalArgumentException", Cond.instanceMethod yX4_follow, Cond.initialized RX4, Cond.selects RX4 yX4_follow yX4_follow, Cond.code yX4_follow cX4_follow 2 none, Cond.methodLink RX4 28 yX4_followWith, Cond.instanceMethod yX4_followWith, Cond.selects RX4 yX4_followWith yX4_followWith, Cond.code yX4_followWith cX4_followWith 6 none, Cond.fieldLink RX4 18 "ArmRoom$Tip" "heading" "I", Cond.methodLink RX4 32 yX4_start, Cond.instanceMethod yX4_start, Cond.selects RX4 yX4_start yX4_start, Cond.code yX4_start cX4_start 1 none, Cond.fieldLink RX4 9 "ArmRoom$Tip" "x" "I", Cond.fieldLink RX4 15 "ArmRoom$Tip" "y" "I", Cond.instanceMethod yX0_turnOf]
def wsX5_tip_r2 : List Cond := [Cond.initialized RX0, Cond.selects RX0 yX0_turnOf yX0_turnOf, Cond.code yX0_turnOf cX0_turnOf 3 (some .int), Cond.fieldLink RX0 9 "ArmRoom$Arm" "kinds" "[I", Cond.instanceMethod yX0_distanceOf, Cond.selects RX0 yX0_distanceOf yX0_distanceOf, Cond.code yX0_distanceOf cX0_distanceOf 3 (some .int), Cond.fieldLink RX0 15 "ArmRoom$Arm" "lengths" "[I", Cond.methodLink RX4 51 yX4_go, Cond.instanceMethod yX4_go, Cond.selects RX4 yX4_go yX4_go, Cond.code yX4_go cX4_go 3 none, Cond.static yX5_cosine, Cond.code yX5_cosine cX5_cosine 1 (some .int), Cond.methodLink RX5 202 yX5_sine, Cond.static yX5_sine, Cond.code yX5_sine cX5_sine 3 (some .int), Cond.fieldLink RX5 199 "ArmRoom" "SINES" "[I", Cond.instanceMethod yX4_told, Cond.selects RX4 yX4_told yX4_told, Cond.code yX4_told cX4_told 2 (some .int)]
def wsX5_tip : List Cond := .code yX5_tip cX5_tip 2 (some .int) :: ((wsX5_tip_r1 ++ wsX5_tip_r2) ++ wsX50 ++ wsX00 ++ wsX40 ++ (vx_atS RX5 51 "java/lang/IllegalArgumentException" ["java/lang/RuntimeException", "java/lang/Exception"]).filter goodWord)
def wsX5_tipAnew_r1 : List Cond := [Cond.fieldLink RX5 30 "ArmRoom" "then" "LArmRoom$Tip;", Cond.fieldLink RX5 10 "ArmRoom" "arm" "LArmRoom$Arm;", Cond.methodLink RX5 86 yX5_checkTold, Cond.static yX5_checkTold, Cond.initialized RX5, Cond.code yX5_checkTold cX5_checkTold 2 none, Cond.classLink RX5 47 "java/lang/IllegalArgumentException", Cond.initialized "java/lang/IllegalArgumentException", Cond.instanceMethod yX4_followBack, Cond.initialized RX4, Cond.selects RX4 yX4_followBack yX4_followBack, Cond.code yX4_followBack cX4_followBack 3 none, Cond.fieldLink RX4 18 "ArmRoom$Tip" "heading" "I", Cond.methodLink RX4 32 yX4_start, Cond.instanceMethod yX4_start, Cond.selects RX4 yX4_start yX4_start, Cond.code yX4_start cX4_start 1 none, Cond.fieldLink RX4 9 "ArmRoom$Tip" "x" "I", Cond.fieldLink RX4 15 "ArmRoom$Tip" "y" "I", Cond.instanceMethod yX0_distanceOf, Cond.initialized RX0, Cond.selects RX0 yX0_distanceOf yX0_distanceOf, Cond.code yX0_distanceOf cX0_distanceOf 3 (some .int), Cond.fieldLink RX0 9 "ArmRoom$Arm" "kinds" "[I"]
def wsX5_tipAnew_r2 : List Cond := [Cond.fieldLink RX0 15 "ArmRoom$Arm" "lengths" "[I", Cond.instanceMethod yX0_headingAt, Cond.selects RX0 yX0_headingAt yX0_headingAt, Cond.code yX0_headingAt cX0_headingAt 4 (some .int), Cond.fieldLink RX0 24 "ArmRoom$Arm" "values" "[I", Cond.methodLink RX0 43 yX0_turnOf, Cond.instanceMethod yX0_turnOf, Cond.selects RX0 yX0_turnOf yX0_turnOf, Cond.code yX0_turnOf cX0_turnOf 3 (some .int), Cond.methodLink RX4 51 yX4_go, Cond.instanceMethod yX4_go, Cond.selects RX4 yX4_go yX4_go, Cond.code yX4_go cX4_go 3 none, Cond.static yX5_cosine, Cond.code yX5_cosine cX5_cosine 1 (some .int), Cond.methodLink RX5 202 yX5_sine, Cond.static yX5_sine, Cond.code yX5_sine cX5_sine 3 (some .int), Cond.fieldLink RX5 199 "ArmRoom" "SINES" "[I", Cond.instanceMethod yX4_told, Cond.selects RX4 yX4_told yX4_told, Cond.code yX4_told cX4_told 2 (some .int)]
def wsX5_tipAnew : List Cond := .code yX5_tipAnew cX5_tipAnew 2 (some .int) :: ((wsX5_tipAnew_r1 ++ wsX5_tipAnew_r2) ++ wsX50 ++ wsX00 ++ wsX40 ++ (vx_atS RX5 51 "java/lang/IllegalArgumentException" ["java/lang/RuntimeException", "java/lang/Exception"]).filter goodWord)
def wsX5_moves_r1 : List Cond := [Cond.fieldLink RX5 26 "ArmRoom" "now" "LArmRoom$Tip;", Cond.fieldLink RX5 10 "ArmRoom" "arm" "LArmRoom$Arm;", Cond.fieldLink RX5 30 "ArmRoom" "then" "LArmRoom$Tip;", Cond.methodLink RX5 71 yX5_checkJoint, Cond.instanceMethod yX5_checkJoint, Cond.selects RX5 yX5_checkJoint yX5_checkJoint, Cond.initialized RX5, Cond.code yX5_checkJoint cX5_checkJoint 2 none, Cond.classLink RX5 178 "java/lang/IndexOutOfBoundsException", Cond.initialized "java/lang/IndexOutOfBoundsException", Cond.methodLink RX5 86 yX5_checkTold, Cond.static yX5_checkTold, Cond.code yX5_checkTold cX5_checkTold 2 none, Cond.classLink RX5 47 "java/lang/IllegalArgumentException", Cond.initialized "java/lang/IllegalArgumentException", Cond.instanceMethod yX4_follow, Cond.initialized RX4, Cond.selects RX4 yX4_follow yX4_follow, Cond.code yX4_follow cX4_follow 2 none, Cond.methodLink RX4 28 yX4_followWith, Cond.instanceMethod yX4_followWith, Cond.selects RX4 yX4_followWith yX4_followWith, Cond.code yX4_followWith cX4_followWith 6 none, Cond.fieldLink RX4 18 "ArmRoom$Tip" "heading" "I"]
def wsX5_moves_r2 : List Cond := [Cond.methodLink RX4 32 yX4_start, Cond.instanceMethod yX4_start, Cond.selects RX4 yX4_start yX4_start, Cond.code yX4_start cX4_start 1 none, Cond.fieldLink RX4 9 "ArmRoom$Tip" "x" "I", Cond.fieldLink RX4 15 "ArmRoom$Tip" "y" "I", Cond.instanceMethod yX0_turnOf, Cond.initialized RX0, Cond.selects RX0 yX0_turnOf yX0_turnOf, Cond.code yX0_turnOf cX0_turnOf 3 (some .int), Cond.fieldLink RX0 9 "ArmRoom$Arm" "kinds" "[I", Cond.instanceMethod yX0_distanceOf, Cond.selects RX0 yX0_distanceOf yX0_distanceOf, Cond.code yX0_distanceOf cX0_distanceOf 3 (some .int), Cond.fieldLink RX0 15 "ArmRoom$Arm" "lengths" "[I", Cond.methodLink RX4 51 yX4_go, Cond.instanceMethod yX4_go, Cond.selects RX4 yX4_go yX4_go, Cond.code yX4_go cX4_go 3 none, Cond.static yX5_cosine, Cond.code yX5_cosine cX5_cosine 1 (some .int), Cond.methodLink RX5 202 yX5_sine, Cond.static yX5_sine, Cond.code yX5_sine cX5_sine 3 (some .int)]
def wsX5_moves_r3 : List Cond := [Cond.fieldLink RX5 199 "ArmRoom" "SINES" "[I", Cond.instanceMethod yX4_told, Cond.selects RX4 yX4_told yX4_told, Cond.code yX4_told cX4_told 2 (some .int)]
def wsX5_moves : List Cond := .code yX5_moves cX5_moves 3 (some .int) :: ((wsX5_moves_r1 ++ (wsX5_moves_r2 ++ wsX5_moves_r3)) ++ wsX50 ++ wsX00 ++ wsX40 ++ (vx_atS RX5 182 "java/lang/IndexOutOfBoundsException" ["java/lang/RuntimeException", "java/lang/Exception"]).filter goodWord ++ (vx_atS RX5 51 "java/lang/IllegalArgumentException" ["java/lang/RuntimeException", "java/lang/Exception"]).filter goodWord)
def wsX5_findMoves_r1 : List Cond := [Cond.fieldLink RX5 26 "ArmRoom" "now" "LArmRoom$Tip;", Cond.fieldLink RX5 10 "ArmRoom" "arm" "LArmRoom$Arm;", Cond.fieldLink RX5 30 "ArmRoom" "then" "LArmRoom$Tip;", Cond.fieldLink RX5 40 "ArmRoom" "movesX" "[I", Cond.fieldLink RX5 44 "ArmRoom" "movesY" "[I", Cond.instanceMethod yX4_follow, Cond.initialized RX4, Cond.selects RX4 yX4_follow yX4_follow, Cond.code yX4_follow cX4_follow 2 none, Cond.methodLink RX4 28 yX4_followWith, Cond.instanceMethod yX4_followWith, Cond.selects RX4 yX4_followWith yX4_followWith, Cond.code yX4_followWith cX4_followWith 6 none, Cond.fieldLink RX4 18 "ArmRoom$Tip" "heading" "I", Cond.methodLink RX4 32 yX4_start, Cond.instanceMethod yX4_start, Cond.selects RX4 yX4_start yX4_start, Cond.code yX4_start cX4_start 1 none, Cond.fieldLink RX4 9 "ArmRoom$Tip" "x" "I", Cond.fieldLink RX4 15 "ArmRoom$Tip" "y" "I", Cond.instanceMethod yX0_turnOf, Cond.initialized RX0, Cond.selects RX0 yX0_turnOf yX0_turnOf, Cond.code yX0_turnOf cX0_turnOf 3 (some .int)]
def wsX5_findMoves_r2 : List Cond := [Cond.fieldLink RX0 9 "ArmRoom$Arm" "kinds" "[I", Cond.instanceMethod yX0_distanceOf, Cond.selects RX0 yX0_distanceOf yX0_distanceOf, Cond.code yX0_distanceOf cX0_distanceOf 3 (some .int), Cond.fieldLink RX0 15 "ArmRoom$Arm" "lengths" "[I", Cond.methodLink RX4 51 yX4_go, Cond.instanceMethod yX4_go, Cond.selects RX4 yX4_go yX4_go, Cond.code yX4_go cX4_go 3 none, Cond.static yX5_cosine, Cond.initialized RX5, Cond.code yX5_cosine cX5_cosine 1 (some .int), Cond.methodLink RX5 202 yX5_sine, Cond.static yX5_sine, Cond.code yX5_sine cX5_sine 3 (some .int), Cond.fieldLink RX5 199 "ArmRoom" "SINES" "[I"]
def wsX5_findMoves : List Cond := .code yX5_findMoves cX5_findMoves 2 none :: ((wsX5_findMoves_r1 ++ wsX5_findMoves_r2) ++ wsX50 ++ wsX00 ++ wsX40)
def wsX5_freedom_r1 : List Cond := [Cond.fieldLink RX5 10 "ArmRoom" "arm" "LArmRoom$Arm;", Cond.fieldLink RX5 40 "ArmRoom" "movesX" "[I", Cond.fieldLink RX5 44 "ArmRoom" "movesY" "[I", Cond.methodLink RX5 112 Lib.MathLoose.abs_long.x, Cond.static Lib.MathLoose.abs_long.x, Cond.initialized "java/lang/Math", Cond.code Lib.MathLoose.abs_long.x Lib.MathLoose.abs_long.code 2 (some .long), Cond.methodLink RX5 118 Lib.MathLoose.max_long.x, Cond.static Lib.MathLoose.max_long.x, Cond.code Lib.MathLoose.max_long.x Lib.MathLoose.max_long.code 4 (some .long), Cond.methodLink RX5 105 yX5_findMoves, Cond.instanceMethod yX5_findMoves, Cond.selects RX5 yX5_findMoves yX5_findMoves, Cond.initialized RX5, Cond.code yX5_findMoves cX5_findMoves 2 none, Cond.fieldLink RX5 26 "ArmRoom" "now" "LArmRoom$Tip;", Cond.fieldLink RX5 30 "ArmRoom" "then" "LArmRoom$Tip;", Cond.instanceMethod yX4_follow, Cond.initialized RX4, Cond.selects RX4 yX4_follow yX4_follow, Cond.code yX4_follow cX4_follow 2 none, Cond.methodLink RX4 28 yX4_followWith, Cond.instanceMethod yX4_followWith, Cond.selects RX4 yX4_followWith yX4_followWith]
def wsX5_freedom_r2 : List Cond := [Cond.code yX4_followWith cX4_followWith 6 none, Cond.fieldLink RX4 18 "ArmRoom$Tip" "heading" "I", Cond.methodLink RX4 32 yX4_start, Cond.instanceMethod yX4_start, Cond.selects RX4 yX4_start yX4_start, Cond.code yX4_start cX4_start 1 none, Cond.fieldLink RX4 9 "ArmRoom$Tip" "x" "I", Cond.fieldLink RX4 15 "ArmRoom$Tip" "y" "I", Cond.instanceMethod yX0_turnOf, Cond.initialized RX0, Cond.selects RX0 yX0_turnOf yX0_turnOf, Cond.code yX0_turnOf cX0_turnOf 3 (some .int), Cond.fieldLink RX0 9 "ArmRoom$Arm" "kinds" "[I", Cond.instanceMethod yX0_distanceOf, Cond.selects RX0 yX0_distanceOf yX0_distanceOf, Cond.code yX0_distanceOf cX0_distanceOf 3 (some .int), Cond.fieldLink RX0 15 "ArmRoom$Arm" "lengths" "[I", Cond.methodLink RX4 51 yX4_go, Cond.instanceMethod yX4_go, Cond.selects RX4 yX4_go yX4_go, Cond.code yX4_go cX4_go 3 none, Cond.static yX5_cosine, Cond.code yX5_cosine cX5_cosine 1 (some .int), Cond.methodLink RX5 202 yX5_sine]
def wsX5_freedom_r3 : List Cond := [Cond.static yX5_sine, Cond.code yX5_sine cX5_sine 3 (some .int), Cond.fieldLink RX5 199 "ArmRoom" "SINES" "[I"]
def wsX5_freedom : List Cond := .code yX5_freedom cX5_freedom 7 (some .long) :: ((wsX5_freedom_r1 ++ (wsX5_freedom_r2 ++ wsX5_freedom_r3)) ++ wsX50 ++ wsX00 ++ wsX40)
def wsX5_farNow_r1 : List Cond := [Cond.fieldLink RX5 26 "ArmRoom" "now" "LArmRoom$Tip;", Cond.fieldLink RX5 10 "ArmRoom" "arm" "LArmRoom$Arm;", Cond.fieldLink RX5 19 "ArmRoom" "goal" "LArmRoom$Goal;", Cond.instanceMethod yX4_follow, Cond.initialized RX4, Cond.selects RX4 yX4_follow yX4_follow, Cond.code yX4_follow cX4_follow 2 none, Cond.methodLink RX4 28 yX4_followWith, Cond.instanceMethod yX4_followWith, Cond.selects RX4 yX4_followWith yX4_followWith, Cond.code yX4_followWith cX4_followWith 6 none, Cond.fieldLink RX4 18 "ArmRoom$Tip" "heading" "I", Cond.methodLink RX4 32 yX4_start, Cond.instanceMethod yX4_start, Cond.selects RX4 yX4_start yX4_start, Cond.code yX4_start cX4_start 1 none, Cond.fieldLink RX4 9 "ArmRoom$Tip" "x" "I", Cond.fieldLink RX4 15 "ArmRoom$Tip" "y" "I", Cond.instanceMethod yX0_turnOf, Cond.initialized RX0, Cond.selects RX0 yX0_turnOf yX0_turnOf, Cond.code yX0_turnOf cX0_turnOf 3 (some .int), Cond.fieldLink RX0 9 "ArmRoom$Arm" "kinds" "[I", Cond.instanceMethod yX0_distanceOf]
def wsX5_farNow_r2 : List Cond := [Cond.selects RX0 yX0_distanceOf yX0_distanceOf, Cond.code yX0_distanceOf cX0_distanceOf 3 (some .int), Cond.fieldLink RX0 15 "ArmRoom$Arm" "lengths" "[I", Cond.methodLink RX4 51 yX4_go, Cond.instanceMethod yX4_go, Cond.selects RX4 yX4_go yX4_go, Cond.code yX4_go cX4_go 3 none, Cond.static yX5_cosine, Cond.initialized RX5, Cond.code yX5_cosine cX5_cosine 1 (some .int), Cond.methodLink RX5 202 yX5_sine, Cond.static yX5_sine, Cond.code yX5_sine cX5_sine 3 (some .int), Cond.fieldLink RX5 199 "ArmRoom" "SINES" "[I", Cond.instanceMethod yX1_farFrom, Cond.initialized RX1, Cond.selects RX1 yX1_farFrom yX1_farFrom, Cond.code yX1_farFrom cX1_farFrom 7 (some .long), Cond.fieldLink RX1 15 "ArmRoom$Goal" "x" "I", Cond.fieldLink RX1 18 "ArmRoom$Goal" "y" "I"]
def wsX5_farNow : List Cond := .code yX5_farNow cX5_farNow 1 (some .long) :: ((wsX5_farNow_r1 ++ wsX5_farNow_r2) ++ wsX50 ++ wsX40 ++ wsX00 ++ wsX10)
def wsX5_goal_r1 : List Cond := [Cond.classLink RX5 47 "java/lang/IllegalArgumentException", Cond.initialized "java/lang/IllegalArgumentException", Cond.constant RX5 122 (-1000000), Cond.constant RX5 123 (1000000), Cond.fieldLink RX5 19 "ArmRoom" "goal" "LArmRoom$Goal;", Cond.methodLink RX5 132 yX5_farNow, Cond.instanceMethod yX5_farNow, Cond.selects RX5 yX5_farNow yX5_farNow, Cond.initialized RX5, Cond.code yX5_farNow cX5_farNow 1 (some .long), Cond.fieldLink RX5 26 "ArmRoom" "now" "LArmRoom$Tip;", Cond.fieldLink RX5 10 "ArmRoom" "arm" "LArmRoom$Arm;", Cond.instanceMethod yX4_follow, Cond.initialized RX4, Cond.selects RX4 yX4_follow yX4_follow, Cond.code yX4_follow cX4_follow 2 none, Cond.methodLink RX4 28 yX4_followWith, Cond.instanceMethod yX4_followWith, Cond.selects RX4 yX4_followWith yX4_followWith, Cond.code yX4_followWith cX4_followWith 6 none, Cond.fieldLink RX4 18 "ArmRoom$Tip" "heading" "I", Cond.methodLink RX4 32 yX4_start, Cond.instanceMethod yX4_start, Cond.selects RX4 yX4_start yX4_start]
def wsX5_goal_r2 : List Cond := [Cond.code yX4_start cX4_start 1 none, Cond.fieldLink RX4 9 "ArmRoom$Tip" "x" "I", Cond.fieldLink RX4 15 "ArmRoom$Tip" "y" "I", Cond.instanceMethod yX0_turnOf, Cond.initialized RX0, Cond.selects RX0 yX0_turnOf yX0_turnOf, Cond.code yX0_turnOf cX0_turnOf 3 (some .int), Cond.fieldLink RX0 9 "ArmRoom$Arm" "kinds" "[I", Cond.instanceMethod yX0_distanceOf, Cond.selects RX0 yX0_distanceOf yX0_distanceOf, Cond.code yX0_distanceOf cX0_distanceOf 3 (some .int), Cond.fieldLink RX0 15 "ArmRoom$Arm" "lengths" "[I", Cond.methodLink RX4 51 yX4_go, Cond.instanceMethod yX4_go, Cond.selects RX4 yX4_go yX4_go, Cond.code yX4_go cX4_go 3 none, Cond.static yX5_cosine, Cond.code yX5_cosine cX5_cosine 1 (some .int), Cond.methodLink RX5 202 yX5_sine, Cond.static yX5_sine, Cond.code yX5_sine cX5_sine 3 (some .int), Cond.fieldLink RX5 199 "ArmRoom" "SINES" "[I", Cond.instanceMethod yX1_farFrom, Cond.initialized RX1]
def wsX5_goal_r3 : List Cond := [Cond.selects RX1 yX1_farFrom yX1_farFrom, Cond.code yX1_farFrom cX1_farFrom 7 (some .long), Cond.fieldLink RX1 15 "ArmRoom$Goal" "x" "I", Cond.fieldLink RX1 18 "ArmRoom$Goal" "y" "I"]
def wsX5_goal : List Cond := .code yX5_goal cX5_goal 3 (some .long) :: ((wsX5_goal_r1 ++ (wsX5_goal_r2 ++ wsX5_goal_r3)) ++ wsX50 ++ wsX10 ++ wsX40 ++ wsX00 ++ (vx_atS RX5 51 "java/lang/IllegalArgumentException" ["java/lang/RuntimeException", "java/lang/Exception"]).filter goodWord)
def wsX5_far_r1 : List Cond := [Cond.methodLink RX5 132 yX5_farNow, Cond.instanceMethod yX5_farNow, Cond.selects RX5 yX5_farNow yX5_farNow, Cond.initialized RX5, Cond.code yX5_farNow cX5_farNow 1 (some .long), Cond.fieldLink RX5 26 "ArmRoom" "now" "LArmRoom$Tip;", Cond.fieldLink RX5 10 "ArmRoom" "arm" "LArmRoom$Arm;", Cond.fieldLink RX5 19 "ArmRoom" "goal" "LArmRoom$Goal;", Cond.instanceMethod yX4_follow, Cond.initialized RX4, Cond.selects RX4 yX4_follow yX4_follow, Cond.code yX4_follow cX4_follow 2 none, Cond.methodLink RX4 28 yX4_followWith, Cond.instanceMethod yX4_followWith, Cond.selects RX4 yX4_followWith yX4_followWith, Cond.code yX4_followWith cX4_followWith 6 none, Cond.fieldLink RX4 18 "ArmRoom$Tip" "heading" "I", Cond.methodLink RX4 32 yX4_start, Cond.instanceMethod yX4_start, Cond.selects RX4 yX4_start yX4_start, Cond.code yX4_start cX4_start 1 none, Cond.fieldLink RX4 9 "ArmRoom$Tip" "x" "I", Cond.fieldLink RX4 15 "ArmRoom$Tip" "y" "I", Cond.instanceMethod yX0_turnOf]
def wsX5_far_r2 : List Cond := [Cond.initialized RX0, Cond.selects RX0 yX0_turnOf yX0_turnOf, Cond.code yX0_turnOf cX0_turnOf 3 (some .int), Cond.fieldLink RX0 9 "ArmRoom$Arm" "kinds" "[I", Cond.instanceMethod yX0_distanceOf, Cond.selects RX0 yX0_distanceOf yX0_distanceOf, Cond.code yX0_distanceOf cX0_distanceOf 3 (some .int), Cond.fieldLink RX0 15 "ArmRoom$Arm" "lengths" "[I", Cond.methodLink RX4 51 yX4_go, Cond.instanceMethod yX4_go, Cond.selects RX4 yX4_go yX4_go, Cond.code yX4_go cX4_go 3 none, Cond.static yX5_cosine, Cond.code yX5_cosine cX5_cosine 1 (some .int), Cond.methodLink RX5 202 yX5_sine, Cond.static yX5_sine, Cond.code yX5_sine cX5_sine 3 (some .int), Cond.fieldLink RX5 199 "ArmRoom" "SINES" "[I", Cond.instanceMethod yX1_farFrom, Cond.initialized RX1, Cond.selects RX1 yX1_farFrom yX1_farFrom, Cond.code yX1_farFrom cX1_farFrom 7 (some .long), Cond.fieldLink RX1 15 "ArmRoom$Goal" "x" "I", Cond.fieldLink RX1 18 "ArmRoom$Goal" "y" "I"]
def wsX5_far : List Cond := .code yX5_far cX5_far 1 (some .long) :: ((wsX5_far_r1 ++ wsX5_far_r2) ++ wsX50 ++ wsX40 ++ wsX00 ++ wsX10)
def wsX5_farWith_r1 : List Cond := [Cond.fieldLink RX5 30 "ArmRoom" "then" "LArmRoom$Tip;", Cond.fieldLink RX5 10 "ArmRoom" "arm" "LArmRoom$Arm;", Cond.fieldLink RX5 19 "ArmRoom" "goal" "LArmRoom$Goal;", Cond.instanceMethod yX4_followWith, Cond.initialized RX4, Cond.selects RX4 yX4_followWith yX4_followWith, Cond.code yX4_followWith cX4_followWith 6 none, Cond.fieldLink RX4 18 "ArmRoom$Tip" "heading" "I", Cond.methodLink RX4 32 yX4_start, Cond.instanceMethod yX4_start, Cond.selects RX4 yX4_start yX4_start, Cond.code yX4_start cX4_start 1 none, Cond.fieldLink RX4 9 "ArmRoom$Tip" "x" "I", Cond.fieldLink RX4 15 "ArmRoom$Tip" "y" "I", Cond.instanceMethod yX0_turnOf, Cond.initialized RX0, Cond.selects RX0 yX0_turnOf yX0_turnOf, Cond.code yX0_turnOf cX0_turnOf 3 (some .int), Cond.fieldLink RX0 9 "ArmRoom$Arm" "kinds" "[I", Cond.instanceMethod yX0_distanceOf, Cond.selects RX0 yX0_distanceOf yX0_distanceOf, Cond.code yX0_distanceOf cX0_distanceOf 3 (some .int), Cond.fieldLink RX0 15 "ArmRoom$Arm" "lengths" "[I", Cond.methodLink RX4 51 yX4_go]
def wsX5_farWith_r2 : List Cond := [Cond.instanceMethod yX4_go, Cond.selects RX4 yX4_go yX4_go, Cond.code yX4_go cX4_go 3 none, Cond.static yX5_cosine, Cond.initialized RX5, Cond.code yX5_cosine cX5_cosine 1 (some .int), Cond.methodLink RX5 202 yX5_sine, Cond.static yX5_sine, Cond.code yX5_sine cX5_sine 3 (some .int), Cond.fieldLink RX5 199 "ArmRoom" "SINES" "[I", Cond.instanceMethod yX1_farFrom, Cond.initialized RX1, Cond.selects RX1 yX1_farFrom yX1_farFrom, Cond.code yX1_farFrom cX1_farFrom 7 (some .long), Cond.fieldLink RX1 15 "ArmRoom$Goal" "x" "I", Cond.fieldLink RX1 18 "ArmRoom$Goal" "y" "I"]
def wsX5_farWith : List Cond := .code yX5_farWith cX5_farWith 3 (some .long) :: ((wsX5_farWith_r1 ++ wsX5_farWith_r2) ++ wsX50 ++ wsX40 ++ wsX00 ++ wsX10)
def wsX5_stepped_r1 : List Cond := [Cond.fieldLink RX5 10 "ArmRoom" "arm" "LArmRoom$Arm;", Cond.methodLink RX5 132 yX5_farNow, Cond.instanceMethod yX5_farNow, Cond.selects RX5 yX5_farNow yX5_farNow, Cond.initialized RX5, Cond.code yX5_farNow cX5_farNow 1 (some .long), Cond.fieldLink RX5 26 "ArmRoom" "now" "LArmRoom$Tip;", Cond.fieldLink RX5 19 "ArmRoom" "goal" "LArmRoom$Goal;", Cond.instanceMethod yX4_follow, Cond.initialized RX4, Cond.selects RX4 yX4_follow yX4_follow, Cond.code yX4_follow cX4_follow 2 none, Cond.methodLink RX4 28 yX4_followWith, Cond.instanceMethod yX4_followWith, Cond.selects RX4 yX4_followWith yX4_followWith, Cond.code yX4_followWith cX4_followWith 6 none, Cond.fieldLink RX4 18 "ArmRoom$Tip" "heading" "I", Cond.methodLink RX4 32 yX4_start, Cond.instanceMethod yX4_start, Cond.selects RX4 yX4_start yX4_start, Cond.code yX4_start cX4_start 1 none, Cond.fieldLink RX4 9 "ArmRoom$Tip" "x" "I", Cond.fieldLink RX4 15 "ArmRoom$Tip" "y" "I", Cond.instanceMethod yX0_turnOf]
def wsX5_stepped_r2 : List Cond := [Cond.initialized RX0, Cond.selects RX0 yX0_turnOf yX0_turnOf, Cond.code yX0_turnOf cX0_turnOf 3 (some .int), Cond.fieldLink RX0 9 "ArmRoom$Arm" "kinds" "[I", Cond.instanceMethod yX0_distanceOf, Cond.selects RX0 yX0_distanceOf yX0_distanceOf, Cond.code yX0_distanceOf cX0_distanceOf 3 (some .int), Cond.fieldLink RX0 15 "ArmRoom$Arm" "lengths" "[I", Cond.methodLink RX4 51 yX4_go, Cond.instanceMethod yX4_go, Cond.selects RX4 yX4_go yX4_go, Cond.code yX4_go cX4_go 3 none, Cond.static yX5_cosine, Cond.code yX5_cosine cX5_cosine 1 (some .int), Cond.methodLink RX5 202 yX5_sine, Cond.static yX5_sine, Cond.code yX5_sine cX5_sine 3 (some .int), Cond.fieldLink RX5 199 "ArmRoom" "SINES" "[I", Cond.instanceMethod yX1_farFrom, Cond.initialized RX1, Cond.selects RX1 yX1_farFrom yX1_farFrom, Cond.code yX1_farFrom cX1_farFrom 7 (some .long), Cond.fieldLink RX1 15 "ArmRoom$Goal" "x" "I", Cond.fieldLink RX1 18 "ArmRoom$Goal" "y" "I"]
def wsX5_stepped_r3 : List Cond := [Cond.instanceMethod yX0_held, Cond.selects RX0 yX0_held yX0_held, Cond.code yX0_held cX0_held 3 (some .int), Cond.fieldLink RX0 18 "ArmRoom$Arm" "lows" "[I", Cond.fieldLink RX0 21 "ArmRoom$Arm" "highs" "[I", Cond.methodLink RX0 35 Lib.Math.min.name, Cond.static Lib.Math.min.name, Cond.initialized "java/lang/Math", Cond.code Lib.Math.min.name Lib.Math.min.code 2 (some .int), Cond.methodLink RX0 40 Lib.Math.max.name, Cond.static Lib.Math.max.name, Cond.code Lib.Math.max.name Lib.Math.max.code 2 (some .int), Cond.methodLink RX5 142 yX5_farWith, Cond.instanceMethod yX5_farWith, Cond.selects RX5 yX5_farWith yX5_farWith, Cond.code yX5_farWith cX5_farWith 3 (some .long), Cond.fieldLink RX5 30 "ArmRoom" "then" "LArmRoom$Tip;"]
def wsX5_stepped : List Cond := .code yX5_stepped cX5_stepped 11 (some .boolean) :: ((wsX5_stepped_r1 ++ (wsX5_stepped_r2 ++ wsX5_stepped_r3)) ++ wsX50 ++ wsX00 ++ wsX40 ++ wsX10)
def wsX5_steps_r1 : List Cond := [Cond.classLink RX5 47 "java/lang/IllegalArgumentException", Cond.initialized "java/lang/IllegalArgumentException", Cond.methodLink RX5 138 yX5_stepped, Cond.instanceMethod yX5_stepped, Cond.selects RX5 yX5_stepped yX5_stepped, Cond.initialized RX5, Cond.code yX5_stepped cX5_stepped 11 (some .boolean), Cond.fieldLink RX5 10 "ArmRoom" "arm" "LArmRoom$Arm;", Cond.methodLink RX5 132 yX5_farNow, Cond.instanceMethod yX5_farNow, Cond.selects RX5 yX5_farNow yX5_farNow, Cond.code yX5_farNow cX5_farNow 1 (some .long), Cond.fieldLink RX5 26 "ArmRoom" "now" "LArmRoom$Tip;", Cond.fieldLink RX5 19 "ArmRoom" "goal" "LArmRoom$Goal;", Cond.instanceMethod yX4_follow, Cond.initialized RX4, Cond.selects RX4 yX4_follow yX4_follow, Cond.code yX4_follow cX4_follow 2 none, Cond.methodLink RX4 28 yX4_followWith, Cond.instanceMethod yX4_followWith, Cond.selects RX4 yX4_followWith yX4_followWith, Cond.code yX4_followWith cX4_followWith 6 none, Cond.fieldLink RX4 18 "ArmRoom$Tip" "heading" "I", Cond.methodLink RX4 32 yX4_start]
def wsX5_steps_r2 : List Cond := [Cond.instanceMethod yX4_start, Cond.selects RX4 yX4_start yX4_start, Cond.code yX4_start cX4_start 1 none, Cond.fieldLink RX4 9 "ArmRoom$Tip" "x" "I", Cond.fieldLink RX4 15 "ArmRoom$Tip" "y" "I", Cond.instanceMethod yX0_turnOf, Cond.initialized RX0, Cond.selects RX0 yX0_turnOf yX0_turnOf, Cond.code yX0_turnOf cX0_turnOf 3 (some .int), Cond.fieldLink RX0 9 "ArmRoom$Arm" "kinds" "[I", Cond.instanceMethod yX0_distanceOf, Cond.selects RX0 yX0_distanceOf yX0_distanceOf, Cond.code yX0_distanceOf cX0_distanceOf 3 (some .int), Cond.fieldLink RX0 15 "ArmRoom$Arm" "lengths" "[I", Cond.methodLink RX4 51 yX4_go, Cond.instanceMethod yX4_go, Cond.selects RX4 yX4_go yX4_go, Cond.code yX4_go cX4_go 3 none, Cond.static yX5_cosine, Cond.code yX5_cosine cX5_cosine 1 (some .int), Cond.methodLink RX5 202 yX5_sine, Cond.static yX5_sine, Cond.code yX5_sine cX5_sine 3 (some .int), Cond.fieldLink RX5 199 "ArmRoom" "SINES" "[I"]
def wsX5_steps_r3 : List Cond := [Cond.instanceMethod yX1_farFrom, Cond.initialized RX1, Cond.selects RX1 yX1_farFrom yX1_farFrom, Cond.code yX1_farFrom cX1_farFrom 7 (some .long), Cond.fieldLink RX1 15 "ArmRoom$Goal" "x" "I", Cond.fieldLink RX1 18 "ArmRoom$Goal" "y" "I", Cond.instanceMethod yX0_held, Cond.selects RX0 yX0_held yX0_held, Cond.code yX0_held cX0_held 3 (some .int), Cond.fieldLink RX0 18 "ArmRoom$Arm" "lows" "[I", Cond.fieldLink RX0 21 "ArmRoom$Arm" "highs" "[I", Cond.methodLink RX0 35 Lib.Math.min.name, Cond.static Lib.Math.min.name, Cond.initialized "java/lang/Math", Cond.code Lib.Math.min.name Lib.Math.min.code 2 (some .int), Cond.methodLink RX0 40 Lib.Math.max.name, Cond.static Lib.Math.max.name, Cond.code Lib.Math.max.name Lib.Math.max.code 2 (some .int), Cond.methodLink RX5 142 yX5_farWith, Cond.instanceMethod yX5_farWith, Cond.selects RX5 yX5_farWith yX5_farWith, Cond.code yX5_farWith cX5_farWith 3 (some .long), Cond.fieldLink RX5 30 "ArmRoom" "then" "LArmRoom$Tip;"]
def wsX5_steps : List Cond := .code yX5_steps cX5_steps 4 (some .int) :: ((wsX5_steps_r1 ++ (wsX5_steps_r2 ++ wsX5_steps_r3)) ++ wsX50 ++ wsX00 ++ wsX40 ++ wsX10 ++ (vx_atS RX5 51 "java/lang/IllegalArgumentException" ["java/lang/RuntimeException", "java/lang/Exception"]).filter goodWord)
def wsX5_hindrance_r1 : List Cond := [Cond.fieldLink RX5 10 "ArmRoom" "arm" "LArmRoom$Arm;", Cond.methodLink RX5 132 yX5_farNow, Cond.instanceMethod yX5_farNow, Cond.selects RX5 yX5_farNow yX5_farNow, Cond.initialized RX5, Cond.code yX5_farNow cX5_farNow 1 (some .long), Cond.fieldLink RX5 26 "ArmRoom" "now" "LArmRoom$Tip;", Cond.fieldLink RX5 19 "ArmRoom" "goal" "LArmRoom$Goal;", Cond.instanceMethod yX4_follow, Cond.initialized RX4, Cond.selects RX4 yX4_follow yX4_follow, Cond.code yX4_follow cX4_follow 2 none, Cond.methodLink RX4 28 yX4_followWith, Cond.instanceMethod yX4_followWith, Cond.selects RX4 yX4_followWith yX4_followWith, Cond.code yX4_followWith cX4_followWith 6 none, Cond.fieldLink RX4 18 "ArmRoom$Tip" "heading" "I", Cond.methodLink RX4 32 yX4_start, Cond.instanceMethod yX4_start, Cond.selects RX4 yX4_start yX4_start, Cond.code yX4_start cX4_start 1 none, Cond.fieldLink RX4 9 "ArmRoom$Tip" "x" "I", Cond.fieldLink RX4 15 "ArmRoom$Tip" "y" "I", Cond.instanceMethod yX0_turnOf]
def wsX5_hindrance_r2 : List Cond := [Cond.initialized RX0, Cond.selects RX0 yX0_turnOf yX0_turnOf, Cond.code yX0_turnOf cX0_turnOf 3 (some .int), Cond.fieldLink RX0 9 "ArmRoom$Arm" "kinds" "[I", Cond.instanceMethod yX0_distanceOf, Cond.selects RX0 yX0_distanceOf yX0_distanceOf, Cond.code yX0_distanceOf cX0_distanceOf 3 (some .int), Cond.fieldLink RX0 15 "ArmRoom$Arm" "lengths" "[I", Cond.methodLink RX4 51 yX4_go, Cond.instanceMethod yX4_go, Cond.selects RX4 yX4_go yX4_go, Cond.code yX4_go cX4_go 3 none, Cond.static yX5_cosine, Cond.code yX5_cosine cX5_cosine 1 (some .int), Cond.methodLink RX5 202 yX5_sine, Cond.static yX5_sine, Cond.code yX5_sine cX5_sine 3 (some .int), Cond.fieldLink RX5 199 "ArmRoom" "SINES" "[I", Cond.instanceMethod yX1_farFrom, Cond.initialized RX1, Cond.selects RX1 yX1_farFrom yX1_farFrom, Cond.code yX1_farFrom cX1_farFrom 7 (some .long), Cond.fieldLink RX1 15 "ArmRoom$Goal" "x" "I", Cond.fieldLink RX1 18 "ArmRoom$Goal" "y" "I"]
def wsX5_hindrance_r3 : List Cond := [Cond.methodLink RX5 142 yX5_farWith, Cond.instanceMethod yX5_farWith, Cond.selects RX5 yX5_farWith yX5_farWith, Cond.code yX5_farWith cX5_farWith 3 (some .long), Cond.fieldLink RX5 30 "ArmRoom" "then" "LArmRoom$Tip;"]
def wsX5_hindrance : List Cond := .code yX5_hindrance cX5_hindrance 5 (some .int) :: ((wsX5_hindrance_r1 ++ (wsX5_hindrance_r2 ++ wsX5_hindrance_r3)) ++ wsX50 ++ wsX00 ++ wsX40 ++ wsX10)
def wsX5_slack : List Cond := .code yX5_slack cX5_slack 3 (some .int) :: ([.classLink RX5 47 "java/lang/IllegalArgumentException", .initialized "java/lang/IllegalArgumentException", .constant RX5 146 (100000), .fieldLink RX5 19 "ArmRoom" "goal" "LArmRoom$Goal;"] ++ wsX50 ++ wsX10 ++ (vx_atS RX5 51 "java/lang/IllegalArgumentException" ["java/lang/RuntimeException", "java/lang/Exception"]).filter goodWord)
def wsX5_branches_r1 : List Cond := [Cond.classLink RX5 62 "java/lang/IllegalStateException", Cond.initialized "java/lang/IllegalStateException", Cond.fieldLink RX5 10 "ArmRoom" "arm" "LArmRoom$Arm;", Cond.constantLong RX5 154 (40000), Cond.fieldLink RX5 36 "ArmRoom" "search" "LArmRoom$Search;", Cond.fieldLink RX5 19 "ArmRoom" "goal" "LArmRoom$Goal;", Cond.instanceMethod yX0_countPoses, Cond.initialized RX0, Cond.selects RX0 yX0_countPoses yX0_countPoses, Cond.code yX0_countPoses cX0_countPoses 4 (some .long), Cond.fieldLink RX0 27 "ArmRoom$Arm" "count" "I", Cond.fieldLink RX0 21 "ArmRoom$Arm" "highs" "[I", Cond.fieldLink RX0 18 "ArmRoom$Arm" "lows" "[I", Cond.instanceMethod yX3_run, Cond.initialized RX3, Cond.selects RX3 yX3_run yX3_run, Cond.code yX3_run cX3_run 4 none, Cond.fieldLink RX3 12 "ArmRoom$Search" "ranking" "LArmRoom$Ranking;", Cond.instanceMethod yX2_clear, Cond.initialized RX2, Cond.selects RX2 yX2_clear yX2_clear, Cond.code yX2_clear cX2_clear 1 none, Cond.fieldLink RX2 19 "ArmRoom$Ranking" "found" "I", Cond.methodLink RX3 40 yX3_findReach]
def wsX5_branches_r2 : List Cond := [Cond.instanceMethod yX3_findReach, Cond.selects RX3 yX3_findReach yX3_findReach, Cond.code yX3_findReach cX3_findReach 4 none, Cond.fieldLink RX3 22 "ArmRoom$Search" "reach" "[I", Cond.instanceMethod yX0_distanceOf, Cond.selects RX0 yX0_distanceOf yX0_distanceOf, Cond.code yX0_distanceOf cX0_distanceOf 3 (some .int), Cond.fieldLink RX0 9 "ArmRoom$Arm" "kinds" "[I", Cond.fieldLink RX0 15 "ArmRoom$Arm" "lengths" "[I", Cond.methodLink RX3 50 yX3_goThrough, Cond.static yX3_goThrough, Cond.code yX3_goThrough cX3_goThrough 6 none, Cond.fieldLink RX3 25 "ArmRoom$Search" "xs" "[I", Cond.fieldLink RX3 28 "ArmRoom$Search" "ys" "[I", Cond.fieldLink RX3 18 "ArmRoom$Search" "pose" "[I", Cond.instanceMethod yX1_isWithin, Cond.initialized RX1, Cond.selects RX1 yX1_isWithin yX1_isWithin, Cond.code yX1_isWithin cX1_isWithin 4 (some .boolean), Cond.fieldLink RX1 15 "ArmRoom$Goal" "x" "I", Cond.methodLink RX1 21 Lib.Math.abs.name, Cond.static Lib.Math.abs.name, Cond.initialized "java/lang/Math", Cond.code Lib.Math.abs.name Lib.Math.abs.code 1 (some .int)]
def wsX5_branches_r3 : List Cond := [Cond.fieldLink RX1 18 "ArmRoom$Goal" "y" "I", Cond.methodLink RX3 70 yX3_keyOf, Cond.instanceMethod yX3_keyOf, Cond.selects RX3 yX3_keyOf yX3_keyOf, Cond.code yX3_keyOf cX3_keyOf 6 (some .long), Cond.fieldLink RX3 34 "ArmRoom$Search" "ways" "[I", Cond.fieldLink RX3 31 "ArmRoom$Search" "headings" "[I", Cond.methodLink RX3 110 Lib.Math.min.name, Cond.static Lib.Math.min.name, Cond.code Lib.Math.min.name Lib.Math.min.code 2 (some .int), Cond.instanceMethod yX1_farFrom, Cond.selects RX1 yX1_farFrom yX1_farFrom, Cond.code yX1_farFrom cX1_farFrom 7 (some .long), Cond.instanceMethod yX0_headingAt, Cond.selects RX0 yX0_headingAt yX0_headingAt, Cond.code yX0_headingAt cX0_headingAt 4 (some .int), Cond.fieldLink RX0 24 "ArmRoom$Arm" "values" "[I", Cond.methodLink RX0 43 yX0_turnOf, Cond.instanceMethod yX0_turnOf, Cond.selects RX0 yX0_turnOf yX0_turnOf, Cond.code yX0_turnOf cX0_turnOf 3 (some .int), Cond.instanceMethod yX2_add, Cond.selects RX2 yX2_add yX2_add, Cond.code yX2_add cX2_add 5 none]
def wsX5_branches_r4 : List Cond := [Cond.methodLink RX2 23 Lib.Math.min.name, Cond.fieldLink RX2 9 "ArmRoom$Ranking" "keys" "[J", Cond.fieldLink RX2 15 "ArmRoom$Ranking" "rows" "[I", Cond.methodLink RX2 33 arraycopyName, Cond.native arraycopyName, Cond.static arraycopyName, Cond.initialized "java/lang/System", Cond.methodLink RX2 29 yX2_moveDown, Cond.instanceMethod yX2_moveDown, Cond.selects RX2 yX2_moveDown yX2_moveDown, Cond.code yX2_moveDown cX2_moveDown 2 none, Cond.methodLink RX3 81 yX3_lead, Cond.instanceMethod yX3_lead, Cond.selects RX3 yX3_lead yX3_lead, Cond.code yX3_lead cX3_lead 6 none, Cond.methodLink RX3 98 Lib.Math.abs.name, Cond.static yX5_cosine, Cond.initialized RX5, Cond.code yX5_cosine cX5_cosine 1 (some .int), Cond.methodLink RX5 202 yX5_sine, Cond.static yX5_sine, Cond.code yX5_sine cX5_sine 3 (some .int), Cond.fieldLink RX5 199 "ArmRoom" "SINES" "[I"]
def wsX5_branches : List Cond := .code yX5_branches cX5_branches 1 (some .int) :: ((wsX5_branches_r1 ++ (wsX5_branches_r2 ++ (wsX5_branches_r3 ++ wsX5_branches_r4))) ++ wsX50 ++ wsX30 ++ wsX20 ++ wsX00 ++ wsX10 ++ (vx_atS RX5 66 "java/lang/IllegalStateException" ["java/lang/RuntimeException", "java/lang/Exception"]).filter goodWord)
def wsX5_findBranch_r1 : List Cond := [Cond.classLink RX5 178 "java/lang/IndexOutOfBoundsException", Cond.initialized "java/lang/IndexOutOfBoundsException", Cond.classLink RX5 47 "java/lang/IllegalArgumentException", Cond.initialized "java/lang/IllegalArgumentException", Cond.classLink RX5 62 "java/lang/IllegalStateException", Cond.initialized "java/lang/IllegalStateException", Cond.fieldLink RX5 10 "ArmRoom" "arm" "LArmRoom$Arm;", Cond.constantLong RX5 154 (40000), Cond.fieldLink RX5 36 "ArmRoom" "search" "LArmRoom$Search;", Cond.fieldLink RX5 19 "ArmRoom" "goal" "LArmRoom$Goal;", Cond.instanceMethod yX0_countPoses, Cond.initialized RX0, Cond.selects RX0 yX0_countPoses yX0_countPoses, Cond.code yX0_countPoses cX0_countPoses 4 (some .long), Cond.fieldLink RX0 27 "ArmRoom$Arm" "count" "I", Cond.fieldLink RX0 21 "ArmRoom$Arm" "highs" "[I", Cond.fieldLink RX0 18 "ArmRoom$Arm" "lows" "[I", Cond.instanceMethod yX3_run, Cond.initialized RX3, Cond.selects RX3 yX3_run yX3_run, Cond.code yX3_run cX3_run 4 none, Cond.fieldLink RX3 12 "ArmRoom$Search" "ranking" "LArmRoom$Ranking;", Cond.instanceMethod yX2_clear, Cond.initialized RX2]
def wsX5_findBranch_r2 : List Cond := [Cond.selects RX2 yX2_clear yX2_clear, Cond.code yX2_clear cX2_clear 1 none, Cond.fieldLink RX2 19 "ArmRoom$Ranking" "found" "I", Cond.methodLink RX3 40 yX3_findReach, Cond.instanceMethod yX3_findReach, Cond.selects RX3 yX3_findReach yX3_findReach, Cond.code yX3_findReach cX3_findReach 4 none, Cond.fieldLink RX3 22 "ArmRoom$Search" "reach" "[I", Cond.instanceMethod yX0_distanceOf, Cond.selects RX0 yX0_distanceOf yX0_distanceOf, Cond.code yX0_distanceOf cX0_distanceOf 3 (some .int), Cond.fieldLink RX0 9 "ArmRoom$Arm" "kinds" "[I", Cond.fieldLink RX0 15 "ArmRoom$Arm" "lengths" "[I", Cond.methodLink RX3 50 yX3_goThrough, Cond.static yX3_goThrough, Cond.code yX3_goThrough cX3_goThrough 6 none, Cond.fieldLink RX3 25 "ArmRoom$Search" "xs" "[I", Cond.fieldLink RX3 28 "ArmRoom$Search" "ys" "[I", Cond.fieldLink RX3 18 "ArmRoom$Search" "pose" "[I", Cond.instanceMethod yX1_isWithin, Cond.initialized RX1, Cond.selects RX1 yX1_isWithin yX1_isWithin, Cond.code yX1_isWithin cX1_isWithin 4 (some .boolean), Cond.fieldLink RX1 15 "ArmRoom$Goal" "x" "I"]
def wsX5_findBranch_r3 : List Cond := [Cond.methodLink RX1 21 Lib.Math.abs.name, Cond.static Lib.Math.abs.name, Cond.initialized "java/lang/Math", Cond.code Lib.Math.abs.name Lib.Math.abs.code 1 (some .int), Cond.fieldLink RX1 18 "ArmRoom$Goal" "y" "I", Cond.methodLink RX3 70 yX3_keyOf, Cond.instanceMethod yX3_keyOf, Cond.selects RX3 yX3_keyOf yX3_keyOf, Cond.code yX3_keyOf cX3_keyOf 6 (some .long), Cond.fieldLink RX3 34 "ArmRoom$Search" "ways" "[I", Cond.fieldLink RX3 31 "ArmRoom$Search" "headings" "[I", Cond.methodLink RX3 110 Lib.Math.min.name, Cond.static Lib.Math.min.name, Cond.code Lib.Math.min.name Lib.Math.min.code 2 (some .int), Cond.instanceMethod yX1_farFrom, Cond.selects RX1 yX1_farFrom yX1_farFrom, Cond.code yX1_farFrom cX1_farFrom 7 (some .long), Cond.instanceMethod yX0_headingAt, Cond.selects RX0 yX0_headingAt yX0_headingAt, Cond.code yX0_headingAt cX0_headingAt 4 (some .int), Cond.fieldLink RX0 24 "ArmRoom$Arm" "values" "[I", Cond.methodLink RX0 43 yX0_turnOf, Cond.instanceMethod yX0_turnOf, Cond.selects RX0 yX0_turnOf yX0_turnOf]
def wsX5_findBranch_r4 : List Cond := [Cond.code yX0_turnOf cX0_turnOf 3 (some .int), Cond.instanceMethod yX2_add, Cond.selects RX2 yX2_add yX2_add, Cond.code yX2_add cX2_add 5 none, Cond.methodLink RX2 23 Lib.Math.min.name, Cond.fieldLink RX2 9 "ArmRoom$Ranking" "keys" "[J", Cond.fieldLink RX2 15 "ArmRoom$Ranking" "rows" "[I", Cond.methodLink RX2 33 arraycopyName, Cond.native arraycopyName, Cond.static arraycopyName, Cond.initialized "java/lang/System", Cond.methodLink RX2 29 yX2_moveDown, Cond.instanceMethod yX2_moveDown, Cond.selects RX2 yX2_moveDown yX2_moveDown, Cond.code yX2_moveDown cX2_moveDown 2 none, Cond.methodLink RX3 81 yX3_lead, Cond.instanceMethod yX3_lead, Cond.selects RX3 yX3_lead yX3_lead, Cond.code yX3_lead cX3_lead 6 none, Cond.methodLink RX3 98 Lib.Math.abs.name, Cond.static yX5_cosine, Cond.initialized RX5, Cond.code yX5_cosine cX5_cosine 1 (some .int), Cond.methodLink RX5 202 yX5_sine]
def wsX5_findBranch_r5 : List Cond := [Cond.static yX5_sine, Cond.code yX5_sine cX5_sine 3 (some .int), Cond.fieldLink RX5 199 "ArmRoom" "SINES" "[I"]
def wsX5_findBranch : List Cond := .code yX5_findBranch cX5_findBranch 4 none :: ((wsX5_findBranch_r1 ++ (wsX5_findBranch_r2 ++ (wsX5_findBranch_r3 ++ (wsX5_findBranch_r4 ++ wsX5_findBranch_r5)))) ++ wsX50 ++ wsX30 ++ wsX20 ++ wsX00 ++ wsX10 ++ (vx_atS RX5 182 "java/lang/IndexOutOfBoundsException" ["java/lang/RuntimeException", "java/lang/Exception"]).filter goodWord ++ (vx_atS RX5 51 "java/lang/IllegalArgumentException" ["java/lang/RuntimeException", "java/lang/Exception"]).filter goodWord ++ (vx_atS RX5 66 "java/lang/IllegalStateException" ["java/lang/RuntimeException", "java/lang/Exception"]).filter goodWord)
def wsX5_branch_r1 : List Cond := [Cond.fieldLink RX5 36 "ArmRoom" "search" "LArmRoom$Search;", Cond.methodLink RX5 71 yX5_checkJoint, Cond.instanceMethod yX5_checkJoint, Cond.selects RX5 yX5_checkJoint yX5_checkJoint, Cond.initialized RX5, Cond.code yX5_checkJoint cX5_checkJoint 2 none, Cond.classLink RX5 178 "java/lang/IndexOutOfBoundsException", Cond.initialized "java/lang/IndexOutOfBoundsException", Cond.fieldLink RX5 10 "ArmRoom" "arm" "LArmRoom$Arm;", Cond.methodLink RX5 171 yX5_findBranch, Cond.instanceMethod yX5_findBranch, Cond.selects RX5 yX5_findBranch yX5_findBranch, Cond.code yX5_findBranch cX5_findBranch 4 none, Cond.classLink RX5 47 "java/lang/IllegalArgumentException", Cond.initialized "java/lang/IllegalArgumentException", Cond.classLink RX5 62 "java/lang/IllegalStateException", Cond.initialized "java/lang/IllegalStateException", Cond.constantLong RX5 154 (40000), Cond.fieldLink RX5 19 "ArmRoom" "goal" "LArmRoom$Goal;", Cond.instanceMethod yX0_countPoses, Cond.initialized RX0, Cond.selects RX0 yX0_countPoses yX0_countPoses, Cond.code yX0_countPoses cX0_countPoses 4 (some .long), Cond.fieldLink RX0 27 "ArmRoom$Arm" "count" "I"]
def wsX5_branch_r2 : List Cond := [Cond.fieldLink RX0 21 "ArmRoom$Arm" "highs" "[I", Cond.fieldLink RX0 18 "ArmRoom$Arm" "lows" "[I", Cond.instanceMethod yX3_run, Cond.initialized RX3, Cond.selects RX3 yX3_run yX3_run, Cond.code yX3_run cX3_run 4 none, Cond.fieldLink RX3 12 "ArmRoom$Search" "ranking" "LArmRoom$Ranking;", Cond.instanceMethod yX2_clear, Cond.initialized RX2, Cond.selects RX2 yX2_clear yX2_clear, Cond.code yX2_clear cX2_clear 1 none, Cond.fieldLink RX2 19 "ArmRoom$Ranking" "found" "I", Cond.methodLink RX3 40 yX3_findReach, Cond.instanceMethod yX3_findReach, Cond.selects RX3 yX3_findReach yX3_findReach, Cond.code yX3_findReach cX3_findReach 4 none, Cond.fieldLink RX3 22 "ArmRoom$Search" "reach" "[I", Cond.instanceMethod yX0_distanceOf, Cond.selects RX0 yX0_distanceOf yX0_distanceOf, Cond.code yX0_distanceOf cX0_distanceOf 3 (some .int), Cond.fieldLink RX0 9 "ArmRoom$Arm" "kinds" "[I", Cond.fieldLink RX0 15 "ArmRoom$Arm" "lengths" "[I", Cond.methodLink RX3 50 yX3_goThrough, Cond.static yX3_goThrough]
def wsX5_branch_r3 : List Cond := [Cond.code yX3_goThrough cX3_goThrough 6 none, Cond.fieldLink RX3 25 "ArmRoom$Search" "xs" "[I", Cond.fieldLink RX3 28 "ArmRoom$Search" "ys" "[I", Cond.fieldLink RX3 18 "ArmRoom$Search" "pose" "[I", Cond.instanceMethod yX1_isWithin, Cond.initialized RX1, Cond.selects RX1 yX1_isWithin yX1_isWithin, Cond.code yX1_isWithin cX1_isWithin 4 (some .boolean), Cond.fieldLink RX1 15 "ArmRoom$Goal" "x" "I", Cond.methodLink RX1 21 Lib.Math.abs.name, Cond.static Lib.Math.abs.name, Cond.initialized "java/lang/Math", Cond.code Lib.Math.abs.name Lib.Math.abs.code 1 (some .int), Cond.fieldLink RX1 18 "ArmRoom$Goal" "y" "I", Cond.methodLink RX3 70 yX3_keyOf, Cond.instanceMethod yX3_keyOf, Cond.selects RX3 yX3_keyOf yX3_keyOf, Cond.code yX3_keyOf cX3_keyOf 6 (some .long), Cond.fieldLink RX3 34 "ArmRoom$Search" "ways" "[I", Cond.fieldLink RX3 31 "ArmRoom$Search" "headings" "[I", Cond.methodLink RX3 110 Lib.Math.min.name, Cond.static Lib.Math.min.name, Cond.code Lib.Math.min.name Lib.Math.min.code 2 (some .int), Cond.instanceMethod yX1_farFrom]
def wsX5_branch_r4 : List Cond := [Cond.selects RX1 yX1_farFrom yX1_farFrom, Cond.code yX1_farFrom cX1_farFrom 7 (some .long), Cond.instanceMethod yX0_headingAt, Cond.selects RX0 yX0_headingAt yX0_headingAt, Cond.code yX0_headingAt cX0_headingAt 4 (some .int), Cond.fieldLink RX0 24 "ArmRoom$Arm" "values" "[I", Cond.methodLink RX0 43 yX0_turnOf, Cond.instanceMethod yX0_turnOf, Cond.selects RX0 yX0_turnOf yX0_turnOf, Cond.code yX0_turnOf cX0_turnOf 3 (some .int), Cond.instanceMethod yX2_add, Cond.selects RX2 yX2_add yX2_add, Cond.code yX2_add cX2_add 5 none, Cond.methodLink RX2 23 Lib.Math.min.name, Cond.fieldLink RX2 9 "ArmRoom$Ranking" "keys" "[J", Cond.fieldLink RX2 15 "ArmRoom$Ranking" "rows" "[I", Cond.methodLink RX2 33 arraycopyName, Cond.native arraycopyName, Cond.static arraycopyName, Cond.initialized "java/lang/System", Cond.methodLink RX2 29 yX2_moveDown, Cond.instanceMethod yX2_moveDown, Cond.selects RX2 yX2_moveDown yX2_moveDown, Cond.code yX2_moveDown cX2_moveDown 2 none]
def wsX5_branch_r5 : List Cond := [Cond.methodLink RX3 81 yX3_lead, Cond.instanceMethod yX3_lead, Cond.selects RX3 yX3_lead yX3_lead, Cond.code yX3_lead cX3_lead 6 none, Cond.methodLink RX3 98 Lib.Math.abs.name, Cond.static yX5_cosine, Cond.code yX5_cosine cX5_cosine 1 (some .int), Cond.methodLink RX5 202 yX5_sine, Cond.static yX5_sine, Cond.code yX5_sine cX5_sine 3 (some .int), Cond.fieldLink RX5 199 "ArmRoom" "SINES" "[I", Cond.instanceMethod yX2_valueOf, Cond.selects RX2 yX2_valueOf yX2_valueOf, Cond.code yX2_valueOf cX2_valueOf 3 (some .int)]
def wsX5_branch : List Cond := .code yX5_branch cX5_branch 4 (some .int) :: ((wsX5_branch_r1 ++ (wsX5_branch_r2 ++ (wsX5_branch_r3 ++ (wsX5_branch_r4 ++ wsX5_branch_r5)))) ++ wsX50 ++ wsX30 ++ wsX00 ++ wsX20 ++ wsX10 ++ (vx_atS RX5 182 "java/lang/IndexOutOfBoundsException" ["java/lang/RuntimeException", "java/lang/Exception"]).filter goodWord ++ (vx_atS RX5 51 "java/lang/IllegalArgumentException" ["java/lang/RuntimeException", "java/lang/Exception"]).filter goodWord ++ (vx_atS RX5 66 "java/lang/IllegalStateException" ["java/lang/RuntimeException", "java/lang/Exception"]).filter goodWord)
def wsX5_take_r1 : List Cond := [Cond.fieldLink RX5 10 "ArmRoom" "arm" "LArmRoom$Arm;", Cond.fieldLink RX5 36 "ArmRoom" "search" "LArmRoom$Search;", Cond.methodLink RX5 171 yX5_findBranch, Cond.instanceMethod yX5_findBranch, Cond.selects RX5 yX5_findBranch yX5_findBranch, Cond.initialized RX5, Cond.code yX5_findBranch cX5_findBranch 4 none, Cond.classLink RX5 178 "java/lang/IndexOutOfBoundsException", Cond.initialized "java/lang/IndexOutOfBoundsException", Cond.classLink RX5 47 "java/lang/IllegalArgumentException", Cond.initialized "java/lang/IllegalArgumentException", Cond.classLink RX5 62 "java/lang/IllegalStateException", Cond.initialized "java/lang/IllegalStateException", Cond.constantLong RX5 154 (40000), Cond.fieldLink RX5 19 "ArmRoom" "goal" "LArmRoom$Goal;", Cond.instanceMethod yX0_countPoses, Cond.initialized RX0, Cond.selects RX0 yX0_countPoses yX0_countPoses, Cond.code yX0_countPoses cX0_countPoses 4 (some .long), Cond.fieldLink RX0 27 "ArmRoom$Arm" "count" "I", Cond.fieldLink RX0 21 "ArmRoom$Arm" "highs" "[I", Cond.fieldLink RX0 18 "ArmRoom$Arm" "lows" "[I", Cond.instanceMethod yX3_run, Cond.initialized RX3]
def wsX5_take_r2 : List Cond := [Cond.selects RX3 yX3_run yX3_run, Cond.code yX3_run cX3_run 4 none, Cond.fieldLink RX3 12 "ArmRoom$Search" "ranking" "LArmRoom$Ranking;", Cond.instanceMethod yX2_clear, Cond.initialized RX2, Cond.selects RX2 yX2_clear yX2_clear, Cond.code yX2_clear cX2_clear 1 none, Cond.fieldLink RX2 19 "ArmRoom$Ranking" "found" "I", Cond.methodLink RX3 40 yX3_findReach, Cond.instanceMethod yX3_findReach, Cond.selects RX3 yX3_findReach yX3_findReach, Cond.code yX3_findReach cX3_findReach 4 none, Cond.fieldLink RX3 22 "ArmRoom$Search" "reach" "[I", Cond.instanceMethod yX0_distanceOf, Cond.selects RX0 yX0_distanceOf yX0_distanceOf, Cond.code yX0_distanceOf cX0_distanceOf 3 (some .int), Cond.fieldLink RX0 9 "ArmRoom$Arm" "kinds" "[I", Cond.fieldLink RX0 15 "ArmRoom$Arm" "lengths" "[I", Cond.methodLink RX3 50 yX3_goThrough, Cond.static yX3_goThrough, Cond.code yX3_goThrough cX3_goThrough 6 none, Cond.fieldLink RX3 25 "ArmRoom$Search" "xs" "[I", Cond.fieldLink RX3 28 "ArmRoom$Search" "ys" "[I", Cond.fieldLink RX3 18 "ArmRoom$Search" "pose" "[I"]
def wsX5_take_r3 : List Cond := [Cond.instanceMethod yX1_isWithin, Cond.initialized RX1, Cond.selects RX1 yX1_isWithin yX1_isWithin, Cond.code yX1_isWithin cX1_isWithin 4 (some .boolean), Cond.fieldLink RX1 15 "ArmRoom$Goal" "x" "I", Cond.methodLink RX1 21 Lib.Math.abs.name, Cond.static Lib.Math.abs.name, Cond.initialized "java/lang/Math", Cond.code Lib.Math.abs.name Lib.Math.abs.code 1 (some .int), Cond.fieldLink RX1 18 "ArmRoom$Goal" "y" "I", Cond.methodLink RX3 70 yX3_keyOf, Cond.instanceMethod yX3_keyOf, Cond.selects RX3 yX3_keyOf yX3_keyOf, Cond.code yX3_keyOf cX3_keyOf 6 (some .long), Cond.fieldLink RX3 34 "ArmRoom$Search" "ways" "[I", Cond.fieldLink RX3 31 "ArmRoom$Search" "headings" "[I", Cond.methodLink RX3 110 Lib.Math.min.name, Cond.static Lib.Math.min.name, Cond.code Lib.Math.min.name Lib.Math.min.code 2 (some .int), Cond.instanceMethod yX1_farFrom, Cond.selects RX1 yX1_farFrom yX1_farFrom, Cond.code yX1_farFrom cX1_farFrom 7 (some .long), Cond.instanceMethod yX0_headingAt, Cond.selects RX0 yX0_headingAt yX0_headingAt]
def wsX5_take_r4 : List Cond := [Cond.code yX0_headingAt cX0_headingAt 4 (some .int), Cond.fieldLink RX0 24 "ArmRoom$Arm" "values" "[I", Cond.methodLink RX0 43 yX0_turnOf, Cond.instanceMethod yX0_turnOf, Cond.selects RX0 yX0_turnOf yX0_turnOf, Cond.code yX0_turnOf cX0_turnOf 3 (some .int), Cond.instanceMethod yX2_add, Cond.selects RX2 yX2_add yX2_add, Cond.code yX2_add cX2_add 5 none, Cond.methodLink RX2 23 Lib.Math.min.name, Cond.fieldLink RX2 9 "ArmRoom$Ranking" "keys" "[J", Cond.fieldLink RX2 15 "ArmRoom$Ranking" "rows" "[I", Cond.methodLink RX2 33 arraycopyName, Cond.native arraycopyName, Cond.static arraycopyName, Cond.initialized "java/lang/System", Cond.methodLink RX2 29 yX2_moveDown, Cond.instanceMethod yX2_moveDown, Cond.selects RX2 yX2_moveDown yX2_moveDown, Cond.code yX2_moveDown cX2_moveDown 2 none, Cond.methodLink RX3 81 yX3_lead, Cond.instanceMethod yX3_lead, Cond.selects RX3 yX3_lead yX3_lead, Cond.code yX3_lead cX3_lead 6 none]
def wsX5_take_r5 : List Cond := [Cond.methodLink RX3 98 Lib.Math.abs.name, Cond.static yX5_cosine, Cond.code yX5_cosine cX5_cosine 1 (some .int), Cond.methodLink RX5 202 yX5_sine, Cond.static yX5_sine, Cond.code yX5_sine cX5_sine 3 (some .int), Cond.fieldLink RX5 199 "ArmRoom" "SINES" "[I", Cond.instanceMethod yX2_valueOf, Cond.selects RX2 yX2_valueOf yX2_valueOf, Cond.code yX2_valueOf cX2_valueOf 3 (some .int), Cond.methodLink RX5 132 yX5_farNow, Cond.instanceMethod yX5_farNow, Cond.selects RX5 yX5_farNow yX5_farNow, Cond.code yX5_farNow cX5_farNow 1 (some .long), Cond.fieldLink RX5 26 "ArmRoom" "now" "LArmRoom$Tip;", Cond.instanceMethod yX4_follow, Cond.initialized RX4, Cond.selects RX4 yX4_follow yX4_follow, Cond.code yX4_follow cX4_follow 2 none, Cond.methodLink RX4 28 yX4_followWith, Cond.instanceMethod yX4_followWith, Cond.selects RX4 yX4_followWith yX4_followWith, Cond.code yX4_followWith cX4_followWith 6 none, Cond.fieldLink RX4 18 "ArmRoom$Tip" "heading" "I"]
def wsX5_take_r6 : List Cond := [Cond.methodLink RX4 32 yX4_start, Cond.instanceMethod yX4_start, Cond.selects RX4 yX4_start yX4_start, Cond.code yX4_start cX4_start 1 none, Cond.fieldLink RX4 9 "ArmRoom$Tip" "x" "I", Cond.fieldLink RX4 15 "ArmRoom$Tip" "y" "I", Cond.methodLink RX4 51 yX4_go, Cond.instanceMethod yX4_go, Cond.selects RX4 yX4_go yX4_go, Cond.code yX4_go cX4_go 3 none]
def wsX5_take : List Cond := .code yX5_take cX5_take 4 (some .long) :: ((wsX5_take_r1 ++ (wsX5_take_r2 ++ (wsX5_take_r3 ++ (wsX5_take_r4 ++ (wsX5_take_r5 ++ wsX5_take_r6))))) ++ wsX50 ++ wsX00 ++ wsX30 ++ wsX20 ++ wsX10 ++ wsX40 ++ (vx_atS RX5 182 "java/lang/IndexOutOfBoundsException" ["java/lang/RuntimeException", "java/lang/Exception"]).filter goodWord ++ (vx_atS RX5 51 "java/lang/IllegalArgumentException" ["java/lang/RuntimeException", "java/lang/Exception"]).filter goodWord ++ (vx_atS RX5 66 "java/lang/IllegalStateException" ["java/lang/RuntimeException", "java/lang/Exception"]).filter goodWord)
def wsX6_init : List Cond := .code yX6_init cX6_init 1 none :: ([.methodLink RX6 1 objectInit, .instanceMethod objectInit, .code objectInit ⟨#[0xb1]⟩ 1 none, .arrayClass .int, .fieldLink RX6 7 "ArmRoomModel" "kind" "[I", .fieldLink RX6 13 "ArmRoomModel" "length" "[I", .fieldLink RX6 16 "ArmRoomModel" "low" "[I", .fieldLink RX6 19 "ArmRoomModel" "high" "[I", .fieldLink RX6 22 "ArmRoomModel" "value" "[I", .fieldLink RX6 25 "ArmRoomModel" "slack" "I", .fieldLink RX6 29 "ArmRoomModel" "pose" "[I", .fieldLink RX6 32 "ArmRoomModel" "moveX" "[I", .fieldLink RX6 35 "ArmRoomModel" "moveY" "[I", .arrayClass .long, .fieldLink RX6 38 "ArmRoomModel" "key" "[J", .fieldLink RX6 42 "ArmRoomModel" "which" "[I"] ++ wsX60)
def wsX6_thrown : List Cond := .code yX6_thrown cX6_thrown 1 (some .int) :: ([.fieldLink RX6 45 "ArmRoomModel" "thrown" "I"] ++ wsX60)
def wsX6_in : List Cond := .code yX6_in cX6_in 3 (some .boolean) :: ([])
def wsX6_isJoint : List Cond := .code yX6_isJoint cX6_isJoint 2 (some .boolean) :: ([.fieldLink RX6 48 "ArmRoomModel" "joints" "I", .methodLink RX6 51 yX6_in, .static yX6_in, .initialized RX6, .code yX6_in cX6_in 3 (some .boolean)] ++ wsX60)
def wsX6_quarter : List Cond := .code yX6_quarter cX6_quarter 1 (some .int) :: ([])
def wsX6_sine : List Cond := .code yX6_sine cX6_sine 4 (some .int) :: ([.methodLink RX6 55 yX6_quarter, .static yX6_quarter, .initialized RX6, .code yX6_quarter cX6_quarter 1 (some .int)])
def wsX6_told : List Cond := .code yX6_told cX6_told 1 (some .int) :: ([])
def wsX6_copiesPose : List Cond := .code yX6_copiesPose cX6_copiesPose 2 none :: ([.fieldLink RX6 48 "ArmRoomModel" "joints" "I", .fieldLink RX6 29 "ArmRoomModel" "pose" "[I", .fieldLink RX6 22 "ArmRoomModel" "value" "[I"] ++ wsX60)
def wsX6_looks : List Cond := .code yX6_looks cX6_looks 3 none :: ([.fieldLink RX6 59 "ArmRoomModel" "x" "I", .fieldLink RX6 62 "ArmRoomModel" "y" "I", .fieldLink RX6 65 "ArmRoomModel" "heading" "I", .fieldLink RX6 48 "ArmRoomModel" "joints" "I", .fieldLink RX6 13 "ArmRoomModel" "length" "[I", .fieldLink RX6 7 "ArmRoomModel" "kind" "[I", .fieldLink RX6 29 "ArmRoomModel" "pose" "[I", .methodLink RX6 68 yX6_told, .static yX6_told, .initialized RX6, .code yX6_told cX6_told 1 (some .int), .methodLink RX6 71 yX6_sine, .static yX6_sine, .code yX6_sine cX6_sine 4 (some .int), .methodLink RX6 55 yX6_quarter, .static yX6_quarter, .code yX6_quarter cX6_quarter 1 (some .int)] ++ wsX60)
def wsX6_looksNow_r1 : List Cond := [Cond.methodLink RX6 74 yX6_copiesPose, Cond.instanceMethod yX6_copiesPose, Cond.selects RX6 yX6_copiesPose yX6_copiesPose, Cond.initialized RX6, Cond.code yX6_copiesPose cX6_copiesPose 2 none, Cond.fieldLink RX6 48 "ArmRoomModel" "joints" "I", Cond.fieldLink RX6 29 "ArmRoomModel" "pose" "[I", Cond.fieldLink RX6 22 "ArmRoomModel" "value" "[I", Cond.methodLink RX6 77 yX6_looks, Cond.instanceMethod yX6_looks, Cond.selects RX6 yX6_looks yX6_looks, Cond.code yX6_looks cX6_looks 3 none, Cond.fieldLink RX6 59 "ArmRoomModel" "x" "I", Cond.fieldLink RX6 62 "ArmRoomModel" "y" "I", Cond.fieldLink RX6 65 "ArmRoomModel" "heading" "I", Cond.fieldLink RX6 13 "ArmRoomModel" "length" "[I", Cond.fieldLink RX6 7 "ArmRoomModel" "kind" "[I", Cond.methodLink RX6 68 yX6_told, Cond.static yX6_told, Cond.code yX6_told cX6_told 1 (some .int), Cond.methodLink RX6 71 yX6_sine, Cond.static yX6_sine, Cond.code yX6_sine cX6_sine 4 (some .int), Cond.methodLink RX6 55 yX6_quarter]
def wsX6_looksNow_r2 : List Cond := [Cond.static yX6_quarter, Cond.code yX6_quarter cX6_quarter 1 (some .int)]
def wsX6_looksNow : List Cond := .code yX6_looksNow cX6_looksNow 1 none :: ((wsX6_looksNow_r1 ++ wsX6_looksNow_r2) ++ wsX60)
def wsX6_farness : List Cond := .code yX6_farness cX6_farness 5 (some .long) :: ([.fieldLink RX6 59 "ArmRoomModel" "x" "I", .fieldLink RX6 80 "ArmRoomModel" "goalX" "I", .fieldLink RX6 62 "ArmRoomModel" "y" "I", .fieldLink RX6 83 "ArmRoomModel" "goalY" "I"] ++ wsX60)
def wsX6_farNow_r1 : List Cond := [Cond.methodLink RX6 86 yX6_looksNow, Cond.instanceMethod yX6_looksNow, Cond.selects RX6 yX6_looksNow yX6_looksNow, Cond.initialized RX6, Cond.code yX6_looksNow cX6_looksNow 1 none, Cond.methodLink RX6 74 yX6_copiesPose, Cond.instanceMethod yX6_copiesPose, Cond.selects RX6 yX6_copiesPose yX6_copiesPose, Cond.code yX6_copiesPose cX6_copiesPose 2 none, Cond.fieldLink RX6 48 "ArmRoomModel" "joints" "I", Cond.fieldLink RX6 29 "ArmRoomModel" "pose" "[I", Cond.fieldLink RX6 22 "ArmRoomModel" "value" "[I", Cond.methodLink RX6 77 yX6_looks, Cond.instanceMethod yX6_looks, Cond.selects RX6 yX6_looks yX6_looks, Cond.code yX6_looks cX6_looks 3 none, Cond.fieldLink RX6 59 "ArmRoomModel" "x" "I", Cond.fieldLink RX6 62 "ArmRoomModel" "y" "I", Cond.fieldLink RX6 65 "ArmRoomModel" "heading" "I", Cond.fieldLink RX6 13 "ArmRoomModel" "length" "[I", Cond.fieldLink RX6 7 "ArmRoomModel" "kind" "[I", Cond.methodLink RX6 68 yX6_told, Cond.static yX6_told, Cond.code yX6_told cX6_told 1 (some .int)]
def wsX6_farNow_r2 : List Cond := [Cond.methodLink RX6 71 yX6_sine, Cond.static yX6_sine, Cond.code yX6_sine cX6_sine 4 (some .int), Cond.methodLink RX6 55 yX6_quarter, Cond.static yX6_quarter, Cond.code yX6_quarter cX6_quarter 1 (some .int), Cond.methodLink RX6 89 yX6_farness, Cond.instanceMethod yX6_farness, Cond.selects RX6 yX6_farness yX6_farness, Cond.code yX6_farness cX6_farness 5 (some .long), Cond.fieldLink RX6 80 "ArmRoomModel" "goalX" "I", Cond.fieldLink RX6 83 "ArmRoomModel" "goalY" "I"]
def wsX6_farNow : List Cond := .code yX6_farNow cX6_farNow 1 (some .long) :: ((wsX6_farNow_r1 ++ wsX6_farNow_r2) ++ wsX60)
def wsX6_farWith_r1 : List Cond := [Cond.fieldLink RX6 29 "ArmRoomModel" "pose" "[I", Cond.methodLink RX6 74 yX6_copiesPose, Cond.instanceMethod yX6_copiesPose, Cond.selects RX6 yX6_copiesPose yX6_copiesPose, Cond.initialized RX6, Cond.code yX6_copiesPose cX6_copiesPose 2 none, Cond.fieldLink RX6 48 "ArmRoomModel" "joints" "I", Cond.fieldLink RX6 22 "ArmRoomModel" "value" "[I", Cond.methodLink RX6 77 yX6_looks, Cond.instanceMethod yX6_looks, Cond.selects RX6 yX6_looks yX6_looks, Cond.code yX6_looks cX6_looks 3 none, Cond.fieldLink RX6 59 "ArmRoomModel" "x" "I", Cond.fieldLink RX6 62 "ArmRoomModel" "y" "I", Cond.fieldLink RX6 65 "ArmRoomModel" "heading" "I", Cond.fieldLink RX6 13 "ArmRoomModel" "length" "[I", Cond.fieldLink RX6 7 "ArmRoomModel" "kind" "[I", Cond.methodLink RX6 68 yX6_told, Cond.static yX6_told, Cond.code yX6_told cX6_told 1 (some .int), Cond.methodLink RX6 71 yX6_sine, Cond.static yX6_sine, Cond.code yX6_sine cX6_sine 4 (some .int), Cond.methodLink RX6 55 yX6_quarter]
def wsX6_farWith_r2 : List Cond := [Cond.static yX6_quarter, Cond.code yX6_quarter cX6_quarter 1 (some .int), Cond.methodLink RX6 89 yX6_farness, Cond.instanceMethod yX6_farness, Cond.selects RX6 yX6_farness yX6_farness, Cond.code yX6_farness cX6_farness 5 (some .long), Cond.fieldLink RX6 80 "ArmRoomModel" "goalX" "I", Cond.fieldLink RX6 83 "ArmRoomModel" "goalY" "I"]
def wsX6_farWith : List Cond := .code yX6_farWith cX6_farWith 3 (some .long) :: ((wsX6_farWith_r1 ++ wsX6_farWith_r2) ++ wsX60)
def wsX6_most : List Cond := .code yX6_most cX6_most 1 (some .int) :: ([])
def wsX6_held : List Cond := .code yX6_held cX6_held 3 (some .int) :: ([])
def wsX6_joint : List Cond := .code yX6_joint cX6_joint 6 (some .int) :: ([.fieldLink RX6 48 "ArmRoomModel" "joints" "I", .fieldLink RX6 45 "ArmRoomModel" "thrown" "I", .fieldLink RX6 7 "ArmRoomModel" "kind" "[I", .fieldLink RX6 13 "ArmRoomModel" "length" "[I", .fieldLink RX6 16 "ArmRoomModel" "low" "[I", .fieldLink RX6 19 "ArmRoomModel" "high" "[I", .fieldLink RX6 22 "ArmRoomModel" "value" "[I", .methodLink RX6 51 yX6_in, .static yX6_in, .initialized RX6, .code yX6_in cX6_in 3 (some .boolean), .methodLink RX6 93 yX6_most, .static yX6_most, .code yX6_most cX6_most 1 (some .int), .methodLink RX6 96 yX6_held, .static yX6_held, .code yX6_held cX6_held 3 (some .int)] ++ wsX60)
def wsX6_set : List Cond := .code yX6_set cX6_set 4 (some .int) :: ([.fieldLink RX6 16 "ArmRoomModel" "low" "[I", .fieldLink RX6 19 "ArmRoomModel" "high" "[I", .fieldLink RX6 45 "ArmRoomModel" "thrown" "I", .fieldLink RX6 22 "ArmRoomModel" "value" "[I", .methodLink RX6 100 yX6_isJoint, .instanceMethod yX6_isJoint, .selects RX6 yX6_isJoint yX6_isJoint, .initialized RX6, .code yX6_isJoint cX6_isJoint 2 (some .boolean), .fieldLink RX6 48 "ArmRoomModel" "joints" "I", .methodLink RX6 51 yX6_in, .static yX6_in, .code yX6_in cX6_in 3 (some .boolean)] ++ wsX60)
def wsX6_value : List Cond := .code yX6_value cX6_value 2 (some .int) :: ([.fieldLink RX6 45 "ArmRoomModel" "thrown" "I", .fieldLink RX6 22 "ArmRoomModel" "value" "[I", .methodLink RX6 100 yX6_isJoint, .instanceMethod yX6_isJoint, .selects RX6 yX6_isJoint yX6_isJoint, .initialized RX6, .code yX6_isJoint cX6_isJoint 2 (some .boolean), .fieldLink RX6 48 "ArmRoomModel" "joints" "I", .methodLink RX6 51 yX6_in, .static yX6_in, .code yX6_in cX6_in 3 (some .boolean)] ++ wsX60)
def wsX6_tip_r1 : List Cond := [Cond.fieldLink RX6 45 "ArmRoomModel" "thrown" "I", Cond.fieldLink RX6 59 "ArmRoomModel" "x" "I", Cond.fieldLink RX6 62 "ArmRoomModel" "y" "I", Cond.fieldLink RX6 65 "ArmRoomModel" "heading" "I", Cond.methodLink RX6 51 yX6_in, Cond.static yX6_in, Cond.initialized RX6, Cond.code yX6_in cX6_in 3 (some .boolean), Cond.methodLink RX6 86 yX6_looksNow, Cond.instanceMethod yX6_looksNow, Cond.selects RX6 yX6_looksNow yX6_looksNow, Cond.code yX6_looksNow cX6_looksNow 1 none, Cond.methodLink RX6 74 yX6_copiesPose, Cond.instanceMethod yX6_copiesPose, Cond.selects RX6 yX6_copiesPose yX6_copiesPose, Cond.code yX6_copiesPose cX6_copiesPose 2 none, Cond.fieldLink RX6 48 "ArmRoomModel" "joints" "I", Cond.fieldLink RX6 29 "ArmRoomModel" "pose" "[I", Cond.fieldLink RX6 22 "ArmRoomModel" "value" "[I", Cond.methodLink RX6 77 yX6_looks, Cond.instanceMethod yX6_looks, Cond.selects RX6 yX6_looks yX6_looks, Cond.code yX6_looks cX6_looks 3 none, Cond.fieldLink RX6 13 "ArmRoomModel" "length" "[I"]
def wsX6_tip_r2 : List Cond := [Cond.fieldLink RX6 7 "ArmRoomModel" "kind" "[I", Cond.methodLink RX6 68 yX6_told, Cond.static yX6_told, Cond.code yX6_told cX6_told 1 (some .int), Cond.methodLink RX6 71 yX6_sine, Cond.static yX6_sine, Cond.code yX6_sine cX6_sine 4 (some .int), Cond.methodLink RX6 55 yX6_quarter, Cond.static yX6_quarter, Cond.code yX6_quarter cX6_quarter 1 (some .int)]
def wsX6_tip : List Cond := .code yX6_tip cX6_tip 2 (some .int) :: ((wsX6_tip_r1 ++ wsX6_tip_r2) ++ wsX60)
def wsX6_tipAnew_r1 : List Cond := [Cond.methodLink RX6 104 yX6_tip, Cond.instanceMethod yX6_tip, Cond.selects RX6 yX6_tip yX6_tip, Cond.initialized RX6, Cond.code yX6_tip cX6_tip 2 (some .int), Cond.fieldLink RX6 45 "ArmRoomModel" "thrown" "I", Cond.fieldLink RX6 59 "ArmRoomModel" "x" "I", Cond.fieldLink RX6 62 "ArmRoomModel" "y" "I", Cond.fieldLink RX6 65 "ArmRoomModel" "heading" "I", Cond.methodLink RX6 51 yX6_in, Cond.static yX6_in, Cond.code yX6_in cX6_in 3 (some .boolean), Cond.methodLink RX6 86 yX6_looksNow, Cond.instanceMethod yX6_looksNow, Cond.selects RX6 yX6_looksNow yX6_looksNow, Cond.code yX6_looksNow cX6_looksNow 1 none, Cond.methodLink RX6 74 yX6_copiesPose, Cond.instanceMethod yX6_copiesPose, Cond.selects RX6 yX6_copiesPose yX6_copiesPose, Cond.code yX6_copiesPose cX6_copiesPose 2 none, Cond.fieldLink RX6 48 "ArmRoomModel" "joints" "I", Cond.fieldLink RX6 29 "ArmRoomModel" "pose" "[I", Cond.fieldLink RX6 22 "ArmRoomModel" "value" "[I", Cond.methodLink RX6 77 yX6_looks]
def wsX6_tipAnew_r2 : List Cond := [Cond.instanceMethod yX6_looks, Cond.selects RX6 yX6_looks yX6_looks, Cond.code yX6_looks cX6_looks 3 none, Cond.fieldLink RX6 13 "ArmRoomModel" "length" "[I", Cond.fieldLink RX6 7 "ArmRoomModel" "kind" "[I", Cond.methodLink RX6 68 yX6_told, Cond.static yX6_told, Cond.code yX6_told cX6_told 1 (some .int), Cond.methodLink RX6 71 yX6_sine, Cond.static yX6_sine, Cond.code yX6_sine cX6_sine 4 (some .int), Cond.methodLink RX6 55 yX6_quarter, Cond.static yX6_quarter, Cond.code yX6_quarter cX6_quarter 1 (some .int)]
def wsX6_tipAnew : List Cond := .code yX6_tipAnew cX6_tipAnew 2 (some .int) :: ((wsX6_tipAnew_r1 ++ wsX6_tipAnew_r2) ++ wsX60)
def wsX6_findsMoves_r1 : List Cond := [Cond.fieldLink RX6 59 "ArmRoomModel" "x" "I", Cond.fieldLink RX6 62 "ArmRoomModel" "y" "I", Cond.fieldLink RX6 48 "ArmRoomModel" "joints" "I", Cond.fieldLink RX6 29 "ArmRoomModel" "pose" "[I", Cond.fieldLink RX6 32 "ArmRoomModel" "moveX" "[I", Cond.fieldLink RX6 35 "ArmRoomModel" "moveY" "[I", Cond.methodLink RX6 86 yX6_looksNow, Cond.instanceMethod yX6_looksNow, Cond.selects RX6 yX6_looksNow yX6_looksNow, Cond.initialized RX6, Cond.code yX6_looksNow cX6_looksNow 1 none, Cond.methodLink RX6 74 yX6_copiesPose, Cond.instanceMethod yX6_copiesPose, Cond.selects RX6 yX6_copiesPose yX6_copiesPose, Cond.code yX6_copiesPose cX6_copiesPose 2 none, Cond.fieldLink RX6 22 "ArmRoomModel" "value" "[I", Cond.methodLink RX6 77 yX6_looks, Cond.instanceMethod yX6_looks, Cond.selects RX6 yX6_looks yX6_looks, Cond.code yX6_looks cX6_looks 3 none, Cond.fieldLink RX6 65 "ArmRoomModel" "heading" "I", Cond.fieldLink RX6 13 "ArmRoomModel" "length" "[I", Cond.fieldLink RX6 7 "ArmRoomModel" "kind" "[I", Cond.methodLink RX6 68 yX6_told]
def wsX6_findsMoves_r2 : List Cond := [Cond.static yX6_told, Cond.code yX6_told cX6_told 1 (some .int), Cond.methodLink RX6 71 yX6_sine, Cond.static yX6_sine, Cond.code yX6_sine cX6_sine 4 (some .int), Cond.methodLink RX6 55 yX6_quarter, Cond.static yX6_quarter, Cond.code yX6_quarter cX6_quarter 1 (some .int)]
def wsX6_findsMoves : List Cond := .code yX6_findsMoves cX6_findsMoves 4 none :: ((wsX6_findsMoves_r1 ++ wsX6_findsMoves_r2) ++ wsX60)
def wsX6_moves_r1 : List Cond := [Cond.fieldLink RX6 45 "ArmRoomModel" "thrown" "I", Cond.fieldLink RX6 32 "ArmRoomModel" "moveX" "[I", Cond.fieldLink RX6 35 "ArmRoomModel" "moveY" "[I", Cond.methodLink RX6 100 yX6_isJoint, Cond.instanceMethod yX6_isJoint, Cond.selects RX6 yX6_isJoint yX6_isJoint, Cond.initialized RX6, Cond.code yX6_isJoint cX6_isJoint 2 (some .boolean), Cond.fieldLink RX6 48 "ArmRoomModel" "joints" "I", Cond.methodLink RX6 51 yX6_in, Cond.static yX6_in, Cond.code yX6_in cX6_in 3 (some .boolean), Cond.methodLink RX6 107 yX6_findsMoves, Cond.instanceMethod yX6_findsMoves, Cond.selects RX6 yX6_findsMoves yX6_findsMoves, Cond.code yX6_findsMoves cX6_findsMoves 4 none, Cond.fieldLink RX6 59 "ArmRoomModel" "x" "I", Cond.fieldLink RX6 62 "ArmRoomModel" "y" "I", Cond.fieldLink RX6 29 "ArmRoomModel" "pose" "[I", Cond.methodLink RX6 86 yX6_looksNow, Cond.instanceMethod yX6_looksNow, Cond.selects RX6 yX6_looksNow yX6_looksNow, Cond.code yX6_looksNow cX6_looksNow 1 none, Cond.methodLink RX6 74 yX6_copiesPose]
def wsX6_moves_r2 : List Cond := [Cond.instanceMethod yX6_copiesPose, Cond.selects RX6 yX6_copiesPose yX6_copiesPose, Cond.code yX6_copiesPose cX6_copiesPose 2 none, Cond.fieldLink RX6 22 "ArmRoomModel" "value" "[I", Cond.methodLink RX6 77 yX6_looks, Cond.instanceMethod yX6_looks, Cond.selects RX6 yX6_looks yX6_looks, Cond.code yX6_looks cX6_looks 3 none, Cond.fieldLink RX6 65 "ArmRoomModel" "heading" "I", Cond.fieldLink RX6 13 "ArmRoomModel" "length" "[I", Cond.fieldLink RX6 7 "ArmRoomModel" "kind" "[I", Cond.methodLink RX6 68 yX6_told, Cond.static yX6_told, Cond.code yX6_told cX6_told 1 (some .int), Cond.methodLink RX6 71 yX6_sine, Cond.static yX6_sine, Cond.code yX6_sine cX6_sine 4 (some .int), Cond.methodLink RX6 55 yX6_quarter, Cond.static yX6_quarter, Cond.code yX6_quarter cX6_quarter 1 (some .int)]
def wsX6_moves : List Cond := .code yX6_moves cX6_moves 3 (some .int) :: ((wsX6_moves_r1 ++ wsX6_moves_r2) ++ wsX60)
def wsX6_freedom_r1 : List Cond := [Cond.fieldLink RX6 45 "ArmRoomModel" "thrown" "I", Cond.fieldLink RX6 48 "ArmRoomModel" "joints" "I", Cond.fieldLink RX6 32 "ArmRoomModel" "moveX" "[I", Cond.fieldLink RX6 35 "ArmRoomModel" "moveY" "[I", Cond.methodLink RX6 107 yX6_findsMoves, Cond.instanceMethod yX6_findsMoves, Cond.selects RX6 yX6_findsMoves yX6_findsMoves, Cond.initialized RX6, Cond.code yX6_findsMoves cX6_findsMoves 4 none, Cond.fieldLink RX6 59 "ArmRoomModel" "x" "I", Cond.fieldLink RX6 62 "ArmRoomModel" "y" "I", Cond.fieldLink RX6 29 "ArmRoomModel" "pose" "[I", Cond.methodLink RX6 86 yX6_looksNow, Cond.instanceMethod yX6_looksNow, Cond.selects RX6 yX6_looksNow yX6_looksNow, Cond.code yX6_looksNow cX6_looksNow 1 none, Cond.methodLink RX6 74 yX6_copiesPose, Cond.instanceMethod yX6_copiesPose, Cond.selects RX6 yX6_copiesPose yX6_copiesPose, Cond.code yX6_copiesPose cX6_copiesPose 2 none, Cond.fieldLink RX6 22 "ArmRoomModel" "value" "[I", Cond.methodLink RX6 77 yX6_looks, Cond.instanceMethod yX6_looks, Cond.selects RX6 yX6_looks yX6_looks]
def wsX6_freedom_r2 : List Cond := [Cond.code yX6_looks cX6_looks 3 none, Cond.fieldLink RX6 65 "ArmRoomModel" "heading" "I", Cond.fieldLink RX6 13 "ArmRoomModel" "length" "[I", Cond.fieldLink RX6 7 "ArmRoomModel" "kind" "[I", Cond.methodLink RX6 68 yX6_told, Cond.static yX6_told, Cond.code yX6_told cX6_told 1 (some .int), Cond.methodLink RX6 71 yX6_sine, Cond.static yX6_sine, Cond.code yX6_sine cX6_sine 4 (some .int), Cond.methodLink RX6 55 yX6_quarter, Cond.static yX6_quarter, Cond.code yX6_quarter cX6_quarter 1 (some .int)]
def wsX6_freedom : List Cond := .code yX6_freedom cX6_freedom 7 (some .long) :: ((wsX6_freedom_r1 ++ wsX6_freedom_r2) ++ wsX60)
def wsX6_goal_r1 : List Cond := [Cond.constant RX6 110 (-1000000), Cond.constant RX6 111 (1000000), Cond.fieldLink RX6 45 "ArmRoomModel" "thrown" "I", Cond.fieldLink RX6 80 "ArmRoomModel" "goalX" "I", Cond.fieldLink RX6 83 "ArmRoomModel" "goalY" "I", Cond.methodLink RX6 51 yX6_in, Cond.static yX6_in, Cond.initialized RX6, Cond.code yX6_in cX6_in 3 (some .boolean), Cond.methodLink RX6 112 yX6_farNow, Cond.instanceMethod yX6_farNow, Cond.selects RX6 yX6_farNow yX6_farNow, Cond.code yX6_farNow cX6_farNow 1 (some .long), Cond.methodLink RX6 86 yX6_looksNow, Cond.instanceMethod yX6_looksNow, Cond.selects RX6 yX6_looksNow yX6_looksNow, Cond.code yX6_looksNow cX6_looksNow 1 none, Cond.methodLink RX6 74 yX6_copiesPose, Cond.instanceMethod yX6_copiesPose, Cond.selects RX6 yX6_copiesPose yX6_copiesPose, Cond.code yX6_copiesPose cX6_copiesPose 2 none, Cond.fieldLink RX6 48 "ArmRoomModel" "joints" "I", Cond.fieldLink RX6 29 "ArmRoomModel" "pose" "[I", Cond.fieldLink RX6 22 "ArmRoomModel" "value" "[I"]
def wsX6_goal_r2 : List Cond := [Cond.methodLink RX6 77 yX6_looks, Cond.instanceMethod yX6_looks, Cond.selects RX6 yX6_looks yX6_looks, Cond.code yX6_looks cX6_looks 3 none, Cond.fieldLink RX6 59 "ArmRoomModel" "x" "I", Cond.fieldLink RX6 62 "ArmRoomModel" "y" "I", Cond.fieldLink RX6 65 "ArmRoomModel" "heading" "I", Cond.fieldLink RX6 13 "ArmRoomModel" "length" "[I", Cond.fieldLink RX6 7 "ArmRoomModel" "kind" "[I", Cond.methodLink RX6 68 yX6_told, Cond.static yX6_told, Cond.code yX6_told cX6_told 1 (some .int), Cond.methodLink RX6 71 yX6_sine, Cond.static yX6_sine, Cond.code yX6_sine cX6_sine 4 (some .int), Cond.methodLink RX6 55 yX6_quarter, Cond.static yX6_quarter, Cond.code yX6_quarter cX6_quarter 1 (some .int), Cond.methodLink RX6 89 yX6_farness, Cond.instanceMethod yX6_farness, Cond.selects RX6 yX6_farness yX6_farness, Cond.code yX6_farness cX6_farness 5 (some .long)]
def wsX6_goal : List Cond := .code yX6_goal cX6_goal 3 (some .long) :: ((wsX6_goal_r1 ++ wsX6_goal_r2) ++ wsX60)
def wsX6_far_r1 : List Cond := [Cond.fieldLink RX6 45 "ArmRoomModel" "thrown" "I", Cond.methodLink RX6 112 yX6_farNow, Cond.instanceMethod yX6_farNow, Cond.selects RX6 yX6_farNow yX6_farNow, Cond.initialized RX6, Cond.code yX6_farNow cX6_farNow 1 (some .long), Cond.methodLink RX6 86 yX6_looksNow, Cond.instanceMethod yX6_looksNow, Cond.selects RX6 yX6_looksNow yX6_looksNow, Cond.code yX6_looksNow cX6_looksNow 1 none, Cond.methodLink RX6 74 yX6_copiesPose, Cond.instanceMethod yX6_copiesPose, Cond.selects RX6 yX6_copiesPose yX6_copiesPose, Cond.code yX6_copiesPose cX6_copiesPose 2 none, Cond.fieldLink RX6 48 "ArmRoomModel" "joints" "I", Cond.fieldLink RX6 29 "ArmRoomModel" "pose" "[I", Cond.fieldLink RX6 22 "ArmRoomModel" "value" "[I", Cond.methodLink RX6 77 yX6_looks, Cond.instanceMethod yX6_looks, Cond.selects RX6 yX6_looks yX6_looks, Cond.code yX6_looks cX6_looks 3 none, Cond.fieldLink RX6 59 "ArmRoomModel" "x" "I", Cond.fieldLink RX6 62 "ArmRoomModel" "y" "I", Cond.fieldLink RX6 65 "ArmRoomModel" "heading" "I"]
def wsX6_far_r2 : List Cond := [Cond.fieldLink RX6 13 "ArmRoomModel" "length" "[I", Cond.fieldLink RX6 7 "ArmRoomModel" "kind" "[I", Cond.methodLink RX6 68 yX6_told, Cond.static yX6_told, Cond.code yX6_told cX6_told 1 (some .int), Cond.methodLink RX6 71 yX6_sine, Cond.static yX6_sine, Cond.code yX6_sine cX6_sine 4 (some .int), Cond.methodLink RX6 55 yX6_quarter, Cond.static yX6_quarter, Cond.code yX6_quarter cX6_quarter 1 (some .int), Cond.methodLink RX6 89 yX6_farness, Cond.instanceMethod yX6_farness, Cond.selects RX6 yX6_farness yX6_farness, Cond.code yX6_farness cX6_farness 5 (some .long), Cond.fieldLink RX6 80 "ArmRoomModel" "goalX" "I", Cond.fieldLink RX6 83 "ArmRoomModel" "goalY" "I"]
def wsX6_far : List Cond := .code yX6_far cX6_far 1 (some .long) :: ((wsX6_far_r1 ++ wsX6_far_r2) ++ wsX60)
def wsX6_goesOn_r1 : List Cond := [Cond.fieldLink RX6 48 "ArmRoomModel" "joints" "I", Cond.fieldLink RX6 22 "ArmRoomModel" "value" "[I", Cond.fieldLink RX6 16 "ArmRoomModel" "low" "[I", Cond.fieldLink RX6 19 "ArmRoomModel" "high" "[I", Cond.methodLink RX6 112 yX6_farNow, Cond.instanceMethod yX6_farNow, Cond.selects RX6 yX6_farNow yX6_farNow, Cond.initialized RX6, Cond.code yX6_farNow cX6_farNow 1 (some .long), Cond.methodLink RX6 86 yX6_looksNow, Cond.instanceMethod yX6_looksNow, Cond.selects RX6 yX6_looksNow yX6_looksNow, Cond.code yX6_looksNow cX6_looksNow 1 none, Cond.methodLink RX6 74 yX6_copiesPose, Cond.instanceMethod yX6_copiesPose, Cond.selects RX6 yX6_copiesPose yX6_copiesPose, Cond.code yX6_copiesPose cX6_copiesPose 2 none, Cond.fieldLink RX6 29 "ArmRoomModel" "pose" "[I", Cond.methodLink RX6 77 yX6_looks, Cond.instanceMethod yX6_looks, Cond.selects RX6 yX6_looks yX6_looks, Cond.code yX6_looks cX6_looks 3 none, Cond.fieldLink RX6 59 "ArmRoomModel" "x" "I", Cond.fieldLink RX6 62 "ArmRoomModel" "y" "I"]
def wsX6_goesOn_r2 : List Cond := [Cond.fieldLink RX6 65 "ArmRoomModel" "heading" "I", Cond.fieldLink RX6 13 "ArmRoomModel" "length" "[I", Cond.fieldLink RX6 7 "ArmRoomModel" "kind" "[I", Cond.methodLink RX6 68 yX6_told, Cond.static yX6_told, Cond.code yX6_told cX6_told 1 (some .int), Cond.methodLink RX6 71 yX6_sine, Cond.static yX6_sine, Cond.code yX6_sine cX6_sine 4 (some .int), Cond.methodLink RX6 55 yX6_quarter, Cond.static yX6_quarter, Cond.code yX6_quarter cX6_quarter 1 (some .int), Cond.methodLink RX6 89 yX6_farness, Cond.instanceMethod yX6_farness, Cond.selects RX6 yX6_farness yX6_farness, Cond.code yX6_farness cX6_farness 5 (some .long), Cond.fieldLink RX6 80 "ArmRoomModel" "goalX" "I", Cond.fieldLink RX6 83 "ArmRoomModel" "goalY" "I", Cond.methodLink RX6 96 yX6_held, Cond.static yX6_held, Cond.code yX6_held cX6_held 3 (some .int), Cond.methodLink RX6 115 yX6_farWith, Cond.instanceMethod yX6_farWith, Cond.selects RX6 yX6_farWith yX6_farWith]
def wsX6_goesOn_r3 : List Cond := [Cond.code yX6_farWith cX6_farWith 3 (some .long)]
def wsX6_goesOn : List Cond := .code yX6_goesOn cX6_goesOn 11 (some .boolean) :: ((wsX6_goesOn_r1 ++ (wsX6_goesOn_r2 ++ wsX6_goesOn_r3)) ++ wsX60)
def wsX6_steps_r1 : List Cond := [Cond.fieldLink RX6 45 "ArmRoomModel" "thrown" "I", Cond.methodLink RX6 51 yX6_in, Cond.static yX6_in, Cond.initialized RX6, Cond.code yX6_in cX6_in 3 (some .boolean), Cond.methodLink RX6 119 yX6_goesOn, Cond.instanceMethod yX6_goesOn, Cond.selects RX6 yX6_goesOn yX6_goesOn, Cond.code yX6_goesOn cX6_goesOn 11 (some .boolean), Cond.fieldLink RX6 48 "ArmRoomModel" "joints" "I", Cond.fieldLink RX6 22 "ArmRoomModel" "value" "[I", Cond.fieldLink RX6 16 "ArmRoomModel" "low" "[I", Cond.fieldLink RX6 19 "ArmRoomModel" "high" "[I", Cond.methodLink RX6 112 yX6_farNow, Cond.instanceMethod yX6_farNow, Cond.selects RX6 yX6_farNow yX6_farNow, Cond.code yX6_farNow cX6_farNow 1 (some .long), Cond.methodLink RX6 86 yX6_looksNow, Cond.instanceMethod yX6_looksNow, Cond.selects RX6 yX6_looksNow yX6_looksNow, Cond.code yX6_looksNow cX6_looksNow 1 none, Cond.methodLink RX6 74 yX6_copiesPose, Cond.instanceMethod yX6_copiesPose, Cond.selects RX6 yX6_copiesPose yX6_copiesPose]
def wsX6_steps_r2 : List Cond := [Cond.code yX6_copiesPose cX6_copiesPose 2 none, Cond.fieldLink RX6 29 "ArmRoomModel" "pose" "[I", Cond.methodLink RX6 77 yX6_looks, Cond.instanceMethod yX6_looks, Cond.selects RX6 yX6_looks yX6_looks, Cond.code yX6_looks cX6_looks 3 none, Cond.fieldLink RX6 59 "ArmRoomModel" "x" "I", Cond.fieldLink RX6 62 "ArmRoomModel" "y" "I", Cond.fieldLink RX6 65 "ArmRoomModel" "heading" "I", Cond.fieldLink RX6 13 "ArmRoomModel" "length" "[I", Cond.fieldLink RX6 7 "ArmRoomModel" "kind" "[I", Cond.methodLink RX6 68 yX6_told, Cond.static yX6_told, Cond.code yX6_told cX6_told 1 (some .int), Cond.methodLink RX6 71 yX6_sine, Cond.static yX6_sine, Cond.code yX6_sine cX6_sine 4 (some .int), Cond.methodLink RX6 55 yX6_quarter, Cond.static yX6_quarter, Cond.code yX6_quarter cX6_quarter 1 (some .int), Cond.methodLink RX6 89 yX6_farness, Cond.instanceMethod yX6_farness, Cond.selects RX6 yX6_farness yX6_farness, Cond.code yX6_farness cX6_farness 5 (some .long)]
def wsX6_steps_r3 : List Cond := [Cond.fieldLink RX6 80 "ArmRoomModel" "goalX" "I", Cond.fieldLink RX6 83 "ArmRoomModel" "goalY" "I", Cond.methodLink RX6 96 yX6_held, Cond.static yX6_held, Cond.code yX6_held cX6_held 3 (some .int), Cond.methodLink RX6 115 yX6_farWith, Cond.instanceMethod yX6_farWith, Cond.selects RX6 yX6_farWith yX6_farWith, Cond.code yX6_farWith cX6_farWith 3 (some .long)]
def wsX6_steps : List Cond := .code yX6_steps cX6_steps 4 (some .int) :: ((wsX6_steps_r1 ++ (wsX6_steps_r2 ++ wsX6_steps_r3)) ++ wsX60)
def wsX6_hindrance_r1 : List Cond := [Cond.fieldLink RX6 45 "ArmRoomModel" "thrown" "I", Cond.fieldLink RX6 48 "ArmRoomModel" "joints" "I", Cond.fieldLink RX6 22 "ArmRoomModel" "value" "[I", Cond.fieldLink RX6 19 "ArmRoomModel" "high" "[I", Cond.fieldLink RX6 16 "ArmRoomModel" "low" "[I", Cond.methodLink RX6 112 yX6_farNow, Cond.instanceMethod yX6_farNow, Cond.selects RX6 yX6_farNow yX6_farNow, Cond.initialized RX6, Cond.code yX6_farNow cX6_farNow 1 (some .long), Cond.methodLink RX6 86 yX6_looksNow, Cond.instanceMethod yX6_looksNow, Cond.selects RX6 yX6_looksNow yX6_looksNow, Cond.code yX6_looksNow cX6_looksNow 1 none, Cond.methodLink RX6 74 yX6_copiesPose, Cond.instanceMethod yX6_copiesPose, Cond.selects RX6 yX6_copiesPose yX6_copiesPose, Cond.code yX6_copiesPose cX6_copiesPose 2 none, Cond.fieldLink RX6 29 "ArmRoomModel" "pose" "[I", Cond.methodLink RX6 77 yX6_looks, Cond.instanceMethod yX6_looks, Cond.selects RX6 yX6_looks yX6_looks, Cond.code yX6_looks cX6_looks 3 none, Cond.fieldLink RX6 59 "ArmRoomModel" "x" "I"]
def wsX6_hindrance_r2 : List Cond := [Cond.fieldLink RX6 62 "ArmRoomModel" "y" "I", Cond.fieldLink RX6 65 "ArmRoomModel" "heading" "I", Cond.fieldLink RX6 13 "ArmRoomModel" "length" "[I", Cond.fieldLink RX6 7 "ArmRoomModel" "kind" "[I", Cond.methodLink RX6 68 yX6_told, Cond.static yX6_told, Cond.code yX6_told cX6_told 1 (some .int), Cond.methodLink RX6 71 yX6_sine, Cond.static yX6_sine, Cond.code yX6_sine cX6_sine 4 (some .int), Cond.methodLink RX6 55 yX6_quarter, Cond.static yX6_quarter, Cond.code yX6_quarter cX6_quarter 1 (some .int), Cond.methodLink RX6 89 yX6_farness, Cond.instanceMethod yX6_farness, Cond.selects RX6 yX6_farness yX6_farness, Cond.code yX6_farness cX6_farness 5 (some .long), Cond.fieldLink RX6 80 "ArmRoomModel" "goalX" "I", Cond.fieldLink RX6 83 "ArmRoomModel" "goalY" "I", Cond.methodLink RX6 115 yX6_farWith, Cond.instanceMethod yX6_farWith, Cond.selects RX6 yX6_farWith yX6_farWith, Cond.code yX6_farWith cX6_farWith 3 (some .long)]
def wsX6_hindrance : List Cond := .code yX6_hindrance cX6_hindrance 6 (some .int) :: ((wsX6_hindrance_r1 ++ wsX6_hindrance_r2) ++ wsX60)
def wsX6_slack : List Cond := .code yX6_slack cX6_slack 3 (some .int) :: ([.constant RX6 122 (100000), .fieldLink RX6 45 "ArmRoomModel" "thrown" "I", .fieldLink RX6 25 "ArmRoomModel" "slack" "I", .methodLink RX6 51 yX6_in, .static yX6_in, .initialized RX6, .code yX6_in cX6_in 3 (some .boolean)] ++ wsX60)
def wsX6_poses : List Cond := .code yX6_poses cX6_poses 3 (some .int) :: ([.fieldLink RX6 48 "ArmRoomModel" "joints" "I", .constant RX6 123 (40000), .fieldLink RX6 19 "ArmRoomModel" "high" "[I", .fieldLink RX6 16 "ArmRoomModel" "low" "[I"] ++ wsX60)
def wsX6_makesPose : List Cond := .code yX6_makesPose cX6_makesPose 5 none :: ([.fieldLink RX6 48 "ArmRoomModel" "joints" "I", .fieldLink RX6 19 "ArmRoomModel" "high" "[I", .fieldLink RX6 16 "ArmRoomModel" "low" "[I", .fieldLink RX6 29 "ArmRoomModel" "pose" "[I"] ++ wsX60)
def wsX6_size : List Cond := .code yX6_size cX6_size 1 (some .int) :: ([])
def wsX6_keyOf : List Cond := .code yX6_keyOf cX6_keyOf 5 (some .long) :: ([.fieldLink RX6 65 "ArmRoomModel" "heading" "I", .fieldLink RX6 48 "ArmRoomModel" "joints" "I", .fieldLink RX6 29 "ArmRoomModel" "pose" "[I", .fieldLink RX6 22 "ArmRoomModel" "value" "[I", .methodLink RX6 89 yX6_farness, .instanceMethod yX6_farness, .selects RX6 yX6_farness yX6_farness, .initialized RX6, .code yX6_farness cX6_farness 5 (some .long), .fieldLink RX6 59 "ArmRoomModel" "x" "I", .fieldLink RX6 80 "ArmRoomModel" "goalX" "I", .fieldLink RX6 62 "ArmRoomModel" "y" "I", .fieldLink RX6 83 "ArmRoomModel" "goalY" "I", .methodLink RX6 68 yX6_told, .static yX6_told, .code yX6_told cX6_told 1 (some .int), .methodLink RX6 124 yX6_size, .static yX6_size, .code yX6_size cX6_size 1 (some .int)] ++ wsX60)
def wsX6_ranks : List Cond := .code yX6_ranks cX6_ranks 5 none :: ([.fieldLink RX6 127 "ArmRoomModel" "found" "I", .fieldLink RX6 38 "ArmRoomModel" "key" "[J", .fieldLink RX6 42 "ArmRoomModel" "which" "[I"] ++ wsX60)
def wsX6_findsBranches_r1 : List Cond := [Cond.fieldLink RX6 127 "ArmRoomModel" "found" "I", Cond.fieldLink RX6 65 "ArmRoomModel" "heading" "I", Cond.fieldLink RX6 48 "ArmRoomModel" "joints" "I", Cond.fieldLink RX6 59 "ArmRoomModel" "x" "I", Cond.fieldLink RX6 80 "ArmRoomModel" "goalX" "I", Cond.fieldLink RX6 25 "ArmRoomModel" "slack" "I", Cond.fieldLink RX6 62 "ArmRoomModel" "y" "I", Cond.fieldLink RX6 83 "ArmRoomModel" "goalY" "I", Cond.methodLink RX6 86 yX6_looksNow, Cond.instanceMethod yX6_looksNow, Cond.selects RX6 yX6_looksNow yX6_looksNow, Cond.initialized RX6, Cond.code yX6_looksNow cX6_looksNow 1 none, Cond.methodLink RX6 74 yX6_copiesPose, Cond.instanceMethod yX6_copiesPose, Cond.selects RX6 yX6_copiesPose yX6_copiesPose, Cond.code yX6_copiesPose cX6_copiesPose 2 none, Cond.fieldLink RX6 29 "ArmRoomModel" "pose" "[I", Cond.fieldLink RX6 22 "ArmRoomModel" "value" "[I", Cond.methodLink RX6 77 yX6_looks, Cond.instanceMethod yX6_looks, Cond.selects RX6 yX6_looks yX6_looks, Cond.code yX6_looks cX6_looks 3 none, Cond.fieldLink RX6 13 "ArmRoomModel" "length" "[I"]
def wsX6_findsBranches_r2 : List Cond := [Cond.fieldLink RX6 7 "ArmRoomModel" "kind" "[I", Cond.methodLink RX6 68 yX6_told, Cond.static yX6_told, Cond.code yX6_told cX6_told 1 (some .int), Cond.methodLink RX6 71 yX6_sine, Cond.static yX6_sine, Cond.code yX6_sine cX6_sine 4 (some .int), Cond.methodLink RX6 55 yX6_quarter, Cond.static yX6_quarter, Cond.code yX6_quarter cX6_quarter 1 (some .int), Cond.methodLink RX6 130 yX6_poses, Cond.instanceMethod yX6_poses, Cond.selects RX6 yX6_poses yX6_poses, Cond.code yX6_poses cX6_poses 3 (some .int), Cond.constant RX6 123 (40000), Cond.fieldLink RX6 19 "ArmRoomModel" "high" "[I", Cond.fieldLink RX6 16 "ArmRoomModel" "low" "[I", Cond.methodLink RX6 134 yX6_makesPose, Cond.instanceMethod yX6_makesPose, Cond.selects RX6 yX6_makesPose yX6_makesPose, Cond.code yX6_makesPose cX6_makesPose 5 none, Cond.methodLink RX6 124 yX6_size, Cond.static yX6_size, Cond.code yX6_size cX6_size 1 (some .int)]
def wsX6_findsBranches_r3 : List Cond := [Cond.methodLink RX6 138 yX6_keyOf, Cond.instanceMethod yX6_keyOf, Cond.selects RX6 yX6_keyOf yX6_keyOf, Cond.code yX6_keyOf cX6_keyOf 5 (some .long), Cond.methodLink RX6 89 yX6_farness, Cond.instanceMethod yX6_farness, Cond.selects RX6 yX6_farness yX6_farness, Cond.code yX6_farness cX6_farness 5 (some .long), Cond.methodLink RX6 141 yX6_ranks, Cond.instanceMethod yX6_ranks, Cond.selects RX6 yX6_ranks yX6_ranks, Cond.code yX6_ranks cX6_ranks 5 none, Cond.fieldLink RX6 38 "ArmRoomModel" "key" "[J", Cond.fieldLink RX6 42 "ArmRoomModel" "which" "[I"]
def wsX6_findsBranches : List Cond := .code yX6_findsBranches cX6_findsBranches 5 none :: ((wsX6_findsBranches_r1 ++ (wsX6_findsBranches_r2 ++ wsX6_findsBranches_r3)) ++ wsX60)
def wsX6_branches_r1 : List Cond := [Cond.constant RX6 123 (40000), Cond.fieldLink RX6 45 "ArmRoomModel" "thrown" "I", Cond.fieldLink RX6 127 "ArmRoomModel" "found" "I", Cond.methodLink RX6 130 yX6_poses, Cond.instanceMethod yX6_poses, Cond.selects RX6 yX6_poses yX6_poses, Cond.initialized RX6, Cond.code yX6_poses cX6_poses 3 (some .int), Cond.fieldLink RX6 48 "ArmRoomModel" "joints" "I", Cond.fieldLink RX6 19 "ArmRoomModel" "high" "[I", Cond.fieldLink RX6 16 "ArmRoomModel" "low" "[I", Cond.methodLink RX6 145 yX6_findsBranches, Cond.instanceMethod yX6_findsBranches, Cond.selects RX6 yX6_findsBranches yX6_findsBranches, Cond.code yX6_findsBranches cX6_findsBranches 5 none, Cond.fieldLink RX6 65 "ArmRoomModel" "heading" "I", Cond.fieldLink RX6 59 "ArmRoomModel" "x" "I", Cond.fieldLink RX6 80 "ArmRoomModel" "goalX" "I", Cond.fieldLink RX6 25 "ArmRoomModel" "slack" "I", Cond.fieldLink RX6 62 "ArmRoomModel" "y" "I", Cond.fieldLink RX6 83 "ArmRoomModel" "goalY" "I", Cond.methodLink RX6 86 yX6_looksNow, Cond.instanceMethod yX6_looksNow, Cond.selects RX6 yX6_looksNow yX6_looksNow]
def wsX6_branches_r2 : List Cond := [Cond.code yX6_looksNow cX6_looksNow 1 none, Cond.methodLink RX6 74 yX6_copiesPose, Cond.instanceMethod yX6_copiesPose, Cond.selects RX6 yX6_copiesPose yX6_copiesPose, Cond.code yX6_copiesPose cX6_copiesPose 2 none, Cond.fieldLink RX6 29 "ArmRoomModel" "pose" "[I", Cond.fieldLink RX6 22 "ArmRoomModel" "value" "[I", Cond.methodLink RX6 77 yX6_looks, Cond.instanceMethod yX6_looks, Cond.selects RX6 yX6_looks yX6_looks, Cond.code yX6_looks cX6_looks 3 none, Cond.fieldLink RX6 13 "ArmRoomModel" "length" "[I", Cond.fieldLink RX6 7 "ArmRoomModel" "kind" "[I", Cond.methodLink RX6 68 yX6_told, Cond.static yX6_told, Cond.code yX6_told cX6_told 1 (some .int), Cond.methodLink RX6 71 yX6_sine, Cond.static yX6_sine, Cond.code yX6_sine cX6_sine 4 (some .int), Cond.methodLink RX6 55 yX6_quarter, Cond.static yX6_quarter, Cond.code yX6_quarter cX6_quarter 1 (some .int), Cond.methodLink RX6 134 yX6_makesPose, Cond.instanceMethod yX6_makesPose]
def wsX6_branches_r3 : List Cond := [Cond.selects RX6 yX6_makesPose yX6_makesPose, Cond.code yX6_makesPose cX6_makesPose 5 none, Cond.methodLink RX6 124 yX6_size, Cond.static yX6_size, Cond.code yX6_size cX6_size 1 (some .int), Cond.methodLink RX6 138 yX6_keyOf, Cond.instanceMethod yX6_keyOf, Cond.selects RX6 yX6_keyOf yX6_keyOf, Cond.code yX6_keyOf cX6_keyOf 5 (some .long), Cond.methodLink RX6 89 yX6_farness, Cond.instanceMethod yX6_farness, Cond.selects RX6 yX6_farness yX6_farness, Cond.code yX6_farness cX6_farness 5 (some .long), Cond.methodLink RX6 141 yX6_ranks, Cond.instanceMethod yX6_ranks, Cond.selects RX6 yX6_ranks yX6_ranks, Cond.code yX6_ranks cX6_ranks 5 none, Cond.fieldLink RX6 38 "ArmRoomModel" "key" "[J", Cond.fieldLink RX6 42 "ArmRoomModel" "which" "[I"]
def wsX6_branches : List Cond := .code yX6_branches cX6_branches 1 (some .int) :: ((wsX6_branches_r1 ++ (wsX6_branches_r2 ++ wsX6_branches_r3)) ++ wsX60)
def wsX6_findsBranch_r1 : List Cond := [Cond.constant RX6 123 (40000), Cond.fieldLink RX6 127 "ArmRoomModel" "found" "I", Cond.fieldLink RX6 45 "ArmRoomModel" "thrown" "I", Cond.fieldLink RX6 42 "ArmRoomModel" "which" "[I", Cond.methodLink RX6 51 yX6_in, Cond.static yX6_in, Cond.initialized RX6, Cond.code yX6_in cX6_in 3 (some .boolean), Cond.methodLink RX6 130 yX6_poses, Cond.instanceMethod yX6_poses, Cond.selects RX6 yX6_poses yX6_poses, Cond.code yX6_poses cX6_poses 3 (some .int), Cond.fieldLink RX6 48 "ArmRoomModel" "joints" "I", Cond.fieldLink RX6 19 "ArmRoomModel" "high" "[I", Cond.fieldLink RX6 16 "ArmRoomModel" "low" "[I", Cond.methodLink RX6 145 yX6_findsBranches, Cond.instanceMethod yX6_findsBranches, Cond.selects RX6 yX6_findsBranches yX6_findsBranches, Cond.code yX6_findsBranches cX6_findsBranches 5 none, Cond.fieldLink RX6 65 "ArmRoomModel" "heading" "I", Cond.fieldLink RX6 59 "ArmRoomModel" "x" "I", Cond.fieldLink RX6 80 "ArmRoomModel" "goalX" "I", Cond.fieldLink RX6 25 "ArmRoomModel" "slack" "I", Cond.fieldLink RX6 62 "ArmRoomModel" "y" "I"]
def wsX6_findsBranch_r2 : List Cond := [Cond.fieldLink RX6 83 "ArmRoomModel" "goalY" "I", Cond.methodLink RX6 86 yX6_looksNow, Cond.instanceMethod yX6_looksNow, Cond.selects RX6 yX6_looksNow yX6_looksNow, Cond.code yX6_looksNow cX6_looksNow 1 none, Cond.methodLink RX6 74 yX6_copiesPose, Cond.instanceMethod yX6_copiesPose, Cond.selects RX6 yX6_copiesPose yX6_copiesPose, Cond.code yX6_copiesPose cX6_copiesPose 2 none, Cond.fieldLink RX6 29 "ArmRoomModel" "pose" "[I", Cond.fieldLink RX6 22 "ArmRoomModel" "value" "[I", Cond.methodLink RX6 77 yX6_looks, Cond.instanceMethod yX6_looks, Cond.selects RX6 yX6_looks yX6_looks, Cond.code yX6_looks cX6_looks 3 none, Cond.fieldLink RX6 13 "ArmRoomModel" "length" "[I", Cond.fieldLink RX6 7 "ArmRoomModel" "kind" "[I", Cond.methodLink RX6 68 yX6_told, Cond.static yX6_told, Cond.code yX6_told cX6_told 1 (some .int), Cond.methodLink RX6 71 yX6_sine, Cond.static yX6_sine, Cond.code yX6_sine cX6_sine 4 (some .int), Cond.methodLink RX6 55 yX6_quarter]
def wsX6_findsBranch_r3 : List Cond := [Cond.static yX6_quarter, Cond.code yX6_quarter cX6_quarter 1 (some .int), Cond.methodLink RX6 134 yX6_makesPose, Cond.instanceMethod yX6_makesPose, Cond.selects RX6 yX6_makesPose yX6_makesPose, Cond.code yX6_makesPose cX6_makesPose 5 none, Cond.methodLink RX6 124 yX6_size, Cond.static yX6_size, Cond.code yX6_size cX6_size 1 (some .int), Cond.methodLink RX6 138 yX6_keyOf, Cond.instanceMethod yX6_keyOf, Cond.selects RX6 yX6_keyOf yX6_keyOf, Cond.code yX6_keyOf cX6_keyOf 5 (some .long), Cond.methodLink RX6 89 yX6_farness, Cond.instanceMethod yX6_farness, Cond.selects RX6 yX6_farness yX6_farness, Cond.code yX6_farness cX6_farness 5 (some .long), Cond.methodLink RX6 141 yX6_ranks, Cond.instanceMethod yX6_ranks, Cond.selects RX6 yX6_ranks yX6_ranks, Cond.code yX6_ranks cX6_ranks 5 none, Cond.fieldLink RX6 38 "ArmRoomModel" "key" "[J"]
def wsX6_findsBranch : List Cond := .code yX6_findsBranch cX6_findsBranch 6 (some .boolean) :: ((wsX6_findsBranch_r1 ++ (wsX6_findsBranch_r2 ++ wsX6_findsBranch_r3)) ++ wsX60)
def wsX6_branch_r1 : List Cond := [Cond.fieldLink RX6 29 "ArmRoomModel" "pose" "[I", Cond.methodLink RX6 100 yX6_isJoint, Cond.instanceMethod yX6_isJoint, Cond.selects RX6 yX6_isJoint yX6_isJoint, Cond.initialized RX6, Cond.code yX6_isJoint cX6_isJoint 2 (some .boolean), Cond.fieldLink RX6 48 "ArmRoomModel" "joints" "I", Cond.methodLink RX6 51 yX6_in, Cond.static yX6_in, Cond.code yX6_in cX6_in 3 (some .boolean), Cond.methodLink RX6 148 yX6_findsBranch, Cond.instanceMethod yX6_findsBranch, Cond.selects RX6 yX6_findsBranch yX6_findsBranch, Cond.code yX6_findsBranch cX6_findsBranch 6 (some .boolean), Cond.constant RX6 123 (40000), Cond.fieldLink RX6 127 "ArmRoomModel" "found" "I", Cond.fieldLink RX6 45 "ArmRoomModel" "thrown" "I", Cond.fieldLink RX6 42 "ArmRoomModel" "which" "[I", Cond.methodLink RX6 130 yX6_poses, Cond.instanceMethod yX6_poses, Cond.selects RX6 yX6_poses yX6_poses, Cond.code yX6_poses cX6_poses 3 (some .int), Cond.fieldLink RX6 19 "ArmRoomModel" "high" "[I", Cond.fieldLink RX6 16 "ArmRoomModel" "low" "[I"]
def wsX6_branch_r2 : List Cond := [Cond.methodLink RX6 145 yX6_findsBranches, Cond.instanceMethod yX6_findsBranches, Cond.selects RX6 yX6_findsBranches yX6_findsBranches, Cond.code yX6_findsBranches cX6_findsBranches 5 none, Cond.fieldLink RX6 65 "ArmRoomModel" "heading" "I", Cond.fieldLink RX6 59 "ArmRoomModel" "x" "I", Cond.fieldLink RX6 80 "ArmRoomModel" "goalX" "I", Cond.fieldLink RX6 25 "ArmRoomModel" "slack" "I", Cond.fieldLink RX6 62 "ArmRoomModel" "y" "I", Cond.fieldLink RX6 83 "ArmRoomModel" "goalY" "I", Cond.methodLink RX6 86 yX6_looksNow, Cond.instanceMethod yX6_looksNow, Cond.selects RX6 yX6_looksNow yX6_looksNow, Cond.code yX6_looksNow cX6_looksNow 1 none, Cond.methodLink RX6 74 yX6_copiesPose, Cond.instanceMethod yX6_copiesPose, Cond.selects RX6 yX6_copiesPose yX6_copiesPose, Cond.code yX6_copiesPose cX6_copiesPose 2 none, Cond.fieldLink RX6 22 "ArmRoomModel" "value" "[I", Cond.methodLink RX6 77 yX6_looks, Cond.instanceMethod yX6_looks, Cond.selects RX6 yX6_looks yX6_looks, Cond.code yX6_looks cX6_looks 3 none, Cond.fieldLink RX6 13 "ArmRoomModel" "length" "[I"]
def wsX6_branch_r3 : List Cond := [Cond.fieldLink RX6 7 "ArmRoomModel" "kind" "[I", Cond.methodLink RX6 68 yX6_told, Cond.static yX6_told, Cond.code yX6_told cX6_told 1 (some .int), Cond.methodLink RX6 71 yX6_sine, Cond.static yX6_sine, Cond.code yX6_sine cX6_sine 4 (some .int), Cond.methodLink RX6 55 yX6_quarter, Cond.static yX6_quarter, Cond.code yX6_quarter cX6_quarter 1 (some .int), Cond.methodLink RX6 134 yX6_makesPose, Cond.instanceMethod yX6_makesPose, Cond.selects RX6 yX6_makesPose yX6_makesPose, Cond.code yX6_makesPose cX6_makesPose 5 none, Cond.methodLink RX6 124 yX6_size, Cond.static yX6_size, Cond.code yX6_size cX6_size 1 (some .int), Cond.methodLink RX6 138 yX6_keyOf, Cond.instanceMethod yX6_keyOf, Cond.selects RX6 yX6_keyOf yX6_keyOf, Cond.code yX6_keyOf cX6_keyOf 5 (some .long), Cond.methodLink RX6 89 yX6_farness, Cond.instanceMethod yX6_farness, Cond.selects RX6 yX6_farness yX6_farness]
def wsX6_branch_r4 : List Cond := [Cond.code yX6_farness cX6_farness 5 (some .long), Cond.methodLink RX6 141 yX6_ranks, Cond.instanceMethod yX6_ranks, Cond.selects RX6 yX6_ranks yX6_ranks, Cond.code yX6_ranks cX6_ranks 5 none, Cond.fieldLink RX6 38 "ArmRoomModel" "key" "[J"]
def wsX6_branch : List Cond := .code yX6_branch cX6_branch 4 (some .int) :: ((wsX6_branch_r1 ++ (wsX6_branch_r2 ++ (wsX6_branch_r3 ++ wsX6_branch_r4))) ++ wsX60)
def wsX6_take_r1 : List Cond := [Cond.fieldLink RX6 48 "ArmRoomModel" "joints" "I", Cond.fieldLink RX6 22 "ArmRoomModel" "value" "[I", Cond.fieldLink RX6 29 "ArmRoomModel" "pose" "[I", Cond.methodLink RX6 148 yX6_findsBranch, Cond.instanceMethod yX6_findsBranch, Cond.selects RX6 yX6_findsBranch yX6_findsBranch, Cond.initialized RX6, Cond.code yX6_findsBranch cX6_findsBranch 6 (some .boolean), Cond.constant RX6 123 (40000), Cond.fieldLink RX6 127 "ArmRoomModel" "found" "I", Cond.fieldLink RX6 45 "ArmRoomModel" "thrown" "I", Cond.fieldLink RX6 42 "ArmRoomModel" "which" "[I", Cond.methodLink RX6 51 yX6_in, Cond.static yX6_in, Cond.code yX6_in cX6_in 3 (some .boolean), Cond.methodLink RX6 130 yX6_poses, Cond.instanceMethod yX6_poses, Cond.selects RX6 yX6_poses yX6_poses, Cond.code yX6_poses cX6_poses 3 (some .int), Cond.fieldLink RX6 19 "ArmRoomModel" "high" "[I", Cond.fieldLink RX6 16 "ArmRoomModel" "low" "[I", Cond.methodLink RX6 145 yX6_findsBranches, Cond.instanceMethod yX6_findsBranches, Cond.selects RX6 yX6_findsBranches yX6_findsBranches]
def wsX6_take_r2 : List Cond := [Cond.code yX6_findsBranches cX6_findsBranches 5 none, Cond.fieldLink RX6 65 "ArmRoomModel" "heading" "I", Cond.fieldLink RX6 59 "ArmRoomModel" "x" "I", Cond.fieldLink RX6 80 "ArmRoomModel" "goalX" "I", Cond.fieldLink RX6 25 "ArmRoomModel" "slack" "I", Cond.fieldLink RX6 62 "ArmRoomModel" "y" "I", Cond.fieldLink RX6 83 "ArmRoomModel" "goalY" "I", Cond.methodLink RX6 86 yX6_looksNow, Cond.instanceMethod yX6_looksNow, Cond.selects RX6 yX6_looksNow yX6_looksNow, Cond.code yX6_looksNow cX6_looksNow 1 none, Cond.methodLink RX6 74 yX6_copiesPose, Cond.instanceMethod yX6_copiesPose, Cond.selects RX6 yX6_copiesPose yX6_copiesPose, Cond.code yX6_copiesPose cX6_copiesPose 2 none, Cond.methodLink RX6 77 yX6_looks, Cond.instanceMethod yX6_looks, Cond.selects RX6 yX6_looks yX6_looks, Cond.code yX6_looks cX6_looks 3 none, Cond.fieldLink RX6 13 "ArmRoomModel" "length" "[I", Cond.fieldLink RX6 7 "ArmRoomModel" "kind" "[I", Cond.methodLink RX6 68 yX6_told, Cond.static yX6_told, Cond.code yX6_told cX6_told 1 (some .int)]
def wsX6_take_r3 : List Cond := [Cond.methodLink RX6 71 yX6_sine, Cond.static yX6_sine, Cond.code yX6_sine cX6_sine 4 (some .int), Cond.methodLink RX6 55 yX6_quarter, Cond.static yX6_quarter, Cond.code yX6_quarter cX6_quarter 1 (some .int), Cond.methodLink RX6 134 yX6_makesPose, Cond.instanceMethod yX6_makesPose, Cond.selects RX6 yX6_makesPose yX6_makesPose, Cond.code yX6_makesPose cX6_makesPose 5 none, Cond.methodLink RX6 124 yX6_size, Cond.static yX6_size, Cond.code yX6_size cX6_size 1 (some .int), Cond.methodLink RX6 138 yX6_keyOf, Cond.instanceMethod yX6_keyOf, Cond.selects RX6 yX6_keyOf yX6_keyOf, Cond.code yX6_keyOf cX6_keyOf 5 (some .long), Cond.methodLink RX6 89 yX6_farness, Cond.instanceMethod yX6_farness, Cond.selects RX6 yX6_farness yX6_farness, Cond.code yX6_farness cX6_farness 5 (some .long), Cond.methodLink RX6 141 yX6_ranks, Cond.instanceMethod yX6_ranks, Cond.selects RX6 yX6_ranks yX6_ranks]
def wsX6_take_r4 : List Cond := [Cond.code yX6_ranks cX6_ranks 5 none, Cond.fieldLink RX6 38 "ArmRoomModel" "key" "[J", Cond.methodLink RX6 112 yX6_farNow, Cond.instanceMethod yX6_farNow, Cond.selects RX6 yX6_farNow yX6_farNow, Cond.code yX6_farNow cX6_farNow 1 (some .long)]
def wsX6_take : List Cond := .code yX6_take cX6_take 4 (some .long) :: ((wsX6_take_r1 ++ (wsX6_take_r2 ++ (wsX6_take_r3 ++ wsX6_take_r4))) ++ wsX60)
def wsJ9_abs_0f7a4 : List Cond := .code yJ9_abs_0f7a4 cJ9_abs_0f7a4 1 (some .int) :: ([])
def wsJ9_abs_067f4 : List Cond := .code yJ9_abs_067f4 cJ9_abs_067f4 2 (some .long) :: ([])
def wsJ9_max_7cf53 : List Cond := .code yJ9_max_7cf53 cJ9_max_7cf53 2 (some .int) :: ([])
def wsJ9_max_f86c9 : List Cond := .code yJ9_max_f86c9 cJ9_max_f86c9 4 (some .long) :: ([])
def wsJ9_min_7cf53 : List Cond := .code yJ9_min_7cf53 cJ9_min_7cf53 2 (some .int) :: ([])
def wsL_joint_r1 : List Cond := [Cond.classLink RL 13 "java/lang/IllegalArgumentException", Cond.classLink RL 15 "java/lang/IllegalStateException", Cond.methodLink RL 7 yX5_joint, Cond.instanceMethod yX5_joint, Cond.selects RX5 yX5_joint yX5_joint, Cond.initialized RX5, Cond.code yX5_joint cX5_joint 7 (some .int), Cond.classLink RX5 47 "java/lang/IllegalArgumentException", Cond.initialized "java/lang/IllegalArgumentException", Cond.classLink RX5 62 "java/lang/IllegalStateException", Cond.initialized "java/lang/IllegalStateException", Cond.fieldLink RX5 10 "ArmRoom" "arm" "LArmRoom$Arm;", Cond.instanceMethod yX0_isFull, Cond.initialized RX0, Cond.selects RX0 yX0_isFull yX0_isFull, Cond.code yX0_isFull cX0_isFull 1 (some .boolean), Cond.fieldLink RX0 27 "ArmRoom$Arm" "count" "I", Cond.instanceMethod yX0_add, Cond.selects RX0 yX0_add yX0_add, Cond.code yX0_add cX0_add 6 (some .int), Cond.fieldLink RX0 9 "ArmRoom$Arm" "kinds" "[I", Cond.fieldLink RX0 15 "ArmRoom$Arm" "lengths" "[I", Cond.fieldLink RX0 18 "ArmRoom$Arm" "lows" "[I", Cond.fieldLink RX0 21 "ArmRoom$Arm" "highs" "[I"]
def wsL_joint_r2 : List Cond := [Cond.fieldLink RX0 24 "ArmRoom$Arm" "values" "[I", Cond.methodLink RX0 31 yX0_held, Cond.instanceMethod yX0_held, Cond.selects RX0 yX0_held yX0_held, Cond.code yX0_held cX0_held 3 (some .int), Cond.methodLink RX0 35 Lib.Math.min.name, Cond.static Lib.Math.min.name, Cond.initialized "java/lang/Math", Cond.code Lib.Math.min.name Lib.Math.min.code 2 (some .int), Cond.methodLink RX0 40 Lib.Math.max.name, Cond.static Lib.Math.max.name, Cond.code Lib.Math.max.name Lib.Math.max.code 2 (some .int)]
def wsL_joint : List Cond := .codeWith yL_joint cL_joint 7 (some .int) [(0, 14, 17, 13), (0, 14, 21, 15)] :: ((wsL_joint_r1 ++ wsL_joint_r2) ++ wsX50 ++ wsX00 ++ (vx_atS RX5 51 "java/lang/IllegalArgumentException" ["java/lang/RuntimeException", "java/lang/Exception"]).filter goodWord ++ (vx_atS RX5 66 "java/lang/IllegalStateException" ["java/lang/RuntimeException", "java/lang/Exception"]).filter goodWord)
def wsL_set : List Cond := .codeWith yL_set cL_set 5 (some .int) [(0, 10, 13, 21), (0, 10, 17, 13)] :: ([.classLink RL 21 "java/lang/IndexOutOfBoundsException", .classLink RL 13 "java/lang/IllegalArgumentException", .methodLink RL 17 yX5_set, .instanceMethod yX5_set, .selects RX5 yX5_set yX5_set, .initialized RX5, .code yX5_set cX5_set 4 (some .int), .classLink RX5 47 "java/lang/IllegalArgumentException", .initialized "java/lang/IllegalArgumentException", .fieldLink RX5 10 "ArmRoom" "arm" "LArmRoom$Arm;", .methodLink RX5 71 yX5_checkJoint, .instanceMethod yX5_checkJoint, .selects RX5 yX5_checkJoint yX5_checkJoint, .code yX5_checkJoint cX5_checkJoint 2 none, .classLink RX5 178 "java/lang/IndexOutOfBoundsException", .initialized "java/lang/IndexOutOfBoundsException"] ++ wsX50 ++ wsX00 ++ (vx_atS RX5 51 "java/lang/IllegalArgumentException" ["java/lang/RuntimeException", "java/lang/Exception"]).filter goodWord ++ (vx_atS RX5 182 "java/lang/IndexOutOfBoundsException" ["java/lang/RuntimeException", "java/lang/Exception"]).filter goodWord)
def wsL_value : List Cond := .codeWith yL_value cL_value 4 (some .int) [(0, 9, 12, 21)] :: ([.classLink RL 21 "java/lang/IndexOutOfBoundsException", .methodLink RL 23 yX5_value, .instanceMethod yX5_value, .selects RX5 yX5_value yX5_value, .initialized RX5, .code yX5_value cX5_value 2 (some .int), .fieldLink RX5 10 "ArmRoom" "arm" "LArmRoom$Arm;", .methodLink RX5 71 yX5_checkJoint, .instanceMethod yX5_checkJoint, .selects RX5 yX5_checkJoint yX5_checkJoint, .code yX5_checkJoint cX5_checkJoint 2 none, .classLink RX5 178 "java/lang/IndexOutOfBoundsException", .initialized "java/lang/IndexOutOfBoundsException"] ++ wsX50 ++ wsX00 ++ (vx_atS RX5 182 "java/lang/IndexOutOfBoundsException" ["java/lang/RuntimeException", "java/lang/Exception"]).filter goodWord)
def wsL_tip_r1 : List Cond := [Cond.classLink RL 13 "java/lang/IllegalArgumentException", Cond.methodLink RL 27 yX5_tip, Cond.instanceMethod yX5_tip, Cond.selects RX5 yX5_tip yX5_tip, Cond.initialized RX5, Cond.code yX5_tip cX5_tip 2 (some .int), Cond.fieldLink RX5 26 "ArmRoom" "now" "LArmRoom$Tip;", Cond.fieldLink RX5 10 "ArmRoom" "arm" "LArmRoom$Arm;", Cond.methodLink RX5 86 yX5_checkTold, Cond.static yX5_checkTold, Cond.code yX5_checkTold cX5_checkTold 2 none, Cond.classLink RX5 47 "java/lang/IllegalArgumentException", Cond.initialized "java/lang/IllegalArgumentException", Cond.instanceMethod yX4_follow, Cond.initialized RX4, Cond.selects RX4 yX4_follow yX4_follow, Cond.code yX4_follow cX4_follow 2 none, Cond.methodLink RX4 28 yX4_followWith, Cond.instanceMethod yX4_followWith, Cond.selects RX4 yX4_followWith yX4_followWith, Cond.code yX4_followWith cX4_followWith 6 none, Cond.fieldLink RX4 18 "ArmRoom$Tip" "heading" "I", Cond.methodLink RX4 32 yX4_start, Cond.instanceMethod yX4_start]
def wsL_tip_r2 : List Cond := [Cond.selects RX4 yX4_start yX4_start, Cond.code yX4_start cX4_start 1 none, Cond.fieldLink RX4 9 "ArmRoom$Tip" "x" "I", Cond.fieldLink RX4 15 "ArmRoom$Tip" "y" "I", Cond.instanceMethod yX0_turnOf, Cond.initialized RX0, Cond.selects RX0 yX0_turnOf yX0_turnOf, Cond.code yX0_turnOf cX0_turnOf 3 (some .int), Cond.fieldLink RX0 9 "ArmRoom$Arm" "kinds" "[I", Cond.instanceMethod yX0_distanceOf, Cond.selects RX0 yX0_distanceOf yX0_distanceOf, Cond.code yX0_distanceOf cX0_distanceOf 3 (some .int), Cond.fieldLink RX0 15 "ArmRoom$Arm" "lengths" "[I", Cond.methodLink RX4 51 yX4_go, Cond.instanceMethod yX4_go, Cond.selects RX4 yX4_go yX4_go, Cond.code yX4_go cX4_go 3 none, Cond.static yX5_cosine, Cond.code yX5_cosine cX5_cosine 1 (some .int), Cond.methodLink RX5 202 yX5_sine, Cond.static yX5_sine, Cond.code yX5_sine cX5_sine 3 (some .int), Cond.fieldLink RX5 199 "ArmRoom" "SINES" "[I", Cond.instanceMethod yX4_told]
def wsL_tip_r3 : List Cond := [Cond.selects RX4 yX4_told yX4_told, Cond.code yX4_told cX4_told 2 (some .int)]
def wsL_tip : List Cond := .codeWith yL_tip cL_tip 4 (some .int) [(0, 9, 12, 13)] :: ((wsL_tip_r1 ++ (wsL_tip_r2 ++ wsL_tip_r3)) ++ wsX50 ++ wsX00 ++ wsX40 ++ (vx_atS RX5 51 "java/lang/IllegalArgumentException" ["java/lang/RuntimeException", "java/lang/Exception"]).filter goodWord)
def wsL_tipAnew_r1 : List Cond := [Cond.classLink RL 13 "java/lang/IllegalArgumentException", Cond.methodLink RL 30 yX5_tipAnew, Cond.instanceMethod yX5_tipAnew, Cond.selects RX5 yX5_tipAnew yX5_tipAnew, Cond.initialized RX5, Cond.code yX5_tipAnew cX5_tipAnew 2 (some .int), Cond.fieldLink RX5 30 "ArmRoom" "then" "LArmRoom$Tip;", Cond.fieldLink RX5 10 "ArmRoom" "arm" "LArmRoom$Arm;", Cond.methodLink RX5 86 yX5_checkTold, Cond.static yX5_checkTold, Cond.code yX5_checkTold cX5_checkTold 2 none, Cond.classLink RX5 47 "java/lang/IllegalArgumentException", Cond.initialized "java/lang/IllegalArgumentException", Cond.instanceMethod yX4_followBack, Cond.initialized RX4, Cond.selects RX4 yX4_followBack yX4_followBack, Cond.code yX4_followBack cX4_followBack 3 none, Cond.fieldLink RX4 18 "ArmRoom$Tip" "heading" "I", Cond.methodLink RX4 32 yX4_start, Cond.instanceMethod yX4_start, Cond.selects RX4 yX4_start yX4_start, Cond.code yX4_start cX4_start 1 none, Cond.fieldLink RX4 9 "ArmRoom$Tip" "x" "I", Cond.fieldLink RX4 15 "ArmRoom$Tip" "y" "I"]
def wsL_tipAnew_r2 : List Cond := [Cond.instanceMethod yX0_distanceOf, Cond.initialized RX0, Cond.selects RX0 yX0_distanceOf yX0_distanceOf, Cond.code yX0_distanceOf cX0_distanceOf 3 (some .int), Cond.fieldLink RX0 9 "ArmRoom$Arm" "kinds" "[I", Cond.fieldLink RX0 15 "ArmRoom$Arm" "lengths" "[I", Cond.instanceMethod yX0_headingAt, Cond.selects RX0 yX0_headingAt yX0_headingAt, Cond.code yX0_headingAt cX0_headingAt 4 (some .int), Cond.fieldLink RX0 24 "ArmRoom$Arm" "values" "[I", Cond.methodLink RX0 43 yX0_turnOf, Cond.instanceMethod yX0_turnOf, Cond.selects RX0 yX0_turnOf yX0_turnOf, Cond.code yX0_turnOf cX0_turnOf 3 (some .int), Cond.methodLink RX4 51 yX4_go, Cond.instanceMethod yX4_go, Cond.selects RX4 yX4_go yX4_go, Cond.code yX4_go cX4_go 3 none, Cond.static yX5_cosine, Cond.code yX5_cosine cX5_cosine 1 (some .int), Cond.methodLink RX5 202 yX5_sine, Cond.static yX5_sine, Cond.code yX5_sine cX5_sine 3 (some .int), Cond.fieldLink RX5 199 "ArmRoom" "SINES" "[I"]
def wsL_tipAnew_r3 : List Cond := [Cond.instanceMethod yX4_told, Cond.selects RX4 yX4_told yX4_told, Cond.code yX4_told cX4_told 2 (some .int)]
def wsL_tipAnew : List Cond := .codeWith yL_tipAnew cL_tipAnew 4 (some .int) [(0, 9, 12, 13)] :: ((wsL_tipAnew_r1 ++ (wsL_tipAnew_r2 ++ wsL_tipAnew_r3)) ++ wsX50 ++ wsX00 ++ wsX40 ++ (vx_atS RX5 51 "java/lang/IllegalArgumentException" ["java/lang/RuntimeException", "java/lang/Exception"]).filter goodWord)
def wsL_moves_r1 : List Cond := [Cond.classLink RL 21 "java/lang/IndexOutOfBoundsException", Cond.classLink RL 13 "java/lang/IllegalArgumentException", Cond.methodLink RL 33 yX5_moves, Cond.instanceMethod yX5_moves, Cond.selects RX5 yX5_moves yX5_moves, Cond.initialized RX5, Cond.code yX5_moves cX5_moves 3 (some .int), Cond.fieldLink RX5 26 "ArmRoom" "now" "LArmRoom$Tip;", Cond.fieldLink RX5 10 "ArmRoom" "arm" "LArmRoom$Arm;", Cond.fieldLink RX5 30 "ArmRoom" "then" "LArmRoom$Tip;", Cond.methodLink RX5 71 yX5_checkJoint, Cond.instanceMethod yX5_checkJoint, Cond.selects RX5 yX5_checkJoint yX5_checkJoint, Cond.code yX5_checkJoint cX5_checkJoint 2 none, Cond.classLink RX5 178 "java/lang/IndexOutOfBoundsException", Cond.initialized "java/lang/IndexOutOfBoundsException", Cond.methodLink RX5 86 yX5_checkTold, Cond.static yX5_checkTold, Cond.code yX5_checkTold cX5_checkTold 2 none, Cond.classLink RX5 47 "java/lang/IllegalArgumentException", Cond.initialized "java/lang/IllegalArgumentException", Cond.instanceMethod yX4_follow, Cond.initialized RX4, Cond.selects RX4 yX4_follow yX4_follow]
def wsL_moves_r2 : List Cond := [Cond.code yX4_follow cX4_follow 2 none, Cond.methodLink RX4 28 yX4_followWith, Cond.instanceMethod yX4_followWith, Cond.selects RX4 yX4_followWith yX4_followWith, Cond.code yX4_followWith cX4_followWith 6 none, Cond.fieldLink RX4 18 "ArmRoom$Tip" "heading" "I", Cond.methodLink RX4 32 yX4_start, Cond.instanceMethod yX4_start, Cond.selects RX4 yX4_start yX4_start, Cond.code yX4_start cX4_start 1 none, Cond.fieldLink RX4 9 "ArmRoom$Tip" "x" "I", Cond.fieldLink RX4 15 "ArmRoom$Tip" "y" "I", Cond.instanceMethod yX0_turnOf, Cond.initialized RX0, Cond.selects RX0 yX0_turnOf yX0_turnOf, Cond.code yX0_turnOf cX0_turnOf 3 (some .int), Cond.fieldLink RX0 9 "ArmRoom$Arm" "kinds" "[I", Cond.instanceMethod yX0_distanceOf, Cond.selects RX0 yX0_distanceOf yX0_distanceOf, Cond.code yX0_distanceOf cX0_distanceOf 3 (some .int), Cond.fieldLink RX0 15 "ArmRoom$Arm" "lengths" "[I", Cond.methodLink RX4 51 yX4_go, Cond.instanceMethod yX4_go, Cond.selects RX4 yX4_go yX4_go]
def wsL_moves_r3 : List Cond := [Cond.code yX4_go cX4_go 3 none, Cond.static yX5_cosine, Cond.code yX5_cosine cX5_cosine 1 (some .int), Cond.methodLink RX5 202 yX5_sine, Cond.static yX5_sine, Cond.code yX5_sine cX5_sine 3 (some .int), Cond.fieldLink RX5 199 "ArmRoom" "SINES" "[I", Cond.instanceMethod yX4_told, Cond.selects RX4 yX4_told yX4_told, Cond.code yX4_told cX4_told 2 (some .int)]
def wsL_moves : List Cond := .codeWith yL_moves cL_moves 5 (some .int) [(0, 10, 13, 21), (0, 10, 17, 13)] :: ((wsL_moves_r1 ++ (wsL_moves_r2 ++ wsL_moves_r3)) ++ wsX50 ++ wsX00 ++ wsX40 ++ (vx_atS RX5 182 "java/lang/IndexOutOfBoundsException" ["java/lang/RuntimeException", "java/lang/Exception"]).filter goodWord ++ (vx_atS RX5 51 "java/lang/IllegalArgumentException" ["java/lang/RuntimeException", "java/lang/Exception"]).filter goodWord)
def wsL_goal_r1 : List Cond := [Cond.classLink RL 13 "java/lang/IllegalArgumentException", Cond.methodLink RL 36 yX5_goal, Cond.instanceMethod yX5_goal, Cond.selects RX5 yX5_goal yX5_goal, Cond.initialized RX5, Cond.code yX5_goal cX5_goal 3 (some .long), Cond.classLink RX5 47 "java/lang/IllegalArgumentException", Cond.initialized "java/lang/IllegalArgumentException", Cond.constant RX5 122 (-1000000), Cond.constant RX5 123 (1000000), Cond.fieldLink RX5 19 "ArmRoom" "goal" "LArmRoom$Goal;", Cond.methodLink RX5 132 yX5_farNow, Cond.instanceMethod yX5_farNow, Cond.selects RX5 yX5_farNow yX5_farNow, Cond.code yX5_farNow cX5_farNow 1 (some .long), Cond.fieldLink RX5 26 "ArmRoom" "now" "LArmRoom$Tip;", Cond.fieldLink RX5 10 "ArmRoom" "arm" "LArmRoom$Arm;", Cond.instanceMethod yX4_follow, Cond.initialized RX4, Cond.selects RX4 yX4_follow yX4_follow, Cond.code yX4_follow cX4_follow 2 none, Cond.methodLink RX4 28 yX4_followWith, Cond.instanceMethod yX4_followWith, Cond.selects RX4 yX4_followWith yX4_followWith]
def wsL_goal_r2 : List Cond := [Cond.code yX4_followWith cX4_followWith 6 none, Cond.fieldLink RX4 18 "ArmRoom$Tip" "heading" "I", Cond.methodLink RX4 32 yX4_start, Cond.instanceMethod yX4_start, Cond.selects RX4 yX4_start yX4_start, Cond.code yX4_start cX4_start 1 none, Cond.fieldLink RX4 9 "ArmRoom$Tip" "x" "I", Cond.fieldLink RX4 15 "ArmRoom$Tip" "y" "I", Cond.instanceMethod yX0_turnOf, Cond.initialized RX0, Cond.selects RX0 yX0_turnOf yX0_turnOf, Cond.code yX0_turnOf cX0_turnOf 3 (some .int), Cond.fieldLink RX0 9 "ArmRoom$Arm" "kinds" "[I", Cond.instanceMethod yX0_distanceOf, Cond.selects RX0 yX0_distanceOf yX0_distanceOf, Cond.code yX0_distanceOf cX0_distanceOf 3 (some .int), Cond.fieldLink RX0 15 "ArmRoom$Arm" "lengths" "[I", Cond.methodLink RX4 51 yX4_go, Cond.instanceMethod yX4_go, Cond.selects RX4 yX4_go yX4_go, Cond.code yX4_go cX4_go 3 none, Cond.static yX5_cosine, Cond.code yX5_cosine cX5_cosine 1 (some .int), Cond.methodLink RX5 202 yX5_sine]
def wsL_goal_r3 : List Cond := [Cond.static yX5_sine, Cond.code yX5_sine cX5_sine 3 (some .int), Cond.fieldLink RX5 199 "ArmRoom" "SINES" "[I", Cond.instanceMethod yX1_farFrom, Cond.initialized RX1, Cond.selects RX1 yX1_farFrom yX1_farFrom, Cond.code yX1_farFrom cX1_farFrom 7 (some .long), Cond.fieldLink RX1 15 "ArmRoom$Goal" "x" "I", Cond.fieldLink RX1 18 "ArmRoom$Goal" "y" "I"]
def wsL_goal : List Cond := .codeWith yL_goal cL_goal 5 (some .int) [(0, 9, 12, 13)] :: ((wsL_goal_r1 ++ (wsL_goal_r2 ++ wsL_goal_r3)) ++ wsX50 ++ wsX10 ++ wsX40 ++ wsX00 ++ (vx_atS RX5 51 "java/lang/IllegalArgumentException" ["java/lang/RuntimeException", "java/lang/Exception"]).filter goodWord)
def wsL_steps_r1 : List Cond := [Cond.classLink RL 13 "java/lang/IllegalArgumentException", Cond.methodLink RL 40 yX5_steps, Cond.instanceMethod yX5_steps, Cond.selects RX5 yX5_steps yX5_steps, Cond.initialized RX5, Cond.code yX5_steps cX5_steps 4 (some .int), Cond.classLink RX5 47 "java/lang/IllegalArgumentException", Cond.initialized "java/lang/IllegalArgumentException", Cond.methodLink RX5 138 yX5_stepped, Cond.instanceMethod yX5_stepped, Cond.selects RX5 yX5_stepped yX5_stepped, Cond.code yX5_stepped cX5_stepped 11 (some .boolean), Cond.fieldLink RX5 10 "ArmRoom" "arm" "LArmRoom$Arm;", Cond.methodLink RX5 132 yX5_farNow, Cond.instanceMethod yX5_farNow, Cond.selects RX5 yX5_farNow yX5_farNow, Cond.code yX5_farNow cX5_farNow 1 (some .long), Cond.fieldLink RX5 26 "ArmRoom" "now" "LArmRoom$Tip;", Cond.fieldLink RX5 19 "ArmRoom" "goal" "LArmRoom$Goal;", Cond.instanceMethod yX4_follow, Cond.initialized RX4, Cond.selects RX4 yX4_follow yX4_follow, Cond.code yX4_follow cX4_follow 2 none, Cond.methodLink RX4 28 yX4_followWith]
def wsL_steps_r2 : List Cond := [Cond.instanceMethod yX4_followWith, Cond.selects RX4 yX4_followWith yX4_followWith, Cond.code yX4_followWith cX4_followWith 6 none, Cond.fieldLink RX4 18 "ArmRoom$Tip" "heading" "I", Cond.methodLink RX4 32 yX4_start, Cond.instanceMethod yX4_start, Cond.selects RX4 yX4_start yX4_start, Cond.code yX4_start cX4_start 1 none, Cond.fieldLink RX4 9 "ArmRoom$Tip" "x" "I", Cond.fieldLink RX4 15 "ArmRoom$Tip" "y" "I", Cond.instanceMethod yX0_turnOf, Cond.initialized RX0, Cond.selects RX0 yX0_turnOf yX0_turnOf, Cond.code yX0_turnOf cX0_turnOf 3 (some .int), Cond.fieldLink RX0 9 "ArmRoom$Arm" "kinds" "[I", Cond.instanceMethod yX0_distanceOf, Cond.selects RX0 yX0_distanceOf yX0_distanceOf, Cond.code yX0_distanceOf cX0_distanceOf 3 (some .int), Cond.fieldLink RX0 15 "ArmRoom$Arm" "lengths" "[I", Cond.methodLink RX4 51 yX4_go, Cond.instanceMethod yX4_go, Cond.selects RX4 yX4_go yX4_go, Cond.code yX4_go cX4_go 3 none, Cond.static yX5_cosine]
def wsL_steps_r3 : List Cond := [Cond.code yX5_cosine cX5_cosine 1 (some .int), Cond.methodLink RX5 202 yX5_sine, Cond.static yX5_sine, Cond.code yX5_sine cX5_sine 3 (some .int), Cond.fieldLink RX5 199 "ArmRoom" "SINES" "[I", Cond.instanceMethod yX1_farFrom, Cond.initialized RX1, Cond.selects RX1 yX1_farFrom yX1_farFrom, Cond.code yX1_farFrom cX1_farFrom 7 (some .long), Cond.fieldLink RX1 15 "ArmRoom$Goal" "x" "I", Cond.fieldLink RX1 18 "ArmRoom$Goal" "y" "I", Cond.instanceMethod yX0_held, Cond.selects RX0 yX0_held yX0_held, Cond.code yX0_held cX0_held 3 (some .int), Cond.fieldLink RX0 18 "ArmRoom$Arm" "lows" "[I", Cond.fieldLink RX0 21 "ArmRoom$Arm" "highs" "[I", Cond.methodLink RX0 35 Lib.Math.min.name, Cond.static Lib.Math.min.name, Cond.initialized "java/lang/Math", Cond.code Lib.Math.min.name Lib.Math.min.code 2 (some .int), Cond.methodLink RX0 40 Lib.Math.max.name, Cond.static Lib.Math.max.name, Cond.code Lib.Math.max.name Lib.Math.max.code 2 (some .int), Cond.methodLink RX5 142 yX5_farWith]
def wsL_steps_r4 : List Cond := [Cond.instanceMethod yX5_farWith, Cond.selects RX5 yX5_farWith yX5_farWith, Cond.code yX5_farWith cX5_farWith 3 (some .long), Cond.fieldLink RX5 30 "ArmRoom" "then" "LArmRoom$Tip;"]
def wsL_steps : List Cond := .codeWith yL_steps cL_steps 4 (some .int) [(0, 9, 12, 13)] :: ((wsL_steps_r1 ++ (wsL_steps_r2 ++ (wsL_steps_r3 ++ wsL_steps_r4))) ++ wsX50 ++ wsX00 ++ wsX40 ++ wsX10 ++ (vx_atS RX5 51 "java/lang/IllegalArgumentException" ["java/lang/RuntimeException", "java/lang/Exception"]).filter goodWord)
def wsL_slack : List Cond := .codeWith yL_slack cL_slack 4 (some .int) [(0, 9, 12, 13)] :: ([.classLink RL 13 "java/lang/IllegalArgumentException", .methodLink RL 43 yX5_slack, .instanceMethod yX5_slack, .selects RX5 yX5_slack yX5_slack, .initialized RX5, .code yX5_slack cX5_slack 3 (some .int), .classLink RX5 47 "java/lang/IllegalArgumentException", .initialized "java/lang/IllegalArgumentException", .constant RX5 146 (100000), .fieldLink RX5 19 "ArmRoom" "goal" "LArmRoom$Goal;"] ++ wsX50 ++ wsX10 ++ (vx_atS RX5 51 "java/lang/IllegalArgumentException" ["java/lang/RuntimeException", "java/lang/Exception"]).filter goodWord)
def wsL_branches_r1 : List Cond := [Cond.classLink RL 15 "java/lang/IllegalStateException", Cond.methodLink RL 46 yX5_branches, Cond.instanceMethod yX5_branches, Cond.selects RX5 yX5_branches yX5_branches, Cond.initialized RX5, Cond.code yX5_branches cX5_branches 1 (some .int), Cond.classLink RX5 62 "java/lang/IllegalStateException", Cond.initialized "java/lang/IllegalStateException", Cond.fieldLink RX5 10 "ArmRoom" "arm" "LArmRoom$Arm;", Cond.constantLong RX5 154 (40000), Cond.fieldLink RX5 36 "ArmRoom" "search" "LArmRoom$Search;", Cond.fieldLink RX5 19 "ArmRoom" "goal" "LArmRoom$Goal;", Cond.instanceMethod yX0_countPoses, Cond.initialized RX0, Cond.selects RX0 yX0_countPoses yX0_countPoses, Cond.code yX0_countPoses cX0_countPoses 4 (some .long), Cond.fieldLink RX0 27 "ArmRoom$Arm" "count" "I", Cond.fieldLink RX0 21 "ArmRoom$Arm" "highs" "[I", Cond.fieldLink RX0 18 "ArmRoom$Arm" "lows" "[I", Cond.instanceMethod yX3_run, Cond.initialized RX3, Cond.selects RX3 yX3_run yX3_run, Cond.code yX3_run cX3_run 4 none, Cond.fieldLink RX3 12 "ArmRoom$Search" "ranking" "LArmRoom$Ranking;"]
def wsL_branches_r2 : List Cond := [Cond.instanceMethod yX2_clear, Cond.initialized RX2, Cond.selects RX2 yX2_clear yX2_clear, Cond.code yX2_clear cX2_clear 1 none, Cond.fieldLink RX2 19 "ArmRoom$Ranking" "found" "I", Cond.methodLink RX3 40 yX3_findReach, Cond.instanceMethod yX3_findReach, Cond.selects RX3 yX3_findReach yX3_findReach, Cond.code yX3_findReach cX3_findReach 4 none, Cond.fieldLink RX3 22 "ArmRoom$Search" "reach" "[I", Cond.instanceMethod yX0_distanceOf, Cond.selects RX0 yX0_distanceOf yX0_distanceOf, Cond.code yX0_distanceOf cX0_distanceOf 3 (some .int), Cond.fieldLink RX0 9 "ArmRoom$Arm" "kinds" "[I", Cond.fieldLink RX0 15 "ArmRoom$Arm" "lengths" "[I", Cond.methodLink RX3 50 yX3_goThrough, Cond.static yX3_goThrough, Cond.code yX3_goThrough cX3_goThrough 6 none, Cond.fieldLink RX3 25 "ArmRoom$Search" "xs" "[I", Cond.fieldLink RX3 28 "ArmRoom$Search" "ys" "[I", Cond.fieldLink RX3 18 "ArmRoom$Search" "pose" "[I", Cond.instanceMethod yX1_isWithin, Cond.initialized RX1, Cond.selects RX1 yX1_isWithin yX1_isWithin]
def wsL_branches_r3 : List Cond := [Cond.code yX1_isWithin cX1_isWithin 4 (some .boolean), Cond.fieldLink RX1 15 "ArmRoom$Goal" "x" "I", Cond.methodLink RX1 21 Lib.Math.abs.name, Cond.static Lib.Math.abs.name, Cond.initialized "java/lang/Math", Cond.code Lib.Math.abs.name Lib.Math.abs.code 1 (some .int), Cond.fieldLink RX1 18 "ArmRoom$Goal" "y" "I", Cond.methodLink RX3 70 yX3_keyOf, Cond.instanceMethod yX3_keyOf, Cond.selects RX3 yX3_keyOf yX3_keyOf, Cond.code yX3_keyOf cX3_keyOf 6 (some .long), Cond.fieldLink RX3 34 "ArmRoom$Search" "ways" "[I", Cond.fieldLink RX3 31 "ArmRoom$Search" "headings" "[I", Cond.methodLink RX3 110 Lib.Math.min.name, Cond.static Lib.Math.min.name, Cond.code Lib.Math.min.name Lib.Math.min.code 2 (some .int), Cond.instanceMethod yX1_farFrom, Cond.selects RX1 yX1_farFrom yX1_farFrom, Cond.code yX1_farFrom cX1_farFrom 7 (some .long), Cond.instanceMethod yX0_headingAt, Cond.selects RX0 yX0_headingAt yX0_headingAt, Cond.code yX0_headingAt cX0_headingAt 4 (some .int), Cond.fieldLink RX0 24 "ArmRoom$Arm" "values" "[I", Cond.methodLink RX0 43 yX0_turnOf]
def wsL_branches_r4 : List Cond := [Cond.instanceMethod yX0_turnOf, Cond.selects RX0 yX0_turnOf yX0_turnOf, Cond.code yX0_turnOf cX0_turnOf 3 (some .int), Cond.instanceMethod yX2_add, Cond.selects RX2 yX2_add yX2_add, Cond.code yX2_add cX2_add 5 none, Cond.methodLink RX2 23 Lib.Math.min.name, Cond.fieldLink RX2 9 "ArmRoom$Ranking" "keys" "[J", Cond.fieldLink RX2 15 "ArmRoom$Ranking" "rows" "[I", Cond.methodLink RX2 33 arraycopyName, Cond.native arraycopyName, Cond.static arraycopyName, Cond.initialized "java/lang/System", Cond.methodLink RX2 29 yX2_moveDown, Cond.instanceMethod yX2_moveDown, Cond.selects RX2 yX2_moveDown yX2_moveDown, Cond.code yX2_moveDown cX2_moveDown 2 none, Cond.methodLink RX3 81 yX3_lead, Cond.instanceMethod yX3_lead, Cond.selects RX3 yX3_lead yX3_lead, Cond.code yX3_lead cX3_lead 6 none, Cond.methodLink RX3 98 Lib.Math.abs.name, Cond.static yX5_cosine, Cond.code yX5_cosine cX5_cosine 1 (some .int)]
def wsL_branches_r5 : List Cond := [Cond.methodLink RX5 202 yX5_sine, Cond.static yX5_sine, Cond.code yX5_sine cX5_sine 3 (some .int), Cond.fieldLink RX5 199 "ArmRoom" "SINES" "[I"]
def wsL_branches : List Cond := .codeWith yL_branches cL_branches 3 (some .int) [(0, 8, 11, 15)] :: ((wsL_branches_r1 ++ (wsL_branches_r2 ++ (wsL_branches_r3 ++ (wsL_branches_r4 ++ wsL_branches_r5)))) ++ wsX50 ++ wsX30 ++ wsX20 ++ wsX00 ++ wsX10 ++ (vx_atS RX5 66 "java/lang/IllegalStateException" ["java/lang/RuntimeException", "java/lang/Exception"]).filter goodWord)
def wsL_branch_r1 : List Cond := [Cond.classLink RL 21 "java/lang/IndexOutOfBoundsException", Cond.classLink RL 13 "java/lang/IllegalArgumentException", Cond.classLink RL 15 "java/lang/IllegalStateException", Cond.methodLink RL 50 yX5_branch, Cond.instanceMethod yX5_branch, Cond.selects RX5 yX5_branch yX5_branch, Cond.initialized RX5, Cond.code yX5_branch cX5_branch 4 (some .int), Cond.fieldLink RX5 36 "ArmRoom" "search" "LArmRoom$Search;", Cond.methodLink RX5 71 yX5_checkJoint, Cond.instanceMethod yX5_checkJoint, Cond.selects RX5 yX5_checkJoint yX5_checkJoint, Cond.code yX5_checkJoint cX5_checkJoint 2 none, Cond.classLink RX5 178 "java/lang/IndexOutOfBoundsException", Cond.initialized "java/lang/IndexOutOfBoundsException", Cond.fieldLink RX5 10 "ArmRoom" "arm" "LArmRoom$Arm;", Cond.methodLink RX5 171 yX5_findBranch, Cond.instanceMethod yX5_findBranch, Cond.selects RX5 yX5_findBranch yX5_findBranch, Cond.code yX5_findBranch cX5_findBranch 4 none, Cond.classLink RX5 47 "java/lang/IllegalArgumentException", Cond.initialized "java/lang/IllegalArgumentException", Cond.classLink RX5 62 "java/lang/IllegalStateException", Cond.initialized "java/lang/IllegalStateException"]
def wsL_branch_r2 : List Cond := [Cond.constantLong RX5 154 (40000), Cond.fieldLink RX5 19 "ArmRoom" "goal" "LArmRoom$Goal;", Cond.instanceMethod yX0_countPoses, Cond.initialized RX0, Cond.selects RX0 yX0_countPoses yX0_countPoses, Cond.code yX0_countPoses cX0_countPoses 4 (some .long), Cond.fieldLink RX0 27 "ArmRoom$Arm" "count" "I", Cond.fieldLink RX0 21 "ArmRoom$Arm" "highs" "[I", Cond.fieldLink RX0 18 "ArmRoom$Arm" "lows" "[I", Cond.instanceMethod yX3_run, Cond.initialized RX3, Cond.selects RX3 yX3_run yX3_run, Cond.code yX3_run cX3_run 4 none, Cond.fieldLink RX3 12 "ArmRoom$Search" "ranking" "LArmRoom$Ranking;", Cond.instanceMethod yX2_clear, Cond.initialized RX2, Cond.selects RX2 yX2_clear yX2_clear, Cond.code yX2_clear cX2_clear 1 none, Cond.fieldLink RX2 19 "ArmRoom$Ranking" "found" "I", Cond.methodLink RX3 40 yX3_findReach, Cond.instanceMethod yX3_findReach, Cond.selects RX3 yX3_findReach yX3_findReach, Cond.code yX3_findReach cX3_findReach 4 none, Cond.fieldLink RX3 22 "ArmRoom$Search" "reach" "[I"]
def wsL_branch_r3 : List Cond := [Cond.instanceMethod yX0_distanceOf, Cond.selects RX0 yX0_distanceOf yX0_distanceOf, Cond.code yX0_distanceOf cX0_distanceOf 3 (some .int), Cond.fieldLink RX0 9 "ArmRoom$Arm" "kinds" "[I", Cond.fieldLink RX0 15 "ArmRoom$Arm" "lengths" "[I", Cond.methodLink RX3 50 yX3_goThrough, Cond.static yX3_goThrough, Cond.code yX3_goThrough cX3_goThrough 6 none, Cond.fieldLink RX3 25 "ArmRoom$Search" "xs" "[I", Cond.fieldLink RX3 28 "ArmRoom$Search" "ys" "[I", Cond.fieldLink RX3 18 "ArmRoom$Search" "pose" "[I", Cond.instanceMethod yX1_isWithin, Cond.initialized RX1, Cond.selects RX1 yX1_isWithin yX1_isWithin, Cond.code yX1_isWithin cX1_isWithin 4 (some .boolean), Cond.fieldLink RX1 15 "ArmRoom$Goal" "x" "I", Cond.methodLink RX1 21 Lib.Math.abs.name, Cond.static Lib.Math.abs.name, Cond.initialized "java/lang/Math", Cond.code Lib.Math.abs.name Lib.Math.abs.code 1 (some .int), Cond.fieldLink RX1 18 "ArmRoom$Goal" "y" "I", Cond.methodLink RX3 70 yX3_keyOf, Cond.instanceMethod yX3_keyOf, Cond.selects RX3 yX3_keyOf yX3_keyOf]
def wsL_branch_r4 : List Cond := [Cond.code yX3_keyOf cX3_keyOf 6 (some .long), Cond.fieldLink RX3 34 "ArmRoom$Search" "ways" "[I", Cond.fieldLink RX3 31 "ArmRoom$Search" "headings" "[I", Cond.methodLink RX3 110 Lib.Math.min.name, Cond.static Lib.Math.min.name, Cond.code Lib.Math.min.name Lib.Math.min.code 2 (some .int), Cond.instanceMethod yX1_farFrom, Cond.selects RX1 yX1_farFrom yX1_farFrom, Cond.code yX1_farFrom cX1_farFrom 7 (some .long), Cond.instanceMethod yX0_headingAt, Cond.selects RX0 yX0_headingAt yX0_headingAt, Cond.code yX0_headingAt cX0_headingAt 4 (some .int), Cond.fieldLink RX0 24 "ArmRoom$Arm" "values" "[I", Cond.methodLink RX0 43 yX0_turnOf, Cond.instanceMethod yX0_turnOf, Cond.selects RX0 yX0_turnOf yX0_turnOf, Cond.code yX0_turnOf cX0_turnOf 3 (some .int), Cond.instanceMethod yX2_add, Cond.selects RX2 yX2_add yX2_add, Cond.code yX2_add cX2_add 5 none, Cond.methodLink RX2 23 Lib.Math.min.name, Cond.fieldLink RX2 9 "ArmRoom$Ranking" "keys" "[J", Cond.fieldLink RX2 15 "ArmRoom$Ranking" "rows" "[I", Cond.methodLink RX2 33 arraycopyName]
def wsL_branch_r5 : List Cond := [Cond.native arraycopyName, Cond.static arraycopyName, Cond.initialized "java/lang/System", Cond.methodLink RX2 29 yX2_moveDown, Cond.instanceMethod yX2_moveDown, Cond.selects RX2 yX2_moveDown yX2_moveDown, Cond.code yX2_moveDown cX2_moveDown 2 none, Cond.methodLink RX3 81 yX3_lead, Cond.instanceMethod yX3_lead, Cond.selects RX3 yX3_lead yX3_lead, Cond.code yX3_lead cX3_lead 6 none, Cond.methodLink RX3 98 Lib.Math.abs.name, Cond.static yX5_cosine, Cond.code yX5_cosine cX5_cosine 1 (some .int), Cond.methodLink RX5 202 yX5_sine, Cond.static yX5_sine, Cond.code yX5_sine cX5_sine 3 (some .int), Cond.fieldLink RX5 199 "ArmRoom" "SINES" "[I", Cond.instanceMethod yX2_valueOf, Cond.selects RX2 yX2_valueOf yX2_valueOf, Cond.code yX2_valueOf cX2_valueOf 3 (some .int)]
def wsL_branch : List Cond := .codeWith yL_branch cL_branch 6 (some .int) [(0, 12, 15, 21), (0, 12, 19, 13), (0, 12, 23, 15)] :: ((wsL_branch_r1 ++ (wsL_branch_r2 ++ (wsL_branch_r3 ++ (wsL_branch_r4 ++ wsL_branch_r5)))) ++ wsX50 ++ wsX30 ++ wsX00 ++ wsX20 ++ wsX10 ++ (vx_atS RX5 182 "java/lang/IndexOutOfBoundsException" ["java/lang/RuntimeException", "java/lang/Exception"]).filter goodWord ++ (vx_atS RX5 51 "java/lang/IllegalArgumentException" ["java/lang/RuntimeException", "java/lang/Exception"]).filter goodWord ++ (vx_atS RX5 66 "java/lang/IllegalStateException" ["java/lang/RuntimeException", "java/lang/Exception"]).filter goodWord)
def wsL_take_r1 : List Cond := [Cond.classLink RL 21 "java/lang/IndexOutOfBoundsException", Cond.classLink RL 13 "java/lang/IllegalArgumentException", Cond.classLink RL 15 "java/lang/IllegalStateException", Cond.methodLink RL 54 yX5_take, Cond.instanceMethod yX5_take, Cond.selects RX5 yX5_take yX5_take, Cond.initialized RX5, Cond.code yX5_take cX5_take 4 (some .long), Cond.fieldLink RX5 10 "ArmRoom" "arm" "LArmRoom$Arm;", Cond.fieldLink RX5 36 "ArmRoom" "search" "LArmRoom$Search;", Cond.methodLink RX5 171 yX5_findBranch, Cond.instanceMethod yX5_findBranch, Cond.selects RX5 yX5_findBranch yX5_findBranch, Cond.code yX5_findBranch cX5_findBranch 4 none, Cond.classLink RX5 178 "java/lang/IndexOutOfBoundsException", Cond.initialized "java/lang/IndexOutOfBoundsException", Cond.classLink RX5 47 "java/lang/IllegalArgumentException", Cond.initialized "java/lang/IllegalArgumentException", Cond.classLink RX5 62 "java/lang/IllegalStateException", Cond.initialized "java/lang/IllegalStateException", Cond.constantLong RX5 154 (40000), Cond.fieldLink RX5 19 "ArmRoom" "goal" "LArmRoom$Goal;", Cond.instanceMethod yX0_countPoses, Cond.initialized RX0]
def wsL_take_r2 : List Cond := [Cond.selects RX0 yX0_countPoses yX0_countPoses, Cond.code yX0_countPoses cX0_countPoses 4 (some .long), Cond.fieldLink RX0 27 "ArmRoom$Arm" "count" "I", Cond.fieldLink RX0 21 "ArmRoom$Arm" "highs" "[I", Cond.fieldLink RX0 18 "ArmRoom$Arm" "lows" "[I", Cond.instanceMethod yX3_run, Cond.initialized RX3, Cond.selects RX3 yX3_run yX3_run, Cond.code yX3_run cX3_run 4 none, Cond.fieldLink RX3 12 "ArmRoom$Search" "ranking" "LArmRoom$Ranking;", Cond.instanceMethod yX2_clear, Cond.initialized RX2, Cond.selects RX2 yX2_clear yX2_clear, Cond.code yX2_clear cX2_clear 1 none, Cond.fieldLink RX2 19 "ArmRoom$Ranking" "found" "I", Cond.methodLink RX3 40 yX3_findReach, Cond.instanceMethod yX3_findReach, Cond.selects RX3 yX3_findReach yX3_findReach, Cond.code yX3_findReach cX3_findReach 4 none, Cond.fieldLink RX3 22 "ArmRoom$Search" "reach" "[I", Cond.instanceMethod yX0_distanceOf, Cond.selects RX0 yX0_distanceOf yX0_distanceOf, Cond.code yX0_distanceOf cX0_distanceOf 3 (some .int), Cond.fieldLink RX0 9 "ArmRoom$Arm" "kinds" "[I"]
def wsL_take_r3 : List Cond := [Cond.fieldLink RX0 15 "ArmRoom$Arm" "lengths" "[I", Cond.methodLink RX3 50 yX3_goThrough, Cond.static yX3_goThrough, Cond.code yX3_goThrough cX3_goThrough 6 none, Cond.fieldLink RX3 25 "ArmRoom$Search" "xs" "[I", Cond.fieldLink RX3 28 "ArmRoom$Search" "ys" "[I", Cond.fieldLink RX3 18 "ArmRoom$Search" "pose" "[I", Cond.instanceMethod yX1_isWithin, Cond.initialized RX1, Cond.selects RX1 yX1_isWithin yX1_isWithin, Cond.code yX1_isWithin cX1_isWithin 4 (some .boolean), Cond.fieldLink RX1 15 "ArmRoom$Goal" "x" "I", Cond.methodLink RX1 21 Lib.Math.abs.name, Cond.static Lib.Math.abs.name, Cond.initialized "java/lang/Math", Cond.code Lib.Math.abs.name Lib.Math.abs.code 1 (some .int), Cond.fieldLink RX1 18 "ArmRoom$Goal" "y" "I", Cond.methodLink RX3 70 yX3_keyOf, Cond.instanceMethod yX3_keyOf, Cond.selects RX3 yX3_keyOf yX3_keyOf, Cond.code yX3_keyOf cX3_keyOf 6 (some .long), Cond.fieldLink RX3 34 "ArmRoom$Search" "ways" "[I", Cond.fieldLink RX3 31 "ArmRoom$Search" "headings" "[I", Cond.methodLink RX3 110 Lib.Math.min.name]
def wsL_take_r4 : List Cond := [Cond.static Lib.Math.min.name, Cond.code Lib.Math.min.name Lib.Math.min.code 2 (some .int), Cond.instanceMethod yX1_farFrom, Cond.selects RX1 yX1_farFrom yX1_farFrom, Cond.code yX1_farFrom cX1_farFrom 7 (some .long), Cond.instanceMethod yX0_headingAt, Cond.selects RX0 yX0_headingAt yX0_headingAt, Cond.code yX0_headingAt cX0_headingAt 4 (some .int), Cond.fieldLink RX0 24 "ArmRoom$Arm" "values" "[I", Cond.methodLink RX0 43 yX0_turnOf, Cond.instanceMethod yX0_turnOf, Cond.selects RX0 yX0_turnOf yX0_turnOf, Cond.code yX0_turnOf cX0_turnOf 3 (some .int), Cond.instanceMethod yX2_add, Cond.selects RX2 yX2_add yX2_add, Cond.code yX2_add cX2_add 5 none, Cond.methodLink RX2 23 Lib.Math.min.name, Cond.fieldLink RX2 9 "ArmRoom$Ranking" "keys" "[J", Cond.fieldLink RX2 15 "ArmRoom$Ranking" "rows" "[I", Cond.methodLink RX2 33 arraycopyName, Cond.native arraycopyName, Cond.static arraycopyName, Cond.initialized "java/lang/System", Cond.methodLink RX2 29 yX2_moveDown]
def wsL_take_r5 : List Cond := [Cond.instanceMethod yX2_moveDown, Cond.selects RX2 yX2_moveDown yX2_moveDown, Cond.code yX2_moveDown cX2_moveDown 2 none, Cond.methodLink RX3 81 yX3_lead, Cond.instanceMethod yX3_lead, Cond.selects RX3 yX3_lead yX3_lead, Cond.code yX3_lead cX3_lead 6 none, Cond.methodLink RX3 98 Lib.Math.abs.name, Cond.static yX5_cosine, Cond.code yX5_cosine cX5_cosine 1 (some .int), Cond.methodLink RX5 202 yX5_sine, Cond.static yX5_sine, Cond.code yX5_sine cX5_sine 3 (some .int), Cond.fieldLink RX5 199 "ArmRoom" "SINES" "[I", Cond.instanceMethod yX2_valueOf, Cond.selects RX2 yX2_valueOf yX2_valueOf, Cond.code yX2_valueOf cX2_valueOf 3 (some .int), Cond.methodLink RX5 132 yX5_farNow, Cond.instanceMethod yX5_farNow, Cond.selects RX5 yX5_farNow yX5_farNow, Cond.code yX5_farNow cX5_farNow 1 (some .long), Cond.fieldLink RX5 26 "ArmRoom" "now" "LArmRoom$Tip;", Cond.instanceMethod yX4_follow, Cond.initialized RX4]
def wsL_take_r6 : List Cond := [Cond.selects RX4 yX4_follow yX4_follow, Cond.code yX4_follow cX4_follow 2 none, Cond.methodLink RX4 28 yX4_followWith, Cond.instanceMethod yX4_followWith, Cond.selects RX4 yX4_followWith yX4_followWith, Cond.code yX4_followWith cX4_followWith 6 none, Cond.fieldLink RX4 18 "ArmRoom$Tip" "heading" "I", Cond.methodLink RX4 32 yX4_start, Cond.instanceMethod yX4_start, Cond.selects RX4 yX4_start yX4_start, Cond.code yX4_start cX4_start 1 none, Cond.fieldLink RX4 9 "ArmRoom$Tip" "x" "I", Cond.fieldLink RX4 15 "ArmRoom$Tip" "y" "I", Cond.methodLink RX4 51 yX4_go, Cond.instanceMethod yX4_go, Cond.selects RX4 yX4_go yX4_go, Cond.code yX4_go cX4_go 3 none]
def wsL_take : List Cond := .codeWith yL_take cL_take 5 (some .int) [(0, 9, 12, 21), (0, 9, 16, 13), (0, 9, 20, 15)] :: ((wsL_take_r1 ++ (wsL_take_r2 ++ (wsL_take_r3 ++ (wsL_take_r4 ++ (wsL_take_r5 ++ wsL_take_r6))))) ++ wsX50 ++ wsX00 ++ wsX30 ++ wsX20 ++ wsX10 ++ wsX40 ++ (vx_atS RX5 182 "java/lang/IndexOutOfBoundsException" ["java/lang/RuntimeException", "java/lang/Exception"]).filter goodWord ++ (vx_atS RX5 51 "java/lang/IllegalArgumentException" ["java/lang/RuntimeException", "java/lang/Exception"]).filter goodWord ++ (vx_atS RX5 66 "java/lang/IllegalStateException" ["java/lang/RuntimeException", "java/lang/Exception"]).filter goodWord)
def wsL_law0_r1 : List Cond := [Cond.classLink RL 8 RX5, Cond.instantiable RX5 7, Cond.initialized RX5, Cond.classLink RL 58 RX6, Cond.instantiable RX6 19, Cond.initialized RX6, Cond.arrayClass .long, Cond.methodLink RL 57 yX5_init, Cond.instanceMethod yX5_init, Cond.code yX5_init cX5_init 1 none, Cond.methodLink RX5 1 objectInit, Cond.instanceMethod objectInit, Cond.code objectInit ⟨#[0xb1]⟩ 1 none, Cond.classLink RX5 7 RX0, Cond.instantiable RX0 6, Cond.initialized RX0, Cond.fieldLink RX5 10 "ArmRoom" "arm" "LArmRoom$Arm;", Cond.classLink RX5 16 RX1, Cond.instantiable RX1 3, Cond.initialized RX1, Cond.fieldLink RX5 19 "ArmRoom" "goal" "LArmRoom$Goal;", Cond.classLink RX5 23 RX4, Cond.instantiable RX4 3, Cond.initialized RX4]
def wsL_law0_r2 : List Cond := [Cond.fieldLink RX5 26 "ArmRoom" "now" "LArmRoom$Tip;", Cond.fieldLink RX5 30 "ArmRoom" "then" "LArmRoom$Tip;", Cond.classLink RX5 33 RX3, Cond.instantiable RX3 7, Cond.initialized RX3, Cond.fieldLink RX5 36 "ArmRoom" "search" "LArmRoom$Search;", Cond.arrayClass .int, Cond.fieldLink RX5 40 "ArmRoom" "movesX" "[I", Cond.fieldLink RX5 44 "ArmRoom" "movesY" "[I", Cond.instanceMethod yX0_init, Cond.code yX0_init cX0_init 1 none, Cond.methodLink RX0 3 objectInit, Cond.fieldLink RX0 9 "ArmRoom$Arm" "kinds" "[I", Cond.fieldLink RX0 15 "ArmRoom$Arm" "lengths" "[I", Cond.fieldLink RX0 18 "ArmRoom$Arm" "lows" "[I", Cond.fieldLink RX0 21 "ArmRoom$Arm" "highs" "[I", Cond.fieldLink RX0 24 "ArmRoom$Arm" "values" "[I", Cond.instanceMethod yX1_init, Cond.code yX1_init cX1_init 1 none, Cond.methodLink RX1 3 objectInit, Cond.fieldLink RX1 9 "ArmRoom$Goal" "slack" "I", Cond.instanceMethod yX4_init, Cond.code yX4_init cX4_init 1 none, Cond.methodLink RX4 3 objectInit]
def wsL_law0_r3 : List Cond := [Cond.instanceMethod yX3_init, Cond.code yX3_init cX3_init 1 none, Cond.methodLink RX3 3 objectInit, Cond.classLink RX3 9 RX2, Cond.instantiable RX2 3, Cond.initialized RX2, Cond.fieldLink RX3 12 "ArmRoom$Search" "ranking" "LArmRoom$Ranking;", Cond.fieldLink RX3 18 "ArmRoom$Search" "pose" "[I", Cond.fieldLink RX3 22 "ArmRoom$Search" "reach" "[I", Cond.fieldLink RX3 25 "ArmRoom$Search" "xs" "[I", Cond.fieldLink RX3 28 "ArmRoom$Search" "ys" "[I", Cond.fieldLink RX3 31 "ArmRoom$Search" "headings" "[I", Cond.fieldLink RX3 34 "ArmRoom$Search" "ways" "[I", Cond.instanceMethod yX2_init, Cond.code yX2_init cX2_init 1 none, Cond.methodLink RX2 3 objectInit, Cond.fieldLink RX2 9 "ArmRoom$Ranking" "keys" "[J", Cond.fieldLink RX2 15 "ArmRoom$Ranking" "rows" "[I", Cond.methodLink RL 60 yX6_init, Cond.instanceMethod yX6_init, Cond.code yX6_init cX6_init 1 none, Cond.methodLink RX6 1 objectInit, Cond.fieldLink RX6 7 "ArmRoomModel" "kind" "[I", Cond.fieldLink RX6 13 "ArmRoomModel" "length" "[I"]
def wsL_law0_r4 : List Cond := [Cond.fieldLink RX6 16 "ArmRoomModel" "low" "[I", Cond.fieldLink RX6 19 "ArmRoomModel" "high" "[I", Cond.fieldLink RX6 22 "ArmRoomModel" "value" "[I", Cond.fieldLink RX6 25 "ArmRoomModel" "slack" "I", Cond.fieldLink RX6 29 "ArmRoomModel" "pose" "[I", Cond.fieldLink RX6 32 "ArmRoomModel" "moveX" "[I", Cond.fieldLink RX6 35 "ArmRoomModel" "moveY" "[I", Cond.fieldLink RX6 38 "ArmRoomModel" "key" "[J", Cond.fieldLink RX6 42 "ArmRoomModel" "which" "[I", Cond.methodLink RL 61 yL_joint, Cond.static yL_joint, Cond.initialized RL, Cond.codeWith yL_joint cL_joint 7 (some .int) [(0, 14, 17, 13), (0, 14, 21, 15)], Cond.classLink RL 13 "java/lang/IllegalArgumentException", Cond.classLink RL 15 "java/lang/IllegalStateException", Cond.methodLink RL 7 yX5_joint, Cond.instanceMethod yX5_joint, Cond.selects RX5 yX5_joint yX5_joint, Cond.code yX5_joint cX5_joint 7 (some .int), Cond.classLink RX5 47 "java/lang/IllegalArgumentException", Cond.initialized "java/lang/IllegalArgumentException", Cond.classLink RX5 62 "java/lang/IllegalStateException", Cond.initialized "java/lang/IllegalStateException", Cond.instanceMethod yX0_isFull]
def wsL_law0_r5 : List Cond := [Cond.selects RX0 yX0_isFull yX0_isFull, Cond.code yX0_isFull cX0_isFull 1 (some .boolean), Cond.fieldLink RX0 27 "ArmRoom$Arm" "count" "I", Cond.instanceMethod yX0_add, Cond.selects RX0 yX0_add yX0_add, Cond.code yX0_add cX0_add 6 (some .int), Cond.methodLink RX0 31 yX0_held, Cond.instanceMethod yX0_held, Cond.selects RX0 yX0_held yX0_held, Cond.code yX0_held cX0_held 3 (some .int), Cond.methodLink RX0 35 Lib.Math.min.name, Cond.static Lib.Math.min.name, Cond.initialized "java/lang/Math", Cond.code Lib.Math.min.name Lib.Math.min.code 2 (some .int), Cond.methodLink RX0 40 Lib.Math.max.name, Cond.static Lib.Math.max.name, Cond.code Lib.Math.max.name Lib.Math.max.code 2 (some .int), Cond.methodLink RL 66 yX6_joint, Cond.instanceMethod yX6_joint, Cond.selects RX6 yX6_joint yX6_joint, Cond.code yX6_joint cX6_joint 6 (some .int), Cond.fieldLink RX6 48 "ArmRoomModel" "joints" "I", Cond.fieldLink RX6 45 "ArmRoomModel" "thrown" "I", Cond.methodLink RX6 51 yX6_in]
def wsL_law0_r6 : List Cond := [Cond.static yX6_in, Cond.code yX6_in cX6_in 3 (some .boolean), Cond.methodLink RX6 93 yX6_most, Cond.static yX6_most, Cond.code yX6_most cX6_most 1 (some .int), Cond.methodLink RX6 96 yX6_held, Cond.static yX6_held, Cond.code yX6_held cX6_held 3 (some .int), Cond.methodLink RL 67 yX6_thrown, Cond.instanceMethod yX6_thrown, Cond.selects RX6 yX6_thrown yX6_thrown, Cond.code yX6_thrown cX6_thrown 1 (some .int), Cond.methodLink RL 70 yL_set, Cond.static yL_set, Cond.codeWith yL_set cL_set 5 (some .int) [(0, 10, 13, 21), (0, 10, 17, 13)], Cond.classLink RL 21 "java/lang/IndexOutOfBoundsException", Cond.methodLink RL 17 yX5_set, Cond.instanceMethod yX5_set, Cond.selects RX5 yX5_set yX5_set, Cond.code yX5_set cX5_set 4 (some .int), Cond.methodLink RX5 71 yX5_checkJoint, Cond.instanceMethod yX5_checkJoint, Cond.selects RX5 yX5_checkJoint yX5_checkJoint, Cond.code yX5_checkJoint cX5_checkJoint 2 none]
def wsL_law0_r7 : List Cond := [Cond.classLink RX5 178 "java/lang/IndexOutOfBoundsException", Cond.initialized "java/lang/IndexOutOfBoundsException", Cond.methodLink RL 73 yX6_set, Cond.instanceMethod yX6_set, Cond.selects RX6 yX6_set yX6_set, Cond.code yX6_set cX6_set 4 (some .int), Cond.methodLink RX6 100 yX6_isJoint, Cond.instanceMethod yX6_isJoint, Cond.selects RX6 yX6_isJoint yX6_isJoint, Cond.code yX6_isJoint cX6_isJoint 2 (some .boolean), Cond.methodLink RL 74 yL_value, Cond.static yL_value, Cond.codeWith yL_value cL_value 4 (some .int) [(0, 9, 12, 21)], Cond.methodLink RL 23 yX5_value, Cond.instanceMethod yX5_value, Cond.selects RX5 yX5_value yX5_value, Cond.code yX5_value cX5_value 2 (some .int), Cond.methodLink RL 77 yX6_value, Cond.instanceMethod yX6_value, Cond.selects RX6 yX6_value yX6_value, Cond.code yX6_value cX6_value 2 (some .int), Cond.methodLink RL 78 yL_tip, Cond.static yL_tip, Cond.codeWith yL_tip cL_tip 4 (some .int) [(0, 9, 12, 13)]]
def wsL_law0_r8 : List Cond := [Cond.methodLink RL 27 yX5_tip, Cond.instanceMethod yX5_tip, Cond.selects RX5 yX5_tip yX5_tip, Cond.code yX5_tip cX5_tip 2 (some .int), Cond.methodLink RX5 86 yX5_checkTold, Cond.static yX5_checkTold, Cond.code yX5_checkTold cX5_checkTold 2 none, Cond.instanceMethod yX4_follow, Cond.selects RX4 yX4_follow yX4_follow, Cond.code yX4_follow cX4_follow 2 none, Cond.methodLink RX4 28 yX4_followWith, Cond.instanceMethod yX4_followWith, Cond.selects RX4 yX4_followWith yX4_followWith, Cond.code yX4_followWith cX4_followWith 6 none, Cond.fieldLink RX4 18 "ArmRoom$Tip" "heading" "I", Cond.methodLink RX4 32 yX4_start, Cond.instanceMethod yX4_start, Cond.selects RX4 yX4_start yX4_start, Cond.code yX4_start cX4_start 1 none, Cond.fieldLink RX4 9 "ArmRoom$Tip" "x" "I", Cond.fieldLink RX4 15 "ArmRoom$Tip" "y" "I", Cond.instanceMethod yX0_turnOf, Cond.selects RX0 yX0_turnOf yX0_turnOf, Cond.code yX0_turnOf cX0_turnOf 3 (some .int)]
def wsL_law0_r9 : List Cond := [Cond.instanceMethod yX0_distanceOf, Cond.selects RX0 yX0_distanceOf yX0_distanceOf, Cond.code yX0_distanceOf cX0_distanceOf 3 (some .int), Cond.methodLink RX4 51 yX4_go, Cond.instanceMethod yX4_go, Cond.selects RX4 yX4_go yX4_go, Cond.code yX4_go cX4_go 3 none, Cond.static yX5_cosine, Cond.code yX5_cosine cX5_cosine 1 (some .int), Cond.methodLink RX5 202 yX5_sine, Cond.static yX5_sine, Cond.code yX5_sine cX5_sine 3 (some .int), Cond.fieldLink RX5 199 "ArmRoom" "SINES" "[I", Cond.instanceMethod yX4_told, Cond.selects RX4 yX4_told yX4_told, Cond.code yX4_told cX4_told 2 (some .int), Cond.methodLink RL 80 yX6_tip, Cond.instanceMethod yX6_tip, Cond.selects RX6 yX6_tip yX6_tip, Cond.code yX6_tip cX6_tip 2 (some .int), Cond.fieldLink RX6 59 "ArmRoomModel" "x" "I", Cond.fieldLink RX6 62 "ArmRoomModel" "y" "I", Cond.fieldLink RX6 65 "ArmRoomModel" "heading" "I", Cond.methodLink RX6 86 yX6_looksNow]
def wsL_law0_r10 : List Cond := [Cond.instanceMethod yX6_looksNow, Cond.selects RX6 yX6_looksNow yX6_looksNow, Cond.code yX6_looksNow cX6_looksNow 1 none, Cond.methodLink RX6 74 yX6_copiesPose, Cond.instanceMethod yX6_copiesPose, Cond.selects RX6 yX6_copiesPose yX6_copiesPose, Cond.code yX6_copiesPose cX6_copiesPose 2 none, Cond.methodLink RX6 77 yX6_looks, Cond.instanceMethod yX6_looks, Cond.selects RX6 yX6_looks yX6_looks, Cond.code yX6_looks cX6_looks 3 none, Cond.methodLink RX6 68 yX6_told, Cond.static yX6_told, Cond.code yX6_told cX6_told 1 (some .int), Cond.methodLink RX6 71 yX6_sine, Cond.static yX6_sine, Cond.code yX6_sine cX6_sine 4 (some .int), Cond.methodLink RX6 55 yX6_quarter, Cond.static yX6_quarter, Cond.code yX6_quarter cX6_quarter 1 (some .int), Cond.methodLink RL 81 yL_tipAnew, Cond.static yL_tipAnew, Cond.codeWith yL_tipAnew cL_tipAnew 4 (some .int) [(0, 9, 12, 13)], Cond.methodLink RL 30 yX5_tipAnew]
def wsL_law0_r11 : List Cond := [Cond.instanceMethod yX5_tipAnew, Cond.selects RX5 yX5_tipAnew yX5_tipAnew, Cond.code yX5_tipAnew cX5_tipAnew 2 (some .int), Cond.instanceMethod yX4_followBack, Cond.selects RX4 yX4_followBack yX4_followBack, Cond.code yX4_followBack cX4_followBack 3 none, Cond.instanceMethod yX0_headingAt, Cond.selects RX0 yX0_headingAt yX0_headingAt, Cond.code yX0_headingAt cX0_headingAt 4 (some .int), Cond.methodLink RX0 43 yX0_turnOf, Cond.methodLink RL 83 yX6_tipAnew, Cond.instanceMethod yX6_tipAnew, Cond.selects RX6 yX6_tipAnew yX6_tipAnew, Cond.code yX6_tipAnew cX6_tipAnew 2 (some .int), Cond.methodLink RX6 104 yX6_tip, Cond.methodLink RL 84 yL_moves, Cond.static yL_moves, Cond.codeWith yL_moves cL_moves 5 (some .int) [(0, 10, 13, 21), (0, 10, 17, 13)], Cond.methodLink RL 33 yX5_moves, Cond.instanceMethod yX5_moves, Cond.selects RX5 yX5_moves yX5_moves, Cond.code yX5_moves cX5_moves 3 (some .int), Cond.methodLink RL 86 yX6_moves, Cond.instanceMethod yX6_moves]
def wsL_law0_r12 : List Cond := [Cond.selects RX6 yX6_moves yX6_moves, Cond.code yX6_moves cX6_moves 3 (some .int), Cond.methodLink RX6 107 yX6_findsMoves, Cond.instanceMethod yX6_findsMoves, Cond.selects RX6 yX6_findsMoves yX6_findsMoves, Cond.code yX6_findsMoves cX6_findsMoves 4 none, Cond.methodLink RL 87 yX5_freedom, Cond.instanceMethod yX5_freedom, Cond.selects RX5 yX5_freedom yX5_freedom, Cond.code yX5_freedom cX5_freedom 7 (some .long), Cond.methodLink RX5 112 Lib.MathLoose.abs_long.x, Cond.static Lib.MathLoose.abs_long.x, Cond.code Lib.MathLoose.abs_long.x Lib.MathLoose.abs_long.code 2 (some .long), Cond.methodLink RX5 118 Lib.MathLoose.max_long.x, Cond.static Lib.MathLoose.max_long.x, Cond.code Lib.MathLoose.max_long.x Lib.MathLoose.max_long.code 4 (some .long), Cond.methodLink RX5 105 yX5_findMoves, Cond.instanceMethod yX5_findMoves, Cond.selects RX5 yX5_findMoves yX5_findMoves, Cond.code yX5_findMoves cX5_findMoves 2 none, Cond.methodLink RL 91 yX6_freedom, Cond.instanceMethod yX6_freedom, Cond.selects RX6 yX6_freedom yX6_freedom, Cond.code yX6_freedom cX6_freedom 7 (some .long)]
def wsL_law0_r13 : List Cond := [Cond.methodLink RL 92 yL_goal, Cond.static yL_goal, Cond.codeWith yL_goal cL_goal 5 (some .int) [(0, 9, 12, 13)], Cond.methodLink RL 36 yX5_goal, Cond.instanceMethod yX5_goal, Cond.selects RX5 yX5_goal yX5_goal, Cond.code yX5_goal cX5_goal 3 (some .long), Cond.constant RX5 122 (-1000000), Cond.constant RX5 123 (1000000), Cond.methodLink RX5 132 yX5_farNow, Cond.instanceMethod yX5_farNow, Cond.selects RX5 yX5_farNow yX5_farNow, Cond.code yX5_farNow cX5_farNow 1 (some .long), Cond.instanceMethod yX1_farFrom, Cond.selects RX1 yX1_farFrom yX1_farFrom, Cond.code yX1_farFrom cX1_farFrom 7 (some .long), Cond.fieldLink RX1 15 "ArmRoom$Goal" "x" "I", Cond.fieldLink RX1 18 "ArmRoom$Goal" "y" "I", Cond.methodLink RL 94 yX6_goal, Cond.instanceMethod yX6_goal, Cond.selects RX6 yX6_goal yX6_goal, Cond.code yX6_goal cX6_goal 3 (some .long), Cond.constant RX6 110 (-1000000), Cond.constant RX6 111 (1000000)]
def wsL_law0_r14 : List Cond := [Cond.fieldLink RX6 80 "ArmRoomModel" "goalX" "I", Cond.fieldLink RX6 83 "ArmRoomModel" "goalY" "I", Cond.methodLink RX6 112 yX6_farNow, Cond.instanceMethod yX6_farNow, Cond.selects RX6 yX6_farNow yX6_farNow, Cond.code yX6_farNow cX6_farNow 1 (some .long), Cond.methodLink RX6 89 yX6_farness, Cond.instanceMethod yX6_farness, Cond.selects RX6 yX6_farness yX6_farness, Cond.code yX6_farness cX6_farness 5 (some .long), Cond.methodLink RL 95 yX5_far, Cond.instanceMethod yX5_far, Cond.selects RX5 yX5_far yX5_far, Cond.code yX5_far cX5_far 1 (some .long), Cond.methodLink RL 98 yX6_far, Cond.instanceMethod yX6_far, Cond.selects RX6 yX6_far yX6_far, Cond.code yX6_far cX6_far 1 (some .long), Cond.methodLink RL 99 yL_steps, Cond.static yL_steps, Cond.codeWith yL_steps cL_steps 4 (some .int) [(0, 9, 12, 13)], Cond.methodLink RL 40 yX5_steps, Cond.instanceMethod yX5_steps, Cond.selects RX5 yX5_steps yX5_steps]
def wsL_law0_r15 : List Cond := [Cond.code yX5_steps cX5_steps 4 (some .int), Cond.methodLink RX5 138 yX5_stepped, Cond.instanceMethod yX5_stepped, Cond.selects RX5 yX5_stepped yX5_stepped, Cond.code yX5_stepped cX5_stepped 11 (some .boolean), Cond.methodLink RX5 142 yX5_farWith, Cond.instanceMethod yX5_farWith, Cond.selects RX5 yX5_farWith yX5_farWith, Cond.code yX5_farWith cX5_farWith 3 (some .long), Cond.methodLink RL 101 yX6_steps, Cond.instanceMethod yX6_steps, Cond.selects RX6 yX6_steps yX6_steps, Cond.code yX6_steps cX6_steps 4 (some .int), Cond.methodLink RX6 119 yX6_goesOn, Cond.instanceMethod yX6_goesOn, Cond.selects RX6 yX6_goesOn yX6_goesOn, Cond.code yX6_goesOn cX6_goesOn 11 (some .boolean), Cond.methodLink RX6 115 yX6_farWith, Cond.instanceMethod yX6_farWith, Cond.selects RX6 yX6_farWith yX6_farWith, Cond.code yX6_farWith cX6_farWith 3 (some .long), Cond.methodLink RL 102 yX5_hindrance, Cond.instanceMethod yX5_hindrance, Cond.selects RX5 yX5_hindrance yX5_hindrance]
def wsL_law0_r16 : List Cond := [Cond.code yX5_hindrance cX5_hindrance 5 (some .int), Cond.methodLink RL 105 yX6_hindrance, Cond.instanceMethod yX6_hindrance, Cond.selects RX6 yX6_hindrance yX6_hindrance, Cond.code yX6_hindrance cX6_hindrance 6 (some .int), Cond.methodLink RL 106 yL_slack, Cond.static yL_slack, Cond.codeWith yL_slack cL_slack 4 (some .int) [(0, 9, 12, 13)], Cond.methodLink RL 43 yX5_slack, Cond.instanceMethod yX5_slack, Cond.selects RX5 yX5_slack yX5_slack, Cond.code yX5_slack cX5_slack 3 (some .int), Cond.constant RX5 146 (100000), Cond.methodLink RL 108 yX6_slack, Cond.instanceMethod yX6_slack, Cond.selects RX6 yX6_slack yX6_slack, Cond.code yX6_slack cX6_slack 3 (some .int), Cond.constant RX6 122 (100000), Cond.methodLink RL 109 yL_branches, Cond.static yL_branches, Cond.codeWith yL_branches cL_branches 3 (some .int) [(0, 8, 11, 15)], Cond.methodLink RL 46 yX5_branches, Cond.instanceMethod yX5_branches, Cond.selects RX5 yX5_branches yX5_branches]
def wsL_law0_r17 : List Cond := [Cond.code yX5_branches cX5_branches 1 (some .int), Cond.constantLong RX5 154 (40000), Cond.instanceMethod yX0_countPoses, Cond.selects RX0 yX0_countPoses yX0_countPoses, Cond.code yX0_countPoses cX0_countPoses 4 (some .long), Cond.instanceMethod yX3_run, Cond.selects RX3 yX3_run yX3_run, Cond.code yX3_run cX3_run 4 none, Cond.instanceMethod yX2_clear, Cond.selects RX2 yX2_clear yX2_clear, Cond.code yX2_clear cX2_clear 1 none, Cond.fieldLink RX2 19 "ArmRoom$Ranking" "found" "I", Cond.methodLink RX3 40 yX3_findReach, Cond.instanceMethod yX3_findReach, Cond.selects RX3 yX3_findReach yX3_findReach, Cond.code yX3_findReach cX3_findReach 4 none, Cond.methodLink RX3 50 yX3_goThrough, Cond.static yX3_goThrough, Cond.code yX3_goThrough cX3_goThrough 6 none, Cond.instanceMethod yX1_isWithin, Cond.selects RX1 yX1_isWithin yX1_isWithin, Cond.code yX1_isWithin cX1_isWithin 4 (some .boolean), Cond.methodLink RX1 21 Lib.Math.abs.name, Cond.static Lib.Math.abs.name]
def wsL_law0_r18 : List Cond := [Cond.code Lib.Math.abs.name Lib.Math.abs.code 1 (some .int), Cond.methodLink RX3 70 yX3_keyOf, Cond.instanceMethod yX3_keyOf, Cond.selects RX3 yX3_keyOf yX3_keyOf, Cond.code yX3_keyOf cX3_keyOf 6 (some .long), Cond.methodLink RX3 110 Lib.Math.min.name, Cond.instanceMethod yX2_add, Cond.selects RX2 yX2_add yX2_add, Cond.code yX2_add cX2_add 5 none, Cond.methodLink RX2 23 Lib.Math.min.name, Cond.methodLink RX2 33 arraycopyName, Cond.native arraycopyName, Cond.static arraycopyName, Cond.initialized "java/lang/System", Cond.methodLink RX2 29 yX2_moveDown, Cond.instanceMethod yX2_moveDown, Cond.selects RX2 yX2_moveDown yX2_moveDown, Cond.code yX2_moveDown cX2_moveDown 2 none, Cond.methodLink RX3 81 yX3_lead, Cond.instanceMethod yX3_lead, Cond.selects RX3 yX3_lead yX3_lead, Cond.code yX3_lead cX3_lead 6 none, Cond.methodLink RX3 98 Lib.Math.abs.name, Cond.methodLink RL 112 yX6_branches]
def wsL_law0_r19 : List Cond := [Cond.instanceMethod yX6_branches, Cond.selects RX6 yX6_branches yX6_branches, Cond.code yX6_branches cX6_branches 1 (some .int), Cond.constant RX6 123 (40000), Cond.fieldLink RX6 127 "ArmRoomModel" "found" "I", Cond.methodLink RX6 130 yX6_poses, Cond.instanceMethod yX6_poses, Cond.selects RX6 yX6_poses yX6_poses, Cond.code yX6_poses cX6_poses 3 (some .int), Cond.methodLink RX6 145 yX6_findsBranches, Cond.instanceMethod yX6_findsBranches, Cond.selects RX6 yX6_findsBranches yX6_findsBranches, Cond.code yX6_findsBranches cX6_findsBranches 5 none, Cond.methodLink RX6 134 yX6_makesPose, Cond.instanceMethod yX6_makesPose, Cond.selects RX6 yX6_makesPose yX6_makesPose, Cond.code yX6_makesPose cX6_makesPose 5 none, Cond.methodLink RX6 124 yX6_size, Cond.static yX6_size, Cond.code yX6_size cX6_size 1 (some .int), Cond.methodLink RX6 138 yX6_keyOf, Cond.instanceMethod yX6_keyOf, Cond.selects RX6 yX6_keyOf yX6_keyOf, Cond.code yX6_keyOf cX6_keyOf 5 (some .long)]
def wsL_law0_r20 : List Cond := [Cond.methodLink RX6 141 yX6_ranks, Cond.instanceMethod yX6_ranks, Cond.selects RX6 yX6_ranks yX6_ranks, Cond.code yX6_ranks cX6_ranks 5 none, Cond.methodLink RL 113 yL_branch, Cond.static yL_branch, Cond.codeWith yL_branch cL_branch 6 (some .int) [(0, 12, 15, 21), (0, 12, 19, 13), (0, 12, 23, 15)], Cond.methodLink RL 50 yX5_branch, Cond.instanceMethod yX5_branch, Cond.selects RX5 yX5_branch yX5_branch, Cond.code yX5_branch cX5_branch 4 (some .int), Cond.methodLink RX5 171 yX5_findBranch, Cond.instanceMethod yX5_findBranch, Cond.selects RX5 yX5_findBranch yX5_findBranch, Cond.code yX5_findBranch cX5_findBranch 4 none, Cond.instanceMethod yX2_valueOf, Cond.selects RX2 yX2_valueOf yX2_valueOf, Cond.code yX2_valueOf cX2_valueOf 3 (some .int), Cond.methodLink RL 116 yX6_branch, Cond.instanceMethod yX6_branch, Cond.selects RX6 yX6_branch yX6_branch, Cond.code yX6_branch cX6_branch 4 (some .int), Cond.methodLink RX6 148 yX6_findsBranch, Cond.instanceMethod yX6_findsBranch]
def wsL_law0_r21 : List Cond := [Cond.selects RX6 yX6_findsBranch yX6_findsBranch, Cond.code yX6_findsBranch cX6_findsBranch 6 (some .boolean), Cond.methodLink RL 117 yL_take, Cond.static yL_take, Cond.codeWith yL_take cL_take 5 (some .int) [(0, 9, 12, 21), (0, 9, 16, 13), (0, 9, 20, 15)], Cond.methodLink RL 54 yX5_take, Cond.instanceMethod yX5_take, Cond.selects RX5 yX5_take yX5_take, Cond.code yX5_take cX5_take 4 (some .long), Cond.methodLink RL 119 yX6_take, Cond.instanceMethod yX6_take, Cond.selects RX6 yX6_take yX6_take, Cond.code yX6_take cX6_take 4 (some .long)]
def wsL_law0 : List Cond := (wsL_law0_r1 ++ (wsL_law0_r2 ++ (wsL_law0_r3 ++ (wsL_law0_r4 ++ (wsL_law0_r5 ++ (wsL_law0_r6 ++ (wsL_law0_r7 ++ (wsL_law0_r8 ++ (wsL_law0_r9 ++ (wsL_law0_r10 ++ (wsL_law0_r11 ++ (wsL_law0_r12 ++ (wsL_law0_r13 ++ (wsL_law0_r14 ++ (wsL_law0_r15 ++ (wsL_law0_r16 ++ (wsL_law0_r17 ++ (wsL_law0_r18 ++ (wsL_law0_r19 ++ (wsL_law0_r20 ++ wsL_law0_r21)))))))))))))))))))) ++ wsX50 ++ wsX60 ++ wsX00 ++ wsX10 ++ wsX40 ++ wsX30 ++ wsX20 ++ ([] : List Cond)
def wsL_law : List Cond := wsL_law0 ++ (vx_atS RX5 51 "java/lang/IllegalArgumentException" ["java/lang/RuntimeException", "java/lang/Exception"]).filter goodWord ++ (vx_atS RX5 66 "java/lang/IllegalStateException" ["java/lang/RuntimeException", "java/lang/Exception"]).filter goodWord ++ (vx_atS RX5 182 "java/lang/IndexOutOfBoundsException" ["java/lang/RuntimeException", "java/lang/Exception"]).filter goodWord
set_option maxRecDepth 20000 in
theorem wsL_law_in0_1 : ∀ w ∈ wsL_law0_r1, w ∈ lw_tbl := fun w h => (goodIn_p wsL_law0_r1 [65, 68] (by decide +kernel) (by decide +kernel) w h).1
set_option maxRecDepth 20000 in
theorem wsL_law_in0_2 : ∀ w ∈ wsL_law0_r2, w ∈ lw_tbl := fun w h => (goodIn_p wsL_law0_r2 [73, 109, 129] (by decide +kernel) (by decide +kernel) w h).1
set_option maxRecDepth 20000 in
theorem wsL_law_in0_3 : ∀ w ∈ wsL_law0_r3, w ∈ lw_tbl := fun w h => (goodIn_p wsL_law0_r3 [147, 153, 591] (by decide +kernel) (by decide +kernel) w h).1
set_option maxRecDepth 20000 in
theorem wsL_law_in0_4 : ∀ w ∈ wsL_law0_r4, w ∈ lw_tbl := fun w h => (goodIn_p wsL_law0_r4 [288] (by decide +kernel) (by decide +kernel) w h).1
set_option maxRecDepth 20000 in
theorem wsL_law_in0_5 : ∀ w ∈ wsL_law0_r5, w ∈ lw_tbl := fun w h => (goodIn_p wsL_law0_r5 [362, 382, 386, 389, 392, 658] (by decide +kernel) (by decide +kernel) w h).1
set_option maxRecDepth 20000 in
theorem wsL_law_in0_6 : ∀ w ∈ wsL_law0_r6, w ∈ lw_tbl := fun w h => (goodIn_p wsL_law0_r6 [661, 664, 667, 654, 400, 404] (by decide +kernel) (by decide +kernel) w h).1
set_option maxRecDepth 20000 in
theorem wsL_law_in0_7 : ∀ w ∈ wsL_law0_r7, w ∈ lw_tbl := fun w h => (goodIn_p wsL_law0_r7 [671, 675, 428, 679] (by decide +kernel) (by decide +kernel) w h).1
set_option maxRecDepth 20000 in
theorem wsL_law_in0_8 : ∀ w ∈ wsL_law0_r8, w ∈ lw_tbl := fun w h => (goodIn_p wsL_law0_r8 [435, 438, 223, 227, 231, 235] (by decide +kernel) (by decide +kernel) w h).1
set_option maxRecDepth 20000 in
theorem wsL_law_in0_9 : ∀ w ∈ wsL_law0_r9, w ∈ lw_tbl := fun w h => (goodIn_p wsL_law0_r9 [239, 243, 246, 249, 443, 683] (by decide +kernel) (by decide +kernel) w h).1
set_option maxRecDepth 20000 in
theorem wsL_law_in0_10 : ∀ w ∈ wsL_law0_r10, w ∈ lw_tbl := fun w h => (goodIn_p wsL_law0_r10 [687, 691, 695, 698, 701, 704] (by decide +kernel) (by decide +kernel) w h).1
set_option maxRecDepth 20000 in
theorem wsL_law_in0_11 : ∀ w ∈ wsL_law0_r11, w ∈ lw_tbl := fun w h => (goodIn_p wsL_law0_r11 [450, 454, 458, 708, 466] (by decide +kernel) (by decide +kernel) w h).1
set_option maxRecDepth 20000 in
theorem wsL_law_in0_12 : ∀ w ∈ wsL_law0_r12, w ∈ lw_tbl := fun w h => (goodIn_p wsL_law0_r12 [713, 717, 215, 256, 259, 219, 721] (by decide +kernel) (by decide +kernel) w h).1
set_option maxRecDepth 20000 in
theorem wsL_law_in0_13 : ∀ w ∈ wsL_law0_r13, w ∈ lw_tbl := fun w h => (goodIn_p wsL_law0_r13 [473, 267, 271, 725] (by decide +kernel) (by decide +kernel) w h).1
set_option maxRecDepth 20000 in
theorem wsL_law_in0_14 : ∀ w ∈ wsL_law0_r14, w ∈ lw_tbl := fun w h => (goodIn_p wsL_law0_r14 [731, 735, 263, 739] (by decide +kernel) (by decide +kernel) w h).1
set_option maxRecDepth 20000 in
theorem wsL_law_in0_15 : ∀ w ∈ wsL_law0_r15, w ∈ lw_tbl := fun w h => (goodIn_p wsL_law0_r15 [483, 488, 279, 743, 747, 751] (by decide +kernel) (by decide +kernel) w h).1
set_option maxRecDepth 20000 in
theorem wsL_law_in0_16 : ∀ w ∈ wsL_law0_r16, w ∈ lw_tbl := fun w h => (goodIn_p wsL_law0_r16 [275, 755, 496, 759] (by decide +kernel) (by decide +kernel) w h).1
set_option maxRecDepth 20000 in
theorem wsL_law_in0_17 : ∀ w ∈ wsL_law0_r17, w ∈ lw_tbl := fun w h => (goodIn_p wsL_law0_r17 [505, 509, 515, 519, 523, 527, 531] (by decide +kernel) (by decide +kernel) w h).1
set_option maxRecDepth 20000 in
theorem wsL_law_in0_18 : ∀ w ∈ wsL_law0_r18, w ∈ lw_tbl := fun w h => (goodIn_p wsL_law0_r18 [534, 538, 545, 550, 557] (by decide +kernel) (by decide +kernel) w h).1
set_option maxRecDepth 20000 in
theorem wsL_law_in0_19 : ∀ w ∈ wsL_law0_r19, w ∈ lw_tbl := fun w h => (goodIn_p wsL_law0_r19 [764, 768, 773, 777, 780, 784] (by decide +kernel) (by decide +kernel) w h).1
set_option maxRecDepth 20000 in
theorem wsL_law_in0_20 : ∀ w ∈ wsL_law0_r20, w ∈ lw_tbl := fun w h => (goodIn_p wsL_law0_r20 [788, 568, 572, 579, 792] (by decide +kernel) (by decide +kernel) w h).1
set_option maxRecDepth 20000 in
theorem wsL_law_in0_21 : ∀ w ∈ wsL_law0_r21, w ∈ lw_tbl := fun w h => (goodIn_p wsL_law0_r21 [796, 586, 800] (by decide +kernel) (by decide +kernel) w h).1
theorem wsL_law_in0_x5 : ∀ w ∈ wsX50, w ∈ lw_tbl := by decide +kernel
theorem wsL_law_in0_x6 : ∀ w ∈ wsX60, w ∈ lw_tbl := by decide +kernel
theorem wsL_law_in0_x0 : ∀ w ∈ wsX00, w ∈ lw_tbl := by decide +kernel
theorem wsL_law_in0_x1 : ∀ w ∈ wsX10, w ∈ lw_tbl := by decide +kernel
theorem wsL_law_in0_x4 : ∀ w ∈ wsX40, w ∈ lw_tbl := by decide +kernel
theorem wsL_law_in0_x3 : ∀ w ∈ wsX30, w ∈ lw_tbl := by decide +kernel
theorem wsL_law_in0_x2 : ∀ w ∈ wsX20, w ∈ lw_tbl := by decide +kernel
theorem wsL_law_in0 : ∀ w ∈ wsL_law0, w ∈ lw_tbl := fun w => fun h => (List.mem_append.mp h).elim (fun h => (List.mem_append.mp h).elim (fun h => (List.mem_append.mp h).elim (fun h => (List.mem_append.mp h).elim (fun h => (List.mem_append.mp h).elim (fun h => (List.mem_append.mp h).elim (fun h => (List.mem_append.mp h).elim (fun h => (List.mem_append.mp h).elim (fun h => (List.mem_append.mp h).elim (wsL_law_in0_1 w) (fun h => (List.mem_append.mp h).elim (wsL_law_in0_2 w) (fun h => (List.mem_append.mp h).elim (wsL_law_in0_3 w) (fun h => (List.mem_append.mp h).elim (wsL_law_in0_4 w) (fun h => (List.mem_append.mp h).elim (wsL_law_in0_5 w) (fun h => (List.mem_append.mp h).elim (wsL_law_in0_6 w) (fun h => (List.mem_append.mp h).elim (wsL_law_in0_7 w) (fun h => (List.mem_append.mp h).elim (wsL_law_in0_8 w) (fun h => (List.mem_append.mp h).elim (wsL_law_in0_9 w) (fun h => (List.mem_append.mp h).elim (wsL_law_in0_10 w) (fun h => (List.mem_append.mp h).elim (wsL_law_in0_11 w) (fun h => (List.mem_append.mp h).elim (wsL_law_in0_12 w) (fun h => (List.mem_append.mp h).elim (wsL_law_in0_13 w) (fun h => (List.mem_append.mp h).elim (wsL_law_in0_14 w) (fun h => (List.mem_append.mp h).elim (wsL_law_in0_15 w) (fun h => (List.mem_append.mp h).elim (wsL_law_in0_16 w) (fun h => (List.mem_append.mp h).elim (wsL_law_in0_17 w) (fun h => (List.mem_append.mp h).elim (wsL_law_in0_18 w) (fun h => (List.mem_append.mp h).elim (wsL_law_in0_19 w) (fun h => (List.mem_append.mp h).elim (wsL_law_in0_20 w) (fun h => wsL_law_in0_21 w h))))))))))))))))))))) (wsL_law_in0_x5 w)) (wsL_law_in0_x6 w)) (wsL_law_in0_x0 w)) (wsL_law_in0_x1 w)) (wsL_law_in0_x4 w)) (wsL_law_in0_x3 w)) (wsL_law_in0_x2 w)) (fun h => absurd h List.not_mem_nil)
theorem wsL_law_x0 : ∀ w ∈ (vx_atS RX5 51 "java/lang/IllegalArgumentException" ["java/lang/RuntimeException", "java/lang/Exception"]).filter goodWord, w ∈ lw_tbl := by decide +kernel
theorem wsL_law_x1 : ∀ w ∈ (vx_atS RX5 66 "java/lang/IllegalStateException" ["java/lang/RuntimeException", "java/lang/Exception"]).filter goodWord, w ∈ lw_tbl := by decide +kernel
theorem wsL_law_x2 : ∀ w ∈ (vx_atS RX5 182 "java/lang/IndexOutOfBoundsException" ["java/lang/RuntimeException", "java/lang/Exception"]).filter goodWord, w ∈ lw_tbl := by decide +kernel
theorem wsL_law_in : ∀ w ∈ wsL_law, w ∈ lw_tbl := fun w h => (List.mem_append.mp h).elim (fun h => (List.mem_append.mp h).elim (fun h => (List.mem_append.mp h).elim (fun h => wsL_law_in0 w h) (fun h => wsL_law_x0 w h)) (fun h => wsL_law_x1 w h)) (fun h => wsL_law_x2 w h)
theorem inlX0 : ∀ w ∈ wsX00, w ∈ wsL_law := fun _ h => List.mem_append_left _ (List.mem_append_left _ (List.mem_append_left _ (List.mem_append_left _ (List.mem_append_left _ (List.mem_append_left _ (List.mem_append_left _ (List.mem_append_left _ (List.mem_append_right _ h))))))))
theorem inX0 : ∀ w ∈ wsX00, w ∈ lw_tbl := fun w h => wsL_law_in w (inlX0 w h)
theorem inlX1 : ∀ w ∈ wsX10, w ∈ wsL_law := fun _ h => List.mem_append_left _ (List.mem_append_left _ (List.mem_append_left _ (List.mem_append_left _ (List.mem_append_left _ (List.mem_append_left _ (List.mem_append_left _ (List.mem_append_right _ h)))))))
theorem inX1 : ∀ w ∈ wsX10, w ∈ lw_tbl := fun w h => wsL_law_in w (inlX1 w h)
theorem inlX2 : ∀ w ∈ wsX20, w ∈ wsL_law := fun _ h => List.mem_append_left _ (List.mem_append_left _ (List.mem_append_left _ (List.mem_append_left _ (List.mem_append_right _ h))))
theorem inX2 : ∀ w ∈ wsX20, w ∈ lw_tbl := fun w h => wsL_law_in w (inlX2 w h)
theorem inlX3 : ∀ w ∈ wsX30, w ∈ wsL_law := fun _ h => List.mem_append_left _ (List.mem_append_left _ (List.mem_append_left _ (List.mem_append_left _ (List.mem_append_left _ (List.mem_append_right _ h)))))
theorem inX3 : ∀ w ∈ wsX30, w ∈ lw_tbl := fun w h => wsL_law_in w (inlX3 w h)
theorem inlX4 : ∀ w ∈ wsX40, w ∈ wsL_law := fun _ h => List.mem_append_left _ (List.mem_append_left _ (List.mem_append_left _ (List.mem_append_left _ (List.mem_append_left _ (List.mem_append_left _ (List.mem_append_right _ h))))))
theorem inX4 : ∀ w ∈ wsX40, w ∈ lw_tbl := fun w h => wsL_law_in w (inlX4 w h)
theorem inlX5 : ∀ w ∈ wsX50, w ∈ wsL_law := fun _ h => List.mem_append_left _ (List.mem_append_left _ (List.mem_append_left _ (List.mem_append_left _ (List.mem_append_left _ (List.mem_append_left _ (List.mem_append_left _ (List.mem_append_left _ (List.mem_append_left _ (List.mem_append_left _ (List.mem_append_right _ h))))))))))
theorem inX5 : ∀ w ∈ wsX50, w ∈ lw_tbl := fun w h => wsL_law_in w (inlX5 w h)
theorem inlX6 : ∀ w ∈ wsX60, w ∈ wsL_law := fun _ h => List.mem_append_left _ (List.mem_append_left _ (List.mem_append_left _ (List.mem_append_left _ (List.mem_append_left _ (List.mem_append_left _ (List.mem_append_left _ (List.mem_append_left _ (List.mem_append_left _ (List.mem_append_right _ h)))))))))
theorem inX6 : ∀ w ∈ wsX60, w ∈ lw_tbl := fun w h => wsL_law_in w (inlX6 w h)
theorem inJ9 : ∀ w ∈ wsJ90, w ∈ lw_tbl := by decide +kernel
theorem inJ0 : ∀ w ∈ wsJ00, w ∈ lw_tbl := by decide +kernel
theorem inJ10 : ∀ w ∈ wsJ100, w ∈ lw_tbl := by decide +kernel
end
section
theorem dX0_init_0 : decode cX0_init 0 = .ok (.aload_n 0, 1) := by decide +kernel
theorem dX0_init_1 : decode cX0_init 1 = .ok (.invokespecial 3, 3) := by decide +kernel
theorem dX0_init_4 : decode cX0_init 4 = .ok (.aload_n 0, 1) := by decide +kernel
theorem dX0_init_5 : decode cX0_init 5 = .ok (.iconst 5, 1) := by decide +kernel
theorem dX0_init_6 : decode cX0_init 6 = .ok (.newarray .int, 2) := by decide +kernel
theorem dX0_init_8 : decode cX0_init 8 = .ok (.putfield 9, 3) := by decide +kernel
theorem dX0_init_11 : decode cX0_init 11 = .ok (.aload_n 0, 1) := by decide +kernel
theorem dX0_init_12 : decode cX0_init 12 = .ok (.iconst 5, 1) := by decide +kernel
theorem dX0_init_13 : decode cX0_init 13 = .ok (.newarray .int, 2) := by decide +kernel
theorem dX0_init_15 : decode cX0_init 15 = .ok (.putfield 15, 3) := by decide +kernel
theorem dX0_init_18 : decode cX0_init 18 = .ok (.aload_n 0, 1) := by decide +kernel
theorem dX0_init_19 : decode cX0_init 19 = .ok (.iconst 5, 1) := by decide +kernel
theorem dX0_init_20 : decode cX0_init 20 = .ok (.newarray .int, 2) := by decide +kernel
theorem dX0_init_22 : decode cX0_init 22 = .ok (.putfield 18, 3) := by decide +kernel
theorem dX0_init_25 : decode cX0_init 25 = .ok (.aload_n 0, 1) := by decide +kernel
theorem dX0_init_26 : decode cX0_init 26 = .ok (.iconst 5, 1) := by decide +kernel
theorem dX0_init_27 : decode cX0_init 27 = .ok (.newarray .int, 2) := by decide +kernel
theorem dX0_init_29 : decode cX0_init 29 = .ok (.putfield 21, 3) := by decide +kernel
theorem dX0_init_32 : decode cX0_init 32 = .ok (.aload_n 0, 1) := by decide +kernel
theorem dX0_init_33 : decode cX0_init 33 = .ok (.iconst 5, 1) := by decide +kernel
theorem dX0_init_34 : decode cX0_init 34 = .ok (.newarray .int, 2) := by decide +kernel
theorem dX0_init_36 : decode cX0_init 36 = .ok (.putfield 24, 3) := by decide +kernel
theorem dX0_init_39 : decode cX0_init 39 = .ok (.return_, 1) := by decide +kernel
theorem dX0_isFull_0 : decode cX0_isFull 0 = .ok (.aload_n 0, 1) := by decide +kernel
theorem dX0_isFull_1 : decode cX0_isFull 1 = .ok (.getfield 27, 3) := by decide +kernel
theorem dX0_isFull_4 : decode cX0_isFull 4 = .ok (.iconst 5, 1) := by decide +kernel
theorem dX0_isFull_5 : decode cX0_isFull 5 = .ok (.if_icmp .lt 7, 3) := by decide +kernel
theorem dX0_isFull_8 : decode cX0_isFull 8 = .ok (.iconst 1, 1) := by decide +kernel
theorem dX0_isFull_9 : decode cX0_isFull 9 = .ok (.goto 4, 3) := by decide +kernel
theorem dX0_isFull_12 : decode cX0_isFull 12 = .ok (.iconst 0, 1) := by decide +kernel
theorem dX0_isFull_13 : decode cX0_isFull 13 = .ok (.ireturn, 1) := by decide +kernel
set_option maxRecDepth 20000 in
theorem ggX0_add_X0_held : GoodIn wsX0_add wsX0_held := goodIn_r _ [11, 4, 5, 12, 13, 14, 15, 16, 17, 18, 19, 20, 21, 22, 23, 24] (by decide +kernel) (by decide +kernel)
set_option maxRecDepth 20000 in
theorem gX0_add_X0_held : GoodIn wsX0_add (wsV RX0 31 RX0 yX0_held wsX0_held) := goodIn_app (goodIn_of _ (by decide +kernel)) ggX0_add_X0_held
theorem dX0_add_0 : decode cX0_add 0 = .ok (.aload_n 0, 1) := by decide +kernel
theorem dX0_add_1 : decode cX0_add 1 = .ok (.getfield 27, 3) := by decide +kernel
theorem dX0_add_4 : decode cX0_add 4 = .ok (.istore 5, 2) := by decide +kernel
theorem dX0_add_6 : decode cX0_add 6 = .ok (.aload_n 0, 1) := by decide +kernel
theorem dX0_add_7 : decode cX0_add 7 = .ok (.getfield 9, 3) := by decide +kernel
theorem dX0_add_10 : decode cX0_add 10 = .ok (.iload 5, 2) := by decide +kernel
theorem dX0_add_12 : decode cX0_add 12 = .ok (.iload_n 1, 1) := by decide +kernel
theorem dX0_add_13 : decode cX0_add 13 = .ok (.iastore, 1) := by decide +kernel
theorem dX0_add_14 : decode cX0_add 14 = .ok (.aload_n 0, 1) := by decide +kernel
theorem dX0_add_15 : decode cX0_add 15 = .ok (.getfield 15, 3) := by decide +kernel
theorem dX0_add_18 : decode cX0_add 18 = .ok (.iload 5, 2) := by decide +kernel
theorem dX0_add_20 : decode cX0_add 20 = .ok (.iload_n 2, 1) := by decide +kernel
theorem dX0_add_21 : decode cX0_add 21 = .ok (.iastore, 1) := by decide +kernel
theorem dX0_add_22 : decode cX0_add 22 = .ok (.aload_n 0, 1) := by decide +kernel
theorem dX0_add_23 : decode cX0_add 23 = .ok (.getfield 18, 3) := by decide +kernel
theorem dX0_add_26 : decode cX0_add 26 = .ok (.iload 5, 2) := by decide +kernel
theorem dX0_add_28 : decode cX0_add 28 = .ok (.iload_n 3, 1) := by decide +kernel
theorem dX0_add_29 : decode cX0_add 29 = .ok (.iastore, 1) := by decide +kernel
theorem dX0_add_30 : decode cX0_add 30 = .ok (.aload_n 0, 1) := by decide +kernel
theorem dX0_add_31 : decode cX0_add 31 = .ok (.getfield 21, 3) := by decide +kernel
theorem dX0_add_34 : decode cX0_add 34 = .ok (.iload 5, 2) := by decide +kernel
theorem dX0_add_36 : decode cX0_add 36 = .ok (.iload 4, 2) := by decide +kernel
theorem dX0_add_38 : decode cX0_add 38 = .ok (.iastore, 1) := by decide +kernel
theorem dX0_add_39 : decode cX0_add 39 = .ok (.aload_n 0, 1) := by decide +kernel
theorem dX0_add_40 : decode cX0_add 40 = .ok (.getfield 24, 3) := by decide +kernel
theorem dX0_add_43 : decode cX0_add 43 = .ok (.iload 5, 2) := by decide +kernel
theorem dX0_add_45 : decode cX0_add 45 = .ok (.aload_n 0, 1) := by decide +kernel
theorem dX0_add_46 : decode cX0_add 46 = .ok (.iload 5, 2) := by decide +kernel
theorem dX0_add_48 : decode cX0_add 48 = .ok (.iconst 0, 1) := by decide +kernel
theorem dX0_add_49 : decode cX0_add 49 = .ok (.invokevirtual 31, 3) := by decide +kernel
theorem dX0_add_52 : decode cX0_add 52 = .ok (.iastore, 1) := by decide +kernel
theorem dX0_add_53 : decode cX0_add 53 = .ok (.aload_n 0, 1) := by decide +kernel
theorem dX0_add_54 : decode cX0_add 54 = .ok (.dup, 1) := by decide +kernel
theorem dX0_add_55 : decode cX0_add 55 = .ok (.getfield 27, 3) := by decide +kernel
theorem dX0_add_58 : decode cX0_add 58 = .ok (.iconst 1, 1) := by decide +kernel
theorem dX0_add_59 : decode cX0_add 59 = .ok (.iadd, 1) := by decide +kernel
theorem dX0_add_60 : decode cX0_add 60 = .ok (.putfield 27, 3) := by decide +kernel
theorem dX0_add_63 : decode cX0_add 63 = .ok (.iload 5, 2) := by decide +kernel
theorem dX0_add_65 : decode cX0_add 65 = .ok (.ireturn, 1) := by decide +kernel
theorem dX0_held_0 : decode cX0_held 0 = .ok (.aload_n 0, 1) := by decide +kernel
theorem dX0_held_1 : decode cX0_held 1 = .ok (.getfield 18, 3) := by decide +kernel
theorem dX0_held_4 : decode cX0_held 4 = .ok (.iload_n 1, 1) := by decide +kernel
theorem dX0_held_5 : decode cX0_held 5 = .ok (.iaload, 1) := by decide +kernel
theorem dX0_held_6 : decode cX0_held 6 = .ok (.aload_n 0, 1) := by decide +kernel
theorem dX0_held_7 : decode cX0_held 7 = .ok (.getfield 21, 3) := by decide +kernel
theorem dX0_held_10 : decode cX0_held 10 = .ok (.iload_n 1, 1) := by decide +kernel
theorem dX0_held_11 : decode cX0_held 11 = .ok (.iaload, 1) := by decide +kernel
theorem dX0_held_12 : decode cX0_held 12 = .ok (.iload_n 2, 1) := by decide +kernel
theorem dX0_held_13 : decode cX0_held 13 = .ok (.invokestatic 35, 3) := by decide +kernel
theorem dX0_held_16 : decode cX0_held 16 = .ok (.invokestatic 40, 3) := by decide +kernel
theorem dX0_held_19 : decode cX0_held 19 = .ok (.ireturn, 1) := by decide +kernel
theorem dX0_turnOf_0 : decode cX0_turnOf 0 = .ok (.aload_n 0, 1) := by decide +kernel
theorem dX0_turnOf_1 : decode cX0_turnOf 1 = .ok (.getfield 9, 3) := by decide +kernel
theorem dX0_turnOf_4 : decode cX0_turnOf 4 = .ok (.iload_n 1, 1) := by decide +kernel
theorem dX0_turnOf_5 : decode cX0_turnOf 5 = .ok (.iaload, 1) := by decide +kernel
theorem dX0_turnOf_6 : decode cX0_turnOf 6 = .ok (.ifCond .ne 7, 3) := by decide +kernel
theorem dX0_turnOf_9 : decode cX0_turnOf 9 = .ok (.iload_n 2, 1) := by decide +kernel
theorem dX0_turnOf_10 : decode cX0_turnOf 10 = .ok (.goto 4, 3) := by decide +kernel
theorem dX0_turnOf_13 : decode cX0_turnOf 13 = .ok (.iconst 0, 1) := by decide +kernel
theorem dX0_turnOf_14 : decode cX0_turnOf 14 = .ok (.ireturn, 1) := by decide +kernel
theorem dX0_distanceOf_0 : decode cX0_distanceOf 0 = .ok (.aload_n 0, 1) := by decide +kernel
theorem dX0_distanceOf_1 : decode cX0_distanceOf 1 = .ok (.getfield 9, 3) := by decide +kernel
theorem dX0_distanceOf_4 : decode cX0_distanceOf 4 = .ok (.iload_n 1, 1) := by decide +kernel
theorem dX0_distanceOf_5 : decode cX0_distanceOf 5 = .ok (.iaload, 1) := by decide +kernel
theorem dX0_distanceOf_6 : decode cX0_distanceOf 6 = .ok (.ifCond .ne 12, 3) := by decide +kernel
theorem dX0_distanceOf_9 : decode cX0_distanceOf 9 = .ok (.aload_n 0, 1) := by decide +kernel
theorem dX0_distanceOf_10 : decode cX0_distanceOf 10 = .ok (.getfield 15, 3) := by decide +kernel
theorem dX0_distanceOf_13 : decode cX0_distanceOf 13 = .ok (.iload_n 1, 1) := by decide +kernel
theorem dX0_distanceOf_14 : decode cX0_distanceOf 14 = .ok (.iaload, 1) := by decide +kernel
theorem dX0_distanceOf_15 : decode cX0_distanceOf 15 = .ok (.goto 11, 3) := by decide +kernel
theorem dX0_distanceOf_18 : decode cX0_distanceOf 18 = .ok (.aload_n 0, 1) := by decide +kernel
theorem dX0_distanceOf_19 : decode cX0_distanceOf 19 = .ok (.getfield 15, 3) := by decide +kernel
theorem dX0_distanceOf_22 : decode cX0_distanceOf 22 = .ok (.iload_n 1, 1) := by decide +kernel
theorem dX0_distanceOf_23 : decode cX0_distanceOf 23 = .ok (.iaload, 1) := by decide +kernel
theorem dX0_distanceOf_24 : decode cX0_distanceOf 24 = .ok (.iload_n 2, 1) := by decide +kernel
theorem dX0_distanceOf_25 : decode cX0_distanceOf 25 = .ok (.iadd, 1) := by decide +kernel
theorem dX0_distanceOf_26 : decode cX0_distanceOf 26 = .ok (.ireturn, 1) := by decide +kernel
set_option maxRecDepth 20000 in
theorem ggX0_headingAt_X0_turnOf : GoodIn wsX0_headingAt wsX0_turnOf := goodIn_r _ [6, 7, 8, 9, 10, 11, 12, 13] (by decide +kernel) (by decide +kernel)
set_option maxRecDepth 20000 in
theorem gX0_headingAt_X0_turnOf : GoodIn wsX0_headingAt (wsV RX0 43 RX0 yX0_turnOf wsX0_turnOf) := goodIn_app (goodIn_of _ (by decide +kernel)) ggX0_headingAt_X0_turnOf
theorem dX0_headingAt_0 : decode cX0_headingAt 0 = .ok (.iconst 0, 1) := by decide +kernel
theorem dX0_headingAt_1 : decode cX0_headingAt 1 = .ok (.istore_n 2, 1) := by decide +kernel
theorem dX0_headingAt_2 : decode cX0_headingAt 2 = .ok (.iconst 0, 1) := by decide +kernel
theorem dX0_headingAt_3 : decode cX0_headingAt 3 = .ok (.istore_n 3, 1) := by decide +kernel
theorem dX0_headingAt_4 : decode cX0_headingAt 4 = .ok (.iload_n 3, 1) := by decide +kernel
theorem dX0_headingAt_5 : decode cX0_headingAt 5 = .ok (.iload_n 1, 1) := by decide +kernel
theorem dX0_headingAt_6 : decode cX0_headingAt 6 = .ok (.if_icmp .gt 23, 3) := by decide +kernel
theorem dX0_headingAt_9 : decode cX0_headingAt 9 = .ok (.iload_n 2, 1) := by decide +kernel
theorem dX0_headingAt_10 : decode cX0_headingAt 10 = .ok (.aload_n 0, 1) := by decide +kernel
theorem dX0_headingAt_11 : decode cX0_headingAt 11 = .ok (.iload_n 3, 1) := by decide +kernel
theorem dX0_headingAt_12 : decode cX0_headingAt 12 = .ok (.aload_n 0, 1) := by decide +kernel
theorem dX0_headingAt_13 : decode cX0_headingAt 13 = .ok (.getfield 24, 3) := by decide +kernel
theorem dX0_headingAt_16 : decode cX0_headingAt 16 = .ok (.iload_n 3, 1) := by decide +kernel
theorem dX0_headingAt_17 : decode cX0_headingAt 17 = .ok (.iaload, 1) := by decide +kernel
theorem dX0_headingAt_18 : decode cX0_headingAt 18 = .ok (.invokevirtual 43, 3) := by decide +kernel
theorem dX0_headingAt_21 : decode cX0_headingAt 21 = .ok (.iadd, 1) := by decide +kernel
theorem dX0_headingAt_22 : decode cX0_headingAt 22 = .ok (.istore_n 2, 1) := by decide +kernel
theorem dX0_headingAt_23 : decode cX0_headingAt 23 = .ok (.iinc 3 1, 3) := by decide +kernel
theorem dX0_headingAt_26 : decode cX0_headingAt 26 = .ok (.goto (-22), 3) := by decide +kernel
theorem dX0_headingAt_29 : decode cX0_headingAt 29 = .ok (.iload_n 2, 1) := by decide +kernel
theorem dX0_headingAt_30 : decode cX0_headingAt 30 = .ok (.bipush 63, 2) := by decide +kernel
theorem dX0_headingAt_32 : decode cX0_headingAt 32 = .ok (.iand, 1) := by decide +kernel
theorem dX0_headingAt_33 : decode cX0_headingAt 33 = .ok (.ireturn, 1) := by decide +kernel
theorem dX0_countPoses_0 : decode cX0_countPoses 0 = .ok (.lconst 1, 1) := by decide +kernel
theorem dX0_countPoses_1 : decode cX0_countPoses 1 = .ok (.lstore_n 1, 1) := by decide +kernel
theorem dX0_countPoses_2 : decode cX0_countPoses 2 = .ok (.iconst 0, 1) := by decide +kernel
theorem dX0_countPoses_3 : decode cX0_countPoses 3 = .ok (.istore_n 3, 1) := by decide +kernel
theorem dX0_countPoses_4 : decode cX0_countPoses 4 = .ok (.iload_n 3, 1) := by decide +kernel
theorem dX0_countPoses_5 : decode cX0_countPoses 5 = .ok (.aload_n 0, 1) := by decide +kernel
theorem dX0_countPoses_6 : decode cX0_countPoses 6 = .ok (.getfield 27, 3) := by decide +kernel
theorem dX0_countPoses_9 : decode cX0_countPoses 9 = .ok (.if_icmp .ge 28, 3) := by decide +kernel
theorem dX0_countPoses_12 : decode cX0_countPoses 12 = .ok (.lload_n 1, 1) := by decide +kernel
theorem dX0_countPoses_13 : decode cX0_countPoses 13 = .ok (.aload_n 0, 1) := by decide +kernel
theorem dX0_countPoses_14 : decode cX0_countPoses 14 = .ok (.getfield 21, 3) := by decide +kernel
theorem dX0_countPoses_17 : decode cX0_countPoses 17 = .ok (.iload_n 3, 1) := by decide +kernel
theorem dX0_countPoses_18 : decode cX0_countPoses 18 = .ok (.iaload, 1) := by decide +kernel
theorem dX0_countPoses_19 : decode cX0_countPoses 19 = .ok (.aload_n 0, 1) := by decide +kernel
theorem dX0_countPoses_20 : decode cX0_countPoses 20 = .ok (.getfield 18, 3) := by decide +kernel
theorem dX0_countPoses_23 : decode cX0_countPoses 23 = .ok (.iload_n 3, 1) := by decide +kernel
theorem dX0_countPoses_24 : decode cX0_countPoses 24 = .ok (.iaload, 1) := by decide +kernel
theorem dX0_countPoses_25 : decode cX0_countPoses 25 = .ok (.isub, 1) := by decide +kernel
theorem dX0_countPoses_26 : decode cX0_countPoses 26 = .ok (.iconst 1, 1) := by decide +kernel
theorem dX0_countPoses_27 : decode cX0_countPoses 27 = .ok (.iadd, 1) := by decide +kernel
theorem dX0_countPoses_28 : decode cX0_countPoses 28 = .ok (.i2l, 1) := by decide +kernel
theorem dX0_countPoses_29 : decode cX0_countPoses 29 = .ok (.lmul, 1) := by decide +kernel
theorem dX0_countPoses_30 : decode cX0_countPoses 30 = .ok (.lstore_n 1, 1) := by decide +kernel
theorem dX0_countPoses_31 : decode cX0_countPoses 31 = .ok (.iinc 3 1, 3) := by decide +kernel
theorem dX0_countPoses_34 : decode cX0_countPoses 34 = .ok (.goto (-30), 3) := by decide +kernel
theorem dX0_countPoses_37 : decode cX0_countPoses 37 = .ok (.lload_n 1, 1) := by decide +kernel
theorem dX0_countPoses_38 : decode cX0_countPoses 38 = .ok (.lreturn, 1) := by decide +kernel
theorem dX1_init_0 : decode cX1_init 0 = .ok (.aload_n 0, 1) := by decide +kernel
theorem dX1_init_1 : decode cX1_init 1 = .ok (.invokespecial 3, 3) := by decide +kernel
theorem dX1_init_4 : decode cX1_init 4 = .ok (.aload_n 0, 1) := by decide +kernel
theorem dX1_init_5 : decode cX1_init 5 = .ok (.sipush 10000, 3) := by decide +kernel
theorem dX1_init_8 : decode cX1_init 8 = .ok (.putfield 9, 3) := by decide +kernel
theorem dX1_init_11 : decode cX1_init 11 = .ok (.return_, 1) := by decide +kernel
theorem dX1_farFrom_0 : decode cX1_farFrom 0 = .ok (.iload_n 1, 1) := by decide +kernel
theorem dX1_farFrom_1 : decode cX1_farFrom 1 = .ok (.i2l, 1) := by decide +kernel
theorem dX1_farFrom_2 : decode cX1_farFrom 2 = .ok (.aload_n 0, 1) := by decide +kernel
theorem dX1_farFrom_3 : decode cX1_farFrom 3 = .ok (.getfield 15, 3) := by decide +kernel
theorem dX1_farFrom_6 : decode cX1_farFrom 6 = .ok (.i2l, 1) := by decide +kernel
theorem dX1_farFrom_7 : decode cX1_farFrom 7 = .ok (.lsub, 1) := by decide +kernel
theorem dX1_farFrom_8 : decode cX1_farFrom 8 = .ok (.lstore_n 3, 1) := by decide +kernel
theorem dX1_farFrom_9 : decode cX1_farFrom 9 = .ok (.iload_n 2, 1) := by decide +kernel
theorem dX1_farFrom_10 : decode cX1_farFrom 10 = .ok (.i2l, 1) := by decide +kernel
theorem dX1_farFrom_11 : decode cX1_farFrom 11 = .ok (.aload_n 0, 1) := by decide +kernel
theorem dX1_farFrom_12 : decode cX1_farFrom 12 = .ok (.getfield 18, 3) := by decide +kernel
theorem dX1_farFrom_15 : decode cX1_farFrom 15 = .ok (.i2l, 1) := by decide +kernel
theorem dX1_farFrom_16 : decode cX1_farFrom 16 = .ok (.lsub, 1) := by decide +kernel
theorem dX1_farFrom_17 : decode cX1_farFrom 17 = .ok (.lstore 5, 2) := by decide +kernel
theorem dX1_farFrom_19 : decode cX1_farFrom 19 = .ok (.lload_n 3, 1) := by decide +kernel
theorem dX1_farFrom_20 : decode cX1_farFrom 20 = .ok (.lload_n 3, 1) := by decide +kernel
theorem dX1_farFrom_21 : decode cX1_farFrom 21 = .ok (.lmul, 1) := by decide +kernel
theorem dX1_farFrom_22 : decode cX1_farFrom 22 = .ok (.lload 5, 2) := by decide +kernel
theorem dX1_farFrom_24 : decode cX1_farFrom 24 = .ok (.lload 5, 2) := by decide +kernel
theorem dX1_farFrom_26 : decode cX1_farFrom 26 = .ok (.lmul, 1) := by decide +kernel
theorem dX1_farFrom_27 : decode cX1_farFrom 27 = .ok (.ladd, 1) := by decide +kernel
theorem dX1_farFrom_28 : decode cX1_farFrom 28 = .ok (.lreturn, 1) := by decide +kernel
theorem dX1_isWithin_0 : decode cX1_isWithin 0 = .ok (.iload_n 2, 1) := by decide +kernel
theorem dX1_isWithin_1 : decode cX1_isWithin 1 = .ok (.aload_n 0, 1) := by decide +kernel
theorem dX1_isWithin_2 : decode cX1_isWithin 2 = .ok (.getfield 15, 3) := by decide +kernel
theorem dX1_isWithin_5 : decode cX1_isWithin 5 = .ok (.isub, 1) := by decide +kernel
theorem dX1_isWithin_6 : decode cX1_isWithin 6 = .ok (.invokestatic 21, 3) := by decide +kernel
theorem dX1_isWithin_9 : decode cX1_isWithin 9 = .ok (.iload_n 1, 1) := by decide +kernel
theorem dX1_isWithin_10 : decode cX1_isWithin 10 = .ok (.if_icmp .gt 20, 3) := by decide +kernel
theorem dX1_isWithin_13 : decode cX1_isWithin 13 = .ok (.iload_n 3, 1) := by decide +kernel
theorem dX1_isWithin_14 : decode cX1_isWithin 14 = .ok (.aload_n 0, 1) := by decide +kernel
theorem dX1_isWithin_15 : decode cX1_isWithin 15 = .ok (.getfield 18, 3) := by decide +kernel
theorem dX1_isWithin_18 : decode cX1_isWithin 18 = .ok (.isub, 1) := by decide +kernel
theorem dX1_isWithin_19 : decode cX1_isWithin 19 = .ok (.invokestatic 21, 3) := by decide +kernel
theorem dX1_isWithin_22 : decode cX1_isWithin 22 = .ok (.iload_n 1, 1) := by decide +kernel
theorem dX1_isWithin_23 : decode cX1_isWithin 23 = .ok (.if_icmp .gt 7, 3) := by decide +kernel
theorem dX1_isWithin_26 : decode cX1_isWithin 26 = .ok (.iconst 1, 1) := by decide +kernel
theorem dX1_isWithin_27 : decode cX1_isWithin 27 = .ok (.goto 4, 3) := by decide +kernel
theorem dX1_isWithin_30 : decode cX1_isWithin 30 = .ok (.iconst 0, 1) := by decide +kernel
theorem dX1_isWithin_31 : decode cX1_isWithin 31 = .ok (.ireturn, 1) := by decide +kernel
theorem dX2_init_0 : decode cX2_init 0 = .ok (.aload_n 0, 1) := by decide +kernel
theorem dX2_init_1 : decode cX2_init 1 = .ok (.invokespecial 3, 3) := by decide +kernel
theorem dX2_init_4 : decode cX2_init 4 = .ok (.aload_n 0, 1) := by decide +kernel
theorem dX2_init_5 : decode cX2_init 5 = .ok (.bipush 10, 2) := by decide +kernel
theorem dX2_init_7 : decode cX2_init 7 = .ok (.newarray .long, 2) := by decide +kernel
theorem dX2_init_9 : decode cX2_init 9 = .ok (.putfield 9, 3) := by decide +kernel
theorem dX2_init_12 : decode cX2_init 12 = .ok (.aload_n 0, 1) := by decide +kernel
theorem dX2_init_13 : decode cX2_init 13 = .ok (.bipush 50, 2) := by decide +kernel
theorem dX2_init_15 : decode cX2_init 15 = .ok (.newarray .int, 2) := by decide +kernel
theorem dX2_init_17 : decode cX2_init 17 = .ok (.putfield 15, 3) := by decide +kernel
theorem dX2_init_20 : decode cX2_init 20 = .ok (.return_, 1) := by decide +kernel
theorem dX2_clear_0 : decode cX2_clear 0 = .ok (.aload_n 0, 1) := by decide +kernel
theorem dX2_clear_1 : decode cX2_clear 1 = .ok (.iconst 0, 1) := by decide +kernel
theorem dX2_clear_2 : decode cX2_clear 2 = .ok (.putfield 19, 3) := by decide +kernel
theorem dX2_clear_5 : decode cX2_clear 5 = .ok (.return_, 1) := by decide +kernel
set_option maxRecDepth 20000 in
theorem ggX2_add_X2_moveDown : GoodIn wsX2_add wsX2_moveDown := goodIn_r _ [16, 6, 7, 8, 9, 10, 11, 17, 18, 19] (by decide +kernel) (by decide +kernel)
set_option maxRecDepth 20000 in
theorem gX2_add_X2_moveDown : GoodIn wsX2_add (wsV RX2 29 RX2 yX2_moveDown wsX2_moveDown) := goodIn_app (goodIn_of _ (by decide +kernel)) ggX2_add_X2_moveDown
theorem dX2_add_0 : decode cX2_add 0 = .ok (.aload_n 0, 1) := by decide +kernel
theorem dX2_add_1 : decode cX2_add 1 = .ok (.getfield 19, 3) := by decide +kernel
theorem dX2_add_4 : decode cX2_add 4 = .ok (.bipush 10, 2) := by decide +kernel
theorem dX2_add_6 : decode cX2_add 6 = .ok (.invokestatic 23, 3) := by decide +kernel
theorem dX2_add_9 : decode cX2_add 9 = .ok (.istore 4, 2) := by decide +kernel
theorem dX2_add_11 : decode cX2_add 11 = .ok (.aload_n 0, 1) := by decide +kernel
theorem dX2_add_12 : decode cX2_add 12 = .ok (.dup, 1) := by decide +kernel
theorem dX2_add_13 : decode cX2_add 13 = .ok (.getfield 19, 3) := by decide +kernel
theorem dX2_add_16 : decode cX2_add 16 = .ok (.iconst 1, 1) := by decide +kernel
theorem dX2_add_17 : decode cX2_add 17 = .ok (.iadd, 1) := by decide +kernel
theorem dX2_add_18 : decode cX2_add 18 = .ok (.putfield 19, 3) := by decide +kernel
theorem dX2_add_21 : decode cX2_add 21 = .ok (.iload 4, 2) := by decide +kernel
theorem dX2_add_23 : decode cX2_add 23 = .ok (.ifCond .le 29, 3) := by decide +kernel
theorem dX2_add_26 : decode cX2_add 26 = .ok (.aload_n 0, 1) := by decide +kernel
theorem dX2_add_27 : decode cX2_add 27 = .ok (.getfield 9, 3) := by decide +kernel
theorem dX2_add_30 : decode cX2_add 30 = .ok (.iload 4, 2) := by decide +kernel
theorem dX2_add_32 : decode cX2_add 32 = .ok (.iconst 1, 1) := by decide +kernel
theorem dX2_add_33 : decode cX2_add 33 = .ok (.isub, 1) := by decide +kernel
theorem dX2_add_34 : decode cX2_add 34 = .ok (.laload, 1) := by decide +kernel
theorem dX2_add_35 : decode cX2_add 35 = .ok (.lload_n 1, 1) := by decide +kernel
theorem dX2_add_36 : decode cX2_add 36 = .ok (.lcmp, 1) := by decide +kernel
theorem dX2_add_37 : decode cX2_add 37 = .ok (.ifCond .le 15, 3) := by decide +kernel
theorem dX2_add_40 : decode cX2_add 40 = .ok (.iinc 4 (-1), 3) := by decide +kernel
theorem dX2_add_43 : decode cX2_add 43 = .ok (.aload_n 0, 1) := by decide +kernel
theorem dX2_add_44 : decode cX2_add 44 = .ok (.iload 4, 2) := by decide +kernel
theorem dX2_add_46 : decode cX2_add 46 = .ok (.invokevirtual 29, 3) := by decide +kernel
theorem dX2_add_49 : decode cX2_add 49 = .ok (.goto (-28), 3) := by decide +kernel
theorem dX2_add_52 : decode cX2_add 52 = .ok (.iload 4, 2) := by decide +kernel
theorem dX2_add_54 : decode cX2_add 54 = .ok (.bipush 10, 2) := by decide +kernel
theorem dX2_add_56 : decode cX2_add 56 = .ok (.if_icmp .ge 25, 3) := by decide +kernel
theorem dX2_add_59 : decode cX2_add 59 = .ok (.aload_n 0, 1) := by decide +kernel
theorem dX2_add_60 : decode cX2_add 60 = .ok (.getfield 9, 3) := by decide +kernel
theorem dX2_add_63 : decode cX2_add 63 = .ok (.iload 4, 2) := by decide +kernel
theorem dX2_add_65 : decode cX2_add 65 = .ok (.lload_n 1, 1) := by decide +kernel
theorem dX2_add_66 : decode cX2_add 66 = .ok (.lastore, 1) := by decide +kernel
theorem dX2_add_67 : decode cX2_add 67 = .ok (.aload_n 3, 1) := by decide +kernel
theorem dX2_add_68 : decode cX2_add 68 = .ok (.iconst 0, 1) := by decide +kernel
theorem dX2_add_69 : decode cX2_add 69 = .ok (.aload_n 0, 1) := by decide +kernel
theorem dX2_add_70 : decode cX2_add 70 = .ok (.getfield 15, 3) := by decide +kernel
theorem dX2_add_73 : decode cX2_add 73 = .ok (.iload 4, 2) := by decide +kernel
theorem dX2_add_75 : decode cX2_add 75 = .ok (.iconst 5, 1) := by decide +kernel
theorem dX2_add_76 : decode cX2_add 76 = .ok (.imul, 1) := by decide +kernel
theorem dX2_add_77 : decode cX2_add 77 = .ok (.iconst 5, 1) := by decide +kernel
theorem dX2_add_78 : decode cX2_add 78 = .ok (.invokestatic 33, 3) := by decide +kernel
theorem dX2_add_81 : decode cX2_add 81 = .ok (.return_, 1) := by decide +kernel
theorem dX2_moveDown_0 : decode cX2_moveDown 0 = .ok (.iload_n 1, 1) := by decide +kernel
theorem dX2_moveDown_1 : decode cX2_moveDown 1 = .ok (.iconst 1, 1) := by decide +kernel
theorem dX2_moveDown_2 : decode cX2_moveDown 2 = .ok (.iadd, 1) := by decide +kernel
theorem dX2_moveDown_3 : decode cX2_moveDown 3 = .ok (.bipush 10, 2) := by decide +kernel
theorem dX2_moveDown_5 : decode cX2_moveDown 5 = .ok (.if_icmp .ge 37, 3) := by decide +kernel
theorem dX2_moveDown_8 : decode cX2_moveDown 8 = .ok (.aload_n 0, 1) := by decide +kernel
theorem dX2_moveDown_9 : decode cX2_moveDown 9 = .ok (.getfield 9, 3) := by decide +kernel
theorem dX2_moveDown_12 : decode cX2_moveDown 12 = .ok (.iload_n 1, 1) := by decide +kernel
theorem dX2_moveDown_13 : decode cX2_moveDown 13 = .ok (.iconst 1, 1) := by decide +kernel
theorem dX2_moveDown_14 : decode cX2_moveDown 14 = .ok (.iadd, 1) := by decide +kernel
theorem dX2_moveDown_15 : decode cX2_moveDown 15 = .ok (.aload_n 0, 1) := by decide +kernel
theorem dX2_moveDown_16 : decode cX2_moveDown 16 = .ok (.getfield 9, 3) := by decide +kernel
theorem dX2_moveDown_19 : decode cX2_moveDown 19 = .ok (.iload_n 1, 1) := by decide +kernel
theorem dX2_moveDown_20 : decode cX2_moveDown 20 = .ok (.laload, 1) := by decide +kernel
theorem dX2_moveDown_21 : decode cX2_moveDown 21 = .ok (.lastore, 1) := by decide +kernel
theorem dX2_moveDown_22 : decode cX2_moveDown 22 = .ok (.aload_n 0, 1) := by decide +kernel
theorem dX2_moveDown_23 : decode cX2_moveDown 23 = .ok (.getfield 15, 3) := by decide +kernel
theorem dX2_moveDown_26 : decode cX2_moveDown 26 = .ok (.iload_n 1, 1) := by decide +kernel
theorem dX2_moveDown_27 : decode cX2_moveDown 27 = .ok (.iconst 5, 1) := by decide +kernel
theorem dX2_moveDown_28 : decode cX2_moveDown 28 = .ok (.imul, 1) := by decide +kernel
theorem dX2_moveDown_29 : decode cX2_moveDown 29 = .ok (.aload_n 0, 1) := by decide +kernel
theorem dX2_moveDown_30 : decode cX2_moveDown 30 = .ok (.getfield 15, 3) := by decide +kernel
theorem dX2_moveDown_33 : decode cX2_moveDown 33 = .ok (.iload_n 1, 1) := by decide +kernel
theorem dX2_moveDown_34 : decode cX2_moveDown 34 = .ok (.iconst 1, 1) := by decide +kernel
theorem dX2_moveDown_35 : decode cX2_moveDown 35 = .ok (.iadd, 1) := by decide +kernel
theorem dX2_moveDown_36 : decode cX2_moveDown 36 = .ok (.iconst 5, 1) := by decide +kernel
theorem dX2_moveDown_37 : decode cX2_moveDown 37 = .ok (.imul, 1) := by decide +kernel
theorem dX2_moveDown_38 : decode cX2_moveDown 38 = .ok (.iconst 5, 1) := by decide +kernel
theorem dX2_moveDown_39 : decode cX2_moveDown 39 = .ok (.invokestatic 33, 3) := by decide +kernel
theorem dX2_moveDown_42 : decode cX2_moveDown 42 = .ok (.return_, 1) := by decide +kernel
theorem dX2_valueOf_0 : decode cX2_valueOf 0 = .ok (.aload_n 0, 1) := by decide +kernel
theorem dX2_valueOf_1 : decode cX2_valueOf 1 = .ok (.getfield 15, 3) := by decide +kernel
theorem dX2_valueOf_4 : decode cX2_valueOf 4 = .ok (.iload_n 1, 1) := by decide +kernel
theorem dX2_valueOf_5 : decode cX2_valueOf 5 = .ok (.iconst 5, 1) := by decide +kernel
theorem dX2_valueOf_6 : decode cX2_valueOf 6 = .ok (.imul, 1) := by decide +kernel
theorem dX2_valueOf_7 : decode cX2_valueOf 7 = .ok (.iload_n 2, 1) := by decide +kernel
theorem dX2_valueOf_8 : decode cX2_valueOf 8 = .ok (.iadd, 1) := by decide +kernel
theorem dX2_valueOf_9 : decode cX2_valueOf 9 = .ok (.iaload, 1) := by decide +kernel
theorem dX2_valueOf_10 : decode cX2_valueOf 10 = .ok (.ireturn, 1) := by decide +kernel
set_option maxRecDepth 20000 in
theorem ggX3_init_X2_init : GoodIn wsX3_init wsX2_init := goodIn_r _ [16, 17, 2, 3, 18, 19, 8, 20, 21, 22, 23] (by decide +kernel) (by decide +kernel)
set_option maxRecDepth 20000 in
theorem gX3_init_X2_init_n11 : GoodIn wsX3_init (wsX2_init) := ggX3_init_X2_init
theorem dX3_init_0 : decode cX3_init 0 = .ok (.aload_n 0, 1) := by decide +kernel
theorem dX3_init_1 : decode cX3_init 1 = .ok (.invokespecial 3, 3) := by decide +kernel
theorem dX3_init_4 : decode cX3_init 4 = .ok (.aload_n 0, 1) := by decide +kernel
theorem dX3_init_5 : decode cX3_init 5 = .ok (.new 9, 3) := by decide +kernel
theorem dX3_init_8 : decode cX3_init 8 = .ok (.dup, 1) := by decide +kernel
theorem dX3_init_9 : decode cX3_init 9 = .ok (.invokespecial 11, 3) := by decide +kernel
theorem dX3_init_12 : decode cX3_init 12 = .ok (.putfield 12, 3) := by decide +kernel
theorem dX3_init_15 : decode cX3_init 15 = .ok (.aload_n 0, 1) := by decide +kernel
theorem dX3_init_16 : decode cX3_init 16 = .ok (.iconst 5, 1) := by decide +kernel
theorem dX3_init_17 : decode cX3_init 17 = .ok (.newarray .int, 2) := by decide +kernel
theorem dX3_init_19 : decode cX3_init 19 = .ok (.putfield 18, 3) := by decide +kernel
theorem dX3_init_22 : decode cX3_init 22 = .ok (.aload_n 0, 1) := by decide +kernel
theorem dX3_init_23 : decode cX3_init 23 = .ok (.bipush 6, 2) := by decide +kernel
theorem dX3_init_25 : decode cX3_init 25 = .ok (.newarray .int, 2) := by decide +kernel
theorem dX3_init_27 : decode cX3_init 27 = .ok (.putfield 22, 3) := by decide +kernel
theorem dX3_init_30 : decode cX3_init 30 = .ok (.aload_n 0, 1) := by decide +kernel
theorem dX3_init_31 : decode cX3_init 31 = .ok (.bipush 6, 2) := by decide +kernel
theorem dX3_init_33 : decode cX3_init 33 = .ok (.newarray .int, 2) := by decide +kernel
theorem dX3_init_35 : decode cX3_init 35 = .ok (.putfield 25, 3) := by decide +kernel
theorem dX3_init_38 : decode cX3_init 38 = .ok (.aload_n 0, 1) := by decide +kernel
theorem dX3_init_39 : decode cX3_init 39 = .ok (.bipush 6, 2) := by decide +kernel
theorem dX3_init_41 : decode cX3_init 41 = .ok (.newarray .int, 2) := by decide +kernel
theorem dX3_init_43 : decode cX3_init 43 = .ok (.putfield 28, 3) := by decide +kernel
theorem dX3_init_46 : decode cX3_init 46 = .ok (.aload_n 0, 1) := by decide +kernel
theorem dX3_init_47 : decode cX3_init 47 = .ok (.bipush 6, 2) := by decide +kernel
theorem dX3_init_49 : decode cX3_init 49 = .ok (.newarray .int, 2) := by decide +kernel
theorem dX3_init_51 : decode cX3_init 51 = .ok (.putfield 31, 3) := by decide +kernel
theorem dX3_init_54 : decode cX3_init 54 = .ok (.aload_n 0, 1) := by decide +kernel
theorem dX3_init_55 : decode cX3_init 55 = .ok (.bipush 6, 2) := by decide +kernel
theorem dX3_init_57 : decode cX3_init 57 = .ok (.newarray .int, 2) := by decide +kernel
theorem dX3_init_59 : decode cX3_init 59 = .ok (.putfield 34, 3) := by decide +kernel
theorem dX3_init_62 : decode cX3_init 62 = .ok (.return_, 1) := by decide +kernel
set_option maxRecDepth 20000 in
theorem ggX3_run_X2_clear : GoodIn wsX3_run wsX2_clear := goodIn_r _ [5, 6, 94, 95, 96] (by decide +kernel) (by decide +kernel)
set_option maxRecDepth 20000 in
theorem gX3_run_X2_clear_n37 : GoodIn wsX3_run (wsX2_clear) := ggX3_run_X2_clear
set_option maxRecDepth 20000 in
theorem ggX3_run_X3_findReach : GoodIn wsX3_run wsX3_findReach := goodIn_r _ [11, 12, 13, 14, 15, 16, 17, 18, 81, 82, 83, 84, 85, 86, 87, 88, 89, 90, 91, 92, 93, 97, 98, 99] (by decide +kernel) (by decide +kernel)
set_option maxRecDepth 20000 in
theorem gX3_run_X3_findReach : GoodIn wsX3_run (wsV RX3 40 RX3 yX3_findReach wsX3_findReach) := goodIn_app (goodIn_of _ (by decide +kernel)) ggX3_run_X3_findReach
set_option maxRecDepth 20000 in
theorem ggX3_run_X3_goThrough : GoodIn wsX3_run wsX3_goThrough := goodIn_r _ [21, 12, 22, 23, 1, 24, 25, 26, 27, 28, 29, 30, 31, 32, 33, 34, 35, 36, 37, 10, 38, 39, 40, 41, 42, 43, 44, 45, 46, 47, 14, 48, 49, 50, 51, 52, 53, 54, 17, 55, 3, 56, 57, 6, 58, 59, 60, 61, 62, 63, 64, 65, 66, 67, 68, 69, 70, 71, 72, 73, 13, 15, 16, 18, 74, 75, 76, 77, 78, 79, 80, 19, 20, 88, 89, 90, 91, 92, 93, 81, 82, 83, 84, 85, 86, 87, 97, 98, 99, 94, 95, 96] (by decide +kernel) (by decide +kernel)
set_option maxRecDepth 20000 in
theorem gX3_run_X3_goThrough : GoodIn wsX3_run (va_wsS RX3 50 yX3_goThrough wsX3_goThrough) := goodIn_app (goodIn_of _ (by decide +kernel)) ggX3_run_X3_goThrough
theorem dX3_run_0 : decode cX3_run 0 = .ok (.aload_n 0, 1) := by decide +kernel
theorem dX3_run_1 : decode cX3_run 1 = .ok (.getfield 12, 3) := by decide +kernel
theorem dX3_run_4 : decode cX3_run 4 = .ok (.invokevirtual 37, 3) := by decide +kernel
theorem dX3_run_7 : decode cX3_run 7 = .ok (.aload_n 0, 1) := by decide +kernel
theorem dX3_run_8 : decode cX3_run 8 = .ok (.aload_n 1, 1) := by decide +kernel
theorem dX3_run_9 : decode cX3_run 9 = .ok (.aload_n 2, 1) := by decide +kernel
theorem dX3_run_10 : decode cX3_run 10 = .ok (.invokevirtual 40, 3) := by decide +kernel
theorem dX3_run_13 : decode cX3_run 13 = .ok (.aload_n 1, 1) := by decide +kernel
theorem dX3_run_14 : decode cX3_run 14 = .ok (.getfield 44, 3) := by decide +kernel
theorem dX3_run_17 : decode cX3_run 17 = .ok (.ifCond .le 11, 3) := by decide +kernel
theorem dX3_run_20 : decode cX3_run 20 = .ok (.aload_n 0, 1) := by decide +kernel
theorem dX3_run_21 : decode cX3_run 21 = .ok (.aload_n 1, 1) := by decide +kernel
theorem dX3_run_22 : decode cX3_run 22 = .ok (.aload_n 2, 1) := by decide +kernel
theorem dX3_run_23 : decode cX3_run 23 = .ok (.iload_n 3, 1) := by decide +kernel
theorem dX3_run_24 : decode cX3_run 24 = .ok (.iconst 0, 1) := by decide +kernel
theorem dX3_run_25 : decode cX3_run 25 = .ok (.invokestatic 50, 3) := by decide +kernel
theorem dX3_run_28 : decode cX3_run 28 = .ok (.return_, 1) := by decide +kernel
set_option maxRecDepth 20000 in
theorem ggX3_findReach_X0_distanceOf : GoodIn wsX3_findReach wsX0_distanceOf := goodIn_r _ [5, 6, 7, 15, 16, 17, 18, 19, 20] (by decide +kernel) (by decide +kernel)
set_option maxRecDepth 20000 in
theorem gX3_findReach_X0_distanceOf_n62 : GoodIn wsX3_findReach (wsX0_distanceOf) := ggX3_findReach_X0_distanceOf
theorem dX3_findReach_0 : decode cX3_findReach 0 = .ok (.aload_n 0, 1) := by decide +kernel
theorem dX3_findReach_1 : decode cX3_findReach 1 = .ok (.getfield 22, 3) := by decide +kernel
theorem dX3_findReach_4 : decode cX3_findReach 4 = .ok (.aload_n 1, 1) := by decide +kernel
theorem dX3_findReach_5 : decode cX3_findReach 5 = .ok (.getfield 44, 3) := by decide +kernel
theorem dX3_findReach_8 : decode cX3_findReach 8 = .ok (.aload_n 2, 1) := by decide +kernel
theorem dX3_findReach_9 : decode cX3_findReach 9 = .ok (.getfield 54, 3) := by decide +kernel
theorem dX3_findReach_12 : decode cX3_findReach 12 = .ok (.iastore, 1) := by decide +kernel
theorem dX3_findReach_13 : decode cX3_findReach 13 = .ok (.aload_n 1, 1) := by decide +kernel
theorem dX3_findReach_14 : decode cX3_findReach 14 = .ok (.getfield 44, 3) := by decide +kernel
theorem dX3_findReach_17 : decode cX3_findReach 17 = .ok (.iconst 1, 1) := by decide +kernel
theorem dX3_findReach_18 : decode cX3_findReach 18 = .ok (.isub, 1) := by decide +kernel
theorem dX3_findReach_19 : decode cX3_findReach 19 = .ok (.istore_n 3, 1) := by decide +kernel
theorem dX3_findReach_20 : decode cX3_findReach 20 = .ok (.iload_n 3, 1) := by decide +kernel
theorem dX3_findReach_21 : decode cX3_findReach 21 = .ok (.ifCond .lt 39, 3) := by decide +kernel
theorem dX3_findReach_24 : decode cX3_findReach 24 = .ok (.aload_n 0, 1) := by decide +kernel
theorem dX3_findReach_25 : decode cX3_findReach 25 = .ok (.getfield 22, 3) := by decide +kernel
theorem dX3_findReach_28 : decode cX3_findReach 28 = .ok (.iload_n 3, 1) := by decide +kernel
theorem dX3_findReach_29 : decode cX3_findReach 29 = .ok (.aload_n 0, 1) := by decide +kernel
theorem dX3_findReach_30 : decode cX3_findReach 30 = .ok (.getfield 22, 3) := by decide +kernel
theorem dX3_findReach_33 : decode cX3_findReach 33 = .ok (.iload_n 3, 1) := by decide +kernel
theorem dX3_findReach_34 : decode cX3_findReach 34 = .ok (.iconst 1, 1) := by decide +kernel
theorem dX3_findReach_35 : decode cX3_findReach 35 = .ok (.iadd, 1) := by decide +kernel
theorem dX3_findReach_36 : decode cX3_findReach 36 = .ok (.iaload, 1) := by decide +kernel
theorem dX3_findReach_37 : decode cX3_findReach 37 = .ok (.sipush 1000, 3) := by decide +kernel
theorem dX3_findReach_40 : decode cX3_findReach 40 = .ok (.aload_n 1, 1) := by decide +kernel
theorem dX3_findReach_41 : decode cX3_findReach 41 = .ok (.iload_n 3, 1) := by decide +kernel
theorem dX3_findReach_42 : decode cX3_findReach 42 = .ok (.aload_n 1, 1) := by decide +kernel
theorem dX3_findReach_43 : decode cX3_findReach 43 = .ok (.getfield 59, 3) := by decide +kernel
theorem dX3_findReach_46 : decode cX3_findReach 46 = .ok (.iload_n 3, 1) := by decide +kernel
theorem dX3_findReach_47 : decode cX3_findReach 47 = .ok (.iaload, 1) := by decide +kernel
theorem dX3_findReach_48 : decode cX3_findReach 48 = .ok (.invokevirtual 62, 3) := by decide +kernel
theorem dX3_findReach_51 : decode cX3_findReach 51 = .ok (.imul, 1) := by decide +kernel
theorem dX3_findReach_52 : decode cX3_findReach 52 = .ok (.iadd, 1) := by decide +kernel
theorem dX3_findReach_53 : decode cX3_findReach 53 = .ok (.iastore, 1) := by decide +kernel
theorem dX3_findReach_54 : decode cX3_findReach 54 = .ok (.iinc 3 (-1), 3) := by decide +kernel
theorem dX3_findReach_57 : decode cX3_findReach 57 = .ok (.goto (-37), 3) := by decide +kernel
theorem dX3_findReach_60 : decode cX3_findReach 60 = .ok (.return_, 1) := by decide +kernel
set_option maxRecDepth 20000 in
theorem ggX3_goThrough_X1_isWithin : GoodIn wsX3_goThrough wsX1_isWithin := goodIn_r _ [9, 10, 11, 12, 13, 14, 15, 86, 87, 88] (by decide +kernel) (by decide +kernel)
set_option maxRecDepth 20000 in
theorem gX3_goThrough_X1_isWithin_n66 : GoodIn wsX3_goThrough (wsX1_isWithin) := ggX3_goThrough_X1_isWithin
set_option maxRecDepth 20000 in
theorem ggX3_goThrough_X3_keyOf : GoodIn wsX3_goThrough wsX3_keyOf := goodIn_r _ [20, 2, 3, 21, 22, 23, 24, 13, 25, 26, 7, 27, 28, 10, 15, 29, 30, 31, 32, 33, 34, 35, 36, 37, 38, 73, 74, 75, 76, 77, 78, 79, 80, 81, 82, 83, 84, 85, 86, 87, 88] (by decide +kernel) (by decide +kernel)
set_option maxRecDepth 20000 in
theorem gX3_goThrough_X3_keyOf : GoodIn wsX3_goThrough (wsV RX3 70 RX3 yX3_keyOf wsX3_keyOf) := goodIn_app (goodIn_of _ (by decide +kernel)) ggX3_goThrough_X3_keyOf
set_option maxRecDepth 20000 in
theorem ggX3_goThrough_X2_add : GoodIn wsX3_goThrough wsX2_add := goodIn_r _ [42, 43, 44, 24, 13, 25, 45, 46, 47, 48, 49, 50, 51, 52, 53, 40, 54, 89, 90, 91] (by decide +kernel) (by decide +kernel)
set_option maxRecDepth 20000 in
theorem gX3_goThrough_X2_add_n74 : GoodIn wsX3_goThrough (wsX2_add) := ggX3_goThrough_X2_add
set_option maxRecDepth 20000 in
theorem ggX3_goThrough_X3_lead : GoodIn wsX3_goThrough wsX3_lead := goodIn_r _ [58, 22, 5, 2, 3, 21, 59, 12, 13, 14, 35, 30, 36, 37, 38, 60, 61, 62, 63, 64, 65, 66, 67, 68, 69, 70, 79, 80, 81, 82, 83, 84, 85, 73, 74, 75, 76, 77, 78] (by decide +kernel) (by decide +kernel)
set_option maxRecDepth 20000 in
theorem gX3_goThrough_X3_lead : GoodIn wsX3_goThrough (wsV RX3 81 RX3 yX3_lead wsX3_lead) := goodIn_app (goodIn_of _ (by decide +kernel)) ggX3_goThrough_X3_lead
set_option maxRecDepth 20000 in
theorem ggX3_goThrough_X3_goThrough : GoodIn wsX3_goThrough wsX3_goThrough := goodIn_r _ [0, 1, 2, 3, 4, 5, 6, 7, 8, 9, 10, 11, 12, 13, 14, 15, 16, 17, 18, 19, 20, 21, 22, 23, 24, 25, 26, 27, 28, 29, 30, 31, 32, 33, 34, 35, 36, 37, 38, 39, 40, 41, 42, 43, 44, 45, 46, 47, 48, 49, 50, 51, 52, 53, 54, 55, 56, 57, 58, 59, 60, 61, 62, 63, 64, 65, 66, 67, 68, 69, 70, 71, 72, 73, 74, 75, 76, 77, 78, 79, 80, 81, 82, 83, 84, 85, 86, 87, 88, 89, 90, 91] (by decide +kernel) (by decide +kernel)
set_option maxRecDepth 20000 in
theorem gX3_goThrough_X3_goThrough : GoodIn wsX3_goThrough (va_wsS RX3 50 yX3_goThrough wsX3_goThrough) := goodIn_app (goodIn_of _ (by decide +kernel)) ggX3_goThrough_X3_goThrough
theorem dX3_goThrough_0 : decode cX3_goThrough 0 = .ok (.iload 4, 2) := by decide +kernel
theorem dX3_goThrough_2 : decode cX3_goThrough 2 = .ok (.aload_n 1, 1) := by decide +kernel
theorem dX3_goThrough_3 : decode cX3_goThrough 3 = .ok (.getfield 44, 3) := by decide +kernel
theorem dX3_goThrough_6 : decode cX3_goThrough 6 = .ok (.if_icmp .gt 31, 3) := by decide +kernel
theorem dX3_goThrough_9 : decode cX3_goThrough 9 = .ok (.aload_n 2, 1) := by decide +kernel
theorem dX3_goThrough_10 : decode cX3_goThrough 10 = .ok (.aload_n 0, 1) := by decide +kernel
theorem dX3_goThrough_11 : decode cX3_goThrough 11 = .ok (.getfield 22, 3) := by decide +kernel
theorem dX3_goThrough_14 : decode cX3_goThrough 14 = .ok (.iload 4, 2) := by decide +kernel
theorem dX3_goThrough_16 : decode cX3_goThrough 16 = .ok (.iaload, 1) := by decide +kernel
theorem dX3_goThrough_17 : decode cX3_goThrough 17 = .ok (.aload_n 0, 1) := by decide +kernel
theorem dX3_goThrough_18 : decode cX3_goThrough 18 = .ok (.getfield 25, 3) := by decide +kernel
theorem dX3_goThrough_21 : decode cX3_goThrough 21 = .ok (.iload 4, 2) := by decide +kernel
theorem dX3_goThrough_23 : decode cX3_goThrough 23 = .ok (.iaload, 1) := by decide +kernel
theorem dX3_goThrough_24 : decode cX3_goThrough 24 = .ok (.aload_n 0, 1) := by decide +kernel
theorem dX3_goThrough_25 : decode cX3_goThrough 25 = .ok (.getfield 28, 3) := by decide +kernel
theorem dX3_goThrough_28 : decode cX3_goThrough 28 = .ok (.iload 4, 2) := by decide +kernel
theorem dX3_goThrough_30 : decode cX3_goThrough 30 = .ok (.iaload, 1) := by decide +kernel
theorem dX3_goThrough_31 : decode cX3_goThrough 31 = .ok (.invokevirtual 66, 3) := by decide +kernel
theorem dX3_goThrough_34 : decode cX3_goThrough 34 = .ok (.ifCond .ne 4, 3) := by decide +kernel
theorem dX3_goThrough_37 : decode cX3_goThrough 37 = .ok (.return_, 1) := by decide +kernel
theorem dX3_goThrough_38 : decode cX3_goThrough 38 = .ok (.iload 4, 2) := by decide +kernel
theorem dX3_goThrough_40 : decode cX3_goThrough 40 = .ok (.aload_n 1, 1) := by decide +kernel
theorem dX3_goThrough_41 : decode cX3_goThrough 41 = .ok (.getfield 44, 3) := by decide +kernel
theorem dX3_goThrough_44 : decode cX3_goThrough 44 = .ok (.if_icmp .ne 22, 3) := by decide +kernel
theorem dX3_goThrough_47 : decode cX3_goThrough 47 = .ok (.aload_n 0, 1) := by decide +kernel
theorem dX3_goThrough_48 : decode cX3_goThrough 48 = .ok (.getfield 12, 3) := by decide +kernel
theorem dX3_goThrough_51 : decode cX3_goThrough 51 = .ok (.aload_n 0, 1) := by decide +kernel
theorem dX3_goThrough_52 : decode cX3_goThrough 52 = .ok (.aload_n 1, 1) := by decide +kernel
theorem dX3_goThrough_53 : decode cX3_goThrough 53 = .ok (.aload_n 2, 1) := by decide +kernel
theorem dX3_goThrough_54 : decode cX3_goThrough 54 = .ok (.iload_n 3, 1) := by decide +kernel
theorem dX3_goThrough_55 : decode cX3_goThrough 55 = .ok (.invokevirtual 70, 3) := by decide +kernel
theorem dX3_goThrough_58 : decode cX3_goThrough 58 = .ok (.aload_n 0, 1) := by decide +kernel
theorem dX3_goThrough_59 : decode cX3_goThrough 59 = .ok (.getfield 18, 3) := by decide +kernel
theorem dX3_goThrough_62 : decode cX3_goThrough 62 = .ok (.invokevirtual 74, 3) := by decide +kernel
theorem dX3_goThrough_65 : decode cX3_goThrough 65 = .ok (.return_, 1) := by decide +kernel
theorem dX3_goThrough_66 : decode cX3_goThrough 66 = .ok (.aload_n 1, 1) := by decide +kernel
theorem dX3_goThrough_67 : decode cX3_goThrough 67 = .ok (.getfield 78, 3) := by decide +kernel
theorem dX3_goThrough_70 : decode cX3_goThrough 70 = .ok (.iload 4, 2) := by decide +kernel
theorem dX3_goThrough_72 : decode cX3_goThrough 72 = .ok (.iaload, 1) := by decide +kernel
theorem dX3_goThrough_73 : decode cX3_goThrough 73 = .ok (.istore 5, 2) := by decide +kernel
theorem dX3_goThrough_75 : decode cX3_goThrough 75 = .ok (.iload 5, 2) := by decide +kernel
theorem dX3_goThrough_77 : decode cX3_goThrough 77 = .ok (.aload_n 1, 1) := by decide +kernel
theorem dX3_goThrough_78 : decode cX3_goThrough 78 = .ok (.getfield 59, 3) := by decide +kernel
theorem dX3_goThrough_81 : decode cX3_goThrough 81 = .ok (.iload 4, 2) := by decide +kernel
theorem dX3_goThrough_83 : decode cX3_goThrough 83 = .ok (.iaload, 1) := by decide +kernel
theorem dX3_goThrough_84 : decode cX3_goThrough 84 = .ok (.if_icmp .gt 29, 3) := by decide +kernel
theorem dX3_goThrough_87 : decode cX3_goThrough 87 = .ok (.aload_n 0, 1) := by decide +kernel
theorem dX3_goThrough_88 : decode cX3_goThrough 88 = .ok (.aload_n 1, 1) := by decide +kernel
theorem dX3_goThrough_89 : decode cX3_goThrough 89 = .ok (.iload 4, 2) := by decide +kernel
theorem dX3_goThrough_91 : decode cX3_goThrough 91 = .ok (.iload 5, 2) := by decide +kernel
theorem dX3_goThrough_93 : decode cX3_goThrough 93 = .ok (.invokevirtual 81, 3) := by decide +kernel
theorem dX3_goThrough_96 : decode cX3_goThrough 96 = .ok (.aload_n 0, 1) := by decide +kernel
theorem dX3_goThrough_97 : decode cX3_goThrough 97 = .ok (.aload_n 1, 1) := by decide +kernel
theorem dX3_goThrough_98 : decode cX3_goThrough 98 = .ok (.aload_n 2, 1) := by decide +kernel
theorem dX3_goThrough_99 : decode cX3_goThrough 99 = .ok (.iload_n 3, 1) := by decide +kernel
theorem dX3_goThrough_100 : decode cX3_goThrough 100 = .ok (.iload 4, 2) := by decide +kernel
theorem dX3_goThrough_102 : decode cX3_goThrough 102 = .ok (.iconst 1, 1) := by decide +kernel
theorem dX3_goThrough_103 : decode cX3_goThrough 103 = .ok (.iadd, 1) := by decide +kernel
theorem dX3_goThrough_104 : decode cX3_goThrough 104 = .ok (.invokestatic 50, 3) := by decide +kernel
theorem dX3_goThrough_107 : decode cX3_goThrough 107 = .ok (.iinc 5 1, 3) := by decide +kernel
theorem dX3_goThrough_110 : decode cX3_goThrough 110 = .ok (.goto (-35), 3) := by decide +kernel
theorem dX3_goThrough_113 : decode cX3_goThrough 113 = .ok (.return_, 1) := by decide +kernel
set_option maxRecDepth 20000 in
theorem ggX3_lead_X0_turnOf : GoodIn wsX3_lead wsX0_turnOf := goodIn_r _ [13, 14, 33, 34, 35, 36, 37, 38] (by decide +kernel) (by decide +kernel)
set_option maxRecDepth 20000 in
theorem gX3_lead_X0_turnOf_n85 : GoodIn wsX3_lead (wsX0_turnOf) := ggX3_lead_X0_turnOf
set_option maxRecDepth 20000 in
theorem ggX3_lead_X0_distanceOf : GoodIn wsX3_lead wsX0_distanceOf := goodIn_r _ [17, 14, 18, 33, 34, 35, 36, 37, 38] (by decide +kernel) (by decide +kernel)
set_option maxRecDepth 20000 in
theorem gX3_lead_X0_distanceOf_n62 : GoodIn wsX3_lead (wsX0_distanceOf) := ggX3_lead_X0_distanceOf
set_option maxRecDepth 20000 in
theorem ggX3_lead_X5_cosine : GoodIn wsX3_lead wsX5_cosine := goodIn_r _ [21, 22, 23, 20, 24, 25] (by decide +kernel) (by decide +kernel)
set_option maxRecDepth 20000 in
theorem gX3_lead_X5_cosine_n88 : GoodIn wsX3_lead (wsX5_cosine) := ggX3_lead_X5_cosine
set_option maxRecDepth 20000 in
theorem ggX3_lead_X5_sine : GoodIn wsX3_lead wsX5_sine := goodIn_r _ [24, 25] (by decide +kernel) (by decide +kernel)
set_option maxRecDepth 20000 in
theorem gX3_lead_X5_sine_n92 : GoodIn wsX3_lead (wsX5_sine) := ggX3_lead_X5_sine
theorem dX3_lead_0 : decode cX3_lead 0 = .ok (.aload_n 0, 1) := by decide +kernel
theorem dX3_lead_1 : decode cX3_lead 1 = .ok (.getfield 31, 3) := by decide +kernel
theorem dX3_lead_4 : decode cX3_lead 4 = .ok (.iload_n 2, 1) := by decide +kernel
theorem dX3_lead_5 : decode cX3_lead 5 = .ok (.iaload, 1) := by decide +kernel
theorem dX3_lead_6 : decode cX3_lead 6 = .ok (.aload_n 1, 1) := by decide +kernel
theorem dX3_lead_7 : decode cX3_lead 7 = .ok (.iload_n 2, 1) := by decide +kernel
theorem dX3_lead_8 : decode cX3_lead 8 = .ok (.iload_n 3, 1) := by decide +kernel
theorem dX3_lead_9 : decode cX3_lead 9 = .ok (.invokevirtual 85, 3) := by decide +kernel
theorem dX3_lead_12 : decode cX3_lead 12 = .ok (.iadd, 1) := by decide +kernel
theorem dX3_lead_13 : decode cX3_lead 13 = .ok (.bipush 63, 2) := by decide +kernel
theorem dX3_lead_15 : decode cX3_lead 15 = .ok (.iand, 1) := by decide +kernel
theorem dX3_lead_16 : decode cX3_lead 16 = .ok (.istore 4, 2) := by decide +kernel
theorem dX3_lead_18 : decode cX3_lead 18 = .ok (.aload_n 1, 1) := by decide +kernel
theorem dX3_lead_19 : decode cX3_lead 19 = .ok (.iload_n 2, 1) := by decide +kernel
theorem dX3_lead_20 : decode cX3_lead 20 = .ok (.iload_n 3, 1) := by decide +kernel
theorem dX3_lead_21 : decode cX3_lead 21 = .ok (.invokevirtual 62, 3) := by decide +kernel
theorem dX3_lead_24 : decode cX3_lead 24 = .ok (.istore 5, 2) := by decide +kernel
theorem dX3_lead_26 : decode cX3_lead 26 = .ok (.aload_n 0, 1) := by decide +kernel
theorem dX3_lead_27 : decode cX3_lead 27 = .ok (.getfield 18, 3) := by decide +kernel
theorem dX3_lead_30 : decode cX3_lead 30 = .ok (.iload_n 2, 1) := by decide +kernel
theorem dX3_lead_31 : decode cX3_lead 31 = .ok (.iload_n 3, 1) := by decide +kernel
theorem dX3_lead_32 : decode cX3_lead 32 = .ok (.iastore, 1) := by decide +kernel
theorem dX3_lead_33 : decode cX3_lead 33 = .ok (.aload_n 0, 1) := by decide +kernel
theorem dX3_lead_34 : decode cX3_lead 34 = .ok (.getfield 25, 3) := by decide +kernel
theorem dX3_lead_37 : decode cX3_lead 37 = .ok (.iload_n 2, 1) := by decide +kernel
theorem dX3_lead_38 : decode cX3_lead 38 = .ok (.iconst 1, 1) := by decide +kernel
theorem dX3_lead_39 : decode cX3_lead 39 = .ok (.iadd, 1) := by decide +kernel
theorem dX3_lead_40 : decode cX3_lead 40 = .ok (.aload_n 0, 1) := by decide +kernel
theorem dX3_lead_41 : decode cX3_lead 41 = .ok (.getfield 25, 3) := by decide +kernel
theorem dX3_lead_44 : decode cX3_lead 44 = .ok (.iload_n 2, 1) := by decide +kernel
theorem dX3_lead_45 : decode cX3_lead 45 = .ok (.iaload, 1) := by decide +kernel
theorem dX3_lead_46 : decode cX3_lead 46 = .ok (.iload 5, 2) := by decide +kernel
theorem dX3_lead_48 : decode cX3_lead 48 = .ok (.iload 4, 2) := by decide +kernel
theorem dX3_lead_50 : decode cX3_lead 50 = .ok (.invokestatic 88, 3) := by decide +kernel
theorem dX3_lead_53 : decode cX3_lead 53 = .ok (.imul, 1) := by decide +kernel
theorem dX3_lead_54 : decode cX3_lead 54 = .ok (.iadd, 1) := by decide +kernel
theorem dX3_lead_55 : decode cX3_lead 55 = .ok (.iastore, 1) := by decide +kernel
theorem dX3_lead_56 : decode cX3_lead 56 = .ok (.aload_n 0, 1) := by decide +kernel
theorem dX3_lead_57 : decode cX3_lead 57 = .ok (.getfield 28, 3) := by decide +kernel
theorem dX3_lead_60 : decode cX3_lead 60 = .ok (.iload_n 2, 1) := by decide +kernel
theorem dX3_lead_61 : decode cX3_lead 61 = .ok (.iconst 1, 1) := by decide +kernel
theorem dX3_lead_62 : decode cX3_lead 62 = .ok (.iadd, 1) := by decide +kernel
theorem dX3_lead_63 : decode cX3_lead 63 = .ok (.aload_n 0, 1) := by decide +kernel
theorem dX3_lead_64 : decode cX3_lead 64 = .ok (.getfield 28, 3) := by decide +kernel
theorem dX3_lead_67 : decode cX3_lead 67 = .ok (.iload_n 2, 1) := by decide +kernel
theorem dX3_lead_68 : decode cX3_lead 68 = .ok (.iaload, 1) := by decide +kernel
theorem dX3_lead_69 : decode cX3_lead 69 = .ok (.iload 5, 2) := by decide +kernel
theorem dX3_lead_71 : decode cX3_lead 71 = .ok (.iload 4, 2) := by decide +kernel
theorem dX3_lead_73 : decode cX3_lead 73 = .ok (.invokestatic 92, 3) := by decide +kernel
theorem dX3_lead_76 : decode cX3_lead 76 = .ok (.imul, 1) := by decide +kernel
theorem dX3_lead_77 : decode cX3_lead 77 = .ok (.iadd, 1) := by decide +kernel
theorem dX3_lead_78 : decode cX3_lead 78 = .ok (.iastore, 1) := by decide +kernel
theorem dX3_lead_79 : decode cX3_lead 79 = .ok (.aload_n 0, 1) := by decide +kernel
theorem dX3_lead_80 : decode cX3_lead 80 = .ok (.getfield 31, 3) := by decide +kernel
theorem dX3_lead_83 : decode cX3_lead 83 = .ok (.iload_n 2, 1) := by decide +kernel
theorem dX3_lead_84 : decode cX3_lead 84 = .ok (.iconst 1, 1) := by decide +kernel
theorem dX3_lead_85 : decode cX3_lead 85 = .ok (.iadd, 1) := by decide +kernel
theorem dX3_lead_86 : decode cX3_lead 86 = .ok (.iload 4, 2) := by decide +kernel
theorem dX3_lead_88 : decode cX3_lead 88 = .ok (.iastore, 1) := by decide +kernel
theorem dX3_lead_89 : decode cX3_lead 89 = .ok (.aload_n 0, 1) := by decide +kernel
theorem dX3_lead_90 : decode cX3_lead 90 = .ok (.getfield 34, 3) := by decide +kernel
theorem dX3_lead_93 : decode cX3_lead 93 = .ok (.iload_n 2, 1) := by decide +kernel
theorem dX3_lead_94 : decode cX3_lead 94 = .ok (.iconst 1, 1) := by decide +kernel
theorem dX3_lead_95 : decode cX3_lead 95 = .ok (.iadd, 1) := by decide +kernel
theorem dX3_lead_96 : decode cX3_lead 96 = .ok (.aload_n 0, 1) := by decide +kernel
theorem dX3_lead_97 : decode cX3_lead 97 = .ok (.getfield 34, 3) := by decide +kernel
theorem dX3_lead_100 : decode cX3_lead 100 = .ok (.iload_n 2, 1) := by decide +kernel
theorem dX3_lead_101 : decode cX3_lead 101 = .ok (.iaload, 1) := by decide +kernel
theorem dX3_lead_102 : decode cX3_lead 102 = .ok (.iload_n 3, 1) := by decide +kernel
theorem dX3_lead_103 : decode cX3_lead 103 = .ok (.aload_n 1, 1) := by decide +kernel
theorem dX3_lead_104 : decode cX3_lead 104 = .ok (.getfield 95, 3) := by decide +kernel
theorem dX3_lead_107 : decode cX3_lead 107 = .ok (.iload_n 2, 1) := by decide +kernel
theorem dX3_lead_108 : decode cX3_lead 108 = .ok (.iaload, 1) := by decide +kernel
theorem dX3_lead_109 : decode cX3_lead 109 = .ok (.isub, 1) := by decide +kernel
theorem dX3_lead_110 : decode cX3_lead 110 = .ok (.invokestatic 98, 3) := by decide +kernel
theorem dX3_lead_113 : decode cX3_lead 113 = .ok (.iadd, 1) := by decide +kernel
theorem dX3_lead_114 : decode cX3_lead 114 = .ok (.iastore, 1) := by decide +kernel
theorem dX3_lead_115 : decode cX3_lead 115 = .ok (.return_, 1) := by decide +kernel
set_option maxRecDepth 20000 in
theorem ggX3_keyOf_X1_farFrom : GoodIn wsX3_keyOf wsX1_farFrom := goodIn_r _ [12, 13, 14, 38, 39, 40] (by decide +kernel) (by decide +kernel)
set_option maxRecDepth 20000 in
theorem gX3_keyOf_X1_farFrom_n103 : GoodIn wsX3_keyOf (wsX1_farFrom) := ggX3_keyOf_X1_farFrom
set_option maxRecDepth 20000 in
theorem ggX3_keyOf_X0_headingAt : GoodIn wsX3_keyOf wsX0_headingAt := goodIn_r _ [18, 19, 20, 21, 22, 16, 23, 24, 25, 26, 27, 28, 29, 30] (by decide +kernel) (by decide +kernel)
set_option maxRecDepth 20000 in
theorem gX3_keyOf_X0_headingAt_n107 : GoodIn wsX3_keyOf (wsX0_headingAt) := ggX3_keyOf_X0_headingAt
theorem dX3_keyOf_0 : decode cX3_keyOf 0 = .ok (.aload_n 1, 1) := by decide +kernel
theorem dX3_keyOf_1 : decode cX3_keyOf 1 = .ok (.getfield 44, 3) := by decide +kernel
theorem dX3_keyOf_4 : decode cX3_keyOf 4 = .ok (.istore 4, 2) := by decide +kernel
theorem dX3_keyOf_6 : decode cX3_keyOf 6 = .ok (.iload_n 3, 1) := by decide +kernel
theorem dX3_keyOf_7 : decode cX3_keyOf 7 = .ok (.ifCond .ne 22, 3) := by decide +kernel
theorem dX3_keyOf_10 : decode cX3_keyOf 10 = .ok (.aload_n 2, 1) := by decide +kernel
theorem dX3_keyOf_11 : decode cX3_keyOf 11 = .ok (.aload_n 0, 1) := by decide +kernel
theorem dX3_keyOf_12 : decode cX3_keyOf 12 = .ok (.getfield 25, 3) := by decide +kernel
theorem dX3_keyOf_15 : decode cX3_keyOf 15 = .ok (.iload 4, 2) := by decide +kernel
theorem dX3_keyOf_17 : decode cX3_keyOf 17 = .ok (.iaload, 1) := by decide +kernel
theorem dX3_keyOf_18 : decode cX3_keyOf 18 = .ok (.aload_n 0, 1) := by decide +kernel
theorem dX3_keyOf_19 : decode cX3_keyOf 19 = .ok (.getfield 28, 3) := by decide +kernel
theorem dX3_keyOf_22 : decode cX3_keyOf 22 = .ok (.iload 4, 2) := by decide +kernel
theorem dX3_keyOf_24 : decode cX3_keyOf 24 = .ok (.iaload, 1) := by decide +kernel
theorem dX3_keyOf_25 : decode cX3_keyOf 25 = .ok (.invokevirtual 103, 3) := by decide +kernel
theorem dX3_keyOf_28 : decode cX3_keyOf 28 = .ok (.lreturn, 1) := by decide +kernel
theorem dX3_keyOf_29 : decode cX3_keyOf 29 = .ok (.iload_n 3, 1) := by decide +kernel
theorem dX3_keyOf_30 : decode cX3_keyOf 30 = .ok (.iconst 1, 1) := by decide +kernel
theorem dX3_keyOf_31 : decode cX3_keyOf 31 = .ok (.if_icmp .ne 12, 3) := by decide +kernel
theorem dX3_keyOf_34 : decode cX3_keyOf 34 = .ok (.aload_n 0, 1) := by decide +kernel
theorem dX3_keyOf_35 : decode cX3_keyOf 35 = .ok (.getfield 34, 3) := by decide +kernel
theorem dX3_keyOf_38 : decode cX3_keyOf 38 = .ok (.iload 4, 2) := by decide +kernel
theorem dX3_keyOf_40 : decode cX3_keyOf 40 = .ok (.iaload, 1) := by decide +kernel
theorem dX3_keyOf_41 : decode cX3_keyOf 41 = .ok (.i2l, 1) := by decide +kernel
theorem dX3_keyOf_42 : decode cX3_keyOf 42 = .ok (.lreturn, 1) := by decide +kernel
theorem dX3_keyOf_43 : decode cX3_keyOf 43 = .ok (.aload_n 0, 1) := by decide +kernel
theorem dX3_keyOf_44 : decode cX3_keyOf 44 = .ok (.getfield 31, 3) := by decide +kernel
theorem dX3_keyOf_47 : decode cX3_keyOf 47 = .ok (.iload 4, 2) := by decide +kernel
theorem dX3_keyOf_49 : decode cX3_keyOf 49 = .ok (.iaload, 1) := by decide +kernel
theorem dX3_keyOf_50 : decode cX3_keyOf 50 = .ok (.aload_n 1, 1) := by decide +kernel
theorem dX3_keyOf_51 : decode cX3_keyOf 51 = .ok (.iload 4, 2) := by decide +kernel
theorem dX3_keyOf_53 : decode cX3_keyOf 53 = .ok (.iconst 1, 1) := by decide +kernel
theorem dX3_keyOf_54 : decode cX3_keyOf 54 = .ok (.isub, 1) := by decide +kernel
theorem dX3_keyOf_55 : decode cX3_keyOf 55 = .ok (.invokevirtual 107, 3) := by decide +kernel
theorem dX3_keyOf_58 : decode cX3_keyOf 58 = .ok (.isub, 1) := by decide +kernel
theorem dX3_keyOf_59 : decode cX3_keyOf 59 = .ok (.bipush 63, 2) := by decide +kernel
theorem dX3_keyOf_61 : decode cX3_keyOf 61 = .ok (.iand, 1) := by decide +kernel
theorem dX3_keyOf_62 : decode cX3_keyOf 62 = .ok (.istore 5, 2) := by decide +kernel
theorem dX3_keyOf_64 : decode cX3_keyOf 64 = .ok (.iload 5, 2) := by decide +kernel
theorem dX3_keyOf_66 : decode cX3_keyOf 66 = .ok (.bipush 64, 2) := by decide +kernel
theorem dX3_keyOf_68 : decode cX3_keyOf 68 = .ok (.iload 5, 2) := by decide +kernel
theorem dX3_keyOf_70 : decode cX3_keyOf 70 = .ok (.isub, 1) := by decide +kernel
theorem dX3_keyOf_71 : decode cX3_keyOf 71 = .ok (.invokestatic 110, 3) := by decide +kernel
theorem dX3_keyOf_74 : decode cX3_keyOf 74 = .ok (.i2l, 1) := by decide +kernel
theorem dX3_keyOf_75 : decode cX3_keyOf 75 = .ok (.lreturn, 1) := by decide +kernel
theorem dX4_init_0 : decode cX4_init 0 = .ok (.aload_n 0, 1) := by decide +kernel
theorem dX4_init_1 : decode cX4_init 1 = .ok (.invokespecial 3, 3) := by decide +kernel
theorem dX4_init_4 : decode cX4_init 4 = .ok (.return_, 1) := by decide +kernel
theorem dX4_start_0 : decode cX4_start 0 = .ok (.aload_n 0, 1) := by decide +kernel
theorem dX4_start_1 : decode cX4_start 1 = .ok (.iconst 0, 1) := by decide +kernel
theorem dX4_start_2 : decode cX4_start 2 = .ok (.putfield 9, 3) := by decide +kernel
theorem dX4_start_5 : decode cX4_start 5 = .ok (.aload_n 0, 1) := by decide +kernel
theorem dX4_start_6 : decode cX4_start 6 = .ok (.iconst 0, 1) := by decide +kernel
theorem dX4_start_7 : decode cX4_start 7 = .ok (.putfield 15, 3) := by decide +kernel
theorem dX4_start_10 : decode cX4_start 10 = .ok (.aload_n 0, 1) := by decide +kernel
theorem dX4_start_11 : decode cX4_start 11 = .ok (.iconst 0, 1) := by decide +kernel
theorem dX4_start_12 : decode cX4_start 12 = .ok (.putfield 18, 3) := by decide +kernel
theorem dX4_start_15 : decode cX4_start 15 = .ok (.return_, 1) := by decide +kernel
set_option maxRecDepth 20000 in
theorem ggX4_go_X5_cosine : GoodIn wsX4_go wsX5_cosine := goodIn_r _ [5, 6, 7, 4, 8, 9] (by decide +kernel) (by decide +kernel)
set_option maxRecDepth 20000 in
theorem gX4_go_X5_cosine_n21 : GoodIn wsX4_go (wsX5_cosine) := ggX4_go_X5_cosine
set_option maxRecDepth 20000 in
theorem ggX4_go_X5_sine : GoodIn wsX4_go wsX5_sine := goodIn_r _ [8, 9] (by decide +kernel) (by decide +kernel)
set_option maxRecDepth 20000 in
theorem gX4_go_X5_sine_n25 : GoodIn wsX4_go (wsX5_sine) := ggX4_go_X5_sine
theorem dX4_go_0 : decode cX4_go 0 = .ok (.aload_n 0, 1) := by decide +kernel
theorem dX4_go_1 : decode cX4_go 1 = .ok (.dup, 1) := by decide +kernel
theorem dX4_go_2 : decode cX4_go 2 = .ok (.getfield 9, 3) := by decide +kernel
theorem dX4_go_5 : decode cX4_go 5 = .ok (.iload_n 1, 1) := by decide +kernel
theorem dX4_go_6 : decode cX4_go 6 = .ok (.iload_n 2, 1) := by decide +kernel
theorem dX4_go_7 : decode cX4_go 7 = .ok (.invokestatic 21, 3) := by decide +kernel
theorem dX4_go_10 : decode cX4_go 10 = .ok (.imul, 1) := by decide +kernel
theorem dX4_go_11 : decode cX4_go 11 = .ok (.iadd, 1) := by decide +kernel
theorem dX4_go_12 : decode cX4_go 12 = .ok (.putfield 9, 3) := by decide +kernel
theorem dX4_go_15 : decode cX4_go 15 = .ok (.aload_n 0, 1) := by decide +kernel
theorem dX4_go_16 : decode cX4_go 16 = .ok (.dup, 1) := by decide +kernel
theorem dX4_go_17 : decode cX4_go 17 = .ok (.getfield 15, 3) := by decide +kernel
theorem dX4_go_20 : decode cX4_go 20 = .ok (.iload_n 1, 1) := by decide +kernel
theorem dX4_go_21 : decode cX4_go 21 = .ok (.iload_n 2, 1) := by decide +kernel
theorem dX4_go_22 : decode cX4_go 22 = .ok (.invokestatic 25, 3) := by decide +kernel
theorem dX4_go_25 : decode cX4_go 25 = .ok (.imul, 1) := by decide +kernel
theorem dX4_go_26 : decode cX4_go 26 = .ok (.iadd, 1) := by decide +kernel
theorem dX4_go_27 : decode cX4_go 27 = .ok (.putfield 15, 3) := by decide +kernel
theorem dX4_go_30 : decode cX4_go 30 = .ok (.return_, 1) := by decide +kernel
set_option maxRecDepth 20000 in
theorem ggX4_follow_X4_followWith : GoodIn wsX4_follow wsX4_followWith := goodIn_r _ [5, 6, 7, 8, 9, 4, 10, 11, 12, 13, 14, 15, 16, 17, 18, 19, 20, 21, 22, 23, 24, 25, 26, 27, 28, 29, 30, 31, 32, 33, 34, 35, 36, 37, 38, 39, 40, 41] (by decide +kernel) (by decide +kernel)
set_option maxRecDepth 20000 in
theorem gX4_follow_X4_followWith : GoodIn wsX4_follow (wsV RX4 28 RX4 yX4_followWith wsX4_followWith) := goodIn_app (goodIn_of _ (by decide +kernel)) ggX4_follow_X4_followWith
theorem dX4_follow_0 : decode cX4_follow 0 = .ok (.aload_n 0, 1) := by decide +kernel
theorem dX4_follow_1 : decode cX4_follow 1 = .ok (.aload_n 1, 1) := by decide +kernel
theorem dX4_follow_2 : decode cX4_follow 2 = .ok (.iconst (-1), 1) := by decide +kernel
theorem dX4_follow_3 : decode cX4_follow 3 = .ok (.iconst 0, 1) := by decide +kernel
theorem dX4_follow_4 : decode cX4_follow 4 = .ok (.invokevirtual 28, 3) := by decide +kernel
theorem dX4_follow_7 : decode cX4_follow 7 = .ok (.return_, 1) := by decide +kernel
end
section
set_option maxRecDepth 20000 in
theorem ggX4_followWith_X4_start : GoodIn wsX4_followWith wsX4_start := goodIn_r _ [6, 7, 8, 1, 35, 36, 37] (by decide +kernel) (by decide +kernel)
set_option maxRecDepth 20000 in
theorem gX4_followWith_X4_start : GoodIn wsX4_followWith (wsV RX4 32 RX4 yX4_start wsX4_start) := goodIn_app (goodIn_of _ (by decide +kernel)) ggX4_followWith_X4_start
set_option maxRecDepth 20000 in
theorem ggX4_followWith_X0_turnOf : GoodIn wsX4_followWith wsX0_turnOf := goodIn_r _ [12, 13, 29, 30, 31, 32, 33, 34] (by decide +kernel) (by decide +kernel)
set_option maxRecDepth 20000 in
theorem gX4_followWith_X0_turnOf_n44 : GoodIn wsX4_followWith (wsX0_turnOf) := ggX4_followWith_X0_turnOf
set_option maxRecDepth 20000 in
theorem ggX4_followWith_X0_distanceOf : GoodIn wsX4_followWith wsX0_distanceOf := goodIn_r _ [16, 13, 17, 29, 30, 31, 32, 33, 34] (by decide +kernel) (by decide +kernel)
set_option maxRecDepth 20000 in
theorem gX4_followWith_X0_distanceOf_n48 : GoodIn wsX4_followWith (wsX0_distanceOf) := ggX4_followWith_X0_distanceOf
set_option maxRecDepth 20000 in
theorem ggX4_followWith_X4_go : GoodIn wsX4_followWith wsX4_go := goodIn_r _ [21, 7, 8, 22, 23, 24, 25, 26, 27, 28, 35, 36, 37] (by decide +kernel) (by decide +kernel)
set_option maxRecDepth 20000 in
theorem gX4_followWith_X4_go : GoodIn wsX4_followWith (wsV RX4 51 RX4 yX4_go wsX4_go) := goodIn_app (goodIn_of _ (by decide +kernel)) ggX4_followWith_X4_go
theorem dX4_followWith_0 : decode cX4_followWith 0 = .ok (.aload_n 0, 1) := by decide +kernel
theorem dX4_followWith_1 : decode cX4_followWith 1 = .ok (.invokevirtual 32, 3) := by decide +kernel
theorem dX4_followWith_4 : decode cX4_followWith 4 = .ok (.iconst 0, 1) := by decide +kernel
theorem dX4_followWith_5 : decode cX4_followWith 5 = .ok (.istore 4, 2) := by decide +kernel
theorem dX4_followWith_7 : decode cX4_followWith 7 = .ok (.iload 4, 2) := by decide +kernel
theorem dX4_followWith_9 : decode cX4_followWith 9 = .ok (.aload_n 1, 1) := by decide +kernel
theorem dX4_followWith_10 : decode cX4_followWith 10 = .ok (.getfield 35, 3) := by decide +kernel
theorem dX4_followWith_13 : decode cX4_followWith 13 = .ok (.if_icmp .ge 64, 3) := by decide +kernel
theorem dX4_followWith_16 : decode cX4_followWith 16 = .ok (.iload 4, 2) := by decide +kernel
theorem dX4_followWith_18 : decode cX4_followWith 18 = .ok (.iload_n 2, 1) := by decide +kernel
theorem dX4_followWith_19 : decode cX4_followWith 19 = .ok (.if_icmp .ne 7, 3) := by decide +kernel
theorem dX4_followWith_22 : decode cX4_followWith 22 = .ok (.iload_n 3, 1) := by decide +kernel
theorem dX4_followWith_23 : decode cX4_followWith 23 = .ok (.goto 10, 3) := by decide +kernel
theorem dX4_followWith_26 : decode cX4_followWith 26 = .ok (.aload_n 1, 1) := by decide +kernel
theorem dX4_followWith_27 : decode cX4_followWith 27 = .ok (.getfield 40, 3) := by decide +kernel
theorem dX4_followWith_30 : decode cX4_followWith 30 = .ok (.iload 4, 2) := by decide +kernel
theorem dX4_followWith_32 : decode cX4_followWith 32 = .ok (.iaload, 1) := by decide +kernel
theorem dX4_followWith_33 : decode cX4_followWith 33 = .ok (.istore 5, 2) := by decide +kernel
theorem dX4_followWith_35 : decode cX4_followWith 35 = .ok (.aload_n 0, 1) := by decide +kernel
theorem dX4_followWith_36 : decode cX4_followWith 36 = .ok (.aload_n 0, 1) := by decide +kernel
theorem dX4_followWith_37 : decode cX4_followWith 37 = .ok (.getfield 18, 3) := by decide +kernel
theorem dX4_followWith_40 : decode cX4_followWith 40 = .ok (.aload_n 1, 1) := by decide +kernel
theorem dX4_followWith_41 : decode cX4_followWith 41 = .ok (.iload 4, 2) := by decide +kernel
theorem dX4_followWith_43 : decode cX4_followWith 43 = .ok (.iload 5, 2) := by decide +kernel
theorem dX4_followWith_45 : decode cX4_followWith 45 = .ok (.invokevirtual 44, 3) := by decide +kernel
theorem dX4_followWith_48 : decode cX4_followWith 48 = .ok (.iadd, 1) := by decide +kernel
theorem dX4_followWith_49 : decode cX4_followWith 49 = .ok (.bipush 63, 2) := by decide +kernel
theorem dX4_followWith_51 : decode cX4_followWith 51 = .ok (.iand, 1) := by decide +kernel
theorem dX4_followWith_52 : decode cX4_followWith 52 = .ok (.putfield 18, 3) := by decide +kernel
theorem dX4_followWith_55 : decode cX4_followWith 55 = .ok (.aload_n 0, 1) := by decide +kernel
theorem dX4_followWith_56 : decode cX4_followWith 56 = .ok (.aload_n 1, 1) := by decide +kernel
theorem dX4_followWith_57 : decode cX4_followWith 57 = .ok (.iload 4, 2) := by decide +kernel
theorem dX4_followWith_59 : decode cX4_followWith 59 = .ok (.iload 5, 2) := by decide +kernel
theorem dX4_followWith_61 : decode cX4_followWith 61 = .ok (.invokevirtual 48, 3) := by decide +kernel
theorem dX4_followWith_64 : decode cX4_followWith 64 = .ok (.aload_n 0, 1) := by decide +kernel
theorem dX4_followWith_65 : decode cX4_followWith 65 = .ok (.getfield 18, 3) := by decide +kernel
theorem dX4_followWith_68 : decode cX4_followWith 68 = .ok (.invokevirtual 51, 3) := by decide +kernel
theorem dX4_followWith_71 : decode cX4_followWith 71 = .ok (.iinc 4 1, 3) := by decide +kernel
theorem dX4_followWith_74 : decode cX4_followWith 74 = .ok (.goto (-67), 3) := by decide +kernel
theorem dX4_followWith_77 : decode cX4_followWith 77 = .ok (.return_, 1) := by decide +kernel
set_option maxRecDepth 20000 in
theorem ggX4_followBack_X4_start : GoodIn wsX4_followBack wsX4_start := goodIn_r _ [6, 7, 8, 1, 40, 41, 42] (by decide +kernel) (by decide +kernel)
set_option maxRecDepth 20000 in
theorem gX4_followBack_X4_start : GoodIn wsX4_followBack (wsV RX4 32 RX4 yX4_start wsX4_start) := goodIn_app (goodIn_of _ (by decide +kernel)) ggX4_followBack_X4_start
set_option maxRecDepth 20000 in
theorem ggX4_followBack_X0_distanceOf : GoodIn wsX4_followBack wsX0_distanceOf := goodIn_r _ [12, 13, 14, 34, 35, 36, 37, 38, 39] (by decide +kernel) (by decide +kernel)
set_option maxRecDepth 20000 in
theorem gX4_followBack_X0_distanceOf_n48 : GoodIn wsX4_followBack (wsX0_distanceOf) := ggX4_followBack_X0_distanceOf
set_option maxRecDepth 20000 in
theorem ggX4_followBack_X0_headingAt : GoodIn wsX4_followBack wsX0_headingAt := goodIn_r _ [17, 18, 19, 20, 21, 10, 22, 13, 34, 35, 36, 37, 38, 39] (by decide +kernel) (by decide +kernel)
set_option maxRecDepth 20000 in
theorem gX4_followBack_X0_headingAt_n55 : GoodIn wsX4_followBack (wsX0_headingAt) := ggX4_followBack_X0_headingAt
set_option maxRecDepth 20000 in
theorem ggX4_followBack_X4_go : GoodIn wsX4_followBack wsX4_go := goodIn_r _ [26, 7, 8, 27, 28, 29, 30, 31, 32, 33, 40, 41, 42] (by decide +kernel) (by decide +kernel)
set_option maxRecDepth 20000 in
theorem gX4_followBack_X4_go : GoodIn wsX4_followBack (wsV RX4 51 RX4 yX4_go wsX4_go) := goodIn_app (goodIn_of _ (by decide +kernel)) ggX4_followBack_X4_go
theorem dX4_followBack_0 : decode cX4_followBack 0 = .ok (.aload_n 0, 1) := by decide +kernel
theorem dX4_followBack_1 : decode cX4_followBack 1 = .ok (.invokevirtual 32, 3) := by decide +kernel
theorem dX4_followBack_4 : decode cX4_followBack 4 = .ok (.aload_n 1, 1) := by decide +kernel
theorem dX4_followBack_5 : decode cX4_followBack 5 = .ok (.getfield 35, 3) := by decide +kernel
theorem dX4_followBack_8 : decode cX4_followBack 8 = .ok (.iconst 1, 1) := by decide +kernel
theorem dX4_followBack_9 : decode cX4_followBack 9 = .ok (.isub, 1) := by decide +kernel
theorem dX4_followBack_10 : decode cX4_followBack 10 = .ok (.istore_n 2, 1) := by decide +kernel
theorem dX4_followBack_11 : decode cX4_followBack 11 = .ok (.iload_n 2, 1) := by decide +kernel
theorem dX4_followBack_12 : decode cX4_followBack 12 = .ok (.ifCond .lt 29, 3) := by decide +kernel
theorem dX4_followBack_15 : decode cX4_followBack 15 = .ok (.aload_n 0, 1) := by decide +kernel
theorem dX4_followBack_16 : decode cX4_followBack 16 = .ok (.aload_n 1, 1) := by decide +kernel
theorem dX4_followBack_17 : decode cX4_followBack 17 = .ok (.iload_n 2, 1) := by decide +kernel
theorem dX4_followBack_18 : decode cX4_followBack 18 = .ok (.aload_n 1, 1) := by decide +kernel
theorem dX4_followBack_19 : decode cX4_followBack 19 = .ok (.getfield 40, 3) := by decide +kernel
theorem dX4_followBack_22 : decode cX4_followBack 22 = .ok (.iload_n 2, 1) := by decide +kernel
theorem dX4_followBack_23 : decode cX4_followBack 23 = .ok (.iaload, 1) := by decide +kernel
theorem dX4_followBack_24 : decode cX4_followBack 24 = .ok (.invokevirtual 48, 3) := by decide +kernel
theorem dX4_followBack_27 : decode cX4_followBack 27 = .ok (.aload_n 1, 1) := by decide +kernel
theorem dX4_followBack_28 : decode cX4_followBack 28 = .ok (.iload_n 2, 1) := by decide +kernel
theorem dX4_followBack_29 : decode cX4_followBack 29 = .ok (.invokevirtual 55, 3) := by decide +kernel
theorem dX4_followBack_32 : decode cX4_followBack 32 = .ok (.invokevirtual 51, 3) := by decide +kernel
theorem dX4_followBack_35 : decode cX4_followBack 35 = .ok (.iinc 2 (-1), 3) := by decide +kernel
theorem dX4_followBack_38 : decode cX4_followBack 38 = .ok (.goto (-27), 3) := by decide +kernel
theorem dX4_followBack_41 : decode cX4_followBack 41 = .ok (.aload_n 0, 1) := by decide +kernel
theorem dX4_followBack_42 : decode cX4_followBack 42 = .ok (.aload_n 1, 1) := by decide +kernel
theorem dX4_followBack_43 : decode cX4_followBack 43 = .ok (.aload_n 1, 1) := by decide +kernel
theorem dX4_followBack_44 : decode cX4_followBack 44 = .ok (.getfield 35, 3) := by decide +kernel
theorem dX4_followBack_47 : decode cX4_followBack 47 = .ok (.iconst 1, 1) := by decide +kernel
theorem dX4_followBack_48 : decode cX4_followBack 48 = .ok (.isub, 1) := by decide +kernel
theorem dX4_followBack_49 : decode cX4_followBack 49 = .ok (.invokevirtual 55, 3) := by decide +kernel
theorem dX4_followBack_52 : decode cX4_followBack 52 = .ok (.putfield 18, 3) := by decide +kernel
theorem dX4_followBack_55 : decode cX4_followBack 55 = .ok (.return_, 1) := by decide +kernel
theorem dX4_told_0 : decode cX4_told 0 = .ok (.iload_n 1, 1) := by decide +kernel
theorem dX4_told_1 : decode cX4_told 1 = .ok (.ifCond .ne 8, 3) := by decide +kernel
theorem dX4_told_4 : decode cX4_told 4 = .ok (.aload_n 0, 1) := by decide +kernel
theorem dX4_told_5 : decode cX4_told 5 = .ok (.getfield 9, 3) := by decide +kernel
theorem dX4_told_8 : decode cX4_told 8 = .ok (.ireturn, 1) := by decide +kernel
theorem dX4_told_9 : decode cX4_told 9 = .ok (.iload_n 1, 1) := by decide +kernel
theorem dX4_told_10 : decode cX4_told 10 = .ok (.iconst 1, 1) := by decide +kernel
theorem dX4_told_11 : decode cX4_told 11 = .ok (.if_icmp .ne 10, 3) := by decide +kernel
theorem dX4_told_14 : decode cX4_told 14 = .ok (.aload_n 0, 1) := by decide +kernel
theorem dX4_told_15 : decode cX4_told 15 = .ok (.getfield 15, 3) := by decide +kernel
theorem dX4_told_18 : decode cX4_told 18 = .ok (.goto 7, 3) := by decide +kernel
theorem dX4_told_21 : decode cX4_told 21 = .ok (.aload_n 0, 1) := by decide +kernel
theorem dX4_told_22 : decode cX4_told 22 = .ok (.getfield 18, 3) := by decide +kernel
theorem dX4_told_25 : decode cX4_told 25 = .ok (.ireturn, 1) := by decide +kernel
set_option maxRecDepth 20000 in
theorem ggX5_init_X0_init : GoodIn wsX5_init wsX0_init := goodIn_r _ [25, 26, 2, 3, 21, 27, 28, 29, 30, 31, 58, 59, 60, 61, 62, 63] (by decide +kernel) (by decide +kernel)
set_option maxRecDepth 20000 in
theorem gX5_init_X0_init_n9 : GoodIn wsX5_init (wsX0_init) := ggX5_init_X0_init
set_option maxRecDepth 20000 in
theorem ggX5_init_X1_init : GoodIn wsX5_init wsX1_init := goodIn_r _ [33, 34, 2, 3, 35, 71, 72, 73] (by decide +kernel) (by decide +kernel)
set_option maxRecDepth 20000 in
theorem gX5_init_X1_init_n18 : GoodIn wsX5_init (wsX1_init) := ggX5_init_X1_init
set_option maxRecDepth 20000 in
theorem ggX5_init_X4_init : GoodIn wsX5_init wsX4_init := goodIn_r _ [37, 38, 2, 3] (by decide +kernel) (by decide +kernel)
set_option maxRecDepth 20000 in
theorem gX5_init_X4_init_n25 : GoodIn wsX5_init (wsX4_init) := ggX5_init_X4_init
set_option maxRecDepth 20000 in
theorem ggX5_init_X3_init : GoodIn wsX5_init wsX3_init := goodIn_r _ [40, 41, 2, 3, 42, 43, 44, 45, 21, 46, 47, 48, 49, 50, 51, 52, 53, 54, 55, 56, 57, 84, 85, 86, 77, 78, 79, 80, 81, 82, 83] (by decide +kernel) (by decide +kernel)
set_option maxRecDepth 20000 in
theorem gX5_init_X3_init_n35 : GoodIn wsX5_init (wsX3_init) := ggX5_init_X3_init
theorem dX5_init_0 : decode cX5_init 0 = .ok (.aload_n 0, 1) := by decide +kernel
theorem dX5_init_1 : decode cX5_init 1 = .ok (.invokespecial 1, 3) := by decide +kernel
theorem dX5_init_4 : decode cX5_init 4 = .ok (.aload_n 0, 1) := by decide +kernel
theorem dX5_init_5 : decode cX5_init 5 = .ok (.new 7, 3) := by decide +kernel
theorem dX5_init_8 : decode cX5_init 8 = .ok (.dup, 1) := by decide +kernel
theorem dX5_init_9 : decode cX5_init 9 = .ok (.invokespecial 9, 3) := by decide +kernel
theorem dX5_init_12 : decode cX5_init 12 = .ok (.putfield 10, 3) := by decide +kernel
theorem dX5_init_15 : decode cX5_init 15 = .ok (.aload_n 0, 1) := by decide +kernel
theorem dX5_init_16 : decode cX5_init 16 = .ok (.new 16, 3) := by decide +kernel
theorem dX5_init_19 : decode cX5_init 19 = .ok (.dup, 1) := by decide +kernel
theorem dX5_init_20 : decode cX5_init 20 = .ok (.invokespecial 18, 3) := by decide +kernel
theorem dX5_init_23 : decode cX5_init 23 = .ok (.putfield 19, 3) := by decide +kernel
theorem dX5_init_26 : decode cX5_init 26 = .ok (.aload_n 0, 1) := by decide +kernel
theorem dX5_init_27 : decode cX5_init 27 = .ok (.new 23, 3) := by decide +kernel
theorem dX5_init_30 : decode cX5_init 30 = .ok (.dup, 1) := by decide +kernel
theorem dX5_init_31 : decode cX5_init 31 = .ok (.invokespecial 25, 3) := by decide +kernel
theorem dX5_init_34 : decode cX5_init 34 = .ok (.putfield 26, 3) := by decide +kernel
theorem dX5_init_37 : decode cX5_init 37 = .ok (.aload_n 0, 1) := by decide +kernel
theorem dX5_init_38 : decode cX5_init 38 = .ok (.new 23, 3) := by decide +kernel
theorem dX5_init_41 : decode cX5_init 41 = .ok (.dup, 1) := by decide +kernel
theorem dX5_init_42 : decode cX5_init 42 = .ok (.invokespecial 25, 3) := by decide +kernel
theorem dX5_init_45 : decode cX5_init 45 = .ok (.putfield 30, 3) := by decide +kernel
theorem dX5_init_48 : decode cX5_init 48 = .ok (.aload_n 0, 1) := by decide +kernel
theorem dX5_init_49 : decode cX5_init 49 = .ok (.new 33, 3) := by decide +kernel
theorem dX5_init_52 : decode cX5_init 52 = .ok (.dup, 1) := by decide +kernel
theorem dX5_init_53 : decode cX5_init 53 = .ok (.invokespecial 35, 3) := by decide +kernel
theorem dX5_init_56 : decode cX5_init 56 = .ok (.putfield 36, 3) := by decide +kernel
theorem dX5_init_59 : decode cX5_init 59 = .ok (.aload_n 0, 1) := by decide +kernel
theorem dX5_init_60 : decode cX5_init 60 = .ok (.iconst 5, 1) := by decide +kernel
theorem dX5_init_61 : decode cX5_init 61 = .ok (.newarray .int, 2) := by decide +kernel
theorem dX5_init_63 : decode cX5_init 63 = .ok (.putfield 40, 3) := by decide +kernel
theorem dX5_init_66 : decode cX5_init 66 = .ok (.aload_n 0, 1) := by decide +kernel
theorem dX5_init_67 : decode cX5_init 67 = .ok (.iconst 5, 1) := by decide +kernel
theorem dX5_init_68 : decode cX5_init 68 = .ok (.newarray .int, 2) := by decide +kernel
theorem dX5_init_70 : decode cX5_init 70 = .ok (.putfield 44, 3) := by decide +kernel
theorem dX5_init_73 : decode cX5_init 73 = .ok (.return_, 1) := by decide +kernel
set_option maxRecDepth 20000 in
theorem ggX5_joint_X0_isFull : GoodIn wsX5_joint wsX0_isFull := goodIn_r _ [9, 10, 37, 38, 39, 40, 41, 42] (by decide +kernel) (by decide +kernel)
set_option maxRecDepth 20000 in
theorem gX5_joint_X0_isFull_n58 : GoodIn wsX5_joint (wsX0_isFull) := ggX5_joint_X0_isFull
set_option maxRecDepth 20000 in
theorem ggX5_joint_X0_add : GoodIn wsX5_joint wsX0_add := goodIn_r _ [13, 10, 14, 15, 16, 17, 18, 19, 20, 21, 7, 22, 23, 24, 25, 26, 27, 28, 29, 37, 38, 39, 40, 41, 42] (by decide +kernel) (by decide +kernel)
set_option maxRecDepth 20000 in
theorem gX5_joint_X0_add_n67 : GoodIn wsX5_joint (wsX0_add) := ggX5_joint_X0_add
theorem dX5_joint_0 : decode cX5_joint 0 = .ok (.iload_n 1, 1) := by decide +kernel
theorem dX5_joint_1 : decode cX5_joint 1 = .ok (.ifCond .eq 18, 3) := by decide +kernel
theorem dX5_joint_4 : decode cX5_joint 4 = .ok (.iload_n 1, 1) := by decide +kernel
theorem dX5_joint_5 : decode cX5_joint 5 = .ok (.iconst 1, 1) := by decide +kernel
theorem dX5_joint_6 : decode cX5_joint 6 = .ok (.if_icmp .eq 13, 3) := by decide +kernel
theorem dX5_joint_9 : decode cX5_joint 9 = .ok (.new 47, 3) := by decide +kernel
theorem dX5_joint_12 : decode cX5_joint 12 = .ok (.dup, 1) := by decide +kernel
theorem dX5_joint_13 : decode cX5_joint 13 = .ok (.ldc 49, 2) := by decide +kernel
theorem dX5_joint_15 : decode cX5_joint 15 = .ok (.invokespecial 51, 3) := by decide +kernel
theorem dX5_joint_18 : decode cX5_joint 18 = .ok (.athrow, 1) := by decide +kernel
theorem dX5_joint_19 : decode cX5_joint 19 = .ok (.iload_n 2, 1) := by decide +kernel
theorem dX5_joint_20 : decode cX5_joint 20 = .ok (.ifCond .lt 10, 3) := by decide +kernel
theorem dX5_joint_23 : decode cX5_joint 23 = .ok (.iload_n 2, 1) := by decide +kernel
theorem dX5_joint_24 : decode cX5_joint 24 = .ok (.sipush 200, 3) := by decide +kernel
theorem dX5_joint_27 : decode cX5_joint 27 = .ok (.if_icmp .le 13, 3) := by decide +kernel
theorem dX5_joint_30 : decode cX5_joint 30 = .ok (.new 47, 3) := by decide +kernel
theorem dX5_joint_33 : decode cX5_joint 33 = .ok (.dup, 1) := by decide +kernel
theorem dX5_joint_34 : decode cX5_joint 34 = .ok (.ldc 54, 2) := by decide +kernel
theorem dX5_joint_36 : decode cX5_joint 36 = .ok (.invokespecial 51, 3) := by decide +kernel
theorem dX5_joint_39 : decode cX5_joint 39 = .ok (.athrow, 1) := by decide +kernel
theorem dX5_joint_40 : decode cX5_joint 40 = .ok (.iload_n 1, 1) := by decide +kernel
theorem dX5_joint_41 : decode cX5_joint 41 = .ok (.ifCond .ne 8, 3) := by decide +kernel
theorem dX5_joint_44 : decode cX5_joint 44 = .ok (.bipush (-32), 2) := by decide +kernel
theorem dX5_joint_46 : decode cX5_joint 46 = .ok (.goto 4, 3) := by decide +kernel
theorem dX5_joint_49 : decode cX5_joint 49 = .ok (.iconst 0, 1) := by decide +kernel
theorem dX5_joint_50 : decode cX5_joint 50 = .ok (.istore 5, 2) := by decide +kernel
theorem dX5_joint_52 : decode cX5_joint 52 = .ok (.iload_n 1, 1) := by decide +kernel
theorem dX5_joint_53 : decode cX5_joint 53 = .ok (.ifCond .ne 8, 3) := by decide +kernel
theorem dX5_joint_56 : decode cX5_joint 56 = .ok (.bipush 32, 2) := by decide +kernel
theorem dX5_joint_58 : decode cX5_joint 58 = .ok (.goto 5, 3) := by decide +kernel
theorem dX5_joint_61 : decode cX5_joint 61 = .ok (.bipush 100, 2) := by decide +kernel
theorem dX5_joint_63 : decode cX5_joint 63 = .ok (.istore 6, 2) := by decide +kernel
theorem dX5_joint_65 : decode cX5_joint 65 = .ok (.iload_n 3, 1) := by decide +kernel
theorem dX5_joint_66 : decode cX5_joint 66 = .ok (.iload 5, 2) := by decide +kernel
theorem dX5_joint_68 : decode cX5_joint 68 = .ok (.if_icmp .lt 16, 3) := by decide +kernel
theorem dX5_joint_71 : decode cX5_joint 71 = .ok (.iload 4, 2) := by decide +kernel
theorem dX5_joint_73 : decode cX5_joint 73 = .ok (.iload 6, 2) := by decide +kernel
theorem dX5_joint_75 : decode cX5_joint 75 = .ok (.if_icmp .gt 9, 3) := by decide +kernel
theorem dX5_joint_78 : decode cX5_joint 78 = .ok (.iload_n 3, 1) := by decide +kernel
theorem dX5_joint_79 : decode cX5_joint 79 = .ok (.iload 4, 2) := by decide +kernel
theorem dX5_joint_81 : decode cX5_joint 81 = .ok (.if_icmp .le 13, 3) := by decide +kernel
theorem dX5_joint_84 : decode cX5_joint 84 = .ok (.new 47, 3) := by decide +kernel
theorem dX5_joint_87 : decode cX5_joint 87 = .ok (.dup, 1) := by decide +kernel
theorem dX5_joint_88 : decode cX5_joint 88 = .ok (.ldc 56, 2) := by decide +kernel
theorem dX5_joint_90 : decode cX5_joint 90 = .ok (.invokespecial 51, 3) := by decide +kernel
theorem dX5_joint_93 : decode cX5_joint 93 = .ok (.athrow, 1) := by decide +kernel
theorem dX5_joint_94 : decode cX5_joint 94 = .ok (.aload_n 0, 1) := by decide +kernel
theorem dX5_joint_95 : decode cX5_joint 95 = .ok (.getfield 10, 3) := by decide +kernel
theorem dX5_joint_98 : decode cX5_joint 98 = .ok (.invokevirtual 58, 3) := by decide +kernel
theorem dX5_joint_101 : decode cX5_joint 101 = .ok (.ifCond .eq 13, 3) := by decide +kernel
theorem dX5_joint_104 : decode cX5_joint 104 = .ok (.new 62, 3) := by decide +kernel
theorem dX5_joint_107 : decode cX5_joint 107 = .ok (.dup, 1) := by decide +kernel
theorem dX5_joint_108 : decode cX5_joint 108 = .ok (.ldc 64, 2) := by decide +kernel
theorem dX5_joint_110 : decode cX5_joint 110 = .ok (.invokespecial 66, 3) := by decide +kernel
theorem dX5_joint_113 : decode cX5_joint 113 = .ok (.athrow, 1) := by decide +kernel
theorem dX5_joint_114 : decode cX5_joint 114 = .ok (.aload_n 0, 1) := by decide +kernel
theorem dX5_joint_115 : decode cX5_joint 115 = .ok (.getfield 10, 3) := by decide +kernel
theorem dX5_joint_118 : decode cX5_joint 118 = .ok (.iload_n 1, 1) := by decide +kernel
theorem dX5_joint_119 : decode cX5_joint 119 = .ok (.iload_n 2, 1) := by decide +kernel
theorem dX5_joint_120 : decode cX5_joint 120 = .ok (.iload_n 3, 1) := by decide +kernel
theorem dX5_joint_121 : decode cX5_joint 121 = .ok (.iload 4, 2) := by decide +kernel
theorem dX5_joint_123 : decode cX5_joint 123 = .ok (.invokevirtual 67, 3) := by decide +kernel
theorem dX5_joint_126 : decode cX5_joint 126 = .ok (.ireturn, 1) := by decide +kernel
set_option maxRecDepth 20000 in
theorem ggX5_set_X5_checkJoint : GoodIn wsX5_set wsX5_checkJoint := goodIn_ca (goodIn_r _ [8, 9, 10, 3, 11, 12, 13, 14, 15, 16, 17, 18, 19, 20, 21, 22, 23] (by decide +kernel) (by decide +kernel)) (goodIn_sub (fun _ h => List.mem_cons_of_mem _ (List.mem_append_right _ h)) (by decide +kernel))
set_option maxRecDepth 20000 in
theorem gX5_set_X5_checkJoint : GoodIn wsX5_set (wsV RX5 71 RX5 yX5_checkJoint wsX5_checkJoint) := goodIn_app (goodIn_of _ (by decide +kernel)) ggX5_set_X5_checkJoint
theorem dX5_set_0 : decode cX5_set 0 = .ok (.aload_n 0, 1) := by decide +kernel
theorem dX5_set_1 : decode cX5_set 1 = .ok (.iload_n 1, 1) := by decide +kernel
theorem dX5_set_2 : decode cX5_set 2 = .ok (.invokevirtual 71, 3) := by decide +kernel
theorem dX5_set_5 : decode cX5_set 5 = .ok (.iload_n 2, 1) := by decide +kernel
theorem dX5_set_6 : decode cX5_set 6 = .ok (.aload_n 0, 1) := by decide +kernel
theorem dX5_set_7 : decode cX5_set 7 = .ok (.getfield 10, 3) := by decide +kernel
theorem dX5_set_10 : decode cX5_set 10 = .ok (.getfield 75, 3) := by decide +kernel
theorem dX5_set_13 : decode cX5_set 13 = .ok (.iload_n 1, 1) := by decide +kernel
theorem dX5_set_14 : decode cX5_set 14 = .ok (.iaload, 1) := by decide +kernel
theorem dX5_set_15 : decode cX5_set 15 = .ok (.if_icmp .lt 16, 3) := by decide +kernel
theorem dX5_set_18 : decode cX5_set 18 = .ok (.iload_n 2, 1) := by decide +kernel
theorem dX5_set_19 : decode cX5_set 19 = .ok (.aload_n 0, 1) := by decide +kernel
theorem dX5_set_20 : decode cX5_set 20 = .ok (.getfield 10, 3) := by decide +kernel
theorem dX5_set_23 : decode cX5_set 23 = .ok (.getfield 78, 3) := by decide +kernel
theorem dX5_set_26 : decode cX5_set 26 = .ok (.iload_n 1, 1) := by decide +kernel
theorem dX5_set_27 : decode cX5_set 27 = .ok (.iaload, 1) := by decide +kernel
theorem dX5_set_28 : decode cX5_set 28 = .ok (.if_icmp .le 13, 3) := by decide +kernel
theorem dX5_set_31 : decode cX5_set 31 = .ok (.new 47, 3) := by decide +kernel
theorem dX5_set_34 : decode cX5_set 34 = .ok (.dup, 1) := by decide +kernel
theorem dX5_set_35 : decode cX5_set 35 = .ok (.ldc 81, 2) := by decide +kernel
theorem dX5_set_37 : decode cX5_set 37 = .ok (.invokespecial 51, 3) := by decide +kernel
theorem dX5_set_40 : decode cX5_set 40 = .ok (.athrow, 1) := by decide +kernel
theorem dX5_set_41 : decode cX5_set 41 = .ok (.aload_n 0, 1) := by decide +kernel
theorem dX5_set_42 : decode cX5_set 42 = .ok (.getfield 10, 3) := by decide +kernel
theorem dX5_set_45 : decode cX5_set 45 = .ok (.getfield 83, 3) := by decide +kernel
theorem dX5_set_48 : decode cX5_set 48 = .ok (.iload_n 1, 1) := by decide +kernel
theorem dX5_set_49 : decode cX5_set 49 = .ok (.iaload, 1) := by decide +kernel
theorem dX5_set_50 : decode cX5_set 50 = .ok (.istore_n 3, 1) := by decide +kernel
theorem dX5_set_51 : decode cX5_set 51 = .ok (.aload_n 0, 1) := by decide +kernel
theorem dX5_set_52 : decode cX5_set 52 = .ok (.getfield 10, 3) := by decide +kernel
theorem dX5_set_55 : decode cX5_set 55 = .ok (.getfield 83, 3) := by decide +kernel
theorem dX5_set_58 : decode cX5_set 58 = .ok (.iload_n 1, 1) := by decide +kernel
theorem dX5_set_59 : decode cX5_set 59 = .ok (.iload_n 2, 1) := by decide +kernel
theorem dX5_set_60 : decode cX5_set 60 = .ok (.iastore, 1) := by decide +kernel
theorem dX5_set_61 : decode cX5_set 61 = .ok (.iload_n 3, 1) := by decide +kernel
theorem dX5_set_62 : decode cX5_set 62 = .ok (.ireturn, 1) := by decide +kernel
set_option maxRecDepth 20000 in
theorem ggX5_value_X5_checkJoint : GoodIn wsX5_value wsX5_checkJoint := goodIn_ca (goodIn_r _ [6, 7, 8, 1, 9, 10, 11, 12, 13, 14, 15, 16, 17, 18, 19, 20, 21] (by decide +kernel) (by decide +kernel)) (goodIn_sub (fun _ h => List.mem_cons_of_mem _ (List.mem_append_right _ h)) (by decide +kernel))
set_option maxRecDepth 20000 in
theorem gX5_value_X5_checkJoint : GoodIn wsX5_value (wsV RX5 71 RX5 yX5_checkJoint wsX5_checkJoint) := goodIn_app (goodIn_of _ (by decide +kernel)) ggX5_value_X5_checkJoint
theorem dX5_value_0 : decode cX5_value 0 = .ok (.aload_n 0, 1) := by decide +kernel
theorem dX5_value_1 : decode cX5_value 1 = .ok (.iload_n 1, 1) := by decide +kernel
theorem dX5_value_2 : decode cX5_value 2 = .ok (.invokevirtual 71, 3) := by decide +kernel
theorem dX5_value_5 : decode cX5_value 5 = .ok (.aload_n 0, 1) := by decide +kernel
theorem dX5_value_6 : decode cX5_value 6 = .ok (.getfield 10, 3) := by decide +kernel
theorem dX5_value_9 : decode cX5_value 9 = .ok (.getfield 83, 3) := by decide +kernel
theorem dX5_value_12 : decode cX5_value 12 = .ok (.iload_n 1, 1) := by decide +kernel
theorem dX5_value_13 : decode cX5_value 13 = .ok (.iaload, 1) := by decide +kernel
theorem dX5_value_14 : decode cX5_value 14 = .ok (.ireturn, 1) := by decide +kernel
set_option maxRecDepth 20000 in
theorem ggX5_tip_X5_checkTold : GoodIn wsX5_tip wsX5_checkTold := goodIn_ca (goodIn_r _ [6, 7, 8] (by decide +kernel) (by decide +kernel)) (goodIn_sub (fun _ h => List.mem_cons_of_mem _ (List.mem_append_right _ h)) (by decide +kernel))
set_option maxRecDepth 20000 in
theorem gX5_tip_X5_checkTold : GoodIn wsX5_tip (va_wsS RX5 86 yX5_checkTold wsX5_checkTold) := goodIn_app (goodIn_of _ (by decide +kernel)) ggX5_tip_X5_checkTold
set_option maxRecDepth 20000 in
theorem ggX5_tip_X4_follow : GoodIn wsX5_tip wsX4_follow := goodIn_r _ [12, 13, 14, 15, 10, 16, 17, 18, 19, 20, 21, 22, 23, 24, 25, 26, 27, 28, 29, 30, 31, 32, 33, 34, 35, 36, 37, 5, 38, 39, 40, 41, 42, 53, 54, 55, 56, 57, 58, 59, 60, 61] (by decide +kernel) (by decide +kernel)
set_option maxRecDepth 20000 in
theorem gX5_tip_X4_follow_n90 : GoodIn wsX5_tip (wsX4_follow) := ggX5_tip_X4_follow
set_option maxRecDepth 20000 in
theorem ggX5_tip_X4_told : GoodIn wsX5_tip wsX4_told := goodIn_r _ [45, 22, 23, 17, 59, 60, 61] (by decide +kernel) (by decide +kernel)
set_option maxRecDepth 20000 in
theorem gX5_tip_X4_told_n94 : GoodIn wsX5_tip (wsX4_told) := ggX5_tip_X4_told
theorem dX5_tip_0 : decode cX5_tip 0 = .ok (.iload_n 1, 1) := by decide +kernel
theorem dX5_tip_1 : decode cX5_tip 1 = .ok (.iconst 2, 1) := by decide +kernel
theorem dX5_tip_2 : decode cX5_tip 2 = .ok (.invokestatic 86, 3) := by decide +kernel
theorem dX5_tip_5 : decode cX5_tip 5 = .ok (.aload_n 0, 1) := by decide +kernel
theorem dX5_tip_6 : decode cX5_tip 6 = .ok (.getfield 26, 3) := by decide +kernel
theorem dX5_tip_9 : decode cX5_tip 9 = .ok (.aload_n 0, 1) := by decide +kernel
theorem dX5_tip_10 : decode cX5_tip 10 = .ok (.getfield 10, 3) := by decide +kernel
theorem dX5_tip_13 : decode cX5_tip 13 = .ok (.invokevirtual 90, 3) := by decide +kernel
theorem dX5_tip_16 : decode cX5_tip 16 = .ok (.aload_n 0, 1) := by decide +kernel
theorem dX5_tip_17 : decode cX5_tip 17 = .ok (.getfield 26, 3) := by decide +kernel
theorem dX5_tip_20 : decode cX5_tip 20 = .ok (.iload_n 1, 1) := by decide +kernel
theorem dX5_tip_21 : decode cX5_tip 21 = .ok (.invokevirtual 94, 3) := by decide +kernel
theorem dX5_tip_24 : decode cX5_tip 24 = .ok (.ireturn, 1) := by decide +kernel
set_option maxRecDepth 20000 in
theorem ggX5_tipAnew_X5_checkTold : GoodIn wsX5_tipAnew wsX5_checkTold := goodIn_ca (goodIn_r _ [6, 7, 8] (by decide +kernel) (by decide +kernel)) (goodIn_sub (fun _ h => List.mem_cons_of_mem _ (List.mem_append_right _ h)) (by decide +kernel))
set_option maxRecDepth 20000 in
theorem gX5_tipAnew_X5_checkTold : GoodIn wsX5_tipAnew (va_wsS RX5 86 yX5_checkTold wsX5_checkTold) := goodIn_app (goodIn_of _ (by decide +kernel)) ggX5_tipAnew_X5_checkTold
set_option maxRecDepth 20000 in
theorem ggX5_tipAnew_X4_followBack : GoodIn wsX5_tipAnew wsX4_followBack := goodIn_r _ [12, 13, 14, 15, 16, 10, 17, 18, 19, 20, 21, 22, 23, 24, 25, 26, 27, 28, 29, 30, 31, 32, 33, 34, 35, 36, 37, 38, 5, 39, 40, 41, 42, 43, 54, 55, 56, 57, 58, 59, 60, 61, 62] (by decide +kernel) (by decide +kernel)
set_option maxRecDepth 20000 in
theorem gX5_tipAnew_X4_followBack_n98 : GoodIn wsX5_tipAnew (wsX4_followBack) := ggX5_tipAnew_X4_followBack
set_option maxRecDepth 20000 in
theorem ggX5_tipAnew_X4_told : GoodIn wsX5_tipAnew wsX4_told := goodIn_r _ [46, 18, 19, 13, 60, 61, 62] (by decide +kernel) (by decide +kernel)
set_option maxRecDepth 20000 in
theorem gX5_tipAnew_X4_told_n94 : GoodIn wsX5_tipAnew (wsX4_told) := ggX5_tipAnew_X4_told
theorem dX5_tipAnew_0 : decode cX5_tipAnew 0 = .ok (.iload_n 1, 1) := by decide +kernel
theorem dX5_tipAnew_1 : decode cX5_tipAnew 1 = .ok (.iconst 2, 1) := by decide +kernel
theorem dX5_tipAnew_2 : decode cX5_tipAnew 2 = .ok (.invokestatic 86, 3) := by decide +kernel
theorem dX5_tipAnew_5 : decode cX5_tipAnew 5 = .ok (.aload_n 0, 1) := by decide +kernel
theorem dX5_tipAnew_6 : decode cX5_tipAnew 6 = .ok (.getfield 30, 3) := by decide +kernel
theorem dX5_tipAnew_9 : decode cX5_tipAnew 9 = .ok (.aload_n 0, 1) := by decide +kernel
theorem dX5_tipAnew_10 : decode cX5_tipAnew 10 = .ok (.getfield 10, 3) := by decide +kernel
theorem dX5_tipAnew_13 : decode cX5_tipAnew 13 = .ok (.invokevirtual 98, 3) := by decide +kernel
theorem dX5_tipAnew_16 : decode cX5_tipAnew 16 = .ok (.aload_n 0, 1) := by decide +kernel
theorem dX5_tipAnew_17 : decode cX5_tipAnew 17 = .ok (.getfield 30, 3) := by decide +kernel
theorem dX5_tipAnew_20 : decode cX5_tipAnew 20 = .ok (.iload_n 1, 1) := by decide +kernel
theorem dX5_tipAnew_21 : decode cX5_tipAnew 21 = .ok (.invokevirtual 94, 3) := by decide +kernel
theorem dX5_tipAnew_24 : decode cX5_tipAnew 24 = .ok (.ireturn, 1) := by decide +kernel
set_option maxRecDepth 20000 in
theorem ggX5_moves_X5_checkJoint : GoodIn wsX5_moves wsX5_checkJoint := goodIn_ca (goodIn_r _ [8, 9, 10, 2, 53, 54, 55, 56, 57, 58, 59, 60, 61, 62, 63, 64, 65] (by decide +kernel) (by decide +kernel)) (goodIn_sub (fun _ h => List.mem_cons_of_mem _ (List.mem_append_left _ (List.mem_append_right _ h))) (by decide +kernel))
set_option maxRecDepth 20000 in
theorem gX5_moves_X5_checkJoint : GoodIn wsX5_moves (wsV RX5 71 RX5 yX5_checkJoint wsX5_checkJoint) := goodIn_app (goodIn_of _ (by decide +kernel)) ggX5_moves_X5_checkJoint
set_option maxRecDepth 20000 in
theorem ggX5_moves_X5_checkTold : GoodIn wsX5_moves wsX5_checkTold := goodIn_ca (goodIn_r _ [13, 14, 15] (by decide +kernel) (by decide +kernel)) (goodIn_sub (fun _ h => List.mem_cons_of_mem _ (List.mem_append_right _ h)) (by decide +kernel))
set_option maxRecDepth 20000 in
theorem gX5_moves_X5_checkTold : GoodIn wsX5_moves (va_wsS RX5 86 yX5_checkTold wsX5_checkTold) := goodIn_app (goodIn_of _ (by decide +kernel)) ggX5_moves_X5_checkTold
set_option maxRecDepth 20000 in
theorem ggX5_moves_X4_follow : GoodIn wsX5_moves wsX4_follow := goodIn_r _ [19, 20, 21, 22, 17, 23, 24, 25, 26, 27, 28, 29, 30, 31, 32, 33, 34, 35, 36, 37, 38, 39, 40, 41, 42, 43, 44, 7, 45, 46, 47, 48, 49, 60, 61, 62, 63, 64, 65, 66, 67, 68] (by decide +kernel) (by decide +kernel)
set_option maxRecDepth 20000 in
theorem gX5_moves_X4_follow_n90 : GoodIn wsX5_moves (wsX4_follow) := ggX5_moves_X4_follow
set_option maxRecDepth 20000 in
theorem ggX5_moves_X4_followWith : GoodIn wsX5_moves wsX4_followWith := goodIn_r _ [23, 24, 25, 26, 27, 17, 28, 29, 30, 31, 32, 33, 34, 35, 36, 37, 38, 39, 40, 41, 42, 43, 44, 7, 45, 46, 47, 48, 49, 60, 61, 62, 63, 64, 65, 66, 67, 68] (by decide +kernel) (by decide +kernel)
set_option maxRecDepth 20000 in
theorem gX5_moves_X4_followWith_n101 : GoodIn wsX5_moves (wsX4_followWith) := ggX5_moves_X4_followWith
set_option maxRecDepth 20000 in
theorem ggX5_moves_X4_told : GoodIn wsX5_moves wsX4_told := goodIn_r _ [52, 29, 30, 24, 66, 67, 68] (by decide +kernel) (by decide +kernel)
set_option maxRecDepth 20000 in
theorem gX5_moves_X4_told_n94 : GoodIn wsX5_moves (wsX4_told) := ggX5_moves_X4_told
theorem dX5_moves_0 : decode cX5_moves 0 = .ok (.aload_n 0, 1) := by decide +kernel
theorem dX5_moves_1 : decode cX5_moves 1 = .ok (.iload_n 1, 1) := by decide +kernel
theorem dX5_moves_2 : decode cX5_moves 2 = .ok (.invokevirtual 71, 3) := by decide +kernel
theorem dX5_moves_5 : decode cX5_moves 5 = .ok (.iload_n 2, 1) := by decide +kernel
theorem dX5_moves_6 : decode cX5_moves 6 = .ok (.iconst 1, 1) := by decide +kernel
theorem dX5_moves_7 : decode cX5_moves 7 = .ok (.invokestatic 86, 3) := by decide +kernel
theorem dX5_moves_10 : decode cX5_moves 10 = .ok (.aload_n 0, 1) := by decide +kernel
theorem dX5_moves_11 : decode cX5_moves 11 = .ok (.getfield 26, 3) := by decide +kernel
theorem dX5_moves_14 : decode cX5_moves 14 = .ok (.aload_n 0, 1) := by decide +kernel
theorem dX5_moves_15 : decode cX5_moves 15 = .ok (.getfield 10, 3) := by decide +kernel
theorem dX5_moves_18 : decode cX5_moves 18 = .ok (.invokevirtual 90, 3) := by decide +kernel
theorem dX5_moves_21 : decode cX5_moves 21 = .ok (.aload_n 0, 1) := by decide +kernel
theorem dX5_moves_22 : decode cX5_moves 22 = .ok (.getfield 30, 3) := by decide +kernel
theorem dX5_moves_25 : decode cX5_moves 25 = .ok (.aload_n 0, 1) := by decide +kernel
theorem dX5_moves_26 : decode cX5_moves 26 = .ok (.getfield 10, 3) := by decide +kernel
theorem dX5_moves_29 : decode cX5_moves 29 = .ok (.iload_n 1, 1) := by decide +kernel
theorem dX5_moves_30 : decode cX5_moves 30 = .ok (.aload_n 0, 1) := by decide +kernel
theorem dX5_moves_31 : decode cX5_moves 31 = .ok (.getfield 10, 3) := by decide +kernel
theorem dX5_moves_34 : decode cX5_moves 34 = .ok (.getfield 83, 3) := by decide +kernel
theorem dX5_moves_37 : decode cX5_moves 37 = .ok (.iload_n 1, 1) := by decide +kernel
theorem dX5_moves_38 : decode cX5_moves 38 = .ok (.iaload, 1) := by decide +kernel
theorem dX5_moves_39 : decode cX5_moves 39 = .ok (.iconst 1, 1) := by decide +kernel
theorem dX5_moves_40 : decode cX5_moves 40 = .ok (.iadd, 1) := by decide +kernel
theorem dX5_moves_41 : decode cX5_moves 41 = .ok (.invokevirtual 101, 3) := by decide +kernel
theorem dX5_moves_44 : decode cX5_moves 44 = .ok (.aload_n 0, 1) := by decide +kernel
theorem dX5_moves_45 : decode cX5_moves 45 = .ok (.getfield 30, 3) := by decide +kernel
theorem dX5_moves_48 : decode cX5_moves 48 = .ok (.iload_n 2, 1) := by decide +kernel
theorem dX5_moves_49 : decode cX5_moves 49 = .ok (.invokevirtual 94, 3) := by decide +kernel
theorem dX5_moves_52 : decode cX5_moves 52 = .ok (.aload_n 0, 1) := by decide +kernel
theorem dX5_moves_53 : decode cX5_moves 53 = .ok (.getfield 26, 3) := by decide +kernel
theorem dX5_moves_56 : decode cX5_moves 56 = .ok (.iload_n 2, 1) := by decide +kernel
theorem dX5_moves_57 : decode cX5_moves 57 = .ok (.invokevirtual 94, 3) := by decide +kernel
theorem dX5_moves_60 : decode cX5_moves 60 = .ok (.isub, 1) := by decide +kernel
theorem dX5_moves_61 : decode cX5_moves 61 = .ok (.ireturn, 1) := by decide +kernel
set_option maxRecDepth 20000 in
theorem ggX5_freedom_X5_findMoves : GoodIn wsX5_freedom wsX5_findMoves := goodIn_r _ [15, 16, 1, 17, 2, 3, 18, 19, 20, 21, 22, 23, 24, 25, 26, 27, 28, 29, 30, 31, 32, 33, 34, 35, 36, 37, 38, 39, 40, 41, 42, 43, 44, 45, 46, 14, 47, 48, 49, 50, 51, 52, 53, 54, 55, 56, 57, 58, 59, 60, 61, 62, 63, 64, 65, 66, 67] (by decide +kernel) (by decide +kernel)
set_option maxRecDepth 20000 in
theorem gX5_freedom_X5_findMoves : GoodIn wsX5_freedom (wsV RX5 105 RX5 yX5_findMoves wsX5_findMoves) := goodIn_app (goodIn_of _ (by decide +kernel)) ggX5_freedom_X5_findMoves
theorem dX5_freedom_0 : decode cX5_freedom 0 = .ok (.aload_n 0, 1) := by decide +kernel
theorem dX5_freedom_1 : decode cX5_freedom 1 = .ok (.invokevirtual 105, 3) := by decide +kernel
theorem dX5_freedom_4 : decode cX5_freedom 4 = .ok (.lconst 0, 1) := by decide +kernel
theorem dX5_freedom_5 : decode cX5_freedom 5 = .ok (.lstore_n 1, 1) := by decide +kernel
theorem dX5_freedom_6 : decode cX5_freedom 6 = .ok (.iconst 0, 1) := by decide +kernel
theorem dX5_freedom_7 : decode cX5_freedom 7 = .ok (.istore_n 3, 1) := by decide +kernel
theorem dX5_freedom_8 : decode cX5_freedom 8 = .ok (.iload_n 3, 1) := by decide +kernel
theorem dX5_freedom_9 : decode cX5_freedom 9 = .ok (.aload_n 0, 1) := by decide +kernel
theorem dX5_freedom_10 : decode cX5_freedom 10 = .ok (.getfield 10, 3) := by decide +kernel
theorem dX5_freedom_13 : decode cX5_freedom 13 = .ok (.getfield 108, 3) := by decide +kernel
theorem dX5_freedom_16 : decode cX5_freedom 16 = .ok (.if_icmp .ge 77, 3) := by decide +kernel
theorem dX5_freedom_19 : decode cX5_freedom 19 = .ok (.iload_n 3, 1) := by decide +kernel
theorem dX5_freedom_20 : decode cX5_freedom 20 = .ok (.iconst 1, 1) := by decide +kernel
theorem dX5_freedom_21 : decode cX5_freedom 21 = .ok (.iadd, 1) := by decide +kernel
theorem dX5_freedom_22 : decode cX5_freedom 22 = .ok (.istore 4, 2) := by decide +kernel
theorem dX5_freedom_24 : decode cX5_freedom 24 = .ok (.iload 4, 2) := by decide +kernel
theorem dX5_freedom_26 : decode cX5_freedom 26 = .ok (.aload_n 0, 1) := by decide +kernel
theorem dX5_freedom_27 : decode cX5_freedom 27 = .ok (.getfield 10, 3) := by decide +kernel
theorem dX5_freedom_30 : decode cX5_freedom 30 = .ok (.getfield 108, 3) := by decide +kernel
theorem dX5_freedom_33 : decode cX5_freedom 33 = .ok (.if_icmp .ge 54, 3) := by decide +kernel
theorem dX5_freedom_36 : decode cX5_freedom 36 = .ok (.aload_n 0, 1) := by decide +kernel
theorem dX5_freedom_37 : decode cX5_freedom 37 = .ok (.getfield 40, 3) := by decide +kernel
theorem dX5_freedom_40 : decode cX5_freedom 40 = .ok (.iload_n 3, 1) := by decide +kernel
theorem dX5_freedom_41 : decode cX5_freedom 41 = .ok (.iaload, 1) := by decide +kernel
theorem dX5_freedom_42 : decode cX5_freedom 42 = .ok (.i2l, 1) := by decide +kernel
theorem dX5_freedom_43 : decode cX5_freedom 43 = .ok (.aload_n 0, 1) := by decide +kernel
theorem dX5_freedom_44 : decode cX5_freedom 44 = .ok (.getfield 44, 3) := by decide +kernel
theorem dX5_freedom_47 : decode cX5_freedom 47 = .ok (.iload 4, 2) := by decide +kernel
theorem dX5_freedom_49 : decode cX5_freedom 49 = .ok (.iaload, 1) := by decide +kernel
theorem dX5_freedom_50 : decode cX5_freedom 50 = .ok (.i2l, 1) := by decide +kernel
theorem dX5_freedom_51 : decode cX5_freedom 51 = .ok (.lmul, 1) := by decide +kernel
theorem dX5_freedom_52 : decode cX5_freedom 52 = .ok (.aload_n 0, 1) := by decide +kernel
theorem dX5_freedom_53 : decode cX5_freedom 53 = .ok (.getfield 44, 3) := by decide +kernel
theorem dX5_freedom_56 : decode cX5_freedom 56 = .ok (.iload_n 3, 1) := by decide +kernel
theorem dX5_freedom_57 : decode cX5_freedom 57 = .ok (.iaload, 1) := by decide +kernel
theorem dX5_freedom_58 : decode cX5_freedom 58 = .ok (.i2l, 1) := by decide +kernel
theorem dX5_freedom_59 : decode cX5_freedom 59 = .ok (.aload_n 0, 1) := by decide +kernel
theorem dX5_freedom_60 : decode cX5_freedom 60 = .ok (.getfield 40, 3) := by decide +kernel
theorem dX5_freedom_63 : decode cX5_freedom 63 = .ok (.iload 4, 2) := by decide +kernel
theorem dX5_freedom_65 : decode cX5_freedom 65 = .ok (.iaload, 1) := by decide +kernel
theorem dX5_freedom_66 : decode cX5_freedom 66 = .ok (.i2l, 1) := by decide +kernel
theorem dX5_freedom_67 : decode cX5_freedom 67 = .ok (.lmul, 1) := by decide +kernel
theorem dX5_freedom_68 : decode cX5_freedom 68 = .ok (.lsub, 1) := by decide +kernel
theorem dX5_freedom_69 : decode cX5_freedom 69 = .ok (.lstore 5, 2) := by decide +kernel
theorem dX5_freedom_71 : decode cX5_freedom 71 = .ok (.lload_n 1, 1) := by decide +kernel
theorem dX5_freedom_72 : decode cX5_freedom 72 = .ok (.lload 5, 2) := by decide +kernel
theorem dX5_freedom_74 : decode cX5_freedom 74 = .ok (.invokestatic 112, 3) := by decide +kernel
theorem dX5_freedom_77 : decode cX5_freedom 77 = .ok (.invokestatic 118, 3) := by decide +kernel
theorem dX5_freedom_80 : decode cX5_freedom 80 = .ok (.lstore_n 1, 1) := by decide +kernel
theorem dX5_freedom_81 : decode cX5_freedom 81 = .ok (.iinc 4 1, 3) := by decide +kernel
theorem dX5_freedom_84 : decode cX5_freedom 84 = .ok (.goto (-60), 3) := by decide +kernel
theorem dX5_freedom_87 : decode cX5_freedom 87 = .ok (.iinc 3 1, 3) := by decide +kernel
theorem dX5_freedom_90 : decode cX5_freedom 90 = .ok (.goto (-82), 3) := by decide +kernel
theorem dX5_freedom_93 : decode cX5_freedom 93 = .ok (.lload_n 1, 1) := by decide +kernel
theorem dX5_freedom_94 : decode cX5_freedom 94 = .ok (.lreturn, 1) := by decide +kernel
set_option maxRecDepth 20000 in
theorem ggX5_goal_X5_farNow : GoodIn wsX5_goal wsX5_farNow := goodIn_r _ [10, 11, 12, 5, 13, 14, 15, 16, 17, 18, 19, 20, 21, 22, 23, 24, 25, 26, 27, 28, 29, 30, 31, 32, 33, 34, 35, 36, 37, 38, 39, 40, 41, 9, 42, 43, 44, 45, 46, 47, 48, 49, 50, 51, 52, 53, 54, 55, 56, 57, 58, 59, 63, 64, 65, 66, 67, 68, 69, 70, 71, 60, 61, 62] (by decide +kernel) (by decide +kernel)
set_option maxRecDepth 20000 in
theorem gX5_goal_X5_farNow : GoodIn wsX5_goal (wsV RX5 132 RX5 yX5_farNow wsX5_farNow) := goodIn_app (goodIn_of _ (by decide +kernel)) ggX5_goal_X5_farNow
theorem dX5_goal_0 : decode cX5_goal 0 = .ok (.iload_n 1, 1) := by decide +kernel
theorem dX5_goal_1 : decode cX5_goal 1 = .ok (.ldc 122, 2) := by decide +kernel
theorem dX5_goal_3 : decode cX5_goal 3 = .ok (.if_icmp .lt 21, 3) := by decide +kernel
theorem dX5_goal_6 : decode cX5_goal 6 = .ok (.iload_n 1, 1) := by decide +kernel
theorem dX5_goal_7 : decode cX5_goal 7 = .ok (.ldc 123, 2) := by decide +kernel
theorem dX5_goal_9 : decode cX5_goal 9 = .ok (.if_icmp .gt 15, 3) := by decide +kernel
theorem dX5_goal_12 : decode cX5_goal 12 = .ok (.iload_n 2, 1) := by decide +kernel
theorem dX5_goal_13 : decode cX5_goal 13 = .ok (.ldc 122, 2) := by decide +kernel
theorem dX5_goal_15 : decode cX5_goal 15 = .ok (.if_icmp .lt 9, 3) := by decide +kernel
theorem dX5_goal_18 : decode cX5_goal 18 = .ok (.iload_n 2, 1) := by decide +kernel
theorem dX5_goal_19 : decode cX5_goal 19 = .ok (.ldc 123, 2) := by decide +kernel
theorem dX5_goal_21 : decode cX5_goal 21 = .ok (.if_icmp .le 13, 3) := by decide +kernel
theorem dX5_goal_24 : decode cX5_goal 24 = .ok (.new 47, 3) := by decide +kernel
theorem dX5_goal_27 : decode cX5_goal 27 = .ok (.dup, 1) := by decide +kernel
theorem dX5_goal_28 : decode cX5_goal 28 = .ok (.ldc 124, 2) := by decide +kernel
theorem dX5_goal_30 : decode cX5_goal 30 = .ok (.invokespecial 51, 3) := by decide +kernel
theorem dX5_goal_33 : decode cX5_goal 33 = .ok (.athrow, 1) := by decide +kernel
theorem dX5_goal_34 : decode cX5_goal 34 = .ok (.aload_n 0, 1) := by decide +kernel
theorem dX5_goal_35 : decode cX5_goal 35 = .ok (.getfield 19, 3) := by decide +kernel
theorem dX5_goal_38 : decode cX5_goal 38 = .ok (.iload_n 1, 1) := by decide +kernel
theorem dX5_goal_39 : decode cX5_goal 39 = .ok (.putfield 126, 3) := by decide +kernel
theorem dX5_goal_42 : decode cX5_goal 42 = .ok (.aload_n 0, 1) := by decide +kernel
theorem dX5_goal_43 : decode cX5_goal 43 = .ok (.getfield 19, 3) := by decide +kernel
theorem dX5_goal_46 : decode cX5_goal 46 = .ok (.iload_n 2, 1) := by decide +kernel
theorem dX5_goal_47 : decode cX5_goal 47 = .ok (.putfield 129, 3) := by decide +kernel
theorem dX5_goal_50 : decode cX5_goal 50 = .ok (.aload_n 0, 1) := by decide +kernel
theorem dX5_goal_51 : decode cX5_goal 51 = .ok (.invokevirtual 132, 3) := by decide +kernel
theorem dX5_goal_54 : decode cX5_goal 54 = .ok (.lreturn, 1) := by decide +kernel
set_option maxRecDepth 20000 in
theorem ggX5_far_X5_farNow : GoodIn wsX5_far wsX5_farNow := goodIn_r _ [5, 6, 7, 8, 9, 10, 11, 12, 13, 14, 15, 16, 17, 18, 19, 20, 21, 22, 23, 24, 25, 26, 27, 28, 29, 30, 31, 32, 33, 34, 35, 36, 37, 4, 38, 39, 40, 41, 42, 43, 44, 45, 46, 47, 48, 49, 50, 51, 52, 53, 54, 55, 56, 57, 58, 59, 60, 61, 62, 63, 64, 65, 66, 67] (by decide +kernel) (by decide +kernel)
set_option maxRecDepth 20000 in
theorem gX5_far_X5_farNow : GoodIn wsX5_far (wsV RX5 132 RX5 yX5_farNow wsX5_farNow) := goodIn_app (goodIn_of _ (by decide +kernel)) ggX5_far_X5_farNow
theorem dX5_far_0 : decode cX5_far 0 = .ok (.aload_n 0, 1) := by decide +kernel
theorem dX5_far_1 : decode cX5_far 1 = .ok (.invokevirtual 132, 3) := by decide +kernel
theorem dX5_far_4 : decode cX5_far 4 = .ok (.lreturn, 1) := by decide +kernel
set_option maxRecDepth 20000 in
theorem ggX5_steps_X5_stepped : GoodIn wsX5_steps wsX5_stepped := goodIn_r _ [7, 8, 9, 10, 11, 6, 12, 13, 14, 15, 16, 17, 18, 19, 20, 21, 22, 23, 24, 25, 26, 27, 28, 29, 30, 31, 32, 33, 34, 35, 36, 37, 38, 39, 40, 41, 42, 43, 44, 45, 46, 47, 48, 49, 50, 51, 52, 53, 54, 55, 56, 57, 58, 59, 60, 61, 62, 63, 64, 65, 66, 67, 68, 69, 70, 71, 72, 73, 74, 75, 76, 77, 78, 79, 80, 81, 82, 83, 84, 85, 86, 87, 88, 89, 90] (by decide +kernel) (by decide +kernel)
set_option maxRecDepth 20000 in
theorem gX5_steps_X5_stepped : GoodIn wsX5_steps (wsV RX5 138 RX5 yX5_stepped wsX5_stepped) := goodIn_app (goodIn_of _ (by decide +kernel)) ggX5_steps_X5_stepped
theorem dX5_steps_0 : decode cX5_steps 0 = .ok (.iload_n 1, 1) := by decide +kernel
theorem dX5_steps_1 : decode cX5_steps 1 = .ok (.iconst 1, 1) := by decide +kernel
theorem dX5_steps_2 : decode cX5_steps 2 = .ok (.if_icmp .lt 10, 3) := by decide +kernel
theorem dX5_steps_5 : decode cX5_steps 5 = .ok (.iload_n 1, 1) := by decide +kernel
theorem dX5_steps_6 : decode cX5_steps 6 = .ok (.sipush 200, 3) := by decide +kernel
theorem dX5_steps_9 : decode cX5_steps 9 = .ok (.if_icmp .le 13, 3) := by decide +kernel
theorem dX5_steps_12 : decode cX5_steps 12 = .ok (.new 47, 3) := by decide +kernel
theorem dX5_steps_15 : decode cX5_steps 15 = .ok (.dup, 1) := by decide +kernel
theorem dX5_steps_16 : decode cX5_steps 16 = .ok (.ldc 136, 2) := by decide +kernel
theorem dX5_steps_18 : decode cX5_steps 18 = .ok (.invokespecial 51, 3) := by decide +kernel
theorem dX5_steps_21 : decode cX5_steps 21 = .ok (.athrow, 1) := by decide +kernel
theorem dX5_steps_22 : decode cX5_steps 22 = .ok (.iconst 0, 1) := by decide +kernel
theorem dX5_steps_23 : decode cX5_steps 23 = .ok (.istore_n 2, 1) := by decide +kernel
theorem dX5_steps_24 : decode cX5_steps 24 = .ok (.bipush 8, 2) := by decide +kernel
theorem dX5_steps_26 : decode cX5_steps 26 = .ok (.istore_n 3, 1) := by decide +kernel
theorem dX5_steps_27 : decode cX5_steps 27 = .ok (.iload_n 3, 1) := by decide +kernel
theorem dX5_steps_28 : decode cX5_steps 28 = .ok (.iconst 1, 1) := by decide +kernel
theorem dX5_steps_29 : decode cX5_steps 29 = .ok (.if_icmp .lt 29, 3) := by decide +kernel
theorem dX5_steps_32 : decode cX5_steps 32 = .ok (.iload_n 2, 1) := by decide +kernel
theorem dX5_steps_33 : decode cX5_steps 33 = .ok (.iload_n 1, 1) := by decide +kernel
theorem dX5_steps_34 : decode cX5_steps 34 = .ok (.if_icmp .ge 17, 3) := by decide +kernel
theorem dX5_steps_37 : decode cX5_steps 37 = .ok (.aload_n 0, 1) := by decide +kernel
theorem dX5_steps_38 : decode cX5_steps 38 = .ok (.iload_n 3, 1) := by decide +kernel
theorem dX5_steps_39 : decode cX5_steps 39 = .ok (.invokevirtual 138, 3) := by decide +kernel
theorem dX5_steps_42 : decode cX5_steps 42 = .ok (.ifCond .eq 9, 3) := by decide +kernel
theorem dX5_steps_45 : decode cX5_steps 45 = .ok (.iinc 2 1, 3) := by decide +kernel
theorem dX5_steps_48 : decode cX5_steps 48 = .ok (.goto (-16), 3) := by decide +kernel
theorem dX5_steps_51 : decode cX5_steps 51 = .ok (.iload_n 3, 1) := by decide +kernel
theorem dX5_steps_52 : decode cX5_steps 52 = .ok (.iconst 2, 1) := by decide +kernel
theorem dX5_steps_53 : decode cX5_steps 53 = .ok (.idiv, 1) := by decide +kernel
theorem dX5_steps_54 : decode cX5_steps 54 = .ok (.istore_n 3, 1) := by decide +kernel
theorem dX5_steps_55 : decode cX5_steps 55 = .ok (.goto (-28), 3) := by decide +kernel
theorem dX5_steps_58 : decode cX5_steps 58 = .ok (.iload_n 2, 1) := by decide +kernel
theorem dX5_steps_59 : decode cX5_steps 59 = .ok (.ireturn, 1) := by decide +kernel
set_option maxRecDepth 20000 in
theorem ggX5_hindrance_X5_farNow : GoodIn wsX5_hindrance wsX5_farNow := goodIn_r _ [6, 7, 1, 8, 9, 10, 11, 12, 13, 14, 15, 16, 17, 18, 19, 20, 21, 22, 23, 24, 25, 26, 27, 28, 29, 30, 31, 32, 33, 34, 35, 36, 37, 5, 38, 39, 40, 41, 42, 43, 44, 45, 46, 47, 48, 54, 55, 56, 57, 58, 59, 60, 67, 68, 69, 61, 62, 63, 64, 65, 66, 70, 71, 72] (by decide +kernel) (by decide +kernel)
set_option maxRecDepth 20000 in
theorem gX5_hindrance_X5_farNow : GoodIn wsX5_hindrance (wsV RX5 132 RX5 yX5_farNow wsX5_farNow) := goodIn_app (goodIn_of _ (by decide +kernel)) ggX5_hindrance_X5_farNow
set_option maxRecDepth 20000 in
theorem ggX5_hindrance_X5_farWith : GoodIn wsX5_hindrance wsX5_farWith := goodIn_r _ [52, 53, 1, 8, 14, 10, 15, 16, 17, 18, 19, 20, 21, 22, 23, 24, 25, 26, 27, 28, 29, 30, 31, 32, 33, 34, 35, 36, 37, 5, 38, 39, 40, 41, 42, 43, 44, 45, 46, 47, 48, 54, 55, 56, 57, 58, 59, 60, 67, 68, 69, 61, 62, 63, 64, 65, 66, 70, 71, 72] (by decide +kernel) (by decide +kernel)
set_option maxRecDepth 20000 in
theorem gX5_hindrance_X5_farWith : GoodIn wsX5_hindrance (wsV RX5 142 RX5 yX5_farWith wsX5_farWith) := goodIn_app (goodIn_of _ (by decide +kernel)) ggX5_hindrance_X5_farWith
theorem dX5_hindrance_0 : decode cX5_hindrance 0 = .ok (.aload_n 0, 1) := by decide +kernel
theorem dX5_hindrance_1 : decode cX5_hindrance 1 = .ok (.invokevirtual 132, 3) := by decide +kernel
theorem dX5_hindrance_4 : decode cX5_hindrance 4 = .ok (.lstore_n 1, 1) := by decide +kernel
theorem dX5_hindrance_5 : decode cX5_hindrance 5 = .ok (.iconst 0, 1) := by decide +kernel
theorem dX5_hindrance_6 : decode cX5_hindrance 6 = .ok (.istore_n 3, 1) := by decide +kernel
theorem dX5_hindrance_7 : decode cX5_hindrance 7 = .ok (.iload_n 3, 1) := by decide +kernel
theorem dX5_hindrance_8 : decode cX5_hindrance 8 = .ok (.aload_n 0, 1) := by decide +kernel
theorem dX5_hindrance_9 : decode cX5_hindrance 9 = .ok (.getfield 10, 3) := by decide +kernel
theorem dX5_hindrance_12 : decode cX5_hindrance 12 = .ok (.getfield 108, 3) := by decide +kernel
theorem dX5_hindrance_15 : decode cX5_hindrance 15 = .ok (.if_icmp .ge 80, 3) := by decide +kernel
theorem dX5_hindrance_18 : decode cX5_hindrance 18 = .ok (.aload_n 0, 1) := by decide +kernel
theorem dX5_hindrance_19 : decode cX5_hindrance 19 = .ok (.getfield 10, 3) := by decide +kernel
theorem dX5_hindrance_22 : decode cX5_hindrance 22 = .ok (.getfield 83, 3) := by decide +kernel
theorem dX5_hindrance_25 : decode cX5_hindrance 25 = .ok (.iload_n 3, 1) := by decide +kernel
theorem dX5_hindrance_26 : decode cX5_hindrance 26 = .ok (.iaload, 1) := by decide +kernel
theorem dX5_hindrance_27 : decode cX5_hindrance 27 = .ok (.istore 4, 2) := by decide +kernel
theorem dX5_hindrance_29 : decode cX5_hindrance 29 = .ok (.iload 4, 2) := by decide +kernel
theorem dX5_hindrance_31 : decode cX5_hindrance 31 = .ok (.aload_n 0, 1) := by decide +kernel
theorem dX5_hindrance_32 : decode cX5_hindrance 32 = .ok (.getfield 10, 3) := by decide +kernel
theorem dX5_hindrance_35 : decode cX5_hindrance 35 = .ok (.getfield 78, 3) := by decide +kernel
theorem dX5_hindrance_38 : decode cX5_hindrance 38 = .ok (.iload_n 3, 1) := by decide +kernel
theorem dX5_hindrance_39 : decode cX5_hindrance 39 = .ok (.iaload, 1) := by decide +kernel
theorem dX5_hindrance_40 : decode cX5_hindrance 40 = .ok (.if_icmp .ne 19, 3) := by decide +kernel
theorem dX5_hindrance_43 : decode cX5_hindrance 43 = .ok (.aload_n 0, 1) := by decide +kernel
theorem dX5_hindrance_44 : decode cX5_hindrance 44 = .ok (.iload_n 3, 1) := by decide +kernel
theorem dX5_hindrance_45 : decode cX5_hindrance 45 = .ok (.iload 4, 2) := by decide +kernel
theorem dX5_hindrance_47 : decode cX5_hindrance 47 = .ok (.iconst 1, 1) := by decide +kernel
theorem dX5_hindrance_48 : decode cX5_hindrance 48 = .ok (.iadd, 1) := by decide +kernel
theorem dX5_hindrance_49 : decode cX5_hindrance 49 = .ok (.invokevirtual 142, 3) := by decide +kernel
theorem dX5_hindrance_52 : decode cX5_hindrance 52 = .ok (.lload_n 1, 1) := by decide +kernel
theorem dX5_hindrance_53 : decode cX5_hindrance 53 = .ok (.lcmp, 1) := by decide +kernel
theorem dX5_hindrance_54 : decode cX5_hindrance 54 = .ok (.ifCond .ge 5, 3) := by decide +kernel
theorem dX5_hindrance_57 : decode cX5_hindrance 57 = .ok (.iload_n 3, 1) := by decide +kernel
theorem dX5_hindrance_58 : decode cX5_hindrance 58 = .ok (.ireturn, 1) := by decide +kernel
theorem dX5_hindrance_59 : decode cX5_hindrance 59 = .ok (.iload 4, 2) := by decide +kernel
theorem dX5_hindrance_61 : decode cX5_hindrance 61 = .ok (.aload_n 0, 1) := by decide +kernel
theorem dX5_hindrance_62 : decode cX5_hindrance 62 = .ok (.getfield 10, 3) := by decide +kernel
theorem dX5_hindrance_65 : decode cX5_hindrance 65 = .ok (.getfield 75, 3) := by decide +kernel
theorem dX5_hindrance_68 : decode cX5_hindrance 68 = .ok (.iload_n 3, 1) := by decide +kernel
theorem dX5_hindrance_69 : decode cX5_hindrance 69 = .ok (.iaload, 1) := by decide +kernel
theorem dX5_hindrance_70 : decode cX5_hindrance 70 = .ok (.if_icmp .ne 19, 3) := by decide +kernel
theorem dX5_hindrance_73 : decode cX5_hindrance 73 = .ok (.aload_n 0, 1) := by decide +kernel
theorem dX5_hindrance_74 : decode cX5_hindrance 74 = .ok (.iload_n 3, 1) := by decide +kernel
theorem dX5_hindrance_75 : decode cX5_hindrance 75 = .ok (.iload 4, 2) := by decide +kernel
theorem dX5_hindrance_77 : decode cX5_hindrance 77 = .ok (.iconst 1, 1) := by decide +kernel
theorem dX5_hindrance_78 : decode cX5_hindrance 78 = .ok (.isub, 1) := by decide +kernel
theorem dX5_hindrance_79 : decode cX5_hindrance 79 = .ok (.invokevirtual 142, 3) := by decide +kernel
theorem dX5_hindrance_82 : decode cX5_hindrance 82 = .ok (.lload_n 1, 1) := by decide +kernel
theorem dX5_hindrance_83 : decode cX5_hindrance 83 = .ok (.lcmp, 1) := by decide +kernel
theorem dX5_hindrance_84 : decode cX5_hindrance 84 = .ok (.ifCond .ge 5, 3) := by decide +kernel
theorem dX5_hindrance_87 : decode cX5_hindrance 87 = .ok (.iload_n 3, 1) := by decide +kernel
theorem dX5_hindrance_88 : decode cX5_hindrance 88 = .ok (.ireturn, 1) := by decide +kernel
theorem dX5_hindrance_89 : decode cX5_hindrance 89 = .ok (.iinc 3 1, 3) := by decide +kernel
theorem dX5_hindrance_92 : decode cX5_hindrance 92 = .ok (.goto (-85), 3) := by decide +kernel
theorem dX5_hindrance_95 : decode cX5_hindrance 95 = .ok (.iconst (-1), 1) := by decide +kernel
theorem dX5_hindrance_96 : decode cX5_hindrance 96 = .ok (.ireturn, 1) := by decide +kernel
theorem dX5_slack_0 : decode cX5_slack 0 = .ok (.iload_n 1, 1) := by decide +kernel
theorem dX5_slack_1 : decode cX5_slack 1 = .ok (.ifCond .lt 9, 3) := by decide +kernel
theorem dX5_slack_4 : decode cX5_slack 4 = .ok (.iload_n 1, 1) := by decide +kernel
theorem dX5_slack_5 : decode cX5_slack 5 = .ok (.ldc 146, 2) := by decide +kernel
theorem dX5_slack_7 : decode cX5_slack 7 = .ok (.if_icmp .le 13, 3) := by decide +kernel
theorem dX5_slack_10 : decode cX5_slack 10 = .ok (.new 47, 3) := by decide +kernel
theorem dX5_slack_13 : decode cX5_slack 13 = .ok (.dup, 1) := by decide +kernel
theorem dX5_slack_14 : decode cX5_slack 14 = .ok (.ldc 147, 2) := by decide +kernel
theorem dX5_slack_16 : decode cX5_slack 16 = .ok (.invokespecial 51, 3) := by decide +kernel
theorem dX5_slack_19 : decode cX5_slack 19 = .ok (.athrow, 1) := by decide +kernel
theorem dX5_slack_20 : decode cX5_slack 20 = .ok (.aload_n 0, 1) := by decide +kernel
theorem dX5_slack_21 : decode cX5_slack 21 = .ok (.getfield 19, 3) := by decide +kernel
theorem dX5_slack_24 : decode cX5_slack 24 = .ok (.getfield 149, 3) := by decide +kernel
theorem dX5_slack_27 : decode cX5_slack 27 = .ok (.istore_n 2, 1) := by decide +kernel
theorem dX5_slack_28 : decode cX5_slack 28 = .ok (.aload_n 0, 1) := by decide +kernel
theorem dX5_slack_29 : decode cX5_slack 29 = .ok (.getfield 19, 3) := by decide +kernel
theorem dX5_slack_32 : decode cX5_slack 32 = .ok (.iload_n 1, 1) := by decide +kernel
theorem dX5_slack_33 : decode cX5_slack 33 = .ok (.putfield 149, 3) := by decide +kernel
theorem dX5_slack_36 : decode cX5_slack 36 = .ok (.iload_n 2, 1) := by decide +kernel
theorem dX5_slack_37 : decode cX5_slack 37 = .ok (.ireturn, 1) := by decide +kernel
set_option maxRecDepth 20000 in
theorem ggX5_branches_X0_countPoses : GoodIn wsX5_branches wsX0_countPoses := goodIn_r _ [10, 11, 12, 13, 113, 114, 115, 116, 117, 118] (by decide +kernel) (by decide +kernel)
set_option maxRecDepth 20000 in
theorem gX5_branches_X0_countPoses_n151 : GoodIn wsX5_branches (wsX0_countPoses) := ggX5_branches_X0_countPoses
set_option maxRecDepth 20000 in
theorem ggX5_branches_X3_run : GoodIn wsX5_branches wsX3_run := goodIn_r _ [17, 18, 19, 20, 21, 22, 23, 24, 25, 26, 15, 27, 28, 29, 8, 30, 31, 32, 33, 34, 35, 36, 37, 38, 39, 40, 41, 42, 43, 44, 45, 46, 47, 48, 49, 50, 51, 52, 53, 54, 55, 56, 57, 58, 59, 60, 61, 62, 63, 64, 65, 66, 67, 68, 69, 70, 71, 72, 73, 74, 75, 76, 77, 78, 79, 80, 81, 82, 83, 84, 85, 86, 87, 88, 89, 90, 91, 92, 93, 94, 95, 103, 104, 105, 106, 107, 108, 109, 113, 114, 115, 116, 117, 118, 110, 111, 112, 119, 120, 121] (by decide +kernel) (by decide +kernel)
set_option maxRecDepth 20000 in
theorem gX5_branches_X3_run_n158 : GoodIn wsX5_branches (wsX3_run) := ggX5_branches_X3_run
theorem dX5_branches_0 : decode cX5_branches 0 = .ok (.aload_n 0, 1) := by decide +kernel
theorem dX5_branches_1 : decode cX5_branches 1 = .ok (.getfield 10, 3) := by decide +kernel
theorem dX5_branches_4 : decode cX5_branches 4 = .ok (.invokevirtual 151, 3) := by decide +kernel
theorem dX5_branches_7 : decode cX5_branches 7 = .ok (.ldc2_w 154, 3) := by decide +kernel
theorem dX5_branches_10 : decode cX5_branches 10 = .ok (.lcmp, 1) := by decide +kernel
theorem dX5_branches_11 : decode cX5_branches 11 = .ok (.ifCond .le 13, 3) := by decide +kernel
theorem dX5_branches_14 : decode cX5_branches 14 = .ok (.new 62, 3) := by decide +kernel
theorem dX5_branches_17 : decode cX5_branches 17 = .ok (.dup, 1) := by decide +kernel
theorem dX5_branches_18 : decode cX5_branches 18 = .ok (.ldc 156, 2) := by decide +kernel
theorem dX5_branches_20 : decode cX5_branches 20 = .ok (.invokespecial 66, 3) := by decide +kernel
theorem dX5_branches_23 : decode cX5_branches 23 = .ok (.athrow, 1) := by decide +kernel
theorem dX5_branches_24 : decode cX5_branches 24 = .ok (.aload_n 0, 1) := by decide +kernel
theorem dX5_branches_25 : decode cX5_branches 25 = .ok (.getfield 36, 3) := by decide +kernel
theorem dX5_branches_28 : decode cX5_branches 28 = .ok (.aload_n 0, 1) := by decide +kernel
theorem dX5_branches_29 : decode cX5_branches 29 = .ok (.getfield 10, 3) := by decide +kernel
theorem dX5_branches_32 : decode cX5_branches 32 = .ok (.aload_n 0, 1) := by decide +kernel
theorem dX5_branches_33 : decode cX5_branches 33 = .ok (.getfield 19, 3) := by decide +kernel
theorem dX5_branches_36 : decode cX5_branches 36 = .ok (.iconst 0, 1) := by decide +kernel
theorem dX5_branches_37 : decode cX5_branches 37 = .ok (.invokevirtual 158, 3) := by decide +kernel
theorem dX5_branches_40 : decode cX5_branches 40 = .ok (.aload_n 0, 1) := by decide +kernel
theorem dX5_branches_41 : decode cX5_branches 41 = .ok (.getfield 36, 3) := by decide +kernel
theorem dX5_branches_44 : decode cX5_branches 44 = .ok (.getfield 162, 3) := by decide +kernel
theorem dX5_branches_47 : decode cX5_branches 47 = .ok (.getfield 166, 3) := by decide +kernel
theorem dX5_branches_50 : decode cX5_branches 50 = .ok (.ireturn, 1) := by decide +kernel
set_option maxRecDepth 20000 in
theorem ggX5_branch_X5_checkJoint : GoodIn wsX5_branch wsX5_checkJoint := goodIn_ca (goodIn_r _ [6, 7, 8, 9, 111, 112, 113, 114, 115, 116, 117, 125, 126, 127, 128, 129, 130] (by decide +kernel) (by decide +kernel)) (goodIn_sub (fun _ h => List.mem_cons_of_mem _ (List.mem_append_left _ (List.mem_append_left _ (List.mem_append_right _ h)))) (by decide +kernel))
set_option maxRecDepth 20000 in
theorem gX5_branch_X5_checkJoint : GoodIn wsX5_branch (wsV RX5 71 RX5 yX5_checkJoint wsX5_checkJoint) := goodIn_app (goodIn_of _ (by decide +kernel)) ggX5_branch_X5_checkJoint
set_option maxRecDepth 20000 in
theorem ggX5_branch_X5_findBranch : GoodIn wsX5_branch wsX5_findBranch := goodIn_ca (goodIn_ca (goodIn_ca (goodIn_r _ [13, 7, 8, 14, 15, 16, 17, 9, 18, 1, 19, 20, 21, 22, 23, 24, 25, 26, 27, 28, 29, 30, 31, 32, 33, 34, 35, 36, 37, 38, 39, 40, 41, 42, 43, 44, 45, 46, 47, 48, 49, 50, 51, 52, 53, 54, 55, 56, 57, 58, 59, 60, 61, 62, 63, 64, 65, 66, 67, 68, 69, 70, 71, 72, 73, 74, 75, 76, 77, 78, 79, 80, 81, 82, 83, 84, 85, 86, 87, 88, 89, 90, 91, 92, 93, 94, 95, 96, 97, 98, 99, 100, 101, 102, 5, 103, 104, 105, 106, 107, 111, 112, 113, 114, 115, 116, 117, 118, 119, 120, 121, 122, 123, 124, 131, 132, 133, 125, 126, 127, 128, 129, 130, 134, 135, 136] (by decide +kernel) (by decide +kernel)) (goodIn_sub (fun _ h => List.mem_cons_of_mem _ (List.mem_append_left _ (List.mem_append_left _ (List.mem_append_right _ h)))) (by decide +kernel))) (goodIn_sub (fun _ h => List.mem_cons_of_mem _ (List.mem_append_left _ (List.mem_append_right _ h))) (by decide +kernel))) (goodIn_sub (fun _ h => List.mem_cons_of_mem _ (List.mem_append_right _ h)) (by decide +kernel))
set_option maxRecDepth 20000 in
theorem gX5_branch_X5_findBranch : GoodIn wsX5_branch (wsV RX5 171 RX5 yX5_findBranch wsX5_findBranch) := goodIn_app (goodIn_of _ (by decide +kernel)) ggX5_branch_X5_findBranch
set_option maxRecDepth 20000 in
theorem ggX5_branch_X2_valueOf : GoodIn wsX5_branch wsX2_valueOf := goodIn_r _ [110, 88, 131, 132, 133] (by decide +kernel) (by decide +kernel)
set_option maxRecDepth 20000 in
theorem gX5_branch_X2_valueOf_n174 : GoodIn wsX5_branch (wsX2_valueOf) := ggX5_branch_X2_valueOf
theorem dX5_branch_0 : decode cX5_branch 0 = .ok (.aload_n 0, 1) := by decide +kernel
theorem dX5_branch_1 : decode cX5_branch 1 = .ok (.iload_n 3, 1) := by decide +kernel
theorem dX5_branch_2 : decode cX5_branch 2 = .ok (.invokevirtual 71, 3) := by decide +kernel
theorem dX5_branch_5 : decode cX5_branch 5 = .ok (.aload_n 0, 1) := by decide +kernel
theorem dX5_branch_6 : decode cX5_branch 6 = .ok (.iload_n 1, 1) := by decide +kernel
theorem dX5_branch_7 : decode cX5_branch 7 = .ok (.iload_n 2, 1) := by decide +kernel
theorem dX5_branch_8 : decode cX5_branch 8 = .ok (.invokevirtual 171, 3) := by decide +kernel
theorem dX5_branch_11 : decode cX5_branch 11 = .ok (.aload_n 0, 1) := by decide +kernel
theorem dX5_branch_12 : decode cX5_branch 12 = .ok (.getfield 36, 3) := by decide +kernel
theorem dX5_branch_15 : decode cX5_branch 15 = .ok (.getfield 162, 3) := by decide +kernel
theorem dX5_branch_18 : decode cX5_branch 18 = .ok (.iload_n 1, 1) := by decide +kernel
theorem dX5_branch_19 : decode cX5_branch 19 = .ok (.iload_n 3, 1) := by decide +kernel
theorem dX5_branch_20 : decode cX5_branch 20 = .ok (.invokevirtual 174, 3) := by decide +kernel
theorem dX5_branch_23 : decode cX5_branch 23 = .ok (.ireturn, 1) := by decide +kernel
set_option maxRecDepth 20000 in
theorem ggX5_take_X5_findBranch : GoodIn wsX5_take wsX5_findBranch := goodIn_ca (goodIn_ca (goodIn_ca (goodIn_r _ [7, 8, 9, 10, 11, 12, 13, 1, 14, 2, 15, 16, 17, 18, 19, 20, 21, 22, 23, 24, 25, 26, 27, 28, 29, 30, 31, 32, 33, 34, 35, 36, 37, 38, 39, 40, 41, 42, 43, 44, 45, 46, 47, 48, 49, 50, 51, 52, 53, 54, 55, 56, 57, 58, 59, 60, 61, 62, 63, 64, 65, 66, 67, 68, 69, 70, 71, 72, 73, 74, 75, 76, 77, 78, 79, 80, 81, 82, 83, 84, 85, 86, 87, 88, 89, 90, 91, 92, 93, 94, 95, 96, 97, 98, 6, 99, 100, 101, 102, 103, 131, 132, 133, 134, 135, 136, 137, 144, 145, 146, 147, 148, 149, 150, 151, 152, 153, 138, 139, 140, 141, 142, 143, 154, 155, 156] (by decide +kernel) (by decide +kernel)) (goodIn_sub (fun _ h => List.mem_cons_of_mem _ (List.mem_append_left _ (List.mem_append_left _ (List.mem_append_right _ h)))) (by decide +kernel))) (goodIn_sub (fun _ h => List.mem_cons_of_mem _ (List.mem_append_left _ (List.mem_append_right _ h))) (by decide +kernel))) (goodIn_sub (fun _ h => List.mem_cons_of_mem _ (List.mem_append_right _ h)) (by decide +kernel))
set_option maxRecDepth 20000 in
theorem gX5_take_X5_findBranch : GoodIn wsX5_take (wsV RX5 171 RX5 yX5_findBranch wsX5_findBranch) := goodIn_app (goodIn_of _ (by decide +kernel)) ggX5_take_X5_findBranch
set_option maxRecDepth 20000 in
theorem ggX5_take_X2_valueOf : GoodIn wsX5_take wsX2_valueOf := goodIn_r _ [106, 84, 151, 152, 153] (by decide +kernel) (by decide +kernel)
set_option maxRecDepth 20000 in
theorem gX5_take_X2_valueOf_n174 : GoodIn wsX5_take (wsX2_valueOf) := ggX5_take_X2_valueOf
set_option maxRecDepth 20000 in
theorem ggX5_take_X5_farNow : GoodIn wsX5_take wsX5_farNow := goodIn_r _ [110, 111, 1, 15, 112, 113, 114, 115, 116, 117, 118, 119, 120, 121, 122, 123, 124, 125, 126, 76, 17, 77, 78, 41, 38, 39, 40, 42, 127, 128, 129, 130, 98, 6, 99, 100, 101, 102, 103, 68, 50, 69, 70, 53, 58, 131, 132, 133, 134, 135, 136, 137, 157, 158, 159, 138, 139, 140, 141, 142, 143, 154, 155, 156] (by decide +kernel) (by decide +kernel)
set_option maxRecDepth 20000 in
theorem gX5_take_X5_farNow : GoodIn wsX5_take (wsV RX5 132 RX5 yX5_farNow wsX5_farNow) := goodIn_app (goodIn_of _ (by decide +kernel)) ggX5_take_X5_farNow
theorem dX5_take_0 : decode cX5_take 0 = .ok (.aload_n 0, 1) := by decide +kernel
theorem dX5_take_1 : decode cX5_take 1 = .ok (.iload_n 1, 1) := by decide +kernel
theorem dX5_take_2 : decode cX5_take 2 = .ok (.iload_n 2, 1) := by decide +kernel
theorem dX5_take_3 : decode cX5_take 3 = .ok (.invokevirtual 171, 3) := by decide +kernel
theorem dX5_take_6 : decode cX5_take 6 = .ok (.iconst 0, 1) := by decide +kernel
theorem dX5_take_7 : decode cX5_take 7 = .ok (.istore_n 3, 1) := by decide +kernel
theorem dX5_take_8 : decode cX5_take 8 = .ok (.iload_n 3, 1) := by decide +kernel
theorem dX5_take_9 : decode cX5_take 9 = .ok (.aload_n 0, 1) := by decide +kernel
theorem dX5_take_10 : decode cX5_take 10 = .ok (.getfield 10, 3) := by decide +kernel
theorem dX5_take_13 : decode cX5_take 13 = .ok (.getfield 108, 3) := by decide +kernel
theorem dX5_take_16 : decode cX5_take 16 = .ok (.if_icmp .ge 30, 3) := by decide +kernel
theorem dX5_take_19 : decode cX5_take 19 = .ok (.aload_n 0, 1) := by decide +kernel
end
section
theorem dX5_take_20 : decode cX5_take 20 = .ok (.getfield 10, 3) := by decide +kernel
theorem dX5_take_23 : decode cX5_take 23 = .ok (.getfield 83, 3) := by decide +kernel
theorem dX5_take_26 : decode cX5_take 26 = .ok (.iload_n 3, 1) := by decide +kernel
theorem dX5_take_27 : decode cX5_take 27 = .ok (.aload_n 0, 1) := by decide +kernel
theorem dX5_take_28 : decode cX5_take 28 = .ok (.getfield 36, 3) := by decide +kernel
theorem dX5_take_31 : decode cX5_take 31 = .ok (.getfield 162, 3) := by decide +kernel
theorem dX5_take_34 : decode cX5_take 34 = .ok (.iload_n 1, 1) := by decide +kernel
theorem dX5_take_35 : decode cX5_take 35 = .ok (.iload_n 3, 1) := by decide +kernel
theorem dX5_take_36 : decode cX5_take 36 = .ok (.invokevirtual 174, 3) := by decide +kernel
theorem dX5_take_39 : decode cX5_take 39 = .ok (.iastore, 1) := by decide +kernel
theorem dX5_take_40 : decode cX5_take 40 = .ok (.iinc 3 1, 3) := by decide +kernel
theorem dX5_take_43 : decode cX5_take 43 = .ok (.goto (-35), 3) := by decide +kernel
theorem dX5_take_46 : decode cX5_take 46 = .ok (.aload_n 0, 1) := by decide +kernel
theorem dX5_take_47 : decode cX5_take 47 = .ok (.invokevirtual 132, 3) := by decide +kernel
theorem dX5_take_50 : decode cX5_take 50 = .ok (.lreturn, 1) := by decide +kernel
theorem dX5_checkJoint_0 : decode cX5_checkJoint 0 = .ok (.iload_n 1, 1) := by decide +kernel
theorem dX5_checkJoint_1 : decode cX5_checkJoint 1 = .ok (.ifCond .lt 14, 3) := by decide +kernel
theorem dX5_checkJoint_4 : decode cX5_checkJoint 4 = .ok (.iload_n 1, 1) := by decide +kernel
theorem dX5_checkJoint_5 : decode cX5_checkJoint 5 = .ok (.aload_n 0, 1) := by decide +kernel
theorem dX5_checkJoint_6 : decode cX5_checkJoint 6 = .ok (.getfield 10, 3) := by decide +kernel
theorem dX5_checkJoint_9 : decode cX5_checkJoint 9 = .ok (.getfield 108, 3) := by decide +kernel
theorem dX5_checkJoint_12 : decode cX5_checkJoint 12 = .ok (.if_icmp .lt 13, 3) := by decide +kernel
theorem dX5_checkJoint_15 : decode cX5_checkJoint 15 = .ok (.new 178, 3) := by decide +kernel
theorem dX5_checkJoint_18 : decode cX5_checkJoint 18 = .ok (.dup, 1) := by decide +kernel
theorem dX5_checkJoint_19 : decode cX5_checkJoint 19 = .ok (.ldc 180, 2) := by decide +kernel
theorem dX5_checkJoint_21 : decode cX5_checkJoint 21 = .ok (.invokespecial 182, 3) := by decide +kernel
theorem dX5_checkJoint_24 : decode cX5_checkJoint 24 = .ok (.athrow, 1) := by decide +kernel
theorem dX5_checkJoint_25 : decode cX5_checkJoint 25 = .ok (.return_, 1) := by decide +kernel
theorem dX5_checkTold_0 : decode cX5_checkTold 0 = .ok (.iload_n 0, 1) := by decide +kernel
theorem dX5_checkTold_1 : decode cX5_checkTold 1 = .ok (.ifCond .lt 8, 3) := by decide +kernel
theorem dX5_checkTold_4 : decode cX5_checkTold 4 = .ok (.iload_n 0, 1) := by decide +kernel
theorem dX5_checkTold_5 : decode cX5_checkTold 5 = .ok (.iload_n 1, 1) := by decide +kernel
theorem dX5_checkTold_6 : decode cX5_checkTold 6 = .ok (.if_icmp .le 13, 3) := by decide +kernel
theorem dX5_checkTold_9 : decode cX5_checkTold 9 = .ok (.new 47, 3) := by decide +kernel
theorem dX5_checkTold_12 : decode cX5_checkTold 12 = .ok (.dup, 1) := by decide +kernel
theorem dX5_checkTold_13 : decode cX5_checkTold 13 = .ok (.ldc 183, 2) := by decide +kernel
theorem dX5_checkTold_15 : decode cX5_checkTold 15 = .ok (.invokespecial 51, 3) := by decide +kernel
theorem dX5_checkTold_18 : decode cX5_checkTold 18 = .ok (.athrow, 1) := by decide +kernel
theorem dX5_checkTold_19 : decode cX5_checkTold 19 = .ok (.return_, 1) := by decide +kernel
set_option maxRecDepth 20000 in
theorem ggX5_farNow_X4_follow : GoodIn wsX5_farNow wsX4_follow := goodIn_r _ [7, 8, 9, 10, 5, 11, 12, 13, 14, 15, 16, 17, 18, 19, 20, 21, 22, 23, 24, 25, 26, 27, 28, 29, 30, 31, 32, 33, 34, 35, 36, 37, 38, 55, 56, 57, 58, 59, 60, 52, 53, 54] (by decide +kernel) (by decide +kernel)
set_option maxRecDepth 20000 in
theorem gX5_farNow_X4_follow_n90 : GoodIn wsX5_farNow (wsX4_follow) := ggX5_farNow_X4_follow
set_option maxRecDepth 20000 in
theorem ggX5_farNow_X1_farFrom : GoodIn wsX5_farNow wsX1_farFrom := goodIn_r _ [42, 43, 44, 61, 62, 63] (by decide +kernel) (by decide +kernel)
set_option maxRecDepth 20000 in
theorem gX5_farNow_X1_farFrom_n187 : GoodIn wsX5_farNow (wsX1_farFrom) := ggX5_farNow_X1_farFrom
theorem dX5_farNow_0 : decode cX5_farNow 0 = .ok (.aload_n 0, 1) := by decide +kernel
theorem dX5_farNow_1 : decode cX5_farNow 1 = .ok (.getfield 26, 3) := by decide +kernel
theorem dX5_farNow_4 : decode cX5_farNow 4 = .ok (.aload_n 0, 1) := by decide +kernel
theorem dX5_farNow_5 : decode cX5_farNow 5 = .ok (.getfield 10, 3) := by decide +kernel
theorem dX5_farNow_8 : decode cX5_farNow 8 = .ok (.invokevirtual 90, 3) := by decide +kernel
theorem dX5_farNow_11 : decode cX5_farNow 11 = .ok (.aload_n 0, 1) := by decide +kernel
theorem dX5_farNow_12 : decode cX5_farNow 12 = .ok (.getfield 19, 3) := by decide +kernel
theorem dX5_farNow_15 : decode cX5_farNow 15 = .ok (.aload_n 0, 1) := by decide +kernel
theorem dX5_farNow_16 : decode cX5_farNow 16 = .ok (.getfield 26, 3) := by decide +kernel
theorem dX5_farNow_19 : decode cX5_farNow 19 = .ok (.getfield 185, 3) := by decide +kernel
theorem dX5_farNow_22 : decode cX5_farNow 22 = .ok (.aload_n 0, 1) := by decide +kernel
theorem dX5_farNow_23 : decode cX5_farNow 23 = .ok (.getfield 26, 3) := by decide +kernel
theorem dX5_farNow_26 : decode cX5_farNow 26 = .ok (.getfield 186, 3) := by decide +kernel
theorem dX5_farNow_29 : decode cX5_farNow 29 = .ok (.invokevirtual 187, 3) := by decide +kernel
theorem dX5_farNow_32 : decode cX5_farNow 32 = .ok (.lreturn, 1) := by decide +kernel
set_option maxRecDepth 20000 in
theorem ggX5_farWith_X4_followWith : GoodIn wsX5_farWith wsX4_followWith := goodIn_r _ [7, 8, 9, 10, 11, 5, 12, 13, 14, 15, 16, 17, 18, 19, 20, 21, 22, 23, 24, 25, 26, 27, 28, 29, 30, 31, 32, 33, 34, 51, 52, 53, 54, 55, 56, 48, 49, 50] (by decide +kernel) (by decide +kernel)
set_option maxRecDepth 20000 in
theorem gX5_farWith_X4_followWith_n101 : GoodIn wsX5_farWith (wsX4_followWith) := ggX5_farWith_X4_followWith
set_option maxRecDepth 20000 in
theorem ggX5_farWith_X1_farFrom : GoodIn wsX5_farWith wsX1_farFrom := goodIn_r _ [38, 39, 40, 57, 58, 59] (by decide +kernel) (by decide +kernel)
set_option maxRecDepth 20000 in
theorem gX5_farWith_X1_farFrom_n187 : GoodIn wsX5_farWith (wsX1_farFrom) := ggX5_farWith_X1_farFrom
theorem dX5_farWith_0 : decode cX5_farWith 0 = .ok (.aload_n 0, 1) := by decide +kernel
theorem dX5_farWith_1 : decode cX5_farWith 1 = .ok (.getfield 30, 3) := by decide +kernel
theorem dX5_farWith_4 : decode cX5_farWith 4 = .ok (.aload_n 0, 1) := by decide +kernel
theorem dX5_farWith_5 : decode cX5_farWith 5 = .ok (.getfield 10, 3) := by decide +kernel
theorem dX5_farWith_8 : decode cX5_farWith 8 = .ok (.iload_n 1, 1) := by decide +kernel
theorem dX5_farWith_9 : decode cX5_farWith 9 = .ok (.iload_n 2, 1) := by decide +kernel
theorem dX5_farWith_10 : decode cX5_farWith 10 = .ok (.invokevirtual 101, 3) := by decide +kernel
theorem dX5_farWith_13 : decode cX5_farWith 13 = .ok (.aload_n 0, 1) := by decide +kernel
theorem dX5_farWith_14 : decode cX5_farWith 14 = .ok (.getfield 19, 3) := by decide +kernel
theorem dX5_farWith_17 : decode cX5_farWith 17 = .ok (.aload_n 0, 1) := by decide +kernel
theorem dX5_farWith_18 : decode cX5_farWith 18 = .ok (.getfield 30, 3) := by decide +kernel
theorem dX5_farWith_21 : decode cX5_farWith 21 = .ok (.getfield 185, 3) := by decide +kernel
theorem dX5_farWith_24 : decode cX5_farWith 24 = .ok (.aload_n 0, 1) := by decide +kernel
theorem dX5_farWith_25 : decode cX5_farWith 25 = .ok (.getfield 30, 3) := by decide +kernel
theorem dX5_farWith_28 : decode cX5_farWith 28 = .ok (.getfield 186, 3) := by decide +kernel
theorem dX5_farWith_31 : decode cX5_farWith 31 = .ok (.invokevirtual 187, 3) := by decide +kernel
theorem dX5_farWith_34 : decode cX5_farWith 34 = .ok (.lreturn, 1) := by decide +kernel
set_option maxRecDepth 20000 in
theorem ggX5_findMoves_X4_follow : GoodIn wsX5_findMoves wsX4_follow := goodIn_r _ [9, 10, 11, 12, 7, 13, 14, 15, 16, 17, 18, 19, 20, 21, 22, 23, 24, 25, 26, 27, 28, 29, 30, 31, 32, 33, 34, 35, 36, 37, 38, 39, 40, 48, 49, 50, 51, 52, 53, 54, 55, 56] (by decide +kernel) (by decide +kernel)
set_option maxRecDepth 20000 in
theorem gX5_findMoves_X4_follow_n90 : GoodIn wsX5_findMoves (wsX4_follow) := ggX5_findMoves_X4_follow
set_option maxRecDepth 20000 in
theorem ggX5_findMoves_X4_followWith : GoodIn wsX5_findMoves wsX4_followWith := goodIn_r _ [13, 14, 15, 16, 17, 7, 18, 19, 20, 21, 22, 23, 24, 25, 26, 27, 28, 29, 30, 31, 32, 33, 34, 35, 36, 37, 38, 39, 40, 48, 49, 50, 51, 52, 53, 54, 55, 56] (by decide +kernel) (by decide +kernel)
set_option maxRecDepth 20000 in
theorem gX5_findMoves_X4_followWith_n101 : GoodIn wsX5_findMoves (wsX4_followWith) := ggX5_findMoves_X4_followWith
theorem dX5_findMoves_0 : decode cX5_findMoves 0 = .ok (.aload_n 0, 1) := by decide +kernel
theorem dX5_findMoves_1 : decode cX5_findMoves 1 = .ok (.getfield 26, 3) := by decide +kernel
theorem dX5_findMoves_4 : decode cX5_findMoves 4 = .ok (.aload_n 0, 1) := by decide +kernel
theorem dX5_findMoves_5 : decode cX5_findMoves 5 = .ok (.getfield 10, 3) := by decide +kernel
theorem dX5_findMoves_8 : decode cX5_findMoves 8 = .ok (.invokevirtual 90, 3) := by decide +kernel
theorem dX5_findMoves_11 : decode cX5_findMoves 11 = .ok (.iconst 0, 1) := by decide +kernel
theorem dX5_findMoves_12 : decode cX5_findMoves 12 = .ok (.istore_n 1, 1) := by decide +kernel
theorem dX5_findMoves_13 : decode cX5_findMoves 13 = .ok (.iload_n 1, 1) := by decide +kernel
theorem dX5_findMoves_14 : decode cX5_findMoves 14 = .ok (.aload_n 0, 1) := by decide +kernel
theorem dX5_findMoves_15 : decode cX5_findMoves 15 = .ok (.getfield 10, 3) := by decide +kernel
theorem dX5_findMoves_18 : decode cX5_findMoves 18 = .ok (.getfield 108, 3) := by decide +kernel
theorem dX5_findMoves_21 : decode cX5_findMoves 21 = .ok (.if_icmp .ge 74, 3) := by decide +kernel
theorem dX5_findMoves_24 : decode cX5_findMoves 24 = .ok (.aload_n 0, 1) := by decide +kernel
theorem dX5_findMoves_25 : decode cX5_findMoves 25 = .ok (.getfield 30, 3) := by decide +kernel
theorem dX5_findMoves_28 : decode cX5_findMoves 28 = .ok (.aload_n 0, 1) := by decide +kernel
theorem dX5_findMoves_29 : decode cX5_findMoves 29 = .ok (.getfield 10, 3) := by decide +kernel
theorem dX5_findMoves_32 : decode cX5_findMoves 32 = .ok (.iload_n 1, 1) := by decide +kernel
theorem dX5_findMoves_33 : decode cX5_findMoves 33 = .ok (.aload_n 0, 1) := by decide +kernel
theorem dX5_findMoves_34 : decode cX5_findMoves 34 = .ok (.getfield 10, 3) := by decide +kernel
theorem dX5_findMoves_37 : decode cX5_findMoves 37 = .ok (.getfield 83, 3) := by decide +kernel
theorem dX5_findMoves_40 : decode cX5_findMoves 40 = .ok (.iload_n 1, 1) := by decide +kernel
theorem dX5_findMoves_41 : decode cX5_findMoves 41 = .ok (.iaload, 1) := by decide +kernel
theorem dX5_findMoves_42 : decode cX5_findMoves 42 = .ok (.iconst 1, 1) := by decide +kernel
theorem dX5_findMoves_43 : decode cX5_findMoves 43 = .ok (.iadd, 1) := by decide +kernel
theorem dX5_findMoves_44 : decode cX5_findMoves 44 = .ok (.invokevirtual 101, 3) := by decide +kernel
theorem dX5_findMoves_47 : decode cX5_findMoves 47 = .ok (.aload_n 0, 1) := by decide +kernel
theorem dX5_findMoves_48 : decode cX5_findMoves 48 = .ok (.getfield 40, 3) := by decide +kernel
theorem dX5_findMoves_51 : decode cX5_findMoves 51 = .ok (.iload_n 1, 1) := by decide +kernel
theorem dX5_findMoves_52 : decode cX5_findMoves 52 = .ok (.aload_n 0, 1) := by decide +kernel
theorem dX5_findMoves_53 : decode cX5_findMoves 53 = .ok (.getfield 30, 3) := by decide +kernel
theorem dX5_findMoves_56 : decode cX5_findMoves 56 = .ok (.getfield 185, 3) := by decide +kernel
theorem dX5_findMoves_59 : decode cX5_findMoves 59 = .ok (.aload_n 0, 1) := by decide +kernel
theorem dX5_findMoves_60 : decode cX5_findMoves 60 = .ok (.getfield 26, 3) := by decide +kernel
theorem dX5_findMoves_63 : decode cX5_findMoves 63 = .ok (.getfield 185, 3) := by decide +kernel
theorem dX5_findMoves_66 : decode cX5_findMoves 66 = .ok (.isub, 1) := by decide +kernel
theorem dX5_findMoves_67 : decode cX5_findMoves 67 = .ok (.iastore, 1) := by decide +kernel
theorem dX5_findMoves_68 : decode cX5_findMoves 68 = .ok (.aload_n 0, 1) := by decide +kernel
theorem dX5_findMoves_69 : decode cX5_findMoves 69 = .ok (.getfield 44, 3) := by decide +kernel
theorem dX5_findMoves_72 : decode cX5_findMoves 72 = .ok (.iload_n 1, 1) := by decide +kernel
theorem dX5_findMoves_73 : decode cX5_findMoves 73 = .ok (.aload_n 0, 1) := by decide +kernel
theorem dX5_findMoves_74 : decode cX5_findMoves 74 = .ok (.getfield 30, 3) := by decide +kernel
theorem dX5_findMoves_77 : decode cX5_findMoves 77 = .ok (.getfield 186, 3) := by decide +kernel
theorem dX5_findMoves_80 : decode cX5_findMoves 80 = .ok (.aload_n 0, 1) := by decide +kernel
theorem dX5_findMoves_81 : decode cX5_findMoves 81 = .ok (.getfield 26, 3) := by decide +kernel
theorem dX5_findMoves_84 : decode cX5_findMoves 84 = .ok (.getfield 186, 3) := by decide +kernel
theorem dX5_findMoves_87 : decode cX5_findMoves 87 = .ok (.isub, 1) := by decide +kernel
theorem dX5_findMoves_88 : decode cX5_findMoves 88 = .ok (.iastore, 1) := by decide +kernel
theorem dX5_findMoves_89 : decode cX5_findMoves 89 = .ok (.iinc 1 1, 3) := by decide +kernel
theorem dX5_findMoves_92 : decode cX5_findMoves 92 = .ok (.goto (-79), 3) := by decide +kernel
theorem dX5_findMoves_95 : decode cX5_findMoves 95 = .ok (.return_, 1) := by decide +kernel
set_option maxRecDepth 20000 in
theorem ggX5_stepped_X5_farNow : GoodIn wsX5_stepped wsX5_farNow := goodIn_r _ [6, 7, 1, 8, 9, 10, 11, 12, 13, 14, 15, 16, 17, 18, 19, 20, 21, 22, 23, 24, 25, 26, 27, 28, 29, 30, 31, 32, 33, 34, 35, 36, 37, 5, 38, 39, 40, 41, 42, 43, 44, 45, 46, 47, 48, 66, 67, 68, 69, 70, 71, 72, 79, 80, 81, 73, 74, 75, 76, 77, 78, 82, 83, 84] (by decide +kernel) (by decide +kernel)
set_option maxRecDepth 20000 in
theorem gX5_stepped_X5_farNow : GoodIn wsX5_stepped (wsV RX5 132 RX5 yX5_farNow wsX5_farNow) := goodIn_app (goodIn_of _ (by decide +kernel)) ggX5_stepped_X5_farNow
set_option maxRecDepth 20000 in
theorem ggX5_stepped_X0_held : GoodIn wsX5_stepped wsX0_held := goodIn_r _ [51, 52, 53, 54, 55, 56, 57, 58, 59, 60, 73, 74, 75, 76, 77, 78] (by decide +kernel) (by decide +kernel)
set_option maxRecDepth 20000 in
theorem gX5_stepped_X0_held_n190 : GoodIn wsX5_stepped (wsX0_held) := ggX5_stepped_X0_held
set_option maxRecDepth 20000 in
theorem ggX5_stepped_X5_farWith : GoodIn wsX5_stepped wsX5_farWith := goodIn_r _ [64, 65, 1, 8, 14, 10, 15, 16, 17, 18, 19, 20, 21, 22, 23, 24, 25, 26, 27, 28, 29, 30, 31, 32, 33, 34, 35, 36, 37, 5, 38, 39, 40, 41, 42, 43, 44, 45, 46, 47, 48, 66, 67, 68, 69, 70, 71, 72, 79, 80, 81, 73, 74, 75, 76, 77, 78, 82, 83, 84] (by decide +kernel) (by decide +kernel)
set_option maxRecDepth 20000 in
theorem gX5_stepped_X5_farWith : GoodIn wsX5_stepped (wsV RX5 142 RX5 yX5_farWith wsX5_farWith) := goodIn_app (goodIn_of _ (by decide +kernel)) ggX5_stepped_X5_farWith
theorem dX5_stepped_0 : decode cX5_stepped 0 = .ok (.aload_n 0, 1) := by decide +kernel
theorem dX5_stepped_1 : decode cX5_stepped 1 = .ok (.invokevirtual 132, 3) := by decide +kernel
theorem dX5_stepped_4 : decode cX5_stepped 4 = .ok (.lstore_n 2, 1) := by decide +kernel
theorem dX5_stepped_5 : decode cX5_stepped 5 = .ok (.iconst (-1), 1) := by decide +kernel
theorem dX5_stepped_6 : decode cX5_stepped 6 = .ok (.istore 4, 2) := by decide +kernel
theorem dX5_stepped_8 : decode cX5_stepped 8 = .ok (.iconst 0, 1) := by decide +kernel
theorem dX5_stepped_9 : decode cX5_stepped 9 = .ok (.istore 5, 2) := by decide +kernel
theorem dX5_stepped_11 : decode cX5_stepped 11 = .ok (.iconst 0, 1) := by decide +kernel
theorem dX5_stepped_12 : decode cX5_stepped 12 = .ok (.istore 6, 2) := by decide +kernel
theorem dX5_stepped_14 : decode cX5_stepped 14 = .ok (.iload 6, 2) := by decide +kernel
theorem dX5_stepped_16 : decode cX5_stepped 16 = .ok (.aload_n 0, 1) := by decide +kernel
theorem dX5_stepped_17 : decode cX5_stepped 17 = .ok (.getfield 10, 3) := by decide +kernel
theorem dX5_stepped_20 : decode cX5_stepped 20 = .ok (.getfield 108, 3) := by decide +kernel
theorem dX5_stepped_23 : decode cX5_stepped 23 = .ok (.if_icmp .ge 78, 3) := by decide +kernel
theorem dX5_stepped_26 : decode cX5_stepped 26 = .ok (.iconst (-1), 1) := by decide +kernel
theorem dX5_stepped_27 : decode cX5_stepped 27 = .ok (.istore 7, 2) := by decide +kernel
theorem dX5_stepped_29 : decode cX5_stepped 29 = .ok (.iload 7, 2) := by decide +kernel
theorem dX5_stepped_31 : decode cX5_stepped 31 = .ok (.iconst 1, 1) := by decide +kernel
theorem dX5_stepped_32 : decode cX5_stepped 32 = .ok (.if_icmp .gt 63, 3) := by decide +kernel
theorem dX5_stepped_35 : decode cX5_stepped 35 = .ok (.aload_n 0, 1) := by decide +kernel
theorem dX5_stepped_36 : decode cX5_stepped 36 = .ok (.getfield 10, 3) := by decide +kernel
theorem dX5_stepped_39 : decode cX5_stepped 39 = .ok (.iload 6, 2) := by decide +kernel
theorem dX5_stepped_41 : decode cX5_stepped 41 = .ok (.aload_n 0, 1) := by decide +kernel
theorem dX5_stepped_42 : decode cX5_stepped 42 = .ok (.getfield 10, 3) := by decide +kernel
theorem dX5_stepped_45 : decode cX5_stepped 45 = .ok (.getfield 83, 3) := by decide +kernel
theorem dX5_stepped_48 : decode cX5_stepped 48 = .ok (.iload 6, 2) := by decide +kernel
theorem dX5_stepped_50 : decode cX5_stepped 50 = .ok (.iaload, 1) := by decide +kernel
theorem dX5_stepped_51 : decode cX5_stepped 51 = .ok (.iload 7, 2) := by decide +kernel
theorem dX5_stepped_53 : decode cX5_stepped 53 = .ok (.iload_n 1, 1) := by decide +kernel
theorem dX5_stepped_54 : decode cX5_stepped 54 = .ok (.imul, 1) := by decide +kernel
theorem dX5_stepped_55 : decode cX5_stepped 55 = .ok (.iadd, 1) := by decide +kernel
theorem dX5_stepped_56 : decode cX5_stepped 56 = .ok (.invokevirtual 190, 3) := by decide +kernel
theorem dX5_stepped_59 : decode cX5_stepped 59 = .ok (.istore 8, 2) := by decide +kernel
theorem dX5_stepped_61 : decode cX5_stepped 61 = .ok (.aload_n 0, 1) := by decide +kernel
theorem dX5_stepped_62 : decode cX5_stepped 62 = .ok (.iload 6, 2) := by decide +kernel
theorem dX5_stepped_64 : decode cX5_stepped 64 = .ok (.iload 8, 2) := by decide +kernel
theorem dX5_stepped_66 : decode cX5_stepped 66 = .ok (.invokevirtual 142, 3) := by decide +kernel
theorem dX5_stepped_69 : decode cX5_stepped 69 = .ok (.lstore 9, 2) := by decide +kernel
theorem dX5_stepped_71 : decode cX5_stepped 71 = .ok (.lload 9, 2) := by decide +kernel
theorem dX5_stepped_73 : decode cX5_stepped 73 = .ok (.lload_n 2, 1) := by decide +kernel
theorem dX5_stepped_74 : decode cX5_stepped 74 = .ok (.lcmp, 1) := by decide +kernel
theorem dX5_stepped_75 : decode cX5_stepped 75 = .ok (.ifCond .ge 14, 3) := by decide +kernel
theorem dX5_stepped_78 : decode cX5_stepped 78 = .ok (.lload 9, 2) := by decide +kernel
theorem dX5_stepped_80 : decode cX5_stepped 80 = .ok (.lstore_n 2, 1) := by decide +kernel
theorem dX5_stepped_81 : decode cX5_stepped 81 = .ok (.iload 6, 2) := by decide +kernel
theorem dX5_stepped_83 : decode cX5_stepped 83 = .ok (.istore 4, 2) := by decide +kernel
theorem dX5_stepped_85 : decode cX5_stepped 85 = .ok (.iload 8, 2) := by decide +kernel
theorem dX5_stepped_87 : decode cX5_stepped 87 = .ok (.istore 5, 2) := by decide +kernel
theorem dX5_stepped_89 : decode cX5_stepped 89 = .ok (.iinc 7 2, 3) := by decide +kernel
theorem dX5_stepped_92 : decode cX5_stepped 92 = .ok (.goto (-63), 3) := by decide +kernel
theorem dX5_stepped_95 : decode cX5_stepped 95 = .ok (.iinc 6 1, 3) := by decide +kernel
theorem dX5_stepped_98 : decode cX5_stepped 98 = .ok (.goto (-84), 3) := by decide +kernel
theorem dX5_stepped_101 : decode cX5_stepped 101 = .ok (.iload 4, 2) := by decide +kernel
theorem dX5_stepped_103 : decode cX5_stepped 103 = .ok (.iconst (-1), 1) := by decide +kernel
theorem dX5_stepped_104 : decode cX5_stepped 104 = .ok (.if_icmp .ne 5, 3) := by decide +kernel
theorem dX5_stepped_107 : decode cX5_stepped 107 = .ok (.iconst 0, 1) := by decide +kernel
theorem dX5_stepped_108 : decode cX5_stepped 108 = .ok (.ireturn, 1) := by decide +kernel
theorem dX5_stepped_109 : decode cX5_stepped 109 = .ok (.aload_n 0, 1) := by decide +kernel
theorem dX5_stepped_110 : decode cX5_stepped 110 = .ok (.getfield 10, 3) := by decide +kernel
theorem dX5_stepped_113 : decode cX5_stepped 113 = .ok (.getfield 83, 3) := by decide +kernel
theorem dX5_stepped_116 : decode cX5_stepped 116 = .ok (.iload 4, 2) := by decide +kernel
theorem dX5_stepped_118 : decode cX5_stepped 118 = .ok (.iload 5, 2) := by decide +kernel
theorem dX5_stepped_120 : decode cX5_stepped 120 = .ok (.iastore, 1) := by decide +kernel
theorem dX5_stepped_121 : decode cX5_stepped 121 = .ok (.iconst 1, 1) := by decide +kernel
theorem dX5_stepped_122 : decode cX5_stepped 122 = .ok (.ireturn, 1) := by decide +kernel
set_option maxRecDepth 20000 in
theorem ggX5_findBranch_X0_countPoses : GoodIn wsX5_findBranch wsX0_countPoses := goodIn_r _ [14, 15, 16, 17, 117, 118, 119, 120, 121, 122] (by decide +kernel) (by decide +kernel)
set_option maxRecDepth 20000 in
theorem gX5_findBranch_X0_countPoses_n151 : GoodIn wsX5_findBranch (wsX0_countPoses) := ggX5_findBranch_X0_countPoses
set_option maxRecDepth 20000 in
theorem ggX5_findBranch_X3_run : GoodIn wsX5_findBranch wsX3_run := goodIn_r _ [21, 22, 23, 24, 25, 26, 27, 28, 29, 30, 19, 31, 32, 33, 12, 34, 35, 36, 37, 38, 39, 40, 41, 42, 43, 44, 45, 46, 47, 48, 49, 50, 51, 52, 53, 54, 55, 56, 57, 58, 59, 60, 61, 62, 63, 64, 65, 66, 67, 68, 69, 70, 71, 72, 73, 74, 75, 76, 77, 78, 79, 80, 81, 82, 83, 84, 85, 86, 87, 88, 89, 90, 91, 92, 93, 94, 95, 96, 97, 98, 99, 107, 108, 109, 110, 111, 112, 113, 117, 118, 119, 120, 121, 122, 114, 115, 116, 123, 124, 125] (by decide +kernel) (by decide +kernel)
set_option maxRecDepth 20000 in
theorem gX5_findBranch_X3_run_n158 : GoodIn wsX5_findBranch (wsX3_run) := ggX5_findBranch_X3_run
theorem dX5_findBranch_0 : decode cX5_findBranch 0 = .ok (.iload_n 1, 1) := by decide +kernel
theorem dX5_findBranch_1 : decode cX5_findBranch 1 = .ok (.ifCond .lt 9, 3) := by decide +kernel
theorem dX5_findBranch_4 : decode cX5_findBranch 4 = .ok (.iload_n 1, 1) := by decide +kernel
theorem dX5_findBranch_5 : decode cX5_findBranch 5 = .ok (.bipush 10, 2) := by decide +kernel
theorem dX5_findBranch_7 : decode cX5_findBranch 7 = .ok (.if_icmp .lt 13, 3) := by decide +kernel
theorem dX5_findBranch_10 : decode cX5_findBranch 10 = .ok (.new 178, 3) := by decide +kernel
theorem dX5_findBranch_13 : decode cX5_findBranch 13 = .ok (.dup, 1) := by decide +kernel
theorem dX5_findBranch_14 : decode cX5_findBranch 14 = .ok (.ldc 193, 2) := by decide +kernel
theorem dX5_findBranch_16 : decode cX5_findBranch 16 = .ok (.invokespecial 182, 3) := by decide +kernel
theorem dX5_findBranch_19 : decode cX5_findBranch 19 = .ok (.athrow, 1) := by decide +kernel
theorem dX5_findBranch_20 : decode cX5_findBranch 20 = .ok (.aload_n 0, 1) := by decide +kernel
theorem dX5_findBranch_21 : decode cX5_findBranch 21 = .ok (.getfield 10, 3) := by decide +kernel
theorem dX5_findBranch_24 : decode cX5_findBranch 24 = .ok (.invokevirtual 151, 3) := by decide +kernel
theorem dX5_findBranch_27 : decode cX5_findBranch 27 = .ok (.ldc2_w 154, 3) := by decide +kernel
theorem dX5_findBranch_30 : decode cX5_findBranch 30 = .ok (.lcmp, 1) := by decide +kernel
theorem dX5_findBranch_31 : decode cX5_findBranch 31 = .ok (.ifCond .gt 7, 3) := by decide +kernel
theorem dX5_findBranch_34 : decode cX5_findBranch 34 = .ok (.iconst 1, 1) := by decide +kernel
theorem dX5_findBranch_35 : decode cX5_findBranch 35 = .ok (.goto 4, 3) := by decide +kernel
theorem dX5_findBranch_38 : decode cX5_findBranch 38 = .ok (.iconst 0, 1) := by decide +kernel
theorem dX5_findBranch_39 : decode cX5_findBranch 39 = .ok (.istore_n 3, 1) := by decide +kernel
theorem dX5_findBranch_40 : decode cX5_findBranch 40 = .ok (.iload_n 3, 1) := by decide +kernel
theorem dX5_findBranch_41 : decode cX5_findBranch 41 = .ok (.ifCond .eq 43, 3) := by decide +kernel
theorem dX5_findBranch_44 : decode cX5_findBranch 44 = .ok (.aload_n 0, 1) := by decide +kernel
theorem dX5_findBranch_45 : decode cX5_findBranch 45 = .ok (.getfield 36, 3) := by decide +kernel
theorem dX5_findBranch_48 : decode cX5_findBranch 48 = .ok (.aload_n 0, 1) := by decide +kernel
theorem dX5_findBranch_49 : decode cX5_findBranch 49 = .ok (.getfield 10, 3) := by decide +kernel
theorem dX5_findBranch_52 : decode cX5_findBranch 52 = .ok (.aload_n 0, 1) := by decide +kernel
theorem dX5_findBranch_53 : decode cX5_findBranch 53 = .ok (.getfield 19, 3) := by decide +kernel
theorem dX5_findBranch_56 : decode cX5_findBranch 56 = .ok (.iload_n 2, 1) := by decide +kernel
theorem dX5_findBranch_57 : decode cX5_findBranch 57 = .ok (.invokevirtual 158, 3) := by decide +kernel
theorem dX5_findBranch_60 : decode cX5_findBranch 60 = .ok (.iload_n 1, 1) := by decide +kernel
theorem dX5_findBranch_61 : decode cX5_findBranch 61 = .ok (.aload_n 0, 1) := by decide +kernel
theorem dX5_findBranch_62 : decode cX5_findBranch 62 = .ok (.getfield 36, 3) := by decide +kernel
theorem dX5_findBranch_65 : decode cX5_findBranch 65 = .ok (.getfield 162, 3) := by decide +kernel
theorem dX5_findBranch_68 : decode cX5_findBranch 68 = .ok (.getfield 166, 3) := by decide +kernel
theorem dX5_findBranch_71 : decode cX5_findBranch 71 = .ok (.if_icmp .lt 13, 3) := by decide +kernel
theorem dX5_findBranch_74 : decode cX5_findBranch 74 = .ok (.new 178, 3) := by decide +kernel
theorem dX5_findBranch_77 : decode cX5_findBranch 77 = .ok (.dup, 1) := by decide +kernel
theorem dX5_findBranch_78 : decode cX5_findBranch 78 = .ok (.ldc 195, 2) := by decide +kernel
theorem dX5_findBranch_80 : decode cX5_findBranch 80 = .ok (.invokespecial 182, 3) := by decide +kernel
theorem dX5_findBranch_83 : decode cX5_findBranch 83 = .ok (.athrow, 1) := by decide +kernel
theorem dX5_findBranch_84 : decode cX5_findBranch 84 = .ok (.iload_n 2, 1) := by decide +kernel
theorem dX5_findBranch_85 : decode cX5_findBranch 85 = .ok (.ifCond .lt 8, 3) := by decide +kernel
theorem dX5_findBranch_88 : decode cX5_findBranch 88 = .ok (.iload_n 2, 1) := by decide +kernel
theorem dX5_findBranch_89 : decode cX5_findBranch 89 = .ok (.iconst 2, 1) := by decide +kernel
theorem dX5_findBranch_90 : decode cX5_findBranch 90 = .ok (.if_icmp .le 13, 3) := by decide +kernel
theorem dX5_findBranch_93 : decode cX5_findBranch 93 = .ok (.new 47, 3) := by decide +kernel
theorem dX5_findBranch_96 : decode cX5_findBranch 96 = .ok (.dup, 1) := by decide +kernel
theorem dX5_findBranch_97 : decode cX5_findBranch 97 = .ok (.ldc 197, 2) := by decide +kernel
theorem dX5_findBranch_99 : decode cX5_findBranch 99 = .ok (.invokespecial 51, 3) := by decide +kernel
theorem dX5_findBranch_102 : decode cX5_findBranch 102 = .ok (.athrow, 1) := by decide +kernel
theorem dX5_findBranch_103 : decode cX5_findBranch 103 = .ok (.iload_n 3, 1) := by decide +kernel
theorem dX5_findBranch_104 : decode cX5_findBranch 104 = .ok (.ifCond .ne 13, 3) := by decide +kernel
theorem dX5_findBranch_107 : decode cX5_findBranch 107 = .ok (.new 62, 3) := by decide +kernel
theorem dX5_findBranch_110 : decode cX5_findBranch 110 = .ok (.dup, 1) := by decide +kernel
theorem dX5_findBranch_111 : decode cX5_findBranch 111 = .ok (.ldc 156, 2) := by decide +kernel
theorem dX5_findBranch_113 : decode cX5_findBranch 113 = .ok (.invokespecial 66, 3) := by decide +kernel
theorem dX5_findBranch_116 : decode cX5_findBranch 116 = .ok (.athrow, 1) := by decide +kernel
theorem dX5_findBranch_117 : decode cX5_findBranch 117 = .ok (.return_, 1) := by decide +kernel
theorem dX5_sine_0 : decode cX5_sine 0 = .ok (.iload_n 0, 1) := by decide +kernel
theorem dX5_sine_1 : decode cX5_sine 1 = .ok (.bipush 31, 2) := by decide +kernel
theorem dX5_sine_3 : decode cX5_sine 3 = .ok (.iand, 1) := by decide +kernel
theorem dX5_sine_4 : decode cX5_sine 4 = .ok (.istore_n 1, 1) := by decide +kernel
theorem dX5_sine_5 : decode cX5_sine 5 = .ok (.getstatic 199, 3) := by decide +kernel
theorem dX5_sine_8 : decode cX5_sine 8 = .ok (.iload_n 1, 1) := by decide +kernel
theorem dX5_sine_9 : decode cX5_sine 9 = .ok (.bipush 16, 2) := by decide +kernel
theorem dX5_sine_11 : decode cX5_sine 11 = .ok (.if_icmp .gt 7, 3) := by decide +kernel
theorem dX5_sine_14 : decode cX5_sine 14 = .ok (.iload_n 1, 1) := by decide +kernel
theorem dX5_sine_15 : decode cX5_sine 15 = .ok (.goto 7, 3) := by decide +kernel
theorem dX5_sine_18 : decode cX5_sine 18 = .ok (.bipush 32, 2) := by decide +kernel
theorem dX5_sine_20 : decode cX5_sine 20 = .ok (.iload_n 1, 1) := by decide +kernel
theorem dX5_sine_21 : decode cX5_sine 21 = .ok (.isub, 1) := by decide +kernel
theorem dX5_sine_22 : decode cX5_sine 22 = .ok (.iaload, 1) := by decide +kernel
theorem dX5_sine_23 : decode cX5_sine 23 = .ok (.istore_n 2, 1) := by decide +kernel
theorem dX5_sine_24 : decode cX5_sine 24 = .ok (.iload_n 0, 1) := by decide +kernel
theorem dX5_sine_25 : decode cX5_sine 25 = .ok (.bipush 32, 2) := by decide +kernel
theorem dX5_sine_27 : decode cX5_sine 27 = .ok (.iand, 1) := by decide +kernel
theorem dX5_sine_28 : decode cX5_sine 28 = .ok (.ifCond .ne 7, 3) := by decide +kernel
theorem dX5_sine_31 : decode cX5_sine 31 = .ok (.iload_n 2, 1) := by decide +kernel
theorem dX5_sine_32 : decode cX5_sine 32 = .ok (.goto 5, 3) := by decide +kernel
theorem dX5_sine_35 : decode cX5_sine 35 = .ok (.iload_n 2, 1) := by decide +kernel
theorem dX5_sine_36 : decode cX5_sine 36 = .ok (.ineg, 1) := by decide +kernel
theorem dX5_sine_37 : decode cX5_sine 37 = .ok (.ireturn, 1) := by decide +kernel
set_option maxRecDepth 20000 in
theorem ggX5_cosine_X5_sine : GoodIn wsX5_cosine wsX5_sine := goodIn_r _ [4, 5] (by decide +kernel) (by decide +kernel)
set_option maxRecDepth 20000 in
theorem gX5_cosine_X5_sine : GoodIn wsX5_cosine (va_wsS RX5 202 yX5_sine wsX5_sine) := goodIn_app (goodIn_of _ (by decide +kernel)) ggX5_cosine_X5_sine
theorem dX5_cosine_0 : decode cX5_cosine 0 = .ok (.iload_n 0, 1) := by decide +kernel
theorem dX5_cosine_1 : decode cX5_cosine 1 = .ok (.bipush 16, 2) := by decide +kernel
theorem dX5_cosine_3 : decode cX5_cosine 3 = .ok (.iadd, 1) := by decide +kernel
theorem dX5_cosine_4 : decode cX5_cosine 4 = .ok (.invokestatic 202, 3) := by decide +kernel
theorem dX5_cosine_7 : decode cX5_cosine 7 = .ok (.ireturn, 1) := by decide +kernel
theorem dX6_init_0 : decode cX6_init 0 = .ok (.aload_n 0, 1) := by decide +kernel
theorem dX6_init_1 : decode cX6_init 1 = .ok (.invokespecial 1, 3) := by decide +kernel
theorem dX6_init_4 : decode cX6_init 4 = .ok (.aload_n 0, 1) := by decide +kernel
theorem dX6_init_5 : decode cX6_init 5 = .ok (.iconst 5, 1) := by decide +kernel
theorem dX6_init_6 : decode cX6_init 6 = .ok (.newarray .int, 2) := by decide +kernel
theorem dX6_init_8 : decode cX6_init 8 = .ok (.putfield 7, 3) := by decide +kernel
theorem dX6_init_11 : decode cX6_init 11 = .ok (.aload_n 0, 1) := by decide +kernel
theorem dX6_init_12 : decode cX6_init 12 = .ok (.iconst 5, 1) := by decide +kernel
theorem dX6_init_13 : decode cX6_init 13 = .ok (.newarray .int, 2) := by decide +kernel
theorem dX6_init_15 : decode cX6_init 15 = .ok (.putfield 13, 3) := by decide +kernel
theorem dX6_init_18 : decode cX6_init 18 = .ok (.aload_n 0, 1) := by decide +kernel
theorem dX6_init_19 : decode cX6_init 19 = .ok (.iconst 5, 1) := by decide +kernel
theorem dX6_init_20 : decode cX6_init 20 = .ok (.newarray .int, 2) := by decide +kernel
theorem dX6_init_22 : decode cX6_init 22 = .ok (.putfield 16, 3) := by decide +kernel
theorem dX6_init_25 : decode cX6_init 25 = .ok (.aload_n 0, 1) := by decide +kernel
theorem dX6_init_26 : decode cX6_init 26 = .ok (.iconst 5, 1) := by decide +kernel
theorem dX6_init_27 : decode cX6_init 27 = .ok (.newarray .int, 2) := by decide +kernel
theorem dX6_init_29 : decode cX6_init 29 = .ok (.putfield 19, 3) := by decide +kernel
theorem dX6_init_32 : decode cX6_init 32 = .ok (.aload_n 0, 1) := by decide +kernel
theorem dX6_init_33 : decode cX6_init 33 = .ok (.iconst 5, 1) := by decide +kernel
theorem dX6_init_34 : decode cX6_init 34 = .ok (.newarray .int, 2) := by decide +kernel
theorem dX6_init_36 : decode cX6_init 36 = .ok (.putfield 22, 3) := by decide +kernel
theorem dX6_init_39 : decode cX6_init 39 = .ok (.aload_n 0, 1) := by decide +kernel
theorem dX6_init_40 : decode cX6_init 40 = .ok (.sipush 10000, 3) := by decide +kernel
theorem dX6_init_43 : decode cX6_init 43 = .ok (.putfield 25, 3) := by decide +kernel
theorem dX6_init_46 : decode cX6_init 46 = .ok (.aload_n 0, 1) := by decide +kernel
theorem dX6_init_47 : decode cX6_init 47 = .ok (.iconst 5, 1) := by decide +kernel
theorem dX6_init_48 : decode cX6_init 48 = .ok (.newarray .int, 2) := by decide +kernel
theorem dX6_init_50 : decode cX6_init 50 = .ok (.putfield 29, 3) := by decide +kernel
theorem dX6_init_53 : decode cX6_init 53 = .ok (.aload_n 0, 1) := by decide +kernel
theorem dX6_init_54 : decode cX6_init 54 = .ok (.iconst 5, 1) := by decide +kernel
theorem dX6_init_55 : decode cX6_init 55 = .ok (.newarray .int, 2) := by decide +kernel
theorem dX6_init_57 : decode cX6_init 57 = .ok (.putfield 32, 3) := by decide +kernel
theorem dX6_init_60 : decode cX6_init 60 = .ok (.aload_n 0, 1) := by decide +kernel
theorem dX6_init_61 : decode cX6_init 61 = .ok (.iconst 5, 1) := by decide +kernel
theorem dX6_init_62 : decode cX6_init 62 = .ok (.newarray .int, 2) := by decide +kernel
theorem dX6_init_64 : decode cX6_init 64 = .ok (.putfield 35, 3) := by decide +kernel
theorem dX6_init_67 : decode cX6_init 67 = .ok (.aload_n 0, 1) := by decide +kernel
theorem dX6_init_68 : decode cX6_init 68 = .ok (.bipush 10, 2) := by decide +kernel
theorem dX6_init_70 : decode cX6_init 70 = .ok (.newarray .long, 2) := by decide +kernel
theorem dX6_init_72 : decode cX6_init 72 = .ok (.putfield 38, 3) := by decide +kernel
theorem dX6_init_75 : decode cX6_init 75 = .ok (.aload_n 0, 1) := by decide +kernel
theorem dX6_init_76 : decode cX6_init 76 = .ok (.bipush 10, 2) := by decide +kernel
theorem dX6_init_78 : decode cX6_init 78 = .ok (.newarray .int, 2) := by decide +kernel
theorem dX6_init_80 : decode cX6_init 80 = .ok (.putfield 42, 3) := by decide +kernel
theorem dX6_init_83 : decode cX6_init 83 = .ok (.return_, 1) := by decide +kernel
theorem dX6_thrown_0 : decode cX6_thrown 0 = .ok (.aload_n 0, 1) := by decide +kernel
theorem dX6_thrown_1 : decode cX6_thrown 1 = .ok (.getfield 45, 3) := by decide +kernel
theorem dX6_thrown_4 : decode cX6_thrown 4 = .ok (.ireturn, 1) := by decide +kernel
theorem dX6_in_0 : decode cX6_in 0 = .ok (.iload_n 0, 1) := by decide +kernel
theorem dX6_in_1 : decode cX6_in 1 = .ok (.iload_n 1, 1) := by decide +kernel
theorem dX6_in_2 : decode cX6_in 2 = .ok (.if_icmp .lt 12, 3) := by decide +kernel
theorem dX6_in_5 : decode cX6_in 5 = .ok (.iload_n 0, 1) := by decide +kernel
theorem dX6_in_6 : decode cX6_in 6 = .ok (.iload_n 2, 1) := by decide +kernel
theorem dX6_in_7 : decode cX6_in 7 = .ok (.if_icmp .gt 7, 3) := by decide +kernel
theorem dX6_in_10 : decode cX6_in 10 = .ok (.iconst 1, 1) := by decide +kernel
theorem dX6_in_11 : decode cX6_in 11 = .ok (.goto 4, 3) := by decide +kernel
theorem dX6_in_14 : decode cX6_in 14 = .ok (.iconst 0, 1) := by decide +kernel
theorem dX6_in_15 : decode cX6_in 15 = .ok (.ireturn, 1) := by decide +kernel
set_option maxRecDepth 20000 in
theorem ggX6_isJoint_X6_in : GoodIn wsX6_isJoint wsX6_in := goodIn_r _ [5] (by decide +kernel) (by decide +kernel)
set_option maxRecDepth 20000 in
theorem gX6_isJoint_X6_in : GoodIn wsX6_isJoint (va_wsS RX6 51 yX6_in wsX6_in) := goodIn_app (goodIn_of _ (by decide +kernel)) ggX6_isJoint_X6_in
theorem dX6_isJoint_0 : decode cX6_isJoint 0 = .ok (.iload_n 1, 1) := by decide +kernel
theorem dX6_isJoint_1 : decode cX6_isJoint 1 = .ok (.iconst 0, 1) := by decide +kernel
theorem dX6_isJoint_2 : decode cX6_isJoint 2 = .ok (.aload_n 0, 1) := by decide +kernel
theorem dX6_isJoint_3 : decode cX6_isJoint 3 = .ok (.getfield 48, 3) := by decide +kernel
theorem dX6_isJoint_6 : decode cX6_isJoint 6 = .ok (.iconst 1, 1) := by decide +kernel
theorem dX6_isJoint_7 : decode cX6_isJoint 7 = .ok (.isub, 1) := by decide +kernel
theorem dX6_isJoint_8 : decode cX6_isJoint 8 = .ok (.invokestatic 51, 3) := by decide +kernel
theorem dX6_isJoint_11 : decode cX6_isJoint 11 = .ok (.ireturn, 1) := by decide +kernel
theorem dX6_quarter_0 : decode cX6_quarter 0 = .ok (.iload_n 0, 1) := by decide +kernel
theorem dX6_quarter_1 : decode cX6_quarter 1 = .ok (.tableswitch 140 0 15 #[79, 81, 84, 88, 92, 96, 100, 104, 108, 112, 116, 120, 124, 128, 132, 136], 79) := by decide +kernel
theorem dX6_quarter_80 : decode cX6_quarter 80 = .ok (.iconst 0, 1) := by decide +kernel
theorem dX6_quarter_81 : decode cX6_quarter 81 = .ok (.ireturn, 1) := by decide +kernel
theorem dX6_quarter_82 : decode cX6_quarter 82 = .ok (.bipush 98, 2) := by decide +kernel
theorem dX6_quarter_84 : decode cX6_quarter 84 = .ok (.ireturn, 1) := by decide +kernel
theorem dX6_quarter_85 : decode cX6_quarter 85 = .ok (.sipush 195, 3) := by decide +kernel
theorem dX6_quarter_88 : decode cX6_quarter 88 = .ok (.ireturn, 1) := by decide +kernel
theorem dX6_quarter_89 : decode cX6_quarter 89 = .ok (.sipush 290, 3) := by decide +kernel
theorem dX6_quarter_92 : decode cX6_quarter 92 = .ok (.ireturn, 1) := by decide +kernel
theorem dX6_quarter_93 : decode cX6_quarter 93 = .ok (.sipush 383, 3) := by decide +kernel
theorem dX6_quarter_96 : decode cX6_quarter 96 = .ok (.ireturn, 1) := by decide +kernel
theorem dX6_quarter_97 : decode cX6_quarter 97 = .ok (.sipush 471, 3) := by decide +kernel
theorem dX6_quarter_100 : decode cX6_quarter 100 = .ok (.ireturn, 1) := by decide +kernel
theorem dX6_quarter_101 : decode cX6_quarter 101 = .ok (.sipush 556, 3) := by decide +kernel
theorem dX6_quarter_104 : decode cX6_quarter 104 = .ok (.ireturn, 1) := by decide +kernel
theorem dX6_quarter_105 : decode cX6_quarter 105 = .ok (.sipush 634, 3) := by decide +kernel
theorem dX6_quarter_108 : decode cX6_quarter 108 = .ok (.ireturn, 1) := by decide +kernel
theorem dX6_quarter_109 : decode cX6_quarter 109 = .ok (.sipush 707, 3) := by decide +kernel
theorem dX6_quarter_112 : decode cX6_quarter 112 = .ok (.ireturn, 1) := by decide +kernel
theorem dX6_quarter_113 : decode cX6_quarter 113 = .ok (.sipush 773, 3) := by decide +kernel
theorem dX6_quarter_116 : decode cX6_quarter 116 = .ok (.ireturn, 1) := by decide +kernel
theorem dX6_quarter_117 : decode cX6_quarter 117 = .ok (.sipush 831, 3) := by decide +kernel
theorem dX6_quarter_120 : decode cX6_quarter 120 = .ok (.ireturn, 1) := by decide +kernel
theorem dX6_quarter_121 : decode cX6_quarter 121 = .ok (.sipush 882, 3) := by decide +kernel
theorem dX6_quarter_124 : decode cX6_quarter 124 = .ok (.ireturn, 1) := by decide +kernel
theorem dX6_quarter_125 : decode cX6_quarter 125 = .ok (.sipush 924, 3) := by decide +kernel
theorem dX6_quarter_128 : decode cX6_quarter 128 = .ok (.ireturn, 1) := by decide +kernel
theorem dX6_quarter_129 : decode cX6_quarter 129 = .ok (.sipush 957, 3) := by decide +kernel
theorem dX6_quarter_132 : decode cX6_quarter 132 = .ok (.ireturn, 1) := by decide +kernel
theorem dX6_quarter_133 : decode cX6_quarter 133 = .ok (.sipush 981, 3) := by decide +kernel
theorem dX6_quarter_136 : decode cX6_quarter 136 = .ok (.ireturn, 1) := by decide +kernel
theorem dX6_quarter_137 : decode cX6_quarter 137 = .ok (.sipush 995, 3) := by decide +kernel
theorem dX6_quarter_140 : decode cX6_quarter 140 = .ok (.ireturn, 1) := by decide +kernel
theorem dX6_quarter_141 : decode cX6_quarter 141 = .ok (.sipush 1000, 3) := by decide +kernel
theorem dX6_quarter_144 : decode cX6_quarter 144 = .ok (.ireturn, 1) := by decide +kernel
set_option maxRecDepth 20000 in
theorem ggX6_sine_X6_quarter : GoodIn wsX6_sine wsX6_quarter := goodIn_r _ [4] (by decide +kernel) (by decide +kernel)
set_option maxRecDepth 20000 in
theorem gX6_sine_X6_quarter : GoodIn wsX6_sine (va_wsS RX6 55 yX6_quarter wsX6_quarter) := goodIn_app (goodIn_of _ (by decide +kernel)) ggX6_sine_X6_quarter
theorem dX6_sine_0 : decode cX6_sine 0 = .ok (.iload_n 0, 1) := by decide +kernel
theorem dX6_sine_1 : decode cX6_sine 1 = .ok (.bipush 64, 2) := by decide +kernel
theorem dX6_sine_3 : decode cX6_sine 3 = .ok (.irem, 1) := by decide +kernel
theorem dX6_sine_4 : decode cX6_sine 4 = .ok (.istore_n 1, 1) := by decide +kernel
theorem dX6_sine_5 : decode cX6_sine 5 = .ok (.iload_n 1, 1) := by decide +kernel
theorem dX6_sine_6 : decode cX6_sine 6 = .ok (.bipush 32, 2) := by decide +kernel
theorem dX6_sine_8 : decode cX6_sine 8 = .ok (.irem, 1) := by decide +kernel
theorem dX6_sine_9 : decode cX6_sine 9 = .ok (.istore_n 2, 1) := by decide +kernel
theorem dX6_sine_10 : decode cX6_sine 10 = .ok (.iload_n 2, 1) := by decide +kernel
theorem dX6_sine_11 : decode cX6_sine 11 = .ok (.bipush 16, 2) := by decide +kernel
theorem dX6_sine_13 : decode cX6_sine 13 = .ok (.if_icmp .gt 10, 3) := by decide +kernel
theorem dX6_sine_16 : decode cX6_sine 16 = .ok (.iload_n 2, 1) := by decide +kernel
theorem dX6_sine_17 : decode cX6_sine 17 = .ok (.invokestatic 55, 3) := by decide +kernel
theorem dX6_sine_20 : decode cX6_sine 20 = .ok (.goto 10, 3) := by decide +kernel
theorem dX6_sine_23 : decode cX6_sine 23 = .ok (.bipush 32, 2) := by decide +kernel
theorem dX6_sine_25 : decode cX6_sine 25 = .ok (.iload_n 2, 1) := by decide +kernel
theorem dX6_sine_26 : decode cX6_sine 26 = .ok (.isub, 1) := by decide +kernel
theorem dX6_sine_27 : decode cX6_sine 27 = .ok (.invokestatic 55, 3) := by decide +kernel
theorem dX6_sine_30 : decode cX6_sine 30 = .ok (.istore_n 3, 1) := by decide +kernel
theorem dX6_sine_31 : decode cX6_sine 31 = .ok (.iload_n 1, 1) := by decide +kernel
theorem dX6_sine_32 : decode cX6_sine 32 = .ok (.bipush 32, 2) := by decide +kernel
theorem dX6_sine_34 : decode cX6_sine 34 = .ok (.if_icmp .ge 7, 3) := by decide +kernel
theorem dX6_sine_37 : decode cX6_sine 37 = .ok (.iload_n 3, 1) := by decide +kernel
theorem dX6_sine_38 : decode cX6_sine 38 = .ok (.goto 5, 3) := by decide +kernel
theorem dX6_sine_41 : decode cX6_sine 41 = .ok (.iload_n 3, 1) := by decide +kernel
theorem dX6_sine_42 : decode cX6_sine 42 = .ok (.ineg, 1) := by decide +kernel
theorem dX6_sine_43 : decode cX6_sine 43 = .ok (.ireturn, 1) := by decide +kernel
theorem dX6_told_0 : decode cX6_told 0 = .ok (.iload_n 0, 1) := by decide +kernel
theorem dX6_told_1 : decode cX6_told 1 = .ok (.bipush 64, 2) := by decide +kernel
theorem dX6_told_3 : decode cX6_told 3 = .ok (.irem, 1) := by decide +kernel
theorem dX6_told_4 : decode cX6_told 4 = .ok (.bipush 64, 2) := by decide +kernel
theorem dX6_told_6 : decode cX6_told 6 = .ok (.iadd, 1) := by decide +kernel
theorem dX6_told_7 : decode cX6_told 7 = .ok (.bipush 64, 2) := by decide +kernel
theorem dX6_told_9 : decode cX6_told 9 = .ok (.irem, 1) := by decide +kernel
theorem dX6_told_10 : decode cX6_told 10 = .ok (.ireturn, 1) := by decide +kernel
theorem dX6_copiesPose_0 : decode cX6_copiesPose 0 = .ok (.iconst 0, 1) := by decide +kernel
theorem dX6_copiesPose_1 : decode cX6_copiesPose 1 = .ok (.istore_n 1, 1) := by decide +kernel
theorem dX6_copiesPose_2 : decode cX6_copiesPose 2 = .ok (.iload_n 1, 1) := by decide +kernel
theorem dX6_copiesPose_3 : decode cX6_copiesPose 3 = .ok (.aload_n 0, 1) := by decide +kernel
theorem dX6_copiesPose_4 : decode cX6_copiesPose 4 = .ok (.getfield 48, 3) := by decide +kernel
theorem dX6_copiesPose_7 : decode cX6_copiesPose 7 = .ok (.if_icmp .ge 21, 3) := by decide +kernel
theorem dX6_copiesPose_10 : decode cX6_copiesPose 10 = .ok (.aload_n 0, 1) := by decide +kernel
theorem dX6_copiesPose_11 : decode cX6_copiesPose 11 = .ok (.getfield 29, 3) := by decide +kernel
theorem dX6_copiesPose_14 : decode cX6_copiesPose 14 = .ok (.iload_n 1, 1) := by decide +kernel
theorem dX6_copiesPose_15 : decode cX6_copiesPose 15 = .ok (.aload_n 0, 1) := by decide +kernel
theorem dX6_copiesPose_16 : decode cX6_copiesPose 16 = .ok (.getfield 22, 3) := by decide +kernel
theorem dX6_copiesPose_19 : decode cX6_copiesPose 19 = .ok (.iload_n 1, 1) := by decide +kernel
theorem dX6_copiesPose_20 : decode cX6_copiesPose 20 = .ok (.iaload, 1) := by decide +kernel
theorem dX6_copiesPose_21 : decode cX6_copiesPose 21 = .ok (.iastore, 1) := by decide +kernel
theorem dX6_copiesPose_22 : decode cX6_copiesPose 22 = .ok (.iinc 1 1, 3) := by decide +kernel
theorem dX6_copiesPose_25 : decode cX6_copiesPose 25 = .ok (.goto (-23), 3) := by decide +kernel
theorem dX6_copiesPose_28 : decode cX6_copiesPose 28 = .ok (.return_, 1) := by decide +kernel
set_option maxRecDepth 20000 in
theorem ggX6_looks_X6_told : GoodIn wsX6_looks wsX6_told := goodIn_r _ [11] (by decide +kernel) (by decide +kernel)
set_option maxRecDepth 20000 in
theorem gX6_looks_X6_told : GoodIn wsX6_looks (va_wsS RX6 68 yX6_told wsX6_told) := goodIn_app (goodIn_of _ (by decide +kernel)) ggX6_looks_X6_told
set_option maxRecDepth 20000 in
theorem ggX6_looks_X6_sine : GoodIn wsX6_looks wsX6_sine := goodIn_r _ [14, 15, 16, 10, 17] (by decide +kernel) (by decide +kernel)
set_option maxRecDepth 20000 in
theorem gX6_looks_X6_sine : GoodIn wsX6_looks (va_wsS RX6 71 yX6_sine wsX6_sine) := goodIn_app (goodIn_of _ (by decide +kernel)) ggX6_looks_X6_sine
theorem dX6_looks_0 : decode cX6_looks 0 = .ok (.aload_n 0, 1) := by decide +kernel
theorem dX6_looks_1 : decode cX6_looks 1 = .ok (.iconst 0, 1) := by decide +kernel
theorem dX6_looks_2 : decode cX6_looks 2 = .ok (.putfield 59, 3) := by decide +kernel
theorem dX6_looks_5 : decode cX6_looks 5 = .ok (.aload_n 0, 1) := by decide +kernel
theorem dX6_looks_6 : decode cX6_looks 6 = .ok (.iconst 0, 1) := by decide +kernel
theorem dX6_looks_7 : decode cX6_looks 7 = .ok (.putfield 62, 3) := by decide +kernel
theorem dX6_looks_10 : decode cX6_looks 10 = .ok (.aload_n 0, 1) := by decide +kernel
theorem dX6_looks_11 : decode cX6_looks 11 = .ok (.iconst 0, 1) := by decide +kernel
theorem dX6_looks_12 : decode cX6_looks 12 = .ok (.putfield 65, 3) := by decide +kernel
theorem dX6_looks_15 : decode cX6_looks 15 = .ok (.iconst 0, 1) := by decide +kernel
theorem dX6_looks_16 : decode cX6_looks 16 = .ok (.istore_n 1, 1) := by decide +kernel
theorem dX6_looks_17 : decode cX6_looks 17 = .ok (.iload_n 1, 1) := by decide +kernel
theorem dX6_looks_18 : decode cX6_looks 18 = .ok (.aload_n 0, 1) := by decide +kernel
theorem dX6_looks_19 : decode cX6_looks 19 = .ok (.getfield 48, 3) := by decide +kernel
theorem dX6_looks_22 : decode cX6_looks 22 = .ok (.if_icmp .ge 94, 3) := by decide +kernel
theorem dX6_looks_25 : decode cX6_looks 25 = .ok (.aload_n 0, 1) := by decide +kernel
theorem dX6_looks_26 : decode cX6_looks 26 = .ok (.getfield 13, 3) := by decide +kernel
theorem dX6_looks_29 : decode cX6_looks 29 = .ok (.iload_n 1, 1) := by decide +kernel
theorem dX6_looks_30 : decode cX6_looks 30 = .ok (.iaload, 1) := by decide +kernel
theorem dX6_looks_31 : decode cX6_looks 31 = .ok (.istore_n 2, 1) := by decide +kernel
theorem dX6_looks_32 : decode cX6_looks 32 = .ok (.aload_n 0, 1) := by decide +kernel
theorem dX6_looks_33 : decode cX6_looks 33 = .ok (.getfield 7, 3) := by decide +kernel
theorem dX6_looks_36 : decode cX6_looks 36 = .ok (.iload_n 1, 1) := by decide +kernel
theorem dX6_looks_37 : decode cX6_looks 37 = .ok (.iaload, 1) := by decide +kernel
theorem dX6_looks_38 : decode cX6_looks 38 = .ok (.ifCond .ne 24, 3) := by decide +kernel
theorem dX6_looks_41 : decode cX6_looks 41 = .ok (.aload_n 0, 1) := by decide +kernel
theorem dX6_looks_42 : decode cX6_looks 42 = .ok (.aload_n 0, 1) := by decide +kernel
theorem dX6_looks_43 : decode cX6_looks 43 = .ok (.getfield 65, 3) := by decide +kernel
theorem dX6_looks_46 : decode cX6_looks 46 = .ok (.aload_n 0, 1) := by decide +kernel
theorem dX6_looks_47 : decode cX6_looks 47 = .ok (.getfield 29, 3) := by decide +kernel
theorem dX6_looks_50 : decode cX6_looks 50 = .ok (.iload_n 1, 1) := by decide +kernel
theorem dX6_looks_51 : decode cX6_looks 51 = .ok (.iaload, 1) := by decide +kernel
theorem dX6_looks_52 : decode cX6_looks 52 = .ok (.iadd, 1) := by decide +kernel
theorem dX6_looks_53 : decode cX6_looks 53 = .ok (.invokestatic 68, 3) := by decide +kernel
theorem dX6_looks_56 : decode cX6_looks 56 = .ok (.putfield 65, 3) := by decide +kernel
theorem dX6_looks_59 : decode cX6_looks 59 = .ok (.goto 12, 3) := by decide +kernel
theorem dX6_looks_62 : decode cX6_looks 62 = .ok (.iload_n 2, 1) := by decide +kernel
theorem dX6_looks_63 : decode cX6_looks 63 = .ok (.aload_n 0, 1) := by decide +kernel
theorem dX6_looks_64 : decode cX6_looks 64 = .ok (.getfield 29, 3) := by decide +kernel
theorem dX6_looks_67 : decode cX6_looks 67 = .ok (.iload_n 1, 1) := by decide +kernel
theorem dX6_looks_68 : decode cX6_looks 68 = .ok (.iaload, 1) := by decide +kernel
theorem dX6_looks_69 : decode cX6_looks 69 = .ok (.iadd, 1) := by decide +kernel
theorem dX6_looks_70 : decode cX6_looks 70 = .ok (.istore_n 2, 1) := by decide +kernel
theorem dX6_looks_71 : decode cX6_looks 71 = .ok (.aload_n 0, 1) := by decide +kernel
theorem dX6_looks_72 : decode cX6_looks 72 = .ok (.dup, 1) := by decide +kernel
theorem dX6_looks_73 : decode cX6_looks 73 = .ok (.getfield 59, 3) := by decide +kernel
theorem dX6_looks_76 : decode cX6_looks 76 = .ok (.iload_n 2, 1) := by decide +kernel
theorem dX6_looks_77 : decode cX6_looks 77 = .ok (.aload_n 0, 1) := by decide +kernel
theorem dX6_looks_78 : decode cX6_looks 78 = .ok (.getfield 65, 3) := by decide +kernel
theorem dX6_looks_81 : decode cX6_looks 81 = .ok (.bipush 16, 2) := by decide +kernel
theorem dX6_looks_83 : decode cX6_looks 83 = .ok (.iadd, 1) := by decide +kernel
theorem dX6_looks_84 : decode cX6_looks 84 = .ok (.invokestatic 71, 3) := by decide +kernel
theorem dX6_looks_87 : decode cX6_looks 87 = .ok (.imul, 1) := by decide +kernel
theorem dX6_looks_88 : decode cX6_looks 88 = .ok (.iadd, 1) := by decide +kernel
theorem dX6_looks_89 : decode cX6_looks 89 = .ok (.putfield 59, 3) := by decide +kernel
theorem dX6_looks_92 : decode cX6_looks 92 = .ok (.aload_n 0, 1) := by decide +kernel
theorem dX6_looks_93 : decode cX6_looks 93 = .ok (.dup, 1) := by decide +kernel
theorem dX6_looks_94 : decode cX6_looks 94 = .ok (.getfield 62, 3) := by decide +kernel
theorem dX6_looks_97 : decode cX6_looks 97 = .ok (.iload_n 2, 1) := by decide +kernel
theorem dX6_looks_98 : decode cX6_looks 98 = .ok (.aload_n 0, 1) := by decide +kernel
theorem dX6_looks_99 : decode cX6_looks 99 = .ok (.getfield 65, 3) := by decide +kernel
theorem dX6_looks_102 : decode cX6_looks 102 = .ok (.invokestatic 71, 3) := by decide +kernel
theorem dX6_looks_105 : decode cX6_looks 105 = .ok (.imul, 1) := by decide +kernel
theorem dX6_looks_106 : decode cX6_looks 106 = .ok (.iadd, 1) := by decide +kernel
theorem dX6_looks_107 : decode cX6_looks 107 = .ok (.putfield 62, 3) := by decide +kernel
theorem dX6_looks_110 : decode cX6_looks 110 = .ok (.iinc 1 1, 3) := by decide +kernel
theorem dX6_looks_113 : decode cX6_looks 113 = .ok (.goto (-96), 3) := by decide +kernel
theorem dX6_looks_116 : decode cX6_looks 116 = .ok (.return_, 1) := by decide +kernel
set_option maxRecDepth 20000 in
theorem ggX6_looksNow_X6_copiesPose : GoodIn wsX6_looksNow wsX6_copiesPose := goodIn_r _ [5, 6, 7, 8, 27, 28, 29, 30, 31, 32, 33, 34, 35, 36, 37, 38, 39, 40, 41, 42, 43, 44, 45] (by decide +kernel) (by decide +kernel)
set_option maxRecDepth 20000 in
theorem gX6_looksNow_X6_copiesPose : GoodIn wsX6_looksNow (wsV RX6 74 RX6 yX6_copiesPose wsX6_copiesPose) := goodIn_app (goodIn_of _ (by decide +kernel)) ggX6_looksNow_X6_copiesPose
set_option maxRecDepth 20000 in
theorem ggX6_looksNow_X6_looks : GoodIn wsX6_looksNow wsX6_looks := goodIn_r _ [12, 13, 14, 15, 6, 16, 17, 7, 18, 19, 4, 20, 21, 22, 23, 24, 25, 26, 27, 28, 29, 30, 31, 32, 33, 34, 35, 36, 37, 38, 39, 40, 41, 42, 43, 44, 45] (by decide +kernel) (by decide +kernel)
set_option maxRecDepth 20000 in
theorem gX6_looksNow_X6_looks : GoodIn wsX6_looksNow (wsV RX6 77 RX6 yX6_looks wsX6_looks) := goodIn_app (goodIn_of _ (by decide +kernel)) ggX6_looksNow_X6_looks
theorem dX6_looksNow_0 : decode cX6_looksNow 0 = .ok (.aload_n 0, 1) := by decide +kernel
theorem dX6_looksNow_1 : decode cX6_looksNow 1 = .ok (.invokevirtual 74, 3) := by decide +kernel
theorem dX6_looksNow_4 : decode cX6_looksNow 4 = .ok (.aload_n 0, 1) := by decide +kernel
theorem dX6_looksNow_5 : decode cX6_looksNow 5 = .ok (.invokevirtual 77, 3) := by decide +kernel
theorem dX6_looksNow_8 : decode cX6_looksNow 8 = .ok (.return_, 1) := by decide +kernel
theorem dX6_farness_0 : decode cX6_farness 0 = .ok (.aload_n 0, 1) := by decide +kernel
theorem dX6_farness_1 : decode cX6_farness 1 = .ok (.getfield 59, 3) := by decide +kernel
theorem dX6_farness_4 : decode cX6_farness 4 = .ok (.aload_n 0, 1) := by decide +kernel
theorem dX6_farness_5 : decode cX6_farness 5 = .ok (.getfield 80, 3) := by decide +kernel
theorem dX6_farness_8 : decode cX6_farness 8 = .ok (.isub, 1) := by decide +kernel
theorem dX6_farness_9 : decode cX6_farness 9 = .ok (.i2l, 1) := by decide +kernel
theorem dX6_farness_10 : decode cX6_farness 10 = .ok (.lstore_n 1, 1) := by decide +kernel
theorem dX6_farness_11 : decode cX6_farness 11 = .ok (.aload_n 0, 1) := by decide +kernel
theorem dX6_farness_12 : decode cX6_farness 12 = .ok (.getfield 62, 3) := by decide +kernel
theorem dX6_farness_15 : decode cX6_farness 15 = .ok (.aload_n 0, 1) := by decide +kernel
theorem dX6_farness_16 : decode cX6_farness 16 = .ok (.getfield 83, 3) := by decide +kernel
theorem dX6_farness_19 : decode cX6_farness 19 = .ok (.isub, 1) := by decide +kernel
theorem dX6_farness_20 : decode cX6_farness 20 = .ok (.i2l, 1) := by decide +kernel
theorem dX6_farness_21 : decode cX6_farness 21 = .ok (.lstore_n 3, 1) := by decide +kernel
theorem dX6_farness_22 : decode cX6_farness 22 = .ok (.lload_n 1, 1) := by decide +kernel
theorem dX6_farness_23 : decode cX6_farness 23 = .ok (.lload_n 1, 1) := by decide +kernel
theorem dX6_farness_24 : decode cX6_farness 24 = .ok (.lmul, 1) := by decide +kernel
theorem dX6_farness_25 : decode cX6_farness 25 = .ok (.lload_n 3, 1) := by decide +kernel
theorem dX6_farness_26 : decode cX6_farness 26 = .ok (.lload_n 3, 1) := by decide +kernel
theorem dX6_farness_27 : decode cX6_farness 27 = .ok (.lmul, 1) := by decide +kernel
theorem dX6_farness_28 : decode cX6_farness 28 = .ok (.ladd, 1) := by decide +kernel
theorem dX6_farness_29 : decode cX6_farness 29 = .ok (.lreturn, 1) := by decide +kernel
set_option maxRecDepth 20000 in
theorem ggX6_farNow_X6_looksNow : GoodIn wsX6_farNow wsX6_looksNow := goodIn_r _ [5, 6, 7, 8, 4, 9, 10, 11, 12, 13, 14, 15, 16, 17, 18, 19, 20, 21, 22, 23, 24, 25, 26, 27, 28, 29, 30, 37, 38, 39, 40, 41, 42, 43, 44, 45, 46, 47, 48, 49, 50, 51, 52, 53, 54, 55] (by decide +kernel) (by decide +kernel)
set_option maxRecDepth 20000 in
theorem gX6_farNow_X6_looksNow : GoodIn wsX6_farNow (wsV RX6 86 RX6 yX6_looksNow wsX6_looksNow) := goodIn_app (goodIn_of _ (by decide +kernel)) ggX6_farNow_X6_looksNow
set_option maxRecDepth 20000 in
theorem ggX6_farNow_X6_farness : GoodIn wsX6_farNow wsX6_farness := goodIn_r _ [34, 17, 35, 18, 36, 37, 38, 39, 40, 41, 42, 43, 44, 45, 46, 47, 48, 49, 50, 51, 52, 53, 54, 55] (by decide +kernel) (by decide +kernel)
set_option maxRecDepth 20000 in
theorem gX6_farNow_X6_farness : GoodIn wsX6_farNow (wsV RX6 89 RX6 yX6_farness wsX6_farness) := goodIn_app (goodIn_of _ (by decide +kernel)) ggX6_farNow_X6_farness
theorem dX6_farNow_0 : decode cX6_farNow 0 = .ok (.aload_n 0, 1) := by decide +kernel
theorem dX6_farNow_1 : decode cX6_farNow 1 = .ok (.invokevirtual 86, 3) := by decide +kernel
theorem dX6_farNow_4 : decode cX6_farNow 4 = .ok (.aload_n 0, 1) := by decide +kernel
theorem dX6_farNow_5 : decode cX6_farNow 5 = .ok (.invokevirtual 89, 3) := by decide +kernel
theorem dX6_farNow_8 : decode cX6_farNow 8 = .ok (.lreturn, 1) := by decide +kernel
set_option maxRecDepth 20000 in
theorem ggX6_farWith_X6_copiesPose : GoodIn wsX6_farWith wsX6_copiesPose := goodIn_r _ [6, 7, 1, 8, 33, 34, 35, 36, 37, 38, 39, 40, 41, 42, 43, 44, 45, 46, 47, 48, 49, 50, 51] (by decide +kernel) (by decide +kernel)
set_option maxRecDepth 20000 in
theorem gX6_farWith_X6_copiesPose : GoodIn wsX6_farWith (wsV RX6 74 RX6 yX6_copiesPose wsX6_copiesPose) := goodIn_app (goodIn_of _ (by decide +kernel)) ggX6_farWith_X6_copiesPose
set_option maxRecDepth 20000 in
theorem ggX6_farWith_X6_looks : GoodIn wsX6_farWith wsX6_looks := goodIn_r _ [12, 13, 14, 15, 7, 16, 17, 1, 18, 19, 5, 20, 21, 22, 23, 24, 25, 26, 33, 34, 35, 36, 37, 38, 39, 40, 41, 42, 43, 44, 45, 46, 47, 48, 49, 50, 51] (by decide +kernel) (by decide +kernel)
set_option maxRecDepth 20000 in
theorem gX6_farWith_X6_looks : GoodIn wsX6_farWith (wsV RX6 77 RX6 yX6_looks wsX6_looks) := goodIn_app (goodIn_of _ (by decide +kernel)) ggX6_farWith_X6_looks
set_option maxRecDepth 20000 in
theorem ggX6_farWith_X6_farness : GoodIn wsX6_farWith wsX6_farness := goodIn_r _ [30, 13, 31, 14, 32, 33, 34, 35, 36, 37, 38, 39, 40, 41, 42, 43, 44, 45, 46, 47, 48, 49, 50, 51] (by decide +kernel) (by decide +kernel)
set_option maxRecDepth 20000 in
theorem gX6_farWith_X6_farness : GoodIn wsX6_farWith (wsV RX6 89 RX6 yX6_farness wsX6_farness) := goodIn_app (goodIn_of _ (by decide +kernel)) ggX6_farWith_X6_farness
theorem dX6_farWith_0 : decode cX6_farWith 0 = .ok (.aload_n 0, 1) := by decide +kernel
theorem dX6_farWith_1 : decode cX6_farWith 1 = .ok (.invokevirtual 74, 3) := by decide +kernel
theorem dX6_farWith_4 : decode cX6_farWith 4 = .ok (.aload_n 0, 1) := by decide +kernel
theorem dX6_farWith_5 : decode cX6_farWith 5 = .ok (.getfield 29, 3) := by decide +kernel
theorem dX6_farWith_8 : decode cX6_farWith 8 = .ok (.iload_n 1, 1) := by decide +kernel
theorem dX6_farWith_9 : decode cX6_farWith 9 = .ok (.iload_n 2, 1) := by decide +kernel
theorem dX6_farWith_10 : decode cX6_farWith 10 = .ok (.iastore, 1) := by decide +kernel
theorem dX6_farWith_11 : decode cX6_farWith 11 = .ok (.aload_n 0, 1) := by decide +kernel
theorem dX6_farWith_12 : decode cX6_farWith 12 = .ok (.invokevirtual 77, 3) := by decide +kernel
theorem dX6_farWith_15 : decode cX6_farWith 15 = .ok (.aload_n 0, 1) := by decide +kernel
theorem dX6_farWith_16 : decode cX6_farWith 16 = .ok (.invokevirtual 89, 3) := by decide +kernel
theorem dX6_farWith_19 : decode cX6_farWith 19 = .ok (.lreturn, 1) := by decide +kernel
theorem dX6_most_0 : decode cX6_most 0 = .ok (.iload_n 0, 1) := by decide +kernel
theorem dX6_most_1 : decode cX6_most 1 = .ok (.ifCond .ne 8, 3) := by decide +kernel
theorem dX6_most_4 : decode cX6_most 4 = .ok (.bipush 32, 2) := by decide +kernel
theorem dX6_most_6 : decode cX6_most 6 = .ok (.goto 5, 3) := by decide +kernel
theorem dX6_most_9 : decode cX6_most 9 = .ok (.bipush 100, 2) := by decide +kernel
theorem dX6_most_11 : decode cX6_most 11 = .ok (.ireturn, 1) := by decide +kernel
theorem dX6_held_0 : decode cX6_held 0 = .ok (.iload_n 0, 1) := by decide +kernel
theorem dX6_held_1 : decode cX6_held 1 = .ok (.iload_n 1, 1) := by decide +kernel
theorem dX6_held_2 : decode cX6_held 2 = .ok (.if_icmp .ge 7, 3) := by decide +kernel
theorem dX6_held_5 : decode cX6_held 5 = .ok (.iload_n 1, 1) := by decide +kernel
theorem dX6_held_6 : decode cX6_held 6 = .ok (.goto 13, 3) := by decide +kernel
theorem dX6_held_9 : decode cX6_held 9 = .ok (.iload_n 0, 1) := by decide +kernel
theorem dX6_held_10 : decode cX6_held 10 = .ok (.iload_n 2, 1) := by decide +kernel
theorem dX6_held_11 : decode cX6_held 11 = .ok (.if_icmp .le 7, 3) := by decide +kernel
theorem dX6_held_14 : decode cX6_held 14 = .ok (.iload_n 2, 1) := by decide +kernel
theorem dX6_held_15 : decode cX6_held 15 = .ok (.goto 4, 3) := by decide +kernel
theorem dX6_held_18 : decode cX6_held 18 = .ok (.iload_n 0, 1) := by decide +kernel
theorem dX6_held_19 : decode cX6_held 19 = .ok (.ireturn, 1) := by decide +kernel
set_option maxRecDepth 20000 in
theorem ggX6_joint_X6_in : GoodIn wsX6_joint wsX6_in := goodIn_r _ [11] (by decide +kernel) (by decide +kernel)
set_option maxRecDepth 20000 in
theorem gX6_joint_X6_in : GoodIn wsX6_joint (va_wsS RX6 51 yX6_in wsX6_in) := goodIn_app (goodIn_of _ (by decide +kernel)) ggX6_joint_X6_in
set_option maxRecDepth 20000 in
theorem ggX6_joint_X6_most : GoodIn wsX6_joint wsX6_most := goodIn_r _ [14] (by decide +kernel) (by decide +kernel)
set_option maxRecDepth 20000 in
theorem gX6_joint_X6_most : GoodIn wsX6_joint (va_wsS RX6 93 yX6_most wsX6_most) := goodIn_app (goodIn_of _ (by decide +kernel)) ggX6_joint_X6_most
set_option maxRecDepth 20000 in
theorem ggX6_joint_X6_held : GoodIn wsX6_joint wsX6_held := goodIn_r _ [17] (by decide +kernel) (by decide +kernel)
set_option maxRecDepth 20000 in
theorem gX6_joint_X6_held : GoodIn wsX6_joint (va_wsS RX6 96 yX6_held wsX6_held) := goodIn_app (goodIn_of _ (by decide +kernel)) ggX6_joint_X6_held
theorem dX6_joint_0 : decode cX6_joint 0 = .ok (.iload_n 1, 1) := by decide +kernel
theorem dX6_joint_1 : decode cX6_joint 1 = .ok (.iconst 0, 1) := by decide +kernel
theorem dX6_joint_2 : decode cX6_joint 2 = .ok (.iconst 1, 1) := by decide +kernel
theorem dX6_joint_3 : decode cX6_joint 3 = .ok (.invokestatic 51, 3) := by decide +kernel
theorem dX6_joint_6 : decode cX6_joint 6 = .ok (.ifCond .eq 52, 3) := by decide +kernel
theorem dX6_joint_9 : decode cX6_joint 9 = .ok (.iload_n 2, 1) := by decide +kernel
theorem dX6_joint_10 : decode cX6_joint 10 = .ok (.iconst 0, 1) := by decide +kernel
theorem dX6_joint_11 : decode cX6_joint 11 = .ok (.sipush 200, 3) := by decide +kernel
theorem dX6_joint_14 : decode cX6_joint 14 = .ok (.invokestatic 51, 3) := by decide +kernel
theorem dX6_joint_17 : decode cX6_joint 17 = .ok (.ifCond .eq 41, 3) := by decide +kernel
theorem dX6_joint_20 : decode cX6_joint 20 = .ok (.iload_n 3, 1) := by decide +kernel
theorem dX6_joint_21 : decode cX6_joint 21 = .ok (.iload_n 1, 1) := by decide +kernel
theorem dX6_joint_22 : decode cX6_joint 22 = .ok (.ifCond .ne 8, 3) := by decide +kernel
theorem dX6_joint_25 : decode cX6_joint 25 = .ok (.bipush (-32), 2) := by decide +kernel
theorem dX6_joint_27 : decode cX6_joint 27 = .ok (.goto 4, 3) := by decide +kernel
theorem dX6_joint_30 : decode cX6_joint 30 = .ok (.iconst 0, 1) := by decide +kernel
theorem dX6_joint_31 : decode cX6_joint 31 = .ok (.iload_n 1, 1) := by decide +kernel
theorem dX6_joint_32 : decode cX6_joint 32 = .ok (.invokestatic 93, 3) := by decide +kernel
theorem dX6_joint_35 : decode cX6_joint 35 = .ok (.invokestatic 51, 3) := by decide +kernel
theorem dX6_joint_38 : decode cX6_joint 38 = .ok (.ifCond .eq 20, 3) := by decide +kernel
theorem dX6_joint_41 : decode cX6_joint 41 = .ok (.iload 4, 2) := by decide +kernel
theorem dX6_joint_43 : decode cX6_joint 43 = .ok (.iload_n 3, 1) := by decide +kernel
theorem dX6_joint_44 : decode cX6_joint 44 = .ok (.iload_n 1, 1) := by decide +kernel
theorem dX6_joint_45 : decode cX6_joint 45 = .ok (.invokestatic 93, 3) := by decide +kernel
theorem dX6_joint_48 : decode cX6_joint 48 = .ok (.invokestatic 51, 3) := by decide +kernel
theorem dX6_joint_51 : decode cX6_joint 51 = .ok (.ifCond .eq 7, 3) := by decide +kernel
theorem dX6_joint_54 : decode cX6_joint 54 = .ok (.iconst 1, 1) := by decide +kernel
theorem dX6_joint_55 : decode cX6_joint 55 = .ok (.goto 4, 3) := by decide +kernel
theorem dX6_joint_58 : decode cX6_joint 58 = .ok (.iconst 0, 1) := by decide +kernel
theorem dX6_joint_59 : decode cX6_joint 59 = .ok (.istore 5, 2) := by decide +kernel
theorem dX6_joint_61 : decode cX6_joint 61 = .ok (.aload_n 0, 1) := by decide +kernel
theorem dX6_joint_62 : decode cX6_joint 62 = .ok (.iload 5, 2) := by decide +kernel
theorem dX6_joint_64 : decode cX6_joint 64 = .ok (.ifCond .ne 7, 3) := by decide +kernel
theorem dX6_joint_67 : decode cX6_joint 67 = .ok (.iconst 1, 1) := by decide +kernel
theorem dX6_joint_68 : decode cX6_joint 68 = .ok (.goto 16, 3) := by decide +kernel
theorem dX6_joint_71 : decode cX6_joint 71 = .ok (.aload_n 0, 1) := by decide +kernel
theorem dX6_joint_72 : decode cX6_joint 72 = .ok (.getfield 48, 3) := by decide +kernel
end
section
theorem dX6_joint_75 : decode cX6_joint 75 = .ok (.iconst 5, 1) := by decide +kernel
theorem dX6_joint_76 : decode cX6_joint 76 = .ok (.if_icmp .ne 7, 3) := by decide +kernel
theorem dX6_joint_79 : decode cX6_joint 79 = .ok (.iconst 2, 1) := by decide +kernel
theorem dX6_joint_80 : decode cX6_joint 80 = .ok (.goto 4, 3) := by decide +kernel
theorem dX6_joint_83 : decode cX6_joint 83 = .ok (.iconst 0, 1) := by decide +kernel
theorem dX6_joint_84 : decode cX6_joint 84 = .ok (.putfield 45, 3) := by decide +kernel
theorem dX6_joint_87 : decode cX6_joint 87 = .ok (.aload_n 0, 1) := by decide +kernel
theorem dX6_joint_88 : decode cX6_joint 88 = .ok (.getfield 45, 3) := by decide +kernel
theorem dX6_joint_91 : decode cX6_joint 91 = .ok (.ifCond .le 5, 3) := by decide +kernel
theorem dX6_joint_94 : decode cX6_joint 94 = .ok (.iconst 0, 1) := by decide +kernel
theorem dX6_joint_95 : decode cX6_joint 95 = .ok (.ireturn, 1) := by decide +kernel
theorem dX6_joint_96 : decode cX6_joint 96 = .ok (.aload_n 0, 1) := by decide +kernel
theorem dX6_joint_97 : decode cX6_joint 97 = .ok (.getfield 7, 3) := by decide +kernel
theorem dX6_joint_100 : decode cX6_joint 100 = .ok (.aload_n 0, 1) := by decide +kernel
theorem dX6_joint_101 : decode cX6_joint 101 = .ok (.getfield 48, 3) := by decide +kernel
theorem dX6_joint_104 : decode cX6_joint 104 = .ok (.iload_n 1, 1) := by decide +kernel
theorem dX6_joint_105 : decode cX6_joint 105 = .ok (.iastore, 1) := by decide +kernel
theorem dX6_joint_106 : decode cX6_joint 106 = .ok (.aload_n 0, 1) := by decide +kernel
theorem dX6_joint_107 : decode cX6_joint 107 = .ok (.getfield 13, 3) := by decide +kernel
theorem dX6_joint_110 : decode cX6_joint 110 = .ok (.aload_n 0, 1) := by decide +kernel
theorem dX6_joint_111 : decode cX6_joint 111 = .ok (.getfield 48, 3) := by decide +kernel
theorem dX6_joint_114 : decode cX6_joint 114 = .ok (.iload_n 2, 1) := by decide +kernel
theorem dX6_joint_115 : decode cX6_joint 115 = .ok (.iastore, 1) := by decide +kernel
theorem dX6_joint_116 : decode cX6_joint 116 = .ok (.aload_n 0, 1) := by decide +kernel
theorem dX6_joint_117 : decode cX6_joint 117 = .ok (.getfield 16, 3) := by decide +kernel
theorem dX6_joint_120 : decode cX6_joint 120 = .ok (.aload_n 0, 1) := by decide +kernel
theorem dX6_joint_121 : decode cX6_joint 121 = .ok (.getfield 48, 3) := by decide +kernel
theorem dX6_joint_124 : decode cX6_joint 124 = .ok (.iload_n 3, 1) := by decide +kernel
theorem dX6_joint_125 : decode cX6_joint 125 = .ok (.iastore, 1) := by decide +kernel
theorem dX6_joint_126 : decode cX6_joint 126 = .ok (.aload_n 0, 1) := by decide +kernel
theorem dX6_joint_127 : decode cX6_joint 127 = .ok (.getfield 19, 3) := by decide +kernel
theorem dX6_joint_130 : decode cX6_joint 130 = .ok (.aload_n 0, 1) := by decide +kernel
theorem dX6_joint_131 : decode cX6_joint 131 = .ok (.getfield 48, 3) := by decide +kernel
theorem dX6_joint_134 : decode cX6_joint 134 = .ok (.iload 4, 2) := by decide +kernel
theorem dX6_joint_136 : decode cX6_joint 136 = .ok (.iastore, 1) := by decide +kernel
theorem dX6_joint_137 : decode cX6_joint 137 = .ok (.aload_n 0, 1) := by decide +kernel
theorem dX6_joint_138 : decode cX6_joint 138 = .ok (.getfield 22, 3) := by decide +kernel
theorem dX6_joint_141 : decode cX6_joint 141 = .ok (.aload_n 0, 1) := by decide +kernel
theorem dX6_joint_142 : decode cX6_joint 142 = .ok (.getfield 48, 3) := by decide +kernel
theorem dX6_joint_145 : decode cX6_joint 145 = .ok (.iconst 0, 1) := by decide +kernel
theorem dX6_joint_146 : decode cX6_joint 146 = .ok (.iload_n 3, 1) := by decide +kernel
theorem dX6_joint_147 : decode cX6_joint 147 = .ok (.iload 4, 2) := by decide +kernel
theorem dX6_joint_149 : decode cX6_joint 149 = .ok (.invokestatic 96, 3) := by decide +kernel
theorem dX6_joint_152 : decode cX6_joint 152 = .ok (.iastore, 1) := by decide +kernel
theorem dX6_joint_153 : decode cX6_joint 153 = .ok (.aload_n 0, 1) := by decide +kernel
theorem dX6_joint_154 : decode cX6_joint 154 = .ok (.dup, 1) := by decide +kernel
theorem dX6_joint_155 : decode cX6_joint 155 = .ok (.getfield 48, 3) := by decide +kernel
theorem dX6_joint_158 : decode cX6_joint 158 = .ok (.iconst 1, 1) := by decide +kernel
theorem dX6_joint_159 : decode cX6_joint 159 = .ok (.iadd, 1) := by decide +kernel
theorem dX6_joint_160 : decode cX6_joint 160 = .ok (.putfield 48, 3) := by decide +kernel
theorem dX6_joint_163 : decode cX6_joint 163 = .ok (.aload_n 0, 1) := by decide +kernel
theorem dX6_joint_164 : decode cX6_joint 164 = .ok (.getfield 48, 3) := by decide +kernel
theorem dX6_joint_167 : decode cX6_joint 167 = .ok (.iconst 1, 1) := by decide +kernel
theorem dX6_joint_168 : decode cX6_joint 168 = .ok (.isub, 1) := by decide +kernel
theorem dX6_joint_169 : decode cX6_joint 169 = .ok (.ireturn, 1) := by decide +kernel
set_option maxRecDepth 20000 in
theorem ggX6_set_X6_isJoint : GoodIn wsX6_set wsX6_isJoint := goodIn_r _ [9, 10, 11, 12, 8, 13, 14, 15, 16, 17, 18, 19, 20, 21, 22, 23, 24, 25, 26, 27, 28, 29, 30, 31, 32] (by decide +kernel) (by decide +kernel)
set_option maxRecDepth 20000 in
theorem gX6_set_X6_isJoint : GoodIn wsX6_set (wsV RX6 100 RX6 yX6_isJoint wsX6_isJoint) := goodIn_app (goodIn_of _ (by decide +kernel)) ggX6_set_X6_isJoint
set_option maxRecDepth 20000 in
theorem ggX6_set_X6_in : GoodIn wsX6_set wsX6_in := goodIn_r _ [13] (by decide +kernel) (by decide +kernel)
set_option maxRecDepth 20000 in
theorem gX6_set_X6_in : GoodIn wsX6_set (va_wsS RX6 51 yX6_in wsX6_in) := goodIn_app (goodIn_of _ (by decide +kernel)) ggX6_set_X6_in
theorem dX6_set_0 : decode cX6_set 0 = .ok (.aload_n 0, 1) := by decide +kernel
theorem dX6_set_1 : decode cX6_set 1 = .ok (.aload_n 0, 1) := by decide +kernel
theorem dX6_set_2 : decode cX6_set 2 = .ok (.iload_n 1, 1) := by decide +kernel
theorem dX6_set_3 : decode cX6_set 3 = .ok (.invokevirtual 100, 3) := by decide +kernel
theorem dX6_set_6 : decode cX6_set 6 = .ok (.ifCond .ne 7, 3) := by decide +kernel
theorem dX6_set_9 : decode cX6_set 9 = .ok (.iconst 1, 1) := by decide +kernel
theorem dX6_set_10 : decode cX6_set 10 = .ok (.goto 27, 3) := by decide +kernel
theorem dX6_set_13 : decode cX6_set 13 = .ok (.iload_n 2, 1) := by decide +kernel
theorem dX6_set_14 : decode cX6_set 14 = .ok (.aload_n 0, 1) := by decide +kernel
theorem dX6_set_15 : decode cX6_set 15 = .ok (.getfield 16, 3) := by decide +kernel
theorem dX6_set_18 : decode cX6_set 18 = .ok (.iload_n 1, 1) := by decide +kernel
theorem dX6_set_19 : decode cX6_set 19 = .ok (.iaload, 1) := by decide +kernel
theorem dX6_set_20 : decode cX6_set 20 = .ok (.aload_n 0, 1) := by decide +kernel
theorem dX6_set_21 : decode cX6_set 21 = .ok (.getfield 19, 3) := by decide +kernel
theorem dX6_set_24 : decode cX6_set 24 = .ok (.iload_n 1, 1) := by decide +kernel
theorem dX6_set_25 : decode cX6_set 25 = .ok (.iaload, 1) := by decide +kernel
theorem dX6_set_26 : decode cX6_set 26 = .ok (.invokestatic 51, 3) := by decide +kernel
theorem dX6_set_29 : decode cX6_set 29 = .ok (.ifCond .eq 7, 3) := by decide +kernel
theorem dX6_set_32 : decode cX6_set 32 = .ok (.iconst 0, 1) := by decide +kernel
theorem dX6_set_33 : decode cX6_set 33 = .ok (.goto 4, 3) := by decide +kernel
theorem dX6_set_36 : decode cX6_set 36 = .ok (.iconst 2, 1) := by decide +kernel
theorem dX6_set_37 : decode cX6_set 37 = .ok (.putfield 45, 3) := by decide +kernel
theorem dX6_set_40 : decode cX6_set 40 = .ok (.aload_n 0, 1) := by decide +kernel
theorem dX6_set_41 : decode cX6_set 41 = .ok (.getfield 45, 3) := by decide +kernel
theorem dX6_set_44 : decode cX6_set 44 = .ok (.ifCond .le 5, 3) := by decide +kernel
theorem dX6_set_47 : decode cX6_set 47 = .ok (.iconst 0, 1) := by decide +kernel
theorem dX6_set_48 : decode cX6_set 48 = .ok (.ireturn, 1) := by decide +kernel
theorem dX6_set_49 : decode cX6_set 49 = .ok (.aload_n 0, 1) := by decide +kernel
theorem dX6_set_50 : decode cX6_set 50 = .ok (.getfield 22, 3) := by decide +kernel
theorem dX6_set_53 : decode cX6_set 53 = .ok (.iload_n 1, 1) := by decide +kernel
theorem dX6_set_54 : decode cX6_set 54 = .ok (.iaload, 1) := by decide +kernel
theorem dX6_set_55 : decode cX6_set 55 = .ok (.istore_n 3, 1) := by decide +kernel
theorem dX6_set_56 : decode cX6_set 56 = .ok (.aload_n 0, 1) := by decide +kernel
theorem dX6_set_57 : decode cX6_set 57 = .ok (.getfield 22, 3) := by decide +kernel
theorem dX6_set_60 : decode cX6_set 60 = .ok (.iload_n 1, 1) := by decide +kernel
theorem dX6_set_61 : decode cX6_set 61 = .ok (.iload_n 2, 1) := by decide +kernel
theorem dX6_set_62 : decode cX6_set 62 = .ok (.iastore, 1) := by decide +kernel
theorem dX6_set_63 : decode cX6_set 63 = .ok (.iload_n 3, 1) := by decide +kernel
theorem dX6_set_64 : decode cX6_set 64 = .ok (.ireturn, 1) := by decide +kernel
set_option maxRecDepth 20000 in
theorem ggX6_value_X6_isJoint : GoodIn wsX6_value wsX6_isJoint := goodIn_r _ [7, 8, 9, 10, 6, 11, 12, 13, 14, 15, 16, 17, 18, 19, 20, 21, 22, 23, 24, 25, 26, 27, 28, 29, 30] (by decide +kernel) (by decide +kernel)
set_option maxRecDepth 20000 in
theorem gX6_value_X6_isJoint : GoodIn wsX6_value (wsV RX6 100 RX6 yX6_isJoint wsX6_isJoint) := goodIn_app (goodIn_of _ (by decide +kernel)) ggX6_value_X6_isJoint
theorem dX6_value_0 : decode cX6_value 0 = .ok (.aload_n 0, 1) := by decide +kernel
theorem dX6_value_1 : decode cX6_value 1 = .ok (.aload_n 0, 1) := by decide +kernel
theorem dX6_value_2 : decode cX6_value 2 = .ok (.iload_n 1, 1) := by decide +kernel
theorem dX6_value_3 : decode cX6_value 3 = .ok (.invokevirtual 100, 3) := by decide +kernel
theorem dX6_value_6 : decode cX6_value 6 = .ok (.ifCond .eq 7, 3) := by decide +kernel
theorem dX6_value_9 : decode cX6_value 9 = .ok (.iconst 0, 1) := by decide +kernel
theorem dX6_value_10 : decode cX6_value 10 = .ok (.goto 4, 3) := by decide +kernel
theorem dX6_value_13 : decode cX6_value 13 = .ok (.iconst 1, 1) := by decide +kernel
theorem dX6_value_14 : decode cX6_value 14 = .ok (.putfield 45, 3) := by decide +kernel
theorem dX6_value_17 : decode cX6_value 17 = .ok (.aload_n 0, 1) := by decide +kernel
theorem dX6_value_18 : decode cX6_value 18 = .ok (.getfield 45, 3) := by decide +kernel
theorem dX6_value_21 : decode cX6_value 21 = .ok (.ifCond .le 7, 3) := by decide +kernel
theorem dX6_value_24 : decode cX6_value 24 = .ok (.iconst 0, 1) := by decide +kernel
theorem dX6_value_25 : decode cX6_value 25 = .ok (.goto 9, 3) := by decide +kernel
theorem dX6_value_28 : decode cX6_value 28 = .ok (.aload_n 0, 1) := by decide +kernel
theorem dX6_value_29 : decode cX6_value 29 = .ok (.getfield 22, 3) := by decide +kernel
theorem dX6_value_32 : decode cX6_value 32 = .ok (.iload_n 1, 1) := by decide +kernel
theorem dX6_value_33 : decode cX6_value 33 = .ok (.iaload, 1) := by decide +kernel
theorem dX6_value_34 : decode cX6_value 34 = .ok (.ireturn, 1) := by decide +kernel
set_option maxRecDepth 20000 in
theorem ggX6_tip_X6_in : GoodIn wsX6_tip wsX6_in := goodIn_r _ [8] (by decide +kernel) (by decide +kernel)
set_option maxRecDepth 20000 in
theorem gX6_tip_X6_in : GoodIn wsX6_tip (va_wsS RX6 51 yX6_in wsX6_in) := goodIn_app (goodIn_of _ (by decide +kernel)) ggX6_tip_X6_in
set_option maxRecDepth 20000 in
theorem ggX6_tip_X6_looksNow : GoodIn wsX6_tip wsX6_looksNow := goodIn_r _ [12, 13, 14, 15, 7, 16, 17, 18, 19, 20, 21, 22, 23, 2, 3, 4, 24, 25, 26, 27, 28, 29, 30, 31, 32, 33, 34, 35, 36, 37, 38, 39, 40, 41, 42, 43, 44, 45, 46, 47, 48, 49, 50, 51, 52, 53] (by decide +kernel) (by decide +kernel)
set_option maxRecDepth 20000 in
theorem gX6_tip_X6_looksNow : GoodIn wsX6_tip (wsV RX6 86 RX6 yX6_looksNow wsX6_looksNow) := goodIn_app (goodIn_of _ (by decide +kernel)) ggX6_tip_X6_looksNow
theorem dX6_tip_0 : decode cX6_tip 0 = .ok (.aload_n 0, 1) := by decide +kernel
theorem dX6_tip_1 : decode cX6_tip 1 = .ok (.iload_n 1, 1) := by decide +kernel
theorem dX6_tip_2 : decode cX6_tip 2 = .ok (.iconst 0, 1) := by decide +kernel
theorem dX6_tip_3 : decode cX6_tip 3 = .ok (.iconst 2, 1) := by decide +kernel
theorem dX6_tip_4 : decode cX6_tip 4 = .ok (.invokestatic 51, 3) := by decide +kernel
theorem dX6_tip_7 : decode cX6_tip 7 = .ok (.ifCond .eq 7, 3) := by decide +kernel
theorem dX6_tip_10 : decode cX6_tip 10 = .ok (.iconst 0, 1) := by decide +kernel
theorem dX6_tip_11 : decode cX6_tip 11 = .ok (.goto 4, 3) := by decide +kernel
theorem dX6_tip_14 : decode cX6_tip 14 = .ok (.iconst 1, 1) := by decide +kernel
theorem dX6_tip_15 : decode cX6_tip 15 = .ok (.putfield 45, 3) := by decide +kernel
theorem dX6_tip_18 : decode cX6_tip 18 = .ok (.aload_n 0, 1) := by decide +kernel
theorem dX6_tip_19 : decode cX6_tip 19 = .ok (.getfield 45, 3) := by decide +kernel
theorem dX6_tip_22 : decode cX6_tip 22 = .ok (.ifCond .le 5, 3) := by decide +kernel
theorem dX6_tip_25 : decode cX6_tip 25 = .ok (.iconst 0, 1) := by decide +kernel
theorem dX6_tip_26 : decode cX6_tip 26 = .ok (.ireturn, 1) := by decide +kernel
theorem dX6_tip_27 : decode cX6_tip 27 = .ok (.aload_n 0, 1) := by decide +kernel
theorem dX6_tip_28 : decode cX6_tip 28 = .ok (.invokevirtual 86, 3) := by decide +kernel
theorem dX6_tip_31 : decode cX6_tip 31 = .ok (.iload_n 1, 1) := by decide +kernel
theorem dX6_tip_32 : decode cX6_tip 32 = .ok (.ifCond .ne 10, 3) := by decide +kernel
theorem dX6_tip_35 : decode cX6_tip 35 = .ok (.aload_n 0, 1) := by decide +kernel
theorem dX6_tip_36 : decode cX6_tip 36 = .ok (.getfield 59, 3) := by decide +kernel
theorem dX6_tip_39 : decode cX6_tip 39 = .ok (.goto 19, 3) := by decide +kernel
theorem dX6_tip_42 : decode cX6_tip 42 = .ok (.iload_n 1, 1) := by decide +kernel
theorem dX6_tip_43 : decode cX6_tip 43 = .ok (.iconst 1, 1) := by decide +kernel
theorem dX6_tip_44 : decode cX6_tip 44 = .ok (.if_icmp .ne 10, 3) := by decide +kernel
theorem dX6_tip_47 : decode cX6_tip 47 = .ok (.aload_n 0, 1) := by decide +kernel
theorem dX6_tip_48 : decode cX6_tip 48 = .ok (.getfield 62, 3) := by decide +kernel
theorem dX6_tip_51 : decode cX6_tip 51 = .ok (.goto 7, 3) := by decide +kernel
theorem dX6_tip_54 : decode cX6_tip 54 = .ok (.aload_n 0, 1) := by decide +kernel
theorem dX6_tip_55 : decode cX6_tip 55 = .ok (.getfield 65, 3) := by decide +kernel
theorem dX6_tip_58 : decode cX6_tip 58 = .ok (.ireturn, 1) := by decide +kernel
set_option maxRecDepth 20000 in
theorem ggX6_tipAnew_X6_tip : GoodIn wsX6_tipAnew wsX6_tip := goodIn_r _ [5, 6, 7, 8, 9, 10, 11, 4, 12, 13, 14, 15, 16, 17, 18, 19, 20, 21, 22, 23, 24, 25, 26, 27, 28, 29, 30, 31, 32, 33, 34, 35, 36, 37, 38, 39, 40, 41, 42, 43, 44, 45, 46, 47, 48, 49, 50, 51, 52, 53, 54, 55, 56, 57] (by decide +kernel) (by decide +kernel)
set_option maxRecDepth 20000 in
theorem gX6_tipAnew_X6_tip : GoodIn wsX6_tipAnew (wsV RX6 104 RX6 yX6_tip wsX6_tip) := goodIn_app (goodIn_of _ (by decide +kernel)) ggX6_tipAnew_X6_tip
theorem dX6_tipAnew_0 : decode cX6_tipAnew 0 = .ok (.aload_n 0, 1) := by decide +kernel
theorem dX6_tipAnew_1 : decode cX6_tipAnew 1 = .ok (.iload_n 1, 1) := by decide +kernel
theorem dX6_tipAnew_2 : decode cX6_tipAnew 2 = .ok (.invokevirtual 104, 3) := by decide +kernel
theorem dX6_tipAnew_5 : decode cX6_tipAnew 5 = .ok (.ireturn, 1) := by decide +kernel
set_option maxRecDepth 20000 in
theorem ggX6_findsMoves_X6_looksNow : GoodIn wsX6_findsMoves wsX6_looksNow := goodIn_r _ [11, 12, 13, 14, 10, 15, 3, 4, 16, 17, 18, 19, 20, 1, 2, 21, 22, 23, 24, 25, 26, 27, 28, 29, 30, 31, 32, 33, 34, 35, 36, 37, 38, 39, 40, 41, 42, 43, 44, 45, 46, 47, 48, 49, 50, 51] (by decide +kernel) (by decide +kernel)
set_option maxRecDepth 20000 in
theorem gX6_findsMoves_X6_looksNow : GoodIn wsX6_findsMoves (wsV RX6 86 RX6 yX6_looksNow wsX6_looksNow) := goodIn_app (goodIn_of _ (by decide +kernel)) ggX6_findsMoves_X6_looksNow
set_option maxRecDepth 20000 in
theorem ggX6_findsMoves_X6_copiesPose : GoodIn wsX6_findsMoves wsX6_copiesPose := goodIn_r _ [15, 3, 4, 16, 33, 34, 35, 36, 37, 38, 39, 40, 41, 42, 43, 44, 45, 46, 47, 48, 49, 50, 51] (by decide +kernel) (by decide +kernel)
set_option maxRecDepth 20000 in
theorem gX6_findsMoves_X6_copiesPose : GoodIn wsX6_findsMoves (wsV RX6 74 RX6 yX6_copiesPose wsX6_copiesPose) := goodIn_app (goodIn_of _ (by decide +kernel)) ggX6_findsMoves_X6_copiesPose
set_option maxRecDepth 20000 in
theorem ggX6_findsMoves_X6_looks : GoodIn wsX6_findsMoves wsX6_looks := goodIn_r _ [20, 1, 2, 21, 3, 22, 23, 4, 24, 25, 10, 26, 27, 28, 29, 30, 31, 32, 33, 34, 35, 36, 37, 38, 39, 40, 41, 42, 43, 44, 45, 46, 47, 48, 49, 50, 51] (by decide +kernel) (by decide +kernel)
set_option maxRecDepth 20000 in
theorem gX6_findsMoves_X6_looks : GoodIn wsX6_findsMoves (wsV RX6 77 RX6 yX6_looks wsX6_looks) := goodIn_app (goodIn_of _ (by decide +kernel)) ggX6_findsMoves_X6_looks
theorem dX6_findsMoves_0 : decode cX6_findsMoves 0 = .ok (.aload_n 0, 1) := by decide +kernel
theorem dX6_findsMoves_1 : decode cX6_findsMoves 1 = .ok (.invokevirtual 86, 3) := by decide +kernel
theorem dX6_findsMoves_4 : decode cX6_findsMoves 4 = .ok (.aload_n 0, 1) := by decide +kernel
theorem dX6_findsMoves_5 : decode cX6_findsMoves 5 = .ok (.getfield 59, 3) := by decide +kernel
theorem dX6_findsMoves_8 : decode cX6_findsMoves 8 = .ok (.istore_n 1, 1) := by decide +kernel
theorem dX6_findsMoves_9 : decode cX6_findsMoves 9 = .ok (.aload_n 0, 1) := by decide +kernel
theorem dX6_findsMoves_10 : decode cX6_findsMoves 10 = .ok (.getfield 62, 3) := by decide +kernel
theorem dX6_findsMoves_13 : decode cX6_findsMoves 13 = .ok (.istore_n 2, 1) := by decide +kernel
theorem dX6_findsMoves_14 : decode cX6_findsMoves 14 = .ok (.iconst 0, 1) := by decide +kernel
theorem dX6_findsMoves_15 : decode cX6_findsMoves 15 = .ok (.istore_n 3, 1) := by decide +kernel
theorem dX6_findsMoves_16 : decode cX6_findsMoves 16 = .ok (.iload_n 3, 1) := by decide +kernel
theorem dX6_findsMoves_17 : decode cX6_findsMoves 17 = .ok (.aload_n 0, 1) := by decide +kernel
theorem dX6_findsMoves_18 : decode cX6_findsMoves 18 = .ok (.getfield 48, 3) := by decide +kernel
theorem dX6_findsMoves_21 : decode cX6_findsMoves 21 = .ok (.if_icmp .ge 51, 3) := by decide +kernel
theorem dX6_findsMoves_24 : decode cX6_findsMoves 24 = .ok (.aload_n 0, 1) := by decide +kernel
theorem dX6_findsMoves_25 : decode cX6_findsMoves 25 = .ok (.invokevirtual 74, 3) := by decide +kernel
theorem dX6_findsMoves_28 : decode cX6_findsMoves 28 = .ok (.aload_n 0, 1) := by decide +kernel
theorem dX6_findsMoves_29 : decode cX6_findsMoves 29 = .ok (.getfield 29, 3) := by decide +kernel
theorem dX6_findsMoves_32 : decode cX6_findsMoves 32 = .ok (.iload_n 3, 1) := by decide +kernel
theorem dX6_findsMoves_33 : decode cX6_findsMoves 33 = .ok (.dup2, 1) := by decide +kernel
theorem dX6_findsMoves_34 : decode cX6_findsMoves 34 = .ok (.iaload, 1) := by decide +kernel
theorem dX6_findsMoves_35 : decode cX6_findsMoves 35 = .ok (.iconst 1, 1) := by decide +kernel
theorem dX6_findsMoves_36 : decode cX6_findsMoves 36 = .ok (.iadd, 1) := by decide +kernel
theorem dX6_findsMoves_37 : decode cX6_findsMoves 37 = .ok (.iastore, 1) := by decide +kernel
theorem dX6_findsMoves_38 : decode cX6_findsMoves 38 = .ok (.aload_n 0, 1) := by decide +kernel
theorem dX6_findsMoves_39 : decode cX6_findsMoves 39 = .ok (.invokevirtual 77, 3) := by decide +kernel
theorem dX6_findsMoves_42 : decode cX6_findsMoves 42 = .ok (.aload_n 0, 1) := by decide +kernel
theorem dX6_findsMoves_43 : decode cX6_findsMoves 43 = .ok (.getfield 32, 3) := by decide +kernel
theorem dX6_findsMoves_46 : decode cX6_findsMoves 46 = .ok (.iload_n 3, 1) := by decide +kernel
theorem dX6_findsMoves_47 : decode cX6_findsMoves 47 = .ok (.aload_n 0, 1) := by decide +kernel
theorem dX6_findsMoves_48 : decode cX6_findsMoves 48 = .ok (.getfield 59, 3) := by decide +kernel
theorem dX6_findsMoves_51 : decode cX6_findsMoves 51 = .ok (.iload_n 1, 1) := by decide +kernel
theorem dX6_findsMoves_52 : decode cX6_findsMoves 52 = .ok (.isub, 1) := by decide +kernel
theorem dX6_findsMoves_53 : decode cX6_findsMoves 53 = .ok (.iastore, 1) := by decide +kernel
theorem dX6_findsMoves_54 : decode cX6_findsMoves 54 = .ok (.aload_n 0, 1) := by decide +kernel
theorem dX6_findsMoves_55 : decode cX6_findsMoves 55 = .ok (.getfield 35, 3) := by decide +kernel
theorem dX6_findsMoves_58 : decode cX6_findsMoves 58 = .ok (.iload_n 3, 1) := by decide +kernel
theorem dX6_findsMoves_59 : decode cX6_findsMoves 59 = .ok (.aload_n 0, 1) := by decide +kernel
theorem dX6_findsMoves_60 : decode cX6_findsMoves 60 = .ok (.getfield 62, 3) := by decide +kernel
theorem dX6_findsMoves_63 : decode cX6_findsMoves 63 = .ok (.iload_n 2, 1) := by decide +kernel
theorem dX6_findsMoves_64 : decode cX6_findsMoves 64 = .ok (.isub, 1) := by decide +kernel
theorem dX6_findsMoves_65 : decode cX6_findsMoves 65 = .ok (.iastore, 1) := by decide +kernel
theorem dX6_findsMoves_66 : decode cX6_findsMoves 66 = .ok (.iinc 3 1, 3) := by decide +kernel
theorem dX6_findsMoves_69 : decode cX6_findsMoves 69 = .ok (.goto (-53), 3) := by decide +kernel
theorem dX6_findsMoves_72 : decode cX6_findsMoves 72 = .ok (.return_, 1) := by decide +kernel
set_option maxRecDepth 20000 in
theorem ggX6_moves_X6_isJoint : GoodIn wsX6_moves wsX6_isJoint := goodIn_r _ [8, 9, 10, 11, 7, 12, 45, 46, 47, 48, 49, 50, 51, 52, 53, 54, 55, 56, 57, 58, 59, 60, 61, 62, 63] (by decide +kernel) (by decide +kernel)
set_option maxRecDepth 20000 in
theorem gX6_moves_X6_isJoint : GoodIn wsX6_moves (wsV RX6 100 RX6 yX6_isJoint wsX6_isJoint) := goodIn_app (goodIn_of _ (by decide +kernel)) ggX6_moves_X6_isJoint
set_option maxRecDepth 20000 in
theorem ggX6_moves_X6_in : GoodIn wsX6_moves wsX6_in := goodIn_r _ [12] (by decide +kernel) (by decide +kernel)
set_option maxRecDepth 20000 in
theorem gX6_moves_X6_in : GoodIn wsX6_moves (va_wsS RX6 51 yX6_in wsX6_in) := goodIn_app (goodIn_of _ (by decide +kernel)) ggX6_moves_X6_in
set_option maxRecDepth 20000 in
theorem ggX6_moves_X6_findsMoves : GoodIn wsX6_moves wsX6_findsMoves := goodIn_r _ [16, 17, 18, 9, 19, 2, 3, 20, 21, 22, 7, 23, 24, 25, 26, 27, 28, 29, 30, 31, 32, 33, 34, 35, 36, 37, 38, 39, 40, 41, 42, 43, 44, 45, 46, 47, 48, 49, 50, 51, 52, 53, 54, 55, 56, 57, 58, 59, 60, 61, 62, 63] (by decide +kernel) (by decide +kernel)
set_option maxRecDepth 20000 in
theorem gX6_moves_X6_findsMoves : GoodIn wsX6_moves (wsV RX6 107 RX6 yX6_findsMoves wsX6_findsMoves) := goodIn_app (goodIn_of _ (by decide +kernel)) ggX6_moves_X6_findsMoves
theorem dX6_moves_0 : decode cX6_moves 0 = .ok (.aload_n 0, 1) := by decide +kernel
theorem dX6_moves_1 : decode cX6_moves 1 = .ok (.aload_n 0, 1) := by decide +kernel
theorem dX6_moves_2 : decode cX6_moves 2 = .ok (.iload_n 1, 1) := by decide +kernel
theorem dX6_moves_3 : decode cX6_moves 3 = .ok (.invokevirtual 100, 3) := by decide +kernel
theorem dX6_moves_6 : decode cX6_moves 6 = .ok (.ifCond .ne 7, 3) := by decide +kernel
theorem dX6_moves_9 : decode cX6_moves 9 = .ok (.iconst 1, 1) := by decide +kernel
theorem dX6_moves_10 : decode cX6_moves 10 = .ok (.goto 17, 3) := by decide +kernel
theorem dX6_moves_13 : decode cX6_moves 13 = .ok (.iload_n 2, 1) := by decide +kernel
theorem dX6_moves_14 : decode cX6_moves 14 = .ok (.iconst 0, 1) := by decide +kernel
theorem dX6_moves_15 : decode cX6_moves 15 = .ok (.iconst 1, 1) := by decide +kernel
theorem dX6_moves_16 : decode cX6_moves 16 = .ok (.invokestatic 51, 3) := by decide +kernel
theorem dX6_moves_19 : decode cX6_moves 19 = .ok (.ifCond .eq 7, 3) := by decide +kernel
theorem dX6_moves_22 : decode cX6_moves 22 = .ok (.iconst 0, 1) := by decide +kernel
theorem dX6_moves_23 : decode cX6_moves 23 = .ok (.goto 4, 3) := by decide +kernel
theorem dX6_moves_26 : decode cX6_moves 26 = .ok (.iconst 2, 1) := by decide +kernel
theorem dX6_moves_27 : decode cX6_moves 27 = .ok (.putfield 45, 3) := by decide +kernel
theorem dX6_moves_30 : decode cX6_moves 30 = .ok (.aload_n 0, 1) := by decide +kernel
theorem dX6_moves_31 : decode cX6_moves 31 = .ok (.getfield 45, 3) := by decide +kernel
theorem dX6_moves_34 : decode cX6_moves 34 = .ok (.ifCond .le 5, 3) := by decide +kernel
theorem dX6_moves_37 : decode cX6_moves 37 = .ok (.iconst 0, 1) := by decide +kernel
theorem dX6_moves_38 : decode cX6_moves 38 = .ok (.ireturn, 1) := by decide +kernel
theorem dX6_moves_39 : decode cX6_moves 39 = .ok (.aload_n 0, 1) := by decide +kernel
theorem dX6_moves_40 : decode cX6_moves 40 = .ok (.invokevirtual 107, 3) := by decide +kernel
theorem dX6_moves_43 : decode cX6_moves 43 = .ok (.iload_n 2, 1) := by decide +kernel
theorem dX6_moves_44 : decode cX6_moves 44 = .ok (.ifCond .ne 12, 3) := by decide +kernel
theorem dX6_moves_47 : decode cX6_moves 47 = .ok (.aload_n 0, 1) := by decide +kernel
theorem dX6_moves_48 : decode cX6_moves 48 = .ok (.getfield 32, 3) := by decide +kernel
theorem dX6_moves_51 : decode cX6_moves 51 = .ok (.iload_n 1, 1) := by decide +kernel
theorem dX6_moves_52 : decode cX6_moves 52 = .ok (.iaload, 1) := by decide +kernel
theorem dX6_moves_53 : decode cX6_moves 53 = .ok (.goto 9, 3) := by decide +kernel
theorem dX6_moves_56 : decode cX6_moves 56 = .ok (.aload_n 0, 1) := by decide +kernel
theorem dX6_moves_57 : decode cX6_moves 57 = .ok (.getfield 35, 3) := by decide +kernel
theorem dX6_moves_60 : decode cX6_moves 60 = .ok (.iload_n 1, 1) := by decide +kernel
theorem dX6_moves_61 : decode cX6_moves 61 = .ok (.iaload, 1) := by decide +kernel
theorem dX6_moves_62 : decode cX6_moves 62 = .ok (.ireturn, 1) := by decide +kernel
set_option maxRecDepth 20000 in
theorem ggX6_freedom_X6_findsMoves : GoodIn wsX6_freedom wsX6_findsMoves := goodIn_r _ [9, 10, 11, 2, 12, 3, 4, 13, 14, 15, 8, 16, 17, 18, 19, 20, 21, 22, 23, 24, 25, 26, 27, 28, 29, 30, 31, 32, 33, 34, 35, 36, 37, 38, 39, 40, 41, 42, 43, 44, 45, 46, 47, 48, 49, 50, 51, 52, 53, 54, 55, 56] (by decide +kernel) (by decide +kernel)
set_option maxRecDepth 20000 in
theorem gX6_freedom_X6_findsMoves : GoodIn wsX6_freedom (wsV RX6 107 RX6 yX6_findsMoves wsX6_findsMoves) := goodIn_app (goodIn_of _ (by decide +kernel)) ggX6_freedom_X6_findsMoves
theorem dX6_freedom_0 : decode cX6_freedom 0 = .ok (.aload_n 0, 1) := by decide +kernel
theorem dX6_freedom_1 : decode cX6_freedom 1 = .ok (.iconst 0, 1) := by decide +kernel
theorem dX6_freedom_2 : decode cX6_freedom 2 = .ok (.putfield 45, 3) := by decide +kernel
theorem dX6_freedom_5 : decode cX6_freedom 5 = .ok (.aload_n 0, 1) := by decide +kernel
theorem dX6_freedom_6 : decode cX6_freedom 6 = .ok (.invokevirtual 107, 3) := by decide +kernel
theorem dX6_freedom_9 : decode cX6_freedom 9 = .ok (.lconst 0, 1) := by decide +kernel
theorem dX6_freedom_10 : decode cX6_freedom 10 = .ok (.lstore_n 1, 1) := by decide +kernel
theorem dX6_freedom_11 : decode cX6_freedom 11 = .ok (.iconst 0, 1) := by decide +kernel
theorem dX6_freedom_12 : decode cX6_freedom 12 = .ok (.istore_n 3, 1) := by decide +kernel
theorem dX6_freedom_13 : decode cX6_freedom 13 = .ok (.iload_n 3, 1) := by decide +kernel
theorem dX6_freedom_14 : decode cX6_freedom 14 = .ok (.aload_n 0, 1) := by decide +kernel
theorem dX6_freedom_15 : decode cX6_freedom 15 = .ok (.getfield 48, 3) := by decide +kernel
theorem dX6_freedom_18 : decode cX6_freedom 18 = .ok (.if_icmp .ge 90, 3) := by decide +kernel
theorem dX6_freedom_21 : decode cX6_freedom 21 = .ok (.iconst 0, 1) := by decide +kernel
theorem dX6_freedom_22 : decode cX6_freedom 22 = .ok (.istore 4, 2) := by decide +kernel
theorem dX6_freedom_24 : decode cX6_freedom 24 = .ok (.iload 4, 2) := by decide +kernel
theorem dX6_freedom_26 : decode cX6_freedom 26 = .ok (.iload_n 3, 1) := by decide +kernel
theorem dX6_freedom_27 : decode cX6_freedom 27 = .ok (.if_icmp .ge 75, 3) := by decide +kernel
theorem dX6_freedom_30 : decode cX6_freedom 30 = .ok (.aload_n 0, 1) := by decide +kernel
theorem dX6_freedom_31 : decode cX6_freedom 31 = .ok (.getfield 32, 3) := by decide +kernel
theorem dX6_freedom_34 : decode cX6_freedom 34 = .ok (.iload_n 3, 1) := by decide +kernel
theorem dX6_freedom_35 : decode cX6_freedom 35 = .ok (.iaload, 1) := by decide +kernel
theorem dX6_freedom_36 : decode cX6_freedom 36 = .ok (.i2l, 1) := by decide +kernel
theorem dX6_freedom_37 : decode cX6_freedom 37 = .ok (.aload_n 0, 1) := by decide +kernel
theorem dX6_freedom_38 : decode cX6_freedom 38 = .ok (.getfield 35, 3) := by decide +kernel
theorem dX6_freedom_41 : decode cX6_freedom 41 = .ok (.iload 4, 2) := by decide +kernel
theorem dX6_freedom_43 : decode cX6_freedom 43 = .ok (.iaload, 1) := by decide +kernel
theorem dX6_freedom_44 : decode cX6_freedom 44 = .ok (.i2l, 1) := by decide +kernel
theorem dX6_freedom_45 : decode cX6_freedom 45 = .ok (.lmul, 1) := by decide +kernel
theorem dX6_freedom_46 : decode cX6_freedom 46 = .ok (.aload_n 0, 1) := by decide +kernel
theorem dX6_freedom_47 : decode cX6_freedom 47 = .ok (.getfield 35, 3) := by decide +kernel
theorem dX6_freedom_50 : decode cX6_freedom 50 = .ok (.iload_n 3, 1) := by decide +kernel
theorem dX6_freedom_51 : decode cX6_freedom 51 = .ok (.iaload, 1) := by decide +kernel
theorem dX6_freedom_52 : decode cX6_freedom 52 = .ok (.i2l, 1) := by decide +kernel
theorem dX6_freedom_53 : decode cX6_freedom 53 = .ok (.aload_n 0, 1) := by decide +kernel
theorem dX6_freedom_54 : decode cX6_freedom 54 = .ok (.getfield 32, 3) := by decide +kernel
theorem dX6_freedom_57 : decode cX6_freedom 57 = .ok (.iload 4, 2) := by decide +kernel
theorem dX6_freedom_59 : decode cX6_freedom 59 = .ok (.iaload, 1) := by decide +kernel
theorem dX6_freedom_60 : decode cX6_freedom 60 = .ok (.i2l, 1) := by decide +kernel
theorem dX6_freedom_61 : decode cX6_freedom 61 = .ok (.lmul, 1) := by decide +kernel
theorem dX6_freedom_62 : decode cX6_freedom 62 = .ok (.lsub, 1) := by decide +kernel
theorem dX6_freedom_63 : decode cX6_freedom 63 = .ok (.lstore 5, 2) := by decide +kernel
theorem dX6_freedom_65 : decode cX6_freedom 65 = .ok (.lload 5, 2) := by decide +kernel
theorem dX6_freedom_67 : decode cX6_freedom 67 = .ok (.lconst 0, 1) := by decide +kernel
theorem dX6_freedom_68 : decode cX6_freedom 68 = .ok (.lcmp, 1) := by decide +kernel
theorem dX6_freedom_69 : decode cX6_freedom 69 = .ok (.ifCond .ge 9, 3) := by decide +kernel
theorem dX6_freedom_72 : decode cX6_freedom 72 = .ok (.lload 5, 2) := by decide +kernel
theorem dX6_freedom_74 : decode cX6_freedom 74 = .ok (.lneg, 1) := by decide +kernel
theorem dX6_freedom_75 : decode cX6_freedom 75 = .ok (.goto 5, 3) := by decide +kernel
theorem dX6_freedom_78 : decode cX6_freedom 78 = .ok (.lload 5, 2) := by decide +kernel
theorem dX6_freedom_80 : decode cX6_freedom 80 = .ok (.lstore 5, 2) := by decide +kernel
theorem dX6_freedom_82 : decode cX6_freedom 82 = .ok (.lload 5, 2) := by decide +kernel
theorem dX6_freedom_84 : decode cX6_freedom 84 = .ok (.lload_n 1, 1) := by decide +kernel
theorem dX6_freedom_85 : decode cX6_freedom 85 = .ok (.lcmp, 1) := by decide +kernel
theorem dX6_freedom_86 : decode cX6_freedom 86 = .ok (.ifCond .le 8, 3) := by decide +kernel
theorem dX6_freedom_89 : decode cX6_freedom 89 = .ok (.lload 5, 2) := by decide +kernel
theorem dX6_freedom_91 : decode cX6_freedom 91 = .ok (.goto 4, 3) := by decide +kernel
theorem dX6_freedom_94 : decode cX6_freedom 94 = .ok (.lload_n 1, 1) := by decide +kernel
theorem dX6_freedom_95 : decode cX6_freedom 95 = .ok (.lstore_n 1, 1) := by decide +kernel
theorem dX6_freedom_96 : decode cX6_freedom 96 = .ok (.iinc 4 1, 3) := by decide +kernel
theorem dX6_freedom_99 : decode cX6_freedom 99 = .ok (.goto (-75), 3) := by decide +kernel
theorem dX6_freedom_102 : decode cX6_freedom 102 = .ok (.iinc 3 1, 3) := by decide +kernel
theorem dX6_freedom_105 : decode cX6_freedom 105 = .ok (.goto (-92), 3) := by decide +kernel
theorem dX6_freedom_108 : decode cX6_freedom 108 = .ok (.lload_n 1, 1) := by decide +kernel
theorem dX6_freedom_109 : decode cX6_freedom 109 = .ok (.lreturn, 1) := by decide +kernel
set_option maxRecDepth 20000 in
theorem ggX6_goal_X6_in : GoodIn wsX6_goal wsX6_in := goodIn_r _ [9] (by decide +kernel) (by decide +kernel)
set_option maxRecDepth 20000 in
theorem gX6_goal_X6_in : GoodIn wsX6_goal (va_wsS RX6 51 yX6_in wsX6_in) := goodIn_app (goodIn_of _ (by decide +kernel)) ggX6_goal_X6_in
set_option maxRecDepth 20000 in
theorem ggX6_goal_X6_farNow : GoodIn wsX6_goal wsX6_farNow := goodIn_r _ [13, 14, 15, 16, 8, 17, 18, 19, 20, 21, 22, 23, 24, 25, 26, 27, 28, 29, 30, 31, 32, 33, 34, 35, 36, 37, 38, 39, 40, 41, 42, 43, 44, 45, 46, 4, 5, 47, 48, 49, 50, 51, 52, 53, 54, 55, 56, 57, 58, 59, 60, 61, 62, 63, 64, 65] (by decide +kernel) (by decide +kernel)
set_option maxRecDepth 20000 in
theorem gX6_goal_X6_farNow : GoodIn wsX6_goal (wsV RX6 112 RX6 yX6_farNow wsX6_farNow) := goodIn_app (goodIn_of _ (by decide +kernel)) ggX6_goal_X6_farNow
theorem dX6_goal_0 : decode cX6_goal 0 = .ok (.aload_n 0, 1) := by decide +kernel
theorem dX6_goal_1 : decode cX6_goal 1 = .ok (.iload_n 1, 1) := by decide +kernel
theorem dX6_goal_2 : decode cX6_goal 2 = .ok (.ldc 110, 2) := by decide +kernel
theorem dX6_goal_4 : decode cX6_goal 4 = .ok (.ldc 111, 2) := by decide +kernel
theorem dX6_goal_6 : decode cX6_goal 6 = .ok (.invokestatic 51, 3) := by decide +kernel
theorem dX6_goal_9 : decode cX6_goal 9 = .ok (.ifCond .eq 18, 3) := by decide +kernel
theorem dX6_goal_12 : decode cX6_goal 12 = .ok (.iload_n 2, 1) := by decide +kernel
theorem dX6_goal_13 : decode cX6_goal 13 = .ok (.ldc 110, 2) := by decide +kernel
theorem dX6_goal_15 : decode cX6_goal 15 = .ok (.ldc 111, 2) := by decide +kernel
theorem dX6_goal_17 : decode cX6_goal 17 = .ok (.invokestatic 51, 3) := by decide +kernel
theorem dX6_goal_20 : decode cX6_goal 20 = .ok (.ifCond .eq 7, 3) := by decide +kernel
theorem dX6_goal_23 : decode cX6_goal 23 = .ok (.iconst 0, 1) := by decide +kernel
theorem dX6_goal_24 : decode cX6_goal 24 = .ok (.goto 4, 3) := by decide +kernel
theorem dX6_goal_27 : decode cX6_goal 27 = .ok (.iconst 1, 1) := by decide +kernel
theorem dX6_goal_28 : decode cX6_goal 28 = .ok (.putfield 45, 3) := by decide +kernel
theorem dX6_goal_31 : decode cX6_goal 31 = .ok (.aload_n 0, 1) := by decide +kernel
theorem dX6_goal_32 : decode cX6_goal 32 = .ok (.getfield 45, 3) := by decide +kernel
theorem dX6_goal_35 : decode cX6_goal 35 = .ok (.ifCond .le 5, 3) := by decide +kernel
theorem dX6_goal_38 : decode cX6_goal 38 = .ok (.lconst 0, 1) := by decide +kernel
theorem dX6_goal_39 : decode cX6_goal 39 = .ok (.lreturn, 1) := by decide +kernel
theorem dX6_goal_40 : decode cX6_goal 40 = .ok (.aload_n 0, 1) := by decide +kernel
theorem dX6_goal_41 : decode cX6_goal 41 = .ok (.iload_n 1, 1) := by decide +kernel
theorem dX6_goal_42 : decode cX6_goal 42 = .ok (.putfield 80, 3) := by decide +kernel
theorem dX6_goal_45 : decode cX6_goal 45 = .ok (.aload_n 0, 1) := by decide +kernel
theorem dX6_goal_46 : decode cX6_goal 46 = .ok (.iload_n 2, 1) := by decide +kernel
theorem dX6_goal_47 : decode cX6_goal 47 = .ok (.putfield 83, 3) := by decide +kernel
theorem dX6_goal_50 : decode cX6_goal 50 = .ok (.aload_n 0, 1) := by decide +kernel
theorem dX6_goal_51 : decode cX6_goal 51 = .ok (.invokevirtual 112, 3) := by decide +kernel
theorem dX6_goal_54 : decode cX6_goal 54 = .ok (.lreturn, 1) := by decide +kernel
set_option maxRecDepth 20000 in
theorem ggX6_far_X6_farNow : GoodIn wsX6_far wsX6_farNow := goodIn_r _ [6, 7, 8, 9, 5, 10, 11, 12, 13, 14, 15, 16, 17, 18, 19, 20, 21, 22, 23, 24, 25, 26, 27, 28, 29, 30, 31, 32, 33, 34, 35, 36, 37, 38, 39, 40, 41, 42, 43, 44, 45, 46, 47, 48, 49, 50, 51, 52, 53, 54, 55, 56, 57, 58, 59, 60] (by decide +kernel) (by decide +kernel)
set_option maxRecDepth 20000 in
theorem gX6_far_X6_farNow : GoodIn wsX6_far (wsV RX6 112 RX6 yX6_farNow wsX6_farNow) := goodIn_app (goodIn_of _ (by decide +kernel)) ggX6_far_X6_farNow
theorem dX6_far_0 : decode cX6_far 0 = .ok (.aload_n 0, 1) := by decide +kernel
theorem dX6_far_1 : decode cX6_far 1 = .ok (.iconst 0, 1) := by decide +kernel
theorem dX6_far_2 : decode cX6_far 2 = .ok (.putfield 45, 3) := by decide +kernel
theorem dX6_far_5 : decode cX6_far 5 = .ok (.aload_n 0, 1) := by decide +kernel
theorem dX6_far_6 : decode cX6_far 6 = .ok (.invokevirtual 112, 3) := by decide +kernel
theorem dX6_far_9 : decode cX6_far 9 = .ok (.lreturn, 1) := by decide +kernel
set_option maxRecDepth 20000 in
theorem ggX6_goesOn_X6_farNow : GoodIn wsX6_goesOn wsX6_farNow := goodIn_r _ [9, 10, 11, 12, 8, 13, 14, 15, 16, 17, 1, 18, 2, 19, 20, 21, 22, 23, 24, 25, 26, 27, 28, 29, 30, 31, 32, 33, 34, 35, 36, 37, 38, 39, 40, 41, 42, 50, 51, 52, 53, 54, 55, 56, 57, 58, 59, 60, 61, 62, 63, 64, 65, 66, 67, 68] (by decide +kernel) (by decide +kernel)
set_option maxRecDepth 20000 in
theorem gX6_goesOn_X6_farNow : GoodIn wsX6_goesOn (wsV RX6 112 RX6 yX6_farNow wsX6_farNow) := goodIn_app (goodIn_of _ (by decide +kernel)) ggX6_goesOn_X6_farNow
set_option maxRecDepth 20000 in
theorem ggX6_goesOn_X6_held : GoodIn wsX6_goesOn wsX6_held := goodIn_r _ [45] (by decide +kernel) (by decide +kernel)
set_option maxRecDepth 20000 in
theorem gX6_goesOn_X6_held : GoodIn wsX6_goesOn (va_wsS RX6 96 yX6_held wsX6_held) := goodIn_app (goodIn_of _ (by decide +kernel)) ggX6_goesOn_X6_held
set_option maxRecDepth 20000 in
theorem ggX6_goesOn_X6_farWith : GoodIn wsX6_goesOn wsX6_farWith := goodIn_r _ [49, 18, 14, 15, 16, 8, 17, 1, 2, 19, 20, 21, 22, 23, 24, 25, 26, 27, 28, 29, 30, 31, 32, 33, 34, 35, 36, 37, 38, 39, 40, 41, 42, 50, 51, 52, 53, 54, 55, 56, 57, 58, 59, 60, 61, 62, 63, 64, 65, 66, 67, 68] (by decide +kernel) (by decide +kernel)
set_option maxRecDepth 20000 in
theorem gX6_goesOn_X6_farWith : GoodIn wsX6_goesOn (wsV RX6 115 RX6 yX6_farWith wsX6_farWith) := goodIn_app (goodIn_of _ (by decide +kernel)) ggX6_goesOn_X6_farWith
theorem dX6_goesOn_0 : decode cX6_goesOn 0 = .ok (.aload_n 0, 1) := by decide +kernel
theorem dX6_goesOn_1 : decode cX6_goesOn 1 = .ok (.invokevirtual 112, 3) := by decide +kernel
theorem dX6_goesOn_4 : decode cX6_goesOn 4 = .ok (.lstore_n 2, 1) := by decide +kernel
theorem dX6_goesOn_5 : decode cX6_goesOn 5 = .ok (.iconst (-1), 1) := by decide +kernel
theorem dX6_goesOn_6 : decode cX6_goesOn 6 = .ok (.istore 4, 2) := by decide +kernel
theorem dX6_goesOn_8 : decode cX6_goesOn 8 = .ok (.iconst 0, 1) := by decide +kernel
theorem dX6_goesOn_9 : decode cX6_goesOn 9 = .ok (.istore 5, 2) := by decide +kernel
theorem dX6_goesOn_11 : decode cX6_goesOn 11 = .ok (.iconst 0, 1) := by decide +kernel
theorem dX6_goesOn_12 : decode cX6_goesOn 12 = .ok (.istore 6, 2) := by decide +kernel
theorem dX6_goesOn_14 : decode cX6_goesOn 14 = .ok (.iload 6, 2) := by decide +kernel
theorem dX6_goesOn_16 : decode cX6_goesOn 16 = .ok (.aload_n 0, 1) := by decide +kernel
theorem dX6_goesOn_17 : decode cX6_goesOn 17 = .ok (.getfield 48, 3) := by decide +kernel
theorem dX6_goesOn_20 : decode cX6_goesOn 20 = .ok (.if_icmp .ge 83, 3) := by decide +kernel
theorem dX6_goesOn_23 : decode cX6_goesOn 23 = .ok (.iconst (-1), 1) := by decide +kernel
theorem dX6_goesOn_24 : decode cX6_goesOn 24 = .ok (.istore 7, 2) := by decide +kernel
theorem dX6_goesOn_26 : decode cX6_goesOn 26 = .ok (.iload 7, 2) := by decide +kernel
theorem dX6_goesOn_28 : decode cX6_goesOn 28 = .ok (.iconst 1, 1) := by decide +kernel
theorem dX6_goesOn_29 : decode cX6_goesOn 29 = .ok (.if_icmp .gt 68, 3) := by decide +kernel
theorem dX6_goesOn_32 : decode cX6_goesOn 32 = .ok (.aload_n 0, 1) := by decide +kernel
theorem dX6_goesOn_33 : decode cX6_goesOn 33 = .ok (.getfield 22, 3) := by decide +kernel
theorem dX6_goesOn_36 : decode cX6_goesOn 36 = .ok (.iload 6, 2) := by decide +kernel
theorem dX6_goesOn_38 : decode cX6_goesOn 38 = .ok (.iaload, 1) := by decide +kernel
theorem dX6_goesOn_39 : decode cX6_goesOn 39 = .ok (.iload 7, 2) := by decide +kernel
theorem dX6_goesOn_41 : decode cX6_goesOn 41 = .ok (.iload_n 1, 1) := by decide +kernel
theorem dX6_goesOn_42 : decode cX6_goesOn 42 = .ok (.imul, 1) := by decide +kernel
theorem dX6_goesOn_43 : decode cX6_goesOn 43 = .ok (.iadd, 1) := by decide +kernel
theorem dX6_goesOn_44 : decode cX6_goesOn 44 = .ok (.aload_n 0, 1) := by decide +kernel
theorem dX6_goesOn_45 : decode cX6_goesOn 45 = .ok (.getfield 16, 3) := by decide +kernel
theorem dX6_goesOn_48 : decode cX6_goesOn 48 = .ok (.iload 6, 2) := by decide +kernel
theorem dX6_goesOn_50 : decode cX6_goesOn 50 = .ok (.iaload, 1) := by decide +kernel
theorem dX6_goesOn_51 : decode cX6_goesOn 51 = .ok (.aload_n 0, 1) := by decide +kernel
theorem dX6_goesOn_52 : decode cX6_goesOn 52 = .ok (.getfield 19, 3) := by decide +kernel
theorem dX6_goesOn_55 : decode cX6_goesOn 55 = .ok (.iload 6, 2) := by decide +kernel
theorem dX6_goesOn_57 : decode cX6_goesOn 57 = .ok (.iaload, 1) := by decide +kernel
theorem dX6_goesOn_58 : decode cX6_goesOn 58 = .ok (.invokestatic 96, 3) := by decide +kernel
theorem dX6_goesOn_61 : decode cX6_goesOn 61 = .ok (.istore 8, 2) := by decide +kernel
theorem dX6_goesOn_63 : decode cX6_goesOn 63 = .ok (.aload_n 0, 1) := by decide +kernel
theorem dX6_goesOn_64 : decode cX6_goesOn 64 = .ok (.iload 6, 2) := by decide +kernel
theorem dX6_goesOn_66 : decode cX6_goesOn 66 = .ok (.iload 8, 2) := by decide +kernel
theorem dX6_goesOn_68 : decode cX6_goesOn 68 = .ok (.invokevirtual 115, 3) := by decide +kernel
theorem dX6_goesOn_71 : decode cX6_goesOn 71 = .ok (.lstore 9, 2) := by decide +kernel
theorem dX6_goesOn_73 : decode cX6_goesOn 73 = .ok (.lload 9, 2) := by decide +kernel
theorem dX6_goesOn_75 : decode cX6_goesOn 75 = .ok (.lload_n 2, 1) := by decide +kernel
theorem dX6_goesOn_76 : decode cX6_goesOn 76 = .ok (.lcmp, 1) := by decide +kernel
theorem dX6_goesOn_77 : decode cX6_goesOn 77 = .ok (.ifCond .ge 14, 3) := by decide +kernel
theorem dX6_goesOn_80 : decode cX6_goesOn 80 = .ok (.lload 9, 2) := by decide +kernel
theorem dX6_goesOn_82 : decode cX6_goesOn 82 = .ok (.lstore_n 2, 1) := by decide +kernel
theorem dX6_goesOn_83 : decode cX6_goesOn 83 = .ok (.iload 6, 2) := by decide +kernel
theorem dX6_goesOn_85 : decode cX6_goesOn 85 = .ok (.istore 4, 2) := by decide +kernel
theorem dX6_goesOn_87 : decode cX6_goesOn 87 = .ok (.iload 8, 2) := by decide +kernel
theorem dX6_goesOn_89 : decode cX6_goesOn 89 = .ok (.istore 5, 2) := by decide +kernel
theorem dX6_goesOn_91 : decode cX6_goesOn 91 = .ok (.iinc 7 2, 3) := by decide +kernel
theorem dX6_goesOn_94 : decode cX6_goesOn 94 = .ok (.goto (-68), 3) := by decide +kernel
theorem dX6_goesOn_97 : decode cX6_goesOn 97 = .ok (.iinc 6 1, 3) := by decide +kernel
theorem dX6_goesOn_100 : decode cX6_goesOn 100 = .ok (.goto (-86), 3) := by decide +kernel
theorem dX6_goesOn_103 : decode cX6_goesOn 103 = .ok (.iload 4, 2) := by decide +kernel
theorem dX6_goesOn_105 : decode cX6_goesOn 105 = .ok (.iconst (-1), 1) := by decide +kernel
theorem dX6_goesOn_106 : decode cX6_goesOn 106 = .ok (.if_icmp .eq 12, 3) := by decide +kernel
theorem dX6_goesOn_109 : decode cX6_goesOn 109 = .ok (.aload_n 0, 1) := by decide +kernel
theorem dX6_goesOn_110 : decode cX6_goesOn 110 = .ok (.getfield 22, 3) := by decide +kernel
theorem dX6_goesOn_113 : decode cX6_goesOn 113 = .ok (.iload 4, 2) := by decide +kernel
theorem dX6_goesOn_115 : decode cX6_goesOn 115 = .ok (.iload 5, 2) := by decide +kernel
theorem dX6_goesOn_117 : decode cX6_goesOn 117 = .ok (.iastore, 1) := by decide +kernel
theorem dX6_goesOn_118 : decode cX6_goesOn 118 = .ok (.iload 4, 2) := by decide +kernel
theorem dX6_goesOn_120 : decode cX6_goesOn 120 = .ok (.iconst (-1), 1) := by decide +kernel
theorem dX6_goesOn_121 : decode cX6_goesOn 121 = .ok (.if_icmp .eq 7, 3) := by decide +kernel
theorem dX6_goesOn_124 : decode cX6_goesOn 124 = .ok (.iconst 1, 1) := by decide +kernel
theorem dX6_goesOn_125 : decode cX6_goesOn 125 = .ok (.goto 4, 3) := by decide +kernel
theorem dX6_goesOn_128 : decode cX6_goesOn 128 = .ok (.iconst 0, 1) := by decide +kernel
theorem dX6_goesOn_129 : decode cX6_goesOn 129 = .ok (.ireturn, 1) := by decide +kernel
set_option maxRecDepth 20000 in
theorem ggX6_steps_X6_in : GoodIn wsX6_steps wsX6_in := goodIn_r _ [5] (by decide +kernel) (by decide +kernel)
set_option maxRecDepth 20000 in
theorem gX6_steps_X6_in : GoodIn wsX6_steps (va_wsS RX6 51 yX6_in wsX6_in) := goodIn_app (goodIn_of _ (by decide +kernel)) ggX6_steps_X6_in
set_option maxRecDepth 20000 in
theorem ggX6_steps_X6_goesOn : GoodIn wsX6_steps wsX6_goesOn := goodIn_r _ [9, 10, 11, 12, 13, 14, 15, 16, 4, 17, 18, 19, 20, 21, 22, 23, 24, 25, 26, 27, 28, 29, 30, 31, 32, 33, 34, 35, 36, 37, 38, 39, 40, 41, 42, 43, 44, 45, 46, 47, 48, 49, 50, 51, 52, 53, 54, 55, 56, 57, 58, 59, 60, 61, 62, 63, 64, 65, 66, 67, 68, 69, 70, 71, 72, 73, 74, 75, 76] (by decide +kernel) (by decide +kernel)
set_option maxRecDepth 20000 in
theorem gX6_steps_X6_goesOn : GoodIn wsX6_steps (wsV RX6 119 RX6 yX6_goesOn wsX6_goesOn) := goodIn_app (goodIn_of _ (by decide +kernel)) ggX6_steps_X6_goesOn
theorem dX6_steps_0 : decode cX6_steps 0 = .ok (.aload_n 0, 1) := by decide +kernel
theorem dX6_steps_1 : decode cX6_steps 1 = .ok (.iload_n 1, 1) := by decide +kernel
theorem dX6_steps_2 : decode cX6_steps 2 = .ok (.iconst 1, 1) := by decide +kernel
theorem dX6_steps_3 : decode cX6_steps 3 = .ok (.sipush 200, 3) := by decide +kernel
theorem dX6_steps_6 : decode cX6_steps 6 = .ok (.invokestatic 51, 3) := by decide +kernel
theorem dX6_steps_9 : decode cX6_steps 9 = .ok (.ifCond .eq 7, 3) := by decide +kernel
theorem dX6_steps_12 : decode cX6_steps 12 = .ok (.iconst 0, 1) := by decide +kernel
theorem dX6_steps_13 : decode cX6_steps 13 = .ok (.goto 4, 3) := by decide +kernel
theorem dX6_steps_16 : decode cX6_steps 16 = .ok (.iconst 1, 1) := by decide +kernel
theorem dX6_steps_17 : decode cX6_steps 17 = .ok (.putfield 45, 3) := by decide +kernel
theorem dX6_steps_20 : decode cX6_steps 20 = .ok (.iconst 0, 1) := by decide +kernel
theorem dX6_steps_21 : decode cX6_steps 21 = .ok (.istore_n 2, 1) := by decide +kernel
theorem dX6_steps_22 : decode cX6_steps 22 = .ok (.aload_n 0, 1) := by decide +kernel
theorem dX6_steps_23 : decode cX6_steps 23 = .ok (.getfield 45, 3) := by decide +kernel
theorem dX6_steps_26 : decode cX6_steps 26 = .ok (.ifCond .le 7, 3) := by decide +kernel
theorem dX6_steps_29 : decode cX6_steps 29 = .ok (.iconst 0, 1) := by decide +kernel
theorem dX6_steps_30 : decode cX6_steps 30 = .ok (.goto 5, 3) := by decide +kernel
theorem dX6_steps_33 : decode cX6_steps 33 = .ok (.bipush 8, 2) := by decide +kernel
theorem dX6_steps_35 : decode cX6_steps 35 = .ok (.istore_n 3, 1) := by decide +kernel
theorem dX6_steps_36 : decode cX6_steps 36 = .ok (.iload_n 3, 1) := by decide +kernel
theorem dX6_steps_37 : decode cX6_steps 37 = .ok (.ifCond .le 29, 3) := by decide +kernel
theorem dX6_steps_40 : decode cX6_steps 40 = .ok (.iload_n 2, 1) := by decide +kernel
theorem dX6_steps_41 : decode cX6_steps 41 = .ok (.iload_n 1, 1) := by decide +kernel
theorem dX6_steps_42 : decode cX6_steps 42 = .ok (.if_icmp .ge 24, 3) := by decide +kernel
theorem dX6_steps_45 : decode cX6_steps 45 = .ok (.aload_n 0, 1) := by decide +kernel
theorem dX6_steps_46 : decode cX6_steps 46 = .ok (.iload_n 3, 1) := by decide +kernel
theorem dX6_steps_47 : decode cX6_steps 47 = .ok (.invokevirtual 119, 3) := by decide +kernel
theorem dX6_steps_50 : decode cX6_steps 50 = .ok (.ifCond .eq 9, 3) := by decide +kernel
theorem dX6_steps_53 : decode cX6_steps 53 = .ok (.iinc 2 1, 3) := by decide +kernel
theorem dX6_steps_56 : decode cX6_steps 56 = .ok (.goto (-20), 3) := by decide +kernel
theorem dX6_steps_59 : decode cX6_steps 59 = .ok (.iload_n 3, 1) := by decide +kernel
theorem dX6_steps_60 : decode cX6_steps 60 = .ok (.iconst 2, 1) := by decide +kernel
theorem dX6_steps_61 : decode cX6_steps 61 = .ok (.idiv, 1) := by decide +kernel
theorem dX6_steps_62 : decode cX6_steps 62 = .ok (.istore_n 3, 1) := by decide +kernel
theorem dX6_steps_63 : decode cX6_steps 63 = .ok (.goto (-27), 3) := by decide +kernel
theorem dX6_steps_66 : decode cX6_steps 66 = .ok (.iload_n 2, 1) := by decide +kernel
theorem dX6_steps_67 : decode cX6_steps 67 = .ok (.ireturn, 1) := by decide +kernel
set_option maxRecDepth 20000 in
theorem ggX6_hindrance_X6_farNow : GoodIn wsX6_hindrance wsX6_farNow := goodIn_r _ [10, 11, 12, 13, 9, 14, 15, 16, 17, 18, 2, 19, 3, 20, 21, 22, 23, 24, 25, 26, 27, 28, 29, 30, 31, 32, 33, 34, 35, 36, 37, 38, 39, 40, 41, 42, 43, 48, 49, 50, 51, 52, 53, 54, 55, 56, 57, 58, 59, 60, 61, 62, 63, 64, 65, 66] (by decide +kernel) (by decide +kernel)
set_option maxRecDepth 20000 in
theorem gX6_hindrance_X6_farNow : GoodIn wsX6_hindrance (wsV RX6 112 RX6 yX6_farNow wsX6_farNow) := goodIn_app (goodIn_of _ (by decide +kernel)) ggX6_hindrance_X6_farNow
set_option maxRecDepth 20000 in
theorem ggX6_hindrance_X6_farWith : GoodIn wsX6_hindrance wsX6_farWith := goodIn_r _ [47, 19, 15, 16, 17, 9, 18, 2, 3, 20, 21, 22, 23, 24, 25, 26, 27, 28, 29, 30, 31, 32, 33, 34, 35, 36, 37, 38, 39, 40, 41, 42, 43, 48, 49, 50, 51, 52, 53, 54, 55, 56, 57, 58, 59, 60, 61, 62, 63, 64, 65, 66] (by decide +kernel) (by decide +kernel)
set_option maxRecDepth 20000 in
theorem gX6_hindrance_X6_farWith : GoodIn wsX6_hindrance (wsV RX6 115 RX6 yX6_farWith wsX6_farWith) := goodIn_app (goodIn_of _ (by decide +kernel)) ggX6_hindrance_X6_farWith
theorem dX6_hindrance_0 : decode cX6_hindrance 0 = .ok (.aload_n 0, 1) := by decide +kernel
theorem dX6_hindrance_1 : decode cX6_hindrance 1 = .ok (.iconst 0, 1) := by decide +kernel
theorem dX6_hindrance_2 : decode cX6_hindrance 2 = .ok (.putfield 45, 3) := by decide +kernel
theorem dX6_hindrance_5 : decode cX6_hindrance 5 = .ok (.iconst (-1), 1) := by decide +kernel
theorem dX6_hindrance_6 : decode cX6_hindrance 6 = .ok (.istore_n 1, 1) := by decide +kernel
theorem dX6_hindrance_7 : decode cX6_hindrance 7 = .ok (.aload_n 0, 1) := by decide +kernel
theorem dX6_hindrance_8 : decode cX6_hindrance 8 = .ok (.invokevirtual 112, 3) := by decide +kernel
theorem dX6_hindrance_11 : decode cX6_hindrance 11 = .ok (.lstore_n 2, 1) := by decide +kernel
theorem dX6_hindrance_12 : decode cX6_hindrance 12 = .ok (.iconst 0, 1) := by decide +kernel
theorem dX6_hindrance_13 : decode cX6_hindrance 13 = .ok (.istore 4, 2) := by decide +kernel
theorem dX6_hindrance_15 : decode cX6_hindrance 15 = .ok (.iload 4, 2) := by decide +kernel
theorem dX6_hindrance_17 : decode cX6_hindrance 17 = .ok (.aload_n 0, 1) := by decide +kernel
theorem dX6_hindrance_18 : decode cX6_hindrance 18 = .ok (.getfield 48, 3) := by decide +kernel
theorem dX6_hindrance_21 : decode cX6_hindrance 21 = .ok (.if_icmp .ge 119, 3) := by decide +kernel
theorem dX6_hindrance_24 : decode cX6_hindrance 24 = .ok (.iload_n 1, 1) := by decide +kernel
theorem dX6_hindrance_25 : decode cX6_hindrance 25 = .ok (.iconst (-1), 1) := by decide +kernel
theorem dX6_hindrance_26 : decode cX6_hindrance 26 = .ok (.if_icmp .ne 114, 3) := by decide +kernel
theorem dX6_hindrance_29 : decode cX6_hindrance 29 = .ok (.aload_n 0, 1) := by decide +kernel
theorem dX6_hindrance_30 : decode cX6_hindrance 30 = .ok (.getfield 22, 3) := by decide +kernel
theorem dX6_hindrance_33 : decode cX6_hindrance 33 = .ok (.iload 4, 2) := by decide +kernel
theorem dX6_hindrance_35 : decode cX6_hindrance 35 = .ok (.iaload, 1) := by decide +kernel
theorem dX6_hindrance_36 : decode cX6_hindrance 36 = .ok (.aload_n 0, 1) := by decide +kernel
theorem dX6_hindrance_37 : decode cX6_hindrance 37 = .ok (.getfield 19, 3) := by decide +kernel
theorem dX6_hindrance_40 : decode cX6_hindrance 40 = .ok (.iload 4, 2) := by decide +kernel
theorem dX6_hindrance_42 : decode cX6_hindrance 42 = .ok (.iaload, 1) := by decide +kernel
theorem dX6_hindrance_43 : decode cX6_hindrance 43 = .ok (.if_icmp .ne 27, 3) := by decide +kernel
theorem dX6_hindrance_46 : decode cX6_hindrance 46 = .ok (.aload_n 0, 1) := by decide +kernel
theorem dX6_hindrance_47 : decode cX6_hindrance 47 = .ok (.iload 4, 2) := by decide +kernel
theorem dX6_hindrance_49 : decode cX6_hindrance 49 = .ok (.aload_n 0, 1) := by decide +kernel
theorem dX6_hindrance_50 : decode cX6_hindrance 50 = .ok (.getfield 22, 3) := by decide +kernel
theorem dX6_hindrance_53 : decode cX6_hindrance 53 = .ok (.iload 4, 2) := by decide +kernel
theorem dX6_hindrance_55 : decode cX6_hindrance 55 = .ok (.iaload, 1) := by decide +kernel
theorem dX6_hindrance_56 : decode cX6_hindrance 56 = .ok (.iconst 1, 1) := by decide +kernel
theorem dX6_hindrance_57 : decode cX6_hindrance 57 = .ok (.iadd, 1) := by decide +kernel
theorem dX6_hindrance_58 : decode cX6_hindrance 58 = .ok (.invokevirtual 115, 3) := by decide +kernel
theorem dX6_hindrance_61 : decode cX6_hindrance 61 = .ok (.lload_n 2, 1) := by decide +kernel
theorem dX6_hindrance_62 : decode cX6_hindrance 62 = .ok (.lcmp, 1) := by decide +kernel
theorem dX6_hindrance_63 : decode cX6_hindrance 63 = .ok (.ifCond .ge 7, 3) := by decide +kernel
theorem dX6_hindrance_66 : decode cX6_hindrance 66 = .ok (.iconst 1, 1) := by decide +kernel
theorem dX6_hindrance_67 : decode cX6_hindrance 67 = .ok (.goto 4, 3) := by decide +kernel
theorem dX6_hindrance_70 : decode cX6_hindrance 70 = .ok (.iconst 0, 1) := by decide +kernel
theorem dX6_hindrance_71 : decode cX6_hindrance 71 = .ok (.istore 5, 2) := by decide +kernel
theorem dX6_hindrance_73 : decode cX6_hindrance 73 = .ok (.iload 5, 2) := by decide +kernel
theorem dX6_hindrance_75 : decode cX6_hindrance 75 = .ok (.ifCond .ne 40, 3) := by decide +kernel
theorem dX6_hindrance_78 : decode cX6_hindrance 78 = .ok (.aload_n 0, 1) := by decide +kernel
theorem dX6_hindrance_79 : decode cX6_hindrance 79 = .ok (.getfield 22, 3) := by decide +kernel
theorem dX6_hindrance_82 : decode cX6_hindrance 82 = .ok (.iload 4, 2) := by decide +kernel
theorem dX6_hindrance_84 : decode cX6_hindrance 84 = .ok (.iaload, 1) := by decide +kernel
theorem dX6_hindrance_85 : decode cX6_hindrance 85 = .ok (.aload_n 0, 1) := by decide +kernel
theorem dX6_hindrance_86 : decode cX6_hindrance 86 = .ok (.getfield 16, 3) := by decide +kernel
theorem dX6_hindrance_89 : decode cX6_hindrance 89 = .ok (.iload 4, 2) := by decide +kernel
theorem dX6_hindrance_91 : decode cX6_hindrance 91 = .ok (.iaload, 1) := by decide +kernel
theorem dX6_hindrance_92 : decode cX6_hindrance 92 = .ok (.if_icmp .ne 27, 3) := by decide +kernel
theorem dX6_hindrance_95 : decode cX6_hindrance 95 = .ok (.aload_n 0, 1) := by decide +kernel
theorem dX6_hindrance_96 : decode cX6_hindrance 96 = .ok (.iload 4, 2) := by decide +kernel
theorem dX6_hindrance_98 : decode cX6_hindrance 98 = .ok (.aload_n 0, 1) := by decide +kernel
theorem dX6_hindrance_99 : decode cX6_hindrance 99 = .ok (.getfield 22, 3) := by decide +kernel
theorem dX6_hindrance_102 : decode cX6_hindrance 102 = .ok (.iload 4, 2) := by decide +kernel
theorem dX6_hindrance_104 : decode cX6_hindrance 104 = .ok (.iaload, 1) := by decide +kernel
theorem dX6_hindrance_105 : decode cX6_hindrance 105 = .ok (.iconst 1, 1) := by decide +kernel
theorem dX6_hindrance_106 : decode cX6_hindrance 106 = .ok (.isub, 1) := by decide +kernel
theorem dX6_hindrance_107 : decode cX6_hindrance 107 = .ok (.invokevirtual 115, 3) := by decide +kernel
theorem dX6_hindrance_110 : decode cX6_hindrance 110 = .ok (.lload_n 2, 1) := by decide +kernel
theorem dX6_hindrance_111 : decode cX6_hindrance 111 = .ok (.lcmp, 1) := by decide +kernel
theorem dX6_hindrance_112 : decode cX6_hindrance 112 = .ok (.ifCond .ge 7, 3) := by decide +kernel
theorem dX6_hindrance_115 : decode cX6_hindrance 115 = .ok (.iconst 1, 1) := by decide +kernel
theorem dX6_hindrance_116 : decode cX6_hindrance 116 = .ok (.goto 4, 3) := by decide +kernel
theorem dX6_hindrance_119 : decode cX6_hindrance 119 = .ok (.iconst 0, 1) := by decide +kernel
theorem dX6_hindrance_120 : decode cX6_hindrance 120 = .ok (.istore 5, 2) := by decide +kernel
theorem dX6_hindrance_122 : decode cX6_hindrance 122 = .ok (.iload 5, 2) := by decide +kernel
theorem dX6_hindrance_124 : decode cX6_hindrance 124 = .ok (.ifCond .eq 8, 3) := by decide +kernel
theorem dX6_hindrance_127 : decode cX6_hindrance 127 = .ok (.iload 4, 2) := by decide +kernel
theorem dX6_hindrance_129 : decode cX6_hindrance 129 = .ok (.goto 4, 3) := by decide +kernel
theorem dX6_hindrance_132 : decode cX6_hindrance 132 = .ok (.iload_n 1, 1) := by decide +kernel
theorem dX6_hindrance_133 : decode cX6_hindrance 133 = .ok (.istore_n 1, 1) := by decide +kernel
theorem dX6_hindrance_134 : decode cX6_hindrance 134 = .ok (.iinc 4 1, 3) := by decide +kernel
theorem dX6_hindrance_137 : decode cX6_hindrance 137 = .ok (.goto (-122), 3) := by decide +kernel
theorem dX6_hindrance_140 : decode cX6_hindrance 140 = .ok (.iload_n 1, 1) := by decide +kernel
theorem dX6_hindrance_141 : decode cX6_hindrance 141 = .ok (.ireturn, 1) := by decide +kernel
set_option maxRecDepth 20000 in
theorem ggX6_slack_X6_in : GoodIn wsX6_slack wsX6_in := goodIn_r _ [7] (by decide +kernel) (by decide +kernel)
set_option maxRecDepth 20000 in
theorem gX6_slack_X6_in : GoodIn wsX6_slack (va_wsS RX6 51 yX6_in wsX6_in) := goodIn_app (goodIn_of _ (by decide +kernel)) ggX6_slack_X6_in
theorem dX6_slack_0 : decode cX6_slack 0 = .ok (.aload_n 0, 1) := by decide +kernel
theorem dX6_slack_1 : decode cX6_slack 1 = .ok (.iload_n 1, 1) := by decide +kernel
theorem dX6_slack_2 : decode cX6_slack 2 = .ok (.iconst 0, 1) := by decide +kernel
theorem dX6_slack_3 : decode cX6_slack 3 = .ok (.ldc 122, 2) := by decide +kernel
theorem dX6_slack_5 : decode cX6_slack 5 = .ok (.invokestatic 51, 3) := by decide +kernel
theorem dX6_slack_8 : decode cX6_slack 8 = .ok (.ifCond .eq 7, 3) := by decide +kernel
theorem dX6_slack_11 : decode cX6_slack 11 = .ok (.iconst 0, 1) := by decide +kernel
theorem dX6_slack_12 : decode cX6_slack 12 = .ok (.goto 4, 3) := by decide +kernel
theorem dX6_slack_15 : decode cX6_slack 15 = .ok (.iconst 1, 1) := by decide +kernel
theorem dX6_slack_16 : decode cX6_slack 16 = .ok (.putfield 45, 3) := by decide +kernel
theorem dX6_slack_19 : decode cX6_slack 19 = .ok (.aload_n 0, 1) := by decide +kernel
theorem dX6_slack_20 : decode cX6_slack 20 = .ok (.getfield 45, 3) := by decide +kernel
theorem dX6_slack_23 : decode cX6_slack 23 = .ok (.ifCond .le 5, 3) := by decide +kernel
theorem dX6_slack_26 : decode cX6_slack 26 = .ok (.iconst 0, 1) := by decide +kernel
theorem dX6_slack_27 : decode cX6_slack 27 = .ok (.ireturn, 1) := by decide +kernel
theorem dX6_slack_28 : decode cX6_slack 28 = .ok (.aload_n 0, 1) := by decide +kernel
theorem dX6_slack_29 : decode cX6_slack 29 = .ok (.getfield 25, 3) := by decide +kernel
theorem dX6_slack_32 : decode cX6_slack 32 = .ok (.istore_n 2, 1) := by decide +kernel
theorem dX6_slack_33 : decode cX6_slack 33 = .ok (.aload_n 0, 1) := by decide +kernel
theorem dX6_slack_34 : decode cX6_slack 34 = .ok (.iload_n 1, 1) := by decide +kernel
theorem dX6_slack_35 : decode cX6_slack 35 = .ok (.putfield 25, 3) := by decide +kernel
theorem dX6_slack_38 : decode cX6_slack 38 = .ok (.iload_n 2, 1) := by decide +kernel
theorem dX6_slack_39 : decode cX6_slack 39 = .ok (.ireturn, 1) := by decide +kernel
theorem dX6_poses_0 : decode cX6_poses 0 = .ok (.iconst 1, 1) := by decide +kernel
theorem dX6_poses_1 : decode cX6_poses 1 = .ok (.istore_n 1, 1) := by decide +kernel
theorem dX6_poses_2 : decode cX6_poses 2 = .ok (.iconst 0, 1) := by decide +kernel
theorem dX6_poses_3 : decode cX6_poses 3 = .ok (.istore_n 2, 1) := by decide +kernel
theorem dX6_poses_4 : decode cX6_poses 4 = .ok (.iload_n 2, 1) := by decide +kernel
theorem dX6_poses_5 : decode cX6_poses 5 = .ok (.aload_n 0, 1) := by decide +kernel
theorem dX6_poses_6 : decode cX6_poses 6 = .ok (.getfield 48, 3) := by decide +kernel
theorem dX6_poses_9 : decode cX6_poses 9 = .ok (.if_icmp .ge 33, 3) := by decide +kernel
theorem dX6_poses_12 : decode cX6_poses 12 = .ok (.iload_n 1, 1) := by decide +kernel
theorem dX6_poses_13 : decode cX6_poses 13 = .ok (.ldc 123, 2) := by decide +kernel
theorem dX6_poses_15 : decode cX6_poses 15 = .ok (.if_icmp .gt 27, 3) := by decide +kernel
theorem dX6_poses_18 : decode cX6_poses 18 = .ok (.iload_n 1, 1) := by decide +kernel
theorem dX6_poses_19 : decode cX6_poses 19 = .ok (.aload_n 0, 1) := by decide +kernel
theorem dX6_poses_20 : decode cX6_poses 20 = .ok (.getfield 19, 3) := by decide +kernel
theorem dX6_poses_23 : decode cX6_poses 23 = .ok (.iload_n 2, 1) := by decide +kernel
theorem dX6_poses_24 : decode cX6_poses 24 = .ok (.iaload, 1) := by decide +kernel
theorem dX6_poses_25 : decode cX6_poses 25 = .ok (.aload_n 0, 1) := by decide +kernel
theorem dX6_poses_26 : decode cX6_poses 26 = .ok (.getfield 16, 3) := by decide +kernel
theorem dX6_poses_29 : decode cX6_poses 29 = .ok (.iload_n 2, 1) := by decide +kernel
theorem dX6_poses_30 : decode cX6_poses 30 = .ok (.iaload, 1) := by decide +kernel
theorem dX6_poses_31 : decode cX6_poses 31 = .ok (.isub, 1) := by decide +kernel
theorem dX6_poses_32 : decode cX6_poses 32 = .ok (.iconst 1, 1) := by decide +kernel
theorem dX6_poses_33 : decode cX6_poses 33 = .ok (.iadd, 1) := by decide +kernel
theorem dX6_poses_34 : decode cX6_poses 34 = .ok (.imul, 1) := by decide +kernel
theorem dX6_poses_35 : decode cX6_poses 35 = .ok (.istore_n 1, 1) := by decide +kernel
theorem dX6_poses_36 : decode cX6_poses 36 = .ok (.iinc 2 1, 3) := by decide +kernel
theorem dX6_poses_39 : decode cX6_poses 39 = .ok (.goto (-35), 3) := by decide +kernel
theorem dX6_poses_42 : decode cX6_poses 42 = .ok (.iload_n 1, 1) := by decide +kernel
theorem dX6_poses_43 : decode cX6_poses 43 = .ok (.ireturn, 1) := by decide +kernel
theorem dX6_makesPose_0 : decode cX6_makesPose 0 = .ok (.iload_n 1, 1) := by decide +kernel
theorem dX6_makesPose_1 : decode cX6_makesPose 1 = .ok (.istore_n 2, 1) := by decide +kernel
theorem dX6_makesPose_2 : decode cX6_makesPose 2 = .ok (.aload_n 0, 1) := by decide +kernel
theorem dX6_makesPose_3 : decode cX6_makesPose 3 = .ok (.getfield 48, 3) := by decide +kernel
theorem dX6_makesPose_6 : decode cX6_makesPose 6 = .ok (.iconst 1, 1) := by decide +kernel
theorem dX6_makesPose_7 : decode cX6_makesPose 7 = .ok (.isub, 1) := by decide +kernel
theorem dX6_makesPose_8 : decode cX6_makesPose 8 = .ok (.istore_n 3, 1) := by decide +kernel
theorem dX6_makesPose_9 : decode cX6_makesPose 9 = .ok (.iload_n 3, 1) := by decide +kernel
theorem dX6_makesPose_10 : decode cX6_makesPose 10 = .ok (.ifCond .lt 48, 3) := by decide +kernel
theorem dX6_makesPose_13 : decode cX6_makesPose 13 = .ok (.aload_n 0, 1) := by decide +kernel
theorem dX6_makesPose_14 : decode cX6_makesPose 14 = .ok (.getfield 19, 3) := by decide +kernel
theorem dX6_makesPose_17 : decode cX6_makesPose 17 = .ok (.iload_n 3, 1) := by decide +kernel
theorem dX6_makesPose_18 : decode cX6_makesPose 18 = .ok (.iaload, 1) := by decide +kernel
theorem dX6_makesPose_19 : decode cX6_makesPose 19 = .ok (.aload_n 0, 1) := by decide +kernel
theorem dX6_makesPose_20 : decode cX6_makesPose 20 = .ok (.getfield 16, 3) := by decide +kernel
theorem dX6_makesPose_23 : decode cX6_makesPose 23 = .ok (.iload_n 3, 1) := by decide +kernel
theorem dX6_makesPose_24 : decode cX6_makesPose 24 = .ok (.iaload, 1) := by decide +kernel
theorem dX6_makesPose_25 : decode cX6_makesPose 25 = .ok (.isub, 1) := by decide +kernel
theorem dX6_makesPose_26 : decode cX6_makesPose 26 = .ok (.iconst 1, 1) := by decide +kernel
theorem dX6_makesPose_27 : decode cX6_makesPose 27 = .ok (.iadd, 1) := by decide +kernel
theorem dX6_makesPose_28 : decode cX6_makesPose 28 = .ok (.istore 4, 2) := by decide +kernel
theorem dX6_makesPose_30 : decode cX6_makesPose 30 = .ok (.aload_n 0, 1) := by decide +kernel
theorem dX6_makesPose_31 : decode cX6_makesPose 31 = .ok (.getfield 29, 3) := by decide +kernel
theorem dX6_makesPose_34 : decode cX6_makesPose 34 = .ok (.iload_n 3, 1) := by decide +kernel
theorem dX6_makesPose_35 : decode cX6_makesPose 35 = .ok (.aload_n 0, 1) := by decide +kernel
theorem dX6_makesPose_36 : decode cX6_makesPose 36 = .ok (.getfield 16, 3) := by decide +kernel
theorem dX6_makesPose_39 : decode cX6_makesPose 39 = .ok (.iload_n 3, 1) := by decide +kernel
theorem dX6_makesPose_40 : decode cX6_makesPose 40 = .ok (.iaload, 1) := by decide +kernel
theorem dX6_makesPose_41 : decode cX6_makesPose 41 = .ok (.iload_n 2, 1) := by decide +kernel
theorem dX6_makesPose_42 : decode cX6_makesPose 42 = .ok (.iload 4, 2) := by decide +kernel
theorem dX6_makesPose_44 : decode cX6_makesPose 44 = .ok (.irem, 1) := by decide +kernel
theorem dX6_makesPose_45 : decode cX6_makesPose 45 = .ok (.iadd, 1) := by decide +kernel
theorem dX6_makesPose_46 : decode cX6_makesPose 46 = .ok (.iastore, 1) := by decide +kernel
theorem dX6_makesPose_47 : decode cX6_makesPose 47 = .ok (.iload_n 2, 1) := by decide +kernel
theorem dX6_makesPose_48 : decode cX6_makesPose 48 = .ok (.iload 4, 2) := by decide +kernel
theorem dX6_makesPose_50 : decode cX6_makesPose 50 = .ok (.idiv, 1) := by decide +kernel
theorem dX6_makesPose_51 : decode cX6_makesPose 51 = .ok (.istore_n 2, 1) := by decide +kernel
theorem dX6_makesPose_52 : decode cX6_makesPose 52 = .ok (.iinc 3 (-1), 3) := by decide +kernel
end
section
theorem dX6_makesPose_55 : decode cX6_makesPose 55 = .ok (.goto (-46), 3) := by decide +kernel
theorem dX6_makesPose_58 : decode cX6_makesPose 58 = .ok (.return_, 1) := by decide +kernel
theorem dX6_size_0 : decode cX6_size 0 = .ok (.iload_n 0, 1) := by decide +kernel
theorem dX6_size_1 : decode cX6_size 1 = .ok (.ifCond .ge 8, 3) := by decide +kernel
theorem dX6_size_4 : decode cX6_size 4 = .ok (.iload_n 0, 1) := by decide +kernel
theorem dX6_size_5 : decode cX6_size 5 = .ok (.ineg, 1) := by decide +kernel
theorem dX6_size_6 : decode cX6_size 6 = .ok (.goto 4, 3) := by decide +kernel
theorem dX6_size_9 : decode cX6_size 9 = .ok (.iload_n 0, 1) := by decide +kernel
theorem dX6_size_10 : decode cX6_size 10 = .ok (.ireturn, 1) := by decide +kernel
set_option maxRecDepth 20000 in
theorem ggX6_keyOf_X6_farness : GoodIn wsX6_keyOf wsX6_farness := goodIn_r _ [9, 10, 11, 12, 13, 20, 21, 22, 23, 24, 25, 26, 27, 28, 29, 30, 31, 32, 33, 34, 35, 36, 37, 38] (by decide +kernel) (by decide +kernel)
set_option maxRecDepth 20000 in
theorem gX6_keyOf_X6_farness : GoodIn wsX6_keyOf (wsV RX6 89 RX6 yX6_farness wsX6_farness) := goodIn_app (goodIn_of _ (by decide +kernel)) ggX6_keyOf_X6_farness
set_option maxRecDepth 20000 in
theorem ggX6_keyOf_X6_told : GoodIn wsX6_keyOf wsX6_told := goodIn_r _ [16] (by decide +kernel) (by decide +kernel)
set_option maxRecDepth 20000 in
theorem gX6_keyOf_X6_told : GoodIn wsX6_keyOf (va_wsS RX6 68 yX6_told wsX6_told) := goodIn_app (goodIn_of _ (by decide +kernel)) ggX6_keyOf_X6_told
set_option maxRecDepth 20000 in
theorem ggX6_keyOf_X6_size : GoodIn wsX6_keyOf wsX6_size := goodIn_r _ [19] (by decide +kernel) (by decide +kernel)
set_option maxRecDepth 20000 in
theorem gX6_keyOf_X6_size : GoodIn wsX6_keyOf (va_wsS RX6 124 yX6_size wsX6_size) := goodIn_app (goodIn_of _ (by decide +kernel)) ggX6_keyOf_X6_size
theorem dX6_keyOf_0 : decode cX6_keyOf 0 = .ok (.iload_n 1, 1) := by decide +kernel
theorem dX6_keyOf_1 : decode cX6_keyOf 1 = .ok (.ifCond .ne 8, 3) := by decide +kernel
theorem dX6_keyOf_4 : decode cX6_keyOf 4 = .ok (.aload_n 0, 1) := by decide +kernel
theorem dX6_keyOf_5 : decode cX6_keyOf 5 = .ok (.invokevirtual 89, 3) := by decide +kernel
theorem dX6_keyOf_8 : decode cX6_keyOf 8 = .ok (.lreturn, 1) := by decide +kernel
theorem dX6_keyOf_9 : decode cX6_keyOf 9 = .ok (.iload_n 1, 1) := by decide +kernel
theorem dX6_keyOf_10 : decode cX6_keyOf 10 = .ok (.iconst 2, 1) := by decide +kernel
theorem dX6_keyOf_11 : decode cX6_keyOf 11 = .ok (.if_icmp .ne 32, 3) := by decide +kernel
theorem dX6_keyOf_14 : decode cX6_keyOf 14 = .ok (.aload_n 0, 1) := by decide +kernel
theorem dX6_keyOf_15 : decode cX6_keyOf 15 = .ok (.getfield 65, 3) := by decide +kernel
theorem dX6_keyOf_18 : decode cX6_keyOf 18 = .ok (.iload_n 2, 1) := by decide +kernel
theorem dX6_keyOf_19 : decode cX6_keyOf 19 = .ok (.isub, 1) := by decide +kernel
theorem dX6_keyOf_20 : decode cX6_keyOf 20 = .ok (.invokestatic 68, 3) := by decide +kernel
theorem dX6_keyOf_23 : decode cX6_keyOf 23 = .ok (.istore_n 3, 1) := by decide +kernel
theorem dX6_keyOf_24 : decode cX6_keyOf 24 = .ok (.iload_n 3, 1) := by decide +kernel
theorem dX6_keyOf_25 : decode cX6_keyOf 25 = .ok (.bipush 64, 2) := by decide +kernel
theorem dX6_keyOf_27 : decode cX6_keyOf 27 = .ok (.iload_n 3, 1) := by decide +kernel
theorem dX6_keyOf_28 : decode cX6_keyOf 28 = .ok (.isub, 1) := by decide +kernel
theorem dX6_keyOf_29 : decode cX6_keyOf 29 = .ok (.if_icmp .ge 8, 3) := by decide +kernel
theorem dX6_keyOf_32 : decode cX6_keyOf 32 = .ok (.iload_n 3, 1) := by decide +kernel
theorem dX6_keyOf_33 : decode cX6_keyOf 33 = .ok (.i2l, 1) := by decide +kernel
theorem dX6_keyOf_34 : decode cX6_keyOf 34 = .ok (.goto 8, 3) := by decide +kernel
theorem dX6_keyOf_37 : decode cX6_keyOf 37 = .ok (.bipush 64, 2) := by decide +kernel
theorem dX6_keyOf_39 : decode cX6_keyOf 39 = .ok (.iload_n 3, 1) := by decide +kernel
theorem dX6_keyOf_40 : decode cX6_keyOf 40 = .ok (.isub, 1) := by decide +kernel
theorem dX6_keyOf_41 : decode cX6_keyOf 41 = .ok (.i2l, 1) := by decide +kernel
theorem dX6_keyOf_42 : decode cX6_keyOf 42 = .ok (.lreturn, 1) := by decide +kernel
theorem dX6_keyOf_43 : decode cX6_keyOf 43 = .ok (.iconst 0, 1) := by decide +kernel
theorem dX6_keyOf_44 : decode cX6_keyOf 44 = .ok (.istore_n 3, 1) := by decide +kernel
theorem dX6_keyOf_45 : decode cX6_keyOf 45 = .ok (.iconst 0, 1) := by decide +kernel
theorem dX6_keyOf_46 : decode cX6_keyOf 46 = .ok (.istore 4, 2) := by decide +kernel
theorem dX6_keyOf_48 : decode cX6_keyOf 48 = .ok (.iload 4, 2) := by decide +kernel
theorem dX6_keyOf_50 : decode cX6_keyOf 50 = .ok (.aload_n 0, 1) := by decide +kernel
theorem dX6_keyOf_51 : decode cX6_keyOf 51 = .ok (.getfield 48, 3) := by decide +kernel
theorem dX6_keyOf_54 : decode cX6_keyOf 54 = .ok (.if_icmp .ge 30, 3) := by decide +kernel
theorem dX6_keyOf_57 : decode cX6_keyOf 57 = .ok (.iload_n 3, 1) := by decide +kernel
theorem dX6_keyOf_58 : decode cX6_keyOf 58 = .ok (.aload_n 0, 1) := by decide +kernel
theorem dX6_keyOf_59 : decode cX6_keyOf 59 = .ok (.getfield 29, 3) := by decide +kernel
theorem dX6_keyOf_62 : decode cX6_keyOf 62 = .ok (.iload 4, 2) := by decide +kernel
theorem dX6_keyOf_64 : decode cX6_keyOf 64 = .ok (.iaload, 1) := by decide +kernel
theorem dX6_keyOf_65 : decode cX6_keyOf 65 = .ok (.aload_n 0, 1) := by decide +kernel
theorem dX6_keyOf_66 : decode cX6_keyOf 66 = .ok (.getfield 22, 3) := by decide +kernel
theorem dX6_keyOf_69 : decode cX6_keyOf 69 = .ok (.iload 4, 2) := by decide +kernel
theorem dX6_keyOf_71 : decode cX6_keyOf 71 = .ok (.iaload, 1) := by decide +kernel
theorem dX6_keyOf_72 : decode cX6_keyOf 72 = .ok (.isub, 1) := by decide +kernel
theorem dX6_keyOf_73 : decode cX6_keyOf 73 = .ok (.invokestatic 124, 3) := by decide +kernel
theorem dX6_keyOf_76 : decode cX6_keyOf 76 = .ok (.iadd, 1) := by decide +kernel
theorem dX6_keyOf_77 : decode cX6_keyOf 77 = .ok (.istore_n 3, 1) := by decide +kernel
theorem dX6_keyOf_78 : decode cX6_keyOf 78 = .ok (.iinc 4 1, 3) := by decide +kernel
theorem dX6_keyOf_81 : decode cX6_keyOf 81 = .ok (.goto (-33), 3) := by decide +kernel
theorem dX6_keyOf_84 : decode cX6_keyOf 84 = .ok (.iload_n 3, 1) := by decide +kernel
theorem dX6_keyOf_85 : decode cX6_keyOf 85 = .ok (.i2l, 1) := by decide +kernel
theorem dX6_keyOf_86 : decode cX6_keyOf 86 = .ok (.lreturn, 1) := by decide +kernel
theorem dX6_ranks_0 : decode cX6_ranks 0 = .ok (.aload_n 0, 1) := by decide +kernel
theorem dX6_ranks_1 : decode cX6_ranks 1 = .ok (.getfield 127, 3) := by decide +kernel
theorem dX6_ranks_4 : decode cX6_ranks 4 = .ok (.bipush 10, 2) := by decide +kernel
theorem dX6_ranks_6 : decode cX6_ranks 6 = .ok (.if_icmp .ge 10, 3) := by decide +kernel
theorem dX6_ranks_9 : decode cX6_ranks 9 = .ok (.aload_n 0, 1) := by decide +kernel
theorem dX6_ranks_10 : decode cX6_ranks 10 = .ok (.getfield 127, 3) := by decide +kernel
theorem dX6_ranks_13 : decode cX6_ranks 13 = .ok (.goto 5, 3) := by decide +kernel
theorem dX6_ranks_16 : decode cX6_ranks 16 = .ok (.bipush 10, 2) := by decide +kernel
theorem dX6_ranks_18 : decode cX6_ranks 18 = .ok (.istore 4, 2) := by decide +kernel
theorem dX6_ranks_20 : decode cX6_ranks 20 = .ok (.aload_n 0, 1) := by decide +kernel
theorem dX6_ranks_21 : decode cX6_ranks 21 = .ok (.dup, 1) := by decide +kernel
theorem dX6_ranks_22 : decode cX6_ranks 22 = .ok (.getfield 127, 3) := by decide +kernel
theorem dX6_ranks_25 : decode cX6_ranks 25 = .ok (.iconst 1, 1) := by decide +kernel
theorem dX6_ranks_26 : decode cX6_ranks 26 = .ok (.iadd, 1) := by decide +kernel
theorem dX6_ranks_27 : decode cX6_ranks 27 = .ok (.putfield 127, 3) := by decide +kernel
theorem dX6_ranks_30 : decode cX6_ranks 30 = .ok (.iload 4, 2) := by decide +kernel
theorem dX6_ranks_32 : decode cX6_ranks 32 = .ok (.ifCond .le 64, 3) := by decide +kernel
theorem dX6_ranks_35 : decode cX6_ranks 35 = .ok (.aload_n 0, 1) := by decide +kernel
theorem dX6_ranks_36 : decode cX6_ranks 36 = .ok (.getfield 38, 3) := by decide +kernel
theorem dX6_ranks_39 : decode cX6_ranks 39 = .ok (.iload 4, 2) := by decide +kernel
theorem dX6_ranks_41 : decode cX6_ranks 41 = .ok (.iconst 1, 1) := by decide +kernel
theorem dX6_ranks_42 : decode cX6_ranks 42 = .ok (.isub, 1) := by decide +kernel
theorem dX6_ranks_43 : decode cX6_ranks 43 = .ok (.laload, 1) := by decide +kernel
theorem dX6_ranks_44 : decode cX6_ranks 44 = .ok (.lload_n 2, 1) := by decide +kernel
theorem dX6_ranks_45 : decode cX6_ranks 45 = .ok (.lcmp, 1) := by decide +kernel
theorem dX6_ranks_46 : decode cX6_ranks 46 = .ok (.ifCond .le 50, 3) := by decide +kernel
theorem dX6_ranks_49 : decode cX6_ranks 49 = .ok (.iinc 4 (-1), 3) := by decide +kernel
theorem dX6_ranks_52 : decode cX6_ranks 52 = .ok (.iload 4, 2) := by decide +kernel
theorem dX6_ranks_54 : decode cX6_ranks 54 = .ok (.iconst 1, 1) := by decide +kernel
theorem dX6_ranks_55 : decode cX6_ranks 55 = .ok (.iadd, 1) := by decide +kernel
theorem dX6_ranks_56 : decode cX6_ranks 56 = .ok (.bipush 10, 2) := by decide +kernel
theorem dX6_ranks_58 : decode cX6_ranks 58 = .ok (.if_icmp .ge (-28), 3) := by decide +kernel
theorem dX6_ranks_61 : decode cX6_ranks 61 = .ok (.aload_n 0, 1) := by decide +kernel
theorem dX6_ranks_62 : decode cX6_ranks 62 = .ok (.getfield 38, 3) := by decide +kernel
theorem dX6_ranks_65 : decode cX6_ranks 65 = .ok (.iload 4, 2) := by decide +kernel
theorem dX6_ranks_67 : decode cX6_ranks 67 = .ok (.iconst 1, 1) := by decide +kernel
theorem dX6_ranks_68 : decode cX6_ranks 68 = .ok (.iadd, 1) := by decide +kernel
theorem dX6_ranks_69 : decode cX6_ranks 69 = .ok (.aload_n 0, 1) := by decide +kernel
theorem dX6_ranks_70 : decode cX6_ranks 70 = .ok (.getfield 38, 3) := by decide +kernel
theorem dX6_ranks_73 : decode cX6_ranks 73 = .ok (.iload 4, 2) := by decide +kernel
theorem dX6_ranks_75 : decode cX6_ranks 75 = .ok (.laload, 1) := by decide +kernel
theorem dX6_ranks_76 : decode cX6_ranks 76 = .ok (.lastore, 1) := by decide +kernel
theorem dX6_ranks_77 : decode cX6_ranks 77 = .ok (.aload_n 0, 1) := by decide +kernel
theorem dX6_ranks_78 : decode cX6_ranks 78 = .ok (.getfield 42, 3) := by decide +kernel
theorem dX6_ranks_81 : decode cX6_ranks 81 = .ok (.iload 4, 2) := by decide +kernel
theorem dX6_ranks_83 : decode cX6_ranks 83 = .ok (.iconst 1, 1) := by decide +kernel
theorem dX6_ranks_84 : decode cX6_ranks 84 = .ok (.iadd, 1) := by decide +kernel
theorem dX6_ranks_85 : decode cX6_ranks 85 = .ok (.aload_n 0, 1) := by decide +kernel
theorem dX6_ranks_86 : decode cX6_ranks 86 = .ok (.getfield 42, 3) := by decide +kernel
theorem dX6_ranks_89 : decode cX6_ranks 89 = .ok (.iload 4, 2) := by decide +kernel
theorem dX6_ranks_91 : decode cX6_ranks 91 = .ok (.iaload, 1) := by decide +kernel
theorem dX6_ranks_92 : decode cX6_ranks 92 = .ok (.iastore, 1) := by decide +kernel
theorem dX6_ranks_93 : decode cX6_ranks 93 = .ok (.goto (-63), 3) := by decide +kernel
theorem dX6_ranks_96 : decode cX6_ranks 96 = .ok (.iload 4, 2) := by decide +kernel
theorem dX6_ranks_98 : decode cX6_ranks 98 = .ok (.bipush 10, 2) := by decide +kernel
theorem dX6_ranks_100 : decode cX6_ranks 100 = .ok (.if_icmp .ge 19, 3) := by decide +kernel
theorem dX6_ranks_103 : decode cX6_ranks 103 = .ok (.aload_n 0, 1) := by decide +kernel
theorem dX6_ranks_104 : decode cX6_ranks 104 = .ok (.getfield 38, 3) := by decide +kernel
theorem dX6_ranks_107 : decode cX6_ranks 107 = .ok (.iload 4, 2) := by decide +kernel
theorem dX6_ranks_109 : decode cX6_ranks 109 = .ok (.lload_n 2, 1) := by decide +kernel
theorem dX6_ranks_110 : decode cX6_ranks 110 = .ok (.lastore, 1) := by decide +kernel
theorem dX6_ranks_111 : decode cX6_ranks 111 = .ok (.aload_n 0, 1) := by decide +kernel
theorem dX6_ranks_112 : decode cX6_ranks 112 = .ok (.getfield 42, 3) := by decide +kernel
theorem dX6_ranks_115 : decode cX6_ranks 115 = .ok (.iload 4, 2) := by decide +kernel
theorem dX6_ranks_117 : decode cX6_ranks 117 = .ok (.iload_n 1, 1) := by decide +kernel
theorem dX6_ranks_118 : decode cX6_ranks 118 = .ok (.iastore, 1) := by decide +kernel
theorem dX6_ranks_119 : decode cX6_ranks 119 = .ok (.return_, 1) := by decide +kernel
set_option maxRecDepth 20000 in
theorem ggX6_findsBranches_X6_looksNow : GoodIn wsX6_findsBranches wsX6_looksNow := goodIn_r _ [13, 14, 15, 16, 12, 17, 3, 18, 19, 20, 21, 22, 23, 4, 7, 2, 24, 25, 26, 27, 28, 29, 30, 31, 32, 33, 34, 63, 64, 65, 66, 67, 68, 69, 70, 71, 72, 73, 74, 75, 76, 77, 78, 79, 80, 81] (by decide +kernel) (by decide +kernel)
set_option maxRecDepth 20000 in
theorem gX6_findsBranches_X6_looksNow : GoodIn wsX6_findsBranches (wsV RX6 86 RX6 yX6_looksNow wsX6_looksNow) := goodIn_app (goodIn_of _ (by decide +kernel)) ggX6_findsBranches_X6_looksNow
set_option maxRecDepth 20000 in
theorem ggX6_findsBranches_X6_poses : GoodIn wsX6_findsBranches wsX6_poses := goodIn_r _ [38, 3, 39, 40, 41, 63, 64, 65, 66, 67, 68, 69, 70, 71, 72, 73, 74, 75, 76, 77, 78, 79, 80, 81] (by decide +kernel) (by decide +kernel)
set_option maxRecDepth 20000 in
theorem gX6_findsBranches_X6_poses : GoodIn wsX6_findsBranches (wsV RX6 130 RX6 yX6_poses wsX6_poses) := goodIn_app (goodIn_of _ (by decide +kernel)) ggX6_findsBranches_X6_poses
set_option maxRecDepth 20000 in
theorem ggX6_findsBranches_X6_makesPose : GoodIn wsX6_findsBranches wsX6_makesPose := goodIn_r _ [45, 3, 40, 41, 18, 63, 64, 65, 66, 67, 68, 69, 70, 71, 72, 73, 74, 75, 76, 77, 78, 79, 80, 81] (by decide +kernel) (by decide +kernel)
set_option maxRecDepth 20000 in
theorem gX6_findsBranches_X6_makesPose : GoodIn wsX6_findsBranches (wsV RX6 134 RX6 yX6_makesPose wsX6_makesPose) := goodIn_app (goodIn_of _ (by decide +kernel)) ggX6_findsBranches_X6_makesPose
set_option maxRecDepth 20000 in
theorem ggX6_findsBranches_X6_looks : GoodIn wsX6_findsBranches wsX6_looks := goodIn_r _ [23, 4, 7, 2, 3, 24, 25, 18, 26, 27, 12, 28, 29, 30, 31, 32, 33, 34, 63, 64, 65, 66, 67, 68, 69, 70, 71, 72, 73, 74, 75, 76, 77, 78, 79, 80, 81] (by decide +kernel) (by decide +kernel)
set_option maxRecDepth 20000 in
theorem gX6_findsBranches_X6_looks : GoodIn wsX6_findsBranches (wsV RX6 77 RX6 yX6_looks wsX6_looks) := goodIn_app (goodIn_of _ (by decide +kernel)) ggX6_findsBranches_X6_looks
set_option maxRecDepth 20000 in
theorem ggX6_findsBranches_X6_size : GoodIn wsX6_findsBranches wsX6_size := goodIn_r _ [48] (by decide +kernel) (by decide +kernel)
set_option maxRecDepth 20000 in
theorem gX6_findsBranches_X6_size : GoodIn wsX6_findsBranches (va_wsS RX6 124 yX6_size wsX6_size) := goodIn_app (goodIn_of _ (by decide +kernel)) ggX6_findsBranches_X6_size
set_option maxRecDepth 20000 in
theorem ggX6_findsBranches_X6_keyOf : GoodIn wsX6_findsBranches wsX6_keyOf := goodIn_r _ [52, 2, 3, 18, 19, 53, 54, 55, 12, 56, 4, 5, 7, 8, 26, 27, 28, 46, 47, 48, 63, 64, 65, 66, 67, 68, 69, 70, 71, 72, 73, 74, 75, 76, 77, 78, 79, 80, 81] (by decide +kernel) (by decide +kernel)
set_option maxRecDepth 20000 in
theorem gX6_findsBranches_X6_keyOf : GoodIn wsX6_findsBranches (wsV RX6 138 RX6 yX6_keyOf wsX6_keyOf) := goodIn_app (goodIn_of _ (by decide +kernel)) ggX6_findsBranches_X6_keyOf
set_option maxRecDepth 20000 in
theorem ggX6_findsBranches_X6_ranks : GoodIn wsX6_findsBranches wsX6_ranks := goodIn_r _ [60, 1, 61, 62, 63, 64, 65, 66, 67, 68, 69, 70, 71, 72, 73, 74, 75, 76, 77, 78, 79, 80, 81] (by decide +kernel) (by decide +kernel)
set_option maxRecDepth 20000 in
theorem gX6_findsBranches_X6_ranks : GoodIn wsX6_findsBranches (wsV RX6 141 RX6 yX6_ranks wsX6_ranks) := goodIn_app (goodIn_of _ (by decide +kernel)) ggX6_findsBranches_X6_ranks
theorem dX6_findsBranches_0 : decode cX6_findsBranches 0 = .ok (.aload_n 0, 1) := by decide +kernel
theorem dX6_findsBranches_1 : decode cX6_findsBranches 1 = .ok (.iconst 0, 1) := by decide +kernel
theorem dX6_findsBranches_2 : decode cX6_findsBranches 2 = .ok (.putfield 127, 3) := by decide +kernel
theorem dX6_findsBranches_5 : decode cX6_findsBranches 5 = .ok (.aload_n 0, 1) := by decide +kernel
theorem dX6_findsBranches_6 : decode cX6_findsBranches 6 = .ok (.invokevirtual 86, 3) := by decide +kernel
theorem dX6_findsBranches_9 : decode cX6_findsBranches 9 = .ok (.aload_n 0, 1) := by decide +kernel
theorem dX6_findsBranches_10 : decode cX6_findsBranches 10 = .ok (.getfield 65, 3) := by decide +kernel
theorem dX6_findsBranches_13 : decode cX6_findsBranches 13 = .ok (.istore_n 2, 1) := by decide +kernel
theorem dX6_findsBranches_14 : decode cX6_findsBranches 14 = .ok (.aload_n 0, 1) := by decide +kernel
theorem dX6_findsBranches_15 : decode cX6_findsBranches 15 = .ok (.invokevirtual 130, 3) := by decide +kernel
theorem dX6_findsBranches_18 : decode cX6_findsBranches 18 = .ok (.istore_n 3, 1) := by decide +kernel
theorem dX6_findsBranches_19 : decode cX6_findsBranches 19 = .ok (.iconst 0, 1) := by decide +kernel
theorem dX6_findsBranches_20 : decode cX6_findsBranches 20 = .ok (.istore 4, 2) := by decide +kernel
theorem dX6_findsBranches_22 : decode cX6_findsBranches 22 = .ok (.iload 4, 2) := by decide +kernel
theorem dX6_findsBranches_24 : decode cX6_findsBranches 24 = .ok (.iload_n 3, 1) := by decide +kernel
theorem dX6_findsBranches_25 : decode cX6_findsBranches 25 = .ok (.if_icmp .ge 76, 3) := by decide +kernel
theorem dX6_findsBranches_28 : decode cX6_findsBranches 28 = .ok (.aload_n 0, 1) := by decide +kernel
theorem dX6_findsBranches_29 : decode cX6_findsBranches 29 = .ok (.getfield 48, 3) := by decide +kernel
theorem dX6_findsBranches_32 : decode cX6_findsBranches 32 = .ok (.ifCond .le 69, 3) := by decide +kernel
theorem dX6_findsBranches_35 : decode cX6_findsBranches 35 = .ok (.aload_n 0, 1) := by decide +kernel
theorem dX6_findsBranches_36 : decode cX6_findsBranches 36 = .ok (.iload 4, 2) := by decide +kernel
theorem dX6_findsBranches_38 : decode cX6_findsBranches 38 = .ok (.invokevirtual 134, 3) := by decide +kernel
theorem dX6_findsBranches_41 : decode cX6_findsBranches 41 = .ok (.aload_n 0, 1) := by decide +kernel
theorem dX6_findsBranches_42 : decode cX6_findsBranches 42 = .ok (.invokevirtual 77, 3) := by decide +kernel
theorem dX6_findsBranches_45 : decode cX6_findsBranches 45 = .ok (.aload_n 0, 1) := by decide +kernel
theorem dX6_findsBranches_46 : decode cX6_findsBranches 46 = .ok (.getfield 59, 3) := by decide +kernel
theorem dX6_findsBranches_49 : decode cX6_findsBranches 49 = .ok (.aload_n 0, 1) := by decide +kernel
theorem dX6_findsBranches_50 : decode cX6_findsBranches 50 = .ok (.getfield 80, 3) := by decide +kernel
theorem dX6_findsBranches_53 : decode cX6_findsBranches 53 = .ok (.isub, 1) := by decide +kernel
theorem dX6_findsBranches_54 : decode cX6_findsBranches 54 = .ok (.invokestatic 124, 3) := by decide +kernel
theorem dX6_findsBranches_57 : decode cX6_findsBranches 57 = .ok (.aload_n 0, 1) := by decide +kernel
theorem dX6_findsBranches_58 : decode cX6_findsBranches 58 = .ok (.getfield 25, 3) := by decide +kernel
theorem dX6_findsBranches_61 : decode cX6_findsBranches 61 = .ok (.if_icmp .gt 34, 3) := by decide +kernel
theorem dX6_findsBranches_64 : decode cX6_findsBranches 64 = .ok (.aload_n 0, 1) := by decide +kernel
theorem dX6_findsBranches_65 : decode cX6_findsBranches 65 = .ok (.getfield 62, 3) := by decide +kernel
theorem dX6_findsBranches_68 : decode cX6_findsBranches 68 = .ok (.aload_n 0, 1) := by decide +kernel
theorem dX6_findsBranches_69 : decode cX6_findsBranches 69 = .ok (.getfield 83, 3) := by decide +kernel
theorem dX6_findsBranches_72 : decode cX6_findsBranches 72 = .ok (.isub, 1) := by decide +kernel
theorem dX6_findsBranches_73 : decode cX6_findsBranches 73 = .ok (.invokestatic 124, 3) := by decide +kernel
theorem dX6_findsBranches_76 : decode cX6_findsBranches 76 = .ok (.aload_n 0, 1) := by decide +kernel
theorem dX6_findsBranches_77 : decode cX6_findsBranches 77 = .ok (.getfield 25, 3) := by decide +kernel
theorem dX6_findsBranches_80 : decode cX6_findsBranches 80 = .ok (.if_icmp .gt 15, 3) := by decide +kernel
theorem dX6_findsBranches_83 : decode cX6_findsBranches 83 = .ok (.aload_n 0, 1) := by decide +kernel
theorem dX6_findsBranches_84 : decode cX6_findsBranches 84 = .ok (.iload 4, 2) := by decide +kernel
theorem dX6_findsBranches_86 : decode cX6_findsBranches 86 = .ok (.aload_n 0, 1) := by decide +kernel
theorem dX6_findsBranches_87 : decode cX6_findsBranches 87 = .ok (.iload_n 1, 1) := by decide +kernel
theorem dX6_findsBranches_88 : decode cX6_findsBranches 88 = .ok (.iload_n 2, 1) := by decide +kernel
theorem dX6_findsBranches_89 : decode cX6_findsBranches 89 = .ok (.invokevirtual 138, 3) := by decide +kernel
theorem dX6_findsBranches_92 : decode cX6_findsBranches 92 = .ok (.invokevirtual 141, 3) := by decide +kernel
theorem dX6_findsBranches_95 : decode cX6_findsBranches 95 = .ok (.iinc 4 1, 3) := by decide +kernel
theorem dX6_findsBranches_98 : decode cX6_findsBranches 98 = .ok (.goto (-76), 3) := by decide +kernel
theorem dX6_findsBranches_101 : decode cX6_findsBranches 101 = .ok (.return_, 1) := by decide +kernel
set_option maxRecDepth 20000 in
theorem ggX6_branches_X6_poses : GoodIn wsX6_branches wsX6_poses := goodIn_r _ [8, 9, 1, 10, 11, 68, 69, 70, 71, 72, 73, 74, 75, 76, 77, 78, 79, 80, 81, 82, 83, 84, 85, 86] (by decide +kernel) (by decide +kernel)
set_option maxRecDepth 20000 in
theorem gX6_branches_X6_poses : GoodIn wsX6_branches (wsV RX6 130 RX6 yX6_poses wsX6_poses) := goodIn_app (goodIn_of _ (by decide +kernel)) ggX6_branches_X6_poses
set_option maxRecDepth 20000 in
theorem ggX6_branches_X6_findsBranches : GoodIn wsX6_branches wsX6_findsBranches := goodIn_r _ [15, 3, 16, 9, 17, 18, 19, 20, 21, 22, 23, 24, 7, 25, 26, 27, 28, 29, 30, 31, 32, 33, 34, 35, 36, 37, 38, 39, 40, 41, 42, 43, 44, 45, 46, 4, 5, 6, 8, 1, 10, 11, 47, 48, 49, 50, 51, 52, 53, 54, 55, 56, 57, 58, 59, 60, 61, 62, 63, 64, 65, 66, 67, 68, 69, 70, 71, 72, 73, 74, 75, 76, 77, 78, 79, 80, 81, 82, 83, 84, 85, 86] (by decide +kernel) (by decide +kernel)
set_option maxRecDepth 20000 in
theorem gX6_branches_X6_findsBranches : GoodIn wsX6_branches (wsV RX6 145 RX6 yX6_findsBranches wsX6_findsBranches) := goodIn_app (goodIn_of _ (by decide +kernel)) ggX6_branches_X6_findsBranches
theorem dX6_branches_0 : decode cX6_branches 0 = .ok (.aload_n 0, 1) := by decide +kernel
theorem dX6_branches_1 : decode cX6_branches 1 = .ok (.aload_n 0, 1) := by decide +kernel
theorem dX6_branches_2 : decode cX6_branches 2 = .ok (.invokevirtual 130, 3) := by decide +kernel
theorem dX6_branches_5 : decode cX6_branches 5 = .ok (.ldc 123, 2) := by decide +kernel
theorem dX6_branches_7 : decode cX6_branches 7 = .ok (.if_icmp .le 7, 3) := by decide +kernel
theorem dX6_branches_10 : decode cX6_branches 10 = .ok (.iconst 1, 1) := by decide +kernel
theorem dX6_branches_11 : decode cX6_branches 11 = .ok (.goto 4, 3) := by decide +kernel
theorem dX6_branches_14 : decode cX6_branches 14 = .ok (.iconst 0, 1) := by decide +kernel
theorem dX6_branches_15 : decode cX6_branches 15 = .ok (.putfield 45, 3) := by decide +kernel
theorem dX6_branches_18 : decode cX6_branches 18 = .ok (.aload_n 0, 1) := by decide +kernel
theorem dX6_branches_19 : decode cX6_branches 19 = .ok (.getfield 45, 3) := by decide +kernel
theorem dX6_branches_22 : decode cX6_branches 22 = .ok (.ifCond .le 5, 3) := by decide +kernel
theorem dX6_branches_25 : decode cX6_branches 25 = .ok (.iconst 0, 1) := by decide +kernel
theorem dX6_branches_26 : decode cX6_branches 26 = .ok (.ireturn, 1) := by decide +kernel
theorem dX6_branches_27 : decode cX6_branches 27 = .ok (.aload_n 0, 1) := by decide +kernel
theorem dX6_branches_28 : decode cX6_branches 28 = .ok (.iconst 0, 1) := by decide +kernel
theorem dX6_branches_29 : decode cX6_branches 29 = .ok (.invokevirtual 145, 3) := by decide +kernel
theorem dX6_branches_32 : decode cX6_branches 32 = .ok (.aload_n 0, 1) := by decide +kernel
theorem dX6_branches_33 : decode cX6_branches 33 = .ok (.getfield 127, 3) := by decide +kernel
theorem dX6_branches_36 : decode cX6_branches 36 = .ok (.ireturn, 1) := by decide +kernel
set_option maxRecDepth 20000 in
theorem ggX6_findsBranch_X6_in : GoodIn wsX6_findsBranch wsX6_in := goodIn_r _ [8] (by decide +kernel) (by decide +kernel)
set_option maxRecDepth 20000 in
theorem gX6_findsBranch_X6_in : GoodIn wsX6_findsBranch (va_wsS RX6 51 yX6_in wsX6_in) := goodIn_app (goodIn_of _ (by decide +kernel)) ggX6_findsBranch_X6_in
set_option maxRecDepth 20000 in
theorem ggX6_findsBranch_X6_poses : GoodIn wsX6_findsBranch wsX6_poses := goodIn_r _ [12, 13, 1, 14, 15, 71, 72, 73, 74, 75, 76, 77, 78, 79, 80, 81, 82, 83, 84, 85, 86, 87, 88, 89] (by decide +kernel) (by decide +kernel)
set_option maxRecDepth 20000 in
theorem gX6_findsBranch_X6_poses : GoodIn wsX6_findsBranch (wsV RX6 130 RX6 yX6_poses wsX6_poses) := goodIn_app (goodIn_of _ (by decide +kernel)) ggX6_findsBranch_X6_poses
set_option maxRecDepth 20000 in
theorem ggX6_findsBranch_X6_findsBranches : GoodIn wsX6_findsBranch wsX6_findsBranches := goodIn_r _ [19, 2, 20, 13, 21, 22, 23, 24, 25, 26, 27, 28, 7, 29, 30, 31, 32, 33, 34, 35, 36, 37, 38, 39, 40, 41, 42, 43, 44, 45, 46, 47, 48, 49, 50, 9, 10, 11, 12, 1, 14, 15, 51, 52, 53, 54, 55, 56, 57, 58, 59, 60, 61, 62, 63, 64, 65, 66, 67, 68, 69, 70, 4, 71, 72, 73, 74, 75, 76, 77, 78, 79, 80, 81, 82, 83, 84, 85, 86, 87, 88, 89] (by decide +kernel) (by decide +kernel)
set_option maxRecDepth 20000 in
theorem gX6_findsBranch_X6_findsBranches : GoodIn wsX6_findsBranch (wsV RX6 145 RX6 yX6_findsBranches wsX6_findsBranches) := goodIn_app (goodIn_of _ (by decide +kernel)) ggX6_findsBranch_X6_findsBranches
set_option maxRecDepth 20000 in
theorem ggX6_findsBranch_X6_makesPose : GoodIn wsX6_findsBranch wsX6_makesPose := goodIn_r _ [54, 13, 14, 15, 34, 71, 72, 73, 74, 75, 76, 77, 78, 79, 80, 81, 82, 83, 84, 85, 86, 87, 88, 89] (by decide +kernel) (by decide +kernel)
set_option maxRecDepth 20000 in
theorem gX6_findsBranch_X6_makesPose : GoodIn wsX6_findsBranch (wsV RX6 134 RX6 yX6_makesPose wsX6_makesPose) := goodIn_app (goodIn_of _ (by decide +kernel)) ggX6_findsBranch_X6_makesPose
theorem dX6_findsBranch_0 : decode cX6_findsBranch 0 = .ok (.iload_n 3, 1) := by decide +kernel
theorem dX6_findsBranch_1 : decode cX6_findsBranch 1 = .ok (.ifCond .eq 17, 3) := by decide +kernel
theorem dX6_findsBranch_4 : decode cX6_findsBranch 4 = .ok (.iload_n 1, 1) := by decide +kernel
theorem dX6_findsBranch_5 : decode cX6_findsBranch 5 = .ok (.iconst 0, 1) := by decide +kernel
theorem dX6_findsBranch_6 : decode cX6_findsBranch 6 = .ok (.bipush 9, 2) := by decide +kernel
theorem dX6_findsBranch_8 : decode cX6_findsBranch 8 = .ok (.invokestatic 51, 3) := by decide +kernel
theorem dX6_findsBranch_11 : decode cX6_findsBranch 11 = .ok (.ifCond .eq 7, 3) := by decide +kernel
theorem dX6_findsBranch_14 : decode cX6_findsBranch 14 = .ok (.iconst 1, 1) := by decide +kernel
theorem dX6_findsBranch_15 : decode cX6_findsBranch 15 = .ok (.goto 4, 3) := by decide +kernel
theorem dX6_findsBranch_18 : decode cX6_findsBranch 18 = .ok (.iconst 0, 1) := by decide +kernel
theorem dX6_findsBranch_19 : decode cX6_findsBranch 19 = .ok (.istore 4, 2) := by decide +kernel
theorem dX6_findsBranch_21 : decode cX6_findsBranch 21 = .ok (.aload_n 0, 1) := by decide +kernel
theorem dX6_findsBranch_22 : decode cX6_findsBranch 22 = .ok (.invokevirtual 130, 3) := by decide +kernel
theorem dX6_findsBranch_25 : decode cX6_findsBranch 25 = .ok (.ldc 123, 2) := by decide +kernel
theorem dX6_findsBranch_27 : decode cX6_findsBranch 27 = .ok (.if_icmp .gt 7, 3) := by decide +kernel
theorem dX6_findsBranch_30 : decode cX6_findsBranch 30 = .ok (.iconst 1, 1) := by decide +kernel
theorem dX6_findsBranch_31 : decode cX6_findsBranch 31 = .ok (.goto 4, 3) := by decide +kernel
theorem dX6_findsBranch_34 : decode cX6_findsBranch 34 = .ok (.iconst 0, 1) := by decide +kernel
theorem dX6_findsBranch_35 : decode cX6_findsBranch 35 = .ok (.istore 5, 2) := by decide +kernel
theorem dX6_findsBranch_37 : decode cX6_findsBranch 37 = .ok (.iload 4, 2) := by decide +kernel
theorem dX6_findsBranch_39 : decode cX6_findsBranch 39 = .ok (.ifCond .eq 41, 3) := by decide +kernel
theorem dX6_findsBranch_42 : decode cX6_findsBranch 42 = .ok (.iload 5, 2) := by decide +kernel
theorem dX6_findsBranch_44 : decode cX6_findsBranch 44 = .ok (.ifCond .eq 36, 3) := by decide +kernel
theorem dX6_findsBranch_47 : decode cX6_findsBranch 47 = .ok (.aload_n 0, 1) := by decide +kernel
theorem dX6_findsBranch_48 : decode cX6_findsBranch 48 = .ok (.iload_n 2, 1) := by decide +kernel
theorem dX6_findsBranch_49 : decode cX6_findsBranch 49 = .ok (.iconst 0, 1) := by decide +kernel
theorem dX6_findsBranch_50 : decode cX6_findsBranch 50 = .ok (.iconst 2, 1) := by decide +kernel
theorem dX6_findsBranch_51 : decode cX6_findsBranch 51 = .ok (.invokestatic 51, 3) := by decide +kernel
theorem dX6_findsBranch_54 : decode cX6_findsBranch 54 = .ok (.ifCond .eq 7, 3) := by decide +kernel
theorem dX6_findsBranch_57 : decode cX6_findsBranch 57 = .ok (.iload_n 2, 1) := by decide +kernel
theorem dX6_findsBranch_58 : decode cX6_findsBranch 58 = .ok (.goto 4, 3) := by decide +kernel
theorem dX6_findsBranch_61 : decode cX6_findsBranch 61 = .ok (.iconst 0, 1) := by decide +kernel
theorem dX6_findsBranch_62 : decode cX6_findsBranch 62 = .ok (.invokevirtual 145, 3) := by decide +kernel
theorem dX6_findsBranch_65 : decode cX6_findsBranch 65 = .ok (.iload_n 1, 1) := by decide +kernel
theorem dX6_findsBranch_66 : decode cX6_findsBranch 66 = .ok (.aload_n 0, 1) := by decide +kernel
theorem dX6_findsBranch_67 : decode cX6_findsBranch 67 = .ok (.getfield 127, 3) := by decide +kernel
theorem dX6_findsBranch_70 : decode cX6_findsBranch 70 = .ok (.if_icmp .ge 7, 3) := by decide +kernel
theorem dX6_findsBranch_73 : decode cX6_findsBranch 73 = .ok (.iconst 1, 1) := by decide +kernel
theorem dX6_findsBranch_74 : decode cX6_findsBranch 74 = .ok (.goto 4, 3) := by decide +kernel
theorem dX6_findsBranch_77 : decode cX6_findsBranch 77 = .ok (.iconst 0, 1) := by decide +kernel
theorem dX6_findsBranch_78 : decode cX6_findsBranch 78 = .ok (.istore 4, 2) := by decide +kernel
theorem dX6_findsBranch_80 : decode cX6_findsBranch 80 = .ok (.aload_n 0, 1) := by decide +kernel
theorem dX6_findsBranch_81 : decode cX6_findsBranch 81 = .ok (.iload 4, 2) := by decide +kernel
theorem dX6_findsBranch_83 : decode cX6_findsBranch 83 = .ok (.ifCond .ne 7, 3) := by decide +kernel
theorem dX6_findsBranch_86 : decode cX6_findsBranch 86 = .ok (.iconst 1, 1) := by decide +kernel
theorem dX6_findsBranch_87 : decode cX6_findsBranch 87 = .ok (.goto 26, 3) := by decide +kernel
theorem dX6_findsBranch_90 : decode cX6_findsBranch 90 = .ok (.iload_n 2, 1) := by decide +kernel
theorem dX6_findsBranch_91 : decode cX6_findsBranch 91 = .ok (.iconst 0, 1) := by decide +kernel
theorem dX6_findsBranch_92 : decode cX6_findsBranch 92 = .ok (.iconst 2, 1) := by decide +kernel
theorem dX6_findsBranch_93 : decode cX6_findsBranch 93 = .ok (.invokestatic 51, 3) := by decide +kernel
theorem dX6_findsBranch_96 : decode cX6_findsBranch 96 = .ok (.ifCond .ne 7, 3) := by decide +kernel
theorem dX6_findsBranch_99 : decode cX6_findsBranch 99 = .ok (.iconst 2, 1) := by decide +kernel
theorem dX6_findsBranch_100 : decode cX6_findsBranch 100 = .ok (.goto 13, 3) := by decide +kernel
theorem dX6_findsBranch_103 : decode cX6_findsBranch 103 = .ok (.iload 5, 2) := by decide +kernel
theorem dX6_findsBranch_105 : decode cX6_findsBranch 105 = .ok (.ifCond .eq 7, 3) := by decide +kernel
theorem dX6_findsBranch_108 : decode cX6_findsBranch 108 = .ok (.iconst 0, 1) := by decide +kernel
theorem dX6_findsBranch_109 : decode cX6_findsBranch 109 = .ok (.goto 4, 3) := by decide +kernel
theorem dX6_findsBranch_112 : decode cX6_findsBranch 112 = .ok (.iconst 3, 1) := by decide +kernel
theorem dX6_findsBranch_113 : decode cX6_findsBranch 113 = .ok (.putfield 45, 3) := by decide +kernel
theorem dX6_findsBranch_116 : decode cX6_findsBranch 116 = .ok (.aload_n 0, 1) := by decide +kernel
theorem dX6_findsBranch_117 : decode cX6_findsBranch 117 = .ok (.getfield 45, 3) := by decide +kernel
theorem dX6_findsBranch_120 : decode cX6_findsBranch 120 = .ok (.ifCond .ne 13, 3) := by decide +kernel
theorem dX6_findsBranch_123 : decode cX6_findsBranch 123 = .ok (.aload_n 0, 1) := by decide +kernel
theorem dX6_findsBranch_124 : decode cX6_findsBranch 124 = .ok (.aload_n 0, 1) := by decide +kernel
theorem dX6_findsBranch_125 : decode cX6_findsBranch 125 = .ok (.getfield 42, 3) := by decide +kernel
theorem dX6_findsBranch_128 : decode cX6_findsBranch 128 = .ok (.iload_n 1, 1) := by decide +kernel
theorem dX6_findsBranch_129 : decode cX6_findsBranch 129 = .ok (.iaload, 1) := by decide +kernel
theorem dX6_findsBranch_130 : decode cX6_findsBranch 130 = .ok (.invokevirtual 134, 3) := by decide +kernel
theorem dX6_findsBranch_133 : decode cX6_findsBranch 133 = .ok (.aload_n 0, 1) := by decide +kernel
theorem dX6_findsBranch_134 : decode cX6_findsBranch 134 = .ok (.getfield 45, 3) := by decide +kernel
theorem dX6_findsBranch_137 : decode cX6_findsBranch 137 = .ok (.ifCond .ne 7, 3) := by decide +kernel
theorem dX6_findsBranch_140 : decode cX6_findsBranch 140 = .ok (.iconst 1, 1) := by decide +kernel
theorem dX6_findsBranch_141 : decode cX6_findsBranch 141 = .ok (.goto 4, 3) := by decide +kernel
theorem dX6_findsBranch_144 : decode cX6_findsBranch 144 = .ok (.iconst 0, 1) := by decide +kernel
theorem dX6_findsBranch_145 : decode cX6_findsBranch 145 = .ok (.ireturn, 1) := by decide +kernel
set_option maxRecDepth 20000 in
theorem ggX6_branch_X6_isJoint : GoodIn wsX6_branch wsX6_isJoint := goodIn_r _ [6, 7, 8, 9, 5, 10, 79, 80, 81, 82, 83, 84, 85, 86, 87, 88, 89, 90, 91, 92, 93, 94, 95, 96, 97] (by decide +kernel) (by decide +kernel)
set_option maxRecDepth 20000 in
theorem gX6_branch_X6_isJoint : GoodIn wsX6_branch (wsV RX6 100 RX6 yX6_isJoint wsX6_isJoint) := goodIn_app (goodIn_of _ (by decide +kernel)) ggX6_branch_X6_isJoint
set_option maxRecDepth 20000 in
theorem ggX6_branch_X6_findsBranch : GoodIn wsX6_branch wsX6_findsBranch := goodIn_r _ [14, 15, 16, 17, 18, 8, 9, 5, 10, 19, 20, 21, 22, 7, 23, 24, 25, 26, 27, 28, 29, 30, 31, 32, 33, 34, 35, 36, 37, 38, 39, 40, 41, 42, 1, 43, 44, 45, 46, 47, 48, 49, 50, 51, 52, 53, 54, 55, 56, 57, 58, 59, 60, 61, 62, 63, 64, 65, 66, 67, 68, 69, 70, 71, 72, 73, 74, 75, 76, 77, 78, 79, 80, 81, 82, 83, 84, 85, 86, 87, 88, 89, 90, 91, 92, 93, 94, 95, 96, 97] (by decide +kernel) (by decide +kernel)
set_option maxRecDepth 20000 in
theorem gX6_branch_X6_findsBranch : GoodIn wsX6_branch (wsV RX6 148 RX6 yX6_findsBranch wsX6_findsBranch) := goodIn_app (goodIn_of _ (by decide +kernel)) ggX6_branch_X6_findsBranch
theorem dX6_branch_0 : decode cX6_branch 0 = .ok (.aload_n 0, 1) := by decide +kernel
theorem dX6_branch_1 : decode cX6_branch 1 = .ok (.iload_n 1, 1) := by decide +kernel
theorem dX6_branch_2 : decode cX6_branch 2 = .ok (.iload_n 2, 1) := by decide +kernel
theorem dX6_branch_3 : decode cX6_branch 3 = .ok (.aload_n 0, 1) := by decide +kernel
theorem dX6_branch_4 : decode cX6_branch 4 = .ok (.iload_n 3, 1) := by decide +kernel
theorem dX6_branch_5 : decode cX6_branch 5 = .ok (.invokevirtual 100, 3) := by decide +kernel
theorem dX6_branch_8 : decode cX6_branch 8 = .ok (.invokevirtual 148, 3) := by decide +kernel
theorem dX6_branch_11 : decode cX6_branch 11 = .ok (.ifCond .eq 12, 3) := by decide +kernel
theorem dX6_branch_14 : decode cX6_branch 14 = .ok (.aload_n 0, 1) := by decide +kernel
theorem dX6_branch_15 : decode cX6_branch 15 = .ok (.getfield 29, 3) := by decide +kernel
theorem dX6_branch_18 : decode cX6_branch 18 = .ok (.iload_n 3, 1) := by decide +kernel
theorem dX6_branch_19 : decode cX6_branch 19 = .ok (.iaload, 1) := by decide +kernel
theorem dX6_branch_20 : decode cX6_branch 20 = .ok (.goto 4, 3) := by decide +kernel
theorem dX6_branch_23 : decode cX6_branch 23 = .ok (.iconst 0, 1) := by decide +kernel
theorem dX6_branch_24 : decode cX6_branch 24 = .ok (.ireturn, 1) := by decide +kernel
set_option maxRecDepth 20000 in
theorem ggX6_take_X6_findsBranch : GoodIn wsX6_take wsX6_findsBranch := goodIn_r _ [8, 9, 10, 11, 12, 13, 14, 7, 15, 16, 17, 18, 19, 1, 20, 21, 22, 23, 24, 25, 26, 27, 28, 29, 30, 31, 32, 33, 34, 35, 36, 37, 38, 39, 3, 2, 40, 41, 42, 43, 44, 45, 46, 47, 48, 49, 50, 51, 52, 53, 54, 55, 56, 57, 58, 59, 60, 61, 62, 63, 64, 65, 66, 67, 68, 69, 70, 71, 72, 73, 74, 79, 80, 81, 82, 83, 84, 85, 86, 87, 88, 89, 90, 91, 92, 93, 94, 95, 96, 97] (by decide +kernel) (by decide +kernel)
set_option maxRecDepth 20000 in
theorem gX6_take_X6_findsBranch : GoodIn wsX6_take (wsV RX6 148 RX6 yX6_findsBranch wsX6_findsBranch) := goodIn_app (goodIn_of _ (by decide +kernel)) ggX6_take_X6_findsBranch
set_option maxRecDepth 20000 in
theorem ggX6_take_X6_farNow : GoodIn wsX6_take wsX6_farNow := goodIn_r _ [78, 32, 33, 34, 7, 35, 36, 37, 38, 39, 1, 3, 2, 40, 41, 42, 43, 27, 30, 26, 44, 45, 46, 47, 48, 49, 50, 51, 52, 53, 54, 66, 67, 68, 69, 28, 31, 79, 80, 81, 82, 83, 84, 85, 86, 87, 88, 89, 90, 91, 92, 93, 94, 95, 96, 97] (by decide +kernel) (by decide +kernel)
set_option maxRecDepth 20000 in
theorem gX6_take_X6_farNow : GoodIn wsX6_take (wsV RX6 112 RX6 yX6_farNow wsX6_farNow) := goodIn_app (goodIn_of _ (by decide +kernel)) ggX6_take_X6_farNow
theorem dX6_take_0 : decode cX6_take 0 = .ok (.aload_n 0, 1) := by decide +kernel
theorem dX6_take_1 : decode cX6_take 1 = .ok (.iload_n 1, 1) := by decide +kernel
theorem dX6_take_2 : decode cX6_take 2 = .ok (.iload_n 2, 1) := by decide +kernel
theorem dX6_take_3 : decode cX6_take 3 = .ok (.iconst 1, 1) := by decide +kernel
theorem dX6_take_4 : decode cX6_take 4 = .ok (.invokevirtual 148, 3) := by decide +kernel
theorem dX6_take_7 : decode cX6_take 7 = .ok (.ifCond .ne 5, 3) := by decide +kernel
theorem dX6_take_10 : decode cX6_take 10 = .ok (.lconst 0, 1) := by decide +kernel
theorem dX6_take_11 : decode cX6_take 11 = .ok (.lreturn, 1) := by decide +kernel
theorem dX6_take_12 : decode cX6_take 12 = .ok (.iconst 0, 1) := by decide +kernel
theorem dX6_take_13 : decode cX6_take 13 = .ok (.istore_n 3, 1) := by decide +kernel
theorem dX6_take_14 : decode cX6_take 14 = .ok (.iload_n 3, 1) := by decide +kernel
theorem dX6_take_15 : decode cX6_take 15 = .ok (.aload_n 0, 1) := by decide +kernel
theorem dX6_take_16 : decode cX6_take 16 = .ok (.getfield 48, 3) := by decide +kernel
theorem dX6_take_19 : decode cX6_take 19 = .ok (.if_icmp .ge 21, 3) := by decide +kernel
theorem dX6_take_22 : decode cX6_take 22 = .ok (.aload_n 0, 1) := by decide +kernel
theorem dX6_take_23 : decode cX6_take 23 = .ok (.getfield 22, 3) := by decide +kernel
theorem dX6_take_26 : decode cX6_take 26 = .ok (.iload_n 3, 1) := by decide +kernel
theorem dX6_take_27 : decode cX6_take 27 = .ok (.aload_n 0, 1) := by decide +kernel
theorem dX6_take_28 : decode cX6_take 28 = .ok (.getfield 29, 3) := by decide +kernel
theorem dX6_take_31 : decode cX6_take 31 = .ok (.iload_n 3, 1) := by decide +kernel
theorem dX6_take_32 : decode cX6_take 32 = .ok (.iaload, 1) := by decide +kernel
theorem dX6_take_33 : decode cX6_take 33 = .ok (.iastore, 1) := by decide +kernel
theorem dX6_take_34 : decode cX6_take 34 = .ok (.iinc 3 1, 3) := by decide +kernel
theorem dX6_take_37 : decode cX6_take 37 = .ok (.goto (-23), 3) := by decide +kernel
theorem dX6_take_40 : decode cX6_take 40 = .ok (.aload_n 0, 1) := by decide +kernel
theorem dX6_take_41 : decode cX6_take 41 = .ok (.invokevirtual 112, 3) := by decide +kernel
theorem dX6_take_44 : decode cX6_take 44 = .ok (.lreturn, 1) := by decide +kernel
theorem dJ9_abs_0f7a4_0 : decode cJ9_abs_0f7a4 0 = .ok (.iload_n 0, 1) := by decide +kernel
theorem dJ9_abs_0f7a4_1 : decode cJ9_abs_0f7a4 1 = .ok (.ifCond .ge 8, 3) := by decide +kernel
theorem dJ9_abs_0f7a4_4 : decode cJ9_abs_0f7a4 4 = .ok (.iload_n 0, 1) := by decide +kernel
theorem dJ9_abs_0f7a4_5 : decode cJ9_abs_0f7a4 5 = .ok (.ineg, 1) := by decide +kernel
theorem dJ9_abs_0f7a4_6 : decode cJ9_abs_0f7a4 6 = .ok (.goto 4, 3) := by decide +kernel
theorem dJ9_abs_0f7a4_9 : decode cJ9_abs_0f7a4 9 = .ok (.iload_n 0, 1) := by decide +kernel
theorem dJ9_abs_0f7a4_10 : decode cJ9_abs_0f7a4 10 = .ok (.ireturn, 1) := by decide +kernel
theorem dJ9_abs_067f4_0 : decode cJ9_abs_067f4 0 = .ok (.lload_n 0, 1) := by decide +kernel
theorem dJ9_abs_067f4_1 : decode cJ9_abs_067f4 1 = .ok (.lconst 0, 1) := by decide +kernel
theorem dJ9_abs_067f4_2 : decode cJ9_abs_067f4 2 = .ok (.lcmp, 1) := by decide +kernel
theorem dJ9_abs_067f4_3 : decode cJ9_abs_067f4 3 = .ok (.ifCond .ge 8, 3) := by decide +kernel
theorem dJ9_abs_067f4_6 : decode cJ9_abs_067f4 6 = .ok (.lload_n 0, 1) := by decide +kernel
theorem dJ9_abs_067f4_7 : decode cJ9_abs_067f4 7 = .ok (.lneg, 1) := by decide +kernel
theorem dJ9_abs_067f4_8 : decode cJ9_abs_067f4 8 = .ok (.goto 4, 3) := by decide +kernel
theorem dJ9_abs_067f4_11 : decode cJ9_abs_067f4 11 = .ok (.lload_n 0, 1) := by decide +kernel
theorem dJ9_abs_067f4_12 : decode cJ9_abs_067f4 12 = .ok (.lreturn, 1) := by decide +kernel
theorem dJ9_max_7cf53_0 : decode cJ9_max_7cf53 0 = .ok (.iload_n 0, 1) := by decide +kernel
theorem dJ9_max_7cf53_1 : decode cJ9_max_7cf53 1 = .ok (.iload_n 1, 1) := by decide +kernel
theorem dJ9_max_7cf53_2 : decode cJ9_max_7cf53 2 = .ok (.if_icmp .lt 7, 3) := by decide +kernel
theorem dJ9_max_7cf53_5 : decode cJ9_max_7cf53 5 = .ok (.iload_n 0, 1) := by decide +kernel
theorem dJ9_max_7cf53_6 : decode cJ9_max_7cf53 6 = .ok (.goto 4, 3) := by decide +kernel
theorem dJ9_max_7cf53_9 : decode cJ9_max_7cf53 9 = .ok (.iload_n 1, 1) := by decide +kernel
theorem dJ9_max_7cf53_10 : decode cJ9_max_7cf53 10 = .ok (.ireturn, 1) := by decide +kernel
theorem dJ9_max_f86c9_0 : decode cJ9_max_f86c9 0 = .ok (.lload_n 0, 1) := by decide +kernel
theorem dJ9_max_f86c9_1 : decode cJ9_max_f86c9 1 = .ok (.lload_n 2, 1) := by decide +kernel
theorem dJ9_max_f86c9_2 : decode cJ9_max_f86c9 2 = .ok (.lcmp, 1) := by decide +kernel
theorem dJ9_max_f86c9_3 : decode cJ9_max_f86c9 3 = .ok (.ifCond .lt 7, 3) := by decide +kernel
theorem dJ9_max_f86c9_6 : decode cJ9_max_f86c9 6 = .ok (.lload_n 0, 1) := by decide +kernel
theorem dJ9_max_f86c9_7 : decode cJ9_max_f86c9 7 = .ok (.goto 4, 3) := by decide +kernel
theorem dJ9_max_f86c9_10 : decode cJ9_max_f86c9 10 = .ok (.lload_n 2, 1) := by decide +kernel
theorem dJ9_max_f86c9_11 : decode cJ9_max_f86c9 11 = .ok (.lreturn, 1) := by decide +kernel
theorem dJ9_min_7cf53_0 : decode cJ9_min_7cf53 0 = .ok (.iload_n 0, 1) := by decide +kernel
theorem dJ9_min_7cf53_1 : decode cJ9_min_7cf53 1 = .ok (.iload_n 1, 1) := by decide +kernel
theorem dJ9_min_7cf53_2 : decode cJ9_min_7cf53 2 = .ok (.if_icmp .gt 7, 3) := by decide +kernel
theorem dJ9_min_7cf53_5 : decode cJ9_min_7cf53 5 = .ok (.iload_n 0, 1) := by decide +kernel
theorem dJ9_min_7cf53_6 : decode cJ9_min_7cf53 6 = .ok (.goto 4, 3) := by decide +kernel
theorem dJ9_min_7cf53_9 : decode cJ9_min_7cf53 9 = .ok (.iload_n 1, 1) := by decide +kernel
theorem dJ9_min_7cf53_10 : decode cJ9_min_7cf53 10 = .ok (.ireturn, 1) := by decide +kernel
set_option maxRecDepth 20000 in
theorem ggL_joint_X5_joint : GoodIn wsL_joint wsX5_joint := goodIn_ca (goodIn_ca (goodIn_r _ [7, 8, 9, 10, 11, 12, 13, 14, 15, 16, 17, 18, 19, 20, 21, 22, 23, 24, 25, 26, 27, 28, 29, 30, 31, 32, 33, 34, 35, 36, 37, 38, 39, 40, 41, 42, 43, 44, 45, 46, 47, 48, 49] (by decide +kernel) (by decide +kernel)) (goodIn_sub (fun _ h => List.mem_cons_of_mem _ (List.mem_append_left _ (List.mem_append_right _ h))) (by decide +kernel))) (goodIn_sub (fun _ h => List.mem_cons_of_mem _ (List.mem_append_right _ h)) (by decide +kernel))
set_option maxRecDepth 20000 in
theorem gL_joint_X5_joint : GoodIn wsL_joint (wsV RL 7 RX5 yX5_joint wsX5_joint) := goodIn_app (goodIn_of _ (by decide +kernel)) ggL_joint_X5_joint
theorem dL_joint_0 : decode cL_joint 0 = .ok (.aload 5, 2) := by decide +kernel
theorem dL_joint_2 : decode cL_joint 2 = .ok (.iconst 0, 1) := by decide +kernel
theorem dL_joint_3 : decode cL_joint 3 = .ok (.aload_n 0, 1) := by decide +kernel
theorem dL_joint_4 : decode cL_joint 4 = .ok (.iload_n 1, 1) := by decide +kernel
theorem dL_joint_5 : decode cL_joint 5 = .ok (.iload_n 2, 1) := by decide +kernel
theorem dL_joint_6 : decode cL_joint 6 = .ok (.iload_n 3, 1) := by decide +kernel
theorem dL_joint_7 : decode cL_joint 7 = .ok (.iload 4, 2) := by decide +kernel
theorem dL_joint_9 : decode cL_joint 9 = .ok (.invokevirtual 7, 3) := by decide +kernel
theorem dL_joint_12 : decode cL_joint 12 = .ok (.i2l, 1) := by decide +kernel
theorem dL_joint_13 : decode cL_joint 13 = .ok (.lastore, 1) := by decide +kernel
theorem dL_joint_14 : decode cL_joint 14 = .ok (.goto 11, 3) := by decide +kernel
theorem dL_joint_17 : decode cL_joint 17 = .ok (.astore 6, 2) := by decide +kernel
theorem dL_joint_19 : decode cL_joint 19 = .ok (.iconst 1, 1) := by decide +kernel
theorem dL_joint_20 : decode cL_joint 20 = .ok (.ireturn, 1) := by decide +kernel
theorem dL_joint_21 : decode cL_joint 21 = .ok (.astore 6, 2) := by decide +kernel
theorem dL_joint_23 : decode cL_joint 23 = .ok (.iconst 2, 1) := by decide +kernel
theorem dL_joint_24 : decode cL_joint 24 = .ok (.ireturn, 1) := by decide +kernel
theorem dL_joint_25 : decode cL_joint 25 = .ok (.iconst 0, 1) := by decide +kernel
theorem dL_joint_26 : decode cL_joint 26 = .ok (.ireturn, 1) := by decide +kernel
set_option maxRecDepth 20000 in
theorem ggL_set_X5_set : GoodIn wsL_set wsX5_set := goodIn_ca (goodIn_ca (goodIn_r _ [7, 8, 9, 10, 11, 12, 13, 6, 14, 15, 16, 17, 18, 19, 20, 21, 22, 23, 24, 25, 26, 27, 28, 29] (by decide +kernel) (by decide +kernel)) (goodIn_sub (fun _ h => List.mem_cons_of_mem _ (List.mem_append_left _ (List.mem_append_right _ h))) (by decide +kernel))) (goodIn_sub (fun _ h => List.mem_cons_of_mem _ (List.mem_append_right _ h)) (by decide +kernel))
set_option maxRecDepth 20000 in
theorem gL_set_X5_set : GoodIn wsL_set (wsV RL 17 RX5 yX5_set wsX5_set) := goodIn_app (goodIn_of _ (by decide +kernel)) ggL_set_X5_set
theorem dL_set_0 : decode cL_set 0 = .ok (.aload_n 3, 1) := by decide +kernel
theorem dL_set_1 : decode cL_set 1 = .ok (.iconst 0, 1) := by decide +kernel
theorem dL_set_2 : decode cL_set 2 = .ok (.aload_n 0, 1) := by decide +kernel
theorem dL_set_3 : decode cL_set 3 = .ok (.iload_n 1, 1) := by decide +kernel
theorem dL_set_4 : decode cL_set 4 = .ok (.iload_n 2, 1) := by decide +kernel
theorem dL_set_5 : decode cL_set 5 = .ok (.invokevirtual 17, 3) := by decide +kernel
theorem dL_set_8 : decode cL_set 8 = .ok (.i2l, 1) := by decide +kernel
theorem dL_set_9 : decode cL_set 9 = .ok (.lastore, 1) := by decide +kernel
theorem dL_set_10 : decode cL_set 10 = .ok (.goto 11, 3) := by decide +kernel
theorem dL_set_13 : decode cL_set 13 = .ok (.astore 4, 2) := by decide +kernel
theorem dL_set_15 : decode cL_set 15 = .ok (.iconst 1, 1) := by decide +kernel
theorem dL_set_16 : decode cL_set 16 = .ok (.ireturn, 1) := by decide +kernel
theorem dL_set_17 : decode cL_set 17 = .ok (.astore 4, 2) := by decide +kernel
theorem dL_set_19 : decode cL_set 19 = .ok (.iconst 2, 1) := by decide +kernel
theorem dL_set_20 : decode cL_set 20 = .ok (.ireturn, 1) := by decide +kernel
theorem dL_set_21 : decode cL_set 21 = .ok (.iconst 0, 1) := by decide +kernel
theorem dL_set_22 : decode cL_set 22 = .ok (.ireturn, 1) := by decide +kernel
set_option maxRecDepth 20000 in
theorem ggL_value_X5_value : GoodIn wsL_value wsX5_value := goodIn_ca (goodIn_r _ [6, 7, 8, 9, 10, 5, 11, 12, 13, 14, 15, 16, 17, 18, 19, 20, 21, 22, 23, 24, 25, 26] (by decide +kernel) (by decide +kernel)) (goodIn_sub (fun _ h => List.mem_cons_of_mem _ (List.mem_append_right _ h)) (by decide +kernel))
set_option maxRecDepth 20000 in
theorem gL_value_X5_value : GoodIn wsL_value (wsV RL 23 RX5 yX5_value wsX5_value) := goodIn_app (goodIn_of _ (by decide +kernel)) ggL_value_X5_value
theorem dL_value_0 : decode cL_value 0 = .ok (.aload_n 2, 1) := by decide +kernel
theorem dL_value_1 : decode cL_value 1 = .ok (.iconst 0, 1) := by decide +kernel
theorem dL_value_2 : decode cL_value 2 = .ok (.aload_n 0, 1) := by decide +kernel
theorem dL_value_3 : decode cL_value 3 = .ok (.iload_n 1, 1) := by decide +kernel
theorem dL_value_4 : decode cL_value 4 = .ok (.invokevirtual 23, 3) := by decide +kernel
theorem dL_value_7 : decode cL_value 7 = .ok (.i2l, 1) := by decide +kernel
theorem dL_value_8 : decode cL_value 8 = .ok (.lastore, 1) := by decide +kernel
theorem dL_value_9 : decode cL_value 9 = .ok (.goto 6, 3) := by decide +kernel
theorem dL_value_12 : decode cL_value 12 = .ok (.astore_n 3, 1) := by decide +kernel
theorem dL_value_13 : decode cL_value 13 = .ok (.iconst 1, 1) := by decide +kernel
theorem dL_value_14 : decode cL_value 14 = .ok (.ireturn, 1) := by decide +kernel
theorem dL_value_15 : decode cL_value 15 = .ok (.iconst 0, 1) := by decide +kernel
theorem dL_value_16 : decode cL_value 16 = .ok (.ireturn, 1) := by decide +kernel
set_option maxRecDepth 20000 in
theorem ggL_tip_X5_tip : GoodIn wsL_tip wsX5_tip := goodIn_ca (goodIn_r _ [6, 7, 8, 9, 10, 5, 11, 12, 13, 14, 15, 16, 17, 18, 19, 20, 21, 22, 23, 24, 25, 26, 27, 28, 29, 30, 31, 32, 33, 34, 35, 36, 37, 38, 39, 40, 41, 42, 43, 44, 45, 46, 47, 48, 49, 50, 51, 52, 53, 54, 55, 56, 57, 58, 59, 60, 61, 62, 63, 64, 65, 66] (by decide +kernel) (by decide +kernel)) (goodIn_sub (fun _ h => List.mem_cons_of_mem _ (List.mem_append_right _ h)) (by decide +kernel))
set_option maxRecDepth 20000 in
theorem gL_tip_X5_tip : GoodIn wsL_tip (wsV RL 27 RX5 yX5_tip wsX5_tip) := goodIn_app (goodIn_of _ (by decide +kernel)) ggL_tip_X5_tip
theorem dL_tip_0 : decode cL_tip 0 = .ok (.aload_n 2, 1) := by decide +kernel
theorem dL_tip_1 : decode cL_tip 1 = .ok (.iconst 0, 1) := by decide +kernel
theorem dL_tip_2 : decode cL_tip 2 = .ok (.aload_n 0, 1) := by decide +kernel
theorem dL_tip_3 : decode cL_tip 3 = .ok (.iload_n 1, 1) := by decide +kernel
theorem dL_tip_4 : decode cL_tip 4 = .ok (.invokevirtual 27, 3) := by decide +kernel
theorem dL_tip_7 : decode cL_tip 7 = .ok (.i2l, 1) := by decide +kernel
theorem dL_tip_8 : decode cL_tip 8 = .ok (.lastore, 1) := by decide +kernel
theorem dL_tip_9 : decode cL_tip 9 = .ok (.goto 6, 3) := by decide +kernel
theorem dL_tip_12 : decode cL_tip 12 = .ok (.astore_n 3, 1) := by decide +kernel
theorem dL_tip_13 : decode cL_tip 13 = .ok (.iconst 1, 1) := by decide +kernel
theorem dL_tip_14 : decode cL_tip 14 = .ok (.ireturn, 1) := by decide +kernel
theorem dL_tip_15 : decode cL_tip 15 = .ok (.iconst 0, 1) := by decide +kernel
theorem dL_tip_16 : decode cL_tip 16 = .ok (.ireturn, 1) := by decide +kernel
set_option maxRecDepth 20000 in
theorem ggL_tipAnew_X5_tipAnew : GoodIn wsL_tipAnew wsX5_tipAnew := goodIn_ca (goodIn_r _ [6, 7, 8, 9, 10, 5, 11, 12, 13, 14, 15, 16, 17, 18, 19, 20, 21, 22, 23, 24, 25, 26, 27, 28, 29, 30, 31, 32, 33, 34, 35, 36, 37, 38, 39, 40, 41, 42, 43, 44, 45, 46, 47, 48, 49, 50, 51, 52, 53, 54, 55, 56, 57, 58, 59, 60, 61, 62, 63, 64, 65, 66, 67] (by decide +kernel) (by decide +kernel)) (goodIn_sub (fun _ h => List.mem_cons_of_mem _ (List.mem_append_right _ h)) (by decide +kernel))
set_option maxRecDepth 20000 in
theorem gL_tipAnew_X5_tipAnew : GoodIn wsL_tipAnew (wsV RL 30 RX5 yX5_tipAnew wsX5_tipAnew) := goodIn_app (goodIn_of _ (by decide +kernel)) ggL_tipAnew_X5_tipAnew
theorem dL_tipAnew_0 : decode cL_tipAnew 0 = .ok (.aload_n 2, 1) := by decide +kernel
theorem dL_tipAnew_1 : decode cL_tipAnew 1 = .ok (.iconst 0, 1) := by decide +kernel
theorem dL_tipAnew_2 : decode cL_tipAnew 2 = .ok (.aload_n 0, 1) := by decide +kernel
theorem dL_tipAnew_3 : decode cL_tipAnew 3 = .ok (.iload_n 1, 1) := by decide +kernel
theorem dL_tipAnew_4 : decode cL_tipAnew 4 = .ok (.invokevirtual 30, 3) := by decide +kernel
theorem dL_tipAnew_7 : decode cL_tipAnew 7 = .ok (.i2l, 1) := by decide +kernel
theorem dL_tipAnew_8 : decode cL_tipAnew 8 = .ok (.lastore, 1) := by decide +kernel
theorem dL_tipAnew_9 : decode cL_tipAnew 9 = .ok (.goto 6, 3) := by decide +kernel
theorem dL_tipAnew_12 : decode cL_tipAnew 12 = .ok (.astore_n 3, 1) := by decide +kernel
theorem dL_tipAnew_13 : decode cL_tipAnew 13 = .ok (.iconst 1, 1) := by decide +kernel
theorem dL_tipAnew_14 : decode cL_tipAnew 14 = .ok (.ireturn, 1) := by decide +kernel
theorem dL_tipAnew_15 : decode cL_tipAnew 15 = .ok (.iconst 0, 1) := by decide +kernel
theorem dL_tipAnew_16 : decode cL_tipAnew 16 = .ok (.ireturn, 1) := by decide +kernel
set_option maxRecDepth 20000 in
theorem ggL_moves_X5_moves : GoodIn wsL_moves wsX5_moves := goodIn_ca (goodIn_ca (goodIn_r _ [7, 8, 9, 10, 11, 12, 13, 6, 14, 15, 16, 17, 18, 19, 20, 21, 22, 23, 24, 25, 26, 27, 28, 29, 30, 31, 32, 33, 34, 35, 36, 37, 38, 39, 40, 41, 42, 43, 44, 45, 46, 47, 48, 49, 50, 51, 52, 53, 54, 55, 56, 57, 58, 59, 60, 61, 62, 63, 64, 65, 66, 67, 68, 69, 70, 71, 72, 73, 74] (by decide +kernel) (by decide +kernel)) (goodIn_sub (fun _ h => List.mem_cons_of_mem _ (List.mem_append_left _ (List.mem_append_right _ h))) (by decide +kernel))) (goodIn_sub (fun _ h => List.mem_cons_of_mem _ (List.mem_append_right _ h)) (by decide +kernel))
set_option maxRecDepth 20000 in
theorem gL_moves_X5_moves : GoodIn wsL_moves (wsV RL 33 RX5 yX5_moves wsX5_moves) := goodIn_app (goodIn_of _ (by decide +kernel)) ggL_moves_X5_moves
theorem dL_moves_0 : decode cL_moves 0 = .ok (.aload_n 3, 1) := by decide +kernel
theorem dL_moves_1 : decode cL_moves 1 = .ok (.iconst 0, 1) := by decide +kernel
theorem dL_moves_2 : decode cL_moves 2 = .ok (.aload_n 0, 1) := by decide +kernel
theorem dL_moves_3 : decode cL_moves 3 = .ok (.iload_n 1, 1) := by decide +kernel
theorem dL_moves_4 : decode cL_moves 4 = .ok (.iload_n 2, 1) := by decide +kernel
theorem dL_moves_5 : decode cL_moves 5 = .ok (.invokevirtual 33, 3) := by decide +kernel
theorem dL_moves_8 : decode cL_moves 8 = .ok (.i2l, 1) := by decide +kernel
theorem dL_moves_9 : decode cL_moves 9 = .ok (.lastore, 1) := by decide +kernel
theorem dL_moves_10 : decode cL_moves 10 = .ok (.goto 11, 3) := by decide +kernel
theorem dL_moves_13 : decode cL_moves 13 = .ok (.astore 4, 2) := by decide +kernel
theorem dL_moves_15 : decode cL_moves 15 = .ok (.iconst 1, 1) := by decide +kernel
theorem dL_moves_16 : decode cL_moves 16 = .ok (.ireturn, 1) := by decide +kernel
theorem dL_moves_17 : decode cL_moves 17 = .ok (.astore 4, 2) := by decide +kernel
theorem dL_moves_19 : decode cL_moves 19 = .ok (.iconst 2, 1) := by decide +kernel
theorem dL_moves_20 : decode cL_moves 20 = .ok (.ireturn, 1) := by decide +kernel
theorem dL_moves_21 : decode cL_moves 21 = .ok (.iconst 0, 1) := by decide +kernel
theorem dL_moves_22 : decode cL_moves 22 = .ok (.ireturn, 1) := by decide +kernel
set_option maxRecDepth 20000 in
theorem ggL_goal_X5_goal : GoodIn wsL_goal wsX5_goal := goodIn_ca (goodIn_r _ [6, 7, 8, 9, 10, 11, 12, 13, 14, 5, 15, 16, 17, 18, 19, 20, 21, 22, 23, 24, 25, 26, 27, 28, 29, 30, 31, 32, 33, 34, 35, 36, 37, 38, 39, 40, 41, 42, 43, 44, 45, 46, 47, 48, 49, 50, 51, 52, 53, 54, 55, 56, 57, 58, 59, 60, 61, 62, 63, 64, 65, 66, 67, 68, 69, 70, 71, 72, 73, 74, 75, 76] (by decide +kernel) (by decide +kernel)) (goodIn_sub (fun _ h => List.mem_cons_of_mem _ (List.mem_append_right _ h)) (by decide +kernel))
set_option maxRecDepth 20000 in
theorem gL_goal_X5_goal : GoodIn wsL_goal (wsV RL 36 RX5 yX5_goal wsX5_goal) := goodIn_app (goodIn_of _ (by decide +kernel)) ggL_goal_X5_goal
theorem dL_goal_0 : decode cL_goal 0 = .ok (.aload_n 3, 1) := by decide +kernel
theorem dL_goal_1 : decode cL_goal 1 = .ok (.iconst 0, 1) := by decide +kernel
theorem dL_goal_2 : decode cL_goal 2 = .ok (.aload_n 0, 1) := by decide +kernel
theorem dL_goal_3 : decode cL_goal 3 = .ok (.iload_n 1, 1) := by decide +kernel
theorem dL_goal_4 : decode cL_goal 4 = .ok (.iload_n 2, 1) := by decide +kernel
theorem dL_goal_5 : decode cL_goal 5 = .ok (.invokevirtual 36, 3) := by decide +kernel
theorem dL_goal_8 : decode cL_goal 8 = .ok (.lastore, 1) := by decide +kernel
theorem dL_goal_9 : decode cL_goal 9 = .ok (.goto 7, 3) := by decide +kernel
theorem dL_goal_12 : decode cL_goal 12 = .ok (.astore 4, 2) := by decide +kernel
theorem dL_goal_14 : decode cL_goal 14 = .ok (.iconst 1, 1) := by decide +kernel
theorem dL_goal_15 : decode cL_goal 15 = .ok (.ireturn, 1) := by decide +kernel
theorem dL_goal_16 : decode cL_goal 16 = .ok (.iconst 0, 1) := by decide +kernel
theorem dL_goal_17 : decode cL_goal 17 = .ok (.ireturn, 1) := by decide +kernel
set_option maxRecDepth 20000 in
theorem ggL_steps_X5_steps : GoodIn wsL_steps wsX5_steps := goodIn_ca (goodIn_r _ [6, 7, 8, 9, 10, 11, 5, 12, 13, 14, 15, 16, 17, 18, 19, 20, 21, 22, 23, 24, 25, 26, 27, 28, 29, 30, 31, 32, 33, 34, 35, 36, 37, 38, 39, 40, 41, 42, 43, 44, 45, 46, 47, 48, 49, 50, 51, 52, 53, 54, 55, 56, 57, 58, 59, 60, 61, 62, 63, 64, 65, 66, 67, 68, 69, 70, 71, 72, 73, 74, 75, 76, 77, 78, 79, 80, 81, 82, 83, 84, 85, 86, 87, 88, 89, 90, 91, 92, 93, 94, 95] (by decide +kernel) (by decide +kernel)) (goodIn_sub (fun _ h => List.mem_cons_of_mem _ (List.mem_append_right _ h)) (by decide +kernel))
set_option maxRecDepth 20000 in
theorem gL_steps_X5_steps : GoodIn wsL_steps (wsV RL 40 RX5 yX5_steps wsX5_steps) := goodIn_app (goodIn_of _ (by decide +kernel)) ggL_steps_X5_steps
theorem dL_steps_0 : decode cL_steps 0 = .ok (.aload_n 2, 1) := by decide +kernel
theorem dL_steps_1 : decode cL_steps 1 = .ok (.iconst 0, 1) := by decide +kernel
theorem dL_steps_2 : decode cL_steps 2 = .ok (.aload_n 0, 1) := by decide +kernel
theorem dL_steps_3 : decode cL_steps 3 = .ok (.iload_n 1, 1) := by decide +kernel
theorem dL_steps_4 : decode cL_steps 4 = .ok (.invokevirtual 40, 3) := by decide +kernel
theorem dL_steps_7 : decode cL_steps 7 = .ok (.i2l, 1) := by decide +kernel
theorem dL_steps_8 : decode cL_steps 8 = .ok (.lastore, 1) := by decide +kernel
theorem dL_steps_9 : decode cL_steps 9 = .ok (.goto 6, 3) := by decide +kernel
theorem dL_steps_12 : decode cL_steps 12 = .ok (.astore_n 3, 1) := by decide +kernel
theorem dL_steps_13 : decode cL_steps 13 = .ok (.iconst 1, 1) := by decide +kernel
theorem dL_steps_14 : decode cL_steps 14 = .ok (.ireturn, 1) := by decide +kernel
theorem dL_steps_15 : decode cL_steps 15 = .ok (.iconst 0, 1) := by decide +kernel
theorem dL_steps_16 : decode cL_steps 16 = .ok (.ireturn, 1) := by decide +kernel
set_option maxRecDepth 20000 in
theorem ggL_slack_X5_slack : GoodIn wsL_slack wsX5_slack := goodIn_ca (goodIn_r _ [6, 7, 8, 9, 10, 11, 12, 13, 14, 15, 16, 17, 18, 19, 20] (by decide +kernel) (by decide +kernel)) (goodIn_sub (fun _ h => List.mem_cons_of_mem _ (List.mem_append_right _ h)) (by decide +kernel))
set_option maxRecDepth 20000 in
theorem gL_slack_X5_slack : GoodIn wsL_slack (wsV RL 43 RX5 yX5_slack wsX5_slack) := goodIn_app (goodIn_of _ (by decide +kernel)) ggL_slack_X5_slack
theorem dL_slack_0 : decode cL_slack 0 = .ok (.aload_n 2, 1) := by decide +kernel
theorem dL_slack_1 : decode cL_slack 1 = .ok (.iconst 0, 1) := by decide +kernel
theorem dL_slack_2 : decode cL_slack 2 = .ok (.aload_n 0, 1) := by decide +kernel
theorem dL_slack_3 : decode cL_slack 3 = .ok (.iload_n 1, 1) := by decide +kernel
theorem dL_slack_4 : decode cL_slack 4 = .ok (.invokevirtual 43, 3) := by decide +kernel
theorem dL_slack_7 : decode cL_slack 7 = .ok (.i2l, 1) := by decide +kernel
theorem dL_slack_8 : decode cL_slack 8 = .ok (.lastore, 1) := by decide +kernel
theorem dL_slack_9 : decode cL_slack 9 = .ok (.goto 6, 3) := by decide +kernel
theorem dL_slack_12 : decode cL_slack 12 = .ok (.astore_n 3, 1) := by decide +kernel
theorem dL_slack_13 : decode cL_slack 13 = .ok (.iconst 1, 1) := by decide +kernel
theorem dL_slack_14 : decode cL_slack 14 = .ok (.ireturn, 1) := by decide +kernel
theorem dL_slack_15 : decode cL_slack 15 = .ok (.iconst 0, 1) := by decide +kernel
theorem dL_slack_16 : decode cL_slack 16 = .ok (.ireturn, 1) := by decide +kernel
set_option maxRecDepth 20000 in
theorem ggL_branches_X5_branches : GoodIn wsL_branches wsX5_branches := goodIn_ca (goodIn_r _ [6, 7, 8, 9, 10, 11, 12, 13, 14, 15, 16, 17, 18, 19, 20, 21, 22, 23, 24, 25, 26, 27, 28, 29, 30, 31, 32, 33, 34, 35, 36, 37, 38, 39, 40, 41, 42, 43, 44, 45, 46, 47, 48, 49, 50, 51, 52, 53, 54, 55, 56, 57, 58, 59, 60, 61, 62, 63, 64, 65, 66, 67, 68, 69, 70, 71, 72, 73, 74, 75, 76, 77, 78, 79, 80, 81, 82, 83, 84, 85, 86, 87, 88, 89, 90, 91, 92, 93, 94, 95, 5, 96, 97, 98, 99, 100, 101, 102, 103, 104, 105, 106, 107, 108, 109, 110, 111, 112, 113, 114, 115, 116, 117, 118, 119, 120, 121, 122, 123, 124, 125, 126] (by decide +kernel) (by decide +kernel)) (goodIn_sub (fun _ h => List.mem_cons_of_mem _ (List.mem_append_right _ h)) (by decide +kernel))
set_option maxRecDepth 20000 in
theorem gL_branches_X5_branches : GoodIn wsL_branches (wsV RL 46 RX5 yX5_branches wsX5_branches) := goodIn_app (goodIn_of _ (by decide +kernel)) ggL_branches_X5_branches
theorem dL_branches_0 : decode cL_branches 0 = .ok (.aload_n 1, 1) := by decide +kernel
theorem dL_branches_1 : decode cL_branches 1 = .ok (.iconst 0, 1) := by decide +kernel
theorem dL_branches_2 : decode cL_branches 2 = .ok (.aload_n 0, 1) := by decide +kernel
theorem dL_branches_3 : decode cL_branches 3 = .ok (.invokevirtual 46, 3) := by decide +kernel
theorem dL_branches_6 : decode cL_branches 6 = .ok (.i2l, 1) := by decide +kernel
theorem dL_branches_7 : decode cL_branches 7 = .ok (.lastore, 1) := by decide +kernel
theorem dL_branches_8 : decode cL_branches 8 = .ok (.goto 6, 3) := by decide +kernel
theorem dL_branches_11 : decode cL_branches 11 = .ok (.astore_n 2, 1) := by decide +kernel
theorem dL_branches_12 : decode cL_branches 12 = .ok (.iconst 1, 1) := by decide +kernel
theorem dL_branches_13 : decode cL_branches 13 = .ok (.ireturn, 1) := by decide +kernel
theorem dL_branches_14 : decode cL_branches 14 = .ok (.iconst 0, 1) := by decide +kernel
theorem dL_branches_15 : decode cL_branches 15 = .ok (.ireturn, 1) := by decide +kernel
set_option maxRecDepth 20000 in
theorem ggL_branch_X5_branch : GoodIn wsL_branch wsX5_branch := goodIn_ca (goodIn_ca (goodIn_ca (goodIn_r _ [8, 9, 10, 11, 12, 7, 13, 14, 15, 16, 17, 18, 19, 20, 21, 22, 23, 24, 25, 26, 27, 28, 29, 30, 31, 32, 33, 34, 35, 36, 37, 38, 39, 40, 41, 42, 43, 44, 45, 46, 47, 48, 49, 50, 51, 52, 53, 54, 55, 56, 57, 58, 59, 60, 61, 62, 63, 64, 65, 66, 67, 68, 69, 70, 71, 72, 73, 74, 75, 76, 77, 78, 79, 80, 81, 82, 83, 84, 85, 86, 87, 88, 89, 90, 91, 92, 93, 94, 95, 96, 97, 98, 99, 100, 101, 102, 103, 104, 105, 106, 107, 108, 109, 110, 111, 112, 113, 114, 115, 116, 117, 118, 119, 120, 121, 122, 123, 124, 125, 126, 127, 128, 129, 130, 131, 132, 133, 134, 135, 136, 137, 138, 139, 140, 141, 142, 143] (by decide +kernel) (by decide +kernel)) (goodIn_sub (fun _ h => List.mem_cons_of_mem _ (List.mem_append_left _ (List.mem_append_left _ (List.mem_append_right _ h)))) (by decide +kernel))) (goodIn_sub (fun _ h => List.mem_cons_of_mem _ (List.mem_append_left _ (List.mem_append_right _ h))) (by decide +kernel))) (goodIn_sub (fun _ h => List.mem_cons_of_mem _ (List.mem_append_right _ h)) (by decide +kernel))
set_option maxRecDepth 20000 in
theorem gL_branch_X5_branch : GoodIn wsL_branch (wsV RL 50 RX5 yX5_branch wsX5_branch) := goodIn_app (goodIn_of _ (by decide +kernel)) ggL_branch_X5_branch
theorem dL_branch_0 : decode cL_branch 0 = .ok (.aload 4, 2) := by decide +kernel
theorem dL_branch_2 : decode cL_branch 2 = .ok (.iconst 0, 1) := by decide +kernel
theorem dL_branch_3 : decode cL_branch 3 = .ok (.aload_n 0, 1) := by decide +kernel
theorem dL_branch_4 : decode cL_branch 4 = .ok (.iload_n 1, 1) := by decide +kernel
theorem dL_branch_5 : decode cL_branch 5 = .ok (.iload_n 2, 1) := by decide +kernel
theorem dL_branch_6 : decode cL_branch 6 = .ok (.iload_n 3, 1) := by decide +kernel
theorem dL_branch_7 : decode cL_branch 7 = .ok (.invokevirtual 50, 3) := by decide +kernel
theorem dL_branch_10 : decode cL_branch 10 = .ok (.i2l, 1) := by decide +kernel
theorem dL_branch_11 : decode cL_branch 11 = .ok (.lastore, 1) := by decide +kernel
theorem dL_branch_12 : decode cL_branch 12 = .ok (.goto 15, 3) := by decide +kernel
theorem dL_branch_15 : decode cL_branch 15 = .ok (.astore 5, 2) := by decide +kernel
theorem dL_branch_17 : decode cL_branch 17 = .ok (.iconst 1, 1) := by decide +kernel
theorem dL_branch_18 : decode cL_branch 18 = .ok (.ireturn, 1) := by decide +kernel
theorem dL_branch_19 : decode cL_branch 19 = .ok (.astore 5, 2) := by decide +kernel
theorem dL_branch_21 : decode cL_branch 21 = .ok (.iconst 2, 1) := by decide +kernel
theorem dL_branch_22 : decode cL_branch 22 = .ok (.ireturn, 1) := by decide +kernel
theorem dL_branch_23 : decode cL_branch 23 = .ok (.astore 5, 2) := by decide +kernel
theorem dL_branch_25 : decode cL_branch 25 = .ok (.iconst 3, 1) := by decide +kernel
theorem dL_branch_26 : decode cL_branch 26 = .ok (.ireturn, 1) := by decide +kernel
theorem dL_branch_27 : decode cL_branch 27 = .ok (.iconst 0, 1) := by decide +kernel
theorem dL_branch_28 : decode cL_branch 28 = .ok (.ireturn, 1) := by decide +kernel
set_option maxRecDepth 20000 in
theorem ggL_take_X5_take : GoodIn wsL_take wsX5_take := goodIn_ca (goodIn_ca (goodIn_ca (goodIn_r _ [8, 9, 10, 11, 12, 13, 7, 14, 15, 16, 17, 18, 19, 20, 21, 22, 23, 24, 25, 26, 27, 28, 29, 30, 31, 32, 33, 34, 35, 36, 37, 38, 39, 40, 41, 42, 43, 44, 45, 46, 47, 48, 49, 50, 51, 52, 53, 54, 55, 56, 57, 58, 59, 60, 61, 62, 63, 64, 65, 66, 67, 68, 69, 70, 71, 72, 73, 74, 75, 76, 77, 78, 79, 80, 81, 82, 83, 84, 85, 86, 87, 88, 89, 90, 91, 92, 93, 94, 95, 96, 97, 98, 99, 100, 101, 102, 103, 104, 105, 106, 107, 108, 109, 110, 111, 112, 113, 114, 115, 116, 117, 118, 119, 120, 121, 122, 123, 124, 125, 126, 127, 128, 129, 130, 131, 132, 133, 134, 135, 136, 137, 138, 139, 140, 141, 142, 143, 144, 145, 146, 147, 148, 149, 150, 151, 152, 153, 154, 155, 156, 157, 158, 159, 160, 161, 162, 163, 164, 165, 166] (by decide +kernel) (by decide +kernel)) (goodIn_sub (fun _ h => List.mem_cons_of_mem _ (List.mem_append_left _ (List.mem_append_left _ (List.mem_append_right _ h)))) (by decide +kernel))) (goodIn_sub (fun _ h => List.mem_cons_of_mem _ (List.mem_append_left _ (List.mem_append_right _ h))) (by decide +kernel))) (goodIn_sub (fun _ h => List.mem_cons_of_mem _ (List.mem_append_right _ h)) (by decide +kernel))
set_option maxRecDepth 20000 in
theorem gL_take_X5_take : GoodIn wsL_take (wsV RL 54 RX5 yX5_take wsX5_take) := goodIn_app (goodIn_of _ (by decide +kernel)) ggL_take_X5_take
theorem dL_take_0 : decode cL_take 0 = .ok (.aload_n 3, 1) := by decide +kernel
theorem dL_take_1 : decode cL_take 1 = .ok (.iconst 0, 1) := by decide +kernel
theorem dL_take_2 : decode cL_take 2 = .ok (.aload_n 0, 1) := by decide +kernel
theorem dL_take_3 : decode cL_take 3 = .ok (.iload_n 1, 1) := by decide +kernel
theorem dL_take_4 : decode cL_take 4 = .ok (.iload_n 2, 1) := by decide +kernel
theorem dL_take_5 : decode cL_take 5 = .ok (.invokevirtual 54, 3) := by decide +kernel
theorem dL_take_8 : decode cL_take 8 = .ok (.lastore, 1) := by decide +kernel
theorem dL_take_9 : decode cL_take 9 = .ok (.goto 15, 3) := by decide +kernel
theorem dL_take_12 : decode cL_take 12 = .ok (.astore 4, 2) := by decide +kernel
theorem dL_take_14 : decode cL_take 14 = .ok (.iconst 1, 1) := by decide +kernel
theorem dL_take_15 : decode cL_take 15 = .ok (.ireturn, 1) := by decide +kernel
theorem dL_take_16 : decode cL_take 16 = .ok (.astore 4, 2) := by decide +kernel
theorem dL_take_18 : decode cL_take 18 = .ok (.iconst 2, 1) := by decide +kernel
theorem dL_take_19 : decode cL_take 19 = .ok (.ireturn, 1) := by decide +kernel
theorem dL_take_20 : decode cL_take 20 = .ok (.astore 4, 2) := by decide +kernel
theorem dL_take_22 : decode cL_take 22 = .ok (.iconst 3, 1) := by decide +kernel
theorem dL_take_23 : decode cL_take 23 = .ok (.ireturn, 1) := by decide +kernel
theorem dL_take_24 : decode cL_take 24 = .ok (.iconst 0, 1) := by decide +kernel
theorem dL_take_25 : decode cL_take 25 = .ok (.ireturn, 1) := by decide +kernel
set_option maxRecDepth 20000 in
theorem ggL_law_X5_init : GoodIn wsL_law wsX5_init := goodIn_r _ [9, 10, 11, 12, 13, 14, 15, 16, 17, 18, 19, 20, 21, 22, 23, 24, 25, 26, 27, 28, 29, 30, 31, 32, 33, 34, 35, 36, 37, 38, 39, 40, 41, 42, 43, 44, 45, 46, 47, 48, 49, 50, 51, 52, 53, 54, 55, 56, 57, 58, 59, 60, 61, 62, 63, 6, 64, 65, 519, 520, 521, 522, 523, 524, 493, 494, 495, 496, 497, 498, 499, 525, 526, 527, 528, 529, 530, 531, 532, 533, 534, 535, 536, 537, 538, 539, 540] (by decide +kernel) (by decide +kernel)
set_option maxRecDepth 20000 in
theorem gL_law_X5_init : GoodIn wsL_law (wsX5_init) := ggL_law_X5_init
set_option maxRecDepth 20000 in
theorem ggL_law_X6_init : GoodIn wsL_law wsX6_init := goodIn_r _ [68, 69, 11, 12, 30, 70, 71, 72, 73, 74, 75, 76, 77, 78, 6, 79, 80, 500, 501, 502, 503, 504, 505, 506, 507, 508, 509, 510, 511, 512, 513, 514, 515, 516, 517, 518] (by decide +kernel) (by decide +kernel)
set_option maxRecDepth 20000 in
theorem gL_law_X6_init : GoodIn wsL_law (wsX6_init) := ggL_law_X6_init
set_option maxRecDepth 20000 in
theorem ggL_law_L_joint : GoodIn wsL_law wsL_joint := goodIn_ca (goodIn_ca (goodIn_r _ [84, 85, 86, 87, 88, 89, 2, 90, 91, 92, 93, 94, 16, 95, 15, 96, 97, 98, 99, 100, 101, 36, 37, 38, 39, 40, 102, 103, 104, 105, 106, 107, 108, 109, 110, 111, 112, 493, 494, 495, 496, 497, 498, 499, 519, 520, 521, 522, 523, 524] (by decide +kernel) (by decide +kernel)) (goodIn_sub (fun _ h => List.mem_append_left _ (List.mem_append_left _ (List.mem_append_right _ h))) (by decide +kernel))) (goodIn_sub (fun _ h => List.mem_append_left _ (List.mem_append_right _ h)) (by decide +kernel))
set_option maxRecDepth 20000 in
theorem gL_law_L_joint : GoodIn wsL_law (va_wsS RL 61 yL_joint wsL_joint) := goodIn_app (goodIn_of _ (by decide +kernel)) ggL_law_L_joint
set_option maxRecDepth 20000 in
theorem ggL_law_X6_joint : GoodIn wsL_law wsX6_joint := goodIn_r _ [116, 117, 118, 70, 71, 72, 73, 74, 119, 120, 5, 121, 122, 123, 124, 125, 126, 127, 500, 501, 502, 503, 504, 505, 506, 507, 508, 509, 510, 511, 512, 513, 514, 515, 516, 517, 518] (by decide +kernel) (by decide +kernel)
set_option maxRecDepth 20000 in
theorem gL_law_X6_joint : GoodIn wsL_law (wsV RL 66 RX6 yX6_joint wsX6_joint) := goodIn_app (goodIn_of _ (by decide +kernel)) ggL_law_X6_joint
set_option maxRecDepth 20000 in
theorem ggL_law_X6_thrown : GoodIn wsL_law wsX6_thrown := goodIn_r _ [131, 118, 500, 501, 502, 503, 504, 505, 506, 507, 508, 509, 510, 511, 512, 513, 514, 515, 516, 517, 518] (by decide +kernel) (by decide +kernel)
set_option maxRecDepth 20000 in
theorem gL_law_X6_thrown : GoodIn wsL_law (wsV RL 67 RX6 yX6_thrown wsX6_thrown) := goodIn_app (goodIn_of _ (by decide +kernel)) ggL_law_X6_thrown
set_option maxRecDepth 20000 in
theorem ggL_law_L_set : GoodIn wsL_law wsL_set := goodIn_ca (goodIn_ca (goodIn_r _ [134, 135, 85, 136, 137, 138, 2, 139, 91, 92, 16, 140, 141, 142, 143, 144, 145, 493, 494, 495, 496, 497, 498, 499, 519, 520, 521, 522, 523, 524] (by decide +kernel) (by decide +kernel)) (goodIn_sub (fun _ h => List.mem_append_left _ (List.mem_append_left _ (List.mem_append_right _ h))) (by decide +kernel))) (goodIn_sub (fun _ h => List.mem_append_right _ h) (by decide +kernel))
set_option maxRecDepth 20000 in
theorem gL_law_L_set : GoodIn wsL_law (va_wsS RL 70 yL_set wsL_set) := goodIn_app (goodIn_of _ (by decide +kernel)) ggL_law_L_set
set_option maxRecDepth 20000 in
theorem ggL_law_X6_set : GoodIn wsL_law wsX6_set := goodIn_r _ [149, 72, 73, 118, 74, 150, 151, 152, 5, 153, 117, 119, 120, 121, 500, 501, 502, 503, 504, 505, 506, 507, 508, 509, 510, 511, 512, 513, 514, 515, 516, 517, 518] (by decide +kernel) (by decide +kernel)
set_option maxRecDepth 20000 in
theorem gL_law_X6_set : GoodIn wsL_law (wsV RL 73 RX6 yX6_set wsX6_set) := goodIn_app (goodIn_of _ (by decide +kernel)) ggL_law_X6_set
set_option maxRecDepth 20000 in
theorem ggL_law_L_value : GoodIn wsL_law wsL_value := goodIn_ca (goodIn_r _ [156, 135, 157, 158, 159, 2, 160, 16, 140, 141, 142, 143, 144, 145, 493, 494, 495, 496, 497, 498, 499, 519, 520, 521, 522, 523, 524] (by decide +kernel) (by decide +kernel)) (goodIn_sub (fun _ h => List.mem_append_right _ h) (by decide +kernel))
set_option maxRecDepth 20000 in
theorem gL_law_L_value : GoodIn wsL_law (va_wsS RL 74 yL_value wsL_value) := goodIn_app (goodIn_of _ (by decide +kernel)) ggL_law_L_value
set_option maxRecDepth 20000 in
theorem ggL_law_X6_value : GoodIn wsL_law wsX6_value := goodIn_r _ [164, 118, 74, 150, 151, 152, 5, 153, 117, 119, 120, 121, 500, 501, 502, 503, 504, 505, 506, 507, 508, 509, 510, 511, 512, 513, 514, 515, 516, 517, 518] (by decide +kernel) (by decide +kernel)
end
section
set_option maxRecDepth 20000 in
theorem gL_law_X6_value : GoodIn wsL_law (wsV RL 77 RX6 yX6_value wsX6_value) := goodIn_app (goodIn_of _ (by decide +kernel)) ggL_law_X6_value
set_option maxRecDepth 20000 in
theorem ggL_law_L_tip : GoodIn wsL_law wsL_tip := goodIn_ca (goodIn_r _ [167, 85, 168, 169, 170, 2, 171, 24, 16, 172, 173, 174, 91, 92, 175, 23, 176, 177, 178, 179, 180, 181, 182, 183, 184, 185, 186, 187, 188, 189, 15, 190, 191, 36, 192, 193, 194, 37, 195, 196, 197, 198, 199, 200, 201, 202, 203, 204, 205, 206, 207, 493, 494, 495, 496, 497, 498, 499, 519, 520, 521, 522, 523, 524, 528, 529, 530] (by decide +kernel) (by decide +kernel)) (goodIn_sub (fun _ h => List.mem_append_left _ (List.mem_append_left _ (List.mem_append_right _ h))) (by decide +kernel))
set_option maxRecDepth 20000 in
theorem gL_law_L_tip : GoodIn wsL_law (va_wsS RL 78 yL_tip wsL_tip) := goodIn_app (goodIn_of _ (by decide +kernel)) ggL_law_L_tip
set_option maxRecDepth 20000 in
theorem ggL_law_X6_tip : GoodIn wsL_law wsX6_tip := goodIn_r _ [211, 118, 212, 213, 214, 119, 120, 5, 121, 215, 216, 217, 218, 219, 220, 221, 222, 117, 76, 74, 223, 224, 225, 226, 71, 70, 227, 228, 229, 230, 231, 232, 233, 234, 235, 500, 501, 502, 503, 504, 505, 506, 507, 508, 509, 510, 511, 512, 513, 514, 515, 516, 517, 518] (by decide +kernel) (by decide +kernel)
set_option maxRecDepth 20000 in
theorem gL_law_X6_tip : GoodIn wsL_law (wsV RL 80 RX6 yX6_tip wsX6_tip) := goodIn_app (goodIn_of _ (by decide +kernel)) ggL_law_X6_tip
set_option maxRecDepth 20000 in
theorem ggL_law_L_tipAnew : GoodIn wsL_law wsL_tipAnew := goodIn_ca (goodIn_r _ [238, 85, 239, 240, 241, 2, 242, 25, 16, 172, 173, 174, 91, 92, 243, 23, 244, 245, 182, 183, 184, 185, 186, 187, 188, 192, 15, 193, 194, 36, 37, 246, 247, 248, 40, 249, 189, 190, 191, 195, 196, 197, 198, 199, 200, 201, 202, 203, 204, 205, 206, 207, 493, 494, 495, 496, 497, 498, 499, 519, 520, 521, 522, 523, 524, 528, 529, 530] (by decide +kernel) (by decide +kernel)) (goodIn_sub (fun _ h => List.mem_append_left _ (List.mem_append_left _ (List.mem_append_right _ h))) (by decide +kernel))
set_option maxRecDepth 20000 in
theorem gL_law_L_tipAnew : GoodIn wsL_law (va_wsS RL 81 yL_tipAnew wsL_tipAnew) := goodIn_app (goodIn_of _ (by decide +kernel)) ggL_law_L_tipAnew
set_option maxRecDepth 20000 in
theorem ggL_law_X6_tipAnew : GoodIn wsL_law wsX6_tipAnew := goodIn_r _ [253, 254, 209, 210, 5, 211, 118, 212, 213, 214, 119, 120, 121, 215, 216, 217, 218, 219, 220, 221, 222, 117, 76, 74, 223, 224, 225, 226, 71, 70, 227, 228, 229, 230, 231, 232, 233, 234, 235, 500, 501, 502, 503, 504, 505, 506, 507, 508, 509, 510, 511, 512, 513, 514, 515, 516, 517, 518] (by decide +kernel) (by decide +kernel)
set_option maxRecDepth 20000 in
theorem gL_law_X6_tipAnew : GoodIn wsL_law (wsV RL 83 RX6 yX6_tipAnew wsX6_tipAnew) := goodIn_app (goodIn_of _ (by decide +kernel)) ggL_law_X6_tipAnew
set_option maxRecDepth 20000 in
theorem ggL_law_L_moves : GoodIn wsL_law wsL_moves := goodIn_ca (goodIn_ca (goodIn_r _ [257, 135, 85, 258, 259, 260, 2, 261, 24, 16, 25, 140, 141, 142, 143, 144, 145, 172, 173, 174, 91, 92, 175, 23, 176, 177, 178, 179, 180, 181, 182, 183, 184, 185, 186, 187, 188, 189, 15, 190, 191, 36, 192, 193, 194, 37, 195, 196, 197, 198, 199, 200, 201, 202, 203, 204, 205, 206, 207, 493, 494, 495, 496, 497, 498, 499, 519, 520, 521, 522, 523, 524, 528, 529, 530] (by decide +kernel) (by decide +kernel)) (goodIn_sub (fun _ h => List.mem_append_right _ h) (by decide +kernel))) (goodIn_sub (fun _ h => List.mem_append_left _ (List.mem_append_left _ (List.mem_append_right _ h))) (by decide +kernel))
set_option maxRecDepth 20000 in
theorem gL_law_L_moves : GoodIn wsL_law (va_wsS RL 84 yL_moves wsL_moves) := goodIn_app (goodIn_of _ (by decide +kernel)) ggL_law_L_moves
set_option maxRecDepth 20000 in
theorem ggL_law_X6_moves : GoodIn wsL_law wsX6_moves := goodIn_r _ [265, 118, 77, 78, 150, 151, 152, 5, 153, 117, 119, 120, 121, 266, 267, 268, 269, 212, 213, 76, 215, 216, 217, 218, 219, 220, 221, 222, 74, 223, 224, 225, 226, 214, 71, 70, 227, 228, 229, 230, 231, 232, 233, 234, 235, 500, 501, 502, 503, 504, 505, 506, 507, 508, 509, 510, 511, 512, 513, 514, 515, 516, 517, 518] (by decide +kernel) (by decide +kernel)
set_option maxRecDepth 20000 in
theorem gL_law_X6_moves : GoodIn wsL_law (wsV RL 86 RX6 yX6_moves wsX6_moves) := goodIn_app (goodIn_of _ (by decide +kernel)) ggL_law_X6_moves
set_option maxRecDepth 20000 in
theorem ggL_law_X5_freedom : GoodIn wsL_law wsX5_freedom := goodIn_r _ [273, 16, 31, 32, 274, 275, 108, 276, 277, 278, 279, 280, 281, 282, 2, 283, 24, 25, 175, 23, 176, 177, 178, 179, 180, 181, 182, 183, 184, 185, 186, 187, 188, 189, 15, 190, 191, 36, 192, 193, 194, 37, 195, 196, 197, 198, 199, 200, 201, 202, 203, 204, 493, 494, 495, 496, 497, 498, 499, 519, 520, 521, 522, 523, 524, 528, 529, 530] (by decide +kernel) (by decide +kernel)
set_option maxRecDepth 20000 in
theorem gL_law_X5_freedom : GoodIn wsL_law (wsV RL 87 RX5 yX5_freedom wsX5_freedom) := goodIn_app (goodIn_of _ (by decide +kernel)) ggL_law_X5_freedom
set_option maxRecDepth 20000 in
theorem ggL_law_X6_freedom : GoodIn wsL_law wsX6_freedom := goodIn_r _ [287, 118, 117, 77, 78, 266, 267, 268, 5, 269, 212, 213, 76, 215, 216, 217, 218, 219, 220, 221, 222, 74, 223, 224, 225, 226, 214, 71, 70, 227, 228, 229, 230, 231, 232, 233, 234, 235, 500, 501, 502, 503, 504, 505, 506, 507, 508, 509, 510, 511, 512, 513, 514, 515, 516, 517, 518] (by decide +kernel) (by decide +kernel)
set_option maxRecDepth 20000 in
theorem gL_law_X6_freedom : GoodIn wsL_law (wsV RL 91 RX6 yX6_freedom wsX6_freedom) := goodIn_app (goodIn_of _ (by decide +kernel)) ggL_law_X6_freedom
set_option maxRecDepth 20000 in
theorem ggL_law_L_goal : GoodIn wsL_law wsL_goal := goodIn_ca (goodIn_r _ [290, 85, 291, 292, 293, 2, 294, 91, 92, 295, 296, 20, 297, 298, 299, 300, 24, 16, 175, 23, 176, 177, 178, 179, 180, 181, 182, 183, 184, 185, 186, 187, 188, 189, 15, 190, 191, 36, 192, 193, 194, 37, 195, 196, 197, 198, 199, 200, 201, 202, 203, 204, 301, 19, 302, 303, 304, 305, 493, 494, 495, 496, 497, 498, 499, 525, 526, 527, 528, 529, 530, 519, 520, 521, 522, 523, 524] (by decide +kernel) (by decide +kernel)) (goodIn_sub (fun _ h => List.mem_append_left _ (List.mem_append_left _ (List.mem_append_right _ h))) (by decide +kernel))
set_option maxRecDepth 20000 in
theorem gL_law_L_goal : GoodIn wsL_law (va_wsS RL 92 yL_goal wsL_goal) := goodIn_app (goodIn_of _ (by decide +kernel)) ggL_law_L_goal
set_option maxRecDepth 20000 in
theorem ggL_law_X6_goal : GoodIn wsL_law wsX6_goal := goodIn_r _ [309, 310, 311, 118, 312, 313, 119, 120, 5, 121, 314, 315, 316, 317, 215, 216, 217, 218, 219, 220, 221, 222, 117, 76, 74, 223, 224, 225, 226, 212, 213, 214, 71, 70, 227, 228, 229, 230, 231, 232, 233, 234, 235, 318, 319, 320, 321, 500, 501, 502, 503, 504, 505, 506, 507, 508, 509, 510, 511, 512, 513, 514, 515, 516, 517, 518] (by decide +kernel) (by decide +kernel)
set_option maxRecDepth 20000 in
theorem gL_law_X6_goal : GoodIn wsL_law (wsV RL 94 RX6 yX6_goal wsX6_goal) := goodIn_app (goodIn_of _ (by decide +kernel)) ggL_law_X6_goal
set_option maxRecDepth 20000 in
theorem ggL_law_X5_far : GoodIn wsL_law wsX5_far := goodIn_r _ [325, 297, 298, 299, 2, 300, 24, 16, 20, 175, 23, 176, 177, 178, 179, 180, 181, 182, 183, 184, 185, 186, 187, 188, 189, 15, 190, 191, 36, 192, 193, 194, 37, 195, 196, 197, 198, 199, 200, 201, 202, 203, 204, 301, 19, 302, 303, 304, 305, 493, 494, 495, 496, 497, 498, 499, 528, 529, 530, 519, 520, 521, 522, 523, 524, 525, 526, 527] (by decide +kernel) (by decide +kernel)
set_option maxRecDepth 20000 in
theorem gL_law_X5_far : GoodIn wsL_law (wsV RL 95 RX5 yX5_far wsX5_far) := goodIn_app (goodIn_of _ (by decide +kernel)) ggL_law_X5_far
set_option maxRecDepth 20000 in
theorem ggL_law_X6_far : GoodIn wsL_law wsX6_far := goodIn_r _ [329, 118, 314, 315, 316, 5, 317, 215, 216, 217, 218, 219, 220, 221, 222, 117, 76, 74, 223, 224, 225, 226, 212, 213, 214, 71, 70, 227, 228, 229, 230, 231, 232, 233, 234, 235, 318, 319, 320, 321, 312, 313, 500, 501, 502, 503, 504, 505, 506, 507, 508, 509, 510, 511, 512, 513, 514, 515, 516, 517, 518] (by decide +kernel) (by decide +kernel)
set_option maxRecDepth 20000 in
theorem gL_law_X6_far : GoodIn wsL_law (wsV RL 98 RX6 yX6_far wsX6_far) := goodIn_app (goodIn_of _ (by decide +kernel)) ggL_law_X6_far
set_option maxRecDepth 20000 in
theorem ggL_law_L_steps : GoodIn wsL_law wsL_steps := goodIn_ca (goodIn_r _ [332, 85, 333, 334, 335, 2, 336, 91, 92, 337, 338, 339, 340, 16, 297, 298, 299, 300, 24, 20, 175, 23, 176, 177, 178, 179, 180, 181, 182, 183, 184, 185, 186, 187, 188, 189, 15, 190, 191, 36, 192, 193, 194, 37, 195, 196, 197, 198, 199, 200, 201, 202, 203, 204, 301, 19, 302, 303, 304, 305, 103, 104, 105, 38, 39, 106, 107, 108, 109, 110, 111, 112, 341, 342, 343, 344, 25, 493, 494, 495, 496, 497, 498, 499, 519, 520, 521, 522, 523, 524, 528, 529, 530, 525, 526, 527] (by decide +kernel) (by decide +kernel)) (goodIn_sub (fun _ h => List.mem_append_left _ (List.mem_append_left _ (List.mem_append_right _ h))) (by decide +kernel))
set_option maxRecDepth 20000 in
theorem gL_law_L_steps : GoodIn wsL_law (va_wsS RL 99 yL_steps wsL_steps) := goodIn_app (goodIn_of _ (by decide +kernel)) ggL_law_L_steps
set_option maxRecDepth 20000 in
theorem ggL_law_X6_steps : GoodIn wsL_law wsX6_steps := goodIn_r _ [348, 118, 119, 120, 5, 121, 349, 350, 351, 352, 117, 74, 72, 73, 314, 315, 316, 317, 215, 216, 217, 218, 219, 220, 221, 222, 76, 223, 224, 225, 226, 212, 213, 214, 71, 70, 227, 228, 229, 230, 231, 232, 233, 234, 235, 318, 319, 320, 321, 312, 313, 125, 126, 127, 353, 354, 355, 356, 500, 501, 502, 503, 504, 505, 506, 507, 508, 509, 510, 511, 512, 513, 514, 515, 516, 517, 518] (by decide +kernel) (by decide +kernel)
set_option maxRecDepth 20000 in
theorem gL_law_X6_steps : GoodIn wsL_law (wsV RL 101 RX6 yX6_steps wsX6_steps) := goodIn_app (goodIn_of _ (by decide +kernel)) ggL_law_X6_steps
set_option maxRecDepth 20000 in
theorem ggL_law_X5_hindrance : GoodIn wsL_law wsX5_hindrance := goodIn_r _ [360, 16, 297, 298, 299, 2, 300, 24, 20, 175, 23, 176, 177, 178, 179, 180, 181, 182, 183, 184, 185, 186, 187, 188, 189, 15, 190, 191, 36, 192, 193, 194, 37, 195, 196, 197, 198, 199, 200, 201, 202, 203, 204, 301, 19, 302, 303, 304, 305, 341, 342, 343, 344, 25, 493, 494, 495, 496, 497, 498, 499, 519, 520, 521, 522, 523, 524, 528, 529, 530, 525, 526, 527] (by decide +kernel) (by decide +kernel)
set_option maxRecDepth 20000 in
theorem gL_law_X5_hindrance : GoodIn wsL_law (wsV RL 102 RX5 yX5_hindrance wsX5_hindrance) := goodIn_app (goodIn_of _ (by decide +kernel)) ggL_law_X5_hindrance
set_option maxRecDepth 20000 in
theorem ggL_law_X6_hindrance : GoodIn wsL_law wsX6_hindrance := goodIn_r _ [364, 118, 117, 74, 73, 72, 314, 315, 316, 5, 317, 215, 216, 217, 218, 219, 220, 221, 222, 76, 223, 224, 225, 226, 212, 213, 214, 71, 70, 227, 228, 229, 230, 231, 232, 233, 234, 235, 318, 319, 320, 321, 312, 313, 353, 354, 355, 356, 500, 501, 502, 503, 504, 505, 506, 507, 508, 509, 510, 511, 512, 513, 514, 515, 516, 517, 518] (by decide +kernel) (by decide +kernel)
set_option maxRecDepth 20000 in
theorem gL_law_X6_hindrance : GoodIn wsL_law (wsV RL 105 RX6 yX6_hindrance wsX6_hindrance) := goodIn_app (goodIn_of _ (by decide +kernel)) ggL_law_X6_hindrance
set_option maxRecDepth 20000 in
theorem ggL_law_L_slack : GoodIn wsL_law wsL_slack := goodIn_ca (goodIn_r _ [367, 85, 368, 369, 370, 2, 371, 91, 92, 372, 20, 493, 494, 495, 496, 497, 498, 499, 525, 526, 527] (by decide +kernel) (by decide +kernel)) (goodIn_sub (fun _ h => List.mem_append_left _ (List.mem_append_left _ (List.mem_append_right _ h))) (by decide +kernel))
set_option maxRecDepth 20000 in
theorem gL_law_L_slack : GoodIn wsL_law (va_wsS RL 106 yL_slack wsL_slack) := goodIn_app (goodIn_of _ (by decide +kernel)) ggL_law_L_slack
set_option maxRecDepth 20000 in
theorem ggL_law_X6_slack : GoodIn wsL_law wsX6_slack := goodIn_r _ [376, 377, 118, 75, 119, 120, 5, 121, 500, 501, 502, 503, 504, 505, 506, 507, 508, 509, 510, 511, 512, 513, 514, 515, 516, 517, 518] (by decide +kernel) (by decide +kernel)
set_option maxRecDepth 20000 in
theorem gL_law_X6_slack : GoodIn wsL_law (wsV RL 108 RX6 yX6_slack wsX6_slack) := goodIn_app (goodIn_of _ (by decide +kernel)) ggL_law_X6_slack
set_option maxRecDepth 20000 in
theorem ggL_law_L_branches : GoodIn wsL_law wsL_branches := goodIn_ca (goodIn_r _ [380, 86, 381, 382, 383, 2, 384, 93, 94, 16, 385, 29, 20, 386, 15, 387, 388, 98, 39, 38, 389, 28, 390, 391, 54, 392, 53, 393, 394, 395, 396, 397, 398, 399, 56, 192, 193, 194, 36, 37, 400, 401, 402, 57, 58, 55, 403, 19, 404, 405, 304, 406, 407, 108, 408, 305, 409, 410, 411, 412, 60, 59, 413, 107, 109, 301, 302, 303, 246, 247, 248, 40, 249, 189, 190, 191, 414, 415, 416, 417, 64, 65, 418, 419, 420, 421, 422, 423, 424, 425, 426, 427, 428, 429, 430, 199, 200, 201, 202, 203, 204, 493, 494, 495, 496, 497, 498, 499, 531, 532, 533, 534, 535, 536, 537, 538, 539, 540, 519, 520, 521, 522, 523, 524, 525, 526, 527] (by decide +kernel) (by decide +kernel)) (goodIn_sub (fun _ h => List.mem_append_left _ (List.mem_append_right _ h)) (by decide +kernel))
set_option maxRecDepth 20000 in
theorem gL_law_L_branches : GoodIn wsL_law (va_wsS RL 109 yL_branches wsL_branches) := goodIn_app (goodIn_of _ (by decide +kernel)) ggL_law_L_branches
set_option maxRecDepth 20000 in
theorem ggL_law_X6_branches : GoodIn wsL_law wsX6_branches := goodIn_r _ [434, 435, 118, 436, 437, 438, 439, 5, 440, 117, 73, 72, 441, 442, 443, 444, 214, 212, 312, 75, 213, 313, 215, 216, 217, 218, 219, 220, 221, 222, 76, 74, 223, 224, 225, 226, 71, 70, 227, 228, 229, 230, 231, 232, 233, 234, 235, 445, 446, 447, 448, 449, 450, 451, 452, 453, 454, 455, 318, 319, 320, 321, 456, 457, 458, 459, 79, 80, 500, 501, 502, 503, 504, 505, 506, 507, 508, 509, 510, 511, 512, 513, 514, 515, 516, 517, 518] (by decide +kernel) (by decide +kernel)
set_option maxRecDepth 20000 in
theorem gL_law_X6_branches : GoodIn wsL_law (wsV RL 112 RX6 yX6_branches wsX6_branches) := goodIn_app (goodIn_of _ (by decide +kernel)) ggL_law_X6_branches
set_option maxRecDepth 20000 in
theorem ggL_law_L_branch : GoodIn wsL_law wsL_branch := goodIn_ca (goodIn_ca (goodIn_ca (goodIn_r _ [462, 135, 85, 86, 463, 464, 465, 2, 466, 29, 140, 141, 142, 143, 144, 145, 16, 467, 468, 469, 470, 91, 92, 93, 94, 385, 20, 386, 15, 387, 388, 98, 39, 38, 389, 28, 390, 391, 54, 392, 53, 393, 394, 395, 396, 397, 398, 399, 56, 192, 193, 194, 36, 37, 400, 401, 402, 57, 58, 55, 403, 19, 404, 405, 304, 406, 407, 108, 408, 305, 409, 410, 411, 412, 60, 59, 413, 107, 109, 301, 302, 303, 246, 247, 248, 40, 249, 189, 190, 191, 414, 415, 416, 417, 64, 65, 418, 419, 420, 421, 422, 423, 424, 425, 426, 427, 428, 429, 430, 199, 200, 201, 202, 203, 204, 471, 472, 473, 493, 494, 495, 496, 497, 498, 499, 531, 532, 533, 534, 535, 536, 537, 519, 520, 521, 522, 523, 524, 538, 539, 540, 525, 526, 527] (by decide +kernel) (by decide +kernel)) (goodIn_sub (fun _ h => List.mem_append_right _ h) (by decide +kernel))) (goodIn_sub (fun _ h => List.mem_append_left _ (List.mem_append_left _ (List.mem_append_right _ h))) (by decide +kernel))) (goodIn_sub (fun _ h => List.mem_append_left _ (List.mem_append_right _ h)) (by decide +kernel))
set_option maxRecDepth 20000 in
theorem gL_law_L_branch : GoodIn wsL_law (va_wsS RL 113 yL_branch wsL_branch) := goodIn_app (goodIn_of _ (by decide +kernel)) ggL_law_L_branch
set_option maxRecDepth 20000 in
theorem ggL_law_X6_branch : GoodIn wsL_law wsX6_branch := goodIn_r _ [477, 76, 150, 151, 152, 5, 153, 117, 119, 120, 121, 478, 479, 480, 481, 435, 436, 118, 80, 437, 438, 439, 440, 73, 72, 441, 442, 443, 444, 214, 212, 312, 75, 213, 313, 215, 216, 217, 218, 219, 220, 221, 222, 74, 223, 224, 225, 226, 71, 70, 227, 228, 229, 230, 231, 232, 233, 234, 235, 445, 446, 447, 448, 449, 450, 451, 452, 453, 454, 455, 318, 319, 320, 321, 456, 457, 458, 459, 79, 500, 501, 502, 503, 504, 505, 506, 507, 508, 509, 510, 511, 512, 513, 514, 515, 516, 517, 518] (by decide +kernel) (by decide +kernel)
set_option maxRecDepth 20000 in
theorem gL_law_X6_branch : GoodIn wsL_law (wsV RL 116 RX6 yX6_branch wsX6_branch) := goodIn_app (goodIn_of _ (by decide +kernel)) ggL_law_X6_branch
set_option maxRecDepth 20000 in
theorem ggL_law_L_take : GoodIn wsL_law wsL_take := goodIn_ca (goodIn_ca (goodIn_ca (goodIn_r _ [484, 135, 85, 86, 485, 486, 487, 2, 488, 16, 29, 467, 468, 469, 470, 144, 145, 91, 92, 93, 94, 385, 20, 386, 15, 387, 388, 98, 39, 38, 389, 28, 390, 391, 54, 392, 53, 393, 394, 395, 396, 397, 398, 399, 56, 192, 193, 194, 36, 37, 400, 401, 402, 57, 58, 55, 403, 19, 404, 405, 304, 406, 407, 108, 408, 305, 409, 410, 411, 412, 60, 59, 413, 107, 109, 301, 302, 303, 246, 247, 248, 40, 249, 189, 190, 191, 414, 415, 416, 417, 64, 65, 418, 419, 420, 421, 422, 423, 424, 425, 426, 427, 428, 429, 430, 199, 200, 201, 202, 203, 204, 471, 472, 473, 297, 298, 299, 300, 24, 175, 23, 176, 177, 178, 179, 180, 181, 182, 183, 184, 185, 186, 187, 188, 195, 196, 197, 198, 493, 494, 495, 496, 497, 498, 499, 519, 520, 521, 522, 523, 524, 531, 532, 533, 534, 535, 536, 537, 538, 539, 540, 525, 526, 527, 528, 529, 530] (by decide +kernel) (by decide +kernel)) (goodIn_sub (fun _ h => List.mem_append_right _ h) (by decide +kernel))) (goodIn_sub (fun _ h => List.mem_append_left _ (List.mem_append_left _ (List.mem_append_right _ h))) (by decide +kernel))) (goodIn_sub (fun _ h => List.mem_append_left _ (List.mem_append_right _ h)) (by decide +kernel))
set_option maxRecDepth 20000 in
theorem gL_law_L_take : GoodIn wsL_law (va_wsS RL 117 yL_take wsL_take) := goodIn_app (goodIn_of _ (by decide +kernel)) ggL_law_L_take
set_option maxRecDepth 20000 in
theorem ggL_law_X6_take : GoodIn wsL_law wsX6_take := goodIn_r _ [492, 117, 74, 76, 478, 479, 480, 5, 481, 435, 436, 118, 80, 119, 120, 121, 437, 438, 439, 440, 73, 72, 441, 442, 443, 444, 214, 212, 312, 75, 213, 313, 215, 216, 217, 218, 219, 220, 221, 222, 223, 224, 225, 226, 71, 70, 227, 228, 229, 230, 231, 232, 233, 234, 235, 445, 446, 447, 448, 449, 450, 451, 452, 453, 454, 455, 318, 319, 320, 321, 456, 457, 458, 459, 79, 314, 315, 316, 317, 500, 501, 502, 503, 504, 505, 506, 507, 508, 509, 510, 511, 512, 513, 514, 515, 516, 517, 518] (by decide +kernel) (by decide +kernel)
set_option maxRecDepth 20000 in
theorem gL_law_X6_take : GoodIn wsL_law (wsV RL 119 RX6 yX6_take wsX6_take) := goodIn_app (goodIn_of _ (by decide +kernel)) ggL_law_X6_take
theorem dL_law_0 : decode cL_law 0 = .ok (.new 8, 3) := by decide +kernel
theorem dL_law_3 : decode cL_law 3 = .ok (.dup, 1) := by decide +kernel
theorem dL_law_4 : decode cL_law 4 = .ok (.invokespecial 57, 3) := by decide +kernel
theorem dL_law_7 : decode cL_law 7 = .ok (.astore_n 1, 1) := by decide +kernel
theorem dL_law_8 : decode cL_law 8 = .ok (.new 58, 3) := by decide +kernel
theorem dL_law_11 : decode cL_law 11 = .ok (.dup, 1) := by decide +kernel
theorem dL_law_12 : decode cL_law 12 = .ok (.invokespecial 60, 3) := by decide +kernel
theorem dL_law_15 : decode cL_law 15 = .ok (.astore_n 2, 1) := by decide +kernel
theorem dL_law_16 : decode cL_law 16 = .ok (.iconst 1, 1) := by decide +kernel
theorem dL_law_17 : decode cL_law 17 = .ok (.newarray .long, 2) := by decide +kernel
theorem dL_law_19 : decode cL_law 19 = .ok (.astore_n 3, 1) := by decide +kernel
theorem dL_law_20 : decode cL_law 20 = .ok (.iconst 0, 1) := by decide +kernel
theorem dL_law_21 : decode cL_law 21 = .ok (.istore 4, 2) := by decide +kernel
theorem dL_law_23 : decode cL_law 23 = .ok (.iload 4, 2) := by decide +kernel
theorem dL_law_25 : decode cL_law 25 = .ok (.aload_n 0, 1) := by decide +kernel
theorem dL_law_26 : decode cL_law 26 = .ok (.arraylength, 1) := by decide +kernel
theorem dL_law_27 : decode cL_law 27 = .ok (.iconst 5, 1) := by decide +kernel
theorem dL_law_28 : decode cL_law 28 = .ok (.isub, 1) := by decide +kernel
theorem dL_law_29 : decode cL_law 29 = .ok (.if_icmp .gt 896, 3) := by decide +kernel
theorem dL_law_32 : decode cL_law 32 = .ok (.aload_n 0, 1) := by decide +kernel
theorem dL_law_33 : decode cL_law 33 = .ok (.iload 4, 2) := by decide +kernel
theorem dL_law_35 : decode cL_law 35 = .ok (.iaload, 1) := by decide +kernel
theorem dL_law_36 : decode cL_law 36 = .ok (.bipush 15, 2) := by decide +kernel
theorem dL_law_38 : decode cL_law 38 = .ok (.iand, 1) := by decide +kernel
theorem dL_law_39 : decode cL_law 39 = .ok (.tableswitch 880 0 14 #[73, 165, 233, 289, 345, 401, 469, 483, 550, 564, 620, 633, 689, 733, 813], 73) := by decide +kernel
theorem dL_law_112 : decode cL_law 112 = .ok (.aload_n 1, 1) := by decide +kernel
theorem dL_law_113 : decode cL_law 113 = .ok (.aload_n 0, 1) := by decide +kernel
theorem dL_law_114 : decode cL_law 114 = .ok (.iload 4, 2) := by decide +kernel
theorem dL_law_116 : decode cL_law 116 = .ok (.iconst 1, 1) := by decide +kernel
theorem dL_law_117 : decode cL_law 117 = .ok (.iadd, 1) := by decide +kernel
theorem dL_law_118 : decode cL_law 118 = .ok (.iaload, 1) := by decide +kernel
theorem dL_law_119 : decode cL_law 119 = .ok (.aload_n 0, 1) := by decide +kernel
theorem dL_law_120 : decode cL_law 120 = .ok (.iload 4, 2) := by decide +kernel
theorem dL_law_122 : decode cL_law 122 = .ok (.iconst 2, 1) := by decide +kernel
theorem dL_law_123 : decode cL_law 123 = .ok (.iadd, 1) := by decide +kernel
theorem dL_law_124 : decode cL_law 124 = .ok (.iaload, 1) := by decide +kernel
theorem dL_law_125 : decode cL_law 125 = .ok (.aload_n 0, 1) := by decide +kernel
theorem dL_law_126 : decode cL_law 126 = .ok (.iload 4, 2) := by decide +kernel
theorem dL_law_128 : decode cL_law 128 = .ok (.iconst 3, 1) := by decide +kernel
theorem dL_law_129 : decode cL_law 129 = .ok (.iadd, 1) := by decide +kernel
theorem dL_law_130 : decode cL_law 130 = .ok (.iaload, 1) := by decide +kernel
theorem dL_law_131 : decode cL_law 131 = .ok (.aload_n 0, 1) := by decide +kernel
theorem dL_law_132 : decode cL_law 132 = .ok (.iload 4, 2) := by decide +kernel
theorem dL_law_134 : decode cL_law 134 = .ok (.iconst 4, 1) := by decide +kernel
theorem dL_law_135 : decode cL_law 135 = .ok (.iadd, 1) := by decide +kernel
theorem dL_law_136 : decode cL_law 136 = .ok (.iaload, 1) := by decide +kernel
theorem dL_law_137 : decode cL_law 137 = .ok (.aload_n 3, 1) := by decide +kernel
theorem dL_law_138 : decode cL_law 138 = .ok (.invokestatic 61, 3) := by decide +kernel
theorem dL_law_141 : decode cL_law 141 = .ok (.istore 5, 2) := by decide +kernel
theorem dL_law_143 : decode cL_law 143 = .ok (.aload_n 2, 1) := by decide +kernel
theorem dL_law_144 : decode cL_law 144 = .ok (.aload_n 0, 1) := by decide +kernel
theorem dL_law_145 : decode cL_law 145 = .ok (.iload 4, 2) := by decide +kernel
theorem dL_law_147 : decode cL_law 147 = .ok (.iconst 1, 1) := by decide +kernel
theorem dL_law_148 : decode cL_law 148 = .ok (.iadd, 1) := by decide +kernel
theorem dL_law_149 : decode cL_law 149 = .ok (.iaload, 1) := by decide +kernel
theorem dL_law_150 : decode cL_law 150 = .ok (.aload_n 0, 1) := by decide +kernel
theorem dL_law_151 : decode cL_law 151 = .ok (.iload 4, 2) := by decide +kernel
theorem dL_law_153 : decode cL_law 153 = .ok (.iconst 2, 1) := by decide +kernel
theorem dL_law_154 : decode cL_law 154 = .ok (.iadd, 1) := by decide +kernel
theorem dL_law_155 : decode cL_law 155 = .ok (.iaload, 1) := by decide +kernel
theorem dL_law_156 : decode cL_law 156 = .ok (.aload_n 0, 1) := by decide +kernel
theorem dL_law_157 : decode cL_law 157 = .ok (.iload 4, 2) := by decide +kernel
theorem dL_law_159 : decode cL_law 159 = .ok (.iconst 3, 1) := by decide +kernel
theorem dL_law_160 : decode cL_law 160 = .ok (.iadd, 1) := by decide +kernel
theorem dL_law_161 : decode cL_law 161 = .ok (.iaload, 1) := by decide +kernel
theorem dL_law_162 : decode cL_law 162 = .ok (.aload_n 0, 1) := by decide +kernel
theorem dL_law_163 : decode cL_law 163 = .ok (.iload 4, 2) := by decide +kernel
theorem dL_law_165 : decode cL_law 165 = .ok (.iconst 4, 1) := by decide +kernel
theorem dL_law_166 : decode cL_law 166 = .ok (.iadd, 1) := by decide +kernel
theorem dL_law_167 : decode cL_law 167 = .ok (.iaload, 1) := by decide +kernel
theorem dL_law_168 : decode cL_law 168 = .ok (.invokevirtual 66, 3) := by decide +kernel
theorem dL_law_171 : decode cL_law 171 = .ok (.istore 6, 2) := by decide +kernel
theorem dL_law_173 : decode cL_law 173 = .ok (.aload_n 2, 1) := by decide +kernel
theorem dL_law_174 : decode cL_law 174 = .ok (.invokevirtual 67, 3) := by decide +kernel
theorem dL_law_177 : decode cL_law 177 = .ok (.iload 5, 2) := by decide +kernel
theorem dL_law_179 : decode cL_law 179 = .ok (.if_icmp .eq 5, 3) := by decide +kernel
theorem dL_law_182 : decode cL_law 182 = .ok (.iconst 0, 1) := by decide +kernel
theorem dL_law_183 : decode cL_law 183 = .ok (.ireturn, 1) := by decide +kernel
theorem dL_law_184 : decode cL_law 184 = .ok (.iload 5, 2) := by decide +kernel
theorem dL_law_186 : decode cL_law 186 = .ok (.ifCond .ne 15, 3) := by decide +kernel
theorem dL_law_189 : decode cL_law 189 = .ok (.aload_n 3, 1) := by decide +kernel
theorem dL_law_190 : decode cL_law 190 = .ok (.iconst 0, 1) := by decide +kernel
theorem dL_law_191 : decode cL_law 191 = .ok (.laload, 1) := by decide +kernel
theorem dL_law_192 : decode cL_law 192 = .ok (.iload 6, 2) := by decide +kernel
theorem dL_law_194 : decode cL_law 194 = .ok (.i2l, 1) := by decide +kernel
theorem dL_law_195 : decode cL_law 195 = .ok (.lcmp, 1) := by decide +kernel
theorem dL_law_196 : decode cL_law 196 = .ok (.ifCond .eq 5, 3) := by decide +kernel
theorem dL_law_199 : decode cL_law 199 = .ok (.iconst 0, 1) := by decide +kernel
theorem dL_law_200 : decode cL_law 200 = .ok (.ireturn, 1) := by decide +kernel
theorem dL_law_201 : decode cL_law 201 = .ok (.goto 718, 3) := by decide +kernel
theorem dL_law_204 : decode cL_law 204 = .ok (.aload_n 1, 1) := by decide +kernel
theorem dL_law_205 : decode cL_law 205 = .ok (.aload_n 0, 1) := by decide +kernel
theorem dL_law_206 : decode cL_law 206 = .ok (.iload 4, 2) := by decide +kernel
theorem dL_law_208 : decode cL_law 208 = .ok (.iconst 1, 1) := by decide +kernel
theorem dL_law_209 : decode cL_law 209 = .ok (.iadd, 1) := by decide +kernel
theorem dL_law_210 : decode cL_law 210 = .ok (.iaload, 1) := by decide +kernel
theorem dL_law_211 : decode cL_law 211 = .ok (.aload_n 0, 1) := by decide +kernel
theorem dL_law_212 : decode cL_law 212 = .ok (.iload 4, 2) := by decide +kernel
theorem dL_law_214 : decode cL_law 214 = .ok (.iconst 2, 1) := by decide +kernel
theorem dL_law_215 : decode cL_law 215 = .ok (.iadd, 1) := by decide +kernel
theorem dL_law_216 : decode cL_law 216 = .ok (.iaload, 1) := by decide +kernel
theorem dL_law_217 : decode cL_law 217 = .ok (.aload_n 3, 1) := by decide +kernel
theorem dL_law_218 : decode cL_law 218 = .ok (.invokestatic 70, 3) := by decide +kernel
theorem dL_law_221 : decode cL_law 221 = .ok (.istore 5, 2) := by decide +kernel
theorem dL_law_223 : decode cL_law 223 = .ok (.aload_n 2, 1) := by decide +kernel
theorem dL_law_224 : decode cL_law 224 = .ok (.aload_n 0, 1) := by decide +kernel
theorem dL_law_225 : decode cL_law 225 = .ok (.iload 4, 2) := by decide +kernel
theorem dL_law_227 : decode cL_law 227 = .ok (.iconst 1, 1) := by decide +kernel
theorem dL_law_228 : decode cL_law 228 = .ok (.iadd, 1) := by decide +kernel
theorem dL_law_229 : decode cL_law 229 = .ok (.iaload, 1) := by decide +kernel
theorem dL_law_230 : decode cL_law 230 = .ok (.aload_n 0, 1) := by decide +kernel
theorem dL_law_231 : decode cL_law 231 = .ok (.iload 4, 2) := by decide +kernel
theorem dL_law_233 : decode cL_law 233 = .ok (.iconst 2, 1) := by decide +kernel
theorem dL_law_234 : decode cL_law 234 = .ok (.iadd, 1) := by decide +kernel
theorem dL_law_235 : decode cL_law 235 = .ok (.iaload, 1) := by decide +kernel
theorem dL_law_236 : decode cL_law 236 = .ok (.invokevirtual 73, 3) := by decide +kernel
theorem dL_law_239 : decode cL_law 239 = .ok (.istore 6, 2) := by decide +kernel
theorem dL_law_241 : decode cL_law 241 = .ok (.aload_n 2, 1) := by decide +kernel
theorem dL_law_242 : decode cL_law 242 = .ok (.invokevirtual 67, 3) := by decide +kernel
theorem dL_law_245 : decode cL_law 245 = .ok (.iload 5, 2) := by decide +kernel
theorem dL_law_247 : decode cL_law 247 = .ok (.if_icmp .eq 5, 3) := by decide +kernel
theorem dL_law_250 : decode cL_law 250 = .ok (.iconst 0, 1) := by decide +kernel
theorem dL_law_251 : decode cL_law 251 = .ok (.ireturn, 1) := by decide +kernel
theorem dL_law_252 : decode cL_law 252 = .ok (.iload 5, 2) := by decide +kernel
theorem dL_law_254 : decode cL_law 254 = .ok (.ifCond .ne 15, 3) := by decide +kernel
theorem dL_law_257 : decode cL_law 257 = .ok (.aload_n 3, 1) := by decide +kernel
theorem dL_law_258 : decode cL_law 258 = .ok (.iconst 0, 1) := by decide +kernel
theorem dL_law_259 : decode cL_law 259 = .ok (.laload, 1) := by decide +kernel
theorem dL_law_260 : decode cL_law 260 = .ok (.iload 6, 2) := by decide +kernel
theorem dL_law_262 : decode cL_law 262 = .ok (.i2l, 1) := by decide +kernel
theorem dL_law_263 : decode cL_law 263 = .ok (.lcmp, 1) := by decide +kernel
theorem dL_law_264 : decode cL_law 264 = .ok (.ifCond .eq 5, 3) := by decide +kernel
theorem dL_law_267 : decode cL_law 267 = .ok (.iconst 0, 1) := by decide +kernel
theorem dL_law_268 : decode cL_law 268 = .ok (.ireturn, 1) := by decide +kernel
theorem dL_law_269 : decode cL_law 269 = .ok (.goto 650, 3) := by decide +kernel
theorem dL_law_272 : decode cL_law 272 = .ok (.aload_n 1, 1) := by decide +kernel
theorem dL_law_273 : decode cL_law 273 = .ok (.aload_n 0, 1) := by decide +kernel
theorem dL_law_274 : decode cL_law 274 = .ok (.iload 4, 2) := by decide +kernel
theorem dL_law_276 : decode cL_law 276 = .ok (.iconst 1, 1) := by decide +kernel
theorem dL_law_277 : decode cL_law 277 = .ok (.iadd, 1) := by decide +kernel
theorem dL_law_278 : decode cL_law 278 = .ok (.iaload, 1) := by decide +kernel
theorem dL_law_279 : decode cL_law 279 = .ok (.aload_n 3, 1) := by decide +kernel
theorem dL_law_280 : decode cL_law 280 = .ok (.invokestatic 74, 3) := by decide +kernel
theorem dL_law_283 : decode cL_law 283 = .ok (.istore 5, 2) := by decide +kernel
theorem dL_law_285 : decode cL_law 285 = .ok (.aload_n 2, 1) := by decide +kernel
theorem dL_law_286 : decode cL_law 286 = .ok (.aload_n 0, 1) := by decide +kernel
theorem dL_law_287 : decode cL_law 287 = .ok (.iload 4, 2) := by decide +kernel
theorem dL_law_289 : decode cL_law 289 = .ok (.iconst 1, 1) := by decide +kernel
theorem dL_law_290 : decode cL_law 290 = .ok (.iadd, 1) := by decide +kernel
theorem dL_law_291 : decode cL_law 291 = .ok (.iaload, 1) := by decide +kernel
theorem dL_law_292 : decode cL_law 292 = .ok (.invokevirtual 77, 3) := by decide +kernel
theorem dL_law_295 : decode cL_law 295 = .ok (.istore 6, 2) := by decide +kernel
theorem dL_law_297 : decode cL_law 297 = .ok (.aload_n 2, 1) := by decide +kernel
theorem dL_law_298 : decode cL_law 298 = .ok (.invokevirtual 67, 3) := by decide +kernel
theorem dL_law_301 : decode cL_law 301 = .ok (.iload 5, 2) := by decide +kernel
theorem dL_law_303 : decode cL_law 303 = .ok (.if_icmp .eq 5, 3) := by decide +kernel
theorem dL_law_306 : decode cL_law 306 = .ok (.iconst 0, 1) := by decide +kernel
theorem dL_law_307 : decode cL_law 307 = .ok (.ireturn, 1) := by decide +kernel
theorem dL_law_308 : decode cL_law 308 = .ok (.iload 5, 2) := by decide +kernel
theorem dL_law_310 : decode cL_law 310 = .ok (.ifCond .ne 15, 3) := by decide +kernel
theorem dL_law_313 : decode cL_law 313 = .ok (.aload_n 3, 1) := by decide +kernel
theorem dL_law_314 : decode cL_law 314 = .ok (.iconst 0, 1) := by decide +kernel
theorem dL_law_315 : decode cL_law 315 = .ok (.laload, 1) := by decide +kernel
theorem dL_law_316 : decode cL_law 316 = .ok (.iload 6, 2) := by decide +kernel
theorem dL_law_318 : decode cL_law 318 = .ok (.i2l, 1) := by decide +kernel
theorem dL_law_319 : decode cL_law 319 = .ok (.lcmp, 1) := by decide +kernel
theorem dL_law_320 : decode cL_law 320 = .ok (.ifCond .eq 5, 3) := by decide +kernel
theorem dL_law_323 : decode cL_law 323 = .ok (.iconst 0, 1) := by decide +kernel
theorem dL_law_324 : decode cL_law 324 = .ok (.ireturn, 1) := by decide +kernel
theorem dL_law_325 : decode cL_law 325 = .ok (.goto 594, 3) := by decide +kernel
theorem dL_law_328 : decode cL_law 328 = .ok (.aload_n 1, 1) := by decide +kernel
theorem dL_law_329 : decode cL_law 329 = .ok (.aload_n 0, 1) := by decide +kernel
theorem dL_law_330 : decode cL_law 330 = .ok (.iload 4, 2) := by decide +kernel
theorem dL_law_332 : decode cL_law 332 = .ok (.iconst 1, 1) := by decide +kernel
theorem dL_law_333 : decode cL_law 333 = .ok (.iadd, 1) := by decide +kernel
theorem dL_law_334 : decode cL_law 334 = .ok (.iaload, 1) := by decide +kernel
theorem dL_law_335 : decode cL_law 335 = .ok (.aload_n 3, 1) := by decide +kernel
theorem dL_law_336 : decode cL_law 336 = .ok (.invokestatic 78, 3) := by decide +kernel
theorem dL_law_339 : decode cL_law 339 = .ok (.istore 5, 2) := by decide +kernel
theorem dL_law_341 : decode cL_law 341 = .ok (.aload_n 2, 1) := by decide +kernel
theorem dL_law_342 : decode cL_law 342 = .ok (.aload_n 0, 1) := by decide +kernel
theorem dL_law_343 : decode cL_law 343 = .ok (.iload 4, 2) := by decide +kernel
theorem dL_law_345 : decode cL_law 345 = .ok (.iconst 1, 1) := by decide +kernel
theorem dL_law_346 : decode cL_law 346 = .ok (.iadd, 1) := by decide +kernel
theorem dL_law_347 : decode cL_law 347 = .ok (.iaload, 1) := by decide +kernel
theorem dL_law_348 : decode cL_law 348 = .ok (.invokevirtual 80, 3) := by decide +kernel
theorem dL_law_351 : decode cL_law 351 = .ok (.istore 6, 2) := by decide +kernel
theorem dL_law_353 : decode cL_law 353 = .ok (.aload_n 2, 1) := by decide +kernel
theorem dL_law_354 : decode cL_law 354 = .ok (.invokevirtual 67, 3) := by decide +kernel
theorem dL_law_357 : decode cL_law 357 = .ok (.iload 5, 2) := by decide +kernel
theorem dL_law_359 : decode cL_law 359 = .ok (.if_icmp .eq 5, 3) := by decide +kernel
theorem dL_law_362 : decode cL_law 362 = .ok (.iconst 0, 1) := by decide +kernel
theorem dL_law_363 : decode cL_law 363 = .ok (.ireturn, 1) := by decide +kernel
theorem dL_law_364 : decode cL_law 364 = .ok (.iload 5, 2) := by decide +kernel
theorem dL_law_366 : decode cL_law 366 = .ok (.ifCond .ne 15, 3) := by decide +kernel
theorem dL_law_369 : decode cL_law 369 = .ok (.aload_n 3, 1) := by decide +kernel
theorem dL_law_370 : decode cL_law 370 = .ok (.iconst 0, 1) := by decide +kernel
theorem dL_law_371 : decode cL_law 371 = .ok (.laload, 1) := by decide +kernel
theorem dL_law_372 : decode cL_law 372 = .ok (.iload 6, 2) := by decide +kernel
theorem dL_law_374 : decode cL_law 374 = .ok (.i2l, 1) := by decide +kernel
theorem dL_law_375 : decode cL_law 375 = .ok (.lcmp, 1) := by decide +kernel
theorem dL_law_376 : decode cL_law 376 = .ok (.ifCond .eq 5, 3) := by decide +kernel
theorem dL_law_379 : decode cL_law 379 = .ok (.iconst 0, 1) := by decide +kernel
theorem dL_law_380 : decode cL_law 380 = .ok (.ireturn, 1) := by decide +kernel
theorem dL_law_381 : decode cL_law 381 = .ok (.goto 538, 3) := by decide +kernel
theorem dL_law_384 : decode cL_law 384 = .ok (.aload_n 1, 1) := by decide +kernel
theorem dL_law_385 : decode cL_law 385 = .ok (.aload_n 0, 1) := by decide +kernel
theorem dL_law_386 : decode cL_law 386 = .ok (.iload 4, 2) := by decide +kernel
theorem dL_law_388 : decode cL_law 388 = .ok (.iconst 1, 1) := by decide +kernel
theorem dL_law_389 : decode cL_law 389 = .ok (.iadd, 1) := by decide +kernel
theorem dL_law_390 : decode cL_law 390 = .ok (.iaload, 1) := by decide +kernel
theorem dL_law_391 : decode cL_law 391 = .ok (.aload_n 3, 1) := by decide +kernel
theorem dL_law_392 : decode cL_law 392 = .ok (.invokestatic 81, 3) := by decide +kernel
theorem dL_law_395 : decode cL_law 395 = .ok (.istore 5, 2) := by decide +kernel
theorem dL_law_397 : decode cL_law 397 = .ok (.aload_n 2, 1) := by decide +kernel
theorem dL_law_398 : decode cL_law 398 = .ok (.aload_n 0, 1) := by decide +kernel
theorem dL_law_399 : decode cL_law 399 = .ok (.iload 4, 2) := by decide +kernel
theorem dL_law_401 : decode cL_law 401 = .ok (.iconst 1, 1) := by decide +kernel
theorem dL_law_402 : decode cL_law 402 = .ok (.iadd, 1) := by decide +kernel
theorem dL_law_403 : decode cL_law 403 = .ok (.iaload, 1) := by decide +kernel
theorem dL_law_404 : decode cL_law 404 = .ok (.invokevirtual 83, 3) := by decide +kernel
theorem dL_law_407 : decode cL_law 407 = .ok (.istore 6, 2) := by decide +kernel
theorem dL_law_409 : decode cL_law 409 = .ok (.aload_n 2, 1) := by decide +kernel
theorem dL_law_410 : decode cL_law 410 = .ok (.invokevirtual 67, 3) := by decide +kernel
theorem dL_law_413 : decode cL_law 413 = .ok (.iload 5, 2) := by decide +kernel
theorem dL_law_415 : decode cL_law 415 = .ok (.if_icmp .eq 5, 3) := by decide +kernel
theorem dL_law_418 : decode cL_law 418 = .ok (.iconst 0, 1) := by decide +kernel
theorem dL_law_419 : decode cL_law 419 = .ok (.ireturn, 1) := by decide +kernel
theorem dL_law_420 : decode cL_law 420 = .ok (.iload 5, 2) := by decide +kernel
theorem dL_law_422 : decode cL_law 422 = .ok (.ifCond .ne 15, 3) := by decide +kernel
theorem dL_law_425 : decode cL_law 425 = .ok (.aload_n 3, 1) := by decide +kernel
theorem dL_law_426 : decode cL_law 426 = .ok (.iconst 0, 1) := by decide +kernel
theorem dL_law_427 : decode cL_law 427 = .ok (.laload, 1) := by decide +kernel
theorem dL_law_428 : decode cL_law 428 = .ok (.iload 6, 2) := by decide +kernel
theorem dL_law_430 : decode cL_law 430 = .ok (.i2l, 1) := by decide +kernel
theorem dL_law_431 : decode cL_law 431 = .ok (.lcmp, 1) := by decide +kernel
theorem dL_law_432 : decode cL_law 432 = .ok (.ifCond .eq 5, 3) := by decide +kernel
theorem dL_law_435 : decode cL_law 435 = .ok (.iconst 0, 1) := by decide +kernel
theorem dL_law_436 : decode cL_law 436 = .ok (.ireturn, 1) := by decide +kernel
theorem dL_law_437 : decode cL_law 437 = .ok (.goto 482, 3) := by decide +kernel
theorem dL_law_440 : decode cL_law 440 = .ok (.aload_n 1, 1) := by decide +kernel
theorem dL_law_441 : decode cL_law 441 = .ok (.aload_n 0, 1) := by decide +kernel
theorem dL_law_442 : decode cL_law 442 = .ok (.iload 4, 2) := by decide +kernel
theorem dL_law_444 : decode cL_law 444 = .ok (.iconst 1, 1) := by decide +kernel
theorem dL_law_445 : decode cL_law 445 = .ok (.iadd, 1) := by decide +kernel
theorem dL_law_446 : decode cL_law 446 = .ok (.iaload, 1) := by decide +kernel
theorem dL_law_447 : decode cL_law 447 = .ok (.aload_n 0, 1) := by decide +kernel
theorem dL_law_448 : decode cL_law 448 = .ok (.iload 4, 2) := by decide +kernel
theorem dL_law_450 : decode cL_law 450 = .ok (.iconst 2, 1) := by decide +kernel
theorem dL_law_451 : decode cL_law 451 = .ok (.iadd, 1) := by decide +kernel
theorem dL_law_452 : decode cL_law 452 = .ok (.iaload, 1) := by decide +kernel
theorem dL_law_453 : decode cL_law 453 = .ok (.aload_n 3, 1) := by decide +kernel
theorem dL_law_454 : decode cL_law 454 = .ok (.invokestatic 84, 3) := by decide +kernel
theorem dL_law_457 : decode cL_law 457 = .ok (.istore 5, 2) := by decide +kernel
theorem dL_law_459 : decode cL_law 459 = .ok (.aload_n 2, 1) := by decide +kernel
theorem dL_law_460 : decode cL_law 460 = .ok (.aload_n 0, 1) := by decide +kernel
theorem dL_law_461 : decode cL_law 461 = .ok (.iload 4, 2) := by decide +kernel
theorem dL_law_463 : decode cL_law 463 = .ok (.iconst 1, 1) := by decide +kernel
theorem dL_law_464 : decode cL_law 464 = .ok (.iadd, 1) := by decide +kernel
theorem dL_law_465 : decode cL_law 465 = .ok (.iaload, 1) := by decide +kernel
theorem dL_law_466 : decode cL_law 466 = .ok (.aload_n 0, 1) := by decide +kernel
theorem dL_law_467 : decode cL_law 467 = .ok (.iload 4, 2) := by decide +kernel
theorem dL_law_469 : decode cL_law 469 = .ok (.iconst 2, 1) := by decide +kernel
theorem dL_law_470 : decode cL_law 470 = .ok (.iadd, 1) := by decide +kernel
theorem dL_law_471 : decode cL_law 471 = .ok (.iaload, 1) := by decide +kernel
theorem dL_law_472 : decode cL_law 472 = .ok (.invokevirtual 86, 3) := by decide +kernel
theorem dL_law_475 : decode cL_law 475 = .ok (.istore 6, 2) := by decide +kernel
theorem dL_law_477 : decode cL_law 477 = .ok (.aload_n 2, 1) := by decide +kernel
theorem dL_law_478 : decode cL_law 478 = .ok (.invokevirtual 67, 3) := by decide +kernel
theorem dL_law_481 : decode cL_law 481 = .ok (.iload 5, 2) := by decide +kernel
theorem dL_law_483 : decode cL_law 483 = .ok (.if_icmp .eq 5, 3) := by decide +kernel
theorem dL_law_486 : decode cL_law 486 = .ok (.iconst 0, 1) := by decide +kernel
theorem dL_law_487 : decode cL_law 487 = .ok (.ireturn, 1) := by decide +kernel
theorem dL_law_488 : decode cL_law 488 = .ok (.iload 5, 2) := by decide +kernel
theorem dL_law_490 : decode cL_law 490 = .ok (.ifCond .ne 15, 3) := by decide +kernel
theorem dL_law_493 : decode cL_law 493 = .ok (.aload_n 3, 1) := by decide +kernel
theorem dL_law_494 : decode cL_law 494 = .ok (.iconst 0, 1) := by decide +kernel
theorem dL_law_495 : decode cL_law 495 = .ok (.laload, 1) := by decide +kernel
theorem dL_law_496 : decode cL_law 496 = .ok (.iload 6, 2) := by decide +kernel
theorem dL_law_498 : decode cL_law 498 = .ok (.i2l, 1) := by decide +kernel
theorem dL_law_499 : decode cL_law 499 = .ok (.lcmp, 1) := by decide +kernel
theorem dL_law_500 : decode cL_law 500 = .ok (.ifCond .eq 5, 3) := by decide +kernel
theorem dL_law_503 : decode cL_law 503 = .ok (.iconst 0, 1) := by decide +kernel
theorem dL_law_504 : decode cL_law 504 = .ok (.ireturn, 1) := by decide +kernel
theorem dL_law_505 : decode cL_law 505 = .ok (.goto 414, 3) := by decide +kernel
theorem dL_law_508 : decode cL_law 508 = .ok (.aload_n 1, 1) := by decide +kernel
theorem dL_law_509 : decode cL_law 509 = .ok (.invokevirtual 87, 3) := by decide +kernel
theorem dL_law_512 : decode cL_law 512 = .ok (.aload_n 2, 1) := by decide +kernel
theorem dL_law_513 : decode cL_law 513 = .ok (.invokevirtual 91, 3) := by decide +kernel
theorem dL_law_516 : decode cL_law 516 = .ok (.lcmp, 1) := by decide +kernel
theorem dL_law_517 : decode cL_law 517 = .ok (.ifCond .eq 402, 3) := by decide +kernel
theorem dL_law_520 : decode cL_law 520 = .ok (.iconst 0, 1) := by decide +kernel
theorem dL_law_521 : decode cL_law 521 = .ok (.ireturn, 1) := by decide +kernel
theorem dL_law_522 : decode cL_law 522 = .ok (.aload_n 1, 1) := by decide +kernel
theorem dL_law_523 : decode cL_law 523 = .ok (.aload_n 0, 1) := by decide +kernel
theorem dL_law_524 : decode cL_law 524 = .ok (.iload 4, 2) := by decide +kernel
theorem dL_law_526 : decode cL_law 526 = .ok (.iconst 1, 1) := by decide +kernel
theorem dL_law_527 : decode cL_law 527 = .ok (.iadd, 1) := by decide +kernel
theorem dL_law_528 : decode cL_law 528 = .ok (.iaload, 1) := by decide +kernel
theorem dL_law_529 : decode cL_law 529 = .ok (.aload_n 0, 1) := by decide +kernel
theorem dL_law_530 : decode cL_law 530 = .ok (.iload 4, 2) := by decide +kernel
theorem dL_law_532 : decode cL_law 532 = .ok (.iconst 2, 1) := by decide +kernel
theorem dL_law_533 : decode cL_law 533 = .ok (.iadd, 1) := by decide +kernel
theorem dL_law_534 : decode cL_law 534 = .ok (.iaload, 1) := by decide +kernel
theorem dL_law_535 : decode cL_law 535 = .ok (.aload_n 3, 1) := by decide +kernel
theorem dL_law_536 : decode cL_law 536 = .ok (.invokestatic 92, 3) := by decide +kernel
theorem dL_law_539 : decode cL_law 539 = .ok (.istore 5, 2) := by decide +kernel
theorem dL_law_541 : decode cL_law 541 = .ok (.aload_n 2, 1) := by decide +kernel
theorem dL_law_542 : decode cL_law 542 = .ok (.aload_n 0, 1) := by decide +kernel
theorem dL_law_543 : decode cL_law 543 = .ok (.iload 4, 2) := by decide +kernel
theorem dL_law_545 : decode cL_law 545 = .ok (.iconst 1, 1) := by decide +kernel
theorem dL_law_546 : decode cL_law 546 = .ok (.iadd, 1) := by decide +kernel
theorem dL_law_547 : decode cL_law 547 = .ok (.iaload, 1) := by decide +kernel
theorem dL_law_548 : decode cL_law 548 = .ok (.aload_n 0, 1) := by decide +kernel
theorem dL_law_549 : decode cL_law 549 = .ok (.iload 4, 2) := by decide +kernel
theorem dL_law_551 : decode cL_law 551 = .ok (.iconst 2, 1) := by decide +kernel
theorem dL_law_552 : decode cL_law 552 = .ok (.iadd, 1) := by decide +kernel
theorem dL_law_553 : decode cL_law 553 = .ok (.iaload, 1) := by decide +kernel
theorem dL_law_554 : decode cL_law 554 = .ok (.invokevirtual 94, 3) := by decide +kernel
theorem dL_law_557 : decode cL_law 557 = .ok (.lstore 6, 2) := by decide +kernel
theorem dL_law_559 : decode cL_law 559 = .ok (.aload_n 2, 1) := by decide +kernel
theorem dL_law_560 : decode cL_law 560 = .ok (.invokevirtual 67, 3) := by decide +kernel
theorem dL_law_563 : decode cL_law 563 = .ok (.iload 5, 2) := by decide +kernel
theorem dL_law_565 : decode cL_law 565 = .ok (.if_icmp .eq 5, 3) := by decide +kernel
theorem dL_law_568 : decode cL_law 568 = .ok (.iconst 0, 1) := by decide +kernel
theorem dL_law_569 : decode cL_law 569 = .ok (.ireturn, 1) := by decide +kernel
theorem dL_law_570 : decode cL_law 570 = .ok (.iload 5, 2) := by decide +kernel
theorem dL_law_572 : decode cL_law 572 = .ok (.ifCond .ne 14, 3) := by decide +kernel
theorem dL_law_575 : decode cL_law 575 = .ok (.aload_n 3, 1) := by decide +kernel
theorem dL_law_576 : decode cL_law 576 = .ok (.iconst 0, 1) := by decide +kernel
theorem dL_law_577 : decode cL_law 577 = .ok (.laload, 1) := by decide +kernel
theorem dL_law_578 : decode cL_law 578 = .ok (.lload 6, 2) := by decide +kernel
theorem dL_law_580 : decode cL_law 580 = .ok (.lcmp, 1) := by decide +kernel
theorem dL_law_581 : decode cL_law 581 = .ok (.ifCond .eq 5, 3) := by decide +kernel
theorem dL_law_584 : decode cL_law 584 = .ok (.iconst 0, 1) := by decide +kernel
theorem dL_law_585 : decode cL_law 585 = .ok (.ireturn, 1) := by decide +kernel
theorem dL_law_586 : decode cL_law 586 = .ok (.goto 333, 3) := by decide +kernel
theorem dL_law_589 : decode cL_law 589 = .ok (.aload_n 1, 1) := by decide +kernel
theorem dL_law_590 : decode cL_law 590 = .ok (.invokevirtual 95, 3) := by decide +kernel
theorem dL_law_593 : decode cL_law 593 = .ok (.aload_n 2, 1) := by decide +kernel
theorem dL_law_594 : decode cL_law 594 = .ok (.invokevirtual 98, 3) := by decide +kernel
theorem dL_law_597 : decode cL_law 597 = .ok (.lcmp, 1) := by decide +kernel
theorem dL_law_598 : decode cL_law 598 = .ok (.ifCond .eq 321, 3) := by decide +kernel
theorem dL_law_601 : decode cL_law 601 = .ok (.iconst 0, 1) := by decide +kernel
theorem dL_law_602 : decode cL_law 602 = .ok (.ireturn, 1) := by decide +kernel
theorem dL_law_603 : decode cL_law 603 = .ok (.aload_n 1, 1) := by decide +kernel
theorem dL_law_604 : decode cL_law 604 = .ok (.aload_n 0, 1) := by decide +kernel
theorem dL_law_605 : decode cL_law 605 = .ok (.iload 4, 2) := by decide +kernel
theorem dL_law_607 : decode cL_law 607 = .ok (.iconst 1, 1) := by decide +kernel
theorem dL_law_608 : decode cL_law 608 = .ok (.iadd, 1) := by decide +kernel
theorem dL_law_609 : decode cL_law 609 = .ok (.iaload, 1) := by decide +kernel
theorem dL_law_610 : decode cL_law 610 = .ok (.aload_n 3, 1) := by decide +kernel
theorem dL_law_611 : decode cL_law 611 = .ok (.invokestatic 99, 3) := by decide +kernel
theorem dL_law_614 : decode cL_law 614 = .ok (.istore 5, 2) := by decide +kernel
theorem dL_law_616 : decode cL_law 616 = .ok (.aload_n 2, 1) := by decide +kernel
theorem dL_law_617 : decode cL_law 617 = .ok (.aload_n 0, 1) := by decide +kernel
theorem dL_law_618 : decode cL_law 618 = .ok (.iload 4, 2) := by decide +kernel
theorem dL_law_620 : decode cL_law 620 = .ok (.iconst 1, 1) := by decide +kernel
theorem dL_law_621 : decode cL_law 621 = .ok (.iadd, 1) := by decide +kernel
theorem dL_law_622 : decode cL_law 622 = .ok (.iaload, 1) := by decide +kernel
theorem dL_law_623 : decode cL_law 623 = .ok (.invokevirtual 101, 3) := by decide +kernel
theorem dL_law_626 : decode cL_law 626 = .ok (.istore 6, 2) := by decide +kernel
theorem dL_law_628 : decode cL_law 628 = .ok (.aload_n 2, 1) := by decide +kernel
theorem dL_law_629 : decode cL_law 629 = .ok (.invokevirtual 67, 3) := by decide +kernel
theorem dL_law_632 : decode cL_law 632 = .ok (.iload 5, 2) := by decide +kernel
theorem dL_law_634 : decode cL_law 634 = .ok (.if_icmp .eq 5, 3) := by decide +kernel
theorem dL_law_637 : decode cL_law 637 = .ok (.iconst 0, 1) := by decide +kernel
theorem dL_law_638 : decode cL_law 638 = .ok (.ireturn, 1) := by decide +kernel
theorem dL_law_639 : decode cL_law 639 = .ok (.iload 5, 2) := by decide +kernel
theorem dL_law_641 : decode cL_law 641 = .ok (.ifCond .ne 15, 3) := by decide +kernel
theorem dL_law_644 : decode cL_law 644 = .ok (.aload_n 3, 1) := by decide +kernel
theorem dL_law_645 : decode cL_law 645 = .ok (.iconst 0, 1) := by decide +kernel
theorem dL_law_646 : decode cL_law 646 = .ok (.laload, 1) := by decide +kernel
theorem dL_law_647 : decode cL_law 647 = .ok (.iload 6, 2) := by decide +kernel
theorem dL_law_649 : decode cL_law 649 = .ok (.i2l, 1) := by decide +kernel
theorem dL_law_650 : decode cL_law 650 = .ok (.lcmp, 1) := by decide +kernel
theorem dL_law_651 : decode cL_law 651 = .ok (.ifCond .eq 5, 3) := by decide +kernel
theorem dL_law_654 : decode cL_law 654 = .ok (.iconst 0, 1) := by decide +kernel
theorem dL_law_655 : decode cL_law 655 = .ok (.ireturn, 1) := by decide +kernel
theorem dL_law_656 : decode cL_law 656 = .ok (.goto 263, 3) := by decide +kernel
theorem dL_law_659 : decode cL_law 659 = .ok (.aload_n 1, 1) := by decide +kernel
theorem dL_law_660 : decode cL_law 660 = .ok (.invokevirtual 102, 3) := by decide +kernel
theorem dL_law_663 : decode cL_law 663 = .ok (.aload_n 2, 1) := by decide +kernel
theorem dL_law_664 : decode cL_law 664 = .ok (.invokevirtual 105, 3) := by decide +kernel
theorem dL_law_667 : decode cL_law 667 = .ok (.if_icmp .eq 252, 3) := by decide +kernel
theorem dL_law_670 : decode cL_law 670 = .ok (.iconst 0, 1) := by decide +kernel
theorem dL_law_671 : decode cL_law 671 = .ok (.ireturn, 1) := by decide +kernel
theorem dL_law_672 : decode cL_law 672 = .ok (.aload_n 1, 1) := by decide +kernel
theorem dL_law_673 : decode cL_law 673 = .ok (.aload_n 0, 1) := by decide +kernel
theorem dL_law_674 : decode cL_law 674 = .ok (.iload 4, 2) := by decide +kernel
theorem dL_law_676 : decode cL_law 676 = .ok (.iconst 1, 1) := by decide +kernel
theorem dL_law_677 : decode cL_law 677 = .ok (.iadd, 1) := by decide +kernel
theorem dL_law_678 : decode cL_law 678 = .ok (.iaload, 1) := by decide +kernel
theorem dL_law_679 : decode cL_law 679 = .ok (.aload_n 3, 1) := by decide +kernel
theorem dL_law_680 : decode cL_law 680 = .ok (.invokestatic 106, 3) := by decide +kernel
theorem dL_law_683 : decode cL_law 683 = .ok (.istore 5, 2) := by decide +kernel
theorem dL_law_685 : decode cL_law 685 = .ok (.aload_n 2, 1) := by decide +kernel
theorem dL_law_686 : decode cL_law 686 = .ok (.aload_n 0, 1) := by decide +kernel
theorem dL_law_687 : decode cL_law 687 = .ok (.iload 4, 2) := by decide +kernel
theorem dL_law_689 : decode cL_law 689 = .ok (.iconst 1, 1) := by decide +kernel
theorem dL_law_690 : decode cL_law 690 = .ok (.iadd, 1) := by decide +kernel
theorem dL_law_691 : decode cL_law 691 = .ok (.iaload, 1) := by decide +kernel
theorem dL_law_692 : decode cL_law 692 = .ok (.invokevirtual 108, 3) := by decide +kernel
theorem dL_law_695 : decode cL_law 695 = .ok (.istore 6, 2) := by decide +kernel
theorem dL_law_697 : decode cL_law 697 = .ok (.aload_n 2, 1) := by decide +kernel
theorem dL_law_698 : decode cL_law 698 = .ok (.invokevirtual 67, 3) := by decide +kernel
theorem dL_law_701 : decode cL_law 701 = .ok (.iload 5, 2) := by decide +kernel
theorem dL_law_703 : decode cL_law 703 = .ok (.if_icmp .eq 5, 3) := by decide +kernel
theorem dL_law_706 : decode cL_law 706 = .ok (.iconst 0, 1) := by decide +kernel
theorem dL_law_707 : decode cL_law 707 = .ok (.ireturn, 1) := by decide +kernel
theorem dL_law_708 : decode cL_law 708 = .ok (.iload 5, 2) := by decide +kernel
theorem dL_law_710 : decode cL_law 710 = .ok (.ifCond .ne 15, 3) := by decide +kernel
theorem dL_law_713 : decode cL_law 713 = .ok (.aload_n 3, 1) := by decide +kernel
theorem dL_law_714 : decode cL_law 714 = .ok (.iconst 0, 1) := by decide +kernel
theorem dL_law_715 : decode cL_law 715 = .ok (.laload, 1) := by decide +kernel
theorem dL_law_716 : decode cL_law 716 = .ok (.iload 6, 2) := by decide +kernel
theorem dL_law_718 : decode cL_law 718 = .ok (.i2l, 1) := by decide +kernel
theorem dL_law_719 : decode cL_law 719 = .ok (.lcmp, 1) := by decide +kernel
theorem dL_law_720 : decode cL_law 720 = .ok (.ifCond .eq 5, 3) := by decide +kernel
theorem dL_law_723 : decode cL_law 723 = .ok (.iconst 0, 1) := by decide +kernel
theorem dL_law_724 : decode cL_law 724 = .ok (.ireturn, 1) := by decide +kernel
theorem dL_law_725 : decode cL_law 725 = .ok (.goto 194, 3) := by decide +kernel
theorem dL_law_728 : decode cL_law 728 = .ok (.aload_n 1, 1) := by decide +kernel
theorem dL_law_729 : decode cL_law 729 = .ok (.aload_n 3, 1) := by decide +kernel
theorem dL_law_730 : decode cL_law 730 = .ok (.invokestatic 109, 3) := by decide +kernel
theorem dL_law_733 : decode cL_law 733 = .ok (.istore 5, 2) := by decide +kernel
theorem dL_law_735 : decode cL_law 735 = .ok (.aload_n 2, 1) := by decide +kernel
theorem dL_law_736 : decode cL_law 736 = .ok (.invokevirtual 112, 3) := by decide +kernel
theorem dL_law_739 : decode cL_law 739 = .ok (.istore 6, 2) := by decide +kernel
theorem dL_law_741 : decode cL_law 741 = .ok (.aload_n 2, 1) := by decide +kernel
theorem dL_law_742 : decode cL_law 742 = .ok (.invokevirtual 67, 3) := by decide +kernel
theorem dL_law_745 : decode cL_law 745 = .ok (.iload 5, 2) := by decide +kernel
theorem dL_law_747 : decode cL_law 747 = .ok (.if_icmp .eq 5, 3) := by decide +kernel
theorem dL_law_750 : decode cL_law 750 = .ok (.iconst 0, 1) := by decide +kernel
theorem dL_law_751 : decode cL_law 751 = .ok (.ireturn, 1) := by decide +kernel
theorem dL_law_752 : decode cL_law 752 = .ok (.iload 5, 2) := by decide +kernel
theorem dL_law_754 : decode cL_law 754 = .ok (.ifCond .ne 15, 3) := by decide +kernel
theorem dL_law_757 : decode cL_law 757 = .ok (.aload_n 3, 1) := by decide +kernel
theorem dL_law_758 : decode cL_law 758 = .ok (.iconst 0, 1) := by decide +kernel
theorem dL_law_759 : decode cL_law 759 = .ok (.laload, 1) := by decide +kernel
theorem dL_law_760 : decode cL_law 760 = .ok (.iload 6, 2) := by decide +kernel
theorem dL_law_762 : decode cL_law 762 = .ok (.i2l, 1) := by decide +kernel
theorem dL_law_763 : decode cL_law 763 = .ok (.lcmp, 1) := by decide +kernel
theorem dL_law_764 : decode cL_law 764 = .ok (.ifCond .eq 5, 3) := by decide +kernel
theorem dL_law_767 : decode cL_law 767 = .ok (.iconst 0, 1) := by decide +kernel
theorem dL_law_768 : decode cL_law 768 = .ok (.ireturn, 1) := by decide +kernel
theorem dL_law_769 : decode cL_law 769 = .ok (.goto 150, 3) := by decide +kernel
theorem dL_law_772 : decode cL_law 772 = .ok (.aload_n 1, 1) := by decide +kernel
theorem dL_law_773 : decode cL_law 773 = .ok (.aload_n 0, 1) := by decide +kernel
theorem dL_law_774 : decode cL_law 774 = .ok (.iload 4, 2) := by decide +kernel
theorem dL_law_776 : decode cL_law 776 = .ok (.iconst 1, 1) := by decide +kernel
theorem dL_law_777 : decode cL_law 777 = .ok (.iadd, 1) := by decide +kernel
theorem dL_law_778 : decode cL_law 778 = .ok (.iaload, 1) := by decide +kernel
theorem dL_law_779 : decode cL_law 779 = .ok (.aload_n 0, 1) := by decide +kernel
theorem dL_law_780 : decode cL_law 780 = .ok (.iload 4, 2) := by decide +kernel
theorem dL_law_782 : decode cL_law 782 = .ok (.iconst 2, 1) := by decide +kernel
theorem dL_law_783 : decode cL_law 783 = .ok (.iadd, 1) := by decide +kernel
theorem dL_law_784 : decode cL_law 784 = .ok (.iaload, 1) := by decide +kernel
theorem dL_law_785 : decode cL_law 785 = .ok (.aload_n 0, 1) := by decide +kernel
theorem dL_law_786 : decode cL_law 786 = .ok (.iload 4, 2) := by decide +kernel
theorem dL_law_788 : decode cL_law 788 = .ok (.iconst 3, 1) := by decide +kernel
theorem dL_law_789 : decode cL_law 789 = .ok (.iadd, 1) := by decide +kernel
theorem dL_law_790 : decode cL_law 790 = .ok (.iaload, 1) := by decide +kernel
theorem dL_law_791 : decode cL_law 791 = .ok (.aload_n 3, 1) := by decide +kernel
theorem dL_law_792 : decode cL_law 792 = .ok (.invokestatic 113, 3) := by decide +kernel
theorem dL_law_795 : decode cL_law 795 = .ok (.istore 5, 2) := by decide +kernel
theorem dL_law_797 : decode cL_law 797 = .ok (.aload_n 2, 1) := by decide +kernel
theorem dL_law_798 : decode cL_law 798 = .ok (.aload_n 0, 1) := by decide +kernel
theorem dL_law_799 : decode cL_law 799 = .ok (.iload 4, 2) := by decide +kernel
theorem dL_law_801 : decode cL_law 801 = .ok (.iconst 1, 1) := by decide +kernel
theorem dL_law_802 : decode cL_law 802 = .ok (.iadd, 1) := by decide +kernel
theorem dL_law_803 : decode cL_law 803 = .ok (.iaload, 1) := by decide +kernel
theorem dL_law_804 : decode cL_law 804 = .ok (.aload_n 0, 1) := by decide +kernel
theorem dL_law_805 : decode cL_law 805 = .ok (.iload 4, 2) := by decide +kernel
theorem dL_law_807 : decode cL_law 807 = .ok (.iconst 2, 1) := by decide +kernel
theorem dL_law_808 : decode cL_law 808 = .ok (.iadd, 1) := by decide +kernel
theorem dL_law_809 : decode cL_law 809 = .ok (.iaload, 1) := by decide +kernel
theorem dL_law_810 : decode cL_law 810 = .ok (.aload_n 0, 1) := by decide +kernel
theorem dL_law_811 : decode cL_law 811 = .ok (.iload 4, 2) := by decide +kernel
theorem dL_law_813 : decode cL_law 813 = .ok (.iconst 3, 1) := by decide +kernel
theorem dL_law_814 : decode cL_law 814 = .ok (.iadd, 1) := by decide +kernel
theorem dL_law_815 : decode cL_law 815 = .ok (.iaload, 1) := by decide +kernel
theorem dL_law_816 : decode cL_law 816 = .ok (.invokevirtual 116, 3) := by decide +kernel
theorem dL_law_819 : decode cL_law 819 = .ok (.istore 6, 2) := by decide +kernel
theorem dL_law_821 : decode cL_law 821 = .ok (.aload_n 2, 1) := by decide +kernel
theorem dL_law_822 : decode cL_law 822 = .ok (.invokevirtual 67, 3) := by decide +kernel
theorem dL_law_825 : decode cL_law 825 = .ok (.iload 5, 2) := by decide +kernel
theorem dL_law_827 : decode cL_law 827 = .ok (.if_icmp .eq 5, 3) := by decide +kernel
theorem dL_law_830 : decode cL_law 830 = .ok (.iconst 0, 1) := by decide +kernel
theorem dL_law_831 : decode cL_law 831 = .ok (.ireturn, 1) := by decide +kernel
theorem dL_law_832 : decode cL_law 832 = .ok (.iload 5, 2) := by decide +kernel
theorem dL_law_834 : decode cL_law 834 = .ok (.ifCond .ne 15, 3) := by decide +kernel
theorem dL_law_837 : decode cL_law 837 = .ok (.aload_n 3, 1) := by decide +kernel
theorem dL_law_838 : decode cL_law 838 = .ok (.iconst 0, 1) := by decide +kernel
theorem dL_law_839 : decode cL_law 839 = .ok (.laload, 1) := by decide +kernel
theorem dL_law_840 : decode cL_law 840 = .ok (.iload 6, 2) := by decide +kernel
theorem dL_law_842 : decode cL_law 842 = .ok (.i2l, 1) := by decide +kernel
theorem dL_law_843 : decode cL_law 843 = .ok (.lcmp, 1) := by decide +kernel
theorem dL_law_844 : decode cL_law 844 = .ok (.ifCond .eq 5, 3) := by decide +kernel
theorem dL_law_847 : decode cL_law 847 = .ok (.iconst 0, 1) := by decide +kernel
theorem dL_law_848 : decode cL_law 848 = .ok (.ireturn, 1) := by decide +kernel
theorem dL_law_849 : decode cL_law 849 = .ok (.goto 70, 3) := by decide +kernel
theorem dL_law_852 : decode cL_law 852 = .ok (.aload_n 1, 1) := by decide +kernel
theorem dL_law_853 : decode cL_law 853 = .ok (.aload_n 0, 1) := by decide +kernel
theorem dL_law_854 : decode cL_law 854 = .ok (.iload 4, 2) := by decide +kernel
theorem dL_law_856 : decode cL_law 856 = .ok (.iconst 1, 1) := by decide +kernel
theorem dL_law_857 : decode cL_law 857 = .ok (.iadd, 1) := by decide +kernel
theorem dL_law_858 : decode cL_law 858 = .ok (.iaload, 1) := by decide +kernel
theorem dL_law_859 : decode cL_law 859 = .ok (.aload_n 0, 1) := by decide +kernel
theorem dL_law_860 : decode cL_law 860 = .ok (.iload 4, 2) := by decide +kernel
theorem dL_law_862 : decode cL_law 862 = .ok (.iconst 2, 1) := by decide +kernel
theorem dL_law_863 : decode cL_law 863 = .ok (.iadd, 1) := by decide +kernel
theorem dL_law_864 : decode cL_law 864 = .ok (.iaload, 1) := by decide +kernel
theorem dL_law_865 : decode cL_law 865 = .ok (.aload_n 3, 1) := by decide +kernel
theorem dL_law_866 : decode cL_law 866 = .ok (.invokestatic 117, 3) := by decide +kernel
theorem dL_law_869 : decode cL_law 869 = .ok (.istore 5, 2) := by decide +kernel
theorem dL_law_871 : decode cL_law 871 = .ok (.aload_n 2, 1) := by decide +kernel
theorem dL_law_872 : decode cL_law 872 = .ok (.aload_n 0, 1) := by decide +kernel
theorem dL_law_873 : decode cL_law 873 = .ok (.iload 4, 2) := by decide +kernel
theorem dL_law_875 : decode cL_law 875 = .ok (.iconst 1, 1) := by decide +kernel
theorem dL_law_876 : decode cL_law 876 = .ok (.iadd, 1) := by decide +kernel
theorem dL_law_877 : decode cL_law 877 = .ok (.iaload, 1) := by decide +kernel
theorem dL_law_878 : decode cL_law 878 = .ok (.aload_n 0, 1) := by decide +kernel
theorem dL_law_879 : decode cL_law 879 = .ok (.iload 4, 2) := by decide +kernel
theorem dL_law_881 : decode cL_law 881 = .ok (.iconst 2, 1) := by decide +kernel
theorem dL_law_882 : decode cL_law 882 = .ok (.iadd, 1) := by decide +kernel
theorem dL_law_883 : decode cL_law 883 = .ok (.iaload, 1) := by decide +kernel
theorem dL_law_884 : decode cL_law 884 = .ok (.invokevirtual 119, 3) := by decide +kernel
theorem dL_law_887 : decode cL_law 887 = .ok (.lstore 6, 2) := by decide +kernel
theorem dL_law_889 : decode cL_law 889 = .ok (.aload_n 2, 1) := by decide +kernel
theorem dL_law_890 : decode cL_law 890 = .ok (.invokevirtual 67, 3) := by decide +kernel
theorem dL_law_893 : decode cL_law 893 = .ok (.iload 5, 2) := by decide +kernel
theorem dL_law_895 : decode cL_law 895 = .ok (.if_icmp .eq 5, 3) := by decide +kernel
theorem dL_law_898 : decode cL_law 898 = .ok (.iconst 0, 1) := by decide +kernel
theorem dL_law_899 : decode cL_law 899 = .ok (.ireturn, 1) := by decide +kernel
theorem dL_law_900 : decode cL_law 900 = .ok (.iload 5, 2) := by decide +kernel
theorem dL_law_902 : decode cL_law 902 = .ok (.ifCond .ne 14, 3) := by decide +kernel
theorem dL_law_905 : decode cL_law 905 = .ok (.aload_n 3, 1) := by decide +kernel
theorem dL_law_906 : decode cL_law 906 = .ok (.iconst 0, 1) := by decide +kernel
theorem dL_law_907 : decode cL_law 907 = .ok (.laload, 1) := by decide +kernel
theorem dL_law_908 : decode cL_law 908 = .ok (.lload 6, 2) := by decide +kernel
theorem dL_law_910 : decode cL_law 910 = .ok (.lcmp, 1) := by decide +kernel
theorem dL_law_911 : decode cL_law 911 = .ok (.ifCond .eq 5, 3) := by decide +kernel
theorem dL_law_914 : decode cL_law 914 = .ok (.iconst 0, 1) := by decide +kernel
theorem dL_law_915 : decode cL_law 915 = .ok (.ireturn, 1) := by decide +kernel
theorem dL_law_916 : decode cL_law 916 = .ok (.goto 3, 3) := by decide +kernel
theorem dL_law_919 : decode cL_law 919 = .ok (.iinc 4 5, 3) := by decide +kernel
theorem dL_law_922 : decode cL_law 922 = .ok (.goto (-899), 3) := by decide +kernel
theorem dL_law_925 : decode cL_law 925 = .ok (.iconst 1, 1) := by decide +kernel
theorem dL_law_926 : decode cL_law 926 = .ok (.ireturn, 1) := by decide +kernel
abbrev vwCl : List vw_C := [(RX0, TX0, 6), (RX1, TX1, 3), (RX2, TX2, 3), (RX3, TX3, 7), (RX4, TX4, 3), (RX5, TX5, 7), (RX6, TX6, 19)]
end
section
/-! base: contracts whose world is a list of cells, each changed in its place; what every method takes as given (globals) -/
abbrev zRm (L mc ms : Nat) : Room := { frames := 8 * L + 8, cells := mc, slots := ms, locals := 500 * L + 500 }
def zSinL : List Int32 := [0, 98, 195, 290, 383, 471, 556, 634, 707, 773, 831, 882, 924, 957, 981, 995, 1000]
def zSin (j : Nat) : Int32 := zSinL.getD j 0
def zNm : List (String × Nat × MethodName × String) := [("ArmRoom", 9, yX0_init, "ArmRoom"), ("ArmRoom", 18, yX1_init, "ArmRoom"), ("ArmRoom", 25, yX4_init, "ArmRoom"), ("ArmRoom", 35, yX3_init, "ArmRoom"), ("ArmRoom$Search", 11, yX2_init, "ArmRoom"), ("ArmRoom", 90, yX4_follow, "ArmRoom"), ("ArmRoom$Tip", 44, yX0_turnOf, "ArmRoom"), ("ArmRoom$Tip", 48, yX0_distanceOf, "ArmRoom"), ("ArmRoom$Tip", 21, yX5_cosine, "ArmRoom"), ("ArmRoom$Tip", 25, yX5_sine, "ArmRoom"), ("ArmRoom", 101, yX4_followWith, "ArmRoom"), ("ArmRoom", 187, yX1_farFrom, "ArmRoom"), ("ArmRoom", 58, yX0_isFull, "ArmRoom"), ("ArmRoom", 67, yX0_add, "ArmRoom"), ("ArmRoom", 94, yX4_told, "ArmRoom"), ("ArmRoom", 98, yX4_followBack, "ArmRoom"), ("ArmRoom$Tip", 55, yX0_headingAt, "ArmRoom"), ("ArmRoom", 190, yX0_held, "ArmRoom"), ("ArmRoom", 151, yX0_countPoses, "ArmRoom"), ("ArmRoom", 158, yX3_run, "ArmRoom"), ("ArmRoom$Search", 37, yX2_clear, "ArmRoom"), ("ArmRoom$Search", 62, yX0_distanceOf, "ArmRoom"), ("ArmRoom$Search", 66, yX1_isWithin, "ArmRoom"), ("ArmRoom$Search", 103, yX1_farFrom, "ArmRoom"), ("ArmRoom$Search", 107, yX0_headingAt, "ArmRoom"), ("ArmRoom$Search", 74, yX2_add, "ArmRoom"), ("ArmRoom$Search", 85, yX0_turnOf, "ArmRoom"), ("ArmRoom$Search", 88, yX5_cosine, "ArmRoom"), ("ArmRoom$Search", 92, yX5_sine, "ArmRoom"), ("ArmRoom", 174, yX2_valueOf, "ArmRoom")]
def zNf : List (String × Nat × String × String × String × String) := [("ArmRoom", 75, "ArmRoom$Arm", "lows", "[I", "ArmRoom"), ("ArmRoom$Search", 78, "ArmRoom$Arm", "lows", "[I", "ArmRoom"), ("ArmRoom", 78, "ArmRoom$Arm", "highs", "[I", "ArmRoom"), ("ArmRoom$Search", 59, "ArmRoom$Arm", "highs", "[I", "ArmRoom"), ("ArmRoom", 83, "ArmRoom$Arm", "values", "[I", "ArmRoom"), ("ArmRoom$Tip", 40, "ArmRoom$Arm", "values", "[I", "ArmRoom"), ("ArmRoom$Search", 95, "ArmRoom$Arm", "values", "[I", "ArmRoom"), ("ArmRoom$Search", 44, "ArmRoom$Arm", "count", "I", "ArmRoom"), ("ArmRoom$Tip", 35, "ArmRoom$Arm", "count", "I", "ArmRoom"), ("ArmRoom", 108, "ArmRoom$Arm", "count", "I", "ArmRoom"), ("ArmRoom", 126, "ArmRoom$Goal", "x", "I", "ArmRoom"), ("ArmRoom", 129, "ArmRoom$Goal", "y", "I", "ArmRoom"), ("ArmRoom$Search", 54, "ArmRoom$Goal", "slack", "I", "ArmRoom"), ("ArmRoom", 149, "ArmRoom$Goal", "slack", "I", "ArmRoom"), ("ArmRoom", 185, "ArmRoom$Tip", "x", "I", "ArmRoom"), ("ArmRoom", 186, "ArmRoom$Tip", "y", "I", "ArmRoom"), ("ArmRoom", 166, "ArmRoom$Ranking", "found", "I", "ArmRoom"), ("ArmRoom", 162, "ArmRoom$Search", "ranking", "LArmRoom$Ranking;", "ArmRoom")]
def zSt : List (String × Nat × String) := [("ArmRoom", 49, "no such kind"), ("ArmRoom", 54, "length"), ("ArmRoom", 56, "limits"), ("ArmRoom", 64, "no more joints"), ("ArmRoom", 180, "no such joint"), ("ArmRoom", 81, "beyond the limits"), ("ArmRoom", 183, "what is told"), ("ArmRoom", 124, "too far out"), ("ArmRoom", 136, "how many steps"), ("ArmRoom", 147, "slack"), ("ArmRoom", 156, "too many poses"), ("ArmRoom", 193, "no such rank"), ("ArmRoom", 195, "no such branch"), ("ArmRoom", 197, "ranked by what")]
def zNcs : List (String × String) := [("java/lang/IllegalArgumentException", "java/lang/IndexOutOfBoundsException"), ("java/lang/IllegalStateException", "java/lang/IndexOutOfBoundsException"), ("java/lang/IllegalStateException", "java/lang/IllegalArgumentException")]
def zN (U : State) : Prop := (∀ q ∈ zNm, va_Nw (.methodLinkNest q.1 q.2.1 q.2.2.1 q.2.2.2) U) ∧ (∀ q ∈ zNf, va_Nw (.fieldLinkNest q.1 q.2.1 q.2.2.1 q.2.2.2.1 q.2.2.2.2.1 q.2.2.2.2.2) U) ∧ (∀ q ∈ zSt, ∃ sa, vk_R q.1 q.2.1 q.2.2 sa U) ∧ (∀ q ∈ zNcs, va_Nc q.1 q.2 U)
def zG (A : Nat → Prop) (U : State) (H : Heap) : Prop := zN U ∧ (∃ t, va_Z "ArmRoom" "SINES" "[I" (.ref t) A U H ∧ va_T .int t 17 (fun j => .int (zSin j)) A U H) ∧ vx_Zq Bundle.tN "UNASSIGNED_STACK" Bundle.steD A U H ∧ vx_Zq Bundle.tN "SUPPRESSED_SENTINEL" Bundle.listD A U H
theorem va_Nc_moved {C T : String} {u U : State} (hvm : u.vm.Alike U.vm) (h : va_Nc C T u) : va_Nc C T U := by
  obtain ⟨c, t, h1, h2, h3⟩ := h
  first
  | exact va_Nc.moved hvm ⟨c, t, h1, h2, h3⟩
  | exact ⟨c, t, by rw [hvm.findClass]; exact h1, by rw [hvm.findClass]; exact h2, by rw [hvm.assignable]; exact h3⟩
theorem zN.warm {s U : State} (hW : s.WarmedH U.vm) (h : zN s) : zN U :=
  ⟨fun q hq => va_Nw.warmM hW (h.1 q hq), fun q hq => va_Nw.warmF hW (h.2.1 q hq), fun q hq => (h.2.2.1 q hq).elim fun sa hs => ⟨sa, vk_R.warm hW hs⟩, fun q hq => va_Nc_moved hW.alike (h.2.2.2 q hq)⟩
/-- the globals, seen from a callee's start -/
theorem zG.to {A A' : Nat → Prop} {s U : State} {H : Heap} {locs : List Loc} (h : zG A s s.heap) (hS : va_S A s.heap H locs) (hU : U.heap = H) (hW : s.WarmedH U.vm) (hA : ∀ q, A' q → A q) : zG A' U U.heap := by
  obtain ⟨h1, ⟨t, h2, h3⟩, h4, h5⟩ := h
  rw [hU]
  exact ⟨h1.warm hW, ⟨t, va_Z.moved hW.alike ((h2.kept hS.2.1).narrow hA), va_T.moved hW.alike ((h3.kept hS.2.1).narrow hA)⟩, vx_Zq.moved hW.alike ((h4.kept hS.2.1).narrow hA), vx_Zq.moved hW.alike ((h5.kept hS.2.1).narrow hA)⟩
def zA (ws : va_W) : Nat → Prop := fun q => ∃ (k : Nat) (e : va_E), ws[k]? = some (q, e)
def zPc (D : va_G) (cI cJ : ClassId) (ws : va_W) (av : List Value) : Array Value → State → Prop := va_Pc av (fun U => zG (zA ws) U U.heap ∧ va_P D vwCl ws U.heap ∧ va_K D vwCl [(cI, .int), (cJ, .long)] U ∧ va_D (fun _ => True) ws)
theorem zPc.blind {D : va_G} {cI cJ : ClassId} {ws : va_W} {av : List Value} : FrameBlind (zPc D cI cJ ws av) := by
  intro a U g mk h
  obtain ⟨h0, h1, h2, h3, h4⟩ := h
  exact ⟨h0, h1.to (U := U.calling g mk a) va_S.rf rfl (State.WarmedH.refl U) (fun _ h => h), h2, va_K.moved (u := U) (U := U.calling g mk a) (Vm.Alike.refl U.vm) h3, h4⟩
def zQ (D : va_G) (ws : va_W) {S : Type} (post : S → Prop) (rv : S → Option Value) (ws' : S → va_W) : Array Value → State → Outcome → State → Prop := fun _ st o t => ∃ u : S, o = .returned (rv u) ∧ post u ∧ va_P D vwCl (ws' u) t.heap ∧ va_F (zA ws) st t
def zM (l : Launch) (y : MethodName) (wds : List Cond) (L : Nat) (D : va_G) (cI cJ : ClassId) (av : List Value) (ws : va_W) {S : Type} (post : S → Prop) (rv : S → Option Value) (ws' : S → va_W) : Prop := Met l y wds (zRm L 0 0) (zPc D cI cJ ws av) (zQ D ws post rv ws') 0 0 (zA ws)
def za_set : va_W → List Nat → va_W → va_W
  | ws, i :: is, q :: qs => za_set (ws.set i q) is qs
  | ws, _, _ => ws
theorem za_set_get : ∀ (is : List Nat) (ws w1 : va_W) (k : Nat) (q : Nat × va_E), (za_set ws is w1)[k]? = some q → (∃ j : Nat, is[j]? = some k ∧ w1[j]? = some q) ∨ ((is.length = w1.length → k ∉ is) ∧ ws[k]? = some q)
  | [], ws, w1, k, q, h => Or.inr ⟨fun _ => List.not_mem_nil, by simpa [za_set] using h⟩
  | i :: is, ws, [], k, q, h => Or.inr ⟨fun e => by simp at e, by simpa [za_set] using h⟩
  | i :: is, ws, x :: xs, k, q, h => by
    rcases za_set_get is (ws.set i x) xs k q h with ⟨j, h1, h2⟩ | ⟨h1, h2⟩
    · exact Or.inl ⟨j + 1, by simpa using h1, by simpa using h2⟩
    · by_cases hki : k = i
      · subst hki
        have hl : k < ws.length := by
          have := (List.getElem?_eq_some_iff.mp h2).1
          simpa using this
        rw [List.getElem?_set_self hl] at h2
        exact Or.inl ⟨0, rfl, h2⟩
      · rw [List.getElem?_set_ne (Ne.symm hki)] at h2
        refine Or.inr ⟨fun e => ?_, h2⟩
        intro hm
        rcases List.mem_cons.mp hm with e2 | e2
        · exact hki e2
        · exact h1 (by simpa using e) e2
theorem za_map_set {ws : va_W} {i : Nat} {x : Nat × va_E} (h : (ws.map Prod.fst)[i]? = some x.1) : (ws.set i x).map Prod.fst = ws.map Prod.fst := by
  rw [List.map_set]
  refine List.ext_getElem? fun k => ?_
  by_cases hk : i = k
  · subst hk
    rw [List.getElem?_set_self (List.getElem?_eq_some_iff.mp h).1, h]
  · rw [List.getElem?_set_ne hk]
theorem za_set_fst : ∀ (is : List Nat) (ws w1 : va_W), is.map (fun i => (ws.map Prod.fst)[i]?) = w1.map (fun q => some q.1) → (za_set ws is w1).map Prod.fst = ws.map Prod.fst
  | [], ws, w1, _ => by simp [za_set]
  | i :: is, ws, [], h => by simp at h
  | i :: is, ws, x :: xs, h => by
    simp only [List.map_cons, List.cons.injEq] at h
    have h1 := za_map_set (ws := ws) (i := i) (x := x) h.1
    show (za_set (ws.set i x) is xs).map Prod.fst = _
    rw [za_set_fst is (ws.set i x) xs (by rw [h1]; exact h.2), h1]
theorem za_D_fst {A : Nat → Prop} {ws ws' : va_W} (h : ws'.map Prod.fst = ws.map Prod.fst) (hD : va_D A ws) : va_D A ws' := by
  have key : ∀ (k : Nat) (q : Nat × va_E), ws'[k]? = some q → ∃ q0, ws[k]? = some q0 ∧ q0.1 = q.1 := by
    intro k q hk
    have h1 : (ws.map Prod.fst)[k]? = some q.1 := by rw [← h, List.getElem?_map, hk]; rfl
    rw [List.getElem?_map] at h1
    cases hw : ws[k]? with
    | none => rw [hw] at h1; cases h1
    | some q0 => rw [hw] at h1; exact ⟨q0, rfl, Option.some.inj h1⟩
  refine ⟨fun i j x y hi hj hxy => ?_, fun k q hk => ?_⟩
  · obtain ⟨x0, h1, h2⟩ := key i x hi
    obtain ⟨y0, h3, h4⟩ := key j y hj
    exact hD.1 i j x0 y0 h1 h3 (h2.trans (hxy.trans h4.symm))
  · obtain ⟨q0, h1, h2⟩ := key k q hk
    rw [← h2]
    exact hD.2 k q0 h1
theorem za_sub {A0 : Nat → Prop} {ws wc : va_W} (hD : va_D A0 ws) (is : List Nat) (hC : is.map (fun i => ws[i]?) = wc.map some) : ∀ (k : Nat) (q : Nat × va_E), wc[k]? = some q → ∃ i, is[k]? = some i ∧ ws[i]? = some q := by
  intro k q hk
  have h1 : (is.map (fun i => ws[i]?))[k]? = some (some q) := by rw [hC, List.getElem?_map, hk]; rfl
  rw [List.getElem?_map] at h1
  cases hi : is[k]? with
  | none => rw [hi] at h1; cases h1
  | some i => rw [hi] at h1; exact ⟨i, rfl, Option.some.inj h1⟩
theorem za_in {A0 : Nat → Prop} {ws wc : va_W} (hD : va_D A0 ws) (is : List Nat) (hC : is.map (fun i => ws[i]?) = wc.map some) : ∀ q, zA wc q → A0 q := by
  intro q h
  obtain ⟨k, e, h⟩ := h
  obtain ⟨i, -, h2⟩ := za_sub hD is hC k _ h
  exact hD.2 i _ h2
/-- behind a call: the callee's cells as they are now, each in its place -/
theorem za_join {A0 : Nat → Prop} {D : va_G} {ws wc w1 : va_W} {H H1 : Heap} (hP : va_P D vwCl ws H) (hD : va_D A0 ws) (is : List Nat) (hC : is.map (fun i => ws[i]?) = wc.map some) (ha : w1.map Prod.fst = wc.map Prod.fst)
    (hk : ∀ q : Nat, q < H.size → ¬ zA wc q → H1[q]? = H[q]?) (hP1 : va_P D vwCl w1 H1) : va_P D vwCl (za_set ws is w1) H1 ∧ va_D A0 (za_set ws is w1) := by
  have hlen : is.length = w1.length := by
    have h1 := congrArg List.length hC
    have h2 := congrArg List.length ha
    simp only [List.length_map] at h1 h2
    omega
  refine ⟨fun k q h => ?_, za_D_fst (za_set_fst is ws w1 ?_) hD⟩
  · rcases za_set_get is ws w1 k q h with ⟨j, h1, h2⟩ | ⟨h1, h2⟩
    · exact hP1 j q h2
    · refine (hP k q h2).kept (hk q.1 (hP k q h2).lt ?_)
      rintro ⟨j, e, h3⟩
      obtain ⟨i, h4, h5⟩ := za_sub hD is hC j _ h3
      have hki := hD.1 k i q (q.1, e) h2 h5 rfl
      subst hki
      exact h1 hlen (List.mem_of_getElem? h4)
  · have h3 : w1.map (fun q => some q.1) = (w1.map Prod.fst).map some := by rw [List.map_map]; rfl
    have h4 : wc.map (fun q => some q.1) = (wc.map Prod.fst).map some := by rw [List.map_map]; rfl
    rw [h3, ha, ← h4]
    have h5 := congrArg (List.map (Option.map Prod.fst)) hC
    simp only [List.map_map] at h5
    have h6 : (List.map (fun i => (ws.map Prod.fst)[i]?) is) = List.map ((Option.map Prod.fst) ∘ (fun i => ws[i]?)) is := List.map_congr_left fun i _ => by rw [List.getElem?_map]; rfl
    rw [h6, h5]
    rfl
section ZCALL
variable {p : Program} {l : Launch} {e : Env} {R : Room} {s : State} {m : MethodId} {args : Array Value} {below : List Frame} {meth : Method} {c : Code} {H : Heap} {locs : List Loc} {cells slots : Nat} {Q : State → Prop}
variable {pc : Nat} {ls : Array Slot} {rest st0 : List Value} {A0 : Nat → Prop} {H0 : Heap} {D : va_G} {cI cJ : ClassId} {ws wc : va_W}
theorem z_run {a : Array Value} {S : Type} {post : S → Prop} {rv : S → Option Value} {w' : S → va_W} (hr : va_Run p l e R s m args below meth c H locs cells slots 0 0 (F0 m pc ls st0) rest (zQ D wc post rv w' a) (zA wc)) (hP : va_P D vwCl ws H) (hD : va_D A0 ws) (hS : va_S A0 H0 H locs) (is : List Nat) (hC : is.map (fun i => ws[i]?) = wc.map some) (hf : ∀ u, (w' u).map Prod.fst = wc.map Prod.fst)
    (kk : ∀ (u : S) (H1 : Heap) (locs1 : List Loc), post u → va_P D vwCl (za_set ws is (w' u)) H1 → va_D A0 (za_set ws is (w' u)) → va_S A0 H0 H1 locs1 → W p l e R s m args below meth c H1 locs1 cells slots Q (F0 m (pc + 3) ls ((rv u).toList ++ rest))) : W p l e R s m args below meth c H locs cells slots Q (F0 m pc ls st0) := by
  intro T hT X
  obtain ⟨v, st₀, t, T', L, h0, X', hL, e1, e2, ⟨u, hv, hp, hb, hz, hk⟩, st⟩ := hr T hT X
  have hv : v = rv u := by cases hv; rfl
  subst hv
  rw [h0] at hz hk
  have hA : ∀ q, zA wc q → A0 q := za_in hD is hC
  obtain ⟨g1, g2⟩ := za_join hP hD is hC (hf u) hk hb
  rw [← e1] at g1
  obtain ⟨t2, a1, b1⟩ := kk u T'.heap (locs ++ L) hp g1 g2 
    ⟨Nat.le_trans hS.1 (by rw [e1]; exact hz), fun q h1 h2 => by rw [e1, hk q (Nat.lt_of_lt_of_le h1 hS.1) (fun z => h2 (hA q z))]; exact hS.2.1 q h1 h2, fun q hq => by
      rcases List.mem_append.mp hq with h | h
      · exact hS.2.2 q h
      · exact hA _ (hL q h)⟩ T' rfl X'
  exact ⟨t2, st t2 a1, b1⟩
theorem z_pre {locs : List Loc} {av : List Value} (hG : zG A0 s s.heap) (hK : va_K D vwCl [(cI, .int), (cJ, .long)] s) (hP : va_P D vwCl ws H) (hD : va_D A0 ws) (hS : va_S A0 s.heap H locs) (is : List Nat) (hn : va_nd is = true) (hC : is.map (fun i => ws[i]?) = wc.map some) : ∀ U : State, U.heap = H → s.WarmedH U.vm → zPc D cI cJ wc av av.toArray U := by
  intro U hU hW
  refine ⟨rfl, hG.to hS hU hW (za_in hD is hC), ?_, va_K.moved hW.alike hK, (hD.sub is hn hC).weaken (fun _ _ _ _ => trivial)⟩
  rw [hU]
  intro k q hk
  obtain ⟨i, -, h2⟩ := za_sub hD is hC k q hk
  exact hP i q h2
variable {y : MethodName} {bytes cc : ByteArray} {maxL nL n index : Nat} {ret : Option FieldType} {wy : List Cond} {Ly : Nat} {Ts : List Cond} {own C : String} {b : Addr} {As : List Value}
/-- a private or public method of the receiver's class -/
theorem z_callV {S : Type} {post : S → Prop} {rv : S → Option Value} {w' : S → va_W} (Fx : CallFix p m c cc nL s args Ts own) (hG : zG A0 s s.heap) (hK : va_K D vwCl [(cI, .int), (cJ, .long)] s) (hP : va_P D vwCl ws H) (hD : va_D A0 ws) (hS : va_S A0 s.heap H locs)
    (hM : zM l y wy Ly D cI cJ (.ref b :: As) wc post rv w') (cw : CallW R s args own C index y bytes maxL ret wy (zRm Ly 0 0) 0 0 n) (is : List Nat) (hn : va_nd is = true) (hC : is.map (fun i => ws[i]?) = wc.map some) (hf : ∀ u, (w' u).map Prod.fst = wc.map Prod.fst)
    (k : Nat) {fs : List Value} {ci : Nat} {q : vw_C} (hk : ws[k]? = some (b, .inr (ci, fs))) (hc : vwCl[ci]? = some q) (hq : q.1 = C) (hlen : As.length = n) (hsize : ls.size = nL) (hst : st0 = As.reverse ++ .ref b :: rest) (hW : (rest.map fun v => v.category).sum ≤ 8) (hdg : decode cc pc = .ok (.invokevirtual index, 3)) (hb : cells ≤ R.cells ∧ slots ≤ R.slots)
    (kk : ∀ (u : S) (H1 : Heap) (locs1 : List Loc), post u → va_P D vwCl (za_set ws is (w' u)) H1 → va_D A0 (za_set ws is (w' u)) → va_S A0 s.heap H1 locs1 → W p l e R s m args below meth c H1 locs1 cells slots Q (F0 m (pc + 3) ls ((rv u).toList ++ rest))) : W p l e R s m args below meth c H locs cells slots Q (F0 m pc ls st0) := by
  subst hq
  exact z_run (va_runV (As := As) (rest := rest) (g := F0 m pc ls st0) Fx hM cw ⟨zPc.blind, va_recv hK hP hc hk, z_pre hG hK hP hD hS is hn hC⟩ rfl hlen hsize hst (lv_room (rest := st0) hW) hdg hb) hP hD hS is hC hf kk
theorem z_callVN {host : String} {S : Type} {post : S → Prop} {rv : S → Option Value} {w' : S → va_W} (Fx : CallFix p m c cc nL s args Ts own) (hG : zG A0 s s.heap) (hK : va_K D vwCl [(cI, .int), (cJ, .long)] s) (hP : va_P D vwCl ws H) (hD : va_D A0 ws) (hS : va_S A0 s.heap H locs)
    (hM : zM l y wy Ly D cI cJ (.ref b :: As) wc post rv w') (cw : va_CN R s args own index y host bytes maxL ret wy (zRm Ly 0 0) 0 0 n ∧ (Cond.instanceMethod y).before args s = true ∧ (Cond.selects C y y).before args s = true) (is : List Nat) (hn : va_nd is = true) (hC : is.map (fun i => ws[i]?) = wc.map some) (hf : ∀ u, (w' u).map Prod.fst = wc.map Prod.fst)
    (k : Nat) {fs : List Value} {ci : Nat} {q : vw_C} (hk : ws[k]? = some (b, .inr (ci, fs))) (hc : vwCl[ci]? = some q) (hq : q.1 = C) (hlen : As.length = n) (hsize : ls.size = nL) (hst : st0 = As.reverse ++ .ref b :: rest) (hW : (rest.map fun v => v.category).sum ≤ 8) (hdg : decode cc pc = .ok (.invokevirtual index, 3)) (hb : cells ≤ R.cells ∧ slots ≤ R.slots)
    (kk : ∀ (u : S) (H1 : Heap) (locs1 : List Loc), post u → va_P D vwCl (za_set ws is (w' u)) H1 → va_D A0 (za_set ws is (w' u)) → va_S A0 s.heap H1 locs1 → W p l e R s m args below meth c H1 locs1 cells slots Q (F0 m (pc + 3) ls ((rv u).toList ++ rest))) : W p l e R s m args below meth c H locs cells slots Q (F0 m pc ls st0) := by
  subst hq
  exact z_run (va_runVN (As := As) (rest := rest) (g := F0 m pc ls st0) Fx hM cw ⟨zPc.blind, va_recv hK hP hc hk, z_pre hG hK hP hD hS is hn hC⟩ rfl hlen hsize hst (lv_room (rest := st0) hW) hdg hb) hP hD hS is hC hf kk
theorem z_callS {S : Type} {post : S → Prop} {rv : S → Option Value} {w' : S → va_W} (Fx : CallFix p m c cc nL s args Ts own) (hG : zG A0 s s.heap) (hK : va_K D vwCl [(cI, .int), (cJ, .long)] s) (hP : va_P D vwCl ws H) (hD : va_D A0 ws) (hS : va_S A0 s.heap H locs)
    (hM : zM l y wy Ly D cI cJ As wc post rv w') (cw : CallB R s args own index y bytes maxL ret wy (zRm Ly 0 0) 0 0 n ∧ (Cond.static y).before args s = true) (is : List Nat) (hn : va_nd is = true) (hC : is.map (fun i => ws[i]?) = wc.map some) (hf : ∀ u, (w' u).map Prod.fst = wc.map Prod.fst)
    (hlen : As.length = n) (hsize : ls.size = nL) (hst : st0 = As.reverse ++ rest) (hW : (rest.map fun v => v.category).sum ≤ 8) (hdg : decode cc pc = .ok (.invokestatic index, 3)) (hb : cells ≤ R.cells ∧ slots ≤ R.slots)
    (kk : ∀ (u : S) (H1 : Heap) (locs1 : List Loc), post u → va_P D vwCl (za_set ws is (w' u)) H1 → va_D A0 (za_set ws is (w' u)) → va_S A0 s.heap H1 locs1 → W p l e R s m args below meth c H1 locs1 cells slots Q (F0 m (pc + 3) ls ((rv u).toList ++ rest))) : W p l e R s m args below meth c H locs cells slots Q (F0 m pc ls st0) := by
  exact z_run (va_runS (As := As) (rest := rest) (g := F0 m pc ls st0) Fx hM cw ⟨zPc.blind, z_pre hG hK hP hD hS is hn hC⟩ rfl hlen hsize hst (lv_room (rest := st0) hW) hdg hb) hP hD hS is hC hf kk
theorem z_callSN {host : String} {S : Type} {post : S → Prop} {rv : S → Option Value} {w' : S → va_W} (Fx : CallFix p m c cc nL s args Ts own) (hG : zG A0 s s.heap) (hK : va_K D vwCl [(cI, .int), (cJ, .long)] s) (hP : va_P D vwCl ws H) (hD : va_D A0 ws) (hS : va_S A0 s.heap H locs)
    (hM : zM l y wy Ly D cI cJ As wc post rv w') (cw : va_CN R s args own index y host bytes maxL ret wy (zRm Ly 0 0) 0 0 n ∧ (Cond.static y).before args s = true ∧ True) (is : List Nat) (hn : va_nd is = true) (hC : is.map (fun i => ws[i]?) = wc.map some) (hf : ∀ u, (w' u).map Prod.fst = wc.map Prod.fst)
    (hlen : As.length = n) (hsize : ls.size = nL) (hst : st0 = As.reverse ++ rest) (hW : (rest.map fun v => v.category).sum ≤ 8) (hdg : decode cc pc = .ok (.invokestatic index, 3)) (hb : cells ≤ R.cells ∧ slots ≤ R.slots)
    (kk : ∀ (u : S) (H1 : Heap) (locs1 : List Loc), post u → va_P D vwCl (za_set ws is (w' u)) H1 → va_D A0 (za_set ws is (w' u)) → va_S A0 s.heap H1 locs1 → W p l e R s m args below meth c H1 locs1 cells slots Q (F0 m (pc + 3) ls ((rv u).toList ++ rest))) : W p l e R s m args below meth c H locs cells slots Q (F0 m pc ls st0) := by
  exact z_run (va_runSN (As := As) (rest := rest) (g := F0 m pc ls st0) Fx hM cw ⟨zPc.blind, z_pre hG hK hP hD hS is hn hC⟩ rfl hlen hsize hst (lv_room (rest := st0) hW) hdg hb) hP hD hS is hC hf kk
/-- the stack's top under another name -/
theorem z_topi {x y : Int32} (h : x = y) (k : W p l e R s m args below meth c H locs cells slots Q (F0 m pc ls (.int y :: rest))) : W p l e R s m args below meth c H locs cells slots Q (F0 m pc ls (.int x :: rest)) := h ▸ k
theorem z_topl {x y : Int64} (h : x = y) (k : W p l e R s m args below meth c H locs cells slots Q (F0 m pc ls (.long y :: rest))) : W p l e R s m args below meth c H locs cells slots Q (F0 m pc ls (.long x :: rest)) := h ▸ k
/-- an element by a place that is a number -/
theorem z_iald (hexec : p.tables.exec = Jvm.exec) (hb : c.code = cc) (hK : va_K D vwCl [(cI, .int), (cJ, .long)] s) (hP : va_P D vwCl ws H) (q0 : Nat) {a n : Nat} {f : Nat → Int32} (ha : ws[q0]? = some (a, .inl (cI, n, .inl f))) {j : Nat} (hj : j < n) (hn : n < 1000) (hdg : decode cc pc = .ok (.iaload, 1))
    (k : W p l e R s m args below meth c H locs cells slots Q (F0 m (pc + 1) ls (.int (f j) :: rest))) : W p l e R s m args below meth c H locs cells slots Q (F0 m pc ls (.int (nI j) :: .ref a :: rest)) := by
  have h1 : j < 2 ^ 31 := Nat.lt_trans hj (Nat.lt_trans hn (by decide))
  exact va_iald hexec hb hK hP q0 0 ha rfl (vp_in_nI hj (Nat.lt_trans hn (by decide))) hdg (by rw [nI_clamp h1]; exact k)
theorem z_lald (hexec : p.tables.exec = Jvm.exec) (hb : c.code = cc) (hK : va_K D vwCl [(cI, .int), (cJ, .long)] s) (hP : va_P D vwCl ws H) (q0 : Nat) {a n : Nat} {f : Nat → Int64} (ha : ws[q0]? = some (a, .inl (cJ, n, .inr (.inl f)))) {j : Nat} (hj : j < n) (hn : n < 1000) (hdg : decode cc pc = .ok (.laload, 1))
    (k : W p l e R s m args below meth c H locs cells slots Q (F0 m (pc + 1) ls (.long (f j) :: rest))) : W p l e R s m args below meth c H locs cells slots Q (F0 m pc ls (.int (nI j) :: .ref a :: rest)) := by
  have h1 : j < 2 ^ 31 := Nat.lt_trans hj (Nat.lt_trans hn (by decide))
  exact va_lald hexec hb hK hP q0 1 ha rfl (vp_in_nI hj (Nat.lt_trans hn (by decide))) hdg (by rw [nI_clamp h1]; exact k)
theorem z_iast (hexec : p.tables.exec = Jvm.exec) (hb : c.code = cc) (hK : va_K D vwCl [(cI, .int), (cJ, .long)] s) (hP : va_P D vwCl ws H) (hD : va_D A0 ws) (hS : va_S A0 H0 H locs) (q0 : Nat) {a n : Nat} {f : Nat → Int32} (ha : ws[q0]? = some (a, .inl (cI, n, .inl f))) {j : Nat} {x : Int32} (hj : j < n) (hn : n < 1000) (hdg : decode cc pc = .ok (.iastore, 1))
    (k : ∀ (H1 : Heap) (locs1 : List Loc), va_P D vwCl (ws.set q0 (a, .inl (cI, n, .inl (upd f j x)))) H1 → va_D A0 (ws.set q0 (a, .inl (cI, n, .inl (upd f j x)))) → va_S A0 H0 H1 locs1 → W p l e R s m args below meth c H1 locs1 cells slots Q (F0 m (pc + 1) ls rest)) : W p l e R s m args below meth c H locs cells slots Q (F0 m pc ls (.int x :: .int (nI j) :: .ref a :: rest)) := by
  have h1 : j < 2 ^ 31 := Nat.lt_trans hj (Nat.lt_trans hn (by decide))
  exact va_iast hexec hb hK hP hD hS q0 0 ha rfl (vp_in_nI hj (Nat.lt_trans hn (by decide))) hdg (by rw [nI_clamp h1]; exact k)
theorem z_last (hexec : p.tables.exec = Jvm.exec) (hb : c.code = cc) (hK : va_K D vwCl [(cI, .int), (cJ, .long)] s) (hP : va_P D vwCl ws H) (hD : va_D A0 ws) (hS : va_S A0 H0 H locs) (q0 : Nat) {a n : Nat} {f : Nat → Int64} (ha : ws[q0]? = some (a, .inl (cJ, n, .inr (.inl f)))) {j : Nat} {x : Int64} (hj : j < n) (hn : n < 1000) (hdg : decode cc pc = .ok (.lastore, 1))
    (k : ∀ (H1 : Heap) (locs1 : List Loc), va_P D vwCl (ws.set q0 (a, .inl (cJ, n, .inr (.inl (vp_updL f j x))))) H1 → va_D A0 (ws.set q0 (a, .inl (cJ, n, .inr (.inl (vp_updL f j x))))) → va_S A0 H0 H1 locs1 → W p l e R s m args below meth c H1 locs1 cells slots Q (F0 m (pc + 1) ls rest)) : W p l e R s m args below meth c H locs cells slots Q (F0 m pc ls (.long x :: .int (nI j) :: .ref a :: rest)) := by
  have h1 : j < 2 ^ 31 := Nat.lt_trans hj (Nat.lt_trans hn (by decide))
  exact va_last hexec hb hK hP hD hS q0 1 ha rfl (vp_in_nI hj (Nat.lt_trans hn (by decide))) hdg (by rw [nI_clamp h1]; exact k)
end ZCALL
/-- what a body knows at its start -/
def zC (p : Program) (m : MethodId) (c : Code) (meth : Method) (cc : ByteArray) (nL : Nat) (s : State) (args : Array Value) (Ts : List Cond) (own : String) (D : va_G) (cI cJ : ClassId) (A0 : Nat → Prop) (ws : va_W) : Prop :=
  CallFix p m c cc nL s args Ts own ∧ zG A0 s s.heap ∧ va_K D vwCl [(cI, .int), (cJ, .long)] s ∧ va_D A0 ws ∧ meth.locks = false
section ZBODY
variable {l : Launch} {y : MethodName} {wds wds' : List Cond} {L : Nat} {D : va_G} {cI cJ : ClassId} {av : List Value} {ws : va_W} {S : Type} {post : S → Prop} {ws' : S → va_W} {cc : ByteArray} {maxL : Nat}
theorem zM_of {ret : Option FieldType} {rv : S → Option Value} (hy : plainName y.cls = true) (hw : wds = Cond.code y cc maxL ret :: wds') (hlen : (lg_sl av).length ≤ maxL)
    (body : ∀ (p : Program) (e : Env) (s : State) (m : MethodId) (args : Array Value) (below : List Frame) (meth : Method) (c : Code) (ls : Array Slot), zC p m c meth cc maxL s args wds y.cls D cI cJ (zA ws) ws → meth.sig.returnType = ret → lv_has ls maxL (lv_args 0 av) → va_P D vwCl ws s.heap → va_S (zA ws) s.heap s.heap [] → W p l e (zRm L 0 0) s m args below meth c s.heap [] 0 0 (MQ below (zQ D ws post rv ws') args s 0 0 (zA ws)) (F0 m 0 ls [])) : zM l y wds L D cI cJ av ws post rv ws' := by
  refine Met.ofW (cc := cc) (maxL := maxL) (ret := ret) hy hw ?_
  intro p e s m args below meth c s₁ B hml hv
  obtain ⟨rfl, hG, hP, hK, hD⟩ := hv
  have hl := lv_entry av (n := maxL) hlen
  rw [lg_entry_eq]
  exact body p e s m _ below meth c _ ⟨⟨B.exec, B.bytes, hml, findClass_of_methodNamed B.named, atoms_spec (ws := wds) B.pre⟩, hG, hK, ⟨hD.1, fun k q hk => ⟨k, q.2, hk⟩⟩, B.notSynchronized⟩ B.returns hl hP va_S.rf
theorem zM_i {r : S → Int32} (hy : plainName y.cls = true) (hw : wds = Cond.code y cc maxL (some .int) :: wds') (hlen : (lg_sl av).length ≤ maxL)
    (body : ∀ (p : Program) (e : Env) (s : State) (m : MethodId) (args : Array Value) (below : List Frame) (meth : Method) (c : Code) (ls : Array Slot) (A0 : Nat → Prop) (Q : State → Prop), zC p m c meth cc maxL s args wds y.cls D cI cJ A0 ws → lv_has ls maxL (lv_args 0 av) → va_P D vwCl ws s.heap → va_S A0 s.heap s.heap [] →
      (∀ (pc : Nat) (u : S) (H : Heap) (locs : List Loc) (ls : Array Slot), post u → va_P D vwCl (ws' u) H → va_S A0 s.heap H locs → decode cc pc = .ok (.ireturn, 1) → W p l e (zRm L 0 0) s m args below meth c H locs 0 0 Q (F0 m pc ls [.int (r u)])) → W p l e (zRm L 0 0) s m args below meth c s.heap [] 0 0 Q (F0 m 0 ls [])) : zM l y wds L D cI cJ av ws post (fun u => some (.int (r u))) ws' := by
  refine zM_of hy hw hlen ?_
  intro p e s m args below meth c ls C hr hl hP hS
  exact body p e s m args below meth c ls _ _ C hl hP hS (fun pc u H locs ls hu hP hS hd => W.iret C.1.1 C.1.2.1 hr (fun t ht hW => ⟨u, rfl, hu, by rw [ht]; exact hP, hS.F ht⟩) hS.2.2 hd C.2.2.2.2)
theorem zM_z {r : S → Int32} (hr9 : ∀ u, post u → r u = 0 ∨ r u = 1) (hy : plainName y.cls = true) (hw : wds = Cond.code y cc maxL (some .boolean) :: wds') (hlen : (lg_sl av).length ≤ maxL)
    (body : ∀ (p : Program) (e : Env) (s : State) (m : MethodId) (args : Array Value) (below : List Frame) (meth : Method) (c : Code) (ls : Array Slot) (A0 : Nat → Prop) (Q : State → Prop), zC p m c meth cc maxL s args wds y.cls D cI cJ A0 ws → lv_has ls maxL (lv_args 0 av) → va_P D vwCl ws s.heap → va_S A0 s.heap s.heap [] →
      (∀ (pc : Nat) (u : S) (H : Heap) (locs : List Loc) (ls : Array Slot), post u → va_P D vwCl (ws' u) H → va_S A0 s.heap H locs → decode cc pc = .ok (.ireturn, 1) → W p l e (zRm L 0 0) s m args below meth c H locs 0 0 Q (F0 m pc ls [.int (r u)])) → W p l e (zRm L 0 0) s m args below meth c s.heap [] 0 0 Q (F0 m 0 ls [])) : zM l y wds L D cI cJ av ws post (fun u => some (.int (r u))) ws' := by
  refine zM_of hy hw hlen ?_
  intro p e s m args below meth c ls C hr hl hP hS
  exact body p e s m args below meth c ls _ _ C hl hP hS (fun pc u H locs ls hu hP hS hd => W.zret C.1.1 C.1.2.1 hr (by rcases hr9 u hu with h | h <;> rw [h] <;> decide) (fun t ht hW => ⟨u, rfl, hu, by rw [ht]; exact hP, hS.F ht⟩) hS.2.2 hd C.2.2.2.2)
theorem zM_l {r : S → Int64} (hy : plainName y.cls = true) (hw : wds = Cond.code y cc maxL (some .long) :: wds') (hlen : (lg_sl av).length ≤ maxL)
    (body : ∀ (p : Program) (e : Env) (s : State) (m : MethodId) (args : Array Value) (below : List Frame) (meth : Method) (c : Code) (ls : Array Slot) (A0 : Nat → Prop) (Q : State → Prop), zC p m c meth cc maxL s args wds y.cls D cI cJ A0 ws → lv_has ls maxL (lv_args 0 av) → va_P D vwCl ws s.heap → va_S A0 s.heap s.heap [] →
      (∀ (pc : Nat) (u : S) (H : Heap) (locs : List Loc) (ls : Array Slot), post u → va_P D vwCl (ws' u) H → va_S A0 s.heap H locs → decode cc pc = .ok (.lreturn, 1) → W p l e (zRm L 0 0) s m args below meth c H locs 0 0 Q (F0 m pc ls [.long (r u)])) → W p l e (zRm L 0 0) s m args below meth c s.heap [] 0 0 Q (F0 m 0 ls [])) : zM l y wds L D cI cJ av ws post (fun u => some (.long (r u))) ws' := by
  refine zM_of hy hw hlen ?_
  intro p e s m args below meth c ls C hr hl hP hS
  exact body p e s m args below meth c ls _ _ C hl hP hS (fun pc u H locs ls hu hP hS hd => W.lret C.1.1 C.1.2.1 hr (fun t ht hW => ⟨u, rfl, hu, by rw [ht]; exact hP, hS.F ht⟩) hS.2.2 hd C.2.2.2.2)
theorem zM_v (hy : plainName y.cls = true) (hw : wds = Cond.code y cc maxL none :: wds') (hlen : (lg_sl av).length ≤ maxL)
    (body : ∀ (p : Program) (e : Env) (s : State) (m : MethodId) (args : Array Value) (below : List Frame) (meth : Method) (c : Code) (ls : Array Slot) (A0 : Nat → Prop) (Q : State → Prop), zC p m c meth cc maxL s args wds y.cls D cI cJ A0 ws → lv_has ls maxL (lv_args 0 av) → va_P D vwCl ws s.heap → va_S A0 s.heap s.heap [] →
      (∀ (pc : Nat) (u : S) (H : Heap) (locs : List Loc) (ls : Array Slot), post u → va_P D vwCl (ws' u) H → va_S A0 s.heap H locs → decode cc pc = .ok (.return_, 1) → W p l e (zRm L 0 0) s m args below meth c H locs 0 0 Q (F0 m pc ls [])) → W p l e (zRm L 0 0) s m args below meth c s.heap [] 0 0 Q (F0 m 0 ls [])) : zM l y wds L D cI cJ av ws post (fun _ => none) ws' := by
  refine zM_of hy hw hlen ?_
  intro p e s m args below meth c ls C hr hl hP hS
  exact body p e s m args below meth c ls _ _ C hl hP hS (fun pc u H locs ls hu hP hS hd => W.vret C.1.1 C.1.2.1 hr (fun t ht hW => ⟨u, rfl, hu, by rw [ht]; exact hP, hS.F ht⟩) hS.2.2 hd C.2.2.2.2)
end ZBODY
end
section
/-! the values in the document's words, over whole numbers of 32 and 64 bits -/
def zS (d : Int32) : Int32 := zSin (if 16 < d &&& 31 then 32 - (d &&& 31) else d &&& 31).toNatClampNeg
def zsn (d : Int32) : Int32 := if d &&& 32 = 0 then zS d else -(zS d)
def zcs (d : Int32) : Int32 := zsn (d + 16)
def zTurn (kd : Nat → Int32) (j : Nat) (v : Int32) : Int32 := if kd j = 0 then v else 0
def zDist (kd ln : Nat → Int32) (j : Nat) (v : Int32) : Int32 := if kd j = 0 then ln j else ln j + v
def zHeldC (lo hi v : Int32) : Int32 := if lo < (if v < hi then v else hi) then (if v < hi then v else hi) else lo
/-- the heading behind the first j joints, of a pose -/
def zH (kd p : Nat → Int32) : Nat → Int32
  | 0 => 0
  | j + 1 => (zH kd p j + zTurn kd j (p j)) &&& 63
def zX (kd ln p : Nat → Int32) : Nat → Int32
  | 0 => 0
  | j + 1 => zX kd ln p j + zDist kd ln j (p j) * zcs (zH kd p (j + 1))
def zY (kd ln p : Nat → Int32) : Nat → Int32
  | 0 => 0
  | j + 1 => zY kd ln p j + zDist kd ln j (p j) * zsn (zH kd p (j + 1))
/-- the sum of the turns, not yet within a full turn -/
def zHs (kd p : Nat → Int32) : Nat → Int32
  | 0 => 0
  | j + 1 => zHs kd p j + zTurn kd j (p j)
/-- a pose with another value of one joint -/
def zPo (vl : Nat → Int32) (o ov : Int32) (j : Nat) : Int32 := if nI j = o then ov else vl j
def zFar (gx gy x y : Int32) : Int64 := (x.toInt64 - gx.toInt64) * (x.toInt64 - gx.toInt64) + (y.toInt64 - gy.toInt64) * (y.toInt64 - gy.toInt64)
def zAbs (x : Int32) : Int32 := if 0 ≤ x then x else 0 - x
def zIn (most gx gy x y : Int32) : Int32 := if zAbs (x - gx) ≤ most ∧ zAbs (y - gy) ≤ most then 1 else 0
def zPoses (lo hi : Nat → Int32) : Nat → Int64
  | 0 => 1
  | j + 1 => zPoses lo hi j * (hi j - lo j + 1).toInt64
theorem zin1 {d : Int32} (h : ¬ 16 < d &&& 31) : vp_in (d &&& 31) 17 := by
  obtain ⟨j, hj, e⟩ := pk_andE d (m := 31) 5 (by decide)
  rw [e] at h ⊢
  have hj : j < 32 := hj
  have h2 : ¬ nI 16 < nI j := h
  rw [nI_ltI (by omega) (by omega)] at h2
  exact vp_in_nI (by omega) (by omega)
theorem zin2 {d : Int32} (h : 16 < d &&& 31) : vp_in (32 - (d &&& 31)) 17 := by
  obtain ⟨j, hj, e⟩ := pk_andE d (m := 31) 5 (by decide)
  rw [e] at h ⊢
  have hj : j < 32 := hj
  have h2 : nI 16 < nI j := h
  rw [nI_ltI (by omega) (by omega)] at h2
  have h3 : (32 : Int32) - nI j = nI (32 - j) := pk_sub (a := 32) (b := j) (by omega)
  rw [h3]
  exact vp_in_nI (by omega) (by omega)
theorem z63 (x : Int32) : ∃ j : Nat, j < 64 ∧ x &&& 63 = nI j := pk_andE x (m := 63) 6 (by decide)
theorem zdec (x : Int32) : x + Int32.ofInt (-1) = x - 1 := by
  rw [Int32.sub_eq_add_neg]; rfl
theorem zlt_pred {m i : Nat} (hm : m ≤ 5) (hi : i ≤ 5) : (nI m - 1 < nI i) ↔ m ≤ i := by
  have h : ∀ m < 6, ∀ i < 6, (nI m - 1 < nI i) ↔ m ≤ i := by decide +kernel
  exact h m (by omega) i (by omega)
theorem zlt0_pred {m : Nat} (hm : m ≤ 5) : (nI m - 1 < 0) ↔ m = 0 := by
  have h : ∀ m < 6, (nI m - 1 < 0) ↔ m = 0 := by decide +kernel
  exact h m (by omega)
theorem zand63 (x t : Int32) : ((x &&& 63) + t) &&& 63 = (x + t) &&& 63 := by
  rw [pk_and ((x &&& 63) + t) (m := 63) 6 (by decide), pk_and (x + t) (m := 63) 6 (by decide), pk_and x (m := 63) 6 (by decide)]
  congr 1
  have h1 : (nI (x.toBitVec.toNat % 2 ^ 6) + t).toBitVec.toNat = (x.toBitVec.toNat % 64 + t.toBitVec.toNat) % 2 ^ 32 := by
    rw [Int32.toBitVec_add, BitVec.toNat_add, pk_tn (Nat.lt_of_lt_of_le (Nat.mod_lt _ (by decide)) (by decide))]
  have h2 : (x + t).toBitVec.toNat = (x.toBitVec.toNat + t.toBitVec.toNat) % 2 ^ 32 := by
    rw [Int32.toBitVec_add, BitVec.toNat_add]
  rw [h1, h2]
  omega
theorem zHs_H (kd p : Nat → Int32) : ∀ j, zHs kd p j &&& 63 = zH kd p j
  | 0 => by simp [zHs, zH]
  | j + 1 => by
    show (zHs kd p j + zTurn kd j (p j)) &&& 63 = (zH kd p j + zTurn kd j (p j)) &&& 63
    rw [← zHs_H kd p j, zand63]
theorem zH_congr {kd p q : Nat → Int32} : ∀ {n : Nat}, (∀ j, j < n → p j = q j) → zH kd p n = zH kd q n
  | 0, _ => rfl
  | n + 1, h => by
    show (zH kd p n + _) &&& 63 = (zH kd q n + _) &&& 63
    rw [zH_congr (n := n) (fun j hj => h j (by omega)), h n (by omega)]
theorem zX_congr {kd ln p q : Nat → Int32} : ∀ {n : Nat}, (∀ j, j < n → p j = q j) → zX kd ln p n = zX kd ln q n
  | 0, _ => rfl
  | n + 1, h => by
    show zX kd ln p n + _ = zX kd ln q n + _
    rw [zX_congr (n := n) (fun j hj => h j (by omega)), h n (by omega), zH_congr (n := n + 1) h]
theorem zY_congr {kd ln p q : Nat → Int32} : ∀ {n : Nat}, (∀ j, j < n → p j = q j) → zY kd ln p n = zY kd ln q n
  | 0, _ => rfl
  | n + 1, h => by
    show zY kd ln p n + _ = zY kd ln q n + _
    rw [zY_congr (n := n) (fun j hj => h j (by omega)), h n (by omega), zH_congr (n := n + 1) h]
theorem zPo_m1 {vl : Nat → Int32} {n : Nat} (hn : n ≤ 5) (j : Nat) (hj : j < n) : zPo vl (-1) 0 j = vl j := by
  have h : ∀ j < 6, ¬ nI j = -1 := by decide +kernel
  simp [zPo, h j (by omega)]
theorem zback (x y z w : Int32) (h : x + (y + z) = w) : (x + z) + y = w := by
  rw [← h, Int32.add_assoc, Int32.add_comm z y]
end
section
set_option maxHeartbeats 4000000 in
set_option maxRecDepth 100000 in
theorem c_X5_sine (l : Launch) (D : va_G) (cI cJ : ClassId) (d : Int32)  : zM l yX5_sine wsX5_sine 0 D cI cJ [.int d] [] (fun (u : Int32) => u = zsn d) (fun (u : Int32) => some (.int u)) (fun (u : Int32) => []) := by
  refine zM_i (cc := cX5_sine) (maxL := 3) (r := fun (u : Int32) => u) (by decide) rfl (Nat.le_of_ble_eq_true rfl) ?_
  intro p e s m args below meth c ls A0 Q C hl hP hS hRet
  obtain ⟨⟨hx, hb, hml, hown, hts⟩, hG, hK, hD, hlocks⟩ := C
  have hl : lv_has ls 3 [(0, .int d)] := hl
  refine lv_iload_n hx hb dX5_sine_0 rfl (lv_at hl 0 rfl) ?_
  refine lv_bipush (v := 31) hx hb dX5_sine_1 (by decide) ?_
  refine lv_iand hx hb dX5_sine_3 ?_
  refine lv_istore_n (lv' := [(1, .int (d &&& 31)), (0, .int d)]) hx hb dX5_sine_4 rfl hl (by decide) rfl (fun ls hl => ?_)
  obtain ⟨tS, hZs, hTs⟩ := hG.2.1
  refine va_gets (own := RX5) (ref := "ArmRoom") hx hb hZs hS hown (hts (.fieldLink RX5 199 "ArmRoom" "SINES" "[I") (by decide +kernel)) (fun _ h9 => h9) dX5_sine_5 ?_
  refine lv_iload_n hx hb dX5_sine_8 rfl (lv_at hl 0 rfl) ?_
  refine lv_bipush (v := 16) hx hb dX5_sine_9 (by decide) ?_
  refine lv_icmp_gt (tgt := 18) hx hb dX5_sine_11 (by decide) (fun c_11 => ?_) (fun c_11 => ?_)
  · refine lv_bipush (v := 32) hx hb dX5_sine_18 (by decide) ?_
    refine lv_iload_n hx hb dX5_sine_20 rfl (lv_at hl 0 rfl) ?_
    refine lv_isub hx hb dX5_sine_21 ?_
    refine va_ti (v := .int (zSin (32 - (d &&& 31)).toNatClampNeg)) hx hb hTs hS (zin2 c_11) rfl dX5_sine_22 ?_
    refine lv_istore_n (lv' := [(2, .int (zSin (32 - (d &&& 31)).toNatClampNeg)), (1, .int (d &&& 31)), (0, .int d)]) hx hb dX5_sine_23 rfl hl (by decide) rfl (fun ls hl => ?_)
    refine lv_iload_n hx hb dX5_sine_24 rfl (lv_at hl 2 rfl) ?_
    refine lv_bipush (v := 32) hx hb dX5_sine_25 (by decide) ?_
    refine lv_iand hx hb dX5_sine_27 ?_
    refine lv_if_ne (tgt := 35) hx hb dX5_sine_28 (by decide) (fun c_28 => ?_) (fun c_28 => ?_)
    · refine lv_iload_n hx hb dX5_sine_35 rfl (lv_at hl 0 rfl) ?_
      refine lv_ineg hx hb dX5_sine_36 ?_
      exact hRet _ (-(zSin (32 - (d &&& 31)).toNatClampNeg)) _ _ _ (by simp [zsn, zS, c_11, c_28]) hP hS dX5_sine_37
    · refine lv_iload_n hx hb dX5_sine_31 rfl (lv_at hl 0 rfl) ?_
      refine lv_goto (tgt := 37) hx hb dX5_sine_32 (by decide) ?_
      exact hRet _ (zSin (32 - (d &&& 31)).toNatClampNeg) _ _ _ (by simp [zsn, zS, c_11, c_28]) hP hS dX5_sine_37
  · refine lv_iload_n hx hb dX5_sine_14 rfl (lv_at hl 0 rfl) ?_
    refine lv_goto (tgt := 22) hx hb dX5_sine_15 (by decide) ?_
    refine va_ti (v := .int (zSin (d &&& 31).toNatClampNeg)) hx hb hTs hS (zin1 c_11) rfl dX5_sine_22 ?_
    refine lv_istore_n (lv' := [(2, .int (zSin (d &&& 31).toNatClampNeg)), (1, .int (d &&& 31)), (0, .int d)]) hx hb dX5_sine_23 rfl hl (by decide) rfl (fun ls hl => ?_)
    refine lv_iload_n hx hb dX5_sine_24 rfl (lv_at hl 2 rfl) ?_
    refine lv_bipush (v := 32) hx hb dX5_sine_25 (by decide) ?_
    refine lv_iand hx hb dX5_sine_27 ?_
    refine lv_if_ne (tgt := 35) hx hb dX5_sine_28 (by decide) (fun c_28 => ?_) (fun c_28 => ?_)
    · refine lv_iload_n hx hb dX5_sine_35 rfl (lv_at hl 0 rfl) ?_
      refine lv_ineg hx hb dX5_sine_36 ?_
      exact hRet _ (-(zSin (d &&& 31).toNatClampNeg)) _ _ _ (by simp [zsn, zS, c_11, c_28]) hP hS dX5_sine_37
    · refine lv_iload_n hx hb dX5_sine_31 rfl (lv_at hl 0 rfl) ?_
      refine lv_goto (tgt := 37) hx hb dX5_sine_32 (by decide) ?_
      exact hRet _ (zSin (d &&& 31).toNatClampNeg) _ _ _ (by simp [zsn, zS, c_11, c_28]) hP hS dX5_sine_37

set_option maxHeartbeats 4000000 in
set_option maxRecDepth 100000 in
theorem c_X5_cosine (l : Launch) (D : va_G) (cI cJ : ClassId) (d : Int32)  : zM l yX5_cosine wsX5_cosine 1 D cI cJ [.int d] [] (fun (u : Int32) => u = zcs d) (fun (u : Int32) => some (.int u)) (fun (u : Int32) => []) := by
  refine zM_i (cc := cX5_cosine) (maxL := 1) (r := fun (u : Int32) => u) (by decide) rfl (Nat.le_of_ble_eq_true rfl) ?_
  intro p e s m args below meth c ls A0 Q C hl hP hS hRet
  obtain ⟨⟨hx, hb, hml, hown, hts⟩, hG, hK, hD, hlocks⟩ := C
  have hl : lv_has ls 1 [(0, .int d)] := hl
  refine lv_iload_n hx hb dX5_cosine_0 rfl (lv_at hl 0 rfl) ?_
  refine lv_bipush (v := 16) hx hb dX5_cosine_1 (by decide) ?_
  refine lv_iadd hx hb dX5_cosine_3 ?_
  refine z_callS (As := [.int (d + 16)]) (rest := []) ⟨hx, hb, hml, hown, hts⟩ hG hK hP hD hS (c_X5_sine l D cI cJ (d + 16) ) (va_cwS 1 hts gX5_cosine_X5_sine rfl rfl rfl (by decide +kernel) ⟨Nat.le_of_ble_eq_true rfl, Nat.le_of_ble_eq_true rfl⟩) [] (by decide) rfl (fun _ => rfl) rfl hl.1 rfl (Nat.le_of_ble_eq_true rfl) dX5_cosine_4 ⟨Nat.le_refl _, Nat.le_refl _⟩ (fun u_1 H locs hu_2 hP hD hS => ?_)
  obtain ⟨r_3, rfl⟩ : ∃ z, z = u_1 := ⟨_, rfl⟩
  have hu_2 : r_3 = zsn (d + 16) := hu_2
  have e_4 := hu_2
  subst e_4
  have hP : va_P D vwCl [] H := hP
  have hD : va_D A0 [] := hD
  exact hRet _ ((zsn (d + 16))) _ _ _ (by first | rfl | assumption | omega | simp_all) hP hS dX5_cosine_7

set_option maxHeartbeats 4000000 in
set_option maxRecDepth 100000 in
theorem c_X0_turnOf (l : Launch) (D : va_G) (cI cJ : ClassId) (a : Nat) (k1 : Nat) (k2 : Nat) (k3 : Nat) (k4 : Nat) (k5 : Nat) (n : Nat) (kd : Nat → Int32) (ln : Nat → Int32) (lo : Nat → Int32) (hi : Nat → Int32) (vl : Nat → Int32) (j : Nat) (v : Int32) (hj : j < 5) : zM l yX0_turnOf wsX0_turnOf 0 D cI cJ [.ref a, .int (nI j), .int v] [(a, .inr (0, [.ref k1, .ref k2, .ref k3, .ref k4, .ref k5, .int (nI n)])), (k1, .inl (cI, 5, .inl kd)), (k2, .inl (cI, 5, .inl ln)), (k3, .inl (cI, 5, .inl lo)), (k4, .inl (cI, 5, .inl hi)), (k5, .inl (cI, 5, .inl vl))] (fun (u : Int32) => u = zTurn kd j v) (fun (u : Int32) => some (.int u)) (fun (u : Int32) => [(a, .inr (0, [.ref k1, .ref k2, .ref k3, .ref k4, .ref k5, .int (nI n)])), (k1, .inl (cI, 5, .inl kd)), (k2, .inl (cI, 5, .inl ln)), (k3, .inl (cI, 5, .inl lo)), (k4, .inl (cI, 5, .inl hi)), (k5, .inl (cI, 5, .inl vl))]) := by
  refine zM_i (cc := cX0_turnOf) (maxL := 3) (r := fun (u : Int32) => u) (by decide) rfl (Nat.le_of_ble_eq_true rfl) ?_
  intro p e s m args below meth c ls A0 Q C hl hP hS hRet
  obtain ⟨⟨hx, hb, hml, hown, hts⟩, hG, hK, hD, hlocks⟩ := C
  have hin0 : ∀ w ∈ u_ws RX0 TX0 6, w ∈ wsX0_turnOf := by decide +kernel
  have hf9 := hts (.fieldLink RX0 9 "ArmRoom$Arm" "kinds" "[I") (by decide +kernel)
  have hl : lv_has ls 3 [(0, .ref a), (1, .int (nI j)), (2, .int v)] := hl
  refine lv_aload_n hx hb dX0_turnOf_0 rfl (lv_at hl 0 rfl) ?_
  refine va_get (D := D) (ci := 0) (v := .ref k1) (C := RX0) (T := TX0) (N := 6) hx hb hts hin0 hown hK hP 0 rfl rfl 0 (by decide) hf9 (fun _ h9 => h9) rfl dX0_turnOf_1 ?_
  refine lv_iload_n hx hb dX0_turnOf_4 rfl (lv_at hl 1 rfl) ?_
  refine z_iald hx hb hK hP 1 rfl (j := j) (by omega) (by decide) dX0_turnOf_5 ?_
  refine lv_if_ne (tgt := 13) hx hb dX0_turnOf_6 (by decide) (fun c_6 => ?_) (fun c_6 => ?_)
  · refine lv_iconst (v := 0) hx hb dX0_turnOf_13 (by decide) ?_
    exact hRet _ (0) _ _ _ (by simp [zTurn, c_6]) hP hS dX0_turnOf_14
  · refine lv_iload_n hx hb dX0_turnOf_9 rfl (lv_at hl 2 rfl) ?_
    refine lv_goto (tgt := 14) hx hb dX0_turnOf_10 (by decide) ?_
    exact hRet _ (v) _ _ _ (by simp [zTurn, c_6]) hP hS dX0_turnOf_14

set_option maxHeartbeats 4000000 in
set_option maxRecDepth 100000 in
theorem c_X0_distanceOf (l : Launch) (D : va_G) (cI cJ : ClassId) (a : Nat) (k1 : Nat) (k2 : Nat) (k3 : Nat) (k4 : Nat) (k5 : Nat) (n : Nat) (kd : Nat → Int32) (ln : Nat → Int32) (lo : Nat → Int32) (hi : Nat → Int32) (vl : Nat → Int32) (j : Nat) (v : Int32) (hj : j < 5) : zM l yX0_distanceOf wsX0_distanceOf 0 D cI cJ [.ref a, .int (nI j), .int v] [(a, .inr (0, [.ref k1, .ref k2, .ref k3, .ref k4, .ref k5, .int (nI n)])), (k1, .inl (cI, 5, .inl kd)), (k2, .inl (cI, 5, .inl ln)), (k3, .inl (cI, 5, .inl lo)), (k4, .inl (cI, 5, .inl hi)), (k5, .inl (cI, 5, .inl vl))] (fun (u : Int32) => u = zDist kd ln j v) (fun (u : Int32) => some (.int u)) (fun (u : Int32) => [(a, .inr (0, [.ref k1, .ref k2, .ref k3, .ref k4, .ref k5, .int (nI n)])), (k1, .inl (cI, 5, .inl kd)), (k2, .inl (cI, 5, .inl ln)), (k3, .inl (cI, 5, .inl lo)), (k4, .inl (cI, 5, .inl hi)), (k5, .inl (cI, 5, .inl vl))]) := by
  refine zM_i (cc := cX0_distanceOf) (maxL := 3) (r := fun (u : Int32) => u) (by decide) rfl (Nat.le_of_ble_eq_true rfl) ?_
  intro p e s m args below meth c ls A0 Q C hl hP hS hRet
  obtain ⟨⟨hx, hb, hml, hown, hts⟩, hG, hK, hD, hlocks⟩ := C
  have hin0 : ∀ w ∈ u_ws RX0 TX0 6, w ∈ wsX0_distanceOf := by decide +kernel
  have hf9 := hts (.fieldLink RX0 9 "ArmRoom$Arm" "kinds" "[I") (by decide +kernel)
  have hf15 := hts (.fieldLink RX0 15 "ArmRoom$Arm" "lengths" "[I") (by decide +kernel)
  have hl : lv_has ls 3 [(0, .ref a), (1, .int (nI j)), (2, .int v)] := hl
  refine lv_aload_n hx hb dX0_distanceOf_0 rfl (lv_at hl 0 rfl) ?_
  refine va_get (D := D) (ci := 0) (v := .ref k1) (C := RX0) (T := TX0) (N := 6) hx hb hts hin0 hown hK hP 0 rfl rfl 0 (by decide) hf9 (fun _ h9 => h9) rfl dX0_distanceOf_1 ?_
  refine lv_iload_n hx hb dX0_distanceOf_4 rfl (lv_at hl 1 rfl) ?_
  refine z_iald hx hb hK hP 1 rfl (j := j) (by omega) (by decide) dX0_distanceOf_5 ?_
  refine lv_if_ne (tgt := 18) hx hb dX0_distanceOf_6 (by decide) (fun c_6 => ?_) (fun c_6 => ?_)
  · refine lv_aload_n hx hb dX0_distanceOf_18 rfl (lv_at hl 0 rfl) ?_
    refine va_get (D := D) (ci := 0) (v := .ref k2) (C := RX0) (T := TX0) (N := 6) hx hb hts hin0 hown hK hP 0 rfl rfl 1 (by decide) hf15 (fun _ h9 => h9) rfl dX0_distanceOf_19 ?_
    refine lv_iload_n hx hb dX0_distanceOf_22 rfl (lv_at hl 1 rfl) ?_
    refine z_iald hx hb hK hP 2 rfl (j := j) (by omega) (by decide) dX0_distanceOf_23 ?_
    refine lv_iload_n hx hb dX0_distanceOf_24 rfl (lv_at hl 2 rfl) ?_
    refine lv_iadd hx hb dX0_distanceOf_25 ?_
    exact hRet _ ((ln j) + v) _ _ _ (by simp [zDist, c_6]) hP hS dX0_distanceOf_26
  · refine lv_aload_n hx hb dX0_distanceOf_9 rfl (lv_at hl 0 rfl) ?_
    refine va_get (D := D) (ci := 0) (v := .ref k2) (C := RX0) (T := TX0) (N := 6) hx hb hts hin0 hown hK hP 0 rfl rfl 1 (by decide) hf15 (fun _ h9 => h9) rfl dX0_distanceOf_10 ?_
    refine lv_iload_n hx hb dX0_distanceOf_13 rfl (lv_at hl 1 rfl) ?_
    refine z_iald hx hb hK hP 2 rfl (j := j) (by omega) (by decide) dX0_distanceOf_14 ?_
    refine lv_goto (tgt := 26) hx hb dX0_distanceOf_15 (by decide) ?_
    exact hRet _ (ln j) _ _ _ (by simp [zDist, c_6]) hP hS dX0_distanceOf_26

set_option maxHeartbeats 4000000 in
set_option maxRecDepth 100000 in
theorem c_X0_held (l : Launch) (D : va_G) (cI cJ : ClassId) (a : Nat) (k1 : Nat) (k2 : Nat) (k3 : Nat) (k4 : Nat) (k5 : Nat) (n : Nat) (kd : Nat → Int32) (ln : Nat → Int32) (lo : Nat → Int32) (hi : Nat → Int32) (vl : Nat → Int32) (j : Nat) (v : Int32) (hj : j < 5) : zM l yX0_held wsX0_held 0 D cI cJ [.ref a, .int (nI j), .int v] [(a, .inr (0, [.ref k1, .ref k2, .ref k3, .ref k4, .ref k5, .int (nI n)])), (k1, .inl (cI, 5, .inl kd)), (k2, .inl (cI, 5, .inl ln)), (k3, .inl (cI, 5, .inl lo)), (k4, .inl (cI, 5, .inl hi)), (k5, .inl (cI, 5, .inl vl))] (fun (u : Int32) => u = zHeldC (lo j) (hi j) v) (fun (u : Int32) => some (.int u)) (fun (u : Int32) => [(a, .inr (0, [.ref k1, .ref k2, .ref k3, .ref k4, .ref k5, .int (nI n)])), (k1, .inl (cI, 5, .inl kd)), (k2, .inl (cI, 5, .inl ln)), (k3, .inl (cI, 5, .inl lo)), (k4, .inl (cI, 5, .inl hi)), (k5, .inl (cI, 5, .inl vl))]) := by
  refine zM_i (cc := cX0_held) (maxL := 3) (r := fun (u : Int32) => u) (by decide) rfl (Nat.le_of_ble_eq_true rfl) ?_
  intro p e s m args below meth c ls A0 Q C hl hP hS hRet
  obtain ⟨⟨hx, hb, hml, hown, hts⟩, hG, hK, hD, hlocks⟩ := C
  have hin0 : ∀ w ∈ u_ws RX0 TX0 6, w ∈ wsX0_held := by decide +kernel
  have hf18 := hts (.fieldLink RX0 18 "ArmRoom$Arm" "lows" "[I") (by decide +kernel)
  have hf21 := hts (.fieldLink RX0 21 "ArmRoom$Arm" "highs" "[I") (by decide +kernel)
  have hl : lv_has ls 3 [(0, .ref a), (1, .int (nI j)), (2, .int v)] := hl
  refine lv_aload_n hx hb dX0_held_0 rfl (lv_at hl 0 rfl) ?_
  refine va_get (D := D) (ci := 0) (v := .ref k3) (C := RX0) (T := TX0) (N := 6) hx hb hts hin0 hown hK hP 0 rfl rfl 2 (by decide) hf18 (fun _ h9 => h9) rfl dX0_held_1 ?_
  refine lv_iload_n hx hb dX0_held_4 rfl (lv_at hl 1 rfl) ?_
  refine z_iald hx hb hK hP 3 rfl (j := j) (by omega) (by decide) dX0_held_5 ?_
  refine lv_aload_n hx hb dX0_held_6 rfl (lv_at hl 0 rfl) ?_
  refine va_get (D := D) (ci := 0) (v := .ref k4) (C := RX0) (T := TX0) (N := 6) hx hb hts hin0 hown hK hP 0 rfl rfl 3 (by decide) hf21 (fun _ h9 => h9) rfl dX0_held_7 ?_
  refine lv_iload_n hx hb dX0_held_10 rfl (lv_at hl 1 rfl) ?_
  refine z_iald hx hb hK hP 4 rfl (j := j) (by omega) (by decide) dX0_held_11 ?_
  refine lv_iload_n hx hb dX0_held_12 rfl (lv_at hl 2 rfl) ?_
  refine va_mmin hx hb (by rw [hml]; exact hl.1.symm) hown (hts (.methodLink RX0 35 Lib.Math.min.name) (by decide +kernel)) (hts (.static Lib.Math.min.name) (by decide +kernel)) (hts (.initialized "java/lang/Math") (by decide +kernel)) (hts (.code Lib.Math.min.name Lib.Math.min.code 2 (some .int)) (by decide +kernel)) (Nat.le_of_ble_eq_true rfl) (Nat.le_of_ble_eq_true rfl) (Nat.le_refl _) (Nat.le_refl _) dX0_held_13 ?_
  refine va_mmax hx hb (by rw [hml]; exact hl.1.symm) hown (hts (.methodLink RX0 40 Lib.Math.max.name) (by decide +kernel)) (hts (.static Lib.Math.max.name) (by decide +kernel)) (hts (.initialized "java/lang/Math") (by decide +kernel)) (hts (.code Lib.Math.max.name Lib.Math.max.code 2 (some .int)) (by decide +kernel)) (Nat.le_of_ble_eq_true rfl) (Nat.le_of_ble_eq_true rfl) (Nat.le_refl _) (Nat.le_refl _) dX0_held_16 ?_
  exact hRet _ (if (lo j) < (if v < (hi j) then v else (hi j)) then (if v < (hi j) then v else (hi j)) else (lo j)) _ _ _ (rfl) hP hS dX0_held_19

set_option maxHeartbeats 4000000 in
set_option maxRecDepth 100000 in
theorem c_X0_isFull (l : Launch) (D : va_G) (cI cJ : ClassId) (a : Nat) (k1 : Nat) (k2 : Nat) (k3 : Nat) (k4 : Nat) (k5 : Nat) (n : Nat) (kd : Nat → Int32) (ln : Nat → Int32) (lo : Nat → Int32) (hi : Nat → Int32) (vl : Nat → Int32) (hn : n ≤ 5) : zM l yX0_isFull wsX0_isFull 0 D cI cJ [.ref a] [(a, .inr (0, [.ref k1, .ref k2, .ref k3, .ref k4, .ref k5, .int (nI n)])), (k1, .inl (cI, 5, .inl kd)), (k2, .inl (cI, 5, .inl ln)), (k3, .inl (cI, 5, .inl lo)), (k4, .inl (cI, 5, .inl hi)), (k5, .inl (cI, 5, .inl vl))] (fun (u : Int32) => u = if 5 ≤ n then 1 else 0) (fun (u : Int32) => some (.int u)) (fun (u : Int32) => [(a, .inr (0, [.ref k1, .ref k2, .ref k3, .ref k4, .ref k5, .int (nI n)])), (k1, .inl (cI, 5, .inl kd)), (k2, .inl (cI, 5, .inl ln)), (k3, .inl (cI, 5, .inl lo)), (k4, .inl (cI, 5, .inl hi)), (k5, .inl (cI, 5, .inl vl))]) := by
  refine zM_z (cc := cX0_isFull) (maxL := 1) (r := fun (u : Int32) => u) (fun u h => by simp only [h]; split <;> simp) (by decide) rfl (Nat.le_of_ble_eq_true rfl) ?_
  intro p e s m args below meth c ls A0 Q C hl hP hS hRet
  obtain ⟨⟨hx, hb, hml, hown, hts⟩, hG, hK, hD, hlocks⟩ := C
  have hin0 : ∀ w ∈ u_ws RX0 TX0 6, w ∈ wsX0_isFull := by decide +kernel
  have hf27 := hts (.fieldLink RX0 27 "ArmRoom$Arm" "count" "I") (by decide +kernel)
  have hl : lv_has ls 1 [(0, .ref a)] := hl
  refine lv_aload_n hx hb dX0_isFull_0 rfl (lv_at hl 0 rfl) ?_
  refine va_get (D := D) (ci := 0) (v := .int (nI n)) (C := RX0) (T := TX0) (N := 6) hx hb hts hin0 hown hK hP 0 rfl rfl 5 (by decide) hf27 (fun _ h9 => h9) rfl dX0_isFull_1 ?_
  refine lv_iconst (v := nI 5) hx hb dX0_isFull_4 (rfl) ?_
  refine lv_icmp_lt (tgt := 12) hx hb dX0_isFull_5 (by decide) (fun c_5 => ?_) (fun c_5 => ?_)
  · rw [nI_ltI (by omega) (by omega)] at c_5
    refine lv_iconst (v := 0) hx hb dX0_isFull_12 (by decide) ?_
    exact hRet _ (0) _ _ _ (by simp; omega) hP hS dX0_isFull_13
  · rw [nI_ltI (by omega) (by omega)] at c_5
    refine lv_iconst (v := 1) hx hb dX0_isFull_8 (by decide) ?_
    refine lv_goto (tgt := 13) hx hb dX0_isFull_9 (by decide) ?_
    exact hRet _ (1) _ _ _ (by simp; omega) hP hS dX0_isFull_13
end
section
set_option maxHeartbeats 4000000 in
set_option maxRecDepth 100000 in
theorem c_X0_headingAt (l : Launch) (D : va_G) (cI cJ : ClassId) (a : Nat) (k1 : Nat) (k2 : Nat) (k3 : Nat) (k4 : Nat) (k5 : Nat) (n : Nat) (kd : Nat → Int32) (ln : Nat → Int32) (lo : Nat → Int32) (hi : Nat → Int32) (vl : Nat → Int32) (mm : Nat) (hn : n ≤ 5) (hm : mm ≤ 5) : zM l yX0_headingAt wsX0_headingAt 1 D cI cJ [.ref a, .int (nI mm - 1)] [(a, .inr (0, [.ref k1, .ref k2, .ref k3, .ref k4, .ref k5, .int (nI n)])), (k1, .inl (cI, 5, .inl kd)), (k2, .inl (cI, 5, .inl ln)), (k3, .inl (cI, 5, .inl lo)), (k4, .inl (cI, 5, .inl hi)), (k5, .inl (cI, 5, .inl vl))] (fun (u : Int32) => u = zH kd vl mm) (fun (u : Int32) => some (.int u)) (fun (u : Int32) => [(a, .inr (0, [.ref k1, .ref k2, .ref k3, .ref k4, .ref k5, .int (nI n)])), (k1, .inl (cI, 5, .inl kd)), (k2, .inl (cI, 5, .inl ln)), (k3, .inl (cI, 5, .inl lo)), (k4, .inl (cI, 5, .inl hi)), (k5, .inl (cI, 5, .inl vl))]) := by
  refine zM_i (cc := cX0_headingAt) (maxL := 4) (r := fun (u : Int32) => u) (by decide) rfl (Nat.le_of_ble_eq_true rfl) ?_
  intro p e s m args below meth c ls A0 Q C hl hP hS hRet
  obtain ⟨⟨hx, hb, hml, hown, hts⟩, hG, hK, hD, hlocks⟩ := C
  have hin0 : ∀ w ∈ u_ws RX0 TX0 6, w ∈ wsX0_headingAt := by decide +kernel
  have hf24 := hts (.fieldLink RX0 24 "ArmRoom$Arm" "values" "[I") (by decide +kernel)
  have hl : lv_has ls 4 [(0, .ref a), (1, .int (nI mm - 1))] := hl
  refine lv_iconst (v := 0) hx hb dX0_headingAt_0 (by decide) ?_
  refine lv_istore_n (lv' := [(2, .int 0), (0, .ref a), (1, .int (nI mm - 1))]) hx hb dX0_headingAt_1 rfl hl (by decide) rfl (fun ls hl => ?_)
  refine lv_iconst (v := 0) hx hb dX0_headingAt_2 (by decide) ?_
  refine lv_istore_n (lv' := [(3, .int 0), (2, .int 0), (0, .ref a), (1, .int (nI mm - 1))]) hx hb dX0_headingAt_3 rfl hl (by decide) rfl (fun ls hl => ?_)
  have lp_4_1 : ∀ (fu : Nat) (i : Nat), i ≤ mm → (mm - i < fu) → ∀ (H : Heap) (locs : List Loc), va_P D vwCl [(a, .inr (0, [.ref k1, .ref k2, .ref k3, .ref k4, .ref k5, .int (nI n)])), (k1, .inl (cI, 5, .inl kd)), (k2, .inl (cI, 5, .inl ln)), (k3, .inl (cI, 5, .inl lo)), (k4, .inl (cI, 5, .inl hi)), (k5, .inl (cI, 5, .inl vl))] H → va_D A0 [(a, .inr (0, [.ref k1, .ref k2, .ref k3, .ref k4, .ref k5, .int (nI n)])), (k1, .inl (cI, 5, .inl kd)), (k2, .inl (cI, 5, .inl ln)), (k3, .inl (cI, 5, .inl lo)), (k4, .inl (cI, 5, .inl hi)), (k5, .inl (cI, 5, .inl vl))] → va_S A0 s.heap H locs → ∀ (ls : Array Slot), lv_has ls 4 [(0, .ref a), (1, .int (nI mm - 1)), (2, .int (zHs kd vl i)), (3, .int (nI i))] → W p l e (zRm 1 0 0) s m args below meth c H locs 0 0 Q (F0 m 4 ls []) := by
    intro fu
    induction fu with
    | zero => intro i hi1 hfu; exact absurd hfu (Nat.not_lt_zero _)
    | succ fu ih_4_1 =>
      intro i hi1 hfu H locs hP hD hS ls hl
      refine lv_iload_n hx hb dX0_headingAt_4 rfl (lv_at hl 3 rfl) ?_
      refine lv_iload_n hx hb dX0_headingAt_5 rfl (lv_at hl 1 rfl) ?_
      refine lv_icmp_gt (tgt := 29) hx hb dX0_headingAt_6 (by decide) (fun c_6 => ?_) (fun c_6 => ?_)
      · have c_6 := (zlt_pred hm (by omega)).mp c_6
        obtain rfl : mm = i := by omega
        refine lv_iload_n hx hb dX0_headingAt_29 rfl (lv_at hl 2 rfl) ?_
        refine lv_bipush (v := 63) hx hb dX0_headingAt_30 (by decide) ?_
        refine lv_iand hx hb dX0_headingAt_32 ?_
        exact hRet _ ((zHs kd vl mm) &&& 63) _ _ _ (zHs_H kd vl mm) hP hS dX0_headingAt_33
      · have c_6 := fun h => c_6 ((zlt_pred hm (by omega)).mpr h)
        have hi2 : i < mm := Nat.lt_of_not_le c_6
        refine lv_iload_n hx hb dX0_headingAt_9 rfl (lv_at hl 2 rfl) ?_
        refine lv_aload_n hx hb dX0_headingAt_10 rfl (lv_at hl 0 rfl) ?_
        refine lv_iload_n hx hb dX0_headingAt_11 rfl (lv_at hl 3 rfl) ?_
        refine lv_aload_n hx hb dX0_headingAt_12 rfl (lv_at hl 0 rfl) ?_
        refine va_get (D := D) (ci := 0) (v := .ref k5) (C := RX0) (T := TX0) (N := 6) hx hb hts hin0 hown hK hP 0 rfl rfl 4 (by decide) hf24 (fun _ h9 => h9) rfl dX0_headingAt_13 ?_
        refine lv_iload_n hx hb dX0_headingAt_16 rfl (lv_at hl 3 rfl) ?_
        refine z_iald hx hb hK hP 5 rfl (j := i) (by omega) (by decide) dX0_headingAt_17 ?_
        refine z_callV (As := [.int (nI i), .int (vl i)]) (rest := [.int (zHs kd vl i)]) ⟨hx, hb, hml, hown, hts⟩ hG hK hP hD hS (c_X0_turnOf l D cI cJ a k1 k2 k3 k4 k5 n kd ln lo hi vl i (vl i) (by first | assumption | omega | decide)) (cwV 2 hts gX0_headingAt_X0_turnOf rfl rfl rfl (by decide +kernel) ⟨Nat.le_of_ble_eq_true rfl, Nat.le_of_ble_eq_true rfl⟩) [0, 1, 2, 3, 4, 5] (by decide) rfl (fun _ => rfl) 0 rfl rfl rfl rfl hl.1 rfl (Nat.le_of_ble_eq_true rfl) dX0_headingAt_18 ⟨Nat.le_refl _, Nat.le_refl _⟩ (fun u_2 H locs hu_3 hP hD hS => ?_)
        obtain ⟨r_4, rfl⟩ : ∃ z, z = u_2 := ⟨_, rfl⟩
        have hu_3 : r_4 = zTurn kd i (vl i) := hu_3
        have e_5 := hu_3
        subst e_5
        have hP : va_P D vwCl [(a, .inr (0, [.ref k1, .ref k2, .ref k3, .ref k4, .ref k5, .int (nI n)])), (k1, .inl (cI, 5, .inl kd)), (k2, .inl (cI, 5, .inl ln)), (k3, .inl (cI, 5, .inl lo)), (k4, .inl (cI, 5, .inl hi)), (k5, .inl (cI, 5, .inl vl))] H := hP
        have hD : va_D A0 [(a, .inr (0, [.ref k1, .ref k2, .ref k3, .ref k4, .ref k5, .int (nI n)])), (k1, .inl (cI, 5, .inl kd)), (k2, .inl (cI, 5, .inl ln)), (k3, .inl (cI, 5, .inl lo)), (k4, .inl (cI, 5, .inl hi)), (k5, .inl (cI, 5, .inl vl))] := hD
        refine lv_iadd hx hb dX0_headingAt_21 ?_
        refine lv_istore_n (lv' := [(2, .int ((zHs kd vl i) + (zTurn kd i (vl i)))), (0, .ref a), (1, .int (nI mm - 1)), (3, .int (nI i))]) hx hb dX0_headingAt_22 rfl hl (by decide) rfl (fun ls hl => ?_)
        refine lv_iinc (v := nI (i + 1)) (lv' := [(3, .int (nI (i + 1))), (2, .int ((zHs kd vl i) + (zTurn kd i (vl i)))), (0, .ref a), (1, .int (nI mm - 1))]) hx hb dX0_headingAt_23 hl (k := 3) rfl ((nI_succ _).symm) (by decide) rfl (fun ls hl => ?_)
        refine lv_goto (tgt := 4) hx hb dX0_headingAt_26 (by decide) ?_
        exact ih_4_1 (i + 1) (by first | assumption | omega | rfl | simp_all) (by omega) _ _ hP hD hS _ (lv_sub hl [2, 3, 1, 0] rfl)
  exact lp_4_1 ((mm - 0) + 1) 0 (by first | assumption | omega | rfl | simp_all) (Nat.lt_succ_self _) _ _ hP hD hS _ (lv_sub hl [2, 3, 1, 0] rfl)

set_option maxHeartbeats 4000000 in
set_option maxRecDepth 100000 in
theorem c_X0_countPoses (l : Launch) (D : va_G) (cI cJ : ClassId) (a : Nat) (k1 : Nat) (k2 : Nat) (k3 : Nat) (k4 : Nat) (k5 : Nat) (n : Nat) (kd : Nat → Int32) (ln : Nat → Int32) (lo : Nat → Int32) (hi : Nat → Int32) (vl : Nat → Int32) (hn : n ≤ 5) : zM l yX0_countPoses wsX0_countPoses 0 D cI cJ [.ref a] [(a, .inr (0, [.ref k1, .ref k2, .ref k3, .ref k4, .ref k5, .int (nI n)])), (k1, .inl (cI, 5, .inl kd)), (k2, .inl (cI, 5, .inl ln)), (k3, .inl (cI, 5, .inl lo)), (k4, .inl (cI, 5, .inl hi)), (k5, .inl (cI, 5, .inl vl))] (fun (u : Int64) => u = zPoses lo hi n) (fun (u : Int64) => some (.long u)) (fun (u : Int64) => [(a, .inr (0, [.ref k1, .ref k2, .ref k3, .ref k4, .ref k5, .int (nI n)])), (k1, .inl (cI, 5, .inl kd)), (k2, .inl (cI, 5, .inl ln)), (k3, .inl (cI, 5, .inl lo)), (k4, .inl (cI, 5, .inl hi)), (k5, .inl (cI, 5, .inl vl))]) := by
  refine zM_l (cc := cX0_countPoses) (maxL := 4) (r := fun (u : Int64) => u) (by decide) rfl (Nat.le_of_ble_eq_true rfl) ?_
  intro p e s m args below meth c ls A0 Q C hl hP hS hRet
  obtain ⟨⟨hx, hb, hml, hown, hts⟩, hG, hK, hD, hlocks⟩ := C
  have hin0 : ∀ w ∈ u_ws RX0 TX0 6, w ∈ wsX0_countPoses := by decide +kernel
  have hf27 := hts (.fieldLink RX0 27 "ArmRoom$Arm" "count" "I") (by decide +kernel)
  have hf21 := hts (.fieldLink RX0 21 "ArmRoom$Arm" "highs" "[I") (by decide +kernel)
  have hf18 := hts (.fieldLink RX0 18 "ArmRoom$Arm" "lows" "[I") (by decide +kernel)
  have hl : lv_has ls 4 [(0, .ref a)] := hl
  refine lv_lconst (v := 1) hx hb dX0_countPoses_0 (by decide) ?_
  refine lv_lstore_n (lv' := [(1, .long 1), (0, .ref a)]) hx hb dX0_countPoses_1 rfl hl (by decide) rfl (fun ls hl => ?_)
  refine lv_iconst (v := 0) hx hb dX0_countPoses_2 (by decide) ?_
  refine lv_istore_n (lv' := [(3, .int 0), (1, .long 1), (0, .ref a)]) hx hb dX0_countPoses_3 rfl hl (by decide) rfl (fun ls hl => ?_)
  have lp_4_1 : ∀ (fu : Nat) (i : Nat), i ≤ n → (n - i < fu) → ∀ (H : Heap) (locs : List Loc), va_P D vwCl [(a, .inr (0, [.ref k1, .ref k2, .ref k3, .ref k4, .ref k5, .int (nI n)])), (k1, .inl (cI, 5, .inl kd)), (k2, .inl (cI, 5, .inl ln)), (k3, .inl (cI, 5, .inl lo)), (k4, .inl (cI, 5, .inl hi)), (k5, .inl (cI, 5, .inl vl))] H → va_D A0 [(a, .inr (0, [.ref k1, .ref k2, .ref k3, .ref k4, .ref k5, .int (nI n)])), (k1, .inl (cI, 5, .inl kd)), (k2, .inl (cI, 5, .inl ln)), (k3, .inl (cI, 5, .inl lo)), (k4, .inl (cI, 5, .inl hi)), (k5, .inl (cI, 5, .inl vl))] → va_S A0 s.heap H locs → ∀ (ls : Array Slot), lv_has ls 4 [(0, .ref a), (1, .long (zPoses lo hi i)), (3, .int (nI i))] → W p l e (zRm 0 0 0) s m args below meth c H locs 0 0 Q (F0 m 4 ls []) := by
    intro fu
    induction fu with
    | zero => intro i hi1 hfu; exact absurd hfu (Nat.not_lt_zero _)
    | succ fu ih_4_1 =>
      intro i hi1 hfu H locs hP hD hS ls hl
      refine lv_iload_n hx hb dX0_countPoses_4 rfl (lv_at hl 2 rfl) ?_
      refine lv_aload_n hx hb dX0_countPoses_5 rfl (lv_at hl 0 rfl) ?_
      refine va_get (D := D) (ci := 0) (v := .int (nI n)) (C := RX0) (T := TX0) (N := 6) hx hb hts hin0 hown hK hP 0 rfl rfl 5 (by decide) hf27 (fun _ h9 => h9) rfl dX0_countPoses_6 ?_
      refine lv_icmp_ge (tgt := 37) hx hb dX0_countPoses_9 (by decide) (fun c_9 => ?_) (fun c_9 => ?_)
      · rw [nI_leI (by omega) (by omega)] at c_9
        obtain rfl : n = i := by omega
        refine lv_lload_n hx hb dX0_countPoses_37 rfl (lv_at hl 1 rfl) ?_
        exact hRet _ (zPoses lo hi n) _ _ _ (rfl) hP hS dX0_countPoses_38
      · rw [nI_leI (by omega) (by omega)] at c_9
        refine lv_lload_n hx hb dX0_countPoses_12 rfl (lv_at hl 1 rfl) ?_
        refine lv_aload_n hx hb dX0_countPoses_13 rfl (lv_at hl 0 rfl) ?_
        refine va_get (D := D) (ci := 0) (v := .ref k4) (C := RX0) (T := TX0) (N := 6) hx hb hts hin0 hown hK hP 0 rfl rfl 3 (by decide) hf21 (fun _ h9 => h9) rfl dX0_countPoses_14 ?_
        refine lv_iload_n hx hb dX0_countPoses_17 rfl (lv_at hl 2 rfl) ?_
        refine z_iald hx hb hK hP 4 rfl (j := i) (by omega) (by decide) dX0_countPoses_18 ?_
        refine lv_aload_n hx hb dX0_countPoses_19 rfl (lv_at hl 0 rfl) ?_
        refine va_get (D := D) (ci := 0) (v := .ref k3) (C := RX0) (T := TX0) (N := 6) hx hb hts hin0 hown hK hP 0 rfl rfl 2 (by decide) hf18 (fun _ h9 => h9) rfl dX0_countPoses_20 ?_
        refine lv_iload_n hx hb dX0_countPoses_23 rfl (lv_at hl 2 rfl) ?_
        refine z_iald hx hb hK hP 3 rfl (j := i) (by omega) (by decide) dX0_countPoses_24 ?_
        refine lv_isub hx hb dX0_countPoses_25 ?_
        refine lv_iconst (v := 1) hx hb dX0_countPoses_26 (by decide) ?_
        refine lv_iadd hx hb dX0_countPoses_27 ?_
        refine lv_i2l (v := (((hi i) - (lo i)) + 1).toInt64) hx hb dX0_countPoses_28 rfl ?_
        refine lv_lmul hx hb dX0_countPoses_29 ?_
        refine lv_lstore_n (lv' := [(1, .long ((zPoses lo hi i) * ((((hi i) - (lo i)) + 1).toInt64))), (0, .ref a), (3, .int (nI i))]) hx hb dX0_countPoses_30 rfl hl (by decide) rfl (fun ls hl => ?_)
        refine lv_iinc (v := nI (i + 1)) (lv' := [(3, .int (nI (i + 1))), (1, .long ((zPoses lo hi i) * ((((hi i) - (lo i)) + 1).toInt64))), (0, .ref a)]) hx hb dX0_countPoses_31 hl (k := 2) rfl ((nI_succ _).symm) (by decide) rfl (fun ls hl => ?_)
        refine lv_goto (tgt := 4) hx hb dX0_countPoses_34 (by decide) ?_
        exact ih_4_1 (i + 1) (by first | assumption | omega | rfl | simp_all) (by omega) _ _ hP hD hS _ (lv_sub hl [2, 1, 0] rfl)
  exact lp_4_1 ((n - 0) + 1) 0 (by first | assumption | omega | rfl | simp_all) (Nat.lt_succ_self _) _ _ hP hD hS _ (lv_sub hl [2, 1, 0] rfl)

set_option maxHeartbeats 4000000 in
set_option maxRecDepth 100000 in
theorem c_X0_add (l : Launch) (D : va_G) (cI cJ : ClassId) (a : Nat) (k1 : Nat) (k2 : Nat) (k3 : Nat) (k4 : Nat) (k5 : Nat) (n : Nat) (kd : Nat → Int32) (ln : Nat → Int32) (lo : Nat → Int32) (hi : Nat → Int32) (vl : Nat → Int32) (p0 : Int32) (p1 : Int32) (p2 : Int32) (p3 : Int32) (hn : n < 5) : zM l yX0_add wsX0_add 1 D cI cJ [.ref a, .int p0, .int p1, .int p2, .int p3] [(a, .inr (0, [.ref k1, .ref k2, .ref k3, .ref k4, .ref k5, .int (nI n)])), (k1, .inl (cI, 5, .inl kd)), (k2, .inl (cI, 5, .inl ln)), (k3, .inl (cI, 5, .inl lo)), (k4, .inl (cI, 5, .inl hi)), (k5, .inl (cI, 5, .inl vl))] (fun (u : Int32 × (Nat → Int32)) => u.1 = nI n ∧ u.2 = upd vl n (zHeldC p2 p3 0)) (fun (u : Int32 × (Nat → Int32)) => some (.int u.1)) (fun (u : Int32 × (Nat → Int32)) => [(a, .inr (0, [.ref k1, .ref k2, .ref k3, .ref k4, .ref k5, .int (nI (n + 1))])), (k1, .inl (cI, 5, .inl (upd kd n p0))), (k2, .inl (cI, 5, .inl (upd ln n p1))), (k3, .inl (cI, 5, .inl (upd lo n p2))), (k4, .inl (cI, 5, .inl (upd hi n p3))), (k5, .inl (cI, 5, .inl u.2))]) := by
  refine zM_i (cc := cX0_add) (maxL := 6) (r := fun (u : Int32 × (Nat → Int32)) => u.1) (by decide) rfl (Nat.le_of_ble_eq_true rfl) ?_
  intro p e s m args below meth c ls A0 Q C hl hP hS hRet
  obtain ⟨⟨hx, hb, hml, hown, hts⟩, hG, hK, hD, hlocks⟩ := C
  have hin0 : ∀ w ∈ u_ws RX0 TX0 6, w ∈ wsX0_add := by decide +kernel
  have hf27 := hts (.fieldLink RX0 27 "ArmRoom$Arm" "count" "I") (by decide +kernel)
  have hf9 := hts (.fieldLink RX0 9 "ArmRoom$Arm" "kinds" "[I") (by decide +kernel)
  have hf15 := hts (.fieldLink RX0 15 "ArmRoom$Arm" "lengths" "[I") (by decide +kernel)
  have hf18 := hts (.fieldLink RX0 18 "ArmRoom$Arm" "lows" "[I") (by decide +kernel)
  have hf21 := hts (.fieldLink RX0 21 "ArmRoom$Arm" "highs" "[I") (by decide +kernel)
  have hf24 := hts (.fieldLink RX0 24 "ArmRoom$Arm" "values" "[I") (by decide +kernel)
  have hl : lv_has ls 6 [(0, .ref a), (1, .int p0), (2, .int p1), (3, .int p2), (4, .int p3)] := hl
  refine lv_aload_n hx hb dX0_add_0 rfl (lv_at hl 0 rfl) ?_
  refine va_get (D := D) (ci := 0) (v := .int (nI n)) (C := RX0) (T := TX0) (N := 6) hx hb hts hin0 hown hK hP 0 rfl rfl 5 (by decide) hf27 (fun _ h9 => h9) rfl dX0_add_1 ?_
  refine lv_istore (lv' := [(5, .int (nI n)), (0, .ref a), (1, .int p0), (2, .int p1), (3, .int p2), (4, .int p3)]) hx hb dX0_add_4 hl (by decide) rfl (fun ls hl => ?_)
  refine lv_aload_n hx hb dX0_add_6 rfl (lv_at hl 1 rfl) ?_
  refine va_get (D := D) (ci := 0) (v := .ref k1) (C := RX0) (T := TX0) (N := 6) hx hb hts hin0 hown hK hP 0 rfl rfl 0 (by decide) hf9 (fun _ h9 => h9) rfl dX0_add_7 ?_
  refine lv_iload hx hb dX0_add_10 (lv_at hl 0 rfl) ?_
  refine lv_iload_n hx hb dX0_add_12 rfl (lv_at hl 2 rfl) ?_
  refine z_iast hx hb hK hP hD hS 1 rfl (j := n) (by omega) (by decide) dX0_add_13 (fun H locs hP hD hS => ?_)
  have hP : va_P D vwCl [(a, .inr (0, [.ref k1, .ref k2, .ref k3, .ref k4, .ref k5, .int (nI n)])), (k1, .inl (cI, 5, .inl (upd kd n p0))), (k2, .inl (cI, 5, .inl ln)), (k3, .inl (cI, 5, .inl lo)), (k4, .inl (cI, 5, .inl hi)), (k5, .inl (cI, 5, .inl vl))] H := hP
  have hD : va_D A0 [(a, .inr (0, [.ref k1, .ref k2, .ref k3, .ref k4, .ref k5, .int (nI n)])), (k1, .inl (cI, 5, .inl (upd kd n p0))), (k2, .inl (cI, 5, .inl ln)), (k3, .inl (cI, 5, .inl lo)), (k4, .inl (cI, 5, .inl hi)), (k5, .inl (cI, 5, .inl vl))] := hD
  refine lv_aload_n hx hb dX0_add_14 rfl (lv_at hl 1 rfl) ?_
  refine va_get (D := D) (ci := 0) (v := .ref k2) (C := RX0) (T := TX0) (N := 6) hx hb hts hin0 hown hK hP 0 rfl rfl 1 (by decide) hf15 (fun _ h9 => h9) rfl dX0_add_15 ?_
  refine lv_iload hx hb dX0_add_18 (lv_at hl 0 rfl) ?_
  refine lv_iload_n hx hb dX0_add_20 rfl (lv_at hl 3 rfl) ?_
  refine z_iast hx hb hK hP hD hS 2 rfl (j := n) (by omega) (by decide) dX0_add_21 (fun H locs hP hD hS => ?_)
  have hP : va_P D vwCl [(a, .inr (0, [.ref k1, .ref k2, .ref k3, .ref k4, .ref k5, .int (nI n)])), (k1, .inl (cI, 5, .inl (upd kd n p0))), (k2, .inl (cI, 5, .inl (upd ln n p1))), (k3, .inl (cI, 5, .inl lo)), (k4, .inl (cI, 5, .inl hi)), (k5, .inl (cI, 5, .inl vl))] H := hP
  have hD : va_D A0 [(a, .inr (0, [.ref k1, .ref k2, .ref k3, .ref k4, .ref k5, .int (nI n)])), (k1, .inl (cI, 5, .inl (upd kd n p0))), (k2, .inl (cI, 5, .inl (upd ln n p1))), (k3, .inl (cI, 5, .inl lo)), (k4, .inl (cI, 5, .inl hi)), (k5, .inl (cI, 5, .inl vl))] := hD
  refine lv_aload_n hx hb dX0_add_22 rfl (lv_at hl 1 rfl) ?_
  refine va_get (D := D) (ci := 0) (v := .ref k3) (C := RX0) (T := TX0) (N := 6) hx hb hts hin0 hown hK hP 0 rfl rfl 2 (by decide) hf18 (fun _ h9 => h9) rfl dX0_add_23 ?_
  refine lv_iload hx hb dX0_add_26 (lv_at hl 0 rfl) ?_
  refine lv_iload_n hx hb dX0_add_28 rfl (lv_at hl 4 rfl) ?_
  refine z_iast hx hb hK hP hD hS 3 rfl (j := n) (by omega) (by decide) dX0_add_29 (fun H locs hP hD hS => ?_)
  have hP : va_P D vwCl [(a, .inr (0, [.ref k1, .ref k2, .ref k3, .ref k4, .ref k5, .int (nI n)])), (k1, .inl (cI, 5, .inl (upd kd n p0))), (k2, .inl (cI, 5, .inl (upd ln n p1))), (k3, .inl (cI, 5, .inl (upd lo n p2))), (k4, .inl (cI, 5, .inl hi)), (k5, .inl (cI, 5, .inl vl))] H := hP
  have hD : va_D A0 [(a, .inr (0, [.ref k1, .ref k2, .ref k3, .ref k4, .ref k5, .int (nI n)])), (k1, .inl (cI, 5, .inl (upd kd n p0))), (k2, .inl (cI, 5, .inl (upd ln n p1))), (k3, .inl (cI, 5, .inl (upd lo n p2))), (k4, .inl (cI, 5, .inl hi)), (k5, .inl (cI, 5, .inl vl))] := hD
  refine lv_aload_n hx hb dX0_add_30 rfl (lv_at hl 1 rfl) ?_
  refine va_get (D := D) (ci := 0) (v := .ref k4) (C := RX0) (T := TX0) (N := 6) hx hb hts hin0 hown hK hP 0 rfl rfl 3 (by decide) hf21 (fun _ h9 => h9) rfl dX0_add_31 ?_
  refine lv_iload hx hb dX0_add_34 (lv_at hl 0 rfl) ?_
  refine lv_iload hx hb dX0_add_36 (lv_at hl 5 rfl) ?_
  refine z_iast hx hb hK hP hD hS 4 rfl (j := n) (by omega) (by decide) dX0_add_38 (fun H locs hP hD hS => ?_)
  have hP : va_P D vwCl [(a, .inr (0, [.ref k1, .ref k2, .ref k3, .ref k4, .ref k5, .int (nI n)])), (k1, .inl (cI, 5, .inl (upd kd n p0))), (k2, .inl (cI, 5, .inl (upd ln n p1))), (k3, .inl (cI, 5, .inl (upd lo n p2))), (k4, .inl (cI, 5, .inl (upd hi n p3))), (k5, .inl (cI, 5, .inl vl))] H := hP
  have hD : va_D A0 [(a, .inr (0, [.ref k1, .ref k2, .ref k3, .ref k4, .ref k5, .int (nI n)])), (k1, .inl (cI, 5, .inl (upd kd n p0))), (k2, .inl (cI, 5, .inl (upd ln n p1))), (k3, .inl (cI, 5, .inl (upd lo n p2))), (k4, .inl (cI, 5, .inl (upd hi n p3))), (k5, .inl (cI, 5, .inl vl))] := hD
  refine lv_aload_n hx hb dX0_add_39 rfl (lv_at hl 1 rfl) ?_
  refine va_get (D := D) (ci := 0) (v := .ref k5) (C := RX0) (T := TX0) (N := 6) hx hb hts hin0 hown hK hP 0 rfl rfl 4 (by decide) hf24 (fun _ h9 => h9) rfl dX0_add_40 ?_
  refine lv_iload hx hb dX0_add_43 (lv_at hl 0 rfl) ?_
  refine lv_aload_n hx hb dX0_add_45 rfl (lv_at hl 1 rfl) ?_
  refine lv_iload hx hb dX0_add_46 (lv_at hl 0 rfl) ?_
  refine lv_iconst (v := 0) hx hb dX0_add_48 (by decide) ?_
  refine z_callV (As := [.int (nI n), .int 0]) (rest := [.int (nI n), .ref k5]) ⟨hx, hb, hml, hown, hts⟩ hG hK hP hD hS (c_X0_held l D cI cJ a k1 k2 k3 k4 k5 n (upd kd n p0) (upd ln n p1) (upd lo n p2) (upd hi n p3) vl n 0 (by first | assumption | omega | decide)) (cwV 2 hts gX0_add_X0_held rfl rfl rfl (by decide +kernel) ⟨Nat.le_of_ble_eq_true rfl, Nat.le_of_ble_eq_true rfl⟩) [0, 1, 2, 3, 4, 5] (by decide) rfl (fun _ => rfl) 0 rfl rfl rfl rfl hl.1 rfl (Nat.le_of_ble_eq_true rfl) dX0_add_49 ⟨Nat.le_refl _, Nat.le_refl _⟩ (fun u_1 H locs hu_2 hP hD hS => ?_)
  obtain ⟨r_3, rfl⟩ : ∃ z, z = u_1 := ⟨_, rfl⟩
  have hu_2 : r_3 = zHeldC ((upd lo n p2) n) ((upd hi n p3) n) 0 := hu_2
  have e_4 := hu_2
  subst e_4
  have hP : va_P D vwCl [(a, .inr (0, [.ref k1, .ref k2, .ref k3, .ref k4, .ref k5, .int (nI n)])), (k1, .inl (cI, 5, .inl (upd kd n p0))), (k2, .inl (cI, 5, .inl (upd ln n p1))), (k3, .inl (cI, 5, .inl (upd lo n p2))), (k4, .inl (cI, 5, .inl (upd hi n p3))), (k5, .inl (cI, 5, .inl vl))] H := hP
  have hD : va_D A0 [(a, .inr (0, [.ref k1, .ref k2, .ref k3, .ref k4, .ref k5, .int (nI n)])), (k1, .inl (cI, 5, .inl (upd kd n p0))), (k2, .inl (cI, 5, .inl (upd ln n p1))), (k3, .inl (cI, 5, .inl (upd lo n p2))), (k4, .inl (cI, 5, .inl (upd hi n p3))), (k5, .inl (cI, 5, .inl vl))] := hD
  refine z_iast hx hb hK hP hD hS 5 rfl (j := n) (by omega) (by decide) dX0_add_52 (fun H locs hP hD hS => ?_)
  have hP : va_P D vwCl [(a, .inr (0, [.ref k1, .ref k2, .ref k3, .ref k4, .ref k5, .int (nI n)])), (k1, .inl (cI, 5, .inl (upd kd n p0))), (k2, .inl (cI, 5, .inl (upd ln n p1))), (k3, .inl (cI, 5, .inl (upd lo n p2))), (k4, .inl (cI, 5, .inl (upd hi n p3))), (k5, .inl (cI, 5, .inl (upd vl n (zHeldC ((upd lo n p2) n) ((upd hi n p3) n) 0))))] H := hP
  have hD : va_D A0 [(a, .inr (0, [.ref k1, .ref k2, .ref k3, .ref k4, .ref k5, .int (nI n)])), (k1, .inl (cI, 5, .inl (upd kd n p0))), (k2, .inl (cI, 5, .inl (upd ln n p1))), (k3, .inl (cI, 5, .inl (upd lo n p2))), (k4, .inl (cI, 5, .inl (upd hi n p3))), (k5, .inl (cI, 5, .inl (upd vl n (zHeldC ((upd lo n p2) n) ((upd hi n p3) n) 0))))] := hD
  refine lv_aload_n hx hb dX0_add_53 rfl (lv_at hl 1 rfl) ?_
  refine lv_dup hx hb dX0_add_54 rfl ?_
  refine va_get (D := D) (ci := 0) (v := .int (nI n)) (C := RX0) (T := TX0) (N := 6) hx hb hts hin0 hown hK hP 0 rfl rfl 5 (by decide) hf27 (fun _ h9 => h9) rfl dX0_add_55 ?_
  refine lv_iconst (v := 1) hx hb dX0_add_58 (by decide) ?_
  refine lv_iadd hx hb dX0_add_59 ?_
  refine z_topi (y := nI (n + 1)) ((nI_succ _).symm) ?_
  refine va_put (D := D) (ci := 0) (v := .int (nI (n + 1))) (ty := .int) (C := RX0) (T := TX0) (N := 6) hx hb hts hin0 tyX0 tyX0_ok nmX0 hown hK hP hD hS 0 rfl rfl 5 (by decide) hf27 (fun _ h9 => h9) rfl (by decide +kernel) rfl rfl (Nat.le_of_ble_eq_true rfl) dX0_add_60 (fun H locs hP hD hS => ?_)
  have hP : va_P D vwCl [(a, .inr (0, [.ref k1, .ref k2, .ref k3, .ref k4, .ref k5, .int (nI (n + 1))])), (k1, .inl (cI, 5, .inl (upd kd n p0))), (k2, .inl (cI, 5, .inl (upd ln n p1))), (k3, .inl (cI, 5, .inl (upd lo n p2))), (k4, .inl (cI, 5, .inl (upd hi n p3))), (k5, .inl (cI, 5, .inl (upd vl n (zHeldC ((upd lo n p2) n) ((upd hi n p3) n) 0))))] H := hP
  have hD : va_D A0 [(a, .inr (0, [.ref k1, .ref k2, .ref k3, .ref k4, .ref k5, .int (nI (n + 1))])), (k1, .inl (cI, 5, .inl (upd kd n p0))), (k2, .inl (cI, 5, .inl (upd ln n p1))), (k3, .inl (cI, 5, .inl (upd lo n p2))), (k4, .inl (cI, 5, .inl (upd hi n p3))), (k5, .inl (cI, 5, .inl (upd vl n (zHeldC ((upd lo n p2) n) ((upd hi n p3) n) 0))))] := hD
  refine lv_iload hx hb dX0_add_63 (lv_at hl 0 rfl) ?_
  exact hRet _ (nI n, upd vl n (zHeldC ((upd lo n p2) n) ((upd hi n p3) n) 0)) _ _ _ ⟨rfl, by rw [pk_us, pk_us]⟩ hP hS dX0_add_65

set_option maxHeartbeats 4000000 in
set_option maxRecDepth 100000 in
theorem c_X1_farFrom (l : Launch) (D : va_G) (cI cJ : ClassId) (g : Nat) (gx : Int32) (gy : Int32) (sl : Int32) (p0 : Int32) (p1 : Int32)  : zM l yX1_farFrom wsX1_farFrom 0 D cI cJ [.ref g, .int p0, .int p1] [(g, .inr (1, [.int gx, .int gy, .int sl]))] (fun (u : Int64) => u = zFar gx gy p0 p1) (fun (u : Int64) => some (.long u)) (fun (u : Int64) => [(g, .inr (1, [.int gx, .int gy, .int sl]))]) := by
  refine zM_l (cc := cX1_farFrom) (maxL := 7) (r := fun (u : Int64) => u) (by decide) rfl (Nat.le_of_ble_eq_true rfl) ?_
  intro p e s m args below meth c ls A0 Q C hl hP hS hRet
  obtain ⟨⟨hx, hb, hml, hown, hts⟩, hG, hK, hD, hlocks⟩ := C
  have hin1 : ∀ w ∈ u_ws RX1 TX1 3, w ∈ wsX1_farFrom := by decide +kernel
  have hf15 := hts (.fieldLink RX1 15 "ArmRoom$Goal" "x" "I") (by decide +kernel)
  have hf18 := hts (.fieldLink RX1 18 "ArmRoom$Goal" "y" "I") (by decide +kernel)
  have hl : lv_has ls 7 [(0, .ref g), (1, .int p0), (2, .int p1)] := hl
  refine lv_iload_n hx hb dX1_farFrom_0 rfl (lv_at hl 1 rfl) ?_
  refine lv_i2l (v := p0.toInt64) hx hb dX1_farFrom_1 rfl ?_
  refine lv_aload_n hx hb dX1_farFrom_2 rfl (lv_at hl 0 rfl) ?_
  refine va_get (D := D) (ci := 1) (v := .int gx) (C := RX1) (T := TX1) (N := 3) hx hb hts hin1 hown hK hP 0 rfl rfl 0 (by decide) hf15 (fun _ h9 => h9) rfl dX1_farFrom_3 ?_
  refine lv_i2l (v := gx.toInt64) hx hb dX1_farFrom_6 rfl ?_
  refine lv_lsub hx hb dX1_farFrom_7 ?_
  refine lv_lstore_n (lv' := [(3, .long (p0.toInt64 - gx.toInt64)), (0, .ref g), (1, .int p0), (2, .int p1)]) hx hb dX1_farFrom_8 rfl hl (by decide) rfl (fun ls hl => ?_)
  refine lv_iload_n hx hb dX1_farFrom_9 rfl (lv_at hl 3 rfl) ?_
  refine lv_i2l (v := p1.toInt64) hx hb dX1_farFrom_10 rfl ?_
  refine lv_aload_n hx hb dX1_farFrom_11 rfl (lv_at hl 1 rfl) ?_
  refine va_get (D := D) (ci := 1) (v := .int gy) (C := RX1) (T := TX1) (N := 3) hx hb hts hin1 hown hK hP 0 rfl rfl 1 (by decide) hf18 (fun _ h9 => h9) rfl dX1_farFrom_12 ?_
  refine lv_i2l (v := gy.toInt64) hx hb dX1_farFrom_15 rfl ?_
  refine lv_lsub hx hb dX1_farFrom_16 ?_
  refine lv_lstore (lv' := [(5, .long (p1.toInt64 - gy.toInt64)), (3, .long (p0.toInt64 - gx.toInt64)), (0, .ref g), (1, .int p0), (2, .int p1)]) hx hb dX1_farFrom_17 hl (by decide) rfl (fun ls hl => ?_)
  refine lv_lload_n hx hb dX1_farFrom_19 rfl (lv_at hl 1 rfl) ?_
  refine lv_lload_n hx hb dX1_farFrom_20 rfl (lv_at hl 1 rfl) ?_
  refine lv_lmul hx hb dX1_farFrom_21 ?_
  refine lv_lload hx hb dX1_farFrom_22 (lv_at hl 0 rfl) ?_
  refine lv_lload hx hb dX1_farFrom_24 (lv_at hl 0 rfl) ?_
  refine lv_lmul hx hb dX1_farFrom_26 ?_
  refine lv_ladd hx hb dX1_farFrom_27 ?_
  exact hRet _ (((p0.toInt64 - gx.toInt64) * (p0.toInt64 - gx.toInt64)) + ((p1.toInt64 - gy.toInt64) * (p1.toInt64 - gy.toInt64))) _ _ _ (rfl) hP hS dX1_farFrom_28

set_option maxHeartbeats 4000000 in
set_option maxRecDepth 100000 in
theorem c_X1_isWithin (l : Launch) (D : va_G) (cI cJ : ClassId) (g : Nat) (gx : Int32) (gy : Int32) (sl : Int32) (ms : Int32) (p0 : Int32) (p1 : Int32)  : zM l yX1_isWithin wsX1_isWithin 0 D cI cJ [.ref g, .int ms, .int p0, .int p1] [(g, .inr (1, [.int gx, .int gy, .int sl]))] (fun (u : Int32) => u = zIn ms gx gy p0 p1) (fun (u : Int32) => some (.int u)) (fun (u : Int32) => [(g, .inr (1, [.int gx, .int gy, .int sl]))]) := by
  refine zM_z (cc := cX1_isWithin) (maxL := 4) (r := fun (u : Int32) => u) (fun u h => by simp only [h, zIn]; split <;> simp) (by decide) rfl (Nat.le_of_ble_eq_true rfl) ?_
  intro p e s m args below meth c ls A0 Q C hl hP hS hRet
  obtain ⟨⟨hx, hb, hml, hown, hts⟩, hG, hK, hD, hlocks⟩ := C
  have hin1 : ∀ w ∈ u_ws RX1 TX1 3, w ∈ wsX1_isWithin := by decide +kernel
  have hf15 := hts (.fieldLink RX1 15 "ArmRoom$Goal" "x" "I") (by decide +kernel)
  have hf18 := hts (.fieldLink RX1 18 "ArmRoom$Goal" "y" "I") (by decide +kernel)
  have hl : lv_has ls 4 [(0, .ref g), (1, .int ms), (2, .int p0), (3, .int p1)] := hl
  refine lv_iload_n hx hb dX1_isWithin_0 rfl (lv_at hl 2 rfl) ?_
  refine lv_aload_n hx hb dX1_isWithin_1 rfl (lv_at hl 0 rfl) ?_
  refine va_get (D := D) (ci := 1) (v := .int gx) (C := RX1) (T := TX1) (N := 3) hx hb hts hin1 hown hK hP 0 rfl rfl 0 (by decide) hf15 (fun _ h9 => h9) rfl dX1_isWithin_2 ?_
  refine lv_isub hx hb dX1_isWithin_5 ?_
  refine va_mabs hx hb (by rw [hml]; exact hl.1.symm) hown (hts (.methodLink RX1 21 Lib.Math.abs.name) (by decide +kernel)) (hts (.static Lib.Math.abs.name) (by decide +kernel)) (hts (.initialized "java/lang/Math") (by decide +kernel)) (hts (.code Lib.Math.abs.name Lib.Math.abs.code 1 (some .int)) (by decide +kernel)) (Nat.le_of_ble_eq_true rfl) (Nat.le_of_ble_eq_true rfl) (Nat.le_refl _) (Nat.le_refl _) dX1_isWithin_6 ?_
  refine lv_iload_n hx hb dX1_isWithin_9 rfl (lv_at hl 1 rfl) ?_
  refine lv_icmp_gt (tgt := 30) hx hb dX1_isWithin_10 (by decide) (fun c_10 => ?_) (fun c_10 => ?_)
  · refine lv_iconst (v := 0) hx hb dX1_isWithin_30 (by decide) ?_
    exact hRet _ (0) _ _ _ (by first | (exact (if_neg (fun h => absurd h.1 (Int32.not_le.mpr c_10))).symm) | (exact (if_neg (fun h => absurd h.2 (Int32.not_le.mpr c_23))).symm) | (exact (if_pos ⟨Int32.not_lt.mp c_10, Int32.not_lt.mp c_23⟩).symm)) hP hS dX1_isWithin_31
  · refine lv_iload_n hx hb dX1_isWithin_13 rfl (lv_at hl 3 rfl) ?_
    refine lv_aload_n hx hb dX1_isWithin_14 rfl (lv_at hl 0 rfl) ?_
    refine va_get (D := D) (ci := 1) (v := .int gy) (C := RX1) (T := TX1) (N := 3) hx hb hts hin1 hown hK hP 0 rfl rfl 1 (by decide) hf18 (fun _ h9 => h9) rfl dX1_isWithin_15 ?_
    refine lv_isub hx hb dX1_isWithin_18 ?_
    refine va_mabs hx hb (by rw [hml]; exact hl.1.symm) hown (hts (.methodLink RX1 21 Lib.Math.abs.name) (by decide +kernel)) (hts (.static Lib.Math.abs.name) (by decide +kernel)) (hts (.initialized "java/lang/Math") (by decide +kernel)) (hts (.code Lib.Math.abs.name Lib.Math.abs.code 1 (some .int)) (by decide +kernel)) (Nat.le_of_ble_eq_true rfl) (Nat.le_of_ble_eq_true rfl) (Nat.le_refl _) (Nat.le_refl _) dX1_isWithin_19 ?_
    refine lv_iload_n hx hb dX1_isWithin_22 rfl (lv_at hl 1 rfl) ?_
    refine lv_icmp_gt (tgt := 30) hx hb dX1_isWithin_23 (by decide) (fun c_23 => ?_) (fun c_23 => ?_)
    · refine lv_iconst (v := 0) hx hb dX1_isWithin_30 (by decide) ?_
      exact hRet _ (0) _ _ _ (by first | (exact (if_neg (fun h => absurd h.1 (Int32.not_le.mpr c_10))).symm) | (exact (if_neg (fun h => absurd h.2 (Int32.not_le.mpr c_23))).symm) | (exact (if_pos ⟨Int32.not_lt.mp c_10, Int32.not_lt.mp c_23⟩).symm)) hP hS dX1_isWithin_31
    · refine lv_iconst (v := 1) hx hb dX1_isWithin_26 (by decide) ?_
      refine lv_goto (tgt := 31) hx hb dX1_isWithin_27 (by decide) ?_
      exact hRet _ (1) _ _ _ (by first | (exact (if_neg (fun h => absurd h.1 (Int32.not_le.mpr c_10))).symm) | (exact (if_neg (fun h => absurd h.2 (Int32.not_le.mpr c_23))).symm) | (exact (if_pos ⟨Int32.not_lt.mp c_10, Int32.not_lt.mp c_23⟩).symm)) hP hS dX1_isWithin_31
end
section
set_option maxHeartbeats 4000000 in
set_option maxRecDepth 100000 in
theorem c_X4_start (l : Launch) (D : va_G) (cI cJ : ClassId) (t : Nat) (x : Int32) (y : Int32) (h : Int32)  : zM l yX4_start wsX4_start 0 D cI cJ [.ref t] [(t, .inr (4, [.int x, .int y, .int h]))] (fun (_ : Unit) => True) (fun (_ : Unit) => none) (fun (_ : Unit) => [(t, .inr (4, [.int 0, .int 0, .int 0]))]) := by
  refine zM_v (cc := cX4_start) (maxL := 1) (by decide) rfl (Nat.le_of_ble_eq_true rfl) ?_
  intro p e s m args below meth c ls A0 Q C hl hP hS hRet
  obtain ⟨⟨hx, hb, hml, hown, hts⟩, hG, hK, hD, hlocks⟩ := C
  have hin4 : ∀ w ∈ u_ws RX4 TX4 3, w ∈ wsX4_start := by decide +kernel
  have hf9 := hts (.fieldLink RX4 9 "ArmRoom$Tip" "x" "I") (by decide +kernel)
  have hf15 := hts (.fieldLink RX4 15 "ArmRoom$Tip" "y" "I") (by decide +kernel)
  have hf18 := hts (.fieldLink RX4 18 "ArmRoom$Tip" "heading" "I") (by decide +kernel)
  have hl : lv_has ls 1 [(0, .ref t)] := hl
  refine lv_aload_n hx hb dX4_start_0 rfl (lv_at hl 0 rfl) ?_
  refine lv_iconst (v := 0) hx hb dX4_start_1 (by decide) ?_
  refine va_put (D := D) (ci := 4) (v := .int 0) (ty := .int) (C := RX4) (T := TX4) (N := 3) hx hb hts hin4 tyX4 tyX4_ok nmX4 hown hK hP hD hS 0 rfl rfl 0 (by decide) hf9 (fun _ h9 => h9) rfl (by decide +kernel) rfl rfl (Nat.le_of_ble_eq_true rfl) dX4_start_2 (fun H locs hP hD hS => ?_)
  have hP : va_P D vwCl [(t, .inr (4, [.int 0, .int y, .int h]))] H := hP
  have hD : va_D A0 [(t, .inr (4, [.int 0, .int y, .int h]))] := hD
  refine lv_aload_n hx hb dX4_start_5 rfl (lv_at hl 0 rfl) ?_
  refine lv_iconst (v := 0) hx hb dX4_start_6 (by decide) ?_
  refine va_put (D := D) (ci := 4) (v := .int 0) (ty := .int) (C := RX4) (T := TX4) (N := 3) hx hb hts hin4 tyX4 tyX4_ok nmX4 hown hK hP hD hS 0 rfl rfl 1 (by decide) hf15 (fun _ h9 => h9) rfl (by decide +kernel) rfl rfl (Nat.le_of_ble_eq_true rfl) dX4_start_7 (fun H locs hP hD hS => ?_)
  have hP : va_P D vwCl [(t, .inr (4, [.int 0, .int 0, .int h]))] H := hP
  have hD : va_D A0 [(t, .inr (4, [.int 0, .int 0, .int h]))] := hD
  refine lv_aload_n hx hb dX4_start_10 rfl (lv_at hl 0 rfl) ?_
  refine lv_iconst (v := 0) hx hb dX4_start_11 (by decide) ?_
  refine va_put (D := D) (ci := 4) (v := .int 0) (ty := .int) (C := RX4) (T := TX4) (N := 3) hx hb hts hin4 tyX4 tyX4_ok nmX4 hown hK hP hD hS 0 rfl rfl 2 (by decide) hf18 (fun _ h9 => h9) rfl (by decide +kernel) rfl rfl (Nat.le_of_ble_eq_true rfl) dX4_start_12 (fun H locs hP hD hS => ?_)
  have hP : va_P D vwCl [(t, .inr (4, [.int 0, .int 0, .int 0]))] H := hP
  have hD : va_D A0 [(t, .inr (4, [.int 0, .int 0, .int 0]))] := hD
  exact hRet _ () _ _ _ trivial hP hS dX4_start_15

set_option maxHeartbeats 4000000 in
set_option maxRecDepth 100000 in
theorem c_X4_go (l : Launch) (D : va_G) (cI cJ : ClassId) (t : Nat) (x : Int32) (y : Int32) (h : Int32) (ds : Int32) (dr : Int32)  : zM l yX4_go wsX4_go 2 D cI cJ [.ref t, .int ds, .int dr] [(t, .inr (4, [.int x, .int y, .int h]))] (fun (_ : Unit) => True) (fun (_ : Unit) => none) (fun (_ : Unit) => [(t, .inr (4, [.int (x + ds * zcs dr), .int (y + ds * zsn dr), .int h]))]) := by
  refine zM_v (cc := cX4_go) (maxL := 3) (by decide) rfl (Nat.le_of_ble_eq_true rfl) ?_
  intro p e s m args below meth c ls A0 Q C hl hP hS hRet
  obtain ⟨⟨hx, hb, hml, hown, hts⟩, hG, hK, hD, hlocks⟩ := C
  have hin4 : ∀ w ∈ u_ws RX4 TX4 3, w ∈ wsX4_go := by decide +kernel
  have hf9 := hts (.fieldLink RX4 9 "ArmRoom$Tip" "x" "I") (by decide +kernel)
  have hf15 := hts (.fieldLink RX4 15 "ArmRoom$Tip" "y" "I") (by decide +kernel)
  have hl : lv_has ls 3 [(0, .ref t), (1, .int ds), (2, .int dr)] := hl
  refine lv_aload_n hx hb dX4_go_0 rfl (lv_at hl 0 rfl) ?_
  refine lv_dup hx hb dX4_go_1 rfl ?_
  refine va_get (D := D) (ci := 4) (v := .int x) (C := RX4) (T := TX4) (N := 3) hx hb hts hin4 hown hK hP 0 rfl rfl 0 (by decide) hf9 (fun _ h9 => h9) rfl dX4_go_2 ?_
  refine lv_iload_n hx hb dX4_go_5 rfl (lv_at hl 1 rfl) ?_
  refine lv_iload_n hx hb dX4_go_6 rfl (lv_at hl 2 rfl) ?_
  refine z_callSN (As := [.int dr]) (rest := [.int ds, .int x, .ref t]) ⟨hx, hb, hml, hown, hts⟩ hG hK hP hD hS (c_X5_cosine l D cI cJ dr ) (⟨va_cnB 1 hts gX4_go_X5_cosine_n21 rfl rfl rfl (hG.1.1 ("ArmRoom$Tip", 21, yX5_cosine, "ArmRoom") (List.mem_of_getElem? (i := 8) rfl)) (hts (.initialized RX5) (by decide +kernel)) (by decide +kernel) ⟨Nat.le_of_ble_eq_true rfl, Nat.le_of_ble_eq_true rfl⟩, hts (.static yX5_cosine) (by decide +kernel), trivial⟩) [] (by decide) rfl (fun _ => rfl) rfl hl.1 rfl (Nat.le_of_ble_eq_true rfl) dX4_go_7 ⟨Nat.le_refl _, Nat.le_refl _⟩ (fun u_1 H locs hu_2 hP hD hS => ?_)
  obtain ⟨r_3, rfl⟩ : ∃ z, z = u_1 := ⟨_, rfl⟩
  have hu_2 : r_3 = zcs dr := hu_2
  have e_4 := hu_2
  subst e_4
  have hP : va_P D vwCl [(t, .inr (4, [.int x, .int y, .int h]))] H := hP
  have hD : va_D A0 [(t, .inr (4, [.int x, .int y, .int h]))] := hD
  refine lv_imul hx hb dX4_go_10 ?_
  refine lv_iadd hx hb dX4_go_11 ?_
  refine va_put (D := D) (ci := 4) (v := .int (x + (ds * (zcs dr)))) (ty := .int) (C := RX4) (T := TX4) (N := 3) hx hb hts hin4 tyX4 tyX4_ok nmX4 hown hK hP hD hS 0 rfl rfl 0 (by decide) hf9 (fun _ h9 => h9) rfl (by decide +kernel) rfl rfl (Nat.le_of_ble_eq_true rfl) dX4_go_12 (fun H locs hP hD hS => ?_)
  have hP : va_P D vwCl [(t, .inr (4, [.int (x + (ds * (zcs dr))), .int y, .int h]))] H := hP
  have hD : va_D A0 [(t, .inr (4, [.int (x + (ds * (zcs dr))), .int y, .int h]))] := hD
  refine lv_aload_n hx hb dX4_go_15 rfl (lv_at hl 0 rfl) ?_
  refine lv_dup hx hb dX4_go_16 rfl ?_
  refine va_get (D := D) (ci := 4) (v := .int y) (C := RX4) (T := TX4) (N := 3) hx hb hts hin4 hown hK hP 0 rfl rfl 1 (by decide) hf15 (fun _ h9 => h9) rfl dX4_go_17 ?_
  refine lv_iload_n hx hb dX4_go_20 rfl (lv_at hl 1 rfl) ?_
  refine lv_iload_n hx hb dX4_go_21 rfl (lv_at hl 2 rfl) ?_
  refine z_callSN (As := [.int dr]) (rest := [.int ds, .int y, .ref t]) ⟨hx, hb, hml, hown, hts⟩ hG hK hP hD hS (c_X5_sine l D cI cJ dr ) (⟨va_cnB 1 hts gX4_go_X5_sine_n25 rfl rfl rfl (hG.1.1 ("ArmRoom$Tip", 25, yX5_sine, "ArmRoom") (List.mem_of_getElem? (i := 9) rfl)) (hts (.initialized RX5) (by decide +kernel)) (by decide +kernel) ⟨Nat.le_of_ble_eq_true rfl, Nat.le_of_ble_eq_true rfl⟩, hts (.static yX5_sine) (by decide +kernel), trivial⟩) [] (by decide) rfl (fun _ => rfl) rfl hl.1 rfl (Nat.le_of_ble_eq_true rfl) dX4_go_22 ⟨Nat.le_refl _, Nat.le_refl _⟩ (fun u_5 H locs hu_6 hP hD hS => ?_)
  obtain ⟨r_7, rfl⟩ : ∃ z, z = u_5 := ⟨_, rfl⟩
  have hu_6 : r_7 = zsn dr := hu_6
  have e_8 := hu_6
  subst e_8
  have hP : va_P D vwCl [(t, .inr (4, [.int (x + (ds * (zcs dr))), .int y, .int h]))] H := hP
  have hD : va_D A0 [(t, .inr (4, [.int (x + (ds * (zcs dr))), .int y, .int h]))] := hD
  refine lv_imul hx hb dX4_go_25 ?_
  refine lv_iadd hx hb dX4_go_26 ?_
  refine va_put (D := D) (ci := 4) (v := .int (y + (ds * (zsn dr)))) (ty := .int) (C := RX4) (T := TX4) (N := 3) hx hb hts hin4 tyX4 tyX4_ok nmX4 hown hK hP hD hS 0 rfl rfl 1 (by decide) hf15 (fun _ h9 => h9) rfl (by decide +kernel) rfl rfl (Nat.le_of_ble_eq_true rfl) dX4_go_27 (fun H locs hP hD hS => ?_)
  have hP : va_P D vwCl [(t, .inr (4, [.int (x + (ds * (zcs dr))), .int (y + (ds * (zsn dr))), .int h]))] H := hP
  have hD : va_D A0 [(t, .inr (4, [.int (x + (ds * (zcs dr))), .int (y + (ds * (zsn dr))), .int h]))] := hD
  exact hRet _ () _ _ _ trivial hP hS dX4_go_30

set_option maxHeartbeats 4000000 in
set_option maxRecDepth 100000 in
theorem c_X4_told (l : Launch) (D : va_G) (cI cJ : ClassId) (t : Nat) (x : Int32) (y : Int32) (h : Int32) (w : Int32)  : zM l yX4_told wsX4_told 0 D cI cJ [.ref t, .int w] [(t, .inr (4, [.int x, .int y, .int h]))] (fun (u : Int32) => u = if w = 0 then x else if w = 1 then y else h) (fun (u : Int32) => some (.int u)) (fun (u : Int32) => [(t, .inr (4, [.int x, .int y, .int h]))]) := by
  refine zM_i (cc := cX4_told) (maxL := 2) (r := fun (u : Int32) => u) (by decide) rfl (Nat.le_of_ble_eq_true rfl) ?_
  intro p e s m args below meth c ls A0 Q C hl hP hS hRet
  obtain ⟨⟨hx, hb, hml, hown, hts⟩, hG, hK, hD, hlocks⟩ := C
  have hin4 : ∀ w ∈ u_ws RX4 TX4 3, w ∈ wsX4_told := by decide +kernel
  have hf18 := hts (.fieldLink RX4 18 "ArmRoom$Tip" "heading" "I") (by decide +kernel)
  have hf15 := hts (.fieldLink RX4 15 "ArmRoom$Tip" "y" "I") (by decide +kernel)
  have hf9 := hts (.fieldLink RX4 9 "ArmRoom$Tip" "x" "I") (by decide +kernel)
  have hl : lv_has ls 2 [(0, .ref t), (1, .int w)] := hl
  refine lv_iload_n hx hb dX4_told_0 rfl (lv_at hl 1 rfl) ?_
  refine lv_if_ne (tgt := 9) hx hb dX4_told_1 (by decide) (fun c_1 => ?_) (fun c_1 => ?_)
  · refine lv_iload_n hx hb dX4_told_9 rfl (lv_at hl 1 rfl) ?_
    refine lv_iconst (v := 1) hx hb dX4_told_10 (by decide) ?_
    refine lv_icmp_ne (tgt := 21) hx hb dX4_told_11 (by decide) (fun c_11 => ?_) (fun c_11 => ?_)
    · refine lv_aload_n hx hb dX4_told_21 rfl (lv_at hl 0 rfl) ?_
      refine va_get (D := D) (ci := 4) (v := .int h) (C := RX4) (T := TX4) (N := 3) hx hb hts hin4 hown hK hP 0 rfl rfl 2 (by decide) hf18 (fun _ h9 => h9) rfl dX4_told_22 ?_
      exact hRet _ (h) _ _ _ (by first | (rw [if_pos c_1]) | (rw [if_neg c_1, if_pos c_11]) | (rw [if_neg c_1, if_neg c_11])) hP hS dX4_told_25
    · refine lv_aload_n hx hb dX4_told_14 rfl (lv_at hl 0 rfl) ?_
      refine va_get (D := D) (ci := 4) (v := .int y) (C := RX4) (T := TX4) (N := 3) hx hb hts hin4 hown hK hP 0 rfl rfl 1 (by decide) hf15 (fun _ h9 => h9) rfl dX4_told_15 ?_
      refine lv_goto (tgt := 25) hx hb dX4_told_18 (by decide) ?_
      exact hRet _ (y) _ _ _ (by first | (rw [if_pos c_1]) | (rw [if_neg c_1, if_pos c_11]) | (rw [if_neg c_1, if_neg c_11])) hP hS dX4_told_25
  · refine lv_aload_n hx hb dX4_told_4 rfl (lv_at hl 0 rfl) ?_
    refine va_get (D := D) (ci := 4) (v := .int x) (C := RX4) (T := TX4) (N := 3) hx hb hts hin4 hown hK hP 0 rfl rfl 0 (by decide) hf9 (fun _ h9 => h9) rfl dX4_told_5 ?_
    exact hRet _ (x) _ _ _ (by first | (rw [if_pos c_1]) | (rw [if_neg c_1, if_pos c_11]) | (rw [if_neg c_1, if_neg c_11])) hP hS dX4_told_8

set_option maxHeartbeats 4000000 in
set_option maxRecDepth 100000 in
theorem c_X4_followWith (l : Launch) (D : va_G) (cI cJ : ClassId) (t : Nat) (x : Int32) (y : Int32) (h : Int32) (a : Nat) (k1 : Nat) (k2 : Nat) (k3 : Nat) (k4 : Nat) (k5 : Nat) (n : Nat) (kd : Nat → Int32) (ln : Nat → Int32) (lo : Nat → Int32) (hi : Nat → Int32) (vl : Nat → Int32) (o : Int32) (ov : Int32) (hn : n ≤ 5) : zM l yX4_followWith wsX4_followWith 3 D cI cJ [.ref t, .ref a, .int o, .int ov] [(t, .inr (4, [.int x, .int y, .int h])), (a, .inr (0, [.ref k1, .ref k2, .ref k3, .ref k4, .ref k5, .int (nI n)])), (k1, .inl (cI, 5, .inl kd)), (k2, .inl (cI, 5, .inl ln)), (k3, .inl (cI, 5, .inl lo)), (k4, .inl (cI, 5, .inl hi)), (k5, .inl (cI, 5, .inl vl))] (fun (_ : Unit) => True) (fun (_ : Unit) => none) (fun (_ : Unit) => [(t, .inr (4, [.int (zX kd ln (zPo vl o ov) n), .int (zY kd ln (zPo vl o ov) n), .int (zH kd (zPo vl o ov) n)])), (a, .inr (0, [.ref k1, .ref k2, .ref k3, .ref k4, .ref k5, .int (nI n)])), (k1, .inl (cI, 5, .inl kd)), (k2, .inl (cI, 5, .inl ln)), (k3, .inl (cI, 5, .inl lo)), (k4, .inl (cI, 5, .inl hi)), (k5, .inl (cI, 5, .inl vl))]) := by
  refine zM_v (cc := cX4_followWith) (maxL := 6) (by decide) rfl (Nat.le_of_ble_eq_true rfl) ?_
  intro p e s m args below meth c ls A0 Q C hl hP hS hRet
  obtain ⟨⟨hx, hb, hml, hown, hts⟩, hG, hK, hD, hlocks⟩ := C
  have hin0 : ∀ w ∈ u_ws RX0 TX0 6, w ∈ wsX4_followWith := by decide +kernel
  have hin4 : ∀ w ∈ u_ws RX4 TX4 3, w ∈ wsX4_followWith := by decide +kernel
  have hf35 := hG.1.2.1 ("ArmRoom$Tip", 35, "ArmRoom$Arm", "count", "I", "ArmRoom") (List.mem_of_getElem? (i := 8) rfl)
  have hf40 := hG.1.2.1 ("ArmRoom$Tip", 40, "ArmRoom$Arm", "values", "[I", "ArmRoom") (List.mem_of_getElem? (i := 5) rfl)
  have hf18 := hts (.fieldLink RX4 18 "ArmRoom$Tip" "heading" "I") (by decide +kernel)
  have hl : lv_has ls 6 [(0, .ref t), (1, .ref a), (2, .int o), (3, .int ov)] := hl
  refine lv_aload_n hx hb dX4_followWith_0 rfl (lv_at hl 0 rfl) ?_
  refine z_callV (As := []) (rest := []) ⟨hx, hb, hml, hown, hts⟩ hG hK hP hD hS (c_X4_start l D cI cJ t x y h ) (cwV 0 hts gX4_followWith_X4_start rfl rfl rfl (by decide +kernel) ⟨Nat.le_of_ble_eq_true rfl, Nat.le_of_ble_eq_true rfl⟩) [0] (by decide) rfl (fun _ => rfl) 0 rfl rfl rfl rfl hl.1 rfl (Nat.le_of_ble_eq_true rfl) dX4_followWith_1 ⟨Nat.le_refl _, Nat.le_refl _⟩ (fun u_1 H locs hu_2 hP hD hS => ?_)
  have hP : va_P D vwCl [(t, .inr (4, [.int 0, .int 0, .int 0])), (a, .inr (0, [.ref k1, .ref k2, .ref k3, .ref k4, .ref k5, .int (nI n)])), (k1, .inl (cI, 5, .inl kd)), (k2, .inl (cI, 5, .inl ln)), (k3, .inl (cI, 5, .inl lo)), (k4, .inl (cI, 5, .inl hi)), (k5, .inl (cI, 5, .inl vl))] H := hP
  have hD : va_D A0 [(t, .inr (4, [.int 0, .int 0, .int 0])), (a, .inr (0, [.ref k1, .ref k2, .ref k3, .ref k4, .ref k5, .int (nI n)])), (k1, .inl (cI, 5, .inl kd)), (k2, .inl (cI, 5, .inl ln)), (k3, .inl (cI, 5, .inl lo)), (k4, .inl (cI, 5, .inl hi)), (k5, .inl (cI, 5, .inl vl))] := hD
  refine lv_iconst (v := 0) hx hb dX4_followWith_4 (by decide) ?_
  refine lv_istore (lv' := [(4, .int 0), (0, .ref t), (1, .ref a), (2, .int o), (3, .int ov)]) hx hb dX4_followWith_5 hl (by decide) rfl (fun ls hl => ?_)
  have lp_7_3 : ∀ (fu : Nat) (i : Nat), i ≤ n → (n - i < fu) → ∀ (H : Heap) (locs : List Loc), va_P D vwCl [(t, .inr (4, [.int (zX kd ln (zPo vl o ov) i), .int (zY kd ln (zPo vl o ov) i), .int (zH kd (zPo vl o ov) i)])), (a, .inr (0, [.ref k1, .ref k2, .ref k3, .ref k4, .ref k5, .int (nI n)])), (k1, .inl (cI, 5, .inl kd)), (k2, .inl (cI, 5, .inl ln)), (k3, .inl (cI, 5, .inl lo)), (k4, .inl (cI, 5, .inl hi)), (k5, .inl (cI, 5, .inl vl))] H → va_D A0 [(t, .inr (4, [.int (zX kd ln (zPo vl o ov) i), .int (zY kd ln (zPo vl o ov) i), .int (zH kd (zPo vl o ov) i)])), (a, .inr (0, [.ref k1, .ref k2, .ref k3, .ref k4, .ref k5, .int (nI n)])), (k1, .inl (cI, 5, .inl kd)), (k2, .inl (cI, 5, .inl ln)), (k3, .inl (cI, 5, .inl lo)), (k4, .inl (cI, 5, .inl hi)), (k5, .inl (cI, 5, .inl vl))] → va_S A0 s.heap H locs → ∀ (ls : Array Slot), lv_has ls 6 [(0, .ref t), (1, .ref a), (2, .int o), (3, .int ov), (4, .int (nI i))] → W p l e (zRm 3 0 0) s m args below meth c H locs 0 0 Q (F0 m 7 ls []) := by
    intro fu
    induction fu with
    | zero => intro i hi1 hfu; exact absurd hfu (Nat.not_lt_zero _)
    | succ fu ih_7_3 =>
      intro i hi1 hfu H locs hP hD hS ls hl
      refine lv_iload hx hb dX4_followWith_7 (lv_at hl 4 rfl) ?_
      refine lv_aload_n hx hb dX4_followWith_9 rfl (lv_at hl 1 rfl) ?_
      refine va_getN (D := D) (ci := 0) (v := .int (nI n)) (C := RX0) (T := TX0) (N := 6) hx hb hts hin0 hown hK hP 1 rfl rfl 5 (by decide) (va_Nw.use rfl hf35) (fun _ h9 => h9) rfl dX4_followWith_10 ?_
      refine lv_icmp_ge (tgt := 77) hx hb dX4_followWith_13 (by decide) (fun c_13 => ?_) (fun c_13 => ?_)
      · rw [nI_leI (by omega) (by omega)] at c_13
        obtain rfl : n = i := by omega
        exact hRet _ () _ _ _ trivial hP hS dX4_followWith_77
      · rw [nI_leI (by omega) (by omega)] at c_13
        refine lv_iload hx hb dX4_followWith_16 (lv_at hl 4 rfl) ?_
        refine lv_iload_n hx hb dX4_followWith_18 rfl (lv_at hl 2 rfl) ?_
        refine lv_icmp_ne (tgt := 26) hx hb dX4_followWith_19 (by decide) (fun c_19 => ?_) (fun c_19 => ?_)
        · refine lv_aload_n hx hb dX4_followWith_26 rfl (lv_at hl 1 rfl) ?_
          refine va_getN (D := D) (ci := 0) (v := .ref k5) (C := RX0) (T := TX0) (N := 6) hx hb hts hin0 hown hK hP 1 rfl rfl 4 (by decide) (va_Nw.use rfl hf40) (fun _ h9 => h9) rfl dX4_followWith_27 ?_
          refine lv_iload hx hb dX4_followWith_30 (lv_at hl 4 rfl) ?_
          refine z_iald hx hb hK hP 6 rfl (j := i) (by omega) (by decide) dX4_followWith_32 ?_
          refine z_topi (y := zPo vl o ov i) (by simp [zPo, c_19]) ?_
          refine lv_istore (lv' := [(5, .int (zPo vl o ov i)), (0, .ref t), (1, .ref a), (2, .int o), (3, .int ov), (4, .int (nI i))]) hx hb dX4_followWith_33 hl (by decide) rfl (fun ls hl => ?_)
          refine lv_aload_n hx hb dX4_followWith_35 rfl (lv_at hl 1 rfl) ?_
          refine lv_aload_n hx hb dX4_followWith_36 rfl (lv_at hl 1 rfl) ?_
          refine va_get (D := D) (ci := 4) (v := .int (zH kd (zPo vl o ov) i)) (C := RX4) (T := TX4) (N := 3) hx hb hts hin4 hown hK hP 0 rfl rfl 2 (by decide) hf18 (fun _ h9 => h9) rfl dX4_followWith_37 ?_
          refine lv_aload_n hx hb dX4_followWith_40 rfl (lv_at hl 2 rfl) ?_
          refine lv_iload hx hb dX4_followWith_41 (lv_at hl 5 rfl) ?_
          refine lv_iload hx hb dX4_followWith_43 (lv_at hl 0 rfl) ?_
          refine z_callVN (As := [.int (nI i), .int (zPo vl o ov i)]) (rest := [.int (zH kd (zPo vl o ov) i), .ref t]) ⟨hx, hb, hml, hown, hts⟩ hG hK hP hD hS (c_X0_turnOf l D cI cJ a k1 k2 k3 k4 k5 n kd ln lo hi vl i (zPo vl o ov i) (by first | assumption | omega | decide)) (⟨va_cnB 2 hts gX4_followWith_X0_turnOf_n44 rfl rfl rfl (hG.1.1 ("ArmRoom$Tip", 44, yX0_turnOf, "ArmRoom") (List.mem_of_getElem? (i := 6) rfl)) (hts (.initialized RX0) (by decide +kernel)) (by decide +kernel) ⟨Nat.le_of_ble_eq_true rfl, Nat.le_of_ble_eq_true rfl⟩, hts (.instanceMethod yX0_turnOf) (by decide +kernel), hts (.selects RX0 yX0_turnOf yX0_turnOf) (by decide +kernel)⟩) [1, 2, 3, 4, 5, 6] (by decide) rfl (fun _ => rfl) 1 rfl rfl rfl rfl hl.1 rfl (Nat.le_of_ble_eq_true rfl) dX4_followWith_45 ⟨Nat.le_refl _, Nat.le_refl _⟩ (fun u_4 H locs hu_5 hP hD hS => ?_)
          obtain ⟨r_6, rfl⟩ : ∃ z, z = u_4 := ⟨_, rfl⟩
          have hu_5 : r_6 = zTurn kd i (zPo vl o ov i) := hu_5
          have e_7 := hu_5
          subst e_7
          have hP : va_P D vwCl [(t, .inr (4, [.int (zX kd ln (zPo vl o ov) i), .int (zY kd ln (zPo vl o ov) i), .int (zH kd (zPo vl o ov) i)])), (a, .inr (0, [.ref k1, .ref k2, .ref k3, .ref k4, .ref k5, .int (nI n)])), (k1, .inl (cI, 5, .inl kd)), (k2, .inl (cI, 5, .inl ln)), (k3, .inl (cI, 5, .inl lo)), (k4, .inl (cI, 5, .inl hi)), (k5, .inl (cI, 5, .inl vl))] H := hP
          have hD : va_D A0 [(t, .inr (4, [.int (zX kd ln (zPo vl o ov) i), .int (zY kd ln (zPo vl o ov) i), .int (zH kd (zPo vl o ov) i)])), (a, .inr (0, [.ref k1, .ref k2, .ref k3, .ref k4, .ref k5, .int (nI n)])), (k1, .inl (cI, 5, .inl kd)), (k2, .inl (cI, 5, .inl ln)), (k3, .inl (cI, 5, .inl lo)), (k4, .inl (cI, 5, .inl hi)), (k5, .inl (cI, 5, .inl vl))] := hD
          refine lv_iadd hx hb dX4_followWith_48 ?_
          refine lv_bipush (v := 63) hx hb dX4_followWith_49 (by decide) ?_
          refine lv_iand hx hb dX4_followWith_51 ?_
          refine z_topi (y := zH kd (zPo vl o ov) (i + 1)) (rfl) ?_
          refine va_put (D := D) (ci := 4) (v := .int (zH kd (zPo vl o ov) (i + 1))) (ty := .int) (C := RX4) (T := TX4) (N := 3) hx hb hts hin4 tyX4 tyX4_ok nmX4 hown hK hP hD hS 0 rfl rfl 2 (by decide) hf18 (fun _ h9 => h9) rfl (by decide +kernel) rfl rfl (Nat.le_of_ble_eq_true rfl) dX4_followWith_52 (fun H locs hP hD hS => ?_)
          have hP : va_P D vwCl [(t, .inr (4, [.int (zX kd ln (zPo vl o ov) i), .int (zY kd ln (zPo vl o ov) i), .int (zH kd (zPo vl o ov) (i + 1))])), (a, .inr (0, [.ref k1, .ref k2, .ref k3, .ref k4, .ref k5, .int (nI n)])), (k1, .inl (cI, 5, .inl kd)), (k2, .inl (cI, 5, .inl ln)), (k3, .inl (cI, 5, .inl lo)), (k4, .inl (cI, 5, .inl hi)), (k5, .inl (cI, 5, .inl vl))] H := hP
          have hD : va_D A0 [(t, .inr (4, [.int (zX kd ln (zPo vl o ov) i), .int (zY kd ln (zPo vl o ov) i), .int (zH kd (zPo vl o ov) (i + 1))])), (a, .inr (0, [.ref k1, .ref k2, .ref k3, .ref k4, .ref k5, .int (nI n)])), (k1, .inl (cI, 5, .inl kd)), (k2, .inl (cI, 5, .inl ln)), (k3, .inl (cI, 5, .inl lo)), (k4, .inl (cI, 5, .inl hi)), (k5, .inl (cI, 5, .inl vl))] := hD
          refine lv_aload_n hx hb dX4_followWith_55 rfl (lv_at hl 1 rfl) ?_
          refine lv_aload_n hx hb dX4_followWith_56 rfl (lv_at hl 2 rfl) ?_
          refine lv_iload hx hb dX4_followWith_57 (lv_at hl 5 rfl) ?_
          refine lv_iload hx hb dX4_followWith_59 (lv_at hl 0 rfl) ?_
          refine z_callVN (As := [.int (nI i), .int (zPo vl o ov i)]) (rest := [.ref t]) ⟨hx, hb, hml, hown, hts⟩ hG hK hP hD hS (c_X0_distanceOf l D cI cJ a k1 k2 k3 k4 k5 n kd ln lo hi vl i (zPo vl o ov i) (by first | assumption | omega | decide)) (⟨va_cnB 2 hts gX4_followWith_X0_distanceOf_n48 rfl rfl rfl (hG.1.1 ("ArmRoom$Tip", 48, yX0_distanceOf, "ArmRoom") (List.mem_of_getElem? (i := 7) rfl)) (hts (.initialized RX0) (by decide +kernel)) (by decide +kernel) ⟨Nat.le_of_ble_eq_true rfl, Nat.le_of_ble_eq_true rfl⟩, hts (.instanceMethod yX0_distanceOf) (by decide +kernel), hts (.selects RX0 yX0_distanceOf yX0_distanceOf) (by decide +kernel)⟩) [1, 2, 3, 4, 5, 6] (by decide) rfl (fun _ => rfl) 1 rfl rfl rfl rfl hl.1 rfl (Nat.le_of_ble_eq_true rfl) dX4_followWith_61 ⟨Nat.le_refl _, Nat.le_refl _⟩ (fun u_8 H locs hu_9 hP hD hS => ?_)
          obtain ⟨r_10, rfl⟩ : ∃ z, z = u_8 := ⟨_, rfl⟩
          have hu_9 : r_10 = zDist kd ln i (zPo vl o ov i) := hu_9
          have e_11 := hu_9
          subst e_11
          have hP : va_P D vwCl [(t, .inr (4, [.int (zX kd ln (zPo vl o ov) i), .int (zY kd ln (zPo vl o ov) i), .int (zH kd (zPo vl o ov) (i + 1))])), (a, .inr (0, [.ref k1, .ref k2, .ref k3, .ref k4, .ref k5, .int (nI n)])), (k1, .inl (cI, 5, .inl kd)), (k2, .inl (cI, 5, .inl ln)), (k3, .inl (cI, 5, .inl lo)), (k4, .inl (cI, 5, .inl hi)), (k5, .inl (cI, 5, .inl vl))] H := hP
          have hD : va_D A0 [(t, .inr (4, [.int (zX kd ln (zPo vl o ov) i), .int (zY kd ln (zPo vl o ov) i), .int (zH kd (zPo vl o ov) (i + 1))])), (a, .inr (0, [.ref k1, .ref k2, .ref k3, .ref k4, .ref k5, .int (nI n)])), (k1, .inl (cI, 5, .inl kd)), (k2, .inl (cI, 5, .inl ln)), (k3, .inl (cI, 5, .inl lo)), (k4, .inl (cI, 5, .inl hi)), (k5, .inl (cI, 5, .inl vl))] := hD
          refine lv_aload_n hx hb dX4_followWith_64 rfl (lv_at hl 1 rfl) ?_
          refine va_get (D := D) (ci := 4) (v := .int (zH kd (zPo vl o ov) (i + 1))) (C := RX4) (T := TX4) (N := 3) hx hb hts hin4 hown hK hP 0 rfl rfl 2 (by decide) hf18 (fun _ h9 => h9) rfl dX4_followWith_65 ?_
          refine z_callV (As := [.int (zDist kd ln i (zPo vl o ov i)), .int (zH kd (zPo vl o ov) (i + 1))]) (rest := []) ⟨hx, hb, hml, hown, hts⟩ hG hK hP hD hS (c_X4_go l D cI cJ t (zX kd ln (zPo vl o ov) i) (zY kd ln (zPo vl o ov) i) (zH kd (zPo vl o ov) (i + 1)) (zDist kd ln i (zPo vl o ov i)) (zH kd (zPo vl o ov) (i + 1)) ) (cwV 2 hts gX4_followWith_X4_go rfl rfl rfl (by decide +kernel) ⟨Nat.le_of_ble_eq_true rfl, Nat.le_of_ble_eq_true rfl⟩) [0] (by decide) rfl (fun _ => rfl) 0 rfl rfl rfl rfl hl.1 rfl (Nat.le_of_ble_eq_true rfl) dX4_followWith_68 ⟨Nat.le_refl _, Nat.le_refl _⟩ (fun u_12 H locs hu_13 hP hD hS => ?_)
          have hP : va_P D vwCl [(t, .inr (4, [.int ((zX kd ln (zPo vl o ov) i) + (zDist kd ln i (zPo vl o ov i)) * zcs (zH kd (zPo vl o ov) (i + 1))), .int ((zY kd ln (zPo vl o ov) i) + (zDist kd ln i (zPo vl o ov i)) * zsn (zH kd (zPo vl o ov) (i + 1))), .int (zH kd (zPo vl o ov) (i + 1))])), (a, .inr (0, [.ref k1, .ref k2, .ref k3, .ref k4, .ref k5, .int (nI n)])), (k1, .inl (cI, 5, .inl kd)), (k2, .inl (cI, 5, .inl ln)), (k3, .inl (cI, 5, .inl lo)), (k4, .inl (cI, 5, .inl hi)), (k5, .inl (cI, 5, .inl vl))] H := hP
          have hD : va_D A0 [(t, .inr (4, [.int ((zX kd ln (zPo vl o ov) i) + (zDist kd ln i (zPo vl o ov i)) * zcs (zH kd (zPo vl o ov) (i + 1))), .int ((zY kd ln (zPo vl o ov) i) + (zDist kd ln i (zPo vl o ov i)) * zsn (zH kd (zPo vl o ov) (i + 1))), .int (zH kd (zPo vl o ov) (i + 1))])), (a, .inr (0, [.ref k1, .ref k2, .ref k3, .ref k4, .ref k5, .int (nI n)])), (k1, .inl (cI, 5, .inl kd)), (k2, .inl (cI, 5, .inl ln)), (k3, .inl (cI, 5, .inl lo)), (k4, .inl (cI, 5, .inl hi)), (k5, .inl (cI, 5, .inl vl))] := hD
          refine lv_iinc (v := nI (i + 1)) (lv' := [(4, .int (nI (i + 1))), (5, .int (zPo vl o ov i)), (0, .ref t), (1, .ref a), (2, .int o), (3, .int ov)]) hx hb dX4_followWith_71 hl (k := 5) rfl ((nI_succ _).symm) (by decide) rfl (fun ls hl => ?_)
          refine lv_goto (tgt := 7) hx hb dX4_followWith_74 (by decide) ?_
          exact ih_7_3 (i + 1) (by first | assumption | omega | rfl | simp_all) (by omega) _ _ hP hD hS _ (lv_sub hl [2, 3, 4, 5, 0] rfl)
        · refine lv_iload_n hx hb dX4_followWith_22 rfl (lv_at hl 3 rfl) ?_
          refine lv_goto (tgt := 33) hx hb dX4_followWith_23 (by decide) ?_
          refine z_topi (y := zPo vl o ov i) (by simp [zPo, c_19]) ?_
          refine lv_istore (lv' := [(5, .int (zPo vl o ov i)), (0, .ref t), (1, .ref a), (2, .int o), (3, .int ov), (4, .int (nI i))]) hx hb dX4_followWith_33 hl (by decide) rfl (fun ls hl => ?_)
          refine lv_aload_n hx hb dX4_followWith_35 rfl (lv_at hl 1 rfl) ?_
          refine lv_aload_n hx hb dX4_followWith_36 rfl (lv_at hl 1 rfl) ?_
          refine va_get (D := D) (ci := 4) (v := .int (zH kd (zPo vl o ov) i)) (C := RX4) (T := TX4) (N := 3) hx hb hts hin4 hown hK hP 0 rfl rfl 2 (by decide) hf18 (fun _ h9 => h9) rfl dX4_followWith_37 ?_
          refine lv_aload_n hx hb dX4_followWith_40 rfl (lv_at hl 2 rfl) ?_
          refine lv_iload hx hb dX4_followWith_41 (lv_at hl 5 rfl) ?_
          refine lv_iload hx hb dX4_followWith_43 (lv_at hl 0 rfl) ?_
          refine z_callVN (As := [.int (nI i), .int (zPo vl o ov i)]) (rest := [.int (zH kd (zPo vl o ov) i), .ref t]) ⟨hx, hb, hml, hown, hts⟩ hG hK hP hD hS (c_X0_turnOf l D cI cJ a k1 k2 k3 k4 k5 n kd ln lo hi vl i (zPo vl o ov i) (by first | assumption | omega | decide)) (⟨va_cnB 2 hts gX4_followWith_X0_turnOf_n44 rfl rfl rfl (hG.1.1 ("ArmRoom$Tip", 44, yX0_turnOf, "ArmRoom") (List.mem_of_getElem? (i := 6) rfl)) (hts (.initialized RX0) (by decide +kernel)) (by decide +kernel) ⟨Nat.le_of_ble_eq_true rfl, Nat.le_of_ble_eq_true rfl⟩, hts (.instanceMethod yX0_turnOf) (by decide +kernel), hts (.selects RX0 yX0_turnOf yX0_turnOf) (by decide +kernel)⟩) [1, 2, 3, 4, 5, 6] (by decide) rfl (fun _ => rfl) 1 rfl rfl rfl rfl hl.1 rfl (Nat.le_of_ble_eq_true rfl) dX4_followWith_45 ⟨Nat.le_refl _, Nat.le_refl _⟩ (fun u_14 H locs hu_15 hP hD hS => ?_)
          obtain ⟨r_16, rfl⟩ : ∃ z, z = u_14 := ⟨_, rfl⟩
          have hu_15 : r_16 = zTurn kd i (zPo vl o ov i) := hu_15
          have e_17 := hu_15
          subst e_17
          have hP : va_P D vwCl [(t, .inr (4, [.int (zX kd ln (zPo vl o ov) i), .int (zY kd ln (zPo vl o ov) i), .int (zH kd (zPo vl o ov) i)])), (a, .inr (0, [.ref k1, .ref k2, .ref k3, .ref k4, .ref k5, .int (nI n)])), (k1, .inl (cI, 5, .inl kd)), (k2, .inl (cI, 5, .inl ln)), (k3, .inl (cI, 5, .inl lo)), (k4, .inl (cI, 5, .inl hi)), (k5, .inl (cI, 5, .inl vl))] H := hP
          have hD : va_D A0 [(t, .inr (4, [.int (zX kd ln (zPo vl o ov) i), .int (zY kd ln (zPo vl o ov) i), .int (zH kd (zPo vl o ov) i)])), (a, .inr (0, [.ref k1, .ref k2, .ref k3, .ref k4, .ref k5, .int (nI n)])), (k1, .inl (cI, 5, .inl kd)), (k2, .inl (cI, 5, .inl ln)), (k3, .inl (cI, 5, .inl lo)), (k4, .inl (cI, 5, .inl hi)), (k5, .inl (cI, 5, .inl vl))] := hD
          refine lv_iadd hx hb dX4_followWith_48 ?_
          refine lv_bipush (v := 63) hx hb dX4_followWith_49 (by decide) ?_
          refine lv_iand hx hb dX4_followWith_51 ?_
          refine z_topi (y := zH kd (zPo vl o ov) (i + 1)) (rfl) ?_
          refine va_put (D := D) (ci := 4) (v := .int (zH kd (zPo vl o ov) (i + 1))) (ty := .int) (C := RX4) (T := TX4) (N := 3) hx hb hts hin4 tyX4 tyX4_ok nmX4 hown hK hP hD hS 0 rfl rfl 2 (by decide) hf18 (fun _ h9 => h9) rfl (by decide +kernel) rfl rfl (Nat.le_of_ble_eq_true rfl) dX4_followWith_52 (fun H locs hP hD hS => ?_)
          have hP : va_P D vwCl [(t, .inr (4, [.int (zX kd ln (zPo vl o ov) i), .int (zY kd ln (zPo vl o ov) i), .int (zH kd (zPo vl o ov) (i + 1))])), (a, .inr (0, [.ref k1, .ref k2, .ref k3, .ref k4, .ref k5, .int (nI n)])), (k1, .inl (cI, 5, .inl kd)), (k2, .inl (cI, 5, .inl ln)), (k3, .inl (cI, 5, .inl lo)), (k4, .inl (cI, 5, .inl hi)), (k5, .inl (cI, 5, .inl vl))] H := hP
          have hD : va_D A0 [(t, .inr (4, [.int (zX kd ln (zPo vl o ov) i), .int (zY kd ln (zPo vl o ov) i), .int (zH kd (zPo vl o ov) (i + 1))])), (a, .inr (0, [.ref k1, .ref k2, .ref k3, .ref k4, .ref k5, .int (nI n)])), (k1, .inl (cI, 5, .inl kd)), (k2, .inl (cI, 5, .inl ln)), (k3, .inl (cI, 5, .inl lo)), (k4, .inl (cI, 5, .inl hi)), (k5, .inl (cI, 5, .inl vl))] := hD
          refine lv_aload_n hx hb dX4_followWith_55 rfl (lv_at hl 1 rfl) ?_
          refine lv_aload_n hx hb dX4_followWith_56 rfl (lv_at hl 2 rfl) ?_
          refine lv_iload hx hb dX4_followWith_57 (lv_at hl 5 rfl) ?_
          refine lv_iload hx hb dX4_followWith_59 (lv_at hl 0 rfl) ?_
          refine z_callVN (As := [.int (nI i), .int (zPo vl o ov i)]) (rest := [.ref t]) ⟨hx, hb, hml, hown, hts⟩ hG hK hP hD hS (c_X0_distanceOf l D cI cJ a k1 k2 k3 k4 k5 n kd ln lo hi vl i (zPo vl o ov i) (by first | assumption | omega | decide)) (⟨va_cnB 2 hts gX4_followWith_X0_distanceOf_n48 rfl rfl rfl (hG.1.1 ("ArmRoom$Tip", 48, yX0_distanceOf, "ArmRoom") (List.mem_of_getElem? (i := 7) rfl)) (hts (.initialized RX0) (by decide +kernel)) (by decide +kernel) ⟨Nat.le_of_ble_eq_true rfl, Nat.le_of_ble_eq_true rfl⟩, hts (.instanceMethod yX0_distanceOf) (by decide +kernel), hts (.selects RX0 yX0_distanceOf yX0_distanceOf) (by decide +kernel)⟩) [1, 2, 3, 4, 5, 6] (by decide) rfl (fun _ => rfl) 1 rfl rfl rfl rfl hl.1 rfl (Nat.le_of_ble_eq_true rfl) dX4_followWith_61 ⟨Nat.le_refl _, Nat.le_refl _⟩ (fun u_18 H locs hu_19 hP hD hS => ?_)
          obtain ⟨r_20, rfl⟩ : ∃ z, z = u_18 := ⟨_, rfl⟩
          have hu_19 : r_20 = zDist kd ln i (zPo vl o ov i) := hu_19
          have e_21 := hu_19
          subst e_21
          have hP : va_P D vwCl [(t, .inr (4, [.int (zX kd ln (zPo vl o ov) i), .int (zY kd ln (zPo vl o ov) i), .int (zH kd (zPo vl o ov) (i + 1))])), (a, .inr (0, [.ref k1, .ref k2, .ref k3, .ref k4, .ref k5, .int (nI n)])), (k1, .inl (cI, 5, .inl kd)), (k2, .inl (cI, 5, .inl ln)), (k3, .inl (cI, 5, .inl lo)), (k4, .inl (cI, 5, .inl hi)), (k5, .inl (cI, 5, .inl vl))] H := hP
          have hD : va_D A0 [(t, .inr (4, [.int (zX kd ln (zPo vl o ov) i), .int (zY kd ln (zPo vl o ov) i), .int (zH kd (zPo vl o ov) (i + 1))])), (a, .inr (0, [.ref k1, .ref k2, .ref k3, .ref k4, .ref k5, .int (nI n)])), (k1, .inl (cI, 5, .inl kd)), (k2, .inl (cI, 5, .inl ln)), (k3, .inl (cI, 5, .inl lo)), (k4, .inl (cI, 5, .inl hi)), (k5, .inl (cI, 5, .inl vl))] := hD
          refine lv_aload_n hx hb dX4_followWith_64 rfl (lv_at hl 1 rfl) ?_
          refine va_get (D := D) (ci := 4) (v := .int (zH kd (zPo vl o ov) (i + 1))) (C := RX4) (T := TX4) (N := 3) hx hb hts hin4 hown hK hP 0 rfl rfl 2 (by decide) hf18 (fun _ h9 => h9) rfl dX4_followWith_65 ?_
          refine z_callV (As := [.int (zDist kd ln i (zPo vl o ov i)), .int (zH kd (zPo vl o ov) (i + 1))]) (rest := []) ⟨hx, hb, hml, hown, hts⟩ hG hK hP hD hS (c_X4_go l D cI cJ t (zX kd ln (zPo vl o ov) i) (zY kd ln (zPo vl o ov) i) (zH kd (zPo vl o ov) (i + 1)) (zDist kd ln i (zPo vl o ov i)) (zH kd (zPo vl o ov) (i + 1)) ) (cwV 2 hts gX4_followWith_X4_go rfl rfl rfl (by decide +kernel) ⟨Nat.le_of_ble_eq_true rfl, Nat.le_of_ble_eq_true rfl⟩) [0] (by decide) rfl (fun _ => rfl) 0 rfl rfl rfl rfl hl.1 rfl (Nat.le_of_ble_eq_true rfl) dX4_followWith_68 ⟨Nat.le_refl _, Nat.le_refl _⟩ (fun u_22 H locs hu_23 hP hD hS => ?_)
          have hP : va_P D vwCl [(t, .inr (4, [.int ((zX kd ln (zPo vl o ov) i) + (zDist kd ln i (zPo vl o ov i)) * zcs (zH kd (zPo vl o ov) (i + 1))), .int ((zY kd ln (zPo vl o ov) i) + (zDist kd ln i (zPo vl o ov i)) * zsn (zH kd (zPo vl o ov) (i + 1))), .int (zH kd (zPo vl o ov) (i + 1))])), (a, .inr (0, [.ref k1, .ref k2, .ref k3, .ref k4, .ref k5, .int (nI n)])), (k1, .inl (cI, 5, .inl kd)), (k2, .inl (cI, 5, .inl ln)), (k3, .inl (cI, 5, .inl lo)), (k4, .inl (cI, 5, .inl hi)), (k5, .inl (cI, 5, .inl vl))] H := hP
          have hD : va_D A0 [(t, .inr (4, [.int ((zX kd ln (zPo vl o ov) i) + (zDist kd ln i (zPo vl o ov i)) * zcs (zH kd (zPo vl o ov) (i + 1))), .int ((zY kd ln (zPo vl o ov) i) + (zDist kd ln i (zPo vl o ov i)) * zsn (zH kd (zPo vl o ov) (i + 1))), .int (zH kd (zPo vl o ov) (i + 1))])), (a, .inr (0, [.ref k1, .ref k2, .ref k3, .ref k4, .ref k5, .int (nI n)])), (k1, .inl (cI, 5, .inl kd)), (k2, .inl (cI, 5, .inl ln)), (k3, .inl (cI, 5, .inl lo)), (k4, .inl (cI, 5, .inl hi)), (k5, .inl (cI, 5, .inl vl))] := hD
          refine lv_iinc (v := nI (i + 1)) (lv' := [(4, .int (nI (i + 1))), (5, .int (zPo vl o ov i)), (0, .ref t), (1, .ref a), (2, .int o), (3, .int ov)]) hx hb dX4_followWith_71 hl (k := 5) rfl ((nI_succ _).symm) (by decide) rfl (fun ls hl => ?_)
          refine lv_goto (tgt := 7) hx hb dX4_followWith_74 (by decide) ?_
          exact ih_7_3 (i + 1) (by first | assumption | omega | rfl | simp_all) (by omega) _ _ hP hD hS _ (lv_sub hl [2, 3, 4, 5, 0] rfl)
  exact lp_7_3 ((n - 0) + 1) 0 (by first | assumption | omega | rfl | simp_all) (Nat.lt_succ_self _) _ _ hP hD hS _ (lv_sub hl [1, 2, 3, 4, 0] rfl)

set_option maxHeartbeats 4000000 in
set_option maxRecDepth 100000 in
theorem c_X4_follow (l : Launch) (D : va_G) (cI cJ : ClassId) (t : Nat) (x : Int32) (y : Int32) (h : Int32) (a : Nat) (k1 : Nat) (k2 : Nat) (k3 : Nat) (k4 : Nat) (k5 : Nat) (n : Nat) (kd : Nat → Int32) (ln : Nat → Int32) (lo : Nat → Int32) (hi : Nat → Int32) (vl : Nat → Int32) (hn : n ≤ 5) : zM l yX4_follow wsX4_follow 4 D cI cJ [.ref t, .ref a] [(t, .inr (4, [.int x, .int y, .int h])), (a, .inr (0, [.ref k1, .ref k2, .ref k3, .ref k4, .ref k5, .int (nI n)])), (k1, .inl (cI, 5, .inl kd)), (k2, .inl (cI, 5, .inl ln)), (k3, .inl (cI, 5, .inl lo)), (k4, .inl (cI, 5, .inl hi)), (k5, .inl (cI, 5, .inl vl))] (fun (u : Int32 × Int32 × Int32) => u.1 = zX kd ln vl n ∧ u.2.1 = zY kd ln vl n ∧ u.2.2 = zH kd vl n) (fun (u : Int32 × Int32 × Int32) => none) (fun (u : Int32 × Int32 × Int32) => [(t, .inr (4, [.int u.1, .int u.2.1, .int u.2.2])), (a, .inr (0, [.ref k1, .ref k2, .ref k3, .ref k4, .ref k5, .int (nI n)])), (k1, .inl (cI, 5, .inl kd)), (k2, .inl (cI, 5, .inl ln)), (k3, .inl (cI, 5, .inl lo)), (k4, .inl (cI, 5, .inl hi)), (k5, .inl (cI, 5, .inl vl))]) := by
  refine zM_v (cc := cX4_follow) (maxL := 2) (by decide) rfl (Nat.le_of_ble_eq_true rfl) ?_
  intro p e s m args below meth c ls A0 Q C hl hP hS hRet
  obtain ⟨⟨hx, hb, hml, hown, hts⟩, hG, hK, hD, hlocks⟩ := C
  have hl : lv_has ls 2 [(0, .ref t), (1, .ref a)] := hl
  refine lv_aload_n hx hb dX4_follow_0 rfl (lv_at hl 0 rfl) ?_
  refine lv_aload_n hx hb dX4_follow_1 rfl (lv_at hl 1 rfl) ?_
  refine lv_iconst (v := (-1)) hx hb dX4_follow_2 (by decide) ?_
  refine lv_iconst (v := 0) hx hb dX4_follow_3 (by decide) ?_
  refine z_callV (As := [.ref a, .int (-1), .int 0]) (rest := []) ⟨hx, hb, hml, hown, hts⟩ hG hK hP hD hS (c_X4_followWith l D cI cJ t x y h a k1 k2 k3 k4 k5 n kd ln lo hi vl (-1) 0 (by first | assumption | omega | decide)) (cwV 3 hts gX4_follow_X4_followWith rfl rfl rfl (by decide +kernel) ⟨Nat.le_of_ble_eq_true rfl, Nat.le_of_ble_eq_true rfl⟩) [0, 1, 2, 3, 4, 5, 6] (by decide) rfl (fun _ => rfl) 0 rfl rfl rfl rfl hl.1 rfl (Nat.le_of_ble_eq_true rfl) dX4_follow_4 ⟨Nat.le_refl _, Nat.le_refl _⟩ (fun u_1 H locs hu_2 hP hD hS => ?_)
  have hP : va_P D vwCl [(t, .inr (4, [.int (zX kd ln (zPo vl (-1) 0) n), .int (zY kd ln (zPo vl (-1) 0) n), .int (zH kd (zPo vl (-1) 0) n)])), (a, .inr (0, [.ref k1, .ref k2, .ref k3, .ref k4, .ref k5, .int (nI n)])), (k1, .inl (cI, 5, .inl kd)), (k2, .inl (cI, 5, .inl ln)), (k3, .inl (cI, 5, .inl lo)), (k4, .inl (cI, 5, .inl hi)), (k5, .inl (cI, 5, .inl vl))] H := hP
  have hD : va_D A0 [(t, .inr (4, [.int (zX kd ln (zPo vl (-1) 0) n), .int (zY kd ln (zPo vl (-1) 0) n), .int (zH kd (zPo vl (-1) 0) n)])), (a, .inr (0, [.ref k1, .ref k2, .ref k3, .ref k4, .ref k5, .int (nI n)])), (k1, .inl (cI, 5, .inl kd)), (k2, .inl (cI, 5, .inl ln)), (k3, .inl (cI, 5, .inl lo)), (k4, .inl (cI, 5, .inl hi)), (k5, .inl (cI, 5, .inl vl))] := hD
  exact hRet _ (zX kd ln (zPo vl (-1) 0) n, zY kd ln (zPo vl (-1) 0) n, zH kd (zPo vl (-1) 0) n) _ _ _ ⟨zX_congr (fun j hj => zPo_m1 hn j hj), zY_congr (fun j hj => zPo_m1 hn j hj), zH_congr (fun j hj => zPo_m1 hn j hj)⟩ hP hS dX4_follow_7

set_option maxHeartbeats 4000000 in
set_option maxRecDepth 100000 in
theorem c_X4_followBack (l : Launch) (D : va_G) (cI cJ : ClassId) (t : Nat) (x : Int32) (y : Int32) (h : Int32) (a : Nat) (k1 : Nat) (k2 : Nat) (k3 : Nat) (k4 : Nat) (k5 : Nat) (n : Nat) (kd : Nat → Int32) (ln : Nat → Int32) (lo : Nat → Int32) (hi : Nat → Int32) (vl : Nat → Int32) (hn : n ≤ 5) : zM l yX4_followBack wsX4_followBack 3 D cI cJ [.ref t, .ref a] [(t, .inr (4, [.int x, .int y, .int h])), (a, .inr (0, [.ref k1, .ref k2, .ref k3, .ref k4, .ref k5, .int (nI n)])), (k1, .inl (cI, 5, .inl kd)), (k2, .inl (cI, 5, .inl ln)), (k3, .inl (cI, 5, .inl lo)), (k4, .inl (cI, 5, .inl hi)), (k5, .inl (cI, 5, .inl vl))] (fun (u : Int32 × Int32 × Int32) => u.1 = zX kd ln vl n ∧ u.2.1 = zY kd ln vl n ∧ u.2.2 = zH kd vl n) (fun (u : Int32 × Int32 × Int32) => none) (fun (u : Int32 × Int32 × Int32) => [(t, .inr (4, [.int u.1, .int u.2.1, .int u.2.2])), (a, .inr (0, [.ref k1, .ref k2, .ref k3, .ref k4, .ref k5, .int (nI n)])), (k1, .inl (cI, 5, .inl kd)), (k2, .inl (cI, 5, .inl ln)), (k3, .inl (cI, 5, .inl lo)), (k4, .inl (cI, 5, .inl hi)), (k5, .inl (cI, 5, .inl vl))]) := by
  refine zM_v (cc := cX4_followBack) (maxL := 3) (by decide) rfl (Nat.le_of_ble_eq_true rfl) ?_
  intro p e s m args below meth c ls A0 Q C hl hP hS hRet
  obtain ⟨⟨hx, hb, hml, hown, hts⟩, hG, hK, hD, hlocks⟩ := C
  have hin0 : ∀ w ∈ u_ws RX0 TX0 6, w ∈ wsX4_followBack := by decide +kernel
  have hin4 : ∀ w ∈ u_ws RX4 TX4 3, w ∈ wsX4_followBack := by decide +kernel
  have hf35 := hG.1.2.1 ("ArmRoom$Tip", 35, "ArmRoom$Arm", "count", "I", "ArmRoom") (List.mem_of_getElem? (i := 8) rfl)
  have hf18 := hts (.fieldLink RX4 18 "ArmRoom$Tip" "heading" "I") (by decide +kernel)
  have hf40 := hG.1.2.1 ("ArmRoom$Tip", 40, "ArmRoom$Arm", "values", "[I", "ArmRoom") (List.mem_of_getElem? (i := 5) rfl)
  have hl : lv_has ls 3 [(0, .ref t), (1, .ref a)] := hl
  refine lv_aload_n hx hb dX4_followBack_0 rfl (lv_at hl 0 rfl) ?_
  refine z_callV (As := []) (rest := []) ⟨hx, hb, hml, hown, hts⟩ hG hK hP hD hS (c_X4_start l D cI cJ t x y h ) (cwV 0 hts gX4_followBack_X4_start rfl rfl rfl (by decide +kernel) ⟨Nat.le_of_ble_eq_true rfl, Nat.le_of_ble_eq_true rfl⟩) [0] (by decide) rfl (fun _ => rfl) 0 rfl rfl rfl rfl hl.1 rfl (Nat.le_of_ble_eq_true rfl) dX4_followBack_1 ⟨Nat.le_refl _, Nat.le_refl _⟩ (fun u_1 H locs hu_2 hP hD hS => ?_)
  have hP : va_P D vwCl [(t, .inr (4, [.int 0, .int 0, .int 0])), (a, .inr (0, [.ref k1, .ref k2, .ref k3, .ref k4, .ref k5, .int (nI n)])), (k1, .inl (cI, 5, .inl kd)), (k2, .inl (cI, 5, .inl ln)), (k3, .inl (cI, 5, .inl lo)), (k4, .inl (cI, 5, .inl hi)), (k5, .inl (cI, 5, .inl vl))] H := hP
  have hD : va_D A0 [(t, .inr (4, [.int 0, .int 0, .int 0])), (a, .inr (0, [.ref k1, .ref k2, .ref k3, .ref k4, .ref k5, .int (nI n)])), (k1, .inl (cI, 5, .inl kd)), (k2, .inl (cI, 5, .inl ln)), (k3, .inl (cI, 5, .inl lo)), (k4, .inl (cI, 5, .inl hi)), (k5, .inl (cI, 5, .inl vl))] := hD
  refine lv_aload_n hx hb dX4_followBack_4 rfl (lv_at hl 1 rfl) ?_
  refine va_getN (D := D) (ci := 0) (v := .int (nI n)) (C := RX0) (T := TX0) (N := 6) hx hb hts hin0 hown hK hP 1 rfl rfl 5 (by decide) (va_Nw.use rfl hf35) (fun _ h9 => h9) rfl dX4_followBack_5 ?_
  refine lv_iconst (v := 1) hx hb dX4_followBack_8 (by decide) ?_
  refine lv_isub hx hb dX4_followBack_9 ?_
  refine lv_istore_n (lv' := [(2, .int (nI n - 1)), (0, .ref t), (1, .ref a)]) hx hb dX4_followBack_10 rfl hl (by decide) rfl (fun ls hl => ?_)
  have lp_11_3 : ∀ (fu : Nat) (i : Nat) (xv : Int32) (yv : Int32), i ≤ n → xv + zX kd ln vl i = zX kd ln vl n → yv + zY kd ln vl i = zY kd ln vl n → (i < fu) → ∀ (H : Heap) (locs : List Loc), va_P D vwCl [(t, .inr (4, [.int xv, .int yv, .int 0])), (a, .inr (0, [.ref k1, .ref k2, .ref k3, .ref k4, .ref k5, .int (nI n)])), (k1, .inl (cI, 5, .inl kd)), (k2, .inl (cI, 5, .inl ln)), (k3, .inl (cI, 5, .inl lo)), (k4, .inl (cI, 5, .inl hi)), (k5, .inl (cI, 5, .inl vl))] H → va_D A0 [(t, .inr (4, [.int xv, .int yv, .int 0])), (a, .inr (0, [.ref k1, .ref k2, .ref k3, .ref k4, .ref k5, .int (nI n)])), (k1, .inl (cI, 5, .inl kd)), (k2, .inl (cI, 5, .inl ln)), (k3, .inl (cI, 5, .inl lo)), (k4, .inl (cI, 5, .inl hi)), (k5, .inl (cI, 5, .inl vl))] → va_S A0 s.heap H locs → ∀ (ls : Array Slot), lv_has ls 3 [(0, .ref t), (1, .ref a), (2, .int (nI i - 1))] → W p l e (zRm 3 0 0) s m args below meth c H locs 0 0 Q (F0 m 11 ls []) := by
    intro fu
    induction fu with
    | zero => intro i xv yv hi1 hxv hyv hfu; exact absurd hfu (Nat.not_lt_zero _)
    | succ fu ih_11_3 =>
      intro i xv yv hi1 hxv hyv hfu H locs hP hD hS ls hl
      refine lv_iload_n hx hb dX4_followBack_11 rfl (lv_at hl 2 rfl) ?_
      refine lv_if_lt (tgt := 41) hx hb dX4_followBack_12 (by decide) (fun c_12 => ?_) (fun c_12 => ?_)
      · have c_12 := (zlt0_pred (by omega)).mp c_12
        subst c_12
        have ex0 : xv = zX kd ln vl n := by rw [← hxv]; exact (Int32.add_zero xv).symm
        have ey0 : yv = zY kd ln vl n := by rw [← hyv]; exact (Int32.add_zero yv).symm
        refine lv_aload_n hx hb dX4_followBack_41 rfl (lv_at hl 0 rfl) ?_
        refine lv_aload_n hx hb dX4_followBack_42 rfl (lv_at hl 1 rfl) ?_
        refine lv_aload_n hx hb dX4_followBack_43 rfl (lv_at hl 1 rfl) ?_
        refine va_getN (D := D) (ci := 0) (v := .int (nI n)) (C := RX0) (T := TX0) (N := 6) hx hb hts hin0 hown hK hP 1 rfl rfl 5 (by decide) (va_Nw.use rfl hf35) (fun _ h9 => h9) rfl dX4_followBack_44 ?_
        refine lv_iconst (v := 1) hx hb dX4_followBack_47 (by decide) ?_
        refine lv_isub hx hb dX4_followBack_48 ?_
        refine z_callVN (As := [.int (nI n - 1)]) (rest := [.ref t]) ⟨hx, hb, hml, hown, hts⟩ hG hK hP hD hS (c_X0_headingAt l D cI cJ a k1 k2 k3 k4 k5 n kd ln lo hi vl n (by first | assumption | omega | decide) (by first | assumption | omega | decide)) (⟨va_cnB 1 hts gX4_followBack_X0_headingAt_n55 rfl rfl rfl (hG.1.1 ("ArmRoom$Tip", 55, yX0_headingAt, "ArmRoom") (List.mem_of_getElem? (i := 16) rfl)) (hts (.initialized RX0) (by decide +kernel)) (by decide +kernel) ⟨Nat.le_of_ble_eq_true rfl, Nat.le_of_ble_eq_true rfl⟩, hts (.instanceMethod yX0_headingAt) (by decide +kernel), hts (.selects RX0 yX0_headingAt yX0_headingAt) (by decide +kernel)⟩) [1, 2, 3, 4, 5, 6] (by decide) rfl (fun _ => rfl) 1 rfl rfl rfl rfl hl.1 rfl (Nat.le_of_ble_eq_true rfl) dX4_followBack_49 ⟨Nat.le_refl _, Nat.le_refl _⟩ (fun u_4 H locs hu_5 hP hD hS => ?_)
        obtain ⟨r_6, rfl⟩ : ∃ z, z = u_4 := ⟨_, rfl⟩
        have hu_5 : r_6 = zH kd vl n := hu_5
        have e_7 := hu_5
        subst e_7
        have hP : va_P D vwCl [(t, .inr (4, [.int xv, .int yv, .int 0])), (a, .inr (0, [.ref k1, .ref k2, .ref k3, .ref k4, .ref k5, .int (nI n)])), (k1, .inl (cI, 5, .inl kd)), (k2, .inl (cI, 5, .inl ln)), (k3, .inl (cI, 5, .inl lo)), (k4, .inl (cI, 5, .inl hi)), (k5, .inl (cI, 5, .inl vl))] H := hP
        have hD : va_D A0 [(t, .inr (4, [.int xv, .int yv, .int 0])), (a, .inr (0, [.ref k1, .ref k2, .ref k3, .ref k4, .ref k5, .int (nI n)])), (k1, .inl (cI, 5, .inl kd)), (k2, .inl (cI, 5, .inl ln)), (k3, .inl (cI, 5, .inl lo)), (k4, .inl (cI, 5, .inl hi)), (k5, .inl (cI, 5, .inl vl))] := hD
        refine va_put (D := D) (ci := 4) (v := .int (zH kd vl n)) (ty := .int) (C := RX4) (T := TX4) (N := 3) hx hb hts hin4 tyX4 tyX4_ok nmX4 hown hK hP hD hS 0 rfl rfl 2 (by decide) hf18 (fun _ h9 => h9) rfl (by decide +kernel) rfl rfl (Nat.le_of_ble_eq_true rfl) dX4_followBack_52 (fun H locs hP hD hS => ?_)
        have hP : va_P D vwCl [(t, .inr (4, [.int xv, .int yv, .int (zH kd vl n)])), (a, .inr (0, [.ref k1, .ref k2, .ref k3, .ref k4, .ref k5, .int (nI n)])), (k1, .inl (cI, 5, .inl kd)), (k2, .inl (cI, 5, .inl ln)), (k3, .inl (cI, 5, .inl lo)), (k4, .inl (cI, 5, .inl hi)), (k5, .inl (cI, 5, .inl vl))] H := hP
        have hD : va_D A0 [(t, .inr (4, [.int xv, .int yv, .int (zH kd vl n)])), (a, .inr (0, [.ref k1, .ref k2, .ref k3, .ref k4, .ref k5, .int (nI n)])), (k1, .inl (cI, 5, .inl kd)), (k2, .inl (cI, 5, .inl ln)), (k3, .inl (cI, 5, .inl lo)), (k4, .inl (cI, 5, .inl hi)), (k5, .inl (cI, 5, .inl vl))] := hD
        exact hRet _ (xv, yv, (zH kd vl n)) _ _ _ ⟨ex0, ey0, rfl⟩ hP hS dX4_followBack_55
      · have c_12 : ¬ i = 0 := fun h => c_12 ((zlt0_pred (by omega)).mpr h)
        obtain ⟨k, rfl⟩ : ∃ k, i = k + 1 := ⟨i - 1, by omega⟩
        rw [nI_pred] at hl
        refine lv_aload_n hx hb dX4_followBack_15 rfl (lv_at hl 0 rfl) ?_
        refine lv_aload_n hx hb dX4_followBack_16 rfl (lv_at hl 1 rfl) ?_
        refine lv_iload_n hx hb dX4_followBack_17 rfl (lv_at hl 2 rfl) ?_
        refine lv_aload_n hx hb dX4_followBack_18 rfl (lv_at hl 1 rfl) ?_
        refine va_getN (D := D) (ci := 0) (v := .ref k5) (C := RX0) (T := TX0) (N := 6) hx hb hts hin0 hown hK hP 1 rfl rfl 4 (by decide) (va_Nw.use rfl hf40) (fun _ h9 => h9) rfl dX4_followBack_19 ?_
        refine lv_iload_n hx hb dX4_followBack_22 rfl (lv_at hl 2 rfl) ?_
        refine z_iald hx hb hK hP 6 rfl (j := k) (by omega) (by decide) dX4_followBack_23 ?_
        refine z_callVN (As := [.int (nI k), .int (vl k)]) (rest := [.ref t]) ⟨hx, hb, hml, hown, hts⟩ hG hK hP hD hS (c_X0_distanceOf l D cI cJ a k1 k2 k3 k4 k5 n kd ln lo hi vl k (vl k) (by first | assumption | omega | decide)) (⟨va_cnB 2 hts gX4_followBack_X0_distanceOf_n48 rfl rfl rfl (hG.1.1 ("ArmRoom$Tip", 48, yX0_distanceOf, "ArmRoom") (List.mem_of_getElem? (i := 7) rfl)) (hts (.initialized RX0) (by decide +kernel)) (by decide +kernel) ⟨Nat.le_of_ble_eq_true rfl, Nat.le_of_ble_eq_true rfl⟩, hts (.instanceMethod yX0_distanceOf) (by decide +kernel), hts (.selects RX0 yX0_distanceOf yX0_distanceOf) (by decide +kernel)⟩) [1, 2, 3, 4, 5, 6] (by decide) rfl (fun _ => rfl) 1 rfl rfl rfl rfl hl.1 rfl (Nat.le_of_ble_eq_true rfl) dX4_followBack_24 ⟨Nat.le_refl _, Nat.le_refl _⟩ (fun u_8 H locs hu_9 hP hD hS => ?_)
        obtain ⟨r_10, rfl⟩ : ∃ z, z = u_8 := ⟨_, rfl⟩
        have hu_9 : r_10 = zDist kd ln k (vl k) := hu_9
        have e_11 := hu_9
        subst e_11
        have hP : va_P D vwCl [(t, .inr (4, [.int xv, .int yv, .int 0])), (a, .inr (0, [.ref k1, .ref k2, .ref k3, .ref k4, .ref k5, .int (nI n)])), (k1, .inl (cI, 5, .inl kd)), (k2, .inl (cI, 5, .inl ln)), (k3, .inl (cI, 5, .inl lo)), (k4, .inl (cI, 5, .inl hi)), (k5, .inl (cI, 5, .inl vl))] H := hP
        have hD : va_D A0 [(t, .inr (4, [.int xv, .int yv, .int 0])), (a, .inr (0, [.ref k1, .ref k2, .ref k3, .ref k4, .ref k5, .int (nI n)])), (k1, .inl (cI, 5, .inl kd)), (k2, .inl (cI, 5, .inl ln)), (k3, .inl (cI, 5, .inl lo)), (k4, .inl (cI, 5, .inl hi)), (k5, .inl (cI, 5, .inl vl))] := hD
        refine lv_aload_n hx hb dX4_followBack_27 rfl (lv_at hl 1 rfl) ?_
        refine lv_iload_n hx hb dX4_followBack_28 rfl (lv_at hl 2 rfl) ?_
        refine z_topi (y := nI (k + 1) - 1) ((nI_pred _).symm) ?_
        refine z_callVN (As := [.int (nI (k + 1) - 1)]) (rest := [.int (zDist kd ln k (vl k)), .ref t]) ⟨hx, hb, hml, hown, hts⟩ hG hK hP hD hS (c_X0_headingAt l D cI cJ a k1 k2 k3 k4 k5 n kd ln lo hi vl (k + 1) (by first | assumption | omega | decide) (by first | assumption | omega | decide)) (⟨va_cnB 1 hts gX4_followBack_X0_headingAt_n55 rfl rfl rfl (hG.1.1 ("ArmRoom$Tip", 55, yX0_headingAt, "ArmRoom") (List.mem_of_getElem? (i := 16) rfl)) (hts (.initialized RX0) (by decide +kernel)) (by decide +kernel) ⟨Nat.le_of_ble_eq_true rfl, Nat.le_of_ble_eq_true rfl⟩, hts (.instanceMethod yX0_headingAt) (by decide +kernel), hts (.selects RX0 yX0_headingAt yX0_headingAt) (by decide +kernel)⟩) [1, 2, 3, 4, 5, 6] (by decide) rfl (fun _ => rfl) 1 rfl rfl rfl rfl hl.1 rfl (Nat.le_of_ble_eq_true rfl) dX4_followBack_29 ⟨Nat.le_refl _, Nat.le_refl _⟩ (fun u_12 H locs hu_13 hP hD hS => ?_)
        obtain ⟨r_14, rfl⟩ : ∃ z, z = u_12 := ⟨_, rfl⟩
        have hu_13 : r_14 = zH kd vl (k + 1) := hu_13
        have e_15 := hu_13
        subst e_15
        have hP : va_P D vwCl [(t, .inr (4, [.int xv, .int yv, .int 0])), (a, .inr (0, [.ref k1, .ref k2, .ref k3, .ref k4, .ref k5, .int (nI n)])), (k1, .inl (cI, 5, .inl kd)), (k2, .inl (cI, 5, .inl ln)), (k3, .inl (cI, 5, .inl lo)), (k4, .inl (cI, 5, .inl hi)), (k5, .inl (cI, 5, .inl vl))] H := hP
        have hD : va_D A0 [(t, .inr (4, [.int xv, .int yv, .int 0])), (a, .inr (0, [.ref k1, .ref k2, .ref k3, .ref k4, .ref k5, .int (nI n)])), (k1, .inl (cI, 5, .inl kd)), (k2, .inl (cI, 5, .inl ln)), (k3, .inl (cI, 5, .inl lo)), (k4, .inl (cI, 5, .inl hi)), (k5, .inl (cI, 5, .inl vl))] := hD
        refine z_callV (As := [.int (zDist kd ln k (vl k)), .int (zH kd vl (k + 1))]) (rest := []) ⟨hx, hb, hml, hown, hts⟩ hG hK hP hD hS (c_X4_go l D cI cJ t xv yv 0 (zDist kd ln k (vl k)) (zH kd vl (k + 1)) ) (cwV 2 hts gX4_followBack_X4_go rfl rfl rfl (by decide +kernel) ⟨Nat.le_of_ble_eq_true rfl, Nat.le_of_ble_eq_true rfl⟩) [0] (by decide) rfl (fun _ => rfl) 0 rfl rfl rfl rfl hl.1 rfl (Nat.le_of_ble_eq_true rfl) dX4_followBack_32 ⟨Nat.le_refl _, Nat.le_refl _⟩ (fun u_16 H locs hu_17 hP hD hS => ?_)
        have hP : va_P D vwCl [(t, .inr (4, [.int (xv + (zDist kd ln k (vl k)) * zcs (zH kd vl (k + 1))), .int (yv + (zDist kd ln k (vl k)) * zsn (zH kd vl (k + 1))), .int 0])), (a, .inr (0, [.ref k1, .ref k2, .ref k3, .ref k4, .ref k5, .int (nI n)])), (k1, .inl (cI, 5, .inl kd)), (k2, .inl (cI, 5, .inl ln)), (k3, .inl (cI, 5, .inl lo)), (k4, .inl (cI, 5, .inl hi)), (k5, .inl (cI, 5, .inl vl))] H := hP
        have hD : va_D A0 [(t, .inr (4, [.int (xv + (zDist kd ln k (vl k)) * zcs (zH kd vl (k + 1))), .int (yv + (zDist kd ln k (vl k)) * zsn (zH kd vl (k + 1))), .int 0])), (a, .inr (0, [.ref k1, .ref k2, .ref k3, .ref k4, .ref k5, .int (nI n)])), (k1, .inl (cI, 5, .inl kd)), (k2, .inl (cI, 5, .inl ln)), (k3, .inl (cI, 5, .inl lo)), (k4, .inl (cI, 5, .inl hi)), (k5, .inl (cI, 5, .inl vl))] := hD
        refine lv_iinc (v := nI k - 1) (lv' := [(2, .int (nI k - 1)), (0, .ref t), (1, .ref a)]) hx hb dX4_followBack_35 hl (k := 2) rfl (zdec _) (by decide) rfl (fun ls hl => ?_)
        refine lv_goto (tgt := 11) hx hb dX4_followBack_38 (by decide) ?_
        exact ih_11_3 k _ _ (by first | assumption | omega | rfl | simp_all) (zback _ _ _ _ hxv) (zback _ _ _ _ hyv) (by omega) _ _ hP hD hS _ (lv_sub hl [1, 2, 0] rfl)
  exact lp_11_3 (n + 1) n 0 0 (by first | assumption | omega | rfl | simp_all) (Int32.zero_add _) (Int32.zero_add _) (Nat.lt_succ_self _) _ _ hP hD hS _ (lv_sub hl [1, 2, 0] rfl)
end
section
/-! bounds: no sum or product here leaves its range -/
theorem zadd {a b : Int32} (h1 : -2147483648 ≤ a.toInt + b.toInt) (h2 : a.toInt + b.toInt < 2147483648) : (a + b).toInt = a.toInt + b.toInt := by
  rw [Int32.toInt_add]; exact Int.bmod_eq_of_le_mul_two (by omega) (by omega)
theorem zsub {a b : Int32} (h1 : -2147483648 ≤ a.toInt - b.toInt) (h2 : a.toInt - b.toInt < 2147483648) : (a - b).toInt = a.toInt - b.toInt := by
  rw [Int32.toInt_sub]; exact Int.bmod_eq_of_le_mul_two (by omega) (by omega)
theorem zmul {a b : Int32} (h1 : -2147483648 ≤ a.toInt * b.toInt) (h2 : a.toInt * b.toInt < 2147483648) : (a * b).toInt = a.toInt * b.toInt := by
  rw [Int32.toInt_mul]; exact Int.bmod_eq_of_le_mul_two (by omega) (by omega)
theorem zneg {a : Int32} (h1 : -2147483648 < a.toInt) : (-a).toInt = -a.toInt := by
  have := Int32.toInt_lt a
  rw [Int32.toInt_neg]; exact Int.bmod_eq_of_le_mul_two (by omega) (by omega)
theorem zlt {a b : Int32} : a < b ↔ a.toInt < b.toInt := Int32.lt_iff_toInt_lt
theorem zle {a b : Int32} : a ≤ b ↔ a.toInt ≤ b.toInt := Int32.le_iff_toInt_le
theorem zext {a b : Int32} (h : a.toInt = b.toInt) : a = b := Int32.toInt_inj.mp h
theorem zSin_bd (k : Nat) : 0 ≤ (zSin k).toInt ∧ (zSin k).toInt ≤ 1000 := by
  have h : ∀ k < 17, 0 ≤ (zSin k).toInt ∧ (zSin k).toInt ≤ 1000 := by decide +kernel
  by_cases hk : k < 17
  · exact h k hk
  · have e : zSin k = 0 := by
      unfold zSin
      rw [List.getD_eq_getElem?_getD, List.getElem?_eq_none (Nat.not_lt.mp hk)]
      rfl
    rw [e]; decide
theorem zsn_bd (d : Int32) : -1000 ≤ (zsn d).toInt ∧ (zsn d).toInt ≤ 1000 := by
  unfold zsn zS
  obtain ⟨h1, h2⟩ := zSin_bd (if 16 < d &&& 31 then 32 - (d &&& 31) else d &&& 31).toNatClampNeg
  split
  · omega
  · rw [zneg (by omega)]; omega
theorem zcs_bd (d : Int32) : -1000 ≤ (zcs d).toInt ∧ (zcs d).toInt ≤ 1000 := zsn_bd _
/-- lengths, and a pose, in their ranges -/
def zLok (n : Nat) (ln : Nat → Int32) : Prop := ∀ j, j < n → 0 ≤ (ln j).toInt ∧ (ln j).toInt ≤ 200
def zPok (n : Nat) (p : Nat → Int32) : Prop := ∀ j, j < n → -101 ≤ (p j).toInt ∧ (p j).toInt ≤ 101
theorem zDist_bd {kd ln p : Nat → Int32} {n j : Nat} (hl : zLok n ln) (hp : zPok n p) (hj : j < n) : -101 ≤ (zDist kd ln j (p j)).toInt ∧ (zDist kd ln j (p j)).toInt ≤ 301 := by
  have h1 := hl j hj
  have h2 := hp j hj
  unfold zDist
  split
  · omega
  · rw [zadd (by omega) (by omega)]; omega
theorem zprod_bd {a b : Int} {A B : Int} (ha : -A ≤ a ∧ a ≤ A) (hb : -B ≤ b ∧ b ≤ B) (hA : 0 ≤ A) (hB : 0 ≤ B) : -(A * B) ≤ a * b ∧ a * b ≤ A * B := by
  have h1 : a.natAbs ≤ A.natAbs := by omega
  have h2 : b.natAbs ≤ B.natAbs := by omega
  have h3 : (a * b).natAbs ≤ (A * B).natAbs := by
    rw [Int.natAbs_mul, Int.natAbs_mul]; exact Nat.mul_le_mul h1 h2
  have h4 : 0 ≤ A * B := Int.mul_nonneg hA hB
  omega
theorem zterm_bd {d c : Int32} (hd : -101 ≤ d.toInt ∧ d.toInt ≤ 301) (hc : -1000 ≤ c.toInt ∧ c.toInt ≤ 1000) : (d * c).toInt = d.toInt * c.toInt ∧ -301000 ≤ (d * c).toInt ∧ (d * c).toInt ≤ 301000 := by
  have h := zprod_bd (a := d.toInt) (b := c.toInt) (A := 301) (B := 1000) (by omega) (by omega) (by omega) (by omega)
  have e := zmul (a := d) (b := c) (by omega) (by omega)
  rw [e]; omega
theorem zX_bd {kd ln p : Nat → Int32} : ∀ {n : Nat}, n ≤ 5 → zLok n ln → zPok n p → -(301000 * (n : Int)) ≤ (zX kd ln p n).toInt ∧ (zX kd ln p n).toInt ≤ 301000 * (n : Int)
  | 0, _, _, _ => by
    show -(301000 * ((0 : Nat) : Int)) ≤ (0 : Int32).toInt ∧ (0 : Int32).toInt ≤ 301000 * ((0 : Nat) : Int)
    decide
  | n + 1, hn, hl, hp => by
    have ih := zX_bd (kd := kd) (n := n) (by omega) (fun j hj => hl j (by omega)) (fun j hj => hp j (by omega))
    have h := zterm_bd (zDist_bd (kd := kd) hl hp (Nat.lt_succ_self n)) (zcs_bd (zH kd p (n + 1)))
    show _ ≤ (zX kd ln p n + _).toInt ∧ (zX kd ln p n + _).toInt ≤ _
    rw [zadd (by omega) (by omega)]
    omega
theorem zY_bd {kd ln p : Nat → Int32} : ∀ {n : Nat}, n ≤ 5 → zLok n ln → zPok n p → -(301000 * (n : Int)) ≤ (zY kd ln p n).toInt ∧ (zY kd ln p n).toInt ≤ 301000 * (n : Int)
  | 0, _, _, _ => by
    show -(301000 * ((0 : Nat) : Int)) ≤ (0 : Int32).toInt ∧ (0 : Int32).toInt ≤ 301000 * ((0 : Nat) : Int)
    decide
  | n + 1, hn, hl, hp => by
    have ih := zY_bd (kd := kd) (n := n) (by omega) (fun j hj => hl j (by omega)) (fun j hj => hp j (by omega))
    have h := zterm_bd (zDist_bd (kd := kd) hl hp (Nat.lt_succ_self n)) (zsn_bd (zH kd p (n + 1)))
    show _ ≤ (zY kd ln p n + _).toInt ∧ (zY kd ln p n + _).toInt ≤ _
    rw [zadd (by omega) (by omega)]
    omega
/-- the reference's farness: the difference is taken before it is made long -/
def zFarM (gx gy x y : Int32) : Int64 := (x - gx).toInt64 * (x - gx).toInt64 + (y - gy).toInt64 * (y - gy).toInt64
def zB (M : Int) (x : Int32) : Prop := -M ≤ x.toInt ∧ x.toInt ≤ M
theorem zsub64 {x g : Int32} (hx : zB 2000000 x) (hg : zB 1000000 g) : (x - g).toInt64 = x.toInt64 - g.toInt64 := by
  obtain ⟨h1, h2⟩ := hx
  obtain ⟨h3, h4⟩ := hg
  refine Int64.toInt_inj.mp ?_
  rw [Int32.toInt_toInt64, zsub (by omega) (by omega), Int64.toInt_sub, Int32.toInt_toInt64, Int32.toInt_toInt64]
  exact (Int.bmod_eq_of_le_mul_two (by omega) (by omega)).symm
theorem zFar_eq {gx gy x y : Int32} (hx : zB 2000000 x) (hy : zB 2000000 y) (hgx : zB 1000000 gx) (hgy : zB 1000000 gy) : zFarM gx gy x y = zFar gx gy x y := by
  unfold zFarM zFar
  rw [zsub64 hx hgx, zsub64 hy hgy]
theorem zXb {kd ln p : Nat → Int32} {n : Nat} (hn : n ≤ 5) (hl : zLok n ln) (hp : zPok n p) : zB 2000000 (zX kd ln p n) := by
  have := zX_bd (kd := kd) hn hl hp
  constructor <;> omega
theorem zYb {kd ln p : Nat → Int32} {n : Nat} (hn : n ≤ 5) (hl : zLok n ln) (hp : zPok n p) : zB 2000000 (zY kd ln p n) := by
  have := zY_bd (kd := kd) hn hl hp
  constructor <;> omega
/-- a direction as 0 to 63, of one that is not far from there -/
def zToldM (d : Int32) : Int32 := (d - d / 64 * 64 + 64) - (d - d / 64 * 64 + 64) / 64 * 64
theorem zTold_eq {d : Int32} (h1 : -200 ≤ d.toInt) (h2 : d.toInt < 200) : zToldM d = d &&& 63 := by
  have h : ∀ k < 400, zToldM (nI k - 200) = (nI k - 200) &&& 63 := by decide +kernel
  obtain ⟨k, hk⟩ : ∃ k : Nat, (k : Int) = d.toInt + 200 := ⟨(d.toInt + 200).toNat, by omega⟩
  have e : d = nI k - 200 := by
    refine zext ?_
    have e1 : (nI k).toInt = k := nI_toInt (by omega)
    have e2 : (200 : Int32).toInt = 200 := by decide
    rw [zsub (by omega) (by omega)]
    omega
  rw [e]
  exact h k (by omega)
theorem zH_nI (kd p : Nat → Int32) : ∀ j, ∃ k : Nat, k < 64 ∧ zH kd p j = nI k
  | 0 => ⟨0, by omega, rfl⟩
  | j + 1 => z63 _
theorem zsnM (k : Nat) (h : k < 80) : zsn (nI k) = if k % 64 < 32 then zSin (if k % 64 % 32 ≤ 16 then k % 64 % 32 else 32 - k % 64 % 32) else -(zSin (if k % 64 % 32 ≤ 16 then k % 64 % 32 else 32 - k % 64 % 32)) := by
  have h2 : ∀ k < 80, zsn (nI k) = if k % 64 < 32 then zSin (if k % 64 % 32 ≤ 16 then k % 64 % 32 else 32 - k % 64 % 32) else -(zSin (if k % 64 % 32 ≤ 16 then k % 64 % 32 else 32 - k % 64 % 32)) := by decide +kernel
  exact h2 k h
theorem z63id {k : Nat} (h : k < 64) : nI k &&& 63 = nI k := by
  have h2 : ∀ k < 64, nI k &&& 63 = nI k := by decide +kernel
  exact h2 k h
theorem zH_63 (kd p : Nat → Int32) (j : Nat) : zH kd p j &&& 63 = zH kd p j := by
  obtain ⟨k, hk, e⟩ := zH_nI kd p j
  rw [e]; exact z63id hk
/-- a value in its limits, as the reference says it -/
def zHeldR (lo hi v : Int32) : Int32 := if v < lo then lo else if hi < v then hi else v
theorem zHeld_eq {lo hi v : Int32} (h : lo ≤ hi) : zHeldR lo hi v = zHeldC lo hi v := by
  rw [zle] at h
  unfold zHeldR zHeldC
  simp only [zlt]
  by_cases h1 : v.toInt < lo.toInt
  · have h2 : v.toInt < hi.toInt := by omega
    rw [if_pos h1, if_pos h2, if_neg (by omega)]
  · by_cases h2 : hi.toInt < v.toInt
    · have h3 : ¬ v.toInt < hi.toInt := by omega
      rw [if_neg h1, if_pos h2, if_neg h3]
      by_cases h4 : lo.toInt < hi.toInt
      · rw [if_pos h4]
      · rw [if_neg h4]; exact (zext (by omega))
    · rw [if_neg h1, if_neg h2]
      by_cases h3 : v.toInt < hi.toInt
      · rw [if_pos h3]
        by_cases h4 : lo.toInt < v.toInt
        · rw [if_pos h4]
        · rw [if_neg h4]; exact (zext (by omega))
      · rw [if_neg h3]
        by_cases h4 : lo.toInt < hi.toInt
        · rw [if_pos h4]; exact (zext (by omega))
        · rw [if_neg h4]; exact (zext (by omega))
theorem zHeld_in {lo hi v : Int32} (h : lo ≤ hi) : lo ≤ zHeldC lo hi v ∧ zHeldC lo hi v ≤ hi := by
  rw [← zHeld_eq h]
  rw [zle] at h
  unfold zHeldR
  simp only [zlt, zle]
  split
  · omega
  · split <;> omega
end
section
/-! how far; moves; freedom; a step -/
def zFn (kd ln vl : Nat → Int32) (n : Nat) (gx gy : Int32) : Int64 := zFar gx gy (zX kd ln vl n) (zY kd ln vl n)
def zFw (kd ln vl : Nat → Int32) (n : Nat) (gx gy o ov : Int32) : Int64 := zFar gx gy (zX kd ln (zPo vl o ov) n) (zY kd ln (zPo vl o ov) n)
def zMx (kd ln vl : Nat → Int32) (n j : Nat) : Int32 := zX kd ln (zPo vl (nI j) (vl j + 1)) n - zX kd ln vl n
def zMy (kd ln vl : Nat → Int32) (n j : Nat) : Int32 := zY kd ln (zPo vl (nI j) (vl j + 1)) n - zY kd ln vl n
theorem zupd_ok {f g : Nat → Int32} {i : Nat} {x : Int32} (h : ∀ j, j < i → f j = g j) (hx : x = g i) : ∀ j, j < i + 1 → upd f i x j = g j := by
  intro j hj
  unfold upd
  split
  · next e => rw [e, hx]
  · exact h j (by omega)
/-- the move of x by one joint times that of y by the other, and so on, without its sign -/
def zCr (mx my : Nat → Int32) (i j : Nat) : Int64 := if 0 < (mx i).toInt64 * (my j).toInt64 - (my i).toInt64 * (mx j).toInt64 then (mx i).toInt64 * (my j).toInt64 - (my i).toInt64 * (mx j).toInt64 else -((mx i).toInt64 * (my j).toInt64 - (my i).toInt64 * (mx j).toInt64)
def zFr (P : Nat → Nat → Prop) (mx my : Nat → Int32) (g : Int64) : Prop := 0 ≤ g.toInt ∧ (∀ i j, P i j → (zCr mx my i j).toInt ≤ g.toInt) ∧ (g = 0 ∨ ∃ i j, P i j ∧ g = zCr mx my i j)
theorem zFr_0 {P : Nat → Nat → Prop} {mx my : Nat → Int32} (h : ∀ i j, ¬ P i j) : zFr P mx my 0 := ⟨by decide, fun i j hp => absurd hp (h i j), Or.inl rfl⟩
theorem zFr_iff {P P' : Nat → Nat → Prop} {mx my : Nat → Int32} {g : Int64} (h : ∀ i j, P i j ↔ P' i j) (hf : zFr P mx my g) : zFr P' mx my g := by
  obtain ⟨h1, h2, h3⟩ := hf
  refine ⟨h1, fun i j hp => h2 i j ((h i j).mpr hp), ?_⟩
  rcases h3 with h3 | ⟨i, j, h4, h5⟩
  · exact Or.inl h3
  · exact Or.inr ⟨i, j, (h i j).mp h4, h5⟩
theorem zFr_add {P P' : Nat → Nat → Prop} {mx my : Nat → Int32} {g x : Int64} {i j : Nat} (hf : zFr P mx my g) (hx : x = zCr mx my i j) (h : ∀ i' j', P' i' j' ↔ P i' j' ∨ (i' = i ∧ j' = j)) : zFr P' mx my (if x < g then g else x) := by
  obtain ⟨h1, h2, h3⟩ := hf
  by_cases hc : x < g
  · rw [if_pos hc]
    have hc2 : x.toInt < g.toInt := Int64.lt_iff_toInt_lt.mp hc
    refine ⟨h1, fun i' j' hp => ?_, ?_⟩
    · rcases (h i' j').mp hp with q | ⟨q1, q2⟩
      · exact h2 i' j' q
      · rw [q1, q2, ← hx]; omega
    · rcases h3 with h3 | ⟨i', j', h4, h5⟩
      · exact Or.inl h3
      · exact Or.inr ⟨i', j', (h i' j').mpr (Or.inl h4), h5⟩
  · rw [if_neg hc]
    have hc2 : ¬ x.toInt < g.toInt := fun q => hc (Int64.lt_iff_toInt_lt.mpr q)
    refine ⟨by omega, fun i' j' hp => ?_, Or.inr ⟨i, j, (h i j).mpr (Or.inr ⟨rfl, rfl⟩), hx⟩⟩
    rcases (h i' j').mp hp with q | ⟨q1, q2⟩
    · have := h2 i' j' q; omega
    · rw [q1, q2, ← hx]; omega
theorem zFr_one {P : Nat → Nat → Prop} {mx my : Nat → Int32} {g g' : Int64} (h : zFr P mx my g) (h' : zFr P mx my g') : g = g' := by
  obtain ⟨h1, h2, h3⟩ := h
  obtain ⟨h4, h5, h6⟩ := h'
  refine Int64.toInt_inj.mp ?_
  have z0 : (0 : Int64).toInt = 0 := by decide
  have a : g.toInt ≤ g'.toInt := by
    rcases h3 with e | ⟨i, j, hp, e⟩
    · rw [e, z0]; exact h4
    · rw [e]; exact h5 i j hp
  have b : g'.toInt ≤ g.toInt := by
    rcases h6 with e | ⟨i, j, hp, e⟩
    · rw [e, z0]; exact h1
    · rw [e]; exact h2 i j hp
  omega
theorem zFr_congr {P : Nat → Nat → Prop} {mx my mx' my' : Nat → Int32} {n : Nat} {g : Int64} (hx : ∀ j, j < n → mx j = mx' j) (hy : ∀ j, j < n → my j = my' j) (hP : ∀ i j, P i j → i < n ∧ j < n) (h : zFr P mx my g) : zFr P mx' my' g := by
  have e : ∀ i j, P i j → zCr mx my i j = zCr mx' my' i j := by
    intro i j hp
    obtain ⟨h1, h2⟩ := hP i j hp
    unfold zCr
    rw [hx i h1, hx j h2, hy i h1, hy j h2]
  obtain ⟨h1, h2, h3⟩ := h
  refine ⟨h1, fun i j hp => by rw [← e i j hp]; exact h2 i j hp, ?_⟩
  rcases h3 with h3 | ⟨i, j, h4, h5⟩
  · exact Or.inl h3
  · exact Or.inr ⟨i, j, h4, by rw [← e i j h4]; exact h5⟩
def zFree (kd ln vl : Nat → Int32) (n : Nat) (g : Int64) : Prop := zFr (fun i j => i < j ∧ j < n) (zMx kd ln vl n) (zMy kd ln vl n) g
/-- the same of the pair the other way round, as the reference takes it -/
theorem zCr_swap (mx my : Nat → Int32) (i j : Nat) : (if (mx i).toInt64 * (my j).toInt64 - (my i).toInt64 * (mx j).toInt64 < 0 then -((mx i).toInt64 * (my j).toInt64 - (my i).toInt64 * (mx j).toInt64) else (mx i).toInt64 * (my j).toInt64 - (my i).toInt64 * (mx j).toInt64) = zCr mx my j i := by
  unfold zCr
  have e : (mx i).toInt64 * (my j).toInt64 - (my i).toInt64 * (mx j).toInt64 = -((mx j).toInt64 * (my i).toInt64 - (my j).toInt64 * (mx i).toInt64) := by
    rw [Int64.neg_sub, Int64.mul_comm (my j).toInt64, Int64.mul_comm (mx j).toInt64]
  rw [e]
  generalize (mx j).toInt64 * (my i).toInt64 - (my j).toInt64 * (mx i).toInt64 = v
  have z0 : (0 : Int64).toInt = 0 := by decide
  simp only [Int64.lt_iff_toInt_lt, z0]
  by_cases hm : v.toInt = -9223372036854775808
  · have hv : v = -9223372036854775808 := Int64.toInt_inj.mp (by rw [hm]; decide)
    rw [hv]; decide
  · have h1 := Int64.le_toInt v
    have h2 := Int64.toInt_lt v
    have hn : (-v).toInt = -v.toInt := by
      rw [Int64.toInt_neg]; exact Int.bmod_eq_of_le_mul_two (by omega) (by omega)
    rw [hn, Int64.neg_neg]
    by_cases h3 : 0 < v.toInt
    · rw [if_pos h3, if_pos (by omega)]
    · rw [if_neg h3, if_neg (by omega)]
/-- one try of a step: a joint's value less (sd = -1) or more (sd = 1) by the stride -/
def zTry (kd ln lo hi vl : Nat → Int32) (n : Nat) (gx gy st : Int32) (f : Int64 × Int32 × Int32) (j : Nat) (sd : Int32) : Int64 × Int32 × Int32 :=
  if zFw kd ln vl n gx gy (nI j) (zHeldC (lo j) (hi j) (vl j + sd * st)) < f.1 then (zFw kd ln vl n gx gy (nI j) (zHeldC (lo j) (hi j) (vl j + sd * st)), nI j, zHeldC (lo j) (hi j) (vl j + sd * st)) else f
def zBst (kd ln lo hi vl : Nat → Int32) (n : Nat) (gx gy st : Int32) : Nat → Int64 × Int32 × Int32
  | 0 => (zFn kd ln vl n gx gy, -1, 0)
  | j + 1 => zTry kd ln lo hi vl n gx gy st (zTry kd ln lo hi vl n gx gy st (zBst kd ln lo hi vl n gx gy st j) j (-1)) j 1
def zGo (kd ln lo hi vl : Nat → Int32) (n : Nat) (gx gy st : Int32) : Prop := ¬ (zBst kd ln lo hi vl n gx gy st n).2.1 = -1
def zNx (kd ln lo hi vl : Nat → Int32) (n : Nat) (gx gy st : Int32) : Nat → Int32 := upd vl ((zBst kd ln lo hi vl n gx gy st n).2.1.toNatClampNeg) (zBst kd ln lo hi vl n gx gy st n).2.2
theorem zBst_ix (kd ln lo hi vl : Nat → Int32) (n : Nat) (gx gy st : Int32) : ∀ k, (zBst kd ln lo hi vl n gx gy st k).2.1 = -1 ∨ ∃ j, j < k ∧ (zBst kd ln lo hi vl n gx gy st k).2.1 = nI j ∧ ∃ v, (zBst kd ln lo hi vl n gx gy st k).2.2 = zHeldC (lo j) (hi j) v := by
  have key : ∀ (f : Int64 × Int32 × Int32) (k : Nat) (sd : Int32), (f.2.1 = -1 ∨ ∃ j, j < k + 1 ∧ f.2.1 = nI j ∧ ∃ v, f.2.2 = zHeldC (lo j) (hi j) v) → ((zTry kd ln lo hi vl n gx gy st f k sd).2.1 = -1 ∨ ∃ j, j < k + 1 ∧ (zTry kd ln lo hi vl n gx gy st f k sd).2.1 = nI j ∧ ∃ v, (zTry kd ln lo hi vl n gx gy st f k sd).2.2 = zHeldC (lo j) (hi j) v) := by
    intro f k sd h
    unfold zTry
    split
    · exact Or.inr ⟨k, by omega, rfl, _, rfl⟩
    · exact h
  intro k
  induction k with
  | zero => exact Or.inl rfl
  | succ k ih =>
    refine key _ k 1 (key _ k (-1) ?_)
    rcases ih with h | ⟨j, h1, h2⟩
    · exact Or.inl h
    · exact Or.inr ⟨j, by omega, h2⟩
def zHin (kd ln lo hi vl : Nat → Int32) (n : Nat) (gx gy : Int32) : Nat → Nat → Int32
  | 0, _ => -1
  | k + 1, i => if (vl i = hi i ∧ zFw kd ln vl n gx gy (nI i) (vl i + 1) < zFn kd ln vl n gx gy) ∨ (vl i = lo i ∧ zFw kd ln vl n gx gy (nI i) (vl i - 1) < zFn kd ln vl n gx gy) then nI i else zHin kd ln lo hi vl n gx gy k (i + 1)
theorem zHin_t {kd ln lo hi vl : Nat → Int32} {n : Nat} {gx gy : Int32} {i : Nat} (hi' : i < n) (h : (vl i = hi i ∧ zFw kd ln vl n gx gy (nI i) (vl i + 1) < zFn kd ln vl n gx gy) ∨ (vl i = lo i ∧ zFw kd ln vl n gx gy (nI i) (vl i - 1) < zFn kd ln vl n gx gy)) : zHin kd ln lo hi vl n gx gy (n - i) i = nI i := by
  have e : n - i = (n - (i + 1)) + 1 := by omega
  rw [e]
  show (if _ then _ else _) = _
  rw [if_pos h]
theorem zHin_f {kd ln lo hi vl : Nat → Int32} {n : Nat} {gx gy : Int32} {i : Nat} (hi' : i < n) (h : ¬ ((vl i = hi i ∧ zFw kd ln vl n gx gy (nI i) (vl i + 1) < zFn kd ln vl n gx gy) ∨ (vl i = lo i ∧ zFw kd ln vl n gx gy (nI i) (vl i - 1) < zFn kd ln vl n gx gy))) : zHin kd ln lo hi vl n gx gy (n - i) i = zHin kd ln lo hi vl n gx gy (n - (i + 1)) (i + 1) := by
  have e : n - i = (n - (i + 1)) + 1 := by omega
  rw [e]
  show (if _ then _ else _) = _
  rw [if_neg h]
end
section
set_option maxHeartbeats 4000000 in
set_option maxRecDepth 100000 in
theorem c_X5_farNow (l : Launch) (D : va_G) (cI cJ : ClassId) (oo : Nat) (s9 : Nat) (m1 : Nat) (m2 : Nat) (g : Nat) (gx : Int32) (gy : Int32) (sl : Int32) (t1 : Nat) (x1 : Int32) (y1 : Int32) (h1 : Int32) (t2 : Nat) (a : Nat) (k1 : Nat) (k2 : Nat) (k3 : Nat) (k4 : Nat) (k5 : Nat) (n : Nat) (kd : Nat → Int32) (ln : Nat → Int32) (lo : Nat → Int32) (hi : Nat → Int32) (vl : Nat → Int32) (hn : n ≤ 5) : zM l yX5_farNow wsX5_farNow 5 D cI cJ [.ref oo] [(oo, .inr (5, [.ref a, .ref g, .ref t1, .ref t2, .ref s9, .ref m1, .ref m2])), (g, .inr (1, [.int gx, .int gy, .int sl])), (t1, .inr (4, [.int x1, .int y1, .int h1])), (a, .inr (0, [.ref k1, .ref k2, .ref k3, .ref k4, .ref k5, .int (nI n)])), (k1, .inl (cI, 5, .inl kd)), (k2, .inl (cI, 5, .inl ln)), (k3, .inl (cI, 5, .inl lo)), (k4, .inl (cI, 5, .inl hi)), (k5, .inl (cI, 5, .inl vl))] (fun (u : Int64 × Int32 × Int32 × Int32) => u.1 = zFn kd ln vl n gx gy) (fun (u : Int64 × Int32 × Int32 × Int32) => some (.long u.1)) (fun (u : Int64 × Int32 × Int32 × Int32) => [(oo, .inr (5, [.ref a, .ref g, .ref t1, .ref t2, .ref s9, .ref m1, .ref m2])), (g, .inr (1, [.int gx, .int gy, .int sl])), (t1, .inr (4, [.int u.2.1, .int u.2.2.1, .int u.2.2.2])), (a, .inr (0, [.ref k1, .ref k2, .ref k3, .ref k4, .ref k5, .int (nI n)])), (k1, .inl (cI, 5, .inl kd)), (k2, .inl (cI, 5, .inl ln)), (k3, .inl (cI, 5, .inl lo)), (k4, .inl (cI, 5, .inl hi)), (k5, .inl (cI, 5, .inl vl))]) := by
  refine zM_l (cc := cX5_farNow) (maxL := 1) (r := fun (u : Int64 × Int32 × Int32 × Int32) => u.1) (by decide) rfl (Nat.le_of_ble_eq_true rfl) ?_
  intro p e s m args below meth c ls A0 Q C hl hP hS hRet
  obtain ⟨⟨hx, hb, hml, hown, hts⟩, hG, hK, hD, hlocks⟩ := C
  have hin4 : ∀ w ∈ u_ws RX4 TX4 3, w ∈ wsX5_farNow := by decide +kernel
  have hin5 : ∀ w ∈ u_ws RX5 TX5 7, w ∈ wsX5_farNow := by decide +kernel
  have hf26 := hts (.fieldLink RX5 26 "ArmRoom" "now" "LArmRoom$Tip;") (by decide +kernel)
  have hf10 := hts (.fieldLink RX5 10 "ArmRoom" "arm" "LArmRoom$Arm;") (by decide +kernel)
  have hf19 := hts (.fieldLink RX5 19 "ArmRoom" "goal" "LArmRoom$Goal;") (by decide +kernel)
  have hf185 := hG.1.2.1 ("ArmRoom", 185, "ArmRoom$Tip", "x", "I", "ArmRoom") (List.mem_of_getElem? (i := 14) rfl)
  have hf186 := hG.1.2.1 ("ArmRoom", 186, "ArmRoom$Tip", "y", "I", "ArmRoom") (List.mem_of_getElem? (i := 15) rfl)
  have hl : lv_has ls 1 [(0, .ref oo)] := hl
  refine lv_aload_n hx hb dX5_farNow_0 rfl (lv_at hl 0 rfl) ?_
  refine va_get (D := D) (ci := 5) (v := .ref t1) (C := RX5) (T := TX5) (N := 7) hx hb hts hin5 hown hK hP 0 rfl rfl 2 (by decide) hf26 (fun _ h9 => h9) rfl dX5_farNow_1 ?_
  refine lv_aload_n hx hb dX5_farNow_4 rfl (lv_at hl 0 rfl) ?_
  refine va_get (D := D) (ci := 5) (v := .ref a) (C := RX5) (T := TX5) (N := 7) hx hb hts hin5 hown hK hP 0 rfl rfl 0 (by decide) hf10 (fun _ h9 => h9) rfl dX5_farNow_5 ?_
  refine z_callVN (As := [.ref a]) (rest := []) ⟨hx, hb, hml, hown, hts⟩ hG hK hP hD hS (c_X4_follow l D cI cJ t1 x1 y1 h1 a k1 k2 k3 k4 k5 n kd ln lo hi vl (by first | assumption | omega | decide)) (⟨va_cnB 1 hts gX5_farNow_X4_follow_n90 rfl rfl rfl (hG.1.1 ("ArmRoom", 90, yX4_follow, "ArmRoom") (List.mem_of_getElem? (i := 5) rfl)) (hts (.initialized RX4) (by decide +kernel)) (by decide +kernel) ⟨Nat.le_of_ble_eq_true rfl, Nat.le_of_ble_eq_true rfl⟩, hts (.instanceMethod yX4_follow) (by decide +kernel), hts (.selects RX4 yX4_follow yX4_follow) (by decide +kernel)⟩) [2, 3, 4, 5, 6, 7, 8] (by decide) rfl (fun _ => rfl) 2 rfl rfl rfl rfl hl.1 rfl (Nat.le_of_ble_eq_true rfl) dX5_farNow_8 ⟨Nat.le_refl _, Nat.le_refl _⟩ (fun u_1 H locs hu_2 hP hD hS => ?_)
  obtain ⟨x2_3, y2_4, h2_5⟩ := u_1
  have hu_2 : x2_3 = zX kd ln vl n ∧ y2_4 = zY kd ln vl n ∧ h2_5 = zH kd vl n := hu_2
  obtain ⟨e_6, e_7, e_8⟩ := hu_2
  subst e_6
  subst e_7
  subst e_8
  have hP : va_P D vwCl [(oo, .inr (5, [.ref a, .ref g, .ref t1, .ref t2, .ref s9, .ref m1, .ref m2])), (g, .inr (1, [.int gx, .int gy, .int sl])), (t1, .inr (4, [.int (zX kd ln vl n), .int (zY kd ln vl n), .int (zH kd vl n)])), (a, .inr (0, [.ref k1, .ref k2, .ref k3, .ref k4, .ref k5, .int (nI n)])), (k1, .inl (cI, 5, .inl kd)), (k2, .inl (cI, 5, .inl ln)), (k3, .inl (cI, 5, .inl lo)), (k4, .inl (cI, 5, .inl hi)), (k5, .inl (cI, 5, .inl vl))] H := hP
  have hD : va_D A0 [(oo, .inr (5, [.ref a, .ref g, .ref t1, .ref t2, .ref s9, .ref m1, .ref m2])), (g, .inr (1, [.int gx, .int gy, .int sl])), (t1, .inr (4, [.int (zX kd ln vl n), .int (zY kd ln vl n), .int (zH kd vl n)])), (a, .inr (0, [.ref k1, .ref k2, .ref k3, .ref k4, .ref k5, .int (nI n)])), (k1, .inl (cI, 5, .inl kd)), (k2, .inl (cI, 5, .inl ln)), (k3, .inl (cI, 5, .inl lo)), (k4, .inl (cI, 5, .inl hi)), (k5, .inl (cI, 5, .inl vl))] := hD
  refine lv_aload_n hx hb dX5_farNow_11 rfl (lv_at hl 0 rfl) ?_
  refine va_get (D := D) (ci := 5) (v := .ref g) (C := RX5) (T := TX5) (N := 7) hx hb hts hin5 hown hK hP 0 rfl rfl 1 (by decide) hf19 (fun _ h9 => h9) rfl dX5_farNow_12 ?_
  refine lv_aload_n hx hb dX5_farNow_15 rfl (lv_at hl 0 rfl) ?_
  refine va_get (D := D) (ci := 5) (v := .ref t1) (C := RX5) (T := TX5) (N := 7) hx hb hts hin5 hown hK hP 0 rfl rfl 2 (by decide) hf26 (fun _ h9 => h9) rfl dX5_farNow_16 ?_
  refine va_getN (D := D) (ci := 4) (v := .int (zX kd ln vl n)) (C := RX4) (T := TX4) (N := 3) hx hb hts hin4 hown hK hP 2 rfl rfl 0 (by decide) (va_Nw.use rfl hf185) (fun _ h9 => h9) rfl dX5_farNow_19 ?_
  refine lv_aload_n hx hb dX5_farNow_22 rfl (lv_at hl 0 rfl) ?_
  refine va_get (D := D) (ci := 5) (v := .ref t1) (C := RX5) (T := TX5) (N := 7) hx hb hts hin5 hown hK hP 0 rfl rfl 2 (by decide) hf26 (fun _ h9 => h9) rfl dX5_farNow_23 ?_
  refine va_getN (D := D) (ci := 4) (v := .int (zY kd ln vl n)) (C := RX4) (T := TX4) (N := 3) hx hb hts hin4 hown hK hP 2 rfl rfl 1 (by decide) (va_Nw.use rfl hf186) (fun _ h9 => h9) rfl dX5_farNow_26 ?_
  refine z_callVN (As := [.int (zX kd ln vl n), .int (zY kd ln vl n)]) (rest := []) ⟨hx, hb, hml, hown, hts⟩ hG hK hP hD hS (c_X1_farFrom l D cI cJ g gx gy sl (zX kd ln vl n) (zY kd ln vl n) ) (⟨va_cnB 2 hts gX5_farNow_X1_farFrom_n187 rfl rfl rfl (hG.1.1 ("ArmRoom", 187, yX1_farFrom, "ArmRoom") (List.mem_of_getElem? (i := 11) rfl)) (hts (.initialized RX1) (by decide +kernel)) (by decide +kernel) ⟨Nat.le_of_ble_eq_true rfl, Nat.le_of_ble_eq_true rfl⟩, hts (.instanceMethod yX1_farFrom) (by decide +kernel), hts (.selects RX1 yX1_farFrom yX1_farFrom) (by decide +kernel)⟩) [1] (by decide) rfl (fun _ => rfl) 1 rfl rfl rfl rfl hl.1 rfl (Nat.le_of_ble_eq_true rfl) dX5_farNow_29 ⟨Nat.le_refl _, Nat.le_refl _⟩ (fun u_9 H locs hu_10 hP hD hS => ?_)
  obtain ⟨r_11, rfl⟩ : ∃ z, z = u_9 := ⟨_, rfl⟩
  have hu_10 : r_11 = zFar gx gy (zX kd ln vl n) (zY kd ln vl n) := hu_10
  have e_12 := hu_10
  subst e_12
  have hP : va_P D vwCl [(oo, .inr (5, [.ref a, .ref g, .ref t1, .ref t2, .ref s9, .ref m1, .ref m2])), (g, .inr (1, [.int gx, .int gy, .int sl])), (t1, .inr (4, [.int (zX kd ln vl n), .int (zY kd ln vl n), .int (zH kd vl n)])), (a, .inr (0, [.ref k1, .ref k2, .ref k3, .ref k4, .ref k5, .int (nI n)])), (k1, .inl (cI, 5, .inl kd)), (k2, .inl (cI, 5, .inl ln)), (k3, .inl (cI, 5, .inl lo)), (k4, .inl (cI, 5, .inl hi)), (k5, .inl (cI, 5, .inl vl))] H := hP
  have hD : va_D A0 [(oo, .inr (5, [.ref a, .ref g, .ref t1, .ref t2, .ref s9, .ref m1, .ref m2])), (g, .inr (1, [.int gx, .int gy, .int sl])), (t1, .inr (4, [.int (zX kd ln vl n), .int (zY kd ln vl n), .int (zH kd vl n)])), (a, .inr (0, [.ref k1, .ref k2, .ref k3, .ref k4, .ref k5, .int (nI n)])), (k1, .inl (cI, 5, .inl kd)), (k2, .inl (cI, 5, .inl ln)), (k3, .inl (cI, 5, .inl lo)), (k4, .inl (cI, 5, .inl hi)), (k5, .inl (cI, 5, .inl vl))] := hD
  exact hRet _ ((zFar gx gy (zX kd ln vl n) (zY kd ln vl n)), (zX kd ln vl n), (zY kd ln vl n), (zH kd vl n)) _ _ _ (rfl) hP hS dX5_farNow_32

set_option maxHeartbeats 4000000 in
set_option maxRecDepth 100000 in
theorem c_X5_farWith (l : Launch) (D : va_G) (cI cJ : ClassId) (oo : Nat) (s9 : Nat) (m1 : Nat) (m2 : Nat) (g : Nat) (gx : Int32) (gy : Int32) (sl : Int32) (t2 : Nat) (x2 : Int32) (y2 : Int32) (h2 : Int32) (t1 : Nat) (a : Nat) (k1 : Nat) (k2 : Nat) (k3 : Nat) (k4 : Nat) (k5 : Nat) (n : Nat) (kd : Nat → Int32) (ln : Nat → Int32) (lo : Nat → Int32) (hi : Nat → Int32) (vl : Nat → Int32) (jo : Int32) (jv : Int32) (hn : n ≤ 5) : zM l yX5_farWith wsX5_farWith 5 D cI cJ [.ref oo, .int jo, .int jv] [(oo, .inr (5, [.ref a, .ref g, .ref t1, .ref t2, .ref s9, .ref m1, .ref m2])), (g, .inr (1, [.int gx, .int gy, .int sl])), (t2, .inr (4, [.int x2, .int y2, .int h2])), (a, .inr (0, [.ref k1, .ref k2, .ref k3, .ref k4, .ref k5, .int (nI n)])), (k1, .inl (cI, 5, .inl kd)), (k2, .inl (cI, 5, .inl ln)), (k3, .inl (cI, 5, .inl lo)), (k4, .inl (cI, 5, .inl hi)), (k5, .inl (cI, 5, .inl vl))] (fun (u : Int64 × Int32 × Int32 × Int32) => u.1 = zFw kd ln vl n gx gy jo jv) (fun (u : Int64 × Int32 × Int32 × Int32) => some (.long u.1)) (fun (u : Int64 × Int32 × Int32 × Int32) => [(oo, .inr (5, [.ref a, .ref g, .ref t1, .ref t2, .ref s9, .ref m1, .ref m2])), (g, .inr (1, [.int gx, .int gy, .int sl])), (t2, .inr (4, [.int u.2.1, .int u.2.2.1, .int u.2.2.2])), (a, .inr (0, [.ref k1, .ref k2, .ref k3, .ref k4, .ref k5, .int (nI n)])), (k1, .inl (cI, 5, .inl kd)), (k2, .inl (cI, 5, .inl ln)), (k3, .inl (cI, 5, .inl lo)), (k4, .inl (cI, 5, .inl hi)), (k5, .inl (cI, 5, .inl vl))]) := by
  refine zM_l (cc := cX5_farWith) (maxL := 3) (r := fun (u : Int64 × Int32 × Int32 × Int32) => u.1) (by decide) rfl (Nat.le_of_ble_eq_true rfl) ?_
  intro p e s m args below meth c ls A0 Q C hl hP hS hRet
  obtain ⟨⟨hx, hb, hml, hown, hts⟩, hG, hK, hD, hlocks⟩ := C
  have hin4 : ∀ w ∈ u_ws RX4 TX4 3, w ∈ wsX5_farWith := by decide +kernel
  have hin5 : ∀ w ∈ u_ws RX5 TX5 7, w ∈ wsX5_farWith := by decide +kernel
  have hf30 := hts (.fieldLink RX5 30 "ArmRoom" "then" "LArmRoom$Tip;") (by decide +kernel)
  have hf10 := hts (.fieldLink RX5 10 "ArmRoom" "arm" "LArmRoom$Arm;") (by decide +kernel)
  have hf19 := hts (.fieldLink RX5 19 "ArmRoom" "goal" "LArmRoom$Goal;") (by decide +kernel)
  have hf185 := hG.1.2.1 ("ArmRoom", 185, "ArmRoom$Tip", "x", "I", "ArmRoom") (List.mem_of_getElem? (i := 14) rfl)
  have hf186 := hG.1.2.1 ("ArmRoom", 186, "ArmRoom$Tip", "y", "I", "ArmRoom") (List.mem_of_getElem? (i := 15) rfl)
  have hl : lv_has ls 3 [(0, .ref oo), (1, .int jo), (2, .int jv)] := hl
  refine lv_aload_n hx hb dX5_farWith_0 rfl (lv_at hl 0 rfl) ?_
  refine va_get (D := D) (ci := 5) (v := .ref t2) (C := RX5) (T := TX5) (N := 7) hx hb hts hin5 hown hK hP 0 rfl rfl 3 (by decide) hf30 (fun _ h9 => h9) rfl dX5_farWith_1 ?_
  refine lv_aload_n hx hb dX5_farWith_4 rfl (lv_at hl 0 rfl) ?_
  refine va_get (D := D) (ci := 5) (v := .ref a) (C := RX5) (T := TX5) (N := 7) hx hb hts hin5 hown hK hP 0 rfl rfl 0 (by decide) hf10 (fun _ h9 => h9) rfl dX5_farWith_5 ?_
  refine lv_iload_n hx hb dX5_farWith_8 rfl (lv_at hl 1 rfl) ?_
  refine lv_iload_n hx hb dX5_farWith_9 rfl (lv_at hl 2 rfl) ?_
  refine z_callVN (As := [.ref a, .int jo, .int jv]) (rest := []) ⟨hx, hb, hml, hown, hts⟩ hG hK hP hD hS (c_X4_followWith l D cI cJ t2 x2 y2 h2 a k1 k2 k3 k4 k5 n kd ln lo hi vl jo jv (by first | assumption | omega | decide)) (⟨va_cnB 3 hts gX5_farWith_X4_followWith_n101 rfl rfl rfl (hG.1.1 ("ArmRoom", 101, yX4_followWith, "ArmRoom") (List.mem_of_getElem? (i := 10) rfl)) (hts (.initialized RX4) (by decide +kernel)) (by decide +kernel) ⟨Nat.le_of_ble_eq_true rfl, Nat.le_of_ble_eq_true rfl⟩, hts (.instanceMethod yX4_followWith) (by decide +kernel), hts (.selects RX4 yX4_followWith yX4_followWith) (by decide +kernel)⟩) [2, 3, 4, 5, 6, 7, 8] (by decide) rfl (fun _ => rfl) 2 rfl rfl rfl rfl hl.1 rfl (Nat.le_of_ble_eq_true rfl) dX5_farWith_10 ⟨Nat.le_refl _, Nat.le_refl _⟩ (fun u_1 H locs hu_2 hP hD hS => ?_)
  have hP : va_P D vwCl [(oo, .inr (5, [.ref a, .ref g, .ref t1, .ref t2, .ref s9, .ref m1, .ref m2])), (g, .inr (1, [.int gx, .int gy, .int sl])), (t2, .inr (4, [.int (zX kd ln (zPo vl jo jv) n), .int (zY kd ln (zPo vl jo jv) n), .int (zH kd (zPo vl jo jv) n)])), (a, .inr (0, [.ref k1, .ref k2, .ref k3, .ref k4, .ref k5, .int (nI n)])), (k1, .inl (cI, 5, .inl kd)), (k2, .inl (cI, 5, .inl ln)), (k3, .inl (cI, 5, .inl lo)), (k4, .inl (cI, 5, .inl hi)), (k5, .inl (cI, 5, .inl vl))] H := hP
  have hD : va_D A0 [(oo, .inr (5, [.ref a, .ref g, .ref t1, .ref t2, .ref s9, .ref m1, .ref m2])), (g, .inr (1, [.int gx, .int gy, .int sl])), (t2, .inr (4, [.int (zX kd ln (zPo vl jo jv) n), .int (zY kd ln (zPo vl jo jv) n), .int (zH kd (zPo vl jo jv) n)])), (a, .inr (0, [.ref k1, .ref k2, .ref k3, .ref k4, .ref k5, .int (nI n)])), (k1, .inl (cI, 5, .inl kd)), (k2, .inl (cI, 5, .inl ln)), (k3, .inl (cI, 5, .inl lo)), (k4, .inl (cI, 5, .inl hi)), (k5, .inl (cI, 5, .inl vl))] := hD
  refine lv_aload_n hx hb dX5_farWith_13 rfl (lv_at hl 0 rfl) ?_
  refine va_get (D := D) (ci := 5) (v := .ref g) (C := RX5) (T := TX5) (N := 7) hx hb hts hin5 hown hK hP 0 rfl rfl 1 (by decide) hf19 (fun _ h9 => h9) rfl dX5_farWith_14 ?_
  refine lv_aload_n hx hb dX5_farWith_17 rfl (lv_at hl 0 rfl) ?_
  refine va_get (D := D) (ci := 5) (v := .ref t2) (C := RX5) (T := TX5) (N := 7) hx hb hts hin5 hown hK hP 0 rfl rfl 3 (by decide) hf30 (fun _ h9 => h9) rfl dX5_farWith_18 ?_
  refine va_getN (D := D) (ci := 4) (v := .int (zX kd ln (zPo vl jo jv) n)) (C := RX4) (T := TX4) (N := 3) hx hb hts hin4 hown hK hP 2 rfl rfl 0 (by decide) (va_Nw.use rfl hf185) (fun _ h9 => h9) rfl dX5_farWith_21 ?_
  refine lv_aload_n hx hb dX5_farWith_24 rfl (lv_at hl 0 rfl) ?_
  refine va_get (D := D) (ci := 5) (v := .ref t2) (C := RX5) (T := TX5) (N := 7) hx hb hts hin5 hown hK hP 0 rfl rfl 3 (by decide) hf30 (fun _ h9 => h9) rfl dX5_farWith_25 ?_
  refine va_getN (D := D) (ci := 4) (v := .int (zY kd ln (zPo vl jo jv) n)) (C := RX4) (T := TX4) (N := 3) hx hb hts hin4 hown hK hP 2 rfl rfl 1 (by decide) (va_Nw.use rfl hf186) (fun _ h9 => h9) rfl dX5_farWith_28 ?_
  refine z_callVN (As := [.int (zX kd ln (zPo vl jo jv) n), .int (zY kd ln (zPo vl jo jv) n)]) (rest := []) ⟨hx, hb, hml, hown, hts⟩ hG hK hP hD hS (c_X1_farFrom l D cI cJ g gx gy sl (zX kd ln (zPo vl jo jv) n) (zY kd ln (zPo vl jo jv) n) ) (⟨va_cnB 2 hts gX5_farWith_X1_farFrom_n187 rfl rfl rfl (hG.1.1 ("ArmRoom", 187, yX1_farFrom, "ArmRoom") (List.mem_of_getElem? (i := 11) rfl)) (hts (.initialized RX1) (by decide +kernel)) (by decide +kernel) ⟨Nat.le_of_ble_eq_true rfl, Nat.le_of_ble_eq_true rfl⟩, hts (.instanceMethod yX1_farFrom) (by decide +kernel), hts (.selects RX1 yX1_farFrom yX1_farFrom) (by decide +kernel)⟩) [1] (by decide) rfl (fun _ => rfl) 1 rfl rfl rfl rfl hl.1 rfl (Nat.le_of_ble_eq_true rfl) dX5_farWith_31 ⟨Nat.le_refl _, Nat.le_refl _⟩ (fun u_3 H locs hu_4 hP hD hS => ?_)
  obtain ⟨r_5, rfl⟩ : ∃ z, z = u_3 := ⟨_, rfl⟩
  have hu_4 : r_5 = zFar gx gy (zX kd ln (zPo vl jo jv) n) (zY kd ln (zPo vl jo jv) n) := hu_4
  have e_6 := hu_4
  subst e_6
  have hP : va_P D vwCl [(oo, .inr (5, [.ref a, .ref g, .ref t1, .ref t2, .ref s9, .ref m1, .ref m2])), (g, .inr (1, [.int gx, .int gy, .int sl])), (t2, .inr (4, [.int (zX kd ln (zPo vl jo jv) n), .int (zY kd ln (zPo vl jo jv) n), .int (zH kd (zPo vl jo jv) n)])), (a, .inr (0, [.ref k1, .ref k2, .ref k3, .ref k4, .ref k5, .int (nI n)])), (k1, .inl (cI, 5, .inl kd)), (k2, .inl (cI, 5, .inl ln)), (k3, .inl (cI, 5, .inl lo)), (k4, .inl (cI, 5, .inl hi)), (k5, .inl (cI, 5, .inl vl))] H := hP
  have hD : va_D A0 [(oo, .inr (5, [.ref a, .ref g, .ref t1, .ref t2, .ref s9, .ref m1, .ref m2])), (g, .inr (1, [.int gx, .int gy, .int sl])), (t2, .inr (4, [.int (zX kd ln (zPo vl jo jv) n), .int (zY kd ln (zPo vl jo jv) n), .int (zH kd (zPo vl jo jv) n)])), (a, .inr (0, [.ref k1, .ref k2, .ref k3, .ref k4, .ref k5, .int (nI n)])), (k1, .inl (cI, 5, .inl kd)), (k2, .inl (cI, 5, .inl ln)), (k3, .inl (cI, 5, .inl lo)), (k4, .inl (cI, 5, .inl hi)), (k5, .inl (cI, 5, .inl vl))] := hD
  exact hRet _ ((zFar gx gy (zX kd ln (zPo vl jo jv) n) (zY kd ln (zPo vl jo jv) n)), zX kd ln (zPo vl jo jv) n, zY kd ln (zPo vl jo jv) n, zH kd (zPo vl jo jv) n) _ _ _ (rfl) hP hS dX5_farWith_34

set_option maxHeartbeats 4000000 in
set_option maxRecDepth 100000 in
theorem c_X5_findMoves (l : Launch) (D : va_G) (cI cJ : ClassId) (oo : Nat) (s9 : Nat) (m1 : Nat) (m2 : Nat) (g : Nat) (t1 : Nat) (x1 : Int32) (y1 : Int32) (h1 : Int32) (t2 : Nat) (x2 : Int32) (y2 : Int32) (h2 : Int32) (a : Nat) (k1 : Nat) (k2 : Nat) (k3 : Nat) (k4 : Nat) (k5 : Nat) (n : Nat) (kd : Nat → Int32) (ln : Nat → Int32) (lo : Nat → Int32) (hi : Nat → Int32) (vl : Nat → Int32) (f1 : Nat → Int32) (f2 : Nat → Int32) (hn : n ≤ 5) : zM l yX5_findMoves wsX5_findMoves 5 D cI cJ [.ref oo] [(oo, .inr (5, [.ref a, .ref g, .ref t1, .ref t2, .ref s9, .ref m1, .ref m2])), (t1, .inr (4, [.int x1, .int y1, .int h1])), (t2, .inr (4, [.int x2, .int y2, .int h2])), (a, .inr (0, [.ref k1, .ref k2, .ref k3, .ref k4, .ref k5, .int (nI n)])), (k1, .inl (cI, 5, .inl kd)), (k2, .inl (cI, 5, .inl ln)), (k3, .inl (cI, 5, .inl lo)), (k4, .inl (cI, 5, .inl hi)), (k5, .inl (cI, 5, .inl vl)), (m1, .inl (cI, 5, .inl f1)), (m2, .inl (cI, 5, .inl f2))] (fun (u : (Nat → Int32) × (Nat → Int32) × Int32 × Int32 × Int32 × Int32 × Int32 × Int32) => (∀ j, j < n → u.1 j = zMx kd ln vl n j) ∧ (∀ j, j < n → u.2.1 j = zMy kd ln vl n j)) (fun (u : (Nat → Int32) × (Nat → Int32) × Int32 × Int32 × Int32 × Int32 × Int32 × Int32) => none) (fun (u : (Nat → Int32) × (Nat → Int32) × Int32 × Int32 × Int32 × Int32 × Int32 × Int32) => [(oo, .inr (5, [.ref a, .ref g, .ref t1, .ref t2, .ref s9, .ref m1, .ref m2])), (t1, .inr (4, [.int u.2.2.1, .int u.2.2.2.1, .int u.2.2.2.2.1])), (t2, .inr (4, [.int u.2.2.2.2.2.1, .int u.2.2.2.2.2.2.1, .int u.2.2.2.2.2.2.2])), (a, .inr (0, [.ref k1, .ref k2, .ref k3, .ref k4, .ref k5, .int (nI n)])), (k1, .inl (cI, 5, .inl kd)), (k2, .inl (cI, 5, .inl ln)), (k3, .inl (cI, 5, .inl lo)), (k4, .inl (cI, 5, .inl hi)), (k5, .inl (cI, 5, .inl vl)), (m1, .inl (cI, 5, .inl u.1)), (m2, .inl (cI, 5, .inl u.2.1))]) := by
  refine zM_v (cc := cX5_findMoves) (maxL := 2) (by decide) rfl (Nat.le_of_ble_eq_true rfl) ?_
  intro p e s m args below meth c ls A0 Q C hl hP hS hRet
  obtain ⟨⟨hx, hb, hml, hown, hts⟩, hG, hK, hD, hlocks⟩ := C
  have hin0 : ∀ w ∈ u_ws RX0 TX0 6, w ∈ wsX5_findMoves := by decide +kernel
  have hin4 : ∀ w ∈ u_ws RX4 TX4 3, w ∈ wsX5_findMoves := by decide +kernel
  have hin5 : ∀ w ∈ u_ws RX5 TX5 7, w ∈ wsX5_findMoves := by decide +kernel
  have hf26 := hts (.fieldLink RX5 26 "ArmRoom" "now" "LArmRoom$Tip;") (by decide +kernel)
  have hf10 := hts (.fieldLink RX5 10 "ArmRoom" "arm" "LArmRoom$Arm;") (by decide +kernel)
  have hf108 := hG.1.2.1 ("ArmRoom", 108, "ArmRoom$Arm", "count", "I", "ArmRoom") (List.mem_of_getElem? (i := 9) rfl)
  have hf30 := hts (.fieldLink RX5 30 "ArmRoom" "then" "LArmRoom$Tip;") (by decide +kernel)
  have hf83 := hG.1.2.1 ("ArmRoom", 83, "ArmRoom$Arm", "values", "[I", "ArmRoom") (List.mem_of_getElem? (i := 4) rfl)
  have hf40 := hts (.fieldLink RX5 40 "ArmRoom" "movesX" "[I") (by decide +kernel)
  have hf185 := hG.1.2.1 ("ArmRoom", 185, "ArmRoom$Tip", "x", "I", "ArmRoom") (List.mem_of_getElem? (i := 14) rfl)
  have hf44 := hts (.fieldLink RX5 44 "ArmRoom" "movesY" "[I") (by decide +kernel)
  have hf186 := hG.1.2.1 ("ArmRoom", 186, "ArmRoom$Tip", "y", "I", "ArmRoom") (List.mem_of_getElem? (i := 15) rfl)
  have hl : lv_has ls 2 [(0, .ref oo)] := hl
  refine lv_aload_n hx hb dX5_findMoves_0 rfl (lv_at hl 0 rfl) ?_
  refine va_get (D := D) (ci := 5) (v := .ref t1) (C := RX5) (T := TX5) (N := 7) hx hb hts hin5 hown hK hP 0 rfl rfl 2 (by decide) hf26 (fun _ h9 => h9) rfl dX5_findMoves_1 ?_
  refine lv_aload_n hx hb dX5_findMoves_4 rfl (lv_at hl 0 rfl) ?_
  refine va_get (D := D) (ci := 5) (v := .ref a) (C := RX5) (T := TX5) (N := 7) hx hb hts hin5 hown hK hP 0 rfl rfl 0 (by decide) hf10 (fun _ h9 => h9) rfl dX5_findMoves_5 ?_
  refine z_callVN (As := [.ref a]) (rest := []) ⟨hx, hb, hml, hown, hts⟩ hG hK hP hD hS (c_X4_follow l D cI cJ t1 x1 y1 h1 a k1 k2 k3 k4 k5 n kd ln lo hi vl (by first | assumption | omega | decide)) (⟨va_cnB 1 hts gX5_findMoves_X4_follow_n90 rfl rfl rfl (hG.1.1 ("ArmRoom", 90, yX4_follow, "ArmRoom") (List.mem_of_getElem? (i := 5) rfl)) (hts (.initialized RX4) (by decide +kernel)) (by decide +kernel) ⟨Nat.le_of_ble_eq_true rfl, Nat.le_of_ble_eq_true rfl⟩, hts (.instanceMethod yX4_follow) (by decide +kernel), hts (.selects RX4 yX4_follow yX4_follow) (by decide +kernel)⟩) [1, 3, 4, 5, 6, 7, 8] (by decide) rfl (fun _ => rfl) 1 rfl rfl rfl rfl hl.1 rfl (Nat.le_of_ble_eq_true rfl) dX5_findMoves_8 ⟨Nat.le_refl _, Nat.le_refl _⟩ (fun u_1 H locs hu_2 hP hD hS => ?_)
  obtain ⟨x2_3, y2_4, h2_5⟩ := u_1
  have hu_2 : x2_3 = zX kd ln vl n ∧ y2_4 = zY kd ln vl n ∧ h2_5 = zH kd vl n := hu_2
  obtain ⟨e_6, e_7, e_8⟩ := hu_2
  subst e_6
  subst e_7
  subst e_8
  have hP : va_P D vwCl [(oo, .inr (5, [.ref a, .ref g, .ref t1, .ref t2, .ref s9, .ref m1, .ref m2])), (t1, .inr (4, [.int (zX kd ln vl n), .int (zY kd ln vl n), .int (zH kd vl n)])), (t2, .inr (4, [.int x2, .int y2, .int h2])), (a, .inr (0, [.ref k1, .ref k2, .ref k3, .ref k4, .ref k5, .int (nI n)])), (k1, .inl (cI, 5, .inl kd)), (k2, .inl (cI, 5, .inl ln)), (k3, .inl (cI, 5, .inl lo)), (k4, .inl (cI, 5, .inl hi)), (k5, .inl (cI, 5, .inl vl)), (m1, .inl (cI, 5, .inl f1)), (m2, .inl (cI, 5, .inl f2))] H := hP
  have hD : va_D A0 [(oo, .inr (5, [.ref a, .ref g, .ref t1, .ref t2, .ref s9, .ref m1, .ref m2])), (t1, .inr (4, [.int (zX kd ln vl n), .int (zY kd ln vl n), .int (zH kd vl n)])), (t2, .inr (4, [.int x2, .int y2, .int h2])), (a, .inr (0, [.ref k1, .ref k2, .ref k3, .ref k4, .ref k5, .int (nI n)])), (k1, .inl (cI, 5, .inl kd)), (k2, .inl (cI, 5, .inl ln)), (k3, .inl (cI, 5, .inl lo)), (k4, .inl (cI, 5, .inl hi)), (k5, .inl (cI, 5, .inl vl)), (m1, .inl (cI, 5, .inl f1)), (m2, .inl (cI, 5, .inl f2))] := hD
  refine lv_iconst (v := 0) hx hb dX5_findMoves_11 (by decide) ?_
  refine lv_istore_n (lv' := [(1, .int 0), (0, .ref oo)]) hx hb dX5_findMoves_12 rfl hl (by decide) rfl (fun ls hl => ?_)
  have lp_13_9 : ∀ (fu : Nat) (i : Nat) (x4 : Int32) (y4 : Int32) (h4 : Int32) (f3 : Nat → Int32) (f4 : Nat → Int32), i ≤ n → (∀ j, j < i → f3 j = zMx kd ln vl n j) → (∀ j, j < i → f4 j = zMy kd ln vl n j) → (n - i < fu) → ∀ (H : Heap) (locs : List Loc), va_P D vwCl [(oo, .inr (5, [.ref a, .ref g, .ref t1, .ref t2, .ref s9, .ref m1, .ref m2])), (t1, .inr (4, [.int (zX kd ln vl n), .int (zY kd ln vl n), .int (zH kd vl n)])), (t2, .inr (4, [.int x4, .int y4, .int h4])), (a, .inr (0, [.ref k1, .ref k2, .ref k3, .ref k4, .ref k5, .int (nI n)])), (k1, .inl (cI, 5, .inl kd)), (k2, .inl (cI, 5, .inl ln)), (k3, .inl (cI, 5, .inl lo)), (k4, .inl (cI, 5, .inl hi)), (k5, .inl (cI, 5, .inl vl)), (m1, .inl (cI, 5, .inl f3)), (m2, .inl (cI, 5, .inl f4))] H → va_D A0 [(oo, .inr (5, [.ref a, .ref g, .ref t1, .ref t2, .ref s9, .ref m1, .ref m2])), (t1, .inr (4, [.int (zX kd ln vl n), .int (zY kd ln vl n), .int (zH kd vl n)])), (t2, .inr (4, [.int x4, .int y4, .int h4])), (a, .inr (0, [.ref k1, .ref k2, .ref k3, .ref k4, .ref k5, .int (nI n)])), (k1, .inl (cI, 5, .inl kd)), (k2, .inl (cI, 5, .inl ln)), (k3, .inl (cI, 5, .inl lo)), (k4, .inl (cI, 5, .inl hi)), (k5, .inl (cI, 5, .inl vl)), (m1, .inl (cI, 5, .inl f3)), (m2, .inl (cI, 5, .inl f4))] → va_S A0 s.heap H locs → ∀ (ls : Array Slot), lv_has ls 2 [(0, .ref oo), (1, .int (nI i))] → W p l e (zRm 5 0 0) s m args below meth c H locs 0 0 Q (F0 m 13 ls []) := by
    intro fu
    induction fu with
    | zero => intro i x4 y4 h4 f3 f4 hi1 hm1 hm2 hfu; exact absurd hfu (Nat.not_lt_zero _)
    | succ fu ih_13_9 =>
      intro i x4 y4 h4 f3 f4 hi1 hm1 hm2 hfu H locs hP hD hS ls hl
      refine lv_iload_n hx hb dX5_findMoves_13 rfl (lv_at hl 1 rfl) ?_
      refine lv_aload_n hx hb dX5_findMoves_14 rfl (lv_at hl 0 rfl) ?_
      refine va_get (D := D) (ci := 5) (v := .ref a) (C := RX5) (T := TX5) (N := 7) hx hb hts hin5 hown hK hP 0 rfl rfl 0 (by decide) hf10 (fun _ h9 => h9) rfl dX5_findMoves_15 ?_
      refine va_getN (D := D) (ci := 0) (v := .int (nI n)) (C := RX0) (T := TX0) (N := 6) hx hb hts hin0 hown hK hP 3 rfl rfl 5 (by decide) (va_Nw.use rfl hf108) (fun _ h9 => h9) rfl dX5_findMoves_18 ?_
      refine lv_icmp_ge (tgt := 95) hx hb dX5_findMoves_21 (by decide) (fun c_21 => ?_) (fun c_21 => ?_)
      · rw [nI_leI (by omega) (by omega)] at c_21
        obtain rfl : n = i := by omega
        exact hRet _ (f3, f4, (zX kd ln vl n), (zY kd ln vl n), (zH kd vl n), x4, y4, h4) _ _ _ ⟨hm1, hm2⟩ hP hS dX5_findMoves_95
      · rw [nI_leI (by omega) (by omega)] at c_21
        refine lv_aload_n hx hb dX5_findMoves_24 rfl (lv_at hl 0 rfl) ?_
        refine va_get (D := D) (ci := 5) (v := .ref t2) (C := RX5) (T := TX5) (N := 7) hx hb hts hin5 hown hK hP 0 rfl rfl 3 (by decide) hf30 (fun _ h9 => h9) rfl dX5_findMoves_25 ?_
        refine lv_aload_n hx hb dX5_findMoves_28 rfl (lv_at hl 0 rfl) ?_
        refine va_get (D := D) (ci := 5) (v := .ref a) (C := RX5) (T := TX5) (N := 7) hx hb hts hin5 hown hK hP 0 rfl rfl 0 (by decide) hf10 (fun _ h9 => h9) rfl dX5_findMoves_29 ?_
        refine lv_iload_n hx hb dX5_findMoves_32 rfl (lv_at hl 1 rfl) ?_
        refine lv_aload_n hx hb dX5_findMoves_33 rfl (lv_at hl 0 rfl) ?_
        refine va_get (D := D) (ci := 5) (v := .ref a) (C := RX5) (T := TX5) (N := 7) hx hb hts hin5 hown hK hP 0 rfl rfl 0 (by decide) hf10 (fun _ h9 => h9) rfl dX5_findMoves_34 ?_
        refine va_getN (D := D) (ci := 0) (v := .ref k5) (C := RX0) (T := TX0) (N := 6) hx hb hts hin0 hown hK hP 3 rfl rfl 4 (by decide) (va_Nw.use rfl hf83) (fun _ h9 => h9) rfl dX5_findMoves_37 ?_
        refine lv_iload_n hx hb dX5_findMoves_40 rfl (lv_at hl 1 rfl) ?_
        refine z_iald hx hb hK hP 8 rfl (j := i) (by omega) (by decide) dX5_findMoves_41 ?_
        refine lv_iconst (v := 1) hx hb dX5_findMoves_42 (by decide) ?_
        refine lv_iadd hx hb dX5_findMoves_43 ?_
        refine z_callVN (As := [.ref a, .int (nI i), .int ((vl i) + 1)]) (rest := []) ⟨hx, hb, hml, hown, hts⟩ hG hK hP hD hS (c_X4_followWith l D cI cJ t2 x4 y4 h4 a k1 k2 k3 k4 k5 n kd ln lo hi vl (nI i) ((vl i) + 1) (by first | assumption | omega | decide)) (⟨va_cnB 3 hts gX5_findMoves_X4_followWith_n101 rfl rfl rfl (hG.1.1 ("ArmRoom", 101, yX4_followWith, "ArmRoom") (List.mem_of_getElem? (i := 10) rfl)) (hts (.initialized RX4) (by decide +kernel)) (by decide +kernel) ⟨Nat.le_of_ble_eq_true rfl, Nat.le_of_ble_eq_true rfl⟩, hts (.instanceMethod yX4_followWith) (by decide +kernel), hts (.selects RX4 yX4_followWith yX4_followWith) (by decide +kernel)⟩) [2, 3, 4, 5, 6, 7, 8] (by decide) rfl (fun _ => rfl) 2 rfl rfl rfl rfl hl.1 rfl (Nat.le_of_ble_eq_true rfl) dX5_findMoves_44 ⟨Nat.le_refl _, Nat.le_refl _⟩ (fun u_10 H locs hu_11 hP hD hS => ?_)
        have hP : va_P D vwCl [(oo, .inr (5, [.ref a, .ref g, .ref t1, .ref t2, .ref s9, .ref m1, .ref m2])), (t1, .inr (4, [.int (zX kd ln vl n), .int (zY kd ln vl n), .int (zH kd vl n)])), (t2, .inr (4, [.int (zX kd ln (zPo vl (nI i) ((vl i) + 1)) n), .int (zY kd ln (zPo vl (nI i) ((vl i) + 1)) n), .int (zH kd (zPo vl (nI i) ((vl i) + 1)) n)])), (a, .inr (0, [.ref k1, .ref k2, .ref k3, .ref k4, .ref k5, .int (nI n)])), (k1, .inl (cI, 5, .inl kd)), (k2, .inl (cI, 5, .inl ln)), (k3, .inl (cI, 5, .inl lo)), (k4, .inl (cI, 5, .inl hi)), (k5, .inl (cI, 5, .inl vl)), (m1, .inl (cI, 5, .inl f3)), (m2, .inl (cI, 5, .inl f4))] H := hP
        have hD : va_D A0 [(oo, .inr (5, [.ref a, .ref g, .ref t1, .ref t2, .ref s9, .ref m1, .ref m2])), (t1, .inr (4, [.int (zX kd ln vl n), .int (zY kd ln vl n), .int (zH kd vl n)])), (t2, .inr (4, [.int (zX kd ln (zPo vl (nI i) ((vl i) + 1)) n), .int (zY kd ln (zPo vl (nI i) ((vl i) + 1)) n), .int (zH kd (zPo vl (nI i) ((vl i) + 1)) n)])), (a, .inr (0, [.ref k1, .ref k2, .ref k3, .ref k4, .ref k5, .int (nI n)])), (k1, .inl (cI, 5, .inl kd)), (k2, .inl (cI, 5, .inl ln)), (k3, .inl (cI, 5, .inl lo)), (k4, .inl (cI, 5, .inl hi)), (k5, .inl (cI, 5, .inl vl)), (m1, .inl (cI, 5, .inl f3)), (m2, .inl (cI, 5, .inl f4))] := hD
        refine lv_aload_n hx hb dX5_findMoves_47 rfl (lv_at hl 0 rfl) ?_
        refine va_get (D := D) (ci := 5) (v := .ref m1) (C := RX5) (T := TX5) (N := 7) hx hb hts hin5 hown hK hP 0 rfl rfl 5 (by decide) hf40 (fun _ h9 => h9) rfl dX5_findMoves_48 ?_
        refine lv_iload_n hx hb dX5_findMoves_51 rfl (lv_at hl 1 rfl) ?_
        refine lv_aload_n hx hb dX5_findMoves_52 rfl (lv_at hl 0 rfl) ?_
        refine va_get (D := D) (ci := 5) (v := .ref t2) (C := RX5) (T := TX5) (N := 7) hx hb hts hin5 hown hK hP 0 rfl rfl 3 (by decide) hf30 (fun _ h9 => h9) rfl dX5_findMoves_53 ?_
        refine va_getN (D := D) (ci := 4) (v := .int (zX kd ln (zPo vl (nI i) ((vl i) + 1)) n)) (C := RX4) (T := TX4) (N := 3) hx hb hts hin4 hown hK hP 2 rfl rfl 0 (by decide) (va_Nw.use rfl hf185) (fun _ h9 => h9) rfl dX5_findMoves_56 ?_
        refine lv_aload_n hx hb dX5_findMoves_59 rfl (lv_at hl 0 rfl) ?_
        refine va_get (D := D) (ci := 5) (v := .ref t1) (C := RX5) (T := TX5) (N := 7) hx hb hts hin5 hown hK hP 0 rfl rfl 2 (by decide) hf26 (fun _ h9 => h9) rfl dX5_findMoves_60 ?_
        refine va_getN (D := D) (ci := 4) (v := .int (zX kd ln vl n)) (C := RX4) (T := TX4) (N := 3) hx hb hts hin4 hown hK hP 1 rfl rfl 0 (by decide) (va_Nw.use rfl hf185) (fun _ h9 => h9) rfl dX5_findMoves_63 ?_
        refine lv_isub hx hb dX5_findMoves_66 ?_
        refine z_iast hx hb hK hP hD hS 9 rfl (j := i) (by omega) (by decide) dX5_findMoves_67 (fun H locs hP hD hS => ?_)
        have hP : va_P D vwCl [(oo, .inr (5, [.ref a, .ref g, .ref t1, .ref t2, .ref s9, .ref m1, .ref m2])), (t1, .inr (4, [.int (zX kd ln vl n), .int (zY kd ln vl n), .int (zH kd vl n)])), (t2, .inr (4, [.int (zX kd ln (zPo vl (nI i) ((vl i) + 1)) n), .int (zY kd ln (zPo vl (nI i) ((vl i) + 1)) n), .int (zH kd (zPo vl (nI i) ((vl i) + 1)) n)])), (a, .inr (0, [.ref k1, .ref k2, .ref k3, .ref k4, .ref k5, .int (nI n)])), (k1, .inl (cI, 5, .inl kd)), (k2, .inl (cI, 5, .inl ln)), (k3, .inl (cI, 5, .inl lo)), (k4, .inl (cI, 5, .inl hi)), (k5, .inl (cI, 5, .inl vl)), (m1, .inl (cI, 5, .inl (upd f3 i ((zX kd ln (zPo vl (nI i) ((vl i) + 1)) n) - (zX kd ln vl n))))), (m2, .inl (cI, 5, .inl f4))] H := hP
        have hD : va_D A0 [(oo, .inr (5, [.ref a, .ref g, .ref t1, .ref t2, .ref s9, .ref m1, .ref m2])), (t1, .inr (4, [.int (zX kd ln vl n), .int (zY kd ln vl n), .int (zH kd vl n)])), (t2, .inr (4, [.int (zX kd ln (zPo vl (nI i) ((vl i) + 1)) n), .int (zY kd ln (zPo vl (nI i) ((vl i) + 1)) n), .int (zH kd (zPo vl (nI i) ((vl i) + 1)) n)])), (a, .inr (0, [.ref k1, .ref k2, .ref k3, .ref k4, .ref k5, .int (nI n)])), (k1, .inl (cI, 5, .inl kd)), (k2, .inl (cI, 5, .inl ln)), (k3, .inl (cI, 5, .inl lo)), (k4, .inl (cI, 5, .inl hi)), (k5, .inl (cI, 5, .inl vl)), (m1, .inl (cI, 5, .inl (upd f3 i ((zX kd ln (zPo vl (nI i) ((vl i) + 1)) n) - (zX kd ln vl n))))), (m2, .inl (cI, 5, .inl f4))] := hD
        refine lv_aload_n hx hb dX5_findMoves_68 rfl (lv_at hl 0 rfl) ?_
        refine va_get (D := D) (ci := 5) (v := .ref m2) (C := RX5) (T := TX5) (N := 7) hx hb hts hin5 hown hK hP 0 rfl rfl 6 (by decide) hf44 (fun _ h9 => h9) rfl dX5_findMoves_69 ?_
        refine lv_iload_n hx hb dX5_findMoves_72 rfl (lv_at hl 1 rfl) ?_
        refine lv_aload_n hx hb dX5_findMoves_73 rfl (lv_at hl 0 rfl) ?_
        refine va_get (D := D) (ci := 5) (v := .ref t2) (C := RX5) (T := TX5) (N := 7) hx hb hts hin5 hown hK hP 0 rfl rfl 3 (by decide) hf30 (fun _ h9 => h9) rfl dX5_findMoves_74 ?_
        refine va_getN (D := D) (ci := 4) (v := .int (zY kd ln (zPo vl (nI i) ((vl i) + 1)) n)) (C := RX4) (T := TX4) (N := 3) hx hb hts hin4 hown hK hP 2 rfl rfl 1 (by decide) (va_Nw.use rfl hf186) (fun _ h9 => h9) rfl dX5_findMoves_77 ?_
        refine lv_aload_n hx hb dX5_findMoves_80 rfl (lv_at hl 0 rfl) ?_
        refine va_get (D := D) (ci := 5) (v := .ref t1) (C := RX5) (T := TX5) (N := 7) hx hb hts hin5 hown hK hP 0 rfl rfl 2 (by decide) hf26 (fun _ h9 => h9) rfl dX5_findMoves_81 ?_
        refine va_getN (D := D) (ci := 4) (v := .int (zY kd ln vl n)) (C := RX4) (T := TX4) (N := 3) hx hb hts hin4 hown hK hP 1 rfl rfl 1 (by decide) (va_Nw.use rfl hf186) (fun _ h9 => h9) rfl dX5_findMoves_84 ?_
        refine lv_isub hx hb dX5_findMoves_87 ?_
        refine z_iast hx hb hK hP hD hS 10 rfl (j := i) (by omega) (by decide) dX5_findMoves_88 (fun H locs hP hD hS => ?_)
        have hP : va_P D vwCl [(oo, .inr (5, [.ref a, .ref g, .ref t1, .ref t2, .ref s9, .ref m1, .ref m2])), (t1, .inr (4, [.int (zX kd ln vl n), .int (zY kd ln vl n), .int (zH kd vl n)])), (t2, .inr (4, [.int (zX kd ln (zPo vl (nI i) ((vl i) + 1)) n), .int (zY kd ln (zPo vl (nI i) ((vl i) + 1)) n), .int (zH kd (zPo vl (nI i) ((vl i) + 1)) n)])), (a, .inr (0, [.ref k1, .ref k2, .ref k3, .ref k4, .ref k5, .int (nI n)])), (k1, .inl (cI, 5, .inl kd)), (k2, .inl (cI, 5, .inl ln)), (k3, .inl (cI, 5, .inl lo)), (k4, .inl (cI, 5, .inl hi)), (k5, .inl (cI, 5, .inl vl)), (m1, .inl (cI, 5, .inl (upd f3 i ((zX kd ln (zPo vl (nI i) ((vl i) + 1)) n) - (zX kd ln vl n))))), (m2, .inl (cI, 5, .inl (upd f4 i ((zY kd ln (zPo vl (nI i) ((vl i) + 1)) n) - (zY kd ln vl n)))))] H := hP
        have hD : va_D A0 [(oo, .inr (5, [.ref a, .ref g, .ref t1, .ref t2, .ref s9, .ref m1, .ref m2])), (t1, .inr (4, [.int (zX kd ln vl n), .int (zY kd ln vl n), .int (zH kd vl n)])), (t2, .inr (4, [.int (zX kd ln (zPo vl (nI i) ((vl i) + 1)) n), .int (zY kd ln (zPo vl (nI i) ((vl i) + 1)) n), .int (zH kd (zPo vl (nI i) ((vl i) + 1)) n)])), (a, .inr (0, [.ref k1, .ref k2, .ref k3, .ref k4, .ref k5, .int (nI n)])), (k1, .inl (cI, 5, .inl kd)), (k2, .inl (cI, 5, .inl ln)), (k3, .inl (cI, 5, .inl lo)), (k4, .inl (cI, 5, .inl hi)), (k5, .inl (cI, 5, .inl vl)), (m1, .inl (cI, 5, .inl (upd f3 i ((zX kd ln (zPo vl (nI i) ((vl i) + 1)) n) - (zX kd ln vl n))))), (m2, .inl (cI, 5, .inl (upd f4 i ((zY kd ln (zPo vl (nI i) ((vl i) + 1)) n) - (zY kd ln vl n)))))] := hD
        refine lv_iinc (v := nI (i + 1)) (lv' := [(1, .int (nI (i + 1))), (0, .ref oo)]) hx hb dX5_findMoves_89 hl (k := 1) rfl ((nI_succ _).symm) (by decide) rfl (fun ls hl => ?_)
        refine lv_goto (tgt := 13) hx hb dX5_findMoves_92 (by decide) ?_
        exact ih_13_9 (i + 1) (zX kd ln (zPo vl (nI i) ((vl i) + 1)) n) (zY kd ln (zPo vl (nI i) ((vl i) + 1)) n) (zH kd (zPo vl (nI i) ((vl i) + 1)) n) (upd f3 i ((zX kd ln (zPo vl (nI i) ((vl i) + 1)) n) - (zX kd ln vl n))) (upd f4 i ((zY kd ln (zPo vl (nI i) ((vl i) + 1)) n) - (zY kd ln vl n))) (by first | assumption | omega | rfl | simp_all) (zupd_ok hm1 rfl) (zupd_ok hm2 rfl) (by omega) _ _ hP hD hS _ (lv_sub hl [1, 0] rfl)
  exact lp_13_9 ((n - 0) + 1) 0 x2 y2 h2 f1 f2 (by first | assumption | omega | rfl | simp_all) (fun j hj => absurd hj (Nat.not_lt_zero j)) (fun j hj => absurd hj (Nat.not_lt_zero j)) (Nat.lt_succ_self _) _ _ hP hD hS _ (lv_sub hl [1, 0] rfl)

set_option maxHeartbeats 4000000 in
set_option maxRecDepth 100000 in
theorem c_X5_freedom (l : Launch) (D : va_G) (cI cJ : ClassId) (oo : Nat) (s9 : Nat) (m1 : Nat) (m2 : Nat) (g : Nat) (t1 : Nat) (x1 : Int32) (y1 : Int32) (h1 : Int32) (t2 : Nat) (x2 : Int32) (y2 : Int32) (h2 : Int32) (a : Nat) (k1 : Nat) (k2 : Nat) (k3 : Nat) (k4 : Nat) (k5 : Nat) (n : Nat) (kd : Nat → Int32) (ln : Nat → Int32) (lo : Nat → Int32) (hi : Nat → Int32) (vl : Nat → Int32) (f1 : Nat → Int32) (f2 : Nat → Int32) (hn : n ≤ 5) : zM l yX5_freedom wsX5_freedom 6 D cI cJ [.ref oo] [(oo, .inr (5, [.ref a, .ref g, .ref t1, .ref t2, .ref s9, .ref m1, .ref m2])), (t1, .inr (4, [.int x1, .int y1, .int h1])), (t2, .inr (4, [.int x2, .int y2, .int h2])), (a, .inr (0, [.ref k1, .ref k2, .ref k3, .ref k4, .ref k5, .int (nI n)])), (k1, .inl (cI, 5, .inl kd)), (k2, .inl (cI, 5, .inl ln)), (k3, .inl (cI, 5, .inl lo)), (k4, .inl (cI, 5, .inl hi)), (k5, .inl (cI, 5, .inl vl)), (m1, .inl (cI, 5, .inl f1)), (m2, .inl (cI, 5, .inl f2))] (fun (u : Int64 × (Nat → Int32) × (Nat → Int32) × Int32 × Int32 × Int32 × Int32 × Int32 × Int32) => zFree kd ln vl n u.1) (fun (u : Int64 × (Nat → Int32) × (Nat → Int32) × Int32 × Int32 × Int32 × Int32 × Int32 × Int32) => some (.long u.1)) (fun (u : Int64 × (Nat → Int32) × (Nat → Int32) × Int32 × Int32 × Int32 × Int32 × Int32 × Int32) => [(oo, .inr (5, [.ref a, .ref g, .ref t1, .ref t2, .ref s9, .ref m1, .ref m2])), (t1, .inr (4, [.int u.2.2.2.1, .int u.2.2.2.2.1, .int u.2.2.2.2.2.1])), (t2, .inr (4, [.int u.2.2.2.2.2.2.1, .int u.2.2.2.2.2.2.2.1, .int u.2.2.2.2.2.2.2.2])), (a, .inr (0, [.ref k1, .ref k2, .ref k3, .ref k4, .ref k5, .int (nI n)])), (k1, .inl (cI, 5, .inl kd)), (k2, .inl (cI, 5, .inl ln)), (k3, .inl (cI, 5, .inl lo)), (k4, .inl (cI, 5, .inl hi)), (k5, .inl (cI, 5, .inl vl)), (m1, .inl (cI, 5, .inl u.2.1)), (m2, .inl (cI, 5, .inl u.2.2.1))]) := by
  refine zM_l (cc := cX5_freedom) (maxL := 7) (r := fun (u : Int64 × (Nat → Int32) × (Nat → Int32) × Int32 × Int32 × Int32 × Int32 × Int32 × Int32) => u.1) (by decide) rfl (Nat.le_of_ble_eq_true rfl) ?_
  intro p e s m args below meth c ls A0 Q C hl hP hS hRet
  obtain ⟨⟨hx, hb, hml, hown, hts⟩, hG, hK, hD, hlocks⟩ := C
  have hin0 : ∀ w ∈ u_ws RX0 TX0 6, w ∈ wsX5_freedom := by decide +kernel
  have hin5 : ∀ w ∈ u_ws RX5 TX5 7, w ∈ wsX5_freedom := by decide +kernel
  have hf10 := hts (.fieldLink RX5 10 "ArmRoom" "arm" "LArmRoom$Arm;") (by decide +kernel)
  have hf108 := hG.1.2.1 ("ArmRoom", 108, "ArmRoom$Arm", "count", "I", "ArmRoom") (List.mem_of_getElem? (i := 9) rfl)
  have hf40 := hts (.fieldLink RX5 40 "ArmRoom" "movesX" "[I") (by decide +kernel)
  have hf44 := hts (.fieldLink RX5 44 "ArmRoom" "movesY" "[I") (by decide +kernel)
  have hl : lv_has ls 7 [(0, .ref oo)] := hl
  refine lv_aload_n hx hb dX5_freedom_0 rfl (lv_at hl 0 rfl) ?_
  refine z_callV (As := []) (rest := []) ⟨hx, hb, hml, hown, hts⟩ hG hK hP hD hS (c_X5_findMoves l D cI cJ oo s9 m1 m2 g t1 x1 y1 h1 t2 x2 y2 h2 a k1 k2 k3 k4 k5 n kd ln lo hi vl f1 f2 (by first | assumption | omega | decide)) (cwV 0 hts gX5_freedom_X5_findMoves rfl rfl rfl (by decide +kernel) ⟨Nat.le_of_ble_eq_true rfl, Nat.le_of_ble_eq_true rfl⟩) [0, 1, 2, 3, 4, 5, 6, 7, 8, 9, 10] (by decide) rfl (fun _ => rfl) 0 rfl rfl rfl rfl hl.1 rfl (Nat.le_of_ble_eq_true rfl) dX5_freedom_1 ⟨Nat.le_refl _, Nat.le_refl _⟩ (fun u_1 H locs hu_2 hP hD hS => ?_)
  obtain ⟨f5, f6, xa, ya, ha, xb, yb, hb9⟩ := u_1
  have hu_2 : (∀ j, j < n → f5 j = zMx kd ln vl n j) ∧ (∀ j, j < n → f6 j = zMy kd ln vl n j) := hu_2
  obtain ⟨ef5, ef6⟩ := hu_2
  have hP : va_P D vwCl [(oo, .inr (5, [.ref a, .ref g, .ref t1, .ref t2, .ref s9, .ref m1, .ref m2])), (t1, .inr (4, [.int xa, .int ya, .int ha])), (t2, .inr (4, [.int xb, .int yb, .int hb9])), (a, .inr (0, [.ref k1, .ref k2, .ref k3, .ref k4, .ref k5, .int (nI n)])), (k1, .inl (cI, 5, .inl kd)), (k2, .inl (cI, 5, .inl ln)), (k3, .inl (cI, 5, .inl lo)), (k4, .inl (cI, 5, .inl hi)), (k5, .inl (cI, 5, .inl vl)), (m1, .inl (cI, 5, .inl f5)), (m2, .inl (cI, 5, .inl f6))] H := hP
  have hD : va_D A0 [(oo, .inr (5, [.ref a, .ref g, .ref t1, .ref t2, .ref s9, .ref m1, .ref m2])), (t1, .inr (4, [.int xa, .int ya, .int ha])), (t2, .inr (4, [.int xb, .int yb, .int hb9])), (a, .inr (0, [.ref k1, .ref k2, .ref k3, .ref k4, .ref k5, .int (nI n)])), (k1, .inl (cI, 5, .inl kd)), (k2, .inl (cI, 5, .inl ln)), (k3, .inl (cI, 5, .inl lo)), (k4, .inl (cI, 5, .inl hi)), (k5, .inl (cI, 5, .inl vl)), (m1, .inl (cI, 5, .inl f5)), (m2, .inl (cI, 5, .inl f6))] := hD
  refine lv_lconst (v := 0) hx hb dX5_freedom_4 (by decide) ?_
  refine lv_lstore_n (lv' := [(1, .long 0), (0, .ref oo)]) hx hb dX5_freedom_5 rfl hl (by decide) rfl (fun ls hl => ?_)
  refine lv_iconst (v := 0) hx hb dX5_freedom_6 (by decide) ?_
  refine lv_istore_n (lv' := [(3, .int 0), (1, .long 0), (0, .ref oo)]) hx hb dX5_freedom_7 rfl hl (by decide) rfl (fun ls hl => ?_)
  have lp_8_3 : ∀ (fu : Nat) (i : Nat) (q : Int64), i ≤ n → (zFr (fun i' j' => (i' < j' ∧ j' < n) ∧ i' < i) f5 f6 q) → (n - i < fu) → ∀ (H : Heap) (locs : List Loc), va_P D vwCl [(oo, .inr (5, [.ref a, .ref g, .ref t1, .ref t2, .ref s9, .ref m1, .ref m2])), (t1, .inr (4, [.int xa, .int ya, .int ha])), (t2, .inr (4, [.int xb, .int yb, .int hb9])), (a, .inr (0, [.ref k1, .ref k2, .ref k3, .ref k4, .ref k5, .int (nI n)])), (k1, .inl (cI, 5, .inl kd)), (k2, .inl (cI, 5, .inl ln)), (k3, .inl (cI, 5, .inl lo)), (k4, .inl (cI, 5, .inl hi)), (k5, .inl (cI, 5, .inl vl)), (m1, .inl (cI, 5, .inl f5)), (m2, .inl (cI, 5, .inl f6))] H → va_D A0 [(oo, .inr (5, [.ref a, .ref g, .ref t1, .ref t2, .ref s9, .ref m1, .ref m2])), (t1, .inr (4, [.int xa, .int ya, .int ha])), (t2, .inr (4, [.int xb, .int yb, .int hb9])), (a, .inr (0, [.ref k1, .ref k2, .ref k3, .ref k4, .ref k5, .int (nI n)])), (k1, .inl (cI, 5, .inl kd)), (k2, .inl (cI, 5, .inl ln)), (k3, .inl (cI, 5, .inl lo)), (k4, .inl (cI, 5, .inl hi)), (k5, .inl (cI, 5, .inl vl)), (m1, .inl (cI, 5, .inl f5)), (m2, .inl (cI, 5, .inl f6))] → va_S A0 s.heap H locs → ∀ (ls : Array Slot), lv_has ls 7 [(0, .ref oo), (1, .long q), (3, .int (nI i))] → W p l e (zRm 6 0 0) s m args below meth c H locs 0 0 Q (F0 m 8 ls []) := by
    intro fu
    induction fu with
    | zero => intro i q hi1 hq hfu; exact absurd hfu (Nat.not_lt_zero _)
    | succ fu ih_8_3 =>
      intro i q hi1 hq hfu H locs hP hD hS ls hl
      refine lv_iload_n hx hb dX5_freedom_8 rfl (lv_at hl 2 rfl) ?_
      refine lv_aload_n hx hb dX5_freedom_9 rfl (lv_at hl 0 rfl) ?_
      refine va_get (D := D) (ci := 5) (v := .ref a) (C := RX5) (T := TX5) (N := 7) hx hb hts hin5 hown hK hP 0 rfl rfl 0 (by decide) hf10 (fun _ h9 => h9) rfl dX5_freedom_10 ?_
      refine va_getN (D := D) (ci := 0) (v := .int (nI n)) (C := RX0) (T := TX0) (N := 6) hx hb hts hin0 hown hK hP 3 rfl rfl 5 (by decide) (va_Nw.use rfl hf108) (fun _ h9 => h9) rfl dX5_freedom_13 ?_
      refine lv_icmp_ge (tgt := 93) hx hb dX5_freedom_16 (by decide) (fun c_16 => ?_) (fun c_16 => ?_)
      · rw [nI_leI (by omega) (by omega)] at c_16
        obtain rfl : n = i := by omega
        refine lv_lload_n hx hb dX5_freedom_93 rfl (lv_at hl 1 rfl) ?_
        exact hRet _ (q, f5, f6, xa, ya, ha, xb, yb, hb9) _ _ _ (zFr_congr ef5 ef6 (fun i j h => by omega) (zFr_iff (fun i' j' => by omega) hq)) hP hS dX5_freedom_94
      · rw [nI_leI (by omega) (by omega)] at c_16
        refine lv_iload_n hx hb dX5_freedom_19 rfl (lv_at hl 2 rfl) ?_
        refine lv_iconst (v := 1) hx hb dX5_freedom_20 (by decide) ?_
        refine lv_iadd hx hb dX5_freedom_21 ?_
        refine z_topi (y := nI (i + 1)) ((nI_succ _).symm) ?_
        refine lv_istore (lv' := [(4, .int (nI (i + 1))), (0, .ref oo), (1, .long q), (3, .int (nI i))]) hx hb dX5_freedom_22 hl (by decide) rfl (fun ls hl => ?_)
        have lp_24_4 : ∀ (fu : Nat) (j : Nat) (q2 : Int64), (i < j ∧ j ≤ n) → (zFr (fun i' j' => (i' < j' ∧ j' < n) ∧ (i' < i ∨ (i' = i ∧ j' < j))) f5 f6 q2) → (n - j < fu) → ∀ (H : Heap) (locs : List Loc), va_P D vwCl [(oo, .inr (5, [.ref a, .ref g, .ref t1, .ref t2, .ref s9, .ref m1, .ref m2])), (t1, .inr (4, [.int xa, .int ya, .int ha])), (t2, .inr (4, [.int xb, .int yb, .int hb9])), (a, .inr (0, [.ref k1, .ref k2, .ref k3, .ref k4, .ref k5, .int (nI n)])), (k1, .inl (cI, 5, .inl kd)), (k2, .inl (cI, 5, .inl ln)), (k3, .inl (cI, 5, .inl lo)), (k4, .inl (cI, 5, .inl hi)), (k5, .inl (cI, 5, .inl vl)), (m1, .inl (cI, 5, .inl f5)), (m2, .inl (cI, 5, .inl f6))] H → va_D A0 [(oo, .inr (5, [.ref a, .ref g, .ref t1, .ref t2, .ref s9, .ref m1, .ref m2])), (t1, .inr (4, [.int xa, .int ya, .int ha])), (t2, .inr (4, [.int xb, .int yb, .int hb9])), (a, .inr (0, [.ref k1, .ref k2, .ref k3, .ref k4, .ref k5, .int (nI n)])), (k1, .inl (cI, 5, .inl kd)), (k2, .inl (cI, 5, .inl ln)), (k3, .inl (cI, 5, .inl lo)), (k4, .inl (cI, 5, .inl hi)), (k5, .inl (cI, 5, .inl vl)), (m1, .inl (cI, 5, .inl f5)), (m2, .inl (cI, 5, .inl f6))] → va_S A0 s.heap H locs → ∀ (ls : Array Slot), lv_has ls 7 [(0, .ref oo), (1, .long q2), (3, .int (nI i)), (4, .int (nI j))] → W p l e (zRm 6 0 0) s m args below meth c H locs 0 0 Q (F0 m 24 ls []) := by
          intro fu
          induction fu with
          | zero => intro j q2 hj1 hq2 hfu; exact absurd hfu (Nat.not_lt_zero _)
          | succ fu ih_24_4 =>
            intro j q2 hj1 hq2 hfu H locs hP hD hS ls hl
            refine lv_iload hx hb dX5_freedom_24 (lv_at hl 3 rfl) ?_
            refine lv_aload_n hx hb dX5_freedom_26 rfl (lv_at hl 0 rfl) ?_
            refine va_get (D := D) (ci := 5) (v := .ref a) (C := RX5) (T := TX5) (N := 7) hx hb hts hin5 hown hK hP 0 rfl rfl 0 (by decide) hf10 (fun _ h9 => h9) rfl dX5_freedom_27 ?_
            refine va_getN (D := D) (ci := 0) (v := .int (nI n)) (C := RX0) (T := TX0) (N := 6) hx hb hts hin0 hown hK hP 3 rfl rfl 5 (by decide) (va_Nw.use rfl hf108) (fun _ h9 => h9) rfl dX5_freedom_30 ?_
            refine lv_icmp_ge (tgt := 87) hx hb dX5_freedom_33 (by decide) (fun c_33 => ?_) (fun c_33 => ?_)
            · rw [nI_leI (by omega) (by omega)] at c_33
              obtain rfl : n = j := by omega
              refine lv_iinc (v := nI (i + 1)) (lv' := [(3, .int (nI (i + 1))), (0, .ref oo), (1, .long q2), (4, .int (nI n))]) hx hb dX5_freedom_87 hl (k := 2) rfl ((nI_succ _).symm) (by decide) rfl (fun ls hl => ?_)
              refine lv_goto (tgt := 8) hx hb dX5_freedom_90 (by decide) ?_
              exact ih_8_3 (i + 1) q2 (by first | assumption | omega | rfl | simp_all) (zFr_iff (fun i' j' => by omega) hq2) (by omega) _ _ hP hD hS _ (lv_sub hl [1, 2, 0] rfl)
            · rw [nI_leI (by omega) (by omega)] at c_33
              refine lv_aload_n hx hb dX5_freedom_36 rfl (lv_at hl 0 rfl) ?_
              refine va_get (D := D) (ci := 5) (v := .ref m1) (C := RX5) (T := TX5) (N := 7) hx hb hts hin5 hown hK hP 0 rfl rfl 5 (by decide) hf40 (fun _ h9 => h9) rfl dX5_freedom_37 ?_
              refine lv_iload_n hx hb dX5_freedom_40 rfl (lv_at hl 2 rfl) ?_
              refine z_iald hx hb hK hP 9 rfl (j := i) (by omega) (by decide) dX5_freedom_41 ?_
              refine lv_i2l (v := (f5 i).toInt64) hx hb dX5_freedom_42 rfl ?_
              refine lv_aload_n hx hb dX5_freedom_43 rfl (lv_at hl 0 rfl) ?_
              refine va_get (D := D) (ci := 5) (v := .ref m2) (C := RX5) (T := TX5) (N := 7) hx hb hts hin5 hown hK hP 0 rfl rfl 6 (by decide) hf44 (fun _ h9 => h9) rfl dX5_freedom_44 ?_
              refine lv_iload hx hb dX5_freedom_47 (lv_at hl 3 rfl) ?_
              refine z_iald hx hb hK hP 10 rfl (j := j) (by omega) (by decide) dX5_freedom_49 ?_
              refine lv_i2l (v := (f6 j).toInt64) hx hb dX5_freedom_50 rfl ?_
              refine lv_lmul hx hb dX5_freedom_51 ?_
              refine lv_aload_n hx hb dX5_freedom_52 rfl (lv_at hl 0 rfl) ?_
              refine va_get (D := D) (ci := 5) (v := .ref m2) (C := RX5) (T := TX5) (N := 7) hx hb hts hin5 hown hK hP 0 rfl rfl 6 (by decide) hf44 (fun _ h9 => h9) rfl dX5_freedom_53 ?_
              refine lv_iload_n hx hb dX5_freedom_56 rfl (lv_at hl 2 rfl) ?_
              refine z_iald hx hb hK hP 10 rfl (j := i) (by omega) (by decide) dX5_freedom_57 ?_
              refine lv_i2l (v := (f6 i).toInt64) hx hb dX5_freedom_58 rfl ?_
              refine lv_aload_n hx hb dX5_freedom_59 rfl (lv_at hl 0 rfl) ?_
              refine va_get (D := D) (ci := 5) (v := .ref m1) (C := RX5) (T := TX5) (N := 7) hx hb hts hin5 hown hK hP 0 rfl rfl 5 (by decide) hf40 (fun _ h9 => h9) rfl dX5_freedom_60 ?_
              refine lv_iload hx hb dX5_freedom_63 (lv_at hl 3 rfl) ?_
              refine z_iald hx hb hK hP 9 rfl (j := j) (by omega) (by decide) dX5_freedom_65 ?_
              refine lv_i2l (v := (f5 j).toInt64) hx hb dX5_freedom_66 rfl ?_
              refine lv_lmul hx hb dX5_freedom_67 ?_
              refine lv_lsub hx hb dX5_freedom_68 ?_
              refine lv_lstore (lv' := [(5, .long ((((f5 i).toInt64) * ((f6 j).toInt64)) - (((f6 i).toInt64) * ((f5 j).toInt64)))), (0, .ref oo), (1, .long q2), (3, .int (nI i)), (4, .int (nI j))]) hx hb dX5_freedom_69 hl (by decide) rfl (fun ls hl => ?_)
              refine lv_lload_n hx hb dX5_freedom_71 rfl (lv_at hl 2 rfl) ?_
              refine lv_lload hx hb dX5_freedom_72 (lv_at hl 0 rfl) ?_
              refine va_mabs_long hx hb (by rw [hml]; exact hl.1.symm) hown (hts (.methodLink RX5 112 Lib.MathLoose.abs_long.x) (by decide +kernel)) (hts (.static Lib.MathLoose.abs_long.x) (by decide +kernel)) (hts (.initialized "java/lang/Math") (by decide +kernel)) (hts (.code Lib.MathLoose.abs_long.x Lib.MathLoose.abs_long.code 2 (some .long)) (by decide +kernel)) (Nat.le_of_ble_eq_true rfl) (Nat.le_of_ble_eq_true rfl) (Nat.le_refl _) (Nat.le_refl _) dX5_freedom_74 ?_
              refine va_mmax_long hx hb (by rw [hml]; exact hl.1.symm) hown (hts (.methodLink RX5 118 Lib.MathLoose.max_long.x) (by decide +kernel)) (hts (.static Lib.MathLoose.max_long.x) (by decide +kernel)) (hts (.initialized "java/lang/Math") (by decide +kernel)) (hts (.code Lib.MathLoose.max_long.x Lib.MathLoose.max_long.code 4 (some .long)) (by decide +kernel)) (Nat.le_of_ble_eq_true rfl) (Nat.le_of_ble_eq_true rfl) (Nat.le_refl _) (Nat.le_refl _) dX5_freedom_77 ?_
              refine lv_lstore_n (lv' := [(1, .long (if (if 0 < ((((f5 i).toInt64) * ((f6 j).toInt64)) - (((f6 i).toInt64) * ((f5 j).toInt64))) then ((((f5 i).toInt64) * ((f6 j).toInt64)) - (((f6 i).toInt64) * ((f5 j).toInt64))) else -((((f5 i).toInt64) * ((f6 j).toInt64)) - (((f6 i).toInt64) * ((f5 j).toInt64)))) < q2 then q2 else (if 0 < ((((f5 i).toInt64) * ((f6 j).toInt64)) - (((f6 i).toInt64) * ((f5 j).toInt64))) then ((((f5 i).toInt64) * ((f6 j).toInt64)) - (((f6 i).toInt64) * ((f5 j).toInt64))) else -((((f5 i).toInt64) * ((f6 j).toInt64)) - (((f6 i).toInt64) * ((f5 j).toInt64)))))), (5, .long ((((f5 i).toInt64) * ((f6 j).toInt64)) - (((f6 i).toInt64) * ((f5 j).toInt64)))), (0, .ref oo), (3, .int (nI i)), (4, .int (nI j))]) hx hb dX5_freedom_80 rfl hl (by decide) rfl (fun ls hl => ?_)
              refine lv_iinc (v := nI (j + 1)) (lv' := [(4, .int (nI (j + 1))), (1, .long (if (if 0 < ((((f5 i).toInt64) * ((f6 j).toInt64)) - (((f6 i).toInt64) * ((f5 j).toInt64))) then ((((f5 i).toInt64) * ((f6 j).toInt64)) - (((f6 i).toInt64) * ((f5 j).toInt64))) else -((((f5 i).toInt64) * ((f6 j).toInt64)) - (((f6 i).toInt64) * ((f5 j).toInt64)))) < q2 then q2 else (if 0 < ((((f5 i).toInt64) * ((f6 j).toInt64)) - (((f6 i).toInt64) * ((f5 j).toInt64))) then ((((f5 i).toInt64) * ((f6 j).toInt64)) - (((f6 i).toInt64) * ((f5 j).toInt64))) else -((((f5 i).toInt64) * ((f6 j).toInt64)) - (((f6 i).toInt64) * ((f5 j).toInt64)))))), (5, .long ((((f5 i).toInt64) * ((f6 j).toInt64)) - (((f6 i).toInt64) * ((f5 j).toInt64)))), (0, .ref oo), (3, .int (nI i))]) hx hb dX5_freedom_81 hl (k := 4) rfl ((nI_succ _).symm) (by decide) rfl (fun ls hl => ?_)
              refine lv_goto (tgt := 24) hx hb dX5_freedom_84 (by decide) ?_
              exact ih_24_4 (j + 1) (if (if 0 < ((((f5 i).toInt64) * ((f6 j).toInt64)) - (((f6 i).toInt64) * ((f5 j).toInt64))) then ((((f5 i).toInt64) * ((f6 j).toInt64)) - (((f6 i).toInt64) * ((f5 j).toInt64))) else -((((f5 i).toInt64) * ((f6 j).toInt64)) - (((f6 i).toInt64) * ((f5 j).toInt64)))) < q2 then q2 else (if 0 < ((((f5 i).toInt64) * ((f6 j).toInt64)) - (((f6 i).toInt64) * ((f5 j).toInt64))) then ((((f5 i).toInt64) * ((f6 j).toInt64)) - (((f6 i).toInt64) * ((f5 j).toInt64))) else -((((f5 i).toInt64) * ((f6 j).toInt64)) - (((f6 i).toInt64) * ((f5 j).toInt64))))) (by first | assumption | omega | rfl | simp_all) (zFr_add hq2 rfl (fun i' j' => by omega)) (by omega) _ _ hP hD hS _ (lv_sub hl [3, 1, 4, 0] rfl)
        exact lp_24_4 ((n - (i + 1)) + 1) (i + 1) q (by first | assumption | omega | rfl | simp_all) (zFr_iff (fun i' j' => by omega) hq) (Nat.lt_succ_self _) _ _ hP hD hS _ (lv_sub hl [1, 2, 3, 0] rfl)
  exact lp_8_3 ((n - 0) + 1) 0 0 (by first | assumption | omega | rfl | simp_all) (zFr_0 (fun i j h => Nat.not_lt_zero _ h.2)) (Nat.lt_succ_self _) _ _ hP hD hS _ (lv_sub hl [2, 1, 0] rfl)

set_option maxHeartbeats 4000000 in
set_option maxRecDepth 100000 in
theorem c_X5_far (l : Launch) (D : va_G) (cI cJ : ClassId) (oo : Nat) (s9 : Nat) (m1 : Nat) (m2 : Nat) (g : Nat) (gx : Int32) (gy : Int32) (sl : Int32) (t1 : Nat) (x1 : Int32) (y1 : Int32) (h1 : Int32) (t2 : Nat) (a : Nat) (k1 : Nat) (k2 : Nat) (k3 : Nat) (k4 : Nat) (k5 : Nat) (n : Nat) (kd : Nat → Int32) (ln : Nat → Int32) (lo : Nat → Int32) (hi : Nat → Int32) (vl : Nat → Int32) (hn : n ≤ 5) : zM l yX5_far wsX5_far 6 D cI cJ [.ref oo] [(oo, .inr (5, [.ref a, .ref g, .ref t1, .ref t2, .ref s9, .ref m1, .ref m2])), (g, .inr (1, [.int gx, .int gy, .int sl])), (t1, .inr (4, [.int x1, .int y1, .int h1])), (a, .inr (0, [.ref k1, .ref k2, .ref k3, .ref k4, .ref k5, .int (nI n)])), (k1, .inl (cI, 5, .inl kd)), (k2, .inl (cI, 5, .inl ln)), (k3, .inl (cI, 5, .inl lo)), (k4, .inl (cI, 5, .inl hi)), (k5, .inl (cI, 5, .inl vl))] (fun (u : Int64 × Int32 × Int32 × Int32) => u.1 = zFn kd ln vl n gx gy) (fun (u : Int64 × Int32 × Int32 × Int32) => some (.long u.1)) (fun (u : Int64 × Int32 × Int32 × Int32) => [(oo, .inr (5, [.ref a, .ref g, .ref t1, .ref t2, .ref s9, .ref m1, .ref m2])), (g, .inr (1, [.int gx, .int gy, .int sl])), (t1, .inr (4, [.int u.2.1, .int u.2.2.1, .int u.2.2.2])), (a, .inr (0, [.ref k1, .ref k2, .ref k3, .ref k4, .ref k5, .int (nI n)])), (k1, .inl (cI, 5, .inl kd)), (k2, .inl (cI, 5, .inl ln)), (k3, .inl (cI, 5, .inl lo)), (k4, .inl (cI, 5, .inl hi)), (k5, .inl (cI, 5, .inl vl))]) := by
  refine zM_l (cc := cX5_far) (maxL := 1) (r := fun (u : Int64 × Int32 × Int32 × Int32) => u.1) (by decide) rfl (Nat.le_of_ble_eq_true rfl) ?_
  intro p e s m args below meth c ls A0 Q C hl hP hS hRet
  obtain ⟨⟨hx, hb, hml, hown, hts⟩, hG, hK, hD, hlocks⟩ := C
  have hl : lv_has ls 1 [(0, .ref oo)] := hl
  refine lv_aload_n hx hb dX5_far_0 rfl (lv_at hl 0 rfl) ?_
  refine z_callV (As := []) (rest := []) ⟨hx, hb, hml, hown, hts⟩ hG hK hP hD hS (c_X5_farNow l D cI cJ oo s9 m1 m2 g gx gy sl t1 x1 y1 h1 t2 a k1 k2 k3 k4 k5 n kd ln lo hi vl (by first | assumption | omega | decide)) (cwV 0 hts gX5_far_X5_farNow rfl rfl rfl (by decide +kernel) ⟨Nat.le_of_ble_eq_true rfl, Nat.le_of_ble_eq_true rfl⟩) [0, 1, 2, 3, 4, 5, 6, 7, 8] (by decide) rfl (fun _ => rfl) 0 rfl rfl rfl rfl hl.1 rfl (Nat.le_of_ble_eq_true rfl) dX5_far_1 ⟨Nat.le_refl _, Nat.le_refl _⟩ (fun u_1 H locs hu_2 hP hD hS => ?_)
  obtain ⟨r_3, x3_4, y3_5, h3_6⟩ := u_1
  have hu_2 : r_3 = zFn kd ln vl n gx gy := hu_2
  have e_7 := hu_2
  subst e_7
  have hP : va_P D vwCl [(oo, .inr (5, [.ref a, .ref g, .ref t1, .ref t2, .ref s9, .ref m1, .ref m2])), (g, .inr (1, [.int gx, .int gy, .int sl])), (t1, .inr (4, [.int x3_4, .int y3_5, .int h3_6])), (a, .inr (0, [.ref k1, .ref k2, .ref k3, .ref k4, .ref k5, .int (nI n)])), (k1, .inl (cI, 5, .inl kd)), (k2, .inl (cI, 5, .inl ln)), (k3, .inl (cI, 5, .inl lo)), (k4, .inl (cI, 5, .inl hi)), (k5, .inl (cI, 5, .inl vl))] H := hP
  have hD : va_D A0 [(oo, .inr (5, [.ref a, .ref g, .ref t1, .ref t2, .ref s9, .ref m1, .ref m2])), (g, .inr (1, [.int gx, .int gy, .int sl])), (t1, .inr (4, [.int x3_4, .int y3_5, .int h3_6])), (a, .inr (0, [.ref k1, .ref k2, .ref k3, .ref k4, .ref k5, .int (nI n)])), (k1, .inl (cI, 5, .inl kd)), (k2, .inl (cI, 5, .inl ln)), (k3, .inl (cI, 5, .inl lo)), (k4, .inl (cI, 5, .inl hi)), (k5, .inl (cI, 5, .inl vl))] := hD
  exact hRet _ ((zFn kd ln vl n gx gy), x3_4, y3_5, h3_6) _ _ _ (rfl) hP hS dX5_far_4
end
section
set_option maxHeartbeats 4000000 in
set_option maxRecDepth 100000 in
theorem c_X5_stepped (l : Launch) (D : va_G) (cI cJ : ClassId) (oo : Nat) (s9 : Nat) (m1 : Nat) (m2 : Nat) (g : Nat) (gx : Int32) (gy : Int32) (sl : Int32) (t1 : Nat) (x1 : Int32) (y1 : Int32) (h1 : Int32) (t2 : Nat) (x2 : Int32) (y2 : Int32) (h2 : Int32) (a : Nat) (k1 : Nat) (k2 : Nat) (k3 : Nat) (k4 : Nat) (k5 : Nat) (n : Nat) (kd : Nat → Int32) (ln : Nat → Int32) (lo : Nat → Int32) (hi : Nat → Int32) (vl : Nat → Int32) (st : Int32) (hn : n ≤ 5) : zM l yX5_stepped wsX5_stepped 6 D cI cJ [.ref oo, .int st] [(oo, .inr (5, [.ref a, .ref g, .ref t1, .ref t2, .ref s9, .ref m1, .ref m2])), (g, .inr (1, [.int gx, .int gy, .int sl])), (t1, .inr (4, [.int x1, .int y1, .int h1])), (t2, .inr (4, [.int x2, .int y2, .int h2])), (a, .inr (0, [.ref k1, .ref k2, .ref k3, .ref k4, .ref k5, .int (nI n)])), (k1, .inl (cI, 5, .inl kd)), (k2, .inl (cI, 5, .inl ln)), (k3, .inl (cI, 5, .inl lo)), (k4, .inl (cI, 5, .inl hi)), (k5, .inl (cI, 5, .inl vl))] (fun (u : Int32 × (Nat → Int32) × Int32 × Int32 × Int32 × Int32 × Int32 × Int32) => (u.1 = if (zBst kd ln lo hi vl n gx gy st n).2.1 = -1 then 0 else 1) ∧ (u.2.1 = if (zBst kd ln lo hi vl n gx gy st n).2.1 = -1 then vl else zNx kd ln lo hi vl n gx gy st)) (fun (u : Int32 × (Nat → Int32) × Int32 × Int32 × Int32 × Int32 × Int32 × Int32) => some (.int u.1)) (fun (u : Int32 × (Nat → Int32) × Int32 × Int32 × Int32 × Int32 × Int32 × Int32) => [(oo, .inr (5, [.ref a, .ref g, .ref t1, .ref t2, .ref s9, .ref m1, .ref m2])), (g, .inr (1, [.int gx, .int gy, .int sl])), (t1, .inr (4, [.int u.2.2.1, .int u.2.2.2.1, .int u.2.2.2.2.1])), (t2, .inr (4, [.int u.2.2.2.2.2.1, .int u.2.2.2.2.2.2.1, .int u.2.2.2.2.2.2.2])), (a, .inr (0, [.ref k1, .ref k2, .ref k3, .ref k4, .ref k5, .int (nI n)])), (k1, .inl (cI, 5, .inl kd)), (k2, .inl (cI, 5, .inl ln)), (k3, .inl (cI, 5, .inl lo)), (k4, .inl (cI, 5, .inl hi)), (k5, .inl (cI, 5, .inl u.2.1))]) := by
  refine zM_z (cc := cX5_stepped) (maxL := 11) (r := fun (u : Int32 × (Nat → Int32) × Int32 × Int32 × Int32 × Int32 × Int32 × Int32) => u.1) (fun u h => by rw [h.1]; split <;> simp) (by decide) rfl (Nat.le_of_ble_eq_true rfl) ?_
  intro p e s m args below meth c ls A0 Q C hl hP hS hRet
  obtain ⟨⟨hx, hb, hml, hown, hts⟩, hG, hK, hD, hlocks⟩ := C
  have hin0 : ∀ w ∈ u_ws RX0 TX0 6, w ∈ wsX5_stepped := by decide +kernel
  have hin5 : ∀ w ∈ u_ws RX5 TX5 7, w ∈ wsX5_stepped := by decide +kernel
  have hf10 := hts (.fieldLink RX5 10 "ArmRoom" "arm" "LArmRoom$Arm;") (by decide +kernel)
  have hf108 := hG.1.2.1 ("ArmRoom", 108, "ArmRoom$Arm", "count", "I", "ArmRoom") (List.mem_of_getElem? (i := 9) rfl)
  have hf83 := hG.1.2.1 ("ArmRoom", 83, "ArmRoom$Arm", "values", "[I", "ArmRoom") (List.mem_of_getElem? (i := 4) rfl)
  have hl : lv_has ls 11 [(0, .ref oo), (1, .int st)] := hl
  refine lv_aload_n hx hb dX5_stepped_0 rfl (lv_at hl 0 rfl) ?_
  refine z_callV (As := []) (rest := []) ⟨hx, hb, hml, hown, hts⟩ hG hK hP hD hS (c_X5_farNow l D cI cJ oo s9 m1 m2 g gx gy sl t1 x1 y1 h1 t2 a k1 k2 k3 k4 k5 n kd ln lo hi vl (by first | assumption | omega | decide)) (cwV 0 hts gX5_stepped_X5_farNow rfl rfl rfl (by decide +kernel) ⟨Nat.le_of_ble_eq_true rfl, Nat.le_of_ble_eq_true rfl⟩) [0, 1, 2, 4, 5, 6, 7, 8, 9] (by decide) rfl (fun _ => rfl) 0 rfl rfl rfl rfl hl.1 rfl (Nat.le_of_ble_eq_true rfl) dX5_stepped_1 ⟨Nat.le_refl _, Nat.le_refl _⟩ (fun u_1 H locs hu_2 hP hD hS => ?_)
  obtain ⟨r_3, x3_4, y3_5, h3_6⟩ := u_1
  have hu_2 : (r_3 = zFn kd ln vl n gx gy) := hu_2
  have e_7 := hu_2
  subst e_7
  have hP : va_P D vwCl [(oo, .inr (5, [.ref a, .ref g, .ref t1, .ref t2, .ref s9, .ref m1, .ref m2])), (g, .inr (1, [.int gx, .int gy, .int sl])), (t1, .inr (4, [.int x3_4, .int y3_5, .int h3_6])), (t2, .inr (4, [.int x2, .int y2, .int h2])), (a, .inr (0, [.ref k1, .ref k2, .ref k3, .ref k4, .ref k5, .int (nI n)])), (k1, .inl (cI, 5, .inl kd)), (k2, .inl (cI, 5, .inl ln)), (k3, .inl (cI, 5, .inl lo)), (k4, .inl (cI, 5, .inl hi)), (k5, .inl (cI, 5, .inl vl))] H := hP
  have hD : va_D A0 [(oo, .inr (5, [.ref a, .ref g, .ref t1, .ref t2, .ref s9, .ref m1, .ref m2])), (g, .inr (1, [.int gx, .int gy, .int sl])), (t1, .inr (4, [.int x3_4, .int y3_5, .int h3_6])), (t2, .inr (4, [.int x2, .int y2, .int h2])), (a, .inr (0, [.ref k1, .ref k2, .ref k3, .ref k4, .ref k5, .int (nI n)])), (k1, .inl (cI, 5, .inl kd)), (k2, .inl (cI, 5, .inl ln)), (k3, .inl (cI, 5, .inl lo)), (k4, .inl (cI, 5, .inl hi)), (k5, .inl (cI, 5, .inl vl))] := hD
  refine lv_lstore_n (lv' := [(2, .long (zFn kd ln vl n gx gy)), (0, .ref oo), (1, .int st)]) hx hb dX5_stepped_4 rfl hl (by decide) rfl (fun ls hl => ?_)
  refine lv_iconst (v := (-1)) hx hb dX5_stepped_5 (by decide) ?_
  refine lv_istore (lv' := [(4, .int (-1)), (2, .long (zFn kd ln vl n gx gy)), (0, .ref oo), (1, .int st)]) hx hb dX5_stepped_6 hl (by decide) rfl (fun ls hl => ?_)
  refine lv_iconst (v := 0) hx hb dX5_stepped_8 (by decide) ?_
  refine lv_istore (lv' := [(5, .int 0), (4, .int (-1)), (2, .long (zFn kd ln vl n gx gy)), (0, .ref oo), (1, .int st)]) hx hb dX5_stepped_9 hl (by decide) rfl (fun ls hl => ?_)
  refine lv_iconst (v := 0) hx hb dX5_stepped_11 (by decide) ?_
  refine lv_istore (lv' := [(6, .int 0), (5, .int 0), (4, .int (-1)), (2, .long (zFn kd ln vl n gx gy)), (0, .ref oo), (1, .int st)]) hx hb dX5_stepped_12 hl (by decide) rfl (fun ls hl => ?_)
  have lp_14_8 : ∀ (fu : Nat) (i : Nat) (f : Int64) (b : Int32) (v : Int32) (xp : Int32) (yp : Int32) (hp : Int32), (i ≤ n) → ((f, b, v) = zBst kd ln lo hi vl n gx gy st i) → (n - i < fu) → ∀ (H : Heap) (locs : List Loc), va_P D vwCl [(oo, .inr (5, [.ref a, .ref g, .ref t1, .ref t2, .ref s9, .ref m1, .ref m2])), (g, .inr (1, [.int gx, .int gy, .int sl])), (t1, .inr (4, [.int x3_4, .int y3_5, .int h3_6])), (t2, .inr (4, [.int xp, .int yp, .int hp])), (a, .inr (0, [.ref k1, .ref k2, .ref k3, .ref k4, .ref k5, .int (nI n)])), (k1, .inl (cI, 5, .inl kd)), (k2, .inl (cI, 5, .inl ln)), (k3, .inl (cI, 5, .inl lo)), (k4, .inl (cI, 5, .inl hi)), (k5, .inl (cI, 5, .inl vl))] H → va_D A0 [(oo, .inr (5, [.ref a, .ref g, .ref t1, .ref t2, .ref s9, .ref m1, .ref m2])), (g, .inr (1, [.int gx, .int gy, .int sl])), (t1, .inr (4, [.int x3_4, .int y3_5, .int h3_6])), (t2, .inr (4, [.int xp, .int yp, .int hp])), (a, .inr (0, [.ref k1, .ref k2, .ref k3, .ref k4, .ref k5, .int (nI n)])), (k1, .inl (cI, 5, .inl kd)), (k2, .inl (cI, 5, .inl ln)), (k3, .inl (cI, 5, .inl lo)), (k4, .inl (cI, 5, .inl hi)), (k5, .inl (cI, 5, .inl vl))] → va_S A0 s.heap H locs → ∀ (ls : Array Slot), lv_has ls 11 [(0, .ref oo), (1, .int st), (2, .long f), (4, .int b), (5, .int v), (6, .int (nI i))] → W p l e (zRm 6 0 0) s m args below meth c H locs 0 0 Q (F0 m 14 ls []) := by
    intro fu
    induction fu with
    | zero => intro i f b v xp yp hp hi1 hz hfu; exact absurd hfu (Nat.not_lt_zero _)
    | succ fu ih_14_8 =>
      intro i f b v xp yp hp hi1 hz hfu H locs hP hD hS ls hl
      refine lv_iload hx hb dX5_stepped_14 (lv_at hl 5 rfl) ?_
      refine lv_aload_n hx hb dX5_stepped_16 rfl (lv_at hl 0 rfl) ?_
      refine va_get (D := D) (ci := 5) (v := .ref a) (C := RX5) (T := TX5) (N := 7) hx hb hts hin5 hown hK hP 0 rfl rfl 0 (by decide) hf10 (fun _ h9 => h9) rfl dX5_stepped_17 ?_
      refine va_getN (D := D) (ci := 0) (v := .int (nI n)) (C := RX0) (T := TX0) (N := 6) hx hb hts hin0 hown hK hP 4 rfl rfl 5 (by decide) (va_Nw.use rfl hf108) (fun _ h9 => h9) rfl dX5_stepped_20 ?_
      refine lv_icmp_ge (tgt := 101) hx hb dX5_stepped_23 (by decide) (fun c_23 => ?_) (fun c_23 => ?_)
      · rw [nI_leI (by omega) (by omega)] at c_23
        obtain rfl : n = i := by omega
        refine lv_iload hx hb dX5_stepped_101 (lv_at hl 3 rfl) ?_
        refine lv_iconst (v := (-1)) hx hb dX5_stepped_103 (by decide) ?_
        refine lv_icmp_ne (tgt := 109) hx hb dX5_stepped_104 (by decide) (fun c_104 => ?_) (fun c_104 => ?_)
        · have hix := zBst_ix kd ln lo hi vl n gx gy st n
          rw [← hz] at hix
          obtain ⟨jj, hjj, hjb, -⟩ := hix.resolve_left c_104
          have hjb : b = nI jj := hjb
          subst hjb
          refine lv_aload_n hx hb dX5_stepped_109 rfl (lv_at hl 0 rfl) ?_
          refine va_get (D := D) (ci := 5) (v := .ref a) (C := RX5) (T := TX5) (N := 7) hx hb hts hin5 hown hK hP 0 rfl rfl 0 (by decide) hf10 (fun _ h9 => h9) rfl dX5_stepped_110 ?_
          refine va_getN (D := D) (ci := 0) (v := .ref k5) (C := RX0) (T := TX0) (N := 6) hx hb hts hin0 hown hK hP 4 rfl rfl 4 (by decide) (va_Nw.use rfl hf83) (fun _ h9 => h9) rfl dX5_stepped_113 ?_
          refine lv_iload hx hb dX5_stepped_116 (lv_at hl 3 rfl) ?_
          refine lv_iload hx hb dX5_stepped_118 (lv_at hl 4 rfl) ?_
          refine z_iast hx hb hK hP hD hS 9 rfl (j := jj) (by omega) (by decide) dX5_stepped_120 (fun H locs hP hD hS => ?_)
          have hP : va_P D vwCl [(oo, .inr (5, [.ref a, .ref g, .ref t1, .ref t2, .ref s9, .ref m1, .ref m2])), (g, .inr (1, [.int gx, .int gy, .int sl])), (t1, .inr (4, [.int x3_4, .int y3_5, .int h3_6])), (t2, .inr (4, [.int xp, .int yp, .int hp])), (a, .inr (0, [.ref k1, .ref k2, .ref k3, .ref k4, .ref k5, .int (nI n)])), (k1, .inl (cI, 5, .inl kd)), (k2, .inl (cI, 5, .inl ln)), (k3, .inl (cI, 5, .inl lo)), (k4, .inl (cI, 5, .inl hi)), (k5, .inl (cI, 5, .inl (upd vl jj v)))] H := hP
          have hD : va_D A0 [(oo, .inr (5, [.ref a, .ref g, .ref t1, .ref t2, .ref s9, .ref m1, .ref m2])), (g, .inr (1, [.int gx, .int gy, .int sl])), (t1, .inr (4, [.int x3_4, .int y3_5, .int h3_6])), (t2, .inr (4, [.int xp, .int yp, .int hp])), (a, .inr (0, [.ref k1, .ref k2, .ref k3, .ref k4, .ref k5, .int (nI n)])), (k1, .inl (cI, 5, .inl kd)), (k2, .inl (cI, 5, .inl ln)), (k3, .inl (cI, 5, .inl lo)), (k4, .inl (cI, 5, .inl hi)), (k5, .inl (cI, 5, .inl (upd vl jj v)))] := hD
          refine lv_iconst (v := 1) hx hb dX5_stepped_121 (by decide) ?_
          exact hRet _ (1, upd vl jj v, x3_4, y3_5, h3_6, xp, yp, hp) _ _ _ ⟨by rw [← hz]; exact (if_neg c_104).symm, by unfold zNx; rw [← hz]; show upd vl jj v = if nI jj = -1 then vl else upd vl (nI jj).toNatClampNeg v; rw [if_neg c_104, nI_clamp (by omega)]⟩ hP hS dX5_stepped_122
        · refine lv_iconst (v := 0) hx hb dX5_stepped_107 (by decide) ?_
          exact hRet _ (0, vl, x3_4, y3_5, h3_6, xp, yp, hp) _ _ _ ⟨by rw [← hz]; exact (if_pos c_104).symm, by rw [← hz]; exact (if_pos c_104).symm⟩ hP hS dX5_stepped_108
      · rw [nI_leI (by omega) (by omega)] at c_23
        refine lv_iconst (v := (-1)) hx hb dX5_stepped_26 (by decide) ?_
        refine lv_istore (lv' := [(7, .int (-1)), (0, .ref oo), (1, .int st), (2, .long f), (4, .int b), (5, .int v), (6, .int (nI i))]) hx hb dX5_stepped_27 hl (by decide) rfl (fun ls hl => ?_)
        refine lv_iload hx hb dX5_stepped_29 (lv_at hl 0 rfl) ?_
        refine lv_iconst (v := 1) hx hb dX5_stepped_31 (by decide) ?_
        refine lv_icmp_gt (tgt := 95) hx hb dX5_stepped_32 (by decide) (fun c_32 => ?_) (fun c_32 => ?_)
        · exact absurd c_32 (by decide)
        · have jn_89_9 : ∀ (fq : Int64) (bq : Int32) (vq : Int32) (xq : Int32) (yq : Int32) (hq : Int32), (zTry kd ln lo hi vl n gx gy st (f, b, v) i (-1) = (fq, bq, vq)) → ∀ (H : Heap) (locs : List Loc), va_P D vwCl [(oo, .inr (5, [.ref a, .ref g, .ref t1, .ref t2, .ref s9, .ref m1, .ref m2])), (g, .inr (1, [.int gx, .int gy, .int sl])), (t1, .inr (4, [.int x3_4, .int y3_5, .int h3_6])), (t2, .inr (4, [.int xq, .int yq, .int hq])), (a, .inr (0, [.ref k1, .ref k2, .ref k3, .ref k4, .ref k5, .int (nI n)])), (k1, .inl (cI, 5, .inl kd)), (k2, .inl (cI, 5, .inl ln)), (k3, .inl (cI, 5, .inl lo)), (k4, .inl (cI, 5, .inl hi)), (k5, .inl (cI, 5, .inl vl))] H → va_D A0 [(oo, .inr (5, [.ref a, .ref g, .ref t1, .ref t2, .ref s9, .ref m1, .ref m2])), (g, .inr (1, [.int gx, .int gy, .int sl])), (t1, .inr (4, [.int x3_4, .int y3_5, .int h3_6])), (t2, .inr (4, [.int xq, .int yq, .int hq])), (a, .inr (0, [.ref k1, .ref k2, .ref k3, .ref k4, .ref k5, .int (nI n)])), (k1, .inl (cI, 5, .inl kd)), (k2, .inl (cI, 5, .inl ln)), (k3, .inl (cI, 5, .inl lo)), (k4, .inl (cI, 5, .inl hi)), (k5, .inl (cI, 5, .inl vl))] → va_S A0 s.heap H locs → ∀ (ls : Array Slot), lv_has ls 11 [(0, .ref oo), (1, .int st), (2, .long fq), (4, .int bq), (5, .int vq), (6, .int (nI i)), (7, .int (-1))] → W p l e (zRm 6 0 0) s m args below meth c H locs 0 0 Q (F0 m 89 ls []) := by
            intro fq bq vq xq yq hq hjq H locs hP hD hS ls hl
            refine lv_iinc (v := 1) (lv' := [(7, .int 1), (0, .ref oo), (1, .int st), (2, .long fq), (4, .int bq), (5, .int vq), (6, .int (nI i))]) hx hb dX5_stepped_89 hl (k := 6) rfl (by decide) (by decide) rfl (fun ls hl => ?_)
            refine lv_goto (tgt := 29) hx hb dX5_stepped_92 (by decide) ?_
            refine lv_iload hx hb dX5_stepped_29 (lv_at hl 0 rfl) ?_
            refine lv_iconst (v := 1) hx hb dX5_stepped_31 (by decide) ?_
            refine lv_icmp_gt (tgt := 95) hx hb dX5_stepped_32 (by decide) (fun c_32 => ?_) (fun c_32 => ?_)
            · exact absurd c_32 (by decide)
            · have jn_89_10 : ∀ (fr : Int64) (br : Int32) (vr : Int32) (xr : Int32) (yr : Int32) (hr : Int32), (zTry kd ln lo hi vl n gx gy st (fq, bq, vq) i 1 = (fr, br, vr)) → ∀ (H : Heap) (locs : List Loc), va_P D vwCl [(oo, .inr (5, [.ref a, .ref g, .ref t1, .ref t2, .ref s9, .ref m1, .ref m2])), (g, .inr (1, [.int gx, .int gy, .int sl])), (t1, .inr (4, [.int x3_4, .int y3_5, .int h3_6])), (t2, .inr (4, [.int xr, .int yr, .int hr])), (a, .inr (0, [.ref k1, .ref k2, .ref k3, .ref k4, .ref k5, .int (nI n)])), (k1, .inl (cI, 5, .inl kd)), (k2, .inl (cI, 5, .inl ln)), (k3, .inl (cI, 5, .inl lo)), (k4, .inl (cI, 5, .inl hi)), (k5, .inl (cI, 5, .inl vl))] H → va_D A0 [(oo, .inr (5, [.ref a, .ref g, .ref t1, .ref t2, .ref s9, .ref m1, .ref m2])), (g, .inr (1, [.int gx, .int gy, .int sl])), (t1, .inr (4, [.int x3_4, .int y3_5, .int h3_6])), (t2, .inr (4, [.int xr, .int yr, .int hr])), (a, .inr (0, [.ref k1, .ref k2, .ref k3, .ref k4, .ref k5, .int (nI n)])), (k1, .inl (cI, 5, .inl kd)), (k2, .inl (cI, 5, .inl ln)), (k3, .inl (cI, 5, .inl lo)), (k4, .inl (cI, 5, .inl hi)), (k5, .inl (cI, 5, .inl vl))] → va_S A0 s.heap H locs → ∀ (ls : Array Slot), lv_has ls 11 [(0, .ref oo), (1, .int st), (2, .long fr), (4, .int br), (5, .int vr), (6, .int (nI i)), (7, .int 1)] → W p l e (zRm 6 0 0) s m args below meth c H locs 0 0 Q (F0 m 89 ls []) := by
                intro fr br vr xr yr hr hjr H locs hP hD hS ls hl
                refine lv_iinc (v := 3) (lv' := [(7, .int 3), (0, .ref oo), (1, .int st), (2, .long fr), (4, .int br), (5, .int vr), (6, .int (nI i))]) hx hb dX5_stepped_89 hl (k := 6) rfl (by decide) (by decide) rfl (fun ls hl => ?_)
                refine lv_goto (tgt := 29) hx hb dX5_stepped_92 (by decide) ?_
                refine lv_iload hx hb dX5_stepped_29 (lv_at hl 0 rfl) ?_
                refine lv_iconst (v := 1) hx hb dX5_stepped_31 (by decide) ?_
                refine lv_icmp_gt (tgt := 95) hx hb dX5_stepped_32 (by decide) (fun c_32 => ?_) (fun c_32 => ?_)
                · refine lv_iinc (v := nI (i + 1)) (lv' := [(6, .int (nI (i + 1))), (7, .int 3), (0, .ref oo), (1, .int st), (2, .long fr), (4, .int br), (5, .int vr)]) hx hb dX5_stepped_95 hl (k := 6) rfl ((nI_succ _).symm) (by decide) rfl (fun ls hl => ?_)
                  refine lv_goto (tgt := 14) hx hb dX5_stepped_98 (by decide) ?_
                  exact ih_14_8 (i + 1) fr br vr xr yr hr (by first | assumption | omega | rfl | simp_all) (by rw [← hjr, ← hjq, hz]; rfl) (by omega) _ _ hP hD hS _ (lv_sub hl [2, 3, 4, 5, 6, 0] rfl)
                · exact absurd (by decide) c_32
              refine lv_aload_n hx hb dX5_stepped_35 rfl (lv_at hl 1 rfl) ?_
              refine va_get (D := D) (ci := 5) (v := .ref a) (C := RX5) (T := TX5) (N := 7) hx hb hts hin5 hown hK hP 0 rfl rfl 0 (by decide) hf10 (fun _ h9 => h9) rfl dX5_stepped_36 ?_
              refine lv_iload hx hb dX5_stepped_39 (lv_at hl 6 rfl) ?_
              refine lv_aload_n hx hb dX5_stepped_41 rfl (lv_at hl 1 rfl) ?_
              refine va_get (D := D) (ci := 5) (v := .ref a) (C := RX5) (T := TX5) (N := 7) hx hb hts hin5 hown hK hP 0 rfl rfl 0 (by decide) hf10 (fun _ h9 => h9) rfl dX5_stepped_42 ?_
              refine va_getN (D := D) (ci := 0) (v := .ref k5) (C := RX0) (T := TX0) (N := 6) hx hb hts hin0 hown hK hP 4 rfl rfl 4 (by decide) (va_Nw.use rfl hf83) (fun _ h9 => h9) rfl dX5_stepped_45 ?_
              refine lv_iload hx hb dX5_stepped_48 (lv_at hl 6 rfl) ?_
              refine z_iald hx hb hK hP 9 rfl (j := i) (by omega) (by decide) dX5_stepped_50 ?_
              refine lv_iload hx hb dX5_stepped_51 (lv_at hl 0 rfl) ?_
              refine lv_iload_n hx hb dX5_stepped_53 rfl (lv_at hl 2 rfl) ?_
              refine lv_imul hx hb dX5_stepped_54 ?_
              refine lv_iadd hx hb dX5_stepped_55 ?_
              refine z_callVN (As := [.int (nI i), .int ((vl i) + (1 * st))]) (rest := []) ⟨hx, hb, hml, hown, hts⟩ hG hK hP hD hS (c_X0_held l D cI cJ a k1 k2 k3 k4 k5 n kd ln lo hi vl i ((vl i) + (1 * st)) (by first | assumption | omega | decide)) (⟨va_cnB 2 hts gX5_stepped_X0_held_n190 rfl rfl rfl (hG.1.1 ("ArmRoom", 190, yX0_held, "ArmRoom") (List.mem_of_getElem? (i := 17) rfl)) (hts (.initialized RX0) (by decide +kernel)) (by decide +kernel) ⟨Nat.le_of_ble_eq_true rfl, Nat.le_of_ble_eq_true rfl⟩, hts (.instanceMethod yX0_held) (by decide +kernel), hts (.selects RX0 yX0_held yX0_held) (by decide +kernel)⟩) [4, 5, 6, 7, 8, 9] (by decide) rfl (fun _ => rfl) 4 rfl rfl rfl rfl hl.1 rfl (Nat.le_of_ble_eq_true rfl) dX5_stepped_56 ⟨Nat.le_refl _, Nat.le_refl _⟩ (fun u_11 H locs hu_12 hP hD hS => ?_)
              obtain ⟨r_13, rfl⟩ : ∃ z, z = u_11 := ⟨_, rfl⟩
              have hu_12 : (r_13 = zHeldC (lo i) (hi i) ((vl i) + (1 * st))) := hu_12
              have e_14 := hu_12
              subst e_14
              have hP : va_P D vwCl [(oo, .inr (5, [.ref a, .ref g, .ref t1, .ref t2, .ref s9, .ref m1, .ref m2])), (g, .inr (1, [.int gx, .int gy, .int sl])), (t1, .inr (4, [.int x3_4, .int y3_5, .int h3_6])), (t2, .inr (4, [.int xq, .int yq, .int hq])), (a, .inr (0, [.ref k1, .ref k2, .ref k3, .ref k4, .ref k5, .int (nI n)])), (k1, .inl (cI, 5, .inl kd)), (k2, .inl (cI, 5, .inl ln)), (k3, .inl (cI, 5, .inl lo)), (k4, .inl (cI, 5, .inl hi)), (k5, .inl (cI, 5, .inl vl))] H := hP
              have hD : va_D A0 [(oo, .inr (5, [.ref a, .ref g, .ref t1, .ref t2, .ref s9, .ref m1, .ref m2])), (g, .inr (1, [.int gx, .int gy, .int sl])), (t1, .inr (4, [.int x3_4, .int y3_5, .int h3_6])), (t2, .inr (4, [.int xq, .int yq, .int hq])), (a, .inr (0, [.ref k1, .ref k2, .ref k3, .ref k4, .ref k5, .int (nI n)])), (k1, .inl (cI, 5, .inl kd)), (k2, .inl (cI, 5, .inl ln)), (k3, .inl (cI, 5, .inl lo)), (k4, .inl (cI, 5, .inl hi)), (k5, .inl (cI, 5, .inl vl))] := hD
              refine lv_istore (lv' := [(8, .int (zHeldC (lo i) (hi i) ((vl i) + (1 * st)))), (7, .int 1), (0, .ref oo), (1, .int st), (2, .long fq), (4, .int bq), (5, .int vq), (6, .int (nI i))]) hx hb dX5_stepped_59 hl (by decide) rfl (fun ls hl => ?_)
              refine lv_aload_n hx hb dX5_stepped_61 rfl (lv_at hl 2 rfl) ?_
              refine lv_iload hx hb dX5_stepped_62 (lv_at hl 7 rfl) ?_
              refine lv_iload hx hb dX5_stepped_64 (lv_at hl 0 rfl) ?_
              refine z_callV (As := [.int (nI i), .int (zHeldC (lo i) (hi i) ((vl i) + (1 * st)))]) (rest := []) ⟨hx, hb, hml, hown, hts⟩ hG hK hP hD hS (c_X5_farWith l D cI cJ oo s9 m1 m2 g gx gy sl t2 xq yq hq t1 a k1 k2 k3 k4 k5 n kd ln lo hi vl (nI i) (zHeldC (lo i) (hi i) ((vl i) + (1 * st))) (by first | assumption | omega | decide)) (cwV 2 hts gX5_stepped_X5_farWith rfl rfl rfl (by decide +kernel) ⟨Nat.le_of_ble_eq_true rfl, Nat.le_of_ble_eq_true rfl⟩) [0, 1, 3, 4, 5, 6, 7, 8, 9] (by decide) rfl (fun _ => rfl) 0 rfl rfl rfl rfl hl.1 rfl (Nat.le_of_ble_eq_true rfl) dX5_stepped_66 ⟨Nat.le_refl _, Nat.le_refl _⟩ (fun u_15 H locs hu_16 hP hD hS => ?_)
              obtain ⟨r_17, x4_18, y4_19, h4_20⟩ := u_15
              have hu_16 : (r_17 = zFw kd ln vl n gx gy (nI i) (zHeldC (lo i) (hi i) ((vl i) + (1 * st)))) := hu_16
              have e_21 := hu_16
              subst e_21
              have hP : va_P D vwCl [(oo, .inr (5, [.ref a, .ref g, .ref t1, .ref t2, .ref s9, .ref m1, .ref m2])), (g, .inr (1, [.int gx, .int gy, .int sl])), (t1, .inr (4, [.int x3_4, .int y3_5, .int h3_6])), (t2, .inr (4, [.int x4_18, .int y4_19, .int h4_20])), (a, .inr (0, [.ref k1, .ref k2, .ref k3, .ref k4, .ref k5, .int (nI n)])), (k1, .inl (cI, 5, .inl kd)), (k2, .inl (cI, 5, .inl ln)), (k3, .inl (cI, 5, .inl lo)), (k4, .inl (cI, 5, .inl hi)), (k5, .inl (cI, 5, .inl vl))] H := hP
              have hD : va_D A0 [(oo, .inr (5, [.ref a, .ref g, .ref t1, .ref t2, .ref s9, .ref m1, .ref m2])), (g, .inr (1, [.int gx, .int gy, .int sl])), (t1, .inr (4, [.int x3_4, .int y3_5, .int h3_6])), (t2, .inr (4, [.int x4_18, .int y4_19, .int h4_20])), (a, .inr (0, [.ref k1, .ref k2, .ref k3, .ref k4, .ref k5, .int (nI n)])), (k1, .inl (cI, 5, .inl kd)), (k2, .inl (cI, 5, .inl ln)), (k3, .inl (cI, 5, .inl lo)), (k4, .inl (cI, 5, .inl hi)), (k5, .inl (cI, 5, .inl vl))] := hD
              refine lv_lstore (lv' := [(9, .long (zFw kd ln vl n gx gy (nI i) (zHeldC (lo i) (hi i) ((vl i) + (1 * st))))), (8, .int (zHeldC (lo i) (hi i) ((vl i) + (1 * st)))), (7, .int 1), (0, .ref oo), (1, .int st), (2, .long fq), (4, .int bq), (5, .int vq), (6, .int (nI i))]) hx hb dX5_stepped_69 hl (by decide) rfl (fun ls hl => ?_)
              refine lv_lload hx hb dX5_stepped_71 (lv_at hl 0 rfl) ?_
              refine lv_lload_n hx hb dX5_stepped_73 rfl (lv_at hl 5 rfl) ?_
              refine W.lcmp hx hb dX5_stepped_74 ?_
              refine lv_if_ge (tgt := 89) hx hb dX5_stepped_75 (by decide) (fun c_75 => ?_) (fun c_75 => ?_)
              · rw [lg_cmp_ge] at c_75
                exact jn_89_10 fq bq vq x4_18 y4_19 h4_20 (if_neg (Int64.not_lt.mpr c_75)) _ _ hP hD hS _ (lv_sub hl [3, 4, 5, 6, 7, 8, 2] rfl)
              · rw [lg_cmp_ge] at c_75
                refine lv_lload hx hb dX5_stepped_78 (lv_at hl 0 rfl) ?_
                refine lv_lstore_n (lv' := [(2, .long (zFw kd ln vl n gx gy (nI i) (zHeldC (lo i) (hi i) ((vl i) + (1 * st))))), (9, .long (zFw kd ln vl n gx gy (nI i) (zHeldC (lo i) (hi i) ((vl i) + (1 * st))))), (8, .int (zHeldC (lo i) (hi i) ((vl i) + (1 * st)))), (7, .int 1), (0, .ref oo), (1, .int st), (4, .int bq), (5, .int vq), (6, .int (nI i))]) hx hb dX5_stepped_80 rfl hl (by decide) rfl (fun ls hl => ?_)
                refine lv_iload hx hb dX5_stepped_81 (lv_at hl 8 rfl) ?_
                refine lv_istore (lv' := [(4, .int (nI i)), (2, .long (zFw kd ln vl n gx gy (nI i) (zHeldC (lo i) (hi i) ((vl i) + (1 * st))))), (9, .long (zFw kd ln vl n gx gy (nI i) (zHeldC (lo i) (hi i) ((vl i) + (1 * st))))), (8, .int (zHeldC (lo i) (hi i) ((vl i) + (1 * st)))), (7, .int 1), (0, .ref oo), (1, .int st), (5, .int vq), (6, .int (nI i))]) hx hb dX5_stepped_83 hl (by decide) rfl (fun ls hl => ?_)
                refine lv_iload hx hb dX5_stepped_85 (lv_at hl 3 rfl) ?_
                refine lv_istore (lv' := [(5, .int (zHeldC (lo i) (hi i) ((vl i) + (1 * st)))), (4, .int (nI i)), (2, .long (zFw kd ln vl n gx gy (nI i) (zHeldC (lo i) (hi i) ((vl i) + (1 * st))))), (9, .long (zFw kd ln vl n gx gy (nI i) (zHeldC (lo i) (hi i) ((vl i) + (1 * st))))), (8, .int (zHeldC (lo i) (hi i) ((vl i) + (1 * st)))), (7, .int 1), (0, .ref oo), (1, .int st), (6, .int (nI i))]) hx hb dX5_stepped_87 hl (by decide) rfl (fun ls hl => ?_)
                exact jn_89_10 (zFw kd ln vl n gx gy (nI i) (zHeldC (lo i) (hi i) ((vl i) + (1 * st)))) (nI i) (zHeldC (lo i) (hi i) ((vl i) + (1 * st))) x4_18 y4_19 h4_20 (if_pos (Int64.not_le.mp c_75)) _ _ hP hD hS _ (lv_sub hl [6, 7, 2, 1, 0, 8, 5] rfl)
          refine lv_aload_n hx hb dX5_stepped_35 rfl (lv_at hl 1 rfl) ?_
          refine va_get (D := D) (ci := 5) (v := .ref a) (C := RX5) (T := TX5) (N := 7) hx hb hts hin5 hown hK hP 0 rfl rfl 0 (by decide) hf10 (fun _ h9 => h9) rfl dX5_stepped_36 ?_
          refine lv_iload hx hb dX5_stepped_39 (lv_at hl 6 rfl) ?_
          refine lv_aload_n hx hb dX5_stepped_41 rfl (lv_at hl 1 rfl) ?_
          refine va_get (D := D) (ci := 5) (v := .ref a) (C := RX5) (T := TX5) (N := 7) hx hb hts hin5 hown hK hP 0 rfl rfl 0 (by decide) hf10 (fun _ h9 => h9) rfl dX5_stepped_42 ?_
          refine va_getN (D := D) (ci := 0) (v := .ref k5) (C := RX0) (T := TX0) (N := 6) hx hb hts hin0 hown hK hP 4 rfl rfl 4 (by decide) (va_Nw.use rfl hf83) (fun _ h9 => h9) rfl dX5_stepped_45 ?_
          refine lv_iload hx hb dX5_stepped_48 (lv_at hl 6 rfl) ?_
          refine z_iald hx hb hK hP 9 rfl (j := i) (by omega) (by decide) dX5_stepped_50 ?_
          refine lv_iload hx hb dX5_stepped_51 (lv_at hl 0 rfl) ?_
          refine lv_iload_n hx hb dX5_stepped_53 rfl (lv_at hl 2 rfl) ?_
          refine lv_imul hx hb dX5_stepped_54 ?_
          refine lv_iadd hx hb dX5_stepped_55 ?_
          refine z_callVN (As := [.int (nI i), .int ((vl i) + ((-1) * st))]) (rest := []) ⟨hx, hb, hml, hown, hts⟩ hG hK hP hD hS (c_X0_held l D cI cJ a k1 k2 k3 k4 k5 n kd ln lo hi vl i ((vl i) + ((-1) * st)) (by first | assumption | omega | decide)) (⟨va_cnB 2 hts gX5_stepped_X0_held_n190 rfl rfl rfl (hG.1.1 ("ArmRoom", 190, yX0_held, "ArmRoom") (List.mem_of_getElem? (i := 17) rfl)) (hts (.initialized RX0) (by decide +kernel)) (by decide +kernel) ⟨Nat.le_of_ble_eq_true rfl, Nat.le_of_ble_eq_true rfl⟩, hts (.instanceMethod yX0_held) (by decide +kernel), hts (.selects RX0 yX0_held yX0_held) (by decide +kernel)⟩) [4, 5, 6, 7, 8, 9] (by decide) rfl (fun _ => rfl) 4 rfl rfl rfl rfl hl.1 rfl (Nat.le_of_ble_eq_true rfl) dX5_stepped_56 ⟨Nat.le_refl _, Nat.le_refl _⟩ (fun u_22 H locs hu_23 hP hD hS => ?_)
          obtain ⟨r_24, rfl⟩ : ∃ z, z = u_22 := ⟨_, rfl⟩
          have hu_23 : (r_24 = zHeldC (lo i) (hi i) ((vl i) + ((-1) * st))) := hu_23
          have e_25 := hu_23
          subst e_25
          have hP : va_P D vwCl [(oo, .inr (5, [.ref a, .ref g, .ref t1, .ref t2, .ref s9, .ref m1, .ref m2])), (g, .inr (1, [.int gx, .int gy, .int sl])), (t1, .inr (4, [.int x3_4, .int y3_5, .int h3_6])), (t2, .inr (4, [.int xp, .int yp, .int hp])), (a, .inr (0, [.ref k1, .ref k2, .ref k3, .ref k4, .ref k5, .int (nI n)])), (k1, .inl (cI, 5, .inl kd)), (k2, .inl (cI, 5, .inl ln)), (k3, .inl (cI, 5, .inl lo)), (k4, .inl (cI, 5, .inl hi)), (k5, .inl (cI, 5, .inl vl))] H := hP
          have hD : va_D A0 [(oo, .inr (5, [.ref a, .ref g, .ref t1, .ref t2, .ref s9, .ref m1, .ref m2])), (g, .inr (1, [.int gx, .int gy, .int sl])), (t1, .inr (4, [.int x3_4, .int y3_5, .int h3_6])), (t2, .inr (4, [.int xp, .int yp, .int hp])), (a, .inr (0, [.ref k1, .ref k2, .ref k3, .ref k4, .ref k5, .int (nI n)])), (k1, .inl (cI, 5, .inl kd)), (k2, .inl (cI, 5, .inl ln)), (k3, .inl (cI, 5, .inl lo)), (k4, .inl (cI, 5, .inl hi)), (k5, .inl (cI, 5, .inl vl))] := hD
          refine lv_istore (lv' := [(8, .int (zHeldC (lo i) (hi i) ((vl i) + ((-1) * st)))), (7, .int (-1)), (0, .ref oo), (1, .int st), (2, .long f), (4, .int b), (5, .int v), (6, .int (nI i))]) hx hb dX5_stepped_59 hl (by decide) rfl (fun ls hl => ?_)
          refine lv_aload_n hx hb dX5_stepped_61 rfl (lv_at hl 2 rfl) ?_
          refine lv_iload hx hb dX5_stepped_62 (lv_at hl 7 rfl) ?_
          refine lv_iload hx hb dX5_stepped_64 (lv_at hl 0 rfl) ?_
          refine z_callV (As := [.int (nI i), .int (zHeldC (lo i) (hi i) ((vl i) + ((-1) * st)))]) (rest := []) ⟨hx, hb, hml, hown, hts⟩ hG hK hP hD hS (c_X5_farWith l D cI cJ oo s9 m1 m2 g gx gy sl t2 xp yp hp t1 a k1 k2 k3 k4 k5 n kd ln lo hi vl (nI i) (zHeldC (lo i) (hi i) ((vl i) + ((-1) * st))) (by first | assumption | omega | decide)) (cwV 2 hts gX5_stepped_X5_farWith rfl rfl rfl (by decide +kernel) ⟨Nat.le_of_ble_eq_true rfl, Nat.le_of_ble_eq_true rfl⟩) [0, 1, 3, 4, 5, 6, 7, 8, 9] (by decide) rfl (fun _ => rfl) 0 rfl rfl rfl rfl hl.1 rfl (Nat.le_of_ble_eq_true rfl) dX5_stepped_66 ⟨Nat.le_refl _, Nat.le_refl _⟩ (fun u_26 H locs hu_27 hP hD hS => ?_)
          obtain ⟨r_28, x4_29, y4_30, h4_31⟩ := u_26
          have hu_27 : (r_28 = zFw kd ln vl n gx gy (nI i) (zHeldC (lo i) (hi i) ((vl i) + ((-1) * st)))) := hu_27
          have e_32 := hu_27
          subst e_32
          have hP : va_P D vwCl [(oo, .inr (5, [.ref a, .ref g, .ref t1, .ref t2, .ref s9, .ref m1, .ref m2])), (g, .inr (1, [.int gx, .int gy, .int sl])), (t1, .inr (4, [.int x3_4, .int y3_5, .int h3_6])), (t2, .inr (4, [.int x4_29, .int y4_30, .int h4_31])), (a, .inr (0, [.ref k1, .ref k2, .ref k3, .ref k4, .ref k5, .int (nI n)])), (k1, .inl (cI, 5, .inl kd)), (k2, .inl (cI, 5, .inl ln)), (k3, .inl (cI, 5, .inl lo)), (k4, .inl (cI, 5, .inl hi)), (k5, .inl (cI, 5, .inl vl))] H := hP
          have hD : va_D A0 [(oo, .inr (5, [.ref a, .ref g, .ref t1, .ref t2, .ref s9, .ref m1, .ref m2])), (g, .inr (1, [.int gx, .int gy, .int sl])), (t1, .inr (4, [.int x3_4, .int y3_5, .int h3_6])), (t2, .inr (4, [.int x4_29, .int y4_30, .int h4_31])), (a, .inr (0, [.ref k1, .ref k2, .ref k3, .ref k4, .ref k5, .int (nI n)])), (k1, .inl (cI, 5, .inl kd)), (k2, .inl (cI, 5, .inl ln)), (k3, .inl (cI, 5, .inl lo)), (k4, .inl (cI, 5, .inl hi)), (k5, .inl (cI, 5, .inl vl))] := hD
          refine lv_lstore (lv' := [(9, .long (zFw kd ln vl n gx gy (nI i) (zHeldC (lo i) (hi i) ((vl i) + ((-1) * st))))), (8, .int (zHeldC (lo i) (hi i) ((vl i) + ((-1) * st)))), (7, .int (-1)), (0, .ref oo), (1, .int st), (2, .long f), (4, .int b), (5, .int v), (6, .int (nI i))]) hx hb dX5_stepped_69 hl (by decide) rfl (fun ls hl => ?_)
          refine lv_lload hx hb dX5_stepped_71 (lv_at hl 0 rfl) ?_
          refine lv_lload_n hx hb dX5_stepped_73 rfl (lv_at hl 5 rfl) ?_
          refine W.lcmp hx hb dX5_stepped_74 ?_
          refine lv_if_ge (tgt := 89) hx hb dX5_stepped_75 (by decide) (fun c_75 => ?_) (fun c_75 => ?_)
          · rw [lg_cmp_ge] at c_75
            exact jn_89_9 f b v x4_29 y4_30 h4_31 (if_neg (Int64.not_lt.mpr c_75)) _ _ hP hD hS _ (lv_sub hl [3, 4, 5, 6, 7, 8, 2] rfl)
          · rw [lg_cmp_ge] at c_75
            refine lv_lload hx hb dX5_stepped_78 (lv_at hl 0 rfl) ?_
            refine lv_lstore_n (lv' := [(2, .long (zFw kd ln vl n gx gy (nI i) (zHeldC (lo i) (hi i) ((vl i) + ((-1) * st))))), (9, .long (zFw kd ln vl n gx gy (nI i) (zHeldC (lo i) (hi i) ((vl i) + ((-1) * st))))), (8, .int (zHeldC (lo i) (hi i) ((vl i) + ((-1) * st)))), (7, .int (-1)), (0, .ref oo), (1, .int st), (4, .int b), (5, .int v), (6, .int (nI i))]) hx hb dX5_stepped_80 rfl hl (by decide) rfl (fun ls hl => ?_)
            refine lv_iload hx hb dX5_stepped_81 (lv_at hl 8 rfl) ?_
            refine lv_istore (lv' := [(4, .int (nI i)), (2, .long (zFw kd ln vl n gx gy (nI i) (zHeldC (lo i) (hi i) ((vl i) + ((-1) * st))))), (9, .long (zFw kd ln vl n gx gy (nI i) (zHeldC (lo i) (hi i) ((vl i) + ((-1) * st))))), (8, .int (zHeldC (lo i) (hi i) ((vl i) + ((-1) * st)))), (7, .int (-1)), (0, .ref oo), (1, .int st), (5, .int v), (6, .int (nI i))]) hx hb dX5_stepped_83 hl (by decide) rfl (fun ls hl => ?_)
            refine lv_iload hx hb dX5_stepped_85 (lv_at hl 3 rfl) ?_
            refine lv_istore (lv' := [(5, .int (zHeldC (lo i) (hi i) ((vl i) + ((-1) * st)))), (4, .int (nI i)), (2, .long (zFw kd ln vl n gx gy (nI i) (zHeldC (lo i) (hi i) ((vl i) + ((-1) * st))))), (9, .long (zFw kd ln vl n gx gy (nI i) (zHeldC (lo i) (hi i) ((vl i) + ((-1) * st))))), (8, .int (zHeldC (lo i) (hi i) ((vl i) + ((-1) * st)))), (7, .int (-1)), (0, .ref oo), (1, .int st), (6, .int (nI i))]) hx hb dX5_stepped_87 hl (by decide) rfl (fun ls hl => ?_)
            exact jn_89_9 (zFw kd ln vl n gx gy (nI i) (zHeldC (lo i) (hi i) ((vl i) + ((-1) * st)))) (nI i) (zHeldC (lo i) (hi i) ((vl i) + ((-1) * st))) x4_29 y4_30 h4_31 (if_pos (Int64.not_le.mp c_75)) _ _ hP hD hS _ (lv_sub hl [6, 7, 2, 1, 0, 8, 5] rfl)
  exact lp_14_8 ((n - 0) + 1) 0 (zFn kd ln vl n gx gy) (-1) 0 x2 y2 h2 (by first | assumption | omega | rfl | simp_all) (rfl) (Nat.lt_succ_self _) _ _ hP hD hS _ (lv_sub hl [4, 5, 3, 2, 1, 0] rfl)

set_option maxHeartbeats 4000000 in
set_option maxRecDepth 100000 in
theorem c_X5_hindrance (l : Launch) (D : va_G) (cI cJ : ClassId) (oo : Nat) (s9 : Nat) (m1 : Nat) (m2 : Nat) (g : Nat) (gx : Int32) (gy : Int32) (sl : Int32) (t1 : Nat) (x1 : Int32) (y1 : Int32) (h1 : Int32) (t2 : Nat) (x2 : Int32) (y2 : Int32) (h2 : Int32) (a : Nat) (k1 : Nat) (k2 : Nat) (k3 : Nat) (k4 : Nat) (k5 : Nat) (n : Nat) (kd : Nat → Int32) (ln : Nat → Int32) (lo : Nat → Int32) (hi : Nat → Int32) (vl : Nat → Int32) (hn : n ≤ 5) : zM l yX5_hindrance wsX5_hindrance 6 D cI cJ [.ref oo] [(oo, .inr (5, [.ref a, .ref g, .ref t1, .ref t2, .ref s9, .ref m1, .ref m2])), (g, .inr (1, [.int gx, .int gy, .int sl])), (t1, .inr (4, [.int x1, .int y1, .int h1])), (t2, .inr (4, [.int x2, .int y2, .int h2])), (a, .inr (0, [.ref k1, .ref k2, .ref k3, .ref k4, .ref k5, .int (nI n)])), (k1, .inl (cI, 5, .inl kd)), (k2, .inl (cI, 5, .inl ln)), (k3, .inl (cI, 5, .inl lo)), (k4, .inl (cI, 5, .inl hi)), (k5, .inl (cI, 5, .inl vl))] (fun (u : Int32 × Int32 × Int32 × Int32 × Int32 × Int32 × Int32) => (u.1 = zHin kd ln lo hi vl n gx gy n 0)) (fun (u : Int32 × Int32 × Int32 × Int32 × Int32 × Int32 × Int32) => some (.int u.1)) (fun (u : Int32 × Int32 × Int32 × Int32 × Int32 × Int32 × Int32) => [(oo, .inr (5, [.ref a, .ref g, .ref t1, .ref t2, .ref s9, .ref m1, .ref m2])), (g, .inr (1, [.int gx, .int gy, .int sl])), (t1, .inr (4, [.int u.2.1, .int u.2.2.1, .int u.2.2.2.1])), (t2, .inr (4, [.int u.2.2.2.2.1, .int u.2.2.2.2.2.1, .int u.2.2.2.2.2.2])), (a, .inr (0, [.ref k1, .ref k2, .ref k3, .ref k4, .ref k5, .int (nI n)])), (k1, .inl (cI, 5, .inl kd)), (k2, .inl (cI, 5, .inl ln)), (k3, .inl (cI, 5, .inl lo)), (k4, .inl (cI, 5, .inl hi)), (k5, .inl (cI, 5, .inl vl))]) := by
  refine zM_i (cc := cX5_hindrance) (maxL := 5) (r := fun (u : Int32 × Int32 × Int32 × Int32 × Int32 × Int32 × Int32) => u.1) (by decide) rfl (Nat.le_of_ble_eq_true rfl) ?_
  intro p e s m args below meth c ls A0 Q C hl hP hS hRet
  obtain ⟨⟨hx, hb, hml, hown, hts⟩, hG, hK, hD, hlocks⟩ := C
  have hin0 : ∀ w ∈ u_ws RX0 TX0 6, w ∈ wsX5_hindrance := by decide +kernel
  have hin5 : ∀ w ∈ u_ws RX5 TX5 7, w ∈ wsX5_hindrance := by decide +kernel
  have hf10 := hts (.fieldLink RX5 10 "ArmRoom" "arm" "LArmRoom$Arm;") (by decide +kernel)
  have hf108 := hG.1.2.1 ("ArmRoom", 108, "ArmRoom$Arm", "count", "I", "ArmRoom") (List.mem_of_getElem? (i := 9) rfl)
  have hf83 := hG.1.2.1 ("ArmRoom", 83, "ArmRoom$Arm", "values", "[I", "ArmRoom") (List.mem_of_getElem? (i := 4) rfl)
  have hf78 := hG.1.2.1 ("ArmRoom", 78, "ArmRoom$Arm", "highs", "[I", "ArmRoom") (List.mem_of_getElem? (i := 2) rfl)
  have hf75 := hG.1.2.1 ("ArmRoom", 75, "ArmRoom$Arm", "lows", "[I", "ArmRoom") (List.mem_of_getElem? (i := 0) rfl)
  have hl : lv_has ls 5 [(0, .ref oo)] := hl
  refine lv_aload_n hx hb dX5_hindrance_0 rfl (lv_at hl 0 rfl) ?_
  refine z_callV (As := []) (rest := []) ⟨hx, hb, hml, hown, hts⟩ hG hK hP hD hS (c_X5_farNow l D cI cJ oo s9 m1 m2 g gx gy sl t1 x1 y1 h1 t2 a k1 k2 k3 k4 k5 n kd ln lo hi vl (by first | assumption | omega | decide)) (cwV 0 hts gX5_hindrance_X5_farNow rfl rfl rfl (by decide +kernel) ⟨Nat.le_of_ble_eq_true rfl, Nat.le_of_ble_eq_true rfl⟩) [0, 1, 2, 4, 5, 6, 7, 8, 9] (by decide) rfl (fun _ => rfl) 0 rfl rfl rfl rfl hl.1 rfl (Nat.le_of_ble_eq_true rfl) dX5_hindrance_1 ⟨Nat.le_refl _, Nat.le_refl _⟩ (fun u_1 H locs hu_2 hP hD hS => ?_)
  obtain ⟨r_3, x3_4, y3_5, h3_6⟩ := u_1
  have hu_2 : (r_3 = zFn kd ln vl n gx gy) := hu_2
  have e_7 := hu_2
  subst e_7
  have hP : va_P D vwCl [(oo, .inr (5, [.ref a, .ref g, .ref t1, .ref t2, .ref s9, .ref m1, .ref m2])), (g, .inr (1, [.int gx, .int gy, .int sl])), (t1, .inr (4, [.int x3_4, .int y3_5, .int h3_6])), (t2, .inr (4, [.int x2, .int y2, .int h2])), (a, .inr (0, [.ref k1, .ref k2, .ref k3, .ref k4, .ref k5, .int (nI n)])), (k1, .inl (cI, 5, .inl kd)), (k2, .inl (cI, 5, .inl ln)), (k3, .inl (cI, 5, .inl lo)), (k4, .inl (cI, 5, .inl hi)), (k5, .inl (cI, 5, .inl vl))] H := hP
  have hD : va_D A0 [(oo, .inr (5, [.ref a, .ref g, .ref t1, .ref t2, .ref s9, .ref m1, .ref m2])), (g, .inr (1, [.int gx, .int gy, .int sl])), (t1, .inr (4, [.int x3_4, .int y3_5, .int h3_6])), (t2, .inr (4, [.int x2, .int y2, .int h2])), (a, .inr (0, [.ref k1, .ref k2, .ref k3, .ref k4, .ref k5, .int (nI n)])), (k1, .inl (cI, 5, .inl kd)), (k2, .inl (cI, 5, .inl ln)), (k3, .inl (cI, 5, .inl lo)), (k4, .inl (cI, 5, .inl hi)), (k5, .inl (cI, 5, .inl vl))] := hD
  refine lv_lstore_n (lv' := [(1, .long (zFn kd ln vl n gx gy)), (0, .ref oo)]) hx hb dX5_hindrance_4 rfl hl (by decide) rfl (fun ls hl => ?_)
  refine lv_iconst (v := 0) hx hb dX5_hindrance_5 (by decide) ?_
  refine lv_istore_n (lv' := [(3, .int 0), (1, .long (zFn kd ln vl n gx gy)), (0, .ref oo)]) hx hb dX5_hindrance_6 rfl hl (by decide) rfl (fun ls hl => ?_)
  have lp_7_8 : ∀ (fu : Nat) (i : Nat) (xp : Int32) (yp : Int32) (hp : Int32), (i ≤ n) → (zHin kd ln lo hi vl n gx gy (n - i) i = zHin kd ln lo hi vl n gx gy n 0) → (n - i < fu) → ∀ (H : Heap) (locs : List Loc), va_P D vwCl [(oo, .inr (5, [.ref a, .ref g, .ref t1, .ref t2, .ref s9, .ref m1, .ref m2])), (g, .inr (1, [.int gx, .int gy, .int sl])), (t1, .inr (4, [.int x3_4, .int y3_5, .int h3_6])), (t2, .inr (4, [.int xp, .int yp, .int hp])), (a, .inr (0, [.ref k1, .ref k2, .ref k3, .ref k4, .ref k5, .int (nI n)])), (k1, .inl (cI, 5, .inl kd)), (k2, .inl (cI, 5, .inl ln)), (k3, .inl (cI, 5, .inl lo)), (k4, .inl (cI, 5, .inl hi)), (k5, .inl (cI, 5, .inl vl))] H → va_D A0 [(oo, .inr (5, [.ref a, .ref g, .ref t1, .ref t2, .ref s9, .ref m1, .ref m2])), (g, .inr (1, [.int gx, .int gy, .int sl])), (t1, .inr (4, [.int x3_4, .int y3_5, .int h3_6])), (t2, .inr (4, [.int xp, .int yp, .int hp])), (a, .inr (0, [.ref k1, .ref k2, .ref k3, .ref k4, .ref k5, .int (nI n)])), (k1, .inl (cI, 5, .inl kd)), (k2, .inl (cI, 5, .inl ln)), (k3, .inl (cI, 5, .inl lo)), (k4, .inl (cI, 5, .inl hi)), (k5, .inl (cI, 5, .inl vl))] → va_S A0 s.heap H locs → ∀ (ls : Array Slot), lv_has ls 5 [(0, .ref oo), (1, .long (zFn kd ln vl n gx gy)), (3, .int (nI i))] → W p l e (zRm 6 0 0) s m args below meth c H locs 0 0 Q (F0 m 7 ls []) := by
    intro fu
    induction fu with
    | zero => intro i xp yp hp hi1 hz hfu; exact absurd hfu (Nat.not_lt_zero _)
    | succ fu ih_7_8 =>
      intro i xp yp hp hi1 hz hfu H locs hP hD hS ls hl
      refine lv_iload_n hx hb dX5_hindrance_7 rfl (lv_at hl 2 rfl) ?_
      refine lv_aload_n hx hb dX5_hindrance_8 rfl (lv_at hl 0 rfl) ?_
      refine va_get (D := D) (ci := 5) (v := .ref a) (C := RX5) (T := TX5) (N := 7) hx hb hts hin5 hown hK hP 0 rfl rfl 0 (by decide) hf10 (fun _ h9 => h9) rfl dX5_hindrance_9 ?_
      refine va_getN (D := D) (ci := 0) (v := .int (nI n)) (C := RX0) (T := TX0) (N := 6) hx hb hts hin0 hown hK hP 4 rfl rfl 5 (by decide) (va_Nw.use rfl hf108) (fun _ h9 => h9) rfl dX5_hindrance_12 ?_
      refine lv_icmp_ge (tgt := 95) hx hb dX5_hindrance_15 (by decide) (fun c_15 => ?_) (fun c_15 => ?_)
      · rw [nI_leI (by omega) (by omega)] at c_15
        obtain rfl : n = i := by omega
        rw [Nat.sub_self] at hz
        refine lv_iconst (v := (-1)) hx hb dX5_hindrance_95 (by decide) ?_
        exact hRet _ ((-1), x3_4, y3_5, h3_6, xp, yp, hp) _ _ _ (by rw [← hz]; rfl) hP hS dX5_hindrance_96
      · rw [nI_leI (by omega) (by omega)] at c_15
        refine lv_aload_n hx hb dX5_hindrance_18 rfl (lv_at hl 0 rfl) ?_
        refine va_get (D := D) (ci := 5) (v := .ref a) (C := RX5) (T := TX5) (N := 7) hx hb hts hin5 hown hK hP 0 rfl rfl 0 (by decide) hf10 (fun _ h9 => h9) rfl dX5_hindrance_19 ?_
        refine va_getN (D := D) (ci := 0) (v := .ref k5) (C := RX0) (T := TX0) (N := 6) hx hb hts hin0 hown hK hP 4 rfl rfl 4 (by decide) (va_Nw.use rfl hf83) (fun _ h9 => h9) rfl dX5_hindrance_22 ?_
        refine lv_iload_n hx hb dX5_hindrance_25 rfl (lv_at hl 2 rfl) ?_
        refine z_iald hx hb hK hP 9 rfl (j := i) (by omega) (by decide) dX5_hindrance_26 ?_
        refine lv_istore (lv' := [(4, .int (vl i)), (0, .ref oo), (1, .long (zFn kd ln vl n gx gy)), (3, .int (nI i))]) hx hb dX5_hindrance_27 hl (by decide) rfl (fun ls hl => ?_)
        refine lv_iload hx hb dX5_hindrance_29 (lv_at hl 0 rfl) ?_
        refine lv_aload_n hx hb dX5_hindrance_31 rfl (lv_at hl 1 rfl) ?_
        refine va_get (D := D) (ci := 5) (v := .ref a) (C := RX5) (T := TX5) (N := 7) hx hb hts hin5 hown hK hP 0 rfl rfl 0 (by decide) hf10 (fun _ h9 => h9) rfl dX5_hindrance_32 ?_
        refine va_getN (D := D) (ci := 0) (v := .ref k4) (C := RX0) (T := TX0) (N := 6) hx hb hts hin0 hown hK hP 4 rfl rfl 3 (by decide) (va_Nw.use rfl hf78) (fun _ h9 => h9) rfl dX5_hindrance_35 ?_
        refine lv_iload_n hx hb dX5_hindrance_38 rfl (lv_at hl 3 rfl) ?_
        refine z_iald hx hb hK hP 8 rfl (j := i) (by omega) (by decide) dX5_hindrance_39 ?_
        refine lv_icmp_ne (tgt := 59) hx hb dX5_hindrance_40 (by decide) (fun c_40 => ?_) (fun c_40 => ?_)
        · refine lv_iload hx hb dX5_hindrance_59 (lv_at hl 0 rfl) ?_
          refine lv_aload_n hx hb dX5_hindrance_61 rfl (lv_at hl 1 rfl) ?_
          refine va_get (D := D) (ci := 5) (v := .ref a) (C := RX5) (T := TX5) (N := 7) hx hb hts hin5 hown hK hP 0 rfl rfl 0 (by decide) hf10 (fun _ h9 => h9) rfl dX5_hindrance_62 ?_
          refine va_getN (D := D) (ci := 0) (v := .ref k3) (C := RX0) (T := TX0) (N := 6) hx hb hts hin0 hown hK hP 4 rfl rfl 2 (by decide) (va_Nw.use rfl hf75) (fun _ h9 => h9) rfl dX5_hindrance_65 ?_
          refine lv_iload_n hx hb dX5_hindrance_68 rfl (lv_at hl 3 rfl) ?_
          refine z_iald hx hb hK hP 7 rfl (j := i) (by omega) (by decide) dX5_hindrance_69 ?_
          refine lv_icmp_ne (tgt := 89) hx hb dX5_hindrance_70 (by decide) (fun c_70 => ?_) (fun c_70 => ?_)
          · refine lv_iinc (v := nI (i + 1)) (lv' := [(3, .int (nI (i + 1))), (4, .int (vl i)), (0, .ref oo), (1, .long (zFn kd ln vl n gx gy))]) hx hb dX5_hindrance_89 hl (k := 3) rfl ((nI_succ _).symm) (by decide) rfl (fun ls hl => ?_)
            refine lv_goto (tgt := 7) hx hb dX5_hindrance_92 (by decide) ?_
            exact ih_7_8 (i + 1) xp yp hp (by first | assumption | omega | rfl | simp_all) (by rw [← hz]; exact (zHin_f (by omega) (by rintro (⟨q1, q2⟩ | ⟨q1, q2⟩) <;> first | exact c_40 q1 | exact absurd q2 (Int64.not_lt.mpr c_54) | exact c_70 q1 | exact absurd q2 (Int64.not_lt.mpr c_84))).symm) (by omega) _ _ hP hD hS _ (lv_sub hl [2, 3, 0] rfl)
          · refine lv_aload_n hx hb dX5_hindrance_73 rfl (lv_at hl 1 rfl) ?_
            refine lv_iload_n hx hb dX5_hindrance_74 rfl (lv_at hl 3 rfl) ?_
            refine lv_iload hx hb dX5_hindrance_75 (lv_at hl 0 rfl) ?_
            refine lv_iconst (v := 1) hx hb dX5_hindrance_77 (by decide) ?_
            refine lv_isub hx hb dX5_hindrance_78 ?_
            refine z_callV (As := [.int (nI i), .int ((vl i) - 1)]) (rest := []) ⟨hx, hb, hml, hown, hts⟩ hG hK hP hD hS (c_X5_farWith l D cI cJ oo s9 m1 m2 g gx gy sl t2 xp yp hp t1 a k1 k2 k3 k4 k5 n kd ln lo hi vl (nI i) ((vl i) - 1) (by first | assumption | omega | decide)) (cwV 2 hts gX5_hindrance_X5_farWith rfl rfl rfl (by decide +kernel) ⟨Nat.le_of_ble_eq_true rfl, Nat.le_of_ble_eq_true rfl⟩) [0, 1, 3, 4, 5, 6, 7, 8, 9] (by decide) rfl (fun _ => rfl) 0 rfl rfl rfl rfl hl.1 rfl (Nat.le_of_ble_eq_true rfl) dX5_hindrance_79 ⟨Nat.le_refl _, Nat.le_refl _⟩ (fun u_9 H locs hu_10 hP hD hS => ?_)
            obtain ⟨r_11, x4_12, y4_13, h4_14⟩ := u_9
            have hu_10 : (r_11 = zFw kd ln vl n gx gy (nI i) ((vl i) - 1)) := hu_10
            have e_15 := hu_10
            subst e_15
            have hP : va_P D vwCl [(oo, .inr (5, [.ref a, .ref g, .ref t1, .ref t2, .ref s9, .ref m1, .ref m2])), (g, .inr (1, [.int gx, .int gy, .int sl])), (t1, .inr (4, [.int x3_4, .int y3_5, .int h3_6])), (t2, .inr (4, [.int x4_12, .int y4_13, .int h4_14])), (a, .inr (0, [.ref k1, .ref k2, .ref k3, .ref k4, .ref k5, .int (nI n)])), (k1, .inl (cI, 5, .inl kd)), (k2, .inl (cI, 5, .inl ln)), (k3, .inl (cI, 5, .inl lo)), (k4, .inl (cI, 5, .inl hi)), (k5, .inl (cI, 5, .inl vl))] H := hP
            have hD : va_D A0 [(oo, .inr (5, [.ref a, .ref g, .ref t1, .ref t2, .ref s9, .ref m1, .ref m2])), (g, .inr (1, [.int gx, .int gy, .int sl])), (t1, .inr (4, [.int x3_4, .int y3_5, .int h3_6])), (t2, .inr (4, [.int x4_12, .int y4_13, .int h4_14])), (a, .inr (0, [.ref k1, .ref k2, .ref k3, .ref k4, .ref k5, .int (nI n)])), (k1, .inl (cI, 5, .inl kd)), (k2, .inl (cI, 5, .inl ln)), (k3, .inl (cI, 5, .inl lo)), (k4, .inl (cI, 5, .inl hi)), (k5, .inl (cI, 5, .inl vl))] := hD
            refine lv_lload_n hx hb dX5_hindrance_82 rfl (lv_at hl 2 rfl) ?_
            refine W.lcmp hx hb dX5_hindrance_83 ?_
            refine lv_if_ge (tgt := 89) hx hb dX5_hindrance_84 (by decide) (fun c_84 => ?_) (fun c_84 => ?_)
            · rw [lg_cmp_ge] at c_84
              refine lv_iinc (v := nI (i + 1)) (lv' := [(3, .int (nI (i + 1))), (4, .int (vl i)), (0, .ref oo), (1, .long (zFn kd ln vl n gx gy))]) hx hb dX5_hindrance_89 hl (k := 3) rfl ((nI_succ _).symm) (by decide) rfl (fun ls hl => ?_)
              refine lv_goto (tgt := 7) hx hb dX5_hindrance_92 (by decide) ?_
              exact ih_7_8 (i + 1) x4_12 y4_13 h4_14 (by first | assumption | omega | rfl | simp_all) (by rw [← hz]; exact (zHin_f (by omega) (by rintro (⟨q1, q2⟩ | ⟨q1, q2⟩) <;> first | exact c_40 q1 | exact absurd q2 (Int64.not_lt.mpr c_54) | exact c_70 q1 | exact absurd q2 (Int64.not_lt.mpr c_84))).symm) (by omega) _ _ hP hD hS _ (lv_sub hl [2, 3, 0] rfl)
            · rw [lg_cmp_ge] at c_84
              refine lv_iload_n hx hb dX5_hindrance_87 rfl (lv_at hl 3 rfl) ?_
              exact hRet _ (nI i, x3_4, y3_5, h3_6, x4_12, y4_13, h4_14) _ _ _ (by rw [← hz]; exact (zHin_t (by omega) (Or.inr ⟨c_70, Int64.not_le.mp c_84⟩)).symm) hP hS dX5_hindrance_88
        · refine lv_aload_n hx hb dX5_hindrance_43 rfl (lv_at hl 1 rfl) ?_
          refine lv_iload_n hx hb dX5_hindrance_44 rfl (lv_at hl 3 rfl) ?_
          refine lv_iload hx hb dX5_hindrance_45 (lv_at hl 0 rfl) ?_
          refine lv_iconst (v := 1) hx hb dX5_hindrance_47 (by decide) ?_
          refine lv_iadd hx hb dX5_hindrance_48 ?_
          refine z_callV (As := [.int (nI i), .int ((vl i) + 1)]) (rest := []) ⟨hx, hb, hml, hown, hts⟩ hG hK hP hD hS (c_X5_farWith l D cI cJ oo s9 m1 m2 g gx gy sl t2 xp yp hp t1 a k1 k2 k3 k4 k5 n kd ln lo hi vl (nI i) ((vl i) + 1) (by first | assumption | omega | decide)) (cwV 2 hts gX5_hindrance_X5_farWith rfl rfl rfl (by decide +kernel) ⟨Nat.le_of_ble_eq_true rfl, Nat.le_of_ble_eq_true rfl⟩) [0, 1, 3, 4, 5, 6, 7, 8, 9] (by decide) rfl (fun _ => rfl) 0 rfl rfl rfl rfl hl.1 rfl (Nat.le_of_ble_eq_true rfl) dX5_hindrance_49 ⟨Nat.le_refl _, Nat.le_refl _⟩ (fun u_16 H locs hu_17 hP hD hS => ?_)
          obtain ⟨r_18, x4_19, y4_20, h4_21⟩ := u_16
          have hu_17 : (r_18 = zFw kd ln vl n gx gy (nI i) ((vl i) + 1)) := hu_17
          have e_22 := hu_17
          subst e_22
          have hP : va_P D vwCl [(oo, .inr (5, [.ref a, .ref g, .ref t1, .ref t2, .ref s9, .ref m1, .ref m2])), (g, .inr (1, [.int gx, .int gy, .int sl])), (t1, .inr (4, [.int x3_4, .int y3_5, .int h3_6])), (t2, .inr (4, [.int x4_19, .int y4_20, .int h4_21])), (a, .inr (0, [.ref k1, .ref k2, .ref k3, .ref k4, .ref k5, .int (nI n)])), (k1, .inl (cI, 5, .inl kd)), (k2, .inl (cI, 5, .inl ln)), (k3, .inl (cI, 5, .inl lo)), (k4, .inl (cI, 5, .inl hi)), (k5, .inl (cI, 5, .inl vl))] H := hP
          have hD : va_D A0 [(oo, .inr (5, [.ref a, .ref g, .ref t1, .ref t2, .ref s9, .ref m1, .ref m2])), (g, .inr (1, [.int gx, .int gy, .int sl])), (t1, .inr (4, [.int x3_4, .int y3_5, .int h3_6])), (t2, .inr (4, [.int x4_19, .int y4_20, .int h4_21])), (a, .inr (0, [.ref k1, .ref k2, .ref k3, .ref k4, .ref k5, .int (nI n)])), (k1, .inl (cI, 5, .inl kd)), (k2, .inl (cI, 5, .inl ln)), (k3, .inl (cI, 5, .inl lo)), (k4, .inl (cI, 5, .inl hi)), (k5, .inl (cI, 5, .inl vl))] := hD
          refine lv_lload_n hx hb dX5_hindrance_52 rfl (lv_at hl 2 rfl) ?_
          refine W.lcmp hx hb dX5_hindrance_53 ?_
          refine lv_if_ge (tgt := 59) hx hb dX5_hindrance_54 (by decide) (fun c_54 => ?_) (fun c_54 => ?_)
          · rw [lg_cmp_ge] at c_54
            refine lv_iload hx hb dX5_hindrance_59 (lv_at hl 0 rfl) ?_
            refine lv_aload_n hx hb dX5_hindrance_61 rfl (lv_at hl 1 rfl) ?_
            refine va_get (D := D) (ci := 5) (v := .ref a) (C := RX5) (T := TX5) (N := 7) hx hb hts hin5 hown hK hP 0 rfl rfl 0 (by decide) hf10 (fun _ h9 => h9) rfl dX5_hindrance_62 ?_
            refine va_getN (D := D) (ci := 0) (v := .ref k3) (C := RX0) (T := TX0) (N := 6) hx hb hts hin0 hown hK hP 4 rfl rfl 2 (by decide) (va_Nw.use rfl hf75) (fun _ h9 => h9) rfl dX5_hindrance_65 ?_
            refine lv_iload_n hx hb dX5_hindrance_68 rfl (lv_at hl 3 rfl) ?_
            refine z_iald hx hb hK hP 7 rfl (j := i) (by omega) (by decide) dX5_hindrance_69 ?_
            refine lv_icmp_ne (tgt := 89) hx hb dX5_hindrance_70 (by decide) (fun c_70 => ?_) (fun c_70 => ?_)
            · refine lv_iinc (v := nI (i + 1)) (lv' := [(3, .int (nI (i + 1))), (4, .int (vl i)), (0, .ref oo), (1, .long (zFn kd ln vl n gx gy))]) hx hb dX5_hindrance_89 hl (k := 3) rfl ((nI_succ _).symm) (by decide) rfl (fun ls hl => ?_)
              refine lv_goto (tgt := 7) hx hb dX5_hindrance_92 (by decide) ?_
              exact ih_7_8 (i + 1) x4_19 y4_20 h4_21 (by first | assumption | omega | rfl | simp_all) (by rw [← hz]; exact (zHin_f (by omega) (by rintro (⟨q1, q2⟩ | ⟨q1, q2⟩) <;> first | exact c_40 q1 | exact absurd q2 (Int64.not_lt.mpr c_54) | exact c_70 q1 | exact absurd q2 (Int64.not_lt.mpr c_84))).symm) (by omega) _ _ hP hD hS _ (lv_sub hl [2, 3, 0] rfl)
            · refine lv_aload_n hx hb dX5_hindrance_73 rfl (lv_at hl 1 rfl) ?_
              refine lv_iload_n hx hb dX5_hindrance_74 rfl (lv_at hl 3 rfl) ?_
              refine lv_iload hx hb dX5_hindrance_75 (lv_at hl 0 rfl) ?_
              refine lv_iconst (v := 1) hx hb dX5_hindrance_77 (by decide) ?_
              refine lv_isub hx hb dX5_hindrance_78 ?_
              refine z_callV (As := [.int (nI i), .int ((vl i) - 1)]) (rest := []) ⟨hx, hb, hml, hown, hts⟩ hG hK hP hD hS (c_X5_farWith l D cI cJ oo s9 m1 m2 g gx gy sl t2 x4_19 y4_20 h4_21 t1 a k1 k2 k3 k4 k5 n kd ln lo hi vl (nI i) ((vl i) - 1) (by first | assumption | omega | decide)) (cwV 2 hts gX5_hindrance_X5_farWith rfl rfl rfl (by decide +kernel) ⟨Nat.le_of_ble_eq_true rfl, Nat.le_of_ble_eq_true rfl⟩) [0, 1, 3, 4, 5, 6, 7, 8, 9] (by decide) rfl (fun _ => rfl) 0 rfl rfl rfl rfl hl.1 rfl (Nat.le_of_ble_eq_true rfl) dX5_hindrance_79 ⟨Nat.le_refl _, Nat.le_refl _⟩ (fun u_23 H locs hu_24 hP hD hS => ?_)
              obtain ⟨r_25, x4_26, y4_27, h4_28⟩ := u_23
              have hu_24 : (r_25 = zFw kd ln vl n gx gy (nI i) ((vl i) - 1)) := hu_24
              have e_29 := hu_24
              subst e_29
              have hP : va_P D vwCl [(oo, .inr (5, [.ref a, .ref g, .ref t1, .ref t2, .ref s9, .ref m1, .ref m2])), (g, .inr (1, [.int gx, .int gy, .int sl])), (t1, .inr (4, [.int x3_4, .int y3_5, .int h3_6])), (t2, .inr (4, [.int x4_26, .int y4_27, .int h4_28])), (a, .inr (0, [.ref k1, .ref k2, .ref k3, .ref k4, .ref k5, .int (nI n)])), (k1, .inl (cI, 5, .inl kd)), (k2, .inl (cI, 5, .inl ln)), (k3, .inl (cI, 5, .inl lo)), (k4, .inl (cI, 5, .inl hi)), (k5, .inl (cI, 5, .inl vl))] H := hP
              have hD : va_D A0 [(oo, .inr (5, [.ref a, .ref g, .ref t1, .ref t2, .ref s9, .ref m1, .ref m2])), (g, .inr (1, [.int gx, .int gy, .int sl])), (t1, .inr (4, [.int x3_4, .int y3_5, .int h3_6])), (t2, .inr (4, [.int x4_26, .int y4_27, .int h4_28])), (a, .inr (0, [.ref k1, .ref k2, .ref k3, .ref k4, .ref k5, .int (nI n)])), (k1, .inl (cI, 5, .inl kd)), (k2, .inl (cI, 5, .inl ln)), (k3, .inl (cI, 5, .inl lo)), (k4, .inl (cI, 5, .inl hi)), (k5, .inl (cI, 5, .inl vl))] := hD
              refine lv_lload_n hx hb dX5_hindrance_82 rfl (lv_at hl 2 rfl) ?_
              refine W.lcmp hx hb dX5_hindrance_83 ?_
              refine lv_if_ge (tgt := 89) hx hb dX5_hindrance_84 (by decide) (fun c_84 => ?_) (fun c_84 => ?_)
              · rw [lg_cmp_ge] at c_84
                refine lv_iinc (v := nI (i + 1)) (lv' := [(3, .int (nI (i + 1))), (4, .int (vl i)), (0, .ref oo), (1, .long (zFn kd ln vl n gx gy))]) hx hb dX5_hindrance_89 hl (k := 3) rfl ((nI_succ _).symm) (by decide) rfl (fun ls hl => ?_)
                refine lv_goto (tgt := 7) hx hb dX5_hindrance_92 (by decide) ?_
                exact ih_7_8 (i + 1) x4_26 y4_27 h4_28 (by first | assumption | omega | rfl | simp_all) (by rw [← hz]; exact (zHin_f (by omega) (by rintro (⟨q1, q2⟩ | ⟨q1, q2⟩) <;> first | exact c_40 q1 | exact absurd q2 (Int64.not_lt.mpr c_54) | exact c_70 q1 | exact absurd q2 (Int64.not_lt.mpr c_84))).symm) (by omega) _ _ hP hD hS _ (lv_sub hl [2, 3, 0] rfl)
              · rw [lg_cmp_ge] at c_84
                refine lv_iload_n hx hb dX5_hindrance_87 rfl (lv_at hl 3 rfl) ?_
                exact hRet _ (nI i, x3_4, y3_5, h3_6, x4_26, y4_27, h4_28) _ _ _ (by rw [← hz]; exact (zHin_t (by omega) (Or.inr ⟨c_70, Int64.not_le.mp c_84⟩)).symm) hP hS dX5_hindrance_88
          · rw [lg_cmp_ge] at c_54
            refine lv_iload_n hx hb dX5_hindrance_57 rfl (lv_at hl 3 rfl) ?_
            exact hRet _ (nI i, x3_4, y3_5, h3_6, x4_19, y4_20, h4_21) _ _ _ (by rw [← hz]; exact (zHin_t (by omega) (Or.inl ⟨c_40, Int64.not_le.mp c_54⟩)).symm) hP hS dX5_hindrance_58
  exact lp_7_8 ((n - 0) + 1) 0 x2 y2 h2 (by first | assumption | omega | rfl | simp_all) (rfl) (Nat.lt_succ_self _) _ _ hP hD hS _ (lv_sub hl [2, 1, 0] rfl)
end
