set_option maxHeartbeats 4000000 in
set_option maxRecDepth 100000 in
theorem c_X0_headingAt (l : Launch) (D : va_G) (cI cJ : ClassId) (a : Nat) (k1 : Nat) (k2 : Nat) (k3 : Nat) (k4 : Nat) (k5 : Nat) (n : Nat) (kd : Nat → Int32) (ln : Nat → Int32) (lo : Nat → Int32) (hi : Nat → Int32) (vl : Nat → Int32) (mm : Nat) (hn : n ≤ 5) (hm : mm ≤ 5) : zM l yX0_headingAt wsX0_headingAt 1 D cI cJ [.ref a, .int (nI mm - 1)] [(a, .inr (0, [.ref k1, .ref k2, .ref k3, .ref k4, .ref k5, .int (nI n)])), (k1, .inl (cI, 5, .inl kd)), (k2, .inl (cI, 5, .inl ln)), (k3, .inl (cI, 5, .inl lo)), (k4, .inl (cI, 5, .inl hi)), (k5, .inl (cI, 5, .inl vl))] (fun (u : Int32) => (u = zH kd vl mm)) (fun (u : Int32) => some (.int u)) (fun (u : Int32) => [(a, .inr (0, [.ref k1, .ref k2, .ref k3, .ref k4, .ref k5, .int (nI n)])), (k1, .inl (cI, 5, .inl kd)), (k2, .inl (cI, 5, .inl ln)), (k3, .inl (cI, 5, .inl lo)), (k4, .inl (cI, 5, .inl hi)), (k5, .inl (cI, 5, .inl vl))]) := by
  refine zM_i (cc := cX0_headingAt) (maxL := 4) (r := fun (u : Int32) => u) (by decide) rfl (Nat.le_of_ble_eq_true rfl) ?_
  intro p e s m args below meth c ls A0 Q C hl hP hS hRet
  obtain ⟨⟨hx, hb, hml, hown, hts⟩, hG, hK, hD, hlocks⟩ := C
  have hin0 : ∀ w ∈ u_ws RX0 TX0 6, w ∈ wsX0_headingAt := by decide +kernel
  have hf24 := hts (.fieldLink RX0 24 "ArmRoom$Arm" "values" "[I") (by decide +kernel)
  have hl : lv_has ls 4 [(0, .ref a), (1, .int (nI mm - 1))] := hl
  refine lv_iconst (v := 0) hx hb dX0_headingAt_0 (by decide) ?_
  refine lv_istore_n (lv' := [(2, .int 0), (0, .ref a), (1, .int (nI mm - 1))]) hx hb dX0_headingAt_1 rfl hl (by decide) rfl (fun ls hl => ?_)
  refine lv_iconst (v := 0) hx hb dX0_headingAt_2 (by decide) ?_
  refine lv_istore_n (lv' := [(3, .int 0), (2, .int 0), (0, .ref a), (1, .int (nI mm - 1))]) hx hb dX0_headingAt_3 rfl hl (by decide) rfl (fun ls hl => ?_)
  have lp_4_1 : ∀ (fu : Nat) (i : Nat), (i ≤ mm) → (mm - i < fu) → ∀ (H : Heap) (locs : List Loc), va_P D vwCl [(a, .inr (0, [.ref k1, .ref k2, .ref k3, .ref k4, .ref k5, .int (nI n)])), (k1, .inl (cI, 5, .inl kd)), (k2, .inl (cI, 5, .inl ln)), (k3, .inl (cI, 5, .inl lo)), (k4, .inl (cI, 5, .inl hi)), (k5, .inl (cI, 5, .inl vl))] H → va_D A0 [(a, .inr (0, [.ref k1, .ref k2, .ref k3, .ref k4, .ref k5, .int (nI n)])), (k1, .inl (cI, 5, .inl kd)), (k2, .inl (cI, 5, .inl ln)), (k3, .inl (cI, 5, .inl lo)), (k4, .inl (cI, 5, .inl hi)), (k5, .inl (cI, 5, .inl vl))] → va_S A0 s.heap H locs → ∀ (ls : Array Slot), lv_has ls 4 [(0, .ref a), (1, .int (nI mm - 1)), (2, .int (zHs kd vl i)), (3, .int (nI i))] → W p l e (zRm 1 0 0) s m args below meth c H locs 0 0 Q (F0 m 4 ls []) := by
    intro fu
    induction fu with
    | zero => intro i hi1 hfu; exact absurd hfu (Nat.not_lt_zero _)
    | succ fu ih_4_1 =>
      intro i hi1 hfu H locs hP hD hS ls hl
      refine lv_iload_n hx hb dX0_headingAt_4 rfl (lv_at hl 3 rfl) ?_
      refine lv_iload_n hx hb dX0_headingAt_5 rfl (lv_at hl 1 rfl) ?_
      refine lv_icmp_gt (tgt := 29) hx hb dX0_headingAt_6 (by decide) (fun c_6 => ?_) (fun c_6 => ?_)
      · have c_6 := (zlt_pred hm (by omega)).mp c_6
        obtain rfl : mm = i := by omega
        refine lv_iload_n hx hb dX0_headingAt_29 rfl (lv_at hl 2 rfl) ?_
        refine lv_bipush (v := 63) hx hb dX0_headingAt_30 (by decide) ?_
        refine lv_iand hx hb dX0_headingAt_32 ?_
        exact hRet _ ((zHs kd vl mm) &&& 63) _ _ _ (zHs_H kd vl mm) hP hS dX0_headingAt_33
      · have c_6 := fun h => c_6 ((zlt_pred hm (by omega)).mpr h)
        have hi2 : i < mm := Nat.lt_of_not_le c_6
        refine lv_iload_n hx hb dX0_headingAt_9 rfl (lv_at hl 2 rfl) ?_
        refine lv_aload_n hx hb dX0_headingAt_10 rfl (lv_at hl 0 rfl) ?_
        refine lv_iload_n hx hb dX0_headingAt_11 rfl (lv_at hl 3 rfl) ?_
        refine lv_aload_n hx hb dX0_headingAt_12 rfl (lv_at hl 0 rfl) ?_
        refine va_get (D := D) (ci := 0) (v := .ref k5) (C := RX0) (T := TX0) (N := 6) hx hb hts hin0 hown hK hP 0 rfl rfl 4 (by decide) hf24 (fun _ h9 => h9) rfl dX0_headingAt_13 ?_
        refine lv_iload_n hx hb dX0_headingAt_16 rfl (lv_at hl 3 rfl) ?_
        refine z_iald hx hb hK hP 5 rfl (j := i) (by omega) (by decide) dX0_headingAt_17 ?_
        refine z_callV (As := [.int (nI i), .int (vl i)]) (rest := [.int (zHs kd vl i)]) ⟨hx, hb, hml, hown, hts⟩ hG hK hP hD hS (c_X0_turnOf l D cI cJ a k1 k2 k3 k4 k5 n kd ln lo hi vl i (vl i) (by first | assumption | omega | decide)) (cwV 2 hts gX0_headingAt_X0_turnOf rfl rfl rfl (by decide +kernel) ⟨Nat.le_of_ble_eq_true rfl, Nat.le_of_ble_eq_true rfl⟩) [0, 1, 2, 3, 4, 5] (by decide) rfl (fun _ => rfl) 0 rfl rfl rfl rfl hl.1 rfl (Nat.le_of_ble_eq_true rfl) dX0_headingAt_18 ⟨Nat.le_of_ble_eq_true rfl, Nat.le_of_ble_eq_true rfl⟩ (fun u_2 H locs hu_3 hP hD hS => ?_)
        obtain ⟨r_4, rfl⟩ : ∃ z, z = u_2 := ⟨_, rfl⟩
        have hu_3 : (r_4 = zTurn kd i (vl i)) := hu_3
        have e_5 := hu_3
        subst e_5
        have hP : va_P D vwCl [(a, .inr (0, [.ref k1, .ref k2, .ref k3, .ref k4, .ref k5, .int (nI n)])), (k1, .inl (cI, 5, .inl kd)), (k2, .inl (cI, 5, .inl ln)), (k3, .inl (cI, 5, .inl lo)), (k4, .inl (cI, 5, .inl hi)), (k5, .inl (cI, 5, .inl vl))] H := hP
        have hD : va_D A0 [(a, .inr (0, [.ref k1, .ref k2, .ref k3, .ref k4, .ref k5, .int (nI n)])), (k1, .inl (cI, 5, .inl kd)), (k2, .inl (cI, 5, .inl ln)), (k3, .inl (cI, 5, .inl lo)), (k4, .inl (cI, 5, .inl hi)), (k5, .inl (cI, 5, .inl vl))] := hD
        refine lv_iadd hx hb dX0_headingAt_21 ?_
        refine lv_istore_n (lv' := [(2, .int ((zHs kd vl i) + (zTurn kd i (vl i)))), (0, .ref a), (1, .int (nI mm - 1)), (3, .int (nI i))]) hx hb dX0_headingAt_22 rfl hl (by decide) rfl (fun ls hl => ?_)
        refine lv_iinc (v := nI (i + 1)) (lv' := [(3, .int (nI (i + 1))), (2, .int ((zHs kd vl i) + (zTurn kd i (vl i)))), (0, .ref a), (1, .int (nI mm - 1))]) hx hb dX0_headingAt_23 hl (k := 3) rfl ((nI_succ _).symm) (by decide) rfl (fun ls hl => ?_)
        refine lv_goto (tgt := 4) hx hb dX0_headingAt_26 (by decide) ?_
        exact ih_4_1 (i + 1) (by first | assumption | omega | rfl | simp_all) (by omega) _ _ hP hD hS _ (lv_sub hl [2, 3, 1, 0] rfl)
  exact lp_4_1 ((mm - 0) + 1) 0 (by first | assumption | omega | rfl | simp_all) (Nat.lt_succ_self _) _ _ hP hD hS _ (lv_sub hl [2, 3, 1, 0] rfl)

set_option maxHeartbeats 4000000 in
set_option maxRecDepth 100000 in
theorem c_X0_countPoses (l : Launch) (D : va_G) (cI cJ : ClassId) (a : Nat) (k1 : Nat) (k2 : Nat) (k3 : Nat) (k4 : Nat) (k5 : Nat) (n : Nat) (kd : Nat → Int32) (ln : Nat → Int32) (lo : Nat → Int32) (hi : Nat → Int32) (vl : Nat → Int32) (hn : n ≤ 5) : zM l yX0_countPoses wsX0_countPoses 0 D cI cJ [.ref a] [(a, .inr (0, [.ref k1, .ref k2, .ref k3, .ref k4, .ref k5, .int (nI n)])), (k1, .inl (cI, 5, .inl kd)), (k2, .inl (cI, 5, .inl ln)), (k3, .inl (cI, 5, .inl lo)), (k4, .inl (cI, 5, .inl hi)), (k5, .inl (cI, 5, .inl vl))] (fun (u : Int64) => (u = zPoses lo hi n)) (fun (u : Int64) => some (.long u)) (fun (u : Int64) => [(a, .inr (0, [.ref k1, .ref k2, .ref k3, .ref k4, .ref k5, .int (nI n)])), (k1, .inl (cI, 5, .inl kd)), (k2, .inl (cI, 5, .inl ln)), (k3, .inl (cI, 5, .inl lo)), (k4, .inl (cI, 5, .inl hi)), (k5, .inl (cI, 5, .inl vl))]) := by
  refine zM_l (cc := cX0_countPoses) (maxL := 4) (r := fun (u : Int64) => u) (by decide) rfl (Nat.le_of_ble_eq_true rfl) ?_
  intro p e s m args below meth c ls A0 Q C hl hP hS hRet
  obtain ⟨⟨hx, hb, hml, hown, hts⟩, hG, hK, hD, hlocks⟩ := C
  have hin0 : ∀ w ∈ u_ws RX0 TX0 6, w ∈ wsX0_countPoses := by decide +kernel
  have hf27 := hts (.fieldLink RX0 27 "ArmRoom$Arm" "count" "I") (by decide +kernel)
  have hf21 := hts (.fieldLink RX0 21 "ArmRoom$Arm" "highs" "[I") (by decide +kernel)
  have hf18 := hts (.fieldLink RX0 18 "ArmRoom$Arm" "lows" "[I") (by decide +kernel)
  have hl : lv_has ls 4 [(0, .ref a)] := hl
  refine lv_lconst (v := 1) hx hb dX0_countPoses_0 (by decide) ?_
  refine lv_lstore_n (lv' := [(1, .long 1), (0, .ref a)]) hx hb dX0_countPoses_1 rfl hl (by decide) rfl (fun ls hl => ?_)
  refine lv_iconst (v := 0) hx hb dX0_countPoses_2 (by decide) ?_
  refine lv_istore_n (lv' := [(3, .int 0), (1, .long 1), (0, .ref a)]) hx hb dX0_countPoses_3 rfl hl (by decide) rfl (fun ls hl => ?_)
  have lp_4_1 : ∀ (fu : Nat) (i : Nat), (i ≤ n) → (n - i < fu) → ∀ (H : Heap) (locs : List Loc), va_P D vwCl [(a, .inr (0, [.ref k1, .ref k2, .ref k3, .ref k4, .ref k5, .int (nI n)])), (k1, .inl (cI, 5, .inl kd)), (k2, .inl (cI, 5, .inl ln)), (k3, .inl (cI, 5, .inl lo)), (k4, .inl (cI, 5, .inl hi)), (k5, .inl (cI, 5, .inl vl))] H → va_D A0 [(a, .inr (0, [.ref k1, .ref k2, .ref k3, .ref k4, .ref k5, .int (nI n)])), (k1, .inl (cI, 5, .inl kd)), (k2, .inl (cI, 5, .inl ln)), (k3, .inl (cI, 5, .inl lo)), (k4, .inl (cI, 5, .inl hi)), (k5, .inl (cI, 5, .inl vl))] → va_S A0 s.heap H locs → ∀ (ls : Array Slot), lv_has ls 4 [(0, .ref a), (1, .long (zPoses lo hi i)), (3, .int (nI i))] → W p l e (zRm 0 0 0) s m args below meth c H locs 0 0 Q (F0 m 4 ls []) := by
    intro fu
    induction fu with
    | zero => intro i hi1 hfu; exact absurd hfu (Nat.not_lt_zero _)
    | succ fu ih_4_1 =>
      intro i hi1 hfu H locs hP hD hS ls hl
      refine lv_iload_n hx hb dX0_countPoses_4 rfl (lv_at hl 2 rfl) ?_
      refine lv_aload_n hx hb dX0_countPoses_5 rfl (lv_at hl 0 rfl) ?_
      refine va_get (D := D) (ci := 0) (v := .int (nI n)) (C := RX0) (T := TX0) (N := 6) hx hb hts hin0 hown hK hP 0 rfl rfl 5 (by decide) hf27 (fun _ h9 => h9) rfl dX0_countPoses_6 ?_
      refine lv_icmp_ge (tgt := 37) hx hb dX0_countPoses_9 (by decide) (fun c_9 => ?_) (fun c_9 => ?_)
      · rw [nI_leI (by omega) (by omega)] at c_9
        obtain rfl : n = i := by omega
        refine lv_lload_n hx hb dX0_countPoses_37 rfl (lv_at hl 1 rfl) ?_
        exact hRet _ (zPoses lo hi n) _ _ _ (rfl) hP hS dX0_countPoses_38
      · rw [nI_leI (by omega) (by omega)] at c_9
        refine lv_lload_n hx hb dX0_countPoses_12 rfl (lv_at hl 1 rfl) ?_
        refine lv_aload_n hx hb dX0_countPoses_13 rfl (lv_at hl 0 rfl) ?_
        refine va_get (D := D) (ci := 0) (v := .ref k4) (C := RX0) (T := TX0) (N := 6) hx hb hts hin0 hown hK hP 0 rfl rfl 3 (by decide) hf21 (fun _ h9 => h9) rfl dX0_countPoses_14 ?_
        refine lv_iload_n hx hb dX0_countPoses_17 rfl (lv_at hl 2 rfl) ?_
        refine z_iald hx hb hK hP 4 rfl (j := i) (by omega) (by decide) dX0_countPoses_18 ?_
        refine lv_aload_n hx hb dX0_countPoses_19 rfl (lv_at hl 0 rfl) ?_
        refine va_get (D := D) (ci := 0) (v := .ref k3) (C := RX0) (T := TX0) (N := 6) hx hb hts hin0 hown hK hP 0 rfl rfl 2 (by decide) hf18 (fun _ h9 => h9) rfl dX0_countPoses_20 ?_
        refine lv_iload_n hx hb dX0_countPoses_23 rfl (lv_at hl 2 rfl) ?_
        refine z_iald hx hb hK hP 3 rfl (j := i) (by omega) (by decide) dX0_countPoses_24 ?_
        refine lv_isub hx hb dX0_countPoses_25 ?_
        refine lv_iconst (v := 1) hx hb dX0_countPoses_26 (by decide) ?_
        refine lv_iadd hx hb dX0_countPoses_27 ?_
        refine lv_i2l (v := (((hi i) - (lo i)) + 1).toInt64) hx hb dX0_countPoses_28 rfl ?_
        refine lv_lmul hx hb dX0_countPoses_29 ?_
        refine lv_lstore_n (lv' := [(1, .long ((zPoses lo hi i) * ((((hi i) - (lo i)) + 1).toInt64))), (0, .ref a), (3, .int (nI i))]) hx hb dX0_countPoses_30 rfl hl (by decide) rfl (fun ls hl => ?_)
        refine lv_iinc (v := nI (i + 1)) (lv' := [(3, .int (nI (i + 1))), (1, .long ((zPoses lo hi i) * ((((hi i) - (lo i)) + 1).toInt64))), (0, .ref a)]) hx hb dX0_countPoses_31 hl (k := 2) rfl ((nI_succ _).symm) (by decide) rfl (fun ls hl => ?_)
        refine lv_goto (tgt := 4) hx hb dX0_countPoses_34 (by decide) ?_
        exact ih_4_1 (i + 1) (by first | assumption | omega | rfl | simp_all) (by omega) _ _ hP hD hS _ (lv_sub hl [2, 1, 0] rfl)
  exact lp_4_1 ((n - 0) + 1) 0 (by first | assumption | omega | rfl | simp_all) (Nat.lt_succ_self _) _ _ hP hD hS _ (lv_sub hl [2, 1, 0] rfl)

set_option maxHeartbeats 4000000 in
set_option maxRecDepth 100000 in
theorem c_X0_add (l : Launch) (D : va_G) (cI cJ : ClassId) (a : Nat) (k1 : Nat) (k2 : Nat) (k3 : Nat) (k4 : Nat) (k5 : Nat) (n : Nat) (kd : Nat → Int32) (ln : Nat → Int32) (lo : Nat → Int32) (hi : Nat → Int32) (vl : Nat → Int32) (p0 : Int32) (p1 : Int32) (p2 : Int32) (p3 : Int32) (hn : n < 5) : zM l yX0_add wsX0_add 1 D cI cJ [.ref a, .int p0, .int p1, .int p2, .int p3] [(a, .inr (0, [.ref k1, .ref k2, .ref k3, .ref k4, .ref k5, .int (nI n)])), (k1, .inl (cI, 5, .inl kd)), (k2, .inl (cI, 5, .inl ln)), (k3, .inl (cI, 5, .inl lo)), (k4, .inl (cI, 5, .inl hi)), (k5, .inl (cI, 5, .inl vl))] (fun (u : Int32 × (Nat → Int32)) => (u.1 = nI n) ∧ (u.2 = upd vl n (zHeldC p2 p3 0))) (fun (u : Int32 × (Nat → Int32)) => some (.int u.1)) (fun (u : Int32 × (Nat → Int32)) => [(a, .inr (0, [.ref k1, .ref k2, .ref k3, .ref k4, .ref k5, .int (nI (n + 1))])), (k1, .inl (cI, 5, .inl (upd kd n p0))), (k2, .inl (cI, 5, .inl (upd ln n p1))), (k3, .inl (cI, 5, .inl (upd lo n p2))), (k4, .inl (cI, 5, .inl (upd hi n p3))), (k5, .inl (cI, 5, .inl u.2))]) := by
  refine zM_i (cc := cX0_add) (maxL := 6) (r := fun (u : Int32 × (Nat → Int32)) => u.1) (by decide) rfl (Nat.le_of_ble_eq_true rfl) ?_
  intro p e s m args below meth c ls A0 Q C hl hP hS hRet
  obtain ⟨⟨hx, hb, hml, hown, hts⟩, hG, hK, hD, hlocks⟩ := C
  have hin0 : ∀ w ∈ u_ws RX0 TX0 6, w ∈ wsX0_add := by decide +kernel
  have hf27 := hts (.fieldLink RX0 27 "ArmRoom$Arm" "count" "I") (by decide +kernel)
  have hf9 := hts (.fieldLink RX0 9 "ArmRoom$Arm" "kinds" "[I") (by decide +kernel)
  have hf15 := hts (.fieldLink RX0 15 "ArmRoom$Arm" "lengths" "[I") (by decide +kernel)
  have hf18 := hts (.fieldLink RX0 18 "ArmRoom$Arm" "lows" "[I") (by decide +kernel)
  have hf21 := hts (.fieldLink RX0 21 "ArmRoom$Arm" "highs" "[I") (by decide +kernel)
  have hf24 := hts (.fieldLink RX0 24 "ArmRoom$Arm" "values" "[I") (by decide +kernel)
  have hl : lv_has ls 6 [(0, .ref a), (1, .int p0), (2, .int p1), (3, .int p2), (4, .int p3)] := hl
  refine lv_aload_n hx hb dX0_add_0 rfl (lv_at hl 0 rfl) ?_
  refine va_get (D := D) (ci := 0) (v := .int (nI n)) (C := RX0) (T := TX0) (N := 6) hx hb hts hin0 hown hK hP 0 rfl rfl 5 (by decide) hf27 (fun _ h9 => h9) rfl dX0_add_1 ?_
  refine lv_istore (lv' := [(5, .int (nI n)), (0, .ref a), (1, .int p0), (2, .int p1), (3, .int p2), (4, .int p3)]) hx hb dX0_add_4 hl (by decide) rfl (fun ls hl => ?_)
  refine lv_aload_n hx hb dX0_add_6 rfl (lv_at hl 1 rfl) ?_
  refine va_get (D := D) (ci := 0) (v := .ref k1) (C := RX0) (T := TX0) (N := 6) hx hb hts hin0 hown hK hP 0 rfl rfl 0 (by decide) hf9 (fun _ h9 => h9) rfl dX0_add_7 ?_
  refine lv_iload hx hb dX0_add_10 (lv_at hl 0 rfl) ?_
  refine lv_iload_n hx hb dX0_add_12 rfl (lv_at hl 2 rfl) ?_
  refine z_iast hx hb hK hP hD hS 1 rfl (j := n) (by omega) (by decide) dX0_add_13 (fun H locs hP hD hS => ?_)
  have hP : va_P D vwCl [(a, .inr (0, [.ref k1, .ref k2, .ref k3, .ref k4, .ref k5, .int (nI n)])), (k1, .inl (cI, 5, .inl (upd kd n p0))), (k2, .inl (cI, 5, .inl ln)), (k3, .inl (cI, 5, .inl lo)), (k4, .inl (cI, 5, .inl hi)), (k5, .inl (cI, 5, .inl vl))] H := hP
  have hD : va_D A0 [(a, .inr (0, [.ref k1, .ref k2, .ref k3, .ref k4, .ref k5, .int (nI n)])), (k1, .inl (cI, 5, .inl (upd kd n p0))), (k2, .inl (cI, 5, .inl ln)), (k3, .inl (cI, 5, .inl lo)), (k4, .inl (cI, 5, .inl hi)), (k5, .inl (cI, 5, .inl vl))] := hD
  refine lv_aload_n hx hb dX0_add_14 rfl (lv_at hl 1 rfl) ?_
  refine va_get (D := D) (ci := 0) (v := .ref k2) (C := RX0) (T := TX0) (N := 6) hx hb hts hin0 hown hK hP 0 rfl rfl 1 (by decide) hf15 (fun _ h9 => h9) rfl dX0_add_15 ?_
  refine lv_iload hx hb dX0_add_18 (lv_at hl 0 rfl) ?_
  refine lv_iload_n hx hb dX0_add_20 rfl (lv_at hl 3 rfl) ?_
  refine z_iast hx hb hK hP hD hS 2 rfl (j := n) (by omega) (by decide) dX0_add_21 (fun H locs hP hD hS => ?_)
  have hP : va_P D vwCl [(a, .inr (0, [.ref k1, .ref k2, .ref k3, .ref k4, .ref k5, .int (nI n)])), (k1, .inl (cI, 5, .inl (upd kd n p0))), (k2, .inl (cI, 5, .inl (upd ln n p1))), (k3, .inl (cI, 5, .inl lo)), (k4, .inl (cI, 5, .inl hi)), (k5, .inl (cI, 5, .inl vl))] H := hP
  have hD : va_D A0 [(a, .inr (0, [.ref k1, .ref k2, .ref k3, .ref k4, .ref k5, .int (nI n)])), (k1, .inl (cI, 5, .inl (upd kd n p0))), (k2, .inl (cI, 5, .inl (upd ln n p1))), (k3, .inl (cI, 5, .inl lo)), (k4, .inl (cI, 5, .inl hi)), (k5, .inl (cI, 5, .inl vl))] := hD
  refine lv_aload_n hx hb dX0_add_22 rfl (lv_at hl 1 rfl) ?_
  refine va_get (D := D) (ci := 0) (v := .ref k3) (C := RX0) (T := TX0) (N := 6) hx hb hts hin0 hown hK hP 0 rfl rfl 2 (by decide) hf18 (fun _ h9 => h9) rfl dX0_add_23 ?_
  refine lv_iload hx hb dX0_add_26 (lv_at hl 0 rfl) ?_
  refine lv_iload_n hx hb dX0_add_28 rfl (lv_at hl 4 rfl) ?_
  refine z_iast hx hb hK hP hD hS 3 rfl (j := n) (by omega) (by decide) dX0_add_29 (fun H locs hP hD hS => ?_)
  have hP : va_P D vwCl [(a, .inr (0, [.ref k1, .ref k2, .ref k3, .ref k4, .ref k5, .int (nI n)])), (k1, .inl (cI, 5, .inl (upd kd n p0))), (k2, .inl (cI, 5, .inl (upd ln n p1))), (k3, .inl (cI, 5, .inl (upd lo n p2))), (k4, .inl (cI, 5, .inl hi)), (k5, .inl (cI, 5, .inl vl))] H := hP
  have hD : va_D A0 [(a, .inr (0, [.ref k1, .ref k2, .ref k3, .ref k4, .ref k5, .int (nI n)])), (k1, .inl (cI, 5, .inl (upd kd n p0))), (k2, .inl (cI, 5, .inl (upd ln n p1))), (k3, .inl (cI, 5, .inl (upd lo n p2))), (k4, .inl (cI, 5, .inl hi)), (k5, .inl (cI, 5, .inl vl))] := hD
  refine lv_aload_n hx hb dX0_add_30 rfl (lv_at hl 1 rfl) ?_
  refine va_get (D := D) (ci := 0) (v := .ref k4) (C := RX0) (T := TX0) (N := 6) hx hb hts hin0 hown hK hP 0 rfl rfl 3 (by decide) hf21 (fun _ h9 => h9) rfl dX0_add_31 ?_
  refine lv_iload hx hb dX0_add_34 (lv_at hl 0 rfl) ?_
  refine lv_iload hx hb dX0_add_36 (lv_at hl 5 rfl) ?_
  refine z_iast hx hb hK hP hD hS 4 rfl (j := n) (by omega) (by decide) dX0_add_38 (fun H locs hP hD hS => ?_)
  have hP : va_P D vwCl [(a, .inr (0, [.ref k1, .ref k2, .ref k3, .ref k4, .ref k5, .int (nI n)])), (k1, .inl (cI, 5, .inl (upd kd n p0))), (k2, .inl (cI, 5, .inl (upd ln n p1))), (k3, .inl (cI, 5, .inl (upd lo n p2))), (k4, .inl (cI, 5, .inl (upd hi n p3))), (k5, .inl (cI, 5, .inl vl))] H := hP
  have hD : va_D A0 [(a, .inr (0, [.ref k1, .ref k2, .ref k3, .ref k4, .ref k5, .int (nI n)])), (k1, .inl (cI, 5, .inl (upd kd n p0))), (k2, .inl (cI, 5, .inl (upd ln n p1))), (k3, .inl (cI, 5, .inl (upd lo n p2))), (k4, .inl (cI, 5, .inl (upd hi n p3))), (k5, .inl (cI, 5, .inl vl))] := hD
  refine lv_aload_n hx hb dX0_add_39 rfl (lv_at hl 1 rfl) ?_
  refine va_get (D := D) (ci := 0) (v := .ref k5) (C := RX0) (T := TX0) (N := 6) hx hb hts hin0 hown hK hP 0 rfl rfl 4 (by decide) hf24 (fun _ h9 => h9) rfl dX0_add_40 ?_
  refine lv_iload hx hb dX0_add_43 (lv_at hl 0 rfl) ?_
  refine lv_aload_n hx hb dX0_add_45 rfl (lv_at hl 1 rfl) ?_
  refine lv_iload hx hb dX0_add_46 (lv_at hl 0 rfl) ?_
  refine lv_iconst (v := 0) hx hb dX0_add_48 (by decide) ?_
  refine z_callV (As := [.int (nI n), .int 0]) (rest := [.int (nI n), .ref k5]) ⟨hx, hb, hml, hown, hts⟩ hG hK hP hD hS (c_X0_held l D cI cJ a k1 k2 k3 k4 k5 n (upd kd n p0) (upd ln n p1) (upd lo n p2) (upd hi n p3) vl n 0 (by first | assumption | omega | decide)) (cwV 2 hts gX0_add_X0_held rfl rfl rfl (by decide +kernel) ⟨Nat.le_of_ble_eq_true rfl, Nat.le_of_ble_eq_true rfl⟩) [0, 1, 2, 3, 4, 5] (by decide) rfl (fun _ => rfl) 0 rfl rfl rfl rfl hl.1 rfl (Nat.le_of_ble_eq_true rfl) dX0_add_49 ⟨Nat.le_of_ble_eq_true rfl, Nat.le_of_ble_eq_true rfl⟩ (fun u_1 H locs hu_2 hP hD hS => ?_)
  obtain ⟨r_3, rfl⟩ : ∃ z, z = u_1 := ⟨_, rfl⟩
  have hu_2 : (r_3 = zHeldC ((upd lo n p2) n) ((upd hi n p3) n) 0) := hu_2
  have e_4 := hu_2
  subst e_4
  have hP : va_P D vwCl [(a, .inr (0, [.ref k1, .ref k2, .ref k3, .ref k4, .ref k5, .int (nI n)])), (k1, .inl (cI, 5, .inl (upd kd n p0))), (k2, .inl (cI, 5, .inl (upd ln n p1))), (k3, .inl (cI, 5, .inl (upd lo n p2))), (k4, .inl (cI, 5, .inl (upd hi n p3))), (k5, .inl (cI, 5, .inl vl))] H := hP
  have hD : va_D A0 [(a, .inr (0, [.ref k1, .ref k2, .ref k3, .ref k4, .ref k5, .int (nI n)])), (k1, .inl (cI, 5, .inl (upd kd n p0))), (k2, .inl (cI, 5, .inl (upd ln n p1))), (k3, .inl (cI, 5, .inl (upd lo n p2))), (k4, .inl (cI, 5, .inl (upd hi n p3))), (k5, .inl (cI, 5, .inl vl))] := hD
  refine z_iast hx hb hK hP hD hS 5 rfl (j := n) (by omega) (by decide) dX0_add_52 (fun H locs hP hD hS => ?_)
  have hP : va_P D vwCl [(a, .inr (0, [.ref k1, .ref k2, .ref k3, .ref k4, .ref k5, .int (nI n)])), (k1, .inl (cI, 5, .inl (upd kd n p0))), (k2, .inl (cI, 5, .inl (upd ln n p1))), (k3, .inl (cI, 5, .inl (upd lo n p2))), (k4, .inl (cI, 5, .inl (upd hi n p3))), (k5, .inl (cI, 5, .inl (upd vl n (zHeldC ((upd lo n p2) n) ((upd hi n p3) n) 0))))] H := hP
  have hD : va_D A0 [(a, .inr (0, [.ref k1, .ref k2, .ref k3, .ref k4, .ref k5, .int (nI n)])), (k1, .inl (cI, 5, .inl (upd kd n p0))), (k2, .inl (cI, 5, .inl (upd ln n p1))), (k3, .inl (cI, 5, .inl (upd lo n p2))), (k4, .inl (cI, 5, .inl (upd hi n p3))), (k5, .inl (cI, 5, .inl (upd vl n (zHeldC ((upd lo n p2) n) ((upd hi n p3) n) 0))))] := hD
  refine lv_aload_n hx hb dX0_add_53 rfl (lv_at hl 1 rfl) ?_
  refine lv_dup hx hb dX0_add_54 rfl ?_
  refine va_get (D := D) (ci := 0) (v := .int (nI n)) (C := RX0) (T := TX0) (N := 6) hx hb hts hin0 hown hK hP 0 rfl rfl 5 (by decide) hf27 (fun _ h9 => h9) rfl dX0_add_55 ?_
  refine lv_iconst (v := 1) hx hb dX0_add_58 (by decide) ?_
  refine lv_iadd hx hb dX0_add_59 ?_
  refine z_topi (y := nI (n + 1)) ((nI_succ _).symm) ?_
  refine va_put (D := D) (ci := 0) (v := .int (nI (n + 1))) (ty := .int) (C := RX0) (T := TX0) (N := 6) hx hb hts hin0 tyX0 tyX0_ok nmX0 hown hK hP hD hS 0 rfl rfl 5 (by decide) hf27 (fun _ h9 => h9) rfl (by decide +kernel) rfl rfl (Nat.le_of_ble_eq_true rfl) dX0_add_60 (fun H locs hP hD hS => ?_)
  have hP : va_P D vwCl [(a, .inr (0, [.ref k1, .ref k2, .ref k3, .ref k4, .ref k5, .int (nI (n + 1))])), (k1, .inl (cI, 5, .inl (upd kd n p0))), (k2, .inl (cI, 5, .inl (upd ln n p1))), (k3, .inl (cI, 5, .inl (upd lo n p2))), (k4, .inl (cI, 5, .inl (upd hi n p3))), (k5, .inl (cI, 5, .inl (upd vl n (zHeldC ((upd lo n p2) n) ((upd hi n p3) n) 0))))] H := hP
  have hD : va_D A0 [(a, .inr (0, [.ref k1, .ref k2, .ref k3, .ref k4, .ref k5, .int (nI (n + 1))])), (k1, .inl (cI, 5, .inl (upd kd n p0))), (k2, .inl (cI, 5, .inl (upd ln n p1))), (k3, .inl (cI, 5, .inl (upd lo n p2))), (k4, .inl (cI, 5, .inl (upd hi n p3))), (k5, .inl (cI, 5, .inl (upd vl n (zHeldC ((upd lo n p2) n) ((upd hi n p3) n) 0))))] := hD
  refine lv_iload hx hb dX0_add_63 (lv_at hl 0 rfl) ?_
  exact hRet _ (nI n, upd vl n (zHeldC ((upd lo n p2) n) ((upd hi n p3) n) 0)) _ _ _ ⟨rfl, by rw [pk_us, pk_us]⟩ hP hS dX0_add_65

set_option maxHeartbeats 4000000 in
set_option maxRecDepth 100000 in
theorem c_X1_farFrom (l : Launch) (D : va_G) (cI cJ : ClassId) (g : Nat) (gx : Int32) (gy : Int32) (sl : Int32) (p0 : Int32) (p1 : Int32)  : zM l yX1_farFrom wsX1_farFrom 0 D cI cJ [.ref g, .int p0, .int p1] [(g, .inr (1, [.int gx, .int gy, .int sl]))] (fun (u : Int64) => (u = zFar gx gy p0 p1)) (fun (u : Int64) => some (.long u)) (fun (u : Int64) => [(g, .inr (1, [.int gx, .int gy, .int sl]))]) := by
  refine zM_l (cc := cX1_farFrom) (maxL := 7) (r := fun (u : Int64) => u) (by decide) rfl (Nat.le_of_ble_eq_true rfl) ?_
  intro p e s m args below meth c ls A0 Q C hl hP hS hRet
  obtain ⟨⟨hx, hb, hml, hown, hts⟩, hG, hK, hD, hlocks⟩ := C
  have hin1 : ∀ w ∈ u_ws RX1 TX1 3, w ∈ wsX1_farFrom := by decide +kernel
  have hf15 := hts (.fieldLink RX1 15 "ArmRoom$Goal" "x" "I") (by decide +kernel)
  have hf18 := hts (.fieldLink RX1 18 "ArmRoom$Goal" "y" "I") (by decide +kernel)
  have hl : lv_has ls 7 [(0, .ref g), (1, .int p0), (2, .int p1)] := hl
  refine lv_iload_n hx hb dX1_farFrom_0 rfl (lv_at hl 1 rfl) ?_
  refine lv_i2l (v := p0.toInt64) hx hb dX1_farFrom_1 rfl ?_
  refine lv_aload_n hx hb dX1_farFrom_2 rfl (lv_at hl 0 rfl) ?_
  refine va_get (D := D) (ci := 1) (v := .int gx) (C := RX1) (T := TX1) (N := 3) hx hb hts hin1 hown hK hP 0 rfl rfl 0 (by decide) hf15 (fun _ h9 => h9) rfl dX1_farFrom_3 ?_
  refine lv_i2l (v := gx.toInt64) hx hb dX1_farFrom_6 rfl ?_
  refine lv_lsub hx hb dX1_farFrom_7 ?_
  refine lv_lstore_n (lv' := [(3, .long (p0.toInt64 - gx.toInt64)), (0, .ref g), (1, .int p0), (2, .int p1)]) hx hb dX1_farFrom_8 rfl hl (by decide) rfl (fun ls hl => ?_)
  refine lv_iload_n hx hb dX1_farFrom_9 rfl (lv_at hl 3 rfl) ?_
  refine lv_i2l (v := p1.toInt64) hx hb dX1_farFrom_10 rfl ?_
  refine lv_aload_n hx hb dX1_farFrom_11 rfl (lv_at hl 1 rfl) ?_
  refine va_get (D := D) (ci := 1) (v := .int gy) (C := RX1) (T := TX1) (N := 3) hx hb hts hin1 hown hK hP 0 rfl rfl 1 (by decide) hf18 (fun _ h9 => h9) rfl dX1_farFrom_12 ?_
  refine lv_i2l (v := gy.toInt64) hx hb dX1_farFrom_15 rfl ?_
  refine lv_lsub hx hb dX1_farFrom_16 ?_
  refine lv_lstore (lv' := [(5, .long (p1.toInt64 - gy.toInt64)), (3, .long (p0.toInt64 - gx.toInt64)), (0, .ref g), (1, .int p0), (2, .int p1)]) hx hb dX1_farFrom_17 hl (by decide) rfl (fun ls hl => ?_)
  refine lv_lload_n hx hb dX1_farFrom_19 rfl (lv_at hl 1 rfl) ?_
  refine lv_lload_n hx hb dX1_farFrom_20 rfl (lv_at hl 1 rfl) ?_
  refine lv_lmul hx hb dX1_farFrom_21 ?_
  refine lv_lload hx hb dX1_farFrom_22 (lv_at hl 0 rfl) ?_
  refine lv_lload hx hb dX1_farFrom_24 (lv_at hl 0 rfl) ?_
  refine lv_lmul hx hb dX1_farFrom_26 ?_
  refine lv_ladd hx hb dX1_farFrom_27 ?_
  exact hRet _ (((p0.toInt64 - gx.toInt64) * (p0.toInt64 - gx.toInt64)) + ((p1.toInt64 - gy.toInt64) * (p1.toInt64 - gy.toInt64))) _ _ _ (rfl) hP hS dX1_farFrom_28

set_option maxHeartbeats 4000000 in
set_option maxRecDepth 100000 in
theorem c_X1_isWithin (l : Launch) (D : va_G) (cI cJ : ClassId) (g : Nat) (gx : Int32) (gy : Int32) (sl : Int32) (ms : Int32) (p0 : Int32) (p1 : Int32)  : zM l yX1_isWithin wsX1_isWithin 0 D cI cJ [.ref g, .int ms, .int p0, .int p1] [(g, .inr (1, [.int gx, .int gy, .int sl]))] (fun (u : Int32) => (u = zIn ms gx gy p0 p1)) (fun (u : Int32) => some (.int u)) (fun (u : Int32) => [(g, .inr (1, [.int gx, .int gy, .int sl]))]) := by
  refine zM_z (cc := cX1_isWithin) (maxL := 4) (r := fun (u : Int32) => u) (fun u h => by simp only [h, zIn]; split <;> simp) (by decide) rfl (Nat.le_of_ble_eq_true rfl) ?_
  intro p e s m args below meth c ls A0 Q C hl hP hS hRet
  obtain ⟨⟨hx, hb, hml, hown, hts⟩, hG, hK, hD, hlocks⟩ := C
  have hin1 : ∀ w ∈ u_ws RX1 TX1 3, w ∈ wsX1_isWithin := by decide +kernel
  have hf15 := hts (.fieldLink RX1 15 "ArmRoom$Goal" "x" "I") (by decide +kernel)
  have hf18 := hts (.fieldLink RX1 18 "ArmRoom$Goal" "y" "I") (by decide +kernel)
  have hl : lv_has ls 4 [(0, .ref g), (1, .int ms), (2, .int p0), (3, .int p1)] := hl
  refine lv_iload_n hx hb dX1_isWithin_0 rfl (lv_at hl 2 rfl) ?_
  refine lv_aload_n hx hb dX1_isWithin_1 rfl (lv_at hl 0 rfl) ?_
  refine va_get (D := D) (ci := 1) (v := .int gx) (C := RX1) (T := TX1) (N := 3) hx hb hts hin1 hown hK hP 0 rfl rfl 0 (by decide) hf15 (fun _ h9 => h9) rfl dX1_isWithin_2 ?_
  refine lv_isub hx hb dX1_isWithin_5 ?_
  refine va_mabs hx hb (by rw [hml]; exact hl.1.symm) hown (hts (.methodLink RX1 21 Lib.Math.abs.name) (by decide +kernel)) (hts (.static Lib.Math.abs.name) (by decide +kernel)) (hts (.initialized "java/lang/Math") (by decide +kernel)) (hts (.code Lib.Math.abs.name Lib.Math.abs.code 1 (some .int)) (by decide +kernel)) (Nat.le_of_ble_eq_true rfl) (Nat.le_of_ble_eq_true rfl) (Nat.le_of_ble_eq_true rfl) (Nat.le_of_ble_eq_true rfl) dX1_isWithin_6 ?_
  refine lv_iload_n hx hb dX1_isWithin_9 rfl (lv_at hl 1 rfl) ?_
  refine lv_icmp_gt (tgt := 30) hx hb dX1_isWithin_10 (by decide) (fun c_10 => ?_) (fun c_10 => ?_)
  · refine lv_iconst (v := 0) hx hb dX1_isWithin_30 (by decide) ?_
    exact hRet _ (0) _ _ _ (by first | (exact (if_neg (fun h => absurd h.1 (Int32.not_le.mpr c_10))).symm) | (exact (if_neg (fun h => absurd h.2 (Int32.not_le.mpr c_23))).symm) | (exact (if_pos ⟨Int32.not_lt.mp c_10, Int32.not_lt.mp c_23⟩).symm)) hP hS dX1_isWithin_31
  · refine lv_iload_n hx hb dX1_isWithin_13 rfl (lv_at hl 3 rfl) ?_
    refine lv_aload_n hx hb dX1_isWithin_14 rfl (lv_at hl 0 rfl) ?_
    refine va_get (D := D) (ci := 1) (v := .int gy) (C := RX1) (T := TX1) (N := 3) hx hb hts hin1 hown hK hP 0 rfl rfl 1 (by decide) hf18 (fun _ h9 => h9) rfl dX1_isWithin_15 ?_
    refine lv_isub hx hb dX1_isWithin_18 ?_
    refine va_mabs hx hb (by rw [hml]; exact hl.1.symm) hown (hts (.methodLink RX1 21 Lib.Math.abs.name) (by decide +kernel)) (hts (.static Lib.Math.abs.name) (by decide +kernel)) (hts (.initialized "java/lang/Math") (by decide +kernel)) (hts (.code Lib.Math.abs.name Lib.Math.abs.code 1 (some .int)) (by decide +kernel)) (Nat.le_of_ble_eq_true rfl) (Nat.le_of_ble_eq_true rfl) (Nat.le_of_ble_eq_true rfl) (Nat.le_of_ble_eq_true rfl) dX1_isWithin_19 ?_
    refine lv_iload_n hx hb dX1_isWithin_22 rfl (lv_at hl 1 rfl) ?_
    refine lv_icmp_gt (tgt := 30) hx hb dX1_isWithin_23 (by decide) (fun c_23 => ?_) (fun c_23 => ?_)
    · refine lv_iconst (v := 0) hx hb dX1_isWithin_30 (by decide) ?_
      exact hRet _ (0) _ _ _ (by first | (exact (if_neg (fun h => absurd h.1 (Int32.not_le.mpr c_10))).symm) | (exact (if_neg (fun h => absurd h.2 (Int32.not_le.mpr c_23))).symm) | (exact (if_pos ⟨Int32.not_lt.mp c_10, Int32.not_lt.mp c_23⟩).symm)) hP hS dX1_isWithin_31
    · refine lv_iconst (v := 1) hx hb dX1_isWithin_26 (by decide) ?_
      refine lv_goto (tgt := 31) hx hb dX1_isWithin_27 (by decide) ?_
      exact hRet _ (1) _ _ _ (by first | (exact (if_neg (fun h => absurd h.1 (Int32.not_le.mpr c_10))).symm) | (exact (if_neg (fun h => absurd h.2 (Int32.not_le.mpr c_23))).symm) | (exact (if_pos ⟨Int32.not_lt.mp c_10, Int32.not_lt.mp c_23⟩).symm)) hP hS dX1_isWithin_31
