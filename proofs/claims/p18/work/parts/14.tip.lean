set_option maxHeartbeats 4000000 in
set_option maxRecDepth 100000 in
theorem c_X4_start (l : Launch) (D : va_G) (cI cJ : ClassId) (t : Nat) (x : Int32) (y : Int32) (h : Int32)  : zM l yX4_start wsX4_start 0 D cI cJ [.ref t] [(t, .inr (4, [.int x, .int y, .int h]))] (fun (_ : Unit) => True) (fun (_ : Unit) => none) (fun (_ : Unit) => [(t, .inr (4, [.int 0, .int 0, .int 0]))]) := by
  refine zM_v (cc := cX4_start) (maxL := 1) (by decide) rfl (Nat.le_of_ble_eq_true rfl) ?_
  intro p e s m args below meth c ls A0 Q C hl hP hS hRet
  obtain ⟨⟨hx, hb, hml, hown, hts⟩, hG, hK, hD, hlocks⟩ := C
  have hin4 : ∀ w ∈ u_ws RX4 TX4 3, w ∈ wsX4_start := by decide +kernel
  have hf9 := hts (.fieldLink RX4 9 "ArmRoom$Tip" "x" "I") (by decide +kernel)
  have hf15 := hts (.fieldLink RX4 15 "ArmRoom$Tip" "y" "I") (by decide +kernel)
  have hf18 := hts (.fieldLink RX4 18 "ArmRoom$Tip" "heading" "I") (by decide +kernel)
  have hl : lv_has ls 1 [(0, .ref t)] := hl
  refine lv_aload_n hx hb dX4_start_0 rfl (lv_at hl 0 rfl) ?_
  refine lv_iconst (v := 0) hx hb dX4_start_1 (by decide) ?_
  refine va_put (D := D) (ci := 4) (v := .int 0) (ty := .int) (C := RX4) (T := TX4) (N := 3) hx hb hts hin4 tyX4 tyX4_ok nmX4 hown hK hP hD hS 0 rfl rfl 0 (by decide) hf9 (fun _ h9 => h9) rfl (by decide +kernel) rfl rfl (Nat.le_of_ble_eq_true rfl) dX4_start_2 (fun H locs hP hD hS => ?_)
  have hP : va_P D vwCl [(t, .inr (4, [.int 0, .int y, .int h]))] H := hP
  have hD : va_D A0 [(t, .inr (4, [.int 0, .int y, .int h]))] := hD
  refine lv_aload_n hx hb dX4_start_5 rfl (lv_at hl 0 rfl) ?_
  refine lv_iconst (v := 0) hx hb dX4_start_6 (by decide) ?_
  refine va_put (D := D) (ci := 4) (v := .int 0) (ty := .int) (C := RX4) (T := TX4) (N := 3) hx hb hts hin4 tyX4 tyX4_ok nmX4 hown hK hP hD hS 0 rfl rfl 1 (by decide) hf15 (fun _ h9 => h9) rfl (by decide +kernel) rfl rfl (Nat.le_of_ble_eq_true rfl) dX4_start_7 (fun H locs hP hD hS => ?_)
  have hP : va_P D vwCl [(t, .inr (4, [.int 0, .int 0, .int h]))] H := hP
  have hD : va_D A0 [(t, .inr (4, [.int 0, .int 0, .int h]))] := hD
  refine lv_aload_n hx hb dX4_start_10 rfl (lv_at hl 0 rfl) ?_
  refine lv_iconst (v := 0) hx hb dX4_start_11 (by decide) ?_
  refine va_put (D := D) (ci := 4) (v := .int 0) (ty := .int) (C := RX4) (T := TX4) (N := 3) hx hb hts hin4 tyX4 tyX4_ok nmX4 hown hK hP hD hS 0 rfl rfl 2 (by decide) hf18 (fun _ h9 => h9) rfl (by decide +kernel) rfl rfl (Nat.le_of_ble_eq_true rfl) dX4_start_12 (fun H locs hP hD hS => ?_)
  have hP : va_P D vwCl [(t, .inr (4, [.int 0, .int 0, .int 0]))] H := hP
  have hD : va_D A0 [(t, .inr (4, [.int 0, .int 0, .int 0]))] := hD
  exact hRet _ () _ _ _ trivial hP hS dX4_start_15

set_option maxHeartbeats 4000000 in
set_option maxRecDepth 100000 in
theorem c_X4_go (l : Launch) (D : va_G) (cI cJ : ClassId) (t : Nat) (x : Int32) (y : Int32) (h : Int32) (ds : Int32) (dr : Int32)  : zM l yX4_go wsX4_go 2 D cI cJ [.ref t, .int ds, .int dr] [(t, .inr (4, [.int x, .int y, .int h]))] (fun (_ : Unit) => True) (fun (_ : Unit) => none) (fun (_ : Unit) => [(t, .inr (4, [.int (x + ds * zcs dr), .int (y + ds * zsn dr), .int h]))]) := by
  refine zM_v (cc := cX4_go) (maxL := 3) (by decide) rfl (Nat.le_of_ble_eq_true rfl) ?_
  intro p e s m args below meth c ls A0 Q C hl hP hS hRet
  obtain ⟨⟨hx, hb, hml, hown, hts⟩, hG, hK, hD, hlocks⟩ := C
  have hin4 : ∀ w ∈ u_ws RX4 TX4 3, w ∈ wsX4_go := by decide +kernel
  have hf9 := hts (.fieldLink RX4 9 "ArmRoom$Tip" "x" "I") (by decide +kernel)
  have hf15 := hts (.fieldLink RX4 15 "ArmRoom$Tip" "y" "I") (by decide +kernel)
  have hl : lv_has ls 3 [(0, .ref t), (1, .int ds), (2, .int dr)] := hl
  refine lv_aload_n hx hb dX4_go_0 rfl (lv_at hl 0 rfl) ?_
  refine lv_dup hx hb dX4_go_1 rfl ?_
  refine va_get (D := D) (ci := 4) (v := .int x) (C := RX4) (T := TX4) (N := 3) hx hb hts hin4 hown hK hP 0 rfl rfl 0 (by decide) hf9 (fun _ h9 => h9) rfl dX4_go_2 ?_
  refine lv_iload_n hx hb dX4_go_5 rfl (lv_at hl 1 rfl) ?_
  refine lv_iload_n hx hb dX4_go_6 rfl (lv_at hl 2 rfl) ?_
  refine z_callSN (As := [.int dr]) (rest := [.int ds, .int x, .ref t]) ⟨hx, hb, hml, hown, hts⟩ hG hK hP hD hS (c_X5_cosine l D cI cJ dr ) (⟨va_cnB 1 hts gX4_go_X5_cosine_n21 rfl rfl rfl (hG.1.1 ("ArmRoom$Tip", 21, yX5_cosine, "ArmRoom") (List.mem_of_getElem? (i := 8) rfl)) (hts (.initialized RX5) (by decide +kernel)) (by decide +kernel) ⟨Nat.le_of_ble_eq_true rfl, Nat.le_of_ble_eq_true rfl⟩, hts (.static yX5_cosine) (by decide +kernel), trivial⟩) [] (by decide) rfl (fun _ => rfl) rfl hl.1 rfl (Nat.le_of_ble_eq_true rfl) dX4_go_7 ⟨Nat.le_of_ble_eq_true rfl, Nat.le_of_ble_eq_true rfl⟩ (fun u_1 H locs hu_2 hP hD hS => ?_)
  obtain ⟨r_3, rfl⟩ : ∃ z, z = u_1 := ⟨_, rfl⟩
  have hu_2 : (r_3 = zcs dr) := hu_2
  have e_4 := hu_2
  subst e_4
  have hP : va_P D vwCl [(t, .inr (4, [.int x, .int y, .int h]))] H := hP
  have hD : va_D A0 [(t, .inr (4, [.int x, .int y, .int h]))] := hD
  refine lv_imul hx hb dX4_go_10 ?_
  refine lv_iadd hx hb dX4_go_11 ?_
  refine va_put (D := D) (ci := 4) (v := .int (x + (ds * (zcs dr)))) (ty := .int) (C := RX4) (T := TX4) (N := 3) hx hb hts hin4 tyX4 tyX4_ok nmX4 hown hK hP hD hS 0 rfl rfl 0 (by decide) hf9 (fun _ h9 => h9) rfl (by decide +kernel) rfl rfl (Nat.le_of_ble_eq_true rfl) dX4_go_12 (fun H locs hP hD hS => ?_)
  have hP : va_P D vwCl [(t, .inr (4, [.int (x + (ds * (zcs dr))), .int y, .int h]))] H := hP
  have hD : va_D A0 [(t, .inr (4, [.int (x + (ds * (zcs dr))), .int y, .int h]))] := hD
  refine lv_aload_n hx hb dX4_go_15 rfl (lv_at hl 0 rfl) ?_
  refine lv_dup hx hb dX4_go_16 rfl ?_
  refine va_get (D := D) (ci := 4) (v := .int y) (C := RX4) (T := TX4) (N := 3) hx hb hts hin4 hown hK hP 0 rfl rfl 1 (by decide) hf15 (fun _ h9 => h9) rfl dX4_go_17 ?_
  refine lv_iload_n hx hb dX4_go_20 rfl (lv_at hl 1 rfl) ?_
  refine lv_iload_n hx hb dX4_go_21 rfl (lv_at hl 2 rfl) ?_
  refine z_callSN (As := [.int dr]) (rest := [.int ds, .int y, .ref t]) ⟨hx, hb, hml, hown, hts⟩ hG hK hP hD hS (c_X5_sine l D cI cJ dr ) (⟨va_cnB 1 hts gX4_go_X5_sine_n25 rfl rfl rfl (hG.1.1 ("ArmRoom$Tip", 25, yX5_sine, "ArmRoom") (List.mem_of_getElem? (i := 9) rfl)) (hts (.initialized RX5) (by decide +kernel)) (by decide +kernel) ⟨Nat.le_of_ble_eq_true rfl, Nat.le_of_ble_eq_true rfl⟩, hts (.static yX5_sine) (by decide +kernel), trivial⟩) [] (by decide) rfl (fun _ => rfl) rfl hl.1 rfl (Nat.le_of_ble_eq_true rfl) dX4_go_22 ⟨Nat.le_of_ble_eq_true rfl, Nat.le_of_ble_eq_true rfl⟩ (fun u_5 H locs hu_6 hP hD hS => ?_)
  obtain ⟨r_7, rfl⟩ : ∃ z, z = u_5 := ⟨_, rfl⟩
  have hu_6 : (r_7 = zsn dr) := hu_6
  have e_8 := hu_6
  subst e_8
  have hP : va_P D vwCl [(t, .inr (4, [.int (x + (ds * (zcs dr))), .int y, .int h]))] H := hP
  have hD : va_D A0 [(t, .inr (4, [.int (x + (ds * (zcs dr))), .int y, .int h]))] := hD
  refine lv_imul hx hb dX4_go_25 ?_
  refine lv_iadd hx hb dX4_go_26 ?_
  refine va_put (D := D) (ci := 4) (v := .int (y + (ds * (zsn dr)))) (ty := .int) (C := RX4) (T := TX4) (N := 3) hx hb hts hin4 tyX4 tyX4_ok nmX4 hown hK hP hD hS 0 rfl rfl 1 (by decide) hf15 (fun _ h9 => h9) rfl (by decide +kernel) rfl rfl (Nat.le_of_ble_eq_true rfl) dX4_go_27 (fun H locs hP hD hS => ?_)
  have hP : va_P D vwCl [(t, .inr (4, [.int (x + (ds * (zcs dr))), .int (y + (ds * (zsn dr))), .int h]))] H := hP
  have hD : va_D A0 [(t, .inr (4, [.int (x + (ds * (zcs dr))), .int (y + (ds * (zsn dr))), .int h]))] := hD
  exact hRet _ () _ _ _ trivial hP hS dX4_go_30

set_option maxHeartbeats 4000000 in
set_option maxRecDepth 100000 in
theorem c_X4_told (l : Launch) (D : va_G) (cI cJ : ClassId) (t : Nat) (x : Int32) (y : Int32) (h : Int32) (w : Int32)  : zM l yX4_told wsX4_told 0 D cI cJ [.ref t, .int w] [(t, .inr (4, [.int x, .int y, .int h]))] (fun (u : Int32) => (u = if w = 0 then x else if w = 1 then y else h)) (fun (u : Int32) => some (.int u)) (fun (u : Int32) => [(t, .inr (4, [.int x, .int y, .int h]))]) := by
  refine zM_i (cc := cX4_told) (maxL := 2) (r := fun (u : Int32) => u) (by decide) rfl (Nat.le_of_ble_eq_true rfl) ?_
  intro p e s m args below meth c ls A0 Q C hl hP hS hRet
  obtain ⟨⟨hx, hb, hml, hown, hts⟩, hG, hK, hD, hlocks⟩ := C
  have hin4 : ∀ w ∈ u_ws RX4 TX4 3, w ∈ wsX4_told := by decide +kernel
  have hf18 := hts (.fieldLink RX4 18 "ArmRoom$Tip" "heading" "I") (by decide +kernel)
  have hf15 := hts (.fieldLink RX4 15 "ArmRoom$Tip" "y" "I") (by decide +kernel)
  have hf9 := hts (.fieldLink RX4 9 "ArmRoom$Tip" "x" "I") (by decide +kernel)
  have hl : lv_has ls 2 [(0, .ref t), (1, .int w)] := hl
  refine lv_iload_n hx hb dX4_told_0 rfl (lv_at hl 1 rfl) ?_
  refine lv_if_ne (tgt := 9) hx hb dX4_told_1 (by decide) (fun c_1 => ?_) (fun c_1 => ?_)
  · refine lv_iload_n hx hb dX4_told_9 rfl (lv_at hl 1 rfl) ?_
    refine lv_iconst (v := 1) hx hb dX4_told_10 (by decide) ?_
    refine lv_icmp_ne (tgt := 21) hx hb dX4_told_11 (by decide) (fun c_11 => ?_) (fun c_11 => ?_)
    · refine lv_aload_n hx hb dX4_told_21 rfl (lv_at hl 0 rfl) ?_
      refine va_get (D := D) (ci := 4) (v := .int h) (C := RX4) (T := TX4) (N := 3) hx hb hts hin4 hown hK hP 0 rfl rfl 2 (by decide) hf18 (fun _ h9 => h9) rfl dX4_told_22 ?_
      exact hRet _ (h) _ _ _ (by first | (rw [if_pos c_1]) | (rw [if_neg c_1, if_pos c_11]) | (rw [if_neg c_1, if_neg c_11])) hP hS dX4_told_25
    · refine lv_aload_n hx hb dX4_told_14 rfl (lv_at hl 0 rfl) ?_
      refine va_get (D := D) (ci := 4) (v := .int y) (C := RX4) (T := TX4) (N := 3) hx hb hts hin4 hown hK hP 0 rfl rfl 1 (by decide) hf15 (fun _ h9 => h9) rfl dX4_told_15 ?_
      refine lv_goto (tgt := 25) hx hb dX4_told_18 (by decide) ?_
      exact hRet _ (y) _ _ _ (by first | (rw [if_pos c_1]) | (rw [if_neg c_1, if_pos c_11]) | (rw [if_neg c_1, if_neg c_11])) hP hS dX4_told_25
  · refine lv_aload_n hx hb dX4_told_4 rfl (lv_at hl 0 rfl) ?_
    refine va_get (D := D) (ci := 4) (v := .int x) (C := RX4) (T := TX4) (N := 3) hx hb hts hin4 hown hK hP 0 rfl rfl 0 (by decide) hf9 (fun _ h9 => h9) rfl dX4_told_5 ?_
    exact hRet _ (x) _ _ _ (by first | (rw [if_pos c_1]) | (rw [if_neg c_1, if_pos c_11]) | (rw [if_neg c_1, if_neg c_11])) hP hS dX4_told_8

set_option maxHeartbeats 4000000 in
set_option maxRecDepth 100000 in
theorem c_X4_followWith (l : Launch) (D : va_G) (cI cJ : ClassId) (t : Nat) (x : Int32) (y : Int32) (h : Int32) (a : Nat) (k1 : Nat) (k2 : Nat) (k3 : Nat) (k4 : Nat) (k5 : Nat) (n : Nat) (kd : Nat → Int32) (ln : Nat → Int32) (lo : Nat → Int32) (hi : Nat → Int32) (vl : Nat → Int32) (o : Int32) (ov : Int32) (hn : n ≤ 5) : zM l yX4_followWith wsX4_followWith 3 D cI cJ [.ref t, .ref a, .int o, .int ov] [(t, .inr (4, [.int x, .int y, .int h])), (a, .inr (0, [.ref k1, .ref k2, .ref k3, .ref k4, .ref k5, .int (nI n)])), (k1, .inl (cI, 5, .inl kd)), (k2, .inl (cI, 5, .inl ln)), (k3, .inl (cI, 5, .inl lo)), (k4, .inl (cI, 5, .inl hi)), (k5, .inl (cI, 5, .inl vl))] (fun (_ : Unit) => True) (fun (_ : Unit) => none) (fun (_ : Unit) => [(t, .inr (4, [.int (zX kd ln (zPo vl o ov) n), .int (zY kd ln (zPo vl o ov) n), .int (zH kd (zPo vl o ov) n)])), (a, .inr (0, [.ref k1, .ref k2, .ref k3, .ref k4, .ref k5, .int (nI n)])), (k1, .inl (cI, 5, .inl kd)), (k2, .inl (cI, 5, .inl ln)), (k3, .inl (cI, 5, .inl lo)), (k4, .inl (cI, 5, .inl hi)), (k5, .inl (cI, 5, .inl vl))]) := by
  refine zM_v (cc := cX4_followWith) (maxL := 6) (by decide) rfl (Nat.le_of_ble_eq_true rfl) ?_
  intro p e s m args below meth c ls A0 Q C hl hP hS hRet
  obtain ⟨⟨hx, hb, hml, hown, hts⟩, hG, hK, hD, hlocks⟩ := C
  have hin0 : ∀ w ∈ u_ws RX0 TX0 6, w ∈ wsX4_followWith := by decide +kernel
  have hin4 : ∀ w ∈ u_ws RX4 TX4 3, w ∈ wsX4_followWith := by decide +kernel
  have hf35 := hG.1.2.1 ("ArmRoom$Tip", 35, "ArmRoom$Arm", "count", "I", "ArmRoom") (List.mem_of_getElem? (i := 8) rfl)
  have hf40 := hG.1.2.1 ("ArmRoom$Tip", 40, "ArmRoom$Arm", "values", "[I", "ArmRoom") (List.mem_of_getElem? (i := 5) rfl)
  have hf18 := hts (.fieldLink RX4 18 "ArmRoom$Tip" "heading" "I") (by decide +kernel)
  have hl : lv_has ls 6 [(0, .ref t), (1, .ref a), (2, .int o), (3, .int ov)] := hl
  refine lv_aload_n hx hb dX4_followWith_0 rfl (lv_at hl 0 rfl) ?_
  refine z_callV (As := []) (rest := []) ⟨hx, hb, hml, hown, hts⟩ hG hK hP hD hS (c_X4_start l D cI cJ t x y h ) (cwV 0 hts gX4_followWith_X4_start rfl rfl rfl (by decide +kernel) ⟨Nat.le_of_ble_eq_true rfl, Nat.le_of_ble_eq_true rfl⟩) [0] (by decide) rfl (fun _ => rfl) 0 rfl rfl rfl rfl hl.1 rfl (Nat.le_of_ble_eq_true rfl) dX4_followWith_1 ⟨Nat.le_of_ble_eq_true rfl, Nat.le_of_ble_eq_true rfl⟩ (fun u_1 H locs hu_2 hP hD hS => ?_)
  have hP : va_P D vwCl [(t, .inr (4, [.int 0, .int 0, .int 0])), (a, .inr (0, [.ref k1, .ref k2, .ref k3, .ref k4, .ref k5, .int (nI n)])), (k1, .inl (cI, 5, .inl kd)), (k2, .inl (cI, 5, .inl ln)), (k3, .inl (cI, 5, .inl lo)), (k4, .inl (cI, 5, .inl hi)), (k5, .inl (cI, 5, .inl vl))] H := hP
  have hD : va_D A0 [(t, .inr (4, [.int 0, .int 0, .int 0])), (a, .inr (0, [.ref k1, .ref k2, .ref k3, .ref k4, .ref k5, .int (nI n)])), (k1, .inl (cI, 5, .inl kd)), (k2, .inl (cI, 5, .inl ln)), (k3, .inl (cI, 5, .inl lo)), (k4, .inl (cI, 5, .inl hi)), (k5, .inl (cI, 5, .inl vl))] := hD
  refine lv_iconst (v := 0) hx hb dX4_followWith_4 (by decide) ?_
  refine lv_istore (lv' := [(4, .int 0), (0, .ref t), (1, .ref a), (2, .int o), (3, .int ov)]) hx hb dX4_followWith_5 hl (by decide) rfl (fun ls hl => ?_)
  have lp_7_3 : ∀ (fu : Nat) (i : Nat), (i ≤ n) → (n - i < fu) → ∀ (H : Heap) (locs : List Loc), va_P D vwCl [(t, .inr (4, [.int (zX kd ln (zPo vl o ov) i), .int (zY kd ln (zPo vl o ov) i), .int (zH kd (zPo vl o ov) i)])), (a, .inr (0, [.ref k1, .ref k2, .ref k3, .ref k4, .ref k5, .int (nI n)])), (k1, .inl (cI, 5, .inl kd)), (k2, .inl (cI, 5, .inl ln)), (k3, .inl (cI, 5, .inl lo)), (k4, .inl (cI, 5, .inl hi)), (k5, .inl (cI, 5, .inl vl))] H → va_D A0 [(t, .inr (4, [.int (zX kd ln (zPo vl o ov) i), .int (zY kd ln (zPo vl o ov) i), .int (zH kd (zPo vl o ov) i)])), (a, .inr (0, [.ref k1, .ref k2, .ref k3, .ref k4, .ref k5, .int (nI n)])), (k1, .inl (cI, 5, .inl kd)), (k2, .inl (cI, 5, .inl ln)), (k3, .inl (cI, 5, .inl lo)), (k4, .inl (cI, 5, .inl hi)), (k5, .inl (cI, 5, .inl vl))] → va_S A0 s.heap H locs → ∀ (ls : Array Slot), lv_has ls 6 [(0, .ref t), (1, .ref a), (2, .int o), (3, .int ov), (4, .int (nI i))] → W p l e (zRm 3 0 0) s m args below meth c H locs 0 0 Q (F0 m 7 ls []) := by
    intro fu
    induction fu with
    | zero => intro i hi1 hfu; exact absurd hfu (Nat.not_lt_zero _)
    | succ fu ih_7_3 =>
      intro i hi1 hfu H locs hP hD hS ls hl
      refine lv_iload hx hb dX4_followWith_7 (lv_at hl 4 rfl) ?_
      refine lv_aload_n hx hb dX4_followWith_9 rfl (lv_at hl 1 rfl) ?_
      refine va_getN (D := D) (ci := 0) (v := .int (nI n)) (C := RX0) (T := TX0) (N := 6) hx hb hts hin0 hown hK hP 1 rfl rfl 5 (by decide) (va_Nw.use rfl hf35) (fun _ h9 => h9) rfl dX4_followWith_10 ?_
      refine lv_icmp_ge (tgt := 77) hx hb dX4_followWith_13 (by decide) (fun c_13 => ?_) (fun c_13 => ?_)
      · rw [nI_leI (by omega) (by omega)] at c_13
        obtain rfl : n = i := by omega
        exact hRet _ () _ _ _ trivial hP hS dX4_followWith_77
      · rw [nI_leI (by omega) (by omega)] at c_13
        refine lv_iload hx hb dX4_followWith_16 (lv_at hl 4 rfl) ?_
        refine lv_iload_n hx hb dX4_followWith_18 rfl (lv_at hl 2 rfl) ?_
        refine lv_icmp_ne (tgt := 26) hx hb dX4_followWith_19 (by decide) (fun c_19 => ?_) (fun c_19 => ?_)
        · refine lv_aload_n hx hb dX4_followWith_26 rfl (lv_at hl 1 rfl) ?_
          refine va_getN (D := D) (ci := 0) (v := .ref k5) (C := RX0) (T := TX0) (N := 6) hx hb hts hin0 hown hK hP 1 rfl rfl 4 (by decide) (va_Nw.use rfl hf40) (fun _ h9 => h9) rfl dX4_followWith_27 ?_
          refine lv_iload hx hb dX4_followWith_30 (lv_at hl 4 rfl) ?_
          refine z_iald hx hb hK hP 6 rfl (j := i) (by omega) (by decide) dX4_followWith_32 ?_
          refine z_topi (y := zPo vl o ov i) (by simp [zPo, c_19]) ?_
          refine lv_istore (lv' := [(5, .int (zPo vl o ov i)), (0, .ref t), (1, .ref a), (2, .int o), (3, .int ov), (4, .int (nI i))]) hx hb dX4_followWith_33 hl (by decide) rfl (fun ls hl => ?_)
          refine lv_aload_n hx hb dX4_followWith_35 rfl (lv_at hl 1 rfl) ?_
          refine lv_aload_n hx hb dX4_followWith_36 rfl (lv_at hl 1 rfl) ?_
          refine va_get (D := D) (ci := 4) (v := .int (zH kd (zPo vl o ov) i)) (C := RX4) (T := TX4) (N := 3) hx hb hts hin4 hown hK hP 0 rfl rfl 2 (by decide) hf18 (fun _ h9 => h9) rfl dX4_followWith_37 ?_
          refine lv_aload_n hx hb dX4_followWith_40 rfl (lv_at hl 2 rfl) ?_
          refine lv_iload hx hb dX4_followWith_41 (lv_at hl 5 rfl) ?_
          refine lv_iload hx hb dX4_followWith_43 (lv_at hl 0 rfl) ?_
          refine z_callVN (As := [.int (nI i), .int (zPo vl o ov i)]) (rest := [.int (zH kd (zPo vl o ov) i), .ref t]) ⟨hx, hb, hml, hown, hts⟩ hG hK hP hD hS (c_X0_turnOf l D cI cJ a k1 k2 k3 k4 k5 n kd ln lo hi vl i (zPo vl o ov i) (by first | assumption | omega | decide)) (⟨va_cnB 2 hts gX4_followWith_X0_turnOf_n44 rfl rfl rfl (hG.1.1 ("ArmRoom$Tip", 44, yX0_turnOf, "ArmRoom") (List.mem_of_getElem? (i := 6) rfl)) (hts (.initialized RX0) (by decide +kernel)) (by decide +kernel) ⟨Nat.le_of_ble_eq_true rfl, Nat.le_of_ble_eq_true rfl⟩, hts (.instanceMethod yX0_turnOf) (by decide +kernel), hts (.selects RX0 yX0_turnOf yX0_turnOf) (by decide +kernel)⟩) [1, 2, 3, 4, 5, 6] (by decide) rfl (fun _ => rfl) 1 rfl rfl rfl rfl hl.1 rfl (Nat.le_of_ble_eq_true rfl) dX4_followWith_45 ⟨Nat.le_of_ble_eq_true rfl, Nat.le_of_ble_eq_true rfl⟩ (fun u_4 H locs hu_5 hP hD hS => ?_)
          obtain ⟨r_6, rfl⟩ : ∃ z, z = u_4 := ⟨_, rfl⟩
          have hu_5 : (r_6 = zTurn kd i (zPo vl o ov i)) := hu_5
          have e_7 := hu_5
          subst e_7
          have hP : va_P D vwCl [(t, .inr (4, [.int (zX kd ln (zPo vl o ov) i), .int (zY kd ln (zPo vl o ov) i), .int (zH kd (zPo vl o ov) i)])), (a, .inr (0, [.ref k1, .ref k2, .ref k3, .ref k4, .ref k5, .int (nI n)])), (k1, .inl (cI, 5, .inl kd)), (k2, .inl (cI, 5, .inl ln)), (k3, .inl (cI, 5, .inl lo)), (k4, .inl (cI, 5, .inl hi)), (k5, .inl (cI, 5, .inl vl))] H := hP
          have hD : va_D A0 [(t, .inr (4, [.int (zX kd ln (zPo vl o ov) i), .int (zY kd ln (zPo vl o ov) i), .int (zH kd (zPo vl o ov) i)])), (a, .inr (0, [.ref k1, .ref k2, .ref k3, .ref k4, .ref k5, .int (nI n)])), (k1, .inl (cI, 5, .inl kd)), (k2, .inl (cI, 5, .inl ln)), (k3, .inl (cI, 5, .inl lo)), (k4, .inl (cI, 5, .inl hi)), (k5, .inl (cI, 5, .inl vl))] := hD
          refine lv_iadd hx hb dX4_followWith_48 ?_
          refine lv_bipush (v := 63) hx hb dX4_followWith_49 (by decide) ?_
          refine lv_iand hx hb dX4_followWith_51 ?_
          refine z_topi (y := zH kd (zPo vl o ov) (i + 1)) (rfl) ?_
          refine va_put (D := D) (ci := 4) (v := .int (zH kd (zPo vl o ov) (i + 1))) (ty := .int) (C := RX4) (T := TX4) (N := 3) hx hb hts hin4 tyX4 tyX4_ok nmX4 hown hK hP hD hS 0 rfl rfl 2 (by decide) hf18 (fun _ h9 => h9) rfl (by decide +kernel) rfl rfl (Nat.le_of_ble_eq_true rfl) dX4_followWith_52 (fun H locs hP hD hS => ?_)
          have hP : va_P D vwCl [(t, .inr (4, [.int (zX kd ln (zPo vl o ov) i), .int (zY kd ln (zPo vl o ov) i), .int (zH kd (zPo vl o ov) (i + 1))])), (a, .inr (0, [.ref k1, .ref k2, .ref k3, .ref k4, .ref k5, .int (nI n)])), (k1, .inl (cI, 5, .inl kd)), (k2, .inl (cI, 5, .inl ln)), (k3, .inl (cI, 5, .inl lo)), (k4, .inl (cI, 5, .inl hi)), (k5, .inl (cI, 5, .inl vl))] H := hP
          have hD : va_D A0 [(t, .inr (4, [.int (zX kd ln (zPo vl o ov) i), .int (zY kd ln (zPo vl o ov) i), .int (zH kd (zPo vl o ov) (i + 1))])), (a, .inr (0, [.ref k1, .ref k2, .ref k3, .ref k4, .ref k5, .int (nI n)])), (k1, .inl (cI, 5, .inl kd)), (k2, .inl (cI, 5, .inl ln)), (k3, .inl (cI, 5, .inl lo)), (k4, .inl (cI, 5, .inl hi)), (k5, .inl (cI, 5, .inl vl))] := hD
          refine lv_aload_n hx hb dX4_followWith_55 rfl (lv_at hl 1 rfl) ?_
          refine lv_aload_n hx hb dX4_followWith_56 rfl (lv_at hl 2 rfl) ?_
          refine lv_iload hx hb dX4_followWith_57 (lv_at hl 5 rfl) ?_
          refine lv_iload hx hb dX4_followWith_59 (lv_at hl 0 rfl) ?_
          refine z_callVN (As := [.int (nI i), .int (zPo vl o ov i)]) (rest := [.ref t]) ⟨hx, hb, hml, hown, hts⟩ hG hK hP hD hS (c_X0_distanceOf l D cI cJ a k1 k2 k3 k4 k5 n kd ln lo hi vl i (zPo vl o ov i) (by first | assumption | omega | decide)) (⟨va_cnB 2 hts gX4_followWith_X0_distanceOf_n48 rfl rfl rfl (hG.1.1 ("ArmRoom$Tip", 48, yX0_distanceOf, "ArmRoom") (List.mem_of_getElem? (i := 7) rfl)) (hts (.initialized RX0) (by decide +kernel)) (by decide +kernel) ⟨Nat.le_of_ble_eq_true rfl, Nat.le_of_ble_eq_true rfl⟩, hts (.instanceMethod yX0_distanceOf) (by decide +kernel), hts (.selects RX0 yX0_distanceOf yX0_distanceOf) (by decide +kernel)⟩) [1, 2, 3, 4, 5, 6] (by decide) rfl (fun _ => rfl) 1 rfl rfl rfl rfl hl.1 rfl (Nat.le_of_ble_eq_true rfl) dX4_followWith_61 ⟨Nat.le_of_ble_eq_true rfl, Nat.le_of_ble_eq_true rfl⟩ (fun u_8 H locs hu_9 hP hD hS => ?_)
          obtain ⟨r_10, rfl⟩ : ∃ z, z = u_8 := ⟨_, rfl⟩
          have hu_9 : (r_10 = zDist kd ln i (zPo vl o ov i)) := hu_9
          have e_11 := hu_9
          subst e_11
          have hP : va_P D vwCl [(t, .inr (4, [.int (zX kd ln (zPo vl o ov) i), .int (zY kd ln (zPo vl o ov) i), .int (zH kd (zPo vl o ov) (i + 1))])), (a, .inr (0, [.ref k1, .ref k2, .ref k3, .ref k4, .ref k5, .int (nI n)])), (k1, .inl (cI, 5, .inl kd)), (k2, .inl (cI, 5, .inl ln)), (k3, .inl (cI, 5, .inl lo)), (k4, .inl (cI, 5, .inl hi)), (k5, .inl (cI, 5, .inl vl))] H := hP
          have hD : va_D A0 [(t, .inr (4, [.int (zX kd ln (zPo vl o ov) i), .int (zY kd ln (zPo vl o ov) i), .int (zH kd (zPo vl o ov) (i + 1))])), (a, .inr (0, [.ref k1, .ref k2, .ref k3, .ref k4, .ref k5, .int (nI n)])), (k1, .inl (cI, 5, .inl kd)), (k2, .inl (cI, 5, .inl ln)), (k3, .inl (cI, 5, .inl lo)), (k4, .inl (cI, 5, .inl hi)), (k5, .inl (cI, 5, .inl vl))] := hD
          refine lv_aload_n hx hb dX4_followWith_64 rfl (lv_at hl 1 rfl) ?_
          refine va_get (D := D) (ci := 4) (v := .int (zH kd (zPo vl o ov) (i + 1))) (C := RX4) (T := TX4) (N := 3) hx hb hts hin4 hown hK hP 0 rfl rfl 2 (by decide) hf18 (fun _ h9 => h9) rfl dX4_followWith_65 ?_
          refine z_callV (As := [.int (zDist kd ln i (zPo vl o ov i)), .int (zH kd (zPo vl o ov) (i + 1))]) (rest := []) ⟨hx, hb, hml, hown, hts⟩ hG hK hP hD hS (c_X4_go l D cI cJ t (zX kd ln (zPo vl o ov) i) (zY kd ln (zPo vl o ov) i) (zH kd (zPo vl o ov) (i + 1)) (zDist kd ln i (zPo vl o ov i)) (zH kd (zPo vl o ov) (i + 1)) ) (cwV 2 hts gX4_followWith_X4_go rfl rfl rfl (by decide +kernel) ⟨Nat.le_of_ble_eq_true rfl, Nat.le_of_ble_eq_true rfl⟩) [0] (by decide) rfl (fun _ => rfl) 0 rfl rfl rfl rfl hl.1 rfl (Nat.le_of_ble_eq_true rfl) dX4_followWith_68 ⟨Nat.le_of_ble_eq_true rfl, Nat.le_of_ble_eq_true rfl⟩ (fun u_12 H locs hu_13 hP hD hS => ?_)
          have hP : va_P D vwCl [(t, .inr (4, [.int ((zX kd ln (zPo vl o ov) i) + (zDist kd ln i (zPo vl o ov i)) * zcs (zH kd (zPo vl o ov) (i + 1))), .int ((zY kd ln (zPo vl o ov) i) + (zDist kd ln i (zPo vl o ov i)) * zsn (zH kd (zPo vl o ov) (i + 1))), .int (zH kd (zPo vl o ov) (i + 1))])), (a, .inr (0, [.ref k1, .ref k2, .ref k3, .ref k4, .ref k5, .int (nI n)])), (k1, .inl (cI, 5, .inl kd)), (k2, .inl (cI, 5, .inl ln)), (k3, .inl (cI, 5, .inl lo)), (k4, .inl (cI, 5, .inl hi)), (k5, .inl (cI, 5, .inl vl))] H := hP
          have hD : va_D A0 [(t, .inr (4, [.int ((zX kd ln (zPo vl o ov) i) + (zDist kd ln i (zPo vl o ov i)) * zcs (zH kd (zPo vl o ov) (i + 1))), .int ((zY kd ln (zPo vl o ov) i) + (zDist kd ln i (zPo vl o ov i)) * zsn (zH kd (zPo vl o ov) (i + 1))), .int (zH kd (zPo vl o ov) (i + 1))])), (a, .inr (0, [.ref k1, .ref k2, .ref k3, .ref k4, .ref k5, .int (nI n)])), (k1, .inl (cI, 5, .inl kd)), (k2, .inl (cI, 5, .inl ln)), (k3, .inl (cI, 5, .inl lo)), (k4, .inl (cI, 5, .inl hi)), (k5, .inl (cI, 5, .inl vl))] := hD
          refine lv_iinc (v := nI (i + 1)) (lv' := [(4, .int (nI (i + 1))), (5, .int (zPo vl o ov i)), (0, .ref t), (1, .ref a), (2, .int o), (3, .int ov)]) hx hb dX4_followWith_71 hl (k := 5) rfl ((nI_succ _).symm) (by decide) rfl (fun ls hl => ?_)
          refine lv_goto (tgt := 7) hx hb dX4_followWith_74 (by decide) ?_
          exact ih_7_3 (i + 1) (by first | assumption | omega | rfl | simp_all) (by omega) _ _ hP hD hS _ (lv_sub hl [2, 3, 4, 5, 0] rfl)
        · refine lv_iload_n hx hb dX4_followWith_22 rfl (lv_at hl 3 rfl) ?_
          refine lv_goto (tgt := 33) hx hb dX4_followWith_23 (by decide) ?_
          refine z_topi (y := zPo vl o ov i) (by simp [zPo, c_19]) ?_
          refine lv_istore (lv' := [(5, .int (zPo vl o ov i)), (0, .ref t), (1, .ref a), (2, .int o), (3, .int ov), (4, .int (nI i))]) hx hb dX4_followWith_33 hl (by decide) rfl (fun ls hl => ?_)
          refine lv_aload_n hx hb dX4_followWith_35 rfl (lv_at hl 1 rfl) ?_
          refine lv_aload_n hx hb dX4_followWith_36 rfl (lv_at hl 1 rfl) ?_
          refine va_get (D := D) (ci := 4) (v := .int (zH kd (zPo vl o ov) i)) (C := RX4) (T := TX4) (N := 3) hx hb hts hin4 hown hK hP 0 rfl rfl 2 (by decide) hf18 (fun _ h9 => h9) rfl dX4_followWith_37 ?_
          refine lv_aload_n hx hb dX4_followWith_40 rfl (lv_at hl 2 rfl) ?_
          refine lv_iload hx hb dX4_followWith_41 (lv_at hl 5 rfl) ?_
          refine lv_iload hx hb dX4_followWith_43 (lv_at hl 0 rfl) ?_
          refine z_callVN (As := [.int (nI i), .int (zPo vl o ov i)]) (rest := [.int (zH kd (zPo vl o ov) i), .ref t]) ⟨hx, hb, hml, hown, hts⟩ hG hK hP hD hS (c_X0_turnOf l D cI cJ a k1 k2 k3 k4 k5 n kd ln lo hi vl i (zPo vl o ov i) (by first | assumption | omega | decide)) (⟨va_cnB 2 hts gX4_followWith_X0_turnOf_n44 rfl rfl rfl (hG.1.1 ("ArmRoom$Tip", 44, yX0_turnOf, "ArmRoom") (List.mem_of_getElem? (i := 6) rfl)) (hts (.initialized RX0) (by decide +kernel)) (by decide +kernel) ⟨Nat.le_of_ble_eq_true rfl, Nat.le_of_ble_eq_true rfl⟩, hts (.instanceMethod yX0_turnOf) (by decide +kernel), hts (.selects RX0 yX0_turnOf yX0_turnOf) (by decide +kernel)⟩) [1, 2, 3, 4, 5, 6] (by decide) rfl (fun _ => rfl) 1 rfl rfl rfl rfl hl.1 rfl (Nat.le_of_ble_eq_true rfl) dX4_followWith_45 ⟨Nat.le_of_ble_eq_true rfl, Nat.le_of_ble_eq_true rfl⟩ (fun u_14 H locs hu_15 hP hD hS => ?_)
          obtain ⟨r_16, rfl⟩ : ∃ z, z = u_14 := ⟨_, rfl⟩
          have hu_15 : (r_16 = zTurn kd i (zPo vl o ov i)) := hu_15
          have e_17 := hu_15
          subst e_17
          have hP : va_P D vwCl [(t, .inr (4, [.int (zX kd ln (zPo vl o ov) i), .int (zY kd ln (zPo vl o ov) i), .int (zH kd (zPo vl o ov) i)])), (a, .inr (0, [.ref k1, .ref k2, .ref k3, .ref k4, .ref k5, .int (nI n)])), (k1, .inl (cI, 5, .inl kd)), (k2, .inl (cI, 5, .inl ln)), (k3, .inl (cI, 5, .inl lo)), (k4, .inl (cI, 5, .inl hi)), (k5, .inl (cI, 5, .inl vl))] H := hP
          have hD : va_D A0 [(t, .inr (4, [.int (zX kd ln (zPo vl o ov) i), .int (zY kd ln (zPo vl o ov) i), .int (zH kd (zPo vl o ov) i)])), (a, .inr (0, [.ref k1, .ref k2, .ref k3, .ref k4, .ref k5, .int (nI n)])), (k1, .inl (cI, 5, .inl kd)), (k2, .inl (cI, 5, .inl ln)), (k3, .inl (cI, 5, .inl lo)), (k4, .inl (cI, 5, .inl hi)), (k5, .inl (cI, 5, .inl vl))] := hD
          refine lv_iadd hx hb dX4_followWith_48 ?_
          refine lv_bipush (v := 63) hx hb dX4_followWith_49 (by decide) ?_
          refine lv_iand hx hb dX4_followWith_51 ?_
          refine z_topi (y := zH kd (zPo vl o ov) (i + 1)) (rfl) ?_
          refine va_put (D := D) (ci := 4) (v := .int (zH kd (zPo vl o ov) (i + 1))) (ty := .int) (C := RX4) (T := TX4) (N := 3) hx hb hts hin4 tyX4 tyX4_ok nmX4 hown hK hP hD hS 0 rfl rfl 2 (by decide) hf18 (fun _ h9 => h9) rfl (by decide +kernel) rfl rfl (Nat.le_of_ble_eq_true rfl) dX4_followWith_52 (fun H locs hP hD hS => ?_)
          have hP : va_P D vwCl [(t, .inr (4, [.int (zX kd ln (zPo vl o ov) i), .int (zY kd ln (zPo vl o ov) i), .int (zH kd (zPo vl o ov) (i + 1))])), (a, .inr (0, [.ref k1, .ref k2, .ref k3, .ref k4, .ref k5, .int (nI n)])), (k1, .inl (cI, 5, .inl kd)), (k2, .inl (cI, 5, .inl ln)), (k3, .inl (cI, 5, .inl lo)), (k4, .inl (cI, 5, .inl hi)), (k5, .inl (cI, 5, .inl vl))] H := hP
          have hD : va_D A0 [(t, .inr (4, [.int (zX kd ln (zPo vl o ov) i), .int (zY kd ln (zPo vl o ov) i), .int (zH kd (zPo vl o ov) (i + 1))])), (a, .inr (0, [.ref k1, .ref k2, .ref k3, .ref k4, .ref k5, .int (nI n)])), (k1, .inl (cI, 5, .inl kd)), (k2, .inl (cI, 5, .inl ln)), (k3, .inl (cI, 5, .inl lo)), (k4, .inl (cI, 5, .inl hi)), (k5, .inl (cI, 5, .inl vl))] := hD
          refine lv_aload_n hx hb dX4_followWith_55 rfl (lv_at hl 1 rfl) ?_
          refine lv_aload_n hx hb dX4_followWith_56 rfl (lv_at hl 2 rfl) ?_
          refine lv_iload hx hb dX4_followWith_57 (lv_at hl 5 rfl) ?_
          refine lv_iload hx hb dX4_followWith_59 (lv_at hl 0 rfl) ?_
          refine z_callVN (As := [.int (nI i), .int (zPo vl o ov i)]) (rest := [.ref t]) ⟨hx, hb, hml, hown, hts⟩ hG hK hP hD hS (c_X0_distanceOf l D cI cJ a k1 k2 k3 k4 k5 n kd ln lo hi vl i (zPo vl o ov i) (by first | assumption | omega | decide)) (⟨va_cnB 2 hts gX4_followWith_X0_distanceOf_n48 rfl rfl rfl (hG.1.1 ("ArmRoom$Tip", 48, yX0_distanceOf, "ArmRoom") (List.mem_of_getElem? (i := 7) rfl)) (hts (.initialized RX0) (by decide +kernel)) (by decide +kernel) ⟨Nat.le_of_ble_eq_true rfl, Nat.le_of_ble_eq_true rfl⟩, hts (.instanceMethod yX0_distanceOf) (by decide +kernel), hts (.selects RX0 yX0_distanceOf yX0_distanceOf) (by decide +kernel)⟩) [1, 2, 3, 4, 5, 6] (by decide) rfl (fun _ => rfl) 1 rfl rfl rfl rfl hl.1 rfl (Nat.le_of_ble_eq_true rfl) dX4_followWith_61 ⟨Nat.le_of_ble_eq_true rfl, Nat.le_of_ble_eq_true rfl⟩ (fun u_18 H locs hu_19 hP hD hS => ?_)
          obtain ⟨r_20, rfl⟩ : ∃ z, z = u_18 := ⟨_, rfl⟩
          have hu_19 : (r_20 = zDist kd ln i (zPo vl o ov i)) := hu_19
          have e_21 := hu_19
          subst e_21
          have hP : va_P D vwCl [(t, .inr (4, [.int (zX kd ln (zPo vl o ov) i), .int (zY kd ln (zPo vl o ov) i), .int (zH kd (zPo vl o ov) (i + 1))])), (a, .inr (0, [.ref k1, .ref k2, .ref k3, .ref k4, .ref k5, .int (nI n)])), (k1, .inl (cI, 5, .inl kd)), (k2, .inl (cI, 5, .inl ln)), (k3, .inl (cI, 5, .inl lo)), (k4, .inl (cI, 5, .inl hi)), (k5, .inl (cI, 5, .inl vl))] H := hP
          have hD : va_D A0 [(t, .inr (4, [.int (zX kd ln (zPo vl o ov) i), .int (zY kd ln (zPo vl o ov) i), .int (zH kd (zPo vl o ov) (i + 1))])), (a, .inr (0, [.ref k1, .ref k2, .ref k3, .ref k4, .ref k5, .int (nI n)])), (k1, .inl (cI, 5, .inl kd)), (k2, .inl (cI, 5, .inl ln)), (k3, .inl (cI, 5, .inl lo)), (k4, .inl (cI, 5, .inl hi)), (k5, .inl (cI, 5, .inl vl))] := hD
          refine lv_aload_n hx hb dX4_followWith_64 rfl (lv_at hl 1 rfl) ?_
          refine va_get (D := D) (ci := 4) (v := .int (zH kd (zPo vl o ov) (i + 1))) (C := RX4) (T := TX4) (N := 3) hx hb hts hin4 hown hK hP 0 rfl rfl 2 (by decide) hf18 (fun _ h9 => h9) rfl dX4_followWith_65 ?_
          refine z_callV (As := [.int (zDist kd ln i (zPo vl o ov i)), .int (zH kd (zPo vl o ov) (i + 1))]) (rest := []) ⟨hx, hb, hml, hown, hts⟩ hG hK hP hD hS (c_X4_go l D cI cJ t (zX kd ln (zPo vl o ov) i) (zY kd ln (zPo vl o ov) i) (zH kd (zPo vl o ov) (i + 1)) (zDist kd ln i (zPo vl o ov i)) (zH kd (zPo vl o ov) (i + 1)) ) (cwV 2 hts gX4_followWith_X4_go rfl rfl rfl (by decide +kernel) ⟨Nat.le_of_ble_eq_true rfl, Nat.le_of_ble_eq_true rfl⟩) [0] (by decide) rfl (fun _ => rfl) 0 rfl rfl rfl rfl hl.1 rfl (Nat.le_of_ble_eq_true rfl) dX4_followWith_68 ⟨Nat.le_of_ble_eq_true rfl, Nat.le_of_ble_eq_true rfl⟩ (fun u_22 H locs hu_23 hP hD hS => ?_)
          have hP : va_P D vwCl [(t, .inr (4, [.int ((zX kd ln (zPo vl o ov) i) + (zDist kd ln i (zPo vl o ov i)) * zcs (zH kd (zPo vl o ov) (i + 1))), .int ((zY kd ln (zPo vl o ov) i) + (zDist kd ln i (zPo vl o ov i)) * zsn (zH kd (zPo vl o ov) (i + 1))), .int (zH kd (zPo vl o ov) (i + 1))])), (a, .inr (0, [.ref k1, .ref k2, .ref k3, .ref k4, .ref k5, .int (nI n)])), (k1, .inl (cI, 5, .inl kd)), (k2, .inl (cI, 5, .inl ln)), (k3, .inl (cI, 5, .inl lo)), (k4, .inl (cI, 5, .inl hi)), (k5, .inl (cI, 5, .inl vl))] H := hP
          have hD : va_D A0 [(t, .inr (4, [.int ((zX kd ln (zPo vl o ov) i) + (zDist kd ln i (zPo vl o ov i)) * zcs (zH kd (zPo vl o ov) (i + 1))), .int ((zY kd ln (zPo vl o ov) i) + (zDist kd ln i (zPo vl o ov i)) * zsn (zH kd (zPo vl o ov) (i + 1))), .int (zH kd (zPo vl o ov) (i + 1))])), (a, .inr (0, [.ref k1, .ref k2, .ref k3, .ref k4, .ref k5, .int (nI n)])), (k1, .inl (cI, 5, .inl kd)), (k2, .inl (cI, 5, .inl ln)), (k3, .inl (cI, 5, .inl lo)), (k4, .inl (cI, 5, .inl hi)), (k5, .inl (cI, 5, .inl vl))] := hD
          refine lv_iinc (v := nI (i + 1)) (lv' := [(4, .int (nI (i + 1))), (5, .int (zPo vl o ov i)), (0, .ref t), (1, .ref a), (2, .int o), (3, .int ov)]) hx hb dX4_followWith_71 hl (k := 5) rfl ((nI_succ _).symm) (by decide) rfl (fun ls hl => ?_)
          refine lv_goto (tgt := 7) hx hb dX4_followWith_74 (by decide) ?_
          exact ih_7_3 (i + 1) (by first | assumption | omega | rfl | simp_all) (by omega) _ _ hP hD hS _ (lv_sub hl [2, 3, 4, 5, 0] rfl)
  exact lp_7_3 ((n - 0) + 1) 0 (by first | assumption | omega | rfl | simp_all) (Nat.lt_succ_self _) _ _ hP hD hS _ (lv_sub hl [1, 2, 3, 4, 0] rfl)

set_option maxHeartbeats 4000000 in
set_option maxRecDepth 100000 in
theorem c_X4_follow (l : Launch) (D : va_G) (cI cJ : ClassId) (t : Nat) (x : Int32) (y : Int32) (h : Int32) (a : Nat) (k1 : Nat) (k2 : Nat) (k3 : Nat) (k4 : Nat) (k5 : Nat) (n : Nat) (kd : Nat → Int32) (ln : Nat → Int32) (lo : Nat → Int32) (hi : Nat → Int32) (vl : Nat → Int32) (hn : n ≤ 5) : zM l yX4_follow wsX4_follow 4 D cI cJ [.ref t, .ref a] [(t, .inr (4, [.int x, .int y, .int h])), (a, .inr (0, [.ref k1, .ref k2, .ref k3, .ref k4, .ref k5, .int (nI n)])), (k1, .inl (cI, 5, .inl kd)), (k2, .inl (cI, 5, .inl ln)), (k3, .inl (cI, 5, .inl lo)), (k4, .inl (cI, 5, .inl hi)), (k5, .inl (cI, 5, .inl vl))] (fun (u : Int32 × Int32 × Int32) => (u.1 = zX kd ln vl n) ∧ (u.2.1 = zY kd ln vl n) ∧ (u.2.2 = zH kd vl n)) (fun (u : Int32 × Int32 × Int32) => none) (fun (u : Int32 × Int32 × Int32) => [(t, .inr (4, [.int u.1, .int u.2.1, .int u.2.2])), (a, .inr (0, [.ref k1, .ref k2, .ref k3, .ref k4, .ref k5, .int (nI n)])), (k1, .inl (cI, 5, .inl kd)), (k2, .inl (cI, 5, .inl ln)), (k3, .inl (cI, 5, .inl lo)), (k4, .inl (cI, 5, .inl hi)), (k5, .inl (cI, 5, .inl vl))]) := by
  refine zM_v (cc := cX4_follow) (maxL := 2) (by decide) rfl (Nat.le_of_ble_eq_true rfl) ?_
  intro p e s m args below meth c ls A0 Q C hl hP hS hRet
  obtain ⟨⟨hx, hb, hml, hown, hts⟩, hG, hK, hD, hlocks⟩ := C
  have hl : lv_has ls 2 [(0, .ref t), (1, .ref a)] := hl
  refine lv_aload_n hx hb dX4_follow_0 rfl (lv_at hl 0 rfl) ?_
  refine lv_aload_n hx hb dX4_follow_1 rfl (lv_at hl 1 rfl) ?_
  refine lv_iconst (v := (-1)) hx hb dX4_follow_2 (by decide) ?_
  refine lv_iconst (v := 0) hx hb dX4_follow_3 (by decide) ?_
  refine z_callV (As := [.ref a, .int (-1), .int 0]) (rest := []) ⟨hx, hb, hml, hown, hts⟩ hG hK hP hD hS (c_X4_followWith l D cI cJ t x y h a k1 k2 k3 k4 k5 n kd ln lo hi vl (-1) 0 (by first | assumption | omega | decide)) (cwV 3 hts gX4_follow_X4_followWith rfl rfl rfl (by decide +kernel) ⟨Nat.le_of_ble_eq_true rfl, Nat.le_of_ble_eq_true rfl⟩) [0, 1, 2, 3, 4, 5, 6] (by decide) rfl (fun _ => rfl) 0 rfl rfl rfl rfl hl.1 rfl (Nat.le_of_ble_eq_true rfl) dX4_follow_4 ⟨Nat.le_of_ble_eq_true rfl, Nat.le_of_ble_eq_true rfl⟩ (fun u_1 H locs hu_2 hP hD hS => ?_)
  have hP : va_P D vwCl [(t, .inr (4, [.int (zX kd ln (zPo vl (-1) 0) n), .int (zY kd ln (zPo vl (-1) 0) n), .int (zH kd (zPo vl (-1) 0) n)])), (a, .inr (0, [.ref k1, .ref k2, .ref k3, .ref k4, .ref k5, .int (nI n)])), (k1, .inl (cI, 5, .inl kd)), (k2, .inl (cI, 5, .inl ln)), (k3, .inl (cI, 5, .inl lo)), (k4, .inl (cI, 5, .inl hi)), (k5, .inl (cI, 5, .inl vl))] H := hP
  have hD : va_D A0 [(t, .inr (4, [.int (zX kd ln (zPo vl (-1) 0) n), .int (zY kd ln (zPo vl (-1) 0) n), .int (zH kd (zPo vl (-1) 0) n)])), (a, .inr (0, [.ref k1, .ref k2, .ref k3, .ref k4, .ref k5, .int (nI n)])), (k1, .inl (cI, 5, .inl kd)), (k2, .inl (cI, 5, .inl ln)), (k3, .inl (cI, 5, .inl lo)), (k4, .inl (cI, 5, .inl hi)), (k5, .inl (cI, 5, .inl vl))] := hD
  exact hRet _ (zX kd ln (zPo vl (-1) 0) n, zY kd ln (zPo vl (-1) 0) n, zH kd (zPo vl (-1) 0) n) _ _ _ ⟨zX_congr (fun j hj => zPo_m1 hn j hj), zY_congr (fun j hj => zPo_m1 hn j hj), zH_congr (fun j hj => zPo_m1 hn j hj)⟩ hP hS dX4_follow_7

set_option maxHeartbeats 4000000 in
set_option maxRecDepth 100000 in
theorem c_X4_followBack (l : Launch) (D : va_G) (cI cJ : ClassId) (t : Nat) (x : Int32) (y : Int32) (h : Int32) (a : Nat) (k1 : Nat) (k2 : Nat) (k3 : Nat) (k4 : Nat) (k5 : Nat) (n : Nat) (kd : Nat → Int32) (ln : Nat → Int32) (lo : Nat → Int32) (hi : Nat → Int32) (vl : Nat → Int32) (hn : n ≤ 5) : zM l yX4_followBack wsX4_followBack 3 D cI cJ [.ref t, .ref a] [(t, .inr (4, [.int x, .int y, .int h])), (a, .inr (0, [.ref k1, .ref k2, .ref k3, .ref k4, .ref k5, .int (nI n)])), (k1, .inl (cI, 5, .inl kd)), (k2, .inl (cI, 5, .inl ln)), (k3, .inl (cI, 5, .inl lo)), (k4, .inl (cI, 5, .inl hi)), (k5, .inl (cI, 5, .inl vl))] (fun (u : Int32 × Int32 × Int32) => (u.1 = zX kd ln vl n) ∧ (u.2.1 = zY kd ln vl n) ∧ (u.2.2 = zH kd vl n)) (fun (u : Int32 × Int32 × Int32) => none) (fun (u : Int32 × Int32 × Int32) => [(t, .inr (4, [.int u.1, .int u.2.1, .int u.2.2])), (a, .inr (0, [.ref k1, .ref k2, .ref k3, .ref k4, .ref k5, .int (nI n)])), (k1, .inl (cI, 5, .inl kd)), (k2, .inl (cI, 5, .inl ln)), (k3, .inl (cI, 5, .inl lo)), (k4, .inl (cI, 5, .inl hi)), (k5, .inl (cI, 5, .inl vl))]) := by
  refine zM_v (cc := cX4_followBack) (maxL := 3) (by decide) rfl (Nat.le_of_ble_eq_true rfl) ?_
  intro p e s m args below meth c ls A0 Q C hl hP hS hRet
  obtain ⟨⟨hx, hb, hml, hown, hts⟩, hG, hK, hD, hlocks⟩ := C
  have hin0 : ∀ w ∈ u_ws RX0 TX0 6, w ∈ wsX4_followBack := by decide +kernel
  have hin4 : ∀ w ∈ u_ws RX4 TX4 3, w ∈ wsX4_followBack := by decide +kernel
  have hf35 := hG.1.2.1 ("ArmRoom$Tip", 35, "ArmRoom$Arm", "count", "I", "ArmRoom") (List.mem_of_getElem? (i := 8) rfl)
  have hf18 := hts (.fieldLink RX4 18 "ArmRoom$Tip" "heading" "I") (by decide +kernel)
  have hf40 := hG.1.2.1 ("ArmRoom$Tip", 40, "ArmRoom$Arm", "values", "[I", "ArmRoom") (List.mem_of_getElem? (i := 5) rfl)
  have hl : lv_has ls 3 [(0, .ref t), (1, .ref a)] := hl
  refine lv_aload_n hx hb dX4_followBack_0 rfl (lv_at hl 0 rfl) ?_
  refine z_callV (As := []) (rest := []) ⟨hx, hb, hml, hown, hts⟩ hG hK hP hD hS (c_X4_start l D cI cJ t x y h ) (cwV 0 hts gX4_followBack_X4_start rfl rfl rfl (by decide +kernel) ⟨Nat.le_of_ble_eq_true rfl, Nat.le_of_ble_eq_true rfl⟩) [0] (by decide) rfl (fun _ => rfl) 0 rfl rfl rfl rfl hl.1 rfl (Nat.le_of_ble_eq_true rfl) dX4_followBack_1 ⟨Nat.le_of_ble_eq_true rfl, Nat.le_of_ble_eq_true rfl⟩ (fun u_1 H locs hu_2 hP hD hS => ?_)
  have hP : va_P D vwCl [(t, .inr (4, [.int 0, .int 0, .int 0])), (a, .inr (0, [.ref k1, .ref k2, .ref k3, .ref k4, .ref k5, .int (nI n)])), (k1, .inl (cI, 5, .inl kd)), (k2, .inl (cI, 5, .inl ln)), (k3, .inl (cI, 5, .inl lo)), (k4, .inl (cI, 5, .inl hi)), (k5, .inl (cI, 5, .inl vl))] H := hP
  have hD : va_D A0 [(t, .inr (4, [.int 0, .int 0, .int 0])), (a, .inr (0, [.ref k1, .ref k2, .ref k3, .ref k4, .ref k5, .int (nI n)])), (k1, .inl (cI, 5, .inl kd)), (k2, .inl (cI, 5, .inl ln)), (k3, .inl (cI, 5, .inl lo)), (k4, .inl (cI, 5, .inl hi)), (k5, .inl (cI, 5, .inl vl))] := hD
  refine lv_aload_n hx hb dX4_followBack_4 rfl (lv_at hl 1 rfl) ?_
  refine va_getN (D := D) (ci := 0) (v := .int (nI n)) (C := RX0) (T := TX0) (N := 6) hx hb hts hin0 hown hK hP 1 rfl rfl 5 (by decide) (va_Nw.use rfl hf35) (fun _ h9 => h9) rfl dX4_followBack_5 ?_
  refine lv_iconst (v := 1) hx hb dX4_followBack_8 (by decide) ?_
  refine lv_isub hx hb dX4_followBack_9 ?_
  refine lv_istore_n (lv' := [(2, .int (nI n - 1)), (0, .ref t), (1, .ref a)]) hx hb dX4_followBack_10 rfl hl (by decide) rfl (fun ls hl => ?_)
  have lp_11_3 : ∀ (fu : Nat) (i : Nat) (xv : Int32) (yv : Int32), (i ≤ n) → (xv + zX kd ln vl i = zX kd ln vl n) → (yv + zY kd ln vl i = zY kd ln vl n) → (i < fu) → ∀ (H : Heap) (locs : List Loc), va_P D vwCl [(t, .inr (4, [.int xv, .int yv, .int 0])), (a, .inr (0, [.ref k1, .ref k2, .ref k3, .ref k4, .ref k5, .int (nI n)])), (k1, .inl (cI, 5, .inl kd)), (k2, .inl (cI, 5, .inl ln)), (k3, .inl (cI, 5, .inl lo)), (k4, .inl (cI, 5, .inl hi)), (k5, .inl (cI, 5, .inl vl))] H → va_D A0 [(t, .inr (4, [.int xv, .int yv, .int 0])), (a, .inr (0, [.ref k1, .ref k2, .ref k3, .ref k4, .ref k5, .int (nI n)])), (k1, .inl (cI, 5, .inl kd)), (k2, .inl (cI, 5, .inl ln)), (k3, .inl (cI, 5, .inl lo)), (k4, .inl (cI, 5, .inl hi)), (k5, .inl (cI, 5, .inl vl))] → va_S A0 s.heap H locs → ∀ (ls : Array Slot), lv_has ls 3 [(0, .ref t), (1, .ref a), (2, .int (nI i - 1))] → W p l e (zRm 3 0 0) s m args below meth c H locs 0 0 Q (F0 m 11 ls []) := by
    intro fu
    induction fu with
    | zero => intro i xv yv hi1 hxv hyv hfu; exact absurd hfu (Nat.not_lt_zero _)
    | succ fu ih_11_3 =>
      intro i xv yv hi1 hxv hyv hfu H locs hP hD hS ls hl
      refine lv_iload_n hx hb dX4_followBack_11 rfl (lv_at hl 2 rfl) ?_
      refine lv_if_lt (tgt := 41) hx hb dX4_followBack_12 (by decide) (fun c_12 => ?_) (fun c_12 => ?_)
      · have c_12 := (zlt0_pred (by omega)).mp c_12
        subst c_12
        have ex0 : xv = zX kd ln vl n := by rw [← hxv]; exact (Int32.add_zero xv).symm
        have ey0 : yv = zY kd ln vl n := by rw [← hyv]; exact (Int32.add_zero yv).symm
        refine lv_aload_n hx hb dX4_followBack_41 rfl (lv_at hl 0 rfl) ?_
        refine lv_aload_n hx hb dX4_followBack_42 rfl (lv_at hl 1 rfl) ?_
        refine lv_aload_n hx hb dX4_followBack_43 rfl (lv_at hl 1 rfl) ?_
        refine va_getN (D := D) (ci := 0) (v := .int (nI n)) (C := RX0) (T := TX0) (N := 6) hx hb hts hin0 hown hK hP 1 rfl rfl 5 (by decide) (va_Nw.use rfl hf35) (fun _ h9 => h9) rfl dX4_followBack_44 ?_
        refine lv_iconst (v := 1) hx hb dX4_followBack_47 (by decide) ?_
        refine lv_isub hx hb dX4_followBack_48 ?_
        refine z_callVN (As := [.int (nI n - 1)]) (rest := [.ref t]) ⟨hx, hb, hml, hown, hts⟩ hG hK hP hD hS (c_X0_headingAt l D cI cJ a k1 k2 k3 k4 k5 n kd ln lo hi vl n (by first | assumption | omega | decide) (by first | assumption | omega | decide)) (⟨va_cnB 1 hts gX4_followBack_X0_headingAt_n55 rfl rfl rfl (hG.1.1 ("ArmRoom$Tip", 55, yX0_headingAt, "ArmRoom") (List.mem_of_getElem? (i := 16) rfl)) (hts (.initialized RX0) (by decide +kernel)) (by decide +kernel) ⟨Nat.le_of_ble_eq_true rfl, Nat.le_of_ble_eq_true rfl⟩, hts (.instanceMethod yX0_headingAt) (by decide +kernel), hts (.selects RX0 yX0_headingAt yX0_headingAt) (by decide +kernel)⟩) [1, 2, 3, 4, 5, 6] (by decide) rfl (fun _ => rfl) 1 rfl rfl rfl rfl hl.1 rfl (Nat.le_of_ble_eq_true rfl) dX4_followBack_49 ⟨Nat.le_of_ble_eq_true rfl, Nat.le_of_ble_eq_true rfl⟩ (fun u_4 H locs hu_5 hP hD hS => ?_)
        obtain ⟨r_6, rfl⟩ : ∃ z, z = u_4 := ⟨_, rfl⟩
        have hu_5 : (r_6 = zH kd vl n) := hu_5
        have e_7 := hu_5
        subst e_7
        have hP : va_P D vwCl [(t, .inr (4, [.int xv, .int yv, .int 0])), (a, .inr (0, [.ref k1, .ref k2, .ref k3, .ref k4, .ref k5, .int (nI n)])), (k1, .inl (cI, 5, .inl kd)), (k2, .inl (cI, 5, .inl ln)), (k3, .inl (cI, 5, .inl lo)), (k4, .inl (cI, 5, .inl hi)), (k5, .inl (cI, 5, .inl vl))] H := hP
        have hD : va_D A0 [(t, .inr (4, [.int xv, .int yv, .int 0])), (a, .inr (0, [.ref k1, .ref k2, .ref k3, .ref k4, .ref k5, .int (nI n)])), (k1, .inl (cI, 5, .inl kd)), (k2, .inl (cI, 5, .inl ln)), (k3, .inl (cI, 5, .inl lo)), (k4, .inl (cI, 5, .inl hi)), (k5, .inl (cI, 5, .inl vl))] := hD
        refine va_put (D := D) (ci := 4) (v := .int (zH kd vl n)) (ty := .int) (C := RX4) (T := TX4) (N := 3) hx hb hts hin4 tyX4 tyX4_ok nmX4 hown hK hP hD hS 0 rfl rfl 2 (by decide) hf18 (fun _ h9 => h9) rfl (by decide +kernel) rfl rfl (Nat.le_of_ble_eq_true rfl) dX4_followBack_52 (fun H locs hP hD hS => ?_)
        have hP : va_P D vwCl [(t, .inr (4, [.int xv, .int yv, .int (zH kd vl n)])), (a, .inr (0, [.ref k1, .ref k2, .ref k3, .ref k4, .ref k5, .int (nI n)])), (k1, .inl (cI, 5, .inl kd)), (k2, .inl (cI, 5, .inl ln)), (k3, .inl (cI, 5, .inl lo)), (k4, .inl (cI, 5, .inl hi)), (k5, .inl (cI, 5, .inl vl))] H := hP
        have hD : va_D A0 [(t, .inr (4, [.int xv, .int yv, .int (zH kd vl n)])), (a, .inr (0, [.ref k1, .ref k2, .ref k3, .ref k4, .ref k5, .int (nI n)])), (k1, .inl (cI, 5, .inl kd)), (k2, .inl (cI, 5, .inl ln)), (k3, .inl (cI, 5, .inl lo)), (k4, .inl (cI, 5, .inl hi)), (k5, .inl (cI, 5, .inl vl))] := hD
        exact hRet _ (xv, yv, zH kd vl n) _ _ _ ⟨ex0, ey0, rfl⟩ hP hS dX4_followBack_55
      · have c_12 : ¬ i = 0 := fun h => c_12 ((zlt0_pred (by omega)).mpr h)
        obtain ⟨k, rfl⟩ : ∃ k, i = k + 1 := ⟨i - 1, by omega⟩
        rw [nI_pred] at hl
        refine lv_aload_n hx hb dX4_followBack_15 rfl (lv_at hl 0 rfl) ?_
        refine lv_aload_n hx hb dX4_followBack_16 rfl (lv_at hl 1 rfl) ?_
        refine lv_iload_n hx hb dX4_followBack_17 rfl (lv_at hl 2 rfl) ?_
        refine lv_aload_n hx hb dX4_followBack_18 rfl (lv_at hl 1 rfl) ?_
        refine va_getN (D := D) (ci := 0) (v := .ref k5) (C := RX0) (T := TX0) (N := 6) hx hb hts hin0 hown hK hP 1 rfl rfl 4 (by decide) (va_Nw.use rfl hf40) (fun _ h9 => h9) rfl dX4_followBack_19 ?_
        refine lv_iload_n hx hb dX4_followBack_22 rfl (lv_at hl 2 rfl) ?_
        refine z_iald hx hb hK hP 6 rfl (j := k) (by omega) (by decide) dX4_followBack_23 ?_
        refine z_callVN (As := [.int (nI k), .int (vl k)]) (rest := [.ref t]) ⟨hx, hb, hml, hown, hts⟩ hG hK hP hD hS (c_X0_distanceOf l D cI cJ a k1 k2 k3 k4 k5 n kd ln lo hi vl k (vl k) (by first | assumption | omega | decide)) (⟨va_cnB 2 hts gX4_followBack_X0_distanceOf_n48 rfl rfl rfl (hG.1.1 ("ArmRoom$Tip", 48, yX0_distanceOf, "ArmRoom") (List.mem_of_getElem? (i := 7) rfl)) (hts (.initialized RX0) (by decide +kernel)) (by decide +kernel) ⟨Nat.le_of_ble_eq_true rfl, Nat.le_of_ble_eq_true rfl⟩, hts (.instanceMethod yX0_distanceOf) (by decide +kernel), hts (.selects RX0 yX0_distanceOf yX0_distanceOf) (by decide +kernel)⟩) [1, 2, 3, 4, 5, 6] (by decide) rfl (fun _ => rfl) 1 rfl rfl rfl rfl hl.1 rfl (Nat.le_of_ble_eq_true rfl) dX4_followBack_24 ⟨Nat.le_of_ble_eq_true rfl, Nat.le_of_ble_eq_true rfl⟩ (fun u_8 H locs hu_9 hP hD hS => ?_)
        obtain ⟨r_10, rfl⟩ : ∃ z, z = u_8 := ⟨_, rfl⟩
        have hu_9 : (r_10 = zDist kd ln k (vl k)) := hu_9
        have e_11 := hu_9
        subst e_11
        have hP : va_P D vwCl [(t, .inr (4, [.int xv, .int yv, .int 0])), (a, .inr (0, [.ref k1, .ref k2, .ref k3, .ref k4, .ref k5, .int (nI n)])), (k1, .inl (cI, 5, .inl kd)), (k2, .inl (cI, 5, .inl ln)), (k3, .inl (cI, 5, .inl lo)), (k4, .inl (cI, 5, .inl hi)), (k5, .inl (cI, 5, .inl vl))] H := hP
        have hD : va_D A0 [(t, .inr (4, [.int xv, .int yv, .int 0])), (a, .inr (0, [.ref k1, .ref k2, .ref k3, .ref k4, .ref k5, .int (nI n)])), (k1, .inl (cI, 5, .inl kd)), (k2, .inl (cI, 5, .inl ln)), (k3, .inl (cI, 5, .inl lo)), (k4, .inl (cI, 5, .inl hi)), (k5, .inl (cI, 5, .inl vl))] := hD
        refine lv_aload_n hx hb dX4_followBack_27 rfl (lv_at hl 1 rfl) ?_
        refine lv_iload_n hx hb dX4_followBack_28 rfl (lv_at hl 2 rfl) ?_
        refine z_topi (y := nI (k + 1) - 1) ((nI_pred _).symm) ?_
        refine z_callVN (As := [.int (nI (k + 1) - 1)]) (rest := [.int (zDist kd ln k (vl k)), .ref t]) ⟨hx, hb, hml, hown, hts⟩ hG hK hP hD hS (c_X0_headingAt l D cI cJ a k1 k2 k3 k4 k5 n kd ln lo hi vl (k + 1) (by first | assumption | omega | decide) (by first | assumption | omega | decide)) (⟨va_cnB 1 hts gX4_followBack_X0_headingAt_n55 rfl rfl rfl (hG.1.1 ("ArmRoom$Tip", 55, yX0_headingAt, "ArmRoom") (List.mem_of_getElem? (i := 16) rfl)) (hts (.initialized RX0) (by decide +kernel)) (by decide +kernel) ⟨Nat.le_of_ble_eq_true rfl, Nat.le_of_ble_eq_true rfl⟩, hts (.instanceMethod yX0_headingAt) (by decide +kernel), hts (.selects RX0 yX0_headingAt yX0_headingAt) (by decide +kernel)⟩) [1, 2, 3, 4, 5, 6] (by decide) rfl (fun _ => rfl) 1 rfl rfl rfl rfl hl.1 rfl (Nat.le_of_ble_eq_true rfl) dX4_followBack_29 ⟨Nat.le_of_ble_eq_true rfl, Nat.le_of_ble_eq_true rfl⟩ (fun u_12 H locs hu_13 hP hD hS => ?_)
        obtain ⟨r_14, rfl⟩ : ∃ z, z = u_12 := ⟨_, rfl⟩
        have hu_13 : (r_14 = zH kd vl (k + 1)) := hu_13
        have e_15 := hu_13
        subst e_15
        have hP : va_P D vwCl [(t, .inr (4, [.int xv, .int yv, .int 0])), (a, .inr (0, [.ref k1, .ref k2, .ref k3, .ref k4, .ref k5, .int (nI n)])), (k1, .inl (cI, 5, .inl kd)), (k2, .inl (cI, 5, .inl ln)), (k3, .inl (cI, 5, .inl lo)), (k4, .inl (cI, 5, .inl hi)), (k5, .inl (cI, 5, .inl vl))] H := hP
        have hD : va_D A0 [(t, .inr (4, [.int xv, .int yv, .int 0])), (a, .inr (0, [.ref k1, .ref k2, .ref k3, .ref k4, .ref k5, .int (nI n)])), (k1, .inl (cI, 5, .inl kd)), (k2, .inl (cI, 5, .inl ln)), (k3, .inl (cI, 5, .inl lo)), (k4, .inl (cI, 5, .inl hi)), (k5, .inl (cI, 5, .inl vl))] := hD
        refine z_callV (As := [.int (zDist kd ln k (vl k)), .int (zH kd vl (k + 1))]) (rest := []) ⟨hx, hb, hml, hown, hts⟩ hG hK hP hD hS (c_X4_go l D cI cJ t xv yv 0 (zDist kd ln k (vl k)) (zH kd vl (k + 1)) ) (cwV 2 hts gX4_followBack_X4_go rfl rfl rfl (by decide +kernel) ⟨Nat.le_of_ble_eq_true rfl, Nat.le_of_ble_eq_true rfl⟩) [0] (by decide) rfl (fun _ => rfl) 0 rfl rfl rfl rfl hl.1 rfl (Nat.le_of_ble_eq_true rfl) dX4_followBack_32 ⟨Nat.le_of_ble_eq_true rfl, Nat.le_of_ble_eq_true rfl⟩ (fun u_16 H locs hu_17 hP hD hS => ?_)
        have hP : va_P D vwCl [(t, .inr (4, [.int (xv + (zDist kd ln k (vl k)) * zcs (zH kd vl (k + 1))), .int (yv + (zDist kd ln k (vl k)) * zsn (zH kd vl (k + 1))), .int 0])), (a, .inr (0, [.ref k1, .ref k2, .ref k3, .ref k4, .ref k5, .int (nI n)])), (k1, .inl (cI, 5, .inl kd)), (k2, .inl (cI, 5, .inl ln)), (k3, .inl (cI, 5, .inl lo)), (k4, .inl (cI, 5, .inl hi)), (k5, .inl (cI, 5, .inl vl))] H := hP
        have hD : va_D A0 [(t, .inr (4, [.int (xv + (zDist kd ln k (vl k)) * zcs (zH kd vl (k + 1))), .int (yv + (zDist kd ln k (vl k)) * zsn (zH kd vl (k + 1))), .int 0])), (a, .inr (0, [.ref k1, .ref k2, .ref k3, .ref k4, .ref k5, .int (nI n)])), (k1, .inl (cI, 5, .inl kd)), (k2, .inl (cI, 5, .inl ln)), (k3, .inl (cI, 5, .inl lo)), (k4, .inl (cI, 5, .inl hi)), (k5, .inl (cI, 5, .inl vl))] := hD
        refine lv_iinc (v := nI k - 1) (lv' := [(2, .int (nI k - 1)), (0, .ref t), (1, .ref a)]) hx hb dX4_followBack_35 hl (k := 2) rfl (zdec _) (by decide) rfl (fun ls hl => ?_)
        refine lv_goto (tgt := 11) hx hb dX4_followBack_38 (by decide) ?_
        exact ih_11_3 k (xv + (zDist kd ln k (vl k)) * zcs (zH kd vl (k + 1))) (yv + (zDist kd ln k (vl k)) * zsn (zH kd vl (k + 1))) (by first | assumption | omega | rfl | simp_all) (zback _ _ _ _ hxv) (zback _ _ _ _ hyv) (by omega) _ _ hP hD hS _ (lv_sub hl [1, 2, 0] rfl)
  exact lp_11_3 (n + 1) n 0 0 (by first | assumption | omega | rfl | simp_all) (Int32.zero_add _) (Int32.zero_add _) (Nat.lt_succ_self _) _ _ hP hD hS _ (lv_sub hl [1, 2, 0] rfl)
