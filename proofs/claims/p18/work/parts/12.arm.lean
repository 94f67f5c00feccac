set_option maxHeartbeats 4000000 in
set_option maxRecDepth 100000 in
theorem c_X5_sine (l : Launch) (D : va_G) (cI cJ : ClassId) (d : Int32)  : zM l yX5_sine wsX5_sine 0 D cI cJ [.int d] [] (fun (u : Int32) => (u = zsn d)) (fun (u : Int32) => some (.int u)) (fun (u : Int32) => []) := by
  refine zM_i (cc := cX5_sine) (maxL := 3) (r := fun (u : Int32) => u) (by decide) rfl (Nat.le_of_ble_eq_true rfl) ?_
  intro p e s m args below meth c ls A0 Q C hl hP hS hRet
  obtain ⟨⟨hx, hb, hml, hown, hts⟩, hG, hK, hD, hlocks⟩ := C
  have hl : lv_has ls 3 [(0, .int d)] := hl
  refine lv_iload_n hx hb dX5_sine_0 rfl (lv_at hl 0 rfl) ?_
  refine lv_bipush (v := 31) hx hb dX5_sine_1 (by decide) ?_
  refine lv_iand hx hb dX5_sine_3 ?_
  refine lv_istore_n (lv' := [(1, .int (d &&& 31)), (0, .int d)]) hx hb dX5_sine_4 rfl hl (by decide) rfl (fun ls hl => ?_)
  obtain ⟨tS, hZs, hTs⟩ := hG.2.1
  refine va_gets (own := RX5) (ref := "ArmRoom") hx hb hZs hS hown (hts (.fieldLink RX5 199 "ArmRoom" "SINES" "[I") (by decide +kernel)) (fun _ h9 => h9) dX5_sine_5 ?_
  refine lv_iload_n hx hb dX5_sine_8 rfl (lv_at hl 0 rfl) ?_
  refine lv_bipush (v := 16) hx hb dX5_sine_9 (by decide) ?_
  refine lv_icmp_gt (tgt := 18) hx hb dX5_sine_11 (by decide) (fun c_11 => ?_) (fun c_11 => ?_)
  · refine lv_bipush (v := 32) hx hb dX5_sine_18 (by decide) ?_
    refine lv_iload_n hx hb dX5_sine_20 rfl (lv_at hl 0 rfl) ?_
    refine lv_isub hx hb dX5_sine_21 ?_
    refine va_ti (v := .int (zSin (32 - (d &&& 31)).toNatClampNeg)) hx hb hTs hS (zin2 c_11) rfl dX5_sine_22 ?_
    refine lv_istore_n (lv' := [(2, .int (zSin (32 - (d &&& 31)).toNatClampNeg)), (1, .int (d &&& 31)), (0, .int d)]) hx hb dX5_sine_23 rfl hl (by decide) rfl (fun ls hl => ?_)
    refine lv_iload_n hx hb dX5_sine_24 rfl (lv_at hl 2 rfl) ?_
    refine lv_bipush (v := 32) hx hb dX5_sine_25 (by decide) ?_
    refine lv_iand hx hb dX5_sine_27 ?_
    refine lv_if_ne (tgt := 35) hx hb dX5_sine_28 (by decide) (fun c_28 => ?_) (fun c_28 => ?_)
    · refine lv_iload_n hx hb dX5_sine_35 rfl (lv_at hl 0 rfl) ?_
      refine lv_ineg hx hb dX5_sine_36 ?_
      exact hRet _ (-(zSin (32 - (d &&& 31)).toNatClampNeg)) _ _ _ (by simp [zsn, zS, c_11, c_28]) hP hS dX5_sine_37
    · refine lv_iload_n hx hb dX5_sine_31 rfl (lv_at hl 0 rfl) ?_
      refine lv_goto (tgt := 37) hx hb dX5_sine_32 (by decide) ?_
      exact hRet _ (zSin (32 - (d &&& 31)).toNatClampNeg) _ _ _ (by simp [zsn, zS, c_11, c_28]) hP hS dX5_sine_37
  · refine lv_iload_n hx hb dX5_sine_14 rfl (lv_at hl 0 rfl) ?_
    refine lv_goto (tgt := 22) hx hb dX5_sine_15 (by decide) ?_
    refine va_ti (v := .int (zSin (d &&& 31).toNatClampNeg)) hx hb hTs hS (zin1 c_11) rfl dX5_sine_22 ?_
    refine lv_istore_n (lv' := [(2, .int (zSin (d &&& 31).toNatClampNeg)), (1, .int (d &&& 31)), (0, .int d)]) hx hb dX5_sine_23 rfl hl (by decide) rfl (fun ls hl => ?_)
    refine lv_iload_n hx hb dX5_sine_24 rfl (lv_at hl 2 rfl) ?_
    refine lv_bipush (v := 32) hx hb dX5_sine_25 (by decide) ?_
    refine lv_iand hx hb dX5_sine_27 ?_
    refine lv_if_ne (tgt := 35) hx hb dX5_sine_28 (by decide) (fun c_28 => ?_) (fun c_28 => ?_)
    · refine lv_iload_n hx hb dX5_sine_35 rfl (lv_at hl 0 rfl) ?_
      refine lv_ineg hx hb dX5_sine_36 ?_
      exact hRet _ (-(zSin (d &&& 31).toNatClampNeg)) _ _ _ (by simp [zsn, zS, c_11, c_28]) hP hS dX5_sine_37
    · refine lv_iload_n hx hb dX5_sine_31 rfl (lv_at hl 0 rfl) ?_
      refine lv_goto (tgt := 37) hx hb dX5_sine_32 (by decide) ?_
      exact hRet _ (zSin (d &&& 31).toNatClampNeg) _ _ _ (by simp [zsn, zS, c_11, c_28]) hP hS dX5_sine_37

set_option maxHeartbeats 4000000 in
set_option maxRecDepth 100000 in
theorem c_X5_cosine (l : Launch) (D : va_G) (cI cJ : ClassId) (d : Int32)  : zM l yX5_cosine wsX5_cosine 1 D cI cJ [.int d] [] (fun (u : Int32) => (u = zcs d)) (fun (u : Int32) => some (.int u)) (fun (u : Int32) => []) := by
  refine zM_i (cc := cX5_cosine) (maxL := 1) (r := fun (u : Int32) => u) (by decide) rfl (Nat.le_of_ble_eq_true rfl) ?_
  intro p e s m args below meth c ls A0 Q C hl hP hS hRet
  obtain ⟨⟨hx, hb, hml, hown, hts⟩, hG, hK, hD, hlocks⟩ := C
  have hl : lv_has ls 1 [(0, .int d)] := hl
  refine lv_iload_n hx hb dX5_cosine_0 rfl (lv_at hl 0 rfl) ?_
  refine lv_bipush (v := 16) hx hb dX5_cosine_1 (by decide) ?_
  refine lv_iadd hx hb dX5_cosine_3 ?_
  refine z_callS (As := [.int (d + 16)]) (rest := []) ⟨hx, hb, hml, hown, hts⟩ hG hK hP hD hS (c_X5_sine l D cI cJ (d + 16) ) (va_cwS 1 hts gX5_cosine_X5_sine rfl rfl rfl (by decide +kernel) ⟨Nat.le_of_ble_eq_true rfl, Nat.le_of_ble_eq_true rfl⟩) [] (by decide) rfl (fun _ => rfl) rfl hl.1 rfl (Nat.le_of_ble_eq_true rfl) dX5_cosine_4 ⟨Nat.le_of_ble_eq_true rfl, Nat.le_of_ble_eq_true rfl⟩ (fun u_1 H locs hu_2 hP hD hS => ?_)
  obtain ⟨r_3, rfl⟩ : ∃ z, z = u_1 := ⟨_, rfl⟩
  have hu_2 : (r_3 = zsn (d + 16)) := hu_2
  have e_4 := hu_2
  subst e_4
  have hP : va_P D vwCl [] H := hP
  have hD : va_D A0 [] := hD
  exact hRet _ (zsn (d + 16)) _ _ _ (by first | rfl | assumption | omega | simp_all) hP hS dX5_cosine_7

set_option maxHeartbeats 4000000 in
set_option maxRecDepth 100000 in
theorem c_X0_turnOf (l : Launch) (D : va_G) (cI cJ : ClassId) (a : Nat) (k1 : Nat) (k2 : Nat) (k3 : Nat) (k4 : Nat) (k5 : Nat) (n : Nat) (kd : Nat → Int32) (ln : Nat → Int32) (lo : Nat → Int32) (hi : Nat → Int32) (vl : Nat → Int32) (j : Nat) (v : Int32) (hj : j < 5) : zM l yX0_turnOf wsX0_turnOf 0 D cI cJ [.ref a, .int (nI j), .int v] [(a, .inr (0, [.ref k1, .ref k2, .ref k3, .ref k4, .ref k5, .int (nI n)])), (k1, .inl (cI, 5, .inl kd)), (k2, .inl (cI, 5, .inl ln)), (k3, .inl (cI, 5, .inl lo)), (k4, .inl (cI, 5, .inl hi)), (k5, .inl (cI, 5, .inl vl))] (fun (u : Int32) => (u = zTurn kd j v)) (fun (u : Int32) => some (.int u)) (fun (u : Int32) => [(a, .inr (0, [.ref k1, .ref k2, .ref k3, .ref k4, .ref k5, .int (nI n)])), (k1, .inl (cI, 5, .inl kd)), (k2, .inl (cI, 5, .inl ln)), (k3, .inl (cI, 5, .inl lo)), (k4, .inl (cI, 5, .inl hi)), (k5, .inl (cI, 5, .inl vl))]) := by
  refine zM_i (cc := cX0_turnOf) (maxL := 3) (r := fun (u : Int32) => u) (by decide) rfl (Nat.le_of_ble_eq_true rfl) ?_
  intro p e s m args below meth c ls A0 Q C hl hP hS hRet
  obtain ⟨⟨hx, hb, hml, hown, hts⟩, hG, hK, hD, hlocks⟩ := C
  have hin0 : ∀ w ∈ u_ws RX0 TX0 6, w ∈ wsX0_turnOf := by decide +kernel
  have hf9 := hts (.fieldLink RX0 9 "ArmRoom$Arm" "kinds" "[I") (by decide +kernel)
  have hl : lv_has ls 3 [(0, .ref a), (1, .int (nI j)), (2, .int v)] := hl
  refine lv_aload_n hx hb dX0_turnOf_0 rfl (lv_at hl 0 rfl) ?_
  refine va_get (D := D) (ci := 0) (v := .ref k1) (C := RX0) (T := TX0) (N := 6) hx hb hts hin0 hown hK hP 0 rfl rfl 0 (by decide) hf9 (fun _ h9 => h9) rfl dX0_turnOf_1 ?_
  refine lv_iload_n hx hb dX0_turnOf_4 rfl (lv_at hl 1 rfl) ?_
  refine z_iald hx hb hK hP 1 rfl (j := j) (by omega) (by decide) dX0_turnOf_5 ?_
  refine lv_if_ne (tgt := 13) hx hb dX0_turnOf_6 (by decide) (fun c_6 => ?_) (fun c_6 => ?_)
  · refine lv_iconst (v := 0) hx hb dX0_turnOf_13 (by decide) ?_
    exact hRet _ (0) _ _ _ (by simp [zTurn, c_6]) hP hS dX0_turnOf_14
  · refine lv_iload_n hx hb dX0_turnOf_9 rfl (lv_at hl 2 rfl) ?_
    refine lv_goto (tgt := 14) hx hb dX0_turnOf_10 (by decide) ?_
    exact hRet _ (v) _ _ _ (by simp [zTurn, c_6]) hP hS dX0_turnOf_14

set_option maxHeartbeats 4000000 in
set_option maxRecDepth 100000 in
theorem c_X0_distanceOf (l : Launch) (D : va_G) (cI cJ : ClassId) (a : Nat) (k1 : Nat) (k2 : Nat) (k3 : Nat) (k4 : Nat) (k5 : Nat) (n : Nat) (kd : Nat → Int32) (ln : Nat → Int32) (lo : Nat → Int32) (hi : Nat → Int32) (vl : Nat → Int32) (j : Nat) (v : Int32) (hj : j < 5) : zM l yX0_distanceOf wsX0_distanceOf 0 D cI cJ [.ref a, .int (nI j), .int v] [(a, .inr (0, [.ref k1, .ref k2, .ref k3, .ref k4, .ref k5, .int (nI n)])), (k1, .inl (cI, 5, .inl kd)), (k2, .inl (cI, 5, .inl ln)), (k3, .inl (cI, 5, .inl lo)), (k4, .inl (cI, 5, .inl hi)), (k5, .inl (cI, 5, .inl vl))] (fun (u : Int32) => (u = zDist kd ln j v)) (fun (u : Int32) => some (.int u)) (fun (u : Int32) => [(a, .inr (0, [.ref k1, .ref k2, .ref k3, .ref k4, .ref k5, .int (nI n)])), (k1, .inl (cI, 5, .inl kd)), (k2, .inl (cI, 5, .inl ln)), (k3, .inl (cI, 5, .inl lo)), (k4, .inl (cI, 5, .inl hi)), (k5, .inl (cI, 5, .inl vl))]) := by
  refine zM_i (cc := cX0_distanceOf) (maxL := 3) (r := fun (u : Int32) => u) (by decide) rfl (Nat.le_of_ble_eq_true rfl) ?_
  intro p e s m args below meth c ls A0 Q C hl hP hS hRet
  obtain ⟨⟨hx, hb, hml, hown, hts⟩, hG, hK, hD, hlocks⟩ := C
  have hin0 : ∀ w ∈ u_ws RX0 TX0 6, w ∈ wsX0_distanceOf := by decide +kernel
  have hf9 := hts (.fieldLink RX0 9 "ArmRoom$Arm" "kinds" "[I") (by decide +kernel)
  have hf15 := hts (.fieldLink RX0 15 "ArmRoom$Arm" "lengths" "[I") (by decide +kernel)
  have hl : lv_has ls 3 [(0, .ref a), (1, .int (nI j)), (2, .int v)] := hl
  refine lv_aload_n hx hb dX0_distanceOf_0 rfl (lv_at hl 0 rfl) ?_
  refine va_get (D := D) (ci := 0) (v := .ref k1) (C := RX0) (T := TX0) (N := 6) hx hb hts hin0 hown hK hP 0 rfl rfl 0 (by decide) hf9 (fun _ h9 => h9) rfl dX0_distanceOf_1 ?_
  refine lv_iload_n hx hb dX0_distanceOf_4 rfl (lv_at hl 1 rfl) ?_
  refine z_iald hx hb hK hP 1 rfl (j := j) (by omega) (by decide) dX0_distanceOf_5 ?_
  refine lv_if_ne (tgt := 18) hx hb dX0_distanceOf_6 (by decide) (fun c_6 => ?_) (fun c_6 => ?_)
  · refine lv_aload_n hx hb dX0_distanceOf_18 rfl (lv_at hl 0 rfl) ?_
    refine va_get (D := D) (ci := 0) (v := .ref k2) (C := RX0) (T := TX0) (N := 6) hx hb hts hin0 hown hK hP 0 rfl rfl 1 (by decide) hf15 (fun _ h9 => h9) rfl dX0_distanceOf_19 ?_
    refine lv_iload_n hx hb dX0_distanceOf_22 rfl (lv_at hl 1 rfl) ?_
    refine z_iald hx hb hK hP 2 rfl (j := j) (by omega) (by decide) dX0_distanceOf_23 ?_
    refine lv_iload_n hx hb dX0_distanceOf_24 rfl (lv_at hl 2 rfl) ?_
    refine lv_iadd hx hb dX0_distanceOf_25 ?_
    exact hRet _ ((ln j) + v) _ _ _ (by simp [zDist, c_6]) hP hS dX0_distanceOf_26
  · refine lv_aload_n hx hb dX0_distanceOf_9 rfl (lv_at hl 0 rfl) ?_
    refine va_get (D := D) (ci := 0) (v := .ref k2) (C := RX0) (T := TX0) (N := 6) hx hb hts hin0 hown hK hP 0 rfl rfl 1 (by decide) hf15 (fun _ h9 => h9) rfl dX0_distanceOf_10 ?_
    refine lv_iload_n hx hb dX0_distanceOf_13 rfl (lv_at hl 1 rfl) ?_
    refine z_iald hx hb hK hP 2 rfl (j := j) (by omega) (by decide) dX0_distanceOf_14 ?_
    refine lv_goto (tgt := 26) hx hb dX0_distanceOf_15 (by decide) ?_
    exact hRet _ (ln j) _ _ _ (by simp [zDist, c_6]) hP hS dX0_distanceOf_26

set_option maxHeartbeats 4000000 in
set_option maxRecDepth 100000 in
theorem c_X0_held (l : Launch) (D : va_G) (cI cJ : ClassId) (a : Nat) (k1 : Nat) (k2 : Nat) (k3 : Nat) (k4 : Nat) (k5 : Nat) (n : Nat) (kd : Nat → Int32) (ln : Nat → Int32) (lo : Nat → Int32) (hi : Nat → Int32) (vl : Nat → Int32) (j : Nat) (v : Int32) (hj : j < 5) : zM l yX0_held wsX0_held 0 D cI cJ [.ref a, .int (nI j), .int v] [(a, .inr (0, [.ref k1, .ref k2, .ref k3, .ref k4, .ref k5, .int (nI n)])), (k1, .inl (cI, 5, .inl kd)), (k2, .inl (cI, 5, .inl ln)), (k3, .inl (cI, 5, .inl lo)), (k4, .inl (cI, 5, .inl hi)), (k5, .inl (cI, 5, .inl vl))] (fun (u : Int32) => (u = zHeldC (lo j) (hi j) v)) (fun (u : Int32) => some (.int u)) (fun (u : Int32) => [(a, .inr (0, [.ref k1, .ref k2, .ref k3, .ref k4, .ref k5, .int (nI n)])), (k1, .inl (cI, 5, .inl kd)), (k2, .inl (cI, 5, .inl ln)), (k3, .inl (cI, 5, .inl lo)), (k4, .inl (cI, 5, .inl hi)), (k5, .inl (cI, 5, .inl vl))]) := by
  refine zM_i (cc := cX0_held) (maxL := 3) (r := fun (u : Int32) => u) (by decide) rfl (Nat.le_of_ble_eq_true rfl) ?_
  intro p e s m args below meth c ls A0 Q C hl hP hS hRet
  obtain ⟨⟨hx, hb, hml, hown, hts⟩, hG, hK, hD, hlocks⟩ := C
  have hin0 : ∀ w ∈ u_ws RX0 TX0 6, w ∈ wsX0_held := by decide +kernel
  have hf18 := hts (.fieldLink RX0 18 "ArmRoom$Arm" "lows" "[I") (by decide +kernel)
  have hf21 := hts (.fieldLink RX0 21 "ArmRoom$Arm" "highs" "[I") (by decide +kernel)
  have hl : lv_has ls 3 [(0, .ref a), (1, .int (nI j)), (2, .int v)] := hl
  refine lv_aload_n hx hb dX0_held_0 rfl (lv_at hl 0 rfl) ?_
  refine va_get (D := D) (ci := 0) (v := .ref k3) (C := RX0) (T := TX0) (N := 6) hx hb hts hin0 hown hK hP 0 rfl rfl 2 (by decide) hf18 (fun _ h9 => h9) rfl dX0_held_1 ?_
  refine lv_iload_n hx hb dX0_held_4 rfl (lv_at hl 1 rfl) ?_
  refine z_iald hx hb hK hP 3 rfl (j := j) (by omega) (by decide) dX0_held_5 ?_
  refine lv_aload_n hx hb dX0_held_6 rfl (lv_at hl 0 rfl) ?_
  refine va_get (D := D) (ci := 0) (v := .ref k4) (C := RX0) (T := TX0) (N := 6) hx hb hts hin0 hown hK hP 0 rfl rfl 3 (by decide) hf21 (fun _ h9 => h9) rfl dX0_held_7 ?_
  refine lv_iload_n hx hb dX0_held_10 rfl (lv_at hl 1 rfl) ?_
  refine z_iald hx hb hK hP 4 rfl (j := j) (by omega) (by decide) dX0_held_11 ?_
  refine lv_iload_n hx hb dX0_held_12 rfl (lv_at hl 2 rfl) ?_
  refine va_mmin hx hb (by rw [hml]; exact hl.1.symm) hown (hts (.methodLink RX0 35 Lib.Math.min.name) (by decide +kernel)) (hts (.static Lib.Math.min.name) (by decide +kernel)) (hts (.initialized "java/lang/Math") (by decide +kernel)) (hts (.code Lib.Math.min.name Lib.Math.min.code 2 (some .int)) (by decide +kernel)) (Nat.le_of_ble_eq_true rfl) (Nat.le_of_ble_eq_true rfl) (Nat.le_of_ble_eq_true rfl) (Nat.le_of_ble_eq_true rfl) dX0_held_13 ?_
  refine va_mmax hx hb (by rw [hml]; exact hl.1.symm) hown (hts (.methodLink RX0 40 Lib.Math.max.name) (by decide +kernel)) (hts (.static Lib.Math.max.name) (by decide +kernel)) (hts (.initialized "java/lang/Math") (by decide +kernel)) (hts (.code Lib.Math.max.name Lib.Math.max.code 2 (some .int)) (by decide +kernel)) (Nat.le_of_ble_eq_true rfl) (Nat.le_of_ble_eq_true rfl) (Nat.le_of_ble_eq_true rfl) (Nat.le_of_ble_eq_true rfl) dX0_held_16 ?_
  exact hRet _ (if (lo j) < (if v < (hi j) then v else (hi j)) then (if v < (hi j) then v else (hi j)) else (lo j)) _ _ _ (rfl) hP hS dX0_held_19

set_option maxHeartbeats 4000000 in
set_option maxRecDepth 100000 in
theorem c_X0_isFull (l : Launch) (D : va_G) (cI cJ : ClassId) (a : Nat) (k1 : Nat) (k2 : Nat) (k3 : Nat) (k4 : Nat) (k5 : Nat) (n : Nat) (kd : Nat → Int32) (ln : Nat → Int32) (lo : Nat → Int32) (hi : Nat → Int32) (vl : Nat → Int32) (hn : n ≤ 5) : zM l yX0_isFull wsX0_isFull 0 D cI cJ [.ref a] [(a, .inr (0, [.ref k1, .ref k2, .ref k3, .ref k4, .ref k5, .int (nI n)])), (k1, .inl (cI, 5, .inl kd)), (k2, .inl (cI, 5, .inl ln)), (k3, .inl (cI, 5, .inl lo)), (k4, .inl (cI, 5, .inl hi)), (k5, .inl (cI, 5, .inl vl))] (fun (u : Int32) => (u = if 5 ≤ n then 1 else 0)) (fun (u : Int32) => some (.int u)) (fun (u : Int32) => [(a, .inr (0, [.ref k1, .ref k2, .ref k3, .ref k4, .ref k5, .int (nI n)])), (k1, .inl (cI, 5, .inl kd)), (k2, .inl (cI, 5, .inl ln)), (k3, .inl (cI, 5, .inl lo)), (k4, .inl (cI, 5, .inl hi)), (k5, .inl (cI, 5, .inl vl))]) := by
  refine zM_z (cc := cX0_isFull) (maxL := 1) (r := fun (u : Int32) => u) (fun u h => by simp only [h]; split <;> simp) (by decide) rfl (Nat.le_of_ble_eq_true rfl) ?_
  intro p e s m args below meth c ls A0 Q C hl hP hS hRet
  obtain ⟨⟨hx, hb, hml, hown, hts⟩, hG, hK, hD, hlocks⟩ := C
  have hin0 : ∀ w ∈ u_ws RX0 TX0 6, w ∈ wsX0_isFull := by decide +kernel
  have hf27 := hts (.fieldLink RX0 27 "ArmRoom$Arm" "count" "I") (by decide +kernel)
  have hl : lv_has ls 1 [(0, .ref a)] := hl
  refine lv_aload_n hx hb dX0_isFull_0 rfl (lv_at hl 0 rfl) ?_
  refine va_get (D := D) (ci := 0) (v := .int (nI n)) (C := RX0) (T := TX0) (N := 6) hx hb hts hin0 hown hK hP 0 rfl rfl 5 (by decide) hf27 (fun _ h9 => h9) rfl dX0_isFull_1 ?_
  refine lv_iconst (v := nI 5) hx hb dX0_isFull_4 (rfl) ?_
  refine lv_icmp_lt (tgt := 12) hx hb dX0_isFull_5 (by decide) (fun c_5 => ?_) (fun c_5 => ?_)
  · rw [nI_ltI (by omega) (by omega)] at c_5
    refine lv_iconst (v := 0) hx hb dX0_isFull_12 (by decide) ?_
    exact hRet _ (0) _ _ _ (by simp; omega) hP hS dX0_isFull_13
  · rw [nI_ltI (by omega) (by omega)] at c_5
    refine lv_iconst (v := 1) hx hb dX0_isFull_8 (by decide) ?_
    refine lv_goto (tgt := 13) hx hb dX0_isFull_9 (by decide) ?_
    exact hRet _ (1) _ _ _ (by simp; omega) hP hS dX0_isFull_13
