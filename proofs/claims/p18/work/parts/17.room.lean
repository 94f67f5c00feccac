set_option maxHeartbeats 4000000 in
set_option maxRecDepth 100000 in
theorem c_X5_farNow (l : Launch) (D : va_G) (cI cJ : ClassId) (oo : Nat) (s9 : Nat) (m1 : Nat) (m2 : Nat) (g : Nat) (gx : Int32) (gy : Int32) (sl : Int32) (t1 : Nat) (x1 : Int32) (y1 : Int32) (h1 : Int32) (t2 : Nat) (a : Nat) (k1 : Nat) (k2 : Nat) (k3 : Nat) (k4 : Nat) (k5 : Nat) (n : Nat) (kd : Nat → Int32) (ln : Nat → Int32) (lo : Nat → Int32) (hi : Nat → Int32) (vl : Nat → Int32) (hn : n ≤ 5) : zM l yX5_farNow wsX5_farNow 5 D cI cJ [.ref oo] [(oo, .inr (5, [.ref a, .ref g, .ref t1, .ref t2, .ref s9, .ref m1, .ref m2])), (g, .inr (1, [.int gx, .int gy, .int sl])), (t1, .inr (4, [.int x1, .int y1, .int h1])), (a, .inr (0, [.ref k1, .ref k2, .ref k3, .ref k4, .ref k5, .int (nI n)])), (k1, .inl (cI, 5, .inl kd)), (k2, .inl (cI, 5, .inl ln)), (k3, .inl (cI, 5, .inl lo)), (k4, .inl (cI, 5, .inl hi)), (k5, .inl (cI, 5, .inl vl))] (fun (u : Int64 × Int32 × Int32 × Int32) => (u.1 = zFn kd ln vl n gx gy)) (fun (u : Int64 × Int32 × Int32 × Int32) => some (.long u.1)) (fun (u : Int64 × Int32 × Int32 × Int32) => [(oo, .inr (5, [.ref a, .ref g, .ref t1, .ref t2, .ref s9, .ref m1, .ref m2])), (g, .inr (1, [.int gx, .int gy, .int sl])), (t1, .inr (4, [.int u.2.1, .int u.2.2.1, .int u.2.2.2])), (a, .inr (0, [.ref k1, .ref k2, .ref k3, .ref k4, .ref k5, .int (nI n)])), (k1, .inl (cI, 5, .inl kd)), (k2, .inl (cI, 5, .inl ln)), (k3, .inl (cI, 5, .inl lo)), (k4, .inl (cI, 5, .inl hi)), (k5, .inl (cI, 5, .inl vl))]) := by
  refine zM_l (cc := cX5_farNow) (maxL := 1) (r := fun (u : Int64 × Int32 × Int32 × Int32) => u.1) (by decide) rfl (Nat.le_of_ble_eq_true rfl) ?_
  intro p e s m args below meth c ls A0 Q C hl hP hS hRet
  obtain ⟨⟨hx, hb, hml, hown, hts⟩, hG, hK, hD, hlocks⟩ := C
  have hin4 : ∀ w ∈ u_ws RX4 TX4 3, w ∈ wsX5_farNow := by decide +kernel
  have hin5 : ∀ w ∈ u_ws RX5 TX5 7, w ∈ wsX5_farNow := by decide +kernel
  have hf26 := hts (.fieldLink RX5 26 "ArmRoom" "now" "LArmRoom$Tip;") (by decide +kernel)
  have hf10 := hts (.fieldLink RX5 10 "ArmRoom" "arm" "LArmRoom$Arm;") (by decide +kernel)
  have hf19 := hts (.fieldLink RX5 19 "ArmRoom" "goal" "LArmRoom$Goal;") (by decide +kernel)
  have hf185 := hG.1.2.1 ("ArmRoom", 185, "ArmRoom$Tip", "x", "I", "ArmRoom") (List.mem_of_getElem? (i := 14) rfl)
  have hf186 := hG.1.2.1 ("ArmRoom", 186, "ArmRoom$Tip", "y", "I", "ArmRoom") (List.mem_of_getElem? (i := 15) rfl)
  have hl : lv_has ls 1 [(0, .ref oo)] := hl
  refine lv_aload_n hx hb dX5_farNow_0 rfl (lv_at hl 0 rfl) ?_
  refine va_get (D := D) (ci := 5) (v := .ref t1) (C := RX5) (T := TX5) (N := 7) hx hb hts hin5 hown hK hP 0 rfl rfl 2 (by decide) hf26 (fun _ h9 => h9) rfl dX5_farNow_1 ?_
  refine lv_aload_n hx hb dX5_farNow_4 rfl (lv_at hl 0 rfl) ?_
  refine va_get (D := D) (ci := 5) (v := .ref a) (C := RX5) (T := TX5) (N := 7) hx hb hts hin5 hown hK hP 0 rfl rfl 0 (by decide) hf10 (fun _ h9 => h9) rfl dX5_farNow_5 ?_
  refine z_callVN (As := [.ref a]) (rest := []) ⟨hx, hb, hml, hown, hts⟩ hG hK hP hD hS (c_X4_follow l D cI cJ t1 x1 y1 h1 a k1 k2 k3 k4 k5 n kd ln lo hi vl (by first | assumption | omega | decide)) (⟨va_cnB 1 hts gX5_farNow_X4_follow_n90 rfl rfl rfl (hG.1.1 ("ArmRoom", 90, yX4_follow, "ArmRoom") (List.mem_of_getElem? (i := 5) rfl)) (hts (.initialized RX4) (by decide +kernel)) (by decide +kernel) ⟨Nat.le_of_ble_eq_true rfl, Nat.le_of_ble_eq_true rfl⟩, hts (.instanceMethod yX4_follow) (by decide +kernel), hts (.selects RX4 yX4_follow yX4_follow) (by decide +kernel)⟩) [2, 3, 4, 5, 6, 7, 8] (by decide) rfl (fun _ => rfl) 2 rfl rfl rfl rfl hl.1 rfl (Nat.le_of_ble_eq_true rfl) dX5_farNow_8 ⟨Nat.le_of_ble_eq_true rfl, Nat.le_of_ble_eq_true rfl⟩ (fun u_1 H locs hu_2 hP hD hS => ?_)
  obtain ⟨x2_3, y2_4, h2_5⟩ := u_1
  have hu_2 : (x2_3 = zX kd ln vl n) ∧ (y2_4 = zY kd ln vl n) ∧ (h2_5 = zH kd vl n) := hu_2
  obtain ⟨e_6, e_7, e_8⟩ := hu_2
  subst e_6
  subst e_7
  subst e_8
  have hP : va_P D vwCl [(oo, .inr (5, [.ref a, .ref g, .ref t1, .ref t2, .ref s9, .ref m1, .ref m2])), (g, .inr (1, [.int gx, .int gy, .int sl])), (t1, .inr (4, [.int (zX kd ln vl n), .int (zY kd ln vl n), .int (zH kd vl n)])), (a, .inr (0, [.ref k1, .ref k2, .ref k3, .ref k4, .ref k5, .int (nI n)])), (k1, .inl (cI, 5, .inl kd)), (k2, .inl (cI, 5, .inl ln)), (k3, .inl (cI, 5, .inl lo)), (k4, .inl (cI, 5, .inl hi)), (k5, .inl (cI, 5, .inl vl))] H := hP
  have hD : va_D A0 [(oo, .inr (5, [.ref a, .ref g, .ref t1, .ref t2, .ref s9, .ref m1, .ref m2])), (g, .inr (1, [.int gx, .int gy, .int sl])), (t1, .inr (4, [.int (zX kd ln vl n), .int (zY kd ln vl n), .int (zH kd vl n)])), (a, .inr (0, [.ref k1, .ref k2, .ref k3, .ref k4, .ref k5, .int (nI n)])), (k1, .inl (cI, 5, .inl kd)), (k2, .inl (cI, 5, .inl ln)), (k3, .inl (cI, 5, .inl lo)), (k4, .inl (cI, 5, .inl hi)), (k5, .inl (cI, 5, .inl vl))] := hD
  refine lv_aload_n hx hb dX5_farNow_11 rfl (lv_at hl 0 rfl) ?_
  refine va_get (D := D) (ci := 5) (v := .ref g) (C := RX5) (T := TX5) (N := 7) hx hb hts hin5 hown hK hP 0 rfl rfl 1 (by decide) hf19 (fun _ h9 => h9) rfl dX5_farNow_12 ?_
  refine lv_aload_n hx hb dX5_farNow_15 rfl (lv_at hl 0 rfl) ?_
  refine va_get (D := D) (ci := 5) (v := .ref t1) (C := RX5) (T := TX5) (N := 7) hx hb hts hin5 hown hK hP 0 rfl rfl 2 (by decide) hf26 (fun _ h9 => h9) rfl dX5_farNow_16 ?_
  refine va_getN (D := D) (ci := 4) (v := .int (zX kd ln vl n)) (C := RX4) (T := TX4) (N := 3) hx hb hts hin4 hown hK hP 2 rfl rfl 0 (by decide) (va_Nw.use rfl hf185) (fun _ h9 => h9) rfl dX5_farNow_19 ?_
  refine lv_aload_n hx hb dX5_farNow_22 rfl (lv_at hl 0 rfl) ?_
  refine va_get (D := D) (ci := 5) (v := .ref t1) (C := RX5) (T := TX5) (N := 7) hx hb hts hin5 hown hK hP 0 rfl rfl 2 (by decide) hf26 (fun _ h9 => h9) rfl dX5_farNow_23 ?_
  refine va_getN (D := D) (ci := 4) (v := .int (zY kd ln vl n)) (C := RX4) (T := TX4) (N := 3) hx hb hts hin4 hown hK hP 2 rfl rfl 1 (by decide) (va_Nw.use rfl hf186) (fun _ h9 => h9) rfl dX5_farNow_26 ?_
  refine z_callVN (As := [.int (zX kd ln vl n), .int (zY kd ln vl n)]) (rest := []) ⟨hx, hb, hml, hown, hts⟩ hG hK hP hD hS (c_X1_farFrom l D cI cJ g gx gy sl (zX kd ln vl n) (zY kd ln vl n) ) (⟨va_cnB 2 hts gX5_farNow_X1_farFrom_n187 rfl rfl rfl (hG.1.1 ("ArmRoom", 187, yX1_farFrom, "ArmRoom") (List.mem_of_getElem? (i := 11) rfl)) (hts (.initialized RX1) (by decide +kernel)) (by decide +kernel) ⟨Nat.le_of_ble_eq_true rfl, Nat.le_of_ble_eq_true rfl⟩, hts (.instanceMethod yX1_farFrom) (by decide +kernel), hts (.selects RX1 yX1_farFrom yX1_farFrom) (by decide +kernel)⟩) [1] (by decide) rfl (fun _ => rfl) 1 rfl rfl rfl rfl hl.1 rfl (Nat.le_of_ble_eq_true rfl) dX5_farNow_29 ⟨Nat.le_of_ble_eq_true rfl, Nat.le_of_ble_eq_true rfl⟩ (fun u_9 H locs hu_10 hP hD hS => ?_)
  obtain ⟨r_11, rfl⟩ : ∃ z, z = u_9 := ⟨_, rfl⟩
  have hu_10 : (r_11 = zFar gx gy (zX kd ln vl n) (zY kd ln vl n)) := hu_10
  have e_12 := hu_10
  subst e_12
  have hP : va_P D vwCl [(oo, .inr (5, [.ref a, .ref g, .ref t1, .ref t2, .ref s9, .ref m1, .ref m2])), (g, .inr (1, [.int gx, .int gy, .int sl])), (t1, .inr (4, [.int (zX kd ln vl n), .int (zY kd ln vl n), .int (zH kd vl n)])), (a, .inr (0, [.ref k1, .ref k2, .ref k3, .ref k4, .ref k5, .int (nI n)])), (k1, .inl (cI, 5, .inl kd)), (k2, .inl (cI, 5, .inl ln)), (k3, .inl (cI, 5, .inl lo)), (k4, .inl (cI, 5, .inl hi)), (k5, .inl (cI, 5, .inl vl))] H := hP
  have hD : va_D A0 [(oo, .inr (5, [.ref a, .ref g, .ref t1, .ref t2, .ref s9, .ref m1, .ref m2])), (g, .inr (1, [.int gx, .int gy, .int sl])), (t1, .inr (4, [.int (zX kd ln vl n), .int (zY kd ln vl n), .int (zH kd vl n)])), (a, .inr (0, [.ref k1, .ref k2, .ref k3, .ref k4, .ref k5, .int (nI n)])), (k1, .inl (cI, 5, .inl kd)), (k2, .inl (cI, 5, .inl ln)), (k3, .inl (cI, 5, .inl lo)), (k4, .inl (cI, 5, .inl hi)), (k5, .inl (cI, 5, .inl vl))] := hD
  exact hRet _ (zFar gx gy (zX kd ln vl n) (zY kd ln vl n), zX kd ln vl n, zY kd ln vl n, zH kd vl n) _ _ _ (rfl) hP hS dX5_farNow_32

set_option maxHeartbeats 4000000 in
set_option maxRecDepth 100000 in
theorem c_X5_farWith (l : Launch) (D : va_G) (cI cJ : ClassId) (oo : Nat) (s9 : Nat) (m1 : Nat) (m2 : Nat) (g : Nat) (gx : Int32) (gy : Int32) (sl : Int32) (t2 : Nat) (x2 : Int32) (y2 : Int32) (h2 : Int32) (t1 : Nat) (a : Nat) (k1 : Nat) (k2 : Nat) (k3 : Nat) (k4 : Nat) (k5 : Nat) (n : Nat) (kd : Nat → Int32) (ln : Nat → Int32) (lo : Nat → Int32) (hi : Nat → Int32) (vl : Nat → Int32) (jo : Int32) (jv : Int32) (hn : n ≤ 5) : zM l yX5_farWith wsX5_farWith 5 D cI cJ [.ref oo, .int jo, .int jv] [(oo, .inr (5, [.ref a, .ref g, .ref t1, .ref t2, .ref s9, .ref m1, .ref m2])), (g, .inr (1, [.int gx, .int gy, .int sl])), (t2, .inr (4, [.int x2, .int y2, .int h2])), (a, .inr (0, [.ref k1, .ref k2, .ref k3, .ref k4, .ref k5, .int (nI n)])), (k1, .inl (cI, 5, .inl kd)), (k2, .inl (cI, 5, .inl ln)), (k3, .inl (cI, 5, .inl lo)), (k4, .inl (cI, 5, .inl hi)), (k5, .inl (cI, 5, .inl vl))] (fun (u : Int64 × Int32 × Int32 × Int32) => (u.1 = zFw kd ln vl n gx gy jo jv)) (fun (u : Int64 × Int32 × Int32 × Int32) => some (.long u.1)) (fun (u : Int64 × Int32 × Int32 × Int32) => [(oo, .inr (5, [.ref a, .ref g, .ref t1, .ref t2, .ref s9, .ref m1, .ref m2])), (g, .inr (1, [.int gx, .int gy, .int sl])), (t2, .inr (4, [.int u.2.1, .int u.2.2.1, .int u.2.2.2])), (a, .inr (0, [.ref k1, .ref k2, .ref k3, .ref k4, .ref k5, .int (nI n)])), (k1, .inl (cI, 5, .inl kd)), (k2, .inl (cI, 5, .inl ln)), (k3, .inl (cI, 5, .inl lo)), (k4, .inl (cI, 5, .inl hi)), (k5, .inl (cI, 5, .inl vl))]) := by
  refine zM_l (cc := cX5_farWith) (maxL := 3) (r := fun (u : Int64 × Int32 × Int32 × Int32) => u.1) (by decide) rfl (Nat.le_of_ble_eq_true rfl) ?_
  intro p e s m args below meth c ls A0 Q C hl hP hS hRet
  obtain ⟨⟨hx, hb, hml, hown, hts⟩, hG, hK, hD, hlocks⟩ := C
  have hin4 : ∀ w ∈ u_ws RX4 TX4 3, w ∈ wsX5_farWith := by decide +kernel
  have hin5 : ∀ w ∈ u_ws RX5 TX5 7, w ∈ wsX5_farWith := by decide +kernel
  have hf30 := hts (.fieldLink RX5 30 "ArmRoom" "then" "LArmRoom$Tip;") (by decide +kernel)
  have hf10 := hts (.fieldLink RX5 10 "ArmRoom" "arm" "LArmRoom$Arm;") (by decide +kernel)
  have hf19 := hts (.fieldLink RX5 19 "ArmRoom" "goal" "LArmRoom$Goal;") (by decide +kernel)
  have hf185 := hG.1.2.1 ("ArmRoom", 185, "ArmRoom$Tip", "x", "I", "ArmRoom") (List.mem_of_getElem? (i := 14) rfl)
  have hf186 := hG.1.2.1 ("ArmRoom", 186, "ArmRoom$Tip", "y", "I", "ArmRoom") (List.mem_of_getElem? (i := 15) rfl)
  have hl : lv_has ls 3 [(0, .ref oo), (1, .int jo), (2, .int jv)] := hl
  refine lv_aload_n hx hb dX5_farWith_0 rfl (lv_at hl 0 rfl) ?_
  refine va_get (D := D) (ci := 5) (v := .ref t2) (C := RX5) (T := TX5) (N := 7) hx hb hts hin5 hown hK hP 0 rfl rfl 3 (by decide) hf30 (fun _ h9 => h9) rfl dX5_farWith_1 ?_
  refine lv_aload_n hx hb dX5_farWith_4 rfl (lv_at hl 0 rfl) ?_
  refine va_get (D := D) (ci := 5) (v := .ref a) (C := RX5) (T := TX5) (N := 7) hx hb hts hin5 hown hK hP 0 rfl rfl 0 (by decide) hf10 (fun _ h9 => h9) rfl dX5_farWith_5 ?_
  refine lv_iload_n hx hb dX5_farWith_8 rfl (lv_at hl 1 rfl) ?_
  refine lv_iload_n hx hb dX5_farWith_9 rfl (lv_at hl 2 rfl) ?_
  refine z_callVN (As := [.ref a, .int jo, .int jv]) (rest := []) ⟨hx, hb, hml, hown, hts⟩ hG hK hP hD hS (c_X4_followWith l D cI cJ t2 x2 y2 h2 a k1 k2 k3 k4 k5 n kd ln lo hi vl jo jv (by first | assumption | omega | decide)) (⟨va_cnB 3 hts gX5_farWith_X4_followWith_n101 rfl rfl rfl (hG.1.1 ("ArmRoom", 101, yX4_followWith, "ArmRoom") (List.mem_of_getElem? (i := 10) rfl)) (hts (.initialized RX4) (by decide +kernel)) (by decide +kernel) ⟨Nat.le_of_ble_eq_true rfl, Nat.le_of_ble_eq_true rfl⟩, hts (.instanceMethod yX4_followWith) (by decide +kernel), hts (.selects RX4 yX4_followWith yX4_followWith) (by decide +kernel)⟩) [2, 3, 4, 5, 6, 7, 8] (by decide) rfl (fun _ => rfl) 2 rfl rfl rfl rfl hl.1 rfl (Nat.le_of_ble_eq_true rfl) dX5_farWith_10 ⟨Nat.le_of_ble_eq_true rfl, Nat.le_of_ble_eq_true rfl⟩ (fun u_1 H locs hu_2 hP hD hS => ?_)
  have hP : va_P D vwCl [(oo, .inr (5, [.ref a, .ref g, .ref t1, .ref t2, .ref s9, .ref m1, .ref m2])), (g, .inr (1, [.int gx, .int gy, .int sl])), (t2, .inr (4, [.int (zX kd ln (zPo vl jo jv) n), .int (zY kd ln (zPo vl jo jv) n), .int (zH kd (zPo vl jo jv) n)])), (a, .inr (0, [.ref k1, .ref k2, .ref k3, .ref k4, .ref k5, .int (nI n)])), (k1, .inl (cI, 5, .inl kd)), (k2, .inl (cI, 5, .inl ln)), (k3, .inl (cI, 5, .inl lo)), (k4, .inl (cI, 5, .inl hi)), (k5, .inl (cI, 5, .inl vl))] H := hP
  have hD : va_D A0 [(oo, .inr (5, [.ref a, .ref g, .ref t1, .ref t2, .ref s9, .ref m1, .ref m2])), (g, .inr (1, [.int gx, .int gy, .int sl])), (t2, .inr (4, [.int (zX kd ln (zPo vl jo jv) n), .int (zY kd ln (zPo vl jo jv) n), .int (zH kd (zPo vl jo jv) n)])), (a, .inr (0, [.ref k1, .ref k2, .ref k3, .ref k4, .ref k5, .int (nI n)])), (k1, .inl (cI, 5, .inl kd)), (k2, .inl (cI, 5, .inl ln)), (k3, .inl (cI, 5, .inl lo)), (k4, .inl (cI, 5, .inl hi)), (k5, .inl (cI, 5, .inl vl))] := hD
  refine lv_aload_n hx hb dX5_farWith_13 rfl (lv_at hl 0 rfl) ?_
  refine va_get (D := D) (ci := 5) (v := .ref g) (C := RX5) (T := TX5) (N := 7) hx hb hts hin5 hown hK hP 0 rfl rfl 1 (by decide) hf19 (fun _ h9 => h9) rfl dX5_farWith_14 ?_
  refine lv_aload_n hx hb dX5_farWith_17 rfl (lv_at hl 0 rfl) ?_
  refine va_get (D := D) (ci := 5) (v := .ref t2) (C := RX5) (T := TX5) (N := 7) hx hb hts hin5 hown hK hP 0 rfl rfl 3 (by decide) hf30 (fun _ h9 => h9) rfl dX5_farWith_18 ?_
  refine va_getN (D := D) (ci := 4) (v := .int (zX kd ln (zPo vl jo jv) n)) (C := RX4) (T := TX4) (N := 3) hx hb hts hin4 hown hK hP 2 rfl rfl 0 (by decide) (va_Nw.use rfl hf185) (fun _ h9 => h9) rfl dX5_farWith_21 ?_
  refine lv_aload_n hx hb dX5_farWith_24 rfl (lv_at hl 0 rfl) ?_
  refine va_get (D := D) (ci := 5) (v := .ref t2) (C := RX5) (T := TX5) (N := 7) hx hb hts hin5 hown hK hP 0 rfl rfl 3 (by decide) hf30 (fun _ h9 => h9) rfl dX5_farWith_25 ?_
  refine va_getN (D := D) (ci := 4) (v := .int (zY kd ln (zPo vl jo jv) n)) (C := RX4) (T := TX4) (N := 3) hx hb hts hin4 hown hK hP 2 rfl rfl 1 (by decide) (va_Nw.use rfl hf186) (fun _ h9 => h9) rfl dX5_farWith_28 ?_
  refine z_callVN (As := [.int (zX kd ln (zPo vl jo jv) n), .int (zY kd ln (zPo vl jo jv) n)]) (rest := []) ⟨hx, hb, hml, hown, hts⟩ hG hK hP hD hS (c_X1_farFrom l D cI cJ g gx gy sl (zX kd ln (zPo vl jo jv) n) (zY kd ln (zPo vl jo jv) n) ) (⟨va_cnB 2 hts gX5_farWith_X1_farFrom_n187 rfl rfl rfl (hG.1.1 ("ArmRoom", 187, yX1_farFrom, "ArmRoom") (List.mem_of_getElem? (i := 11) rfl)) (hts (.initialized RX1) (by decide +kernel)) (by decide +kernel) ⟨Nat.le_of_ble_eq_true rfl, Nat.le_of_ble_eq_true rfl⟩, hts (.instanceMethod yX1_farFrom) (by decide +kernel), hts (.selects RX1 yX1_farFrom yX1_farFrom) (by decide +kernel)⟩) [1] (by decide) rfl (fun _ => rfl) 1 rfl rfl rfl rfl hl.1 rfl (Nat.le_of_ble_eq_true rfl) dX5_farWith_31 ⟨Nat.le_of_ble_eq_true rfl, Nat.le_of_ble_eq_true rfl⟩ (fun u_3 H locs hu_4 hP hD hS => ?_)
  obtain ⟨r_5, rfl⟩ : ∃ z, z = u_3 := ⟨_, rfl⟩
  have hu_4 : (r_5 = zFar gx gy (zX kd ln (zPo vl jo jv) n) (zY kd ln (zPo vl jo jv) n)) := hu_4
  have e_6 := hu_4
  subst e_6
  have hP : va_P D vwCl [(oo, .inr (5, [.ref a, .ref g, .ref t1, .ref t2, .ref s9, .ref m1, .ref m2])), (g, .inr (1, [.int gx, .int gy, .int sl])), (t2, .inr (4, [.int (zX kd ln (zPo vl jo jv) n), .int (zY kd ln (zPo vl jo jv) n), .int (zH kd (zPo vl jo jv) n)])), (a, .inr (0, [.ref k1, .ref k2, .ref k3, .ref k4, .ref k5, .int (nI n)])), (k1, .inl (cI, 5, .inl kd)), (k2, .inl (cI, 5, .inl ln)), (k3, .inl (cI, 5, .inl lo)), (k4, .inl (cI, 5, .inl hi)), (k5, .inl (cI, 5, .inl vl))] H := hP
  have hD : va_D A0 [(oo, .inr (5, [.ref a, .ref g, .ref t1, .ref t2, .ref s9, .ref m1, .ref m2])), (g, .inr (1, [.int gx, .int gy, .int sl])), (t2, .inr (4, [.int (zX kd ln (zPo vl jo jv) n), .int (zY kd ln (zPo vl jo jv) n), .int (zH kd (zPo vl jo jv) n)])), (a, .inr (0, [.ref k1, .ref k2, .ref k3, .ref k4, .ref k5, .int (nI n)])), (k1, .inl (cI, 5, .inl kd)), (k2, .inl (cI, 5, .inl ln)), (k3, .inl (cI, 5, .inl lo)), (k4, .inl (cI, 5, .inl hi)), (k5, .inl (cI, 5, .inl vl))] := hD
  exact hRet _ (zFar gx gy (zX kd ln (zPo vl jo jv) n) (zY kd ln (zPo vl jo jv) n), zX kd ln (zPo vl jo jv) n, zY kd ln (zPo vl jo jv) n, zH kd (zPo vl jo jv) n) _ _ _ (rfl) hP hS dX5_farWith_34

set_option maxHeartbeats 4000000 in
set_option maxRecDepth 100000 in
theorem c_X5_findMoves (l : Launch) (D : va_G) (cI cJ : ClassId) (oo : Nat) (s9 : Nat) (m1 : Nat) (m2 : Nat) (g : Nat) (t1 : Nat) (x1 : Int32) (y1 : Int32) (h1 : Int32) (t2 : Nat) (x2 : Int32) (y2 : Int32) (h2 : Int32) (a : Nat) (k1 : Nat) (k2 : Nat) (k3 : Nat) (k4 : Nat) (k5 : Nat) (n : Nat) (kd : Nat → Int32) (ln : Nat → Int32) (lo : Nat → Int32) (hi : Nat → Int32) (vl : Nat → Int32) (f1 : Nat → Int32) (f2 : Nat → Int32) (hn : n ≤ 5) : zM l yX5_findMoves wsX5_findMoves 5 D cI cJ [.ref oo] [(oo, .inr (5, [.ref a, .ref g, .ref t1, .ref t2, .ref s9, .ref m1, .ref m2])), (t1, .inr (4, [.int x1, .int y1, .int h1])), (t2, .inr (4, [.int x2, .int y2, .int h2])), (a, .inr (0, [.ref k1, .ref k2, .ref k3, .ref k4, .ref k5, .int (nI n)])), (k1, .inl (cI, 5, .inl kd)), (k2, .inl (cI, 5, .inl ln)), (k3, .inl (cI, 5, .inl lo)), (k4, .inl (cI, 5, .inl hi)), (k5, .inl (cI, 5, .inl vl)), (m1, .inl (cI, 5, .inl f1)), (m2, .inl (cI, 5, .inl f2))] (fun (u : (Nat → Int32) × (Nat → Int32) × Int32 × Int32 × Int32 × Int32 × Int32 × Int32) => (∀ j, j < n → u.1 j = zMx kd ln vl n j) ∧ (∀ j, j < n → u.2.1 j = zMy kd ln vl n j)) (fun (u : (Nat → Int32) × (Nat → Int32) × Int32 × Int32 × Int32 × Int32 × Int32 × Int32) => none) (fun (u : (Nat → Int32) × (Nat → Int32) × Int32 × Int32 × Int32 × Int32 × Int32 × Int32) => [(oo, .inr (5, [.ref a, .ref g, .ref t1, .ref t2, .ref s9, .ref m1, .ref m2])), (t1, .inr (4, [.int u.2.2.1, .int u.2.2.2.1, .int u.2.2.2.2.1])), (t2, .inr (4, [.int u.2.2.2.2.2.1, .int u.2.2.2.2.2.2.1, .int u.2.2.2.2.2.2.2])), (a, .inr (0, [.ref k1, .ref k2, .ref k3, .ref k4, .ref k5, .int (nI n)])), (k1, .inl (cI, 5, .inl kd)), (k2, .inl (cI, 5, .inl ln)), (k3, .inl (cI, 5, .inl lo)), (k4, .inl (cI, 5, .inl hi)), (k5, .inl (cI, 5, .inl vl)), (m1, .inl (cI, 5, .inl u.1)), (m2, .inl (cI, 5, .inl u.2.1))]) := by
  refine zM_v (cc := cX5_findMoves) (maxL := 2) (by decide) rfl (Nat.le_of_ble_eq_true rfl) ?_
  intro p e s m args below meth c ls A0 Q C hl hP hS hRet
  obtain ⟨⟨hx, hb, hml, hown, hts⟩, hG, hK, hD, hlocks⟩ := C
  have hin0 : ∀ w ∈ u_ws RX0 TX0 6, w ∈ wsX5_findMoves := by decide +kernel
  have hin4 : ∀ w ∈ u_ws RX4 TX4 3, w ∈ wsX5_findMoves := by decide +kernel
  have hin5 : ∀ w ∈ u_ws RX5 TX5 7, w ∈ wsX5_findMoves := by decide +kernel
  have hf26 := hts (.fieldLink RX5 26 "ArmRoom" "now" "LArmRoom$Tip;") (by decide +kernel)
  have hf10 := hts (.fieldLink RX5 10 "ArmRoom" "arm" "LArmRoom$Arm;") (by decide +kernel)
  have hf108 := hG.1.2.1 ("ArmRoom", 108, "ArmRoom$Arm", "count", "I", "ArmRoom") (List.mem_of_getElem? (i := 9) rfl)
  have hf30 := hts (.fieldLink RX5 30 "ArmRoom" "then" "LArmRoom$Tip;") (by decide +kernel)
  have hf83 := hG.1.2.1 ("ArmRoom", 83, "ArmRoom$Arm", "values", "[I", "ArmRoom") (List.mem_of_getElem? (i := 4) rfl)
  have hf40 := hts (.fieldLink RX5 40 "ArmRoom" "movesX" "[I") (by decide +kernel)
  have hf185 := hG.1.2.1 ("ArmRoom", 185, "ArmRoom$Tip", "x", "I", "ArmRoom") (List.mem_of_getElem? (i := 14) rfl)
  have hf44 := hts (.fieldLink RX5 44 "ArmRoom" "movesY" "[I") (by decide +kernel)
  have hf186 := hG.1.2.1 ("ArmRoom", 186, "ArmRoom$Tip", "y", "I", "ArmRoom") (List.mem_of_getElem? (i := 15) rfl)
  have hl : lv_has ls 2 [(0, .ref oo)] := hl
  refine lv_aload_n hx hb dX5_findMoves_0 rfl (lv_at hl 0 rfl) ?_
  refine va_get (D := D) (ci := 5) (v := .ref t1) (C := RX5) (T := TX5) (N := 7) hx hb hts hin5 hown hK hP 0 rfl rfl 2 (by decide) hf26 (fun _ h9 => h9) rfl dX5_findMoves_1 ?_
  refine lv_aload_n hx hb dX5_findMoves_4 rfl (lv_at hl 0 rfl) ?_
  refine va_get (D := D) (ci := 5) (v := .ref a) (C := RX5) (T := TX5) (N := 7) hx hb hts hin5 hown hK hP 0 rfl rfl 0 (by decide) hf10 (fun _ h9 => h9) rfl dX5_findMoves_5 ?_
  refine z_callVN (As := [.ref a]) (rest := []) ⟨hx, hb, hml, hown, hts⟩ hG hK hP hD hS (c_X4_follow l D cI cJ t1 x1 y1 h1 a k1 k2 k3 k4 k5 n kd ln lo hi vl (by first | assumption | omega | decide)) (⟨va_cnB 1 hts gX5_findMoves_X4_follow_n90 rfl rfl rfl (hG.1.1 ("ArmRoom", 90, yX4_follow, "ArmRoom") (List.mem_of_getElem? (i := 5) rfl)) (hts (.initialized RX4) (by decide +kernel)) (by decide +kernel) ⟨Nat.le_of_ble_eq_true rfl, Nat.le_of_ble_eq_true rfl⟩, hts (.instanceMethod yX4_follow) (by decide +kernel), hts (.selects RX4 yX4_follow yX4_follow) (by decide +kernel)⟩) [1, 3, 4, 5, 6, 7, 8] (by decide) rfl (fun _ => rfl) 1 rfl rfl rfl rfl hl.1 rfl (Nat.le_of_ble_eq_true rfl) dX5_findMoves_8 ⟨Nat.le_of_ble_eq_true rfl, Nat.le_of_ble_eq_true rfl⟩ (fun u_1 H locs hu_2 hP hD hS => ?_)
  obtain ⟨x2_3, y2_4, h2_5⟩ := u_1
  have hu_2 : (x2_3 = zX kd ln vl n) ∧ (y2_4 = zY kd ln vl n) ∧ (h2_5 = zH kd vl n) := hu_2
  obtain ⟨e_6, e_7, e_8⟩ := hu_2
  subst e_6
  subst e_7
  subst e_8
  have hP : va_P D vwCl [(oo, .inr (5, [.ref a, .ref g, .ref t1, .ref t2, .ref s9, .ref m1, .ref m2])), (t1, .inr (4, [.int (zX kd ln vl n), .int (zY kd ln vl n), .int (zH kd vl n)])), (t2, .inr (4, [.int x2, .int y2, .int h2])), (a, .inr (0, [.ref k1, .ref k2, .ref k3, .ref k4, .ref k5, .int (nI n)])), (k1, .inl (cI, 5, .inl kd)), (k2, .inl (cI, 5, .inl ln)), (k3, .inl (cI, 5, .inl lo)), (k4, .inl (cI, 5, .inl hi)), (k5, .inl (cI, 5, .inl vl)), (m1, .inl (cI, 5, .inl f1)), (m2, .inl (cI, 5, .inl f2))] H := hP
  have hD : va_D A0 [(oo, .inr (5, [.ref a, .ref g, .ref t1, .ref t2, .ref s9, .ref m1, .ref m2])), (t1, .inr (4, [.int (zX kd ln vl n), .int (zY kd ln vl n), .int (zH kd vl n)])), (t2, .inr (4, [.int x2, .int y2, .int h2])), (a, .inr (0, [.ref k1, .ref k2, .ref k3, .ref k4, .ref k5, .int (nI n)])), (k1, .inl (cI, 5, .inl kd)), (k2, .inl (cI, 5, .inl ln)), (k3, .inl (cI, 5, .inl lo)), (k4, .inl (cI, 5, .inl hi)), (k5, .inl (cI, 5, .inl vl)), (m1, .inl (cI, 5, .inl f1)), (m2, .inl (cI, 5, .inl f2))] := hD
  refine lv_iconst (v := 0) hx hb dX5_findMoves_11 (by decide) ?_
  refine lv_istore_n (lv' := [(1, .int 0), (0, .ref oo)]) hx hb dX5_findMoves_12 rfl hl (by decide) rfl (fun ls hl => ?_)
  have lp_13_9 : ∀ (fu : Nat) (i : Nat) (x4 : Int32) (y4 : Int32) (h4 : Int32) (f3 : Nat → Int32) (f4 : Nat → Int32), (i ≤ n) → (∀ j, j < i → f3 j = zMx kd ln vl n j) → (∀ j, j < i → f4 j = zMy kd ln vl n j) → (n - i < fu) → ∀ (H : Heap) (locs : List Loc), va_P D vwCl [(oo, .inr (5, [.ref a, .ref g, .ref t1, .ref t2, .ref s9, .ref m1, .ref m2])), (t1, .inr (4, [.int (zX kd ln vl n), .int (zY kd ln vl n), .int (zH kd vl n)])), (t2, .inr (4, [.int x4, .int y4, .int h4])), (a, .inr (0, [.ref k1, .ref k2, .ref k3, .ref k4, .ref k5, .int (nI n)])), (k1, .inl (cI, 5, .inl kd)), (k2, .inl (cI, 5, .inl ln)), (k3, .inl (cI, 5, .inl lo)), (k4, .inl (cI, 5, .inl hi)), (k5, .inl (cI, 5, .inl vl)), (m1, .inl (cI, 5, .inl f3)), (m2, .inl (cI, 5, .inl f4))] H → va_D A0 [(oo, .inr (5, [.ref a, .ref g, .ref t1, .ref t2, .ref s9, .ref m1, .ref m2])), (t1, .inr (4, [.int (zX kd ln vl n), .int (zY kd ln vl n), .int (zH kd vl n)])), (t2, .inr (4, [.int x4, .int y4, .int h4])), (a, .inr (0, [.ref k1, .ref k2, .ref k3, .ref k4, .ref k5, .int (nI n)])), (k1, .inl (cI, 5, .inl kd)), (k2, .inl (cI, 5, .inl ln)), (k3, .inl (cI, 5, .inl lo)), (k4, .inl (cI, 5, .inl hi)), (k5, .inl (cI, 5, .inl vl)), (m1, .inl (cI, 5, .inl f3)), (m2, .inl (cI, 5, .inl f4))] → va_S A0 s.heap H locs → ∀ (ls : Array Slot), lv_has ls 2 [(0, .ref oo), (1, .int (nI i))] → W p l e (zRm 5 0 0) s m args below meth c H locs 0 0 Q (F0 m 13 ls []) := by
    intro fu
    induction fu with
    | zero => intro i x4 y4 h4 f3 f4 hi1 hm1 hm2 hfu; exact absurd hfu (Nat.not_lt_zero _)
    | succ fu ih_13_9 =>
      intro i x4 y4 h4 f3 f4 hi1 hm1 hm2 hfu H locs hP hD hS ls hl
      refine lv_iload_n hx hb dX5_findMoves_13 rfl (lv_at hl 1 rfl) ?_
      refine lv_aload_n hx hb dX5_findMoves_14 rfl (lv_at hl 0 rfl) ?_
      refine va_get (D := D) (ci := 5) (v := .ref a) (C := RX5) (T := TX5) (N := 7) hx hb hts hin5 hown hK hP 0 rfl rfl 0 (by decide) hf10 (fun _ h9 => h9) rfl dX5_findMoves_15 ?_
      refine va_getN (D := D) (ci := 0) (v := .int (nI n)) (C := RX0) (T := TX0) (N := 6) hx hb hts hin0 hown hK hP 3 rfl rfl 5 (by decide) (va_Nw.use rfl hf108) (fun _ h9 => h9) rfl dX5_findMoves_18 ?_
      refine lv_icmp_ge (tgt := 95) hx hb dX5_findMoves_21 (by decide) (fun c_21 => ?_) (fun c_21 => ?_)
      · rw [nI_leI (by omega) (by omega)] at c_21
        obtain rfl : n = i := by omega
        exact hRet _ (f3, f4, zX kd ln vl n, zY kd ln vl n, zH kd vl n, x4, y4, h4) _ _ _ ⟨hm1, hm2⟩ hP hS dX5_findMoves_95
      · rw [nI_leI (by omega) (by omega)] at c_21
        refine lv_aload_n hx hb dX5_findMoves_24 rfl (lv_at hl 0 rfl) ?_
        refine va_get (D := D) (ci := 5) (v := .ref t2) (C := RX5) (T := TX5) (N := 7) hx hb hts hin5 hown hK hP 0 rfl rfl 3 (by decide) hf30 (fun _ h9 => h9) rfl dX5_findMoves_25 ?_
        refine lv_aload_n hx hb dX5_findMoves_28 rfl (lv_at hl 0 rfl) ?_
        refine va_get (D := D) (ci := 5) (v := .ref a) (C := RX5) (T := TX5) (N := 7) hx hb hts hin5 hown hK hP 0 rfl rfl 0 (by decide) hf10 (fun _ h9 => h9) rfl dX5_findMoves_29 ?_
        refine lv_iload_n hx hb dX5_findMoves_32 rfl (lv_at hl 1 rfl) ?_
        refine lv_aload_n hx hb dX5_findMoves_33 rfl (lv_at hl 0 rfl) ?_
        refine va_get (D := D) (ci := 5) (v := .ref a) (C := RX5) (T := TX5) (N := 7) hx hb hts hin5 hown hK hP 0 rfl rfl 0 (by decide) hf10 (fun _ h9 => h9) rfl dX5_findMoves_34 ?_
        refine va_getN (D := D) (ci := 0) (v := .ref k5) (C := RX0) (T := TX0) (N := 6) hx hb hts hin0 hown hK hP 3 rfl rfl 4 (by decide) (va_Nw.use rfl hf83) (fun _ h9 => h9) rfl dX5_findMoves_37 ?_
        refine lv_iload_n hx hb dX5_findMoves_40 rfl (lv_at hl 1 rfl) ?_
        refine z_iald hx hb hK hP 8 rfl (j := i) (by omega) (by decide) dX5_findMoves_41 ?_
        refine lv_iconst (v := 1) hx hb dX5_findMoves_42 (by decide) ?_
        refine lv_iadd hx hb dX5_findMoves_43 ?_
        refine z_callVN (As := [.ref a, .int (nI i), .int ((vl i) + 1)]) (rest := []) ⟨hx, hb, hml, hown, hts⟩ hG hK hP hD hS (c_X4_followWith l D cI cJ t2 x4 y4 h4 a k1 k2 k3 k4 k5 n kd ln lo hi vl (nI i) ((vl i) + 1) (by first | assumption | omega | decide)) (⟨va_cnB 3 hts gX5_findMoves_X4_followWith_n101 rfl rfl rfl (hG.1.1 ("ArmRoom", 101, yX4_followWith, "ArmRoom") (List.mem_of_getElem? (i := 10) rfl)) (hts (.initialized RX4) (by decide +kernel)) (by decide +kernel) ⟨Nat.le_of_ble_eq_true rfl, Nat.le_of_ble_eq_true rfl⟩, hts (.instanceMethod yX4_followWith) (by decide +kernel), hts (.selects RX4 yX4_followWith yX4_followWith) (by decide +kernel)⟩) [2, 3, 4, 5, 6, 7, 8] (by decide) rfl (fun _ => rfl) 2 rfl rfl rfl rfl hl.1 rfl (Nat.le_of_ble_eq_true rfl) dX5_findMoves_44 ⟨Nat.le_of_ble_eq_true rfl, Nat.le_of_ble_eq_true rfl⟩ (fun u_10 H locs hu_11 hP hD hS => ?_)
        have hP : va_P D vwCl [(oo, .inr (5, [.ref a, .ref g, .ref t1, .ref t2, .ref s9, .ref m1, .ref m2])), (t1, .inr (4, [.int (zX kd ln vl n), .int (zY kd ln vl n), .int (zH kd vl n)])), (t2, .inr (4, [.int (zX kd ln (zPo vl (nI i) ((vl i) + 1)) n), .int (zY kd ln (zPo vl (nI i) ((vl i) + 1)) n), .int (zH kd (zPo vl (nI i) ((vl i) + 1)) n)])), (a, .inr (0, [.ref k1, .ref k2, .ref k3, .ref k4, .ref k5, .int (nI n)])), (k1, .inl (cI, 5, .inl kd)), (k2, .inl (cI, 5, .inl ln)), (k3, .inl (cI, 5, .inl lo)), (k4, .inl (cI, 5, .inl hi)), (k5, .inl (cI, 5, .inl vl)), (m1, .inl (cI, 5, .inl f3)), (m2, .inl (cI, 5, .inl f4))] H := hP
        have hD : va_D A0 [(oo, .inr (5, [.ref a, .ref g, .ref t1, .ref t2, .ref s9, .ref m1, .ref m2])), (t1, .inr (4, [.int (zX kd ln vl n), .int (zY kd ln vl n), .int (zH kd vl n)])), (t2, .inr (4, [.int (zX kd ln (zPo vl (nI i) ((vl i) + 1)) n), .int (zY kd ln (zPo vl (nI i) ((vl i) + 1)) n), .int (zH kd (zPo vl (nI i) ((vl i) + 1)) n)])), (a, .inr (0, [.ref k1, .ref k2, .ref k3, .ref k4, .ref k5, .int (nI n)])), (k1, .inl (cI, 5, .inl kd)), (k2, .inl (cI, 5, .inl ln)), (k3, .inl (cI, 5, .inl lo)), (k4, .inl (cI, 5, .inl hi)), (k5, .inl (cI, 5, .inl vl)), (m1, .inl (cI, 5, .inl f3)), (m2, .inl (cI, 5, .inl f4))] := hD
        refine lv_aload_n hx hb dX5_findMoves_47 rfl (lv_at hl 0 rfl) ?_
        refine va_get (D := D) (ci := 5) (v := .ref m1) (C := RX5) (T := TX5) (N := 7) hx hb hts hin5 hown hK hP 0 rfl rfl 5 (by decide) hf40 (fun _ h9 => h9) rfl dX5_findMoves_48 ?_
        refine lv_iload_n hx hb dX5_findMoves_51 rfl (lv_at hl 1 rfl) ?_
        refine lv_aload_n hx hb dX5_findMoves_52 rfl (lv_at hl 0 rfl) ?_
        refine va_get (D := D) (ci := 5) (v := .ref t2) (C := RX5) (T := TX5) (N := 7) hx hb hts hin5 hown hK hP 0 rfl rfl 3 (by decide) hf30 (fun _ h9 => h9) rfl dX5_findMoves_53 ?_
        refine va_getN (D := D) (ci := 4) (v := .int (zX kd ln (zPo vl (nI i) ((vl i) + 1)) n)) (C := RX4) (T := TX4) (N := 3) hx hb hts hin4 hown hK hP 2 rfl rfl 0 (by decide) (va_Nw.use rfl hf185) (fun _ h9 => h9) rfl dX5_findMoves_56 ?_
        refine lv_aload_n hx hb dX5_findMoves_59 rfl (lv_at hl 0 rfl) ?_
        refine va_get (D := D) (ci := 5) (v := .ref t1) (C := RX5) (T := TX5) (N := 7) hx hb hts hin5 hown hK hP 0 rfl rfl 2 (by decide) hf26 (fun _ h9 => h9) rfl dX5_findMoves_60 ?_
        refine va_getN (D := D) (ci := 4) (v := .int (zX kd ln vl n)) (C := RX4) (T := TX4) (N := 3) hx hb hts hin4 hown hK hP 1 rfl rfl 0 (by decide) (va_Nw.use rfl hf185) (fun _ h9 => h9) rfl dX5_findMoves_63 ?_
        refine lv_isub hx hb dX5_findMoves_66 ?_
        refine z_iast hx hb hK hP hD hS 9 rfl (j := i) (by omega) (by decide) dX5_findMoves_67 (fun H locs hP hD hS => ?_)
        have hP : va_P D vwCl [(oo, .inr (5, [.ref a, .ref g, .ref t1, .ref t2, .ref s9, .ref m1, .ref m2])), (t1, .inr (4, [.int (zX kd ln vl n), .int (zY kd ln vl n), .int (zH kd vl n)])), (t2, .inr (4, [.int (zX kd ln (zPo vl (nI i) ((vl i) + 1)) n), .int (zY kd ln (zPo vl (nI i) ((vl i) + 1)) n), .int (zH kd (zPo vl (nI i) ((vl i) + 1)) n)])), (a, .inr (0, [.ref k1, .ref k2, .ref k3, .ref k4, .ref k5, .int (nI n)])), (k1, .inl (cI, 5, .inl kd)), (k2, .inl (cI, 5, .inl ln)), (k3, .inl (cI, 5, .inl lo)), (k4, .inl (cI, 5, .inl hi)), (k5, .inl (cI, 5, .inl vl)), (m1, .inl (cI, 5, .inl (upd f3 i ((zX kd ln (zPo vl (nI i) ((vl i) + 1)) n) - (zX kd ln vl n))))), (m2, .inl (cI, 5, .inl f4))] H := hP
        have hD : va_D A0 [(oo, .inr (5, [.ref a, .ref g, .ref t1, .ref t2, .ref s9, .ref m1, .ref m2])), (t1, .inr (4, [.int (zX kd ln vl n), .int (zY kd ln vl n), .int (zH kd vl n)])), (t2, .inr (4, [.int (zX kd ln (zPo vl (nI i) ((vl i) + 1)) n), .int (zY kd ln (zPo vl (nI i) ((vl i) + 1)) n), .int (zH kd (zPo vl (nI i) ((vl i) + 1)) n)])), (a, .inr (0, [.ref k1, .ref k2, .ref k3, .ref k4, .ref k5, .int (nI n)])), (k1, .inl (cI, 5, .inl kd)), (k2, .inl (cI, 5, .inl ln)), (k3, .inl (cI, 5, .inl lo)), (k4, .inl (cI, 5, .inl hi)), (k5, .inl (cI, 5, .inl vl)), (m1, .inl (cI, 5, .inl (upd f3 i ((zX kd ln (zPo vl (nI i) ((vl i) + 1)) n) - (zX kd ln vl n))))), (m2, .inl (cI, 5, .inl f4))] := hD
        refine lv_aload_n hx hb dX5_findMoves_68 rfl (lv_at hl 0 rfl) ?_
        refine va_get (D := D) (ci := 5) (v := .ref m2) (C := RX5) (T := TX5) (N := 7) hx hb hts hin5 hown hK hP 0 rfl rfl 6 (by decide) hf44 (fun _ h9 => h9) rfl dX5_findMoves_69 ?_
        refine lv_iload_n hx hb dX5_findMoves_72 rfl (lv_at hl 1 rfl) ?_
        refine lv_aload_n hx hb dX5_findMoves_73 rfl (lv_at hl 0 rfl) ?_
        refine va_get (D := D) (ci := 5) (v := .ref t2) (C := RX5) (T := TX5) (N := 7) hx hb hts hin5 hown hK hP 0 rfl rfl 3 (by decide) hf30 (fun _ h9 => h9) rfl dX5_findMoves_74 ?_
        refine va_getN (D := D) (ci := 4) (v := .int (zY kd ln (zPo vl (nI i) ((vl i) + 1)) n)) (C := RX4) (T := TX4) (N := 3) hx hb hts hin4 hown hK hP 2 rfl rfl 1 (by decide) (va_Nw.use rfl hf186) (fun _ h9 => h9) rfl dX5_findMoves_77 ?_
        refine lv_aload_n hx hb dX5_findMoves_80 rfl (lv_at hl 0 rfl) ?_
        refine va_get (D := D) (ci := 5) (v := .ref t1) (C := RX5) (T := TX5) (N := 7) hx hb hts hin5 hown hK hP 0 rfl rfl 2 (by decide) hf26 (fun _ h9 => h9) rfl dX5_findMoves_81 ?_
        refine va_getN (D := D) (ci := 4) (v := .int (zY kd ln vl n)) (C := RX4) (T := TX4) (N := 3) hx hb hts hin4 hown hK hP 1 rfl rfl 1 (by decide) (va_Nw.use rfl hf186) (fun _ h9 => h9) rfl dX5_findMoves_84 ?_
        refine lv_isub hx hb dX5_findMoves_87 ?_
        refine z_iast hx hb hK hP hD hS 10 rfl (j := i) (by omega) (by decide) dX5_findMoves_88 (fun H locs hP hD hS => ?_)
        have hP : va_P D vwCl [(oo, .inr (5, [.ref a, .ref g, .ref t1, .ref t2, .ref s9, .ref m1, .ref m2])), (t1, .inr (4, [.int (zX kd ln vl n), .int (zY kd ln vl n), .int (zH kd vl n)])), (t2, .inr (4, [.int (zX kd ln (zPo vl (nI i) ((vl i) + 1)) n), .int (zY kd ln (zPo vl (nI i) ((vl i) + 1)) n), .int (zH kd (zPo vl (nI i) ((vl i) + 1)) n)])), (a, .inr (0, [.ref k1, .ref k2, .ref k3, .ref k4, .ref k5, .int (nI n)])), (k1, .inl (cI, 5, .inl kd)), (k2, .inl (cI, 5, .inl ln)), (k3, .inl (cI, 5, .inl lo)), (k4, .inl (cI, 5, .inl hi)), (k5, .inl (cI, 5, .inl vl)), (m1, .inl (cI, 5, .inl (upd f3 i ((zX kd ln (zPo vl (nI i) ((vl i) + 1)) n) - (zX kd ln vl n))))), (m2, .inl (cI, 5, .inl (upd f4 i ((zY kd ln (zPo vl (nI i) ((vl i) + 1)) n) - (zY kd ln vl n)))))] H := hP
        have hD : va_D A0 [(oo, .inr (5, [.ref a, .ref g, .ref t1, .ref t2, .ref s9, .ref m1, .ref m2])), (t1, .inr (4, [.int (zX kd ln vl n), .int (zY kd ln vl n), .int (zH kd vl n)])), (t2, .inr (4, [.int (zX kd ln (zPo vl (nI i) ((vl i) + 1)) n), .int (zY kd ln (zPo vl (nI i) ((vl i) + 1)) n), .int (zH kd (zPo vl (nI i) ((vl i) + 1)) n)])), (a, .inr (0, [.ref k1, .ref k2, .ref k3, .ref k4, .ref k5, .int (nI n)])), (k1, .inl (cI, 5, .inl kd)), (k2, .inl (cI, 5, .inl ln)), (k3, .inl (cI, 5, .inl lo)), (k4, .inl (cI, 5, .inl hi)), (k5, .inl (cI, 5, .inl vl)), (m1, .inl (cI, 5, .inl (upd f3 i ((zX kd ln (zPo vl (nI i) ((vl i) + 1)) n) - (zX kd ln vl n))))), (m2, .inl (cI, 5, .inl (upd f4 i ((zY kd ln (zPo vl (nI i) ((vl i) + 1)) n) - (zY kd ln vl n)))))] := hD
        refine lv_iinc (v := nI (i + 1)) (lv' := [(1, .int (nI (i + 1))), (0, .ref oo)]) hx hb dX5_findMoves_89 hl (k := 1) rfl ((nI_succ _).symm) (by decide) rfl (fun ls hl => ?_)
        refine lv_goto (tgt := 13) hx hb dX5_findMoves_92 (by decide) ?_
        exact ih_13_9 (i + 1) (zX kd ln (zPo vl (nI i) ((vl i) + 1)) n) (zY kd ln (zPo vl (nI i) ((vl i) + 1)) n) (zH kd (zPo vl (nI i) ((vl i) + 1)) n) (upd f3 i ((zX kd ln (zPo vl (nI i) ((vl i) + 1)) n) - (zX kd ln vl n))) (upd f4 i ((zY kd ln (zPo vl (nI i) ((vl i) + 1)) n) - (zY kd ln vl n))) (by first | assumption | omega | rfl | simp_all) (zupd_ok hm1 rfl) (zupd_ok hm2 rfl) (by omega) _ _ hP hD hS _ (lv_sub hl [1, 0] rfl)
  exact lp_13_9 ((n - 0) + 1) 0 x2 y2 h2 f1 f2 (by first | assumption | omega | rfl | simp_all) (fun j hj => absurd hj (Nat.not_lt_zero j)) (fun j hj => absurd hj (Nat.not_lt_zero j)) (Nat.lt_succ_self _) _ _ hP hD hS _ (lv_sub hl [1, 0] rfl)

set_option maxHeartbeats 4000000 in
set_option maxRecDepth 100000 in
theorem c_X5_freedom (l : Launch) (D : va_G) (cI cJ : ClassId) (oo : Nat) (s9 : Nat) (m1 : Nat) (m2 : Nat) (g : Nat) (t1 : Nat) (x1 : Int32) (y1 : Int32) (h1 : Int32) (t2 : Nat) (x2 : Int32) (y2 : Int32) (h2 : Int32) (a : Nat) (k1 : Nat) (k2 : Nat) (k3 : Nat) (k4 : Nat) (k5 : Nat) (n : Nat) (kd : Nat → Int32) (ln : Nat → Int32) (lo : Nat → Int32) (hi : Nat → Int32) (vl : Nat → Int32) (f1 : Nat → Int32) (f2 : Nat → Int32) (hn : n ≤ 5) : zM l yX5_freedom wsX5_freedom 6 D cI cJ [.ref oo] [(oo, .inr (5, [.ref a, .ref g, .ref t1, .ref t2, .ref s9, .ref m1, .ref m2])), (t1, .inr (4, [.int x1, .int y1, .int h1])), (t2, .inr (4, [.int x2, .int y2, .int h2])), (a, .inr (0, [.ref k1, .ref k2, .ref k3, .ref k4, .ref k5, .int (nI n)])), (k1, .inl (cI, 5, .inl kd)), (k2, .inl (cI, 5, .inl ln)), (k3, .inl (cI, 5, .inl lo)), (k4, .inl (cI, 5, .inl hi)), (k5, .inl (cI, 5, .inl vl)), (m1, .inl (cI, 5, .inl f1)), (m2, .inl (cI, 5, .inl f2))] (fun (u : Int64 × (Nat → Int32) × (Nat → Int32) × Int32 × Int32 × Int32 × Int32 × Int32 × Int32) => (zFree kd ln vl n u.1)) (fun (u : Int64 × (Nat → Int32) × (Nat → Int32) × Int32 × Int32 × Int32 × Int32 × Int32 × Int32) => some (.long u.1)) (fun (u : Int64 × (Nat → Int32) × (Nat → Int32) × Int32 × Int32 × Int32 × Int32 × Int32 × Int32) => [(oo, .inr (5, [.ref a, .ref g, .ref t1, .ref t2, .ref s9, .ref m1, .ref m2])), (t1, .inr (4, [.int u.2.2.2.1, .int u.2.2.2.2.1, .int u.2.2.2.2.2.1])), (t2, .inr (4, [.int u.2.2.2.2.2.2.1, .int u.2.2.2.2.2.2.2.1, .int u.2.2.2.2.2.2.2.2])), (a, .inr (0, [.ref k1, .ref k2, .ref k3, .ref k4, .ref k5, .int (nI n)])), (k1, .inl (cI, 5, .inl kd)), (k2, .inl (cI, 5, .inl ln)), (k3, .inl (cI, 5, .inl lo)), (k4, .inl (cI, 5, .inl hi)), (k5, .inl (cI, 5, .inl vl)), (m1, .inl (cI, 5, .inl u.2.1)), (m2, .inl (cI, 5, .inl u.2.2.1))]) := by
  refine zM_l (cc := cX5_freedom) (maxL := 7) (r := fun (u : Int64 × (Nat → Int32) × (Nat → Int32) × Int32 × Int32 × Int32 × Int32 × Int32 × Int32) => u.1) (by decide) rfl (Nat.le_of_ble_eq_true rfl) ?_
  intro p e s m args below meth c ls A0 Q C hl hP hS hRet
  obtain ⟨⟨hx, hb, hml, hown, hts⟩, hG, hK, hD, hlocks⟩ := C
  have hin0 : ∀ w ∈ u_ws RX0 TX0 6, w ∈ wsX5_freedom := by decide +kernel
  have hin5 : ∀ w ∈ u_ws RX5 TX5 7, w ∈ wsX5_freedom := by decide +kernel
  have hf10 := hts (.fieldLink RX5 10 "ArmRoom" "arm" "LArmRoom$Arm;") (by decide +kernel)
  have hf108 := hG.1.2.1 ("ArmRoom", 108, "ArmRoom$Arm", "count", "I", "ArmRoom") (List.mem_of_getElem? (i := 9) rfl)
  have hf40 := hts (.fieldLink RX5 40 "ArmRoom" "movesX" "[I") (by decide +kernel)
  have hf44 := hts (.fieldLink RX5 44 "ArmRoom" "movesY" "[I") (by decide +kernel)
  have hl : lv_has ls 7 [(0, .ref oo)] := hl
  refine lv_aload_n hx hb dX5_freedom_0 rfl (lv_at hl 0 rfl) ?_
  refine z_callV (As := []) (rest := []) ⟨hx, hb, hml, hown, hts⟩ hG hK hP hD hS (c_X5_findMoves l D cI cJ oo s9 m1 m2 g t1 x1 y1 h1 t2 x2 y2 h2 a k1 k2 k3 k4 k5 n kd ln lo hi vl f1 f2 (by first | assumption | omega | decide)) (cwV 0 hts gX5_freedom_X5_findMoves rfl rfl rfl (by decide +kernel) ⟨Nat.le_of_ble_eq_true rfl, Nat.le_of_ble_eq_true rfl⟩) [0, 1, 2, 3, 4, 5, 6, 7, 8, 9, 10] (by decide) rfl (fun _ => rfl) 0 rfl rfl rfl rfl hl.1 rfl (Nat.le_of_ble_eq_true rfl) dX5_freedom_1 ⟨Nat.le_of_ble_eq_true rfl, Nat.le_of_ble_eq_true rfl⟩ (fun u_1 H locs hu_2 hP hD hS => ?_)
  obtain ⟨f5, f6, xa, ya, ha, xb, yb, hb9⟩ := u_1
  have hu_2 : (∀ j, j < n → f5 j = zMx kd ln vl n j) ∧ (∀ j, j < n → f6 j = zMy kd ln vl n j) := hu_2
  obtain ⟨ef5, ef6⟩ := hu_2
  have hP : va_P D vwCl [(oo, .inr (5, [.ref a, .ref g, .ref t1, .ref t2, .ref s9, .ref m1, .ref m2])), (t1, .inr (4, [.int xa, .int ya, .int ha])), (t2, .inr (4, [.int xb, .int yb, .int hb9])), (a, .inr (0, [.ref k1, .ref k2, .ref k3, .ref k4, .ref k5, .int (nI n)])), (k1, .inl (cI, 5, .inl kd)), (k2, .inl (cI, 5, .inl ln)), (k3, .inl (cI, 5, .inl lo)), (k4, .inl (cI, 5, .inl hi)), (k5, .inl (cI, 5, .inl vl)), (m1, .inl (cI, 5, .inl f5)), (m2, .inl (cI, 5, .inl f6))] H := hP
  have hD : va_D A0 [(oo, .inr (5, [.ref a, .ref g, .ref t1, .ref t2, .ref s9, .ref m1, .ref m2])), (t1, .inr (4, [.int xa, .int ya, .int ha])), (t2, .inr (4, [.int xb, .int yb, .int hb9])), (a, .inr (0, [.ref k1, .ref k2, .ref k3, .ref k4, .ref k5, .int (nI n)])), (k1, .inl (cI, 5, .inl kd)), (k2, .inl (cI, 5, .inl ln)), (k3, .inl (cI, 5, .inl lo)), (k4, .inl (cI, 5, .inl hi)), (k5, .inl (cI, 5, .inl vl)), (m1, .inl (cI, 5, .inl f5)), (m2, .inl (cI, 5, .inl f6))] := hD
  refine lv_lconst (v := 0) hx hb dX5_freedom_4 (by decide) ?_
  refine lv_lstore_n (lv' := [(1, .long 0), (0, .ref oo)]) hx hb dX5_freedom_5 rfl hl (by decide) rfl (fun ls hl => ?_)
  refine lv_iconst (v := 0) hx hb dX5_freedom_6 (by decide) ?_
  refine lv_istore_n (lv' := [(3, .int 0), (1, .long 0), (0, .ref oo)]) hx hb dX5_freedom_7 rfl hl (by decide) rfl (fun ls hl => ?_)
  have lp_8_3 : ∀ (fu : Nat) (i : Nat) (q : Int64), (i ≤ n) → (zFr (fun i' j' => (i' < j' ∧ j' < n) ∧ i' < i) f5 f6 q) → (n - i < fu) → ∀ (H : Heap) (locs : List Loc), va_P D vwCl [(oo, .inr (5, [.ref a, .ref g, .ref t1, .ref t2, .ref s9, .ref m1, .ref m2])), (t1, .inr (4, [.int xa, .int ya, .int ha])), (t2, .inr (4, [.int xb, .int yb, .int hb9])), (a, .inr (0, [.ref k1, .ref k2, .ref k3, .ref k4, .ref k5, .int (nI n)])), (k1, .inl (cI, 5, .inl kd)), (k2, .inl (cI, 5, .inl ln)), (k3, .inl (cI, 5, .inl lo)), (k4, .inl (cI, 5, .inl hi)), (k5, .inl (cI, 5, .inl vl)), (m1, .inl (cI, 5, .inl f5)), (m2, .inl (cI, 5, .inl f6))] H → va_D A0 [(oo, .inr (5, [.ref a, .ref g, .ref t1, .ref t2, .ref s9, .ref m1, .ref m2])), (t1, .inr (4, [.int xa, .int ya, .int ha])), (t2, .inr (4, [.int xb, .int yb, .int hb9])), (a, .inr (0, [.ref k1, .ref k2, .ref k3, .ref k4, .ref k5, .int (nI n)])), (k1, .inl (cI, 5, .inl kd)), (k2, .inl (cI, 5, .inl ln)), (k3, .inl (cI, 5, .inl lo)), (k4, .inl (cI, 5, .inl hi)), (k5, .inl (cI, 5, .inl vl)), (m1, .inl (cI, 5, .inl f5)), (m2, .inl (cI, 5, .inl f6))] → va_S A0 s.heap H locs → ∀ (ls : Array Slot), lv_has ls 7 [(0, .ref oo), (1, .long q), (3, .int (nI i))] → W p l e (zRm 6 0 0) s m args below meth c H locs 0 0 Q (F0 m 8 ls []) := by
    intro fu
    induction fu with
    | zero => intro i q hi1 hq hfu; exact absurd hfu (Nat.not_lt_zero _)
    | succ fu ih_8_3 =>
      intro i q hi1 hq hfu H locs hP hD hS ls hl
      refine lv_iload_n hx hb dX5_freedom_8 rfl (lv_at hl 2 rfl) ?_
      refine lv_aload_n hx hb dX5_freedom_9 rfl (lv_at hl 0 rfl) ?_
      refine va_get (D := D) (ci := 5) (v := .ref a) (C := RX5) (T := TX5) (N := 7) hx hb hts hin5 hown hK hP 0 rfl rfl 0 (by decide) hf10 (fun _ h9 => h9) rfl dX5_freedom_10 ?_
      refine va_getN (D := D) (ci := 0) (v := .int (nI n)) (C := RX0) (T := TX0) (N := 6) hx hb hts hin0 hown hK hP 3 rfl rfl 5 (by decide) (va_Nw.use rfl hf108) (fun _ h9 => h9) rfl dX5_freedom_13 ?_
      refine lv_icmp_ge (tgt := 93) hx hb dX5_freedom_16 (by decide) (fun c_16 => ?_) (fun c_16 => ?_)
      · rw [nI_leI (by omega) (by omega)] at c_16
        obtain rfl : n = i := by omega
        refine lv_lload_n hx hb dX5_freedom_93 rfl (lv_at hl 1 rfl) ?_
        exact hRet _ (q, f5, f6, xa, ya, ha, xb, yb, hb9) _ _ _ (zFr_congr ef5 ef6 (fun i j h => by omega) (zFr_iff (fun i' j' => by omega) hq)) hP hS dX5_freedom_94
      · rw [nI_leI (by omega) (by omega)] at c_16
        refine lv_iload_n hx hb dX5_freedom_19 rfl (lv_at hl 2 rfl) ?_
        refine lv_iconst (v := 1) hx hb dX5_freedom_20 (by decide) ?_
        refine lv_iadd hx hb dX5_freedom_21 ?_
        refine z_topi (y := nI (i + 1)) ((nI_succ _).symm) ?_
        refine lv_istore (lv' := [(4, .int (nI (i + 1))), (0, .ref oo), (1, .long q), (3, .int (nI i))]) hx hb dX5_freedom_22 hl (by decide) rfl (fun ls hl => ?_)
        have lp_24_4 : ∀ (fu : Nat) (j : Nat) (q2 : Int64), (i < j ∧ j ≤ n) → (zFr (fun i' j' => (i' < j' ∧ j' < n) ∧ (i' < i ∨ (i' = i ∧ j' < j))) f5 f6 q2) → (n - j < fu) → ∀ (H : Heap) (locs : List Loc), va_P D vwCl [(oo, .inr (5, [.ref a, .ref g, .ref t1, .ref t2, .ref s9, .ref m1, .ref m2])), (t1, .inr (4, [.int xa, .int ya, .int ha])), (t2, .inr (4, [.int xb, .int yb, .int hb9])), (a, .inr (0, [.ref k1, .ref k2, .ref k3, .ref k4, .ref k5, .int (nI n)])), (k1, .inl (cI, 5, .inl kd)), (k2, .inl (cI, 5, .inl ln)), (k3, .inl (cI, 5, .inl lo)), (k4, .inl (cI, 5, .inl hi)), (k5, .inl (cI, 5, .inl vl)), (m1, .inl (cI, 5, .inl f5)), (m2, .inl (cI, 5, .inl f6))] H → va_D A0 [(oo, .inr (5, [.ref a, .ref g, .ref t1, .ref t2, .ref s9, .ref m1, .ref m2])), (t1, .inr (4, [.int xa, .int ya, .int ha])), (t2, .inr (4, [.int xb, .int yb, .int hb9])), (a, .inr (0, [.ref k1, .ref k2, .ref k3, .ref k4, .ref k5, .int (nI n)])), (k1, .inl (cI, 5, .inl kd)), (k2, .inl (cI, 5, .inl ln)), (k3, .inl (cI, 5, .inl lo)), (k4, .inl (cI, 5, .inl hi)), (k5, .inl (cI, 5, .inl vl)), (m1, .inl (cI, 5, .inl f5)), (m2, .inl (cI, 5, .inl f6))] → va_S A0 s.heap H locs → ∀ (ls : Array Slot), lv_has ls 7 [(0, .ref oo), (1, .long q2), (3, .int (nI i)), (4, .int (nI j))] → W p l e (zRm 6 0 0) s m args below meth c H locs 0 0 Q (F0 m 24 ls []) := by
          intro fu
          induction fu with
          | zero => intro j q2 hj1 hq2 hfu; exact absurd hfu (Nat.not_lt_zero _)
          | succ fu ih_24_4 =>
            intro j q2 hj1 hq2 hfu H locs hP hD hS ls hl
            refine lv_iload hx hb dX5_freedom_24 (lv_at hl 3 rfl) ?_
            refine lv_aload_n hx hb dX5_freedom_26 rfl (lv_at hl 0 rfl) ?_
            refine va_get (D := D) (ci := 5) (v := .ref a) (C := RX5) (T := TX5) (N := 7) hx hb hts hin5 hown hK hP 0 rfl rfl 0 (by decide) hf10 (fun _ h9 => h9) rfl dX5_freedom_27 ?_
            refine va_getN (D := D) (ci := 0) (v := .int (nI n)) (C := RX0) (T := TX0) (N := 6) hx hb hts hin0 hown hK hP 3 rfl rfl 5 (by decide) (va_Nw.use rfl hf108) (fun _ h9 => h9) rfl dX5_freedom_30 ?_
            refine lv_icmp_ge (tgt := 87) hx hb dX5_freedom_33 (by decide) (fun c_33 => ?_) (fun c_33 => ?_)
            · rw [nI_leI (by omega) (by omega)] at c_33
              obtain rfl : n = j := by omega
              refine lv_iinc (v := nI (i + 1)) (lv' := [(3, .int (nI (i + 1))), (0, .ref oo), (1, .long q2), (4, .int (nI n))]) hx hb dX5_freedom_87 hl (k := 2) rfl ((nI_succ _).symm) (by decide) rfl (fun ls hl => ?_)
              refine lv_goto (tgt := 8) hx hb dX5_freedom_90 (by decide) ?_
              exact ih_8_3 (i + 1) q2 (by first | assumption | omega | rfl | simp_all) (zFr_iff (fun i' j' => by omega) hq2) (by omega) _ _ hP hD hS _ (lv_sub hl [1, 2, 0] rfl)
            · rw [nI_leI (by omega) (by omega)] at c_33
              refine lv_aload_n hx hb dX5_freedom_36 rfl (lv_at hl 0 rfl) ?_
              refine va_get (D := D) (ci := 5) (v := .ref m1) (C := RX5) (T := TX5) (N := 7) hx hb hts hin5 hown hK hP 0 rfl rfl 5 (by decide) hf40 (fun _ h9 => h9) rfl dX5_freedom_37 ?_
              refine lv_iload_n hx hb dX5_freedom_40 rfl (lv_at hl 2 rfl) ?_
              refine z_iald hx hb hK hP 9 rfl (j := i) (by omega) (by decide) dX5_freedom_41 ?_
              refine lv_i2l (v := (f5 i).toInt64) hx hb dX5_freedom_42 rfl ?_
              refine lv_aload_n hx hb dX5_freedom_43 rfl (lv_at hl 0 rfl) ?_
              refine va_get (D := D) (ci := 5) (v := .ref m2) (C := RX5) (T := TX5) (N := 7) hx hb hts hin5 hown hK hP 0 rfl rfl 6 (by decide) hf44 (fun _ h9 => h9) rfl dX5_freedom_44 ?_
              refine lv_iload hx hb dX5_freedom_47 (lv_at hl 3 rfl) ?_
              refine z_iald hx hb hK hP 10 rfl (j := j) (by omega) (by decide) dX5_freedom_49 ?_
              refine lv_i2l (v := (f6 j).toInt64) hx hb dX5_freedom_50 rfl ?_
              refine lv_lmul hx hb dX5_freedom_51 ?_
              refine lv_aload_n hx hb dX5_freedom_52 rfl (lv_at hl 0 rfl) ?_
              refine va_get (D := D) (ci := 5) (v := .ref m2) (C := RX5) (T := TX5) (N := 7) hx hb hts hin5 hown hK hP 0 rfl rfl 6 (by decide) hf44 (fun _ h9 => h9) rfl dX5_freedom_53 ?_
              refine lv_iload_n hx hb dX5_freedom_56 rfl (lv_at hl 2 rfl) ?_
              refine z_iald hx hb hK hP 10 rfl (j := i) (by omega) (by decide) dX5_freedom_57 ?_
              refine lv_i2l (v := (f6 i).toInt64) hx hb dX5_freedom_58 rfl ?_
              refine lv_aload_n hx hb dX5_freedom_59 rfl (lv_at hl 0 rfl) ?_
              refine va_get (D := D) (ci := 5) (v := .ref m1) (C := RX5) (T := TX5) (N := 7) hx hb hts hin5 hown hK hP 0 rfl rfl 5 (by decide) hf40 (fun _ h9 => h9) rfl dX5_freedom_60 ?_
              refine lv_iload hx hb dX5_freedom_63 (lv_at hl 3 rfl) ?_
              refine z_iald hx hb hK hP 9 rfl (j := j) (by omega) (by decide) dX5_freedom_65 ?_
              refine lv_i2l (v := (f5 j).toInt64) hx hb dX5_freedom_66 rfl ?_
              refine lv_lmul hx hb dX5_freedom_67 ?_
              refine lv_lsub hx hb dX5_freedom_68 ?_
              refine lv_lstore (lv' := [(5, .long ((((f5 i).toInt64) * ((f6 j).toInt64)) - (((f6 i).toInt64) * ((f5 j).toInt64)))), (0, .ref oo), (1, .long q2), (3, .int (nI i)), (4, .int (nI j))]) hx hb dX5_freedom_69 hl (by decide) rfl (fun ls hl => ?_)
              refine lv_lload_n hx hb dX5_freedom_71 rfl (lv_at hl 2 rfl) ?_
              refine lv_lload hx hb dX5_freedom_72 (lv_at hl 0 rfl) ?_
              refine va_mabs_long hx hb (by rw [hml]; exact hl.1.symm) hown (hts (.methodLink RX5 112 Lib.MathLoose.abs_long.x) (by decide +kernel)) (hts (.static Lib.MathLoose.abs_long.x) (by decide +kernel)) (hts (.initialized "java/lang/Math") (by decide +kernel)) (hts (.code Lib.MathLoose.abs_long.x Lib.MathLoose.abs_long.code 2 (some .long)) (by decide +kernel)) (Nat.le_of_ble_eq_true rfl) (Nat.le_of_ble_eq_true rfl) (Nat.le_of_ble_eq_true rfl) (Nat.le_of_ble_eq_true rfl) dX5_freedom_74 ?_
              refine va_mmax_long hx hb (by rw [hml]; exact hl.1.symm) hown (hts (.methodLink RX5 118 Lib.MathLoose.max_long.x) (by decide +kernel)) (hts (.static Lib.MathLoose.max_long.x) (by decide +kernel)) (hts (.initialized "java/lang/Math") (by decide +kernel)) (hts (.code Lib.MathLoose.max_long.x Lib.MathLoose.max_long.code 4 (some .long)) (by decide +kernel)) (Nat.le_of_ble_eq_true rfl) (Nat.le_of_ble_eq_true rfl) (Nat.le_of_ble_eq_true rfl) (Nat.le_of_ble_eq_true rfl) dX5_freedom_77 ?_
              refine lv_lstore_n (lv' := [(1, .long (if (if 0 < ((((f5 i).toInt64) * ((f6 j).toInt64)) - (((f6 i).toInt64) * ((f5 j).toInt64))) then ((((f5 i).toInt64) * ((f6 j).toInt64)) - (((f6 i).toInt64) * ((f5 j).toInt64))) else -((((f5 i).toInt64) * ((f6 j).toInt64)) - (((f6 i).toInt64) * ((f5 j).toInt64)))) < q2 then q2 else (if 0 < ((((f5 i).toInt64) * ((f6 j).toInt64)) - (((f6 i).toInt64) * ((f5 j).toInt64))) then ((((f5 i).toInt64) * ((f6 j).toInt64)) - (((f6 i).toInt64) * ((f5 j).toInt64))) else -((((f5 i).toInt64) * ((f6 j).toInt64)) - (((f6 i).toInt64) * ((f5 j).toInt64)))))), (5, .long ((((f5 i).toInt64) * ((f6 j).toInt64)) - (((f6 i).toInt64) * ((f5 j).toInt64)))), (0, .ref oo), (3, .int (nI i)), (4, .int (nI j))]) hx hb dX5_freedom_80 rfl hl (by decide) rfl (fun ls hl => ?_)
              refine lv_iinc (v := nI (j + 1)) (lv' := [(4, .int (nI (j + 1))), (1, .long (if (if 0 < ((((f5 i).toInt64) * ((f6 j).toInt64)) - (((f6 i).toInt64) * ((f5 j).toInt64))) then ((((f5 i).toInt64) * ((f6 j).toInt64)) - (((f6 i).toInt64) * ((f5 j).toInt64))) else -((((f5 i).toInt64) * ((f6 j).toInt64)) - (((f6 i).toInt64) * ((f5 j).toInt64)))) < q2 then q2 else (if 0 < ((((f5 i).toInt64) * ((f6 j).toInt64)) - (((f6 i).toInt64) * ((f5 j).toInt64))) then ((((f5 i).toInt64) * ((f6 j).toInt64)) - (((f6 i).toInt64) * ((f5 j).toInt64))) else -((((f5 i).toInt64) * ((f6 j).toInt64)) - (((f6 i).toInt64) * ((f5 j).toInt64)))))), (5, .long ((((f5 i).toInt64) * ((f6 j).toInt64)) - (((f6 i).toInt64) * ((f5 j).toInt64)))), (0, .ref oo), (3, .int (nI i))]) hx hb dX5_freedom_81 hl (k := 4) rfl ((nI_succ _).symm) (by decide) rfl (fun ls hl => ?_)
              refine lv_goto (tgt := 24) hx hb dX5_freedom_84 (by decide) ?_
              exact ih_24_4 (j + 1) (if (if 0 < ((((f5 i).toInt64) * ((f6 j).toInt64)) - (((f6 i).toInt64) * ((f5 j).toInt64))) then ((((f5 i).toInt64) * ((f6 j).toInt64)) - (((f6 i).toInt64) * ((f5 j).toInt64))) else -((((f5 i).toInt64) * ((f6 j).toInt64)) - (((f6 i).toInt64) * ((f5 j).toInt64)))) < q2 then q2 else (if 0 < ((((f5 i).toInt64) * ((f6 j).toInt64)) - (((f6 i).toInt64) * ((f5 j).toInt64))) then ((((f5 i).toInt64) * ((f6 j).toInt64)) - (((f6 i).toInt64) * ((f5 j).toInt64))) else -((((f5 i).toInt64) * ((f6 j).toInt64)) - (((f6 i).toInt64) * ((f5 j).toInt64))))) (by first | assumption | omega | rfl | simp_all) (zFr_add hq2 rfl (fun i' j' => by omega)) (by omega) _ _ hP hD hS _ (lv_sub hl [3, 1, 4, 0] rfl)
        exact lp_24_4 ((n - (i + 1)) + 1) (i + 1) q (by first | assumption | omega | rfl | simp_all) (zFr_iff (fun i' j' => by omega) hq) (Nat.lt_succ_self _) _ _ hP hD hS _ (lv_sub hl [1, 2, 3, 0] rfl)
  exact lp_8_3 ((n - 0) + 1) 0 0 (by first | assumption | omega | rfl | simp_all) (zFr_0 (fun i j h => Nat.not_lt_zero _ h.2)) (Nat.lt_succ_self _) _ _ hP hD hS _ (lv_sub hl [2, 1, 0] rfl)

set_option maxHeartbeats 4000000 in
set_option maxRecDepth 100000 in
theorem c_X5_far (l : Launch) (D : va_G) (cI cJ : ClassId) (oo : Nat) (s9 : Nat) (m1 : Nat) (m2 : Nat) (g : Nat) (gx : Int32) (gy : Int32) (sl : Int32) (t1 : Nat) (x1 : Int32) (y1 : Int32) (h1 : Int32) (t2 : Nat) (a : Nat) (k1 : Nat) (k2 : Nat) (k3 : Nat) (k4 : Nat) (k5 : Nat) (n : Nat) (kd : Nat → Int32) (ln : Nat → Int32) (lo : Nat → Int32) (hi : Nat → Int32) (vl : Nat → Int32) (hn : n ≤ 5) : zM l yX5_far wsX5_far 6 D cI cJ [.ref oo] [(oo, .inr (5, [.ref a, .ref g, .ref t1, .ref t2, .ref s9, .ref m1, .ref m2])), (g, .inr (1, [.int gx, .int gy, .int sl])), (t1, .inr (4, [.int x1, .int y1, .int h1])), (a, .inr (0, [.ref k1, .ref k2, .ref k3, .ref k4, .ref k5, .int (nI n)])), (k1, .inl (cI, 5, .inl kd)), (k2, .inl (cI, 5, .inl ln)), (k3, .inl (cI, 5, .inl lo)), (k4, .inl (cI, 5, .inl hi)), (k5, .inl (cI, 5, .inl vl))] (fun (u : Int64 × Int32 × Int32 × Int32) => (u.1 = zFn kd ln vl n gx gy)) (fun (u : Int64 × Int32 × Int32 × Int32) => some (.long u.1)) (fun (u : Int64 × Int32 × Int32 × Int32) => [(oo, .inr (5, [.ref a, .ref g, .ref t1, .ref t2, .ref s9, .ref m1, .ref m2])), (g, .inr (1, [.int gx, .int gy, .int sl])), (t1, .inr (4, [.int u.2.1, .int u.2.2.1, .int u.2.2.2])), (a, .inr (0, [.ref k1, .ref k2, .ref k3, .ref k4, .ref k5, .int (nI n)])), (k1, .inl (cI, 5, .inl kd)), (k2, .inl (cI, 5, .inl ln)), (k3, .inl (cI, 5, .inl lo)), (k4, .inl (cI, 5, .inl hi)), (k5, .inl (cI, 5, .inl vl))]) := by
  refine zM_l (cc := cX5_far) (maxL := 1) (r := fun (u : Int64 × Int32 × Int32 × Int32) => u.1) (by decide) rfl (Nat.le_of_ble_eq_true rfl) ?_
  intro p e s m args below meth c ls A0 Q C hl hP hS hRet
  obtain ⟨⟨hx, hb, hml, hown, hts⟩, hG, hK, hD, hlocks⟩ := C
  have hl : lv_has ls 1 [(0, .ref oo)] := hl
  refine lv_aload_n hx hb dX5_far_0 rfl (lv_at hl 0 rfl) ?_
  refine z_callV (As := []) (rest := []) ⟨hx, hb, hml, hown, hts⟩ hG hK hP hD hS (c_X5_farNow l D cI cJ oo s9 m1 m2 g gx gy sl t1 x1 y1 h1 t2 a k1 k2 k3 k4 k5 n kd ln lo hi vl (by first | assumption | omega | decide)) (cwV 0 hts gX5_far_X5_farNow rfl rfl rfl (by decide +kernel) ⟨Nat.le_of_ble_eq_true rfl, Nat.le_of_ble_eq_true rfl⟩) [0, 1, 2, 3, 4, 5, 6, 7, 8] (by decide) rfl (fun _ => rfl) 0 rfl rfl rfl rfl hl.1 rfl (Nat.le_of_ble_eq_true rfl) dX5_far_1 ⟨Nat.le_of_ble_eq_true rfl, Nat.le_of_ble_eq_true rfl⟩ (fun u_1 H locs hu_2 hP hD hS => ?_)
  obtain ⟨r_3, x3_4, y3_5, h3_6⟩ := u_1
  have hu_2 : (r_3 = zFn kd ln vl n gx gy) := hu_2
  have e_7 := hu_2
  subst e_7
  have hP : va_P D vwCl [(oo, .inr (5, [.ref a, .ref g, .ref t1, .ref t2, .ref s9, .ref m1, .ref m2])), (g, .inr (1, [.int gx, .int gy, .int sl])), (t1, .inr (4, [.int x3_4, .int y3_5, .int h3_6])), (a, .inr (0, [.ref k1, .ref k2, .ref k3, .ref k4, .ref k5, .int (nI n)])), (k1, .inl (cI, 5, .inl kd)), (k2, .inl (cI, 5, .inl ln)), (k3, .inl (cI, 5, .inl lo)), (k4, .inl (cI, 5, .inl hi)), (k5, .inl (cI, 5, .inl vl))] H := hP
  have hD : va_D A0 [(oo, .inr (5, [.ref a, .ref g, .ref t1, .ref t2, .ref s9, .ref m1, .ref m2])), (g, .inr (1, [.int gx, .int gy, .int sl])), (t1, .inr (4, [.int x3_4, .int y3_5, .int h3_6])), (a, .inr (0, [.ref k1, .ref k2, .ref k3, .ref k4, .ref k5, .int (nI n)])), (k1, .inl (cI, 5, .inl kd)), (k2, .inl (cI, 5, .inl ln)), (k3, .inl (cI, 5, .inl lo)), (k4, .inl (cI, 5, .inl hi)), (k5, .inl (cI, 5, .inl vl))] := hD
  exact hRet _ (zFn kd ln vl n gx gy, x3_4, y3_5, h3_6) _ _ _ (rfl) hP hS dX5_far_4
