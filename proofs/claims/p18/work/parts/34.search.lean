set_option maxHeartbeats 4000000 in
set_option maxRecDepth 100000 in
theorem c_X3_lead (l : Launch) (D : va_G) (cI cJ : ClassId) (rk : Nat) (s9 : Nat) (pa : Nat) (re : Nat) (xa : Nat) (ya : Nat) (ha : Nat) (wa : Nat) (po : Nat → Int32) (rc : Nat → Int32) (xf : Nat → Int32) (yf : Nat → Int32) (hf : Nat → Int32) (wf : Nat → Int32) (a : Nat) (k1 : Nat) (k2 : Nat) (k3 : Nat) (k4 : Nat) (k5 : Nat) (n : Nat) (kd : Nat → Int32) (ln : Nat → Int32) (lo : Nat → Int32) (hi : Nat → Int32) (vl : Nat → Int32) (j : Nat) (v : Int32) (hn : n ≤ 5) (hj : j < n) : zM l yX3_lead wsX3_lead 2 D cI cJ [.ref s9, .ref a, .int (nI j), .int v] [(s9, .inr (3, [.ref rk, .ref pa, .ref re, .ref xa, .ref ya, .ref ha, .ref wa])), (pa, .inl (cI, 5, .inl po)), (re, .inl (cI, 6, .inl rc)), (xa, .inl (cI, 6, .inl xf)), (ya, .inl (cI, 6, .inl yf)), (ha, .inl (cI, 6, .inl hf)), (wa, .inl (cI, 6, .inl wf)), (a, .inr (0, [.ref k1, .ref k2, .ref k3, .ref k4, .ref k5, .int (nI n)])), (k1, .inl (cI, 5, .inl kd)), (k2, .inl (cI, 5, .inl ln)), (k3, .inl (cI, 5, .inl lo)), (k4, .inl (cI, 5, .inl hi)), (k5, .inl (cI, 5, .inl vl))] (fun (_ : Unit) => True) (fun (_ : Unit) => none) (fun (_ : Unit) => [(s9, .inr (3, [.ref rk, .ref pa, .ref re, .ref xa, .ref ya, .ref ha, .ref wa])), (pa, .inl (cI, 5, .inl (upd po j v))), (re, .inl (cI, 6, .inl rc)), (xa, .inl (cI, 6, .inl (upd xf (j + 1) (xf j + zDist kd ln j v * zcs ((hf j + zTurn kd j v) &&& 63))))), (ya, .inl (cI, 6, .inl (upd yf (j + 1) (yf j + zDist kd ln j v * zsn ((hf j + zTurn kd j v) &&& 63))))), (ha, .inl (cI, 6, .inl (upd hf (j + 1) ((hf j + zTurn kd j v) &&& 63)))), (wa, .inl (cI, 6, .inl (upd wf (j + 1) (wf j + zAbs (v - vl j))))), (a, .inr (0, [.ref k1, .ref k2, .ref k3, .ref k4, .ref k5, .int (nI n)])), (k1, .inl (cI, 5, .inl kd)), (k2, .inl (cI, 5, .inl ln)), (k3, .inl (cI, 5, .inl lo)), (k4, .inl (cI, 5, .inl hi)), (k5, .inl (cI, 5, .inl vl))]) := by
  refine zM_v (cc := cX3_lead) (maxL := 6) (by decide) rfl (Nat.le_of_ble_eq_true rfl) ?_
  intro p e s m args below meth c ls A0 Q C hl hP hS hRet
  obtain ⟨⟨hx, hb, hml, hown, hts⟩, hG, hK, hD, hlocks⟩ := C
  have hin0 : ∀ w ∈ u_ws RX0 TX0 6, w ∈ wsX3_lead := by decide +kernel
  have hin3 : ∀ w ∈ u_ws RX3 TX3 7, w ∈ wsX3_lead := by decide +kernel
  have hf31 := hts (.fieldLink RX3 31 "ArmRoom$Search" "headings" "[I") (by decide +kernel)
  have hf18 := hts (.fieldLink RX3 18 "ArmRoom$Search" "pose" "[I") (by decide +kernel)
  have hf25 := hts (.fieldLink RX3 25 "ArmRoom$Search" "xs" "[I") (by decide +kernel)
  have hf28 := hts (.fieldLink RX3 28 "ArmRoom$Search" "ys" "[I") (by decide +kernel)
  have hf34 := hts (.fieldLink RX3 34 "ArmRoom$Search" "ways" "[I") (by decide +kernel)
  have hf95 := hG.1.2.1 ("ArmRoom$Search", 95, "ArmRoom$Arm", "values", "[I", "ArmRoom") (List.mem_of_getElem? (i := 6) rfl)
  have hl : lv_has ls 6 [(0, .ref s9), (1, .ref a), (2, .int (nI j)), (3, .int v)] := hl
  refine lv_aload_n hx hb dX3_lead_0 rfl (lv_at hl 0 rfl) ?_
  refine va_get (D := D) (ci := 3) (v := .ref ha) (C := RX3) (T := TX3) (N := 7) hx hb hts hin3 hown hK hP 0 rfl rfl 5 (by decide) hf31 (fun _ h9 => h9) rfl dX3_lead_1 ?_
  refine lv_iload_n hx hb dX3_lead_4 rfl (lv_at hl 2 rfl) ?_
  refine z_iald hx hb hK hP 5 rfl (j := j) (by omega) (by decide) dX3_lead_5 ?_
  refine lv_aload_n hx hb dX3_lead_6 rfl (lv_at hl 1 rfl) ?_
  refine lv_iload_n hx hb dX3_lead_7 rfl (lv_at hl 2 rfl) ?_
  refine lv_iload_n hx hb dX3_lead_8 rfl (lv_at hl 3 rfl) ?_
  refine z_callVN (As := [.int (nI j), .int v]) (rest := [.int (hf j)]) ⟨hx, hb, hml, hown, hts⟩ hG hK hP hD hS (c_X0_turnOf l D cI cJ a k1 k2 k3 k4 k5 n kd ln lo hi vl j v (by first | assumption | omega | decide)) (⟨va_cnB 2 hts gX3_lead_X0_turnOf_n85 rfl rfl rfl (hG.1.1 ("ArmRoom$Search", 85, yX0_turnOf, "ArmRoom") (List.mem_of_getElem? (i := 26) rfl)) (hts (.initialized RX0) (by decide +kernel)) (by decide +kernel) ⟨Nat.le_of_ble_eq_true rfl, Nat.le_of_ble_eq_true rfl⟩, hts (.instanceMethod yX0_turnOf) (by decide +kernel), hts (.selects RX0 yX0_turnOf yX0_turnOf) (by decide +kernel)⟩) [7, 8, 9, 10, 11, 12] (by decide) rfl (fun _ => rfl) 7 rfl rfl rfl rfl hl.1 rfl (Nat.le_of_ble_eq_true rfl) dX3_lead_9 ⟨Nat.le_of_ble_eq_true rfl, Nat.le_of_ble_eq_true rfl⟩ (fun u_1 H locs hu_2 hP hD hS => ?_)
  obtain ⟨r_3, rfl⟩ : ∃ z, z = u_1 := ⟨_, rfl⟩
  have hu_2 : (r_3 = zTurn kd j v) := hu_2
  have e_4 := hu_2
  subst e_4
  have hP : va_P D vwCl [(s9, .inr (3, [.ref rk, .ref pa, .ref re, .ref xa, .ref ya, .ref ha, .ref wa])), (pa, .inl (cI, 5, .inl po)), (re, .inl (cI, 6, .inl rc)), (xa, .inl (cI, 6, .inl xf)), (ya, .inl (cI, 6, .inl yf)), (ha, .inl (cI, 6, .inl hf)), (wa, .inl (cI, 6, .inl wf)), (a, .inr (0, [.ref k1, .ref k2, .ref k3, .ref k4, .ref k5, .int (nI n)])), (k1, .inl (cI, 5, .inl kd)), (k2, .inl (cI, 5, .inl ln)), (k3, .inl (cI, 5, .inl lo)), (k4, .inl (cI, 5, .inl hi)), (k5, .inl (cI, 5, .inl vl))] H := hP
  have hD : va_D A0 [(s9, .inr (3, [.ref rk, .ref pa, .ref re, .ref xa, .ref ya, .ref ha, .ref wa])), (pa, .inl (cI, 5, .inl po)), (re, .inl (cI, 6, .inl rc)), (xa, .inl (cI, 6, .inl xf)), (ya, .inl (cI, 6, .inl yf)), (ha, .inl (cI, 6, .inl hf)), (wa, .inl (cI, 6, .inl wf)), (a, .inr (0, [.ref k1, .ref k2, .ref k3, .ref k4, .ref k5, .int (nI n)])), (k1, .inl (cI, 5, .inl kd)), (k2, .inl (cI, 5, .inl ln)), (k3, .inl (cI, 5, .inl lo)), (k4, .inl (cI, 5, .inl hi)), (k5, .inl (cI, 5, .inl vl))] := hD
  refine lv_iadd hx hb dX3_lead_12 ?_
  refine lv_bipush (v := 63) hx hb dX3_lead_13 (by decide) ?_
  refine lv_iand hx hb dX3_lead_15 ?_
  refine lv_istore (lv' := [(4, .int (((hf j) + (zTurn kd j v)) &&& 63)), (0, .ref s9), (1, .ref a), (2, .int (nI j)), (3, .int v)]) hx hb dX3_lead_16 hl (by decide) rfl (fun ls hl => ?_)
  refine lv_aload_n hx hb dX3_lead_18 rfl (lv_at hl 2 rfl) ?_
  refine lv_iload_n hx hb dX3_lead_19 rfl (lv_at hl 3 rfl) ?_
  refine lv_iload_n hx hb dX3_lead_20 rfl (lv_at hl 4 rfl) ?_
  refine z_callVN (As := [.int (nI j), .int v]) (rest := []) ⟨hx, hb, hml, hown, hts⟩ hG hK hP hD hS (c_X0_distanceOf l D cI cJ a k1 k2 k3 k4 k5 n kd ln lo hi vl j v (by first | assumption | omega | decide)) (⟨va_cnB 2 hts gX3_lead_X0_distanceOf_n62 rfl rfl rfl (hG.1.1 ("ArmRoom$Search", 62, yX0_distanceOf, "ArmRoom") (List.mem_of_getElem? (i := 21) rfl)) (hts (.initialized RX0) (by decide +kernel)) (by decide +kernel) ⟨Nat.le_of_ble_eq_true rfl, Nat.le_of_ble_eq_true rfl⟩, hts (.instanceMethod yX0_distanceOf) (by decide +kernel), hts (.selects RX0 yX0_distanceOf yX0_distanceOf) (by decide +kernel)⟩) [7, 8, 9, 10, 11, 12] (by decide) rfl (fun _ => rfl) 7 rfl rfl rfl rfl hl.1 rfl (Nat.le_of_ble_eq_true rfl) dX3_lead_21 ⟨Nat.le_of_ble_eq_true rfl, Nat.le_of_ble_eq_true rfl⟩ (fun u_5 H locs hu_6 hP hD hS => ?_)
  obtain ⟨r_7, rfl⟩ : ∃ z, z = u_5 := ⟨_, rfl⟩
  have hu_6 : (r_7 = zDist kd ln j v) := hu_6
  have e_8 := hu_6
  subst e_8
  have hP : va_P D vwCl [(s9, .inr (3, [.ref rk, .ref pa, .ref re, .ref xa, .ref ya, .ref ha, .ref wa])), (pa, .inl (cI, 5, .inl po)), (re, .inl (cI, 6, .inl rc)), (xa, .inl (cI, 6, .inl xf)), (ya, .inl (cI, 6, .inl yf)), (ha, .inl (cI, 6, .inl hf)), (wa, .inl (cI, 6, .inl wf)), (a, .inr (0, [.ref k1, .ref k2, .ref k3, .ref k4, .ref k5, .int (nI n)])), (k1, .inl (cI, 5, .inl kd)), (k2, .inl (cI, 5, .inl ln)), (k3, .inl (cI, 5, .inl lo)), (k4, .inl (cI, 5, .inl hi)), (k5, .inl (cI, 5, .inl vl))] H := hP
  have hD : va_D A0 [(s9, .inr (3, [.ref rk, .ref pa, .ref re, .ref xa, .ref ya, .ref ha, .ref wa])), (pa, .inl (cI, 5, .inl po)), (re, .inl (cI, 6, .inl rc)), (xa, .inl (cI, 6, .inl xf)), (ya, .inl (cI, 6, .inl yf)), (ha, .inl (cI, 6, .inl hf)), (wa, .inl (cI, 6, .inl wf)), (a, .inr (0, [.ref k1, .ref k2, .ref k3, .ref k4, .ref k5, .int (nI n)])), (k1, .inl (cI, 5, .inl kd)), (k2, .inl (cI, 5, .inl ln)), (k3, .inl (cI, 5, .inl lo)), (k4, .inl (cI, 5, .inl hi)), (k5, .inl (cI, 5, .inl vl))] := hD
  refine lv_istore (lv' := [(5, .int (zDist kd ln j v)), (4, .int (((hf j) + (zTurn kd j v)) &&& 63)), (0, .ref s9), (1, .ref a), (2, .int (nI j)), (3, .int v)]) hx hb dX3_lead_24 hl (by decide) rfl (fun ls hl => ?_)
  refine lv_aload_n hx hb dX3_lead_26 rfl (lv_at hl 2 rfl) ?_
  refine va_get (D := D) (ci := 3) (v := .ref pa) (C := RX3) (T := TX3) (N := 7) hx hb hts hin3 hown hK hP 0 rfl rfl 1 (by decide) hf18 (fun _ h9 => h9) rfl dX3_lead_27 ?_
  refine lv_iload_n hx hb dX3_lead_30 rfl (lv_at hl 4 rfl) ?_
  refine lv_iload_n hx hb dX3_lead_31 rfl (lv_at hl 5 rfl) ?_
  refine z_iast hx hb hK hP hD hS 1 rfl (j := j) (by omega) (by decide) dX3_lead_32 (fun H locs hP hD hS => ?_)
  have hP : va_P D vwCl [(s9, .inr (3, [.ref rk, .ref pa, .ref re, .ref xa, .ref ya, .ref ha, .ref wa])), (pa, .inl (cI, 5, .inl (upd po j v))), (re, .inl (cI, 6, .inl rc)), (xa, .inl (cI, 6, .inl xf)), (ya, .inl (cI, 6, .inl yf)), (ha, .inl (cI, 6, .inl hf)), (wa, .inl (cI, 6, .inl wf)), (a, .inr (0, [.ref k1, .ref k2, .ref k3, .ref k4, .ref k5, .int (nI n)])), (k1, .inl (cI, 5, .inl kd)), (k2, .inl (cI, 5, .inl ln)), (k3, .inl (cI, 5, .inl lo)), (k4, .inl (cI, 5, .inl hi)), (k5, .inl (cI, 5, .inl vl))] H := hP
  have hD : va_D A0 [(s9, .inr (3, [.ref rk, .ref pa, .ref re, .ref xa, .ref ya, .ref ha, .ref wa])), (pa, .inl (cI, 5, .inl (upd po j v))), (re, .inl (cI, 6, .inl rc)), (xa, .inl (cI, 6, .inl xf)), (ya, .inl (cI, 6, .inl yf)), (ha, .inl (cI, 6, .inl hf)), (wa, .inl (cI, 6, .inl wf)), (a, .inr (0, [.ref k1, .ref k2, .ref k3, .ref k4, .ref k5, .int (nI n)])), (k1, .inl (cI, 5, .inl kd)), (k2, .inl (cI, 5, .inl ln)), (k3, .inl (cI, 5, .inl lo)), (k4, .inl (cI, 5, .inl hi)), (k5, .inl (cI, 5, .inl vl))] := hD
  refine lv_aload_n hx hb dX3_lead_33 rfl (lv_at hl 2 rfl) ?_
  refine va_get (D := D) (ci := 3) (v := .ref xa) (C := RX3) (T := TX3) (N := 7) hx hb hts hin3 hown hK hP 0 rfl rfl 3 (by decide) hf25 (fun _ h9 => h9) rfl dX3_lead_34 ?_
  refine lv_iload_n hx hb dX3_lead_37 rfl (lv_at hl 4 rfl) ?_
  refine lv_iconst (v := nI 1) hx hb dX3_lead_38 (rfl) ?_
  refine lv_iadd hx hb dX3_lead_39 ?_
  refine z_topi (y := nI (j + 1)) (nI_add _ _) ?_
  refine lv_aload_n hx hb dX3_lead_40 rfl (lv_at hl 2 rfl) ?_
  refine va_get (D := D) (ci := 3) (v := .ref xa) (C := RX3) (T := TX3) (N := 7) hx hb hts hin3 hown hK hP 0 rfl rfl 3 (by decide) hf25 (fun _ h9 => h9) rfl dX3_lead_41 ?_
  refine lv_iload_n hx hb dX3_lead_44 rfl (lv_at hl 4 rfl) ?_
  refine z_iald hx hb hK hP 3 rfl (j := j) (by omega) (by decide) dX3_lead_45 ?_
  refine lv_iload hx hb dX3_lead_46 (lv_at hl 0 rfl) ?_
  refine lv_iload hx hb dX3_lead_48 (lv_at hl 1 rfl) ?_
  refine z_callSN (As := [.int (((hf j) + (zTurn kd j v)) &&& 63)]) (rest := [.int (zDist kd ln j v), .int (xf j), .int (nI (j + 1)), .ref xa]) ⟨hx, hb, hml, hown, hts⟩ hG hK hP hD hS (c_X5_cosine l D cI cJ (((hf j) + (zTurn kd j v)) &&& 63) ) (⟨va_cnB 1 hts gX3_lead_X5_cosine_n88 rfl rfl rfl (hG.1.1 ("ArmRoom$Search", 88, yX5_cosine, "ArmRoom") (List.mem_of_getElem? (i := 27) rfl)) (hts (.initialized RX5) (by decide +kernel)) (by decide +kernel) ⟨Nat.le_of_ble_eq_true rfl, Nat.le_of_ble_eq_true rfl⟩, hts (.static yX5_cosine) (by decide +kernel), trivial⟩) [] (by decide) rfl (fun _ => rfl) rfl hl.1 rfl (Nat.le_of_ble_eq_true rfl) dX3_lead_50 ⟨Nat.le_of_ble_eq_true rfl, Nat.le_of_ble_eq_true rfl⟩ (fun u_9 H locs hu_10 hP hD hS => ?_)
  obtain ⟨r_11, rfl⟩ : ∃ z, z = u_9 := ⟨_, rfl⟩
  have hu_10 : (r_11 = zcs (((hf j) + (zTurn kd j v)) &&& 63)) := hu_10
  have e_12 := hu_10
  subst e_12
  have hP : va_P D vwCl [(s9, .inr (3, [.ref rk, .ref pa, .ref re, .ref xa, .ref ya, .ref ha, .ref wa])), (pa, .inl (cI, 5, .inl (upd po j v))), (re, .inl (cI, 6, .inl rc)), (xa, .inl (cI, 6, .inl xf)), (ya, .inl (cI, 6, .inl yf)), (ha, .inl (cI, 6, .inl hf)), (wa, .inl (cI, 6, .inl wf)), (a, .inr (0, [.ref k1, .ref k2, .ref k3, .ref k4, .ref k5, .int (nI n)])), (k1, .inl (cI, 5, .inl kd)), (k2, .inl (cI, 5, .inl ln)), (k3, .inl (cI, 5, .inl lo)), (k4, .inl (cI, 5, .inl hi)), (k5, .inl (cI, 5, .inl vl))] H := hP
  have hD : va_D A0 [(s9, .inr (3, [.ref rk, .ref pa, .ref re, .ref xa, .ref ya, .ref ha, .ref wa])), (pa, .inl (cI, 5, .inl (upd po j v))), (re, .inl (cI, 6, .inl rc)), (xa, .inl (cI, 6, .inl xf)), (ya, .inl (cI, 6, .inl yf)), (ha, .inl (cI, 6, .inl hf)), (wa, .inl (cI, 6, .inl wf)), (a, .inr (0, [.ref k1, .ref k2, .ref k3, .ref k4, .ref k5, .int (nI n)])), (k1, .inl (cI, 5, .inl kd)), (k2, .inl (cI, 5, .inl ln)), (k3, .inl (cI, 5, .inl lo)), (k4, .inl (cI, 5, .inl hi)), (k5, .inl (cI, 5, .inl vl))] := hD
  refine lv_imul hx hb dX3_lead_53 ?_
  refine lv_iadd hx hb dX3_lead_54 ?_
  refine z_iast hx hb hK hP hD hS 3 rfl (j := (j + 1)) (by omega) (by decide) dX3_lead_55 (fun H locs hP hD hS => ?_)
  have hP : va_P D vwCl [(s9, .inr (3, [.ref rk, .ref pa, .ref re, .ref xa, .ref ya, .ref ha, .ref wa])), (pa, .inl (cI, 5, .inl (upd po j v))), (re, .inl (cI, 6, .inl rc)), (xa, .inl (cI, 6, .inl (upd xf (j + 1) ((xf j) + ((zDist kd ln j v) * (zcs (((hf j) + (zTurn kd j v)) &&& 63))))))), (ya, .inl (cI, 6, .inl yf)), (ha, .inl (cI, 6, .inl hf)), (wa, .inl (cI, 6, .inl wf)), (a, .inr (0, [.ref k1, .ref k2, .ref k3, .ref k4, .ref k5, .int (nI n)])), (k1, .inl (cI, 5, .inl kd)), (k2, .inl (cI, 5, .inl ln)), (k3, .inl (cI, 5, .inl lo)), (k4, .inl (cI, 5, .inl hi)), (k5, .inl (cI, 5, .inl vl))] H := hP
  have hD : va_D A0 [(s9, .inr (3, [.ref rk, .ref pa, .ref re, .ref xa, .ref ya, .ref ha, .ref wa])), (pa, .inl (cI, 5, .inl (upd po j v))), (re, .inl (cI, 6, .inl rc)), (xa, .inl (cI, 6, .inl (upd xf (j + 1) ((xf j) + ((zDist kd ln j v) * (zcs (((hf j) + (zTurn kd j v)) &&& 63))))))), (ya, .inl (cI, 6, .inl yf)), (ha, .inl (cI, 6, .inl hf)), (wa, .inl (cI, 6, .inl wf)), (a, .inr (0, [.ref k1, .ref k2, .ref k3, .ref k4, .ref k5, .int (nI n)])), (k1, .inl (cI, 5, .inl kd)), (k2, .inl (cI, 5, .inl ln)), (k3, .inl (cI, 5, .inl lo)), (k4, .inl (cI, 5, .inl hi)), (k5, .inl (cI, 5, .inl vl))] := hD
  refine lv_aload_n hx hb dX3_lead_56 rfl (lv_at hl 2 rfl) ?_
  refine va_get (D := D) (ci := 3) (v := .ref ya) (C := RX3) (T := TX3) (N := 7) hx hb hts hin3 hown hK hP 0 rfl rfl 4 (by decide) hf28 (fun _ h9 => h9) rfl dX3_lead_57 ?_
  refine lv_iload_n hx hb dX3_lead_60 rfl (lv_at hl 4 rfl) ?_
  refine lv_iconst (v := nI 1) hx hb dX3_lead_61 (rfl) ?_
  refine lv_iadd hx hb dX3_lead_62 ?_
  refine z_topi (y := nI (j + 1)) (nI_add _ _) ?_
  refine lv_aload_n hx hb dX3_lead_63 rfl (lv_at hl 2 rfl) ?_
  refine va_get (D := D) (ci := 3) (v := .ref ya) (C := RX3) (T := TX3) (N := 7) hx hb hts hin3 hown hK hP 0 rfl rfl 4 (by decide) hf28 (fun _ h9 => h9) rfl dX3_lead_64 ?_
  refine lv_iload_n hx hb dX3_lead_67 rfl (lv_at hl 4 rfl) ?_
  refine z_iald hx hb hK hP 4 rfl (j := j) (by omega) (by decide) dX3_lead_68 ?_
  refine lv_iload hx hb dX3_lead_69 (lv_at hl 0 rfl) ?_
  refine lv_iload hx hb dX3_lead_71 (lv_at hl 1 rfl) ?_
  refine z_callSN (As := [.int (((hf j) + (zTurn kd j v)) &&& 63)]) (rest := [.int (zDist kd ln j v), .int (yf j), .int (nI (j + 1)), .ref ya]) ⟨hx, hb, hml, hown, hts⟩ hG hK hP hD hS (c_X5_sine l D cI cJ (((hf j) + (zTurn kd j v)) &&& 63) ) (⟨va_cnB 1 hts gX3_lead_X5_sine_n92 rfl rfl rfl (hG.1.1 ("ArmRoom$Search", 92, yX5_sine, "ArmRoom") (List.mem_of_getElem? (i := 28) rfl)) (hts (.initialized RX5) (by decide +kernel)) (by decide +kernel) ⟨Nat.le_of_ble_eq_true rfl, Nat.le_of_ble_eq_true rfl⟩, hts (.static yX5_sine) (by decide +kernel), trivial⟩) [] (by decide) rfl (fun _ => rfl) rfl hl.1 rfl (Nat.le_of_ble_eq_true rfl) dX3_lead_73 ⟨Nat.le_of_ble_eq_true rfl, Nat.le_of_ble_eq_true rfl⟩ (fun u_13 H locs hu_14 hP hD hS => ?_)
  obtain ⟨r_15, rfl⟩ : ∃ z, z = u_13 := ⟨_, rfl⟩
  have hu_14 : (r_15 = zsn (((hf j) + (zTurn kd j v)) &&& 63)) := hu_14
  have e_16 := hu_14
  subst e_16
  have hP : va_P D vwCl [(s9, .inr (3, [.ref rk, .ref pa, .ref re, .ref xa, .ref ya, .ref ha, .ref wa])), (pa, .inl (cI, 5, .inl (upd po j v))), (re, .inl (cI, 6, .inl rc)), (xa, .inl (cI, 6, .inl (upd xf (j + 1) ((xf j) + ((zDist kd ln j v) * (zcs (((hf j) + (zTurn kd j v)) &&& 63))))))), (ya, .inl (cI, 6, .inl yf)), (ha, .inl (cI, 6, .inl hf)), (wa, .inl (cI, 6, .inl wf)), (a, .inr (0, [.ref k1, .ref k2, .ref k3, .ref k4, .ref k5, .int (nI n)])), (k1, .inl (cI, 5, .inl kd)), (k2, .inl (cI, 5, .inl ln)), (k3, .inl (cI, 5, .inl lo)), (k4, .inl (cI, 5, .inl hi)), (k5, .inl (cI, 5, .inl vl))] H := hP
  have hD : va_D A0 [(s9, .inr (3, [.ref rk, .ref pa, .ref re, .ref xa, .ref ya, .ref ha, .ref wa])), (pa, .inl (cI, 5, .inl (upd po j v))), (re, .inl (cI, 6, .inl rc)), (xa, .inl (cI, 6, .inl (upd xf (j + 1) ((xf j) + ((zDist kd ln j v) * (zcs (((hf j) + (zTurn kd j v)) &&& 63))))))), (ya, .inl (cI, 6, .inl yf)), (ha, .inl (cI, 6, .inl hf)), (wa, .inl (cI, 6, .inl wf)), (a, .inr (0, [.ref k1, .ref k2, .ref k3, .ref k4, .ref k5, .int (nI n)])), (k1, .inl (cI, 5, .inl kd)), (k2, .inl (cI, 5, .inl ln)), (k3, .inl (cI, 5, .inl lo)), (k4, .inl (cI, 5, .inl hi)), (k5, .inl (cI, 5, .inl vl))] := hD
  refine lv_imul hx hb dX3_lead_76 ?_
  refine lv_iadd hx hb dX3_lead_77 ?_
  refine z_iast hx hb hK hP hD hS 4 rfl (j := (j + 1)) (by omega) (by decide) dX3_lead_78 (fun H locs hP hD hS => ?_)
  have hP : va_P D vwCl [(s9, .inr (3, [.ref rk, .ref pa, .ref re, .ref xa, .ref ya, .ref ha, .ref wa])), (pa, .inl (cI, 5, .inl (upd po j v))), (re, .inl (cI, 6, .inl rc)), (xa, .inl (cI, 6, .inl (upd xf (j + 1) ((xf j) + ((zDist kd ln j v) * (zcs (((hf j) + (zTurn kd j v)) &&& 63))))))), (ya, .inl (cI, 6, .inl (upd yf (j + 1) ((yf j) + ((zDist kd ln j v) * (zsn (((hf j) + (zTurn kd j v)) &&& 63))))))), (ha, .inl (cI, 6, .inl hf)), (wa, .inl (cI, 6, .inl wf)), (a, .inr (0, [.ref k1, .ref k2, .ref k3, .ref k4, .ref k5, .int (nI n)])), (k1, .inl (cI, 5, .inl kd)), (k2, .inl (cI, 5, .inl ln)), (k3, .inl (cI, 5, .inl lo)), (k4, .inl (cI, 5, .inl hi)), (k5, .inl (cI, 5, .inl vl))] H := hP
  have hD : va_D A0 [(s9, .inr (3, [.ref rk, .ref pa, .ref re, .ref xa, .ref ya, .ref ha, .ref wa])), (pa, .inl (cI, 5, .inl (upd po j v))), (re, .inl (cI, 6, .inl rc)), (xa, .inl (cI, 6, .inl (upd xf (j + 1) ((xf j) + ((zDist kd ln j v) * (zcs (((hf j) + (zTurn kd j v)) &&& 63))))))), (ya, .inl (cI, 6, .inl (upd yf (j + 1) ((yf j) + ((zDist kd ln j v) * (zsn (((hf j) + (zTurn kd j v)) &&& 63))))))), (ha, .inl (cI, 6, .inl hf)), (wa, .inl (cI, 6, .inl wf)), (a, .inr (0, [.ref k1, .ref k2, .ref k3, .ref k4, .ref k5, .int (nI n)])), (k1, .inl (cI, 5, .inl kd)), (k2, .inl (cI, 5, .inl ln)), (k3, .inl (cI, 5, .inl lo)), (k4, .inl (cI, 5, .inl hi)), (k5, .inl (cI, 5, .inl vl))] := hD
  refine lv_aload_n hx hb dX3_lead_79 rfl (lv_at hl 2 rfl) ?_
  refine va_get (D := D) (ci := 3) (v := .ref ha) (C := RX3) (T := TX3) (N := 7) hx hb hts hin3 hown hK hP 0 rfl rfl 5 (by decide) hf31 (fun _ h9 => h9) rfl dX3_lead_80 ?_
  refine lv_iload_n hx hb dX3_lead_83 rfl (lv_at hl 4 rfl) ?_
  refine lv_iconst (v := nI 1) hx hb dX3_lead_84 (rfl) ?_
  refine lv_iadd hx hb dX3_lead_85 ?_
  refine z_topi (y := nI (j + 1)) (nI_add _ _) ?_
  refine lv_iload hx hb dX3_lead_86 (lv_at hl 1 rfl) ?_
  refine z_iast hx hb hK hP hD hS 5 rfl (j := (j + 1)) (by omega) (by decide) dX3_lead_88 (fun H locs hP hD hS => ?_)
  have hP : va_P D vwCl [(s9, .inr (3, [.ref rk, .ref pa, .ref re, .ref xa, .ref ya, .ref ha, .ref wa])), (pa, .inl (cI, 5, .inl (upd po j v))), (re, .inl (cI, 6, .inl rc)), (xa, .inl (cI, 6, .inl (upd xf (j + 1) ((xf j) + ((zDist kd ln j v) * (zcs (((hf j) + (zTurn kd j v)) &&& 63))))))), (ya, .inl (cI, 6, .inl (upd yf (j + 1) ((yf j) + ((zDist kd ln j v) * (zsn (((hf j) + (zTurn kd j v)) &&& 63))))))), (ha, .inl (cI, 6, .inl (upd hf (j + 1) (((hf j) + (zTurn kd j v)) &&& 63)))), (wa, .inl (cI, 6, .inl wf)), (a, .inr (0, [.ref k1, .ref k2, .ref k3, .ref k4, .ref k5, .int (nI n)])), (k1, .inl (cI, 5, .inl kd)), (k2, .inl (cI, 5, .inl ln)), (k3, .inl (cI, 5, .inl lo)), (k4, .inl (cI, 5, .inl hi)), (k5, .inl (cI, 5, .inl vl))] H := hP
  have hD : va_D A0 [(s9, .inr (3, [.ref rk, .ref pa, .ref re, .ref xa, .ref ya, .ref ha, .ref wa])), (pa, .inl (cI, 5, .inl (upd po j v))), (re, .inl (cI, 6, .inl rc)), (xa, .inl (cI, 6, .inl (upd xf (j + 1) ((xf j) + ((zDist kd ln j v) * (zcs (((hf j) + (zTurn kd j v)) &&& 63))))))), (ya, .inl (cI, 6, .inl (upd yf (j + 1) ((yf j) + ((zDist kd ln j v) * (zsn (((hf j) + (zTurn kd j v)) &&& 63))))))), (ha, .inl (cI, 6, .inl (upd hf (j + 1) (((hf j) + (zTurn kd j v)) &&& 63)))), (wa, .inl (cI, 6, .inl wf)), (a, .inr (0, [.ref k1, .ref k2, .ref k3, .ref k4, .ref k5, .int (nI n)])), (k1, .inl (cI, 5, .inl kd)), (k2, .inl (cI, 5, .inl ln)), (k3, .inl (cI, 5, .inl lo)), (k4, .inl (cI, 5, .inl hi)), (k5, .inl (cI, 5, .inl vl))] := hD
  refine lv_aload_n hx hb dX3_lead_89 rfl (lv_at hl 2 rfl) ?_
  refine va_get (D := D) (ci := 3) (v := .ref wa) (C := RX3) (T := TX3) (N := 7) hx hb hts hin3 hown hK hP 0 rfl rfl 6 (by decide) hf34 (fun _ h9 => h9) rfl dX3_lead_90 ?_
  refine lv_iload_n hx hb dX3_lead_93 rfl (lv_at hl 4 rfl) ?_
  refine lv_iconst (v := nI 1) hx hb dX3_lead_94 (rfl) ?_
  refine lv_iadd hx hb dX3_lead_95 ?_
  refine z_topi (y := nI (j + 1)) (nI_add _ _) ?_
  refine lv_aload_n hx hb dX3_lead_96 rfl (lv_at hl 2 rfl) ?_
  refine va_get (D := D) (ci := 3) (v := .ref wa) (C := RX3) (T := TX3) (N := 7) hx hb hts hin3 hown hK hP 0 rfl rfl 6 (by decide) hf34 (fun _ h9 => h9) rfl dX3_lead_97 ?_
  refine lv_iload_n hx hb dX3_lead_100 rfl (lv_at hl 4 rfl) ?_
  refine z_iald hx hb hK hP 6 rfl (j := j) (by omega) (by decide) dX3_lead_101 ?_
  refine lv_iload_n hx hb dX3_lead_102 rfl (lv_at hl 5 rfl) ?_
  refine lv_aload_n hx hb dX3_lead_103 rfl (lv_at hl 3 rfl) ?_
  refine va_getN (D := D) (ci := 0) (v := .ref k5) (C := RX0) (T := TX0) (N := 6) hx hb hts hin0 hown hK hP 7 rfl rfl 4 (by decide) (va_Nw.use rfl hf95) (fun _ h9 => h9) rfl dX3_lead_104 ?_
  refine lv_iload_n hx hb dX3_lead_107 rfl (lv_at hl 4 rfl) ?_
  refine z_iald hx hb hK hP 12 rfl (j := j) (by omega) (by decide) dX3_lead_108 ?_
  refine lv_isub hx hb dX3_lead_109 ?_
  refine va_mabs hx hb (by rw [hml]; exact hl.1.symm) hown (hts (.methodLink RX3 98 Lib.Math.abs.name) (by decide +kernel)) (hts (.static Lib.Math.abs.name) (by decide +kernel)) (hts (.initialized "java/lang/Math") (by decide +kernel)) (hts (.code Lib.Math.abs.name Lib.Math.abs.code 1 (some .int)) (by decide +kernel)) (Nat.le_of_ble_eq_true rfl) (Nat.le_of_ble_eq_true rfl) (Nat.le_of_ble_eq_true rfl) (Nat.le_of_ble_eq_true rfl) dX3_lead_110 ?_
  refine z_topi (y := zAbs (v - vl j)) (rfl) ?_
  refine lv_iadd hx hb dX3_lead_113 ?_
  refine z_iast hx hb hK hP hD hS 6 rfl (j := (j + 1)) (by omega) (by decide) dX3_lead_114 (fun H locs hP hD hS => ?_)
  have hP : va_P D vwCl [(s9, .inr (3, [.ref rk, .ref pa, .ref re, .ref xa, .ref ya, .ref ha, .ref wa])), (pa, .inl (cI, 5, .inl (upd po j v))), (re, .inl (cI, 6, .inl rc)), (xa, .inl (cI, 6, .inl (upd xf (j + 1) ((xf j) + ((zDist kd ln j v) * (zcs (((hf j) + (zTurn kd j v)) &&& 63))))))), (ya, .inl (cI, 6, .inl (upd yf (j + 1) ((yf j) + ((zDist kd ln j v) * (zsn (((hf j) + (zTurn kd j v)) &&& 63))))))), (ha, .inl (cI, 6, .inl (upd hf (j + 1) (((hf j) + (zTurn kd j v)) &&& 63)))), (wa, .inl (cI, 6, .inl (upd wf (j + 1) ((wf j) + (zAbs (v - vl j)))))), (a, .inr (0, [.ref k1, .ref k2, .ref k3, .ref k4, .ref k5, .int (nI n)])), (k1, .inl (cI, 5, .inl kd)), (k2, .inl (cI, 5, .inl ln)), (k3, .inl (cI, 5, .inl lo)), (k4, .inl (cI, 5, .inl hi)), (k5, .inl (cI, 5, .inl vl))] H := hP
  have hD : va_D A0 [(s9, .inr (3, [.ref rk, .ref pa, .ref re, .ref xa, .ref ya, .ref ha, .ref wa])), (pa, .inl (cI, 5, .inl (upd po j v))), (re, .inl (cI, 6, .inl rc)), (xa, .inl (cI, 6, .inl (upd xf (j + 1) ((xf j) + ((zDist kd ln j v) * (zcs (((hf j) + (zTurn kd j v)) &&& 63))))))), (ya, .inl (cI, 6, .inl (upd yf (j + 1) ((yf j) + ((zDist kd ln j v) * (zsn (((hf j) + (zTurn kd j v)) &&& 63))))))), (ha, .inl (cI, 6, .inl (upd hf (j + 1) (((hf j) + (zTurn kd j v)) &&& 63)))), (wa, .inl (cI, 6, .inl (upd wf (j + 1) ((wf j) + (zAbs (v - vl j)))))), (a, .inr (0, [.ref k1, .ref k2, .ref k3, .ref k4, .ref k5, .int (nI n)])), (k1, .inl (cI, 5, .inl kd)), (k2, .inl (cI, 5, .inl ln)), (k3, .inl (cI, 5, .inl lo)), (k4, .inl (cI, 5, .inl hi)), (k5, .inl (cI, 5, .inl vl))] := hD
  exact hRet _ () _ _ _ trivial hP hS dX3_lead_115

set_option maxHeartbeats 4000000 in
set_option maxRecDepth 100000 in
theorem c_X3_keyOf (l : Launch) (D : va_G) (cI cJ : ClassId) (rk : Nat) (s9 : Nat) (pa : Nat) (re : Nat) (xa : Nat) (ya : Nat) (ha : Nat) (wa : Nat) (po : Nat → Int32) (rc : Nat → Int32) (xf : Nat → Int32) (yf : Nat → Int32) (hf : Nat → Int32) (wf : Nat → Int32) (a : Nat) (k1 : Nat) (k2 : Nat) (k3 : Nat) (k4 : Nat) (k5 : Nat) (n : Nat) (kd : Nat → Int32) (ln : Nat → Int32) (lo : Nat → Int32) (hi : Nat → Int32) (vl : Nat → Int32) (g : Nat) (gx : Int32) (gy : Int32) (sl : Int32) (bq : Int32) (hn : n ≤ 5) : zM l yX3_keyOf wsX3_keyOf 2 D cI cJ [.ref s9, .ref a, .ref g, .int bq] [(s9, .inr (3, [.ref rk, .ref pa, .ref re, .ref xa, .ref ya, .ref ha, .ref wa])), (pa, .inl (cI, 5, .inl po)), (re, .inl (cI, 6, .inl rc)), (xa, .inl (cI, 6, .inl xf)), (ya, .inl (cI, 6, .inl yf)), (ha, .inl (cI, 6, .inl hf)), (wa, .inl (cI, 6, .inl wf)), (a, .inr (0, [.ref k1, .ref k2, .ref k3, .ref k4, .ref k5, .int (nI n)])), (k1, .inl (cI, 5, .inl kd)), (k2, .inl (cI, 5, .inl ln)), (k3, .inl (cI, 5, .inl lo)), (k4, .inl (cI, 5, .inl hi)), (k5, .inl (cI, 5, .inl vl)), (g, .inr (1, [.int gx, .int gy, .int sl]))] (fun (u : Int64) => (u = zKc vl kd xf yf hf wf n gx gy bq)) (fun (u : Int64) => some (.long u)) (fun (u : Int64) => [(s9, .inr (3, [.ref rk, .ref pa, .ref re, .ref xa, .ref ya, .ref ha, .ref wa])), (pa, .inl (cI, 5, .inl po)), (re, .inl (cI, 6, .inl rc)), (xa, .inl (cI, 6, .inl xf)), (ya, .inl (cI, 6, .inl yf)), (ha, .inl (cI, 6, .inl hf)), (wa, .inl (cI, 6, .inl wf)), (a, .inr (0, [.ref k1, .ref k2, .ref k3, .ref k4, .ref k5, .int (nI n)])), (k1, .inl (cI, 5, .inl kd)), (k2, .inl (cI, 5, .inl ln)), (k3, .inl (cI, 5, .inl lo)), (k4, .inl (cI, 5, .inl hi)), (k5, .inl (cI, 5, .inl vl)), (g, .inr (1, [.int gx, .int gy, .int sl]))]) := by
  refine zM_l (cc := cX3_keyOf) (maxL := 6) (r := fun (u : Int64) => u) (by decide) rfl (Nat.le_of_ble_eq_true rfl) ?_
  intro p e s m args below meth c ls A0 Q C hl hP hS hRet
  obtain ⟨⟨hx, hb, hml, hown, hts⟩, hG, hK, hD, hlocks⟩ := C
  have hin0 : ∀ w ∈ u_ws RX0 TX0 6, w ∈ wsX3_keyOf := by decide +kernel
  have hin3 : ∀ w ∈ u_ws RX3 TX3 7, w ∈ wsX3_keyOf := by decide +kernel
  have hf44 := hG.1.2.1 ("ArmRoom$Search", 44, "ArmRoom$Arm", "count", "I", "ArmRoom") (List.mem_of_getElem? (i := 7) rfl)
  have hf31 := hts (.fieldLink RX3 31 "ArmRoom$Search" "headings" "[I") (by decide +kernel)
  have hf34 := hts (.fieldLink RX3 34 "ArmRoom$Search" "ways" "[I") (by decide +kernel)
  have hf25 := hts (.fieldLink RX3 25 "ArmRoom$Search" "xs" "[I") (by decide +kernel)
  have hf28 := hts (.fieldLink RX3 28 "ArmRoom$Search" "ys" "[I") (by decide +kernel)
  have hl : lv_has ls 6 [(0, .ref s9), (1, .ref a), (2, .ref g), (3, .int bq)] := hl
  refine lv_aload_n hx hb dX3_keyOf_0 rfl (lv_at hl 1 rfl) ?_
  refine va_getN (D := D) (ci := 0) (v := .int (nI n)) (C := RX0) (T := TX0) (N := 6) hx hb hts hin0 hown hK hP 7 rfl rfl 5 (by decide) (va_Nw.use rfl hf44) (fun _ h9 => h9) rfl dX3_keyOf_1 ?_
  refine lv_istore (lv' := [(4, .int (nI n)), (0, .ref s9), (1, .ref a), (2, .ref g), (3, .int bq)]) hx hb dX3_keyOf_4 hl (by decide) rfl (fun ls hl => ?_)
  refine lv_iload_n hx hb dX3_keyOf_6 rfl (lv_at hl 4 rfl) ?_
  refine lv_if_ne (tgt := 29) hx hb dX3_keyOf_7 (by decide) (fun c_7 => ?_) (fun c_7 => ?_)
  · refine lv_iload_n hx hb dX3_keyOf_29 rfl (lv_at hl 4 rfl) ?_
    refine lv_iconst (v := 1) hx hb dX3_keyOf_30 (by decide) ?_
    refine lv_icmp_ne (tgt := 43) hx hb dX3_keyOf_31 (by decide) (fun c_31 => ?_) (fun c_31 => ?_)
    · refine lv_aload_n hx hb dX3_keyOf_43 rfl (lv_at hl 1 rfl) ?_
      refine va_get (D := D) (ci := 3) (v := .ref ha) (C := RX3) (T := TX3) (N := 7) hx hb hts hin3 hown hK hP 0 rfl rfl 5 (by decide) hf31 (fun _ h9 => h9) rfl dX3_keyOf_44 ?_
      refine lv_iload hx hb dX3_keyOf_47 (lv_at hl 0 rfl) ?_
      refine z_iald hx hb hK hP 5 rfl (j := n) (by omega) (by decide) dX3_keyOf_49 ?_
      refine lv_aload_n hx hb dX3_keyOf_50 rfl (lv_at hl 2 rfl) ?_
      refine lv_iload hx hb dX3_keyOf_51 (lv_at hl 0 rfl) ?_
      refine lv_iconst (v := 1) hx hb dX3_keyOf_53 (by decide) ?_
      refine lv_isub hx hb dX3_keyOf_54 ?_
      refine z_callVN (As := [.int (nI n - 1)]) (rest := [.int (hf n)]) ⟨hx, hb, hml, hown, hts⟩ hG hK hP hD hS (c_X0_headingAt l D cI cJ a k1 k2 k3 k4 k5 n kd ln lo hi vl n (by first | assumption | omega | decide) (by first | assumption | omega | decide)) (⟨va_cnB 1 hts gX3_keyOf_X0_headingAt_n107 rfl rfl rfl (hG.1.1 ("ArmRoom$Search", 107, yX0_headingAt, "ArmRoom") (List.mem_of_getElem? (i := 24) rfl)) (hts (.initialized RX0) (by decide +kernel)) (by decide +kernel) ⟨Nat.le_of_ble_eq_true rfl, Nat.le_of_ble_eq_true rfl⟩, hts (.instanceMethod yX0_headingAt) (by decide +kernel), hts (.selects RX0 yX0_headingAt yX0_headingAt) (by decide +kernel)⟩) [7, 8, 9, 10, 11, 12] (by decide) rfl (fun _ => rfl) 7 rfl rfl rfl rfl hl.1 rfl (Nat.le_of_ble_eq_true rfl) dX3_keyOf_55 ⟨Nat.le_of_ble_eq_true rfl, Nat.le_of_ble_eq_true rfl⟩ (fun u_1 H locs hu_2 hP hD hS => ?_)
      obtain ⟨r_3, rfl⟩ : ∃ z, z = u_1 := ⟨_, rfl⟩
      have hu_2 : (r_3 = zH kd vl n) := hu_2
      have e_4 := hu_2
      subst e_4
      have hP : va_P D vwCl [(s9, .inr (3, [.ref rk, .ref pa, .ref re, .ref xa, .ref ya, .ref ha, .ref wa])), (pa, .inl (cI, 5, .inl po)), (re, .inl (cI, 6, .inl rc)), (xa, .inl (cI, 6, .inl xf)), (ya, .inl (cI, 6, .inl yf)), (ha, .inl (cI, 6, .inl hf)), (wa, .inl (cI, 6, .inl wf)), (a, .inr (0, [.ref k1, .ref k2, .ref k3, .ref k4, .ref k5, .int (nI n)])), (k1, .inl (cI, 5, .inl kd)), (k2, .inl (cI, 5, .inl ln)), (k3, .inl (cI, 5, .inl lo)), (k4, .inl (cI, 5, .inl hi)), (k5, .inl (cI, 5, .inl vl)), (g, .inr (1, [.int gx, .int gy, .int sl]))] H := hP
      have hD : va_D A0 [(s9, .inr (3, [.ref rk, .ref pa, .ref re, .ref xa, .ref ya, .ref ha, .ref wa])), (pa, .inl (cI, 5, .inl po)), (re, .inl (cI, 6, .inl rc)), (xa, .inl (cI, 6, .inl xf)), (ya, .inl (cI, 6, .inl yf)), (ha, .inl (cI, 6, .inl hf)), (wa, .inl (cI, 6, .inl wf)), (a, .inr (0, [.ref k1, .ref k2, .ref k3, .ref k4, .ref k5, .int (nI n)])), (k1, .inl (cI, 5, .inl kd)), (k2, .inl (cI, 5, .inl ln)), (k3, .inl (cI, 5, .inl lo)), (k4, .inl (cI, 5, .inl hi)), (k5, .inl (cI, 5, .inl vl)), (g, .inr (1, [.int gx, .int gy, .int sl]))] := hD
      refine lv_isub hx hb dX3_keyOf_58 ?_
      refine lv_bipush (v := 63) hx hb dX3_keyOf_59 (by decide) ?_
      refine lv_iand hx hb dX3_keyOf_61 ?_
      refine lv_istore (lv' := [(5, .int (((hf n) - (zH kd vl n)) &&& 63)), (4, .int (nI n)), (0, .ref s9), (1, .ref a), (2, .ref g), (3, .int bq)]) hx hb dX3_keyOf_62 hl (by decide) rfl (fun ls hl => ?_)
      refine lv_iload hx hb dX3_keyOf_64 (lv_at hl 0 rfl) ?_
      refine lv_bipush (v := 64) hx hb dX3_keyOf_66 (by decide) ?_
      refine lv_iload hx hb dX3_keyOf_68 (lv_at hl 0 rfl) ?_
      refine lv_isub hx hb dX3_keyOf_70 ?_
      refine va_mmin hx hb (by rw [hml]; exact hl.1.symm) hown (hts (.methodLink RX3 110 Lib.Math.min.name) (by decide +kernel)) (hts (.static Lib.Math.min.name) (by decide +kernel)) (hts (.initialized "java/lang/Math") (by decide +kernel)) (hts (.code Lib.Math.min.name Lib.Math.min.code 2 (some .int)) (by decide +kernel)) (Nat.le_of_ble_eq_true rfl) (Nat.le_of_ble_eq_true rfl) (Nat.le_of_ble_eq_true rfl) (Nat.le_of_ble_eq_true rfl) dX3_keyOf_71 ?_
      refine lv_i2l (v := (if (64 - (((hf n) - (zH kd vl n)) &&& 63)) < (((hf n) - (zH kd vl n)) &&& 63) then (64 - (((hf n) - (zH kd vl n)) &&& 63)) else (((hf n) - (zH kd vl n)) &&& 63)).toInt64) hx hb dX3_keyOf_74 rfl ?_
      exact hRet _ ((if (64 - (((hf n) - (zH kd vl n)) &&& 63)) < (((hf n) - (zH kd vl n)) &&& 63) then (64 - (((hf n) - (zH kd vl n)) &&& 63)) else (((hf n) - (zH kd vl n)) &&& 63)).toInt64) _ _ _ (by first | exact (if_pos c_7).symm | (unfold zKc; rw [if_neg c_7, if_pos c_31]) | (unfold zKc; rw [if_neg c_7, if_neg c_31]; rfl)) hP hS dX3_keyOf_75
    · refine lv_aload_n hx hb dX3_keyOf_34 rfl (lv_at hl 1 rfl) ?_
      refine va_get (D := D) (ci := 3) (v := .ref wa) (C := RX3) (T := TX3) (N := 7) hx hb hts hin3 hown hK hP 0 rfl rfl 6 (by decide) hf34 (fun _ h9 => h9) rfl dX3_keyOf_35 ?_
      refine lv_iload hx hb dX3_keyOf_38 (lv_at hl 0 rfl) ?_
      refine z_iald hx hb hK hP 6 rfl (j := n) (by omega) (by decide) dX3_keyOf_40 ?_
      refine lv_i2l (v := (wf n).toInt64) hx hb dX3_keyOf_41 rfl ?_
      exact hRet _ ((wf n).toInt64) _ _ _ (by first | exact (if_pos c_7).symm | (unfold zKc; rw [if_neg c_7, if_pos c_31]) | (unfold zKc; rw [if_neg c_7, if_neg c_31]; rfl)) hP hS dX3_keyOf_42
  · refine lv_aload_n hx hb dX3_keyOf_10 rfl (lv_at hl 3 rfl) ?_
    refine lv_aload_n hx hb dX3_keyOf_11 rfl (lv_at hl 1 rfl) ?_
    refine va_get (D := D) (ci := 3) (v := .ref xa) (C := RX3) (T := TX3) (N := 7) hx hb hts hin3 hown hK hP 0 rfl rfl 3 (by decide) hf25 (fun _ h9 => h9) rfl dX3_keyOf_12 ?_
    refine lv_iload hx hb dX3_keyOf_15 (lv_at hl 0 rfl) ?_
    refine z_iald hx hb hK hP 3 rfl (j := n) (by omega) (by decide) dX3_keyOf_17 ?_
    refine lv_aload_n hx hb dX3_keyOf_18 rfl (lv_at hl 1 rfl) ?_
    refine va_get (D := D) (ci := 3) (v := .ref ya) (C := RX3) (T := TX3) (N := 7) hx hb hts hin3 hown hK hP 0 rfl rfl 4 (by decide) hf28 (fun _ h9 => h9) rfl dX3_keyOf_19 ?_
    refine lv_iload hx hb dX3_keyOf_22 (lv_at hl 0 rfl) ?_
    refine z_iald hx hb hK hP 4 rfl (j := n) (by omega) (by decide) dX3_keyOf_24 ?_
    refine z_callVN (As := [.int (xf n), .int (yf n)]) (rest := []) ⟨hx, hb, hml, hown, hts⟩ hG hK hP hD hS (c_X1_farFrom l D cI cJ g gx gy sl (xf n) (yf n) ) (⟨va_cnB 2 hts gX3_keyOf_X1_farFrom_n103 rfl rfl rfl (hG.1.1 ("ArmRoom$Search", 103, yX1_farFrom, "ArmRoom") (List.mem_of_getElem? (i := 23) rfl)) (hts (.initialized RX1) (by decide +kernel)) (by decide +kernel) ⟨Nat.le_of_ble_eq_true rfl, Nat.le_of_ble_eq_true rfl⟩, hts (.instanceMethod yX1_farFrom) (by decide +kernel), hts (.selects RX1 yX1_farFrom yX1_farFrom) (by decide +kernel)⟩) [13] (by decide) rfl (fun _ => rfl) 13 rfl rfl rfl rfl hl.1 rfl (Nat.le_of_ble_eq_true rfl) dX3_keyOf_25 ⟨Nat.le_of_ble_eq_true rfl, Nat.le_of_ble_eq_true rfl⟩ (fun u_5 H locs hu_6 hP hD hS => ?_)
    obtain ⟨r_7, rfl⟩ : ∃ z, z = u_5 := ⟨_, rfl⟩
    have hu_6 : (r_7 = zFar gx gy (xf n) (yf n)) := hu_6
    have e_8 := hu_6
    subst e_8
    have hP : va_P D vwCl [(s9, .inr (3, [.ref rk, .ref pa, .ref re, .ref xa, .ref ya, .ref ha, .ref wa])), (pa, .inl (cI, 5, .inl po)), (re, .inl (cI, 6, .inl rc)), (xa, .inl (cI, 6, .inl xf)), (ya, .inl (cI, 6, .inl yf)), (ha, .inl (cI, 6, .inl hf)), (wa, .inl (cI, 6, .inl wf)), (a, .inr (0, [.ref k1, .ref k2, .ref k3, .ref k4, .ref k5, .int (nI n)])), (k1, .inl (cI, 5, .inl kd)), (k2, .inl (cI, 5, .inl ln)), (k3, .inl (cI, 5, .inl lo)), (k4, .inl (cI, 5, .inl hi)), (k5, .inl (cI, 5, .inl vl)), (g, .inr (1, [.int gx, .int gy, .int sl]))] H := hP
    have hD : va_D A0 [(s9, .inr (3, [.ref rk, .ref pa, .ref re, .ref xa, .ref ya, .ref ha, .ref wa])), (pa, .inl (cI, 5, .inl po)), (re, .inl (cI, 6, .inl rc)), (xa, .inl (cI, 6, .inl xf)), (ya, .inl (cI, 6, .inl yf)), (ha, .inl (cI, 6, .inl hf)), (wa, .inl (cI, 6, .inl wf)), (a, .inr (0, [.ref k1, .ref k2, .ref k3, .ref k4, .ref k5, .int (nI n)])), (k1, .inl (cI, 5, .inl kd)), (k2, .inl (cI, 5, .inl ln)), (k3, .inl (cI, 5, .inl lo)), (k4, .inl (cI, 5, .inl hi)), (k5, .inl (cI, 5, .inl vl)), (g, .inr (1, [.int gx, .int gy, .int sl]))] := hD
    exact hRet _ (zFar gx gy (xf n) (yf n)) _ _ _ (by first | exact (if_pos c_7).symm | (unfold zKc; rw [if_neg c_7, if_pos c_31]) | (unfold zKc; rw [if_neg c_7, if_neg c_31]; rfl)) hP hS dX3_keyOf_28

set_option maxHeartbeats 4000000 in
set_option maxRecDepth 100000 in
theorem c_X3_findReach (l : Launch) (D : va_G) (cI cJ : ClassId) (rk : Nat) (s9 : Nat) (pa : Nat) (re : Nat) (xa : Nat) (ya : Nat) (ha : Nat) (wa : Nat) (po : Nat → Int32) (rc : Nat → Int32) (xf : Nat → Int32) (yf : Nat → Int32) (hf : Nat → Int32) (wf : Nat → Int32) (a : Nat) (k1 : Nat) (k2 : Nat) (k3 : Nat) (k4 : Nat) (k5 : Nat) (n : Nat) (kd : Nat → Int32) (ln : Nat → Int32) (lo : Nat → Int32) (hi : Nat → Int32) (vl : Nat → Int32) (g : Nat) (gx : Int32) (gy : Int32) (sl : Int32) (hn : n ≤ 5) : zM l yX3_findReach wsX3_findReach 1 D cI cJ [.ref s9, .ref a, .ref g] [(s9, .inr (3, [.ref rk, .ref pa, .ref re, .ref xa, .ref ya, .ref ha, .ref wa])), (pa, .inl (cI, 5, .inl po)), (re, .inl (cI, 6, .inl rc)), (xa, .inl (cI, 6, .inl xf)), (ya, .inl (cI, 6, .inl yf)), (ha, .inl (cI, 6, .inl hf)), (wa, .inl (cI, 6, .inl wf)), (a, .inr (0, [.ref k1, .ref k2, .ref k3, .ref k4, .ref k5, .int (nI n)])), (k1, .inl (cI, 5, .inl kd)), (k2, .inl (cI, 5, .inl ln)), (k3, .inl (cI, 5, .inl lo)), (k4, .inl (cI, 5, .inl hi)), (k5, .inl (cI, 5, .inl vl)), (g, .inr (1, [.int gx, .int gy, .int sl]))] (fun (u : (Nat → Int32)) => (∀ i, i ≤ n → u i = zRe kd ln hi sl (n - i) i)) (fun (u : (Nat → Int32)) => none) (fun (u : (Nat → Int32)) => [(s9, .inr (3, [.ref rk, .ref pa, .ref re, .ref xa, .ref ya, .ref ha, .ref wa])), (pa, .inl (cI, 5, .inl po)), (re, .inl (cI, 6, .inl u)), (xa, .inl (cI, 6, .inl xf)), (ya, .inl (cI, 6, .inl yf)), (ha, .inl (cI, 6, .inl hf)), (wa, .inl (cI, 6, .inl wf)), (a, .inr (0, [.ref k1, .ref k2, .ref k3, .ref k4, .ref k5, .int (nI n)])), (k1, .inl (cI, 5, .inl kd)), (k2, .inl (cI, 5, .inl ln)), (k3, .inl (cI, 5, .inl lo)), (k4, .inl (cI, 5, .inl hi)), (k5, .inl (cI, 5, .inl vl)), (g, .inr (1, [.int gx, .int gy, .int sl]))]) := by
  refine zM_v (cc := cX3_findReach) (maxL := 4) (by decide) rfl (Nat.le_of_ble_eq_true rfl) ?_
  intro p e s m args below meth c ls A0 Q C hl hP hS hRet
  obtain ⟨⟨hx, hb, hml, hown, hts⟩, hG, hK, hD, hlocks⟩ := C
  have hin0 : ∀ w ∈ u_ws RX0 TX0 6, w ∈ wsX3_findReach := by decide +kernel
  have hin1 : ∀ w ∈ u_ws RX1 TX1 3, w ∈ wsX3_findReach := by decide +kernel
  have hin3 : ∀ w ∈ u_ws RX3 TX3 7, w ∈ wsX3_findReach := by decide +kernel
  have hf22 := hts (.fieldLink RX3 22 "ArmRoom$Search" "reach" "[I") (by decide +kernel)
  have hf44 := hG.1.2.1 ("ArmRoom$Search", 44, "ArmRoom$Arm", "count", "I", "ArmRoom") (List.mem_of_getElem? (i := 7) rfl)
  have hf54 := hG.1.2.1 ("ArmRoom$Search", 54, "ArmRoom$Goal", "slack", "I", "ArmRoom") (List.mem_of_getElem? (i := 12) rfl)
  have hf59 := hG.1.2.1 ("ArmRoom$Search", 59, "ArmRoom$Arm", "highs", "[I", "ArmRoom") (List.mem_of_getElem? (i := 3) rfl)
  have hl : lv_has ls 4 [(0, .ref s9), (1, .ref a), (2, .ref g)] := hl
  refine lv_aload_n hx hb dX3_findReach_0 rfl (lv_at hl 0 rfl) ?_
  refine va_get (D := D) (ci := 3) (v := .ref re) (C := RX3) (T := TX3) (N := 7) hx hb hts hin3 hown hK hP 0 rfl rfl 2 (by decide) hf22 (fun _ h9 => h9) rfl dX3_findReach_1 ?_
  refine lv_aload_n hx hb dX3_findReach_4 rfl (lv_at hl 1 rfl) ?_
  refine va_getN (D := D) (ci := 0) (v := .int (nI n)) (C := RX0) (T := TX0) (N := 6) hx hb hts hin0 hown hK hP 7 rfl rfl 5 (by decide) (va_Nw.use rfl hf44) (fun _ h9 => h9) rfl dX3_findReach_5 ?_
  refine lv_aload_n hx hb dX3_findReach_8 rfl (lv_at hl 2 rfl) ?_
  refine va_getN (D := D) (ci := 1) (v := .int sl) (C := RX1) (T := TX1) (N := 3) hx hb hts hin1 hown hK hP 13 rfl rfl 2 (by decide) (va_Nw.use rfl hf54) (fun _ h9 => h9) rfl dX3_findReach_9 ?_
  refine z_iast hx hb hK hP hD hS 2 rfl (j := n) (by omega) (by decide) dX3_findReach_12 (fun H locs hP hD hS => ?_)
  have hP : va_P D vwCl [(s9, .inr (3, [.ref rk, .ref pa, .ref re, .ref xa, .ref ya, .ref ha, .ref wa])), (pa, .inl (cI, 5, .inl po)), (re, .inl (cI, 6, .inl (upd rc n sl))), (xa, .inl (cI, 6, .inl xf)), (ya, .inl (cI, 6, .inl yf)), (ha, .inl (cI, 6, .inl hf)), (wa, .inl (cI, 6, .inl wf)), (a, .inr (0, [.ref k1, .ref k2, .ref k3, .ref k4, .ref k5, .int (nI n)])), (k1, .inl (cI, 5, .inl kd)), (k2, .inl (cI, 5, .inl ln)), (k3, .inl (cI, 5, .inl lo)), (k4, .inl (cI, 5, .inl hi)), (k5, .inl (cI, 5, .inl vl)), (g, .inr (1, [.int gx, .int gy, .int sl]))] H := hP
  have hD : va_D A0 [(s9, .inr (3, [.ref rk, .ref pa, .ref re, .ref xa, .ref ya, .ref ha, .ref wa])), (pa, .inl (cI, 5, .inl po)), (re, .inl (cI, 6, .inl (upd rc n sl))), (xa, .inl (cI, 6, .inl xf)), (ya, .inl (cI, 6, .inl yf)), (ha, .inl (cI, 6, .inl hf)), (wa, .inl (cI, 6, .inl wf)), (a, .inr (0, [.ref k1, .ref k2, .ref k3, .ref k4, .ref k5, .int (nI n)])), (k1, .inl (cI, 5, .inl kd)), (k2, .inl (cI, 5, .inl ln)), (k3, .inl (cI, 5, .inl lo)), (k4, .inl (cI, 5, .inl hi)), (k5, .inl (cI, 5, .inl vl)), (g, .inr (1, [.int gx, .int gy, .int sl]))] := hD
  refine lv_aload_n hx hb dX3_findReach_13 rfl (lv_at hl 1 rfl) ?_
  refine va_getN (D := D) (ci := 0) (v := .int (nI n)) (C := RX0) (T := TX0) (N := 6) hx hb hts hin0 hown hK hP 7 rfl rfl 5 (by decide) (va_Nw.use rfl hf44) (fun _ h9 => h9) rfl dX3_findReach_14 ?_
  refine lv_iconst (v := 1) hx hb dX3_findReach_17 (by decide) ?_
  refine lv_isub hx hb dX3_findReach_18 ?_
  refine lv_istore_n (lv' := [(3, .int (nI n - 1)), (0, .ref s9), (1, .ref a), (2, .ref g)]) hx hb dX3_findReach_19 rfl hl (by decide) rfl (fun ls hl => ?_)
  have lp_20_1 : ∀ (fu : Nat) (i : Nat) (rcx : Nat → Int32), (i ≤ n) → (∀ j, i ≤ j → j ≤ n → rcx j = zRe kd ln hi sl (n - j) j) → (i < fu) → ∀ (H : Heap) (locs : List Loc), va_P D vwCl [(s9, .inr (3, [.ref rk, .ref pa, .ref re, .ref xa, .ref ya, .ref ha, .ref wa])), (pa, .inl (cI, 5, .inl po)), (re, .inl (cI, 6, .inl rcx)), (xa, .inl (cI, 6, .inl xf)), (ya, .inl (cI, 6, .inl yf)), (ha, .inl (cI, 6, .inl hf)), (wa, .inl (cI, 6, .inl wf)), (a, .inr (0, [.ref k1, .ref k2, .ref k3, .ref k4, .ref k5, .int (nI n)])), (k1, .inl (cI, 5, .inl kd)), (k2, .inl (cI, 5, .inl ln)), (k3, .inl (cI, 5, .inl lo)), (k4, .inl (cI, 5, .inl hi)), (k5, .inl (cI, 5, .inl vl)), (g, .inr (1, [.int gx, .int gy, .int sl]))] H → va_D A0 [(s9, .inr (3, [.ref rk, .ref pa, .ref re, .ref xa, .ref ya, .ref ha, .ref wa])), (pa, .inl (cI, 5, .inl po)), (re, .inl (cI, 6, .inl rcx)), (xa, .inl (cI, 6, .inl xf)), (ya, .inl (cI, 6, .inl yf)), (ha, .inl (cI, 6, .inl hf)), (wa, .inl (cI, 6, .inl wf)), (a, .inr (0, [.ref k1, .ref k2, .ref k3, .ref k4, .ref k5, .int (nI n)])), (k1, .inl (cI, 5, .inl kd)), (k2, .inl (cI, 5, .inl ln)), (k3, .inl (cI, 5, .inl lo)), (k4, .inl (cI, 5, .inl hi)), (k5, .inl (cI, 5, .inl vl)), (g, .inr (1, [.int gx, .int gy, .int sl]))] → va_S A0 s.heap H locs → ∀ (ls : Array Slot), lv_has ls 4 [(0, .ref s9), (1, .ref a), (2, .ref g), (3, .int (nI i - 1))] → W p l e (zRm 1 0 0) s m args below meth c H locs 0 0 Q (F0 m 20 ls []) := by
    intro fu
    induction fu with
    | zero => intro i rcx hi1 hr hfu; exact absurd hfu (Nat.not_lt_zero _)
    | succ fu ih_20_1 =>
      intro i rcx hi1 hr hfu H locs hP hD hS ls hl
      refine lv_iload_n hx hb dX3_findReach_20 rfl (lv_at hl 3 rfl) ?_
      refine lv_if_lt (tgt := 60) hx hb dX3_findReach_21 (by decide) (fun c_21 => ?_) (fun c_21 => ?_)
      · have c_21 := (zlt0_pred (by omega)).mp c_21
        subst c_21
        exact hRet _ (rcx) _ _ _ (fun i h9 => hr i (Nat.zero_le i) h9) hP hS dX3_findReach_60
      · have c_21 : ¬ i = 0 := fun h => c_21 ((zlt0_pred (by omega)).mpr h)
        obtain ⟨k, rfl⟩ : ∃ k, i = k + 1 := ⟨i - 1, by omega⟩
        rw [nI_pred] at hl
        refine lv_aload_n hx hb dX3_findReach_24 rfl (lv_at hl 0 rfl) ?_
        refine va_get (D := D) (ci := 3) (v := .ref re) (C := RX3) (T := TX3) (N := 7) hx hb hts hin3 hown hK hP 0 rfl rfl 2 (by decide) hf22 (fun _ h9 => h9) rfl dX3_findReach_25 ?_
        refine lv_iload_n hx hb dX3_findReach_28 rfl (lv_at hl 3 rfl) ?_
        refine lv_aload_n hx hb dX3_findReach_29 rfl (lv_at hl 0 rfl) ?_
        refine va_get (D := D) (ci := 3) (v := .ref re) (C := RX3) (T := TX3) (N := 7) hx hb hts hin3 hown hK hP 0 rfl rfl 2 (by decide) hf22 (fun _ h9 => h9) rfl dX3_findReach_30 ?_
        refine lv_iload_n hx hb dX3_findReach_33 rfl (lv_at hl 3 rfl) ?_
        refine lv_iconst (v := nI 1) hx hb dX3_findReach_34 (rfl) ?_
        refine lv_iadd hx hb dX3_findReach_35 ?_
        refine z_topi (y := nI (k + 1)) (nI_add _ _) ?_
        refine z_iald hx hb hK hP 2 rfl (j := (k + 1)) (by omega) (by decide) dX3_findReach_36 ?_
        refine lv_sipush (v := 1000) hx hb dX3_findReach_37 (by decide) ?_
        refine lv_aload_n hx hb dX3_findReach_40 rfl (lv_at hl 1 rfl) ?_
        refine lv_iload_n hx hb dX3_findReach_41 rfl (lv_at hl 3 rfl) ?_
        refine lv_aload_n hx hb dX3_findReach_42 rfl (lv_at hl 1 rfl) ?_
        refine va_getN (D := D) (ci := 0) (v := .ref k4) (C := RX0) (T := TX0) (N := 6) hx hb hts hin0 hown hK hP 7 rfl rfl 3 (by decide) (va_Nw.use rfl hf59) (fun _ h9 => h9) rfl dX3_findReach_43 ?_
        refine lv_iload_n hx hb dX3_findReach_46 rfl (lv_at hl 3 rfl) ?_
        refine z_iald hx hb hK hP 11 rfl (j := k) (by omega) (by decide) dX3_findReach_47 ?_
        refine z_callVN (As := [.int (nI k), .int (hi k)]) (rest := [.int 1000, .int (rcx (k + 1)), .int (nI k), .ref re]) ⟨hx, hb, hml, hown, hts⟩ hG hK hP hD hS (c_X0_distanceOf l D cI cJ a k1 k2 k3 k4 k5 n kd ln lo hi vl k (hi k) (by first | assumption | omega | decide)) (⟨va_cnB 2 hts gX3_findReach_X0_distanceOf_n62 rfl rfl rfl (hG.1.1 ("ArmRoom$Search", 62, yX0_distanceOf, "ArmRoom") (List.mem_of_getElem? (i := 21) rfl)) (hts (.initialized RX0) (by decide +kernel)) (by decide +kernel) ⟨Nat.le_of_ble_eq_true rfl, Nat.le_of_ble_eq_true rfl⟩, hts (.instanceMethod yX0_distanceOf) (by decide +kernel), hts (.selects RX0 yX0_distanceOf yX0_distanceOf) (by decide +kernel)⟩) [7, 8, 9, 10, 11, 12] (by decide) rfl (fun _ => rfl) 7 rfl rfl rfl rfl hl.1 rfl (Nat.le_of_ble_eq_true rfl) dX3_findReach_48 ⟨Nat.le_of_ble_eq_true rfl, Nat.le_of_ble_eq_true rfl⟩ (fun u_2 H locs hu_3 hP hD hS => ?_)
        obtain ⟨r_4, rfl⟩ : ∃ z, z = u_2 := ⟨_, rfl⟩
        have hu_3 : (r_4 = zDist kd ln k (hi k)) := hu_3
        have e_5 := hu_3
        subst e_5
        have hP : va_P D vwCl [(s9, .inr (3, [.ref rk, .ref pa, .ref re, .ref xa, .ref ya, .ref ha, .ref wa])), (pa, .inl (cI, 5, .inl po)), (re, .inl (cI, 6, .inl rcx)), (xa, .inl (cI, 6, .inl xf)), (ya, .inl (cI, 6, .inl yf)), (ha, .inl (cI, 6, .inl hf)), (wa, .inl (cI, 6, .inl wf)), (a, .inr (0, [.ref k1, .ref k2, .ref k3, .ref k4, .ref k5, .int (nI n)])), (k1, .inl (cI, 5, .inl kd)), (k2, .inl (cI, 5, .inl ln)), (k3, .inl (cI, 5, .inl lo)), (k4, .inl (cI, 5, .inl hi)), (k5, .inl (cI, 5, .inl vl)), (g, .inr (1, [.int gx, .int gy, .int sl]))] H := hP
        have hD : va_D A0 [(s9, .inr (3, [.ref rk, .ref pa, .ref re, .ref xa, .ref ya, .ref ha, .ref wa])), (pa, .inl (cI, 5, .inl po)), (re, .inl (cI, 6, .inl rcx)), (xa, .inl (cI, 6, .inl xf)), (ya, .inl (cI, 6, .inl yf)), (ha, .inl (cI, 6, .inl hf)), (wa, .inl (cI, 6, .inl wf)), (a, .inr (0, [.ref k1, .ref k2, .ref k3, .ref k4, .ref k5, .int (nI n)])), (k1, .inl (cI, 5, .inl kd)), (k2, .inl (cI, 5, .inl ln)), (k3, .inl (cI, 5, .inl lo)), (k4, .inl (cI, 5, .inl hi)), (k5, .inl (cI, 5, .inl vl)), (g, .inr (1, [.int gx, .int gy, .int sl]))] := hD
        refine lv_imul hx hb dX3_findReach_51 ?_
        refine lv_iadd hx hb dX3_findReach_52 ?_
        refine z_iast hx hb hK hP hD hS 2 rfl (j := k) (by omega) (by decide) dX3_findReach_53 (fun H locs hP hD hS => ?_)
        have hP : va_P D vwCl [(s9, .inr (3, [.ref rk, .ref pa, .ref re, .ref xa, .ref ya, .ref ha, .ref wa])), (pa, .inl (cI, 5, .inl po)), (re, .inl (cI, 6, .inl (upd rcx k ((rcx (k + 1)) + (1000 * (zDist kd ln k (hi k))))))), (xa, .inl (cI, 6, .inl xf)), (ya, .inl (cI, 6, .inl yf)), (ha, .inl (cI, 6, .inl hf)), (wa, .inl (cI, 6, .inl wf)), (a, .inr (0, [.ref k1, .ref k2, .ref k3, .ref k4, .ref k5, .int (nI n)])), (k1, .inl (cI, 5, .inl kd)), (k2, .inl (cI, 5, .inl ln)), (k3, .inl (cI, 5, .inl lo)), (k4, .inl (cI, 5, .inl hi)), (k5, .inl (cI, 5, .inl vl)), (g, .inr (1, [.int gx, .int gy, .int sl]))] H := hP
        have hD : va_D A0 [(s9, .inr (3, [.ref rk, .ref pa, .ref re, .ref xa, .ref ya, .ref ha, .ref wa])), (pa, .inl (cI, 5, .inl po)), (re, .inl (cI, 6, .inl (upd rcx k ((rcx (k + 1)) + (1000 * (zDist kd ln k (hi k))))))), (xa, .inl (cI, 6, .inl xf)), (ya, .inl (cI, 6, .inl yf)), (ha, .inl (cI, 6, .inl hf)), (wa, .inl (cI, 6, .inl wf)), (a, .inr (0, [.ref k1, .ref k2, .ref k3, .ref k4, .ref k5, .int (nI n)])), (k1, .inl (cI, 5, .inl kd)), (k2, .inl (cI, 5, .inl ln)), (k3, .inl (cI, 5, .inl lo)), (k4, .inl (cI, 5, .inl hi)), (k5, .inl (cI, 5, .inl vl)), (g, .inr (1, [.int gx, .int gy, .int sl]))] := hD
        refine lv_iinc (v := nI k - 1) (lv' := [(3, .int (nI k - 1)), (0, .ref s9), (1, .ref a), (2, .ref g)]) hx hb dX3_findReach_54 hl (k := 3) rfl (zdec _) (by decide) rfl (fun ls hl => ?_)
        refine lv_goto (tgt := 20) hx hb dX3_findReach_57 (by decide) ?_
        exact ih_20_1 k (upd rcx k ((rcx (k + 1)) + (1000 * (zDist kd ln k (hi k))))) (by first | assumption | omega | rfl | simp_all) (zRe_up (by omega) hr) (by omega) _ _ hP hD hS _ (lv_sub hl [1, 2, 3, 0] rfl)
  exact lp_20_1 (n + 1) n (upd rc n sl) (by first | assumption | omega | rfl | simp_all) (fun j h1 h2 => by have e9 : j = n := Nat.le_antisymm h2 h1; rw [e9, pk_us, Nat.sub_self]; rfl) (Nat.lt_succ_self _) _ _ hP hD hS _ (lv_sub hl [1, 2, 3, 0] rfl)
