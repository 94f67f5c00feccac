set_option maxHeartbeats 4000000 in
set_option maxRecDepth 100000 in
theorem c_X5_checkJoint (l : Launch) (hfl : l.stackTraces = false) (D : va_G) (cI cJ : ClassId) (oo : Nat) (s9 : Nat) (m1 : Nat) (m2 : Nat) (g : Nat) (t1 : Nat) (t2 : Nat) (a : Nat) (k1 : Nat) (k2 : Nat) (k3 : Nat) (k4 : Nat) (k5 : Nat) (n : Nat) (kd : Nat → Int32) (ln : Nat → Int32) (lo : Nat → Int32) (hi : Nat → Int32) (vl : Nat → Int32) (j : Int32) (hn : n ≤ 5) : zMt l yX5_checkJoint wsX5_checkJoint 1 1 D cI cJ [.ref oo, .int j] [(oo, .inr (5, [.ref a, .ref g, .ref t1, .ref t2, .ref s9, .ref m1, .ref m2])), (a, .inr (0, [.ref k1, .ref k2, .ref k3, .ref k4, .ref k5, .int (nI n)])), (k1, .inl (cI, 5, .inl kd)), (k2, .inl (cI, 5, .inl ln)), (k3, .inl (cI, 5, .inl lo)), (k4, .inl (cI, 5, .inl hi)), (k5, .inl (cI, 5, .inl vl))] (fun (_ : Unit) => (zJ n j)) (fun (_ : Unit) => none) (fun (_ : Unit) => [(oo, .inr (5, [.ref a, .ref g, .ref t1, .ref t2, .ref s9, .ref m1, .ref m2])), (a, .inr (0, [.ref k1, .ref k2, .ref k3, .ref k4, .ref k5, .int (nI n)])), (k1, .inl (cI, 5, .inl kd)), (k2, .inl (cI, 5, .inl ln)), (k3, .inl (cI, 5, .inl lo)), (k4, .inl (cI, 5, .inl hi)), (k5, .inl (cI, 5, .inl vl))]) (fun (E : String) (_ : Unit) => (E = "java/lang/IndexOutOfBoundsException" ∧ (¬ zJ n j))) (fun (_ : Unit) => [(oo, .inr (5, [.ref a, .ref g, .ref t1, .ref t2, .ref s9, .ref m1, .ref m2])), (a, .inr (0, [.ref k1, .ref k2, .ref k3, .ref k4, .ref k5, .int (nI n)])), (k1, .inl (cI, 5, .inl kd)), (k2, .inl (cI, 5, .inl ln)), (k3, .inl (cI, 5, .inl lo)), (k4, .inl (cI, 5, .inl hi)), (k5, .inl (cI, 5, .inl vl))]) := by
  refine zMt_v (cc := cX5_checkJoint) (maxL := 2) hfl (by decide) rfl rfl (Nat.le_of_ble_eq_true rfl) ?_
  intro p e s m args below meth c ls A0 Q C hl hP hS hO hT hRet
  obtain ⟨⟨hx, hb, hml, hown, hts⟩, hG, hK, hD, hlocks⟩ := C
  have hin0 : ∀ w ∈ u_ws RX0 TX0 6, w ∈ wsX5_checkJoint := by decide +kernel
  have hin5 : ∀ w ∈ u_ws RX5 TX5 7, w ∈ wsX5_checkJoint := by decide +kernel
  have hat182 := vx_hat (B := zBad) (fun w h => hts w ((by decide +kernel : ∀ w ∈ (vx_atS RX5 182 "java/lang/IndexOutOfBoundsException" zNames).filter goodWord, w ∈ wsX5_checkJoint) w h)) zat_182 hG.1.2.2.2.2.bad
  have hcl178 := hts (.classLink RX5 178 "java/lang/IndexOutOfBoundsException") (by decide +kernel)
  have hci178 := hts (.initialized "java/lang/IndexOutOfBoundsException") (by decide +kernel)
  have hf10 := hts (.fieldLink RX5 10 "ArmRoom" "arm" "LArmRoom$Arm;") (by decide +kernel)
  have hf108 := hG.1.2.1 ("ArmRoom", 108, "ArmRoom$Arm", "count", "I", "ArmRoom") (List.mem_of_getElem? (i := 9) rfl)
  have hl : lv_has ls 2 [(0, .ref oo), (1, .int j)] := hl
  refine lv_iload_n hx hb dX5_checkJoint_0 rfl (lv_at hl 1 rfl) ?_
  refine lv_if_lt (tgt := 15) hx hb dX5_checkJoint_1 (by decide) (fun c_1 => ?_) (fun c_1 => ?_)
  · exact hT 15 178 180 182 "java/lang/IndexOutOfBoundsException" "no such joint" _ _ _ _ _ _ () (by decide +kernel) hcl178 hci178 (hG.1.2.2.1 ("ArmRoom", 180, "no such joint") (List.mem_of_getElem? (i := 4) rfl)) hat182 zgood_182 hl.1 dX5_checkJoint_15 dX5_checkJoint_18 dX5_checkJoint_19 dX5_checkJoint_21 dX5_checkJoint_24 (Nat.le_of_ble_eq_true rfl) (Nat.le_of_ble_eq_true rfl) (Nat.le_of_ble_eq_true rfl) ⟨rfl, fun h => absurd c_1 (Int32.not_lt.mpr h.1)⟩ hP hS
  · refine lv_iload_n hx hb dX5_checkJoint_4 rfl (lv_at hl 1 rfl) ?_
    refine lv_aload_n hx hb dX5_checkJoint_5 rfl (lv_at hl 0 rfl) ?_
    refine va_get (D := D) (ci := 5) (v := .ref a) (C := RX5) (T := TX5) (N := 7) hx hb hts hin5 hown hK hP 0 rfl rfl 0 (by decide) hf10 (fun _ h9 => h9) rfl dX5_checkJoint_6 ?_
    refine va_getN (D := D) (ci := 0) (v := .int (nI n)) (C := RX0) (T := TX0) (N := 6) hx hb hts hin0 hown hK hP 1 rfl rfl 5 (by decide) (va_Nw.use rfl hf108) (fun _ h9 => h9) rfl dX5_checkJoint_9 ?_
    refine lv_icmp_lt (tgt := 25) hx hb dX5_checkJoint_12 (by decide) (fun c_12 => ?_) (fun c_12 => ?_)
    · exact hRet _ () _ _ _ _ _ (Nat.le_of_ble_eq_true rfl) (Nat.le_of_ble_eq_true rfl) (⟨Int32.not_lt.mp c_1, c_12⟩) hP hS dX5_checkJoint_25
    · exact hT 15 178 180 182 "java/lang/IndexOutOfBoundsException" "no such joint" _ _ _ _ _ _ () (by decide +kernel) hcl178 hci178 (hG.1.2.2.1 ("ArmRoom", 180, "no such joint") (List.mem_of_getElem? (i := 4) rfl)) hat182 zgood_182 hl.1 dX5_checkJoint_15 dX5_checkJoint_18 dX5_checkJoint_19 dX5_checkJoint_21 dX5_checkJoint_24 (Nat.le_of_ble_eq_true rfl) (Nat.le_of_ble_eq_true rfl) (Nat.le_of_ble_eq_true rfl) ⟨rfl, fun h => c_12 h.2⟩ hP hS

set_option maxHeartbeats 4000000 in
set_option maxRecDepth 100000 in
theorem c_X5_checkTold (l : Launch) (hfl : l.stackTraces = false) (D : va_G) (cI cJ : ClassId) (w : Int32) (ws9 : Int32)  : zMt l yX5_checkTold wsX5_checkTold 1 1 D cI cJ [.int w, .int ws9] [] (fun (_ : Unit) => (0 ≤ w ∧ w ≤ ws9)) (fun (_ : Unit) => none) (fun (_ : Unit) => []) (fun (E : String) (_ : Unit) => (E = "java/lang/IllegalArgumentException" ∧ (¬ (0 ≤ w ∧ w ≤ ws9)))) (fun (_ : Unit) => []) := by
  refine zMt_v (cc := cX5_checkTold) (maxL := 2) hfl (by decide) rfl rfl (Nat.le_of_ble_eq_true rfl) ?_
  intro p e s m args below meth c ls A0 Q C hl hP hS hO hT hRet
  obtain ⟨⟨hx, hb, hml, hown, hts⟩, hG, hK, hD, hlocks⟩ := C
  have hat51 := vx_hat (B := zBad) (fun w h => hts w ((by decide +kernel : ∀ w ∈ (vx_atS RX5 51 "java/lang/IllegalArgumentException" zNames).filter goodWord, w ∈ wsX5_checkTold) w h)) zat_51 hG.1.2.2.2.2.bad
  have hcl47 := hts (.classLink RX5 47 "java/lang/IllegalArgumentException") (by decide +kernel)
  have hci47 := hts (.initialized "java/lang/IllegalArgumentException") (by decide +kernel)
  have hl : lv_has ls 2 [(0, .int w), (1, .int ws9)] := hl
  refine lv_iload_n hx hb dX5_checkTold_0 rfl (lv_at hl 0 rfl) ?_
  refine lv_if_lt (tgt := 9) hx hb dX5_checkTold_1 (by decide) (fun c_1 => ?_) (fun c_1 => ?_)
  · exact hT 9 47 183 51 "java/lang/IllegalArgumentException" "what is told" _ _ _ _ _ _ () (by decide +kernel) hcl47 hci47 (hG.1.2.2.1 ("ArmRoom", 183, "what is told") (List.mem_of_getElem? (i := 6) rfl)) hat51 zgood_51 hl.1 dX5_checkTold_9 dX5_checkTold_12 dX5_checkTold_13 dX5_checkTold_15 dX5_checkTold_18 (Nat.le_of_ble_eq_true rfl) (Nat.le_of_ble_eq_true rfl) (Nat.le_of_ble_eq_true rfl) ⟨rfl, fun h => absurd c_1 (Int32.not_lt.mpr h.1)⟩ hP hS
  · refine lv_iload_n hx hb dX5_checkTold_4 rfl (lv_at hl 0 rfl) ?_
    refine lv_iload_n hx hb dX5_checkTold_5 rfl (lv_at hl 1 rfl) ?_
    refine lv_icmp_le (tgt := 19) hx hb dX5_checkTold_6 (by decide) (fun c_6 => ?_) (fun c_6 => ?_)
    · exact hRet _ () _ _ _ _ _ (Nat.le_of_ble_eq_true rfl) (Nat.le_of_ble_eq_true rfl) (⟨Int32.not_lt.mp c_1, c_6⟩) hP hS dX5_checkTold_19
    · exact hT 9 47 183 51 "java/lang/IllegalArgumentException" "what is told" _ _ _ _ _ _ () (by decide +kernel) hcl47 hci47 (hG.1.2.2.1 ("ArmRoom", 183, "what is told") (List.mem_of_getElem? (i := 6) rfl)) hat51 zgood_51 hl.1 dX5_checkTold_9 dX5_checkTold_12 dX5_checkTold_13 dX5_checkTold_15 dX5_checkTold_18 (Nat.le_of_ble_eq_true rfl) (Nat.le_of_ble_eq_true rfl) (Nat.le_of_ble_eq_true rfl) ⟨rfl, fun h => c_6 h.2⟩ hP hS

set_option maxHeartbeats 4000000 in
set_option maxRecDepth 100000 in
theorem c_X5_value (l : Launch) (hfl : l.stackTraces = false) (D : va_G) (cI cJ : ClassId) (oo : Nat) (s9 : Nat) (m1 : Nat) (m2 : Nat) (g : Nat) (t1 : Nat) (t2 : Nat) (a : Nat) (k1 : Nat) (k2 : Nat) (k3 : Nat) (k4 : Nat) (k5 : Nat) (n : Nat) (kd : Nat → Int32) (ln : Nat → Int32) (lo : Nat → Int32) (hi : Nat → Int32) (vl : Nat → Int32) (j : Int32) (hn : n ≤ 5) : zMt l yX5_value wsX5_value 2 1 D cI cJ [.ref oo, .int j] [(oo, .inr (5, [.ref a, .ref g, .ref t1, .ref t2, .ref s9, .ref m1, .ref m2])), (a, .inr (0, [.ref k1, .ref k2, .ref k3, .ref k4, .ref k5, .int (nI n)])), (k1, .inl (cI, 5, .inl kd)), (k2, .inl (cI, 5, .inl ln)), (k3, .inl (cI, 5, .inl lo)), (k4, .inl (cI, 5, .inl hi)), (k5, .inl (cI, 5, .inl vl))] (fun (u : Int32) => (zJ n j) ∧ (u = vl j.toNatClampNeg)) (fun (u : Int32) => some (.int u)) (fun (u : Int32) => [(oo, .inr (5, [.ref a, .ref g, .ref t1, .ref t2, .ref s9, .ref m1, .ref m2])), (a, .inr (0, [.ref k1, .ref k2, .ref k3, .ref k4, .ref k5, .int (nI n)])), (k1, .inl (cI, 5, .inl kd)), (k2, .inl (cI, 5, .inl ln)), (k3, .inl (cI, 5, .inl lo)), (k4, .inl (cI, 5, .inl hi)), (k5, .inl (cI, 5, .inl vl))]) (fun (E : String) (_ : Unit) => (E = "java/lang/IndexOutOfBoundsException" ∧ (¬ zJ n j))) (fun (_ : Unit) => [(oo, .inr (5, [.ref a, .ref g, .ref t1, .ref t2, .ref s9, .ref m1, .ref m2])), (a, .inr (0, [.ref k1, .ref k2, .ref k3, .ref k4, .ref k5, .int (nI n)])), (k1, .inl (cI, 5, .inl kd)), (k2, .inl (cI, 5, .inl ln)), (k3, .inl (cI, 5, .inl lo)), (k4, .inl (cI, 5, .inl hi)), (k5, .inl (cI, 5, .inl vl))]) := by
  refine zMt_i (cc := cX5_value) (maxL := 2) (r := fun (u : Int32) => u) hfl (by decide) rfl rfl (Nat.le_of_ble_eq_true rfl) ?_
  intro p e s m args below meth c ls A0 Q C hl hP hS hO hT hRet
  obtain ⟨⟨hx, hb, hml, hown, hts⟩, hG, hK, hD, hlocks⟩ := C
  have hin0 : ∀ w ∈ u_ws RX0 TX0 6, w ∈ wsX5_value := by decide +kernel
  have hin5 : ∀ w ∈ u_ws RX5 TX5 7, w ∈ wsX5_value := by decide +kernel
  have hf10 := hts (.fieldLink RX5 10 "ArmRoom" "arm" "LArmRoom$Arm;") (by decide +kernel)
  have hf83 := hG.1.2.1 ("ArmRoom", 83, "ArmRoom$Arm", "values", "[I", "ArmRoom") (List.mem_of_getElem? (i := 4) rfl)
  have hl : lv_has ls 2 [(0, .ref oo), (1, .int j)] := hl
  refine lv_aload_n hx hb dX5_value_0 rfl (lv_at hl 0 rfl) ?_
  refine lv_iload_n hx hb dX5_value_1 rfl (lv_at hl 1 rfl) ?_
  refine z_callXV (As := [.int j]) (rest := []) ⟨hx, hb, hml, hown, hts⟩ hG hK hP hD hS (c_X5_checkJoint l hfl D cI cJ oo s9 m1 m2 g t1 t2 a k1 k2 k3 k4 k5 n kd ln lo hi vl j (by first | assumption | omega | decide)) (cwV 1 hts gX5_value_X5_checkJoint rfl rfl rfl (by decide +kernel) ⟨Nat.le_of_ble_eq_true rfl, Nat.le_of_ble_eq_true rfl⟩) [0, 1, 2, 3, 4, 5, 6] (by decide) rfl (fun _ => rfl) (fun _ => rfl) 0 rfl rfl rfl rfl hl.1 rfl (Nat.le_of_ble_eq_true rfl) dX5_value_2 ⟨Nat.le_of_ble_eq_true rfl, Nat.le_of_ble_eq_true rfl⟩ (fun E ce q9 u_1 H locs hu_2 hP hD hS hce hcv hcl => ?_) (fun u_1 H locs hu_2 hP hD hS => ?_)
  · have hxc : (E = "java/lang/IndexOutOfBoundsException" ∧ (¬ zJ n j)) := hu_2
    have hP : va_P D vwCl [(oo, .inr (5, [.ref a, .ref g, .ref t1, .ref t2, .ref s9, .ref m1, .ref m2])), (a, .inr (0, [.ref k1, .ref k2, .ref k3, .ref k4, .ref k5, .int (nI n)])), (k1, .inl (cI, 5, .inl kd)), (k2, .inl (cI, 5, .inl ln)), (k3, .inl (cI, 5, .inl lo)), (k4, .inl (cI, 5, .inl hi)), (k5, .inl (cI, 5, .inl vl))] H := hP
    exact hO _ _ _ _ _ _ _ _ _ _ () (hxc) hP hS hce hcv hcl (Nat.le_of_ble_eq_true rfl) (Nat.le_of_ble_eq_true rfl)
  have hu_2 : (zJ n j) := hu_2
  have hJ := hu_2
  have hP : va_P D vwCl [(oo, .inr (5, [.ref a, .ref g, .ref t1, .ref t2, .ref s9, .ref m1, .ref m2])), (a, .inr (0, [.ref k1, .ref k2, .ref k3, .ref k4, .ref k5, .int (nI n)])), (k1, .inl (cI, 5, .inl kd)), (k2, .inl (cI, 5, .inl ln)), (k3, .inl (cI, 5, .inl lo)), (k4, .inl (cI, 5, .inl hi)), (k5, .inl (cI, 5, .inl vl))] H := hP
  have hD : va_D A0 [(oo, .inr (5, [.ref a, .ref g, .ref t1, .ref t2, .ref s9, .ref m1, .ref m2])), (a, .inr (0, [.ref k1, .ref k2, .ref k3, .ref k4, .ref k5, .int (nI n)])), (k1, .inl (cI, 5, .inl kd)), (k2, .inl (cI, 5, .inl ln)), (k3, .inl (cI, 5, .inl lo)), (k4, .inl (cI, 5, .inl hi)), (k5, .inl (cI, 5, .inl vl))] := hD
  obtain ⟨jj, hjj, hje⟩ := zJ_of hn hJ
  subst hje
  have hcl9 : (nI jj).toNatClampNeg = jj := nI_clamp (by omega)
  refine lv_aload_n hx hb dX5_value_5 rfl (lv_at hl 0 rfl) ?_
  refine va_get (D := D) (ci := 5) (v := .ref a) (C := RX5) (T := TX5) (N := 7) hx hb hts hin5 hown hK hP 0 rfl rfl 0 (by decide) hf10 (fun _ h9 => h9) rfl dX5_value_6 ?_
  refine va_getN (D := D) (ci := 0) (v := .ref k5) (C := RX0) (T := TX0) (N := 6) hx hb hts hin0 hown hK hP 1 rfl rfl 4 (by decide) (va_Nw.use rfl hf83) (fun _ h9 => h9) rfl dX5_value_9 ?_
  refine lv_iload_n hx hb dX5_value_12 rfl (lv_at hl 1 rfl) ?_
  refine z_iald hx hb hK hP 6 rfl (j := jj) (by omega) (by decide) dX5_value_13 ?_
  exact hRet _ (vl jj) _ _ _ _ _ (Nat.le_of_ble_eq_true rfl) (Nat.le_of_ble_eq_true rfl) ⟨hJ, by rw [hcl9]⟩ hP hS dX5_value_14

set_option maxHeartbeats 4000000 in
set_option maxRecDepth 100000 in
theorem c_X5_set (l : Launch) (hfl : l.stackTraces = false) (D : va_G) (cI cJ : ClassId) (oo : Nat) (s9 : Nat) (m1 : Nat) (m2 : Nat) (g : Nat) (t1 : Nat) (t2 : Nat) (a : Nat) (k1 : Nat) (k2 : Nat) (k3 : Nat) (k4 : Nat) (k5 : Nat) (n : Nat) (kd : Nat → Int32) (ln : Nat → Int32) (lo : Nat → Int32) (hi : Nat → Int32) (vl : Nat → Int32) (j : Int32) (v : Int32) (hn : n ≤ 5) : zMt l yX5_set wsX5_set 2 2 D cI cJ [.ref oo, .int j, .int v] [(oo, .inr (5, [.ref a, .ref g, .ref t1, .ref t2, .ref s9, .ref m1, .ref m2])), (a, .inr (0, [.ref k1, .ref k2, .ref k3, .ref k4, .ref k5, .int (nI n)])), (k1, .inl (cI, 5, .inl kd)), (k2, .inl (cI, 5, .inl ln)), (k3, .inl (cI, 5, .inl lo)), (k4, .inl (cI, 5, .inl hi)), (k5, .inl (cI, 5, .inl vl))] (fun (u : Int32 × (Nat → Int32)) => (zJ n j ∧ (lo (j.toNatClampNeg) ≤ v ∧ v ≤ hi (j.toNatClampNeg))) ∧ (u.1 = vl j.toNatClampNeg) ∧ (u.2 = upd vl (j.toNatClampNeg) v)) (fun (u : Int32 × (Nat → Int32)) => some (.int u.1)) (fun (u : Int32 × (Nat → Int32)) => [(oo, .inr (5, [.ref a, .ref g, .ref t1, .ref t2, .ref s9, .ref m1, .ref m2])), (a, .inr (0, [.ref k1, .ref k2, .ref k3, .ref k4, .ref k5, .int (nI n)])), (k1, .inl (cI, 5, .inl kd)), (k2, .inl (cI, 5, .inl ln)), (k3, .inl (cI, 5, .inl lo)), (k4, .inl (cI, 5, .inl hi)), (k5, .inl (cI, 5, .inl u.2))]) (fun (E : String) (_ : Unit) => (E = "java/lang/IndexOutOfBoundsException" ∧ (¬ zJ n j)) ∨ (E = "java/lang/IllegalArgumentException" ∧ (zJ n j ∧ ¬ (lo (j.toNatClampNeg) ≤ v ∧ v ≤ hi (j.toNatClampNeg))))) (fun (_ : Unit) => [(oo, .inr (5, [.ref a, .ref g, .ref t1, .ref t2, .ref s9, .ref m1, .ref m2])), (a, .inr (0, [.ref k1, .ref k2, .ref k3, .ref k4, .ref k5, .int (nI n)])), (k1, .inl (cI, 5, .inl kd)), (k2, .inl (cI, 5, .inl ln)), (k3, .inl (cI, 5, .inl lo)), (k4, .inl (cI, 5, .inl hi)), (k5, .inl (cI, 5, .inl vl))]) := by
  refine zMt_i (cc := cX5_set) (maxL := 4) (r := fun (u : Int32 × (Nat → Int32)) => u.1) hfl (by decide) rfl rfl (Nat.le_of_ble_eq_true rfl) ?_
  intro p e s m args below meth c ls A0 Q C hl hP hS hO hT hRet
  obtain ⟨⟨hx, hb, hml, hown, hts⟩, hG, hK, hD, hlocks⟩ := C
  have hin0 : ∀ w ∈ u_ws RX0 TX0 6, w ∈ wsX5_set := by decide +kernel
  have hin5 : ∀ w ∈ u_ws RX5 TX5 7, w ∈ wsX5_set := by decide +kernel
  have hf10 := hts (.fieldLink RX5 10 "ArmRoom" "arm" "LArmRoom$Arm;") (by decide +kernel)
  have hf75 := hG.1.2.1 ("ArmRoom", 75, "ArmRoom$Arm", "lows", "[I", "ArmRoom") (List.mem_of_getElem? (i := 0) rfl)
  have hat51 := vx_hat (B := zBad) (fun w h => hts w ((by decide +kernel : ∀ w ∈ (vx_atS RX5 51 "java/lang/IllegalArgumentException" zNames).filter goodWord, w ∈ wsX5_set) w h)) zat_51 hG.1.2.2.2.2.bad
  have hcl47 := hts (.classLink RX5 47 "java/lang/IllegalArgumentException") (by decide +kernel)
  have hci47 := hts (.initialized "java/lang/IllegalArgumentException") (by decide +kernel)
  have hf78 := hG.1.2.1 ("ArmRoom", 78, "ArmRoom$Arm", "highs", "[I", "ArmRoom") (List.mem_of_getElem? (i := 2) rfl)
  have hf83 := hG.1.2.1 ("ArmRoom", 83, "ArmRoom$Arm", "values", "[I", "ArmRoom") (List.mem_of_getElem? (i := 4) rfl)
  have hl : lv_has ls 4 [(0, .ref oo), (1, .int j), (2, .int v)] := hl
  refine lv_aload_n hx hb dX5_set_0 rfl (lv_at hl 0 rfl) ?_
  refine lv_iload_n hx hb dX5_set_1 rfl (lv_at hl 1 rfl) ?_
  refine z_callXV (As := [.int j]) (rest := []) ⟨hx, hb, hml, hown, hts⟩ hG hK hP hD hS (c_X5_checkJoint l hfl D cI cJ oo s9 m1 m2 g t1 t2 a k1 k2 k3 k4 k5 n kd ln lo hi vl j (by first | assumption | omega | decide)) (cwV 1 hts gX5_set_X5_checkJoint rfl rfl rfl (by decide +kernel) ⟨Nat.le_of_ble_eq_true rfl, Nat.le_of_ble_eq_true rfl⟩) [0, 1, 2, 3, 4, 5, 6] (by decide) rfl (fun _ => rfl) (fun _ => rfl) 0 rfl rfl rfl rfl hl.1 rfl (Nat.le_of_ble_eq_true rfl) dX5_set_2 ⟨Nat.le_of_ble_eq_true rfl, Nat.le_of_ble_eq_true rfl⟩ (fun E ce q9 u_1 H locs hu_2 hP hD hS hce hcv hcl => ?_) (fun u_1 H locs hu_2 hP hD hS => ?_)
  · have hxc : (E = "java/lang/IndexOutOfBoundsException" ∧ (¬ zJ n j)) := hu_2
    have hP : va_P D vwCl [(oo, .inr (5, [.ref a, .ref g, .ref t1, .ref t2, .ref s9, .ref m1, .ref m2])), (a, .inr (0, [.ref k1, .ref k2, .ref k3, .ref k4, .ref k5, .int (nI n)])), (k1, .inl (cI, 5, .inl kd)), (k2, .inl (cI, 5, .inl ln)), (k3, .inl (cI, 5, .inl lo)), (k4, .inl (cI, 5, .inl hi)), (k5, .inl (cI, 5, .inl vl))] H := hP
    exact hO _ _ _ _ _ _ _ _ _ _ () (Or.inl hxc) hP hS hce hcv hcl (Nat.le_of_ble_eq_true rfl) (Nat.le_of_ble_eq_true rfl)
  have hu_2 : (zJ n j) := hu_2
  have hJ := hu_2
  have hP : va_P D vwCl [(oo, .inr (5, [.ref a, .ref g, .ref t1, .ref t2, .ref s9, .ref m1, .ref m2])), (a, .inr (0, [.ref k1, .ref k2, .ref k3, .ref k4, .ref k5, .int (nI n)])), (k1, .inl (cI, 5, .inl kd)), (k2, .inl (cI, 5, .inl ln)), (k3, .inl (cI, 5, .inl lo)), (k4, .inl (cI, 5, .inl hi)), (k5, .inl (cI, 5, .inl vl))] H := hP
  have hD : va_D A0 [(oo, .inr (5, [.ref a, .ref g, .ref t1, .ref t2, .ref s9, .ref m1, .ref m2])), (a, .inr (0, [.ref k1, .ref k2, .ref k3, .ref k4, .ref k5, .int (nI n)])), (k1, .inl (cI, 5, .inl kd)), (k2, .inl (cI, 5, .inl ln)), (k3, .inl (cI, 5, .inl lo)), (k4, .inl (cI, 5, .inl hi)), (k5, .inl (cI, 5, .inl vl))] := hD
  obtain ⟨jj, hjj, hje⟩ := zJ_of hn hJ
  subst hje
  have hcl9 : (nI jj).toNatClampNeg = jj := nI_clamp (by omega)
  refine lv_iload_n hx hb dX5_set_5 rfl (lv_at hl 2 rfl) ?_
  refine lv_aload_n hx hb dX5_set_6 rfl (lv_at hl 0 rfl) ?_
  refine va_get (D := D) (ci := 5) (v := .ref a) (C := RX5) (T := TX5) (N := 7) hx hb hts hin5 hown hK hP 0 rfl rfl 0 (by decide) hf10 (fun _ h9 => h9) rfl dX5_set_7 ?_
  refine va_getN (D := D) (ci := 0) (v := .ref k3) (C := RX0) (T := TX0) (N := 6) hx hb hts hin0 hown hK hP 1 rfl rfl 2 (by decide) (va_Nw.use rfl hf75) (fun _ h9 => h9) rfl dX5_set_10 ?_
  refine lv_iload_n hx hb dX5_set_13 rfl (lv_at hl 1 rfl) ?_
  refine z_iald hx hb hK hP 4 rfl (j := jj) (by omega) (by decide) dX5_set_14 ?_
  refine lv_icmp_lt (tgt := 31) hx hb dX5_set_15 (by decide) (fun c_15 => ?_) (fun c_15 => ?_)
  · exact hT 31 47 81 51 "java/lang/IllegalArgumentException" "beyond the limits" _ _ _ _ _ _ () (by decide +kernel) hcl47 hci47 (hG.1.2.2.1 ("ArmRoom", 81, "beyond the limits") (List.mem_of_getElem? (i := 5) rfl)) hat51 zgood_51 hl.1 dX5_set_31 dX5_set_34 dX5_set_35 dX5_set_37 dX5_set_40 (Nat.le_of_ble_eq_true rfl) (Nat.le_of_ble_eq_true rfl) (Nat.le_of_ble_eq_true rfl) (Or.inr ⟨rfl, ⟨hJ, fun h => absurd c_15 (Int32.not_lt.mpr (by have := h.1; rw [hcl9] at this; exact this))⟩⟩) hP hS
  · refine lv_iload_n hx hb dX5_set_18 rfl (lv_at hl 2 rfl) ?_
    refine lv_aload_n hx hb dX5_set_19 rfl (lv_at hl 0 rfl) ?_
    refine va_get (D := D) (ci := 5) (v := .ref a) (C := RX5) (T := TX5) (N := 7) hx hb hts hin5 hown hK hP 0 rfl rfl 0 (by decide) hf10 (fun _ h9 => h9) rfl dX5_set_20 ?_
    refine va_getN (D := D) (ci := 0) (v := .ref k4) (C := RX0) (T := TX0) (N := 6) hx hb hts hin0 hown hK hP 1 rfl rfl 3 (by decide) (va_Nw.use rfl hf78) (fun _ h9 => h9) rfl dX5_set_23 ?_
    refine lv_iload_n hx hb dX5_set_26 rfl (lv_at hl 1 rfl) ?_
    refine z_iald hx hb hK hP 5 rfl (j := jj) (by omega) (by decide) dX5_set_27 ?_
    refine lv_icmp_le (tgt := 41) hx hb dX5_set_28 (by decide) (fun c_28 => ?_) (fun c_28 => ?_)
    · refine lv_aload_n hx hb dX5_set_41 rfl (lv_at hl 0 rfl) ?_
      refine va_get (D := D) (ci := 5) (v := .ref a) (C := RX5) (T := TX5) (N := 7) hx hb hts hin5 hown hK hP 0 rfl rfl 0 (by decide) hf10 (fun _ h9 => h9) rfl dX5_set_42 ?_
      refine va_getN (D := D) (ci := 0) (v := .ref k5) (C := RX0) (T := TX0) (N := 6) hx hb hts hin0 hown hK hP 1 rfl rfl 4 (by decide) (va_Nw.use rfl hf83) (fun _ h9 => h9) rfl dX5_set_45 ?_
      refine lv_iload_n hx hb dX5_set_48 rfl (lv_at hl 1 rfl) ?_
      refine z_iald hx hb hK hP 6 rfl (j := jj) (by omega) (by decide) dX5_set_49 ?_
      refine lv_istore_n (lv' := [(3, .int (vl jj)), (0, .ref oo), (1, .int (nI jj)), (2, .int v)]) hx hb dX5_set_50 rfl hl (by decide) rfl (fun ls hl => ?_)
      refine lv_aload_n hx hb dX5_set_51 rfl (lv_at hl 1 rfl) ?_
      refine va_get (D := D) (ci := 5) (v := .ref a) (C := RX5) (T := TX5) (N := 7) hx hb hts hin5 hown hK hP 0 rfl rfl 0 (by decide) hf10 (fun _ h9 => h9) rfl dX5_set_52 ?_
      refine va_getN (D := D) (ci := 0) (v := .ref k5) (C := RX0) (T := TX0) (N := 6) hx hb hts hin0 hown hK hP 1 rfl rfl 4 (by decide) (va_Nw.use rfl hf83) (fun _ h9 => h9) rfl dX5_set_55 ?_
      refine lv_iload_n hx hb dX5_set_58 rfl (lv_at hl 2 rfl) ?_
      refine lv_iload_n hx hb dX5_set_59 rfl (lv_at hl 3 rfl) ?_
      refine z_iast hx hb hK hP hD hS 6 rfl (j := jj) (by omega) (by decide) dX5_set_60 (fun H locs hP hD hS => ?_)
      have hP : va_P D vwCl [(oo, .inr (5, [.ref a, .ref g, .ref t1, .ref t2, .ref s9, .ref m1, .ref m2])), (a, .inr (0, [.ref k1, .ref k2, .ref k3, .ref k4, .ref k5, .int (nI n)])), (k1, .inl (cI, 5, .inl kd)), (k2, .inl (cI, 5, .inl ln)), (k3, .inl (cI, 5, .inl lo)), (k4, .inl (cI, 5, .inl hi)), (k5, .inl (cI, 5, .inl (upd vl jj v)))] H := hP
      have hD : va_D A0 [(oo, .inr (5, [.ref a, .ref g, .ref t1, .ref t2, .ref s9, .ref m1, .ref m2])), (a, .inr (0, [.ref k1, .ref k2, .ref k3, .ref k4, .ref k5, .int (nI n)])), (k1, .inl (cI, 5, .inl kd)), (k2, .inl (cI, 5, .inl ln)), (k3, .inl (cI, 5, .inl lo)), (k4, .inl (cI, 5, .inl hi)), (k5, .inl (cI, 5, .inl (upd vl jj v)))] := hD
      refine lv_iload_n hx hb dX5_set_61 rfl (lv_at hl 0 rfl) ?_
      exact hRet _ (vl jj, upd vl jj v) _ _ _ _ _ (Nat.le_of_ble_eq_true rfl) (Nat.le_of_ble_eq_true rfl) ⟨⟨hJ, by rw [hcl9]; exact ⟨Int32.not_lt.mp c_15, c_28⟩⟩, by rw [hcl9], by rw [hcl9]⟩ hP hS dX5_set_62
    · exact hT 31 47 81 51 "java/lang/IllegalArgumentException" "beyond the limits" _ _ _ _ _ _ () (by decide +kernel) hcl47 hci47 (hG.1.2.2.1 ("ArmRoom", 81, "beyond the limits") (List.mem_of_getElem? (i := 5) rfl)) hat51 zgood_51 hl.1 dX5_set_31 dX5_set_34 dX5_set_35 dX5_set_37 dX5_set_40 (Nat.le_of_ble_eq_true rfl) (Nat.le_of_ble_eq_true rfl) (Nat.le_of_ble_eq_true rfl) (Or.inr ⟨rfl, ⟨hJ, fun h => c_28 (by have := h.2; rw [hcl9] at this; exact this)⟩⟩) hP hS

set_option maxHeartbeats 4000000 in
set_option maxRecDepth 100000 in
theorem c_X5_tip (l : Launch) (hfl : l.stackTraces = false) (D : va_G) (cI cJ : ClassId) (oo : Nat) (s9 : Nat) (m1 : Nat) (m2 : Nat) (g : Nat) (t1 : Nat) (x1 : Int32) (y1 : Int32) (h1 : Int32) (t2 : Nat) (a : Nat) (k1 : Nat) (k2 : Nat) (k3 : Nat) (k4 : Nat) (k5 : Nat) (n : Nat) (kd : Nat → Int32) (ln : Nat → Int32) (lo : Nat → Int32) (hi : Nat → Int32) (vl : Nat → Int32) (w : Int32) (hn : n ≤ 5) : zMt l yX5_tip wsX5_tip 5 1 D cI cJ [.ref oo, .int w] [(oo, .inr (5, [.ref a, .ref g, .ref t1, .ref t2, .ref s9, .ref m1, .ref m2])), (t1, .inr (4, [.int x1, .int y1, .int h1])), (a, .inr (0, [.ref k1, .ref k2, .ref k3, .ref k4, .ref k5, .int (nI n)])), (k1, .inl (cI, 5, .inl kd)), (k2, .inl (cI, 5, .inl ln)), (k3, .inl (cI, 5, .inl lo)), (k4, .inl (cI, 5, .inl hi)), (k5, .inl (cI, 5, .inl vl))] (fun (u : Int32 × Int32 × Int32 × Int32) => (0 ≤ w ∧ w ≤ 2) ∧ (u.1 = zTp w (zX kd ln vl n) (zY kd ln vl n) (zH kd vl n))) (fun (u : Int32 × Int32 × Int32 × Int32) => some (.int u.1)) (fun (u : Int32 × Int32 × Int32 × Int32) => [(oo, .inr (5, [.ref a, .ref g, .ref t1, .ref t2, .ref s9, .ref m1, .ref m2])), (t1, .inr (4, [.int u.2.1, .int u.2.2.1, .int u.2.2.2])), (a, .inr (0, [.ref k1, .ref k2, .ref k3, .ref k4, .ref k5, .int (nI n)])), (k1, .inl (cI, 5, .inl kd)), (k2, .inl (cI, 5, .inl ln)), (k3, .inl (cI, 5, .inl lo)), (k4, .inl (cI, 5, .inl hi)), (k5, .inl (cI, 5, .inl vl))]) (fun (E : String) (_ : Unit) => (E = "java/lang/IllegalArgumentException" ∧ (¬ (0 ≤ w ∧ w ≤ 2)))) (fun (_ : Unit) => [(oo, .inr (5, [.ref a, .ref g, .ref t1, .ref t2, .ref s9, .ref m1, .ref m2])), (t1, .inr (4, [.int x1, .int y1, .int h1])), (a, .inr (0, [.ref k1, .ref k2, .ref k3, .ref k4, .ref k5, .int (nI n)])), (k1, .inl (cI, 5, .inl kd)), (k2, .inl (cI, 5, .inl ln)), (k3, .inl (cI, 5, .inl lo)), (k4, .inl (cI, 5, .inl hi)), (k5, .inl (cI, 5, .inl vl))]) := by
  refine zMt_i (cc := cX5_tip) (maxL := 2) (r := fun (u : Int32 × Int32 × Int32 × Int32) => u.1) hfl (by decide) rfl rfl (Nat.le_of_ble_eq_true rfl) ?_
  intro p e s m args below meth c ls A0 Q C hl hP hS hO hT hRet
  obtain ⟨⟨hx, hb, hml, hown, hts⟩, hG, hK, hD, hlocks⟩ := C
  have hin5 : ∀ w ∈ u_ws RX5 TX5 7, w ∈ wsX5_tip := by decide +kernel
  have hf26 := hts (.fieldLink RX5 26 "ArmRoom" "now" "LArmRoom$Tip;") (by decide +kernel)
  have hf10 := hts (.fieldLink RX5 10 "ArmRoom" "arm" "LArmRoom$Arm;") (by decide +kernel)
  have hl : lv_has ls 2 [(0, .ref oo), (1, .int w)] := hl
  refine lv_iload_n hx hb dX5_tip_0 rfl (lv_at hl 1 rfl) ?_
  refine lv_iconst (v := 2) hx hb dX5_tip_1 (by decide) ?_
  refine z_callXS (As := [.int w, .int 2]) (rest := []) ⟨hx, hb, hml, hown, hts⟩ hG hK hP hD hS (c_X5_checkTold l hfl D cI cJ w 2 ) (va_cwS 2 hts gX5_tip_X5_checkTold rfl rfl rfl (by decide +kernel) ⟨Nat.le_of_ble_eq_true rfl, Nat.le_of_ble_eq_true rfl⟩) [] (by decide) rfl (fun _ => rfl) (fun _ => rfl) rfl hl.1 rfl (Nat.le_of_ble_eq_true rfl) dX5_tip_2 ⟨Nat.le_of_ble_eq_true rfl, Nat.le_of_ble_eq_true rfl⟩ (fun E ce q9 u_1 H locs hu_2 hP hD hS hce hcv hcl => ?_) (fun u_1 H locs hu_2 hP hD hS => ?_)
  · have hxc : (E = "java/lang/IllegalArgumentException" ∧ (¬ (0 ≤ w ∧ w ≤ 2))) := hu_2
    have hP : va_P D vwCl [(oo, .inr (5, [.ref a, .ref g, .ref t1, .ref t2, .ref s9, .ref m1, .ref m2])), (t1, .inr (4, [.int x1, .int y1, .int h1])), (a, .inr (0, [.ref k1, .ref k2, .ref k3, .ref k4, .ref k5, .int (nI n)])), (k1, .inl (cI, 5, .inl kd)), (k2, .inl (cI, 5, .inl ln)), (k3, .inl (cI, 5, .inl lo)), (k4, .inl (cI, 5, .inl hi)), (k5, .inl (cI, 5, .inl vl))] H := hP
    exact hO _ _ _ _ _ _ _ _ _ _ () (hxc) hP hS hce hcv hcl (Nat.le_of_ble_eq_true rfl) (Nat.le_of_ble_eq_true rfl)
  have hu_2 : (0 ≤ w ∧ w ≤ 2) := hu_2
  have hJ := hu_2
  have hP : va_P D vwCl [(oo, .inr (5, [.ref a, .ref g, .ref t1, .ref t2, .ref s9, .ref m1, .ref m2])), (t1, .inr (4, [.int x1, .int y1, .int h1])), (a, .inr (0, [.ref k1, .ref k2, .ref k3, .ref k4, .ref k5, .int (nI n)])), (k1, .inl (cI, 5, .inl kd)), (k2, .inl (cI, 5, .inl ln)), (k3, .inl (cI, 5, .inl lo)), (k4, .inl (cI, 5, .inl hi)), (k5, .inl (cI, 5, .inl vl))] H := hP
  have hD : va_D A0 [(oo, .inr (5, [.ref a, .ref g, .ref t1, .ref t2, .ref s9, .ref m1, .ref m2])), (t1, .inr (4, [.int x1, .int y1, .int h1])), (a, .inr (0, [.ref k1, .ref k2, .ref k3, .ref k4, .ref k5, .int (nI n)])), (k1, .inl (cI, 5, .inl kd)), (k2, .inl (cI, 5, .inl ln)), (k3, .inl (cI, 5, .inl lo)), (k4, .inl (cI, 5, .inl hi)), (k5, .inl (cI, 5, .inl vl))] := hD
  refine lv_aload_n hx hb dX5_tip_5 rfl (lv_at hl 0 rfl) ?_
  refine va_get (D := D) (ci := 5) (v := .ref t1) (C := RX5) (T := TX5) (N := 7) hx hb hts hin5 hown hK hP 0 rfl rfl 2 (by decide) hf26 (fun _ h9 => h9) rfl dX5_tip_6 ?_
  refine lv_aload_n hx hb dX5_tip_9 rfl (lv_at hl 0 rfl) ?_
  refine va_get (D := D) (ci := 5) (v := .ref a) (C := RX5) (T := TX5) (N := 7) hx hb hts hin5 hown hK hP 0 rfl rfl 0 (by decide) hf10 (fun _ h9 => h9) rfl dX5_tip_10 ?_
  refine z_callVN (As := [.ref a]) (rest := []) ⟨hx, hb, hml, hown, hts⟩ hG hK hP hD hS (c_X4_follow l D cI cJ t1 x1 y1 h1 a k1 k2 k3 k4 k5 n kd ln lo hi vl (by first | assumption | omega | decide)) (⟨va_cnB 1 hts gX5_tip_X4_follow_n90 rfl rfl rfl (hG.1.1 ("ArmRoom", 90, yX4_follow, "ArmRoom") (List.mem_of_getElem? (i := 5) rfl)) (hts (.initialized RX4) (by decide +kernel)) (by decide +kernel) ⟨Nat.le_of_ble_eq_true rfl, Nat.le_of_ble_eq_true rfl⟩, hts (.instanceMethod yX4_follow) (by decide +kernel), hts (.selects RX4 yX4_follow yX4_follow) (by decide +kernel)⟩) [1, 2, 3, 4, 5, 6, 7] (by decide) rfl (fun _ => rfl) 1 rfl rfl rfl rfl hl.1 rfl (Nat.le_of_ble_eq_true rfl) dX5_tip_13 ⟨Nat.le_of_ble_eq_true rfl, Nat.le_of_ble_eq_true rfl⟩ (fun u_3 H locs hu_4 hP hD hS => ?_)
  obtain ⟨x2_5, y2_6, h2_7⟩ := u_3
  have hu_4 : (x2_5 = zX kd ln vl n) ∧ (y2_6 = zY kd ln vl n) ∧ (h2_7 = zH kd vl n) := hu_4
  obtain ⟨e_8, e_9, e_10⟩ := hu_4
  subst e_8
  subst e_9
  subst e_10
  have hP : va_P D vwCl [(oo, .inr (5, [.ref a, .ref g, .ref t1, .ref t2, .ref s9, .ref m1, .ref m2])), (t1, .inr (4, [.int (zX kd ln vl n), .int (zY kd ln vl n), .int (zH kd vl n)])), (a, .inr (0, [.ref k1, .ref k2, .ref k3, .ref k4, .ref k5, .int (nI n)])), (k1, .inl (cI, 5, .inl kd)), (k2, .inl (cI, 5, .inl ln)), (k3, .inl (cI, 5, .inl lo)), (k4, .inl (cI, 5, .inl hi)), (k5, .inl (cI, 5, .inl vl))] H := hP
  have hD : va_D A0 [(oo, .inr (5, [.ref a, .ref g, .ref t1, .ref t2, .ref s9, .ref m1, .ref m2])), (t1, .inr (4, [.int (zX kd ln vl n), .int (zY kd ln vl n), .int (zH kd vl n)])), (a, .inr (0, [.ref k1, .ref k2, .ref k3, .ref k4, .ref k5, .int (nI n)])), (k1, .inl (cI, 5, .inl kd)), (k2, .inl (cI, 5, .inl ln)), (k3, .inl (cI, 5, .inl lo)), (k4, .inl (cI, 5, .inl hi)), (k5, .inl (cI, 5, .inl vl))] := hD
  refine lv_aload_n hx hb dX5_tip_16 rfl (lv_at hl 0 rfl) ?_
  refine va_get (D := D) (ci := 5) (v := .ref t1) (C := RX5) (T := TX5) (N := 7) hx hb hts hin5 hown hK hP 0 rfl rfl 2 (by decide) hf26 (fun _ h9 => h9) rfl dX5_tip_17 ?_
  refine lv_iload_n hx hb dX5_tip_20 rfl (lv_at hl 1 rfl) ?_
  refine z_callVN (As := [.int w]) (rest := []) ⟨hx, hb, hml, hown, hts⟩ hG hK hP hD hS (c_X4_told l D cI cJ t1 (zX kd ln vl n) (zY kd ln vl n) (zH kd vl n) w ) (⟨va_cnB 1 hts gX5_tip_X4_told_n94 rfl rfl rfl (hG.1.1 ("ArmRoom", 94, yX4_told, "ArmRoom") (List.mem_of_getElem? (i := 14) rfl)) (hts (.initialized RX4) (by decide +kernel)) (by decide +kernel) ⟨Nat.le_of_ble_eq_true rfl, Nat.le_of_ble_eq_true rfl⟩, hts (.instanceMethod yX4_told) (by decide +kernel), hts (.selects RX4 yX4_told yX4_told) (by decide +kernel)⟩) [1] (by decide) rfl (fun _ => rfl) 1 rfl rfl rfl rfl hl.1 rfl (Nat.le_of_ble_eq_true rfl) dX5_tip_21 ⟨Nat.le_of_ble_eq_true rfl, Nat.le_of_ble_eq_true rfl⟩ (fun u_11 H locs hu_12 hP hD hS => ?_)
  obtain ⟨r_13, rfl⟩ : ∃ z, z = u_11 := ⟨_, rfl⟩
  have hu_12 : (r_13 = if w = 0 then (zX kd ln vl n) else if w = 1 then (zY kd ln vl n) else (zH kd vl n)) := hu_12
  have e_14 := hu_12
  subst e_14
  have hP : va_P D vwCl [(oo, .inr (5, [.ref a, .ref g, .ref t1, .ref t2, .ref s9, .ref m1, .ref m2])), (t1, .inr (4, [.int (zX kd ln vl n), .int (zY kd ln vl n), .int (zH kd vl n)])), (a, .inr (0, [.ref k1, .ref k2, .ref k3, .ref k4, .ref k5, .int (nI n)])), (k1, .inl (cI, 5, .inl kd)), (k2, .inl (cI, 5, .inl ln)), (k3, .inl (cI, 5, .inl lo)), (k4, .inl (cI, 5, .inl hi)), (k5, .inl (cI, 5, .inl vl))] H := hP
  have hD : va_D A0 [(oo, .inr (5, [.ref a, .ref g, .ref t1, .ref t2, .ref s9, .ref m1, .ref m2])), (t1, .inr (4, [.int (zX kd ln vl n), .int (zY kd ln vl n), .int (zH kd vl n)])), (a, .inr (0, [.ref k1, .ref k2, .ref k3, .ref k4, .ref k5, .int (nI n)])), (k1, .inl (cI, 5, .inl kd)), (k2, .inl (cI, 5, .inl ln)), (k3, .inl (cI, 5, .inl lo)), (k4, .inl (cI, 5, .inl hi)), (k5, .inl (cI, 5, .inl vl))] := hD
  exact hRet _ (if w = 0 then (zX kd ln vl n) else if w = 1 then (zY kd ln vl n) else (zH kd vl n), zX kd ln vl n, zY kd ln vl n, zH kd vl n) _ _ _ _ _ (Nat.le_of_ble_eq_true rfl) (Nat.le_of_ble_eq_true rfl) ⟨hJ, rfl⟩ hP hS dX5_tip_24

set_option maxHeartbeats 4000000 in
set_option maxRecDepth 100000 in
theorem c_X5_tipAnew (l : Launch) (hfl : l.stackTraces = false) (D : va_G) (cI cJ : ClassId) (oo : Nat) (s9 : Nat) (m1 : Nat) (m2 : Nat) (g : Nat) (t2 : Nat) (x2 : Int32) (y2 : Int32) (h2 : Int32) (t1 : Nat) (a : Nat) (k1 : Nat) (k2 : Nat) (k3 : Nat) (k4 : Nat) (k5 : Nat) (n : Nat) (kd : Nat → Int32) (ln : Nat → Int32) (lo : Nat → Int32) (hi : Nat → Int32) (vl : Nat → Int32) (w : Int32) (hn : n ≤ 5) : zMt l yX5_tipAnew wsX5_tipAnew 5 1 D cI cJ [.ref oo, .int w] [(oo, .inr (5, [.ref a, .ref g, .ref t1, .ref t2, .ref s9, .ref m1, .ref m2])), (t2, .inr (4, [.int x2, .int y2, .int h2])), (a, .inr (0, [.ref k1, .ref k2, .ref k3, .ref k4, .ref k5, .int (nI n)])), (k1, .inl (cI, 5, .inl kd)), (k2, .inl (cI, 5, .inl ln)), (k3, .inl (cI, 5, .inl lo)), (k4, .inl (cI, 5, .inl hi)), (k5, .inl (cI, 5, .inl vl))] (fun (u : Int32 × Int32 × Int32 × Int32) => (0 ≤ w ∧ w ≤ 2) ∧ (u.1 = zTp w (zX kd ln vl n) (zY kd ln vl n) (zH kd vl n))) (fun (u : Int32 × Int32 × Int32 × Int32) => some (.int u.1)) (fun (u : Int32 × Int32 × Int32 × Int32) => [(oo, .inr (5, [.ref a, .ref g, .ref t1, .ref t2, .ref s9, .ref m1, .ref m2])), (t2, .inr (4, [.int u.2.1, .int u.2.2.1, .int u.2.2.2])), (a, .inr (0, [.ref k1, .ref k2, .ref k3, .ref k4, .ref k5, .int (nI n)])), (k1, .inl (cI, 5, .inl kd)), (k2, .inl (cI, 5, .inl ln)), (k3, .inl (cI, 5, .inl lo)), (k4, .inl (cI, 5, .inl hi)), (k5, .inl (cI, 5, .inl vl))]) (fun (E : String) (_ : Unit) => (E = "java/lang/IllegalArgumentException" ∧ (¬ (0 ≤ w ∧ w ≤ 2)))) (fun (_ : Unit) => [(oo, .inr (5, [.ref a, .ref g, .ref t1, .ref t2, .ref s9, .ref m1, .ref m2])), (t2, .inr (4, [.int x2, .int y2, .int h2])), (a, .inr (0, [.ref k1, .ref k2, .ref k3, .ref k4, .ref k5, .int (nI n)])), (k1, .inl (cI, 5, .inl kd)), (k2, .inl (cI, 5, .inl ln)), (k3, .inl (cI, 5, .inl lo)), (k4, .inl (cI, 5, .inl hi)), (k5, .inl (cI, 5, .inl vl))]) := by
  refine zMt_i (cc := cX5_tipAnew) (maxL := 2) (r := fun (u : Int32 × Int32 × Int32 × Int32) => u.1) hfl (by decide) rfl rfl (Nat.le_of_ble_eq_true rfl) ?_
  intro p e s m args below meth c ls A0 Q C hl hP hS hO hT hRet
  obtain ⟨⟨hx, hb, hml, hown, hts⟩, hG, hK, hD, hlocks⟩ := C
  have hin5 : ∀ w ∈ u_ws RX5 TX5 7, w ∈ wsX5_tipAnew := by decide +kernel
  have hf30 := hts (.fieldLink RX5 30 "ArmRoom" "then" "LArmRoom$Tip;") (by decide +kernel)
  have hf10 := hts (.fieldLink RX5 10 "ArmRoom" "arm" "LArmRoom$Arm;") (by decide +kernel)
  have hl : lv_has ls 2 [(0, .ref oo), (1, .int w)] := hl
  refine lv_iload_n hx hb dX5_tipAnew_0 rfl (lv_at hl 1 rfl) ?_
  refine lv_iconst (v := 2) hx hb dX5_tipAnew_1 (by decide) ?_
  refine z_callXS (As := [.int w, .int 2]) (rest := []) ⟨hx, hb, hml, hown, hts⟩ hG hK hP hD hS (c_X5_checkTold l hfl D cI cJ w 2 ) (va_cwS 2 hts gX5_tipAnew_X5_checkTold rfl rfl rfl (by decide +kernel) ⟨Nat.le_of_ble_eq_true rfl, Nat.le_of_ble_eq_true rfl⟩) [] (by decide) rfl (fun _ => rfl) (fun _ => rfl) rfl hl.1 rfl (Nat.le_of_ble_eq_true rfl) dX5_tipAnew_2 ⟨Nat.le_of_ble_eq_true rfl, Nat.le_of_ble_eq_true rfl⟩ (fun E ce q9 u_1 H locs hu_2 hP hD hS hce hcv hcl => ?_) (fun u_1 H locs hu_2 hP hD hS => ?_)
  · have hxc : (E = "java/lang/IllegalArgumentException" ∧ (¬ (0 ≤ w ∧ w ≤ 2))) := hu_2
    have hP : va_P D vwCl [(oo, .inr (5, [.ref a, .ref g, .ref t1, .ref t2, .ref s9, .ref m1, .ref m2])), (t2, .inr (4, [.int x2, .int y2, .int h2])), (a, .inr (0, [.ref k1, .ref k2, .ref k3, .ref k4, .ref k5, .int (nI n)])), (k1, .inl (cI, 5, .inl kd)), (k2, .inl (cI, 5, .inl ln)), (k3, .inl (cI, 5, .inl lo)), (k4, .inl (cI, 5, .inl hi)), (k5, .inl (cI, 5, .inl vl))] H := hP
    exact hO _ _ _ _ _ _ _ _ _ _ () (hxc) hP hS hce hcv hcl (Nat.le_of_ble_eq_true rfl) (Nat.le_of_ble_eq_true rfl)
  have hu_2 : (0 ≤ w ∧ w ≤ 2) := hu_2
  have hJ := hu_2
  have hP : va_P D vwCl [(oo, .inr (5, [.ref a, .ref g, .ref t1, .ref t2, .ref s9, .ref m1, .ref m2])), (t2, .inr (4, [.int x2, .int y2, .int h2])), (a, .inr (0, [.ref k1, .ref k2, .ref k3, .ref k4, .ref k5, .int (nI n)])), (k1, .inl (cI, 5, .inl kd)), (k2, .inl (cI, 5, .inl ln)), (k3, .inl (cI, 5, .inl lo)), (k4, .inl (cI, 5, .inl hi)), (k5, .inl (cI, 5, .inl vl))] H := hP
  have hD : va_D A0 [(oo, .inr (5, [.ref a, .ref g, .ref t1, .ref t2, .ref s9, .ref m1, .ref m2])), (t2, .inr (4, [.int x2, .int y2, .int h2])), (a, .inr (0, [.ref k1, .ref k2, .ref k3, .ref k4, .ref k5, .int (nI n)])), (k1, .inl (cI, 5, .inl kd)), (k2, .inl (cI, 5, .inl ln)), (k3, .inl (cI, 5, .inl lo)), (k4, .inl (cI, 5, .inl hi)), (k5, .inl (cI, 5, .inl vl))] := hD
  refine lv_aload_n hx hb dX5_tipAnew_5 rfl (lv_at hl 0 rfl) ?_
  refine va_get (D := D) (ci := 5) (v := .ref t2) (C := RX5) (T := TX5) (N := 7) hx hb hts hin5 hown hK hP 0 rfl rfl 3 (by decide) hf30 (fun _ h9 => h9) rfl dX5_tipAnew_6 ?_
  refine lv_aload_n hx hb dX5_tipAnew_9 rfl (lv_at hl 0 rfl) ?_
  refine va_get (D := D) (ci := 5) (v := .ref a) (C := RX5) (T := TX5) (N := 7) hx hb hts hin5 hown hK hP 0 rfl rfl 0 (by decide) hf10 (fun _ h9 => h9) rfl dX5_tipAnew_10 ?_
  refine z_callVN (As := [.ref a]) (rest := []) ⟨hx, hb, hml, hown, hts⟩ hG hK hP hD hS (c_X4_followBack l D cI cJ t2 x2 y2 h2 a k1 k2 k3 k4 k5 n kd ln lo hi vl (by first | assumption | omega | decide)) (⟨va_cnB 1 hts gX5_tipAnew_X4_followBack_n98 rfl rfl rfl (hG.1.1 ("ArmRoom", 98, yX4_followBack, "ArmRoom") (List.mem_of_getElem? (i := 15) rfl)) (hts (.initialized RX4) (by decide +kernel)) (by decide +kernel) ⟨Nat.le_of_ble_eq_true rfl, Nat.le_of_ble_eq_true rfl⟩, hts (.instanceMethod yX4_followBack) (by decide +kernel), hts (.selects RX4 yX4_followBack yX4_followBack) (by decide +kernel)⟩) [1, 2, 3, 4, 5, 6, 7] (by decide) rfl (fun _ => rfl) 1 rfl rfl rfl rfl hl.1 rfl (Nat.le_of_ble_eq_true rfl) dX5_tipAnew_13 ⟨Nat.le_of_ble_eq_true rfl, Nat.le_of_ble_eq_true rfl⟩ (fun u_3 H locs hu_4 hP hD hS => ?_)
  obtain ⟨x2_5, y2_6, h2_7⟩ := u_3
  have hu_4 : (x2_5 = zX kd ln vl n) ∧ (y2_6 = zY kd ln vl n) ∧ (h2_7 = zH kd vl n) := hu_4
  obtain ⟨e_8, e_9, e_10⟩ := hu_4
  subst e_8
  subst e_9
  subst e_10
  have hP : va_P D vwCl [(oo, .inr (5, [.ref a, .ref g, .ref t1, .ref t2, .ref s9, .ref m1, .ref m2])), (t2, .inr (4, [.int (zX kd ln vl n), .int (zY kd ln vl n), .int (zH kd vl n)])), (a, .inr (0, [.ref k1, .ref k2, .ref k3, .ref k4, .ref k5, .int (nI n)])), (k1, .inl (cI, 5, .inl kd)), (k2, .inl (cI, 5, .inl ln)), (k3, .inl (cI, 5, .inl lo)), (k4, .inl (cI, 5, .inl hi)), (k5, .inl (cI, 5, .inl vl))] H := hP
  have hD : va_D A0 [(oo, .inr (5, [.ref a, .ref g, .ref t1, .ref t2, .ref s9, .ref m1, .ref m2])), (t2, .inr (4, [.int (zX kd ln vl n), .int (zY kd ln vl n), .int (zH kd vl n)])), (a, .inr (0, [.ref k1, .ref k2, .ref k3, .ref k4, .ref k5, .int (nI n)])), (k1, .inl (cI, 5, .inl kd)), (k2, .inl (cI, 5, .inl ln)), (k3, .inl (cI, 5, .inl lo)), (k4, .inl (cI, 5, .inl hi)), (k5, .inl (cI, 5, .inl vl))] := hD
  refine lv_aload_n hx hb dX5_tipAnew_16 rfl (lv_at hl 0 rfl) ?_
  refine va_get (D := D) (ci := 5) (v := .ref t2) (C := RX5) (T := TX5) (N := 7) hx hb hts hin5 hown hK hP 0 rfl rfl 3 (by decide) hf30 (fun _ h9 => h9) rfl dX5_tipAnew_17 ?_
  refine lv_iload_n hx hb dX5_tipAnew_20 rfl (lv_at hl 1 rfl) ?_
  refine z_callVN (As := [.int w]) (rest := []) ⟨hx, hb, hml, hown, hts⟩ hG hK hP hD hS (c_X4_told l D cI cJ t2 (zX kd ln vl n) (zY kd ln vl n) (zH kd vl n) w ) (⟨va_cnB 1 hts gX5_tipAnew_X4_told_n94 rfl rfl rfl (hG.1.1 ("ArmRoom", 94, yX4_told, "ArmRoom") (List.mem_of_getElem? (i := 14) rfl)) (hts (.initialized RX4) (by decide +kernel)) (by decide +kernel) ⟨Nat.le_of_ble_eq_true rfl, Nat.le_of_ble_eq_true rfl⟩, hts (.instanceMethod yX4_told) (by decide +kernel), hts (.selects RX4 yX4_told yX4_told) (by decide +kernel)⟩) [1] (by decide) rfl (fun _ => rfl) 1 rfl rfl rfl rfl hl.1 rfl (Nat.le_of_ble_eq_true rfl) dX5_tipAnew_21 ⟨Nat.le_of_ble_eq_true rfl, Nat.le_of_ble_eq_true rfl⟩ (fun u_11 H locs hu_12 hP hD hS => ?_)
  obtain ⟨r_13, rfl⟩ : ∃ z, z = u_11 := ⟨_, rfl⟩
  have hu_12 : (r_13 = if w = 0 then (zX kd ln vl n) else if w = 1 then (zY kd ln vl n) else (zH kd vl n)) := hu_12
  have e_14 := hu_12
  subst e_14
  have hP : va_P D vwCl [(oo, .inr (5, [.ref a, .ref g, .ref t1, .ref t2, .ref s9, .ref m1, .ref m2])), (t2, .inr (4, [.int (zX kd ln vl n), .int (zY kd ln vl n), .int (zH kd vl n)])), (a, .inr (0, [.ref k1, .ref k2, .ref k3, .ref k4, .ref k5, .int (nI n)])), (k1, .inl (cI, 5, .inl kd)), (k2, .inl (cI, 5, .inl ln)), (k3, .inl (cI, 5, .inl lo)), (k4, .inl (cI, 5, .inl hi)), (k5, .inl (cI, 5, .inl vl))] H := hP
  have hD : va_D A0 [(oo, .inr (5, [.ref a, .ref g, .ref t1, .ref t2, .ref s9, .ref m1, .ref m2])), (t2, .inr (4, [.int (zX kd ln vl n), .int (zY kd ln vl n), .int (zH kd vl n)])), (a, .inr (0, [.ref k1, .ref k2, .ref k3, .ref k4, .ref k5, .int (nI n)])), (k1, .inl (cI, 5, .inl kd)), (k2, .inl (cI, 5, .inl ln)), (k3, .inl (cI, 5, .inl lo)), (k4, .inl (cI, 5, .inl hi)), (k5, .inl (cI, 5, .inl vl))] := hD
  exact hRet _ (if w = 0 then (zX kd ln vl n) else if w = 1 then (zY kd ln vl n) else (zH kd vl n), zX kd ln vl n, zY kd ln vl n, zH kd vl n) _ _ _ _ _ (Nat.le_of_ble_eq_true rfl) (Nat.le_of_ble_eq_true rfl) ⟨hJ, rfl⟩ hP hS dX5_tipAnew_24

set_option maxHeartbeats 4000000 in
set_option maxRecDepth 100000 in
theorem c_X5_moves (l : Launch) (hfl : l.stackTraces = false) (D : va_G) (cI cJ : ClassId) (oo : Nat) (s9 : Nat) (m1 : Nat) (m2 : Nat) (g : Nat) (t1 : Nat) (x1 : Int32) (y1 : Int32) (h1 : Int32) (t2 : Nat) (x2 : Int32) (y2 : Int32) (h2 : Int32) (a : Nat) (k1 : Nat) (k2 : Nat) (k3 : Nat) (k4 : Nat) (k5 : Nat) (n : Nat) (kd : Nat → Int32) (ln : Nat → Int32) (lo : Nat → Int32) (hi : Nat → Int32) (vl : Nat → Int32) (j : Int32) (w : Int32) (hn : n ≤ 5) : zMt l yX5_moves wsX5_moves 5 2 D cI cJ [.ref oo, .int j, .int w] [(oo, .inr (5, [.ref a, .ref g, .ref t1, .ref t2, .ref s9, .ref m1, .ref m2])), (t1, .inr (4, [.int x1, .int y1, .int h1])), (t2, .inr (4, [.int x2, .int y2, .int h2])), (a, .inr (0, [.ref k1, .ref k2, .ref k3, .ref k4, .ref k5, .int (nI n)])), (k1, .inl (cI, 5, .inl kd)), (k2, .inl (cI, 5, .inl ln)), (k3, .inl (cI, 5, .inl lo)), (k4, .inl (cI, 5, .inl hi)), (k5, .inl (cI, 5, .inl vl))] (fun (u : Int32 × Int32 × Int32 × Int32 × Int32 × Int32 × Int32) => (zJ n j ∧ (0 ≤ w ∧ w ≤ 1)) ∧ (u.1 = if w = 0 then zMx kd ln vl n (j.toNatClampNeg) else zMy kd ln vl n (j.toNatClampNeg))) (fun (u : Int32 × Int32 × Int32 × Int32 × Int32 × Int32 × Int32) => some (.int u.1)) (fun (u : Int32 × Int32 × Int32 × Int32 × Int32 × Int32 × Int32) => [(oo, .inr (5, [.ref a, .ref g, .ref t1, .ref t2, .ref s9, .ref m1, .ref m2])), (t1, .inr (4, [.int u.2.1, .int u.2.2.1, .int u.2.2.2.1])), (t2, .inr (4, [.int u.2.2.2.2.1, .int u.2.2.2.2.2.1, .int u.2.2.2.2.2.2])), (a, .inr (0, [.ref k1, .ref k2, .ref k3, .ref k4, .ref k5, .int (nI n)])), (k1, .inl (cI, 5, .inl kd)), (k2, .inl (cI, 5, .inl ln)), (k3, .inl (cI, 5, .inl lo)), (k4, .inl (cI, 5, .inl hi)), (k5, .inl (cI, 5, .inl vl))]) (fun (E : String) (_ : Unit) => (E = "java/lang/IndexOutOfBoundsException" ∧ (¬ zJ n j)) ∨ (E = "java/lang/IllegalArgumentException" ∧ (zJ n j ∧ ¬ (0 ≤ w ∧ w ≤ 1)))) (fun (_ : Unit) => [(oo, .inr (5, [.ref a, .ref g, .ref t1, .ref t2, .ref s9, .ref m1, .ref m2])), (t1, .inr (4, [.int x1, .int y1, .int h1])), (t2, .inr (4, [.int x2, .int y2, .int h2])), (a, .inr (0, [.ref k1, .ref k2, .ref k3, .ref k4, .ref k5, .int (nI n)])), (k1, .inl (cI, 5, .inl kd)), (k2, .inl (cI, 5, .inl ln)), (k3, .inl (cI, 5, .inl lo)), (k4, .inl (cI, 5, .inl hi)), (k5, .inl (cI, 5, .inl vl))]) := by
  refine zMt_i (cc := cX5_moves) (maxL := 3) (r := fun (u : Int32 × Int32 × Int32 × Int32 × Int32 × Int32 × Int32) => u.1) hfl (by decide) rfl rfl (Nat.le_of_ble_eq_true rfl) ?_
  intro p e s m args below meth c ls A0 Q C hl hP hS hO hT hRet
  obtain ⟨⟨hx, hb, hml, hown, hts⟩, hG, hK, hD, hlocks⟩ := C
  have hin0 : ∀ w ∈ u_ws RX0 TX0 6, w ∈ wsX5_moves := by decide +kernel
  have hin5 : ∀ w ∈ u_ws RX5 TX5 7, w ∈ wsX5_moves := by decide +kernel
  have hf26 := hts (.fieldLink RX5 26 "ArmRoom" "now" "LArmRoom$Tip;") (by decide +kernel)
  have hf10 := hts (.fieldLink RX5 10 "ArmRoom" "arm" "LArmRoom$Arm;") (by decide +kernel)
  have hf30 := hts (.fieldLink RX5 30 "ArmRoom" "then" "LArmRoom$Tip;") (by decide +kernel)
  have hf83 := hG.1.2.1 ("ArmRoom", 83, "ArmRoom$Arm", "values", "[I", "ArmRoom") (List.mem_of_getElem? (i := 4) rfl)
  have hl : lv_has ls 3 [(0, .ref oo), (1, .int j), (2, .int w)] := hl
  refine lv_aload_n hx hb dX5_moves_0 rfl (lv_at hl 0 rfl) ?_
  refine lv_iload_n hx hb dX5_moves_1 rfl (lv_at hl 1 rfl) ?_
  refine z_callXV (As := [.int j]) (rest := []) ⟨hx, hb, hml, hown, hts⟩ hG hK hP hD hS (c_X5_checkJoint l hfl D cI cJ oo s9 m1 m2 g t1 t2 a k1 k2 k3 k4 k5 n kd ln lo hi vl j (by first | assumption | omega | decide)) (cwV 1 hts gX5_moves_X5_checkJoint rfl rfl rfl (by decide +kernel) ⟨Nat.le_of_ble_eq_true rfl, Nat.le_of_ble_eq_true rfl⟩) [0, 3, 4, 5, 6, 7, 8] (by decide) rfl (fun _ => rfl) (fun _ => rfl) 0 rfl rfl rfl rfl hl.1 rfl (Nat.le_of_ble_eq_true rfl) dX5_moves_2 ⟨Nat.le_of_ble_eq_true rfl, Nat.le_of_ble_eq_true rfl⟩ (fun E ce q9 u_1 H locs hu_2 hP hD hS hce hcv hcl => ?_) (fun u_1 H locs hu_2 hP hD hS => ?_)
  · have hxc : (E = "java/lang/IndexOutOfBoundsException" ∧ (¬ zJ n j)) := hu_2
    have hP : va_P D vwCl [(oo, .inr (5, [.ref a, .ref g, .ref t1, .ref t2, .ref s9, .ref m1, .ref m2])), (t1, .inr (4, [.int x1, .int y1, .int h1])), (t2, .inr (4, [.int x2, .int y2, .int h2])), (a, .inr (0, [.ref k1, .ref k2, .ref k3, .ref k4, .ref k5, .int (nI n)])), (k1, .inl (cI, 5, .inl kd)), (k2, .inl (cI, 5, .inl ln)), (k3, .inl (cI, 5, .inl lo)), (k4, .inl (cI, 5, .inl hi)), (k5, .inl (cI, 5, .inl vl))] H := hP
    exact hO _ _ _ _ _ _ _ _ _ _ () (Or.inl hxc) hP hS hce hcv hcl (Nat.le_of_ble_eq_true rfl) (Nat.le_of_ble_eq_true rfl)
  have hu_2 : (zJ n j) := hu_2
  have hJ := hu_2
  have hP : va_P D vwCl [(oo, .inr (5, [.ref a, .ref g, .ref t1, .ref t2, .ref s9, .ref m1, .ref m2])), (t1, .inr (4, [.int x1, .int y1, .int h1])), (t2, .inr (4, [.int x2, .int y2, .int h2])), (a, .inr (0, [.ref k1, .ref k2, .ref k3, .ref k4, .ref k5, .int (nI n)])), (k1, .inl (cI, 5, .inl kd)), (k2, .inl (cI, 5, .inl ln)), (k3, .inl (cI, 5, .inl lo)), (k4, .inl (cI, 5, .inl hi)), (k5, .inl (cI, 5, .inl vl))] H := hP
  have hD : va_D A0 [(oo, .inr (5, [.ref a, .ref g, .ref t1, .ref t2, .ref s9, .ref m1, .ref m2])), (t1, .inr (4, [.int x1, .int y1, .int h1])), (t2, .inr (4, [.int x2, .int y2, .int h2])), (a, .inr (0, [.ref k1, .ref k2, .ref k3, .ref k4, .ref k5, .int (nI n)])), (k1, .inl (cI, 5, .inl kd)), (k2, .inl (cI, 5, .inl ln)), (k3, .inl (cI, 5, .inl lo)), (k4, .inl (cI, 5, .inl hi)), (k5, .inl (cI, 5, .inl vl))] := hD
  obtain ⟨jj, hjj, hje⟩ := zJ_of hn hJ
  subst hje
  have hcl9 : (nI jj).toNatClampNeg = jj := nI_clamp (by omega)
  refine lv_iload_n hx hb dX5_moves_5 rfl (lv_at hl 2 rfl) ?_
  refine lv_iconst (v := 1) hx hb dX5_moves_6 (by decide) ?_
  refine z_callXS (As := [.int w, .int 1]) (rest := []) ⟨hx, hb, hml, hown, hts⟩ hG hK hP hD hS (c_X5_checkTold l hfl D cI cJ w 1 ) (va_cwS 2 hts gX5_moves_X5_checkTold rfl rfl rfl (by decide +kernel) ⟨Nat.le_of_ble_eq_true rfl, Nat.le_of_ble_eq_true rfl⟩) [] (by decide) rfl (fun _ => rfl) (fun _ => rfl) rfl hl.1 rfl (Nat.le_of_ble_eq_true rfl) dX5_moves_7 ⟨Nat.le_of_ble_eq_true rfl, Nat.le_of_ble_eq_true rfl⟩ (fun E ce q9 u_3 H locs hu_4 hP hD hS hce hcv hcl => ?_) (fun u_3 H locs hu_4 hP hD hS => ?_)
  · have hxc : (E = "java/lang/IllegalArgumentException" ∧ (¬ (0 ≤ w ∧ w ≤ 1))) := hu_4
    have hP : va_P D vwCl [(oo, .inr (5, [.ref a, .ref g, .ref t1, .ref t2, .ref s9, .ref m1, .ref m2])), (t1, .inr (4, [.int x1, .int y1, .int h1])), (t2, .inr (4, [.int x2, .int y2, .int h2])), (a, .inr (0, [.ref k1, .ref k2, .ref k3, .ref k4, .ref k5, .int (nI n)])), (k1, .inl (cI, 5, .inl kd)), (k2, .inl (cI, 5, .inl ln)), (k3, .inl (cI, 5, .inl lo)), (k4, .inl (cI, 5, .inl hi)), (k5, .inl (cI, 5, .inl vl))] H := hP
    exact hO _ _ _ _ _ _ _ _ _ _ () (Or.inr ⟨hxc.1, hJ, hxc.2⟩) hP hS hce hcv hcl (Nat.le_of_ble_eq_true rfl) (Nat.le_of_ble_eq_true rfl)
  have hu_4 : (0 ≤ w ∧ w ≤ 1) := hu_4
  have hW := hu_4
  have hP : va_P D vwCl [(oo, .inr (5, [.ref a, .ref g, .ref t1, .ref t2, .ref s9, .ref m1, .ref m2])), (t1, .inr (4, [.int x1, .int y1, .int h1])), (t2, .inr (4, [.int x2, .int y2, .int h2])), (a, .inr (0, [.ref k1, .ref k2, .ref k3, .ref k4, .ref k5, .int (nI n)])), (k1, .inl (cI, 5, .inl kd)), (k2, .inl (cI, 5, .inl ln)), (k3, .inl (cI, 5, .inl lo)), (k4, .inl (cI, 5, .inl hi)), (k5, .inl (cI, 5, .inl vl))] H := hP
  have hD : va_D A0 [(oo, .inr (5, [.ref a, .ref g, .ref t1, .ref t2, .ref s9, .ref m1, .ref m2])), (t1, .inr (4, [.int x1, .int y1, .int h1])), (t2, .inr (4, [.int x2, .int y2, .int h2])), (a, .inr (0, [.ref k1, .ref k2, .ref k3, .ref k4, .ref k5, .int (nI n)])), (k1, .inl (cI, 5, .inl kd)), (k2, .inl (cI, 5, .inl ln)), (k3, .inl (cI, 5, .inl lo)), (k4, .inl (cI, 5, .inl hi)), (k5, .inl (cI, 5, .inl vl))] := hD
  refine lv_aload_n hx hb dX5_moves_10 rfl (lv_at hl 0 rfl) ?_
  refine va_get (D := D) (ci := 5) (v := .ref t1) (C := RX5) (T := TX5) (N := 7) hx hb hts hin5 hown hK hP 0 rfl rfl 2 (by decide) hf26 (fun _ h9 => h9) rfl dX5_moves_11 ?_
  refine lv_aload_n hx hb dX5_moves_14 rfl (lv_at hl 0 rfl) ?_
  refine va_get (D := D) (ci := 5) (v := .ref a) (C := RX5) (T := TX5) (N := 7) hx hb hts hin5 hown hK hP 0 rfl rfl 0 (by decide) hf10 (fun _ h9 => h9) rfl dX5_moves_15 ?_
  refine z_callVN (As := [.ref a]) (rest := []) ⟨hx, hb, hml, hown, hts⟩ hG hK hP hD hS (c_X4_follow l D cI cJ t1 x1 y1 h1 a k1 k2 k3 k4 k5 n kd ln lo hi vl (by first | assumption | omega | decide)) (⟨va_cnB 1 hts gX5_moves_X4_follow_n90 rfl rfl rfl (hG.1.1 ("ArmRoom", 90, yX4_follow, "ArmRoom") (List.mem_of_getElem? (i := 5) rfl)) (hts (.initialized RX4) (by decide +kernel)) (by decide +kernel) ⟨Nat.le_of_ble_eq_true rfl, Nat.le_of_ble_eq_true rfl⟩, hts (.instanceMethod yX4_follow) (by decide +kernel), hts (.selects RX4 yX4_follow yX4_follow) (by decide +kernel)⟩) [1, 3, 4, 5, 6, 7, 8] (by decide) rfl (fun _ => rfl) 1 rfl rfl rfl rfl hl.1 rfl (Nat.le_of_ble_eq_true rfl) dX5_moves_18 ⟨Nat.le_of_ble_eq_true rfl, Nat.le_of_ble_eq_true rfl⟩ (fun u_5 H locs hu_6 hP hD hS => ?_)
  obtain ⟨x2_7, y2_8, h2_9⟩ := u_5
  have hu_6 : (x2_7 = zX kd ln vl n) ∧ (y2_8 = zY kd ln vl n) ∧ (h2_9 = zH kd vl n) := hu_6
  obtain ⟨e_10, e_11, e_12⟩ := hu_6
  subst e_10
  subst e_11
  subst e_12
  have hP : va_P D vwCl [(oo, .inr (5, [.ref a, .ref g, .ref t1, .ref t2, .ref s9, .ref m1, .ref m2])), (t1, .inr (4, [.int (zX kd ln vl n), .int (zY kd ln vl n), .int (zH kd vl n)])), (t2, .inr (4, [.int x2, .int y2, .int h2])), (a, .inr (0, [.ref k1, .ref k2, .ref k3, .ref k4, .ref k5, .int (nI n)])), (k1, .inl (cI, 5, .inl kd)), (k2, .inl (cI, 5, .inl ln)), (k3, .inl (cI, 5, .inl lo)), (k4, .inl (cI, 5, .inl hi)), (k5, .inl (cI, 5, .inl vl))] H := hP
  have hD : va_D A0 [(oo, .inr (5, [.ref a, .ref g, .ref t1, .ref t2, .ref s9, .ref m1, .ref m2])), (t1, .inr (4, [.int (zX kd ln vl n), .int (zY kd ln vl n), .int (zH kd vl n)])), (t2, .inr (4, [.int x2, .int y2, .int h2])), (a, .inr (0, [.ref k1, .ref k2, .ref k3, .ref k4, .ref k5, .int (nI n)])), (k1, .inl (cI, 5, .inl kd)), (k2, .inl (cI, 5, .inl ln)), (k3, .inl (cI, 5, .inl lo)), (k4, .inl (cI, 5, .inl hi)), (k5, .inl (cI, 5, .inl vl))] := hD
  refine lv_aload_n hx hb dX5_moves_21 rfl (lv_at hl 0 rfl) ?_
  refine va_get (D := D) (ci := 5) (v := .ref t2) (C := RX5) (T := TX5) (N := 7) hx hb hts hin5 hown hK hP 0 rfl rfl 3 (by decide) hf30 (fun _ h9 => h9) rfl dX5_moves_22 ?_
  refine lv_aload_n hx hb dX5_moves_25 rfl (lv_at hl 0 rfl) ?_
  refine va_get (D := D) (ci := 5) (v := .ref a) (C := RX5) (T := TX5) (N := 7) hx hb hts hin5 hown hK hP 0 rfl rfl 0 (by decide) hf10 (fun _ h9 => h9) rfl dX5_moves_26 ?_
  refine lv_iload_n hx hb dX5_moves_29 rfl (lv_at hl 1 rfl) ?_
  refine lv_aload_n hx hb dX5_moves_30 rfl (lv_at hl 0 rfl) ?_
  refine va_get (D := D) (ci := 5) (v := .ref a) (C := RX5) (T := TX5) (N := 7) hx hb hts hin5 hown hK hP 0 rfl rfl 0 (by decide) hf10 (fun _ h9 => h9) rfl dX5_moves_31 ?_
  refine va_getN (D := D) (ci := 0) (v := .ref k5) (C := RX0) (T := TX0) (N := 6) hx hb hts hin0 hown hK hP 3 rfl rfl 4 (by decide) (va_Nw.use rfl hf83) (fun _ h9 => h9) rfl dX5_moves_34 ?_
  refine lv_iload_n hx hb dX5_moves_37 rfl (lv_at hl 1 rfl) ?_
  refine z_iald hx hb hK hP 8 rfl (j := jj) (by omega) (by decide) dX5_moves_38 ?_
  refine lv_iconst (v := 1) hx hb dX5_moves_39 (by decide) ?_
  refine lv_iadd hx hb dX5_moves_40 ?_
  refine z_callVN (As := [.ref a, .int (nI jj), .int ((vl jj) + 1)]) (rest := []) ⟨hx, hb, hml, hown, hts⟩ hG hK hP hD hS (c_X4_followWith l D cI cJ t2 x2 y2 h2 a k1 k2 k3 k4 k5 n kd ln lo hi vl (nI jj) ((vl jj) + 1) (by first | assumption | omega | decide)) (⟨va_cnB 3 hts gX5_moves_X4_followWith_n101 rfl rfl rfl (hG.1.1 ("ArmRoom", 101, yX4_followWith, "ArmRoom") (List.mem_of_getElem? (i := 10) rfl)) (hts (.initialized RX4) (by decide +kernel)) (by decide +kernel) ⟨Nat.le_of_ble_eq_true rfl, Nat.le_of_ble_eq_true rfl⟩, hts (.instanceMethod yX4_followWith) (by decide +kernel), hts (.selects RX4 yX4_followWith yX4_followWith) (by decide +kernel)⟩) [2, 3, 4, 5, 6, 7, 8] (by decide) rfl (fun _ => rfl) 2 rfl rfl rfl rfl hl.1 rfl (Nat.le_of_ble_eq_true rfl) dX5_moves_41 ⟨Nat.le_of_ble_eq_true rfl, Nat.le_of_ble_eq_true rfl⟩ (fun u_13 H locs hu_14 hP hD hS => ?_)
  have hP : va_P D vwCl [(oo, .inr (5, [.ref a, .ref g, .ref t1, .ref t2, .ref s9, .ref m1, .ref m2])), (t1, .inr (4, [.int (zX kd ln vl n), .int (zY kd ln vl n), .int (zH kd vl n)])), (t2, .inr (4, [.int (zX kd ln (zPo vl (nI jj) ((vl jj) + 1)) n), .int (zY kd ln (zPo vl (nI jj) ((vl jj) + 1)) n), .int (zH kd (zPo vl (nI jj) ((vl jj) + 1)) n)])), (a, .inr (0, [.ref k1, .ref k2, .ref k3, .ref k4, .ref k5, .int (nI n)])), (k1, .inl (cI, 5, .inl kd)), (k2, .inl (cI, 5, .inl ln)), (k3, .inl (cI, 5, .inl lo)), (k4, .inl (cI, 5, .inl hi)), (k5, .inl (cI, 5, .inl vl))] H := hP
  have hD : va_D A0 [(oo, .inr (5, [.ref a, .ref g, .ref t1, .ref t2, .ref s9, .ref m1, .ref m2])), (t1, .inr (4, [.int (zX kd ln vl n), .int (zY kd ln vl n), .int (zH kd vl n)])), (t2, .inr (4, [.int (zX kd ln (zPo vl (nI jj) ((vl jj) + 1)) n), .int (zY kd ln (zPo vl (nI jj) ((vl jj) + 1)) n), .int (zH kd (zPo vl (nI jj) ((vl jj) + 1)) n)])), (a, .inr (0, [.ref k1, .ref k2, .ref k3, .ref k4, .ref k5, .int (nI n)])), (k1, .inl (cI, 5, .inl kd)), (k2, .inl (cI, 5, .inl ln)), (k3, .inl (cI, 5, .inl lo)), (k4, .inl (cI, 5, .inl hi)), (k5, .inl (cI, 5, .inl vl))] := hD
  refine lv_aload_n hx hb dX5_moves_44 rfl (lv_at hl 0 rfl) ?_
  refine va_get (D := D) (ci := 5) (v := .ref t2) (C := RX5) (T := TX5) (N := 7) hx hb hts hin5 hown hK hP 0 rfl rfl 3 (by decide) hf30 (fun _ h9 => h9) rfl dX5_moves_45 ?_
  refine lv_iload_n hx hb dX5_moves_48 rfl (lv_at hl 2 rfl) ?_
  refine z_callVN (As := [.int w]) (rest := []) ⟨hx, hb, hml, hown, hts⟩ hG hK hP hD hS (c_X4_told l D cI cJ t2 (zX kd ln (zPo vl (nI jj) ((vl jj) + 1)) n) (zY kd ln (zPo vl (nI jj) ((vl jj) + 1)) n) (zH kd (zPo vl (nI jj) ((vl jj) + 1)) n) w ) (⟨va_cnB 1 hts gX5_moves_X4_told_n94 rfl rfl rfl (hG.1.1 ("ArmRoom", 94, yX4_told, "ArmRoom") (List.mem_of_getElem? (i := 14) rfl)) (hts (.initialized RX4) (by decide +kernel)) (by decide +kernel) ⟨Nat.le_of_ble_eq_true rfl, Nat.le_of_ble_eq_true rfl⟩, hts (.instanceMethod yX4_told) (by decide +kernel), hts (.selects RX4 yX4_told yX4_told) (by decide +kernel)⟩) [2] (by decide) rfl (fun _ => rfl) 2 rfl rfl rfl rfl hl.1 rfl (Nat.le_of_ble_eq_true rfl) dX5_moves_49 ⟨Nat.le_of_ble_eq_true rfl, Nat.le_of_ble_eq_true rfl⟩ (fun u_15 H locs hu_16 hP hD hS => ?_)
  obtain ⟨r_17, rfl⟩ : ∃ z, z = u_15 := ⟨_, rfl⟩
  have hu_16 : (r_17 = if w = 0 then (zX kd ln (zPo vl (nI jj) ((vl jj) + 1)) n) else if w = 1 then (zY kd ln (zPo vl (nI jj) ((vl jj) + 1)) n) else (zH kd (zPo vl (nI jj) ((vl jj) + 1)) n)) := hu_16
  have e_18 := hu_16
  subst e_18
  have hP : va_P D vwCl [(oo, .inr (5, [.ref a, .ref g, .ref t1, .ref t2, .ref s9, .ref m1, .ref m2])), (t1, .inr (4, [.int (zX kd ln vl n), .int (zY kd ln vl n), .int (zH kd vl n)])), (t2, .inr (4, [.int (zX kd ln (zPo vl (nI jj) ((vl jj) + 1)) n), .int (zY kd ln (zPo vl (nI jj) ((vl jj) + 1)) n), .int (zH kd (zPo vl (nI jj) ((vl jj) + 1)) n)])), (a, .inr (0, [.ref k1, .ref k2, .ref k3, .ref k4, .ref k5, .int (nI n)])), (k1, .inl (cI, 5, .inl kd)), (k2, .inl (cI, 5, .inl ln)), (k3, .inl (cI, 5, .inl lo)), (k4, .inl (cI, 5, .inl hi)), (k5, .inl (cI, 5, .inl vl))] H := hP
  have hD : va_D A0 [(oo, .inr (5, [.ref a, .ref g, .ref t1, .ref t2, .ref s9, .ref m1, .ref m2])), (t1, .inr (4, [.int (zX kd ln vl n), .int (zY kd ln vl n), .int (zH kd vl n)])), (t2, .inr (4, [.int (zX kd ln (zPo vl (nI jj) ((vl jj) + 1)) n), .int (zY kd ln (zPo vl (nI jj) ((vl jj) + 1)) n), .int (zH kd (zPo vl (nI jj) ((vl jj) + 1)) n)])), (a, .inr (0, [.ref k1, .ref k2, .ref k3, .ref k4, .ref k5, .int (nI n)])), (k1, .inl (cI, 5, .inl kd)), (k2, .inl (cI, 5, .inl ln)), (k3, .inl (cI, 5, .inl lo)), (k4, .inl (cI, 5, .inl hi)), (k5, .inl (cI, 5, .inl vl))] := hD
  refine lv_aload_n hx hb dX5_moves_52 rfl (lv_at hl 0 rfl) ?_
  refine va_get (D := D) (ci := 5) (v := .ref t1) (C := RX5) (T := TX5) (N := 7) hx hb hts hin5 hown hK hP 0 rfl rfl 2 (by decide) hf26 (fun _ h9 => h9) rfl dX5_moves_53 ?_
  refine lv_iload_n hx hb dX5_moves_56 rfl (lv_at hl 2 rfl) ?_
  refine z_callVN (As := [.int w]) (rest := [.int (if w = 0 then (zX kd ln (zPo vl (nI jj) ((vl jj) + 1)) n) else if w = 1 then (zY kd ln (zPo vl (nI jj) ((vl jj) + 1)) n) else (zH kd (zPo vl (nI jj) ((vl jj) + 1)) n))]) ⟨hx, hb, hml, hown, hts⟩ hG hK hP hD hS (c_X4_told l D cI cJ t1 (zX kd ln vl n) (zY kd ln vl n) (zH kd vl n) w ) (⟨va_cnB 1 hts gX5_moves_X4_told_n94 rfl rfl rfl (hG.1.1 ("ArmRoom", 94, yX4_told, "ArmRoom") (List.mem_of_getElem? (i := 14) rfl)) (hts (.initialized RX4) (by decide +kernel)) (by decide +kernel) ⟨Nat.le_of_ble_eq_true rfl, Nat.le_of_ble_eq_true rfl⟩, hts (.instanceMethod yX4_told) (by decide +kernel), hts (.selects RX4 yX4_told yX4_told) (by decide +kernel)⟩) [1] (by decide) rfl (fun _ => rfl) 1 rfl rfl rfl rfl hl.1 rfl (Nat.le_of_ble_eq_true rfl) dX5_moves_57 ⟨Nat.le_of_ble_eq_true rfl, Nat.le_of_ble_eq_true rfl⟩ (fun u_19 H locs hu_20 hP hD hS => ?_)
  obtain ⟨r_21, rfl⟩ : ∃ z, z = u_19 := ⟨_, rfl⟩
  have hu_20 : (r_21 = if w = 0 then (zX kd ln vl n) else if w = 1 then (zY kd ln vl n) else (zH kd vl n)) := hu_20
  have e_22 := hu_20
  subst e_22
  have hP : va_P D vwCl [(oo, .inr (5, [.ref a, .ref g, .ref t1, .ref t2, .ref s9, .ref m1, .ref m2])), (t1, .inr (4, [.int (zX kd ln vl n), .int (zY kd ln vl n), .int (zH kd vl n)])), (t2, .inr (4, [.int (zX kd ln (zPo vl (nI jj) ((vl jj) + 1)) n), .int (zY kd ln (zPo vl (nI jj) ((vl jj) + 1)) n), .int (zH kd (zPo vl (nI jj) ((vl jj) + 1)) n)])), (a, .inr (0, [.ref k1, .ref k2, .ref k3, .ref k4, .ref k5, .int (nI n)])), (k1, .inl (cI, 5, .inl kd)), (k2, .inl (cI, 5, .inl ln)), (k3, .inl (cI, 5, .inl lo)), (k4, .inl (cI, 5, .inl hi)), (k5, .inl (cI, 5, .inl vl))] H := hP
  have hD : va_D A0 [(oo, .inr (5, [.ref a, .ref g, .ref t1, .ref t2, .ref s9, .ref m1, .ref m2])), (t1, .inr (4, [.int (zX kd ln vl n), .int (zY kd ln vl n), .int (zH kd vl n)])), (t2, .inr (4, [.int (zX kd ln (zPo vl (nI jj) ((vl jj) + 1)) n), .int (zY kd ln (zPo vl (nI jj) ((vl jj) + 1)) n), .int (zH kd (zPo vl (nI jj) ((vl jj) + 1)) n)])), (a, .inr (0, [.ref k1, .ref k2, .ref k3, .ref k4, .ref k5, .int (nI n)])), (k1, .inl (cI, 5, .inl kd)), (k2, .inl (cI, 5, .inl ln)), (k3, .inl (cI, 5, .inl lo)), (k4, .inl (cI, 5, .inl hi)), (k5, .inl (cI, 5, .inl vl))] := hD
  refine lv_isub hx hb dX5_moves_60 ?_
  exact hRet _ ((if w = 0 then (zX kd ln (zPo vl (nI jj) ((vl jj) + 1)) n) else if w = 1 then (zY kd ln (zPo vl (nI jj) ((vl jj) + 1)) n) else (zH kd (zPo vl (nI jj) ((vl jj) + 1)) n)) - (if w = 0 then (zX kd ln vl n) else if w = 1 then (zY kd ln vl n) else (zH kd vl n)), zX kd ln vl n, zY kd ln vl n, zH kd vl n, zX kd ln (zPo vl (nI jj) ((vl jj) + 1)) n, zY kd ln (zPo vl (nI jj) ((vl jj) + 1)) n, zH kd (zPo vl (nI jj) ((vl jj) + 1)) n) _ _ _ _ _ (Nat.le_of_ble_eq_true rfl) (Nat.le_of_ble_eq_true rfl) ⟨⟨hJ, hW⟩, by rw [hcl9]; exact zMv_eq hW⟩ hP hS dX5_moves_61


set_option maxHeartbeats 4000000 in
set_option maxRecDepth 100000 in
theorem c_X5_goal (l : Launch) (hfl : l.stackTraces = false) (D : va_G) (cI cJ : ClassId) (oo : Nat) (s9 : Nat) (m1 : Nat) (m2 : Nat) (g : Nat) (gx : Int32) (gy : Int32) (sl : Int32) (t1 : Nat) (x1 : Int32) (y1 : Int32) (h1 : Int32) (t2 : Nat) (a : Nat) (k1 : Nat) (k2 : Nat) (k3 : Nat) (k4 : Nat) (k5 : Nat) (n : Nat) (kd : Nat → Int32) (ln : Nat → Int32) (lo : Nat → Int32) (hi : Nat → Int32) (vl : Nat → Int32) (p0 : Int32) (p1 : Int32) (hn : n ≤ 5) : zMt l yX5_goal wsX5_goal 6 1 D cI cJ [.ref oo, .int p0, .int p1] [(oo, .inr (5, [.ref a, .ref g, .ref t1, .ref t2, .ref s9, .ref m1, .ref m2])), (g, .inr (1, [.int gx, .int gy, .int sl])), (t1, .inr (4, [.int x1, .int y1, .int h1])), (a, .inr (0, [.ref k1, .ref k2, .ref k3, .ref k4, .ref k5, .int (nI n)])), (k1, .inl (cI, 5, .inl kd)), (k2, .inl (cI, 5, .inl ln)), (k3, .inl (cI, 5, .inl lo)), (k4, .inl (cI, 5, .inl hi)), (k5, .inl (cI, 5, .inl vl))] (fun (u : Int64 × Int32 × Int32 × Int32) => (zGl p0 p1) ∧ (u.1 = zFn kd ln vl n p0 p1)) (fun (u : Int64 × Int32 × Int32 × Int32) => some (.long u.1)) (fun (u : Int64 × Int32 × Int32 × Int32) => [(oo, .inr (5, [.ref a, .ref g, .ref t1, .ref t2, .ref s9, .ref m1, .ref m2])), (g, .inr (1, [.int p0, .int p1, .int sl])), (t1, .inr (4, [.int u.2.1, .int u.2.2.1, .int u.2.2.2])), (a, .inr (0, [.ref k1, .ref k2, .ref k3, .ref k4, .ref k5, .int (nI n)])), (k1, .inl (cI, 5, .inl kd)), (k2, .inl (cI, 5, .inl ln)), (k3, .inl (cI, 5, .inl lo)), (k4, .inl (cI, 5, .inl hi)), (k5, .inl (cI, 5, .inl vl))]) (fun (E : String) (_ : Unit) => (E = "java/lang/IllegalArgumentException" ∧ (¬ zGl p0 p1))) (fun (_ : Unit) => [(oo, .inr (5, [.ref a, .ref g, .ref t1, .ref t2, .ref s9, .ref m1, .ref m2])), (g, .inr (1, [.int gx, .int gy, .int sl])), (t1, .inr (4, [.int x1, .int y1, .int h1])), (a, .inr (0, [.ref k1, .ref k2, .ref k3, .ref k4, .ref k5, .int (nI n)])), (k1, .inl (cI, 5, .inl kd)), (k2, .inl (cI, 5, .inl ln)), (k3, .inl (cI, 5, .inl lo)), (k4, .inl (cI, 5, .inl hi)), (k5, .inl (cI, 5, .inl vl))]) := by
  refine zMt_l (cc := cX5_goal) (maxL := 3) (r := fun (u : Int64 × Int32 × Int32 × Int32) => u.1) hfl (by decide) rfl rfl (Nat.le_of_ble_eq_true rfl) ?_
  intro p e s m args below meth c ls A0 Q C hl hP hS hO hT hRet
  obtain ⟨⟨hx, hb, hml, hown, hts⟩, hG, hK, hD, hlocks⟩ := C
  have hin1 : ∀ w ∈ u_ws RX1 TX1 3, w ∈ wsX5_goal := by decide +kernel
  have hin5 : ∀ w ∈ u_ws RX5 TX5 7, w ∈ wsX5_goal := by decide +kernel
  have hat51 := vx_hat (B := zBad) (fun w h => hts w ((by decide +kernel : ∀ w ∈ (vx_atS RX5 51 "java/lang/IllegalArgumentException" zNames).filter goodWord, w ∈ wsX5_goal) w h)) zat_51 hG.1.2.2.2.2.bad
  have hcl47 := hts (.classLink RX5 47 "java/lang/IllegalArgumentException") (by decide +kernel)
  have hci47 := hts (.initialized "java/lang/IllegalArgumentException") (by decide +kernel)
  have hf19 := hts (.fieldLink RX5 19 "ArmRoom" "goal" "LArmRoom$Goal;") (by decide +kernel)
  have hf126 := hG.1.2.1 ("ArmRoom", 126, "ArmRoom$Goal", "x", "I", "ArmRoom") (List.mem_of_getElem? (i := 10) rfl)
  have hf129 := hG.1.2.1 ("ArmRoom", 129, "ArmRoom$Goal", "y", "I", "ArmRoom") (List.mem_of_getElem? (i := 11) rfl)
  have hl : lv_has ls 3 [(0, .ref oo), (1, .int p0), (2, .int p1)] := hl
  refine lv_iload_n hx hb dX5_goal_0 rfl (lv_at hl 1 rfl) ?_
  refine lv_ldc (own := RX5) (v := (-1000000)) hx hb hown (hts (.constant RX5 122 (-1000000)) (by decide +kernel)) dX5_goal_1 ?_
  refine lv_icmp_lt (tgt := 24) hx hb dX5_goal_3 (by decide) (fun c_3 => ?_) (fun c_3 => ?_)
  · exact hT 24 47 124 51 "java/lang/IllegalArgumentException" "too far out" _ _ _ _ _ _ () (by decide +kernel) hcl47 hci47 (hG.1.2.2.1 ("ArmRoom", 124, "too far out") (List.mem_of_getElem? (i := 7) rfl)) hat51 zgood_51 hl.1 dX5_goal_24 dX5_goal_27 dX5_goal_28 dX5_goal_30 dX5_goal_33 (Nat.le_of_ble_eq_true rfl) (Nat.le_of_ble_eq_true rfl) (Nat.le_of_ble_eq_true rfl) ⟨rfl, fun h => absurd c_3 (Int32.not_lt.mpr h.1)⟩ hP hS
  · refine lv_iload_n hx hb dX5_goal_6 rfl (lv_at hl 1 rfl) ?_
    refine lv_ldc (own := RX5) (v := 1000000) hx hb hown (hts (.constant RX5 123 (1000000)) (by decide +kernel)) dX5_goal_7 ?_
    refine lv_icmp_gt (tgt := 24) hx hb dX5_goal_9 (by decide) (fun c_9 => ?_) (fun c_9 => ?_)
    · exact hT 24 47 124 51 "java/lang/IllegalArgumentException" "too far out" _ _ _ _ _ _ () (by decide +kernel) hcl47 hci47 (hG.1.2.2.1 ("ArmRoom", 124, "too far out") (List.mem_of_getElem? (i := 7) rfl)) hat51 zgood_51 hl.1 dX5_goal_24 dX5_goal_27 dX5_goal_28 dX5_goal_30 dX5_goal_33 (Nat.le_of_ble_eq_true rfl) (Nat.le_of_ble_eq_true rfl) (Nat.le_of_ble_eq_true rfl) ⟨rfl, fun h => absurd c_9 (Int32.not_lt.mpr h.2.1)⟩ hP hS
    · refine lv_iload_n hx hb dX5_goal_12 rfl (lv_at hl 2 rfl) ?_
      refine lv_ldc (own := RX5) (v := (-1000000)) hx hb hown (hts (.constant RX5 122 (-1000000)) (by decide +kernel)) dX5_goal_13 ?_
      refine lv_icmp_lt (tgt := 24) hx hb dX5_goal_15 (by decide) (fun c_15 => ?_) (fun c_15 => ?_)
      · exact hT 24 47 124 51 "java/lang/IllegalArgumentException" "too far out" _ _ _ _ _ _ () (by decide +kernel) hcl47 hci47 (hG.1.2.2.1 ("ArmRoom", 124, "too far out") (List.mem_of_getElem? (i := 7) rfl)) hat51 zgood_51 hl.1 dX5_goal_24 dX5_goal_27 dX5_goal_28 dX5_goal_30 dX5_goal_33 (Nat.le_of_ble_eq_true rfl) (Nat.le_of_ble_eq_true rfl) (Nat.le_of_ble_eq_true rfl) ⟨rfl, fun h => absurd c_15 (Int32.not_lt.mpr h.2.2.1)⟩ hP hS
      · refine lv_iload_n hx hb dX5_goal_18 rfl (lv_at hl 2 rfl) ?_
        refine lv_ldc (own := RX5) (v := 1000000) hx hb hown (hts (.constant RX5 123 (1000000)) (by decide +kernel)) dX5_goal_19 ?_
        refine lv_icmp_le (tgt := 34) hx hb dX5_goal_21 (by decide) (fun c_21 => ?_) (fun c_21 => ?_)
        · refine lv_aload_n hx hb dX5_goal_34 rfl (lv_at hl 0 rfl) ?_
          refine va_get (D := D) (ci := 5) (v := .ref g) (C := RX5) (T := TX5) (N := 7) hx hb hts hin5 hown hK hP 0 rfl rfl 1 (by decide) hf19 (fun _ h9 => h9) rfl dX5_goal_35 ?_
          refine lv_iload_n hx hb dX5_goal_38 rfl (lv_at hl 1 rfl) ?_
          refine va_putN (D := D) (ci := 1) (v := .int p0) (ty := .int) (C := RX1) (T := TX1) (N := 3) hx hb hts hin1 tyX1 tyX1_ok nmX1 hown hK hP hD hS 1 rfl rfl 0 (by decide) (va_Nw.use rfl hf126) (fun _ h9 => h9) rfl (by decide +kernel) rfl rfl (Nat.le_of_ble_eq_true rfl) dX5_goal_39 (fun H locs hP hD hS => ?_)
          have hP : va_P D vwCl [(oo, .inr (5, [.ref a, .ref g, .ref t1, .ref t2, .ref s9, .ref m1, .ref m2])), (g, .inr (1, [.int p0, .int gy, .int sl])), (t1, .inr (4, [.int x1, .int y1, .int h1])), (a, .inr (0, [.ref k1, .ref k2, .ref k3, .ref k4, .ref k5, .int (nI n)])), (k1, .inl (cI, 5, .inl kd)), (k2, .inl (cI, 5, .inl ln)), (k3, .inl (cI, 5, .inl lo)), (k4, .inl (cI, 5, .inl hi)), (k5, .inl (cI, 5, .inl vl))] H := hP
          have hD : va_D A0 [(oo, .inr (5, [.ref a, .ref g, .ref t1, .ref t2, .ref s9, .ref m1, .ref m2])), (g, .inr (1, [.int p0, .int gy, .int sl])), (t1, .inr (4, [.int x1, .int y1, .int h1])), (a, .inr (0, [.ref k1, .ref k2, .ref k3, .ref k4, .ref k5, .int (nI n)])), (k1, .inl (cI, 5, .inl kd)), (k2, .inl (cI, 5, .inl ln)), (k3, .inl (cI, 5, .inl lo)), (k4, .inl (cI, 5, .inl hi)), (k5, .inl (cI, 5, .inl vl))] := hD
          refine lv_aload_n hx hb dX5_goal_42 rfl (lv_at hl 0 rfl) ?_
          refine va_get (D := D) (ci := 5) (v := .ref g) (C := RX5) (T := TX5) (N := 7) hx hb hts hin5 hown hK hP 0 rfl rfl 1 (by decide) hf19 (fun _ h9 => h9) rfl dX5_goal_43 ?_
          refine lv_iload_n hx hb dX5_goal_46 rfl (lv_at hl 2 rfl) ?_
          refine va_putN (D := D) (ci := 1) (v := .int p1) (ty := .int) (C := RX1) (T := TX1) (N := 3) hx hb hts hin1 tyX1 tyX1_ok nmX1 hown hK hP hD hS 1 rfl rfl 1 (by decide) (va_Nw.use rfl hf129) (fun _ h9 => h9) rfl (by decide +kernel) rfl rfl (Nat.le_of_ble_eq_true rfl) dX5_goal_47 (fun H locs hP hD hS => ?_)
          have hP : va_P D vwCl [(oo, .inr (5, [.ref a, .ref g, .ref t1, .ref t2, .ref s9, .ref m1, .ref m2])), (g, .inr (1, [.int p0, .int p1, .int sl])), (t1, .inr (4, [.int x1, .int y1, .int h1])), (a, .inr (0, [.ref k1, .ref k2, .ref k3, .ref k4, .ref k5, .int (nI n)])), (k1, .inl (cI, 5, .inl kd)), (k2, .inl (cI, 5, .inl ln)), (k3, .inl (cI, 5, .inl lo)), (k4, .inl (cI, 5, .inl hi)), (k5, .inl (cI, 5, .inl vl))] H := hP
          have hD : va_D A0 [(oo, .inr (5, [.ref a, .ref g, .ref t1, .ref t2, .ref s9, .ref m1, .ref m2])), (g, .inr (1, [.int p0, .int p1, .int sl])), (t1, .inr (4, [.int x1, .int y1, .int h1])), (a, .inr (0, [.ref k1, .ref k2, .ref k3, .ref k4, .ref k5, .int (nI n)])), (k1, .inl (cI, 5, .inl kd)), (k2, .inl (cI, 5, .inl ln)), (k3, .inl (cI, 5, .inl lo)), (k4, .inl (cI, 5, .inl hi)), (k5, .inl (cI, 5, .inl vl))] := hD
          refine lv_aload_n hx hb dX5_goal_50 rfl (lv_at hl 0 rfl) ?_
          refine z_callV (As := []) (rest := []) ⟨hx, hb, hml, hown, hts⟩ hG hK hP hD hS (c_X5_farNow l D cI cJ oo s9 m1 m2 g p0 p1 sl t1 x1 y1 h1 t2 a k1 k2 k3 k4 k5 n kd ln lo hi vl (by first | assumption | omega | decide)) (cwV 0 hts gX5_goal_X5_farNow rfl rfl rfl (by decide +kernel) ⟨Nat.le_of_ble_eq_true rfl, Nat.le_of_ble_eq_true rfl⟩) [0, 1, 2, 3, 4, 5, 6, 7, 8] (by decide) rfl (fun _ => rfl) 0 rfl rfl rfl rfl hl.1 rfl (Nat.le_of_ble_eq_true rfl) dX5_goal_51 ⟨Nat.le_of_ble_eq_true rfl, Nat.le_of_ble_eq_true rfl⟩ (fun u_1 H locs hu_2 hP hD hS => ?_)
          obtain ⟨r_3, x3_4, y3_5, h3_6⟩ := u_1
          have hu_2 : (r_3 = zFn kd ln vl n p0 p1) := hu_2
          have e_7 := hu_2
          subst e_7
          have hP : va_P D vwCl [(oo, .inr (5, [.ref a, .ref g, .ref t1, .ref t2, .ref s9, .ref m1, .ref m2])), (g, .inr (1, [.int p0, .int p1, .int sl])), (t1, .inr (4, [.int x3_4, .int y3_5, .int h3_6])), (a, .inr (0, [.ref k1, .ref k2, .ref k3, .ref k4, .ref k5, .int (nI n)])), (k1, .inl (cI, 5, .inl kd)), (k2, .inl (cI, 5, .inl ln)), (k3, .inl (cI, 5, .inl lo)), (k4, .inl (cI, 5, .inl hi)), (k5, .inl (cI, 5, .inl vl))] H := hP
          have hD : va_D A0 [(oo, .inr (5, [.ref a, .ref g, .ref t1, .ref t2, .ref s9, .ref m1, .ref m2])), (g, .inr (1, [.int p0, .int p1, .int sl])), (t1, .inr (4, [.int x3_4, .int y3_5, .int h3_6])), (a, .inr (0, [.ref k1, .ref k2, .ref k3, .ref k4, .ref k5, .int (nI n)])), (k1, .inl (cI, 5, .inl kd)), (k2, .inl (cI, 5, .inl ln)), (k3, .inl (cI, 5, .inl lo)), (k4, .inl (cI, 5, .inl hi)), (k5, .inl (cI, 5, .inl vl))] := hD
          exact hRet _ (zFn kd ln vl n p0 p1, x3_4, y3_5, h3_6) _ _ _ _ _ (Nat.le_of_ble_eq_true rfl) (Nat.le_of_ble_eq_true rfl) ⟨⟨Int32.not_lt.mp c_3, Int32.not_lt.mp c_9, Int32.not_lt.mp c_15, c_21⟩, rfl⟩ hP hS dX5_goal_54
        · exact hT 24 47 124 51 "java/lang/IllegalArgumentException" "too far out" _ _ _ _ _ _ () (by decide +kernel) hcl47 hci47 (hG.1.2.2.1 ("ArmRoom", 124, "too far out") (List.mem_of_getElem? (i := 7) rfl)) hat51 zgood_51 hl.1 dX5_goal_24 dX5_goal_27 dX5_goal_28 dX5_goal_30 dX5_goal_33 (Nat.le_of_ble_eq_true rfl) (Nat.le_of_ble_eq_true rfl) (Nat.le_of_ble_eq_true rfl) ⟨rfl, fun h => c_21 h.2.2.2⟩ hP hS

set_option maxHeartbeats 4000000 in
set_option maxRecDepth 100000 in
theorem c_X5_slack (l : Launch) (hfl : l.stackTraces = false) (D : va_G) (cI cJ : ClassId) (oo : Nat) (s9 : Nat) (m1 : Nat) (m2 : Nat) (g : Nat) (gx : Int32) (gy : Int32) (sl : Int32) (t1 : Nat) (t2 : Nat) (a : Nat) (p0 : Int32)  : zMt l yX5_slack wsX5_slack 2 1 D cI cJ [.ref oo, .int p0] [(oo, .inr (5, [.ref a, .ref g, .ref t1, .ref t2, .ref s9, .ref m1, .ref m2])), (g, .inr (1, [.int gx, .int gy, .int sl]))] (fun (u : Int32) => (0 ≤ p0 ∧ p0 ≤ 100000) ∧ (u = sl)) (fun (u : Int32) => some (.int u)) (fun (u : Int32) => [(oo, .inr (5, [.ref a, .ref g, .ref t1, .ref t2, .ref s9, .ref m1, .ref m2])), (g, .inr (1, [.int gx, .int gy, .int p0]))]) (fun (E : String) (_ : Unit) => (E = "java/lang/IllegalArgumentException" ∧ (¬ (0 ≤ p0 ∧ p0 ≤ 100000)))) (fun (_ : Unit) => [(oo, .inr (5, [.ref a, .ref g, .ref t1, .ref t2, .ref s9, .ref m1, .ref m2])), (g, .inr (1, [.int gx, .int gy, .int sl]))]) := by
  refine zMt_i (cc := cX5_slack) (maxL := 3) (r := fun (u : Int32) => u) hfl (by decide) rfl rfl (Nat.le_of_ble_eq_true rfl) ?_
  intro p e s m args below meth c ls A0 Q C hl hP hS hO hT hRet
  obtain ⟨⟨hx, hb, hml, hown, hts⟩, hG, hK, hD, hlocks⟩ := C
  have hin1 : ∀ w ∈ u_ws RX1 TX1 3, w ∈ wsX5_slack := by decide +kernel
  have hin5 : ∀ w ∈ u_ws RX5 TX5 7, w ∈ wsX5_slack := by decide +kernel
  have hat51 := vx_hat (B := zBad) (fun w h => hts w ((by decide +kernel : ∀ w ∈ (vx_atS RX5 51 "java/lang/IllegalArgumentException" zNames).filter goodWord, w ∈ wsX5_slack) w h)) zat_51 hG.1.2.2.2.2.bad
  have hcl47 := hts (.classLink RX5 47 "java/lang/IllegalArgumentException") (by decide +kernel)
  have hci47 := hts (.initialized "java/lang/IllegalArgumentException") (by decide +kernel)
  have hf19 := hts (.fieldLink RX5 19 "ArmRoom" "goal" "LArmRoom$Goal;") (by decide +kernel)
  have hf149 := hG.1.2.1 ("ArmRoom", 149, "ArmRoom$Goal", "slack", "I", "ArmRoom") (List.mem_of_getElem? (i := 13) rfl)
  have hl : lv_has ls 3 [(0, .ref oo), (1, .int p0)] := hl
  refine lv_iload_n hx hb dX5_slack_0 rfl (lv_at hl 1 rfl) ?_
  refine lv_if_lt (tgt := 10) hx hb dX5_slack_1 (by decide) (fun c_1 => ?_) (fun c_1 => ?_)
  · exact hT 10 47 147 51 "java/lang/IllegalArgumentException" "slack" _ _ _ _ _ _ () (by decide +kernel) hcl47 hci47 (hG.1.2.2.1 ("ArmRoom", 147, "slack") (List.mem_of_getElem? (i := 9) rfl)) hat51 zgood_51 hl.1 dX5_slack_10 dX5_slack_13 dX5_slack_14 dX5_slack_16 dX5_slack_19 (Nat.le_of_ble_eq_true rfl) (Nat.le_of_ble_eq_true rfl) (Nat.le_of_ble_eq_true rfl) ⟨rfl, fun h => absurd c_1 (Int32.not_lt.mpr h.1)⟩ hP hS
  · refine lv_iload_n hx hb dX5_slack_4 rfl (lv_at hl 1 rfl) ?_
    refine lv_ldc (own := RX5) (v := 100000) hx hb hown (hts (.constant RX5 146 (100000)) (by decide +kernel)) dX5_slack_5 ?_
    refine lv_icmp_le (tgt := 20) hx hb dX5_slack_7 (by decide) (fun c_7 => ?_) (fun c_7 => ?_)
    · refine lv_aload_n hx hb dX5_slack_20 rfl (lv_at hl 0 rfl) ?_
      refine va_get (D := D) (ci := 5) (v := .ref g) (C := RX5) (T := TX5) (N := 7) hx hb hts hin5 hown hK hP 0 rfl rfl 1 (by decide) hf19 (fun _ h9 => h9) rfl dX5_slack_21 ?_
      refine va_getN (D := D) (ci := 1) (v := .int sl) (C := RX1) (T := TX1) (N := 3) hx hb hts hin1 hown hK hP 1 rfl rfl 2 (by decide) (va_Nw.use rfl hf149) (fun _ h9 => h9) rfl dX5_slack_24 ?_
      refine lv_istore_n (lv' := [(2, .int sl), (0, .ref oo), (1, .int p0)]) hx hb dX5_slack_27 rfl hl (by decide) rfl (fun ls hl => ?_)
      refine lv_aload_n hx hb dX5_slack_28 rfl (lv_at hl 1 rfl) ?_
      refine va_get (D := D) (ci := 5) (v := .ref g) (C := RX5) (T := TX5) (N := 7) hx hb hts hin5 hown hK hP 0 rfl rfl 1 (by decide) hf19 (fun _ h9 => h9) rfl dX5_slack_29 ?_
      refine lv_iload_n hx hb dX5_slack_32 rfl (lv_at hl 2 rfl) ?_
      refine va_putN (D := D) (ci := 1) (v := .int p0) (ty := .int) (C := RX1) (T := TX1) (N := 3) hx hb hts hin1 tyX1 tyX1_ok nmX1 hown hK hP hD hS 1 rfl rfl 2 (by decide) (va_Nw.use rfl hf149) (fun _ h9 => h9) rfl (by decide +kernel) rfl rfl (Nat.le_of_ble_eq_true rfl) dX5_slack_33 (fun H locs hP hD hS => ?_)
      have hP : va_P D vwCl [(oo, .inr (5, [.ref a, .ref g, .ref t1, .ref t2, .ref s9, .ref m1, .ref m2])), (g, .inr (1, [.int gx, .int gy, .int p0]))] H := hP
      have hD : va_D A0 [(oo, .inr (5, [.ref a, .ref g, .ref t1, .ref t2, .ref s9, .ref m1, .ref m2])), (g, .inr (1, [.int gx, .int gy, .int p0]))] := hD
      refine lv_iload_n hx hb dX5_slack_36 rfl (lv_at hl 0 rfl) ?_
      exact hRet _ (sl) _ _ _ _ _ (Nat.le_of_ble_eq_true rfl) (Nat.le_of_ble_eq_true rfl) ⟨⟨Int32.not_lt.mp c_1, c_7⟩, rfl⟩ hP hS dX5_slack_37
    · exact hT 10 47 147 51 "java/lang/IllegalArgumentException" "slack" _ _ _ _ _ _ () (by decide +kernel) hcl47 hci47 (hG.1.2.2.1 ("ArmRoom", 147, "slack") (List.mem_of_getElem? (i := 9) rfl)) hat51 zgood_51 hl.1 dX5_slack_10 dX5_slack_13 dX5_slack_14 dX5_slack_16 dX5_slack_19 (Nat.le_of_ble_eq_true rfl) (Nat.le_of_ble_eq_true rfl) (Nat.le_of_ble_eq_true rfl) ⟨rfl, fun h => c_7 h.2⟩ hP hS
