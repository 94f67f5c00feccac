set_option maxHeartbeats 4000000 in
set_option maxRecDepth 100000 in
theorem c_X6_value (l : Launch) (D : va_G) (cI cJ : ClassId) (ob : Nat) (b1 : Nat) (b2 : Nat) (b3 : Nat) (b4 : Nat) (b5 : Nat) (bp : Nat) (bu : Nat) (bv : Nat) (bk : Nat) (bw : Nat) (n : Nat) (th : Int32) (gx : Int32) (gy : Int32) (sl : Int32) (x : Int32) (y : Int32) (h : Int32) (fd : Int32) (kd : Nat → Int32) (ln : Nat → Int32) (lo : Nat → Int32) (hi : Nat → Int32) (vl : Nat → Int32) (ps : Nat → Int32) (f1 : Nat → Int32) (f2 : Nat → Int32) (ky : Nat → Int64) (wh : Nat → Int32) (j : Int32) (hn : n ≤ 5) : zM l yX6_value wsX6_value 2 D cI cJ [.ref ob, .int j] [(ob, .inr (6, [.int th, .int (nI n), .ref b1, .ref b2, .ref b3, .ref b4, .ref b5, .int gx, .int gy, .int sl, .ref bp, .int x, .int y, .int h, .ref bu, .ref bv, .int fd, .ref bk, .ref bw])), (b1, .inl (cI, 5, .inl kd)), (b2, .inl (cI, 5, .inl ln)), (b3, .inl (cI, 5, .inl lo)), (b4, .inl (cI, 5, .inl hi)), (b5, .inl (cI, 5, .inl vl)), (bp, .inl (cI, 5, .inl ps)), (bu, .inl (cI, 5, .inl f1)), (bv, .inl (cI, 5, .inl f2)), (bk, .inl (cJ, 10, .inr (.inl ky))), (bw, .inl (cI, 10, .inl wh))] (fun (u : Int32 × Int32) => (zJ n j → u.2 = 0 ∧ u.1 = vl j.toNatClampNeg) ∧ (¬ zJ n j → u.2 = 1)) (fun (u : Int32 × Int32) => some (.int u.1)) (fun (u : Int32 × Int32) => [(ob, .inr (6, [.int u.2, .int (nI n), .ref b1, .ref b2, .ref b3, .ref b4, .ref b5, .int gx, .int gy, .int sl, .ref bp, .int x, .int y, .int h, .ref bu, .ref bv, .int fd, .ref bk, .ref bw])), (b1, .inl (cI, 5, .inl kd)), (b2, .inl (cI, 5, .inl ln)), (b3, .inl (cI, 5, .inl lo)), (b4, .inl (cI, 5, .inl hi)), (b5, .inl (cI, 5, .inl vl)), (bp, .inl (cI, 5, .inl ps)), (bu, .inl (cI, 5, .inl f1)), (bv, .inl (cI, 5, .inl f2)), (bk, .inl (cJ, 10, .inr (.inl ky))), (bw, .inl (cI, 10, .inl wh))]) := by
  refine zM_i (cc := cX6_value) (maxL := 2) (r := fun (u : Int32 × Int32) => u.1) (by decide) rfl (Nat.le_of_ble_eq_true rfl) ?_
  intro p e s m args below meth c ls A0 Q C hl hP hS hRet
  obtain ⟨⟨hx, hb, hml, hown, hts⟩, hG, hK, hD, hlocks⟩ := C
  have hin6 : ∀ w ∈ u_ws RX6 TX6 19, w ∈ wsX6_value := by decide +kernel
  have hf45 := hts (.fieldLink RX6 45 "ArmRoomModel" "thrown" "I") (by decide +kernel)
  have hf22 := hts (.fieldLink RX6 22 "ArmRoomModel" "value" "[I") (by decide +kernel)
  have hl : lv_has ls 2 [(0, .ref ob), (1, .int j)] := hl
  refine lv_aload_n hx hb dX6_value_0 rfl (lv_at hl 0 rfl) ?_
  refine lv_aload_n hx hb dX6_value_1 rfl (lv_at hl 0 rfl) ?_
  refine lv_iload_n hx hb dX6_value_2 rfl (lv_at hl 1 rfl) ?_
  refine z_callV (As := [.int j]) (rest := [.ref ob]) ⟨hx, hb, hml, hown, hts⟩ hG hK hP hD hS (c_X6_isJoint l D cI cJ ob b1 b2 b3 b4 b5 bp bu bv bk bw n th gx gy sl x y h fd kd ln lo hi vl ps f1 f2 ky wh j (by first | assumption | omega | decide)) (cwV 1 hts gX6_value_X6_isJoint rfl rfl rfl (by decide +kernel) ⟨Nat.le_of_ble_eq_true rfl, Nat.le_of_ble_eq_true rfl⟩) [0, 1, 2, 3, 4, 5, 6, 7, 8, 9, 10] (by decide) rfl (fun _ => rfl) 0 rfl rfl rfl rfl hl.1 rfl (Nat.le_of_ble_eq_true rfl) dX6_value_3 ⟨Nat.le_of_ble_eq_true rfl, Nat.le_of_ble_eq_true rfl⟩ (fun u_1 H locs hu_2 hP hD hS => ?_)
  obtain ⟨r_3, rfl⟩ : ∃ z, z = u_1 := ⟨_, rfl⟩
  have hu_2 : (r_3 = if zJ n j then 1 else 0) := hu_2
  have e_4 := hu_2
  subst e_4
  have hP : va_P D vwCl [(ob, .inr (6, [.int th, .int (nI n), .ref b1, .ref b2, .ref b3, .ref b4, .ref b5, .int gx, .int gy, .int sl, .ref bp, .int x, .int y, .int h, .ref bu, .ref bv, .int fd, .ref bk, .ref bw])), (b1, .inl (cI, 5, .inl kd)), (b2, .inl (cI, 5, .inl ln)), (b3, .inl (cI, 5, .inl lo)), (b4, .inl (cI, 5, .inl hi)), (b5, .inl (cI, 5, .inl vl)), (bp, .inl (cI, 5, .inl ps)), (bu, .inl (cI, 5, .inl f1)), (bv, .inl (cI, 5, .inl f2)), (bk, .inl (cJ, 10, .inr (.inl ky))), (bw, .inl (cI, 10, .inl wh))] H := hP
  have hD : va_D A0 [(ob, .inr (6, [.int th, .int (nI n), .ref b1, .ref b2, .ref b3, .ref b4, .ref b5, .int gx, .int gy, .int sl, .ref bp, .int x, .int y, .int h, .ref bu, .ref bv, .int fd, .ref bk, .ref bw])), (b1, .inl (cI, 5, .inl kd)), (b2, .inl (cI, 5, .inl ln)), (b3, .inl (cI, 5, .inl lo)), (b4, .inl (cI, 5, .inl hi)), (b5, .inl (cI, 5, .inl vl)), (bp, .inl (cI, 5, .inl ps)), (bu, .inl (cI, 5, .inl f1)), (bv, .inl (cI, 5, .inl f2)), (bk, .inl (cJ, 10, .inr (.inl ky))), (bw, .inl (cI, 10, .inl wh))] := hD
  refine lv_if_eq (tgt := 13) hx hb dX6_value_6 (by decide) (fun c_6 => ?_) (fun c_6 => ?_)
  · refine lv_iconst (v := 1) hx hb dX6_value_13 (by decide) ?_
    refine va_put (D := D) (ci := 6) (v := .int 1) (ty := .int) (C := RX6) (T := TX6) (N := 19) hx hb hts hin6 tyX6 tyX6_ok nmX6 hown hK hP hD hS 0 rfl rfl 0 (by decide) hf45 (fun _ h9 => h9) rfl (by decide +kernel) rfl rfl (Nat.le_of_ble_eq_true rfl) dX6_value_14 (fun H locs hP hD hS => ?_)
    have hP : va_P D vwCl [(ob, .inr (6, [.int 1, .int (nI n), .ref b1, .ref b2, .ref b3, .ref b4, .ref b5, .int gx, .int gy, .int sl, .ref bp, .int x, .int y, .int h, .ref bu, .ref bv, .int fd, .ref bk, .ref bw])), (b1, .inl (cI, 5, .inl kd)), (b2, .inl (cI, 5, .inl ln)), (b3, .inl (cI, 5, .inl lo)), (b4, .inl (cI, 5, .inl hi)), (b5, .inl (cI, 5, .inl vl)), (bp, .inl (cI, 5, .inl ps)), (bu, .inl (cI, 5, .inl f1)), (bv, .inl (cI, 5, .inl f2)), (bk, .inl (cJ, 10, .inr (.inl ky))), (bw, .inl (cI, 10, .inl wh))] H := hP
    have hD : va_D A0 [(ob, .inr (6, [.int 1, .int (nI n), .ref b1, .ref b2, .ref b3, .ref b4, .ref b5, .int gx, .int gy, .int sl, .ref bp, .int x, .int y, .int h, .ref bu, .ref bv, .int fd, .ref bk, .ref bw])), (b1, .inl (cI, 5, .inl kd)), (b2, .inl (cI, 5, .inl ln)), (b3, .inl (cI, 5, .inl lo)), (b4, .inl (cI, 5, .inl hi)), (b5, .inl (cI, 5, .inl vl)), (bp, .inl (cI, 5, .inl ps)), (bu, .inl (cI, 5, .inl f1)), (bv, .inl (cI, 5, .inl f2)), (bk, .inl (cJ, 10, .inr (.inl ky))), (bw, .inl (cI, 10, .inl wh))] := hD
    refine lv_aload_n hx hb dX6_value_17 rfl (lv_at hl 0 rfl) ?_
    refine va_get (D := D) (ci := 6) (v := .int 1) (C := RX6) (T := TX6) (N := 19) hx hb hts hin6 hown hK hP 0 rfl rfl 0 (by decide) hf45 (fun _ h9 => h9) rfl dX6_value_18 ?_
    refine lv_if_le (tgt := 28) hx hb dX6_value_21 (by decide) (fun c_21 => ?_) (fun c_21 => ?_)
    · exact absurd c_21 (by decide)
    · refine lv_iconst (v := 0) hx hb dX6_value_24 (by decide) ?_
      refine lv_goto (tgt := 34) hx hb dX6_value_25 (by decide) ?_
      exact hRet _ (0, 1) _ _ _ ⟨fun h => absurd h (zif_0 c_6), fun _ => rfl⟩ hP hS dX6_value_34
  · have hJ := zif_1 c_6
    obtain ⟨jj, hjj, hje⟩ := zJ_of hn hJ
    subst hje
    have hcl9 : (nI jj).toNatClampNeg = jj := nI_clamp (by omega)
    refine lv_iconst (v := 0) hx hb dX6_value_9 (by decide) ?_
    refine lv_goto (tgt := 14) hx hb dX6_value_10 (by decide) ?_
    refine va_put (D := D) (ci := 6) (v := .int 0) (ty := .int) (C := RX6) (T := TX6) (N := 19) hx hb hts hin6 tyX6 tyX6_ok nmX6 hown hK hP hD hS 0 rfl rfl 0 (by decide) hf45 (fun _ h9 => h9) rfl (by decide +kernel) rfl rfl (Nat.le_of_ble_eq_true rfl) dX6_value_14 (fun H locs hP hD hS => ?_)
    have hP : va_P D vwCl [(ob, .inr (6, [.int 0, .int (nI n), .ref b1, .ref b2, .ref b3, .ref b4, .ref b5, .int gx, .int gy, .int sl, .ref bp, .int x, .int y, .int h, .ref bu, .ref bv, .int fd, .ref bk, .ref bw])), (b1, .inl (cI, 5, .inl kd)), (b2, .inl (cI, 5, .inl ln)), (b3, .inl (cI, 5, .inl lo)), (b4, .inl (cI, 5, .inl hi)), (b5, .inl (cI, 5, .inl vl)), (bp, .inl (cI, 5, .inl ps)), (bu, .inl (cI, 5, .inl f1)), (bv, .inl (cI, 5, .inl f2)), (bk, .inl (cJ, 10, .inr (.inl ky))), (bw, .inl (cI, 10, .inl wh))] H := hP
    have hD : va_D A0 [(ob, .inr (6, [.int 0, .int (nI n), .ref b1, .ref b2, .ref b3, .ref b4, .ref b5, .int gx, .int gy, .int sl, .ref bp, .int x, .int y, .int h, .ref bu, .ref bv, .int fd, .ref bk, .ref bw])), (b1, .inl (cI, 5, .inl kd)), (b2, .inl (cI, 5, .inl ln)), (b3, .inl (cI, 5, .inl lo)), (b4, .inl (cI, 5, .inl hi)), (b5, .inl (cI, 5, .inl vl)), (bp, .inl (cI, 5, .inl ps)), (bu, .inl (cI, 5, .inl f1)), (bv, .inl (cI, 5, .inl f2)), (bk, .inl (cJ, 10, .inr (.inl ky))), (bw, .inl (cI, 10, .inl wh))] := hD
    refine lv_aload_n hx hb dX6_value_17 rfl (lv_at hl 0 rfl) ?_
    refine va_get (D := D) (ci := 6) (v := .int 0) (C := RX6) (T := TX6) (N := 19) hx hb hts hin6 hown hK hP 0 rfl rfl 0 (by decide) hf45 (fun _ h9 => h9) rfl dX6_value_18 ?_
    refine lv_if_le (tgt := 28) hx hb dX6_value_21 (by decide) (fun c_21 => ?_) (fun c_21 => ?_)
    · refine lv_aload_n hx hb dX6_value_28 rfl (lv_at hl 0 rfl) ?_
      refine va_get (D := D) (ci := 6) (v := .ref b5) (C := RX6) (T := TX6) (N := 19) hx hb hts hin6 hown hK hP 0 rfl rfl 6 (by decide) hf22 (fun _ h9 => h9) rfl dX6_value_29 ?_
      refine lv_iload_n hx hb dX6_value_32 rfl (lv_at hl 1 rfl) ?_
      refine z_iald hx hb hK hP 5 rfl (j := jj) (by omega) (by decide) dX6_value_33 ?_
      exact hRet _ (vl jj, 0) _ _ _ ⟨fun _ => ⟨rfl, by rw [hcl9]⟩, fun h => absurd hJ h⟩ hP hS dX6_value_34
    · exact absurd (by decide) c_21

set_option maxHeartbeats 4000000 in
set_option maxRecDepth 100000 in
theorem c_X6_set (l : Launch) (D : va_G) (cI cJ : ClassId) (ob : Nat) (b1 : Nat) (b2 : Nat) (b3 : Nat) (b4 : Nat) (b5 : Nat) (bp : Nat) (bu : Nat) (bv : Nat) (bk : Nat) (bw : Nat) (n : Nat) (th : Int32) (gx : Int32) (gy : Int32) (sl : Int32) (x : Int32) (y : Int32) (h : Int32) (fd : Int32) (kd : Nat → Int32) (ln : Nat → Int32) (lo : Nat → Int32) (hi : Nat → Int32) (vl : Nat → Int32) (ps : Nat → Int32) (f1 : Nat → Int32) (f2 : Nat → Int32) (ky : Nat → Int64) (wh : Nat → Int32) (j : Int32) (v : Int32) (hn : n ≤ 5) : zM l yX6_set wsX6_set 2 D cI cJ [.ref ob, .int j, .int v] [(ob, .inr (6, [.int th, .int (nI n), .ref b1, .ref b2, .ref b3, .ref b4, .ref b5, .int gx, .int gy, .int sl, .ref bp, .int x, .int y, .int h, .ref bu, .ref bv, .int fd, .ref bk, .ref bw])), (b1, .inl (cI, 5, .inl kd)), (b2, .inl (cI, 5, .inl ln)), (b3, .inl (cI, 5, .inl lo)), (b4, .inl (cI, 5, .inl hi)), (b5, .inl (cI, 5, .inl vl)), (bp, .inl (cI, 5, .inl ps)), (bu, .inl (cI, 5, .inl f1)), (bv, .inl (cI, 5, .inl f2)), (bk, .inl (cJ, 10, .inr (.inl ky))), (bw, .inl (cI, 10, .inl wh))] (fun (u : Int32 × Int32 × (Nat → Int32)) => (zJ n j → (lo (j.toNatClampNeg) ≤ v ∧ v ≤ hi (j.toNatClampNeg)) → u.2.1 = 0 ∧ u.1 = vl (j.toNatClampNeg) ∧ u.2.2 = upd vl (j.toNatClampNeg) v) ∧ (zJ n j → ¬ (lo (j.toNatClampNeg) ≤ v ∧ v ≤ hi (j.toNatClampNeg)) → u.2.1 = 2 ∧ u.2.2 = vl) ∧ (¬ zJ n j → u.2.1 = 1 ∧ u.2.2 = vl)) (fun (u : Int32 × Int32 × (Nat → Int32)) => some (.int u.1)) (fun (u : Int32 × Int32 × (Nat → Int32)) => [(ob, .inr (6, [.int u.2.1, .int (nI n), .ref b1, .ref b2, .ref b3, .ref b4, .ref b5, .int gx, .int gy, .int sl, .ref bp, .int x, .int y, .int h, .ref bu, .ref bv, .int fd, .ref bk, .ref bw])), (b1, .inl (cI, 5, .inl kd)), (b2, .inl (cI, 5, .inl ln)), (b3, .inl (cI, 5, .inl lo)), (b4, .inl (cI, 5, .inl hi)), (b5, .inl (cI, 5, .inl u.2.2)), (bp, .inl (cI, 5, .inl ps)), (bu, .inl (cI, 5, .inl f1)), (bv, .inl (cI, 5, .inl f2)), (bk, .inl (cJ, 10, .inr (.inl ky))), (bw, .inl (cI, 10, .inl wh))]) := by
  refine zM_i (cc := cX6_set) (maxL := 4) (r := fun (u : Int32 × Int32 × (Nat → Int32)) => u.1) (by decide) rfl (Nat.le_of_ble_eq_true rfl) ?_
  intro p e s m args below meth c ls A0 Q C hl hP hS hRet
  obtain ⟨⟨hx, hb, hml, hown, hts⟩, hG, hK, hD, hlocks⟩ := C
  have hin6 : ∀ w ∈ u_ws RX6 TX6 19, w ∈ wsX6_set := by decide +kernel
  have hf16 := hts (.fieldLink RX6 16 "ArmRoomModel" "low" "[I") (by decide +kernel)
  have hf19 := hts (.fieldLink RX6 19 "ArmRoomModel" "high" "[I") (by decide +kernel)
  have hf45 := hts (.fieldLink RX6 45 "ArmRoomModel" "thrown" "I") (by decide +kernel)
  have hf22 := hts (.fieldLink RX6 22 "ArmRoomModel" "value" "[I") (by decide +kernel)
  have hl : lv_has ls 4 [(0, .ref ob), (1, .int j), (2, .int v)] := hl
  refine lv_aload_n hx hb dX6_set_0 rfl (lv_at hl 0 rfl) ?_
  refine lv_aload_n hx hb dX6_set_1 rfl (lv_at hl 0 rfl) ?_
  refine lv_iload_n hx hb dX6_set_2 rfl (lv_at hl 1 rfl) ?_
  refine z_callV (As := [.int j]) (rest := [.ref ob]) ⟨hx, hb, hml, hown, hts⟩ hG hK hP hD hS (c_X6_isJoint l D cI cJ ob b1 b2 b3 b4 b5 bp bu bv bk bw n th gx gy sl x y h fd kd ln lo hi vl ps f1 f2 ky wh j (by first | assumption | omega | decide)) (cwV 1 hts gX6_set_X6_isJoint rfl rfl rfl (by decide +kernel) ⟨Nat.le_of_ble_eq_true rfl, Nat.le_of_ble_eq_true rfl⟩) [0, 1, 2, 3, 4, 5, 6, 7, 8, 9, 10] (by decide) rfl (fun _ => rfl) 0 rfl rfl rfl rfl hl.1 rfl (Nat.le_of_ble_eq_true rfl) dX6_set_3 ⟨Nat.le_of_ble_eq_true rfl, Nat.le_of_ble_eq_true rfl⟩ (fun u_1 H locs hu_2 hP hD hS => ?_)
  obtain ⟨r_3, rfl⟩ : ∃ z, z = u_1 := ⟨_, rfl⟩
  have hu_2 : (r_3 = if zJ n j then 1 else 0) := hu_2
  have e_4 := hu_2
  subst e_4
  have hP : va_P D vwCl [(ob, .inr (6, [.int th, .int (nI n), .ref b1, .ref b2, .ref b3, .ref b4, .ref b5, .int gx, .int gy, .int sl, .ref bp, .int x, .int y, .int h, .ref bu, .ref bv, .int fd, .ref bk, .ref bw])), (b1, .inl (cI, 5, .inl kd)), (b2, .inl (cI, 5, .inl ln)), (b3, .inl (cI, 5, .inl lo)), (b4, .inl (cI, 5, .inl hi)), (b5, .inl (cI, 5, .inl vl)), (bp, .inl (cI, 5, .inl ps)), (bu, .inl (cI, 5, .inl f1)), (bv, .inl (cI, 5, .inl f2)), (bk, .inl (cJ, 10, .inr (.inl ky))), (bw, .inl (cI, 10, .inl wh))] H := hP
  have hD : va_D A0 [(ob, .inr (6, [.int th, .int (nI n), .ref b1, .ref b2, .ref b3, .ref b4, .ref b5, .int gx, .int gy, .int sl, .ref bp, .int x, .int y, .int h, .ref bu, .ref bv, .int fd, .ref bk, .ref bw])), (b1, .inl (cI, 5, .inl kd)), (b2, .inl (cI, 5, .inl ln)), (b3, .inl (cI, 5, .inl lo)), (b4, .inl (cI, 5, .inl hi)), (b5, .inl (cI, 5, .inl vl)), (bp, .inl (cI, 5, .inl ps)), (bu, .inl (cI, 5, .inl f1)), (bv, .inl (cI, 5, .inl f2)), (bk, .inl (cJ, 10, .inr (.inl ky))), (bw, .inl (cI, 10, .inl wh))] := hD
  refine lv_if_ne (tgt := 13) hx hb dX6_set_6 (by decide) (fun c_6 => ?_) (fun c_6 => ?_)
  · have hJ := zif_1 c_6
    obtain ⟨jj, hjj, hje⟩ := zJ_of hn hJ
    subst hje
    have hcl9 : (nI jj).toNatClampNeg = jj := nI_clamp (by omega)
    refine lv_iload_n hx hb dX6_set_13 rfl (lv_at hl 2 rfl) ?_
    refine lv_aload_n hx hb dX6_set_14 rfl (lv_at hl 0 rfl) ?_
    refine va_get (D := D) (ci := 6) (v := .ref b3) (C := RX6) (T := TX6) (N := 19) hx hb hts hin6 hown hK hP 0 rfl rfl 4 (by decide) hf16 (fun _ h9 => h9) rfl dX6_set_15 ?_
    refine lv_iload_n hx hb dX6_set_18 rfl (lv_at hl 1 rfl) ?_
    refine z_iald hx hb hK hP 3 rfl (j := jj) (by omega) (by decide) dX6_set_19 ?_
    refine lv_aload_n hx hb dX6_set_20 rfl (lv_at hl 0 rfl) ?_
    refine va_get (D := D) (ci := 6) (v := .ref b4) (C := RX6) (T := TX6) (N := 19) hx hb hts hin6 hown hK hP 0 rfl rfl 5 (by decide) hf19 (fun _ h9 => h9) rfl dX6_set_21 ?_
    refine lv_iload_n hx hb dX6_set_24 rfl (lv_at hl 1 rfl) ?_
    refine z_iald hx hb hK hP 4 rfl (j := jj) (by omega) (by decide) dX6_set_25 ?_
    refine z_callS (As := [.int v, .int (lo jj), .int (hi jj)]) (rest := [.ref ob]) ⟨hx, hb, hml, hown, hts⟩ hG hK hP hD hS (c_X6_in l D cI cJ v (lo jj) (hi jj) ) (va_cwS 3 hts gX6_set_X6_in rfl rfl rfl (by decide +kernel) ⟨Nat.le_of_ble_eq_true rfl, Nat.le_of_ble_eq_true rfl⟩) [] (by decide) rfl (fun _ => rfl) rfl hl.1 rfl (Nat.le_of_ble_eq_true rfl) dX6_set_26 ⟨Nat.le_of_ble_eq_true rfl, Nat.le_of_ble_eq_true rfl⟩ (fun u_5 H locs hu_6 hP hD hS => ?_)
    obtain ⟨r_7, rfl⟩ : ∃ z, z = u_5 := ⟨_, rfl⟩
    have hu_6 : (r_7 = if (lo jj) ≤ v ∧ v ≤ (hi jj) then 1 else 0) := hu_6
    have e_8 := hu_6
    subst e_8
    have hP : va_P D vwCl [(ob, .inr (6, [.int th, .int (nI n), .ref b1, .ref b2, .ref b3, .ref b4, .ref b5, .int gx, .int gy, .int sl, .ref bp, .int x, .int y, .int h, .ref bu, .ref bv, .int fd, .ref bk, .ref bw])), (b1, .inl (cI, 5, .inl kd)), (b2, .inl (cI, 5, .inl ln)), (b3, .inl (cI, 5, .inl lo)), (b4, .inl (cI, 5, .inl hi)), (b5, .inl (cI, 5, .inl vl)), (bp, .inl (cI, 5, .inl ps)), (bu, .inl (cI, 5, .inl f1)), (bv, .inl (cI, 5, .inl f2)), (bk, .inl (cJ, 10, .inr (.inl ky))), (bw, .inl (cI, 10, .inl wh))] H := hP
    have hD : va_D A0 [(ob, .inr (6, [.int th, .int (nI n), .ref b1, .ref b2, .ref b3, .ref b4, .ref b5, .int gx, .int gy, .int sl, .ref bp, .int x, .int y, .int h, .ref bu, .ref bv, .int fd, .ref bk, .ref bw])), (b1, .inl (cI, 5, .inl kd)), (b2, .inl (cI, 5, .inl ln)), (b3, .inl (cI, 5, .inl lo)), (b4, .inl (cI, 5, .inl hi)), (b5, .inl (cI, 5, .inl vl)), (bp, .inl (cI, 5, .inl ps)), (bu, .inl (cI, 5, .inl f1)), (bv, .inl (cI, 5, .inl f2)), (bk, .inl (cJ, 10, .inr (.inl ky))), (bw, .inl (cI, 10, .inl wh))] := hD
    refine lv_if_eq (tgt := 36) hx hb dX6_set_29 (by decide) (fun c_29 => ?_) (fun c_29 => ?_)
    · have hI := zif_0 c_29
      refine lv_iconst (v := 2) hx hb dX6_set_36 (by decide) ?_
      refine va_put (D := D) (ci := 6) (v := .int 2) (ty := .int) (C := RX6) (T := TX6) (N := 19) hx hb hts hin6 tyX6 tyX6_ok nmX6 hown hK hP hD hS 0 rfl rfl 0 (by decide) hf45 (fun _ h9 => h9) rfl (by decide +kernel) rfl rfl (Nat.le_of_ble_eq_true rfl) dX6_set_37 (fun H locs hP hD hS => ?_)
      have hP : va_P D vwCl [(ob, .inr (6, [.int 2, .int (nI n), .ref b1, .ref b2, .ref b3, .ref b4, .ref b5, .int gx, .int gy, .int sl, .ref bp, .int x, .int y, .int h, .ref bu, .ref bv, .int fd, .ref bk, .ref bw])), (b1, .inl (cI, 5, .inl kd)), (b2, .inl (cI, 5, .inl ln)), (b3, .inl (cI, 5, .inl lo)), (b4, .inl (cI, 5, .inl hi)), (b5, .inl (cI, 5, .inl vl)), (bp, .inl (cI, 5, .inl ps)), (bu, .inl (cI, 5, .inl f1)), (bv, .inl (cI, 5, .inl f2)), (bk, .inl (cJ, 10, .inr (.inl ky))), (bw, .inl (cI, 10, .inl wh))] H := hP
      have hD : va_D A0 [(ob, .inr (6, [.int 2, .int (nI n), .ref b1, .ref b2, .ref b3, .ref b4, .ref b5, .int gx, .int gy, .int sl, .ref bp, .int x, .int y, .int h, .ref bu, .ref bv, .int fd, .ref bk, .ref bw])), (b1, .inl (cI, 5, .inl kd)), (b2, .inl (cI, 5, .inl ln)), (b3, .inl (cI, 5, .inl lo)), (b4, .inl (cI, 5, .inl hi)), (b5, .inl (cI, 5, .inl vl)), (bp, .inl (cI, 5, .inl ps)), (bu, .inl (cI, 5, .inl f1)), (bv, .inl (cI, 5, .inl f2)), (bk, .inl (cJ, 10, .inr (.inl ky))), (bw, .inl (cI, 10, .inl wh))] := hD
      refine lv_aload_n hx hb dX6_set_40 rfl (lv_at hl 0 rfl) ?_
      refine va_get (D := D) (ci := 6) (v := .int 2) (C := RX6) (T := TX6) (N := 19) hx hb hts hin6 hown hK hP 0 rfl rfl 0 (by decide) hf45 (fun _ h9 => h9) rfl dX6_set_41 ?_
      refine lv_if_le (tgt := 49) hx hb dX6_set_44 (by decide) (fun c_44 => ?_) (fun c_44 => ?_)
      · exact absurd c_44 (by decide)
      · refine lv_iconst (v := 0) hx hb dX6_set_47 (by decide) ?_
        exact hRet _ (0, 2, vl) _ _ _ ⟨fun _ h => absurd (by rw [hcl9] at h; exact h) hI, fun _ _ => ⟨rfl, rfl⟩, fun h => absurd hJ h⟩ hP hS dX6_set_48
    · have hI := zif_1 c_29
      refine lv_iconst (v := 0) hx hb dX6_set_32 (by decide) ?_
      refine lv_goto (tgt := 37) hx hb dX6_set_33 (by decide) ?_
      refine va_put (D := D) (ci := 6) (v := .int 0) (ty := .int) (C := RX6) (T := TX6) (N := 19) hx hb hts hin6 tyX6 tyX6_ok nmX6 hown hK hP hD hS 0 rfl rfl 0 (by decide) hf45 (fun _ h9 => h9) rfl (by decide +kernel) rfl rfl (Nat.le_of_ble_eq_true rfl) dX6_set_37 (fun H locs hP hD hS => ?_)
      have hP : va_P D vwCl [(ob, .inr (6, [.int 0, .int (nI n), .ref b1, .ref b2, .ref b3, .ref b4, .ref b5, .int gx, .int gy, .int sl, .ref bp, .int x, .int y, .int h, .ref bu, .ref bv, .int fd, .ref bk, .ref bw])), (b1, .inl (cI, 5, .inl kd)), (b2, .inl (cI, 5, .inl ln)), (b3, .inl (cI, 5, .inl lo)), (b4, .inl (cI, 5, .inl hi)), (b5, .inl (cI, 5, .inl vl)), (bp, .inl (cI, 5, .inl ps)), (bu, .inl (cI, 5, .inl f1)), (bv, .inl (cI, 5, .inl f2)), (bk, .inl (cJ, 10, .inr (.inl ky))), (bw, .inl (cI, 10, .inl wh))] H := hP
      have hD : va_D A0 [(ob, .inr (6, [.int 0, .int (nI n), .ref b1, .ref b2, .ref b3, .ref b4, .ref b5, .int gx, .int gy, .int sl, .ref bp, .int x, .int y, .int h, .ref bu, .ref bv, .int fd, .ref bk, .ref bw])), (b1, .inl (cI, 5, .inl kd)), (b2, .inl (cI, 5, .inl ln)), (b3, .inl (cI, 5, .inl lo)), (b4, .inl (cI, 5, .inl hi)), (b5, .inl (cI, 5, .inl vl)), (bp, .inl (cI, 5, .inl ps)), (bu, .inl (cI, 5, .inl f1)), (bv, .inl (cI, 5, .inl f2)), (bk, .inl (cJ, 10, .inr (.inl ky))), (bw, .inl (cI, 10, .inl wh))] := hD
      refine lv_aload_n hx hb dX6_set_40 rfl (lv_at hl 0 rfl) ?_
      refine va_get (D := D) (ci := 6) (v := .int 0) (C := RX6) (T := TX6) (N := 19) hx hb hts hin6 hown hK hP 0 rfl rfl 0 (by decide) hf45 (fun _ h9 => h9) rfl dX6_set_41 ?_
      refine lv_if_le (tgt := 49) hx hb dX6_set_44 (by decide) (fun c_44 => ?_) (fun c_44 => ?_)
      · refine lv_aload_n hx hb dX6_set_49 rfl (lv_at hl 0 rfl) ?_
        refine va_get (D := D) (ci := 6) (v := .ref b5) (C := RX6) (T := TX6) (N := 19) hx hb hts hin6 hown hK hP 0 rfl rfl 6 (by decide) hf22 (fun _ h9 => h9) rfl dX6_set_50 ?_
        refine lv_iload_n hx hb dX6_set_53 rfl (lv_at hl 1 rfl) ?_
        refine z_iald hx hb hK hP 5 rfl (j := jj) (by omega) (by decide) dX6_set_54 ?_
        refine lv_istore_n (lv' := [(3, .int (vl jj)), (0, .ref ob), (1, .int (nI jj)), (2, .int v)]) hx hb dX6_set_55 rfl hl (by decide) rfl (fun ls hl => ?_)
        refine lv_aload_n hx hb dX6_set_56 rfl (lv_at hl 1 rfl) ?_
        refine va_get (D := D) (ci := 6) (v := .ref b5) (C := RX6) (T := TX6) (N := 19) hx hb hts hin6 hown hK hP 0 rfl rfl 6 (by decide) hf22 (fun _ h9 => h9) rfl dX6_set_57 ?_
        refine lv_iload_n hx hb dX6_set_60 rfl (lv_at hl 2 rfl) ?_
        refine lv_iload_n hx hb dX6_set_61 rfl (lv_at hl 3 rfl) ?_
        refine z_iast hx hb hK hP hD hS 5 rfl (j := jj) (by omega) (by decide) dX6_set_62 (fun H locs hP hD hS => ?_)
        have hP : va_P D vwCl [(ob, .inr (6, [.int 0, .int (nI n), .ref b1, .ref b2, .ref b3, .ref b4, .ref b5, .int gx, .int gy, .int sl, .ref bp, .int x, .int y, .int h, .ref bu, .ref bv, .int fd, .ref bk, .ref bw])), (b1, .inl (cI, 5, .inl kd)), (b2, .inl (cI, 5, .inl ln)), (b3, .inl (cI, 5, .inl lo)), (b4, .inl (cI, 5, .inl hi)), (b5, .inl (cI, 5, .inl (upd vl jj v))), (bp, .inl (cI, 5, .inl ps)), (bu, .inl (cI, 5, .inl f1)), (bv, .inl (cI, 5, .inl f2)), (bk, .inl (cJ, 10, .inr (.inl ky))), (bw, .inl (cI, 10, .inl wh))] H := hP
        have hD : va_D A0 [(ob, .inr (6, [.int 0, .int (nI n), .ref b1, .ref b2, .ref b3, .ref b4, .ref b5, .int gx, .int gy, .int sl, .ref bp, .int x, .int y, .int h, .ref bu, .ref bv, .int fd, .ref bk, .ref bw])), (b1, .inl (cI, 5, .inl kd)), (b2, .inl (cI, 5, .inl ln)), (b3, .inl (cI, 5, .inl lo)), (b4, .inl (cI, 5, .inl hi)), (b5, .inl (cI, 5, .inl (upd vl jj v))), (bp, .inl (cI, 5, .inl ps)), (bu, .inl (cI, 5, .inl f1)), (bv, .inl (cI, 5, .inl f2)), (bk, .inl (cJ, 10, .inr (.inl ky))), (bw, .inl (cI, 10, .inl wh))] := hD
        refine lv_iload_n hx hb dX6_set_63 rfl (lv_at hl 0 rfl) ?_
        exact hRet _ (vl jj, 0, upd vl jj v) _ _ _ ⟨fun _ _ => ⟨rfl, by rw [hcl9], by rw [hcl9]⟩, fun _ h => absurd (by rw [hcl9]; exact hI) h, fun h => absurd hJ h⟩ hP hS dX6_set_64
      · exact absurd (by decide) c_44
  · have hJ := zif_0 (Classical.not_not.mp (show ¬ ¬ _ from fun h => h c_6))
    refine lv_iconst (v := 1) hx hb dX6_set_9 (by decide) ?_
    refine lv_goto (tgt := 37) hx hb dX6_set_10 (by decide) ?_
    refine va_put (D := D) (ci := 6) (v := .int 1) (ty := .int) (C := RX6) (T := TX6) (N := 19) hx hb hts hin6 tyX6 tyX6_ok nmX6 hown hK hP hD hS 0 rfl rfl 0 (by decide) hf45 (fun _ h9 => h9) rfl (by decide +kernel) rfl rfl (Nat.le_of_ble_eq_true rfl) dX6_set_37 (fun H locs hP hD hS => ?_)
    have hP : va_P D vwCl [(ob, .inr (6, [.int 1, .int (nI n), .ref b1, .ref b2, .ref b3, .ref b4, .ref b5, .int gx, .int gy, .int sl, .ref bp, .int x, .int y, .int h, .ref bu, .ref bv, .int fd, .ref bk, .ref bw])), (b1, .inl (cI, 5, .inl kd)), (b2, .inl (cI, 5, .inl ln)), (b3, .inl (cI, 5, .inl lo)), (b4, .inl (cI, 5, .inl hi)), (b5, .inl (cI, 5, .inl vl)), (bp, .inl (cI, 5, .inl ps)), (bu, .inl (cI, 5, .inl f1)), (bv, .inl (cI, 5, .inl f2)), (bk, .inl (cJ, 10, .inr (.inl ky))), (bw, .inl (cI, 10, .inl wh))] H := hP
    have hD : va_D A0 [(ob, .inr (6, [.int 1, .int (nI n), .ref b1, .ref b2, .ref b3, .ref b4, .ref b5, .int gx, .int gy, .int sl, .ref bp, .int x, .int y, .int h, .ref bu, .ref bv, .int fd, .ref bk, .ref bw])), (b1, .inl (cI, 5, .inl kd)), (b2, .inl (cI, 5, .inl ln)), (b3, .inl (cI, 5, .inl lo)), (b4, .inl (cI, 5, .inl hi)), (b5, .inl (cI, 5, .inl vl)), (bp, .inl (cI, 5, .inl ps)), (bu, .inl (cI, 5, .inl f1)), (bv, .inl (cI, 5, .inl f2)), (bk, .inl (cJ, 10, .inr (.inl ky))), (bw, .inl (cI, 10, .inl wh))] := hD
    refine lv_aload_n hx hb dX6_set_40 rfl (lv_at hl 0 rfl) ?_
    refine va_get (D := D) (ci := 6) (v := .int 1) (C := RX6) (T := TX6) (N := 19) hx hb hts hin6 hown hK hP 0 rfl rfl 0 (by decide) hf45 (fun _ h9 => h9) rfl dX6_set_41 ?_
    refine lv_if_le (tgt := 49) hx hb dX6_set_44 (by decide) (fun c_44 => ?_) (fun c_44 => ?_)
    · exact absurd c_44 (by decide)
    · refine lv_iconst (v := 0) hx hb dX6_set_47 (by decide) ?_
      exact hRet _ (0, 1, vl) _ _ _ ⟨fun h => absurd h hJ, fun h => absurd h hJ, fun _ => ⟨rfl, rfl⟩⟩ hP hS dX6_set_48

set_option maxHeartbeats 4000000 in
set_option maxRecDepth 100000 in
theorem c_X6_tip (l : Launch) (D : va_G) (cI cJ : ClassId) (ob : Nat) (b1 : Nat) (b2 : Nat) (b3 : Nat) (b4 : Nat) (b5 : Nat) (bp : Nat) (bu : Nat) (bv : Nat) (bk : Nat) (bw : Nat) (n : Nat) (th : Int32) (gx : Int32) (gy : Int32) (sl : Int32) (x : Int32) (y : Int32) (h : Int32) (fd : Int32) (kd : Nat → Int32) (ln : Nat → Int32) (lo : Nat → Int32) (hi : Nat → Int32) (vl : Nat → Int32) (ps : Nat → Int32) (f1 : Nat → Int32) (f2 : Nat → Int32) (ky : Nat → Int64) (wh : Nat → Int32) (w : Int32) (hok : zOk n kd ln lo hi vl) : zM l yX6_tip wsX6_tip 4 D cI cJ [.ref ob, .int w] [(ob, .inr (6, [.int th, .int (nI n), .ref b1, .ref b2, .ref b3, .ref b4, .ref b5, .int gx, .int gy, .int sl, .ref bp, .int x, .int y, .int h, .ref bu, .ref bv, .int fd, .ref bk, .ref bw])), (b1, .inl (cI, 5, .inl kd)), (b2, .inl (cI, 5, .inl ln)), (b3, .inl (cI, 5, .inl lo)), (b4, .inl (cI, 5, .inl hi)), (b5, .inl (cI, 5, .inl vl)), (bp, .inl (cI, 5, .inl ps)), (bu, .inl (cI, 5, .inl f1)), (bv, .inl (cI, 5, .inl f2)), (bk, .inl (cJ, 10, .inr (.inl ky))), (bw, .inl (cI, 10, .inl wh))] (fun (u : Int32 × Int32 × (Nat → Int32) × Int32 × Int32 × Int32) => ((0 ≤ w ∧ w ≤ 2) → u.2.1 = 0 ∧ u.1 = zTp w (zX kd ln vl n) (zY kd ln vl n) (zH kd vl n)) ∧ (¬ (0 ≤ w ∧ w ≤ 2) → u.2.1 = 1)) (fun (u : Int32 × Int32 × (Nat → Int32) × Int32 × Int32 × Int32) => some (.int u.1)) (fun (u : Int32 × Int32 × (Nat → Int32) × Int32 × Int32 × Int32) => [(ob, .inr (6, [.int u.2.1, .int (nI n), .ref b1, .ref b2, .ref b3, .ref b4, .ref b5, .int gx, .int gy, .int sl, .ref bp, .int u.2.2.2.1, .int u.2.2.2.2.1, .int u.2.2.2.2.2, .ref bu, .ref bv, .int fd, .ref bk, .ref bw])), (b1, .inl (cI, 5, .inl kd)), (b2, .inl (cI, 5, .inl ln)), (b3, .inl (cI, 5, .inl lo)), (b4, .inl (cI, 5, .inl hi)), (b5, .inl (cI, 5, .inl vl)), (bp, .inl (cI, 5, .inl u.2.2.1)), (bu, .inl (cI, 5, .inl f1)), (bv, .inl (cI, 5, .inl f2)), (bk, .inl (cJ, 10, .inr (.inl ky))), (bw, .inl (cI, 10, .inl wh))]) := by
  refine zM_i (cc := cX6_tip) (maxL := 2) (r := fun (u : Int32 × Int32 × (Nat → Int32) × Int32 × Int32 × Int32) => u.1) (by decide) rfl (Nat.le_of_ble_eq_true rfl) ?_
  intro p e s m args below meth c ls A0 Q C hl hP hS hRet
  obtain ⟨⟨hx, hb, hml, hown, hts⟩, hG, hK, hD, hlocks⟩ := C
  have hin6 : ∀ w ∈ u_ws RX6 TX6 19, w ∈ wsX6_tip := by decide +kernel
  have hf45 := hts (.fieldLink RX6 45 "ArmRoomModel" "thrown" "I") (by decide +kernel)
  have hf65 := hts (.fieldLink RX6 65 "ArmRoomModel" "heading" "I") (by decide +kernel)
  have hf62 := hts (.fieldLink RX6 62 "ArmRoomModel" "y" "I") (by decide +kernel)
  have hf59 := hts (.fieldLink RX6 59 "ArmRoomModel" "x" "I") (by decide +kernel)
  have hl : lv_has ls 2 [(0, .ref ob), (1, .int w)] := hl
  have hn := hok.1
  refine lv_aload_n hx hb dX6_tip_0 rfl (lv_at hl 0 rfl) ?_
  refine lv_iload_n hx hb dX6_tip_1 rfl (lv_at hl 1 rfl) ?_
  refine lv_iconst (v := 0) hx hb dX6_tip_2 (by decide) ?_
  refine lv_iconst (v := 2) hx hb dX6_tip_3 (by decide) ?_
  refine z_callS (As := [.int w, .int 0, .int 2]) (rest := [.ref ob]) ⟨hx, hb, hml, hown, hts⟩ hG hK hP hD hS (c_X6_in l D cI cJ w 0 2 ) (va_cwS 3 hts gX6_tip_X6_in rfl rfl rfl (by decide +kernel) ⟨Nat.le_of_ble_eq_true rfl, Nat.le_of_ble_eq_true rfl⟩) [] (by decide) rfl (fun _ => rfl) rfl hl.1 rfl (Nat.le_of_ble_eq_true rfl) dX6_tip_4 ⟨Nat.le_of_ble_eq_true rfl, Nat.le_of_ble_eq_true rfl⟩ (fun u_1 H locs hu_2 hP hD hS => ?_)
  obtain ⟨r_3, rfl⟩ : ∃ z, z = u_1 := ⟨_, rfl⟩
  have hu_2 : (r_3 = if 0 ≤ w ∧ w ≤ 2 then 1 else 0) := hu_2
  have e_4 := hu_2
  subst e_4
  have hP : va_P D vwCl [(ob, .inr (6, [.int th, .int (nI n), .ref b1, .ref b2, .ref b3, .ref b4, .ref b5, .int gx, .int gy, .int sl, .ref bp, .int x, .int y, .int h, .ref bu, .ref bv, .int fd, .ref bk, .ref bw])), (b1, .inl (cI, 5, .inl kd)), (b2, .inl (cI, 5, .inl ln)), (b3, .inl (cI, 5, .inl lo)), (b4, .inl (cI, 5, .inl hi)), (b5, .inl (cI, 5, .inl vl)), (bp, .inl (cI, 5, .inl ps)), (bu, .inl (cI, 5, .inl f1)), (bv, .inl (cI, 5, .inl f2)), (bk, .inl (cJ, 10, .inr (.inl ky))), (bw, .inl (cI, 10, .inl wh))] H := hP
  have hD : va_D A0 [(ob, .inr (6, [.int th, .int (nI n), .ref b1, .ref b2, .ref b3, .ref b4, .ref b5, .int gx, .int gy, .int sl, .ref bp, .int x, .int y, .int h, .ref bu, .ref bv, .int fd, .ref bk, .ref bw])), (b1, .inl (cI, 5, .inl kd)), (b2, .inl (cI, 5, .inl ln)), (b3, .inl (cI, 5, .inl lo)), (b4, .inl (cI, 5, .inl hi)), (b5, .inl (cI, 5, .inl vl)), (bp, .inl (cI, 5, .inl ps)), (bu, .inl (cI, 5, .inl f1)), (bv, .inl (cI, 5, .inl f2)), (bk, .inl (cJ, 10, .inr (.inl ky))), (bw, .inl (cI, 10, .inl wh))] := hD
  refine lv_if_eq (tgt := 14) hx hb dX6_tip_7 (by decide) (fun c_7 => ?_) (fun c_7 => ?_)
  · have hI := zif_0 c_7
    refine lv_iconst (v := 1) hx hb dX6_tip_14 (by decide) ?_
    refine va_put (D := D) (ci := 6) (v := .int 1) (ty := .int) (C := RX6) (T := TX6) (N := 19) hx hb hts hin6 tyX6 tyX6_ok nmX6 hown hK hP hD hS 0 rfl rfl 0 (by decide) hf45 (fun _ h9 => h9) rfl (by decide +kernel) rfl rfl (Nat.le_of_ble_eq_true rfl) dX6_tip_15 (fun H locs hP hD hS => ?_)
    have hP : va_P D vwCl [(ob, .inr (6, [.int 1, .int (nI n), .ref b1, .ref b2, .ref b3, .ref b4, .ref b5, .int gx, .int gy, .int sl, .ref bp, .int x, .int y, .int h, .ref bu, .ref bv, .int fd, .ref bk, .ref bw])), (b1, .inl (cI, 5, .inl kd)), (b2, .inl (cI, 5, .inl ln)), (b3, .inl (cI, 5, .inl lo)), (b4, .inl (cI, 5, .inl hi)), (b5, .inl (cI, 5, .inl vl)), (bp, .inl (cI, 5, .inl ps)), (bu, .inl (cI, 5, .inl f1)), (bv, .inl (cI, 5, .inl f2)), (bk, .inl (cJ, 10, .inr (.inl ky))), (bw, .inl (cI, 10, .inl wh))] H := hP
    have hD : va_D A0 [(ob, .inr (6, [.int 1, .int (nI n), .ref b1, .ref b2, .ref b3, .ref b4, .ref b5, .int gx, .int gy, .int sl, .ref bp, .int x, .int y, .int h, .ref bu, .ref bv, .int fd, .ref bk, .ref bw])), (b1, .inl (cI, 5, .inl kd)), (b2, .inl (cI, 5, .inl ln)), (b3, .inl (cI, 5, .inl lo)), (b4, .inl (cI, 5, .inl hi)), (b5, .inl (cI, 5, .inl vl)), (bp, .inl (cI, 5, .inl ps)), (bu, .inl (cI, 5, .inl f1)), (bv, .inl (cI, 5, .inl f2)), (bk, .inl (cJ, 10, .inr (.inl ky))), (bw, .inl (cI, 10, .inl wh))] := hD
    refine lv_aload_n hx hb dX6_tip_18 rfl (lv_at hl 0 rfl) ?_
    refine va_get (D := D) (ci := 6) (v := .int 1) (C := RX6) (T := TX6) (N := 19) hx hb hts hin6 hown hK hP 0 rfl rfl 0 (by decide) hf45 (fun _ h9 => h9) rfl dX6_tip_19 ?_
    refine lv_if_le (tgt := 27) hx hb dX6_tip_22 (by decide) (fun c_22 => ?_) (fun c_22 => ?_)
    · exact absurd c_22 (by decide)
    · refine lv_iconst (v := 0) hx hb dX6_tip_25 (by decide) ?_
      exact hRet _ (0, 1, ps, x, y, h) _ _ _ ⟨fun h => absurd h hI, fun _ => rfl⟩ hP hS dX6_tip_26
  · have hI := zif_1 c_7
    refine lv_iconst (v := 0) hx hb dX6_tip_10 (by decide) ?_
    refine lv_goto (tgt := 15) hx hb dX6_tip_11 (by decide) ?_
    refine va_put (D := D) (ci := 6) (v := .int 0) (ty := .int) (C := RX6) (T := TX6) (N := 19) hx hb hts hin6 tyX6 tyX6_ok nmX6 hown hK hP hD hS 0 rfl rfl 0 (by decide) hf45 (fun _ h9 => h9) rfl (by decide +kernel) rfl rfl (Nat.le_of_ble_eq_true rfl) dX6_tip_15 (fun H locs hP hD hS => ?_)
    have hP : va_P D vwCl [(ob, .inr (6, [.int 0, .int (nI n), .ref b1, .ref b2, .ref b3, .ref b4, .ref b5, .int gx, .int gy, .int sl, .ref bp, .int x, .int y, .int h, .ref bu, .ref bv, .int fd, .ref bk, .ref bw])), (b1, .inl (cI, 5, .inl kd)), (b2, .inl (cI, 5, .inl ln)), (b3, .inl (cI, 5, .inl lo)), (b4, .inl (cI, 5, .inl hi)), (b5, .inl (cI, 5, .inl vl)), (bp, .inl (cI, 5, .inl ps)), (bu, .inl (cI, 5, .inl f1)), (bv, .inl (cI, 5, .inl f2)), (bk, .inl (cJ, 10, .inr (.inl ky))), (bw, .inl (cI, 10, .inl wh))] H := hP
    have hD : va_D A0 [(ob, .inr (6, [.int 0, .int (nI n), .ref b1, .ref b2, .ref b3, .ref b4, .ref b5, .int gx, .int gy, .int sl, .ref bp, .int x, .int y, .int h, .ref bu, .ref bv, .int fd, .ref bk, .ref bw])), (b1, .inl (cI, 5, .inl kd)), (b2, .inl (cI, 5, .inl ln)), (b3, .inl (cI, 5, .inl lo)), (b4, .inl (cI, 5, .inl hi)), (b5, .inl (cI, 5, .inl vl)), (bp, .inl (cI, 5, .inl ps)), (bu, .inl (cI, 5, .inl f1)), (bv, .inl (cI, 5, .inl f2)), (bk, .inl (cJ, 10, .inr (.inl ky))), (bw, .inl (cI, 10, .inl wh))] := hD
    refine lv_aload_n hx hb dX6_tip_18 rfl (lv_at hl 0 rfl) ?_
    refine va_get (D := D) (ci := 6) (v := .int 0) (C := RX6) (T := TX6) (N := 19) hx hb hts hin6 hown hK hP 0 rfl rfl 0 (by decide) hf45 (fun _ h9 => h9) rfl dX6_tip_19 ?_
    refine lv_if_le (tgt := 27) hx hb dX6_tip_22 (by decide) (fun c_22 => ?_) (fun c_22 => ?_)
    · refine lv_aload_n hx hb dX6_tip_27 rfl (lv_at hl 0 rfl) ?_
      refine z_callV (As := []) (rest := []) ⟨hx, hb, hml, hown, hts⟩ hG hK hP hD hS (c_X6_looksNow l D cI cJ ob b1 b2 b3 b4 b5 bp bu bv bk bw n 0 gx gy sl x y h fd kd ln lo hi vl ps f1 f2 ky wh (by first | assumption | omega | decide) (hok.p)) (cwV 0 hts gX6_tip_X6_looksNow rfl rfl rfl (by decide +kernel) ⟨Nat.le_of_ble_eq_true rfl, Nat.le_of_ble_eq_true rfl⟩) [0, 1, 2, 3, 4, 5, 6, 7, 8, 9, 10] (by decide) rfl (fun _ => rfl) 0 rfl rfl rfl rfl hl.1 rfl (Nat.le_of_ble_eq_true rfl) dX6_tip_28 ⟨Nat.le_of_ble_eq_true rfl, Nat.le_of_ble_eq_true rfl⟩ (fun u_5 H locs hu_6 hP hD hS => ?_)
      obtain ⟨ps3_7, x3_8, y3_9, h3_10⟩ := u_5
      have hu_6 : (x3_8 = zX kd ln vl n) ∧ (y3_9 = zY kd ln vl n) ∧ (h3_10 = zH kd vl n) := hu_6
      obtain ⟨e_11, e_12, e_13⟩ := hu_6
      subst e_11
      subst e_12
      subst e_13
      have hP : va_P D vwCl [(ob, .inr (6, [.int 0, .int (nI n), .ref b1, .ref b2, .ref b3, .ref b4, .ref b5, .int gx, .int gy, .int sl, .ref bp, .int (zX kd ln vl n), .int (zY kd ln vl n), .int (zH kd vl n), .ref bu, .ref bv, .int fd, .ref bk, .ref bw])), (b1, .inl (cI, 5, .inl kd)), (b2, .inl (cI, 5, .inl ln)), (b3, .inl (cI, 5, .inl lo)), (b4, .inl (cI, 5, .inl hi)), (b5, .inl (cI, 5, .inl vl)), (bp, .inl (cI, 5, .inl ps3_7)), (bu, .inl (cI, 5, .inl f1)), (bv, .inl (cI, 5, .inl f2)), (bk, .inl (cJ, 10, .inr (.inl ky))), (bw, .inl (cI, 10, .inl wh))] H := hP
      have hD : va_D A0 [(ob, .inr (6, [.int 0, .int (nI n), .ref b1, .ref b2, .ref b3, .ref b4, .ref b5, .int gx, .int gy, .int sl, .ref bp, .int (zX kd ln vl n), .int (zY kd ln vl n), .int (zH kd vl n), .ref bu, .ref bv, .int fd, .ref bk, .ref bw])), (b1, .inl (cI, 5, .inl kd)), (b2, .inl (cI, 5, .inl ln)), (b3, .inl (cI, 5, .inl lo)), (b4, .inl (cI, 5, .inl hi)), (b5, .inl (cI, 5, .inl vl)), (bp, .inl (cI, 5, .inl ps3_7)), (bu, .inl (cI, 5, .inl f1)), (bv, .inl (cI, 5, .inl f2)), (bk, .inl (cJ, 10, .inr (.inl ky))), (bw, .inl (cI, 10, .inl wh))] := hD
      refine lv_iload_n hx hb dX6_tip_31 rfl (lv_at hl 1 rfl) ?_
      refine lv_if_ne (tgt := 42) hx hb dX6_tip_32 (by decide) (fun c_32 => ?_) (fun c_32 => ?_)
      · refine lv_iload_n hx hb dX6_tip_42 rfl (lv_at hl 1 rfl) ?_
        refine lv_iconst (v := 1) hx hb dX6_tip_43 (by decide) ?_
        refine lv_icmp_ne (tgt := 54) hx hb dX6_tip_44 (by decide) (fun c_44 => ?_) (fun c_44 => ?_)
        · refine lv_aload_n hx hb dX6_tip_54 rfl (lv_at hl 0 rfl) ?_
          refine va_get (D := D) (ci := 6) (v := .int (zH kd vl n)) (C := RX6) (T := TX6) (N := 19) hx hb hts hin6 hown hK hP 0 rfl rfl 13 (by decide) hf65 (fun _ h9 => h9) rfl dX6_tip_55 ?_
          exact hRet _ (zH kd vl n, 0, ps3_7, zX kd ln vl n, zY kd ln vl n, zH kd vl n) _ _ _ ⟨fun _ => ⟨rfl, by unfold zTp; first | rw [if_pos c_32] | rw [if_neg c_32, if_pos c_44] | rw [if_neg c_32, if_neg c_44]⟩, fun h => absurd hI h⟩ hP hS dX6_tip_58
        · refine lv_aload_n hx hb dX6_tip_47 rfl (lv_at hl 0 rfl) ?_
          refine va_get (D := D) (ci := 6) (v := .int (zY kd ln vl n)) (C := RX6) (T := TX6) (N := 19) hx hb hts hin6 hown hK hP 0 rfl rfl 12 (by decide) hf62 (fun _ h9 => h9) rfl dX6_tip_48 ?_
          refine lv_goto (tgt := 58) hx hb dX6_tip_51 (by decide) ?_
          exact hRet _ (zY kd ln vl n, 0, ps3_7, zX kd ln vl n, zY kd ln vl n, zH kd vl n) _ _ _ ⟨fun _ => ⟨rfl, by unfold zTp; first | rw [if_pos c_32] | rw [if_neg c_32, if_pos c_44] | rw [if_neg c_32, if_neg c_44]⟩, fun h => absurd hI h⟩ hP hS dX6_tip_58
      · refine lv_aload_n hx hb dX6_tip_35 rfl (lv_at hl 0 rfl) ?_
        refine va_get (D := D) (ci := 6) (v := .int (zX kd ln vl n)) (C := RX6) (T := TX6) (N := 19) hx hb hts hin6 hown hK hP 0 rfl rfl 11 (by decide) hf59 (fun _ h9 => h9) rfl dX6_tip_36 ?_
        refine lv_goto (tgt := 58) hx hb dX6_tip_39 (by decide) ?_
        exact hRet _ (zX kd ln vl n, 0, ps3_7, zX kd ln vl n, zY kd ln vl n, zH kd vl n) _ _ _ ⟨fun _ => ⟨rfl, by unfold zTp; first | rw [if_pos c_32] | rw [if_neg c_32, if_pos c_44] | rw [if_neg c_32, if_neg c_44]⟩, fun h => absurd hI h⟩ hP hS dX6_tip_58
    · exact absurd (by decide) c_22

set_option maxHeartbeats 4000000 in
set_option maxRecDepth 100000 in
theorem c_X6_tipAnew (l : Launch) (D : va_G) (cI cJ : ClassId) (ob : Nat) (b1 : Nat) (b2 : Nat) (b3 : Nat) (b4 : Nat) (b5 : Nat) (bp : Nat) (bu : Nat) (bv : Nat) (bk : Nat) (bw : Nat) (n : Nat) (th : Int32) (gx : Int32) (gy : Int32) (sl : Int32) (x : Int32) (y : Int32) (h : Int32) (fd : Int32) (kd : Nat → Int32) (ln : Nat → Int32) (lo : Nat → Int32) (hi : Nat → Int32) (vl : Nat → Int32) (ps : Nat → Int32) (f1 : Nat → Int32) (f2 : Nat → Int32) (ky : Nat → Int64) (wh : Nat → Int32) (w : Int32) (hok : zOk n kd ln lo hi vl) : zM l yX6_tipAnew wsX6_tipAnew 5 D cI cJ [.ref ob, .int w] [(ob, .inr (6, [.int th, .int (nI n), .ref b1, .ref b2, .ref b3, .ref b4, .ref b5, .int gx, .int gy, .int sl, .ref bp, .int x, .int y, .int h, .ref bu, .ref bv, .int fd, .ref bk, .ref bw])), (b1, .inl (cI, 5, .inl kd)), (b2, .inl (cI, 5, .inl ln)), (b3, .inl (cI, 5, .inl lo)), (b4, .inl (cI, 5, .inl hi)), (b5, .inl (cI, 5, .inl vl)), (bp, .inl (cI, 5, .inl ps)), (bu, .inl (cI, 5, .inl f1)), (bv, .inl (cI, 5, .inl f2)), (bk, .inl (cJ, 10, .inr (.inl ky))), (bw, .inl (cI, 10, .inl wh))] (fun (u : Int32 × Int32 × (Nat → Int32) × Int32 × Int32 × Int32) => ((0 ≤ w ∧ w ≤ 2) → u.2.1 = 0 ∧ u.1 = zTp w (zX kd ln vl n) (zY kd ln vl n) (zH kd vl n)) ∧ (¬ (0 ≤ w ∧ w ≤ 2) → u.2.1 = 1)) (fun (u : Int32 × Int32 × (Nat → Int32) × Int32 × Int32 × Int32) => some (.int u.1)) (fun (u : Int32 × Int32 × (Nat → Int32) × Int32 × Int32 × Int32) => [(ob, .inr (6, [.int u.2.1, .int (nI n), .ref b1, .ref b2, .ref b3, .ref b4, .ref b5, .int gx, .int gy, .int sl, .ref bp, .int u.2.2.2.1, .int u.2.2.2.2.1, .int u.2.2.2.2.2, .ref bu, .ref bv, .int fd, .ref bk, .ref bw])), (b1, .inl (cI, 5, .inl kd)), (b2, .inl (cI, 5, .inl ln)), (b3, .inl (cI, 5, .inl lo)), (b4, .inl (cI, 5, .inl hi)), (b5, .inl (cI, 5, .inl vl)), (bp, .inl (cI, 5, .inl u.2.2.1)), (bu, .inl (cI, 5, .inl f1)), (bv, .inl (cI, 5, .inl f2)), (bk, .inl (cJ, 10, .inr (.inl ky))), (bw, .inl (cI, 10, .inl wh))]) := by
  refine zM_i (cc := cX6_tipAnew) (maxL := 2) (r := fun (u : Int32 × Int32 × (Nat → Int32) × Int32 × Int32 × Int32) => u.1) (by decide) rfl (Nat.le_of_ble_eq_true rfl) ?_
  intro p e s m args below meth c ls A0 Q C hl hP hS hRet
  obtain ⟨⟨hx, hb, hml, hown, hts⟩, hG, hK, hD, hlocks⟩ := C
  have hl : lv_has ls 2 [(0, .ref ob), (1, .int w)] := hl
  refine lv_aload_n hx hb dX6_tipAnew_0 rfl (lv_at hl 0 rfl) ?_
  refine lv_iload_n hx hb dX6_tipAnew_1 rfl (lv_at hl 1 rfl) ?_
  refine z_callV (As := [.int w]) (rest := []) ⟨hx, hb, hml, hown, hts⟩ hG hK hP hD hS (c_X6_tip l D cI cJ ob b1 b2 b3 b4 b5 bp bu bv bk bw n th gx gy sl x y h fd kd ln lo hi vl ps f1 f2 ky wh w (by first | assumption | omega | decide)) (cwV 1 hts gX6_tipAnew_X6_tip rfl rfl rfl (by decide +kernel) ⟨Nat.le_of_ble_eq_true rfl, Nat.le_of_ble_eq_true rfl⟩) [0, 1, 2, 3, 4, 5, 6, 7, 8, 9, 10] (by decide) rfl (fun _ => rfl) 0 rfl rfl rfl rfl hl.1 rfl (Nat.le_of_ble_eq_true rfl) dX6_tipAnew_2 ⟨Nat.le_of_ble_eq_true rfl, Nat.le_of_ble_eq_true rfl⟩ (fun u_1 H locs hu_2 hP hD hS => ?_)
  obtain ⟨r_3, th2_4, ps3_5, x3_6, y3_7, h3_8⟩ := u_1
  have hu_2 : ((0 ≤ w ∧ w ≤ 2) → th2_4 = 0 ∧ r_3 = zTp w (zX kd ln vl n) (zY kd ln vl n) (zH kd vl n)) ∧ (¬ (0 ≤ w ∧ w ≤ 2) → th2_4 = 1) := hu_2
  obtain ⟨ha9, hb9⟩ := hu_2
  have hP : va_P D vwCl [(ob, .inr (6, [.int th2_4, .int (nI n), .ref b1, .ref b2, .ref b3, .ref b4, .ref b5, .int gx, .int gy, .int sl, .ref bp, .int x3_6, .int y3_7, .int h3_8, .ref bu, .ref bv, .int fd, .ref bk, .ref bw])), (b1, .inl (cI, 5, .inl kd)), (b2, .inl (cI, 5, .inl ln)), (b3, .inl (cI, 5, .inl lo)), (b4, .inl (cI, 5, .inl hi)), (b5, .inl (cI, 5, .inl vl)), (bp, .inl (cI, 5, .inl ps3_5)), (bu, .inl (cI, 5, .inl f1)), (bv, .inl (cI, 5, .inl f2)), (bk, .inl (cJ, 10, .inr (.inl ky))), (bw, .inl (cI, 10, .inl wh))] H := hP
  have hD : va_D A0 [(ob, .inr (6, [.int th2_4, .int (nI n), .ref b1, .ref b2, .ref b3, .ref b4, .ref b5, .int gx, .int gy, .int sl, .ref bp, .int x3_6, .int y3_7, .int h3_8, .ref bu, .ref bv, .int fd, .ref bk, .ref bw])), (b1, .inl (cI, 5, .inl kd)), (b2, .inl (cI, 5, .inl ln)), (b3, .inl (cI, 5, .inl lo)), (b4, .inl (cI, 5, .inl hi)), (b5, .inl (cI, 5, .inl vl)), (bp, .inl (cI, 5, .inl ps3_5)), (bu, .inl (cI, 5, .inl f1)), (bv, .inl (cI, 5, .inl f2)), (bk, .inl (cJ, 10, .inr (.inl ky))), (bw, .inl (cI, 10, .inl wh))] := hD
  exact hRet _ (r_3, th2_4, ps3_5, x3_6, y3_7, h3_8) _ _ _ ⟨ha9, hb9⟩ hP hS dX6_tipAnew_5

set_option maxHeartbeats 4000000 in
set_option maxRecDepth 100000 in
theorem c_X6_findsMoves (l : Launch) (D : va_G) (cI cJ : ClassId) (ob : Nat) (b1 : Nat) (b2 : Nat) (b3 : Nat) (b4 : Nat) (b5 : Nat) (bp : Nat) (bu : Nat) (bv : Nat) (bk : Nat) (bw : Nat) (n : Nat) (th : Int32) (gx : Int32) (gy : Int32) (sl : Int32) (x : Int32) (y : Int32) (h : Int32) (fd : Int32) (kd : Nat → Int32) (ln : Nat → Int32) (lo : Nat → Int32) (hi : Nat → Int32) (vl : Nat → Int32) (ps : Nat → Int32) (f1 : Nat → Int32) (f2 : Nat → Int32) (ky : Nat → Int64) (wh : Nat → Int32) (hok : zOk n kd ln lo hi vl) : zM l yX6_findsMoves wsX6_findsMoves 4 D cI cJ [.ref ob] [(ob, .inr (6, [.int th, .int (nI n), .ref b1, .ref b2, .ref b3, .ref b4, .ref b5, .int gx, .int gy, .int sl, .ref bp, .int x, .int y, .int h, .ref bu, .ref bv, .int fd, .ref bk, .ref bw])), (b1, .inl (cI, 5, .inl kd)), (b2, .inl (cI, 5, .inl ln)), (b3, .inl (cI, 5, .inl lo)), (b4, .inl (cI, 5, .inl hi)), (b5, .inl (cI, 5, .inl vl)), (bp, .inl (cI, 5, .inl ps)), (bu, .inl (cI, 5, .inl f1)), (bv, .inl (cI, 5, .inl f2)), (bk, .inl (cJ, 10, .inr (.inl ky))), (bw, .inl (cI, 10, .inl wh))] (fun (u : (Nat → Int32) × (Nat → Int32) × (Nat → Int32) × Int32 × Int32 × Int32) => (∀ j, j < n → u.1 j = zMx kd ln vl n j) ∧ (∀ j, j < n → u.2.1 j = zMy kd ln vl n j)) (fun (u : (Nat → Int32) × (Nat → Int32) × (Nat → Int32) × Int32 × Int32 × Int32) => none) (fun (u : (Nat → Int32) × (Nat → Int32) × (Nat → Int32) × Int32 × Int32 × Int32) => [(ob, .inr (6, [.int th, .int (nI n), .ref b1, .ref b2, .ref b3, .ref b4, .ref b5, .int gx, .int gy, .int sl, .ref bp, .int u.2.2.2.1, .int u.2.2.2.2.1, .int u.2.2.2.2.2, .ref bu, .ref bv, .int fd, .ref bk, .ref bw])), (b1, .inl (cI, 5, .inl kd)), (b2, .inl (cI, 5, .inl ln)), (b3, .inl (cI, 5, .inl lo)), (b4, .inl (cI, 5, .inl hi)), (b5, .inl (cI, 5, .inl vl)), (bp, .inl (cI, 5, .inl u.2.2.1)), (bu, .inl (cI, 5, .inl u.1)), (bv, .inl (cI, 5, .inl u.2.1)), (bk, .inl (cJ, 10, .inr (.inl ky))), (bw, .inl (cI, 10, .inl wh))]) := by
  refine zM_v (cc := cX6_findsMoves) (maxL := 4) (by decide) rfl (Nat.le_of_ble_eq_true rfl) ?_
  intro p e s m args below meth c ls A0 Q C hl hP hS hRet
  obtain ⟨⟨hx, hb, hml, hown, hts⟩, hG, hK, hD, hlocks⟩ := C
  have hin6 : ∀ w ∈ u_ws RX6 TX6 19, w ∈ wsX6_findsMoves := by decide +kernel
  have hf59 := hts (.fieldLink RX6 59 "ArmRoomModel" "x" "I") (by decide +kernel)
  have hf62 := hts (.fieldLink RX6 62 "ArmRoomModel" "y" "I") (by decide +kernel)
  have hf48 := hts (.fieldLink RX6 48 "ArmRoomModel" "joints" "I") (by decide +kernel)
  have hf29 := hts (.fieldLink RX6 29 "ArmRoomModel" "pose" "[I") (by decide +kernel)
  have hf32 := hts (.fieldLink RX6 32 "ArmRoomModel" "moveX" "[I") (by decide +kernel)
  have hf35 := hts (.fieldLink RX6 35 "ArmRoomModel" "moveY" "[I") (by decide +kernel)
  have hl : lv_has ls 4 [(0, .ref ob)] := hl
  have hn := hok.1
  refine lv_aload_n hx hb dX6_findsMoves_0 rfl (lv_at hl 0 rfl) ?_
  refine z_callV (As := []) (rest := []) ⟨hx, hb, hml, hown, hts⟩ hG hK hP hD hS (c_X6_looksNow l D cI cJ ob b1 b2 b3 b4 b5 bp bu bv bk bw n th gx gy sl x y h fd kd ln lo hi vl ps f1 f2 ky wh (by first | assumption | omega | decide) (hok.p)) (cwV 0 hts gX6_findsMoves_X6_looksNow rfl rfl rfl (by decide +kernel) ⟨Nat.le_of_ble_eq_true rfl, Nat.le_of_ble_eq_true rfl⟩) [0, 1, 2, 3, 4, 5, 6, 7, 8, 9, 10] (by decide) rfl (fun _ => rfl) 0 rfl rfl rfl rfl hl.1 rfl (Nat.le_of_ble_eq_true rfl) dX6_findsMoves_1 ⟨Nat.le_of_ble_eq_true rfl, Nat.le_of_ble_eq_true rfl⟩ (fun u_1 H locs hu_2 hP hD hS => ?_)
  obtain ⟨ps3_3, x3_4, y3_5, h3_6⟩ := u_1
  have hu_2 : (x3_4 = zX kd ln vl n) ∧ (y3_5 = zY kd ln vl n) ∧ (h3_6 = zH kd vl n) := hu_2
  obtain ⟨e_7, e_8, e_9⟩ := hu_2
  subst e_7
  subst e_8
  subst e_9
  have hP : va_P D vwCl [(ob, .inr (6, [.int th, .int (nI n), .ref b1, .ref b2, .ref b3, .ref b4, .ref b5, .int gx, .int gy, .int sl, .ref bp, .int (zX kd ln vl n), .int (zY kd ln vl n), .int (zH kd vl n), .ref bu, .ref bv, .int fd, .ref bk, .ref bw])), (b1, .inl (cI, 5, .inl kd)), (b2, .inl (cI, 5, .inl ln)), (b3, .inl (cI, 5, .inl lo)), (b4, .inl (cI, 5, .inl hi)), (b5, .inl (cI, 5, .inl vl)), (bp, .inl (cI, 5, .inl ps3_3)), (bu, .inl (cI, 5, .inl f1)), (bv, .inl (cI, 5, .inl f2)), (bk, .inl (cJ, 10, .inr (.inl ky))), (bw, .inl (cI, 10, .inl wh))] H := hP
  have hD : va_D A0 [(ob, .inr (6, [.int th, .int (nI n), .ref b1, .ref b2, .ref b3, .ref b4, .ref b5, .int gx, .int gy, .int sl, .ref bp, .int (zX kd ln vl n), .int (zY kd ln vl n), .int (zH kd vl n), .ref bu, .ref bv, .int fd, .ref bk, .ref bw])), (b1, .inl (cI, 5, .inl kd)), (b2, .inl (cI, 5, .inl ln)), (b3, .inl (cI, 5, .inl lo)), (b4, .inl (cI, 5, .inl hi)), (b5, .inl (cI, 5, .inl vl)), (bp, .inl (cI, 5, .inl ps3_3)), (bu, .inl (cI, 5, .inl f1)), (bv, .inl (cI, 5, .inl f2)), (bk, .inl (cJ, 10, .inr (.inl ky))), (bw, .inl (cI, 10, .inl wh))] := hD
  refine lv_aload_n hx hb dX6_findsMoves_4 rfl (lv_at hl 0 rfl) ?_
  refine va_get (D := D) (ci := 6) (v := .int (zX kd ln vl n)) (C := RX6) (T := TX6) (N := 19) hx hb hts hin6 hown hK hP 0 rfl rfl 11 (by decide) hf59 (fun _ h9 => h9) rfl dX6_findsMoves_5 ?_
  refine lv_istore_n (lv' := [(1, .int (zX kd ln vl n)), (0, .ref ob)]) hx hb dX6_findsMoves_8 rfl hl (by decide) rfl (fun ls hl => ?_)
  refine lv_aload_n hx hb dX6_findsMoves_9 rfl (lv_at hl 1 rfl) ?_
  refine va_get (D := D) (ci := 6) (v := .int (zY kd ln vl n)) (C := RX6) (T := TX6) (N := 19) hx hb hts hin6 hown hK hP 0 rfl rfl 12 (by decide) hf62 (fun _ h9 => h9) rfl dX6_findsMoves_10 ?_
  refine lv_istore_n (lv' := [(2, .int (zY kd ln vl n)), (1, .int (zX kd ln vl n)), (0, .ref ob)]) hx hb dX6_findsMoves_13 rfl hl (by decide) rfl (fun ls hl => ?_)
  refine lv_iconst (v := 0) hx hb dX6_findsMoves_14 (by decide) ?_
  refine lv_istore_n (lv' := [(3, .int 0), (2, .int (zY kd ln vl n)), (1, .int (zX kd ln vl n)), (0, .ref ob)]) hx hb dX6_findsMoves_15 rfl hl (by decide) rfl (fun ls hl => ?_)
  have lp_16_10 : ∀ (fu : Nat) (i : Nat) (x3 : Int32) (y3 : Int32) (h3 : Int32) (f3 : Nat → Int32) (f4 : Nat → Int32) (ps3 : Nat → Int32), (i ≤ n) → (∀ j, j < i → f3 j = zMx kd ln vl n j) → (∀ j, j < i → f4 j = zMy kd ln vl n j) → (n - i < fu) → ∀ (H : Heap) (locs : List Loc), va_P D vwCl [(ob, .inr (6, [.int th, .int (nI n), .ref b1, .ref b2, .ref b3, .ref b4, .ref b5, .int gx, .int gy, .int sl, .ref bp, .int x3, .int y3, .int h3, .ref bu, .ref bv, .int fd, .ref bk, .ref bw])), (b1, .inl (cI, 5, .inl kd)), (b2, .inl (cI, 5, .inl ln)), (b3, .inl (cI, 5, .inl lo)), (b4, .inl (cI, 5, .inl hi)), (b5, .inl (cI, 5, .inl vl)), (bp, .inl (cI, 5, .inl ps3)), (bu, .inl (cI, 5, .inl f3)), (bv, .inl (cI, 5, .inl f4)), (bk, .inl (cJ, 10, .inr (.inl ky))), (bw, .inl (cI, 10, .inl wh))] H → va_D A0 [(ob, .inr (6, [.int th, .int (nI n), .ref b1, .ref b2, .ref b3, .ref b4, .ref b5, .int gx, .int gy, .int sl, .ref bp, .int x3, .int y3, .int h3, .ref bu, .ref bv, .int fd, .ref bk, .ref bw])), (b1, .inl (cI, 5, .inl kd)), (b2, .inl (cI, 5, .inl ln)), (b3, .inl (cI, 5, .inl lo)), (b4, .inl (cI, 5, .inl hi)), (b5, .inl (cI, 5, .inl vl)), (bp, .inl (cI, 5, .inl ps3)), (bu, .inl (cI, 5, .inl f3)), (bv, .inl (cI, 5, .inl f4)), (bk, .inl (cJ, 10, .inr (.inl ky))), (bw, .inl (cI, 10, .inl wh))] → va_S A0 s.heap H locs → ∀ (ls : Array Slot), lv_has ls 4 [(0, .ref ob), (1, .int (zX kd ln vl n)), (2, .int (zY kd ln vl n)), (3, .int (nI i))] → W p l e (zRm 4 0 0) s m args below meth c H locs 0 0 Q (F0 m 16 ls []) := by
    intro fu
    induction fu with
    | zero => intro i x3 y3 h3 f3 f4 ps3 hi1 hm1 hm2 hfu; exact absurd hfu (Nat.not_lt_zero _)
    | succ fu ih_16_10 =>
      intro i x3 y3 h3 f3 f4 ps3 hi1 hm1 hm2 hfu H locs hP hD hS ls hl
      refine lv_iload_n hx hb dX6_findsMoves_16 rfl (lv_at hl 3 rfl) ?_
      refine lv_aload_n hx hb dX6_findsMoves_17 rfl (lv_at hl 0 rfl) ?_
      refine va_get (D := D) (ci := 6) (v := .int (nI n)) (C := RX6) (T := TX6) (N := 19) hx hb hts hin6 hown hK hP 0 rfl rfl 1 (by decide) hf48 (fun _ h9 => h9) rfl dX6_findsMoves_18 ?_
      refine lv_icmp_ge (tgt := 72) hx hb dX6_findsMoves_21 (by decide) (fun c_21 => ?_) (fun c_21 => ?_)
      · rw [nI_leI (by omega) (by omega)] at c_21
        obtain rfl : n = i := by omega
        exact hRet _ (f3, f4, ps3, x3, y3, h3) _ _ _ ⟨hm1, hm2⟩ hP hS dX6_findsMoves_72
      · rw [nI_leI (by omega) (by omega)] at c_21
        refine lv_aload_n hx hb dX6_findsMoves_24 rfl (lv_at hl 0 rfl) ?_
        refine z_callV (As := []) (rest := []) ⟨hx, hb, hml, hown, hts⟩ hG hK hP hD hS (c_X6_copiesPose l D cI cJ ob b1 b2 b3 b4 b5 bp bu bv bk bw n th gx gy sl x3 y3 h3 fd kd ln lo hi vl ps3 f3 f4 ky wh (by first | assumption | omega | decide)) (cwV 0 hts gX6_findsMoves_X6_copiesPose rfl rfl rfl (by decide +kernel) ⟨Nat.le_of_ble_eq_true rfl, Nat.le_of_ble_eq_true rfl⟩) [0, 1, 2, 3, 4, 5, 6, 7, 8, 9, 10] (by decide) rfl (fun _ => rfl) 0 rfl rfl rfl rfl hl.1 rfl (Nat.le_of_ble_eq_true rfl) dX6_findsMoves_25 ⟨Nat.le_of_ble_eq_true rfl, Nat.le_of_ble_eq_true rfl⟩ (fun u_11 H locs hu_12 hP hD hS => ?_)
        obtain ⟨pq, rfl⟩ : ∃ z, z = u_11 := ⟨_, rfl⟩
        have hu_12 : (∀ j, j < n → pq j = vl j) := hu_12
        have hpq := hu_12
        have hP : va_P D vwCl [(ob, .inr (6, [.int th, .int (nI n), .ref b1, .ref b2, .ref b3, .ref b4, .ref b5, .int gx, .int gy, .int sl, .ref bp, .int x3, .int y3, .int h3, .ref bu, .ref bv, .int fd, .ref bk, .ref bw])), (b1, .inl (cI, 5, .inl kd)), (b2, .inl (cI, 5, .inl ln)), (b3, .inl (cI, 5, .inl lo)), (b4, .inl (cI, 5, .inl hi)), (b5, .inl (cI, 5, .inl vl)), (bp, .inl (cI, 5, .inl pq)), (bu, .inl (cI, 5, .inl f3)), (bv, .inl (cI, 5, .inl f4)), (bk, .inl (cJ, 10, .inr (.inl ky))), (bw, .inl (cI, 10, .inl wh))] H := hP
        have hD : va_D A0 [(ob, .inr (6, [.int th, .int (nI n), .ref b1, .ref b2, .ref b3, .ref b4, .ref b5, .int gx, .int gy, .int sl, .ref bp, .int x3, .int y3, .int h3, .ref bu, .ref bv, .int fd, .ref bk, .ref bw])), (b1, .inl (cI, 5, .inl kd)), (b2, .inl (cI, 5, .inl ln)), (b3, .inl (cI, 5, .inl lo)), (b4, .inl (cI, 5, .inl hi)), (b5, .inl (cI, 5, .inl vl)), (bp, .inl (cI, 5, .inl pq)), (bu, .inl (cI, 5, .inl f3)), (bv, .inl (cI, 5, .inl f4)), (bk, .inl (cJ, 10, .inr (.inl ky))), (bw, .inl (cI, 10, .inl wh))] := hD
        refine lv_aload_n hx hb dX6_findsMoves_28 rfl (lv_at hl 0 rfl) ?_
        refine va_get (D := D) (ci := 6) (v := .ref bp) (C := RX6) (T := TX6) (N := 19) hx hb hts hin6 hown hK hP 0 rfl rfl 10 (by decide) hf29 (fun _ h9 => h9) rfl dX6_findsMoves_29 ?_
        refine lv_iload_n hx hb dX6_findsMoves_32 rfl (lv_at hl 3 rfl) ?_
        refine lv_dup2_11 hx hb dX6_findsMoves_33 rfl rfl ?_
        refine z_iald hx hb hK hP 6 rfl (j := i) (by omega) (by decide) dX6_findsMoves_34 ?_
        refine lv_iconst (v := 1) hx hb dX6_findsMoves_35 (by decide) ?_
        refine lv_iadd hx hb dX6_findsMoves_36 ?_
        refine z_iast hx hb hK hP hD hS 6 rfl (j := i) (by omega) (by decide) dX6_findsMoves_37 (fun H locs hP hD hS => ?_)
        have hP : va_P D vwCl [(ob, .inr (6, [.int th, .int (nI n), .ref b1, .ref b2, .ref b3, .ref b4, .ref b5, .int gx, .int gy, .int sl, .ref bp, .int x3, .int y3, .int h3, .ref bu, .ref bv, .int fd, .ref bk, .ref bw])), (b1, .inl (cI, 5, .inl kd)), (b2, .inl (cI, 5, .inl ln)), (b3, .inl (cI, 5, .inl lo)), (b4, .inl (cI, 5, .inl hi)), (b5, .inl (cI, 5, .inl vl)), (bp, .inl (cI, 5, .inl (upd pq i ((pq i) + 1)))), (bu, .inl (cI, 5, .inl f3)), (bv, .inl (cI, 5, .inl f4)), (bk, .inl (cJ, 10, .inr (.inl ky))), (bw, .inl (cI, 10, .inl wh))] H := hP
        have hD : va_D A0 [(ob, .inr (6, [.int th, .int (nI n), .ref b1, .ref b2, .ref b3, .ref b4, .ref b5, .int gx, .int gy, .int sl, .ref bp, .int x3, .int y3, .int h3, .ref bu, .ref bv, .int fd, .ref bk, .ref bw])), (b1, .inl (cI, 5, .inl kd)), (b2, .inl (cI, 5, .inl ln)), (b3, .inl (cI, 5, .inl lo)), (b4, .inl (cI, 5, .inl hi)), (b5, .inl (cI, 5, .inl vl)), (bp, .inl (cI, 5, .inl (upd pq i ((pq i) + 1)))), (bu, .inl (cI, 5, .inl f3)), (bv, .inl (cI, 5, .inl f4)), (bk, .inl (cJ, 10, .inr (.inl ky))), (bw, .inl (cI, 10, .inl wh))] := hD
        have hpo : ∀ j, j < n → upd pq i (pq i + 1) j = zPo vl (nI i) (vl i + 1) j := by rw [hpq i (by omega)]; exact zpo_upd hn (by omega) hpq
        have hinc := hok.inc (j := i) (by omega)
        refine lv_aload_n hx hb dX6_findsMoves_38 rfl (lv_at hl 0 rfl) ?_
        refine z_callV (As := []) (rest := []) ⟨hx, hb, hml, hown, hts⟩ hG hK hP hD hS (c_X6_looks l D cI cJ ob b1 b2 b3 b4 b5 bp bu bv bk bw n th gx gy sl x3 y3 h3 fd kd ln lo hi vl (upd pq i ((pq i) + 1)) f3 f4 ky wh (by first | assumption | omega | decide) (fun j hj => by rw [hpo j hj]; exact hok.po hinc.1 hinc.2 j hj)) (cwV 0 hts gX6_findsMoves_X6_looks rfl rfl rfl (by decide +kernel) ⟨Nat.le_of_ble_eq_true rfl, Nat.le_of_ble_eq_true rfl⟩) [0, 1, 2, 3, 4, 5, 6, 7, 8, 9, 10] (by decide) rfl (fun _ => rfl) 0 rfl rfl rfl rfl hl.1 rfl (Nat.le_of_ble_eq_true rfl) dX6_findsMoves_39 ⟨Nat.le_of_ble_eq_true rfl, Nat.le_of_ble_eq_true rfl⟩ (fun u_13 H locs hu_14 hP hD hS => ?_)
        obtain ⟨x3_15, y3_16, h3_17⟩ := u_13
        have hu_14 : (x3_15 = zX kd ln (upd pq i ((pq i) + 1)) n) ∧ (y3_16 = zY kd ln (upd pq i ((pq i) + 1)) n) ∧ (h3_17 = zH kd (upd pq i ((pq i) + 1)) n) := hu_14
        obtain ⟨e_18, e_19, e_20⟩ := hu_14
        subst e_18
        subst e_19
        subst e_20
        have hP : va_P D vwCl [(ob, .inr (6, [.int th, .int (nI n), .ref b1, .ref b2, .ref b3, .ref b4, .ref b5, .int gx, .int gy, .int sl, .ref bp, .int (zX kd ln (upd pq i ((pq i) + 1)) n), .int (zY kd ln (upd pq i ((pq i) + 1)) n), .int (zH kd (upd pq i ((pq i) + 1)) n), .ref bu, .ref bv, .int fd, .ref bk, .ref bw])), (b1, .inl (cI, 5, .inl kd)), (b2, .inl (cI, 5, .inl ln)), (b3, .inl (cI, 5, .inl lo)), (b4, .inl (cI, 5, .inl hi)), (b5, .inl (cI, 5, .inl vl)), (bp, .inl (cI, 5, .inl (upd pq i ((pq i) + 1)))), (bu, .inl (cI, 5, .inl f3)), (bv, .inl (cI, 5, .inl f4)), (bk, .inl (cJ, 10, .inr (.inl ky))), (bw, .inl (cI, 10, .inl wh))] H := hP
        have hD : va_D A0 [(ob, .inr (6, [.int th, .int (nI n), .ref b1, .ref b2, .ref b3, .ref b4, .ref b5, .int gx, .int gy, .int sl, .ref bp, .int (zX kd ln (upd pq i ((pq i) + 1)) n), .int (zY kd ln (upd pq i ((pq i) + 1)) n), .int (zH kd (upd pq i ((pq i) + 1)) n), .ref bu, .ref bv, .int fd, .ref bk, .ref bw])), (b1, .inl (cI, 5, .inl kd)), (b2, .inl (cI, 5, .inl ln)), (b3, .inl (cI, 5, .inl lo)), (b4, .inl (cI, 5, .inl hi)), (b5, .inl (cI, 5, .inl vl)), (bp, .inl (cI, 5, .inl (upd pq i ((pq i) + 1)))), (bu, .inl (cI, 5, .inl f3)), (bv, .inl (cI, 5, .inl f4)), (bk, .inl (cJ, 10, .inr (.inl ky))), (bw, .inl (cI, 10, .inl wh))] := hD
        refine lv_aload_n hx hb dX6_findsMoves_42 rfl (lv_at hl 0 rfl) ?_
        refine va_get (D := D) (ci := 6) (v := .ref bu) (C := RX6) (T := TX6) (N := 19) hx hb hts hin6 hown hK hP 0 rfl rfl 14 (by decide) hf32 (fun _ h9 => h9) rfl dX6_findsMoves_43 ?_
        refine lv_iload_n hx hb dX6_findsMoves_46 rfl (lv_at hl 3 rfl) ?_
        refine lv_aload_n hx hb dX6_findsMoves_47 rfl (lv_at hl 0 rfl) ?_
        refine va_get (D := D) (ci := 6) (v := .int (zX kd ln (upd pq i ((pq i) + 1)) n)) (C := RX6) (T := TX6) (N := 19) hx hb hts hin6 hown hK hP 0 rfl rfl 11 (by decide) hf59 (fun _ h9 => h9) rfl dX6_findsMoves_48 ?_
        refine lv_iload_n hx hb dX6_findsMoves_51 rfl (lv_at hl 1 rfl) ?_
        refine lv_isub hx hb dX6_findsMoves_52 ?_
        refine z_iast hx hb hK hP hD hS 7 rfl (j := i) (by omega) (by decide) dX6_findsMoves_53 (fun H locs hP hD hS => ?_)
        have hP : va_P D vwCl [(ob, .inr (6, [.int th, .int (nI n), .ref b1, .ref b2, .ref b3, .ref b4, .ref b5, .int gx, .int gy, .int sl, .ref bp, .int (zX kd ln (upd pq i ((pq i) + 1)) n), .int (zY kd ln (upd pq i ((pq i) + 1)) n), .int (zH kd (upd pq i ((pq i) + 1)) n), .ref bu, .ref bv, .int fd, .ref bk, .ref bw])), (b1, .inl (cI, 5, .inl kd)), (b2, .inl (cI, 5, .inl ln)), (b3, .inl (cI, 5, .inl lo)), (b4, .inl (cI, 5, .inl hi)), (b5, .inl (cI, 5, .inl vl)), (bp, .inl (cI, 5, .inl (upd pq i ((pq i) + 1)))), (bu, .inl (cI, 5, .inl (upd f3 i ((zX kd ln (upd pq i ((pq i) + 1)) n) - (zX kd ln vl n))))), (bv, .inl (cI, 5, .inl f4)), (bk, .inl (cJ, 10, .inr (.inl ky))), (bw, .inl (cI, 10, .inl wh))] H := hP
        have hD : va_D A0 [(ob, .inr (6, [.int th, .int (nI n), .ref b1, .ref b2, .ref b3, .ref b4, .ref b5, .int gx, .int gy, .int sl, .ref bp, .int (zX kd ln (upd pq i ((pq i) + 1)) n), .int (zY kd ln (upd pq i ((pq i) + 1)) n), .int (zH kd (upd pq i ((pq i) + 1)) n), .ref bu, .ref bv, .int fd, .ref bk, .ref bw])), (b1, .inl (cI, 5, .inl kd)), (b2, .inl (cI, 5, .inl ln)), (b3, .inl (cI, 5, .inl lo)), (b4, .inl (cI, 5, .inl hi)), (b5, .inl (cI, 5, .inl vl)), (bp, .inl (cI, 5, .inl (upd pq i ((pq i) + 1)))), (bu, .inl (cI, 5, .inl (upd f3 i ((zX kd ln (upd pq i ((pq i) + 1)) n) - (zX kd ln vl n))))), (bv, .inl (cI, 5, .inl f4)), (bk, .inl (cJ, 10, .inr (.inl ky))), (bw, .inl (cI, 10, .inl wh))] := hD
        refine lv_aload_n hx hb dX6_findsMoves_54 rfl (lv_at hl 0 rfl) ?_
        refine va_get (D := D) (ci := 6) (v := .ref bv) (C := RX6) (T := TX6) (N := 19) hx hb hts hin6 hown hK hP 0 rfl rfl 15 (by decide) hf35 (fun _ h9 => h9) rfl dX6_findsMoves_55 ?_
        refine lv_iload_n hx hb dX6_findsMoves_58 rfl (lv_at hl 3 rfl) ?_
        refine lv_aload_n hx hb dX6_findsMoves_59 rfl (lv_at hl 0 rfl) ?_
        refine va_get (D := D) (ci := 6) (v := .int (zY kd ln (upd pq i ((pq i) + 1)) n)) (C := RX6) (T := TX6) (N := 19) hx hb hts hin6 hown hK hP 0 rfl rfl 12 (by decide) hf62 (fun _ h9 => h9) rfl dX6_findsMoves_60 ?_
        refine lv_iload_n hx hb dX6_findsMoves_63 rfl (lv_at hl 2 rfl) ?_
        refine lv_isub hx hb dX6_findsMoves_64 ?_
        refine z_iast hx hb hK hP hD hS 8 rfl (j := i) (by omega) (by decide) dX6_findsMoves_65 (fun H locs hP hD hS => ?_)
        have hP : va_P D vwCl [(ob, .inr (6, [.int th, .int (nI n), .ref b1, .ref b2, .ref b3, .ref b4, .ref b5, .int gx, .int gy, .int sl, .ref bp, .int (zX kd ln (upd pq i ((pq i) + 1)) n), .int (zY kd ln (upd pq i ((pq i) + 1)) n), .int (zH kd (upd pq i ((pq i) + 1)) n), .ref bu, .ref bv, .int fd, .ref bk, .ref bw])), (b1, .inl (cI, 5, .inl kd)), (b2, .inl (cI, 5, .inl ln)), (b3, .inl (cI, 5, .inl lo)), (b4, .inl (cI, 5, .inl hi)), (b5, .inl (cI, 5, .inl vl)), (bp, .inl (cI, 5, .inl (upd pq i ((pq i) + 1)))), (bu, .inl (cI, 5, .inl (upd f3 i ((zX kd ln (upd pq i ((pq i) + 1)) n) - (zX kd ln vl n))))), (bv, .inl (cI, 5, .inl (upd f4 i ((zY kd ln (upd pq i ((pq i) + 1)) n) - (zY kd ln vl n))))), (bk, .inl (cJ, 10, .inr (.inl ky))), (bw, .inl (cI, 10, .inl wh))] H := hP
        have hD : va_D A0 [(ob, .inr (6, [.int th, .int (nI n), .ref b1, .ref b2, .ref b3, .ref b4, .ref b5, .int gx, .int gy, .int sl, .ref bp, .int (zX kd ln (upd pq i ((pq i) + 1)) n), .int (zY kd ln (upd pq i ((pq i) + 1)) n), .int (zH kd (upd pq i ((pq i) + 1)) n), .ref bu, .ref bv, .int fd, .ref bk, .ref bw])), (b1, .inl (cI, 5, .inl kd)), (b2, .inl (cI, 5, .inl ln)), (b3, .inl (cI, 5, .inl lo)), (b4, .inl (cI, 5, .inl hi)), (b5, .inl (cI, 5, .inl vl)), (bp, .inl (cI, 5, .inl (upd pq i ((pq i) + 1)))), (bu, .inl (cI, 5, .inl (upd f3 i ((zX kd ln (upd pq i ((pq i) + 1)) n) - (zX kd ln vl n))))), (bv, .inl (cI, 5, .inl (upd f4 i ((zY kd ln (upd pq i ((pq i) + 1)) n) - (zY kd ln vl n))))), (bk, .inl (cJ, 10, .inr (.inl ky))), (bw, .inl (cI, 10, .inl wh))] := hD
        refine lv_iinc (v := nI (i + 1)) (lv' := [(3, .int (nI (i + 1))), (0, .ref ob), (1, .int (zX kd ln vl n)), (2, .int (zY kd ln vl n))]) hx hb dX6_findsMoves_66 hl (k := 3) rfl ((nI_succ _).symm) (by decide) rfl (fun ls hl => ?_)
        refine lv_goto (tgt := 16) hx hb dX6_findsMoves_69 (by decide) ?_
        exact ih_16_10 (i + 1) (zX kd ln (upd pq i ((pq i) + 1)) n) (zY kd ln (upd pq i ((pq i) + 1)) n) (zH kd (upd pq i ((pq i) + 1)) n) (upd f3 i ((zX kd ln (upd pq i ((pq i) + 1)) n) - (zX kd ln vl n))) (upd f4 i ((zY kd ln (upd pq i ((pq i) + 1)) n) - (zY kd ln vl n))) (upd pq i ((pq i) + 1)) (by first | assumption | omega | rfl | simp_all) (zupd_ok hm1 (by rw [zX_congr hpo]; rfl)) (zupd_ok hm2 (by rw [zY_congr hpo]; rfl)) (by omega) _ _ hP hD hS _ (lv_sub hl [1, 2, 3, 0] rfl)
  exact lp_16_10 ((n - 0) + 1) 0 (zX kd ln vl n) (zY kd ln vl n) (zH kd vl n) f1 f2 ps3_3 (by first | assumption | omega | rfl | simp_all) (fun j hj => absurd hj (Nat.not_lt_zero j)) (fun j hj => absurd hj (Nat.not_lt_zero j)) (Nat.lt_succ_self _) _ _ hP hD hS _ (lv_sub hl [3, 2, 1, 0] rfl)

set_option maxHeartbeats 4000000 in
set_option maxRecDepth 100000 in
theorem c_X6_moves (l : Launch) (D : va_G) (cI cJ : ClassId) (ob : Nat) (b1 : Nat) (b2 : Nat) (b3 : Nat) (b4 : Nat) (b5 : Nat) (bp : Nat) (bu : Nat) (bv : Nat) (bk : Nat) (bw : Nat) (n : Nat) (th : Int32) (gx : Int32) (gy : Int32) (sl : Int32) (x : Int32) (y : Int32) (h : Int32) (fd : Int32) (kd : Nat → Int32) (ln : Nat → Int32) (lo : Nat → Int32) (hi : Nat → Int32) (vl : Nat → Int32) (ps : Nat → Int32) (f1 : Nat → Int32) (f2 : Nat → Int32) (ky : Nat → Int64) (wh : Nat → Int32) (j : Int32) (w : Int32) (hok : zOk n kd ln lo hi vl) : zM l yX6_moves wsX6_moves 5 D cI cJ [.ref ob, .int j, .int w] [(ob, .inr (6, [.int th, .int (nI n), .ref b1, .ref b2, .ref b3, .ref b4, .ref b5, .int gx, .int gy, .int sl, .ref bp, .int x, .int y, .int h, .ref bu, .ref bv, .int fd, .ref bk, .ref bw])), (b1, .inl (cI, 5, .inl kd)), (b2, .inl (cI, 5, .inl ln)), (b3, .inl (cI, 5, .inl lo)), (b4, .inl (cI, 5, .inl hi)), (b5, .inl (cI, 5, .inl vl)), (bp, .inl (cI, 5, .inl ps)), (bu, .inl (cI, 5, .inl f1)), (bv, .inl (cI, 5, .inl f2)), (bk, .inl (cJ, 10, .inr (.inl ky))), (bw, .inl (cI, 10, .inl wh))] (fun (u : Int32 × Int32 × (Nat → Int32) × (Nat → Int32) × (Nat → Int32) × Int32 × Int32 × Int32) => (zJ n j → (0 ≤ w ∧ w ≤ 1) → u.2.1 = 0 ∧ u.1 = if w = 0 then zMx kd ln vl n (j.toNatClampNeg) else zMy kd ln vl n (j.toNatClampNeg)) ∧ (zJ n j → ¬ (0 ≤ w ∧ w ≤ 1) → u.2.1 = 2) ∧ (¬ zJ n j → u.2.1 = 1)) (fun (u : Int32 × Int32 × (Nat → Int32) × (Nat → Int32) × (Nat → Int32) × Int32 × Int32 × Int32) => some (.int u.1)) (fun (u : Int32 × Int32 × (Nat → Int32) × (Nat → Int32) × (Nat → Int32) × Int32 × Int32 × Int32) => [(ob, .inr (6, [.int u.2.1, .int (nI n), .ref b1, .ref b2, .ref b3, .ref b4, .ref b5, .int gx, .int gy, .int sl, .ref bp, .int u.2.2.2.2.2.1, .int u.2.2.2.2.2.2.1, .int u.2.2.2.2.2.2.2, .ref bu, .ref bv, .int fd, .ref bk, .ref bw])), (b1, .inl (cI, 5, .inl kd)), (b2, .inl (cI, 5, .inl ln)), (b3, .inl (cI, 5, .inl lo)), (b4, .inl (cI, 5, .inl hi)), (b5, .inl (cI, 5, .inl vl)), (bp, .inl (cI, 5, .inl u.2.2.2.2.1)), (bu, .inl (cI, 5, .inl u.2.2.1)), (bv, .inl (cI, 5, .inl u.2.2.2.1)), (bk, .inl (cJ, 10, .inr (.inl ky))), (bw, .inl (cI, 10, .inl wh))]) := by
  refine zM_i (cc := cX6_moves) (maxL := 3) (r := fun (u : Int32 × Int32 × (Nat → Int32) × (Nat → Int32) × (Nat → Int32) × Int32 × Int32 × Int32) => u.1) (by decide) rfl (Nat.le_of_ble_eq_true rfl) ?_
  intro p e s m args below meth c ls A0 Q C hl hP hS hRet
  obtain ⟨⟨hx, hb, hml, hown, hts⟩, hG, hK, hD, hlocks⟩ := C
  have hin6 : ∀ w ∈ u_ws RX6 TX6 19, w ∈ wsX6_moves := by decide +kernel
  have hf45 := hts (.fieldLink RX6 45 "ArmRoomModel" "thrown" "I") (by decide +kernel)
  have hf35 := hts (.fieldLink RX6 35 "ArmRoomModel" "moveY" "[I") (by decide +kernel)
  have hf32 := hts (.fieldLink RX6 32 "ArmRoomModel" "moveX" "[I") (by decide +kernel)
  have hl : lv_has ls 3 [(0, .ref ob), (1, .int j), (2, .int w)] := hl
  have hn := hok.1
  refine lv_aload_n hx hb dX6_moves_0 rfl (lv_at hl 0 rfl) ?_
  refine lv_aload_n hx hb dX6_moves_1 rfl (lv_at hl 0 rfl) ?_
  refine lv_iload_n hx hb dX6_moves_2 rfl (lv_at hl 1 rfl) ?_
  refine z_callV (As := [.int j]) (rest := [.ref ob]) ⟨hx, hb, hml, hown, hts⟩ hG hK hP hD hS (c_X6_isJoint l D cI cJ ob b1 b2 b3 b4 b5 bp bu bv bk bw n th gx gy sl x y h fd kd ln lo hi vl ps f1 f2 ky wh j (by first | assumption | omega | decide)) (cwV 1 hts gX6_moves_X6_isJoint rfl rfl rfl (by decide +kernel) ⟨Nat.le_of_ble_eq_true rfl, Nat.le_of_ble_eq_true rfl⟩) [0, 1, 2, 3, 4, 5, 6, 7, 8, 9, 10] (by decide) rfl (fun _ => rfl) 0 rfl rfl rfl rfl hl.1 rfl (Nat.le_of_ble_eq_true rfl) dX6_moves_3 ⟨Nat.le_of_ble_eq_true rfl, Nat.le_of_ble_eq_true rfl⟩ (fun u_1 H locs hu_2 hP hD hS => ?_)
  obtain ⟨r_3, rfl⟩ : ∃ z, z = u_1 := ⟨_, rfl⟩
  have hu_2 : (r_3 = if zJ n j then 1 else 0) := hu_2
  have e_4 := hu_2
  subst e_4
  have hP : va_P D vwCl [(ob, .inr (6, [.int th, .int (nI n), .ref b1, .ref b2, .ref b3, .ref b4, .ref b5, .int gx, .int gy, .int sl, .ref bp, .int x, .int y, .int h, .ref bu, .ref bv, .int fd, .ref bk, .ref bw])), (b1, .inl (cI, 5, .inl kd)), (b2, .inl (cI, 5, .inl ln)), (b3, .inl (cI, 5, .inl lo)), (b4, .inl (cI, 5, .inl hi)), (b5, .inl (cI, 5, .inl vl)), (bp, .inl (cI, 5, .inl ps)), (bu, .inl (cI, 5, .inl f1)), (bv, .inl (cI, 5, .inl f2)), (bk, .inl (cJ, 10, .inr (.inl ky))), (bw, .inl (cI, 10, .inl wh))] H := hP
  have hD : va_D A0 [(ob, .inr (6, [.int th, .int (nI n), .ref b1, .ref b2, .ref b3, .ref b4, .ref b5, .int gx, .int gy, .int sl, .ref bp, .int x, .int y, .int h, .ref bu, .ref bv, .int fd, .ref bk, .ref bw])), (b1, .inl (cI, 5, .inl kd)), (b2, .inl (cI, 5, .inl ln)), (b3, .inl (cI, 5, .inl lo)), (b4, .inl (cI, 5, .inl hi)), (b5, .inl (cI, 5, .inl vl)), (bp, .inl (cI, 5, .inl ps)), (bu, .inl (cI, 5, .inl f1)), (bv, .inl (cI, 5, .inl f2)), (bk, .inl (cJ, 10, .inr (.inl ky))), (bw, .inl (cI, 10, .inl wh))] := hD
  refine lv_if_ne (tgt := 13) hx hb dX6_moves_6 (by decide) (fun c_6 => ?_) (fun c_6 => ?_)
  · have hJ := zif_1 c_6
    obtain ⟨jj, hjj, hje⟩ := zJ_of hn hJ
    subst hje
    have hcl9 : (nI jj).toNatClampNeg = jj := nI_clamp (by omega)
    refine lv_iload_n hx hb dX6_moves_13 rfl (lv_at hl 2 rfl) ?_
    refine lv_iconst (v := 0) hx hb dX6_moves_14 (by decide) ?_
    refine lv_iconst (v := 1) hx hb dX6_moves_15 (by decide) ?_
    refine z_callS (As := [.int w, .int 0, .int 1]) (rest := [.ref ob]) ⟨hx, hb, hml, hown, hts⟩ hG hK hP hD hS (c_X6_in l D cI cJ w 0 1 ) (va_cwS 3 hts gX6_moves_X6_in rfl rfl rfl (by decide +kernel) ⟨Nat.le_of_ble_eq_true rfl, Nat.le_of_ble_eq_true rfl⟩) [] (by decide) rfl (fun _ => rfl) rfl hl.1 rfl (Nat.le_of_ble_eq_true rfl) dX6_moves_16 ⟨Nat.le_of_ble_eq_true rfl, Nat.le_of_ble_eq_true rfl⟩ (fun u_5 H locs hu_6 hP hD hS => ?_)
    obtain ⟨r_7, rfl⟩ : ∃ z, z = u_5 := ⟨_, rfl⟩
    have hu_6 : (r_7 = if 0 ≤ w ∧ w ≤ 1 then 1 else 0) := hu_6
    have e_8 := hu_6
    subst e_8
    have hP : va_P D vwCl [(ob, .inr (6, [.int th, .int (nI n), .ref b1, .ref b2, .ref b3, .ref b4, .ref b5, .int gx, .int gy, .int sl, .ref bp, .int x, .int y, .int h, .ref bu, .ref bv, .int fd, .ref bk, .ref bw])), (b1, .inl (cI, 5, .inl kd)), (b2, .inl (cI, 5, .inl ln)), (b3, .inl (cI, 5, .inl lo)), (b4, .inl (cI, 5, .inl hi)), (b5, .inl (cI, 5, .inl vl)), (bp, .inl (cI, 5, .inl ps)), (bu, .inl (cI, 5, .inl f1)), (bv, .inl (cI, 5, .inl f2)), (bk, .inl (cJ, 10, .inr (.inl ky))), (bw, .inl (cI, 10, .inl wh))] H := hP
    have hD : va_D A0 [(ob, .inr (6, [.int th, .int (nI n), .ref b1, .ref b2, .ref b3, .ref b4, .ref b5, .int gx, .int gy, .int sl, .ref bp, .int x, .int y, .int h, .ref bu, .ref bv, .int fd, .ref bk, .ref bw])), (b1, .inl (cI, 5, .inl kd)), (b2, .inl (cI, 5, .inl ln)), (b3, .inl (cI, 5, .inl lo)), (b4, .inl (cI, 5, .inl hi)), (b5, .inl (cI, 5, .inl vl)), (bp, .inl (cI, 5, .inl ps)), (bu, .inl (cI, 5, .inl f1)), (bv, .inl (cI, 5, .inl f2)), (bk, .inl (cJ, 10, .inr (.inl ky))), (bw, .inl (cI, 10, .inl wh))] := hD
    refine lv_if_eq (tgt := 26) hx hb dX6_moves_19 (by decide) (fun c_19 => ?_) (fun c_19 => ?_)
    · have hI := zif_0 c_19
      refine lv_iconst (v := 2) hx hb dX6_moves_26 (by decide) ?_
      refine va_put (D := D) (ci := 6) (v := .int 2) (ty := .int) (C := RX6) (T := TX6) (N := 19) hx hb hts hin6 tyX6 tyX6_ok nmX6 hown hK hP hD hS 0 rfl rfl 0 (by decide) hf45 (fun _ h9 => h9) rfl (by decide +kernel) rfl rfl (Nat.le_of_ble_eq_true rfl) dX6_moves_27 (fun H locs hP hD hS => ?_)
      have hP : va_P D vwCl [(ob, .inr (6, [.int 2, .int (nI n), .ref b1, .ref b2, .ref b3, .ref b4, .ref b5, .int gx, .int gy, .int sl, .ref bp, .int x, .int y, .int h, .ref bu, .ref bv, .int fd, .ref bk, .ref bw])), (b1, .inl (cI, 5, .inl kd)), (b2, .inl (cI, 5, .inl ln)), (b3, .inl (cI, 5, .inl lo)), (b4, .inl (cI, 5, .inl hi)), (b5, .inl (cI, 5, .inl vl)), (bp, .inl (cI, 5, .inl ps)), (bu, .inl (cI, 5, .inl f1)), (bv, .inl (cI, 5, .inl f2)), (bk, .inl (cJ, 10, .inr (.inl ky))), (bw, .inl (cI, 10, .inl wh))] H := hP
      have hD : va_D A0 [(ob, .inr (6, [.int 2, .int (nI n), .ref b1, .ref b2, .ref b3, .ref b4, .ref b5, .int gx, .int gy, .int sl, .ref bp, .int x, .int y, .int h, .ref bu, .ref bv, .int fd, .ref bk, .ref bw])), (b1, .inl (cI, 5, .inl kd)), (b2, .inl (cI, 5, .inl ln)), (b3, .inl (cI, 5, .inl lo)), (b4, .inl (cI, 5, .inl hi)), (b5, .inl (cI, 5, .inl vl)), (bp, .inl (cI, 5, .inl ps)), (bu, .inl (cI, 5, .inl f1)), (bv, .inl (cI, 5, .inl f2)), (bk, .inl (cJ, 10, .inr (.inl ky))), (bw, .inl (cI, 10, .inl wh))] := hD
      refine lv_aload_n hx hb dX6_moves_30 rfl (lv_at hl 0 rfl) ?_
      refine va_get (D := D) (ci := 6) (v := .int 2) (C := RX6) (T := TX6) (N := 19) hx hb hts hin6 hown hK hP 0 rfl rfl 0 (by decide) hf45 (fun _ h9 => h9) rfl dX6_moves_31 ?_
      refine lv_if_le (tgt := 39) hx hb dX6_moves_34 (by decide) (fun c_34 => ?_) (fun c_34 => ?_)
      · exact absurd c_34 (by decide)
      · refine lv_iconst (v := 0) hx hb dX6_moves_37 (by decide) ?_
        exact hRet _ (0, 2, f1, f2, ps, x, y, h) _ _ _ ⟨fun _ h => absurd h hI, fun _ _ => rfl, fun h => absurd hJ h⟩ hP hS dX6_moves_38
    · have hI := zif_1 c_19
      refine lv_iconst (v := 0) hx hb dX6_moves_22 (by decide) ?_
      refine lv_goto (tgt := 27) hx hb dX6_moves_23 (by decide) ?_
      refine va_put (D := D) (ci := 6) (v := .int 0) (ty := .int) (C := RX6) (T := TX6) (N := 19) hx hb hts hin6 tyX6 tyX6_ok nmX6 hown hK hP hD hS 0 rfl rfl 0 (by decide) hf45 (fun _ h9 => h9) rfl (by decide +kernel) rfl rfl (Nat.le_of_ble_eq_true rfl) dX6_moves_27 (fun H locs hP hD hS => ?_)
      have hP : va_P D vwCl [(ob, .inr (6, [.int 0, .int (nI n), .ref b1, .ref b2, .ref b3, .ref b4, .ref b5, .int gx, .int gy, .int sl, .ref bp, .int x, .int y, .int h, .ref bu, .ref bv, .int fd, .ref bk, .ref bw])), (b1, .inl (cI, 5, .inl kd)), (b2, .inl (cI, 5, .inl ln)), (b3, .inl (cI, 5, .inl lo)), (b4, .inl (cI, 5, .inl hi)), (b5, .inl (cI, 5, .inl vl)), (bp, .inl (cI, 5, .inl ps)), (bu, .inl (cI, 5, .inl f1)), (bv, .inl (cI, 5, .inl f2)), (bk, .inl (cJ, 10, .inr (.inl ky))), (bw, .inl (cI, 10, .inl wh))] H := hP
      have hD : va_D A0 [(ob, .inr (6, [.int 0, .int (nI n), .ref b1, .ref b2, .ref b3, .ref b4, .ref b5, .int gx, .int gy, .int sl, .ref bp, .int x, .int y, .int h, .ref bu, .ref bv, .int fd, .ref bk, .ref bw])), (b1, .inl (cI, 5, .inl kd)), (b2, .inl (cI, 5, .inl ln)), (b3, .inl (cI, 5, .inl lo)), (b4, .inl (cI, 5, .inl hi)), (b5, .inl (cI, 5, .inl vl)), (bp, .inl (cI, 5, .inl ps)), (bu, .inl (cI, 5, .inl f1)), (bv, .inl (cI, 5, .inl f2)), (bk, .inl (cJ, 10, .inr (.inl ky))), (bw, .inl (cI, 10, .inl wh))] := hD
      refine lv_aload_n hx hb dX6_moves_30 rfl (lv_at hl 0 rfl) ?_
      refine va_get (D := D) (ci := 6) (v := .int 0) (C := RX6) (T := TX6) (N := 19) hx hb hts hin6 hown hK hP 0 rfl rfl 0 (by decide) hf45 (fun _ h9 => h9) rfl dX6_moves_31 ?_
      refine lv_if_le (tgt := 39) hx hb dX6_moves_34 (by decide) (fun c_34 => ?_) (fun c_34 => ?_)
      · refine lv_aload_n hx hb dX6_moves_39 rfl (lv_at hl 0 rfl) ?_
        refine z_callV (As := []) (rest := []) ⟨hx, hb, hml, hown, hts⟩ hG hK hP hD hS (c_X6_findsMoves l D cI cJ ob b1 b2 b3 b4 b5 bp bu bv bk bw n 0 gx gy sl x y h fd kd ln lo hi vl ps f1 f2 ky wh (by first | assumption | omega | decide)) (cwV 0 hts gX6_moves_X6_findsMoves rfl rfl rfl (by decide +kernel) ⟨Nat.le_of_ble_eq_true rfl, Nat.le_of_ble_eq_true rfl⟩) [0, 1, 2, 3, 4, 5, 6, 7, 8, 9, 10] (by decide) rfl (fun _ => rfl) 0 rfl rfl rfl rfl hl.1 rfl (Nat.le_of_ble_eq_true rfl) dX6_moves_40 ⟨Nat.le_of_ble_eq_true rfl, Nat.le_of_ble_eq_true rfl⟩ (fun u_9 H locs hu_10 hP hD hS => ?_)
        obtain ⟨f3_11, f4_12, ps3_13, x3_14, y3_15, h3_16⟩ := u_9
        have hu_10 : (∀ j, j < n → f3_11 j = zMx kd ln vl n j) ∧ (∀ j, j < n → f4_12 j = zMy kd ln vl n j) := hu_10
        obtain ⟨hf3, hf4⟩ := hu_10
        have hP : va_P D vwCl [(ob, .inr (6, [.int 0, .int (nI n), .ref b1, .ref b2, .ref b3, .ref b4, .ref b5, .int gx, .int gy, .int sl, .ref bp, .int x3_14, .int y3_15, .int h3_16, .ref bu, .ref bv, .int fd, .ref bk, .ref bw])), (b1, .inl (cI, 5, .inl kd)), (b2, .inl (cI, 5, .inl ln)), (b3, .inl (cI, 5, .inl lo)), (b4, .inl (cI, 5, .inl hi)), (b5, .inl (cI, 5, .inl vl)), (bp, .inl (cI, 5, .inl ps3_13)), (bu, .inl (cI, 5, .inl f3_11)), (bv, .inl (cI, 5, .inl f4_12)), (bk, .inl (cJ, 10, .inr (.inl ky))), (bw, .inl (cI, 10, .inl wh))] H := hP
        have hD : va_D A0 [(ob, .inr (6, [.int 0, .int (nI n), .ref b1, .ref b2, .ref b3, .ref b4, .ref b5, .int gx, .int gy, .int sl, .ref bp, .int x3_14, .int y3_15, .int h3_16, .ref bu, .ref bv, .int fd, .ref bk, .ref bw])), (b1, .inl (cI, 5, .inl kd)), (b2, .inl (cI, 5, .inl ln)), (b3, .inl (cI, 5, .inl lo)), (b4, .inl (cI, 5, .inl hi)), (b5, .inl (cI, 5, .inl vl)), (bp, .inl (cI, 5, .inl ps3_13)), (bu, .inl (cI, 5, .inl f3_11)), (bv, .inl (cI, 5, .inl f4_12)), (bk, .inl (cJ, 10, .inr (.inl ky))), (bw, .inl (cI, 10, .inl wh))] := hD
        refine lv_iload_n hx hb dX6_moves_43 rfl (lv_at hl 2 rfl) ?_
        refine lv_if_ne (tgt := 56) hx hb dX6_moves_44 (by decide) (fun c_44 => ?_) (fun c_44 => ?_)
        · refine lv_aload_n hx hb dX6_moves_56 rfl (lv_at hl 0 rfl) ?_
          refine va_get (D := D) (ci := 6) (v := .ref bv) (C := RX6) (T := TX6) (N := 19) hx hb hts hin6 hown hK hP 0 rfl rfl 15 (by decide) hf35 (fun _ h9 => h9) rfl dX6_moves_57 ?_
          refine lv_iload_n hx hb dX6_moves_60 rfl (lv_at hl 1 rfl) ?_
          refine z_iald hx hb hK hP 8 rfl (j := jj) (by omega) (by decide) dX6_moves_61 ?_
          exact hRet _ (f4_12 jj, 0, f3_11, f4_12, ps3_13, x3_14, y3_15, h3_16) _ _ _ ⟨fun _ _ => ⟨rfl, by rw [hcl9]; first | (rw [if_pos c_44]; exact hf3 jj hjj) | (rw [if_neg c_44]; exact hf4 jj hjj)⟩, fun _ h => absurd hI h, fun h => absurd hJ h⟩ hP hS dX6_moves_62
        · refine lv_aload_n hx hb dX6_moves_47 rfl (lv_at hl 0 rfl) ?_
          refine va_get (D := D) (ci := 6) (v := .ref bu) (C := RX6) (T := TX6) (N := 19) hx hb hts hin6 hown hK hP 0 rfl rfl 14 (by decide) hf32 (fun _ h9 => h9) rfl dX6_moves_48 ?_
          refine lv_iload_n hx hb dX6_moves_51 rfl (lv_at hl 1 rfl) ?_
          refine z_iald hx hb hK hP 7 rfl (j := jj) (by omega) (by decide) dX6_moves_52 ?_
          refine lv_goto (tgt := 62) hx hb dX6_moves_53 (by decide) ?_
          exact hRet _ (f3_11 jj, 0, f3_11, f4_12, ps3_13, x3_14, y3_15, h3_16) _ _ _ ⟨fun _ _ => ⟨rfl, by rw [hcl9]; first | (rw [if_pos c_44]; exact hf3 jj hjj) | (rw [if_neg c_44]; exact hf4 jj hjj)⟩, fun _ h => absurd hI h, fun h => absurd hJ h⟩ hP hS dX6_moves_62
      · exact absurd (by decide) c_34
  · have hJ := zif_0 c_6
    refine lv_iconst (v := 1) hx hb dX6_moves_9 (by decide) ?_
    refine lv_goto (tgt := 27) hx hb dX6_moves_10 (by decide) ?_
    refine va_put (D := D) (ci := 6) (v := .int 1) (ty := .int) (C := RX6) (T := TX6) (N := 19) hx hb hts hin6 tyX6 tyX6_ok nmX6 hown hK hP hD hS 0 rfl rfl 0 (by decide) hf45 (fun _ h9 => h9) rfl (by decide +kernel) rfl rfl (Nat.le_of_ble_eq_true rfl) dX6_moves_27 (fun H locs hP hD hS => ?_)
    have hP : va_P D vwCl [(ob, .inr (6, [.int 1, .int (nI n), .ref b1, .ref b2, .ref b3, .ref b4, .ref b5, .int gx, .int gy, .int sl, .ref bp, .int x, .int y, .int h, .ref bu, .ref bv, .int fd, .ref bk, .ref bw])), (b1, .inl (cI, 5, .inl kd)), (b2, .inl (cI, 5, .inl ln)), (b3, .inl (cI, 5, .inl lo)), (b4, .inl (cI, 5, .inl hi)), (b5, .inl (cI, 5, .inl vl)), (bp, .inl (cI, 5, .inl ps)), (bu, .inl (cI, 5, .inl f1)), (bv, .inl (cI, 5, .inl f2)), (bk, .inl (cJ, 10, .inr (.inl ky))), (bw, .inl (cI, 10, .inl wh))] H := hP
    have hD : va_D A0 [(ob, .inr (6, [.int 1, .int (nI n), .ref b1, .ref b2, .ref b3, .ref b4, .ref b5, .int gx, .int gy, .int sl, .ref bp, .int x, .int y, .int h, .ref bu, .ref bv, .int fd, .ref bk, .ref bw])), (b1, .inl (cI, 5, .inl kd)), (b2, .inl (cI, 5, .inl ln)), (b3, .inl (cI, 5, .inl lo)), (b4, .inl (cI, 5, .inl hi)), (b5, .inl (cI, 5, .inl vl)), (bp, .inl (cI, 5, .inl ps)), (bu, .inl (cI, 5, .inl f1)), (bv, .inl (cI, 5, .inl f2)), (bk, .inl (cJ, 10, .inr (.inl ky))), (bw, .inl (cI, 10, .inl wh))] := hD
    refine lv_aload_n hx hb dX6_moves_30 rfl (lv_at hl 0 rfl) ?_
    refine va_get (D := D) (ci := 6) (v := .int 1) (C := RX6) (T := TX6) (N := 19) hx hb hts hin6 hown hK hP 0 rfl rfl 0 (by decide) hf45 (fun _ h9 => h9) rfl dX6_moves_31 ?_
    refine lv_if_le (tgt := 39) hx hb dX6_moves_34 (by decide) (fun c_34 => ?_) (fun c_34 => ?_)
    · exact absurd c_34 (by decide)
    · refine lv_iconst (v := 0) hx hb dX6_moves_37 (by decide) ?_
      exact hRet _ (0, 1, f1, f2, ps, x, y, h) _ _ _ ⟨fun h => absurd h hJ, fun h => absurd h hJ, fun _ => rfl⟩ hP hS dX6_moves_38


set_option maxHeartbeats 4000000 in
set_option maxRecDepth 100000 in
theorem c_X6_goal (l : Launch) (D : va_G) (cI cJ : ClassId) (ob : Nat) (b1 : Nat) (b2 : Nat) (b3 : Nat) (b4 : Nat) (b5 : Nat) (bp : Nat) (bu : Nat) (bv : Nat) (bk : Nat) (bw : Nat) (n : Nat) (th : Int32) (gx : Int32) (gy : Int32) (sl : Int32) (x : Int32) (y : Int32) (h : Int32) (fd : Int32) (kd : Nat → Int32) (ln : Nat → Int32) (lo : Nat → Int32) (hi : Nat → Int32) (vl : Nat → Int32) (ps : Nat → Int32) (f1 : Nat → Int32) (f2 : Nat → Int32) (ky : Nat → Int64) (wh : Nat → Int32) (p0 : Int32) (p1 : Int32) (hok : zOk n kd ln lo hi vl) : zM l yX6_goal wsX6_goal 5 D cI cJ [.ref ob, .int p0, .int p1] [(ob, .inr (6, [.int th, .int (nI n), .ref b1, .ref b2, .ref b3, .ref b4, .ref b5, .int gx, .int gy, .int sl, .ref bp, .int x, .int y, .int h, .ref bu, .ref bv, .int fd, .ref bk, .ref bw])), (b1, .inl (cI, 5, .inl kd)), (b2, .inl (cI, 5, .inl ln)), (b3, .inl (cI, 5, .inl lo)), (b4, .inl (cI, 5, .inl hi)), (b5, .inl (cI, 5, .inl vl)), (bp, .inl (cI, 5, .inl ps)), (bu, .inl (cI, 5, .inl f1)), (bv, .inl (cI, 5, .inl f2)), (bk, .inl (cJ, 10, .inr (.inl ky))), (bw, .inl (cI, 10, .inl wh))] (fun (u : Int64 × Int32 × Int32 × Int32 × (Nat → Int32) × Int32 × Int32 × Int32) => (zGl p0 p1 → u.2.1 = 0 ∧ u.1 = zFn kd ln vl n p0 p1 ∧ u.2.2.1 = p0 ∧ u.2.2.2.1 = p1) ∧ (¬ zGl p0 p1 → u.2.1 = 1 ∧ u.2.2.1 = gx ∧ u.2.2.2.1 = gy)) (fun (u : Int64 × Int32 × Int32 × Int32 × (Nat → Int32) × Int32 × Int32 × Int32) => some (.long u.1)) (fun (u : Int64 × Int32 × Int32 × Int32 × (Nat → Int32) × Int32 × Int32 × Int32) => [(ob, .inr (6, [.int u.2.1, .int (nI n), .ref b1, .ref b2, .ref b3, .ref b4, .ref b5, .int u.2.2.1, .int u.2.2.2.1, .int sl, .ref bp, .int u.2.2.2.2.2.1, .int u.2.2.2.2.2.2.1, .int u.2.2.2.2.2.2.2, .ref bu, .ref bv, .int fd, .ref bk, .ref bw])), (b1, .inl (cI, 5, .inl kd)), (b2, .inl (cI, 5, .inl ln)), (b3, .inl (cI, 5, .inl lo)), (b4, .inl (cI, 5, .inl hi)), (b5, .inl (cI, 5, .inl vl)), (bp, .inl (cI, 5, .inl u.2.2.2.2.1)), (bu, .inl (cI, 5, .inl f1)), (bv, .inl (cI, 5, .inl f2)), (bk, .inl (cJ, 10, .inr (.inl ky))), (bw, .inl (cI, 10, .inl wh))]) := by
  refine zM_l (cc := cX6_goal) (maxL := 3) (r := fun (u : Int64 × Int32 × Int32 × Int32 × (Nat → Int32) × Int32 × Int32 × Int32) => u.1) (by decide) rfl (Nat.le_of_ble_eq_true rfl) ?_
  intro p e s m args below meth c ls A0 Q C hl hP hS hRet
  obtain ⟨⟨hx, hb, hml, hown, hts⟩, hG, hK, hD, hlocks⟩ := C
  have hin6 : ∀ w ∈ u_ws RX6 TX6 19, w ∈ wsX6_goal := by decide +kernel
  have hf45 := hts (.fieldLink RX6 45 "ArmRoomModel" "thrown" "I") (by decide +kernel)
  have hf80 := hts (.fieldLink RX6 80 "ArmRoomModel" "goalX" "I") (by decide +kernel)
  have hf83 := hts (.fieldLink RX6 83 "ArmRoomModel" "goalY" "I") (by decide +kernel)
  have hl : lv_has ls 3 [(0, .ref ob), (1, .int p0), (2, .int p1)] := hl
  refine lv_aload_n hx hb dX6_goal_0 rfl (lv_at hl 0 rfl) ?_
  refine lv_iload_n hx hb dX6_goal_1 rfl (lv_at hl 1 rfl) ?_
  refine lv_ldc (own := RX6) (v := (-1000000)) hx hb hown (hts (.constant RX6 110 (-1000000)) (by decide +kernel)) dX6_goal_2 ?_
  refine lv_ldc (own := RX6) (v := 1000000) hx hb hown (hts (.constant RX6 111 (1000000)) (by decide +kernel)) dX6_goal_4 ?_
  refine z_callS (As := [.int p0, .int (-1000000), .int 1000000]) (rest := [.ref ob]) ⟨hx, hb, hml, hown, hts⟩ hG hK hP hD hS (c_X6_in l D cI cJ p0 (-1000000) 1000000 ) (va_cwS 3 hts gX6_goal_X6_in rfl rfl rfl (by decide +kernel) ⟨Nat.le_of_ble_eq_true rfl, Nat.le_of_ble_eq_true rfl⟩) [] (by decide) rfl (fun _ => rfl) rfl hl.1 rfl (Nat.le_of_ble_eq_true rfl) dX6_goal_6 ⟨Nat.le_of_ble_eq_true rfl, Nat.le_of_ble_eq_true rfl⟩ (fun u_1 H locs hu_2 hP hD hS => ?_)
  obtain ⟨r_3, rfl⟩ : ∃ z, z = u_1 := ⟨_, rfl⟩
  have hu_2 : (r_3 = if (-1000000) ≤ p0 ∧ p0 ≤ 1000000 then 1 else 0) := hu_2
  have e_4 := hu_2
  subst e_4
  have hP : va_P D vwCl [(ob, .inr (6, [.int th, .int (nI n), .ref b1, .ref b2, .ref b3, .ref b4, .ref b5, .int gx, .int gy, .int sl, .ref bp, .int x, .int y, .int h, .ref bu, .ref bv, .int fd, .ref bk, .ref bw])), (b1, .inl (cI, 5, .inl kd)), (b2, .inl (cI, 5, .inl ln)), (b3, .inl (cI, 5, .inl lo)), (b4, .inl (cI, 5, .inl hi)), (b5, .inl (cI, 5, .inl vl)), (bp, .inl (cI, 5, .inl ps)), (bu, .inl (cI, 5, .inl f1)), (bv, .inl (cI, 5, .inl f2)), (bk, .inl (cJ, 10, .inr (.inl ky))), (bw, .inl (cI, 10, .inl wh))] H := hP
  have hD : va_D A0 [(ob, .inr (6, [.int th, .int (nI n), .ref b1, .ref b2, .ref b3, .ref b4, .ref b5, .int gx, .int gy, .int sl, .ref bp, .int x, .int y, .int h, .ref bu, .ref bv, .int fd, .ref bk, .ref bw])), (b1, .inl (cI, 5, .inl kd)), (b2, .inl (cI, 5, .inl ln)), (b3, .inl (cI, 5, .inl lo)), (b4, .inl (cI, 5, .inl hi)), (b5, .inl (cI, 5, .inl vl)), (bp, .inl (cI, 5, .inl ps)), (bu, .inl (cI, 5, .inl f1)), (bv, .inl (cI, 5, .inl f2)), (bk, .inl (cJ, 10, .inr (.inl ky))), (bw, .inl (cI, 10, .inl wh))] := hD
  refine lv_if_eq (tgt := 27) hx hb dX6_goal_9 (by decide) (fun c_9 => ?_) (fun c_9 => ?_)
  · have hI : ¬ zGl p0 p1 := fun h => zif_0 c_9 ⟨h.1, h.2.1⟩
    refine lv_iconst (v := 1) hx hb dX6_goal_27 (by decide) ?_
    refine va_put (D := D) (ci := 6) (v := .int 1) (ty := .int) (C := RX6) (T := TX6) (N := 19) hx hb hts hin6 tyX6 tyX6_ok nmX6 hown hK hP hD hS 0 rfl rfl 0 (by decide) hf45 (fun _ h9 => h9) rfl (by decide +kernel) rfl rfl (Nat.le_of_ble_eq_true rfl) dX6_goal_28 (fun H locs hP hD hS => ?_)
    have hP : va_P D vwCl [(ob, .inr (6, [.int 1, .int (nI n), .ref b1, .ref b2, .ref b3, .ref b4, .ref b5, .int gx, .int gy, .int sl, .ref bp, .int x, .int y, .int h, .ref bu, .ref bv, .int fd, .ref bk, .ref bw])), (b1, .inl (cI, 5, .inl kd)), (b2, .inl (cI, 5, .inl ln)), (b3, .inl (cI, 5, .inl lo)), (b4, .inl (cI, 5, .inl hi)), (b5, .inl (cI, 5, .inl vl)), (bp, .inl (cI, 5, .inl ps)), (bu, .inl (cI, 5, .inl f1)), (bv, .inl (cI, 5, .inl f2)), (bk, .inl (cJ, 10, .inr (.inl ky))), (bw, .inl (cI, 10, .inl wh))] H := hP
    have hD : va_D A0 [(ob, .inr (6, [.int 1, .int (nI n), .ref b1, .ref b2, .ref b3, .ref b4, .ref b5, .int gx, .int gy, .int sl, .ref bp, .int x, .int y, .int h, .ref bu, .ref bv, .int fd, .ref bk, .ref bw])), (b1, .inl (cI, 5, .inl kd)), (b2, .inl (cI, 5, .inl ln)), (b3, .inl (cI, 5, .inl lo)), (b4, .inl (cI, 5, .inl hi)), (b5, .inl (cI, 5, .inl vl)), (bp, .inl (cI, 5, .inl ps)), (bu, .inl (cI, 5, .inl f1)), (bv, .inl (cI, 5, .inl f2)), (bk, .inl (cJ, 10, .inr (.inl ky))), (bw, .inl (cI, 10, .inl wh))] := hD
    refine lv_aload_n hx hb dX6_goal_31 rfl (lv_at hl 0 rfl) ?_
    refine va_get (D := D) (ci := 6) (v := .int 1) (C := RX6) (T := TX6) (N := 19) hx hb hts hin6 hown hK hP 0 rfl rfl 0 (by decide) hf45 (fun _ h9 => h9) rfl dX6_goal_32 ?_
    refine lv_if_le (tgt := 40) hx hb dX6_goal_35 (by decide) (fun c_35 => ?_) (fun c_35 => ?_)
    · exact absurd c_35 (by decide)
    · refine lv_lconst (v := 0) hx hb dX6_goal_38 (by decide) ?_
      exact hRet _ (0, 1, gx, gy, ps, x, y, h) _ _ _ ⟨fun h => absurd h hI, fun _ => ⟨rfl, rfl, rfl⟩⟩ hP hS dX6_goal_39
  · refine lv_iload_n hx hb dX6_goal_12 rfl (lv_at hl 2 rfl) ?_
    refine lv_ldc (own := RX6) (v := (-1000000)) hx hb hown (hts (.constant RX6 110 (-1000000)) (by decide +kernel)) dX6_goal_13 ?_
    refine lv_ldc (own := RX6) (v := 1000000) hx hb hown (hts (.constant RX6 111 (1000000)) (by decide +kernel)) dX6_goal_15 ?_
    refine z_callS (As := [.int p1, .int (-1000000), .int 1000000]) (rest := [.ref ob]) ⟨hx, hb, hml, hown, hts⟩ hG hK hP hD hS (c_X6_in l D cI cJ p1 (-1000000) 1000000 ) (va_cwS 3 hts gX6_goal_X6_in rfl rfl rfl (by decide +kernel) ⟨Nat.le_of_ble_eq_true rfl, Nat.le_of_ble_eq_true rfl⟩) [] (by decide) rfl (fun _ => rfl) rfl hl.1 rfl (Nat.le_of_ble_eq_true rfl) dX6_goal_17 ⟨Nat.le_of_ble_eq_true rfl, Nat.le_of_ble_eq_true rfl⟩ (fun u_5 H locs hu_6 hP hD hS => ?_)
    obtain ⟨r_7, rfl⟩ : ∃ z, z = u_5 := ⟨_, rfl⟩
    have hu_6 : (r_7 = if (-1000000) ≤ p1 ∧ p1 ≤ 1000000 then 1 else 0) := hu_6
    have e_8 := hu_6
    subst e_8
    have hP : va_P D vwCl [(ob, .inr (6, [.int th, .int (nI n), .ref b1, .ref b2, .ref b3, .ref b4, .ref b5, .int gx, .int gy, .int sl, .ref bp, .int x, .int y, .int h, .ref bu, .ref bv, .int fd, .ref bk, .ref bw])), (b1, .inl (cI, 5, .inl kd)), (b2, .inl (cI, 5, .inl ln)), (b3, .inl (cI, 5, .inl lo)), (b4, .inl (cI, 5, .inl hi)), (b5, .inl (cI, 5, .inl vl)), (bp, .inl (cI, 5, .inl ps)), (bu, .inl (cI, 5, .inl f1)), (bv, .inl (cI, 5, .inl f2)), (bk, .inl (cJ, 10, .inr (.inl ky))), (bw, .inl (cI, 10, .inl wh))] H := hP
    have hD : va_D A0 [(ob, .inr (6, [.int th, .int (nI n), .ref b1, .ref b2, .ref b3, .ref b4, .ref b5, .int gx, .int gy, .int sl, .ref bp, .int x, .int y, .int h, .ref bu, .ref bv, .int fd, .ref bk, .ref bw])), (b1, .inl (cI, 5, .inl kd)), (b2, .inl (cI, 5, .inl ln)), (b3, .inl (cI, 5, .inl lo)), (b4, .inl (cI, 5, .inl hi)), (b5, .inl (cI, 5, .inl vl)), (bp, .inl (cI, 5, .inl ps)), (bu, .inl (cI, 5, .inl f1)), (bv, .inl (cI, 5, .inl f2)), (bk, .inl (cJ, 10, .inr (.inl ky))), (bw, .inl (cI, 10, .inl wh))] := hD
    refine lv_if_eq (tgt := 27) hx hb dX6_goal_20 (by decide) (fun c_20 => ?_) (fun c_20 => ?_)
    · have hI : ¬ zGl p0 p1 := fun h => zif_0 c_20 ⟨h.2.2.1, h.2.2.2⟩
      refine lv_iconst (v := 1) hx hb dX6_goal_27 (by decide) ?_
      refine va_put (D := D) (ci := 6) (v := .int 1) (ty := .int) (C := RX6) (T := TX6) (N := 19) hx hb hts hin6 tyX6 tyX6_ok nmX6 hown hK hP hD hS 0 rfl rfl 0 (by decide) hf45 (fun _ h9 => h9) rfl (by decide +kernel) rfl rfl (Nat.le_of_ble_eq_true rfl) dX6_goal_28 (fun H locs hP hD hS => ?_)
      have hP : va_P D vwCl [(ob, .inr (6, [.int 1, .int (nI n), .ref b1, .ref b2, .ref b3, .ref b4, .ref b5, .int gx, .int gy, .int sl, .ref bp, .int x, .int y, .int h, .ref bu, .ref bv, .int fd, .ref bk, .ref bw])), (b1, .inl (cI, 5, .inl kd)), (b2, .inl (cI, 5, .inl ln)), (b3, .inl (cI, 5, .inl lo)), (b4, .inl (cI, 5, .inl hi)), (b5, .inl (cI, 5, .inl vl)), (bp, .inl (cI, 5, .inl ps)), (bu, .inl (cI, 5, .inl f1)), (bv, .inl (cI, 5, .inl f2)), (bk, .inl (cJ, 10, .inr (.inl ky))), (bw, .inl (cI, 10, .inl wh))] H := hP
      have hD : va_D A0 [(ob, .inr (6, [.int 1, .int (nI n), .ref b1, .ref b2, .ref b3, .ref b4, .ref b5, .int gx, .int gy, .int sl, .ref bp, .int x, .int y, .int h, .ref bu, .ref bv, .int fd, .ref bk, .ref bw])), (b1, .inl (cI, 5, .inl kd)), (b2, .inl (cI, 5, .inl ln)), (b3, .inl (cI, 5, .inl lo)), (b4, .inl (cI, 5, .inl hi)), (b5, .inl (cI, 5, .inl vl)), (bp, .inl (cI, 5, .inl ps)), (bu, .inl (cI, 5, .inl f1)), (bv, .inl (cI, 5, .inl f2)), (bk, .inl (cJ, 10, .inr (.inl ky))), (bw, .inl (cI, 10, .inl wh))] := hD
      refine lv_aload_n hx hb dX6_goal_31 rfl (lv_at hl 0 rfl) ?_
      refine va_get (D := D) (ci := 6) (v := .int 1) (C := RX6) (T := TX6) (N := 19) hx hb hts hin6 hown hK hP 0 rfl rfl 0 (by decide) hf45 (fun _ h9 => h9) rfl dX6_goal_32 ?_
      refine lv_if_le (tgt := 40) hx hb dX6_goal_35 (by decide) (fun c_35 => ?_) (fun c_35 => ?_)
      · exact absurd c_35 (by decide)
      · refine lv_lconst (v := 0) hx hb dX6_goal_38 (by decide) ?_
        exact hRet _ (0, 1, gx, gy, ps, x, y, h) _ _ _ ⟨fun h => absurd h hI, fun _ => ⟨rfl, rfl, rfl⟩⟩ hP hS dX6_goal_39
    · have hI : zGl p0 p1 := ⟨(zif_1 c_9).1, (zif_1 c_9).2, (zif_1 c_20).1, (zif_1 c_20).2⟩
      have hgb := zGl_b hI
      refine lv_iconst (v := 0) hx hb dX6_goal_23 (by decide) ?_
      refine lv_goto (tgt := 28) hx hb dX6_goal_24 (by decide) ?_
      refine va_put (D := D) (ci := 6) (v := .int 0) (ty := .int) (C := RX6) (T := TX6) (N := 19) hx hb hts hin6 tyX6 tyX6_ok nmX6 hown hK hP hD hS 0 rfl rfl 0 (by decide) hf45 (fun _ h9 => h9) rfl (by decide +kernel) rfl rfl (Nat.le_of_ble_eq_true rfl) dX6_goal_28 (fun H locs hP hD hS => ?_)
      have hP : va_P D vwCl [(ob, .inr (6, [.int 0, .int (nI n), .ref b1, .ref b2, .ref b3, .ref b4, .ref b5, .int gx, .int gy, .int sl, .ref bp, .int x, .int y, .int h, .ref bu, .ref bv, .int fd, .ref bk, .ref bw])), (b1, .inl (cI, 5, .inl kd)), (b2, .inl (cI, 5, .inl ln)), (b3, .inl (cI, 5, .inl lo)), (b4, .inl (cI, 5, .inl hi)), (b5, .inl (cI, 5, .inl vl)), (bp, .inl (cI, 5, .inl ps)), (bu, .inl (cI, 5, .inl f1)), (bv, .inl (cI, 5, .inl f2)), (bk, .inl (cJ, 10, .inr (.inl ky))), (bw, .inl (cI, 10, .inl wh))] H := hP
      have hD : va_D A0 [(ob, .inr (6, [.int 0, .int (nI n), .ref b1, .ref b2, .ref b3, .ref b4, .ref b5, .int gx, .int gy, .int sl, .ref bp, .int x, .int y, .int h, .ref bu, .ref bv, .int fd, .ref bk, .ref bw])), (b1, .inl (cI, 5, .inl kd)), (b2, .inl (cI, 5, .inl ln)), (b3, .inl (cI, 5, .inl lo)), (b4, .inl (cI, 5, .inl hi)), (b5, .inl (cI, 5, .inl vl)), (bp, .inl (cI, 5, .inl ps)), (bu, .inl (cI, 5, .inl f1)), (bv, .inl (cI, 5, .inl f2)), (bk, .inl (cJ, 10, .inr (.inl ky))), (bw, .inl (cI, 10, .inl wh))] := hD
      refine lv_aload_n hx hb dX6_goal_31 rfl (lv_at hl 0 rfl) ?_
      refine va_get (D := D) (ci := 6) (v := .int 0) (C := RX6) (T := TX6) (N := 19) hx hb hts hin6 hown hK hP 0 rfl rfl 0 (by decide) hf45 (fun _ h9 => h9) rfl dX6_goal_32 ?_
      refine lv_if_le (tgt := 40) hx hb dX6_goal_35 (by decide) (fun c_35 => ?_) (fun c_35 => ?_)
      · refine lv_aload_n hx hb dX6_goal_40 rfl (lv_at hl 0 rfl) ?_
        refine lv_iload_n hx hb dX6_goal_41 rfl (lv_at hl 1 rfl) ?_
        refine va_put (D := D) (ci := 6) (v := .int p0) (ty := .int) (C := RX6) (T := TX6) (N := 19) hx hb hts hin6 tyX6 tyX6_ok nmX6 hown hK hP hD hS 0 rfl rfl 7 (by decide) hf80 (fun _ h9 => h9) rfl (by decide +kernel) rfl rfl (Nat.le_of_ble_eq_true rfl) dX6_goal_42 (fun H locs hP hD hS => ?_)
        have hP : va_P D vwCl [(ob, .inr (6, [.int 0, .int (nI n), .ref b1, .ref b2, .ref b3, .ref b4, .ref b5, .int p0, .int gy, .int sl, .ref bp, .int x, .int y, .int h, .ref bu, .ref bv, .int fd, .ref bk, .ref bw])), (b1, .inl (cI, 5, .inl kd)), (b2, .inl (cI, 5, .inl ln)), (b3, .inl (cI, 5, .inl lo)), (b4, .inl (cI, 5, .inl hi)), (b5, .inl (cI, 5, .inl vl)), (bp, .inl (cI, 5, .inl ps)), (bu, .inl (cI, 5, .inl f1)), (bv, .inl (cI, 5, .inl f2)), (bk, .inl (cJ, 10, .inr (.inl ky))), (bw, .inl (cI, 10, .inl wh))] H := hP
        have hD : va_D A0 [(ob, .inr (6, [.int 0, .int (nI n), .ref b1, .ref b2, .ref b3, .ref b4, .ref b5, .int p0, .int gy, .int sl, .ref bp, .int x, .int y, .int h, .ref bu, .ref bv, .int fd, .ref bk, .ref bw])), (b1, .inl (cI, 5, .inl kd)), (b2, .inl (cI, 5, .inl ln)), (b3, .inl (cI, 5, .inl lo)), (b4, .inl (cI, 5, .inl hi)), (b5, .inl (cI, 5, .inl vl)), (bp, .inl (cI, 5, .inl ps)), (bu, .inl (cI, 5, .inl f1)), (bv, .inl (cI, 5, .inl f2)), (bk, .inl (cJ, 10, .inr (.inl ky))), (bw, .inl (cI, 10, .inl wh))] := hD
        refine lv_aload_n hx hb dX6_goal_45 rfl (lv_at hl 0 rfl) ?_
        refine lv_iload_n hx hb dX6_goal_46 rfl (lv_at hl 2 rfl) ?_
        refine va_put (D := D) (ci := 6) (v := .int p1) (ty := .int) (C := RX6) (T := TX6) (N := 19) hx hb hts hin6 tyX6 tyX6_ok nmX6 hown hK hP hD hS 0 rfl rfl 8 (by decide) hf83 (fun _ h9 => h9) rfl (by decide +kernel) rfl rfl (Nat.le_of_ble_eq_true rfl) dX6_goal_47 (fun H locs hP hD hS => ?_)
        have hP : va_P D vwCl [(ob, .inr (6, [.int 0, .int (nI n), .ref b1, .ref b2, .ref b3, .ref b4, .ref b5, .int p0, .int p1, .int sl, .ref bp, .int x, .int y, .int h, .ref bu, .ref bv, .int fd, .ref bk, .ref bw])), (b1, .inl (cI, 5, .inl kd)), (b2, .inl (cI, 5, .inl ln)), (b3, .inl (cI, 5, .inl lo)), (b4, .inl (cI, 5, .inl hi)), (b5, .inl (cI, 5, .inl vl)), (bp, .inl (cI, 5, .inl ps)), (bu, .inl (cI, 5, .inl f1)), (bv, .inl (cI, 5, .inl f2)), (bk, .inl (cJ, 10, .inr (.inl ky))), (bw, .inl (cI, 10, .inl wh))] H := hP
        have hD : va_D A0 [(ob, .inr (6, [.int 0, .int (nI n), .ref b1, .ref b2, .ref b3, .ref b4, .ref b5, .int p0, .int p1, .int sl, .ref bp, .int x, .int y, .int h, .ref bu, .ref bv, .int fd, .ref bk, .ref bw])), (b1, .inl (cI, 5, .inl kd)), (b2, .inl (cI, 5, .inl ln)), (b3, .inl (cI, 5, .inl lo)), (b4, .inl (cI, 5, .inl hi)), (b5, .inl (cI, 5, .inl vl)), (bp, .inl (cI, 5, .inl ps)), (bu, .inl (cI, 5, .inl f1)), (bv, .inl (cI, 5, .inl f2)), (bk, .inl (cJ, 10, .inr (.inl ky))), (bw, .inl (cI, 10, .inl wh))] := hD
        refine lv_aload_n hx hb dX6_goal_50 rfl (lv_at hl 0 rfl) ?_
        refine z_callV (As := []) (rest := []) ⟨hx, hb, hml, hown, hts⟩ hG hK hP hD hS (c_X6_farNow l D cI cJ ob b1 b2 b3 b4 b5 bp bu bv bk bw n 0 p0 p1 sl x y h fd kd ln lo hi vl ps f1 f2 ky wh (by first | assumption | omega | decide) (hgb.1) (hgb.2)) (cwV 0 hts gX6_goal_X6_farNow rfl rfl rfl (by decide +kernel) ⟨Nat.le_of_ble_eq_true rfl, Nat.le_of_ble_eq_true rfl⟩) [0, 1, 2, 3, 4, 5, 6, 7, 8, 9, 10] (by decide) rfl (fun _ => rfl) 0 rfl rfl rfl rfl hl.1 rfl (Nat.le_of_ble_eq_true rfl) dX6_goal_51 ⟨Nat.le_of_ble_eq_true rfl, Nat.le_of_ble_eq_true rfl⟩ (fun u_9 H locs hu_10 hP hD hS => ?_)
        obtain ⟨r_11, ps3_12, x3_13, y3_14, h3_15⟩ := u_9
        have hu_10 : (r_11 = zFn kd ln vl n p0 p1) := hu_10
        have e_16 := hu_10
        subst e_16
        have hP : va_P D vwCl [(ob, .inr (6, [.int 0, .int (nI n), .ref b1, .ref b2, .ref b3, .ref b4, .ref b5, .int p0, .int p1, .int sl, .ref bp, .int x3_13, .int y3_14, .int h3_15, .ref bu, .ref bv, .int fd, .ref bk, .ref bw])), (b1, .inl (cI, 5, .inl kd)), (b2, .inl (cI, 5, .inl ln)), (b3, .inl (cI, 5, .inl lo)), (b4, .inl (cI, 5, .inl hi)), (b5, .inl (cI, 5, .inl vl)), (bp, .inl (cI, 5, .inl ps3_12)), (bu, .inl (cI, 5, .inl f1)), (bv, .inl (cI, 5, .inl f2)), (bk, .inl (cJ, 10, .inr (.inl ky))), (bw, .inl (cI, 10, .inl wh))] H := hP
        have hD : va_D A0 [(ob, .inr (6, [.int 0, .int (nI n), .ref b1, .ref b2, .ref b3, .ref b4, .ref b5, .int p0, .int p1, .int sl, .ref bp, .int x3_13, .int y3_14, .int h3_15, .ref bu, .ref bv, .int fd, .ref bk, .ref bw])), (b1, .inl (cI, 5, .inl kd)), (b2, .inl (cI, 5, .inl ln)), (b3, .inl (cI, 5, .inl lo)), (b4, .inl (cI, 5, .inl hi)), (b5, .inl (cI, 5, .inl vl)), (bp, .inl (cI, 5, .inl ps3_12)), (bu, .inl (cI, 5, .inl f1)), (bv, .inl (cI, 5, .inl f2)), (bk, .inl (cJ, 10, .inr (.inl ky))), (bw, .inl (cI, 10, .inl wh))] := hD
        exact hRet _ (zFn kd ln vl n p0 p1, 0, p0, p1, ps3_12, x3_13, y3_14, h3_15) _ _ _ ⟨fun _ => ⟨rfl, rfl, rfl, rfl⟩, fun h => absurd hI h⟩ hP hS dX6_goal_54
      · exact absurd (by decide) c_35

set_option maxHeartbeats 4000000 in
set_option maxRecDepth 100000 in
theorem c_X6_far (l : Launch) (D : va_G) (cI cJ : ClassId) (ob : Nat) (b1 : Nat) (b2 : Nat) (b3 : Nat) (b4 : Nat) (b5 : Nat) (bp : Nat) (bu : Nat) (bv : Nat) (bk : Nat) (bw : Nat) (n : Nat) (th : Int32) (gx : Int32) (gy : Int32) (sl : Int32) (x : Int32) (y : Int32) (h : Int32) (fd : Int32) (kd : Nat → Int32) (ln : Nat → Int32) (lo : Nat → Int32) (hi : Nat → Int32) (vl : Nat → Int32) (ps : Nat → Int32) (f1 : Nat → Int32) (f2 : Nat → Int32) (ky : Nat → Int64) (wh : Nat → Int32) (hok : zOk n kd ln lo hi vl) (hgx : zB 1000000 gx) (hgy : zB 1000000 gy) : zM l yX6_far wsX6_far 5 D cI cJ [.ref ob] [(ob, .inr (6, [.int th, .int (nI n), .ref b1, .ref b2, .ref b3, .ref b4, .ref b5, .int gx, .int gy, .int sl, .ref bp, .int x, .int y, .int h, .ref bu, .ref bv, .int fd, .ref bk, .ref bw])), (b1, .inl (cI, 5, .inl kd)), (b2, .inl (cI, 5, .inl ln)), (b3, .inl (cI, 5, .inl lo)), (b4, .inl (cI, 5, .inl hi)), (b5, .inl (cI, 5, .inl vl)), (bp, .inl (cI, 5, .inl ps)), (bu, .inl (cI, 5, .inl f1)), (bv, .inl (cI, 5, .inl f2)), (bk, .inl (cJ, 10, .inr (.inl ky))), (bw, .inl (cI, 10, .inl wh))] (fun (u : Int64 × (Nat → Int32) × Int32 × Int32 × Int32) => (u.1 = zFn kd ln vl n gx gy)) (fun (u : Int64 × (Nat → Int32) × Int32 × Int32 × Int32) => some (.long u.1)) (fun (u : Int64 × (Nat → Int32) × Int32 × Int32 × Int32) => [(ob, .inr (6, [.int 0, .int (nI n), .ref b1, .ref b2, .ref b3, .ref b4, .ref b5, .int gx, .int gy, .int sl, .ref bp, .int u.2.2.1, .int u.2.2.2.1, .int u.2.2.2.2, .ref bu, .ref bv, .int fd, .ref bk, .ref bw])), (b1, .inl (cI, 5, .inl kd)), (b2, .inl (cI, 5, .inl ln)), (b3, .inl (cI, 5, .inl lo)), (b4, .inl (cI, 5, .inl hi)), (b5, .inl (cI, 5, .inl vl)), (bp, .inl (cI, 5, .inl u.2.1)), (bu, .inl (cI, 5, .inl f1)), (bv, .inl (cI, 5, .inl f2)), (bk, .inl (cJ, 10, .inr (.inl ky))), (bw, .inl (cI, 10, .inl wh))]) := by
  refine zM_l (cc := cX6_far) (maxL := 1) (r := fun (u : Int64 × (Nat → Int32) × Int32 × Int32 × Int32) => u.1) (by decide) rfl (Nat.le_of_ble_eq_true rfl) ?_
  intro p e s m args below meth c ls A0 Q C hl hP hS hRet
  obtain ⟨⟨hx, hb, hml, hown, hts⟩, hG, hK, hD, hlocks⟩ := C
  have hin6 : ∀ w ∈ u_ws RX6 TX6 19, w ∈ wsX6_far := by decide +kernel
  have hf45 := hts (.fieldLink RX6 45 "ArmRoomModel" "thrown" "I") (by decide +kernel)
  have hl : lv_has ls 1 [(0, .ref ob)] := hl
  refine lv_aload_n hx hb dX6_far_0 rfl (lv_at hl 0 rfl) ?_
  refine lv_iconst (v := 0) hx hb dX6_far_1 (by decide) ?_
  refine va_put (D := D) (ci := 6) (v := .int 0) (ty := .int) (C := RX6) (T := TX6) (N := 19) hx hb hts hin6 tyX6 tyX6_ok nmX6 hown hK hP hD hS 0 rfl rfl 0 (by decide) hf45 (fun _ h9 => h9) rfl (by decide +kernel) rfl rfl (Nat.le_of_ble_eq_true rfl) dX6_far_2 (fun H locs hP hD hS => ?_)
  have hP : va_P D vwCl [(ob, .inr (6, [.int 0, .int (nI n), .ref b1, .ref b2, .ref b3, .ref b4, .ref b5, .int gx, .int gy, .int sl, .ref bp, .int x, .int y, .int h, .ref bu, .ref bv, .int fd, .ref bk, .ref bw])), (b1, .inl (cI, 5, .inl kd)), (b2, .inl (cI, 5, .inl ln)), (b3, .inl (cI, 5, .inl lo)), (b4, .inl (cI, 5, .inl hi)), (b5, .inl (cI, 5, .inl vl)), (bp, .inl (cI, 5, .inl ps)), (bu, .inl (cI, 5, .inl f1)), (bv, .inl (cI, 5, .inl f2)), (bk, .inl (cJ, 10, .inr (.inl ky))), (bw, .inl (cI, 10, .inl wh))] H := hP
  have hD : va_D A0 [(ob, .inr (6, [.int 0, .int (nI n), .ref b1, .ref b2, .ref b3, .ref b4, .ref b5, .int gx, .int gy, .int sl, .ref bp, .int x, .int y, .int h, .ref bu, .ref bv, .int fd, .ref bk, .ref bw])), (b1, .inl (cI, 5, .inl kd)), (b2, .inl (cI, 5, .inl ln)), (b3, .inl (cI, 5, .inl lo)), (b4, .inl (cI, 5, .inl hi)), (b5, .inl (cI, 5, .inl vl)), (bp, .inl (cI, 5, .inl ps)), (bu, .inl (cI, 5, .inl f1)), (bv, .inl (cI, 5, .inl f2)), (bk, .inl (cJ, 10, .inr (.inl ky))), (bw, .inl (cI, 10, .inl wh))] := hD
  refine lv_aload_n hx hb dX6_far_5 rfl (lv_at hl 0 rfl) ?_
  refine z_callV (As := []) (rest := []) ⟨hx, hb, hml, hown, hts⟩ hG hK hP hD hS (c_X6_farNow l D cI cJ ob b1 b2 b3 b4 b5 bp bu bv bk bw n 0 gx gy sl x y h fd kd ln lo hi vl ps f1 f2 ky wh (by first | assumption | omega | decide) (by first | assumption | omega | decide) (by first | assumption | omega | decide)) (cwV 0 hts gX6_far_X6_farNow rfl rfl rfl (by decide +kernel) ⟨Nat.le_of_ble_eq_true rfl, Nat.le_of_ble_eq_true rfl⟩) [0, 1, 2, 3, 4, 5, 6, 7, 8, 9, 10] (by decide) rfl (fun _ => rfl) 0 rfl rfl rfl rfl hl.1 rfl (Nat.le_of_ble_eq_true rfl) dX6_far_6 ⟨Nat.le_of_ble_eq_true rfl, Nat.le_of_ble_eq_true rfl⟩ (fun u_1 H locs hu_2 hP hD hS => ?_)
  obtain ⟨r_3, ps3_4, x3_5, y3_6, h3_7⟩ := u_1
  have hu_2 : (r_3 = zFn kd ln vl n gx gy) := hu_2
  have e_8 := hu_2
  subst e_8
  have hP : va_P D vwCl [(ob, .inr (6, [.int 0, .int (nI n), .ref b1, .ref b2, .ref b3, .ref b4, .ref b5, .int gx, .int gy, .int sl, .ref bp, .int x3_5, .int y3_6, .int h3_7, .ref bu, .ref bv, .int fd, .ref bk, .ref bw])), (b1, .inl (cI, 5, .inl kd)), (b2, .inl (cI, 5, .inl ln)), (b3, .inl (cI, 5, .inl lo)), (b4, .inl (cI, 5, .inl hi)), (b5, .inl (cI, 5, .inl vl)), (bp, .inl (cI, 5, .inl ps3_4)), (bu, .inl (cI, 5, .inl f1)), (bv, .inl (cI, 5, .inl f2)), (bk, .inl (cJ, 10, .inr (.inl ky))), (bw, .inl (cI, 10, .inl wh))] H := hP
  have hD : va_D A0 [(ob, .inr (6, [.int 0, .int (nI n), .ref b1, .ref b2, .ref b3, .ref b4, .ref b5, .int gx, .int gy, .int sl, .ref bp, .int x3_5, .int y3_6, .int h3_7, .ref bu, .ref bv, .int fd, .ref bk, .ref bw])), (b1, .inl (cI, 5, .inl kd)), (b2, .inl (cI, 5, .inl ln)), (b3, .inl (cI, 5, .inl lo)), (b4, .inl (cI, 5, .inl hi)), (b5, .inl (cI, 5, .inl vl)), (bp, .inl (cI, 5, .inl ps3_4)), (bu, .inl (cI, 5, .inl f1)), (bv, .inl (cI, 5, .inl f2)), (bk, .inl (cJ, 10, .inr (.inl ky))), (bw, .inl (cI, 10, .inl wh))] := hD
  exact hRet _ (zFn kd ln vl n gx gy, ps3_4, x3_5, y3_6, h3_7) _ _ _ (rfl) hP hS dX6_far_9

set_option maxHeartbeats 4000000 in
set_option maxRecDepth 100000 in
theorem c_X6_slack (l : Launch) (D : va_G) (cI cJ : ClassId) (ob : Nat) (b1 : Nat) (b2 : Nat) (b3 : Nat) (b4 : Nat) (b5 : Nat) (bp : Nat) (bu : Nat) (bv : Nat) (bk : Nat) (bw : Nat) (n : Nat) (th : Int32) (gx : Int32) (gy : Int32) (sl : Int32) (x : Int32) (y : Int32) (h : Int32) (fd : Int32) (kd : Nat → Int32) (ln : Nat → Int32) (lo : Nat → Int32) (hi : Nat → Int32) (vl : Nat → Int32) (ps : Nat → Int32) (f1 : Nat → Int32) (f2 : Nat → Int32) (ky : Nat → Int64) (wh : Nat → Int32) (p0 : Int32)  : zM l yX6_slack wsX6_slack 1 D cI cJ [.ref ob, .int p0] [(ob, .inr (6, [.int th, .int (nI n), .ref b1, .ref b2, .ref b3, .ref b4, .ref b5, .int gx, .int gy, .int sl, .ref bp, .int x, .int y, .int h, .ref bu, .ref bv, .int fd, .ref bk, .ref bw])), (b1, .inl (cI, 5, .inl kd)), (b2, .inl (cI, 5, .inl ln)), (b3, .inl (cI, 5, .inl lo)), (b4, .inl (cI, 5, .inl hi)), (b5, .inl (cI, 5, .inl vl)), (bp, .inl (cI, 5, .inl ps)), (bu, .inl (cI, 5, .inl f1)), (bv, .inl (cI, 5, .inl f2)), (bk, .inl (cJ, 10, .inr (.inl ky))), (bw, .inl (cI, 10, .inl wh))] (fun (u : Int32 × Int32 × Int32) => ((0 ≤ p0 ∧ p0 ≤ 100000) → u.2.1 = 0 ∧ u.1 = sl ∧ u.2.2 = p0) ∧ (¬ (0 ≤ p0 ∧ p0 ≤ 100000) → u.2.1 = 1 ∧ u.2.2 = sl)) (fun (u : Int32 × Int32 × Int32) => some (.int u.1)) (fun (u : Int32 × Int32 × Int32) => [(ob, .inr (6, [.int u.2.1, .int (nI n), .ref b1, .ref b2, .ref b3, .ref b4, .ref b5, .int gx, .int gy, .int u.2.2, .ref bp, .int x, .int y, .int h, .ref bu, .ref bv, .int fd, .ref bk, .ref bw])), (b1, .inl (cI, 5, .inl kd)), (b2, .inl (cI, 5, .inl ln)), (b3, .inl (cI, 5, .inl lo)), (b4, .inl (cI, 5, .inl hi)), (b5, .inl (cI, 5, .inl vl)), (bp, .inl (cI, 5, .inl ps)), (bu, .inl (cI, 5, .inl f1)), (bv, .inl (cI, 5, .inl f2)), (bk, .inl (cJ, 10, .inr (.inl ky))), (bw, .inl (cI, 10, .inl wh))]) := by
  refine zM_i (cc := cX6_slack) (maxL := 3) (r := fun (u : Int32 × Int32 × Int32) => u.1) (by decide) rfl (Nat.le_of_ble_eq_true rfl) ?_
  intro p e s m args below meth c ls A0 Q C hl hP hS hRet
  obtain ⟨⟨hx, hb, hml, hown, hts⟩, hG, hK, hD, hlocks⟩ := C
  have hin6 : ∀ w ∈ u_ws RX6 TX6 19, w ∈ wsX6_slack := by decide +kernel
  have hf45 := hts (.fieldLink RX6 45 "ArmRoomModel" "thrown" "I") (by decide +kernel)
  have hf25 := hts (.fieldLink RX6 25 "ArmRoomModel" "slack" "I") (by decide +kernel)
  have hl : lv_has ls 3 [(0, .ref ob), (1, .int p0)] := hl
  refine lv_aload_n hx hb dX6_slack_0 rfl (lv_at hl 0 rfl) ?_
  refine lv_iload_n hx hb dX6_slack_1 rfl (lv_at hl 1 rfl) ?_
  refine lv_iconst (v := 0) hx hb dX6_slack_2 (by decide) ?_
  refine lv_ldc (own := RX6) (v := 100000) hx hb hown (hts (.constant RX6 122 (100000)) (by decide +kernel)) dX6_slack_3 ?_
  refine z_callS (As := [.int p0, .int 0, .int 100000]) (rest := [.ref ob]) ⟨hx, hb, hml, hown, hts⟩ hG hK hP hD hS (c_X6_in l D cI cJ p0 0 100000 ) (va_cwS 3 hts gX6_slack_X6_in rfl rfl rfl (by decide +kernel) ⟨Nat.le_of_ble_eq_true rfl, Nat.le_of_ble_eq_true rfl⟩) [] (by decide) rfl (fun _ => rfl) rfl hl.1 rfl (Nat.le_of_ble_eq_true rfl) dX6_slack_5 ⟨Nat.le_of_ble_eq_true rfl, Nat.le_of_ble_eq_true rfl⟩ (fun u_1 H locs hu_2 hP hD hS => ?_)
  obtain ⟨r_3, rfl⟩ : ∃ z, z = u_1 := ⟨_, rfl⟩
  have hu_2 : (r_3 = if 0 ≤ p0 ∧ p0 ≤ 100000 then 1 else 0) := hu_2
  have e_4 := hu_2
  subst e_4
  have hP : va_P D vwCl [(ob, .inr (6, [.int th, .int (nI n), .ref b1, .ref b2, .ref b3, .ref b4, .ref b5, .int gx, .int gy, .int sl, .ref bp, .int x, .int y, .int h, .ref bu, .ref bv, .int fd, .ref bk, .ref bw])), (b1, .inl (cI, 5, .inl kd)), (b2, .inl (cI, 5, .inl ln)), (b3, .inl (cI, 5, .inl lo)), (b4, .inl (cI, 5, .inl hi)), (b5, .inl (cI, 5, .inl vl)), (bp, .inl (cI, 5, .inl ps)), (bu, .inl (cI, 5, .inl f1)), (bv, .inl (cI, 5, .inl f2)), (bk, .inl (cJ, 10, .inr (.inl ky))), (bw, .inl (cI, 10, .inl wh))] H := hP
  have hD : va_D A0 [(ob, .inr (6, [.int th, .int (nI n), .ref b1, .ref b2, .ref b3, .ref b4, .ref b5, .int gx, .int gy, .int sl, .ref bp, .int x, .int y, .int h, .ref bu, .ref bv, .int fd, .ref bk, .ref bw])), (b1, .inl (cI, 5, .inl kd)), (b2, .inl (cI, 5, .inl ln)), (b3, .inl (cI, 5, .inl lo)), (b4, .inl (cI, 5, .inl hi)), (b5, .inl (cI, 5, .inl vl)), (bp, .inl (cI, 5, .inl ps)), (bu, .inl (cI, 5, .inl f1)), (bv, .inl (cI, 5, .inl f2)), (bk, .inl (cJ, 10, .inr (.inl ky))), (bw, .inl (cI, 10, .inl wh))] := hD
  refine lv_if_eq (tgt := 15) hx hb dX6_slack_8 (by decide) (fun c_8 => ?_) (fun c_8 => ?_)
  · have hI := zif_0 c_8
    refine lv_iconst (v := 1) hx hb dX6_slack_15 (by decide) ?_
    refine va_put (D := D) (ci := 6) (v := .int 1) (ty := .int) (C := RX6) (T := TX6) (N := 19) hx hb hts hin6 tyX6 tyX6_ok nmX6 hown hK hP hD hS 0 rfl rfl 0 (by decide) hf45 (fun _ h9 => h9) rfl (by decide +kernel) rfl rfl (Nat.le_of_ble_eq_true rfl) dX6_slack_16 (fun H locs hP hD hS => ?_)
    have hP : va_P D vwCl [(ob, .inr (6, [.int 1, .int (nI n), .ref b1, .ref b2, .ref b3, .ref b4, .ref b5, .int gx, .int gy, .int sl, .ref bp, .int x, .int y, .int h, .ref bu, .ref bv, .int fd, .ref bk, .ref bw])), (b1, .inl (cI, 5, .inl kd)), (b2, .inl (cI, 5, .inl ln)), (b3, .inl (cI, 5, .inl lo)), (b4, .inl (cI, 5, .inl hi)), (b5, .inl (cI, 5, .inl vl)), (bp, .inl (cI, 5, .inl ps)), (bu, .inl (cI, 5, .inl f1)), (bv, .inl (cI, 5, .inl f2)), (bk, .inl (cJ, 10, .inr (.inl ky))), (bw, .inl (cI, 10, .inl wh))] H := hP
    have hD : va_D A0 [(ob, .inr (6, [.int 1, .int (nI n), .ref b1, .ref b2, .ref b3, .ref b4, .ref b5, .int gx, .int gy, .int sl, .ref bp, .int x, .int y, .int h, .ref bu, .ref bv, .int fd, .ref bk, .ref bw])), (b1, .inl (cI, 5, .inl kd)), (b2, .inl (cI, 5, .inl ln)), (b3, .inl (cI, 5, .inl lo)), (b4, .inl (cI, 5, .inl hi)), (b5, .inl (cI, 5, .inl vl)), (bp, .inl (cI, 5, .inl ps)), (bu, .inl (cI, 5, .inl f1)), (bv, .inl (cI, 5, .inl f2)), (bk, .inl (cJ, 10, .inr (.inl ky))), (bw, .inl (cI, 10, .inl wh))] := hD
    refine lv_aload_n hx hb dX6_slack_19 rfl (lv_at hl 0 rfl) ?_
    refine va_get (D := D) (ci := 6) (v := .int 1) (C := RX6) (T := TX6) (N := 19) hx hb hts hin6 hown hK hP 0 rfl rfl 0 (by decide) hf45 (fun _ h9 => h9) rfl dX6_slack_20 ?_
    refine lv_if_le (tgt := 28) hx hb dX6_slack_23 (by decide) (fun c_23 => ?_) (fun c_23 => ?_)
    · exact absurd c_23 (by decide)
    · refine lv_iconst (v := 0) hx hb dX6_slack_26 (by decide) ?_
      exact hRet _ (0, 1, sl) _ _ _ ⟨fun h => absurd h hI, fun _ => ⟨rfl, rfl⟩⟩ hP hS dX6_slack_27
  · have hI := zif_1 c_8
    refine lv_iconst (v := 0) hx hb dX6_slack_11 (by decide) ?_
    refine lv_goto (tgt := 16) hx hb dX6_slack_12 (by decide) ?_
    refine va_put (D := D) (ci := 6) (v := .int 0) (ty := .int) (C := RX6) (T := TX6) (N := 19) hx hb hts hin6 tyX6 tyX6_ok nmX6 hown hK hP hD hS 0 rfl rfl 0 (by decide) hf45 (fun _ h9 => h9) rfl (by decide +kernel) rfl rfl (Nat.le_of_ble_eq_true rfl) dX6_slack_16 (fun H locs hP hD hS => ?_)
    have hP : va_P D vwCl [(ob, .inr (6, [.int 0, .int (nI n), .ref b1, .ref b2, .ref b3, .ref b4, .ref b5, .int gx, .int gy, .int sl, .ref bp, .int x, .int y, .int h, .ref bu, .ref bv, .int fd, .ref bk, .ref bw])), (b1, .inl (cI, 5, .inl kd)), (b2, .inl (cI, 5, .inl ln)), (b3, .inl (cI, 5, .inl lo)), (b4, .inl (cI, 5, .inl hi)), (b5, .inl (cI, 5, .inl vl)), (bp, .inl (cI, 5, .inl ps)), (bu, .inl (cI, 5, .inl f1)), (bv, .inl (cI, 5, .inl f2)), (bk, .inl (cJ, 10, .inr (.inl ky))), (bw, .inl (cI, 10, .inl wh))] H := hP
    have hD : va_D A0 [(ob, .inr (6, [.int 0, .int (nI n), .ref b1, .ref b2, .ref b3, .ref b4, .ref b5, .int gx, .int gy, .int sl, .ref bp, .int x, .int y, .int h, .ref bu, .ref bv, .int fd, .ref bk, .ref bw])), (b1, .inl (cI, 5, .inl kd)), (b2, .inl (cI, 5, .inl ln)), (b3, .inl (cI, 5, .inl lo)), (b4, .inl (cI, 5, .inl hi)), (b5, .inl (cI, 5, .inl vl)), (bp, .inl (cI, 5, .inl ps)), (bu, .inl (cI, 5, .inl f1)), (bv, .inl (cI, 5, .inl f2)), (bk, .inl (cJ, 10, .inr (.inl ky))), (bw, .inl (cI, 10, .inl wh))] := hD
    refine lv_aload_n hx hb dX6_slack_19 rfl (lv_at hl 0 rfl) ?_
    refine va_get (D := D) (ci := 6) (v := .int 0) (C := RX6) (T := TX6) (N := 19) hx hb hts hin6 hown hK hP 0 rfl rfl 0 (by decide) hf45 (fun _ h9 => h9) rfl dX6_slack_20 ?_
    refine lv_if_le (tgt := 28) hx hb dX6_slack_23 (by decide) (fun c_23 => ?_) (fun c_23 => ?_)
    · refine lv_aload_n hx hb dX6_slack_28 rfl (lv_at hl 0 rfl) ?_
      refine va_get (D := D) (ci := 6) (v := .int sl) (C := RX6) (T := TX6) (N := 19) hx hb hts hin6 hown hK hP 0 rfl rfl 9 (by decide) hf25 (fun _ h9 => h9) rfl dX6_slack_29 ?_
      refine lv_istore_n (lv' := [(2, .int sl), (0, .ref ob), (1, .int p0)]) hx hb dX6_slack_32 rfl hl (by decide) rfl (fun ls hl => ?_)
      refine lv_aload_n hx hb dX6_slack_33 rfl (lv_at hl 1 rfl) ?_
      refine lv_iload_n hx hb dX6_slack_34 rfl (lv_at hl 2 rfl) ?_
      refine va_put (D := D) (ci := 6) (v := .int p0) (ty := .int) (C := RX6) (T := TX6) (N := 19) hx hb hts hin6 tyX6 tyX6_ok nmX6 hown hK hP hD hS 0 rfl rfl 9 (by decide) hf25 (fun _ h9 => h9) rfl (by decide +kernel) rfl rfl (Nat.le_of_ble_eq_true rfl) dX6_slack_35 (fun H locs hP hD hS => ?_)
      have hP : va_P D vwCl [(ob, .inr (6, [.int 0, .int (nI n), .ref b1, .ref b2, .ref b3, .ref b4, .ref b5, .int gx, .int gy, .int p0, .ref bp, .int x, .int y, .int h, .ref bu, .ref bv, .int fd, .ref bk, .ref bw])), (b1, .inl (cI, 5, .inl kd)), (b2, .inl (cI, 5, .inl ln)), (b3, .inl (cI, 5, .inl lo)), (b4, .inl (cI, 5, .inl hi)), (b5, .inl (cI, 5, .inl vl)), (bp, .inl (cI, 5, .inl ps)), (bu, .inl (cI, 5, .inl f1)), (bv, .inl (cI, 5, .inl f2)), (bk, .inl (cJ, 10, .inr (.inl ky))), (bw, .inl (cI, 10, .inl wh))] H := hP
      have hD : va_D A0 [(ob, .inr (6, [.int 0, .int (nI n), .ref b1, .ref b2, .ref b3, .ref b4, .ref b5, .int gx, .int gy, .int p0, .ref bp, .int x, .int y, .int h, .ref bu, .ref bv, .int fd, .ref bk, .ref bw])), (b1, .inl (cI, 5, .inl kd)), (b2, .inl (cI, 5, .inl ln)), (b3, .inl (cI, 5, .inl lo)), (b4, .inl (cI, 5, .inl hi)), (b5, .inl (cI, 5, .inl vl)), (bp, .inl (cI, 5, .inl ps)), (bu, .inl (cI, 5, .inl f1)), (bv, .inl (cI, 5, .inl f2)), (bk, .inl (cJ, 10, .inr (.inl ky))), (bw, .inl (cI, 10, .inl wh))] := hD
      refine lv_iload_n hx hb dX6_slack_38 rfl (lv_at hl 0 rfl) ?_
      exact hRet _ (sl, 0, p0) _ _ _ ⟨fun _ => ⟨rfl, rfl, rfl⟩, fun h => absurd hI h⟩ hP hS dX6_slack_39
    · exact absurd (by decide) c_23
