set_option maxHeartbeats 4000000 in
set_option maxRecDepth 100000 in
theorem c_X6_joint (l : Launch) (D : va_G) (cI cJ : ClassId) (ob : Nat) (b1 : Nat) (b2 : Nat) (b3 : Nat) (b4 : Nat) (b5 : Nat) (bp : Nat) (bu : Nat) (bv : Nat) (bk : Nat) (bw : Nat) (n : Nat) (th : Int32) (gx : Int32) (gy : Int32) (sl : Int32) (x : Int32) (y : Int32) (h : Int32) (fd : Int32) (kd : Nat → Int32) (ln : Nat → Int32) (lo : Nat → Int32) (hi : Nat → Int32) (vl : Nat → Int32) (ps : Nat → Int32) (f1 : Nat → Int32) (f2 : Nat → Int32) (ky : Nat → Int64) (wh : Nat → Int32) (p0 : Int32) (p1 : Int32) (p2 : Int32) (p3 : Int32) (hn : n ≤ 5) : zM l yX6_joint wsX6_joint 2 D cI cJ [.ref ob, .int p0, .int p1, .int p2, .int p3] [(ob, .inr (6, [.int th, .int (nI n), .ref b1, .ref b2, .ref b3, .ref b4, .ref b5, .int gx, .int gy, .int sl, .ref bp, .int x, .int y, .int h, .ref bu, .ref bv, .int fd, .ref bk, .ref bw])), (b1, .inl (cI, 5, .inl kd)), (b2, .inl (cI, 5, .inl ln)), (b3, .inl (cI, 5, .inl lo)), (b4, .inl (cI, 5, .inl hi)), (b5, .inl (cI, 5, .inl vl)), (bp, .inl (cI, 5, .inl ps)), (bu, .inl (cI, 5, .inl f1)), (bv, .inl (cI, 5, .inl f2)), (bk, .inl (cJ, 10, .inr (.inl ky))), (bw, .inl (cI, 10, .inl wh))] (fun (u : Int32 × Int32 × Nat × (Nat → Int32) × (Nat → Int32) × (Nat → Int32) × (Nat → Int32) × (Nat → Int32)) => (zGd p0 p1 p2 p3 → n < 5 → u.2.1 = 0 ∧ u.1 = nI n ∧ u.2.2.1 = n + 1 ∧ u.2.2.2.1 = upd kd n p0 ∧ u.2.2.2.2.1 = upd ln n p1 ∧ u.2.2.2.2.2.1 = upd lo n p2 ∧ u.2.2.2.2.2.2.1 = upd hi n p3 ∧ u.2.2.2.2.2.2.2 = upd vl n (zHeldC p2 p3 0)) ∧ (zGd p0 p1 p2 p3 → ¬ n < 5 → u.2.1 = 2 ∧ u.2.2.1 = n ∧ u.2.2.2.1 = kd ∧ u.2.2.2.2.1 = ln ∧ u.2.2.2.2.2.1 = lo ∧ u.2.2.2.2.2.2.1 = hi ∧ u.2.2.2.2.2.2.2 = vl) ∧ (¬ zGd p0 p1 p2 p3 → u.2.1 = 1 ∧ u.2.2.1 = n ∧ u.2.2.2.1 = kd ∧ u.2.2.2.2.1 = ln ∧ u.2.2.2.2.2.1 = lo ∧ u.2.2.2.2.2.2.1 = hi ∧ u.2.2.2.2.2.2.2 = vl)) (fun (u : Int32 × Int32 × Nat × (Nat → Int32) × (Nat → Int32) × (Nat → Int32) × (Nat → Int32) × (Nat → Int32)) => some (.int u.1)) (fun (u : Int32 × Int32 × Nat × (Nat → Int32) × (Nat → Int32) × (Nat → Int32) × (Nat → Int32) × (Nat → Int32)) => [(ob, .inr (6, [.int u.2.1, .int (nI u.2.2.1), .ref b1, .ref b2, .ref b3, .ref b4, .ref b5, .int gx, .int gy, .int sl, .ref bp, .int x, .int y, .int h, .ref bu, .ref bv, .int fd, .ref bk, .ref bw])), (b1, .inl (cI, 5, .inl u.2.2.2.1)), (b2, .inl (cI, 5, .inl u.2.2.2.2.1)), (b3, .inl (cI, 5, .inl u.2.2.2.2.2.1)), (b4, .inl (cI, 5, .inl u.2.2.2.2.2.2.1)), (b5, .inl (cI, 5, .inl u.2.2.2.2.2.2.2)), (bp, .inl (cI, 5, .inl ps)), (bu, .inl (cI, 5, .inl f1)), (bv, .inl (cI, 5, .inl f2)), (bk, .inl (cJ, 10, .inr (.inl ky))), (bw, .inl (cI, 10, .inl wh))]) := by
  refine zM_i (cc := cX6_joint) (maxL := 6) (r := fun (u : Int32 × Int32 × Nat × (Nat → Int32) × (Nat → Int32) × (Nat → Int32) × (Nat → Int32) × (Nat → Int32)) => u.1) (by decide) rfl (Nat.le_of_ble_eq_true rfl) ?_
  intro p e s m args below meth c ls A0 Q C hl hP hS hRet
  obtain ⟨⟨hx, hb, hml, hown, hts⟩, hG, hK, hD, hlocks⟩ := C
  have hin6 : ∀ w ∈ u_ws RX6 TX6 19, w ∈ wsX6_joint := by decide +kernel
  have hf45 := hts (.fieldLink RX6 45 "ArmRoomModel" "thrown" "I") (by decide +kernel)
  have hf48 := hts (.fieldLink RX6 48 "ArmRoomModel" "joints" "I") (by decide +kernel)
  have hf7 := hts (.fieldLink RX6 7 "ArmRoomModel" "kind" "[I") (by decide +kernel)
  have hf13 := hts (.fieldLink RX6 13 "ArmRoomModel" "length" "[I") (by decide +kernel)
  have hf16 := hts (.fieldLink RX6 16 "ArmRoomModel" "low" "[I") (by decide +kernel)
  have hf19 := hts (.fieldLink RX6 19 "ArmRoomModel" "high" "[I") (by decide +kernel)
  have hf22 := hts (.fieldLink RX6 22 "ArmRoomModel" "value" "[I") (by decide +kernel)
  have hl : lv_has ls 6 [(0, .ref ob), (1, .int p0), (2, .int p1), (3, .int p2), (4, .int p3)] := hl
  refine lv_iload_n hx hb dX6_joint_0 rfl (lv_at hl 1 rfl) ?_
  refine lv_iconst (v := 0) hx hb dX6_joint_1 (by decide) ?_
  refine lv_iconst (v := 1) hx hb dX6_joint_2 (by decide) ?_
  refine z_callS (As := [.int p0, .int 0, .int 1]) (rest := []) ⟨hx, hb, hml, hown, hts⟩ hG hK hP hD hS (c_X6_in l D cI cJ p0 0 1 ) (va_cwS 3 hts gX6_joint_X6_in rfl rfl rfl (by decide +kernel) ⟨Nat.le_of_ble_eq_true rfl, Nat.le_of_ble_eq_true rfl⟩) [] (by decide) rfl (fun _ => rfl) rfl hl.1 rfl (Nat.le_of_ble_eq_true rfl) dX6_joint_3 ⟨Nat.le_of_ble_eq_true rfl, Nat.le_of_ble_eq_true rfl⟩ (fun u_1 H locs hu_2 hP hD hS => ?_)
  obtain ⟨r_3, rfl⟩ : ∃ z, z = u_1 := ⟨_, rfl⟩
  have hu_2 : (r_3 = if 0 ≤ p0 ∧ p0 ≤ 1 then 1 else 0) := hu_2
  have e_4 := hu_2
  subst e_4
  have hP : va_P D vwCl [(ob, .inr (6, [.int th, .int (nI n), .ref b1, .ref b2, .ref b3, .ref b4, .ref b5, .int gx, .int gy, .int sl, .ref bp, .int x, .int y, .int h, .ref bu, .ref bv, .int fd, .ref bk, .ref bw])), (b1, .inl (cI, 5, .inl kd)), (b2, .inl (cI, 5, .inl ln)), (b3, .inl (cI, 5, .inl lo)), (b4, .inl (cI, 5, .inl hi)), (b5, .inl (cI, 5, .inl vl)), (bp, .inl (cI, 5, .inl ps)), (bu, .inl (cI, 5, .inl f1)), (bv, .inl (cI, 5, .inl f2)), (bk, .inl (cJ, 10, .inr (.inl ky))), (bw, .inl (cI, 10, .inl wh))] H := hP
  have hD : va_D A0 [(ob, .inr (6, [.int th, .int (nI n), .ref b1, .ref b2, .ref b3, .ref b4, .ref b5, .int gx, .int gy, .int sl, .ref bp, .int x, .int y, .int h, .ref bu, .ref bv, .int fd, .ref bk, .ref bw])), (b1, .inl (cI, 5, .inl kd)), (b2, .inl (cI, 5, .inl ln)), (b3, .inl (cI, 5, .inl lo)), (b4, .inl (cI, 5, .inl hi)), (b5, .inl (cI, 5, .inl vl)), (bp, .inl (cI, 5, .inl ps)), (bu, .inl (cI, 5, .inl f1)), (bv, .inl (cI, 5, .inl f2)), (bk, .inl (cJ, 10, .inr (.inl ky))), (bw, .inl (cI, 10, .inl wh))] := hD
  refine lv_if_eq (tgt := 58) hx hb dX6_joint_6 (by decide) (fun c_6 => ?_) (fun c_6 => ?_)
  · have hG9 : ¬ zGd p0 p1 p2 p3 := fun h => zif_0 c_6 (zk01.mpr h.1)
    refine lv_iconst (v := 0) hx hb dX6_joint_58 (by decide) ?_
    refine lv_istore (lv' := [(5, .int 0), (0, .ref ob), (1, .int p0), (2, .int p1), (3, .int p2), (4, .int p3)]) hx hb dX6_joint_59 hl (by decide) rfl (fun ls hl => ?_)
    refine lv_aload_n hx hb dX6_joint_61 rfl (lv_at hl 1 rfl) ?_
    refine lv_iload hx hb dX6_joint_62 (lv_at hl 0 rfl) ?_
    refine lv_if_ne (tgt := 71) hx hb dX6_joint_64 (by decide) (fun c_64 => ?_) (fun c_64 => ?_)
    · exact absurd (by decide) c_64
    · refine lv_iconst (v := 1) hx hb dX6_joint_67 (by decide) ?_
      refine lv_goto (tgt := 84) hx hb dX6_joint_68 (by decide) ?_
      refine va_put (D := D) (ci := 6) (v := .int 1) (ty := .int) (C := RX6) (T := TX6) (N := 19) hx hb hts hin6 tyX6 tyX6_ok nmX6 hown hK hP hD hS 0 rfl rfl 0 (by decide) hf45 (fun _ h9 => h9) rfl (by decide +kernel) rfl rfl (Nat.le_of_ble_eq_true rfl) dX6_joint_84 (fun H locs hP hD hS => ?_)
      have hP : va_P D vwCl [(ob, .inr (6, [.int 1, .int (nI n), .ref b1, .ref b2, .ref b3, .ref b4, .ref b5, .int gx, .int gy, .int sl, .ref bp, .int x, .int y, .int h, .ref bu, .ref bv, .int fd, .ref bk, .ref bw])), (b1, .inl (cI, 5, .inl kd)), (b2, .inl (cI, 5, .inl ln)), (b3, .inl (cI, 5, .inl lo)), (b4, .inl (cI, 5, .inl hi)), (b5, .inl (cI, 5, .inl vl)), (bp, .inl (cI, 5, .inl ps)), (bu, .inl (cI, 5, .inl f1)), (bv, .inl (cI, 5, .inl f2)), (bk, .inl (cJ, 10, .inr (.inl ky))), (bw, .inl (cI, 10, .inl wh))] H := hP
      have hD : va_D A0 [(ob, .inr (6, [.int 1, .int (nI n), .ref b1, .ref b2, .ref b3, .ref b4, .ref b5, .int gx, .int gy, .int sl, .ref bp, .int x, .int y, .int h, .ref bu, .ref bv, .int fd, .ref bk, .ref bw])), (b1, .inl (cI, 5, .inl kd)), (b2, .inl (cI, 5, .inl ln)), (b3, .inl (cI, 5, .inl lo)), (b4, .inl (cI, 5, .inl hi)), (b5, .inl (cI, 5, .inl vl)), (bp, .inl (cI, 5, .inl ps)), (bu, .inl (cI, 5, .inl f1)), (bv, .inl (cI, 5, .inl f2)), (bk, .inl (cJ, 10, .inr (.inl ky))), (bw, .inl (cI, 10, .inl wh))] := hD
      refine lv_aload_n hx hb dX6_joint_87 rfl (lv_at hl 1 rfl) ?_
      refine va_get (D := D) (ci := 6) (v := .int 1) (C := RX6) (T := TX6) (N := 19) hx hb hts hin6 hown hK hP 0 rfl rfl 0 (by decide) hf45 (fun _ h9 => h9) rfl dX6_joint_88 ?_
      refine lv_if_le (tgt := 96) hx hb dX6_joint_91 (by decide) (fun c_91 => ?_) (fun c_91 => ?_)
      · exact absurd c_91 (by decide)
      · refine lv_iconst (v := 0) hx hb dX6_joint_94 (by decide) ?_
        exact hRet _ (0, 1, n, kd, ln, lo, hi, vl) _ _ _ ⟨fun h => absurd h hG9, fun h => absurd h hG9, fun _ => ⟨rfl, rfl, rfl, rfl, rfl, rfl, rfl⟩⟩ hP hS dX6_joint_95
  · refine lv_iload_n hx hb dX6_joint_9 rfl (lv_at hl 2 rfl) ?_
    refine lv_iconst (v := 0) hx hb dX6_joint_10 (by decide) ?_
    refine lv_sipush (v := 200) hx hb dX6_joint_11 (by decide) ?_
    refine z_callS (As := [.int p1, .int 0, .int 200]) (rest := []) ⟨hx, hb, hml, hown, hts⟩ hG hK hP hD hS (c_X6_in l D cI cJ p1 0 200 ) (va_cwS 3 hts gX6_joint_X6_in rfl rfl rfl (by decide +kernel) ⟨Nat.le_of_ble_eq_true rfl, Nat.le_of_ble_eq_true rfl⟩) [] (by decide) rfl (fun _ => rfl) rfl hl.1 rfl (Nat.le_of_ble_eq_true rfl) dX6_joint_14 ⟨Nat.le_of_ble_eq_true rfl, Nat.le_of_ble_eq_true rfl⟩ (fun u_5 H locs hu_6 hP hD hS => ?_)
    obtain ⟨r_7, rfl⟩ : ∃ z, z = u_5 := ⟨_, rfl⟩
    have hu_6 : (r_7 = if 0 ≤ p1 ∧ p1 ≤ 200 then 1 else 0) := hu_6
    have e_8 := hu_6
    subst e_8
    have hP : va_P D vwCl [(ob, .inr (6, [.int th, .int (nI n), .ref b1, .ref b2, .ref b3, .ref b4, .ref b5, .int gx, .int gy, .int sl, .ref bp, .int x, .int y, .int h, .ref bu, .ref bv, .int fd, .ref bk, .ref bw])), (b1, .inl (cI, 5, .inl kd)), (b2, .inl (cI, 5, .inl ln)), (b3, .inl (cI, 5, .inl lo)), (b4, .inl (cI, 5, .inl hi)), (b5, .inl (cI, 5, .inl vl)), (bp, .inl (cI, 5, .inl ps)), (bu, .inl (cI, 5, .inl f1)), (bv, .inl (cI, 5, .inl f2)), (bk, .inl (cJ, 10, .inr (.inl ky))), (bw, .inl (cI, 10, .inl wh))] H := hP
    have hD : va_D A0 [(ob, .inr (6, [.int th, .int (nI n), .ref b1, .ref b2, .ref b3, .ref b4, .ref b5, .int gx, .int gy, .int sl, .ref bp, .int x, .int y, .int h, .ref bu, .ref bv, .int fd, .ref bk, .ref bw])), (b1, .inl (cI, 5, .inl kd)), (b2, .inl (cI, 5, .inl ln)), (b3, .inl (cI, 5, .inl lo)), (b4, .inl (cI, 5, .inl hi)), (b5, .inl (cI, 5, .inl vl)), (bp, .inl (cI, 5, .inl ps)), (bu, .inl (cI, 5, .inl f1)), (bv, .inl (cI, 5, .inl f2)), (bk, .inl (cJ, 10, .inr (.inl ky))), (bw, .inl (cI, 10, .inl wh))] := hD
    refine lv_if_eq (tgt := 58) hx hb dX6_joint_17 (by decide) (fun c_17 => ?_) (fun c_17 => ?_)
    · have hG9 : ¬ zGd p0 p1 p2 p3 := fun h => zif_0 c_17 h.2.1
      refine lv_iconst (v := 0) hx hb dX6_joint_58 (by decide) ?_
      refine lv_istore (lv' := [(5, .int 0), (0, .ref ob), (1, .int p0), (2, .int p1), (3, .int p2), (4, .int p3)]) hx hb dX6_joint_59 hl (by decide) rfl (fun ls hl => ?_)
      refine lv_aload_n hx hb dX6_joint_61 rfl (lv_at hl 1 rfl) ?_
      refine lv_iload hx hb dX6_joint_62 (lv_at hl 0 rfl) ?_
      refine lv_if_ne (tgt := 71) hx hb dX6_joint_64 (by decide) (fun c_64 => ?_) (fun c_64 => ?_)
      · exact absurd (by decide) c_64
      · refine lv_iconst (v := 1) hx hb dX6_joint_67 (by decide) ?_
        refine lv_goto (tgt := 84) hx hb dX6_joint_68 (by decide) ?_
        refine va_put (D := D) (ci := 6) (v := .int 1) (ty := .int) (C := RX6) (T := TX6) (N := 19) hx hb hts hin6 tyX6 tyX6_ok nmX6 hown hK hP hD hS 0 rfl rfl 0 (by decide) hf45 (fun _ h9 => h9) rfl (by decide +kernel) rfl rfl (Nat.le_of_ble_eq_true rfl) dX6_joint_84 (fun H locs hP hD hS => ?_)
        have hP : va_P D vwCl [(ob, .inr (6, [.int 1, .int (nI n), .ref b1, .ref b2, .ref b3, .ref b4, .ref b5, .int gx, .int gy, .int sl, .ref bp, .int x, .int y, .int h, .ref bu, .ref bv, .int fd, .ref bk, .ref bw])), (b1, .inl (cI, 5, .inl kd)), (b2, .inl (cI, 5, .inl ln)), (b3, .inl (cI, 5, .inl lo)), (b4, .inl (cI, 5, .inl hi)), (b5, .inl (cI, 5, .inl vl)), (bp, .inl (cI, 5, .inl ps)), (bu, .inl (cI, 5, .inl f1)), (bv, .inl (cI, 5, .inl f2)), (bk, .inl (cJ, 10, .inr (.inl ky))), (bw, .inl (cI, 10, .inl wh))] H := hP
        have hD : va_D A0 [(ob, .inr (6, [.int 1, .int (nI n), .ref b1, .ref b2, .ref b3, .ref b4, .ref b5, .int gx, .int gy, .int sl, .ref bp, .int x, .int y, .int h, .ref bu, .ref bv, .int fd, .ref bk, .ref bw])), (b1, .inl (cI, 5, .inl kd)), (b2, .inl (cI, 5, .inl ln)), (b3, .inl (cI, 5, .inl lo)), (b4, .inl (cI, 5, .inl hi)), (b5, .inl (cI, 5, .inl vl)), (bp, .inl (cI, 5, .inl ps)), (bu, .inl (cI, 5, .inl f1)), (bv, .inl (cI, 5, .inl f2)), (bk, .inl (cJ, 10, .inr (.inl ky))), (bw, .inl (cI, 10, .inl wh))] := hD
        refine lv_aload_n hx hb dX6_joint_87 rfl (lv_at hl 1 rfl) ?_
        refine va_get (D := D) (ci := 6) (v := .int 1) (C := RX6) (T := TX6) (N := 19) hx hb hts hin6 hown hK hP 0 rfl rfl 0 (by decide) hf45 (fun _ h9 => h9) rfl dX6_joint_88 ?_
        refine lv_if_le (tgt := 96) hx hb dX6_joint_91 (by decide) (fun c_91 => ?_) (fun c_91 => ?_)
        · exact absurd c_91 (by decide)
        · refine lv_iconst (v := 0) hx hb dX6_joint_94 (by decide) ?_
          exact hRet _ (0, 1, n, kd, ln, lo, hi, vl) _ _ _ ⟨fun h => absurd h hG9, fun h => absurd h hG9, fun _ => ⟨rfl, rfl, rfl, rfl, rfl, rfl, rfl⟩⟩ hP hS dX6_joint_95
    · refine lv_iload_n hx hb dX6_joint_20 rfl (lv_at hl 3 rfl) ?_
      refine lv_iload_n hx hb dX6_joint_21 rfl (lv_at hl 1 rfl) ?_
      refine lv_if_ne (tgt := 30) hx hb dX6_joint_22 (by decide) (fun c_22 => ?_) (fun c_22 => ?_)
      · refine lv_iconst (v := 0) hx hb dX6_joint_30 (by decide) ?_
        refine lv_iload_n hx hb dX6_joint_31 rfl (lv_at hl 1 rfl) ?_
        refine z_callS (As := [.int p0]) (rest := [.int 0, .int p2]) ⟨hx, hb, hml, hown, hts⟩ hG hK hP hD hS (c_X6_most l D cI cJ p0 ) (va_cwS 1 hts gX6_joint_X6_most rfl rfl rfl (by decide +kernel) ⟨Nat.le_of_ble_eq_true rfl, Nat.le_of_ble_eq_true rfl⟩) [] (by decide) rfl (fun _ => rfl) rfl hl.1 rfl (Nat.le_of_ble_eq_true rfl) dX6_joint_32 ⟨Nat.le_of_ble_eq_true rfl, Nat.le_of_ble_eq_true rfl⟩ (fun u_9 H locs hu_10 hP hD hS => ?_)
        obtain ⟨r_11, rfl⟩ : ∃ z, z = u_9 := ⟨_, rfl⟩
        have hu_10 : (r_11 = if p0 = 0 then 32 else 100) := hu_10
        have e_12 := hu_10
        subst e_12
        have hP : va_P D vwCl [(ob, .inr (6, [.int th, .int (nI n), .ref b1, .ref b2, .ref b3, .ref b4, .ref b5, .int gx, .int gy, .int sl, .ref bp, .int x, .int y, .int h, .ref bu, .ref bv, .int fd, .ref bk, .ref bw])), (b1, .inl (cI, 5, .inl kd)), (b2, .inl (cI, 5, .inl ln)), (b3, .inl (cI, 5, .inl lo)), (b4, .inl (cI, 5, .inl hi)), (b5, .inl (cI, 5, .inl vl)), (bp, .inl (cI, 5, .inl ps)), (bu, .inl (cI, 5, .inl f1)), (bv, .inl (cI, 5, .inl f2)), (bk, .inl (cJ, 10, .inr (.inl ky))), (bw, .inl (cI, 10, .inl wh))] H := hP
        have hD : va_D A0 [(ob, .inr (6, [.int th, .int (nI n), .ref b1, .ref b2, .ref b3, .ref b4, .ref b5, .int gx, .int gy, .int sl, .ref bp, .int x, .int y, .int h, .ref bu, .ref bv, .int fd, .ref bk, .ref bw])), (b1, .inl (cI, 5, .inl kd)), (b2, .inl (cI, 5, .inl ln)), (b3, .inl (cI, 5, .inl lo)), (b4, .inl (cI, 5, .inl hi)), (b5, .inl (cI, 5, .inl vl)), (bp, .inl (cI, 5, .inl ps)), (bu, .inl (cI, 5, .inl f1)), (bv, .inl (cI, 5, .inl f2)), (bk, .inl (cJ, 10, .inr (.inl ky))), (bw, .inl (cI, 10, .inl wh))] := hD
        refine z_callS (As := [.int p2, .int 0, .int (if p0 = 0 then 32 else 100)]) (rest := []) ⟨hx, hb, hml, hown, hts⟩ hG hK hP hD hS (c_X6_in l D cI cJ p2 0 (if p0 = 0 then 32 else 100) ) (va_cwS 3 hts gX6_joint_X6_in rfl rfl rfl (by decide +kernel) ⟨Nat.le_of_ble_eq_true rfl, Nat.le_of_ble_eq_true rfl⟩) [] (by decide) rfl (fun _ => rfl) rfl hl.1 rfl (Nat.le_of_ble_eq_true rfl) dX6_joint_35 ⟨Nat.le_of_ble_eq_true rfl, Nat.le_of_ble_eq_true rfl⟩ (fun u_13 H locs hu_14 hP hD hS => ?_)
        obtain ⟨r_15, rfl⟩ : ∃ z, z = u_13 := ⟨_, rfl⟩
        have hu_14 : (r_15 = if 0 ≤ p2 ∧ p2 ≤ (if p0 = 0 then 32 else 100) then 1 else 0) := hu_14
        have e_16 := hu_14
        subst e_16
        have hP : va_P D vwCl [(ob, .inr (6, [.int th, .int (nI n), .ref b1, .ref b2, .ref b3, .ref b4, .ref b5, .int gx, .int gy, .int sl, .ref bp, .int x, .int y, .int h, .ref bu, .ref bv, .int fd, .ref bk, .ref bw])), (b1, .inl (cI, 5, .inl kd)), (b2, .inl (cI, 5, .inl ln)), (b3, .inl (cI, 5, .inl lo)), (b4, .inl (cI, 5, .inl hi)), (b5, .inl (cI, 5, .inl vl)), (bp, .inl (cI, 5, .inl ps)), (bu, .inl (cI, 5, .inl f1)), (bv, .inl (cI, 5, .inl f2)), (bk, .inl (cJ, 10, .inr (.inl ky))), (bw, .inl (cI, 10, .inl wh))] H := hP
        have hD : va_D A0 [(ob, .inr (6, [.int th, .int (nI n), .ref b1, .ref b2, .ref b3, .ref b4, .ref b5, .int gx, .int gy, .int sl, .ref bp, .int x, .int y, .int h, .ref bu, .ref bv, .int fd, .ref bk, .ref bw])), (b1, .inl (cI, 5, .inl kd)), (b2, .inl (cI, 5, .inl ln)), (b3, .inl (cI, 5, .inl lo)), (b4, .inl (cI, 5, .inl hi)), (b5, .inl (cI, 5, .inl vl)), (bp, .inl (cI, 5, .inl ps)), (bu, .inl (cI, 5, .inl f1)), (bv, .inl (cI, 5, .inl f2)), (bk, .inl (cJ, 10, .inr (.inl ky))), (bw, .inl (cI, 10, .inl wh))] := hD
        refine lv_if_eq (tgt := 58) hx hb dX6_joint_38 (by decide) (fun c_38 => ?_) (fun c_38 => ?_)
        · have hG9 : ¬ zGd p0 p1 p2 p3 := fun h => zif_0 c_38 ⟨by have h9 := h.2.2.1; first | (rw [if_neg c_22] at h9; exact h9) | (rw [if_pos c_22] at h9; exact h9), Int32.le_trans h.2.2.2.2 h.2.2.2.1⟩
          refine lv_iconst (v := 0) hx hb dX6_joint_58 (by decide) ?_
          refine lv_istore (lv' := [(5, .int 0), (0, .ref ob), (1, .int p0), (2, .int p1), (3, .int p2), (4, .int p3)]) hx hb dX6_joint_59 hl (by decide) rfl (fun ls hl => ?_)
          refine lv_aload_n hx hb dX6_joint_61 rfl (lv_at hl 1 rfl) ?_
          refine lv_iload hx hb dX6_joint_62 (lv_at hl 0 rfl) ?_
          refine lv_if_ne (tgt := 71) hx hb dX6_joint_64 (by decide) (fun c_64 => ?_) (fun c_64 => ?_)
          · exact absurd (by decide) c_64
          · refine lv_iconst (v := 1) hx hb dX6_joint_67 (by decide) ?_
            refine lv_goto (tgt := 84) hx hb dX6_joint_68 (by decide) ?_
            refine va_put (D := D) (ci := 6) (v := .int 1) (ty := .int) (C := RX6) (T := TX6) (N := 19) hx hb hts hin6 tyX6 tyX6_ok nmX6 hown hK hP hD hS 0 rfl rfl 0 (by decide) hf45 (fun _ h9 => h9) rfl (by decide +kernel) rfl rfl (Nat.le_of_ble_eq_true rfl) dX6_joint_84 (fun H locs hP hD hS => ?_)
            have hP : va_P D vwCl [(ob, .inr (6, [.int 1, .int (nI n), .ref b1, .ref b2, .ref b3, .ref b4, .ref b5, .int gx, .int gy, .int sl, .ref bp, .int x, .int y, .int h, .ref bu, .ref bv, .int fd, .ref bk, .ref bw])), (b1, .inl (cI, 5, .inl kd)), (b2, .inl (cI, 5, .inl ln)), (b3, .inl (cI, 5, .inl lo)), (b4, .inl (cI, 5, .inl hi)), (b5, .inl (cI, 5, .inl vl)), (bp, .inl (cI, 5, .inl ps)), (bu, .inl (cI, 5, .inl f1)), (bv, .inl (cI, 5, .inl f2)), (bk, .inl (cJ, 10, .inr (.inl ky))), (bw, .inl (cI, 10, .inl wh))] H := hP
            have hD : va_D A0 [(ob, .inr (6, [.int 1, .int (nI n), .ref b1, .ref b2, .ref b3, .ref b4, .ref b5, .int gx, .int gy, .int sl, .ref bp, .int x, .int y, .int h, .ref bu, .ref bv, .int fd, .ref bk, .ref bw])), (b1, .inl (cI, 5, .inl kd)), (b2, .inl (cI, 5, .inl ln)), (b3, .inl (cI, 5, .inl lo)), (b4, .inl (cI, 5, .inl hi)), (b5, .inl (cI, 5, .inl vl)), (bp, .inl (cI, 5, .inl ps)), (bu, .inl (cI, 5, .inl f1)), (bv, .inl (cI, 5, .inl f2)), (bk, .inl (cJ, 10, .inr (.inl ky))), (bw, .inl (cI, 10, .inl wh))] := hD
            refine lv_aload_n hx hb dX6_joint_87 rfl (lv_at hl 1 rfl) ?_
            refine va_get (D := D) (ci := 6) (v := .int 1) (C := RX6) (T := TX6) (N := 19) hx hb hts hin6 hown hK hP 0 rfl rfl 0 (by decide) hf45 (fun _ h9 => h9) rfl dX6_joint_88 ?_
            refine lv_if_le (tgt := 96) hx hb dX6_joint_91 (by decide) (fun c_91 => ?_) (fun c_91 => ?_)
            · exact absurd c_91 (by decide)
            · refine lv_iconst (v := 0) hx hb dX6_joint_94 (by decide) ?_
              exact hRet _ (0, 1, n, kd, ln, lo, hi, vl) _ _ _ ⟨fun h => absurd h hG9, fun h => absurd h hG9, fun _ => ⟨rfl, rfl, rfl, rfl, rfl, rfl, rfl⟩⟩ hP hS dX6_joint_95
        · refine lv_iload hx hb dX6_joint_41 (lv_at hl 4 rfl) ?_
          refine lv_iload_n hx hb dX6_joint_43 rfl (lv_at hl 3 rfl) ?_
          refine lv_iload_n hx hb dX6_joint_44 rfl (lv_at hl 1 rfl) ?_
          refine z_callS (As := [.int p0]) (rest := [.int p2, .int p3]) ⟨hx, hb, hml, hown, hts⟩ hG hK hP hD hS (c_X6_most l D cI cJ p0 ) (va_cwS 1 hts gX6_joint_X6_most rfl rfl rfl (by decide +kernel) ⟨Nat.le_of_ble_eq_true rfl, Nat.le_of_ble_eq_true rfl⟩) [] (by decide) rfl (fun _ => rfl) rfl hl.1 rfl (Nat.le_of_ble_eq_true rfl) dX6_joint_45 ⟨Nat.le_of_ble_eq_true rfl, Nat.le_of_ble_eq_true rfl⟩ (fun u_17 H locs hu_18 hP hD hS => ?_)
          obtain ⟨r_19, rfl⟩ : ∃ z, z = u_17 := ⟨_, rfl⟩
          have hu_18 : (r_19 = if p0 = 0 then 32 else 100) := hu_18
          have e_20 := hu_18
          subst e_20
          have hP : va_P D vwCl [(ob, .inr (6, [.int th, .int (nI n), .ref b1, .ref b2, .ref b3, .ref b4, .ref b5, .int gx, .int gy, .int sl, .ref bp, .int x, .int y, .int h, .ref bu, .ref bv, .int fd, .ref bk, .ref bw])), (b1, .inl (cI, 5, .inl kd)), (b2, .inl (cI, 5, .inl ln)), (b3, .inl (cI, 5, .inl lo)), (b4, .inl (cI, 5, .inl hi)), (b5, .inl (cI, 5, .inl vl)), (bp, .inl (cI, 5, .inl ps)), (bu, .inl (cI, 5, .inl f1)), (bv, .inl (cI, 5, .inl f2)), (bk, .inl (cJ, 10, .inr (.inl ky))), (bw, .inl (cI, 10, .inl wh))] H := hP
          have hD : va_D A0 [(ob, .inr (6, [.int th, .int (nI n), .ref b1, .ref b2, .ref b3, .ref b4, .ref b5, .int gx, .int gy, .int sl, .ref bp, .int x, .int y, .int h, .ref bu, .ref bv, .int fd, .ref bk, .ref bw])), (b1, .inl (cI, 5, .inl kd)), (b2, .inl (cI, 5, .inl ln)), (b3, .inl (cI, 5, .inl lo)), (b4, .inl (cI, 5, .inl hi)), (b5, .inl (cI, 5, .inl vl)), (bp, .inl (cI, 5, .inl ps)), (bu, .inl (cI, 5, .inl f1)), (bv, .inl (cI, 5, .inl f2)), (bk, .inl (cJ, 10, .inr (.inl ky))), (bw, .inl (cI, 10, .inl wh))] := hD
          refine z_callS (As := [.int p3, .int p2, .int (if p0 = 0 then 32 else 100)]) (rest := []) ⟨hx, hb, hml, hown, hts⟩ hG hK hP hD hS (c_X6_in l D cI cJ p3 p2 (if p0 = 0 then 32 else 100) ) (va_cwS 3 hts gX6_joint_X6_in rfl rfl rfl (by decide +kernel) ⟨Nat.le_of_ble_eq_true rfl, Nat.le_of_ble_eq_true rfl⟩) [] (by decide) rfl (fun _ => rfl) rfl hl.1 rfl (Nat.le_of_ble_eq_true rfl) dX6_joint_48 ⟨Nat.le_of_ble_eq_true rfl, Nat.le_of_ble_eq_true rfl⟩ (fun u_21 H locs hu_22 hP hD hS => ?_)
          obtain ⟨r_23, rfl⟩ : ∃ z, z = u_21 := ⟨_, rfl⟩
          have hu_22 : (r_23 = if p2 ≤ p3 ∧ p3 ≤ (if p0 = 0 then 32 else 100) then 1 else 0) := hu_22
          have e_24 := hu_22
          subst e_24
          have hP : va_P D vwCl [(ob, .inr (6, [.int th, .int (nI n), .ref b1, .ref b2, .ref b3, .ref b4, .ref b5, .int gx, .int gy, .int sl, .ref bp, .int x, .int y, .int h, .ref bu, .ref bv, .int fd, .ref bk, .ref bw])), (b1, .inl (cI, 5, .inl kd)), (b2, .inl (cI, 5, .inl ln)), (b3, .inl (cI, 5, .inl lo)), (b4, .inl (cI, 5, .inl hi)), (b5, .inl (cI, 5, .inl vl)), (bp, .inl (cI, 5, .inl ps)), (bu, .inl (cI, 5, .inl f1)), (bv, .inl (cI, 5, .inl f2)), (bk, .inl (cJ, 10, .inr (.inl ky))), (bw, .inl (cI, 10, .inl wh))] H := hP
          have hD : va_D A0 [(ob, .inr (6, [.int th, .int (nI n), .ref b1, .ref b2, .ref b3, .ref b4, .ref b5, .int gx, .int gy, .int sl, .ref bp, .int x, .int y, .int h, .ref bu, .ref bv, .int fd, .ref bk, .ref bw])), (b1, .inl (cI, 5, .inl kd)), (b2, .inl (cI, 5, .inl ln)), (b3, .inl (cI, 5, .inl lo)), (b4, .inl (cI, 5, .inl hi)), (b5, .inl (cI, 5, .inl vl)), (bp, .inl (cI, 5, .inl ps)), (bu, .inl (cI, 5, .inl f1)), (bv, .inl (cI, 5, .inl f2)), (bk, .inl (cJ, 10, .inr (.inl ky))), (bw, .inl (cI, 10, .inl wh))] := hD
          refine lv_if_eq (tgt := 58) hx hb dX6_joint_51 (by decide) (fun c_51 => ?_) (fun c_51 => ?_)
          · have hG9 : ¬ zGd p0 p1 p2 p3 := fun h => zif_0 c_51 ⟨h.2.2.2.2, h.2.2.2.1⟩
            refine lv_iconst (v := 0) hx hb dX6_joint_58 (by decide) ?_
            refine lv_istore (lv' := [(5, .int 0), (0, .ref ob), (1, .int p0), (2, .int p1), (3, .int p2), (4, .int p3)]) hx hb dX6_joint_59 hl (by decide) rfl (fun ls hl => ?_)
            refine lv_aload_n hx hb dX6_joint_61 rfl (lv_at hl 1 rfl) ?_
            refine lv_iload hx hb dX6_joint_62 (lv_at hl 0 rfl) ?_
            refine lv_if_ne (tgt := 71) hx hb dX6_joint_64 (by decide) (fun c_64 => ?_) (fun c_64 => ?_)
            · exact absurd (by decide) c_64
            · refine lv_iconst (v := 1) hx hb dX6_joint_67 (by decide) ?_
              refine lv_goto (tgt := 84) hx hb dX6_joint_68 (by decide) ?_
              refine va_put (D := D) (ci := 6) (v := .int 1) (ty := .int) (C := RX6) (T := TX6) (N := 19) hx hb hts hin6 tyX6 tyX6_ok nmX6 hown hK hP hD hS 0 rfl rfl 0 (by decide) hf45 (fun _ h9 => h9) rfl (by decide +kernel) rfl rfl (Nat.le_of_ble_eq_true rfl) dX6_joint_84 (fun H locs hP hD hS => ?_)
              have hP : va_P D vwCl [(ob, .inr (6, [.int 1, .int (nI n), .ref b1, .ref b2, .ref b3, .ref b4, .ref b5, .int gx, .int gy, .int sl, .ref bp, .int x, .int y, .int h, .ref bu, .ref bv, .int fd, .ref bk, .ref bw])), (b1, .inl (cI, 5, .inl kd)), (b2, .inl (cI, 5, .inl ln)), (b3, .inl (cI, 5, .inl lo)), (b4, .inl (cI, 5, .inl hi)), (b5, .inl (cI, 5, .inl vl)), (bp, .inl (cI, 5, .inl ps)), (bu, .inl (cI, 5, .inl f1)), (bv, .inl (cI, 5, .inl f2)), (bk, .inl (cJ, 10, .inr (.inl ky))), (bw, .inl (cI, 10, .inl wh))] H := hP
              have hD : va_D A0 [(ob, .inr (6, [.int 1, .int (nI n), .ref b1, .ref b2, .ref b3, .ref b4, .ref b5, .int gx, .int gy, .int sl, .ref bp, .int x, .int y, .int h, .ref bu, .ref bv, .int fd, .ref bk, .ref bw])), (b1, .inl (cI, 5, .inl kd)), (b2, .inl (cI, 5, .inl ln)), (b3, .inl (cI, 5, .inl lo)), (b4, .inl (cI, 5, .inl hi)), (b5, .inl (cI, 5, .inl vl)), (bp, .inl (cI, 5, .inl ps)), (bu, .inl (cI, 5, .inl f1)), (bv, .inl (cI, 5, .inl f2)), (bk, .inl (cJ, 10, .inr (.inl ky))), (bw, .inl (cI, 10, .inl wh))] := hD
              refine lv_aload_n hx hb dX6_joint_87 rfl (lv_at hl 1 rfl) ?_
              refine va_get (D := D) (ci := 6) (v := .int 1) (C := RX6) (T := TX6) (N := 19) hx hb hts hin6 hown hK hP 0 rfl rfl 0 (by decide) hf45 (fun _ h9 => h9) rfl dX6_joint_88 ?_
              refine lv_if_le (tgt := 96) hx hb dX6_joint_91 (by decide) (fun c_91 => ?_) (fun c_91 => ?_)
              · exact absurd c_91 (by decide)
              · refine lv_iconst (v := 0) hx hb dX6_joint_94 (by decide) ?_
                exact hRet _ (0, 1, n, kd, ln, lo, hi, vl) _ _ _ ⟨fun h => absurd h hG9, fun h => absurd h hG9, fun _ => ⟨rfl, rfl, rfl, rfl, rfl, rfl, rfl⟩⟩ hP hS dX6_joint_95
          · have hG9 : zGd p0 p1 p2 p3 := ⟨zk01.mp (zif_1 c_6), zif_1 c_17, (by have h9 := (zif_1 c_38).1; first | (rw [if_neg c_22]; exact h9) | (rw [if_pos c_22]; exact h9)), (zif_1 c_51).2, (zif_1 c_51).1⟩
            refine lv_iconst (v := 1) hx hb dX6_joint_54 (by decide) ?_
            refine lv_goto (tgt := 59) hx hb dX6_joint_55 (by decide) ?_
            refine lv_istore (lv' := [(5, .int 1), (0, .ref ob), (1, .int p0), (2, .int p1), (3, .int p2), (4, .int p3)]) hx hb dX6_joint_59 hl (by decide) rfl (fun ls hl => ?_)
            refine lv_aload_n hx hb dX6_joint_61 rfl (lv_at hl 1 rfl) ?_
            refine lv_iload hx hb dX6_joint_62 (lv_at hl 0 rfl) ?_
            refine lv_if_ne (tgt := 71) hx hb dX6_joint_64 (by decide) (fun c_64 => ?_) (fun c_64 => ?_)
            · refine lv_aload_n hx hb dX6_joint_71 rfl (lv_at hl 1 rfl) ?_
              refine va_get (D := D) (ci := 6) (v := .int (nI n)) (C := RX6) (T := TX6) (N := 19) hx hb hts hin6 hown hK hP 0 rfl rfl 1 (by decide) hf48 (fun _ h9 => h9) rfl dX6_joint_72 ?_
              refine lv_iconst (v := nI 5) hx hb dX6_joint_75 (rfl) ?_
              refine lv_icmp_ne (tgt := 83) hx hb dX6_joint_76 (by decide) (fun c_76 => ?_) (fun c_76 => ?_)
              · rw [nI_eq (by omega) (by omega)] at c_76
                refine lv_iconst (v := 0) hx hb dX6_joint_83 (by decide) ?_
                refine va_put (D := D) (ci := 6) (v := .int 0) (ty := .int) (C := RX6) (T := TX6) (N := 19) hx hb hts hin6 tyX6 tyX6_ok nmX6 hown hK hP hD hS 0 rfl rfl 0 (by decide) hf45 (fun _ h9 => h9) rfl (by decide +kernel) rfl rfl (Nat.le_of_ble_eq_true rfl) dX6_joint_84 (fun H locs hP hD hS => ?_)
                have hP : va_P D vwCl [(ob, .inr (6, [.int 0, .int (nI n), .ref b1, .ref b2, .ref b3, .ref b4, .ref b5, .int gx, .int gy, .int sl, .ref bp, .int x, .int y, .int h, .ref bu, .ref bv, .int fd, .ref bk, .ref bw])), (b1, .inl (cI, 5, .inl kd)), (b2, .inl (cI, 5, .inl ln)), (b3, .inl (cI, 5, .inl lo)), (b4, .inl (cI, 5, .inl hi)), (b5, .inl (cI, 5, .inl vl)), (bp, .inl (cI, 5, .inl ps)), (bu, .inl (cI, 5, .inl f1)), (bv, .inl (cI, 5, .inl f2)), (bk, .inl (cJ, 10, .inr (.inl ky))), (bw, .inl (cI, 10, .inl wh))] H := hP
                have hD : va_D A0 [(ob, .inr (6, [.int 0, .int (nI n), .ref b1, .ref b2, .ref b3, .ref b4, .ref b5, .int gx, .int gy, .int sl, .ref bp, .int x, .int y, .int h, .ref bu, .ref bv, .int fd, .ref bk, .ref bw])), (b1, .inl (cI, 5, .inl kd)), (b2, .inl (cI, 5, .inl ln)), (b3, .inl (cI, 5, .inl lo)), (b4, .inl (cI, 5, .inl hi)), (b5, .inl (cI, 5, .inl vl)), (bp, .inl (cI, 5, .inl ps)), (bu, .inl (cI, 5, .inl f1)), (bv, .inl (cI, 5, .inl f2)), (bk, .inl (cJ, 10, .inr (.inl ky))), (bw, .inl (cI, 10, .inl wh))] := hD
                refine lv_aload_n hx hb dX6_joint_87 rfl (lv_at hl 1 rfl) ?_
                refine va_get (D := D) (ci := 6) (v := .int 0) (C := RX6) (T := TX6) (N := 19) hx hb hts hin6 hown hK hP 0 rfl rfl 0 (by decide) hf45 (fun _ h9 => h9) rfl dX6_joint_88 ?_
                refine lv_if_le (tgt := 96) hx hb dX6_joint_91 (by decide) (fun c_91 => ?_) (fun c_91 => ?_)
                · refine lv_aload_n hx hb dX6_joint_96 rfl (lv_at hl 1 rfl) ?_
                  refine va_get (D := D) (ci := 6) (v := .ref b1) (C := RX6) (T := TX6) (N := 19) hx hb hts hin6 hown hK hP 0 rfl rfl 2 (by decide) hf7 (fun _ h9 => h9) rfl dX6_joint_97 ?_
                  refine lv_aload_n hx hb dX6_joint_100 rfl (lv_at hl 1 rfl) ?_
                  refine va_get (D := D) (ci := 6) (v := .int (nI n)) (C := RX6) (T := TX6) (N := 19) hx hb hts hin6 hown hK hP 0 rfl rfl 1 (by decide) hf48 (fun _ h9 => h9) rfl dX6_joint_101 ?_
                  refine lv_iload_n hx hb dX6_joint_104 rfl (lv_at hl 2 rfl) ?_
                  refine z_iast hx hb hK hP hD hS 1 rfl (j := n) (by omega) (by decide) dX6_joint_105 (fun H locs hP hD hS => ?_)
                  have hP : va_P D vwCl [(ob, .inr (6, [.int 0, .int (nI n), .ref b1, .ref b2, .ref b3, .ref b4, .ref b5, .int gx, .int gy, .int sl, .ref bp, .int x, .int y, .int h, .ref bu, .ref bv, .int fd, .ref bk, .ref bw])), (b1, .inl (cI, 5, .inl (upd kd n p0))), (b2, .inl (cI, 5, .inl ln)), (b3, .inl (cI, 5, .inl lo)), (b4, .inl (cI, 5, .inl hi)), (b5, .inl (cI, 5, .inl vl)), (bp, .inl (cI, 5, .inl ps)), (bu, .inl (cI, 5, .inl f1)), (bv, .inl (cI, 5, .inl f2)), (bk, .inl (cJ, 10, .inr (.inl ky))), (bw, .inl (cI, 10, .inl wh))] H := hP
                  have hD : va_D A0 [(ob, .inr (6, [.int 0, .int (nI n), .ref b1, .ref b2, .ref b3, .ref b4, .ref b5, .int gx, .int gy, .int sl, .ref bp, .int x, .int y, .int h, .ref bu, .ref bv, .int fd, .ref bk, .ref bw])), (b1, .inl (cI, 5, .inl (upd kd n p0))), (b2, .inl (cI, 5, .inl ln)), (b3, .inl (cI, 5, .inl lo)), (b4, .inl (cI, 5, .inl hi)), (b5, .inl (cI, 5, .inl vl)), (bp, .inl (cI, 5, .inl ps)), (bu, .inl (cI, 5, .inl f1)), (bv, .inl (cI, 5, .inl f2)), (bk, .inl (cJ, 10, .inr (.inl ky))), (bw, .inl (cI, 10, .inl wh))] := hD
                  refine lv_aload_n hx hb dX6_joint_106 rfl (lv_at hl 1 rfl) ?_
                  refine va_get (D := D) (ci := 6) (v := .ref b2) (C := RX6) (T := TX6) (N := 19) hx hb hts hin6 hown hK hP 0 rfl rfl 3 (by decide) hf13 (fun _ h9 => h9) rfl dX6_joint_107 ?_
                  refine lv_aload_n hx hb dX6_joint_110 rfl (lv_at hl 1 rfl) ?_
                  refine va_get (D := D) (ci := 6) (v := .int (nI n)) (C := RX6) (T := TX6) (N := 19) hx hb hts hin6 hown hK hP 0 rfl rfl 1 (by decide) hf48 (fun _ h9 => h9) rfl dX6_joint_111 ?_
                  refine lv_iload_n hx hb dX6_joint_114 rfl (lv_at hl 3 rfl) ?_
                  refine z_iast hx hb hK hP hD hS 2 rfl (j := n) (by omega) (by decide) dX6_joint_115 (fun H locs hP hD hS => ?_)
                  have hP : va_P D vwCl [(ob, .inr (6, [.int 0, .int (nI n), .ref b1, .ref b2, .ref b3, .ref b4, .ref b5, .int gx, .int gy, .int sl, .ref bp, .int x, .int y, .int h, .ref bu, .ref bv, .int fd, .ref bk, .ref bw])), (b1, .inl (cI, 5, .inl (upd kd n p0))), (b2, .inl (cI, 5, .inl (upd ln n p1))), (b3, .inl (cI, 5, .inl lo)), (b4, .inl (cI, 5, .inl hi)), (b5, .inl (cI, 5, .inl vl)), (bp, .inl (cI, 5, .inl ps)), (bu, .inl (cI, 5, .inl f1)), (bv, .inl (cI, 5, .inl f2)), (bk, .inl (cJ, 10, .inr (.inl ky))), (bw, .inl (cI, 10, .inl wh))] H := hP
                  have hD : va_D A0 [(ob, .inr (6, [.int 0, .int (nI n), .ref b1, .ref b2, .ref b3, .ref b4, .ref b5, .int gx, .int gy, .int sl, .ref bp, .int x, .int y, .int h, .ref bu, .ref bv, .int fd, .ref bk, .ref bw])), (b1, .inl (cI, 5, .inl (upd kd n p0))), (b2, .inl (cI, 5, .inl (upd ln n p1))), (b3, .inl (cI, 5, .inl lo)), (b4, .inl (cI, 5, .inl hi)), (b5, .inl (cI, 5, .inl vl)), (bp, .inl (cI, 5, .inl ps)), (bu, .inl (cI, 5, .inl f1)), (bv, .inl (cI, 5, .inl f2)), (bk, .inl (cJ, 10, .inr (.inl ky))), (bw, .inl (cI, 10, .inl wh))] := hD
                  refine lv_aload_n hx hb dX6_joint_116 rfl (lv_at hl 1 rfl) ?_
                  refine va_get (D := D) (ci := 6) (v := .ref b3) (C := RX6) (T := TX6) (N := 19) hx hb hts hin6 hown hK hP 0 rfl rfl 4 (by decide) hf16 (fun _ h9 => h9) rfl dX6_joint_117 ?_
                  refine lv_aload_n hx hb dX6_joint_120 rfl (lv_at hl 1 rfl) ?_
                  refine va_get (D := D) (ci := 6) (v := .int (nI n)) (C := RX6) (T := TX6) (N := 19) hx hb hts hin6 hown hK hP 0 rfl rfl 1 (by decide) hf48 (fun _ h9 => h9) rfl dX6_joint_121 ?_
                  refine lv_iload_n hx hb dX6_joint_124 rfl (lv_at hl 4 rfl) ?_
                  refine z_iast hx hb hK hP hD hS 3 rfl (j := n) (by omega) (by decide) dX6_joint_125 (fun H locs hP hD hS => ?_)
                  have hP : va_P D vwCl [(ob, .inr (6, [.int 0, .int (nI n), .ref b1, .ref b2, .ref b3, .ref b4, .ref b5, .int gx, .int gy, .int sl, .ref bp, .int x, .int y, .int h, .ref bu, .ref bv, .int fd, .ref bk, .ref bw])), (b1, .inl (cI, 5, .inl (upd kd n p0))), (b2, .inl (cI, 5, .inl (upd ln n p1))), (b3, .inl (cI, 5, .inl (upd lo n p2))), (b4, .inl (cI, 5, .inl hi)), (b5, .inl (cI, 5, .inl vl)), (bp, .inl (cI, 5, .inl ps)), (bu, .inl (cI, 5, .inl f1)), (bv, .inl (cI, 5, .inl f2)), (bk, .inl (cJ, 10, .inr (.inl ky))), (bw, .inl (cI, 10, .inl wh))] H := hP
                  have hD : va_D A0 [(ob, .inr (6, [.int 0, .int (nI n), .ref b1, .ref b2, .ref b3, .ref b4, .ref b5, .int gx, .int gy, .int sl, .ref bp, .int x, .int y, .int h, .ref bu, .ref bv, .int fd, .ref bk, .ref bw])), (b1, .inl (cI, 5, .inl (upd kd n p0))), (b2, .inl (cI, 5, .inl (upd ln n p1))), (b3, .inl (cI, 5, .inl (upd lo n p2))), (b4, .inl (cI, 5, .inl hi)), (b5, .inl (cI, 5, .inl vl)), (bp, .inl (cI, 5, .inl ps)), (bu, .inl (cI, 5, .inl f1)), (bv, .inl (cI, 5, .inl f2)), (bk, .inl (cJ, 10, .inr (.inl ky))), (bw, .inl (cI, 10, .inl wh))] := hD
                  refine lv_aload_n hx hb dX6_joint_126 rfl (lv_at hl 1 rfl) ?_
                  refine va_get (D := D) (ci := 6) (v := .ref b4) (C := RX6) (T := TX6) (N := 19) hx hb hts hin6 hown hK hP 0 rfl rfl 5 (by decide) hf19 (fun _ h9 => h9) rfl dX6_joint_127 ?_
                  refine lv_aload_n hx hb dX6_joint_130 rfl (lv_at hl 1 rfl) ?_
                  refine va_get (D := D) (ci := 6) (v := .int (nI n)) (C := RX6) (T := TX6) (N := 19) hx hb hts hin6 hown hK hP 0 rfl rfl 1 (by decide) hf48 (fun _ h9 => h9) rfl dX6_joint_131 ?_
                  refine lv_iload hx hb dX6_joint_134 (lv_at hl 5 rfl) ?_
                  refine z_iast hx hb hK hP hD hS 4 rfl (j := n) (by omega) (by decide) dX6_joint_136 (fun H locs hP hD hS => ?_)
                  have hP : va_P D vwCl [(ob, .inr (6, [.int 0, .int (nI n), .ref b1, .ref b2, .ref b3, .ref b4, .ref b5, .int gx, .int gy, .int sl, .ref bp, .int x, .int y, .int h, .ref bu, .ref bv, .int fd, .ref bk, .ref bw])), (b1, .inl (cI, 5, .inl (upd kd n p0))), (b2, .inl (cI, 5, .inl (upd ln n p1))), (b3, .inl (cI, 5, .inl (upd lo n p2))), (b4, .inl (cI, 5, .inl (upd hi n p3))), (b5, .inl (cI, 5, .inl vl)), (bp, .inl (cI, 5, .inl ps)), (bu, .inl (cI, 5, .inl f1)), (bv, .inl (cI, 5, .inl f2)), (bk, .inl (cJ, 10, .inr (.inl ky))), (bw, .inl (cI, 10, .inl wh))] H := hP
                  have hD : va_D A0 [(ob, .inr (6, [.int 0, .int (nI n), .ref b1, .ref b2, .ref b3, .ref b4, .ref b5, .int gx, .int gy, .int sl, .ref bp, .int x, .int y, .int h, .ref bu, .ref bv, .int fd, .ref bk, .ref bw])), (b1, .inl (cI, 5, .inl (upd kd n p0))), (b2, .inl (cI, 5, .inl (upd ln n p1))), (b3, .inl (cI, 5, .inl (upd lo n p2))), (b4, .inl (cI, 5, .inl (upd hi n p3))), (b5, .inl (cI, 5, .inl vl)), (bp, .inl (cI, 5, .inl ps)), (bu, .inl (cI, 5, .inl f1)), (bv, .inl (cI, 5, .inl f2)), (bk, .inl (cJ, 10, .inr (.inl ky))), (bw, .inl (cI, 10, .inl wh))] := hD
                  refine lv_aload_n hx hb dX6_joint_137 rfl (lv_at hl 1 rfl) ?_
                  refine va_get (D := D) (ci := 6) (v := .ref b5) (C := RX6) (T := TX6) (N := 19) hx hb hts hin6 hown hK hP 0 rfl rfl 6 (by decide) hf22 (fun _ h9 => h9) rfl dX6_joint_138 ?_
                  refine lv_aload_n hx hb dX6_joint_141 rfl (lv_at hl 1 rfl) ?_
                  refine va_get (D := D) (ci := 6) (v := .int (nI n)) (C := RX6) (T := TX6) (N := 19) hx hb hts hin6 hown hK hP 0 rfl rfl 1 (by decide) hf48 (fun _ h9 => h9) rfl dX6_joint_142 ?_
                  refine lv_iconst (v := 0) hx hb dX6_joint_145 (by decide) ?_
                  refine lv_iload_n hx hb dX6_joint_146 rfl (lv_at hl 4 rfl) ?_
                  refine lv_iload hx hb dX6_joint_147 (lv_at hl 5 rfl) ?_
                  refine z_callS (As := [.int 0, .int p2, .int p3]) (rest := [.int (nI n), .ref b5]) ⟨hx, hb, hml, hown, hts⟩ hG hK hP hD hS (c_X6_held l D cI cJ 0 p2 p3 ) (va_cwS 3 hts gX6_joint_X6_held rfl rfl rfl (by decide +kernel) ⟨Nat.le_of_ble_eq_true rfl, Nat.le_of_ble_eq_true rfl⟩) [] (by decide) rfl (fun _ => rfl) rfl hl.1 rfl (Nat.le_of_ble_eq_true rfl) dX6_joint_149 ⟨Nat.le_of_ble_eq_true rfl, Nat.le_of_ble_eq_true rfl⟩ (fun u_25 H locs hu_26 hP hD hS => ?_)
                  obtain ⟨r_27, rfl⟩ : ∃ z, z = u_25 := ⟨_, rfl⟩
                  have hu_26 : (r_27 = zHeldR p2 p3 0) := hu_26
                  have e_28 := hu_26
                  subst e_28
                  have hP : va_P D vwCl [(ob, .inr (6, [.int 0, .int (nI n), .ref b1, .ref b2, .ref b3, .ref b4, .ref b5, .int gx, .int gy, .int sl, .ref bp, .int x, .int y, .int h, .ref bu, .ref bv, .int fd, .ref bk, .ref bw])), (b1, .inl (cI, 5, .inl (upd kd n p0))), (b2, .inl (cI, 5, .inl (upd ln n p1))), (b3, .inl (cI, 5, .inl (upd lo n p2))), (b4, .inl (cI, 5, .inl (upd hi n p3))), (b5, .inl (cI, 5, .inl vl)), (bp, .inl (cI, 5, .inl ps)), (bu, .inl (cI, 5, .inl f1)), (bv, .inl (cI, 5, .inl f2)), (bk, .inl (cJ, 10, .inr (.inl ky))), (bw, .inl (cI, 10, .inl wh))] H := hP
                  have hD : va_D A0 [(ob, .inr (6, [.int 0, .int (nI n), .ref b1, .ref b2, .ref b3, .ref b4, .ref b5, .int gx, .int gy, .int sl, .ref bp, .int x, .int y, .int h, .ref bu, .ref bv, .int fd, .ref bk, .ref bw])), (b1, .inl (cI, 5, .inl (upd kd n p0))), (b2, .inl (cI, 5, .inl (upd ln n p1))), (b3, .inl (cI, 5, .inl (upd lo n p2))), (b4, .inl (cI, 5, .inl (upd hi n p3))), (b5, .inl (cI, 5, .inl vl)), (bp, .inl (cI, 5, .inl ps)), (bu, .inl (cI, 5, .inl f1)), (bv, .inl (cI, 5, .inl f2)), (bk, .inl (cJ, 10, .inr (.inl ky))), (bw, .inl (cI, 10, .inl wh))] := hD
                  refine z_iast hx hb hK hP hD hS 5 rfl (j := n) (by omega) (by decide) dX6_joint_152 (fun H locs hP hD hS => ?_)
                  have hP : va_P D vwCl [(ob, .inr (6, [.int 0, .int (nI n), .ref b1, .ref b2, .ref b3, .ref b4, .ref b5, .int gx, .int gy, .int sl, .ref bp, .int x, .int y, .int h, .ref bu, .ref bv, .int fd, .ref bk, .ref bw])), (b1, .inl (cI, 5, .inl (upd kd n p0))), (b2, .inl (cI, 5, .inl (upd ln n p1))), (b3, .inl (cI, 5, .inl (upd lo n p2))), (b4, .inl (cI, 5, .inl (upd hi n p3))), (b5, .inl (cI, 5, .inl (upd vl n (zHeldR p2 p3 0)))), (bp, .inl (cI, 5, .inl ps)), (bu, .inl (cI, 5, .inl f1)), (bv, .inl (cI, 5, .inl f2)), (bk, .inl (cJ, 10, .inr (.inl ky))), (bw, .inl (cI, 10, .inl wh))] H := hP
                  have hD : va_D A0 [(ob, .inr (6, [.int 0, .int (nI n), .ref b1, .ref b2, .ref b3, .ref b4, .ref b5, .int gx, .int gy, .int sl, .ref bp, .int x, .int y, .int h, .ref bu, .ref bv, .int fd, .ref bk, .ref bw])), (b1, .inl (cI, 5, .inl (upd kd n p0))), (b2, .inl (cI, 5, .inl (upd ln n p1))), (b3, .inl (cI, 5, .inl (upd lo n p2))), (b4, .inl (cI, 5, .inl (upd hi n p3))), (b5, .inl (cI, 5, .inl (upd vl n (zHeldR p2 p3 0)))), (bp, .inl (cI, 5, .inl ps)), (bu, .inl (cI, 5, .inl f1)), (bv, .inl (cI, 5, .inl f2)), (bk, .inl (cJ, 10, .inr (.inl ky))), (bw, .inl (cI, 10, .inl wh))] := hD
                  refine lv_aload_n hx hb dX6_joint_153 rfl (lv_at hl 1 rfl) ?_
                  refine lv_dup hx hb dX6_joint_154 rfl ?_
                  refine va_get (D := D) (ci := 6) (v := .int (nI n)) (C := RX6) (T := TX6) (N := 19) hx hb hts hin6 hown hK hP 0 rfl rfl 1 (by decide) hf48 (fun _ h9 => h9) rfl dX6_joint_155 ?_
                  refine lv_iconst (v := 1) hx hb dX6_joint_158 (by decide) ?_
                  refine lv_iadd hx hb dX6_joint_159 ?_
                  refine z_topi (y := nI (n + 1)) ((nI_succ _).symm) ?_
                  refine va_put (D := D) (ci := 6) (v := .int (nI (n + 1))) (ty := .int) (C := RX6) (T := TX6) (N := 19) hx hb hts hin6 tyX6 tyX6_ok nmX6 hown hK hP hD hS 0 rfl rfl 1 (by decide) hf48 (fun _ h9 => h9) rfl (by decide +kernel) rfl rfl (Nat.le_of_ble_eq_true rfl) dX6_joint_160 (fun H locs hP hD hS => ?_)
                  have hP : va_P D vwCl [(ob, .inr (6, [.int 0, .int (nI (n + 1)), .ref b1, .ref b2, .ref b3, .ref b4, .ref b5, .int gx, .int gy, .int sl, .ref bp, .int x, .int y, .int h, .ref bu, .ref bv, .int fd, .ref bk, .ref bw])), (b1, .inl (cI, 5, .inl (upd kd n p0))), (b2, .inl (cI, 5, .inl (upd ln n p1))), (b3, .inl (cI, 5, .inl (upd lo n p2))), (b4, .inl (cI, 5, .inl (upd hi n p3))), (b5, .inl (cI, 5, .inl (upd vl n (zHeldR p2 p3 0)))), (bp, .inl (cI, 5, .inl ps)), (bu, .inl (cI, 5, .inl f1)), (bv, .inl (cI, 5, .inl f2)), (bk, .inl (cJ, 10, .inr (.inl ky))), (bw, .inl (cI, 10, .inl wh))] H := hP
                  have hD : va_D A0 [(ob, .inr (6, [.int 0, .int (nI (n + 1)), .ref b1, .ref b2, .ref b3, .ref b4, .ref b5, .int gx, .int gy, .int sl, .ref bp, .int x, .int y, .int h, .ref bu, .ref bv, .int fd, .ref bk, .ref bw])), (b1, .inl (cI, 5, .inl (upd kd n p0))), (b2, .inl (cI, 5, .inl (upd ln n p1))), (b3, .inl (cI, 5, .inl (upd lo n p2))), (b4, .inl (cI, 5, .inl (upd hi n p3))), (b5, .inl (cI, 5, .inl (upd vl n (zHeldR p2 p3 0)))), (bp, .inl (cI, 5, .inl ps)), (bu, .inl (cI, 5, .inl f1)), (bv, .inl (cI, 5, .inl f2)), (bk, .inl (cJ, 10, .inr (.inl ky))), (bw, .inl (cI, 10, .inl wh))] := hD
                  refine lv_aload_n hx hb dX6_joint_163 rfl (lv_at hl 1 rfl) ?_
                  refine va_get (D := D) (ci := 6) (v := .int (nI (n + 1))) (C := RX6) (T := TX6) (N := 19) hx hb hts hin6 hown hK hP 0 rfl rfl 1 (by decide) hf48 (fun _ h9 => h9) rfl dX6_joint_164 ?_
                  refine lv_iconst (v := 1) hx hb dX6_joint_167 (by decide) ?_
                  refine lv_isub hx hb dX6_joint_168 ?_
                  exact hRet _ ((nI (n + 1)) - 1, 0, (n + 1), upd kd n p0, upd ln n p1, upd lo n p2, upd hi n p3, upd vl n (zHeldR p2 p3 0)) _ _ _ ⟨fun _ _ => ⟨rfl, nI_pred n, rfl, rfl, rfl, rfl, rfl, by rw [zHeld_eq hG9.2.2.2.2]⟩, fun _ h => absurd (by omega) h, fun h => absurd hG9 h⟩ hP hS dX6_joint_169
                · exact absurd (by decide) c_91
              · rw [nI_eq (by omega) (by omega)] at c_76
                refine lv_iconst (v := 2) hx hb dX6_joint_79 (by decide) ?_
                refine lv_goto (tgt := 84) hx hb dX6_joint_80 (by decide) ?_
                refine va_put (D := D) (ci := 6) (v := .int 2) (ty := .int) (C := RX6) (T := TX6) (N := 19) hx hb hts hin6 tyX6 tyX6_ok nmX6 hown hK hP hD hS 0 rfl rfl 0 (by decide) hf45 (fun _ h9 => h9) rfl (by decide +kernel) rfl rfl (Nat.le_of_ble_eq_true rfl) dX6_joint_84 (fun H locs hP hD hS => ?_)
                have hP : va_P D vwCl [(ob, .inr (6, [.int 2, .int (nI n), .ref b1, .ref b2, .ref b3, .ref b4, .ref b5, .int gx, .int gy, .int sl, .ref bp, .int x, .int y, .int h, .ref bu, .ref bv, .int fd, .ref bk, .ref bw])), (b1, .inl (cI, 5, .inl kd)), (b2, .inl (cI, 5, .inl ln)), (b3, .inl (cI, 5, .inl lo)), (b4, .inl (cI, 5, .inl hi)), (b5, .inl (cI, 5, .inl vl)), (bp, .inl (cI, 5, .inl ps)), (bu, .inl (cI, 5, .inl f1)), (bv, .inl (cI, 5, .inl f2)), (bk, .inl (cJ, 10, .inr (.inl ky))), (bw, .inl (cI, 10, .inl wh))] H := hP
                have hD : va_D A0 [(ob, .inr (6, [.int 2, .int (nI n), .ref b1, .ref b2, .ref b3, .ref b4, .ref b5, .int gx, .int gy, .int sl, .ref bp, .int x, .int y, .int h, .ref bu, .ref bv, .int fd, .ref bk, .ref bw])), (b1, .inl (cI, 5, .inl kd)), (b2, .inl (cI, 5, .inl ln)), (b3, .inl (cI, 5, .inl lo)), (b4, .inl (cI, 5, .inl hi)), (b5, .inl (cI, 5, .inl vl)), (bp, .inl (cI, 5, .inl ps)), (bu, .inl (cI, 5, .inl f1)), (bv, .inl (cI, 5, .inl f2)), (bk, .inl (cJ, 10, .inr (.inl ky))), (bw, .inl (cI, 10, .inl wh))] := hD
                refine lv_aload_n hx hb dX6_joint_87 rfl (lv_at hl 1 rfl) ?_
                refine va_get (D := D) (ci := 6) (v := .int 2) (C := RX6) (T := TX6) (N := 19) hx hb hts hin6 hown hK hP 0 rfl rfl 0 (by decide) hf45 (fun _ h9 => h9) rfl dX6_joint_88 ?_
                refine lv_if_le (tgt := 96) hx hb dX6_joint_91 (by decide) (fun c_91 => ?_) (fun c_91 => ?_)
                · exact absurd c_91 (by decide)
                · refine lv_iconst (v := 0) hx hb dX6_joint_94 (by decide) ?_
                  exact hRet _ (0, 2, n, kd, ln, lo, hi, vl) _ _ _ ⟨fun _ h => absurd h (by omega), fun _ _ => ⟨rfl, rfl, rfl, rfl, rfl, rfl, rfl⟩, fun h => absurd hG9 h⟩ hP hS dX6_joint_95
            · exact absurd c_64 (by decide)
      · refine lv_bipush (v := (-32)) hx hb dX6_joint_25 (by decide) ?_
        refine lv_goto (tgt := 31) hx hb dX6_joint_27 (by decide) ?_
        refine lv_iload_n hx hb dX6_joint_31 rfl (lv_at hl 1 rfl) ?_
        refine z_callS (As := [.int p0]) (rest := [.int (-32), .int p2]) ⟨hx, hb, hml, hown, hts⟩ hG hK hP hD hS (c_X6_most l D cI cJ p0 ) (va_cwS 1 hts gX6_joint_X6_most rfl rfl rfl (by decide +kernel) ⟨Nat.le_of_ble_eq_true rfl, Nat.le_of_ble_eq_true rfl⟩) [] (by decide) rfl (fun _ => rfl) rfl hl.1 rfl (Nat.le_of_ble_eq_true rfl) dX6_joint_32 ⟨Nat.le_of_ble_eq_true rfl, Nat.le_of_ble_eq_true rfl⟩ (fun u_29 H locs hu_30 hP hD hS => ?_)
        obtain ⟨r_31, rfl⟩ : ∃ z, z = u_29 := ⟨_, rfl⟩
        have hu_30 : (r_31 = if p0 = 0 then 32 else 100) := hu_30
        have e_32 := hu_30
        subst e_32
        have hP : va_P D vwCl [(ob, .inr (6, [.int th, .int (nI n), .ref b1, .ref b2, .ref b3, .ref b4, .ref b5, .int gx, .int gy, .int sl, .ref bp, .int x, .int y, .int h, .ref bu, .ref bv, .int fd, .ref bk, .ref bw])), (b1, .inl (cI, 5, .inl kd)), (b2, .inl (cI, 5, .inl ln)), (b3, .inl (cI, 5, .inl lo)), (b4, .inl (cI, 5, .inl hi)), (b5, .inl (cI, 5, .inl vl)), (bp, .inl (cI, 5, .inl ps)), (bu, .inl (cI, 5, .inl f1)), (bv, .inl (cI, 5, .inl f2)), (bk, .inl (cJ, 10, .inr (.inl ky))), (bw, .inl (cI, 10, .inl wh))] H := hP
        have hD : va_D A0 [(ob, .inr (6, [.int th, .int (nI n), .ref b1, .ref b2, .ref b3, .ref b4, .ref b5, .int gx, .int gy, .int sl, .ref bp, .int x, .int y, .int h, .ref bu, .ref bv, .int fd, .ref bk, .ref bw])), (b1, .inl (cI, 5, .inl kd)), (b2, .inl (cI, 5, .inl ln)), (b3, .inl (cI, 5, .inl lo)), (b4, .inl (cI, 5, .inl hi)), (b5, .inl (cI, 5, .inl vl)), (bp, .inl (cI, 5, .inl ps)), (bu, .inl (cI, 5, .inl f1)), (bv, .inl (cI, 5, .inl f2)), (bk, .inl (cJ, 10, .inr (.inl ky))), (bw, .inl (cI, 10, .inl wh))] := hD
        refine z_callS (As := [.int p2, .int (-32), .int (if p0 = 0 then 32 else 100)]) (rest := []) ⟨hx, hb, hml, hown, hts⟩ hG hK hP hD hS (c_X6_in l D cI cJ p2 (-32) (if p0 = 0 then 32 else 100) ) (va_cwS 3 hts gX6_joint_X6_in rfl rfl rfl (by decide +kernel) ⟨Nat.le_of_ble_eq_true rfl, Nat.le_of_ble_eq_true rfl⟩) [] (by decide) rfl (fun _ => rfl) rfl hl.1 rfl (Nat.le_of_ble_eq_true rfl) dX6_joint_35 ⟨Nat.le_of_ble_eq_true rfl, Nat.le_of_ble_eq_true rfl⟩ (fun u_33 H locs hu_34 hP hD hS => ?_)
        obtain ⟨r_35, rfl⟩ : ∃ z, z = u_33 := ⟨_, rfl⟩
        have hu_34 : (r_35 = if (-32) ≤ p2 ∧ p2 ≤ (if p0 = 0 then 32 else 100) then 1 else 0) := hu_34
        have e_36 := hu_34
        subst e_36
        have hP : va_P D vwCl [(ob, .inr (6, [.int th, .int (nI n), .ref b1, .ref b2, .ref b3, .ref b4, .ref b5, .int gx, .int gy, .int sl, .ref bp, .int x, .int y, .int h, .ref bu, .ref bv, .int fd, .ref bk, .ref bw])), (b1, .inl (cI, 5, .inl kd)), (b2, .inl (cI, 5, .inl ln)), (b3, .inl (cI, 5, .inl lo)), (b4, .inl (cI, 5, .inl hi)), (b5, .inl (cI, 5, .inl vl)), (bp, .inl (cI, 5, .inl ps)), (bu, .inl (cI, 5, .inl f1)), (bv, .inl (cI, 5, .inl f2)), (bk, .inl (cJ, 10, .inr (.inl ky))), (bw, .inl (cI, 10, .inl wh))] H := hP
        have hD : va_D A0 [(ob, .inr (6, [.int th, .int (nI n), .ref b1, .ref b2, .ref b3, .ref b4, .ref b5, .int gx, .int gy, .int sl, .ref bp, .int x, .int y, .int h, .ref bu, .ref bv, .int fd, .ref bk, .ref bw])), (b1, .inl (cI, 5, .inl kd)), (b2, .inl (cI, 5, .inl ln)), (b3, .inl (cI, 5, .inl lo)), (b4, .inl (cI, 5, .inl hi)), (b5, .inl (cI, 5, .inl vl)), (bp, .inl (cI, 5, .inl ps)), (bu, .inl (cI, 5, .inl f1)), (bv, .inl (cI, 5, .inl f2)), (bk, .inl (cJ, 10, .inr (.inl ky))), (bw, .inl (cI, 10, .inl wh))] := hD
        refine lv_if_eq (tgt := 58) hx hb dX6_joint_38 (by decide) (fun c_38 => ?_) (fun c_38 => ?_)
        · have hG9 : ¬ zGd p0 p1 p2 p3 := fun h => zif_0 c_38 ⟨by have h9 := h.2.2.1; first | (rw [if_neg c_22] at h9; exact h9) | (rw [if_pos c_22] at h9; exact h9), Int32.le_trans h.2.2.2.2 h.2.2.2.1⟩
          refine lv_iconst (v := 0) hx hb dX6_joint_58 (by decide) ?_
          refine lv_istore (lv' := [(5, .int 0), (0, .ref ob), (1, .int p0), (2, .int p1), (3, .int p2), (4, .int p3)]) hx hb dX6_joint_59 hl (by decide) rfl (fun ls hl => ?_)
          refine lv_aload_n hx hb dX6_joint_61 rfl (lv_at hl 1 rfl) ?_
          refine lv_iload hx hb dX6_joint_62 (lv_at hl 0 rfl) ?_
          refine lv_if_ne (tgt := 71) hx hb dX6_joint_64 (by decide) (fun c_64 => ?_) (fun c_64 => ?_)
          · exact absurd (by decide) c_64
          · refine lv_iconst (v := 1) hx hb dX6_joint_67 (by decide) ?_
            refine lv_goto (tgt := 84) hx hb dX6_joint_68 (by decide) ?_
            refine va_put (D := D) (ci := 6) (v := .int 1) (ty := .int) (C := RX6) (T := TX6) (N := 19) hx hb hts hin6 tyX6 tyX6_ok nmX6 hown hK hP hD hS 0 rfl rfl 0 (by decide) hf45 (fun _ h9 => h9) rfl (by decide +kernel) rfl rfl (Nat.le_of_ble_eq_true rfl) dX6_joint_84 (fun H locs hP hD hS => ?_)
            have hP : va_P D vwCl [(ob, .inr (6, [.int 1, .int (nI n), .ref b1, .ref b2, .ref b3, .ref b4, .ref b5, .int gx, .int gy, .int sl, .ref bp, .int x, .int y, .int h, .ref bu, .ref bv, .int fd, .ref bk, .ref bw])), (b1, .inl (cI, 5, .inl kd)), (b2, .inl (cI, 5, .inl ln)), (b3, .inl (cI, 5, .inl lo)), (b4, .inl (cI, 5, .inl hi)), (b5, .inl (cI, 5, .inl vl)), (bp, .inl (cI, 5, .inl ps)), (bu, .inl (cI, 5, .inl f1)), (bv, .inl (cI, 5, .inl f2)), (bk, .inl (cJ, 10, .inr (.inl ky))), (bw, .inl (cI, 10, .inl wh))] H := hP
            have hD : va_D A0 [(ob, .inr (6, [.int 1, .int (nI n), .ref b1, .ref b2, .ref b3, .ref b4, .ref b5, .int gx, .int gy, .int sl, .ref bp, .int x, .int y, .int h, .ref bu, .ref bv, .int fd, .ref bk, .ref bw])), (b1, .inl (cI, 5, .inl kd)), (b2, .inl (cI, 5, .inl ln)), (b3, .inl (cI, 5, .inl lo)), (b4, .inl (cI, 5, .inl hi)), (b5, .inl (cI, 5, .inl vl)), (bp, .inl (cI, 5, .inl ps)), (bu, .inl (cI, 5, .inl f1)), (bv, .inl (cI, 5, .inl f2)), (bk, .inl (cJ, 10, .inr (.inl ky))), (bw, .inl (cI, 10, .inl wh))] := hD
            refine lv_aload_n hx hb dX6_joint_87 rfl (lv_at hl 1 rfl) ?_
            refine va_get (D := D) (ci := 6) (v := .int 1) (C := RX6) (T := TX6) (N := 19) hx hb hts hin6 hown hK hP 0 rfl rfl 0 (by decide) hf45 (fun _ h9 => h9) rfl dX6_joint_88 ?_
            refine lv_if_le (tgt := 96) hx hb dX6_joint_91 (by decide) (fun c_91 => ?_) (fun c_91 => ?_)
            · exact absurd c_91 (by decide)
            · refine lv_iconst (v := 0) hx hb dX6_joint_94 (by decide) ?_
              exact hRet _ (0, 1, n, kd, ln, lo, hi, vl) _ _ _ ⟨fun h => absurd h hG9, fun h => absurd h hG9, fun _ => ⟨rfl, rfl, rfl, rfl, rfl, rfl, rfl⟩⟩ hP hS dX6_joint_95
        · refine lv_iload hx hb dX6_joint_41 (lv_at hl 4 rfl) ?_
          refine lv_iload_n hx hb dX6_joint_43 rfl (lv_at hl 3 rfl) ?_
          refine lv_iload_n hx hb dX6_joint_44 rfl (lv_at hl 1 rfl) ?_
          refine z_callS (As := [.int p0]) (rest := [.int p2, .int p3]) ⟨hx, hb, hml, hown, hts⟩ hG hK hP hD hS (c_X6_most l D cI cJ p0 ) (va_cwS 1 hts gX6_joint_X6_most rfl rfl rfl (by decide +kernel) ⟨Nat.le_of_ble_eq_true rfl, Nat.le_of_ble_eq_true rfl⟩) [] (by decide) rfl (fun _ => rfl) rfl hl.1 rfl (Nat.le_of_ble_eq_true rfl) dX6_joint_45 ⟨Nat.le_of_ble_eq_true rfl, Nat.le_of_ble_eq_true rfl⟩ (fun u_37 H locs hu_38 hP hD hS => ?_)
          obtain ⟨r_39, rfl⟩ : ∃ z, z = u_37 := ⟨_, rfl⟩
          have hu_38 : (r_39 = if p0 = 0 then 32 else 100) := hu_38
          have e_40 := hu_38
          subst e_40
          have hP : va_P D vwCl [(ob, .inr (6, [.int th, .int (nI n), .ref b1, .ref b2, .ref b3, .ref b4, .ref b5, .int gx, .int gy, .int sl, .ref bp, .int x, .int y, .int h, .ref bu, .ref bv, .int fd, .ref bk, .ref bw])), (b1, .inl (cI, 5, .inl kd)), (b2, .inl (cI, 5, .inl ln)), (b3, .inl (cI, 5, .inl lo)), (b4, .inl (cI, 5, .inl hi)), (b5, .inl (cI, 5, .inl vl)), (bp, .inl (cI, 5, .inl ps)), (bu, .inl (cI, 5, .inl f1)), (bv, .inl (cI, 5, .inl f2)), (bk, .inl (cJ, 10, .inr (.inl ky))), (bw, .inl (cI, 10, .inl wh))] H := hP
          have hD : va_D A0 [(ob, .inr (6, [.int th, .int (nI n), .ref b1, .ref b2, .ref b3, .ref b4, .ref b5, .int gx, .int gy, .int sl, .ref bp, .int x, .int y, .int h, .ref bu, .ref bv, .int fd, .ref bk, .ref bw])), (b1, .inl (cI, 5, .inl kd)), (b2, .inl (cI, 5, .inl ln)), (b3, .inl (cI, 5, .inl lo)), (b4, .inl (cI, 5, .inl hi)), (b5, .inl (cI, 5, .inl vl)), (bp, .inl (cI, 5, .inl ps)), (bu, .inl (cI, 5, .inl f1)), (bv, .inl (cI, 5, .inl f2)), (bk, .inl (cJ, 10, .inr (.inl ky))), (bw, .inl (cI, 10, .inl wh))] := hD
          refine z_callS (As := [.int p3, .int p2, .int (if p0 = 0 then 32 else 100)]) (rest := []) ⟨hx, hb, hml, hown, hts⟩ hG hK hP hD hS (c_X6_in l D cI cJ p3 p2 (if p0 = 0 then 32 else 100) ) (va_cwS 3 hts gX6_joint_X6_in rfl rfl rfl (by decide +kernel) ⟨Nat.le_of_ble_eq_true rfl, Nat.le_of_ble_eq_true rfl⟩) [] (by decide) rfl (fun _ => rfl) rfl hl.1 rfl (Nat.le_of_ble_eq_true rfl) dX6_joint_48 ⟨Nat.le_of_ble_eq_true rfl, Nat.le_of_ble_eq_true rfl⟩ (fun u_41 H locs hu_42 hP hD hS => ?_)
          obtain ⟨r_43, rfl⟩ : ∃ z, z = u_41 := ⟨_, rfl⟩
          have hu_42 : (r_43 = if p2 ≤ p3 ∧ p3 ≤ (if p0 = 0 then 32 else 100) then 1 else 0) := hu_42
          have e_44 := hu_42
          subst e_44
          have hP : va_P D vwCl [(ob, .inr (6, [.int th, .int (nI n), .ref b1, .ref b2, .ref b3, .ref b4, .ref b5, .int gx, .int gy, .int sl, .ref bp, .int x, .int y, .int h, .ref bu, .ref bv, .int fd, .ref bk, .ref bw])), (b1, .inl (cI, 5, .inl kd)), (b2, .inl (cI, 5, .inl ln)), (b3, .inl (cI, 5, .inl lo)), (b4, .inl (cI, 5, .inl hi)), (b5, .inl (cI, 5, .inl vl)), (bp, .inl (cI, 5, .inl ps)), (bu, .inl (cI, 5, .inl f1)), (bv, .inl (cI, 5, .inl f2)), (bk, .inl (cJ, 10, .inr (.inl ky))), (bw, .inl (cI, 10, .inl wh))] H := hP
          have hD : va_D A0 [(ob, .inr (6, [.int th, .int (nI n), .ref b1, .ref b2, .ref b3, .ref b4, .ref b5, .int gx, .int gy, .int sl, .ref bp, .int x, .int y, .int h, .ref bu, .ref bv, .int fd, .ref bk, .ref bw])), (b1, .inl (cI, 5, .inl kd)), (b2, .inl (cI, 5, .inl ln)), (b3, .inl (cI, 5, .inl lo)), (b4, .inl (cI, 5, .inl hi)), (b5, .inl (cI, 5, .inl vl)), (bp, .inl (cI, 5, .inl ps)), (bu, .inl (cI, 5, .inl f1)), (bv, .inl (cI, 5, .inl f2)), (bk, .inl (cJ, 10, .inr (.inl ky))), (bw, .inl (cI, 10, .inl wh))] := hD
          refine lv_if_eq (tgt := 58) hx hb dX6_joint_51 (by decide) (fun c_51 => ?_) (fun c_51 => ?_)
          · have hG9 : ¬ zGd p0 p1 p2 p3 := fun h => zif_0 c_51 ⟨h.2.2.2.2, h.2.2.2.1⟩
            refine lv_iconst (v := 0) hx hb dX6_joint_58 (by decide) ?_
            refine lv_istore (lv' := [(5, .int 0), (0, .ref ob), (1, .int p0), (2, .int p1), (3, .int p2), (4, .int p3)]) hx hb dX6_joint_59 hl (by decide) rfl (fun ls hl => ?_)
            refine lv_aload_n hx hb dX6_joint_61 rfl (lv_at hl 1 rfl) ?_
            refine lv_iload hx hb dX6_joint_62 (lv_at hl 0 rfl) ?_
            refine lv_if_ne (tgt := 71) hx hb dX6_joint_64 (by decide) (fun c_64 => ?_) (fun c_64 => ?_)
            · exact absurd (by decide) c_64
            · refine lv_iconst (v := 1) hx hb dX6_joint_67 (by decide) ?_
              refine lv_goto (tgt := 84) hx hb dX6_joint_68 (by decide) ?_
              refine va_put (D := D) (ci := 6) (v := .int 1) (ty := .int) (C := RX6) (T := TX6) (N := 19) hx hb hts hin6 tyX6 tyX6_ok nmX6 hown hK hP hD hS 0 rfl rfl 0 (by decide) hf45 (fun _ h9 => h9) rfl (by decide +kernel) rfl rfl (Nat.le_of_ble_eq_true rfl) dX6_joint_84 (fun H locs hP hD hS => ?_)
              have hP : va_P D vwCl [(ob, .inr (6, [.int 1, .int (nI n), .ref b1, .ref b2, .ref b3, .ref b4, .ref b5, .int gx, .int gy, .int sl, .ref bp, .int x, .int y, .int h, .ref bu, .ref bv, .int fd, .ref bk, .ref bw])), (b1, .inl (cI, 5, .inl kd)), (b2, .inl (cI, 5, .inl ln)), (b3, .inl (cI, 5, .inl lo)), (b4, .inl (cI, 5, .inl hi)), (b5, .inl (cI, 5, .inl vl)), (bp, .inl (cI, 5, .inl ps)), (bu, .inl (cI, 5, .inl f1)), (bv, .inl (cI, 5, .inl f2)), (bk, .inl (cJ, 10, .inr (.inl ky))), (bw, .inl (cI, 10, .inl wh))] H := hP
              have hD : va_D A0 [(ob, .inr (6, [.int 1, .int (nI n), .ref b1, .ref b2, .ref b3, .ref b4, .ref b5, .int gx, .int gy, .int sl, .ref bp, .int x, .int y, .int h, .ref bu, .ref bv, .int fd, .ref bk, .ref bw])), (b1, .inl (cI, 5, .inl kd)), (b2, .inl (cI, 5, .inl ln)), (b3, .inl (cI, 5, .inl lo)), (b4, .inl (cI, 5, .inl hi)), (b5, .inl (cI, 5, .inl vl)), (bp, .inl (cI, 5, .inl ps)), (bu, .inl (cI, 5, .inl f1)), (bv, .inl (cI, 5, .inl f2)), (bk, .inl (cJ, 10, .inr (.inl ky))), (bw, .inl (cI, 10, .inl wh))] := hD
              refine lv_aload_n hx hb dX6_joint_87 rfl (lv_at hl 1 rfl) ?_
              refine va_get (D := D) (ci := 6) (v := .int 1) (C := RX6) (T := TX6) (N := 19) hx hb hts hin6 hown hK hP 0 rfl rfl 0 (by decide) hf45 (fun _ h9 => h9) rfl dX6_joint_88 ?_
              refine lv_if_le (tgt := 96) hx hb dX6_joint_91 (by decide) (fun c_91 => ?_) (fun c_91 => ?_)
              · exact absurd c_91 (by decide)
              · refine lv_iconst (v := 0) hx hb dX6_joint_94 (by decide) ?_
                exact hRet _ (0, 1, n, kd, ln, lo, hi, vl) _ _ _ ⟨fun h => absurd h hG9, fun h => absurd h hG9, fun _ => ⟨rfl, rfl, rfl, rfl, rfl, rfl, rfl⟩⟩ hP hS dX6_joint_95
          · have hG9 : zGd p0 p1 p2 p3 := ⟨zk01.mp (zif_1 c_6), zif_1 c_17, (by have h9 := (zif_1 c_38).1; first | (rw [if_neg c_22]; exact h9) | (rw [if_pos c_22]; exact h9)), (zif_1 c_51).2, (zif_1 c_51).1⟩
            refine lv_iconst (v := 1) hx hb dX6_joint_54 (by decide) ?_
            refine lv_goto (tgt := 59) hx hb dX6_joint_55 (by decide) ?_
            refine lv_istore (lv' := [(5, .int 1), (0, .ref ob), (1, .int p0), (2, .int p1), (3, .int p2), (4, .int p3)]) hx hb dX6_joint_59 hl (by decide) rfl (fun ls hl => ?_)
            refine lv_aload_n hx hb dX6_joint_61 rfl (lv_at hl 1 rfl) ?_
            refine lv_iload hx hb dX6_joint_62 (lv_at hl 0 rfl) ?_
            refine lv_if_ne (tgt := 71) hx hb dX6_joint_64 (by decide) (fun c_64 => ?_) (fun c_64 => ?_)
            · refine lv_aload_n hx hb dX6_joint_71 rfl (lv_at hl 1 rfl) ?_
              refine va_get (D := D) (ci := 6) (v := .int (nI n)) (C := RX6) (T := TX6) (N := 19) hx hb hts hin6 hown hK hP 0 rfl rfl 1 (by decide) hf48 (fun _ h9 => h9) rfl dX6_joint_72 ?_
              refine lv_iconst (v := nI 5) hx hb dX6_joint_75 (rfl) ?_
              refine lv_icmp_ne (tgt := 83) hx hb dX6_joint_76 (by decide) (fun c_76 => ?_) (fun c_76 => ?_)
              · rw [nI_eq (by omega) (by omega)] at c_76
                refine lv_iconst (v := 0) hx hb dX6_joint_83 (by decide) ?_
                refine va_put (D := D) (ci := 6) (v := .int 0) (ty := .int) (C := RX6) (T := TX6) (N := 19) hx hb hts hin6 tyX6 tyX6_ok nmX6 hown hK hP hD hS 0 rfl rfl 0 (by decide) hf45 (fun _ h9 => h9) rfl (by decide +kernel) rfl rfl (Nat.le_of_ble_eq_true rfl) dX6_joint_84 (fun H locs hP hD hS => ?_)
                have hP : va_P D vwCl [(ob, .inr (6, [.int 0, .int (nI n), .ref b1, .ref b2, .ref b3, .ref b4, .ref b5, .int gx, .int gy, .int sl, .ref bp, .int x, .int y, .int h, .ref bu, .ref bv, .int fd, .ref bk, .ref bw])), (b1, .inl (cI, 5, .inl kd)), (b2, .inl (cI, 5, .inl ln)), (b3, .inl (cI, 5, .inl lo)), (b4, .inl (cI, 5, .inl hi)), (b5, .inl (cI, 5, .inl vl)), (bp, .inl (cI, 5, .inl ps)), (bu, .inl (cI, 5, .inl f1)), (bv, .inl (cI, 5, .inl f2)), (bk, .inl (cJ, 10, .inr (.inl ky))), (bw, .inl (cI, 10, .inl wh))] H := hP
                have hD : va_D A0 [(ob, .inr (6, [.int 0, .int (nI n), .ref b1, .ref b2, .ref b3, .ref b4, .ref b5, .int gx, .int gy, .int sl, .ref bp, .int x, .int y, .int h, .ref bu, .ref bv, .int fd, .ref bk, .ref bw])), (b1, .inl (cI, 5, .inl kd)), (b2, .inl (cI, 5, .inl ln)), (b3, .inl (cI, 5, .inl lo)), (b4, .inl (cI, 5, .inl hi)), (b5, .inl (cI, 5, .inl vl)), (bp, .inl (cI, 5, .inl ps)), (bu, .inl (cI, 5, .inl f1)), (bv, .inl (cI, 5, .inl f2)), (bk, .inl (cJ, 10, .inr (.inl ky))), (bw, .inl (cI, 10, .inl wh))] := hD
                refine lv_aload_n hx hb dX6_joint_87 rfl (lv_at hl 1 rfl) ?_
                refine va_get (D := D) (ci := 6) (v := .int 0) (C := RX6) (T := TX6) (N := 19) hx hb hts hin6 hown hK hP 0 rfl rfl 0 (by decide) hf45 (fun _ h9 => h9) rfl dX6_joint_88 ?_
                refine lv_if_le (tgt := 96) hx hb dX6_joint_91 (by decide) (fun c_91 => ?_) (fun c_91 => ?_)
                · refine lv_aload_n hx hb dX6_joint_96 rfl (lv_at hl 1 rfl) ?_
                  refine va_get (D := D) (ci := 6) (v := .ref b1) (C := RX6) (T := TX6) (N := 19) hx hb hts hin6 hown hK hP 0 rfl rfl 2 (by decide) hf7 (fun _ h9 => h9) rfl dX6_joint_97 ?_
                  refine lv_aload_n hx hb dX6_joint_100 rfl (lv_at hl 1 rfl) ?_
                  refine va_get (D := D) (ci := 6) (v := .int (nI n)) (C := RX6) (T := TX6) (N := 19) hx hb hts hin6 hown hK hP 0 rfl rfl 1 (by decide) hf48 (fun _ h9 => h9) rfl dX6_joint_101 ?_
                  refine lv_iload_n hx hb dX6_joint_104 rfl (lv_at hl 2 rfl) ?_
                  refine z_iast hx hb hK hP hD hS 1 rfl (j := n) (by omega) (by decide) dX6_joint_105 (fun H locs hP hD hS => ?_)
                  have hP : va_P D vwCl [(ob, .inr (6, [.int 0, .int (nI n), .ref b1, .ref b2, .ref b3, .ref b4, .ref b5, .int gx, .int gy, .int sl, .ref bp, .int x, .int y, .int h, .ref bu, .ref bv, .int fd, .ref bk, .ref bw])), (b1, .inl (cI, 5, .inl (upd kd n p0))), (b2, .inl (cI, 5, .inl ln)), (b3, .inl (cI, 5, .inl lo)), (b4, .inl (cI, 5, .inl hi)), (b5, .inl (cI, 5, .inl vl)), (bp, .inl (cI, 5, .inl ps)), (bu, .inl (cI, 5, .inl f1)), (bv, .inl (cI, 5, .inl f2)), (bk, .inl (cJ, 10, .inr (.inl ky))), (bw, .inl (cI, 10, .inl wh))] H := hP
                  have hD : va_D A0 [(ob, .inr (6, [.int 0, .int (nI n), .ref b1, .ref b2, .ref b3, .ref b4, .ref b5, .int gx, .int gy, .int sl, .ref bp, .int x, .int y, .int h, .ref bu, .ref bv, .int fd, .ref bk, .ref bw])), (b1, .inl (cI, 5, .inl (upd kd n p0))), (b2, .inl (cI, 5, .inl ln)), (b3, .inl (cI, 5, .inl lo)), (b4, .inl (cI, 5, .inl hi)), (b5, .inl (cI, 5, .inl vl)), (bp, .inl (cI, 5, .inl ps)), (bu, .inl (cI, 5, .inl f1)), (bv, .inl (cI, 5, .inl f2)), (bk, .inl (cJ, 10, .inr (.inl ky))), (bw, .inl (cI, 10, .inl wh))] := hD
                  refine lv_aload_n hx hb dX6_joint_106 rfl (lv_at hl 1 rfl) ?_
                  refine va_get (D := D) (ci := 6) (v := .ref b2) (C := RX6) (T := TX6) (N := 19) hx hb hts hin6 hown hK hP 0 rfl rfl 3 (by decide) hf13 (fun _ h9 => h9) rfl dX6_joint_107 ?_
                  refine lv_aload_n hx hb dX6_joint_110 rfl (lv_at hl 1 rfl) ?_
                  refine va_get (D := D) (ci := 6) (v := .int (nI n)) (C := RX6) (T := TX6) (N := 19) hx hb hts hin6 hown hK hP 0 rfl rfl 1 (by decide) hf48 (fun _ h9 => h9) rfl dX6_joint_111 ?_
                  refine lv_iload_n hx hb dX6_joint_114 rfl (lv_at hl 3 rfl) ?_
                  refine z_iast hx hb hK hP hD hS 2 rfl (j := n) (by omega) (by decide) dX6_joint_115 (fun H locs hP hD hS => ?_)
                  have hP : va_P D vwCl [(ob, .inr (6, [.int 0, .int (nI n), .ref b1, .ref b2, .ref b3, .ref b4, .ref b5, .int gx, .int gy, .int sl, .ref bp, .int x, .int y, .int h, .ref bu, .ref bv, .int fd, .ref bk, .ref bw])), (b1, .inl (cI, 5, .inl (upd kd n p0))), (b2, .inl (cI, 5, .inl (upd ln n p1))), (b3, .inl (cI, 5, .inl lo)), (b4, .inl (cI, 5, .inl hi)), (b5, .inl (cI, 5, .inl vl)), (bp, .inl (cI, 5, .inl ps)), (bu, .inl (cI, 5, .inl f1)), (bv, .inl (cI, 5, .inl f2)), (bk, .inl (cJ, 10, .inr (.inl ky))), (bw, .inl (cI, 10, .inl wh))] H := hP
                  have hD : va_D A0 [(ob, .inr (6, [.int 0, .int (nI n), .ref b1, .ref b2, .ref b3, .ref b4, .ref b5, .int gx, .int gy, .int sl, .ref bp, .int x, .int y, .int h, .ref bu, .ref bv, .int fd, .ref bk, .ref bw])), (b1, .inl (cI, 5, .inl (upd kd n p0))), (b2, .inl (cI, 5, .inl (upd ln n p1))), (b3, .inl (cI, 5, .inl lo)), (b4, .inl (cI, 5, .inl hi)), (b5, .inl (cI, 5, .inl vl)), (bp, .inl (cI, 5, .inl ps)), (bu, .inl (cI, 5, .inl f1)), (bv, .inl (cI, 5, .inl f2)), (bk, .inl (cJ, 10, .inr (.inl ky))), (bw, .inl (cI, 10, .inl wh))] := hD
                  refine lv_aload_n hx hb dX6_joint_116 rfl (lv_at hl 1 rfl) ?_
                  refine va_get (D := D) (ci := 6) (v := .ref b3) (C := RX6) (T := TX6) (N := 19) hx hb hts hin6 hown hK hP 0 rfl rfl 4 (by decide) hf16 (fun _ h9 => h9) rfl dX6_joint_117 ?_
                  refine lv_aload_n hx hb dX6_joint_120 rfl (lv_at hl 1 rfl) ?_
                  refine va_get (D := D) (ci := 6) (v := .int (nI n)) (C := RX6) (T := TX6) (N := 19) hx hb hts hin6 hown hK hP 0 rfl rfl 1 (by decide) hf48 (fun _ h9 => h9) rfl dX6_joint_121 ?_
                  refine lv_iload_n hx hb dX6_joint_124 rfl (lv_at hl 4 rfl) ?_
                  refine z_iast hx hb hK hP hD hS 3 rfl (j := n) (by omega) (by decide) dX6_joint_125 (fun H locs hP hD hS => ?_)
                  have hP : va_P D vwCl [(ob, .inr (6, [.int 0, .int (nI n), .ref b1, .ref b2, .ref b3, .ref b4, .ref b5, .int gx, .int gy, .int sl, .ref bp, .int x, .int y, .int h, .ref bu, .ref bv, .int fd, .ref bk, .ref bw])), (b1, .inl (cI, 5, .inl (upd kd n p0))), (b2, .inl (cI, 5, .inl (upd ln n p1))), (b3, .inl (cI, 5, .inl (upd lo n p2))), (b4, .inl (cI, 5, .inl hi)), (b5, .inl (cI, 5, .inl vl)), (bp, .inl (cI, 5, .inl ps)), (bu, .inl (cI, 5, .inl f1)), (bv, .inl (cI, 5, .inl f2)), (bk, .inl (cJ, 10, .inr (.inl ky))), (bw, .inl (cI, 10, .inl wh))] H := hP
                  have hD : va_D A0 [(ob, .inr (6, [.int 0, .int (nI n), .ref b1, .ref b2, .ref b3, .ref b4, .ref b5, .int gx, .int gy, .int sl, .ref bp, .int x, .int y, .int h, .ref bu, .ref bv, .int fd, .ref bk, .ref bw])), (b1, .inl (cI, 5, .inl (upd kd n p0))), (b2, .inl (cI, 5, .inl (upd ln n p1))), (b3, .inl (cI, 5, .inl (upd lo n p2))), (b4, .inl (cI, 5, .inl hi)), (b5, .inl (cI, 5, .inl vl)), (bp, .inl (cI, 5, .inl ps)), (bu, .inl (cI, 5, .inl f1)), (bv, .inl (cI, 5, .inl f2)), (bk, .inl (cJ, 10, .inr (.inl ky))), (bw, .inl (cI, 10, .inl wh))] := hD
                  refine lv_aload_n hx hb dX6_joint_126 rfl (lv_at hl 1 rfl) ?_
                  refine va_get (D := D) (ci := 6) (v := .ref b4) (C := RX6) (T := TX6) (N := 19) hx hb hts hin6 hown hK hP 0 rfl rfl 5 (by decide) hf19 (fun _ h9 => h9) rfl dX6_joint_127 ?_
                  refine lv_aload_n hx hb dX6_joint_130 rfl (lv_at hl 1 rfl) ?_
                  refine va_get (D := D) (ci := 6) (v := .int (nI n)) (C := RX6) (T := TX6) (N := 19) hx hb hts hin6 hown hK hP 0 rfl rfl 1 (by decide) hf48 (fun _ h9 => h9) rfl dX6_joint_131 ?_
                  refine lv_iload hx hb dX6_joint_134 (lv_at hl 5 rfl) ?_
                  refine z_iast hx hb hK hP hD hS 4 rfl (j := n) (by omega) (by decide) dX6_joint_136 (fun H locs hP hD hS => ?_)
                  have hP : va_P D vwCl [(ob, .inr (6, [.int 0, .int (nI n), .ref b1, .ref b2, .ref b3, .ref b4, .ref b5, .int gx, .int gy, .int sl, .ref bp, .int x, .int y, .int h, .ref bu, .ref bv, .int fd, .ref bk, .ref bw])), (b1, .inl (cI, 5, .inl (upd kd n p0))), (b2, .inl (cI, 5, .inl (upd ln n p1))), (b3, .inl (cI, 5, .inl (upd lo n p2))), (b4, .inl (cI, 5, .inl (upd hi n p3))), (b5, .inl (cI, 5, .inl vl)), (bp, .inl (cI, 5, .inl ps)), (bu, .inl (cI, 5, .inl f1)), (bv, .inl (cI, 5, .inl f2)), (bk, .inl (cJ, 10, .inr (.inl ky))), (bw, .inl (cI, 10, .inl wh))] H := hP
                  have hD : va_D A0 [(ob, .inr (6, [.int 0, .int (nI n), .ref b1, .ref b2, .ref b3, .ref b4, .ref b5, .int gx, .int gy, .int sl, .ref bp, .int x, .int y, .int h, .ref bu, .ref bv, .int fd, .ref bk, .ref bw])), (b1, .inl (cI, 5, .inl (upd kd n p0))), (b2, .inl (cI, 5, .inl (upd ln n p1))), (b3, .inl (cI, 5, .inl (upd lo n p2))), (b4, .inl (cI, 5, .inl (upd hi n p3))), (b5, .inl (cI, 5, .inl vl)), (bp, .inl (cI, 5, .inl ps)), (bu, .inl (cI, 5, .inl f1)), (bv, .inl (cI, 5, .inl f2)), (bk, .inl (cJ, 10, .inr (.inl ky))), (bw, .inl (cI, 10, .inl wh))] := hD
                  refine lv_aload_n hx hb dX6_joint_137 rfl (lv_at hl 1 rfl) ?_
                  refine va_get (D := D) (ci := 6) (v := .ref b5) (C := RX6) (T := TX6) (N := 19) hx hb hts hin6 hown hK hP 0 rfl rfl 6 (by decide) hf22 (fun _ h9 => h9) rfl dX6_joint_138 ?_
                  refine lv_aload_n hx hb dX6_joint_141 rfl (lv_at hl 1 rfl) ?_
                  refine va_get (D := D) (ci := 6) (v := .int (nI n)) (C := RX6) (T := TX6) (N := 19) hx hb hts hin6 hown hK hP 0 rfl rfl 1 (by decide) hf48 (fun _ h9 => h9) rfl dX6_joint_142 ?_
                  refine lv_iconst (v := 0) hx hb dX6_joint_145 (by decide) ?_
                  refine lv_iload_n hx hb dX6_joint_146 rfl (lv_at hl 4 rfl) ?_
                  refine lv_iload hx hb dX6_joint_147 (lv_at hl 5 rfl) ?_
                  refine z_callS (As := [.int 0, .int p2, .int p3]) (rest := [.int (nI n), .ref b5]) ⟨hx, hb, hml, hown, hts⟩ hG hK hP hD hS (c_X6_held l D cI cJ 0 p2 p3 ) (va_cwS 3 hts gX6_joint_X6_held rfl rfl rfl (by decide +kernel) ⟨Nat.le_of_ble_eq_true rfl, Nat.le_of_ble_eq_true rfl⟩) [] (by decide) rfl (fun _ => rfl) rfl hl.1 rfl (Nat.le_of_ble_eq_true rfl) dX6_joint_149 ⟨Nat.le_of_ble_eq_true rfl, Nat.le_of_ble_eq_true rfl⟩ (fun u_45 H locs hu_46 hP hD hS => ?_)
                  obtain ⟨r_47, rfl⟩ : ∃ z, z = u_45 := ⟨_, rfl⟩
                  have hu_46 : (r_47 = zHeldR p2 p3 0) := hu_46
                  have e_48 := hu_46
                  subst e_48
                  have hP : va_P D vwCl [(ob, .inr (6, [.int 0, .int (nI n), .ref b1, .ref b2, .ref b3, .ref b4, .ref b5, .int gx, .int gy, .int sl, .ref bp, .int x, .int y, .int h, .ref bu, .ref bv, .int fd, .ref bk, .ref bw])), (b1, .inl (cI, 5, .inl (upd kd n p0))), (b2, .inl (cI, 5, .inl (upd ln n p1))), (b3, .inl (cI, 5, .inl (upd lo n p2))), (b4, .inl (cI, 5, .inl (upd hi n p3))), (b5, .inl (cI, 5, .inl vl)), (bp, .inl (cI, 5, .inl ps)), (bu, .inl (cI, 5, .inl f1)), (bv, .inl (cI, 5, .inl f2)), (bk, .inl (cJ, 10, .inr (.inl ky))), (bw, .inl (cI, 10, .inl wh))] H := hP
                  have hD : va_D A0 [(ob, .inr (6, [.int 0, .int (nI n), .ref b1, .ref b2, .ref b3, .ref b4, .ref b5, .int gx, .int gy, .int sl, .ref bp, .int x, .int y, .int h, .ref bu, .ref bv, .int fd, .ref bk, .ref bw])), (b1, .inl (cI, 5, .inl (upd kd n p0))), (b2, .inl (cI, 5, .inl (upd ln n p1))), (b3, .inl (cI, 5, .inl (upd lo n p2))), (b4, .inl (cI, 5, .inl (upd hi n p3))), (b5, .inl (cI, 5, .inl vl)), (bp, .inl (cI, 5, .inl ps)), (bu, .inl (cI, 5, .inl f1)), (bv, .inl (cI, 5, .inl f2)), (bk, .inl (cJ, 10, .inr (.inl ky))), (bw, .inl (cI, 10, .inl wh))] := hD
                  refine z_iast hx hb hK hP hD hS 5 rfl (j := n) (by omega) (by decide) dX6_joint_152 (fun H locs hP hD hS => ?_)
                  have hP : va_P D vwCl [(ob, .inr (6, [.int 0, .int (nI n), .ref b1, .ref b2, .ref b3, .ref b4, .ref b5, .int gx, .int gy, .int sl, .ref bp, .int x, .int y, .int h, .ref bu, .ref bv, .int fd, .ref bk, .ref bw])), (b1, .inl (cI, 5, .inl (upd kd n p0))), (b2, .inl (cI, 5, .inl (upd ln n p1))), (b3, .inl (cI, 5, .inl (upd lo n p2))), (b4, .inl (cI, 5, .inl (upd hi n p3))), (b5, .inl (cI, 5, .inl (upd vl n (zHeldR p2 p3 0)))), (bp, .inl (cI, 5, .inl ps)), (bu, .inl (cI, 5, .inl f1)), (bv, .inl (cI, 5, .inl f2)), (bk, .inl (cJ, 10, .inr (.inl ky))), (bw, .inl (cI, 10, .inl wh))] H := hP
                  have hD : va_D A0 [(ob, .inr (6, [.int 0, .int (nI n), .ref b1, .ref b2, .ref b3, .ref b4, .ref b5, .int gx, .int gy, .int sl, .ref bp, .int x, .int y, .int h, .ref bu, .ref bv, .int fd, .ref bk, .ref bw])), (b1, .inl (cI, 5, .inl (upd kd n p0))), (b2, .inl (cI, 5, .inl (upd ln n p1))), (b3, .inl (cI, 5, .inl (upd lo n p2))), (b4, .inl (cI, 5, .inl (upd hi n p3))), (b5, .inl (cI, 5, .inl (upd vl n (zHeldR p2 p3 0)))), (bp, .inl (cI, 5, .inl ps)), (bu, .inl (cI, 5, .inl f1)), (bv, .inl (cI, 5, .inl f2)), (bk, .inl (cJ, 10, .inr (.inl ky))), (bw, .inl (cI, 10, .inl wh))] := hD
                  refine lv_aload_n hx hb dX6_joint_153 rfl (lv_at hl 1 rfl) ?_
                  refine lv_dup hx hb dX6_joint_154 rfl ?_
                  refine va_get (D := D) (ci := 6) (v := .int (nI n)) (C := RX6) (T := TX6) (N := 19) hx hb hts hin6 hown hK hP 0 rfl rfl 1 (by decide) hf48 (fun _ h9 => h9) rfl dX6_joint_155 ?_
                  refine lv_iconst (v := 1) hx hb dX6_joint_158 (by decide) ?_
                  refine lv_iadd hx hb dX6_joint_159 ?_
                  refine z_topi (y := nI (n + 1)) ((nI_succ _).symm) ?_
                  refine va_put (D := D) (ci := 6) (v := .int (nI (n + 1))) (ty := .int) (C := RX6) (T := TX6) (N := 19) hx hb hts hin6 tyX6 tyX6_ok nmX6 hown hK hP hD hS 0 rfl rfl 1 (by decide) hf48 (fun _ h9 => h9) rfl (by decide +kernel) rfl rfl (Nat.le_of_ble_eq_true rfl) dX6_joint_160 (fun H locs hP hD hS => ?_)
                  have hP : va_P D vwCl [(ob, .inr (6, [.int 0, .int (nI (n + 1)), .ref b1, .ref b2, .ref b3, .ref b4, .ref b5, .int gx, .int gy, .int sl, .ref bp, .int x, .int y, .int h, .ref bu, .ref bv, .int fd, .ref bk, .ref bw])), (b1, .inl (cI, 5, .inl (upd kd n p0))), (b2, .inl (cI, 5, .inl (upd ln n p1))), (b3, .inl (cI, 5, .inl (upd lo n p2))), (b4, .inl (cI, 5, .inl (upd hi n p3))), (b5, .inl (cI, 5, .inl (upd vl n (zHeldR p2 p3 0)))), (bp, .inl (cI, 5, .inl ps)), (bu, .inl (cI, 5, .inl f1)), (bv, .inl (cI, 5, .inl f2)), (bk, .inl (cJ, 10, .inr (.inl ky))), (bw, .inl (cI, 10, .inl wh))] H := hP
                  have hD : va_D A0 [(ob, .inr (6, [.int 0, .int (nI (n + 1)), .ref b1, .ref b2, .ref b3, .ref b4, .ref b5, .int gx, .int gy, .int sl, .ref bp, .int x, .int y, .int h, .ref bu, .ref bv, .int fd, .ref bk, .ref bw])), (b1, .inl (cI, 5, .inl (upd kd n p0))), (b2, .inl (cI, 5, .inl (upd ln n p1))), (b3, .inl (cI, 5, .inl (upd lo n p2))), (b4, .inl (cI, 5, .inl (upd hi n p3))), (b5, .inl (cI, 5, .inl (upd vl n (zHeldR p2 p3 0)))), (bp, .inl (cI, 5, .inl ps)), (bu, .inl (cI, 5, .inl f1)), (bv, .inl (cI, 5, .inl f2)), (bk, .inl (cJ, 10, .inr (.inl ky))), (bw, .inl (cI, 10, .inl wh))] := hD
                  refine lv_aload_n hx hb dX6_joint_163 rfl (lv_at hl 1 rfl) ?_
                  refine va_get (D := D) (ci := 6) (v := .int (nI (n + 1))) (C := RX6) (T := TX6) (N := 19) hx hb hts hin6 hown hK hP 0 rfl rfl 1 (by decide) hf48 (fun _ h9 => h9) rfl dX6_joint_164 ?_
                  refine lv_iconst (v := 1) hx hb dX6_joint_167 (by decide) ?_
                  refine lv_isub hx hb dX6_joint_168 ?_
                  exact hRet _ ((nI (n + 1)) - 1, 0, (n + 1), upd kd n p0, upd ln n p1, upd lo n p2, upd hi n p3, upd vl n (zHeldR p2 p3 0)) _ _ _ ⟨fun _ _ => ⟨rfl, nI_pred n, rfl, rfl, rfl, rfl, rfl, by rw [zHeld_eq hG9.2.2.2.2]⟩, fun _ h => absurd (by omega) h, fun h => absurd hG9 h⟩ hP hS dX6_joint_169
                · exact absurd (by decide) c_91
              · rw [nI_eq (by omega) (by omega)] at c_76
                refine lv_iconst (v := 2) hx hb dX6_joint_79 (by decide) ?_
                refine lv_goto (tgt := 84) hx hb dX6_joint_80 (by decide) ?_
                refine va_put (D := D) (ci := 6) (v := .int 2) (ty := .int) (C := RX6) (T := TX6) (N := 19) hx hb hts hin6 tyX6 tyX6_ok nmX6 hown hK hP hD hS 0 rfl rfl 0 (by decide) hf45 (fun _ h9 => h9) rfl (by decide +kernel) rfl rfl (Nat.le_of_ble_eq_true rfl) dX6_joint_84 (fun H locs hP hD hS => ?_)
                have hP : va_P D vwCl [(ob, .inr (6, [.int 2, .int (nI n), .ref b1, .ref b2, .ref b3, .ref b4, .ref b5, .int gx, .int gy, .int sl, .ref bp, .int x, .int y, .int h, .ref bu, .ref bv, .int fd, .ref bk, .ref bw])), (b1, .inl (cI, 5, .inl kd)), (b2, .inl (cI, 5, .inl ln)), (b3, .inl (cI, 5, .inl lo)), (b4, .inl (cI, 5, .inl hi)), (b5, .inl (cI, 5, .inl vl)), (bp, .inl (cI, 5, .inl ps)), (bu, .inl (cI, 5, .inl f1)), (bv, .inl (cI, 5, .inl f2)), (bk, .inl (cJ, 10, .inr (.inl ky))), (bw, .inl (cI, 10, .inl wh))] H := hP
                have hD : va_D A0 [(ob, .inr (6, [.int 2, .int (nI n), .ref b1, .ref b2, .ref b3, .ref b4, .ref b5, .int gx, .int gy, .int sl, .ref bp, .int x, .int y, .int h, .ref bu, .ref bv, .int fd, .ref bk, .ref bw])), (b1, .inl (cI, 5, .inl kd)), (b2, .inl (cI, 5, .inl ln)), (b3, .inl (cI, 5, .inl lo)), (b4, .inl (cI, 5, .inl hi)), (b5, .inl (cI, 5, .inl vl)), (bp, .inl (cI, 5, .inl ps)), (bu, .inl (cI, 5, .inl f1)), (bv, .inl (cI, 5, .inl f2)), (bk, .inl (cJ, 10, .inr (.inl ky))), (bw, .inl (cI, 10, .inl wh))] := hD
                refine lv_aload_n hx hb dX6_joint_87 rfl (lv_at hl 1 rfl) ?_
                refine va_get (D := D) (ci := 6) (v := .int 2) (C := RX6) (T := TX6) (N := 19) hx hb hts hin6 hown hK hP 0 rfl rfl 0 (by decide) hf45 (fun _ h9 => h9) rfl dX6_joint_88 ?_
                refine lv_if_le (tgt := 96) hx hb dX6_joint_91 (by decide) (fun c_91 => ?_) (fun c_91 => ?_)
                · exact absurd c_91 (by decide)
                · refine lv_iconst (v := 0) hx hb dX6_joint_94 (by decide) ?_
                  exact hRet _ (0, 2, n, kd, ln, lo, hi, vl) _ _ _ ⟨fun _ h => absurd h (by omega), fun _ _ => ⟨rfl, rfl, rfl, rfl, rfl, rfl, rfl⟩, fun h => absurd hG9 h⟩ hP hS dX6_joint_95
            · exact absurd c_64 (by decide)
