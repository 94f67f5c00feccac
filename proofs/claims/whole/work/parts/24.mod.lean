set_option maxHeartbeats 4000000 in
set_option maxRecDepth 100000 in
theorem c_X6_thrown (l : Launch) (D : va_G) (cI cJ : ClassId) (ob : Nat) (b1 : Nat) (b2 : Nat) (b3 : Nat) (b4 : Nat) (b5 : Nat) (bp : Nat) (bu : Nat) (bv : Nat) (bk : Nat) (bw : Nat) (n : Nat) (th : Int32) (gx : Int32) (gy : Int32) (sl : Int32) (x : Int32) (y : Int32) (h : Int32) (fd : Int32) (kd : Nat → Int32) (ln : Nat → Int32) (lo : Nat → Int32) (hi : Nat → Int32) (vl : Nat → Int32) (ps : Nat → Int32) (f1 : Nat → Int32) (f2 : Nat → Int32) (ky : Nat → Int64) (wh : Nat → Int32)  : zM l yX6_thrown wsX6_thrown 0 D cI cJ [.ref ob] [(ob, .inr (6, [.int th, .int (nI n), .ref b1, .ref b2, .ref b3, .ref b4, .ref b5, .int gx, .int gy, .int sl, .ref bp, .int x, .int y, .int h, .ref bu, .ref bv, .int fd, .ref bk, .ref bw])), (b1, .inl (cI, 5, .inl kd)), (b2, .inl (cI, 5, .inl ln)), (b3, .inl (cI, 5, .inl lo)), (b4, .inl (cI, 5, .inl hi)), (b5, .inl (cI, 5, .inl vl)), (bp, .inl (cI, 5, .inl ps)), (bu, .inl (cI, 5, .inl f1)), (bv, .inl (cI, 5, .inl f2)), (bk, .inl (cJ, 10, .inr (.inl ky))), (bw, .inl (cI, 10, .inl wh))] (fun (u : Int32) => (u = th)) (fun (u : Int32) => some (.int u)) (fun (u : Int32) => [(ob, .inr (6, [.int th, .int (nI n), .ref b1, .ref b2, .ref b3, .ref b4, .ref b5, .int gx, .int gy, .int sl, .ref bp, .int x, .int y, .int h, .ref bu, .ref bv, .int fd, .ref bk, .ref bw])), (b1, .inl (cI, 5, .inl kd)), (b2, .inl (cI, 5, .inl ln)), (b3, .inl (cI, 5, .inl lo)), (b4, .inl (cI, 5, .inl hi)), (b5, .inl (cI, 5, .inl vl)), (bp, .inl (cI, 5, .inl ps)), (bu, .inl (cI, 5, .inl f1)), (bv, .inl (cI, 5, .inl f2)), (bk, .inl (cJ, 10, .inr (.inl ky))), (bw, .inl (cI, 10, .inl wh))]) := by
  refine zM_i (cc := cX6_thrown) (maxL := 1) (r := fun (u : Int32) => u) (by decide) rfl (Nat.le_of_ble_eq_true rfl) ?_
  intro p e s m args below meth c ls A0 Q C hl hP hS hRet
  obtain ⟨⟨hx, hb, hml, hown, hts⟩, hG, hK, hD, hlocks⟩ := C
  have hin6 : ∀ w ∈ u_ws RX6 TX6 19, w ∈ wsX6_thrown := by decide +kernel
  have hf45 := hts (.fieldLink RX6 45 "ArmRoomModel" "thrown" "I") (by decide +kernel)
  have hl : lv_has ls 1 [(0, .ref ob)] := hl
  refine lv_aload_n hx hb dX6_thrown_0 rfl (lv_at hl 0 rfl) ?_
  refine va_get (D := D) (ci := 6) (v := .int th) (C := RX6) (T := TX6) (N := 19) hx hb hts hin6 hown hK hP 0 rfl rfl 0 (by decide) hf45 (fun _ h9 => h9) rfl dX6_thrown_1 ?_
  exact hRet _ (th) _ _ _ (rfl) hP hS dX6_thrown_4

set_option maxHeartbeats 4000000 in
set_option maxRecDepth 100000 in
theorem c_X6_in (l : Launch) (D : va_G) (cI cJ : ClassId) (v : Int32) (u1 : Int32) (u2 : Int32)  : zM l yX6_in wsX6_in 0 D cI cJ [.int v, .int u1, .int u2] [] (fun (u : Int32) => (u = if u1 ≤ v ∧ v ≤ u2 then 1 else 0)) (fun (u : Int32) => some (.int u)) (fun (u : Int32) => []) := by
  refine zM_z (cc := cX6_in) (maxL := 3) (r := fun (u : Int32) => u) (fun u h => by simp only [h]; split <;> simp) (by decide) rfl (Nat.le_of_ble_eq_true rfl) ?_
  intro p e s m args below meth c ls A0 Q C hl hP hS hRet
  obtain ⟨⟨hx, hb, hml, hown, hts⟩, hG, hK, hD, hlocks⟩ := C
  have hl : lv_has ls 3 [(0, .int v), (1, .int u1), (2, .int u2)] := hl
  refine lv_iload_n hx hb dX6_in_0 rfl (lv_at hl 0 rfl) ?_
  refine lv_iload_n hx hb dX6_in_1 rfl (lv_at hl 1 rfl) ?_
  refine lv_icmp_lt (tgt := 14) hx hb dX6_in_2 (by decide) (fun c_2 => ?_) (fun c_2 => ?_)
  · refine lv_iconst (v := 0) hx hb dX6_in_14 (by decide) ?_
    exact hRet _ (0) _ _ _ (by first | (exact (if_pos ⟨Int32.not_lt.mp c_2, Int32.not_lt.mp c_7⟩).symm) | (exact (if_neg (fun h => absurd c_2 (Int32.not_lt.mpr h.1))).symm) | (exact (if_neg (fun h => absurd c_7 (Int32.not_lt.mpr h.2))).symm)) hP hS dX6_in_15
  · refine lv_iload_n hx hb dX6_in_5 rfl (lv_at hl 0 rfl) ?_
    refine lv_iload_n hx hb dX6_in_6 rfl (lv_at hl 2 rfl) ?_
    refine lv_icmp_gt (tgt := 14) hx hb dX6_in_7 (by decide) (fun c_7 => ?_) (fun c_7 => ?_)
    · refine lv_iconst (v := 0) hx hb dX6_in_14 (by decide) ?_
      exact hRet _ (0) _ _ _ (by first | (exact (if_pos ⟨Int32.not_lt.mp c_2, Int32.not_lt.mp c_7⟩).symm) | (exact (if_neg (fun h => absurd c_2 (Int32.not_lt.mpr h.1))).symm) | (exact (if_neg (fun h => absurd c_7 (Int32.not_lt.mpr h.2))).symm)) hP hS dX6_in_15
    · refine lv_iconst (v := 1) hx hb dX6_in_10 (by decide) ?_
      refine lv_goto (tgt := 15) hx hb dX6_in_11 (by decide) ?_
      exact hRet _ (1) _ _ _ (by first | (exact (if_pos ⟨Int32.not_lt.mp c_2, Int32.not_lt.mp c_7⟩).symm) | (exact (if_neg (fun h => absurd c_2 (Int32.not_lt.mpr h.1))).symm) | (exact (if_neg (fun h => absurd c_7 (Int32.not_lt.mpr h.2))).symm)) hP hS dX6_in_15

set_option maxHeartbeats 4000000 in
set_option maxRecDepth 100000 in
theorem c_X6_isJoint (l : Launch) (D : va_G) (cI cJ : ClassId) (ob : Nat) (b1 : Nat) (b2 : Nat) (b3 : Nat) (b4 : Nat) (b5 : Nat) (bp : Nat) (bu : Nat) (bv : Nat) (bk : Nat) (bw : Nat) (n : Nat) (th : Int32) (gx : Int32) (gy : Int32) (sl : Int32) (x : Int32) (y : Int32) (h : Int32) (fd : Int32) (kd : Nat → Int32) (ln : Nat → Int32) (lo : Nat → Int32) (hi : Nat → Int32) (vl : Nat → Int32) (ps : Nat → Int32) (f1 : Nat → Int32) (f2 : Nat → Int32) (ky : Nat → Int64) (wh : Nat → Int32) (j : Int32) (hn : n ≤ 5) : zM l yX6_isJoint wsX6_isJoint 1 D cI cJ [.ref ob, .int j] [(ob, .inr (6, [.int th, .int (nI n), .ref b1, .ref b2, .ref b3, .ref b4, .ref b5, .int gx, .int gy, .int sl, .ref bp, .int x, .int y, .int h, .ref bu, .ref bv, .int fd, .ref bk, .ref bw])), (b1, .inl (cI, 5, .inl kd)), (b2, .inl (cI, 5, .inl ln)), (b3, .inl (cI, 5, .inl lo)), (b4, .inl (cI, 5, .inl hi)), (b5, .inl (cI, 5, .inl vl)), (bp, .inl (cI, 5, .inl ps)), (bu, .inl (cI, 5, .inl f1)), (bv, .inl (cI, 5, .inl f2)), (bk, .inl (cJ, 10, .inr (.inl ky))), (bw, .inl (cI, 10, .inl wh))] (fun (u : Int32) => (u = if zJ n j then 1 else 0)) (fun (u : Int32) => some (.int u)) (fun (u : Int32) => [(ob, .inr (6, [.int th, .int (nI n), .ref b1, .ref b2, .ref b3, .ref b4, .ref b5, .int gx, .int gy, .int sl, .ref bp, .int x, .int y, .int h, .ref bu, .ref bv, .int fd, .ref bk, .ref bw])), (b1, .inl (cI, 5, .inl kd)), (b2, .inl (cI, 5, .inl ln)), (b3, .inl (cI, 5, .inl lo)), (b4, .inl (cI, 5, .inl hi)), (b5, .inl (cI, 5, .inl vl)), (bp, .inl (cI, 5, .inl ps)), (bu, .inl (cI, 5, .inl f1)), (bv, .inl (cI, 5, .inl f2)), (bk, .inl (cJ, 10, .inr (.inl ky))), (bw, .inl (cI, 10, .inl wh))]) := by
  refine zM_z (cc := cX6_isJoint) (maxL := 2) (r := fun (u : Int32) => u) (fun u h => by simp only [h]; split <;> simp) (by decide) rfl (Nat.le_of_ble_eq_true rfl) ?_
  intro p e s m args below meth c ls A0 Q C hl hP hS hRet
  obtain ⟨⟨hx, hb, hml, hown, hts⟩, hG, hK, hD, hlocks⟩ := C
  have hin6 : ∀ w ∈ u_ws RX6 TX6 19, w ∈ wsX6_isJoint := by decide +kernel
  have hf48 := hts (.fieldLink RX6 48 "ArmRoomModel" "joints" "I") (by decide +kernel)
  have hl : lv_has ls 2 [(0, .ref ob), (1, .int j)] := hl
  refine lv_iload_n hx hb dX6_isJoint_0 rfl (lv_at hl 1 rfl) ?_
  refine lv_iconst (v := 0) hx hb dX6_isJoint_1 (by decide) ?_
  refine lv_aload_n hx hb dX6_isJoint_2 rfl (lv_at hl 0 rfl) ?_
  refine va_get (D := D) (ci := 6) (v := .int (nI n)) (C := RX6) (T := TX6) (N := 19) hx hb hts hin6 hown hK hP 0 rfl rfl 1 (by decide) hf48 (fun _ h9 => h9) rfl dX6_isJoint_3 ?_
  refine lv_iconst (v := 1) hx hb dX6_isJoint_6 (by decide) ?_
  refine lv_isub hx hb dX6_isJoint_7 ?_
  refine z_callS (As := [.int j, .int 0, .int (nI n - 1)]) (rest := []) ⟨hx, hb, hml, hown, hts⟩ hG hK hP hD hS (c_X6_in l D cI cJ j 0 (nI n - 1) ) (va_cwS 3 hts gX6_isJoint_X6_in rfl rfl rfl (by decide +kernel) ⟨Nat.le_of_ble_eq_true rfl, Nat.le_of_ble_eq_true rfl⟩) [] (by decide) rfl (fun _ => rfl) rfl hl.1 rfl (Nat.le_of_ble_eq_true rfl) dX6_isJoint_8 ⟨Nat.le_of_ble_eq_true rfl, Nat.le_of_ble_eq_true rfl⟩ (fun u_1 H locs hu_2 hP hD hS => ?_)
  obtain ⟨r_3, rfl⟩ : ∃ z, z = u_1 := ⟨_, rfl⟩
  have hu_2 : (r_3 = if 0 ≤ j ∧ j ≤ (nI n - 1) then 1 else 0) := hu_2
  have e_4 := hu_2
  subst e_4
  have hP : va_P D vwCl [(ob, .inr (6, [.int th, .int (nI n), .ref b1, .ref b2, .ref b3, .ref b4, .ref b5, .int gx, .int gy, .int sl, .ref bp, .int x, .int y, .int h, .ref bu, .ref bv, .int fd, .ref bk, .ref bw])), (b1, .inl (cI, 5, .inl kd)), (b2, .inl (cI, 5, .inl ln)), (b3, .inl (cI, 5, .inl lo)), (b4, .inl (cI, 5, .inl hi)), (b5, .inl (cI, 5, .inl vl)), (bp, .inl (cI, 5, .inl ps)), (bu, .inl (cI, 5, .inl f1)), (bv, .inl (cI, 5, .inl f2)), (bk, .inl (cJ, 10, .inr (.inl ky))), (bw, .inl (cI, 10, .inl wh))] H := hP
  have hD : va_D A0 [(ob, .inr (6, [.int th, .int (nI n), .ref b1, .ref b2, .ref b3, .ref b4, .ref b5, .int gx, .int gy, .int sl, .ref bp, .int x, .int y, .int h, .ref bu, .ref bv, .int fd, .ref bk, .ref bw])), (b1, .inl (cI, 5, .inl kd)), (b2, .inl (cI, 5, .inl ln)), (b3, .inl (cI, 5, .inl lo)), (b4, .inl (cI, 5, .inl hi)), (b5, .inl (cI, 5, .inl vl)), (bp, .inl (cI, 5, .inl ps)), (bu, .inl (cI, 5, .inl f1)), (bv, .inl (cI, 5, .inl f2)), (bk, .inl (cJ, 10, .inr (.inl ky))), (bw, .inl (cI, 10, .inl wh))] := hD
  exact hRet _ (if 0 ≤ j ∧ j ≤ (nI n - 1) then 1 else 0) _ _ _ (zif_iff (zJ_pred hn j)) hP hS dX6_isJoint_11

set_option maxHeartbeats 4000000 in
set_option maxRecDepth 100000 in
theorem c_X6_quarter (l : Launch) (D : va_G) (cI cJ : ClassId) (k : Nat) (hk : k ≤ 16) : zM l yX6_quarter wsX6_quarter 0 D cI cJ [.int (nI k)] [] (fun (u : Int32) => (u = zSin k)) (fun (u : Int32) => some (.int u)) (fun (u : Int32) => []) := by
  refine zM_i (cc := cX6_quarter) (maxL := 1) (r := fun (u : Int32) => u) (by decide) rfl (Nat.le_of_ble_eq_true rfl) ?_
  intro p e s m args below meth c ls A0 Q C hl hP hS hRet
  obtain ⟨⟨hx, hb, hml, hown, hts⟩, hG, hK, hD, hlocks⟩ := C
  have hl : lv_has ls 1 [(0, .int (nI k))] := hl
  refine lv_iload_n hx hb dX6_quarter_0 rfl (lv_at hl 0 rfl) ?_
  rcases (show k = 0 ∨ k = 1 ∨ k = 2 ∨ k = 3 ∨ k = 4 ∨ k = 5 ∨ k = 6 ∨ k = 7 ∨ k = 8 ∨ k = 9 ∨ k = 10 ∨ k = 11 ∨ k = 12 ∨ k = 13 ∨ k = 14 ∨ k = 15 ∨ k = 16 by omega) with rfl | rfl | rfl | rfl | rfl | rfl | rfl | rfl | rfl | rfl | rfl | rfl | rfl | rfl | rfl | rfl | rfl
  · refine lv_tableIn (off := 79) (tgt := 80) hx hb dX6_quarter_1 (by decide) (by decide) (by decide) (by decide) ?_
    refine lv_iconst (v := 0) hx hb dX6_quarter_80 (by decide) ?_
    exact hRet _ (0) _ _ _ (by decide) hP hS dX6_quarter_81
  · refine lv_tableIn (off := 81) (tgt := 82) hx hb dX6_quarter_1 (by decide) (by decide) (by decide) (by decide) ?_
    refine lv_bipush (v := 98) hx hb dX6_quarter_82 (by decide) ?_
    exact hRet _ (98) _ _ _ (by decide) hP hS dX6_quarter_84
  · refine lv_tableIn (off := 84) (tgt := 85) hx hb dX6_quarter_1 (by decide) (by decide) (by decide) (by decide) ?_
    refine lv_sipush (v := 195) hx hb dX6_quarter_85 (by decide) ?_
    exact hRet _ (195) _ _ _ (by decide) hP hS dX6_quarter_88
  · refine lv_tableIn (off := 88) (tgt := 89) hx hb dX6_quarter_1 (by decide) (by decide) (by decide) (by decide) ?_
    refine lv_sipush (v := 290) hx hb dX6_quarter_89 (by decide) ?_
    exact hRet _ (290) _ _ _ (by decide) hP hS dX6_quarter_92
  · refine lv_tableIn (off := 92) (tgt := 93) hx hb dX6_quarter_1 (by decide) (by decide) (by decide) (by decide) ?_
    refine lv_sipush (v := 383) hx hb dX6_quarter_93 (by decide) ?_
    exact hRet _ (383) _ _ _ (by decide) hP hS dX6_quarter_96
  · refine lv_tableIn (off := 96) (tgt := 97) hx hb dX6_quarter_1 (by decide) (by decide) (by decide) (by decide) ?_
    refine lv_sipush (v := 471) hx hb dX6_quarter_97 (by decide) ?_
    exact hRet _ (471) _ _ _ (by decide) hP hS dX6_quarter_100
  · refine lv_tableIn (off := 100) (tgt := 101) hx hb dX6_quarter_1 (by decide) (by decide) (by decide) (by decide) ?_
    refine lv_sipush (v := 556) hx hb dX6_quarter_101 (by decide) ?_
    exact hRet _ (556) _ _ _ (by decide) hP hS dX6_quarter_104
  · refine lv_tableIn (off := 104) (tgt := 105) hx hb dX6_quarter_1 (by decide) (by decide) (by decide) (by decide) ?_
    refine lv_sipush (v := 634) hx hb dX6_quarter_105 (by decide) ?_
    exact hRet _ (634) _ _ _ (by decide) hP hS dX6_quarter_108
  · refine lv_tableIn (off := 108) (tgt := 109) hx hb dX6_quarter_1 (by decide) (by decide) (by decide) (by decide) ?_
    refine lv_sipush (v := 707) hx hb dX6_quarter_109 (by decide) ?_
    exact hRet _ (707) _ _ _ (by decide) hP hS dX6_quarter_112
  · refine lv_tableIn (off := 112) (tgt := 113) hx hb dX6_quarter_1 (by decide) (by decide) (by decide) (by decide) ?_
    refine lv_sipush (v := 773) hx hb dX6_quarter_113 (by decide) ?_
    exact hRet _ (773) _ _ _ (by decide) hP hS dX6_quarter_116
  · refine lv_tableIn (off := 116) (tgt := 117) hx hb dX6_quarter_1 (by decide) (by decide) (by decide) (by decide) ?_
    refine lv_sipush (v := 831) hx hb dX6_quarter_117 (by decide) ?_
    exact hRet _ (831) _ _ _ (by decide) hP hS dX6_quarter_120
  · refine lv_tableIn (off := 120) (tgt := 121) hx hb dX6_quarter_1 (by decide) (by decide) (by decide) (by decide) ?_
    refine lv_sipush (v := 882) hx hb dX6_quarter_121 (by decide) ?_
    exact hRet _ (882) _ _ _ (by decide) hP hS dX6_quarter_124
  · refine lv_tableIn (off := 124) (tgt := 125) hx hb dX6_quarter_1 (by decide) (by decide) (by decide) (by decide) ?_
    refine lv_sipush (v := 924) hx hb dX6_quarter_125 (by decide) ?_
    exact hRet _ (924) _ _ _ (by decide) hP hS dX6_quarter_128
  · refine lv_tableIn (off := 128) (tgt := 129) hx hb dX6_quarter_1 (by decide) (by decide) (by decide) (by decide) ?_
    refine lv_sipush (v := 957) hx hb dX6_quarter_129 (by decide) ?_
    exact hRet _ (957) _ _ _ (by decide) hP hS dX6_quarter_132
  · refine lv_tableIn (off := 132) (tgt := 133) hx hb dX6_quarter_1 (by decide) (by decide) (by decide) (by decide) ?_
    refine lv_sipush (v := 981) hx hb dX6_quarter_133 (by decide) ?_
    exact hRet _ (981) _ _ _ (by decide) hP hS dX6_quarter_136
  · refine lv_tableIn (off := 136) (tgt := 137) hx hb dX6_quarter_1 (by decide) (by decide) (by decide) (by decide) ?_
    refine lv_sipush (v := 995) hx hb dX6_quarter_137 (by decide) ?_
    exact hRet _ (995) _ _ _ (by decide) hP hS dX6_quarter_140
  · refine lv_tableOut (tgt := 141) hx hb dX6_quarter_1 (by decide) (by decide) ?_
    refine lv_sipush (v := 1000) hx hb dX6_quarter_141 (by decide) ?_
    exact hRet _ (1000) _ _ _ (by decide) hP hS dX6_quarter_144

set_option maxHeartbeats 4000000 in
set_option maxRecDepth 100000 in
theorem c_X6_sine (l : Launch) (D : va_G) (cI cJ : ClassId) (k : Nat) (hk : k < 80) : zM l yX6_sine wsX6_sine 1 D cI cJ [.int (nI k)] [] (fun (u : Int32) => (u = zsn (nI k))) (fun (u : Int32) => some (.int u)) (fun (u : Int32) => []) := by
  refine zM_i (cc := cX6_sine) (maxL := 4) (r := fun (u : Int32) => u) (by decide) rfl (Nat.le_of_ble_eq_true rfl) ?_
  intro p e s m args below meth c ls A0 Q C hl hP hS hRet
  obtain ⟨⟨hx, hb, hml, hown, hts⟩, hG, hK, hD, hlocks⟩ := C
  have hl : lv_has ls 4 [(0, .int (nI k))] := hl
  refine lv_iload_n hx hb dX6_sine_0 rfl (lv_at hl 0 rfl) ?_
  refine lv_bipush (v := nI 64) hx hb dX6_sine_1 (rfl) ?_
  refine lv_irem hx hb dX6_sine_3 (by decide) ?_
  refine z_topi (y := nI (k % 64)) (pk_rem (by omega) (by decide) (by decide)) ?_
  refine lv_istore_n (lv' := [(1, .int (nI (k % 64))), (0, .int (nI k))]) hx hb dX6_sine_4 rfl hl (by decide) rfl (fun ls hl => ?_)
  refine lv_iload_n hx hb dX6_sine_5 rfl (lv_at hl 0 rfl) ?_
  refine lv_bipush (v := nI 32) hx hb dX6_sine_6 (rfl) ?_
  refine lv_irem hx hb dX6_sine_8 (by decide) ?_
  refine z_topi (y := nI (k % 64 % 32)) (pk_rem (by omega) (by decide) (by decide)) ?_
  refine lv_istore_n (lv' := [(2, .int (nI (k % 64 % 32))), (1, .int (nI (k % 64))), (0, .int (nI k))]) hx hb dX6_sine_9 rfl hl (by decide) rfl (fun ls hl => ?_)
  refine lv_iload_n hx hb dX6_sine_10 rfl (lv_at hl 0 rfl) ?_
  refine lv_bipush (v := nI 16) hx hb dX6_sine_11 (rfl) ?_
  refine lv_icmp_gt (tgt := 23) hx hb dX6_sine_13 (by decide) (fun c_13 => ?_) (fun c_13 => ?_)
  · rw [nI_ltI (by omega) (by omega)] at c_13
    refine lv_bipush (v := nI 32) hx hb dX6_sine_23 (rfl) ?_
    refine lv_iload_n hx hb dX6_sine_25 rfl (lv_at hl 0 rfl) ?_
    refine lv_isub hx hb dX6_sine_26 ?_
    refine z_topi (y := nI (32 - k % 64 % 32)) (pk_sub (by omega)) ?_
    refine z_callS (As := [.int (nI (32 - k % 64 % 32))]) (rest := []) ⟨hx, hb, hml, hown, hts⟩ hG hK hP hD hS (c_X6_quarter l D cI cJ (32 - k % 64 % 32) (by first | assumption | omega | decide)) (va_cwS 1 hts gX6_sine_X6_quarter rfl rfl rfl (by decide +kernel) ⟨Nat.le_of_ble_eq_true rfl, Nat.le_of_ble_eq_true rfl⟩) [] (by decide) rfl (fun _ => rfl) rfl hl.1 rfl (Nat.le_of_ble_eq_true rfl) dX6_sine_27 ⟨Nat.le_of_ble_eq_true rfl, Nat.le_of_ble_eq_true rfl⟩ (fun u_1 H locs hu_2 hP hD hS => ?_)
    obtain ⟨r_3, rfl⟩ : ∃ z, z = u_1 := ⟨_, rfl⟩
    have hu_2 : (r_3 = zSin (32 - k % 64 % 32)) := hu_2
    have e_4 := hu_2
    subst e_4
    have hP : va_P D vwCl [] H := hP
    have hD : va_D A0 [] := hD
    refine lv_istore_n (lv' := [(3, .int (zSin (32 - k % 64 % 32))), (2, .int (nI (k % 64 % 32))), (1, .int (nI (k % 64))), (0, .int (nI k))]) hx hb dX6_sine_30 rfl hl (by decide) rfl (fun ls hl => ?_)
    refine lv_iload_n hx hb dX6_sine_31 rfl (lv_at hl 2 rfl) ?_
    refine lv_bipush (v := nI 32) hx hb dX6_sine_32 (rfl) ?_
    refine lv_icmp_ge (tgt := 41) hx hb dX6_sine_34 (by decide) (fun c_34 => ?_) (fun c_34 => ?_)
    · rw [nI_leI (by omega) (by omega)] at c_34
      refine lv_iload_n hx hb dX6_sine_41 rfl (lv_at hl 0 rfl) ?_
      refine lv_ineg hx hb dX6_sine_42 ?_
      exact hRet _ (-(zSin (32 - k % 64 % 32))) _ _ _ (by rw [zsnM k hk]; first | rw [if_pos (Nat.lt_of_not_le c_34), if_pos (Nat.not_lt.mp c_13)] | rw [if_pos (Nat.lt_of_not_le c_34), if_neg (Nat.not_le.mpr c_13)] | rw [if_neg (Nat.not_lt.mpr c_34), if_pos (Nat.not_lt.mp c_13)] | rw [if_neg (Nat.not_lt.mpr c_34), if_neg (Nat.not_le.mpr c_13)]) hP hS dX6_sine_43
    · rw [nI_leI (by omega) (by omega)] at c_34
      refine lv_iload_n hx hb dX6_sine_37 rfl (lv_at hl 0 rfl) ?_
      refine lv_goto (tgt := 43) hx hb dX6_sine_38 (by decide) ?_
      exact hRet _ (zSin (32 - k % 64 % 32)) _ _ _ (by rw [zsnM k hk]; first | rw [if_pos (Nat.lt_of_not_le c_34), if_pos (Nat.not_lt.mp c_13)] | rw [if_pos (Nat.lt_of_not_le c_34), if_neg (Nat.not_le.mpr c_13)] | rw [if_neg (Nat.not_lt.mpr c_34), if_pos (Nat.not_lt.mp c_13)] | rw [if_neg (Nat.not_lt.mpr c_34), if_neg (Nat.not_le.mpr c_13)]) hP hS dX6_sine_43
  · rw [nI_ltI (by omega) (by omega)] at c_13
    refine lv_iload_n hx hb dX6_sine_16 rfl (lv_at hl 0 rfl) ?_
    refine z_callS (As := [.int (nI (k % 64 % 32))]) (rest := []) ⟨hx, hb, hml, hown, hts⟩ hG hK hP hD hS (c_X6_quarter l D cI cJ (k % 64 % 32) (by first | assumption | omega | decide)) (va_cwS 1 hts gX6_sine_X6_quarter rfl rfl rfl (by decide +kernel) ⟨Nat.le_of_ble_eq_true rfl, Nat.le_of_ble_eq_true rfl⟩) [] (by decide) rfl (fun _ => rfl) rfl hl.1 rfl (Nat.le_of_ble_eq_true rfl) dX6_sine_17 ⟨Nat.le_of_ble_eq_true rfl, Nat.le_of_ble_eq_true rfl⟩ (fun u_5 H locs hu_6 hP hD hS => ?_)
    obtain ⟨r_7, rfl⟩ : ∃ z, z = u_5 := ⟨_, rfl⟩
    have hu_6 : (r_7 = zSin (k % 64 % 32)) := hu_6
    have e_8 := hu_6
    subst e_8
    have hP : va_P D vwCl [] H := hP
    have hD : va_D A0 [] := hD
    refine lv_goto (tgt := 30) hx hb dX6_sine_20 (by decide) ?_
    refine lv_istore_n (lv' := [(3, .int (zSin (k % 64 % 32))), (2, .int (nI (k % 64 % 32))), (1, .int (nI (k % 64))), (0, .int (nI k))]) hx hb dX6_sine_30 rfl hl (by decide) rfl (fun ls hl => ?_)
    refine lv_iload_n hx hb dX6_sine_31 rfl (lv_at hl 2 rfl) ?_
    refine lv_bipush (v := nI 32) hx hb dX6_sine_32 (rfl) ?_
    refine lv_icmp_ge (tgt := 41) hx hb dX6_sine_34 (by decide) (fun c_34 => ?_) (fun c_34 => ?_)
    · rw [nI_leI (by omega) (by omega)] at c_34
      refine lv_iload_n hx hb dX6_sine_41 rfl (lv_at hl 0 rfl) ?_
      refine lv_ineg hx hb dX6_sine_42 ?_
      exact hRet _ (-(zSin (k % 64 % 32))) _ _ _ (by rw [zsnM k hk]; first | rw [if_pos (Nat.lt_of_not_le c_34), if_pos (Nat.not_lt.mp c_13)] | rw [if_pos (Nat.lt_of_not_le c_34), if_neg (Nat.not_le.mpr c_13)] | rw [if_neg (Nat.not_lt.mpr c_34), if_pos (Nat.not_lt.mp c_13)] | rw [if_neg (Nat.not_lt.mpr c_34), if_neg (Nat.not_le.mpr c_13)]) hP hS dX6_sine_43
    · rw [nI_leI (by omega) (by omega)] at c_34
      refine lv_iload_n hx hb dX6_sine_37 rfl (lv_at hl 0 rfl) ?_
      refine lv_goto (tgt := 43) hx hb dX6_sine_38 (by decide) ?_
      exact hRet _ (zSin (k % 64 % 32)) _ _ _ (by rw [zsnM k hk]; first | rw [if_pos (Nat.lt_of_not_le c_34), if_pos (Nat.not_lt.mp c_13)] | rw [if_pos (Nat.lt_of_not_le c_34), if_neg (Nat.not_le.mpr c_13)] | rw [if_neg (Nat.not_lt.mpr c_34), if_pos (Nat.not_lt.mp c_13)] | rw [if_neg (Nat.not_lt.mpr c_34), if_neg (Nat.not_le.mpr c_13)]) hP hS dX6_sine_43

set_option maxHeartbeats 4000000 in
set_option maxRecDepth 100000 in
theorem c_X6_told (l : Launch) (D : va_G) (cI cJ : ClassId) (d : Int32) (hd : -200 ≤ d.toInt ∧ d.toInt < 200) : zM l yX6_told wsX6_told 0 D cI cJ [.int d] [] (fun (u : Int32) => (u = d &&& 63)) (fun (u : Int32) => some (.int u)) (fun (u : Int32) => []) := by
  refine zM_i (cc := cX6_told) (maxL := 1) (r := fun (u : Int32) => u) (by decide) rfl (Nat.le_of_ble_eq_true rfl) ?_
  intro p e s m args below meth c ls A0 Q C hl hP hS hRet
  obtain ⟨⟨hx, hb, hml, hown, hts⟩, hG, hK, hD, hlocks⟩ := C
  have hl : lv_has ls 1 [(0, .int d)] := hl
  refine lv_iload_n hx hb dX6_told_0 rfl (lv_at hl 0 rfl) ?_
  refine lv_bipush (v := 64) hx hb dX6_told_1 (by decide) ?_
  refine lv_irem hx hb dX6_told_3 (by decide) ?_
  refine lv_bipush (v := 64) hx hb dX6_told_4 (by decide) ?_
  refine lv_iadd hx hb dX6_told_6 ?_
  refine lv_bipush (v := 64) hx hb dX6_told_7 (by decide) ?_
  refine lv_irem hx hb dX6_told_9 (by decide) ?_
  exact hRet _ (((d - d / 64 * 64) + 64) - ((d - d / 64 * 64) + 64) / 64 * 64) _ _ _ (zTold_eq hd.1 hd.2) hP hS dX6_told_10

set_option maxHeartbeats 4000000 in
set_option maxRecDepth 100000 in
theorem c_X6_copiesPose (l : Launch) (D : va_G) (cI cJ : ClassId) (ob : Nat) (b1 : Nat) (b2 : Nat) (b3 : Nat) (b4 : Nat) (b5 : Nat) (bp : Nat) (bu : Nat) (bv : Nat) (bk : Nat) (bw : Nat) (n : Nat) (th : Int32) (gx : Int32) (gy : Int32) (sl : Int32) (x : Int32) (y : Int32) (h : Int32) (fd : Int32) (kd : Nat → Int32) (ln : Nat → Int32) (lo : Nat → Int32) (hi : Nat → Int32) (vl : Nat → Int32) (ps : Nat → Int32) (f1 : Nat → Int32) (f2 : Nat → Int32) (ky : Nat → Int64) (wh : Nat → Int32) (hn : n ≤ 5) : zM l yX6_copiesPose wsX6_copiesPose 0 D cI cJ [.ref ob] [(ob, .inr (6, [.int th, .int (nI n), .ref b1, .ref b2, .ref b3, .ref b4, .ref b5, .int gx, .int gy, .int sl, .ref bp, .int x, .int y, .int h, .ref bu, .ref bv, .int fd, .ref bk, .ref bw])), (b1, .inl (cI, 5, .inl kd)), (b2, .inl (cI, 5, .inl ln)), (b3, .inl (cI, 5, .inl lo)), (b4, .inl (cI, 5, .inl hi)), (b5, .inl (cI, 5, .inl vl)), (bp, .inl (cI, 5, .inl ps)), (bu, .inl (cI, 5, .inl f1)), (bv, .inl (cI, 5, .inl f2)), (bk, .inl (cJ, 10, .inr (.inl ky))), (bw, .inl (cI, 10, .inl wh))] (fun (u : (Nat → Int32)) => (∀ j, j < n → u j = vl j)) (fun (u : (Nat → Int32)) => none) (fun (u : (Nat → Int32)) => [(ob, .inr (6, [.int th, .int (nI n), .ref b1, .ref b2, .ref b3, .ref b4, .ref b5, .int gx, .int gy, .int sl, .ref bp, .int x, .int y, .int h, .ref bu, .ref bv, .int fd, .ref bk, .ref bw])), (b1, .inl (cI, 5, .inl kd)), (b2, .inl (cI, 5, .inl ln)), (b3, .inl (cI, 5, .inl lo)), (b4, .inl (cI, 5, .inl hi)), (b5, .inl (cI, 5, .inl vl)), (bp, .inl (cI, 5, .inl u)), (bu, .inl (cI, 5, .inl f1)), (bv, .inl (cI, 5, .inl f2)), (bk, .inl (cJ, 10, .inr (.inl ky))), (bw, .inl (cI, 10, .inl wh))]) := by
  refine zM_v (cc := cX6_copiesPose) (maxL := 2) (by decide) rfl (Nat.le_of_ble_eq_true rfl) ?_
  intro p e s m args below meth c ls A0 Q C hl hP hS hRet
  obtain ⟨⟨hx, hb, hml, hown, hts⟩, hG, hK, hD, hlocks⟩ := C
  have hin6 : ∀ w ∈ u_ws RX6 TX6 19, w ∈ wsX6_copiesPose := by decide +kernel
  have hf48 := hts (.fieldLink RX6 48 "ArmRoomModel" "joints" "I") (by decide +kernel)
  have hf29 := hts (.fieldLink RX6 29 "ArmRoomModel" "pose" "[I") (by decide +kernel)
  have hf22 := hts (.fieldLink RX6 22 "ArmRoomModel" "value" "[I") (by decide +kernel)
  have hl : lv_has ls 2 [(0, .ref ob)] := hl
  refine lv_iconst (v := 0) hx hb dX6_copiesPose_0 (by decide) ?_
  refine lv_istore_n (lv' := [(1, .int 0), (0, .ref ob)]) hx hb dX6_copiesPose_1 rfl hl (by decide) rfl (fun ls hl => ?_)
  have lp_2_1 : ∀ (fu : Nat) (i : Nat) (ps3 : Nat → Int32), (i ≤ n) → (∀ j, j < i → ps3 j = vl j) → (n - i < fu) → ∀ (H : Heap) (locs : List Loc), va_P D vwCl [(ob, .inr (6, [.int th, .int (nI n), .ref b1, .ref b2, .ref b3, .ref b4, .ref b5, .int gx, .int gy, .int sl, .ref bp, .int x, .int y, .int h, .ref bu, .ref bv, .int fd, .ref bk, .ref bw])), (b1, .inl (cI, 5, .inl kd)), (b2, .inl (cI, 5, .inl ln)), (b3, .inl (cI, 5, .inl lo)), (b4, .inl (cI, 5, .inl hi)), (b5, .inl (cI, 5, .inl vl)), (bp, .inl (cI, 5, .inl ps3)), (bu, .inl (cI, 5, .inl f1)), (bv, .inl (cI, 5, .inl f2)), (bk, .inl (cJ, 10, .inr (.inl ky))), (bw, .inl (cI, 10, .inl wh))] H → va_D A0 [(ob, .inr (6, [.int th, .int (nI n), .ref b1, .ref b2, .ref b3, .ref b4, .ref b5, .int gx, .int gy, .int sl, .ref bp, .int x, .int y, .int h, .ref bu, .ref bv, .int fd, .ref bk, .ref bw])), (b1, .inl (cI, 5, .inl kd)), (b2, .inl (cI, 5, .inl ln)), (b3, .inl (cI, 5, .inl lo)), (b4, .inl (cI, 5, .inl hi)), (b5, .inl (cI, 5, .inl vl)), (bp, .inl (cI, 5, .inl ps3)), (bu, .inl (cI, 5, .inl f1)), (bv, .inl (cI, 5, .inl f2)), (bk, .inl (cJ, 10, .inr (.inl ky))), (bw, .inl (cI, 10, .inl wh))] → va_S A0 s.heap H locs → ∀ (ls : Array Slot), lv_has ls 2 [(0, .ref ob), (1, .int (nI i))] → W p l e (zRm 0 0 0) s m args below meth c H locs 0 0 Q (F0 m 2 ls []) := by
    intro fu
    induction fu with
    | zero => intro i ps3 hi1 hm1 hfu; exact absurd hfu (Nat.not_lt_zero _)
    | succ fu ih_2_1 =>
      intro i ps3 hi1 hm1 hfu H locs hP hD hS ls hl
      refine lv_iload_n hx hb dX6_copiesPose_2 rfl (lv_at hl 1 rfl) ?_
      refine lv_aload_n hx hb dX6_copiesPose_3 rfl (lv_at hl 0 rfl) ?_
      refine va_get (D := D) (ci := 6) (v := .int (nI n)) (C := RX6) (T := TX6) (N := 19) hx hb hts hin6 hown hK hP 0 rfl rfl 1 (by decide) hf48 (fun _ h9 => h9) rfl dX6_copiesPose_4 ?_
      refine lv_icmp_ge (tgt := 28) hx hb dX6_copiesPose_7 (by decide) (fun c_7 => ?_) (fun c_7 => ?_)
      · rw [nI_leI (by omega) (by omega)] at c_7
        obtain rfl : n = i := by omega
        exact hRet _ (ps3) _ _ _ (hm1) hP hS dX6_copiesPose_28
      · rw [nI_leI (by omega) (by omega)] at c_7
        refine lv_aload_n hx hb dX6_copiesPose_10 rfl (lv_at hl 0 rfl) ?_
        refine va_get (D := D) (ci := 6) (v := .ref bp) (C := RX6) (T := TX6) (N := 19) hx hb hts hin6 hown hK hP 0 rfl rfl 10 (by decide) hf29 (fun _ h9 => h9) rfl dX6_copiesPose_11 ?_
        refine lv_iload_n hx hb dX6_copiesPose_14 rfl (lv_at hl 1 rfl) ?_
        refine lv_aload_n hx hb dX6_copiesPose_15 rfl (lv_at hl 0 rfl) ?_
        refine va_get (D := D) (ci := 6) (v := .ref b5) (C := RX6) (T := TX6) (N := 19) hx hb hts hin6 hown hK hP 0 rfl rfl 6 (by decide) hf22 (fun _ h9 => h9) rfl dX6_copiesPose_16 ?_
        refine lv_iload_n hx hb dX6_copiesPose_19 rfl (lv_at hl 1 rfl) ?_
        refine z_iald hx hb hK hP 5 rfl (j := i) (by omega) (by decide) dX6_copiesPose_20 ?_
        refine z_iast hx hb hK hP hD hS 6 rfl (j := i) (by omega) (by decide) dX6_copiesPose_21 (fun H locs hP hD hS => ?_)
        have hP : va_P D vwCl [(ob, .inr (6, [.int th, .int (nI n), .ref b1, .ref b2, .ref b3, .ref b4, .ref b5, .int gx, .int gy, .int sl, .ref bp, .int x, .int y, .int h, .ref bu, .ref bv, .int fd, .ref bk, .ref bw])), (b1, .inl (cI, 5, .inl kd)), (b2, .inl (cI, 5, .inl ln)), (b3, .inl (cI, 5, .inl lo)), (b4, .inl (cI, 5, .inl hi)), (b5, .inl (cI, 5, .inl vl)), (bp, .inl (cI, 5, .inl (upd ps3 i (vl i)))), (bu, .inl (cI, 5, .inl f1)), (bv, .inl (cI, 5, .inl f2)), (bk, .inl (cJ, 10, .inr (.inl ky))), (bw, .inl (cI, 10, .inl wh))] H := hP
        have hD : va_D A0 [(ob, .inr (6, [.int th, .int (nI n), .ref b1, .ref b2, .ref b3, .ref b4, .ref b5, .int gx, .int gy, .int sl, .ref bp, .int x, .int y, .int h, .ref bu, .ref bv, .int fd, .ref bk, .ref bw])), (b1, .inl (cI, 5, .inl kd)), (b2, .inl (cI, 5, .inl ln)), (b3, .inl (cI, 5, .inl lo)), (b4, .inl (cI, 5, .inl hi)), (b5, .inl (cI, 5, .inl vl)), (bp, .inl (cI, 5, .inl (upd ps3 i (vl i)))), (bu, .inl (cI, 5, .inl f1)), (bv, .inl (cI, 5, .inl f2)), (bk, .inl (cJ, 10, .inr (.inl ky))), (bw, .inl (cI, 10, .inl wh))] := hD
        refine lv_iinc (v := nI (i + 1)) (lv' := [(1, .int (nI (i + 1))), (0, .ref ob)]) hx hb dX6_copiesPose_22 hl (k := 1) rfl ((nI_succ _).symm) (by decide) rfl (fun ls hl => ?_)
        refine lv_goto (tgt := 2) hx hb dX6_copiesPose_25 (by decide) ?_
        exact ih_2_1 (i + 1) (upd ps3 i (vl i)) (by first | assumption | omega | rfl | simp_all) (zupd_ok hm1 rfl) (by omega) _ _ hP hD hS _ (lv_sub hl [1, 0] rfl)
  exact lp_2_1 ((n - 0) + 1) 0 ps (by first | assumption | omega | rfl | simp_all) (fun j hj => absurd hj (Nat.not_lt_zero j)) (Nat.lt_succ_self _) _ _ hP hD hS _ (lv_sub hl [1, 0] rfl)

set_option maxHeartbeats 4000000 in
set_option maxRecDepth 100000 in
theorem c_X6_looks (l : Launch) (D : va_G) (cI cJ : ClassId) (ob : Nat) (b1 : Nat) (b2 : Nat) (b3 : Nat) (b4 : Nat) (b5 : Nat) (bp : Nat) (bu : Nat) (bv : Nat) (bk : Nat) (bw : Nat) (n : Nat) (th : Int32) (gx : Int32) (gy : Int32) (sl : Int32) (x : Int32) (y : Int32) (h : Int32) (fd : Int32) (kd : Nat → Int32) (ln : Nat → Int32) (lo : Nat → Int32) (hi : Nat → Int32) (vl : Nat → Int32) (ps : Nat → Int32) (f1 : Nat → Int32) (f2 : Nat → Int32) (ky : Nat → Int64) (wh : Nat → Int32) (hn : n ≤ 5) (hps : zPok n ps) : zM l yX6_looks wsX6_looks 2 D cI cJ [.ref ob] [(ob, .inr (6, [.int th, .int (nI n), .ref b1, .ref b2, .ref b3, .ref b4, .ref b5, .int gx, .int gy, .int sl, .ref bp, .int x, .int y, .int h, .ref bu, .ref bv, .int fd, .ref bk, .ref bw])), (b1, .inl (cI, 5, .inl kd)), (b2, .inl (cI, 5, .inl ln)), (b3, .inl (cI, 5, .inl lo)), (b4, .inl (cI, 5, .inl hi)), (b5, .inl (cI, 5, .inl vl)), (bp, .inl (cI, 5, .inl ps)), (bu, .inl (cI, 5, .inl f1)), (bv, .inl (cI, 5, .inl f2)), (bk, .inl (cJ, 10, .inr (.inl ky))), (bw, .inl (cI, 10, .inl wh))] (fun (u : Int32 × Int32 × Int32) => (u.1 = zX kd ln ps n) ∧ (u.2.1 = zY kd ln ps n) ∧ (u.2.2 = zH kd ps n)) (fun (u : Int32 × Int32 × Int32) => none) (fun (u : Int32 × Int32 × Int32) => [(ob, .inr (6, [.int th, .int (nI n), .ref b1, .ref b2, .ref b3, .ref b4, .ref b5, .int gx, .int gy, .int sl, .ref bp, .int u.1, .int u.2.1, .int u.2.2, .ref bu, .ref bv, .int fd, .ref bk, .ref bw])), (b1, .inl (cI, 5, .inl kd)), (b2, .inl (cI, 5, .inl ln)), (b3, .inl (cI, 5, .inl lo)), (b4, .inl (cI, 5, .inl hi)), (b5, .inl (cI, 5, .inl vl)), (bp, .inl (cI, 5, .inl ps)), (bu, .inl (cI, 5, .inl f1)), (bv, .inl (cI, 5, .inl f2)), (bk, .inl (cJ, 10, .inr (.inl ky))), (bw, .inl (cI, 10, .inl wh))]) := by
  refine zM_v (cc := cX6_looks) (maxL := 3) (by decide) rfl (Nat.le_of_ble_eq_true rfl) ?_
  intro p e s m args below meth c ls A0 Q C hl hP hS hRet
  obtain ⟨⟨hx, hb, hml, hown, hts⟩, hG, hK, hD, hlocks⟩ := C
  have hin6 : ∀ w ∈ u_ws RX6 TX6 19, w ∈ wsX6_looks := by decide +kernel
  have hf59 := hts (.fieldLink RX6 59 "ArmRoomModel" "x" "I") (by decide +kernel)
  have hf62 := hts (.fieldLink RX6 62 "ArmRoomModel" "y" "I") (by decide +kernel)
  have hf65 := hts (.fieldLink RX6 65 "ArmRoomModel" "heading" "I") (by decide +kernel)
  have hf48 := hts (.fieldLink RX6 48 "ArmRoomModel" "joints" "I") (by decide +kernel)
  have hf13 := hts (.fieldLink RX6 13 "ArmRoomModel" "length" "[I") (by decide +kernel)
  have hf7 := hts (.fieldLink RX6 7 "ArmRoomModel" "kind" "[I") (by decide +kernel)
  have hf29 := hts (.fieldLink RX6 29 "ArmRoomModel" "pose" "[I") (by decide +kernel)
  have hl : lv_has ls 3 [(0, .ref ob)] := hl
  refine lv_aload_n hx hb dX6_looks_0 rfl (lv_at hl 0 rfl) ?_
  refine lv_iconst (v := 0) hx hb dX6_looks_1 (by decide) ?_
  refine va_put (D := D) (ci := 6) (v := .int 0) (ty := .int) (C := RX6) (T := TX6) (N := 19) hx hb hts hin6 tyX6 tyX6_ok nmX6 hown hK hP hD hS 0 rfl rfl 11 (by decide) hf59 (fun _ h9 => h9) rfl (by decide +kernel) rfl rfl (Nat.le_of_ble_eq_true rfl) dX6_looks_2 (fun H locs hP hD hS => ?_)
  have hP : va_P D vwCl [(ob, .inr (6, [.int th, .int (nI n), .ref b1, .ref b2, .ref b3, .ref b4, .ref b5, .int gx, .int gy, .int sl, .ref bp, .int 0, .int y, .int h, .ref bu, .ref bv, .int fd, .ref bk, .ref bw])), (b1, .inl (cI, 5, .inl kd)), (b2, .inl (cI, 5, .inl ln)), (b3, .inl (cI, 5, .inl lo)), (b4, .inl (cI, 5, .inl hi)), (b5, .inl (cI, 5, .inl vl)), (bp, .inl (cI, 5, .inl ps)), (bu, .inl (cI, 5, .inl f1)), (bv, .inl (cI, 5, .inl f2)), (bk, .inl (cJ, 10, .inr (.inl ky))), (bw, .inl (cI, 10, .inl wh))] H := hP
  have hD : va_D A0 [(ob, .inr (6, [.int th, .int (nI n), .ref b1, .ref b2, .ref b3, .ref b4, .ref b5, .int gx, .int gy, .int sl, .ref bp, .int 0, .int y, .int h, .ref bu, .ref bv, .int fd, .ref bk, .ref bw])), (b1, .inl (cI, 5, .inl kd)), (b2, .inl (cI, 5, .inl ln)), (b3, .inl (cI, 5, .inl lo)), (b4, .inl (cI, 5, .inl hi)), (b5, .inl (cI, 5, .inl vl)), (bp, .inl (cI, 5, .inl ps)), (bu, .inl (cI, 5, .inl f1)), (bv, .inl (cI, 5, .inl f2)), (bk, .inl (cJ, 10, .inr (.inl ky))), (bw, .inl (cI, 10, .inl wh))] := hD
  refine lv_aload_n hx hb dX6_looks_5 rfl (lv_at hl 0 rfl) ?_
  refine lv_iconst (v := 0) hx hb dX6_looks_6 (by decide) ?_
  refine va_put (D := D) (ci := 6) (v := .int 0) (ty := .int) (C := RX6) (T := TX6) (N := 19) hx hb hts hin6 tyX6 tyX6_ok nmX6 hown hK hP hD hS 0 rfl rfl 12 (by decide) hf62 (fun _ h9 => h9) rfl (by decide +kernel) rfl rfl (Nat.le_of_ble_eq_true rfl) dX6_looks_7 (fun H locs hP hD hS => ?_)
  have hP : va_P D vwCl [(ob, .inr (6, [.int th, .int (nI n), .ref b1, .ref b2, .ref b3, .ref b4, .ref b5, .int gx, .int gy, .int sl, .ref bp, .int 0, .int 0, .int h, .ref bu, .ref bv, .int fd, .ref bk, .ref bw])), (b1, .inl (cI, 5, .inl kd)), (b2, .inl (cI, 5, .inl ln)), (b3, .inl (cI, 5, .inl lo)), (b4, .inl (cI, 5, .inl hi)), (b5, .inl (cI, 5, .inl vl)), (bp, .inl (cI, 5, .inl ps)), (bu, .inl (cI, 5, .inl f1)), (bv, .inl (cI, 5, .inl f2)), (bk, .inl (cJ, 10, .inr (.inl ky))), (bw, .inl (cI, 10, .inl wh))] H := hP
  have hD : va_D A0 [(ob, .inr (6, [.int th, .int (nI n), .ref b1, .ref b2, .ref b3, .ref b4, .ref b5, .int gx, .int gy, .int sl, .ref bp, .int 0, .int 0, .int h, .ref bu, .ref bv, .int fd, .ref bk, .ref bw])), (b1, .inl (cI, 5, .inl kd)), (b2, .inl (cI, 5, .inl ln)), (b3, .inl (cI, 5, .inl lo)), (b4, .inl (cI, 5, .inl hi)), (b5, .inl (cI, 5, .inl vl)), (bp, .inl (cI, 5, .inl ps)), (bu, .inl (cI, 5, .inl f1)), (bv, .inl (cI, 5, .inl f2)), (bk, .inl (cJ, 10, .inr (.inl ky))), (bw, .inl (cI, 10, .inl wh))] := hD
  refine lv_aload_n hx hb dX6_looks_10 rfl (lv_at hl 0 rfl) ?_
  refine lv_iconst (v := 0) hx hb dX6_looks_11 (by decide) ?_
  refine va_put (D := D) (ci := 6) (v := .int 0) (ty := .int) (C := RX6) (T := TX6) (N := 19) hx hb hts hin6 tyX6 tyX6_ok nmX6 hown hK hP hD hS 0 rfl rfl 13 (by decide) hf65 (fun _ h9 => h9) rfl (by decide +kernel) rfl rfl (Nat.le_of_ble_eq_true rfl) dX6_looks_12 (fun H locs hP hD hS => ?_)
  have hP : va_P D vwCl [(ob, .inr (6, [.int th, .int (nI n), .ref b1, .ref b2, .ref b3, .ref b4, .ref b5, .int gx, .int gy, .int sl, .ref bp, .int 0, .int 0, .int 0, .ref bu, .ref bv, .int fd, .ref bk, .ref bw])), (b1, .inl (cI, 5, .inl kd)), (b2, .inl (cI, 5, .inl ln)), (b3, .inl (cI, 5, .inl lo)), (b4, .inl (cI, 5, .inl hi)), (b5, .inl (cI, 5, .inl vl)), (bp, .inl (cI, 5, .inl ps)), (bu, .inl (cI, 5, .inl f1)), (bv, .inl (cI, 5, .inl f2)), (bk, .inl (cJ, 10, .inr (.inl ky))), (bw, .inl (cI, 10, .inl wh))] H := hP
  have hD : va_D A0 [(ob, .inr (6, [.int th, .int (nI n), .ref b1, .ref b2, .ref b3, .ref b4, .ref b5, .int gx, .int gy, .int sl, .ref bp, .int 0, .int 0, .int 0, .ref bu, .ref bv, .int fd, .ref bk, .ref bw])), (b1, .inl (cI, 5, .inl kd)), (b2, .inl (cI, 5, .inl ln)), (b3, .inl (cI, 5, .inl lo)), (b4, .inl (cI, 5, .inl hi)), (b5, .inl (cI, 5, .inl vl)), (bp, .inl (cI, 5, .inl ps)), (bu, .inl (cI, 5, .inl f1)), (bv, .inl (cI, 5, .inl f2)), (bk, .inl (cJ, 10, .inr (.inl ky))), (bw, .inl (cI, 10, .inl wh))] := hD
  refine lv_iconst (v := 0) hx hb dX6_looks_15 (by decide) ?_
  refine lv_istore_n (lv' := [(1, .int 0), (0, .ref ob)]) hx hb dX6_looks_16 rfl hl (by decide) rfl (fun ls hl => ?_)
  have lp_17_1 : ∀ (fu : Nat) (i : Nat), (i ≤ n) → (n - i < fu) → ∀ (H : Heap) (locs : List Loc), va_P D vwCl [(ob, .inr (6, [.int th, .int (nI n), .ref b1, .ref b2, .ref b3, .ref b4, .ref b5, .int gx, .int gy, .int sl, .ref bp, .int (zX kd ln ps i), .int (zY kd ln ps i), .int (zH kd ps i), .ref bu, .ref bv, .int fd, .ref bk, .ref bw])), (b1, .inl (cI, 5, .inl kd)), (b2, .inl (cI, 5, .inl ln)), (b3, .inl (cI, 5, .inl lo)), (b4, .inl (cI, 5, .inl hi)), (b5, .inl (cI, 5, .inl vl)), (bp, .inl (cI, 5, .inl ps)), (bu, .inl (cI, 5, .inl f1)), (bv, .inl (cI, 5, .inl f2)), (bk, .inl (cJ, 10, .inr (.inl ky))), (bw, .inl (cI, 10, .inl wh))] H → va_D A0 [(ob, .inr (6, [.int th, .int (nI n), .ref b1, .ref b2, .ref b3, .ref b4, .ref b5, .int gx, .int gy, .int sl, .ref bp, .int (zX kd ln ps i), .int (zY kd ln ps i), .int (zH kd ps i), .ref bu, .ref bv, .int fd, .ref bk, .ref bw])), (b1, .inl (cI, 5, .inl kd)), (b2, .inl (cI, 5, .inl ln)), (b3, .inl (cI, 5, .inl lo)), (b4, .inl (cI, 5, .inl hi)), (b5, .inl (cI, 5, .inl vl)), (bp, .inl (cI, 5, .inl ps)), (bu, .inl (cI, 5, .inl f1)), (bv, .inl (cI, 5, .inl f2)), (bk, .inl (cJ, 10, .inr (.inl ky))), (bw, .inl (cI, 10, .inl wh))] → va_S A0 s.heap H locs → ∀ (ls : Array Slot), lv_has ls 3 [(0, .ref ob), (1, .int (nI i))] → W p l e (zRm 2 0 0) s m args below meth c H locs 0 0 Q (F0 m 17 ls []) := by
    intro fu
    induction fu with
    | zero => intro i hi1 hfu; exact absurd hfu (Nat.not_lt_zero _)
    | succ fu ih_17_1 =>
      intro i hi1 hfu H locs hP hD hS ls hl
      refine lv_iload_n hx hb dX6_looks_17 rfl (lv_at hl 1 rfl) ?_
      refine lv_aload_n hx hb dX6_looks_18 rfl (lv_at hl 0 rfl) ?_
      refine va_get (D := D) (ci := 6) (v := .int (nI n)) (C := RX6) (T := TX6) (N := 19) hx hb hts hin6 hown hK hP 0 rfl rfl 1 (by decide) hf48 (fun _ h9 => h9) rfl dX6_looks_19 ?_
      refine lv_icmp_ge (tgt := 116) hx hb dX6_looks_22 (by decide) (fun c_22 => ?_) (fun c_22 => ?_)
      · rw [nI_leI (by omega) (by omega)] at c_22
        obtain rfl : n = i := by omega
        exact hRet _ (zX kd ln ps n, zY kd ln ps n, zH kd ps n) _ _ _ ⟨by first | rfl | assumption | omega | simp_all, by first | rfl | assumption | omega | simp_all, by first | rfl | assumption | omega | simp_all⟩ hP hS dX6_looks_116
      · rw [nI_leI (by omega) (by omega)] at c_22
        refine lv_aload_n hx hb dX6_looks_25 rfl (lv_at hl 0 rfl) ?_
        refine va_get (D := D) (ci := 6) (v := .ref b2) (C := RX6) (T := TX6) (N := 19) hx hb hts hin6 hown hK hP 0 rfl rfl 3 (by decide) hf13 (fun _ h9 => h9) rfl dX6_looks_26 ?_
        refine lv_iload_n hx hb dX6_looks_29 rfl (lv_at hl 1 rfl) ?_
        refine z_iald hx hb hK hP 2 rfl (j := i) (by omega) (by decide) dX6_looks_30 ?_
        refine lv_istore_n (lv' := [(2, .int (ln i)), (0, .ref ob), (1, .int (nI i))]) hx hb dX6_looks_31 rfl hl (by decide) rfl (fun ls hl => ?_)
        refine lv_aload_n hx hb dX6_looks_32 rfl (lv_at hl 1 rfl) ?_
        refine va_get (D := D) (ci := 6) (v := .ref b1) (C := RX6) (T := TX6) (N := 19) hx hb hts hin6 hown hK hP 0 rfl rfl 2 (by decide) hf7 (fun _ h9 => h9) rfl dX6_looks_33 ?_
        refine lv_iload_n hx hb dX6_looks_36 rfl (lv_at hl 2 rfl) ?_
        refine z_iald hx hb hK hP 1 rfl (j := i) (by omega) (by decide) dX6_looks_37 ?_
        refine lv_if_ne (tgt := 62) hx hb dX6_looks_38 (by decide) (fun c_38 => ?_) (fun c_38 => ?_)
        · refine lv_iload_n hx hb dX6_looks_62 rfl (lv_at hl 0 rfl) ?_
          refine lv_aload_n hx hb dX6_looks_63 rfl (lv_at hl 1 rfl) ?_
          refine va_get (D := D) (ci := 6) (v := .ref bp) (C := RX6) (T := TX6) (N := 19) hx hb hts hin6 hown hK hP 0 rfl rfl 10 (by decide) hf29 (fun _ h9 => h9) rfl dX6_looks_64 ?_
          refine lv_iload_n hx hb dX6_looks_67 rfl (lv_at hl 2 rfl) ?_
          refine z_iald hx hb hK hP 6 rfl (j := i) (by omega) (by decide) dX6_looks_68 ?_
          refine lv_iadd hx hb dX6_looks_69 ?_
          refine lv_istore_n (lv' := [(2, .int ((ln i) + (ps i))), (0, .ref ob), (1, .int (nI i))]) hx hb dX6_looks_70 rfl hl (by decide) rfl (fun ls hl => ?_)
          have hz9 := zHs1 (p := ps) c_38
          rw [hz9] at hP hD
          have hP : va_P D vwCl [(ob, .inr (6, [.int th, .int (nI n), .ref b1, .ref b2, .ref b3, .ref b4, .ref b5, .int gx, .int gy, .int sl, .ref bp, .int (zX kd ln ps i), .int (zY kd ln ps i), .int (zH kd ps (i + 1)), .ref bu, .ref bv, .int fd, .ref bk, .ref bw])), (b1, .inl (cI, 5, .inl kd)), (b2, .inl (cI, 5, .inl ln)), (b3, .inl (cI, 5, .inl lo)), (b4, .inl (cI, 5, .inl hi)), (b5, .inl (cI, 5, .inl vl)), (bp, .inl (cI, 5, .inl ps)), (bu, .inl (cI, 5, .inl f1)), (bv, .inl (cI, 5, .inl f2)), (bk, .inl (cJ, 10, .inr (.inl ky))), (bw, .inl (cI, 10, .inl wh))] H := hP
          have hD : va_D A0 [(ob, .inr (6, [.int th, .int (nI n), .ref b1, .ref b2, .ref b3, .ref b4, .ref b5, .int gx, .int gy, .int sl, .ref bp, .int (zX kd ln ps i), .int (zY kd ln ps i), .int (zH kd ps (i + 1)), .ref bu, .ref bv, .int fd, .ref bk, .ref bw])), (b1, .inl (cI, 5, .inl kd)), (b2, .inl (cI, 5, .inl ln)), (b3, .inl (cI, 5, .inl lo)), (b4, .inl (cI, 5, .inl hi)), (b5, .inl (cI, 5, .inl vl)), (bp, .inl (cI, 5, .inl ps)), (bu, .inl (cI, 5, .inl f1)), (bv, .inl (cI, 5, .inl f2)), (bk, .inl (cJ, 10, .inr (.inl ky))), (bw, .inl (cI, 10, .inl wh))] := hD
          obtain ⟨q9, hq9, heq⟩ := zH_nI kd ps (i + 1)
          have hdi : zDist kd ln i (ps i) = zDist kd ln i (ps i) := rfl
          refine lv_aload_n hx hb dX6_looks_71 rfl (lv_at hl 1 rfl) ?_
          refine lv_dup hx hb dX6_looks_72 rfl ?_
          refine va_get (D := D) (ci := 6) (v := .int (zX kd ln ps i)) (C := RX6) (T := TX6) (N := 19) hx hb hts hin6 hown hK hP 0 rfl rfl 11 (by decide) hf59 (fun _ h9 => h9) rfl dX6_looks_73 ?_
          refine lv_iload_n hx hb dX6_looks_76 rfl (lv_at hl 0 rfl) ?_
          refine lv_aload_n hx hb dX6_looks_77 rfl (lv_at hl 1 rfl) ?_
          refine va_get (D := D) (ci := 6) (v := .int (zH kd ps (i + 1))) (C := RX6) (T := TX6) (N := 19) hx hb hts hin6 hown hK hP 0 rfl rfl 13 (by decide) hf65 (fun _ h9 => h9) rfl dX6_looks_78 ?_
          refine lv_bipush (v := 16) hx hb dX6_looks_81 (by decide) ?_
          refine lv_iadd hx hb dX6_looks_83 ?_
          refine z_topi (y := nI (q9 + 16)) (by rw [heq]; exact nI_add _ 16) ?_
          refine z_callS (As := [.int (nI (q9 + 16))]) (rest := [.int ((ln i) + (ps i)), .int (zX kd ln ps i), .ref ob]) ⟨hx, hb, hml, hown, hts⟩ hG hK hP hD hS (c_X6_sine l D cI cJ (q9 + 16) (by first | assumption | omega | decide)) (va_cwS 1 hts gX6_looks_X6_sine rfl rfl rfl (by decide +kernel) ⟨Nat.le_of_ble_eq_true rfl, Nat.le_of_ble_eq_true rfl⟩) [] (by decide) rfl (fun _ => rfl) rfl hl.1 rfl (Nat.le_of_ble_eq_true rfl) dX6_looks_84 ⟨Nat.le_of_ble_eq_true rfl, Nat.le_of_ble_eq_true rfl⟩ (fun u_2 H locs hu_3 hP hD hS => ?_)
          obtain ⟨r_4, rfl⟩ : ∃ z, z = u_2 := ⟨_, rfl⟩
          have hu_3 : (r_4 = zsn (nI (q9 + 16))) := hu_3
          have e_5 := hu_3
          subst e_5
          have hP : va_P D vwCl [(ob, .inr (6, [.int th, .int (nI n), .ref b1, .ref b2, .ref b3, .ref b4, .ref b5, .int gx, .int gy, .int sl, .ref bp, .int (zX kd ln ps i), .int (zY kd ln ps i), .int (zH kd ps (i + 1)), .ref bu, .ref bv, .int fd, .ref bk, .ref bw])), (b1, .inl (cI, 5, .inl kd)), (b2, .inl (cI, 5, .inl ln)), (b3, .inl (cI, 5, .inl lo)), (b4, .inl (cI, 5, .inl hi)), (b5, .inl (cI, 5, .inl vl)), (bp, .inl (cI, 5, .inl ps)), (bu, .inl (cI, 5, .inl f1)), (bv, .inl (cI, 5, .inl f2)), (bk, .inl (cJ, 10, .inr (.inl ky))), (bw, .inl (cI, 10, .inl wh))] H := hP
          have hD : va_D A0 [(ob, .inr (6, [.int th, .int (nI n), .ref b1, .ref b2, .ref b3, .ref b4, .ref b5, .int gx, .int gy, .int sl, .ref bp, .int (zX kd ln ps i), .int (zY kd ln ps i), .int (zH kd ps (i + 1)), .ref bu, .ref bv, .int fd, .ref bk, .ref bw])), (b1, .inl (cI, 5, .inl kd)), (b2, .inl (cI, 5, .inl ln)), (b3, .inl (cI, 5, .inl lo)), (b4, .inl (cI, 5, .inl hi)), (b5, .inl (cI, 5, .inl vl)), (bp, .inl (cI, 5, .inl ps)), (bu, .inl (cI, 5, .inl f1)), (bv, .inl (cI, 5, .inl f2)), (bk, .inl (cJ, 10, .inr (.inl ky))), (bw, .inl (cI, 10, .inl wh))] := hD
          refine lv_imul hx hb dX6_looks_87 ?_
          refine lv_iadd hx hb dX6_looks_88 ?_
          refine z_topi (y := zX kd ln ps (i + 1)) (by show _ = zX kd ln ps i + zDist kd ln i (ps i) * zsn (zH kd ps (i + 1) + 16); rw [zDs (ln := ln) (v := ps i) c_38, heq, ← nI_add q9 16]; rfl) ?_
          refine va_put (D := D) (ci := 6) (v := .int (zX kd ln ps (i + 1))) (ty := .int) (C := RX6) (T := TX6) (N := 19) hx hb hts hin6 tyX6 tyX6_ok nmX6 hown hK hP hD hS 0 rfl rfl 11 (by decide) hf59 (fun _ h9 => h9) rfl (by decide +kernel) rfl rfl (Nat.le_of_ble_eq_true rfl) dX6_looks_89 (fun H locs hP hD hS => ?_)
          have hP : va_P D vwCl [(ob, .inr (6, [.int th, .int (nI n), .ref b1, .ref b2, .ref b3, .ref b4, .ref b5, .int gx, .int gy, .int sl, .ref bp, .int (zX kd ln ps (i + 1)), .int (zY kd ln ps i), .int (zH kd ps (i + 1)), .ref bu, .ref bv, .int fd, .ref bk, .ref bw])), (b1, .inl (cI, 5, .inl kd)), (b2, .inl (cI, 5, .inl ln)), (b3, .inl (cI, 5, .inl lo)), (b4, .inl (cI, 5, .inl hi)), (b5, .inl (cI, 5, .inl vl)), (bp, .inl (cI, 5, .inl ps)), (bu, .inl (cI, 5, .inl f1)), (bv, .inl (cI, 5, .inl f2)), (bk, .inl (cJ, 10, .inr (.inl ky))), (bw, .inl (cI, 10, .inl wh))] H := hP
          have hD : va_D A0 [(ob, .inr (6, [.int th, .int (nI n), .ref b1, .ref b2, .ref b3, .ref b4, .ref b5, .int gx, .int gy, .int sl, .ref bp, .int (zX kd ln ps (i + 1)), .int (zY kd ln ps i), .int (zH kd ps (i + 1)), .ref bu, .ref bv, .int fd, .ref bk, .ref bw])), (b1, .inl (cI, 5, .inl kd)), (b2, .inl (cI, 5, .inl ln)), (b3, .inl (cI, 5, .inl lo)), (b4, .inl (cI, 5, .inl hi)), (b5, .inl (cI, 5, .inl vl)), (bp, .inl (cI, 5, .inl ps)), (bu, .inl (cI, 5, .inl f1)), (bv, .inl (cI, 5, .inl f2)), (bk, .inl (cJ, 10, .inr (.inl ky))), (bw, .inl (cI, 10, .inl wh))] := hD
          refine lv_aload_n hx hb dX6_looks_92 rfl (lv_at hl 1 rfl) ?_
          refine lv_dup hx hb dX6_looks_93 rfl ?_
          refine va_get (D := D) (ci := 6) (v := .int (zY kd ln ps i)) (C := RX6) (T := TX6) (N := 19) hx hb hts hin6 hown hK hP 0 rfl rfl 12 (by decide) hf62 (fun _ h9 => h9) rfl dX6_looks_94 ?_
          refine lv_iload_n hx hb dX6_looks_97 rfl (lv_at hl 0 rfl) ?_
          refine lv_aload_n hx hb dX6_looks_98 rfl (lv_at hl 1 rfl) ?_
          refine va_get (D := D) (ci := 6) (v := .int (zH kd ps (i + 1))) (C := RX6) (T := TX6) (N := 19) hx hb hts hin6 hown hK hP 0 rfl rfl 13 (by decide) hf65 (fun _ h9 => h9) rfl dX6_looks_99 ?_
          refine z_topi (y := nI q9) heq ?_
          refine z_callS (As := [.int (nI q9)]) (rest := [.int ((ln i) + (ps i)), .int (zY kd ln ps i), .ref ob]) ⟨hx, hb, hml, hown, hts⟩ hG hK hP hD hS (c_X6_sine l D cI cJ q9 (by first | assumption | omega | decide)) (va_cwS 1 hts gX6_looks_X6_sine rfl rfl rfl (by decide +kernel) ⟨Nat.le_of_ble_eq_true rfl, Nat.le_of_ble_eq_true rfl⟩) [] (by decide) rfl (fun _ => rfl) rfl hl.1 rfl (Nat.le_of_ble_eq_true rfl) dX6_looks_102 ⟨Nat.le_of_ble_eq_true rfl, Nat.le_of_ble_eq_true rfl⟩ (fun u_6 H locs hu_7 hP hD hS => ?_)
          obtain ⟨r_8, rfl⟩ : ∃ z, z = u_6 := ⟨_, rfl⟩
          have hu_7 : (r_8 = zsn (nI q9)) := hu_7
          have e_9 := hu_7
          subst e_9
          have hP : va_P D vwCl [(ob, .inr (6, [.int th, .int (nI n), .ref b1, .ref b2, .ref b3, .ref b4, .ref b5, .int gx, .int gy, .int sl, .ref bp, .int (zX kd ln ps (i + 1)), .int (zY kd ln ps i), .int (zH kd ps (i + 1)), .ref bu, .ref bv, .int fd, .ref bk, .ref bw])), (b1, .inl (cI, 5, .inl kd)), (b2, .inl (cI, 5, .inl ln)), (b3, .inl (cI, 5, .inl lo)), (b4, .inl (cI, 5, .inl hi)), (b5, .inl (cI, 5, .inl vl)), (bp, .inl (cI, 5, .inl ps)), (bu, .inl (cI, 5, .inl f1)), (bv, .inl (cI, 5, .inl f2)), (bk, .inl (cJ, 10, .inr (.inl ky))), (bw, .inl (cI, 10, .inl wh))] H := hP
          have hD : va_D A0 [(ob, .inr (6, [.int th, .int (nI n), .ref b1, .ref b2, .ref b3, .ref b4, .ref b5, .int gx, .int gy, .int sl, .ref bp, .int (zX kd ln ps (i + 1)), .int (zY kd ln ps i), .int (zH kd ps (i + 1)), .ref bu, .ref bv, .int fd, .ref bk, .ref bw])), (b1, .inl (cI, 5, .inl kd)), (b2, .inl (cI, 5, .inl ln)), (b3, .inl (cI, 5, .inl lo)), (b4, .inl (cI, 5, .inl hi)), (b5, .inl (cI, 5, .inl vl)), (bp, .inl (cI, 5, .inl ps)), (bu, .inl (cI, 5, .inl f1)), (bv, .inl (cI, 5, .inl f2)), (bk, .inl (cJ, 10, .inr (.inl ky))), (bw, .inl (cI, 10, .inl wh))] := hD
          refine lv_imul hx hb dX6_looks_105 ?_
          refine lv_iadd hx hb dX6_looks_106 ?_
          refine z_topi (y := zY kd ln ps (i + 1)) (by show _ = zY kd ln ps i + zDist kd ln i (ps i) * zsn (zH kd ps (i + 1)); rw [zDs (ln := ln) (v := ps i) c_38, heq]) ?_
          refine va_put (D := D) (ci := 6) (v := .int (zY kd ln ps (i + 1))) (ty := .int) (C := RX6) (T := TX6) (N := 19) hx hb hts hin6 tyX6 tyX6_ok nmX6 hown hK hP hD hS 0 rfl rfl 12 (by decide) hf62 (fun _ h9 => h9) rfl (by decide +kernel) rfl rfl (Nat.le_of_ble_eq_true rfl) dX6_looks_107 (fun H locs hP hD hS => ?_)
          have hP : va_P D vwCl [(ob, .inr (6, [.int th, .int (nI n), .ref b1, .ref b2, .ref b3, .ref b4, .ref b5, .int gx, .int gy, .int sl, .ref bp, .int (zX kd ln ps (i + 1)), .int (zY kd ln ps (i + 1)), .int (zH kd ps (i + 1)), .ref bu, .ref bv, .int fd, .ref bk, .ref bw])), (b1, .inl (cI, 5, .inl kd)), (b2, .inl (cI, 5, .inl ln)), (b3, .inl (cI, 5, .inl lo)), (b4, .inl (cI, 5, .inl hi)), (b5, .inl (cI, 5, .inl vl)), (bp, .inl (cI, 5, .inl ps)), (bu, .inl (cI, 5, .inl f1)), (bv, .inl (cI, 5, .inl f2)), (bk, .inl (cJ, 10, .inr (.inl ky))), (bw, .inl (cI, 10, .inl wh))] H := hP
          have hD : va_D A0 [(ob, .inr (6, [.int th, .int (nI n), .ref b1, .ref b2, .ref b3, .ref b4, .ref b5, .int gx, .int gy, .int sl, .ref bp, .int (zX kd ln ps (i + 1)), .int (zY kd ln ps (i + 1)), .int (zH kd ps (i + 1)), .ref bu, .ref bv, .int fd, .ref bk, .ref bw])), (b1, .inl (cI, 5, .inl kd)), (b2, .inl (cI, 5, .inl ln)), (b3, .inl (cI, 5, .inl lo)), (b4, .inl (cI, 5, .inl hi)), (b5, .inl (cI, 5, .inl vl)), (bp, .inl (cI, 5, .inl ps)), (bu, .inl (cI, 5, .inl f1)), (bv, .inl (cI, 5, .inl f2)), (bk, .inl (cJ, 10, .inr (.inl ky))), (bw, .inl (cI, 10, .inl wh))] := hD
          refine lv_iinc (v := nI (i + 1)) (lv' := [(1, .int (nI (i + 1))), (2, .int ((ln i) + (ps i))), (0, .ref ob)]) hx hb dX6_looks_110 hl (k := 2) rfl ((nI_succ _).symm) (by decide) rfl (fun ls hl => ?_)
          refine lv_goto (tgt := 17) hx hb dX6_looks_113 (by decide) ?_
          exact ih_17_1 (i + 1) (by first | assumption | omega | rfl | simp_all) (by omega) _ _ hP hD hS _ (lv_sub hl [2, 0] rfl)
        · refine lv_aload_n hx hb dX6_looks_41 rfl (lv_at hl 1 rfl) ?_
          refine lv_aload_n hx hb dX6_looks_42 rfl (lv_at hl 1 rfl) ?_
          refine va_get (D := D) (ci := 6) (v := .int (zH kd ps i)) (C := RX6) (T := TX6) (N := 19) hx hb hts hin6 hown hK hP 0 rfl rfl 13 (by decide) hf65 (fun _ h9 => h9) rfl dX6_looks_43 ?_
          refine lv_aload_n hx hb dX6_looks_46 rfl (lv_at hl 1 rfl) ?_
          refine va_get (D := D) (ci := 6) (v := .ref bp) (C := RX6) (T := TX6) (N := 19) hx hb hts hin6 hown hK hP 0 rfl rfl 10 (by decide) hf29 (fun _ h9 => h9) rfl dX6_looks_47 ?_
          refine lv_iload_n hx hb dX6_looks_50 rfl (lv_at hl 2 rfl) ?_
          refine z_iald hx hb hK hP 6 rfl (j := i) (by omega) (by decide) dX6_looks_51 ?_
          refine lv_iadd hx hb dX6_looks_52 ?_
          refine z_callS (As := [.int ((zH kd ps i) + (ps i))]) (rest := [.ref ob]) ⟨hx, hb, hml, hown, hts⟩ hG hK hP hD hS (c_X6_told l D cI cJ ((zH kd ps i) + (ps i)) (zH_sm hps (by omega))) (va_cwS 1 hts gX6_looks_X6_told rfl rfl rfl (by decide +kernel) ⟨Nat.le_of_ble_eq_true rfl, Nat.le_of_ble_eq_true rfl⟩) [] (by decide) rfl (fun _ => rfl) rfl hl.1 rfl (Nat.le_of_ble_eq_true rfl) dX6_looks_53 ⟨Nat.le_of_ble_eq_true rfl, Nat.le_of_ble_eq_true rfl⟩ (fun u_10 H locs hu_11 hP hD hS => ?_)
          obtain ⟨r_12, rfl⟩ : ∃ z, z = u_10 := ⟨_, rfl⟩
          have hu_11 : (r_12 = ((zH kd ps i) + (ps i)) &&& 63) := hu_11
          have e_13 := hu_11
          subst e_13
          have hP : va_P D vwCl [(ob, .inr (6, [.int th, .int (nI n), .ref b1, .ref b2, .ref b3, .ref b4, .ref b5, .int gx, .int gy, .int sl, .ref bp, .int (zX kd ln ps i), .int (zY kd ln ps i), .int (zH kd ps i), .ref bu, .ref bv, .int fd, .ref bk, .ref bw])), (b1, .inl (cI, 5, .inl kd)), (b2, .inl (cI, 5, .inl ln)), (b3, .inl (cI, 5, .inl lo)), (b4, .inl (cI, 5, .inl hi)), (b5, .inl (cI, 5, .inl vl)), (bp, .inl (cI, 5, .inl ps)), (bu, .inl (cI, 5, .inl f1)), (bv, .inl (cI, 5, .inl f2)), (bk, .inl (cJ, 10, .inr (.inl ky))), (bw, .inl (cI, 10, .inl wh))] H := hP
          have hD : va_D A0 [(ob, .inr (6, [.int th, .int (nI n), .ref b1, .ref b2, .ref b3, .ref b4, .ref b5, .int gx, .int gy, .int sl, .ref bp, .int (zX kd ln ps i), .int (zY kd ln ps i), .int (zH kd ps i), .ref bu, .ref bv, .int fd, .ref bk, .ref bw])), (b1, .inl (cI, 5, .inl kd)), (b2, .inl (cI, 5, .inl ln)), (b3, .inl (cI, 5, .inl lo)), (b4, .inl (cI, 5, .inl hi)), (b5, .inl (cI, 5, .inl vl)), (bp, .inl (cI, 5, .inl ps)), (bu, .inl (cI, 5, .inl f1)), (bv, .inl (cI, 5, .inl f2)), (bk, .inl (cJ, 10, .inr (.inl ky))), (bw, .inl (cI, 10, .inl wh))] := hD
          refine z_topi (y := zH kd ps (i + 1)) (zHt c_38) ?_
          refine va_put (D := D) (ci := 6) (v := .int (zH kd ps (i + 1))) (ty := .int) (C := RX6) (T := TX6) (N := 19) hx hb hts hin6 tyX6 tyX6_ok nmX6 hown hK hP hD hS 0 rfl rfl 13 (by decide) hf65 (fun _ h9 => h9) rfl (by decide +kernel) rfl rfl (Nat.le_of_ble_eq_true rfl) dX6_looks_56 (fun H locs hP hD hS => ?_)
          have hP : va_P D vwCl [(ob, .inr (6, [.int th, .int (nI n), .ref b1, .ref b2, .ref b3, .ref b4, .ref b5, .int gx, .int gy, .int sl, .ref bp, .int (zX kd ln ps i), .int (zY kd ln ps i), .int (zH kd ps (i + 1)), .ref bu, .ref bv, .int fd, .ref bk, .ref bw])), (b1, .inl (cI, 5, .inl kd)), (b2, .inl (cI, 5, .inl ln)), (b3, .inl (cI, 5, .inl lo)), (b4, .inl (cI, 5, .inl hi)), (b5, .inl (cI, 5, .inl vl)), (bp, .inl (cI, 5, .inl ps)), (bu, .inl (cI, 5, .inl f1)), (bv, .inl (cI, 5, .inl f2)), (bk, .inl (cJ, 10, .inr (.inl ky))), (bw, .inl (cI, 10, .inl wh))] H := hP
          have hD : va_D A0 [(ob, .inr (6, [.int th, .int (nI n), .ref b1, .ref b2, .ref b3, .ref b4, .ref b5, .int gx, .int gy, .int sl, .ref bp, .int (zX kd ln ps i), .int (zY kd ln ps i), .int (zH kd ps (i + 1)), .ref bu, .ref bv, .int fd, .ref bk, .ref bw])), (b1, .inl (cI, 5, .inl kd)), (b2, .inl (cI, 5, .inl ln)), (b3, .inl (cI, 5, .inl lo)), (b4, .inl (cI, 5, .inl hi)), (b5, .inl (cI, 5, .inl vl)), (bp, .inl (cI, 5, .inl ps)), (bu, .inl (cI, 5, .inl f1)), (bv, .inl (cI, 5, .inl f2)), (bk, .inl (cJ, 10, .inr (.inl ky))), (bw, .inl (cI, 10, .inl wh))] := hD
          refine lv_goto (tgt := 71) hx hb dX6_looks_59 (by decide) ?_
          obtain ⟨q9, hq9, heq⟩ := zH_nI kd ps (i + 1)
          have hdi : zDist kd ln i (ps i) = zDist kd ln i (ps i) := rfl
          refine lv_aload_n hx hb dX6_looks_71 rfl (lv_at hl 1 rfl) ?_
          refine lv_dup hx hb dX6_looks_72 rfl ?_
          refine va_get (D := D) (ci := 6) (v := .int (zX kd ln ps i)) (C := RX6) (T := TX6) (N := 19) hx hb hts hin6 hown hK hP 0 rfl rfl 11 (by decide) hf59 (fun _ h9 => h9) rfl dX6_looks_73 ?_
          refine lv_iload_n hx hb dX6_looks_76 rfl (lv_at hl 0 rfl) ?_
          refine lv_aload_n hx hb dX6_looks_77 rfl (lv_at hl 1 rfl) ?_
          refine va_get (D := D) (ci := 6) (v := .int (zH kd ps (i + 1))) (C := RX6) (T := TX6) (N := 19) hx hb hts hin6 hown hK hP 0 rfl rfl 13 (by decide) hf65 (fun _ h9 => h9) rfl dX6_looks_78 ?_
          refine lv_bipush (v := 16) hx hb dX6_looks_81 (by decide) ?_
          refine lv_iadd hx hb dX6_looks_83 ?_
          refine z_topi (y := nI (q9 + 16)) (by rw [heq]; exact nI_add _ 16) ?_
          refine z_callS (As := [.int (nI (q9 + 16))]) (rest := [.int (ln i), .int (zX kd ln ps i), .ref ob]) ⟨hx, hb, hml, hown, hts⟩ hG hK hP hD hS (c_X6_sine l D cI cJ (q9 + 16) (by first | assumption | omega | decide)) (va_cwS 1 hts gX6_looks_X6_sine rfl rfl rfl (by decide +kernel) ⟨Nat.le_of_ble_eq_true rfl, Nat.le_of_ble_eq_true rfl⟩) [] (by decide) rfl (fun _ => rfl) rfl hl.1 rfl (Nat.le_of_ble_eq_true rfl) dX6_looks_84 ⟨Nat.le_of_ble_eq_true rfl, Nat.le_of_ble_eq_true rfl⟩ (fun u_14 H locs hu_15 hP hD hS => ?_)
          obtain ⟨r_16, rfl⟩ : ∃ z, z = u_14 := ⟨_, rfl⟩
          have hu_15 : (r_16 = zsn (nI (q9 + 16))) := hu_15
          have e_17 := hu_15
          subst e_17
          have hP : va_P D vwCl [(ob, .inr (6, [.int th, .int (nI n), .ref b1, .ref b2, .ref b3, .ref b4, .ref b5, .int gx, .int gy, .int sl, .ref bp, .int (zX kd ln ps i), .int (zY kd ln ps i), .int (zH kd ps (i + 1)), .ref bu, .ref bv, .int fd, .ref bk, .ref bw])), (b1, .inl (cI, 5, .inl kd)), (b2, .inl (cI, 5, .inl ln)), (b3, .inl (cI, 5, .inl lo)), (b4, .inl (cI, 5, .inl hi)), (b5, .inl (cI, 5, .inl vl)), (bp, .inl (cI, 5, .inl ps)), (bu, .inl (cI, 5, .inl f1)), (bv, .inl (cI, 5, .inl f2)), (bk, .inl (cJ, 10, .inr (.inl ky))), (bw, .inl (cI, 10, .inl wh))] H := hP
          have hD : va_D A0 [(ob, .inr (6, [.int th, .int (nI n), .ref b1, .ref b2, .ref b3, .ref b4, .ref b5, .int gx, .int gy, .int sl, .ref bp, .int (zX kd ln ps i), .int (zY kd ln ps i), .int (zH kd ps (i + 1)), .ref bu, .ref bv, .int fd, .ref bk, .ref bw])), (b1, .inl (cI, 5, .inl kd)), (b2, .inl (cI, 5, .inl ln)), (b3, .inl (cI, 5, .inl lo)), (b4, .inl (cI, 5, .inl hi)), (b5, .inl (cI, 5, .inl vl)), (bp, .inl (cI, 5, .inl ps)), (bu, .inl (cI, 5, .inl f1)), (bv, .inl (cI, 5, .inl f2)), (bk, .inl (cJ, 10, .inr (.inl ky))), (bw, .inl (cI, 10, .inl wh))] := hD
          refine lv_imul hx hb dX6_looks_87 ?_
          refine lv_iadd hx hb dX6_looks_88 ?_
          refine z_topi (y := zX kd ln ps (i + 1)) (by show _ = zX kd ln ps i + zDist kd ln i (ps i) * zsn (zH kd ps (i + 1) + 16); rw [zDt (ln := ln) (v := ps i) c_38, heq, ← nI_add q9 16]; rfl) ?_
          refine va_put (D := D) (ci := 6) (v := .int (zX kd ln ps (i + 1))) (ty := .int) (C := RX6) (T := TX6) (N := 19) hx hb hts hin6 tyX6 tyX6_ok nmX6 hown hK hP hD hS 0 rfl rfl 11 (by decide) hf59 (fun _ h9 => h9) rfl (by decide +kernel) rfl rfl (Nat.le_of_ble_eq_true rfl) dX6_looks_89 (fun H locs hP hD hS => ?_)
          have hP : va_P D vwCl [(ob, .inr (6, [.int th, .int (nI n), .ref b1, .ref b2, .ref b3, .ref b4, .ref b5, .int gx, .int gy, .int sl, .ref bp, .int (zX kd ln ps (i + 1)), .int (zY kd ln ps i), .int (zH kd ps (i + 1)), .ref bu, .ref bv, .int fd, .ref bk, .ref bw])), (b1, .inl (cI, 5, .inl kd)), (b2, .inl (cI, 5, .inl ln)), (b3, .inl (cI, 5, .inl lo)), (b4, .inl (cI, 5, .inl hi)), (b5, .inl (cI, 5, .inl vl)), (bp, .inl (cI, 5, .inl ps)), (bu, .inl (cI, 5, .inl f1)), (bv, .inl (cI, 5, .inl f2)), (bk, .inl (cJ, 10, .inr (.inl ky))), (bw, .inl (cI, 10, .inl wh))] H := hP
          have hD : va_D A0 [(ob, .inr (6, [.int th, .int (nI n), .ref b1, .ref b2, .ref b3, .ref b4, .ref b5, .int gx, .int gy, .int sl, .ref bp, .int (zX kd ln ps (i + 1)), .int (zY kd ln ps i), .int (zH kd ps (i + 1)), .ref bu, .ref bv, .int fd, .ref bk, .ref bw])), (b1, .inl (cI, 5, .inl kd)), (b2, .inl (cI, 5, .inl ln)), (b3, .inl (cI, 5, .inl lo)), (b4, .inl (cI, 5, .inl hi)), (b5, .inl (cI, 5, .inl vl)), (bp, .inl (cI, 5, .inl ps)), (bu, .inl (cI, 5, .inl f1)), (bv, .inl (cI, 5, .inl f2)), (bk, .inl (cJ, 10, .inr (.inl ky))), (bw, .inl (cI, 10, .inl wh))] := hD
          refine lv_aload_n hx hb dX6_looks_92 rfl (lv_at hl 1 rfl) ?_
          refine lv_dup hx hb dX6_looks_93 rfl ?_
          refine va_get (D := D) (ci := 6) (v := .int (zY kd ln ps i)) (C := RX6) (T := TX6) (N := 19) hx hb hts hin6 hown hK hP 0 rfl rfl 12 (by decide) hf62 (fun _ h9 => h9) rfl dX6_looks_94 ?_
          refine lv_iload_n hx hb dX6_looks_97 rfl (lv_at hl 0 rfl) ?_
          refine lv_aload_n hx hb dX6_looks_98 rfl (lv_at hl 1 rfl) ?_
          refine va_get (D := D) (ci := 6) (v := .int (zH kd ps (i + 1))) (C := RX6) (T := TX6) (N := 19) hx hb hts hin6 hown hK hP 0 rfl rfl 13 (by decide) hf65 (fun _ h9 => h9) rfl dX6_looks_99 ?_
          refine z_topi (y := nI q9) heq ?_
          refine z_callS (As := [.int (nI q9)]) (rest := [.int (ln i), .int (zY kd ln ps i), .ref ob]) ⟨hx, hb, hml, hown, hts⟩ hG hK hP hD hS (c_X6_sine l D cI cJ q9 (by first | assumption | omega | decide)) (va_cwS 1 hts gX6_looks_X6_sine rfl rfl rfl (by decide +kernel) ⟨Nat.le_of_ble_eq_true rfl, Nat.le_of_ble_eq_true rfl⟩) [] (by decide) rfl (fun _ => rfl) rfl hl.1 rfl (Nat.le_of_ble_eq_true rfl) dX6_looks_102 ⟨Nat.le_of_ble_eq_true rfl, Nat.le_of_ble_eq_true rfl⟩ (fun u_18 H locs hu_19 hP hD hS => ?_)
          obtain ⟨r_20, rfl⟩ : ∃ z, z = u_18 := ⟨_, rfl⟩
          have hu_19 : (r_20 = zsn (nI q9)) := hu_19
          have e_21 := hu_19
          subst e_21
          have hP : va_P D vwCl [(ob, .inr (6, [.int th, .int (nI n), .ref b1, .ref b2, .ref b3, .ref b4, .ref b5, .int gx, .int gy, .int sl, .ref bp, .int (zX kd ln ps (i + 1)), .int (zY kd ln ps i), .int (zH kd ps (i + 1)), .ref bu, .ref bv, .int fd, .ref bk, .ref bw])), (b1, .inl (cI, 5, .inl kd)), (b2, .inl (cI, 5, .inl ln)), (b3, .inl (cI, 5, .inl lo)), (b4, .inl (cI, 5, .inl hi)), (b5, .inl (cI, 5, .inl vl)), (bp, .inl (cI, 5, .inl ps)), (bu, .inl (cI, 5, .inl f1)), (bv, .inl (cI, 5, .inl f2)), (bk, .inl (cJ, 10, .inr (.inl ky))), (bw, .inl (cI, 10, .inl wh))] H := hP
          have hD : va_D A0 [(ob, .inr (6, [.int th, .int (nI n), .ref b1, .ref b2, .ref b3, .ref b4, .ref b5, .int gx, .int gy, .int sl, .ref bp, .int (zX kd ln ps (i + 1)), .int (zY kd ln ps i), .int (zH kd ps (i + 1)), .ref bu, .ref bv, .int fd, .ref bk, .ref bw])), (b1, .inl (cI, 5, .inl kd)), (b2, .inl (cI, 5, .inl ln)), (b3, .inl (cI, 5, .inl lo)), (b4, .inl (cI, 5, .inl hi)), (b5, .inl (cI, 5, .inl vl)), (bp, .inl (cI, 5, .inl ps)), (bu, .inl (cI, 5, .inl f1)), (bv, .inl (cI, 5, .inl f2)), (bk, .inl (cJ, 10, .inr (.inl ky))), (bw, .inl (cI, 10, .inl wh))] := hD
          refine lv_imul hx hb dX6_looks_105 ?_
          refine lv_iadd hx hb dX6_looks_106 ?_
          refine z_topi (y := zY kd ln ps (i + 1)) (by show _ = zY kd ln ps i + zDist kd ln i (ps i) * zsn (zH kd ps (i + 1)); rw [zDt (ln := ln) (v := ps i) c_38, heq]) ?_
          refine va_put (D := D) (ci := 6) (v := .int (zY kd ln ps (i + 1))) (ty := .int) (C := RX6) (T := TX6) (N := 19) hx hb hts hin6 tyX6 tyX6_ok nmX6 hown hK hP hD hS 0 rfl rfl 12 (by decide) hf62 (fun _ h9 => h9) rfl (by decide +kernel) rfl rfl (Nat.le_of_ble_eq_true rfl) dX6_looks_107 (fun H locs hP hD hS => ?_)
          have hP : va_P D vwCl [(ob, .inr (6, [.int th, .int (nI n), .ref b1, .ref b2, .ref b3, .ref b4, .ref b5, .int gx, .int gy, .int sl, .ref bp, .int (zX kd ln ps (i + 1)), .int (zY kd ln ps (i + 1)), .int (zH kd ps (i + 1)), .ref bu, .ref bv, .int fd, .ref bk, .ref bw])), (b1, .inl (cI, 5, .inl kd)), (b2, .inl (cI, 5, .inl ln)), (b3, .inl (cI, 5, .inl lo)), (b4, .inl (cI, 5, .inl hi)), (b5, .inl (cI, 5, .inl vl)), (bp, .inl (cI, 5, .inl ps)), (bu, .inl (cI, 5, .inl f1)), (bv, .inl (cI, 5, .inl f2)), (bk, .inl (cJ, 10, .inr (.inl ky))), (bw, .inl (cI, 10, .inl wh))] H := hP
          have hD : va_D A0 [(ob, .inr (6, [.int th, .int (nI n), .ref b1, .ref b2, .ref b3, .ref b4, .ref b5, .int gx, .int gy, .int sl, .ref bp, .int (zX kd ln ps (i + 1)), .int (zY kd ln ps (i + 1)), .int (zH kd ps (i + 1)), .ref bu, .ref bv, .int fd, .ref bk, .ref bw])), (b1, .inl (cI, 5, .inl kd)), (b2, .inl (cI, 5, .inl ln)), (b3, .inl (cI, 5, .inl lo)), (b4, .inl (cI, 5, .inl hi)), (b5, .inl (cI, 5, .inl vl)), (bp, .inl (cI, 5, .inl ps)), (bu, .inl (cI, 5, .inl f1)), (bv, .inl (cI, 5, .inl f2)), (bk, .inl (cJ, 10, .inr (.inl ky))), (bw, .inl (cI, 10, .inl wh))] := hD
          refine lv_iinc (v := nI (i + 1)) (lv' := [(1, .int (nI (i + 1))), (2, .int (ln i)), (0, .ref ob)]) hx hb dX6_looks_110 hl (k := 2) rfl ((nI_succ _).symm) (by decide) rfl (fun ls hl => ?_)
          refine lv_goto (tgt := 17) hx hb dX6_looks_113 (by decide) ?_
          exact ih_17_1 (i + 1) (by first | assumption | omega | rfl | simp_all) (by omega) _ _ hP hD hS _ (lv_sub hl [2, 0] rfl)
  exact lp_17_1 ((n - 0) + 1) 0 (by first | assumption | omega | rfl | simp_all) (Nat.lt_succ_self _) _ _ hP hD hS _ (lv_sub hl [1, 0] rfl)

set_option maxHeartbeats 4000000 in
set_option maxRecDepth 100000 in
theorem c_X6_looksNow (l : Launch) (D : va_G) (cI cJ : ClassId) (ob : Nat) (b1 : Nat) (b2 : Nat) (b3 : Nat) (b4 : Nat) (b5 : Nat) (bp : Nat) (bu : Nat) (bv : Nat) (bk : Nat) (bw : Nat) (n : Nat) (th : Int32) (gx : Int32) (gy : Int32) (sl : Int32) (x : Int32) (y : Int32) (h : Int32) (fd : Int32) (kd : Nat → Int32) (ln : Nat → Int32) (lo : Nat → Int32) (hi : Nat → Int32) (vl : Nat → Int32) (ps : Nat → Int32) (f1 : Nat → Int32) (f2 : Nat → Int32) (ky : Nat → Int64) (wh : Nat → Int32) (hn : n ≤ 5) (hps : zPok n vl) : zM l yX6_looksNow wsX6_looksNow 3 D cI cJ [.ref ob] [(ob, .inr (6, [.int th, .int (nI n), .ref b1, .ref b2, .ref b3, .ref b4, .ref b5, .int gx, .int gy, .int sl, .ref bp, .int x, .int y, .int h, .ref bu, .ref bv, .int fd, .ref bk, .ref bw])), (b1, .inl (cI, 5, .inl kd)), (b2, .inl (cI, 5, .inl ln)), (b3, .inl (cI, 5, .inl lo)), (b4, .inl (cI, 5, .inl hi)), (b5, .inl (cI, 5, .inl vl)), (bp, .inl (cI, 5, .inl ps)), (bu, .inl (cI, 5, .inl f1)), (bv, .inl (cI, 5, .inl f2)), (bk, .inl (cJ, 10, .inr (.inl ky))), (bw, .inl (cI, 10, .inl wh))] (fun (u : (Nat → Int32) × Int32 × Int32 × Int32) => (u.2.1 = zX kd ln vl n) ∧ (u.2.2.1 = zY kd ln vl n) ∧ (u.2.2.2 = zH kd vl n)) (fun (u : (Nat → Int32) × Int32 × Int32 × Int32) => none) (fun (u : (Nat → Int32) × Int32 × Int32 × Int32) => [(ob, .inr (6, [.int th, .int (nI n), .ref b1, .ref b2, .ref b3, .ref b4, .ref b5, .int gx, .int gy, .int sl, .ref bp, .int u.2.1, .int u.2.2.1, .int u.2.2.2, .ref bu, .ref bv, .int fd, .ref bk, .ref bw])), (b1, .inl (cI, 5, .inl kd)), (b2, .inl (cI, 5, .inl ln)), (b3, .inl (cI, 5, .inl lo)), (b4, .inl (cI, 5, .inl hi)), (b5, .inl (cI, 5, .inl vl)), (bp, .inl (cI, 5, .inl u.1)), (bu, .inl (cI, 5, .inl f1)), (bv, .inl (cI, 5, .inl f2)), (bk, .inl (cJ, 10, .inr (.inl ky))), (bw, .inl (cI, 10, .inl wh))]) := by
  refine zM_v (cc := cX6_looksNow) (maxL := 1) (by decide) rfl (Nat.le_of_ble_eq_true rfl) ?_
  intro p e s m args below meth c ls A0 Q C hl hP hS hRet
  obtain ⟨⟨hx, hb, hml, hown, hts⟩, hG, hK, hD, hlocks⟩ := C
  have hl : lv_has ls 1 [(0, .ref ob)] := hl
  refine lv_aload_n hx hb dX6_looksNow_0 rfl (lv_at hl 0 rfl) ?_
  refine z_callV (As := []) (rest := []) ⟨hx, hb, hml, hown, hts⟩ hG hK hP hD hS (c_X6_copiesPose l D cI cJ ob b1 b2 b3 b4 b5 bp bu bv bk bw n th gx gy sl x y h fd kd ln lo hi vl ps f1 f2 ky wh (by first | assumption | omega | decide)) (cwV 0 hts gX6_looksNow_X6_copiesPose rfl rfl rfl (by decide +kernel) ⟨Nat.le_of_ble_eq_true rfl, Nat.le_of_ble_eq_true rfl⟩) [0, 1, 2, 3, 4, 5, 6, 7, 8, 9, 10] (by decide) rfl (fun _ => rfl) 0 rfl rfl rfl rfl hl.1 rfl (Nat.le_of_ble_eq_true rfl) dX6_looksNow_1 ⟨Nat.le_of_ble_eq_true rfl, Nat.le_of_ble_eq_true rfl⟩ (fun u_1 H locs hu_2 hP hD hS => ?_)
  obtain ⟨pq, rfl⟩ : ∃ z, z = u_1 := ⟨_, rfl⟩
  have hu_2 : (∀ j, j < n → pq j = vl j) := hu_2
  have hpq := hu_2
  have hP : va_P D vwCl [(ob, .inr (6, [.int th, .int (nI n), .ref b1, .ref b2, .ref b3, .ref b4, .ref b5, .int gx, .int gy, .int sl, .ref bp, .int x, .int y, .int h, .ref bu, .ref bv, .int fd, .ref bk, .ref bw])), (b1, .inl (cI, 5, .inl kd)), (b2, .inl (cI, 5, .inl ln)), (b3, .inl (cI, 5, .inl lo)), (b4, .inl (cI, 5, .inl hi)), (b5, .inl (cI, 5, .inl vl)), (bp, .inl (cI, 5, .inl pq)), (bu, .inl (cI, 5, .inl f1)), (bv, .inl (cI, 5, .inl f2)), (bk, .inl (cJ, 10, .inr (.inl ky))), (bw, .inl (cI, 10, .inl wh))] H := hP
  have hD : va_D A0 [(ob, .inr (6, [.int th, .int (nI n), .ref b1, .ref b2, .ref b3, .ref b4, .ref b5, .int gx, .int gy, .int sl, .ref bp, .int x, .int y, .int h, .ref bu, .ref bv, .int fd, .ref bk, .ref bw])), (b1, .inl (cI, 5, .inl kd)), (b2, .inl (cI, 5, .inl ln)), (b3, .inl (cI, 5, .inl lo)), (b4, .inl (cI, 5, .inl hi)), (b5, .inl (cI, 5, .inl vl)), (bp, .inl (cI, 5, .inl pq)), (bu, .inl (cI, 5, .inl f1)), (bv, .inl (cI, 5, .inl f2)), (bk, .inl (cJ, 10, .inr (.inl ky))), (bw, .inl (cI, 10, .inl wh))] := hD
  refine lv_aload_n hx hb dX6_looksNow_4 rfl (lv_at hl 0 rfl) ?_
  refine z_callV (As := []) (rest := []) ⟨hx, hb, hml, hown, hts⟩ hG hK hP hD hS (c_X6_looks l D cI cJ ob b1 b2 b3 b4 b5 bp bu bv bk bw n th gx gy sl x y h fd kd ln lo hi vl pq f1 f2 ky wh (by first | assumption | omega | decide) (fun j hj => by rw [hpq j hj]; exact hps j hj)) (cwV 0 hts gX6_looksNow_X6_looks rfl rfl rfl (by decide +kernel) ⟨Nat.le_of_ble_eq_true rfl, Nat.le_of_ble_eq_true rfl⟩) [0, 1, 2, 3, 4, 5, 6, 7, 8, 9, 10] (by decide) rfl (fun _ => rfl) 0 rfl rfl rfl rfl hl.1 rfl (Nat.le_of_ble_eq_true rfl) dX6_looksNow_5 ⟨Nat.le_of_ble_eq_true rfl, Nat.le_of_ble_eq_true rfl⟩ (fun u_3 H locs hu_4 hP hD hS => ?_)
  obtain ⟨x3_5, y3_6, h3_7⟩ := u_3
  have hu_4 : (x3_5 = zX kd ln pq n) ∧ (y3_6 = zY kd ln pq n) ∧ (h3_7 = zH kd pq n) := hu_4
  obtain ⟨e_8, e_9, e_10⟩ := hu_4
  subst e_8
  subst e_9
  subst e_10
  have hP : va_P D vwCl [(ob, .inr (6, [.int th, .int (nI n), .ref b1, .ref b2, .ref b3, .ref b4, .ref b5, .int gx, .int gy, .int sl, .ref bp, .int (zX kd ln pq n), .int (zY kd ln pq n), .int (zH kd pq n), .ref bu, .ref bv, .int fd, .ref bk, .ref bw])), (b1, .inl (cI, 5, .inl kd)), (b2, .inl (cI, 5, .inl ln)), (b3, .inl (cI, 5, .inl lo)), (b4, .inl (cI, 5, .inl hi)), (b5, .inl (cI, 5, .inl vl)), (bp, .inl (cI, 5, .inl pq)), (bu, .inl (cI, 5, .inl f1)), (bv, .inl (cI, 5, .inl f2)), (bk, .inl (cJ, 10, .inr (.inl ky))), (bw, .inl (cI, 10, .inl wh))] H := hP
  have hD : va_D A0 [(ob, .inr (6, [.int th, .int (nI n), .ref b1, .ref b2, .ref b3, .ref b4, .ref b5, .int gx, .int gy, .int sl, .ref bp, .int (zX kd ln pq n), .int (zY kd ln pq n), .int (zH kd pq n), .ref bu, .ref bv, .int fd, .ref bk, .ref bw])), (b1, .inl (cI, 5, .inl kd)), (b2, .inl (cI, 5, .inl ln)), (b3, .inl (cI, 5, .inl lo)), (b4, .inl (cI, 5, .inl hi)), (b5, .inl (cI, 5, .inl vl)), (bp, .inl (cI, 5, .inl pq)), (bu, .inl (cI, 5, .inl f1)), (bv, .inl (cI, 5, .inl f2)), (bk, .inl (cJ, 10, .inr (.inl ky))), (bw, .inl (cI, 10, .inl wh))] := hD
  exact hRet _ (pq, zX kd ln pq n, zY kd ln pq n, zH kd pq n) _ _ _ ⟨zX_congr hpq, zY_congr hpq, zH_congr hpq⟩ hP hS dX6_looksNow_8

set_option maxHeartbeats 4000000 in
set_option maxRecDepth 100000 in
theorem c_X6_farness (l : Launch) (D : va_G) (cI cJ : ClassId) (ob : Nat) (b1 : Nat) (b2 : Nat) (b3 : Nat) (b4 : Nat) (b5 : Nat) (bp : Nat) (bu : Nat) (bv : Nat) (bk : Nat) (bw : Nat) (n : Nat) (th : Int32) (gx : Int32) (gy : Int32) (sl : Int32) (x : Int32) (y : Int32) (h : Int32) (fd : Int32) (kd : Nat → Int32) (ln : Nat → Int32) (lo : Nat → Int32) (hi : Nat → Int32) (vl : Nat → Int32) (ps : Nat → Int32) (f1 : Nat → Int32) (f2 : Nat → Int32) (ky : Nat → Int64) (wh : Nat → Int32)  : zM l yX6_farness wsX6_farness 0 D cI cJ [.ref ob] [(ob, .inr (6, [.int th, .int (nI n), .ref b1, .ref b2, .ref b3, .ref b4, .ref b5, .int gx, .int gy, .int sl, .ref bp, .int x, .int y, .int h, .ref bu, .ref bv, .int fd, .ref bk, .ref bw])), (b1, .inl (cI, 5, .inl kd)), (b2, .inl (cI, 5, .inl ln)), (b3, .inl (cI, 5, .inl lo)), (b4, .inl (cI, 5, .inl hi)), (b5, .inl (cI, 5, .inl vl)), (bp, .inl (cI, 5, .inl ps)), (bu, .inl (cI, 5, .inl f1)), (bv, .inl (cI, 5, .inl f2)), (bk, .inl (cJ, 10, .inr (.inl ky))), (bw, .inl (cI, 10, .inl wh))] (fun (u : Int64) => (u = zFarM gx gy x y)) (fun (u : Int64) => some (.long u)) (fun (u : Int64) => [(ob, .inr (6, [.int th, .int (nI n), .ref b1, .ref b2, .ref b3, .ref b4, .ref b5, .int gx, .int gy, .int sl, .ref bp, .int x, .int y, .int h, .ref bu, .ref bv, .int fd, .ref bk, .ref bw])), (b1, .inl (cI, 5, .inl kd)), (b2, .inl (cI, 5, .inl ln)), (b3, .inl (cI, 5, .inl lo)), (b4, .inl (cI, 5, .inl hi)), (b5, .inl (cI, 5, .inl vl)), (bp, .inl (cI, 5, .inl ps)), (bu, .inl (cI, 5, .inl f1)), (bv, .inl (cI, 5, .inl f2)), (bk, .inl (cJ, 10, .inr (.inl ky))), (bw, .inl (cI, 10, .inl wh))]) := by
  refine zM_l (cc := cX6_farness) (maxL := 5) (r := fun (u : Int64) => u) (by decide) rfl (Nat.le_of_ble_eq_true rfl) ?_
  intro p e s m args below meth c ls A0 Q C hl hP hS hRet
  obtain ⟨⟨hx, hb, hml, hown, hts⟩, hG, hK, hD, hlocks⟩ := C
  have hin6 : ∀ w ∈ u_ws RX6 TX6 19, w ∈ wsX6_farness := by decide +kernel
  have hf59 := hts (.fieldLink RX6 59 "ArmRoomModel" "x" "I") (by decide +kernel)
  have hf80 := hts (.fieldLink RX6 80 "ArmRoomModel" "goalX" "I") (by decide +kernel)
  have hf62 := hts (.fieldLink RX6 62 "ArmRoomModel" "y" "I") (by decide +kernel)
  have hf83 := hts (.fieldLink RX6 83 "ArmRoomModel" "goalY" "I") (by decide +kernel)
  have hl : lv_has ls 5 [(0, .ref ob)] := hl
  refine lv_aload_n hx hb dX6_farness_0 rfl (lv_at hl 0 rfl) ?_
  refine va_get (D := D) (ci := 6) (v := .int x) (C := RX6) (T := TX6) (N := 19) hx hb hts hin6 hown hK hP 0 rfl rfl 11 (by decide) hf59 (fun _ h9 => h9) rfl dX6_farness_1 ?_
  refine lv_aload_n hx hb dX6_farness_4 rfl (lv_at hl 0 rfl) ?_
  refine va_get (D := D) (ci := 6) (v := .int gx) (C := RX6) (T := TX6) (N := 19) hx hb hts hin6 hown hK hP 0 rfl rfl 7 (by decide) hf80 (fun _ h9 => h9) rfl dX6_farness_5 ?_
  refine lv_isub hx hb dX6_farness_8 ?_
  refine lv_i2l (v := (x - gx).toInt64) hx hb dX6_farness_9 rfl ?_
  refine lv_lstore_n (lv' := [(1, .long ((x - gx).toInt64)), (0, .ref ob)]) hx hb dX6_farness_10 rfl hl (by decide) rfl (fun ls hl => ?_)
  refine lv_aload_n hx hb dX6_farness_11 rfl (lv_at hl 1 rfl) ?_
  refine va_get (D := D) (ci := 6) (v := .int y) (C := RX6) (T := TX6) (N := 19) hx hb hts hin6 hown hK hP 0 rfl rfl 12 (by decide) hf62 (fun _ h9 => h9) rfl dX6_farness_12 ?_
  refine lv_aload_n hx hb dX6_farness_15 rfl (lv_at hl 1 rfl) ?_
  refine va_get (D := D) (ci := 6) (v := .int gy) (C := RX6) (T := TX6) (N := 19) hx hb hts hin6 hown hK hP 0 rfl rfl 8 (by decide) hf83 (fun _ h9 => h9) rfl dX6_farness_16 ?_
  refine lv_isub hx hb dX6_farness_19 ?_
  refine lv_i2l (v := (y - gy).toInt64) hx hb dX6_farness_20 rfl ?_
  refine lv_lstore_n (lv' := [(3, .long ((y - gy).toInt64)), (1, .long ((x - gx).toInt64)), (0, .ref ob)]) hx hb dX6_farness_21 rfl hl (by decide) rfl (fun ls hl => ?_)
  refine lv_lload_n hx hb dX6_farness_22 rfl (lv_at hl 1 rfl) ?_
  refine lv_lload_n hx hb dX6_farness_23 rfl (lv_at hl 1 rfl) ?_
  refine lv_lmul hx hb dX6_farness_24 ?_
  refine lv_lload_n hx hb dX6_farness_25 rfl (lv_at hl 0 rfl) ?_
  refine lv_lload_n hx hb dX6_farness_26 rfl (lv_at hl 0 rfl) ?_
  refine lv_lmul hx hb dX6_farness_27 ?_
  refine lv_ladd hx hb dX6_farness_28 ?_
  exact hRet _ ((((x - gx).toInt64) * ((x - gx).toInt64)) + (((y - gy).toInt64) * ((y - gy).toInt64))) _ _ _ (rfl) hP hS dX6_farness_29

set_option maxHeartbeats 4000000 in
set_option maxRecDepth 100000 in
theorem c_X6_farNow (l : Launch) (D : va_G) (cI cJ : ClassId) (ob : Nat) (b1 : Nat) (b2 : Nat) (b3 : Nat) (b4 : Nat) (b5 : Nat) (bp : Nat) (bu : Nat) (bv : Nat) (bk : Nat) (bw : Nat) (n : Nat) (th : Int32) (gx : Int32) (gy : Int32) (sl : Int32) (x : Int32) (y : Int32) (h : Int32) (fd : Int32) (kd : Nat → Int32) (ln : Nat → Int32) (lo : Nat → Int32) (hi : Nat → Int32) (vl : Nat → Int32) (ps : Nat → Int32) (f1 : Nat → Int32) (f2 : Nat → Int32) (ky : Nat → Int64) (wh : Nat → Int32) (hok : zOk n kd ln lo hi vl) (hgx : zB 1000000 gx) (hgy : zB 1000000 gy) : zM l yX6_farNow wsX6_farNow 4 D cI cJ [.ref ob] [(ob, .inr (6, [.int th, .int (nI n), .ref b1, .ref b2, .ref b3, .ref b4, .ref b5, .int gx, .int gy, .int sl, .ref bp, .int x, .int y, .int h, .ref bu, .ref bv, .int fd, .ref bk, .ref bw])), (b1, .inl (cI, 5, .inl kd)), (b2, .inl (cI, 5, .inl ln)), (b3, .inl (cI, 5, .inl lo)), (b4, .inl (cI, 5, .inl hi)), (b5, .inl (cI, 5, .inl vl)), (bp, .inl (cI, 5, .inl ps)), (bu, .inl (cI, 5, .inl f1)), (bv, .inl (cI, 5, .inl f2)), (bk, .inl (cJ, 10, .inr (.inl ky))), (bw, .inl (cI, 10, .inl wh))] (fun (u : Int64 × (Nat → Int32) × Int32 × Int32 × Int32) => (u.1 = zFn kd ln vl n gx gy)) (fun (u : Int64 × (Nat → Int32) × Int32 × Int32 × Int32) => some (.long u.1)) (fun (u : Int64 × (Nat → Int32) × Int32 × Int32 × Int32) => [(ob, .inr (6, [.int th, .int (nI n), .ref b1, .ref b2, .ref b3, .ref b4, .ref b5, .int gx, .int gy, .int sl, .ref bp, .int u.2.2.1, .int u.2.2.2.1, .int u.2.2.2.2, .ref bu, .ref bv, .int fd, .ref bk, .ref bw])), (b1, .inl (cI, 5, .inl kd)), (b2, .inl (cI, 5, .inl ln)), (b3, .inl (cI, 5, .inl lo)), (b4, .inl (cI, 5, .inl hi)), (b5, .inl (cI, 5, .inl vl)), (bp, .inl (cI, 5, .inl u.2.1)), (bu, .inl (cI, 5, .inl f1)), (bv, .inl (cI, 5, .inl f2)), (bk, .inl (cJ, 10, .inr (.inl ky))), (bw, .inl (cI, 10, .inl wh))]) := by
  refine zM_l (cc := cX6_farNow) (maxL := 1) (r := fun (u : Int64 × (Nat → Int32) × Int32 × Int32 × Int32) => u.1) (by decide) rfl (Nat.le_of_ble_eq_true rfl) ?_
  intro p e s m args below meth c ls A0 Q C hl hP hS hRet
  obtain ⟨⟨hx, hb, hml, hown, hts⟩, hG, hK, hD, hlocks⟩ := C
  have hl : lv_has ls 1 [(0, .ref ob)] := hl
  refine lv_aload_n hx hb dX6_farNow_0 rfl (lv_at hl 0 rfl) ?_
  refine z_callV (As := []) (rest := []) ⟨hx, hb, hml, hown, hts⟩ hG hK hP hD hS (c_X6_looksNow l D cI cJ ob b1 b2 b3 b4 b5 bp bu bv bk bw n th gx gy sl x y h fd kd ln lo hi vl ps f1 f2 ky wh (hok.1) (hok.p)) (cwV 0 hts gX6_farNow_X6_looksNow rfl rfl rfl (by decide +kernel) ⟨Nat.le_of_ble_eq_true rfl, Nat.le_of_ble_eq_true rfl⟩) [0, 1, 2, 3, 4, 5, 6, 7, 8, 9, 10] (by decide) rfl (fun _ => rfl) 0 rfl rfl rfl rfl hl.1 rfl (Nat.le_of_ble_eq_true rfl) dX6_farNow_1 ⟨Nat.le_of_ble_eq_true rfl, Nat.le_of_ble_eq_true rfl⟩ (fun u_1 H locs hu_2 hP hD hS => ?_)
  obtain ⟨ps3_3, x3_4, y3_5, h3_6⟩ := u_1
  have hu_2 : (x3_4 = zX kd ln vl n) ∧ (y3_5 = zY kd ln vl n) ∧ (h3_6 = zH kd vl n) := hu_2
  obtain ⟨e_7, e_8, e_9⟩ := hu_2
  subst e_7
  subst e_8
  subst e_9
  have hP : va_P D vwCl [(ob, .inr (6, [.int th, .int (nI n), .ref b1, .ref b2, .ref b3, .ref b4, .ref b5, .int gx, .int gy, .int sl, .ref bp, .int (zX kd ln vl n), .int (zY kd ln vl n), .int (zH kd vl n), .ref bu, .ref bv, .int fd, .ref bk, .ref bw])), (b1, .inl (cI, 5, .inl kd)), (b2, .inl (cI, 5, .inl ln)), (b3, .inl (cI, 5, .inl lo)), (b4, .inl (cI, 5, .inl hi)), (b5, .inl (cI, 5, .inl vl)), (bp, .inl (cI, 5, .inl ps3_3)), (bu, .inl (cI, 5, .inl f1)), (bv, .inl (cI, 5, .inl f2)), (bk, .inl (cJ, 10, .inr (.inl ky))), (bw, .inl (cI, 10, .inl wh))] H := hP
  have hD : va_D A0 [(ob, .inr (6, [.int th, .int (nI n), .ref b1, .ref b2, .ref b3, .ref b4, .ref b5, .int gx, .int gy, .int sl, .ref bp, .int (zX kd ln vl n), .int (zY kd ln vl n), .int (zH kd vl n), .ref bu, .ref bv, .int fd, .ref bk, .ref bw])), (b1, .inl (cI, 5, .inl kd)), (b2, .inl (cI, 5, .inl ln)), (b3, .inl (cI, 5, .inl lo)), (b4, .inl (cI, 5, .inl hi)), (b5, .inl (cI, 5, .inl vl)), (bp, .inl (cI, 5, .inl ps3_3)), (bu, .inl (cI, 5, .inl f1)), (bv, .inl (cI, 5, .inl f2)), (bk, .inl (cJ, 10, .inr (.inl ky))), (bw, .inl (cI, 10, .inl wh))] := hD
  refine lv_aload_n hx hb dX6_farNow_4 rfl (lv_at hl 0 rfl) ?_
  refine z_callV (As := []) (rest := []) ⟨hx, hb, hml, hown, hts⟩ hG hK hP hD hS (c_X6_farness l D cI cJ ob b1 b2 b3 b4 b5 bp bu bv bk bw n th gx gy sl (zX kd ln vl n) (zY kd ln vl n) (zH kd vl n) fd kd ln lo hi vl ps3_3 f1 f2 ky wh ) (cwV 0 hts gX6_farNow_X6_farness rfl rfl rfl (by decide +kernel) ⟨Nat.le_of_ble_eq_true rfl, Nat.le_of_ble_eq_true rfl⟩) [0, 1, 2, 3, 4, 5, 6, 7, 8, 9, 10] (by decide) rfl (fun _ => rfl) 0 rfl rfl rfl rfl hl.1 rfl (Nat.le_of_ble_eq_true rfl) dX6_farNow_5 ⟨Nat.le_of_ble_eq_true rfl, Nat.le_of_ble_eq_true rfl⟩ (fun u_10 H locs hu_11 hP hD hS => ?_)
  obtain ⟨r_12, rfl⟩ : ∃ z, z = u_10 := ⟨_, rfl⟩
  have hu_11 : (r_12 = zFarM gx gy (zX kd ln vl n) (zY kd ln vl n)) := hu_11
  have e_13 := hu_11
  subst e_13
  have hP : va_P D vwCl [(ob, .inr (6, [.int th, .int (nI n), .ref b1, .ref b2, .ref b3, .ref b4, .ref b5, .int gx, .int gy, .int sl, .ref bp, .int (zX kd ln vl n), .int (zY kd ln vl n), .int (zH kd vl n), .ref bu, .ref bv, .int fd, .ref bk, .ref bw])), (b1, .inl (cI, 5, .inl kd)), (b2, .inl (cI, 5, .inl ln)), (b3, .inl (cI, 5, .inl lo)), (b4, .inl (cI, 5, .inl hi)), (b5, .inl (cI, 5, .inl vl)), (bp, .inl (cI, 5, .inl ps3_3)), (bu, .inl (cI, 5, .inl f1)), (bv, .inl (cI, 5, .inl f2)), (bk, .inl (cJ, 10, .inr (.inl ky))), (bw, .inl (cI, 10, .inl wh))] H := hP
  have hD : va_D A0 [(ob, .inr (6, [.int th, .int (nI n), .ref b1, .ref b2, .ref b3, .ref b4, .ref b5, .int gx, .int gy, .int sl, .ref bp, .int (zX kd ln vl n), .int (zY kd ln vl n), .int (zH kd vl n), .ref bu, .ref bv, .int fd, .ref bk, .ref bw])), (b1, .inl (cI, 5, .inl kd)), (b2, .inl (cI, 5, .inl ln)), (b3, .inl (cI, 5, .inl lo)), (b4, .inl (cI, 5, .inl hi)), (b5, .inl (cI, 5, .inl vl)), (bp, .inl (cI, 5, .inl ps3_3)), (bu, .inl (cI, 5, .inl f1)), (bv, .inl (cI, 5, .inl f2)), (bk, .inl (cJ, 10, .inr (.inl ky))), (bw, .inl (cI, 10, .inl wh))] := hD
  exact hRet _ (zFarM gx gy (zX kd ln vl n) (zY kd ln vl n), ps3_3, zX kd ln vl n, zY kd ln vl n, zH kd vl n) _ _ _ (zFar_eq (zXb hok.1 hok.l hok.p) (zYb hok.1 hok.l hok.p) hgx hgy) hP hS dX6_farNow_8

set_option maxHeartbeats 4000000 in
set_option maxRecDepth 100000 in
theorem c_X6_farWith (l : Launch) (D : va_G) (cI cJ : ClassId) (ob : Nat) (b1 : Nat) (b2 : Nat) (b3 : Nat) (b4 : Nat) (b5 : Nat) (bp : Nat) (bu : Nat) (bv : Nat) (bk : Nat) (bw : Nat) (n : Nat) (th : Int32) (gx : Int32) (gy : Int32) (sl : Int32) (x : Int32) (y : Int32) (h : Int32) (fd : Int32) (kd : Nat → Int32) (ln : Nat → Int32) (lo : Nat → Int32) (hi : Nat → Int32) (vl : Nat → Int32) (ps : Nat → Int32) (f1 : Nat → Int32) (f2 : Nat → Int32) (ky : Nat → Int64) (wh : Nat → Int32) (j : Nat) (v : Int32) (hok : zOk n kd ln lo hi vl) (hgx : zB 1000000 gx) (hgy : zB 1000000 gy) (hj : j < n) (hv : -101 ≤ v.toInt ∧ v.toInt ≤ 101) : zM l yX6_farWith wsX6_farWith 4 D cI cJ [.ref ob, .int (nI j), .int v] [(ob, .inr (6, [.int th, .int (nI n), .ref b1, .ref b2, .ref b3, .ref b4, .ref b5, .int gx, .int gy, .int sl, .ref bp, .int x, .int y, .int h, .ref bu, .ref bv, .int fd, .ref bk, .ref bw])), (b1, .inl (cI, 5, .inl kd)), (b2, .inl (cI, 5, .inl ln)), (b3, .inl (cI, 5, .inl lo)), (b4, .inl (cI, 5, .inl hi)), (b5, .inl (cI, 5, .inl vl)), (bp, .inl (cI, 5, .inl ps)), (bu, .inl (cI, 5, .inl f1)), (bv, .inl (cI, 5, .inl f2)), (bk, .inl (cJ, 10, .inr (.inl ky))), (bw, .inl (cI, 10, .inl wh))] (fun (u : Int64 × (Nat → Int32) × Int32 × Int32 × Int32) => (u.1 = zFw kd ln vl n gx gy (nI j) v)) (fun (u : Int64 × (Nat → Int32) × Int32 × Int32 × Int32) => some (.long u.1)) (fun (u : Int64 × (Nat → Int32) × Int32 × Int32 × Int32) => [(ob, .inr (6, [.int th, .int (nI n), .ref b1, .ref b2, .ref b3, .ref b4, .ref b5, .int gx, .int gy, .int sl, .ref bp, .int u.2.2.1, .int u.2.2.2.1, .int u.2.2.2.2, .ref bu, .ref bv, .int fd, .ref bk, .ref bw])), (b1, .inl (cI, 5, .inl kd)), (b2, .inl (cI, 5, .inl ln)), (b3, .inl (cI, 5, .inl lo)), (b4, .inl (cI, 5, .inl hi)), (b5, .inl (cI, 5, .inl vl)), (bp, .inl (cI, 5, .inl u.2.1)), (bu, .inl (cI, 5, .inl f1)), (bv, .inl (cI, 5, .inl f2)), (bk, .inl (cJ, 10, .inr (.inl ky))), (bw, .inl (cI, 10, .inl wh))]) := by
  refine zM_l (cc := cX6_farWith) (maxL := 3) (r := fun (u : Int64 × (Nat → Int32) × Int32 × Int32 × Int32) => u.1) (by decide) rfl (Nat.le_of_ble_eq_true rfl) ?_
  intro p e s m args below meth c ls A0 Q C hl hP hS hRet
  obtain ⟨⟨hx, hb, hml, hown, hts⟩, hG, hK, hD, hlocks⟩ := C
  have hin6 : ∀ w ∈ u_ws RX6 TX6 19, w ∈ wsX6_farWith := by decide +kernel
  have hf29 := hts (.fieldLink RX6 29 "ArmRoomModel" "pose" "[I") (by decide +kernel)
  have hl : lv_has ls 3 [(0, .ref ob), (1, .int (nI j)), (2, .int v)] := hl
  have hn := hok.1
  refine lv_aload_n hx hb dX6_farWith_0 rfl (lv_at hl 0 rfl) ?_
  refine z_callV (As := []) (rest := []) ⟨hx, hb, hml, hown, hts⟩ hG hK hP hD hS (c_X6_copiesPose l D cI cJ ob b1 b2 b3 b4 b5 bp bu bv bk bw n th gx gy sl x y h fd kd ln lo hi vl ps f1 f2 ky wh (hok.1)) (cwV 0 hts gX6_farWith_X6_copiesPose rfl rfl rfl (by decide +kernel) ⟨Nat.le_of_ble_eq_true rfl, Nat.le_of_ble_eq_true rfl⟩) [0, 1, 2, 3, 4, 5, 6, 7, 8, 9, 10] (by decide) rfl (fun _ => rfl) 0 rfl rfl rfl rfl hl.1 rfl (Nat.le_of_ble_eq_true rfl) dX6_farWith_1 ⟨Nat.le_of_ble_eq_true rfl, Nat.le_of_ble_eq_true rfl⟩ (fun u_1 H locs hu_2 hP hD hS => ?_)
  obtain ⟨pq, rfl⟩ : ∃ z, z = u_1 := ⟨_, rfl⟩
  have hu_2 : (∀ j, j < n → pq j = vl j) := hu_2
  have hpq := hu_2
  have hP : va_P D vwCl [(ob, .inr (6, [.int th, .int (nI n), .ref b1, .ref b2, .ref b3, .ref b4, .ref b5, .int gx, .int gy, .int sl, .ref bp, .int x, .int y, .int h, .ref bu, .ref bv, .int fd, .ref bk, .ref bw])), (b1, .inl (cI, 5, .inl kd)), (b2, .inl (cI, 5, .inl ln)), (b3, .inl (cI, 5, .inl lo)), (b4, .inl (cI, 5, .inl hi)), (b5, .inl (cI, 5, .inl vl)), (bp, .inl (cI, 5, .inl pq)), (bu, .inl (cI, 5, .inl f1)), (bv, .inl (cI, 5, .inl f2)), (bk, .inl (cJ, 10, .inr (.inl ky))), (bw, .inl (cI, 10, .inl wh))] H := hP
  have hD : va_D A0 [(ob, .inr (6, [.int th, .int (nI n), .ref b1, .ref b2, .ref b3, .ref b4, .ref b5, .int gx, .int gy, .int sl, .ref bp, .int x, .int y, .int h, .ref bu, .ref bv, .int fd, .ref bk, .ref bw])), (b1, .inl (cI, 5, .inl kd)), (b2, .inl (cI, 5, .inl ln)), (b3, .inl (cI, 5, .inl lo)), (b4, .inl (cI, 5, .inl hi)), (b5, .inl (cI, 5, .inl vl)), (bp, .inl (cI, 5, .inl pq)), (bu, .inl (cI, 5, .inl f1)), (bv, .inl (cI, 5, .inl f2)), (bk, .inl (cJ, 10, .inr (.inl ky))), (bw, .inl (cI, 10, .inl wh))] := hD
  refine lv_aload_n hx hb dX6_farWith_4 rfl (lv_at hl 0 rfl) ?_
  refine va_get (D := D) (ci := 6) (v := .ref bp) (C := RX6) (T := TX6) (N := 19) hx hb hts hin6 hown hK hP 0 rfl rfl 10 (by decide) hf29 (fun _ h9 => h9) rfl dX6_farWith_5 ?_
  refine lv_iload_n hx hb dX6_farWith_8 rfl (lv_at hl 1 rfl) ?_
  refine lv_iload_n hx hb dX6_farWith_9 rfl (lv_at hl 2 rfl) ?_
  refine z_iast hx hb hK hP hD hS 6 rfl (j := j) (by omega) (by decide) dX6_farWith_10 (fun H locs hP hD hS => ?_)
  have hP : va_P D vwCl [(ob, .inr (6, [.int th, .int (nI n), .ref b1, .ref b2, .ref b3, .ref b4, .ref b5, .int gx, .int gy, .int sl, .ref bp, .int x, .int y, .int h, .ref bu, .ref bv, .int fd, .ref bk, .ref bw])), (b1, .inl (cI, 5, .inl kd)), (b2, .inl (cI, 5, .inl ln)), (b3, .inl (cI, 5, .inl lo)), (b4, .inl (cI, 5, .inl hi)), (b5, .inl (cI, 5, .inl vl)), (bp, .inl (cI, 5, .inl (upd pq j v))), (bu, .inl (cI, 5, .inl f1)), (bv, .inl (cI, 5, .inl f2)), (bk, .inl (cJ, 10, .inr (.inl ky))), (bw, .inl (cI, 10, .inl wh))] H := hP
  have hD : va_D A0 [(ob, .inr (6, [.int th, .int (nI n), .ref b1, .ref b2, .ref b3, .ref b4, .ref b5, .int gx, .int gy, .int sl, .ref bp, .int x, .int y, .int h, .ref bu, .ref bv, .int fd, .ref bk, .ref bw])), (b1, .inl (cI, 5, .inl kd)), (b2, .inl (cI, 5, .inl ln)), (b3, .inl (cI, 5, .inl lo)), (b4, .inl (cI, 5, .inl hi)), (b5, .inl (cI, 5, .inl vl)), (bp, .inl (cI, 5, .inl (upd pq j v))), (bu, .inl (cI, 5, .inl f1)), (bv, .inl (cI, 5, .inl f2)), (bk, .inl (cJ, 10, .inr (.inl ky))), (bw, .inl (cI, 10, .inl wh))] := hD
  have hpo : ∀ i, i < n → upd pq j v i = zPo vl (nI j) v i := zpo_upd hn hj hpq
  refine lv_aload_n hx hb dX6_farWith_11 rfl (lv_at hl 0 rfl) ?_
  refine z_callV (As := []) (rest := []) ⟨hx, hb, hml, hown, hts⟩ hG hK hP hD hS (c_X6_looks l D cI cJ ob b1 b2 b3 b4 b5 bp bu bv bk bw n th gx gy sl x y h fd kd ln lo hi vl (upd pq j v) f1 f2 ky wh (hok.1) (fun i hi => by rw [hpo i hi]; exact hok.po hv.1 hv.2 i hi)) (cwV 0 hts gX6_farWith_X6_looks rfl rfl rfl (by decide +kernel) ⟨Nat.le_of_ble_eq_true rfl, Nat.le_of_ble_eq_true rfl⟩) [0, 1, 2, 3, 4, 5, 6, 7, 8, 9, 10] (by decide) rfl (fun _ => rfl) 0 rfl rfl rfl rfl hl.1 rfl (Nat.le_of_ble_eq_true rfl) dX6_farWith_12 ⟨Nat.le_of_ble_eq_true rfl, Nat.le_of_ble_eq_true rfl⟩ (fun u_3 H locs hu_4 hP hD hS => ?_)
  obtain ⟨x3_5, y3_6, h3_7⟩ := u_3
  have hu_4 : (x3_5 = zX kd ln (upd pq j v) n) ∧ (y3_6 = zY kd ln (upd pq j v) n) ∧ (h3_7 = zH kd (upd pq j v) n) := hu_4
  obtain ⟨e_8, e_9, e_10⟩ := hu_4
  subst e_8
  subst e_9
  subst e_10
  have hP : va_P D vwCl [(ob, .inr (6, [.int th, .int (nI n), .ref b1, .ref b2, .ref b3, .ref b4, .ref b5, .int gx, .int gy, .int sl, .ref bp, .int (zX kd ln (upd pq j v) n), .int (zY kd ln (upd pq j v) n), .int (zH kd (upd pq j v) n), .ref bu, .ref bv, .int fd, .ref bk, .ref bw])), (b1, .inl (cI, 5, .inl kd)), (b2, .inl (cI, 5, .inl ln)), (b3, .inl (cI, 5, .inl lo)), (b4, .inl (cI, 5, .inl hi)), (b5, .inl (cI, 5, .inl vl)), (bp, .inl (cI, 5, .inl (upd pq j v))), (bu, .inl (cI, 5, .inl f1)), (bv, .inl (cI, 5, .inl f2)), (bk, .inl (cJ, 10, .inr (.inl ky))), (bw, .inl (cI, 10, .inl wh))] H := hP
  have hD : va_D A0 [(ob, .inr (6, [.int th, .int (nI n), .ref b1, .ref b2, .ref b3, .ref b4, .ref b5, .int gx, .int gy, .int sl, .ref bp, .int (zX kd ln (upd pq j v) n), .int (zY kd ln (upd pq j v) n), .int (zH kd (upd pq j v) n), .ref bu, .ref bv, .int fd, .ref bk, .ref bw])), (b1, .inl (cI, 5, .inl kd)), (b2, .inl (cI, 5, .inl ln)), (b3, .inl (cI, 5, .inl lo)), (b4, .inl (cI, 5, .inl hi)), (b5, .inl (cI, 5, .inl vl)), (bp, .inl (cI, 5, .inl (upd pq j v))), (bu, .inl (cI, 5, .inl f1)), (bv, .inl (cI, 5, .inl f2)), (bk, .inl (cJ, 10, .inr (.inl ky))), (bw, .inl (cI, 10, .inl wh))] := hD
  refine lv_aload_n hx hb dX6_farWith_15 rfl (lv_at hl 0 rfl) ?_
  refine z_callV (As := []) (rest := []) ⟨hx, hb, hml, hown, hts⟩ hG hK hP hD hS (c_X6_farness l D cI cJ ob b1 b2 b3 b4 b5 bp bu bv bk bw n th gx gy sl (zX kd ln (upd pq j v) n) (zY kd ln (upd pq j v) n) (zH kd (upd pq j v) n) fd kd ln lo hi vl (upd pq j v) f1 f2 ky wh ) (cwV 0 hts gX6_farWith_X6_farness rfl rfl rfl (by decide +kernel) ⟨Nat.le_of_ble_eq_true rfl, Nat.le_of_ble_eq_true rfl⟩) [0, 1, 2, 3, 4, 5, 6, 7, 8, 9, 10] (by decide) rfl (fun _ => rfl) 0 rfl rfl rfl rfl hl.1 rfl (Nat.le_of_ble_eq_true rfl) dX6_farWith_16 ⟨Nat.le_of_ble_eq_true rfl, Nat.le_of_ble_eq_true rfl⟩ (fun u_11 H locs hu_12 hP hD hS => ?_)
  obtain ⟨r_13, rfl⟩ : ∃ z, z = u_11 := ⟨_, rfl⟩
  have hu_12 : (r_13 = zFarM gx gy (zX kd ln (upd pq j v) n) (zY kd ln (upd pq j v) n)) := hu_12
  have e_14 := hu_12
  subst e_14
  have hP : va_P D vwCl [(ob, .inr (6, [.int th, .int (nI n), .ref b1, .ref b2, .ref b3, .ref b4, .ref b5, .int gx, .int gy, .int sl, .ref bp, .int (zX kd ln (upd pq j v) n), .int (zY kd ln (upd pq j v) n), .int (zH kd (upd pq j v) n), .ref bu, .ref bv, .int fd, .ref bk, .ref bw])), (b1, .inl (cI, 5, .inl kd)), (b2, .inl (cI, 5, .inl ln)), (b3, .inl (cI, 5, .inl lo)), (b4, .inl (cI, 5, .inl hi)), (b5, .inl (cI, 5, .inl vl)), (bp, .inl (cI, 5, .inl (upd pq j v))), (bu, .inl (cI, 5, .inl f1)), (bv, .inl (cI, 5, .inl f2)), (bk, .inl (cJ, 10, .inr (.inl ky))), (bw, .inl (cI, 10, .inl wh))] H := hP
  have hD : va_D A0 [(ob, .inr (6, [.int th, .int (nI n), .ref b1, .ref b2, .ref b3, .ref b4, .ref b5, .int gx, .int gy, .int sl, .ref bp, .int (zX kd ln (upd pq j v) n), .int (zY kd ln (upd pq j v) n), .int (zH kd (upd pq j v) n), .ref bu, .ref bv, .int fd, .ref bk, .ref bw])), (b1, .inl (cI, 5, .inl kd)), (b2, .inl (cI, 5, .inl ln)), (b3, .inl (cI, 5, .inl lo)), (b4, .inl (cI, 5, .inl hi)), (b5, .inl (cI, 5, .inl vl)), (bp, .inl (cI, 5, .inl (upd pq j v))), (bu, .inl (cI, 5, .inl f1)), (bv, .inl (cI, 5, .inl f2)), (bk, .inl (cJ, 10, .inr (.inl ky))), (bw, .inl (cI, 10, .inl wh))] := hD
  exact hRet _ (zFarM gx gy (zX kd ln (upd pq j v) n) (zY kd ln (upd pq j v) n), upd pq j v, zX kd ln (upd pq j v) n, zY kd ln (upd pq j v) n, zH kd (upd pq j v) n) _ _ _ (by rw [zX_congr hpo, zY_congr hpo]; exact zFar_eq (zXb hok.1 hok.l (hok.po hv.1 hv.2)) (zYb hok.1 hok.l (hok.po hv.1 hv.2)) hgx hgy) hP hS dX6_farWith_19

set_option maxHeartbeats 4000000 in
set_option maxRecDepth 100000 in
theorem c_X6_most (l : Launch) (D : va_G) (cI cJ : ClassId) (k : Int32)  : zM l yX6_most wsX6_most 0 D cI cJ [.int k] [] (fun (u : Int32) => (u = if k = 0 then 32 else 100)) (fun (u : Int32) => some (.int u)) (fun (u : Int32) => []) := by
  refine zM_i (cc := cX6_most) (maxL := 1) (r := fun (u : Int32) => u) (by decide) rfl (Nat.le_of_ble_eq_true rfl) ?_
  intro p e s m args below meth c ls A0 Q C hl hP hS hRet
  obtain ⟨⟨hx, hb, hml, hown, hts⟩, hG, hK, hD, hlocks⟩ := C
  have hl : lv_has ls 1 [(0, .int k)] := hl
  refine lv_iload_n hx hb dX6_most_0 rfl (lv_at hl 0 rfl) ?_
  refine lv_if_ne (tgt := 9) hx hb dX6_most_1 (by decide) (fun c_1 => ?_) (fun c_1 => ?_)
  · refine lv_bipush (v := 100) hx hb dX6_most_9 (by decide) ?_
    exact hRet _ (100) _ _ _ (by first | (exact (if_pos c_1).symm) | (exact (if_neg c_1).symm)) hP hS dX6_most_11
  · refine lv_bipush (v := 32) hx hb dX6_most_4 (by decide) ?_
    refine lv_goto (tgt := 11) hx hb dX6_most_6 (by decide) ?_
    exact hRet _ (32) _ _ _ (by first | (exact (if_pos c_1).symm) | (exact (if_neg c_1).symm)) hP hS dX6_most_11

set_option maxHeartbeats 4000000 in
set_option maxRecDepth 100000 in
theorem c_X6_held (l : Launch) (D : va_G) (cI cJ : ClassId) (v : Int32) (u1 : Int32) (u2 : Int32)  : zM l yX6_held wsX6_held 0 D cI cJ [.int v, .int u1, .int u2] [] (fun (u : Int32) => (u = zHeldR u1 u2 v)) (fun (u : Int32) => some (.int u)) (fun (u : Int32) => []) := by
  refine zM_i (cc := cX6_held) (maxL := 3) (r := fun (u : Int32) => u) (by decide) rfl (Nat.le_of_ble_eq_true rfl) ?_
  intro p e s m args below meth c ls A0 Q C hl hP hS hRet
  obtain ⟨⟨hx, hb, hml, hown, hts⟩, hG, hK, hD, hlocks⟩ := C
  have hl : lv_has ls 3 [(0, .int v), (1, .int u1), (2, .int u2)] := hl
  refine lv_iload_n hx hb dX6_held_0 rfl (lv_at hl 0 rfl) ?_
  refine lv_iload_n hx hb dX6_held_1 rfl (lv_at hl 1 rfl) ?_
  refine lv_icmp_ge (tgt := 9) hx hb dX6_held_2 (by decide) (fun c_2 => ?_) (fun c_2 => ?_)
  · refine lv_iload_n hx hb dX6_held_9 rfl (lv_at hl 0 rfl) ?_
    refine lv_iload_n hx hb dX6_held_10 rfl (lv_at hl 2 rfl) ?_
    refine lv_icmp_le (tgt := 18) hx hb dX6_held_11 (by decide) (fun c_11 => ?_) (fun c_11 => ?_)
    · refine lv_iload_n hx hb dX6_held_18 rfl (lv_at hl 0 rfl) ?_
      exact hRet _ (v) _ _ _ (by unfold zHeldR; first | (rw [if_pos (Int32.not_le.mp c_2)]) | (rw [if_neg (Int32.not_lt.mpr c_2), if_pos (Int32.not_le.mp c_11)]) | (rw [if_neg (Int32.not_lt.mpr c_2), if_neg (Int32.not_lt.mpr c_11)])) hP hS dX6_held_19
    · refine lv_iload_n hx hb dX6_held_14 rfl (lv_at hl 2 rfl) ?_
      refine lv_goto (tgt := 19) hx hb dX6_held_15 (by decide) ?_
      exact hRet _ (u2) _ _ _ (by unfold zHeldR; first | (rw [if_pos (Int32.not_le.mp c_2)]) | (rw [if_neg (Int32.not_lt.mpr c_2), if_pos (Int32.not_le.mp c_11)]) | (rw [if_neg (Int32.not_lt.mpr c_2), if_neg (Int32.not_lt.mpr c_11)])) hP hS dX6_held_19
  · refine lv_iload_n hx hb dX6_held_5 rfl (lv_at hl 1 rfl) ?_
    refine lv_goto (tgt := 19) hx hb dX6_held_6 (by decide) ?_
    exact hRet _ (u1) _ _ _ (by unfold zHeldR; first | (rw [if_pos (Int32.not_le.mp c_2)]) | (rw [if_neg (Int32.not_lt.mpr c_2), if_pos (Int32.not_le.mp c_11)]) | (rw [if_neg (Int32.not_lt.mpr c_2), if_neg (Int32.not_lt.mpr c_11)])) hP hS dX6_held_19
