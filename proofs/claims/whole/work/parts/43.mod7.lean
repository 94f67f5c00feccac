set_option maxHeartbeats 4000000 in
set_option maxRecDepth 100000 in
theorem c_X6_findsBranch (l : Launch) (D : va_G) (cI cJ : ClassId) (ob : Nat) (b1 : Nat) (b2 : Nat) (b3 : Nat) (b4 : Nat) (b5 : Nat) (bp : Nat) (bu : Nat) (bv : Nat) (bk : Nat) (bw : Nat) (n : Nat) (th : Int32) (gx : Int32) (gy : Int32) (sl : Int32) (x : Int32) (y : Int32) (h : Int32) (fd : Int32) (kd : Nat → Int32) (ln : Nat → Int32) (lo : Nat → Int32) (hi : Nat → Int32) (vl : Nat → Int32) (ps : Nat → Int32) (f1 : Nat → Int32) (f2 : Nat → Int32) (ky : Nat → Int64) (wh : Nat → Int32) (p0 : Int32) (p1 : Int32) (u9 : Int32) (hok : zOk n kd ln lo hi vl) (hgx : zB 1000000 gx) (hgy : zB 1000000 gy) (hu9 : u9 = 0 ∨ u9 = 1) : zM l yX6_findsBranch wsX6_findsBranch 5 D cI cJ [.ref ob, .int p0, .int p1, .int u9] [(ob, .inr (6, [.int th, .int (nI n), .ref b1, .ref b2, .ref b3, .ref b4, .ref b5, .int gx, .int gy, .int sl, .ref bp, .int x, .int y, .int h, .ref bu, .ref bv, .int fd, .ref bk, .ref bw])), (b1, .inl (cI, 5, .inl kd)), (b2, .inl (cI, 5, .inl ln)), (b3, .inl (cI, 5, .inl lo)), (b4, .inl (cI, 5, .inl hi)), (b5, .inl (cI, 5, .inl vl)), (bp, .inl (cI, 5, .inl ps)), (bu, .inl (cI, 5, .inl f1)), (bv, .inl (cI, 5, .inl f2)), (bk, .inl (cJ, 10, .inr (.inl ky))), (bw, .inl (cI, 10, .inl wh))] (fun (u : Int32 × Int32 × Int32 × (Nat → Int64) × (Nat → Int32) × (Nat → Int32) × Int32 × Int32 × Int32) => ((¬ (u9 = 1 ∧ 0 ≤ p0 ∧ p0 < 10) ∨ (zPw lo hi n ≤ 40000 ∧ ¬ p0 < nI (zAll kd ln lo hi vl n gx gy sl p1).1)) → u.2.1 = 1 ∧ u.1 = 0) ∧ ((u9 = 1 ∧ 0 ≤ p0 ∧ p0 < 10) → (zPw lo hi n ≤ 40000 → p0 < nI (zAll kd ln lo hi vl n gx gy sl p1).1) → ¬ (0 ≤ p1 ∧ p1 ≤ 2) → u.2.1 = 2 ∧ u.1 = 0) ∧ ((u9 = 1 ∧ 0 ≤ p0 ∧ p0 < 10) → (0 ≤ p1 ∧ p1 ≤ 2) → ¬ zPw lo hi n ≤ 40000 → u.2.1 = 3 ∧ u.1 = 0) ∧ ((u9 = 1 ∧ 0 ≤ p0 ∧ p0 < 10) → (0 ≤ p1 ∧ p1 ≤ 2) → zPw lo hi n ≤ 40000 → p0 < nI (zAll kd ln lo hi vl n gx gy sl p1).1 → u.2.1 = 0 ∧ u.1 = 1 ∧ ∀ j, j < n → u.2.2.2.2.2.1 j = zPk lo hi n ((zAll kd ln lo hi vl n gx gy sl p1).2.2 p0.toNatClampNeg) j) ∧ (u.1 = 0 ∨ u.1 = 1)) (fun (u : Int32 × Int32 × Int32 × (Nat → Int64) × (Nat → Int32) × (Nat → Int32) × Int32 × Int32 × Int32) => some (.int u.1)) (fun (u : Int32 × Int32 × Int32 × (Nat → Int64) × (Nat → Int32) × (Nat → Int32) × Int32 × Int32 × Int32) => [(ob, .inr (6, [.int u.2.1, .int (nI n), .ref b1, .ref b2, .ref b3, .ref b4, .ref b5, .int gx, .int gy, .int sl, .ref bp, .int u.2.2.2.2.2.2.1, .int u.2.2.2.2.2.2.2.1, .int u.2.2.2.2.2.2.2.2, .ref bu, .ref bv, .int u.2.2.1, .ref bk, .ref bw])), (b1, .inl (cI, 5, .inl kd)), (b2, .inl (cI, 5, .inl ln)), (b3, .inl (cI, 5, .inl lo)), (b4, .inl (cI, 5, .inl hi)), (b5, .inl (cI, 5, .inl vl)), (bp, .inl (cI, 5, .inl u.2.2.2.2.2.1)), (bu, .inl (cI, 5, .inl f1)), (bv, .inl (cI, 5, .inl f2)), (bk, .inl (cJ, 10, .inr (.inl u.2.2.2.1))), (bw, .inl (cI, 10, .inl u.2.2.2.2.1))]) := by
  refine zM_z (cc := cX6_findsBranch) (maxL := 6) (r := fun (u : Int32 × Int32 × Int32 × (Nat → Int64) × (Nat → Int32) × (Nat → Int32) × Int32 × Int32 × Int32) => u.1) (fun u h => h.2.2.2.2) (by decide) rfl (Nat.le_of_ble_eq_true rfl) ?_
  intro p e s m args below meth c ls A0 Q C hl hP hS hRet
  obtain ⟨⟨hx, hb, hml, hown, hts⟩, hG, hK, hD, hlocks⟩ := C
  have hin6 : ∀ w ∈ u_ws RX6 TX6 19, w ∈ wsX6_findsBranch := by decide +kernel
  have hf45 := hts (.fieldLink RX6 45 "ArmRoomModel" "thrown" "I") (by decide +kernel)
  have hf127 := hts (.fieldLink RX6 127 "ArmRoomModel" "found" "I") (by decide +kernel)
  have hf42 := hts (.fieldLink RX6 42 "ArmRoomModel" "which" "[I") (by decide +kernel)
  have hl : lv_has ls 6 [(0, .ref ob), (1, .int p0), (2, .int p1), (3, .int u9)] := hl
  have hn := hok.1
  refine lv_iload_n hx hb dX6_findsBranch_0 rfl (lv_at hl 3 rfl) ?_
  refine lv_if_eq (tgt := 18) hx hb dX6_findsBranch_1 (by decide) (fun c_1 => ?_) (fun c_1 => ?_)
  · have his : ¬ (u9 = 1 ∧ 0 ≤ p0 ∧ p0 < 10) := fun h9 => absurd (h9.1.symm.trans c_1) (by decide)
    refine lv_iconst (v := 0) hx hb dX6_findsBranch_18 (by decide) ?_
    refine lv_istore (lv' := [(4, .int 0), (0, .ref ob), (1, .int p0), (2, .int p1), (3, .int u9)]) hx hb dX6_findsBranch_19 hl (by decide) rfl (fun ls hl => ?_)
    refine lv_aload_n hx hb dX6_findsBranch_21 rfl (lv_at hl 1 rfl) ?_
    refine z_callV (As := []) (rest := []) ⟨hx, hb, hml, hown, hts⟩ hG hK hP hD hS (c_X6_poses l D cI cJ ob b1 b2 b3 b4 b5 bp bu bv bk bw n th gx gy sl x y h fd kd ln lo hi vl ps f1 f2 ky wh (hok)) (cwV 0 hts gX6_findsBranch_X6_poses rfl rfl rfl (by decide +kernel) ⟨Nat.le_of_ble_eq_true rfl, Nat.le_of_ble_eq_true rfl⟩) [0, 1, 2, 3, 4, 5, 6, 7, 8, 9, 10] (by decide) rfl (fun _ => rfl) 0 rfl rfl rfl rfl hl.1 rfl (Nat.le_of_ble_eq_true rfl) dX6_findsBranch_22 ⟨Nat.le_of_ble_eq_true rfl, Nat.le_of_ble_eq_true rfl⟩ (fun u_1 H locs hu_2 hP hD hS => ?_)
    obtain ⟨rp, rfl⟩ : ∃ z, z = u_1 := ⟨_, rfl⟩
    have hu_2 : (∃ t : Nat, t < 10000000 ∧ rp = nI t ∧ (t ≤ 40000 ↔ zPw lo hi n ≤ 40000) ∧ (t ≤ 40000 → t = zPw lo hi n)) := hu_2
    have hpo := hu_2
    have hP : va_P D vwCl [(ob, .inr (6, [.int th, .int (nI n), .ref b1, .ref b2, .ref b3, .ref b4, .ref b5, .int gx, .int gy, .int sl, .ref bp, .int x, .int y, .int h, .ref bu, .ref bv, .int fd, .ref bk, .ref bw])), (b1, .inl (cI, 5, .inl kd)), (b2, .inl (cI, 5, .inl ln)), (b3, .inl (cI, 5, .inl lo)), (b4, .inl (cI, 5, .inl hi)), (b5, .inl (cI, 5, .inl vl)), (bp, .inl (cI, 5, .inl ps)), (bu, .inl (cI, 5, .inl f1)), (bv, .inl (cI, 5, .inl f2)), (bk, .inl (cJ, 10, .inr (.inl ky))), (bw, .inl (cI, 10, .inl wh))] H := hP
    have hD : va_D A0 [(ob, .inr (6, [.int th, .int (nI n), .ref b1, .ref b2, .ref b3, .ref b4, .ref b5, .int gx, .int gy, .int sl, .ref bp, .int x, .int y, .int h, .ref bu, .ref bv, .int fd, .ref bk, .ref bw])), (b1, .inl (cI, 5, .inl kd)), (b2, .inl (cI, 5, .inl ln)), (b3, .inl (cI, 5, .inl lo)), (b4, .inl (cI, 5, .inl hi)), (b5, .inl (cI, 5, .inl vl)), (bp, .inl (cI, 5, .inl ps)), (bu, .inl (cI, 5, .inl f1)), (bv, .inl (cI, 5, .inl f2)), (bk, .inl (cJ, 10, .inr (.inl ky))), (bw, .inl (cI, 10, .inl wh))] := hD
    obtain ⟨tt, htt, hre, hti, hte⟩ := hpo
    subst hre
    refine lv_ldc (own := RX6) (v := 40000) hx hb hown (hts (.constant RX6 123 (40000)) (by decide +kernel)) dX6_findsBranch_25 ?_
    refine z_topi (y := nI 40000) (rfl) ?_
    refine lv_icmp_gt (tgt := 34) hx hb dX6_findsBranch_27 (by decide) (fun c_27 => ?_) (fun c_27 => ?_)
    · rw [nI_ltI (by omega) (by omega)] at c_27
      have hfew : ¬ zPw lo hi n ≤ 40000 := fun h9 => absurd (hti.mpr h9) (Nat.not_le.mpr c_27)
      refine lv_iconst (v := 0) hx hb dX6_findsBranch_34 (by decide) ?_
      refine lv_istore (lv' := [(5, .int 0), (4, .int 0), (0, .ref ob), (1, .int p0), (2, .int p1), (3, .int u9)]) hx hb dX6_findsBranch_35 hl (by decide) rfl (fun ls hl => ?_)
      refine lv_iload hx hb dX6_findsBranch_37 (lv_at hl 1 rfl) ?_
      refine lv_if_eq (tgt := 80) hx hb dX6_findsBranch_39 (by decide) (fun c_39 => ?_) (fun c_39 => ?_)
      · refine lv_aload_n hx hb dX6_findsBranch_80 rfl (lv_at hl 2 rfl) ?_
        refine lv_iload hx hb dX6_findsBranch_81 (lv_at hl 1 rfl) ?_
        refine lv_if_ne (tgt := 90) hx hb dX6_findsBranch_83 (by decide) (fun c_83 => ?_) (fun c_83 => ?_)
        · exact absurd (by decide) c_83
        · refine lv_iconst (v := 1) hx hb dX6_findsBranch_86 (by decide) ?_
          refine lv_goto (tgt := 113) hx hb dX6_findsBranch_87 (by decide) ?_
          refine va_put (D := D) (ci := 6) (v := .int 1) (ty := .int) (C := RX6) (T := TX6) (N := 19) hx hb hts hin6 tyX6 tyX6_ok nmX6 hown hK hP hD hS 0 rfl rfl 0 (by decide) hf45 (fun _ h9 => h9) rfl (by decide +kernel) rfl rfl (Nat.le_of_ble_eq_true rfl) dX6_findsBranch_113 (fun H locs hP hD hS => ?_)
          have hP : va_P D vwCl [(ob, .inr (6, [.int 1, .int (nI n), .ref b1, .ref b2, .ref b3, .ref b4, .ref b5, .int gx, .int gy, .int sl, .ref bp, .int x, .int y, .int h, .ref bu, .ref bv, .int fd, .ref bk, .ref bw])), (b1, .inl (cI, 5, .inl kd)), (b2, .inl (cI, 5, .inl ln)), (b3, .inl (cI, 5, .inl lo)), (b4, .inl (cI, 5, .inl hi)), (b5, .inl (cI, 5, .inl vl)), (bp, .inl (cI, 5, .inl ps)), (bu, .inl (cI, 5, .inl f1)), (bv, .inl (cI, 5, .inl f2)), (bk, .inl (cJ, 10, .inr (.inl ky))), (bw, .inl (cI, 10, .inl wh))] H := hP
          have hD : va_D A0 [(ob, .inr (6, [.int 1, .int (nI n), .ref b1, .ref b2, .ref b3, .ref b4, .ref b5, .int gx, .int gy, .int sl, .ref bp, .int x, .int y, .int h, .ref bu, .ref bv, .int fd, .ref bk, .ref bw])), (b1, .inl (cI, 5, .inl kd)), (b2, .inl (cI, 5, .inl ln)), (b3, .inl (cI, 5, .inl lo)), (b4, .inl (cI, 5, .inl hi)), (b5, .inl (cI, 5, .inl vl)), (bp, .inl (cI, 5, .inl ps)), (bu, .inl (cI, 5, .inl f1)), (bv, .inl (cI, 5, .inl f2)), (bk, .inl (cJ, 10, .inr (.inl ky))), (bw, .inl (cI, 10, .inl wh))] := hD
          refine lv_aload_n hx hb dX6_findsBranch_116 rfl (lv_at hl 2 rfl) ?_
          refine va_get (D := D) (ci := 6) (v := .int 1) (C := RX6) (T := TX6) (N := 19) hx hb hts hin6 hown hK hP 0 rfl rfl 0 (by decide) hf45 (fun _ h9 => h9) rfl dX6_findsBranch_117 ?_
          refine lv_if_ne (tgt := 133) hx hb dX6_findsBranch_120 (by decide) (fun c_120 => ?_) (fun c_120 => ?_)
          · refine lv_aload_n hx hb dX6_findsBranch_133 rfl (lv_at hl 2 rfl) ?_
            refine va_get (D := D) (ci := 6) (v := .int 1) (C := RX6) (T := TX6) (N := 19) hx hb hts hin6 hown hK hP 0 rfl rfl 0 (by decide) hf45 (fun _ h9 => h9) rfl dX6_findsBranch_134 ?_
            refine lv_if_ne (tgt := 144) hx hb dX6_findsBranch_137 (by decide) (fun c_137 => ?_) (fun c_137 => ?_)
            · refine lv_iconst (v := 0) hx hb dX6_findsBranch_144 (by decide) ?_
              exact hRet _ (0, 1, fd, ky, wh, ps, x, y, h) _ _ _ ⟨fun _ => ⟨rfl, rfl⟩, fun h9 => absurd h9 his, fun h9 => absurd h9 his, fun h9 => absurd h9 his, Or.inl rfl⟩ hP hS dX6_findsBranch_145
            · exact absurd c_137 (by decide)
          · exact absurd c_120 (by decide)
      · exact absurd (by decide) c_39
    · rw [nI_ltI (by omega) (by omega)] at c_27
      have hfew := hti.mp (Nat.not_lt.mp c_27)
      refine lv_iconst (v := 1) hx hb dX6_findsBranch_30 (by decide) ?_
      refine lv_goto (tgt := 35) hx hb dX6_findsBranch_31 (by decide) ?_
      refine lv_istore (lv' := [(5, .int 1), (4, .int 0), (0, .ref ob), (1, .int p0), (2, .int p1), (3, .int u9)]) hx hb dX6_findsBranch_35 hl (by decide) rfl (fun ls hl => ?_)
      refine lv_iload hx hb dX6_findsBranch_37 (lv_at hl 1 rfl) ?_
      refine lv_if_eq (tgt := 80) hx hb dX6_findsBranch_39 (by decide) (fun c_39 => ?_) (fun c_39 => ?_)
      · refine lv_aload_n hx hb dX6_findsBranch_80 rfl (lv_at hl 2 rfl) ?_
        refine lv_iload hx hb dX6_findsBranch_81 (lv_at hl 1 rfl) ?_
        refine lv_if_ne (tgt := 90) hx hb dX6_findsBranch_83 (by decide) (fun c_83 => ?_) (fun c_83 => ?_)
        · exact absurd (by decide) c_83
        · refine lv_iconst (v := 1) hx hb dX6_findsBranch_86 (by decide) ?_
          refine lv_goto (tgt := 113) hx hb dX6_findsBranch_87 (by decide) ?_
          refine va_put (D := D) (ci := 6) (v := .int 1) (ty := .int) (C := RX6) (T := TX6) (N := 19) hx hb hts hin6 tyX6 tyX6_ok nmX6 hown hK hP hD hS 0 rfl rfl 0 (by decide) hf45 (fun _ h9 => h9) rfl (by decide +kernel) rfl rfl (Nat.le_of_ble_eq_true rfl) dX6_findsBranch_113 (fun H locs hP hD hS => ?_)
          have hP : va_P D vwCl [(ob, .inr (6, [.int 1, .int (nI n), .ref b1, .ref b2, .ref b3, .ref b4, .ref b5, .int gx, .int gy, .int sl, .ref bp, .int x, .int y, .int h, .ref bu, .ref bv, .int fd, .ref bk, .ref bw])), (b1, .inl (cI, 5, .inl kd)), (b2, .inl (cI, 5, .inl ln)), (b3, .inl (cI, 5, .inl lo)), (b4, .inl (cI, 5, .inl hi)), (b5, .inl (cI, 5, .inl vl)), (bp, .inl (cI, 5, .inl ps)), (bu, .inl (cI, 5, .inl f1)), (bv, .inl (cI, 5, .inl f2)), (bk, .inl (cJ, 10, .inr (.inl ky))), (bw, .inl (cI, 10, .inl wh))] H := hP
          have hD : va_D A0 [(ob, .inr (6, [.int 1, .int (nI n), .ref b1, .ref b2, .ref b3, .ref b4, .ref b5, .int gx, .int gy, .int sl, .ref bp, .int x, .int y, .int h, .ref bu, .ref bv, .int fd, .ref bk, .ref bw])), (b1, .inl (cI, 5, .inl kd)), (b2, .inl (cI, 5, .inl ln)), (b3, .inl (cI, 5, .inl lo)), (b4, .inl (cI, 5, .inl hi)), (b5, .inl (cI, 5, .inl vl)), (bp, .inl (cI, 5, .inl ps)), (bu, .inl (cI, 5, .inl f1)), (bv, .inl (cI, 5, .inl f2)), (bk, .inl (cJ, 10, .inr (.inl ky))), (bw, .inl (cI, 10, .inl wh))] := hD
          refine lv_aload_n hx hb dX6_findsBranch_116 rfl (lv_at hl 2 rfl) ?_
          refine va_get (D := D) (ci := 6) (v := .int 1) (C := RX6) (T := TX6) (N := 19) hx hb hts hin6 hown hK hP 0 rfl rfl 0 (by decide) hf45 (fun _ h9 => h9) rfl dX6_findsBranch_117 ?_
          refine lv_if_ne (tgt := 133) hx hb dX6_findsBranch_120 (by decide) (fun c_120 => ?_) (fun c_120 => ?_)
          · refine lv_aload_n hx hb dX6_findsBranch_133 rfl (lv_at hl 2 rfl) ?_
            refine va_get (D := D) (ci := 6) (v := .int 1) (C := RX6) (T := TX6) (N := 19) hx hb hts hin6 hown hK hP 0 rfl rfl 0 (by decide) hf45 (fun _ h9 => h9) rfl dX6_findsBranch_134 ?_
            refine lv_if_ne (tgt := 144) hx hb dX6_findsBranch_137 (by decide) (fun c_137 => ?_) (fun c_137 => ?_)
            · refine lv_iconst (v := 0) hx hb dX6_findsBranch_144 (by decide) ?_
              exact hRet _ (0, 1, fd, ky, wh, ps, x, y, h) _ _ _ ⟨fun _ => ⟨rfl, rfl⟩, fun h9 => absurd h9 his, fun h9 => absurd h9 his, fun h9 => absurd h9 his, Or.inl rfl⟩ hP hS dX6_findsBranch_145
            · exact absurd c_137 (by decide)
          · exact absurd c_120 (by decide)
      · exact absurd (by decide) c_39
  · have hu1 := hu9.resolve_left c_1
    refine lv_iload_n hx hb dX6_findsBranch_4 rfl (lv_at hl 1 rfl) ?_
    refine lv_iconst (v := 0) hx hb dX6_findsBranch_5 (by decide) ?_
    refine lv_bipush (v := 9) hx hb dX6_findsBranch_6 (by decide) ?_
    refine z_callS (As := [.int p0, .int 0, .int 9]) (rest := []) ⟨hx, hb, hml, hown, hts⟩ hG hK hP hD hS (c_X6_in l D cI cJ p0 0 9 ) (va_cwS 3 hts gX6_findsBranch_X6_in rfl rfl rfl (by decide +kernel) ⟨Nat.le_of_ble_eq_true rfl, Nat.le_of_ble_eq_true rfl⟩) [] (by decide) rfl (fun _ => rfl) rfl hl.1 rfl (Nat.le_of_ble_eq_true rfl) dX6_findsBranch_8 ⟨Nat.le_of_ble_eq_true rfl, Nat.le_of_ble_eq_true rfl⟩ (fun u_3 H locs hu_4 hP hD hS => ?_)
    obtain ⟨r_5, rfl⟩ : ∃ z, z = u_3 := ⟨_, rfl⟩
    have hu_4 : (r_5 = if 0 ≤ p0 ∧ p0 ≤ 9 then 1 else 0) := hu_4
    have e_6 := hu_4
    subst e_6
    have hP : va_P D vwCl [(ob, .inr (6, [.int th, .int (nI n), .ref b1, .ref b2, .ref b3, .ref b4, .ref b5, .int gx, .int gy, .int sl, .ref bp, .int x, .int y, .int h, .ref bu, .ref bv, .int fd, .ref bk, .ref bw])), (b1, .inl (cI, 5, .inl kd)), (b2, .inl (cI, 5, .inl ln)), (b3, .inl (cI, 5, .inl lo)), (b4, .inl (cI, 5, .inl hi)), (b5, .inl (cI, 5, .inl vl)), (bp, .inl (cI, 5, .inl ps)), (bu, .inl (cI, 5, .inl f1)), (bv, .inl (cI, 5, .inl f2)), (bk, .inl (cJ, 10, .inr (.inl ky))), (bw, .inl (cI, 10, .inl wh))] H := hP
    have hD : va_D A0 [(ob, .inr (6, [.int th, .int (nI n), .ref b1, .ref b2, .ref b3, .ref b4, .ref b5, .int gx, .int gy, .int sl, .ref bp, .int x, .int y, .int h, .ref bu, .ref bv, .int fd, .ref bk, .ref bw])), (b1, .inl (cI, 5, .inl kd)), (b2, .inl (cI, 5, .inl ln)), (b3, .inl (cI, 5, .inl lo)), (b4, .inl (cI, 5, .inl hi)), (b5, .inl (cI, 5, .inl vl)), (bp, .inl (cI, 5, .inl ps)), (bu, .inl (cI, 5, .inl f1)), (bv, .inl (cI, 5, .inl f2)), (bk, .inl (cJ, 10, .inr (.inl ky))), (bw, .inl (cI, 10, .inl wh))] := hD
    refine lv_if_eq (tgt := 18) hx hb dX6_findsBranch_11 (by decide) (fun c_11 => ?_) (fun c_11 => ?_)
    · have his : ¬ (u9 = 1 ∧ 0 ≤ p0 ∧ p0 < 10) := fun h9 => zif_0 c_11 ((z09 p0).mpr h9.2)
      refine lv_iconst (v := 0) hx hb dX6_findsBranch_18 (by decide) ?_
      refine lv_istore (lv' := [(4, .int 0), (0, .ref ob), (1, .int p0), (2, .int p1), (3, .int u9)]) hx hb dX6_findsBranch_19 hl (by decide) rfl (fun ls hl => ?_)
      refine lv_aload_n hx hb dX6_findsBranch_21 rfl (lv_at hl 1 rfl) ?_
      refine z_callV (As := []) (rest := []) ⟨hx, hb, hml, hown, hts⟩ hG hK hP hD hS (c_X6_poses l D cI cJ ob b1 b2 b3 b4 b5 bp bu bv bk bw n th gx gy sl x y h fd kd ln lo hi vl ps f1 f2 ky wh (hok)) (cwV 0 hts gX6_findsBranch_X6_poses rfl rfl rfl (by decide +kernel) ⟨Nat.le_of_ble_eq_true rfl, Nat.le_of_ble_eq_true rfl⟩) [0, 1, 2, 3, 4, 5, 6, 7, 8, 9, 10] (by decide) rfl (fun _ => rfl) 0 rfl rfl rfl rfl hl.1 rfl (Nat.le_of_ble_eq_true rfl) dX6_findsBranch_22 ⟨Nat.le_of_ble_eq_true rfl, Nat.le_of_ble_eq_true rfl⟩ (fun u_7 H locs hu_8 hP hD hS => ?_)
      obtain ⟨rp, rfl⟩ : ∃ z, z = u_7 := ⟨_, rfl⟩
      have hu_8 : (∃ t : Nat, t < 10000000 ∧ rp = nI t ∧ (t ≤ 40000 ↔ zPw lo hi n ≤ 40000) ∧ (t ≤ 40000 → t = zPw lo hi n)) := hu_8
      have hpo := hu_8
      have hP : va_P D vwCl [(ob, .inr (6, [.int th, .int (nI n), .ref b1, .ref b2, .ref b3, .ref b4, .ref b5, .int gx, .int gy, .int sl, .ref bp, .int x, .int y, .int h, .ref bu, .ref bv, .int fd, .ref bk, .ref bw])), (b1, .inl (cI, 5, .inl kd)), (b2, .inl (cI, 5, .inl ln)), (b3, .inl (cI, 5, .inl lo)), (b4, .inl (cI, 5, .inl hi)), (b5, .inl (cI, 5, .inl vl)), (bp, .inl (cI, 5, .inl ps)), (bu, .inl (cI, 5, .inl f1)), (bv, .inl (cI, 5, .inl f2)), (bk, .inl (cJ, 10, .inr (.inl ky))), (bw, .inl (cI, 10, .inl wh))] H := hP
      have hD : va_D A0 [(ob, .inr (6, [.int th, .int (nI n), .ref b1, .ref b2, .ref b3, .ref b4, .ref b5, .int gx, .int gy, .int sl, .ref bp, .int x, .int y, .int h, .ref bu, .ref bv, .int fd, .ref bk, .ref bw])), (b1, .inl (cI, 5, .inl kd)), (b2, .inl (cI, 5, .inl ln)), (b3, .inl (cI, 5, .inl lo)), (b4, .inl (cI, 5, .inl hi)), (b5, .inl (cI, 5, .inl vl)), (bp, .inl (cI, 5, .inl ps)), (bu, .inl (cI, 5, .inl f1)), (bv, .inl (cI, 5, .inl f2)), (bk, .inl (cJ, 10, .inr (.inl ky))), (bw, .inl (cI, 10, .inl wh))] := hD
      obtain ⟨tt, htt, hre, hti, hte⟩ := hpo
      subst hre
      refine lv_ldc (own := RX6) (v := 40000) hx hb hown (hts (.constant RX6 123 (40000)) (by decide +kernel)) dX6_findsBranch_25 ?_
      refine z_topi (y := nI 40000) (rfl) ?_
      refine lv_icmp_gt (tgt := 34) hx hb dX6_findsBranch_27 (by decide) (fun c_27 => ?_) (fun c_27 => ?_)
      · rw [nI_ltI (by omega) (by omega)] at c_27
        have hfew : ¬ zPw lo hi n ≤ 40000 := fun h9 => absurd (hti.mpr h9) (Nat.not_le.mpr c_27)
        refine lv_iconst (v := 0) hx hb dX6_findsBranch_34 (by decide) ?_
        refine lv_istore (lv' := [(5, .int 0), (4, .int 0), (0, .ref ob), (1, .int p0), (2, .int p1), (3, .int u9)]) hx hb dX6_findsBranch_35 hl (by decide) rfl (fun ls hl => ?_)
        refine lv_iload hx hb dX6_findsBranch_37 (lv_at hl 1 rfl) ?_
        refine lv_if_eq (tgt := 80) hx hb dX6_findsBranch_39 (by decide) (fun c_39 => ?_) (fun c_39 => ?_)
        · refine lv_aload_n hx hb dX6_findsBranch_80 rfl (lv_at hl 2 rfl) ?_
          refine lv_iload hx hb dX6_findsBranch_81 (lv_at hl 1 rfl) ?_
          refine lv_if_ne (tgt := 90) hx hb dX6_findsBranch_83 (by decide) (fun c_83 => ?_) (fun c_83 => ?_)
          · exact absurd (by decide) c_83
          · refine lv_iconst (v := 1) hx hb dX6_findsBranch_86 (by decide) ?_
            refine lv_goto (tgt := 113) hx hb dX6_findsBranch_87 (by decide) ?_
            refine va_put (D := D) (ci := 6) (v := .int 1) (ty := .int) (C := RX6) (T := TX6) (N := 19) hx hb hts hin6 tyX6 tyX6_ok nmX6 hown hK hP hD hS 0 rfl rfl 0 (by decide) hf45 (fun _ h9 => h9) rfl (by decide +kernel) rfl rfl (Nat.le_of_ble_eq_true rfl) dX6_findsBranch_113 (fun H locs hP hD hS => ?_)
            have hP : va_P D vwCl [(ob, .inr (6, [.int 1, .int (nI n), .ref b1, .ref b2, .ref b3, .ref b4, .ref b5, .int gx, .int gy, .int sl, .ref bp, .int x, .int y, .int h, .ref bu, .ref bv, .int fd, .ref bk, .ref bw])), (b1, .inl (cI, 5, .inl kd)), (b2, .inl (cI, 5, .inl ln)), (b3, .inl (cI, 5, .inl lo)), (b4, .inl (cI, 5, .inl hi)), (b5, .inl (cI, 5, .inl vl)), (bp, .inl (cI, 5, .inl ps)), (bu, .inl (cI, 5, .inl f1)), (bv, .inl (cI, 5, .inl f2)), (bk, .inl (cJ, 10, .inr (.inl ky))), (bw, .inl (cI, 10, .inl wh))] H := hP
            have hD : va_D A0 [(ob, .inr (6, [.int 1, .int (nI n), .ref b1, .ref b2, .ref b3, .ref b4, .ref b5, .int gx, .int gy, .int sl, .ref bp, .int x, .int y, .int h, .ref bu, .ref bv, .int fd, .ref bk, .ref bw])), (b1, .inl (cI, 5, .inl kd)), (b2, .inl (cI, 5, .inl ln)), (b3, .inl (cI, 5, .inl lo)), (b4, .inl (cI, 5, .inl hi)), (b5, .inl (cI, 5, .inl vl)), (bp, .inl (cI, 5, .inl ps)), (bu, .inl (cI, 5, .inl f1)), (bv, .inl (cI, 5, .inl f2)), (bk, .inl (cJ, 10, .inr (.inl ky))), (bw, .inl (cI, 10, .inl wh))] := hD
            refine lv_aload_n hx hb dX6_findsBranch_116 rfl (lv_at hl 2 rfl) ?_
            refine va_get (D := D) (ci := 6) (v := .int 1) (C := RX6) (T := TX6) (N := 19) hx hb hts hin6 hown hK hP 0 rfl rfl 0 (by decide) hf45 (fun _ h9 => h9) rfl dX6_findsBranch_117 ?_
            refine lv_if_ne (tgt := 133) hx hb dX6_findsBranch_120 (by decide) (fun c_120 => ?_) (fun c_120 => ?_)
            · refine lv_aload_n hx hb dX6_findsBranch_133 rfl (lv_at hl 2 rfl) ?_
              refine va_get (D := D) (ci := 6) (v := .int 1) (C := RX6) (T := TX6) (N := 19) hx hb hts hin6 hown hK hP 0 rfl rfl 0 (by decide) hf45 (fun _ h9 => h9) rfl dX6_findsBranch_134 ?_
              refine lv_if_ne (tgt := 144) hx hb dX6_findsBranch_137 (by decide) (fun c_137 => ?_) (fun c_137 => ?_)
              · refine lv_iconst (v := 0) hx hb dX6_findsBranch_144 (by decide) ?_
                exact hRet _ (0, 1, fd, ky, wh, ps, x, y, h) _ _ _ ⟨fun _ => ⟨rfl, rfl⟩, fun h9 => absurd h9 his, fun h9 => absurd h9 his, fun h9 => absurd h9 his, Or.inl rfl⟩ hP hS dX6_findsBranch_145
              · exact absurd c_137 (by decide)
            · exact absurd c_120 (by decide)
        · exact absurd (by decide) c_39
      · rw [nI_ltI (by omega) (by omega)] at c_27
        have hfew := hti.mp (Nat.not_lt.mp c_27)
        refine lv_iconst (v := 1) hx hb dX6_findsBranch_30 (by decide) ?_
        refine lv_goto (tgt := 35) hx hb dX6_findsBranch_31 (by decide) ?_
        refine lv_istore (lv' := [(5, .int 1), (4, .int 0), (0, .ref ob), (1, .int p0), (2, .int p1), (3, .int u9)]) hx hb dX6_findsBranch_35 hl (by decide) rfl (fun ls hl => ?_)
        refine lv_iload hx hb dX6_findsBranch_37 (lv_at hl 1 rfl) ?_
        refine lv_if_eq (tgt := 80) hx hb dX6_findsBranch_39 (by decide) (fun c_39 => ?_) (fun c_39 => ?_)
        · refine lv_aload_n hx hb dX6_findsBranch_80 rfl (lv_at hl 2 rfl) ?_
          refine lv_iload hx hb dX6_findsBranch_81 (lv_at hl 1 rfl) ?_
          refine lv_if_ne (tgt := 90) hx hb dX6_findsBranch_83 (by decide) (fun c_83 => ?_) (fun c_83 => ?_)
          · exact absurd (by decide) c_83
          · refine lv_iconst (v := 1) hx hb dX6_findsBranch_86 (by decide) ?_
            refine lv_goto (tgt := 113) hx hb dX6_findsBranch_87 (by decide) ?_
            refine va_put (D := D) (ci := 6) (v := .int 1) (ty := .int) (C := RX6) (T := TX6) (N := 19) hx hb hts hin6 tyX6 tyX6_ok nmX6 hown hK hP hD hS 0 rfl rfl 0 (by decide) hf45 (fun _ h9 => h9) rfl (by decide +kernel) rfl rfl (Nat.le_of_ble_eq_true rfl) dX6_findsBranch_113 (fun H locs hP hD hS => ?_)
            have hP : va_P D vwCl [(ob, .inr (6, [.int 1, .int (nI n), .ref b1, .ref b2, .ref b3, .ref b4, .ref b5, .int gx, .int gy, .int sl, .ref bp, .int x, .int y, .int h, .ref bu, .ref bv, .int fd, .ref bk, .ref bw])), (b1, .inl (cI, 5, .inl kd)), (b2, .inl (cI, 5, .inl ln)), (b3, .inl (cI, 5, .inl lo)), (b4, .inl (cI, 5, .inl hi)), (b5, .inl (cI, 5, .inl vl)), (bp, .inl (cI, 5, .inl ps)), (bu, .inl (cI, 5, .inl f1)), (bv, .inl (cI, 5, .inl f2)), (bk, .inl (cJ, 10, .inr (.inl ky))), (bw, .inl (cI, 10, .inl wh))] H := hP
            have hD : va_D A0 [(ob, .inr (6, [.int 1, .int (nI n), .ref b1, .ref b2, .ref b3, .ref b4, .ref b5, .int gx, .int gy, .int sl, .ref bp, .int x, .int y, .int h, .ref bu, .ref bv, .int fd, .ref bk, .ref bw])), (b1, .inl (cI, 5, .inl kd)), (b2, .inl (cI, 5, .inl ln)), (b3, .inl (cI, 5, .inl lo)), (b4, .inl (cI, 5, .inl hi)), (b5, .inl (cI, 5, .inl vl)), (bp, .inl (cI, 5, .inl ps)), (bu, .inl (cI, 5, .inl f1)), (bv, .inl (cI, 5, .inl f2)), (bk, .inl (cJ, 10, .inr (.inl ky))), (bw, .inl (cI, 10, .inl wh))] := hD
            refine lv_aload_n hx hb dX6_findsBranch_116 rfl (lv_at hl 2 rfl) ?_
            refine va_get (D := D) (ci := 6) (v := .int 1) (C := RX6) (T := TX6) (N := 19) hx hb hts hin6 hown hK hP 0 rfl rfl 0 (by decide) hf45 (fun _ h9 => h9) rfl dX6_findsBranch_117 ?_
            refine lv_if_ne (tgt := 133) hx hb dX6_findsBranch_120 (by decide) (fun c_120 => ?_) (fun c_120 => ?_)
            · refine lv_aload_n hx hb dX6_findsBranch_133 rfl (lv_at hl 2 rfl) ?_
              refine va_get (D := D) (ci := 6) (v := .int 1) (C := RX6) (T := TX6) (N := 19) hx hb hts hin6 hown hK hP 0 rfl rfl 0 (by decide) hf45 (fun _ h9 => h9) rfl dX6_findsBranch_134 ?_
              refine lv_if_ne (tgt := 144) hx hb dX6_findsBranch_137 (by decide) (fun c_137 => ?_) (fun c_137 => ?_)
              · refine lv_iconst (v := 0) hx hb dX6_findsBranch_144 (by decide) ?_
                exact hRet _ (0, 1, fd, ky, wh, ps, x, y, h) _ _ _ ⟨fun _ => ⟨rfl, rfl⟩, fun h9 => absurd h9 his, fun h9 => absurd h9 his, fun h9 => absurd h9 his, Or.inl rfl⟩ hP hS dX6_findsBranch_145
              · exact absurd c_137 (by decide)
            · exact absurd c_120 (by decide)
        · exact absurd (by decide) c_39
    · have hr10 := (z09 p0).mp (zif_1 c_11)
      have his : u9 = 1 ∧ 0 ≤ p0 ∧ p0 < 10 := ⟨hu1, hr10⟩
      refine lv_iconst (v := 1) hx hb dX6_findsBranch_14 (by decide) ?_
      refine lv_goto (tgt := 19) hx hb dX6_findsBranch_15 (by decide) ?_
      refine lv_istore (lv' := [(4, .int 1), (0, .ref ob), (1, .int p0), (2, .int p1), (3, .int u9)]) hx hb dX6_findsBranch_19 hl (by decide) rfl (fun ls hl => ?_)
      refine lv_aload_n hx hb dX6_findsBranch_21 rfl (lv_at hl 1 rfl) ?_
      refine z_callV (As := []) (rest := []) ⟨hx, hb, hml, hown, hts⟩ hG hK hP hD hS (c_X6_poses l D cI cJ ob b1 b2 b3 b4 b5 bp bu bv bk bw n th gx gy sl x y h fd kd ln lo hi vl ps f1 f2 ky wh (hok)) (cwV 0 hts gX6_findsBranch_X6_poses rfl rfl rfl (by decide +kernel) ⟨Nat.le_of_ble_eq_true rfl, Nat.le_of_ble_eq_true rfl⟩) [0, 1, 2, 3, 4, 5, 6, 7, 8, 9, 10] (by decide) rfl (fun _ => rfl) 0 rfl rfl rfl rfl hl.1 rfl (Nat.le_of_ble_eq_true rfl) dX6_findsBranch_22 ⟨Nat.le_of_ble_eq_true rfl, Nat.le_of_ble_eq_true rfl⟩ (fun u_9 H locs hu_10 hP hD hS => ?_)
      obtain ⟨rp, rfl⟩ : ∃ z, z = u_9 := ⟨_, rfl⟩
      have hu_10 : (∃ t : Nat, t < 10000000 ∧ rp = nI t ∧ (t ≤ 40000 ↔ zPw lo hi n ≤ 40000) ∧ (t ≤ 40000 → t = zPw lo hi n)) := hu_10
      have hpo := hu_10
      have hP : va_P D vwCl [(ob, .inr (6, [.int th, .int (nI n), .ref b1, .ref b2, .ref b3, .ref b4, .ref b5, .int gx, .int gy, .int sl, .ref bp, .int x, .int y, .int h, .ref bu, .ref bv, .int fd, .ref bk, .ref bw])), (b1, .inl (cI, 5, .inl kd)), (b2, .inl (cI, 5, .inl ln)), (b3, .inl (cI, 5, .inl lo)), (b4, .inl (cI, 5, .inl hi)), (b5, .inl (cI, 5, .inl vl)), (bp, .inl (cI, 5, .inl ps)), (bu, .inl (cI, 5, .inl f1)), (bv, .inl (cI, 5, .inl f2)), (bk, .inl (cJ, 10, .inr (.inl ky))), (bw, .inl (cI, 10, .inl wh))] H := hP
      have hD : va_D A0 [(ob, .inr (6, [.int th, .int (nI n), .ref b1, .ref b2, .ref b3, .ref b4, .ref b5, .int gx, .int gy, .int sl, .ref bp, .int x, .int y, .int h, .ref bu, .ref bv, .int fd, .ref bk, .ref bw])), (b1, .inl (cI, 5, .inl kd)), (b2, .inl (cI, 5, .inl ln)), (b3, .inl (cI, 5, .inl lo)), (b4, .inl (cI, 5, .inl hi)), (b5, .inl (cI, 5, .inl vl)), (bp, .inl (cI, 5, .inl ps)), (bu, .inl (cI, 5, .inl f1)), (bv, .inl (cI, 5, .inl f2)), (bk, .inl (cJ, 10, .inr (.inl ky))), (bw, .inl (cI, 10, .inl wh))] := hD
      obtain ⟨tt, htt, hre, hti, hte⟩ := hpo
      subst hre
      refine lv_ldc (own := RX6) (v := 40000) hx hb hown (hts (.constant RX6 123 (40000)) (by decide +kernel)) dX6_findsBranch_25 ?_
      refine z_topi (y := nI 40000) (rfl) ?_
      refine lv_icmp_gt (tgt := 34) hx hb dX6_findsBranch_27 (by decide) (fun c_27 => ?_) (fun c_27 => ?_)
      · rw [nI_ltI (by omega) (by omega)] at c_27
        have hfew : ¬ zPw lo hi n ≤ 40000 := fun h9 => absurd (hti.mpr h9) (Nat.not_le.mpr c_27)
        refine lv_iconst (v := 0) hx hb dX6_findsBranch_34 (by decide) ?_
        refine lv_istore (lv' := [(5, .int 0), (4, .int 1), (0, .ref ob), (1, .int p0), (2, .int p1), (3, .int u9)]) hx hb dX6_findsBranch_35 hl (by decide) rfl (fun ls hl => ?_)
        refine lv_iload hx hb dX6_findsBranch_37 (lv_at hl 1 rfl) ?_
        refine lv_if_eq (tgt := 80) hx hb dX6_findsBranch_39 (by decide) (fun c_39 => ?_) (fun c_39 => ?_)
        · exact absurd c_39 (by decide)
        · refine lv_iload hx hb dX6_findsBranch_42 (lv_at hl 0 rfl) ?_
          refine lv_if_eq (tgt := 80) hx hb dX6_findsBranch_44 (by decide) (fun c_44 => ?_) (fun c_44 => ?_)
          · refine lv_aload_n hx hb dX6_findsBranch_80 rfl (lv_at hl 2 rfl) ?_
            refine lv_iload hx hb dX6_findsBranch_81 (lv_at hl 1 rfl) ?_
            refine lv_if_ne (tgt := 90) hx hb dX6_findsBranch_83 (by decide) (fun c_83 => ?_) (fun c_83 => ?_)
            · refine lv_iload_n hx hb dX6_findsBranch_90 rfl (lv_at hl 4 rfl) ?_
              refine lv_iconst (v := 0) hx hb dX6_findsBranch_91 (by decide) ?_
              refine lv_iconst (v := 2) hx hb dX6_findsBranch_92 (by decide) ?_
              refine z_callS (As := [.int p1, .int 0, .int 2]) (rest := [.ref ob]) ⟨hx, hb, hml, hown, hts⟩ hG hK hP hD hS (c_X6_in l D cI cJ p1 0 2 ) (va_cwS 3 hts gX6_findsBranch_X6_in rfl rfl rfl (by decide +kernel) ⟨Nat.le_of_ble_eq_true rfl, Nat.le_of_ble_eq_true rfl⟩) [] (by decide) rfl (fun _ => rfl) rfl hl.1 rfl (Nat.le_of_ble_eq_true rfl) dX6_findsBranch_93 ⟨Nat.le_of_ble_eq_true rfl, Nat.le_of_ble_eq_true rfl⟩ (fun u_11 H locs hu_12 hP hD hS => ?_)
              obtain ⟨r_13, rfl⟩ : ∃ z, z = u_11 := ⟨_, rfl⟩
              have hu_12 : (r_13 = if 0 ≤ p1 ∧ p1 ≤ 2 then 1 else 0) := hu_12
              have e_14 := hu_12
              subst e_14
              have hP : va_P D vwCl [(ob, .inr (6, [.int th, .int (nI n), .ref b1, .ref b2, .ref b3, .ref b4, .ref b5, .int gx, .int gy, .int sl, .ref bp, .int x, .int y, .int h, .ref bu, .ref bv, .int fd, .ref bk, .ref bw])), (b1, .inl (cI, 5, .inl kd)), (b2, .inl (cI, 5, .inl ln)), (b3, .inl (cI, 5, .inl lo)), (b4, .inl (cI, 5, .inl hi)), (b5, .inl (cI, 5, .inl vl)), (bp, .inl (cI, 5, .inl ps)), (bu, .inl (cI, 5, .inl f1)), (bv, .inl (cI, 5, .inl f2)), (bk, .inl (cJ, 10, .inr (.inl ky))), (bw, .inl (cI, 10, .inl wh))] H := hP
              have hD : va_D A0 [(ob, .inr (6, [.int th, .int (nI n), .ref b1, .ref b2, .ref b3, .ref b4, .ref b5, .int gx, .int gy, .int sl, .ref bp, .int x, .int y, .int h, .ref bu, .ref bv, .int fd, .ref bk, .ref bw])), (b1, .inl (cI, 5, .inl kd)), (b2, .inl (cI, 5, .inl ln)), (b3, .inl (cI, 5, .inl lo)), (b4, .inl (cI, 5, .inl hi)), (b5, .inl (cI, 5, .inl vl)), (bp, .inl (cI, 5, .inl ps)), (bu, .inl (cI, 5, .inl f1)), (bv, .inl (cI, 5, .inl f2)), (bk, .inl (cJ, 10, .inr (.inl ky))), (bw, .inl (cI, 10, .inl wh))] := hD
              refine lv_if_ne (tgt := 103) hx hb dX6_findsBranch_96 (by decide) (fun c_96 => ?_) (fun c_96 => ?_)
              · have hby := zif_1 c_96
                refine lv_iload hx hb dX6_findsBranch_103 (lv_at hl 0 rfl) ?_
                refine lv_if_eq (tgt := 112) hx hb dX6_findsBranch_105 (by decide) (fun c_105 => ?_) (fun c_105 => ?_)
                · refine lv_iconst (v := 3) hx hb dX6_findsBranch_112 (by decide) ?_
                  refine va_put (D := D) (ci := 6) (v := .int 3) (ty := .int) (C := RX6) (T := TX6) (N := 19) hx hb hts hin6 tyX6 tyX6_ok nmX6 hown hK hP hD hS 0 rfl rfl 0 (by decide) hf45 (fun _ h9 => h9) rfl (by decide +kernel) rfl rfl (Nat.le_of_ble_eq_true rfl) dX6_findsBranch_113 (fun H locs hP hD hS => ?_)
                  have hP : va_P D vwCl [(ob, .inr (6, [.int 3, .int (nI n), .ref b1, .ref b2, .ref b3, .ref b4, .ref b5, .int gx, .int gy, .int sl, .ref bp, .int x, .int y, .int h, .ref bu, .ref bv, .int fd, .ref bk, .ref bw])), (b1, .inl (cI, 5, .inl kd)), (b2, .inl (cI, 5, .inl ln)), (b3, .inl (cI, 5, .inl lo)), (b4, .inl (cI, 5, .inl hi)), (b5, .inl (cI, 5, .inl vl)), (bp, .inl (cI, 5, .inl ps)), (bu, .inl (cI, 5, .inl f1)), (bv, .inl (cI, 5, .inl f2)), (bk, .inl (cJ, 10, .inr (.inl ky))), (bw, .inl (cI, 10, .inl wh))] H := hP
                  have hD : va_D A0 [(ob, .inr (6, [.int 3, .int (nI n), .ref b1, .ref b2, .ref b3, .ref b4, .ref b5, .int gx, .int gy, .int sl, .ref bp, .int x, .int y, .int h, .ref bu, .ref bv, .int fd, .ref bk, .ref bw])), (b1, .inl (cI, 5, .inl kd)), (b2, .inl (cI, 5, .inl ln)), (b3, .inl (cI, 5, .inl lo)), (b4, .inl (cI, 5, .inl hi)), (b5, .inl (cI, 5, .inl vl)), (bp, .inl (cI, 5, .inl ps)), (bu, .inl (cI, 5, .inl f1)), (bv, .inl (cI, 5, .inl f2)), (bk, .inl (cJ, 10, .inr (.inl ky))), (bw, .inl (cI, 10, .inl wh))] := hD
                  refine lv_aload_n hx hb dX6_findsBranch_116 rfl (lv_at hl 2 rfl) ?_
                  refine va_get (D := D) (ci := 6) (v := .int 3) (C := RX6) (T := TX6) (N := 19) hx hb hts hin6 hown hK hP 0 rfl rfl 0 (by decide) hf45 (fun _ h9 => h9) rfl dX6_findsBranch_117 ?_
                  refine lv_if_ne (tgt := 133) hx hb dX6_findsBranch_120 (by decide) (fun c_120 => ?_) (fun c_120 => ?_)
                  · refine lv_aload_n hx hb dX6_findsBranch_133 rfl (lv_at hl 2 rfl) ?_
                    refine va_get (D := D) (ci := 6) (v := .int 3) (C := RX6) (T := TX6) (N := 19) hx hb hts hin6 hown hK hP 0 rfl rfl 0 (by decide) hf45 (fun _ h9 => h9) rfl dX6_findsBranch_134 ?_
                    refine lv_if_ne (tgt := 144) hx hb dX6_findsBranch_137 (by decide) (fun c_137 => ?_) (fun c_137 => ?_)
                    · refine lv_iconst (v := 0) hx hb dX6_findsBranch_144 (by decide) ?_
                      exact hRet _ (0, 3, fd, ky, wh, ps, x, y, h) _ _ _ ⟨fun h9 => h9.elim (fun h8 => absurd his h8) (fun h8 => absurd h8.1 hfew), fun _ _ h9 => absurd hby h9, fun _ _ _ => ⟨rfl, rfl⟩, fun _ _ h9 => absurd h9 hfew, Or.inl rfl⟩ hP hS dX6_findsBranch_145
                    · exact absurd c_137 (by decide)
                  · exact absurd c_120 (by decide)
                · exact absurd (by decide) c_105
              · have hby := zif_0 c_96
                refine lv_iconst (v := 2) hx hb dX6_findsBranch_99 (by decide) ?_
                refine lv_goto (tgt := 113) hx hb dX6_findsBranch_100 (by decide) ?_
                refine va_put (D := D) (ci := 6) (v := .int 2) (ty := .int) (C := RX6) (T := TX6) (N := 19) hx hb hts hin6 tyX6 tyX6_ok nmX6 hown hK hP hD hS 0 rfl rfl 0 (by decide) hf45 (fun _ h9 => h9) rfl (by decide +kernel) rfl rfl (Nat.le_of_ble_eq_true rfl) dX6_findsBranch_113 (fun H locs hP hD hS => ?_)
                have hP : va_P D vwCl [(ob, .inr (6, [.int 2, .int (nI n), .ref b1, .ref b2, .ref b3, .ref b4, .ref b5, .int gx, .int gy, .int sl, .ref bp, .int x, .int y, .int h, .ref bu, .ref bv, .int fd, .ref bk, .ref bw])), (b1, .inl (cI, 5, .inl kd)), (b2, .inl (cI, 5, .inl ln)), (b3, .inl (cI, 5, .inl lo)), (b4, .inl (cI, 5, .inl hi)), (b5, .inl (cI, 5, .inl vl)), (bp, .inl (cI, 5, .inl ps)), (bu, .inl (cI, 5, .inl f1)), (bv, .inl (cI, 5, .inl f2)), (bk, .inl (cJ, 10, .inr (.inl ky))), (bw, .inl (cI, 10, .inl wh))] H := hP
                have hD : va_D A0 [(ob, .inr (6, [.int 2, .int (nI n), .ref b1, .ref b2, .ref b3, .ref b4, .ref b5, .int gx, .int gy, .int sl, .ref bp, .int x, .int y, .int h, .ref bu, .ref bv, .int fd, .ref bk, .ref bw])), (b1, .inl (cI, 5, .inl kd)), (b2, .inl (cI, 5, .inl ln)), (b3, .inl (cI, 5, .inl lo)), (b4, .inl (cI, 5, .inl hi)), (b5, .inl (cI, 5, .inl vl)), (bp, .inl (cI, 5, .inl ps)), (bu, .inl (cI, 5, .inl f1)), (bv, .inl (cI, 5, .inl f2)), (bk, .inl (cJ, 10, .inr (.inl ky))), (bw, .inl (cI, 10, .inl wh))] := hD
                refine lv_aload_n hx hb dX6_findsBranch_116 rfl (lv_at hl 2 rfl) ?_
                refine va_get (D := D) (ci := 6) (v := .int 2) (C := RX6) (T := TX6) (N := 19) hx hb hts hin6 hown hK hP 0 rfl rfl 0 (by decide) hf45 (fun _ h9 => h9) rfl dX6_findsBranch_117 ?_
                refine lv_if_ne (tgt := 133) hx hb dX6_findsBranch_120 (by decide) (fun c_120 => ?_) (fun c_120 => ?_)
                · refine lv_aload_n hx hb dX6_findsBranch_133 rfl (lv_at hl 2 rfl) ?_
                  refine va_get (D := D) (ci := 6) (v := .int 2) (C := RX6) (T := TX6) (N := 19) hx hb hts hin6 hown hK hP 0 rfl rfl 0 (by decide) hf45 (fun _ h9 => h9) rfl dX6_findsBranch_134 ?_
                  refine lv_if_ne (tgt := 144) hx hb dX6_findsBranch_137 (by decide) (fun c_137 => ?_) (fun c_137 => ?_)
                  · refine lv_iconst (v := 0) hx hb dX6_findsBranch_144 (by decide) ?_
                    exact hRet _ (0, 2, fd, ky, wh, ps, x, y, h) _ _ _ ⟨fun h9 => h9.elim (fun h8 => absurd his h8) (fun h8 => absurd h8.1 hfew), fun _ _ _ => ⟨rfl, rfl⟩, fun _ h9 => absurd h9 hby, fun _ h9 => absurd h9 hby, Or.inl rfl⟩ hP hS dX6_findsBranch_145
                  · exact absurd c_137 (by decide)
                · exact absurd c_120 (by decide)
            · exact absurd c_83 (by decide)
          · exact absurd (by decide) c_44
      · rw [nI_ltI (by omega) (by omega)] at c_27
        have hfew := hti.mp (Nat.not_lt.mp c_27)
        refine lv_iconst (v := 1) hx hb dX6_findsBranch_30 (by decide) ?_
        refine lv_goto (tgt := 35) hx hb dX6_findsBranch_31 (by decide) ?_
        refine lv_istore (lv' := [(5, .int 1), (4, .int 1), (0, .ref ob), (1, .int p0), (2, .int p1), (3, .int u9)]) hx hb dX6_findsBranch_35 hl (by decide) rfl (fun ls hl => ?_)
        refine lv_iload hx hb dX6_findsBranch_37 (lv_at hl 1 rfl) ?_
        refine lv_if_eq (tgt := 80) hx hb dX6_findsBranch_39 (by decide) (fun c_39 => ?_) (fun c_39 => ?_)
        · exact absurd c_39 (by decide)
        · refine lv_iload hx hb dX6_findsBranch_42 (lv_at hl 0 rfl) ?_
          refine lv_if_eq (tgt := 80) hx hb dX6_findsBranch_44 (by decide) (fun c_44 => ?_) (fun c_44 => ?_)
          · exact absurd c_44 (by decide)
          · refine lv_aload_n hx hb dX6_findsBranch_47 rfl (lv_at hl 2 rfl) ?_
            refine lv_iload_n hx hb dX6_findsBranch_48 rfl (lv_at hl 4 rfl) ?_
            refine lv_iconst (v := 0) hx hb dX6_findsBranch_49 (by decide) ?_
            refine lv_iconst (v := 2) hx hb dX6_findsBranch_50 (by decide) ?_
            refine z_callS (As := [.int p1, .int 0, .int 2]) (rest := [.ref ob]) ⟨hx, hb, hml, hown, hts⟩ hG hK hP hD hS (c_X6_in l D cI cJ p1 0 2 ) (va_cwS 3 hts gX6_findsBranch_X6_in rfl rfl rfl (by decide +kernel) ⟨Nat.le_of_ble_eq_true rfl, Nat.le_of_ble_eq_true rfl⟩) [] (by decide) rfl (fun _ => rfl) rfl hl.1 rfl (Nat.le_of_ble_eq_true rfl) dX6_findsBranch_51 ⟨Nat.le_of_ble_eq_true rfl, Nat.le_of_ble_eq_true rfl⟩ (fun u_15 H locs hu_16 hP hD hS => ?_)
            obtain ⟨r_17, rfl⟩ : ∃ z, z = u_15 := ⟨_, rfl⟩
            have hu_16 : (r_17 = if 0 ≤ p1 ∧ p1 ≤ 2 then 1 else 0) := hu_16
            have e_18 := hu_16
            subst e_18
            have hP : va_P D vwCl [(ob, .inr (6, [.int th, .int (nI n), .ref b1, .ref b2, .ref b3, .ref b4, .ref b5, .int gx, .int gy, .int sl, .ref bp, .int x, .int y, .int h, .ref bu, .ref bv, .int fd, .ref bk, .ref bw])), (b1, .inl (cI, 5, .inl kd)), (b2, .inl (cI, 5, .inl ln)), (b3, .inl (cI, 5, .inl lo)), (b4, .inl (cI, 5, .inl hi)), (b5, .inl (cI, 5, .inl vl)), (bp, .inl (cI, 5, .inl ps)), (bu, .inl (cI, 5, .inl f1)), (bv, .inl (cI, 5, .inl f2)), (bk, .inl (cJ, 10, .inr (.inl ky))), (bw, .inl (cI, 10, .inl wh))] H := hP
            have hD : va_D A0 [(ob, .inr (6, [.int th, .int (nI n), .ref b1, .ref b2, .ref b3, .ref b4, .ref b5, .int gx, .int gy, .int sl, .ref bp, .int x, .int y, .int h, .ref bu, .ref bv, .int fd, .ref bk, .ref bw])), (b1, .inl (cI, 5, .inl kd)), (b2, .inl (cI, 5, .inl ln)), (b3, .inl (cI, 5, .inl lo)), (b4, .inl (cI, 5, .inl hi)), (b5, .inl (cI, 5, .inl vl)), (bp, .inl (cI, 5, .inl ps)), (bu, .inl (cI, 5, .inl f1)), (bv, .inl (cI, 5, .inl f2)), (bk, .inl (cJ, 10, .inr (.inl ky))), (bw, .inl (cI, 10, .inl wh))] := hD
            refine lv_if_eq (tgt := 61) hx hb dX6_findsBranch_54 (by decide) (fun c_54 => ?_) (fun c_54 => ?_)
            · have hby := zif_0 c_54
              refine lv_iconst (v := 0) hx hb dX6_findsBranch_61 (by decide) ?_
              refine z_callV (As := [.int 0]) (rest := []) ⟨hx, hb, hml, hown, hts⟩ hG hK hP hD hS (c_X6_findsBranches l D cI cJ ob b1 b2 b3 b4 b5 bp bu bv bk bw n th gx gy sl x y h fd kd ln lo hi vl ps f1 f2 ky wh 0 (hok) (hgx) (hgy) (hfew) (Or.inl rfl)) (cwV 1 hts gX6_findsBranch_X6_findsBranches rfl rfl rfl (by decide +kernel) ⟨Nat.le_of_ble_eq_true rfl, Nat.le_of_ble_eq_true rfl⟩) [0, 1, 2, 3, 4, 5, 6, 7, 8, 9, 10] (by decide) rfl (fun _ => rfl) 0 rfl rfl rfl rfl hl.1 rfl (Nat.le_of_ble_eq_true rfl) dX6_findsBranch_62 ⟨Nat.le_of_ble_eq_true rfl, Nat.le_of_ble_eq_true rfl⟩ (fun u_19 H locs hu_20 hP hD hS => ?_)
              obtain ⟨fd2_21, ky2_22, wh2_23, ps3_24, x3_25, y3_26, h3_27⟩ := u_19
              have hu_20 : (fd2_21 = nI (zAll kd ln lo hi vl n gx gy sl 0).1) ∧ (zRW (zAll kd ln lo hi vl n gx gy sl 0).1 (zAll kd ln lo hi vl n gx gy sl 0).2.1 (zAll kd ln lo hi vl n gx gy sl 0).2.2 ky2_22 wh2_23) := hu_20
              obtain ⟨e_28, hrel2⟩ := hu_20
              subst e_28
              have hP : va_P D vwCl [(ob, .inr (6, [.int th, .int (nI n), .ref b1, .ref b2, .ref b3, .ref b4, .ref b5, .int gx, .int gy, .int sl, .ref bp, .int x3_25, .int y3_26, .int h3_27, .ref bu, .ref bv, .int (nI (zAll kd ln lo hi vl n gx gy sl 0).1), .ref bk, .ref bw])), (b1, .inl (cI, 5, .inl kd)), (b2, .inl (cI, 5, .inl ln)), (b3, .inl (cI, 5, .inl lo)), (b4, .inl (cI, 5, .inl hi)), (b5, .inl (cI, 5, .inl vl)), (bp, .inl (cI, 5, .inl ps3_24)), (bu, .inl (cI, 5, .inl f1)), (bv, .inl (cI, 5, .inl f2)), (bk, .inl (cJ, 10, .inr (.inl ky2_22))), (bw, .inl (cI, 10, .inl wh2_23))] H := hP
              have hD : va_D A0 [(ob, .inr (6, [.int th, .int (nI n), .ref b1, .ref b2, .ref b3, .ref b4, .ref b5, .int gx, .int gy, .int sl, .ref bp, .int x3_25, .int y3_26, .int h3_27, .ref bu, .ref bv, .int (nI (zAll kd ln lo hi vl n gx gy sl 0).1), .ref bk, .ref bw])), (b1, .inl (cI, 5, .inl kd)), (b2, .inl (cI, 5, .inl ln)), (b3, .inl (cI, 5, .inl lo)), (b4, .inl (cI, 5, .inl hi)), (b5, .inl (cI, 5, .inl vl)), (bp, .inl (cI, 5, .inl ps3_24)), (bu, .inl (cI, 5, .inl f1)), (bv, .inl (cI, 5, .inl f2)), (bk, .inl (cJ, 10, .inr (.inl ky2_22))), (bw, .inl (cI, 10, .inl wh2_23))] := hD
              refine lv_iload_n hx hb dX6_findsBranch_65 rfl (lv_at hl 3 rfl) ?_
              refine lv_aload_n hx hb dX6_findsBranch_66 rfl (lv_at hl 2 rfl) ?_
              refine va_get (D := D) (ci := 6) (v := .int (nI (zAll kd ln lo hi vl n gx gy sl 0).1)) (C := RX6) (T := TX6) (N := 19) hx hb hts hin6 hown hK hP 0 rfl rfl 16 (by decide) hf127 (fun _ h9 => h9) rfl dX6_findsBranch_67 ?_
              refine lv_icmp_ge (tgt := 77) hx hb dX6_findsBranch_70 (by decide) (fun c_70 => ?_) (fun c_70 => ?_)
              · have hfd : ¬ p0 < nI (zAll kd ln lo hi vl n gx gy sl p1).1 := by rw [← zAll_cnt (kd := kd) (ln := ln) (lo := lo) (hi := hi) (vl := vl) (n := n) (gx := gx) (gy := gy) (sl := sl) (bq := 0) p1]; exact (Int32.not_lt.mpr c_70)
                refine lv_iconst (v := 0) hx hb dX6_findsBranch_77 (by decide) ?_
                refine lv_istore (lv' := [(4, .int 0), (5, .int 1), (0, .ref ob), (1, .int p0), (2, .int p1), (3, .int u9)]) hx hb dX6_findsBranch_78 hl (by decide) rfl (fun ls hl => ?_)
                refine lv_aload_n hx hb dX6_findsBranch_80 rfl (lv_at hl 2 rfl) ?_
                refine lv_iload hx hb dX6_findsBranch_81 (lv_at hl 0 rfl) ?_
                refine lv_if_ne (tgt := 90) hx hb dX6_findsBranch_83 (by decide) (fun c_83 => ?_) (fun c_83 => ?_)
                · exact absurd (by decide) c_83
                · refine lv_iconst (v := 1) hx hb dX6_findsBranch_86 (by decide) ?_
                  refine lv_goto (tgt := 113) hx hb dX6_findsBranch_87 (by decide) ?_
                  refine va_put (D := D) (ci := 6) (v := .int 1) (ty := .int) (C := RX6) (T := TX6) (N := 19) hx hb hts hin6 tyX6 tyX6_ok nmX6 hown hK hP hD hS 0 rfl rfl 0 (by decide) hf45 (fun _ h9 => h9) rfl (by decide +kernel) rfl rfl (Nat.le_of_ble_eq_true rfl) dX6_findsBranch_113 (fun H locs hP hD hS => ?_)
                  have hP : va_P D vwCl [(ob, .inr (6, [.int 1, .int (nI n), .ref b1, .ref b2, .ref b3, .ref b4, .ref b5, .int gx, .int gy, .int sl, .ref bp, .int x3_25, .int y3_26, .int h3_27, .ref bu, .ref bv, .int (nI (zAll kd ln lo hi vl n gx gy sl 0).1), .ref bk, .ref bw])), (b1, .inl (cI, 5, .inl kd)), (b2, .inl (cI, 5, .inl ln)), (b3, .inl (cI, 5, .inl lo)), (b4, .inl (cI, 5, .inl hi)), (b5, .inl (cI, 5, .inl vl)), (bp, .inl (cI, 5, .inl ps3_24)), (bu, .inl (cI, 5, .inl f1)), (bv, .inl (cI, 5, .inl f2)), (bk, .inl (cJ, 10, .inr (.inl ky2_22))), (bw, .inl (cI, 10, .inl wh2_23))] H := hP
                  have hD : va_D A0 [(ob, .inr (6, [.int 1, .int (nI n), .ref b1, .ref b2, .ref b3, .ref b4, .ref b5, .int gx, .int gy, .int sl, .ref bp, .int x3_25, .int y3_26, .int h3_27, .ref bu, .ref bv, .int (nI (zAll kd ln lo hi vl n gx gy sl 0).1), .ref bk, .ref bw])), (b1, .inl (cI, 5, .inl kd)), (b2, .inl (cI, 5, .inl ln)), (b3, .inl (cI, 5, .inl lo)), (b4, .inl (cI, 5, .inl hi)), (b5, .inl (cI, 5, .inl vl)), (bp, .inl (cI, 5, .inl ps3_24)), (bu, .inl (cI, 5, .inl f1)), (bv, .inl (cI, 5, .inl f2)), (bk, .inl (cJ, 10, .inr (.inl ky2_22))), (bw, .inl (cI, 10, .inl wh2_23))] := hD
                  refine lv_aload_n hx hb dX6_findsBranch_116 rfl (lv_at hl 2 rfl) ?_
                  refine va_get (D := D) (ci := 6) (v := .int 1) (C := RX6) (T := TX6) (N := 19) hx hb hts hin6 hown hK hP 0 rfl rfl 0 (by decide) hf45 (fun _ h9 => h9) rfl dX6_findsBranch_117 ?_
                  refine lv_if_ne (tgt := 133) hx hb dX6_findsBranch_120 (by decide) (fun c_120 => ?_) (fun c_120 => ?_)
                  · refine lv_aload_n hx hb dX6_findsBranch_133 rfl (lv_at hl 2 rfl) ?_
                    refine va_get (D := D) (ci := 6) (v := .int 1) (C := RX6) (T := TX6) (N := 19) hx hb hts hin6 hown hK hP 0 rfl rfl 0 (by decide) hf45 (fun _ h9 => h9) rfl dX6_findsBranch_134 ?_
                    refine lv_if_ne (tgt := 144) hx hb dX6_findsBranch_137 (by decide) (fun c_137 => ?_) (fun c_137 => ?_)
                    · refine lv_iconst (v := 0) hx hb dX6_findsBranch_144 (by decide) ?_
                      exact hRet _ (0, 1, nI (zAll kd ln lo hi vl n gx gy sl 0).1, ky2_22, wh2_23, ps3_24, x3_25, y3_26, h3_27) _ _ _ ⟨fun _ => ⟨rfl, rfl⟩, fun _ h9 => absurd (h9 hfew) hfd, fun _ _ h9 => absurd hfew h9, fun _ _ _ h9 => absurd h9 hfd, Or.inl rfl⟩ hP hS dX6_findsBranch_145
                    · exact absurd c_137 (by decide)
                  · exact absurd c_120 (by decide)
              · have hfd : p0 < nI (zAll kd ln lo hi vl n gx gy sl p1).1 := by rw [← zAll_cnt (kd := kd) (ln := ln) (lo := lo) (hi := hi) (vl := vl) (n := n) (gx := gx) (gy := gy) (sl := sl) (bq := 0) p1]; exact (Int32.not_le.mp c_70)
                refine lv_iconst (v := 1) hx hb dX6_findsBranch_73 (by decide) ?_
                refine lv_goto (tgt := 78) hx hb dX6_findsBranch_74 (by decide) ?_
                refine lv_istore (lv' := [(4, .int 1), (5, .int 1), (0, .ref ob), (1, .int p0), (2, .int p1), (3, .int u9)]) hx hb dX6_findsBranch_78 hl (by decide) rfl (fun ls hl => ?_)
                refine lv_aload_n hx hb dX6_findsBranch_80 rfl (lv_at hl 2 rfl) ?_
                refine lv_iload hx hb dX6_findsBranch_81 (lv_at hl 0 rfl) ?_
                refine lv_if_ne (tgt := 90) hx hb dX6_findsBranch_83 (by decide) (fun c_83 => ?_) (fun c_83 => ?_)
                · refine lv_iload_n hx hb dX6_findsBranch_90 rfl (lv_at hl 4 rfl) ?_
                  refine lv_iconst (v := 0) hx hb dX6_findsBranch_91 (by decide) ?_
                  refine lv_iconst (v := 2) hx hb dX6_findsBranch_92 (by decide) ?_
                  refine z_callS (As := [.int p1, .int 0, .int 2]) (rest := [.ref ob]) ⟨hx, hb, hml, hown, hts⟩ hG hK hP hD hS (c_X6_in l D cI cJ p1 0 2 ) (va_cwS 3 hts gX6_findsBranch_X6_in rfl rfl rfl (by decide +kernel) ⟨Nat.le_of_ble_eq_true rfl, Nat.le_of_ble_eq_true rfl⟩) [] (by decide) rfl (fun _ => rfl) rfl hl.1 rfl (Nat.le_of_ble_eq_true rfl) dX6_findsBranch_93 ⟨Nat.le_of_ble_eq_true rfl, Nat.le_of_ble_eq_true rfl⟩ (fun u_29 H locs hu_30 hP hD hS => ?_)
                  obtain ⟨r_31, rfl⟩ : ∃ z, z = u_29 := ⟨_, rfl⟩
                  have hu_30 : (r_31 = if 0 ≤ p1 ∧ p1 ≤ 2 then 1 else 0) := hu_30
                  have e_32 := hu_30
                  subst e_32
                  have hP : va_P D vwCl [(ob, .inr (6, [.int th, .int (nI n), .ref b1, .ref b2, .ref b3, .ref b4, .ref b5, .int gx, .int gy, .int sl, .ref bp, .int x3_25, .int y3_26, .int h3_27, .ref bu, .ref bv, .int (nI (zAll kd ln lo hi vl n gx gy sl 0).1), .ref bk, .ref bw])), (b1, .inl (cI, 5, .inl kd)), (b2, .inl (cI, 5, .inl ln)), (b3, .inl (cI, 5, .inl lo)), (b4, .inl (cI, 5, .inl hi)), (b5, .inl (cI, 5, .inl vl)), (bp, .inl (cI, 5, .inl ps3_24)), (bu, .inl (cI, 5, .inl f1)), (bv, .inl (cI, 5, .inl f2)), (bk, .inl (cJ, 10, .inr (.inl ky2_22))), (bw, .inl (cI, 10, .inl wh2_23))] H := hP
                  have hD : va_D A0 [(ob, .inr (6, [.int th, .int (nI n), .ref b1, .ref b2, .ref b3, .ref b4, .ref b5, .int gx, .int gy, .int sl, .ref bp, .int x3_25, .int y3_26, .int h3_27, .ref bu, .ref bv, .int (nI (zAll kd ln lo hi vl n gx gy sl 0).1), .ref bk, .ref bw])), (b1, .inl (cI, 5, .inl kd)), (b2, .inl (cI, 5, .inl ln)), (b3, .inl (cI, 5, .inl lo)), (b4, .inl (cI, 5, .inl hi)), (b5, .inl (cI, 5, .inl vl)), (bp, .inl (cI, 5, .inl ps3_24)), (bu, .inl (cI, 5, .inl f1)), (bv, .inl (cI, 5, .inl f2)), (bk, .inl (cJ, 10, .inr (.inl ky2_22))), (bw, .inl (cI, 10, .inl wh2_23))] := hD
                  refine lv_if_ne (tgt := 103) hx hb dX6_findsBranch_96 (by decide) (fun c_96 => ?_) (fun c_96 => ?_)
                  · exact absurd (zif_1 c_96) hby
                  · refine lv_iconst (v := 2) hx hb dX6_findsBranch_99 (by decide) ?_
                    refine lv_goto (tgt := 113) hx hb dX6_findsBranch_100 (by decide) ?_
                    refine va_put (D := D) (ci := 6) (v := .int 2) (ty := .int) (C := RX6) (T := TX6) (N := 19) hx hb hts hin6 tyX6 tyX6_ok nmX6 hown hK hP hD hS 0 rfl rfl 0 (by decide) hf45 (fun _ h9 => h9) rfl (by decide +kernel) rfl rfl (Nat.le_of_ble_eq_true rfl) dX6_findsBranch_113 (fun H locs hP hD hS => ?_)
                    have hP : va_P D vwCl [(ob, .inr (6, [.int 2, .int (nI n), .ref b1, .ref b2, .ref b3, .ref b4, .ref b5, .int gx, .int gy, .int sl, .ref bp, .int x3_25, .int y3_26, .int h3_27, .ref bu, .ref bv, .int (nI (zAll kd ln lo hi vl n gx gy sl 0).1), .ref bk, .ref bw])), (b1, .inl (cI, 5, .inl kd)), (b2, .inl (cI, 5, .inl ln)), (b3, .inl (cI, 5, .inl lo)), (b4, .inl (cI, 5, .inl hi)), (b5, .inl (cI, 5, .inl vl)), (bp, .inl (cI, 5, .inl ps3_24)), (bu, .inl (cI, 5, .inl f1)), (bv, .inl (cI, 5, .inl f2)), (bk, .inl (cJ, 10, .inr (.inl ky2_22))), (bw, .inl (cI, 10, .inl wh2_23))] H := hP
                    have hD : va_D A0 [(ob, .inr (6, [.int 2, .int (nI n), .ref b1, .ref b2, .ref b3, .ref b4, .ref b5, .int gx, .int gy, .int sl, .ref bp, .int x3_25, .int y3_26, .int h3_27, .ref bu, .ref bv, .int (nI (zAll kd ln lo hi vl n gx gy sl 0).1), .ref bk, .ref bw])), (b1, .inl (cI, 5, .inl kd)), (b2, .inl (cI, 5, .inl ln)), (b3, .inl (cI, 5, .inl lo)), (b4, .inl (cI, 5, .inl hi)), (b5, .inl (cI, 5, .inl vl)), (bp, .inl (cI, 5, .inl ps3_24)), (bu, .inl (cI, 5, .inl f1)), (bv, .inl (cI, 5, .inl f2)), (bk, .inl (cJ, 10, .inr (.inl ky2_22))), (bw, .inl (cI, 10, .inl wh2_23))] := hD
                    refine lv_aload_n hx hb dX6_findsBranch_116 rfl (lv_at hl 2 rfl) ?_
                    refine va_get (D := D) (ci := 6) (v := .int 2) (C := RX6) (T := TX6) (N := 19) hx hb hts hin6 hown hK hP 0 rfl rfl 0 (by decide) hf45 (fun _ h9 => h9) rfl dX6_findsBranch_117 ?_
                    refine lv_if_ne (tgt := 133) hx hb dX6_findsBranch_120 (by decide) (fun c_120 => ?_) (fun c_120 => ?_)
                    · refine lv_aload_n hx hb dX6_findsBranch_133 rfl (lv_at hl 2 rfl) ?_
                      refine va_get (D := D) (ci := 6) (v := .int 2) (C := RX6) (T := TX6) (N := 19) hx hb hts hin6 hown hK hP 0 rfl rfl 0 (by decide) hf45 (fun _ h9 => h9) rfl dX6_findsBranch_134 ?_
                      refine lv_if_ne (tgt := 144) hx hb dX6_findsBranch_137 (by decide) (fun c_137 => ?_) (fun c_137 => ?_)
                      · refine lv_iconst (v := 0) hx hb dX6_findsBranch_144 (by decide) ?_
                        exact hRet _ (0, 2, nI (zAll kd ln lo hi vl n gx gy sl 0).1, ky2_22, wh2_23, ps3_24, x3_25, y3_26, h3_27) _ _ _ ⟨fun h9 => h9.elim (fun h8 => absurd his h8) (fun h8 => absurd hfd h8.2), fun _ _ _ => ⟨rfl, rfl⟩, fun _ h9 => absurd h9 hby, fun _ h9 => absurd h9 hby, Or.inl rfl⟩ hP hS dX6_findsBranch_145
                      · exact absurd c_137 (by decide)
                    · exact absurd c_120 (by decide)
                · exact absurd c_83 (by decide)
            · have hby := zif_1 c_54
              refine lv_iload_n hx hb dX6_findsBranch_57 rfl (lv_at hl 4 rfl) ?_
              refine lv_goto (tgt := 62) hx hb dX6_findsBranch_58 (by decide) ?_
              refine z_callV (As := [.int p1]) (rest := []) ⟨hx, hb, hml, hown, hts⟩ hG hK hP hD hS (c_X6_findsBranches l D cI cJ ob b1 b2 b3 b4 b5 bp bu bv bk bw n th gx gy sl x y h fd kd ln lo hi vl ps f1 f2 ky wh p1 (hok) (hgx) (hgy) (hfew) (z3_of hby)) (cwV 1 hts gX6_findsBranch_X6_findsBranches rfl rfl rfl (by decide +kernel) ⟨Nat.le_of_ble_eq_true rfl, Nat.le_of_ble_eq_true rfl⟩) [0, 1, 2, 3, 4, 5, 6, 7, 8, 9, 10] (by decide) rfl (fun _ => rfl) 0 rfl rfl rfl rfl hl.1 rfl (Nat.le_of_ble_eq_true rfl) dX6_findsBranch_62 ⟨Nat.le_of_ble_eq_true rfl, Nat.le_of_ble_eq_true rfl⟩ (fun u_33 H locs hu_34 hP hD hS => ?_)
              obtain ⟨fd2_35, ky2_36, wh2_37, ps3_38, x3_39, y3_40, h3_41⟩ := u_33
              have hu_34 : (fd2_35 = nI (zAll kd ln lo hi vl n gx gy sl p1).1) ∧ (zRW (zAll kd ln lo hi vl n gx gy sl p1).1 (zAll kd ln lo hi vl n gx gy sl p1).2.1 (zAll kd ln lo hi vl n gx gy sl p1).2.2 ky2_36 wh2_37) := hu_34
              obtain ⟨e_42, hrel2⟩ := hu_34
              subst e_42
              have hP : va_P D vwCl [(ob, .inr (6, [.int th, .int (nI n), .ref b1, .ref b2, .ref b3, .ref b4, .ref b5, .int gx, .int gy, .int sl, .ref bp, .int x3_39, .int y3_40, .int h3_41, .ref bu, .ref bv, .int (nI (zAll kd ln lo hi vl n gx gy sl p1).1), .ref bk, .ref bw])), (b1, .inl (cI, 5, .inl kd)), (b2, .inl (cI, 5, .inl ln)), (b3, .inl (cI, 5, .inl lo)), (b4, .inl (cI, 5, .inl hi)), (b5, .inl (cI, 5, .inl vl)), (bp, .inl (cI, 5, .inl ps3_38)), (bu, .inl (cI, 5, .inl f1)), (bv, .inl (cI, 5, .inl f2)), (bk, .inl (cJ, 10, .inr (.inl ky2_36))), (bw, .inl (cI, 10, .inl wh2_37))] H := hP
              have hD : va_D A0 [(ob, .inr (6, [.int th, .int (nI n), .ref b1, .ref b2, .ref b3, .ref b4, .ref b5, .int gx, .int gy, .int sl, .ref bp, .int x3_39, .int y3_40, .int h3_41, .ref bu, .ref bv, .int (nI (zAll kd ln lo hi vl n gx gy sl p1).1), .ref bk, .ref bw])), (b1, .inl (cI, 5, .inl kd)), (b2, .inl (cI, 5, .inl ln)), (b3, .inl (cI, 5, .inl lo)), (b4, .inl (cI, 5, .inl hi)), (b5, .inl (cI, 5, .inl vl)), (bp, .inl (cI, 5, .inl ps3_38)), (bu, .inl (cI, 5, .inl f1)), (bv, .inl (cI, 5, .inl f2)), (bk, .inl (cJ, 10, .inr (.inl ky2_36))), (bw, .inl (cI, 10, .inl wh2_37))] := hD
              refine lv_iload_n hx hb dX6_findsBranch_65 rfl (lv_at hl 3 rfl) ?_
              refine lv_aload_n hx hb dX6_findsBranch_66 rfl (lv_at hl 2 rfl) ?_
              refine va_get (D := D) (ci := 6) (v := .int (nI (zAll kd ln lo hi vl n gx gy sl p1).1)) (C := RX6) (T := TX6) (N := 19) hx hb hts hin6 hown hK hP 0 rfl rfl 16 (by decide) hf127 (fun _ h9 => h9) rfl dX6_findsBranch_67 ?_
              refine lv_icmp_ge (tgt := 77) hx hb dX6_findsBranch_70 (by decide) (fun c_70 => ?_) (fun c_70 => ?_)
              · have hfd : ¬ p0 < nI (zAll kd ln lo hi vl n gx gy sl p1).1 := (Int32.not_lt.mpr c_70)
                refine lv_iconst (v := 0) hx hb dX6_findsBranch_77 (by decide) ?_
                refine lv_istore (lv' := [(4, .int 0), (5, .int 1), (0, .ref ob), (1, .int p0), (2, .int p1), (3, .int u9)]) hx hb dX6_findsBranch_78 hl (by decide) rfl (fun ls hl => ?_)
                refine lv_aload_n hx hb dX6_findsBranch_80 rfl (lv_at hl 2 rfl) ?_
                refine lv_iload hx hb dX6_findsBranch_81 (lv_at hl 0 rfl) ?_
                refine lv_if_ne (tgt := 90) hx hb dX6_findsBranch_83 (by decide) (fun c_83 => ?_) (fun c_83 => ?_)
                · exact absurd (by decide) c_83
                · refine lv_iconst (v := 1) hx hb dX6_findsBranch_86 (by decide) ?_
                  refine lv_goto (tgt := 113) hx hb dX6_findsBranch_87 (by decide) ?_
                  refine va_put (D := D) (ci := 6) (v := .int 1) (ty := .int) (C := RX6) (T := TX6) (N := 19) hx hb hts hin6 tyX6 tyX6_ok nmX6 hown hK hP hD hS 0 rfl rfl 0 (by decide) hf45 (fun _ h9 => h9) rfl (by decide +kernel) rfl rfl (Nat.le_of_ble_eq_true rfl) dX6_findsBranch_113 (fun H locs hP hD hS => ?_)
                  have hP : va_P D vwCl [(ob, .inr (6, [.int 1, .int (nI n), .ref b1, .ref b2, .ref b3, .ref b4, .ref b5, .int gx, .int gy, .int sl, .ref bp, .int x3_39, .int y3_40, .int h3_41, .ref bu, .ref bv, .int (nI (zAll kd ln lo hi vl n gx gy sl p1).1), .ref bk, .ref bw])), (b1, .inl (cI, 5, .inl kd)), (b2, .inl (cI, 5, .inl ln)), (b3, .inl (cI, 5, .inl lo)), (b4, .inl (cI, 5, .inl hi)), (b5, .inl (cI, 5, .inl vl)), (bp, .inl (cI, 5, .inl ps3_38)), (bu, .inl (cI, 5, .inl f1)), (bv, .inl (cI, 5, .inl f2)), (bk, .inl (cJ, 10, .inr (.inl ky2_36))), (bw, .inl (cI, 10, .inl wh2_37))] H := hP
                  have hD : va_D A0 [(ob, .inr (6, [.int 1, .int (nI n), .ref b1, .ref b2, .ref b3, .ref b4, .ref b5, .int gx, .int gy, .int sl, .ref bp, .int x3_39, .int y3_40, .int h3_41, .ref bu, .ref bv, .int (nI (zAll kd ln lo hi vl n gx gy sl p1).1), .ref bk, .ref bw])), (b1, .inl (cI, 5, .inl kd)), (b2, .inl (cI, 5, .inl ln)), (b3, .inl (cI, 5, .inl lo)), (b4, .inl (cI, 5, .inl hi)), (b5, .inl (cI, 5, .inl vl)), (bp, .inl (cI, 5, .inl ps3_38)), (bu, .inl (cI, 5, .inl f1)), (bv, .inl (cI, 5, .inl f2)), (bk, .inl (cJ, 10, .inr (.inl ky2_36))), (bw, .inl (cI, 10, .inl wh2_37))] := hD
                  refine lv_aload_n hx hb dX6_findsBranch_116 rfl (lv_at hl 2 rfl) ?_
                  refine va_get (D := D) (ci := 6) (v := .int 1) (C := RX6) (T := TX6) (N := 19) hx hb hts hin6 hown hK hP 0 rfl rfl 0 (by decide) hf45 (fun _ h9 => h9) rfl dX6_findsBranch_117 ?_
                  refine lv_if_ne (tgt := 133) hx hb dX6_findsBranch_120 (by decide) (fun c_120 => ?_) (fun c_120 => ?_)
                  · refine lv_aload_n hx hb dX6_findsBranch_133 rfl (lv_at hl 2 rfl) ?_
                    refine va_get (D := D) (ci := 6) (v := .int 1) (C := RX6) (T := TX6) (N := 19) hx hb hts hin6 hown hK hP 0 rfl rfl 0 (by decide) hf45 (fun _ h9 => h9) rfl dX6_findsBranch_134 ?_
                    refine lv_if_ne (tgt := 144) hx hb dX6_findsBranch_137 (by decide) (fun c_137 => ?_) (fun c_137 => ?_)
                    · refine lv_iconst (v := 0) hx hb dX6_findsBranch_144 (by decide) ?_
                      exact hRet _ (0, 1, nI (zAll kd ln lo hi vl n gx gy sl p1).1, ky2_36, wh2_37, ps3_38, x3_39, y3_40, h3_41) _ _ _ ⟨fun _ => ⟨rfl, rfl⟩, fun _ h9 => absurd (h9 hfew) hfd, fun _ _ h9 => absurd hfew h9, fun _ _ _ h9 => absurd h9 hfd, Or.inl rfl⟩ hP hS dX6_findsBranch_145
                    · exact absurd c_137 (by decide)
                  · exact absurd c_120 (by decide)
              · have hfd : p0 < nI (zAll kd ln lo hi vl n gx gy sl p1).1 := (Int32.not_le.mp c_70)
                refine lv_iconst (v := 1) hx hb dX6_findsBranch_73 (by decide) ?_
                refine lv_goto (tgt := 78) hx hb dX6_findsBranch_74 (by decide) ?_
                refine lv_istore (lv' := [(4, .int 1), (5, .int 1), (0, .ref ob), (1, .int p0), (2, .int p1), (3, .int u9)]) hx hb dX6_findsBranch_78 hl (by decide) rfl (fun ls hl => ?_)
                refine lv_aload_n hx hb dX6_findsBranch_80 rfl (lv_at hl 2 rfl) ?_
                refine lv_iload hx hb dX6_findsBranch_81 (lv_at hl 0 rfl) ?_
                refine lv_if_ne (tgt := 90) hx hb dX6_findsBranch_83 (by decide) (fun c_83 => ?_) (fun c_83 => ?_)
                · refine lv_iload_n hx hb dX6_findsBranch_90 rfl (lv_at hl 4 rfl) ?_
                  refine lv_iconst (v := 0) hx hb dX6_findsBranch_91 (by decide) ?_
                  refine lv_iconst (v := 2) hx hb dX6_findsBranch_92 (by decide) ?_
                  refine z_callS (As := [.int p1, .int 0, .int 2]) (rest := [.ref ob]) ⟨hx, hb, hml, hown, hts⟩ hG hK hP hD hS (c_X6_in l D cI cJ p1 0 2 ) (va_cwS 3 hts gX6_findsBranch_X6_in rfl rfl rfl (by decide +kernel) ⟨Nat.le_of_ble_eq_true rfl, Nat.le_of_ble_eq_true rfl⟩) [] (by decide) rfl (fun _ => rfl) rfl hl.1 rfl (Nat.le_of_ble_eq_true rfl) dX6_findsBranch_93 ⟨Nat.le_of_ble_eq_true rfl, Nat.le_of_ble_eq_true rfl⟩ (fun u_43 H locs hu_44 hP hD hS => ?_)
                  obtain ⟨r_45, rfl⟩ : ∃ z, z = u_43 := ⟨_, rfl⟩
                  have hu_44 : (r_45 = if 0 ≤ p1 ∧ p1 ≤ 2 then 1 else 0) := hu_44
                  have e_46 := hu_44
                  subst e_46
                  have hP : va_P D vwCl [(ob, .inr (6, [.int th, .int (nI n), .ref b1, .ref b2, .ref b3, .ref b4, .ref b5, .int gx, .int gy, .int sl, .ref bp, .int x3_39, .int y3_40, .int h3_41, .ref bu, .ref bv, .int (nI (zAll kd ln lo hi vl n gx gy sl p1).1), .ref bk, .ref bw])), (b1, .inl (cI, 5, .inl kd)), (b2, .inl (cI, 5, .inl ln)), (b3, .inl (cI, 5, .inl lo)), (b4, .inl (cI, 5, .inl hi)), (b5, .inl (cI, 5, .inl vl)), (bp, .inl (cI, 5, .inl ps3_38)), (bu, .inl (cI, 5, .inl f1)), (bv, .inl (cI, 5, .inl f2)), (bk, .inl (cJ, 10, .inr (.inl ky2_36))), (bw, .inl (cI, 10, .inl wh2_37))] H := hP
                  have hD : va_D A0 [(ob, .inr (6, [.int th, .int (nI n), .ref b1, .ref b2, .ref b3, .ref b4, .ref b5, .int gx, .int gy, .int sl, .ref bp, .int x3_39, .int y3_40, .int h3_41, .ref bu, .ref bv, .int (nI (zAll kd ln lo hi vl n gx gy sl p1).1), .ref bk, .ref bw])), (b1, .inl (cI, 5, .inl kd)), (b2, .inl (cI, 5, .inl ln)), (b3, .inl (cI, 5, .inl lo)), (b4, .inl (cI, 5, .inl hi)), (b5, .inl (cI, 5, .inl vl)), (bp, .inl (cI, 5, .inl ps3_38)), (bu, .inl (cI, 5, .inl f1)), (bv, .inl (cI, 5, .inl f2)), (bk, .inl (cJ, 10, .inr (.inl ky2_36))), (bw, .inl (cI, 10, .inl wh2_37))] := hD
                  refine lv_if_ne (tgt := 103) hx hb dX6_findsBranch_96 (by decide) (fun c_96 => ?_) (fun c_96 => ?_)
                  · refine lv_iload hx hb dX6_findsBranch_103 (lv_at hl 1 rfl) ?_
                    refine lv_if_eq (tgt := 112) hx hb dX6_findsBranch_105 (by decide) (fun c_105 => ?_) (fun c_105 => ?_)
                    · exact absurd c_105 (by decide)
                    · refine lv_iconst (v := 0) hx hb dX6_findsBranch_108 (by decide) ?_
                      refine lv_goto (tgt := 113) hx hb dX6_findsBranch_109 (by decide) ?_
                      refine va_put (D := D) (ci := 6) (v := .int 0) (ty := .int) (C := RX6) (T := TX6) (N := 19) hx hb hts hin6 tyX6 tyX6_ok nmX6 hown hK hP hD hS 0 rfl rfl 0 (by decide) hf45 (fun _ h9 => h9) rfl (by decide +kernel) rfl rfl (Nat.le_of_ble_eq_true rfl) dX6_findsBranch_113 (fun H locs hP hD hS => ?_)
                      have hP : va_P D vwCl [(ob, .inr (6, [.int 0, .int (nI n), .ref b1, .ref b2, .ref b3, .ref b4, .ref b5, .int gx, .int gy, .int sl, .ref bp, .int x3_39, .int y3_40, .int h3_41, .ref bu, .ref bv, .int (nI (zAll kd ln lo hi vl n gx gy sl p1).1), .ref bk, .ref bw])), (b1, .inl (cI, 5, .inl kd)), (b2, .inl (cI, 5, .inl ln)), (b3, .inl (cI, 5, .inl lo)), (b4, .inl (cI, 5, .inl hi)), (b5, .inl (cI, 5, .inl vl)), (bp, .inl (cI, 5, .inl ps3_38)), (bu, .inl (cI, 5, .inl f1)), (bv, .inl (cI, 5, .inl f2)), (bk, .inl (cJ, 10, .inr (.inl ky2_36))), (bw, .inl (cI, 10, .inl wh2_37))] H := hP
                      have hD : va_D A0 [(ob, .inr (6, [.int 0, .int (nI n), .ref b1, .ref b2, .ref b3, .ref b4, .ref b5, .int gx, .int gy, .int sl, .ref bp, .int x3_39, .int y3_40, .int h3_41, .ref bu, .ref bv, .int (nI (zAll kd ln lo hi vl n gx gy sl p1).1), .ref bk, .ref bw])), (b1, .inl (cI, 5, .inl kd)), (b2, .inl (cI, 5, .inl ln)), (b3, .inl (cI, 5, .inl lo)), (b4, .inl (cI, 5, .inl hi)), (b5, .inl (cI, 5, .inl vl)), (bp, .inl (cI, 5, .inl ps3_38)), (bu, .inl (cI, 5, .inl f1)), (bv, .inl (cI, 5, .inl f2)), (bk, .inl (cJ, 10, .inr (.inl ky2_36))), (bw, .inl (cI, 10, .inl wh2_37))] := hD
                      refine lv_aload_n hx hb dX6_findsBranch_116 rfl (lv_at hl 2 rfl) ?_
                      refine va_get (D := D) (ci := 6) (v := .int 0) (C := RX6) (T := TX6) (N := 19) hx hb hts hin6 hown hK hP 0 rfl rfl 0 (by decide) hf45 (fun _ h9 => h9) rfl dX6_findsBranch_117 ?_
                      refine lv_if_ne (tgt := 133) hx hb dX6_findsBranch_120 (by decide) (fun c_120 => ?_) (fun c_120 => ?_)
                      · exact absurd (by decide) c_120
                      · obtain ⟨q9, hq9, hqe⟩ := zR10_of hr10
                        subst hqe
                        have hcq : (nI q9).toNatClampNeg = q9 := nI_clamp (by omega)
                        have hle9 := zAll_le (kd := kd) (ln := ln) (lo := lo) (hi := hi) (vl := vl) (n := n) (gx := gx) (gy := gy) (sl := sl) (bq := p1)
                        have hfq9 : q9 < (zAll kd ln lo hi vl n gx gy sl p1).1 := (nI_ltI (by omega) (by omega)).mp hfd
                        have htg := zAll_tag (kd := kd) (ln := ln) (lo := lo) (hi := hi) (vl := vl) (n := n) (gx := gx) (gy := gy) (sl := sl) (bq := p1) q9 hfq9 hq9
                        refine lv_aload_n hx hb dX6_findsBranch_123 rfl (lv_at hl 2 rfl) ?_
                        refine lv_aload_n hx hb dX6_findsBranch_124 rfl (lv_at hl 2 rfl) ?_
                        refine va_get (D := D) (ci := 6) (v := .ref bw) (C := RX6) (T := TX6) (N := 19) hx hb hts hin6 hown hK hP 0 rfl rfl 18 (by decide) hf42 (fun _ h9 => h9) rfl dX6_findsBranch_125 ?_
                        refine lv_iload_n hx hb dX6_findsBranch_128 rfl (lv_at hl 3 rfl) ?_
                        refine z_iald hx hb hK hP 10 rfl (j := q9) (by omega) (by decide) dX6_findsBranch_129 ?_
                        refine z_topi (y := nI ((zAll kd ln lo hi vl n gx gy sl p1).2.2 q9)) (hrel2 q9 hfq9 hq9).2 ?_
                        refine z_callV (As := [.int (nI ((zAll kd ln lo hi vl n gx gy sl p1).2.2 q9))]) (rest := []) ⟨hx, hb, hml, hown, hts⟩ hG hK hP hD hS (c_X6_makesPose l D cI cJ ob b1 b2 b3 b4 b5 bp bu bv bk bw n 0 gx gy sl x3_39 y3_40 h3_41 (nI (zAll kd ln lo hi vl n gx gy sl p1).1) kd ln lo hi vl ps3_38 f1 f2 ky2_36 wh2_37 ((zAll kd ln lo hi vl n gx gy sl p1).2.2 q9) (hok) (by omega)) (cwV 1 hts gX6_findsBranch_X6_makesPose rfl rfl rfl (by decide +kernel) ⟨Nat.le_of_ble_eq_true rfl, Nat.le_of_ble_eq_true rfl⟩) [0, 1, 2, 3, 4, 5, 6, 7, 8, 9, 10] (by decide) rfl (fun _ => rfl) 0 rfl rfl rfl rfl hl.1 rfl (Nat.le_of_ble_eq_true rfl) dX6_findsBranch_130 ⟨Nat.le_of_ble_eq_true rfl, Nat.le_of_ble_eq_true rfl⟩ (fun u_47 H locs hu_48 hP hD hS => ?_)
                        obtain ⟨pz, rfl⟩ : ∃ z, z = u_47 := ⟨_, rfl⟩
                        have hu_48 : (∀ j, j < n → pz j = zPk lo hi n ((zAll kd ln lo hi vl n gx gy sl p1).2.2 q9) j) := hu_48
                        have hpz := hu_48
                        have hP : va_P D vwCl [(ob, .inr (6, [.int 0, .int (nI n), .ref b1, .ref b2, .ref b3, .ref b4, .ref b5, .int gx, .int gy, .int sl, .ref bp, .int x3_39, .int y3_40, .int h3_41, .ref bu, .ref bv, .int (nI (zAll kd ln lo hi vl n gx gy sl p1).1), .ref bk, .ref bw])), (b1, .inl (cI, 5, .inl kd)), (b2, .inl (cI, 5, .inl ln)), (b3, .inl (cI, 5, .inl lo)), (b4, .inl (cI, 5, .inl hi)), (b5, .inl (cI, 5, .inl vl)), (bp, .inl (cI, 5, .inl pz)), (bu, .inl (cI, 5, .inl f1)), (bv, .inl (cI, 5, .inl f2)), (bk, .inl (cJ, 10, .inr (.inl ky2_36))), (bw, .inl (cI, 10, .inl wh2_37))] H := hP
                        have hD : va_D A0 [(ob, .inr (6, [.int 0, .int (nI n), .ref b1, .ref b2, .ref b3, .ref b4, .ref b5, .int gx, .int gy, .int sl, .ref bp, .int x3_39, .int y3_40, .int h3_41, .ref bu, .ref bv, .int (nI (zAll kd ln lo hi vl n gx gy sl p1).1), .ref bk, .ref bw])), (b1, .inl (cI, 5, .inl kd)), (b2, .inl (cI, 5, .inl ln)), (b3, .inl (cI, 5, .inl lo)), (b4, .inl (cI, 5, .inl hi)), (b5, .inl (cI, 5, .inl vl)), (bp, .inl (cI, 5, .inl pz)), (bu, .inl (cI, 5, .inl f1)), (bv, .inl (cI, 5, .inl f2)), (bk, .inl (cJ, 10, .inr (.inl ky2_36))), (bw, .inl (cI, 10, .inl wh2_37))] := hD
                        refine lv_aload_n hx hb dX6_findsBranch_133 rfl (lv_at hl 2 rfl) ?_
                        refine va_get (D := D) (ci := 6) (v := .int 0) (C := RX6) (T := TX6) (N := 19) hx hb hts hin6 hown hK hP 0 rfl rfl 0 (by decide) hf45 (fun _ h9 => h9) rfl dX6_findsBranch_134 ?_
                        refine lv_if_ne (tgt := 144) hx hb dX6_findsBranch_137 (by decide) (fun c_137 => ?_) (fun c_137 => ?_)
                        · exact absurd (by decide) c_137
                        · refine lv_iconst (v := 1) hx hb dX6_findsBranch_140 (by decide) ?_
                          refine lv_goto (tgt := 145) hx hb dX6_findsBranch_141 (by decide) ?_
                          exact hRet _ (1, 0, nI (zAll kd ln lo hi vl n gx gy sl p1).1, ky2_36, wh2_37, pz, x3_39, y3_40, h3_41) _ _ _ ⟨fun h9 => h9.elim (fun h8 => absurd his h8) (fun h8 => absurd hfd h8.2), fun _ _ h9 => absurd hby h9, fun _ _ h9 => absurd hfew h9, fun _ _ _ _ => ⟨rfl, rfl, by rw [hcq]; exact hpz⟩, Or.inr rfl⟩ hP hS dX6_findsBranch_145
                  · exact absurd hby (zif_0 c_96)
                · exact absurd c_83 (by decide)
