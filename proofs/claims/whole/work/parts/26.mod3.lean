set_option maxHeartbeats 4000000 in
set_option maxRecDepth 100000 in
theorem c_X6_freedom (l : Launch) (D : va_G) (cI cJ : ClassId) (ob : Nat) (b1 : Nat) (b2 : Nat) (b3 : Nat) (b4 : Nat) (b5 : Nat) (bp : Nat) (bu : Nat) (bv : Nat) (bk : Nat) (bw : Nat) (n : Nat) (th : Int32) (gx : Int32) (gy : Int32) (sl : Int32) (x : Int32) (y : Int32) (h : Int32) (fd : Int32) (kd : Nat → Int32) (ln : Nat → Int32) (lo : Nat → Int32) (hi : Nat → Int32) (vl : Nat → Int32) (ps : Nat → Int32) (f1 : Nat → Int32) (f2 : Nat → Int32) (ky : Nat → Int64) (wh : Nat → Int32) (hok : zOk n kd ln lo hi vl) : zM l yX6_freedom wsX6_freedom 5 D cI cJ [.ref ob] [(ob, .inr (6, [.int th, .int (nI n), .ref b1, .ref b2, .ref b3, .ref b4, .ref b5, .int gx, .int gy, .int sl, .ref bp, .int x, .int y, .int h, .ref bu, .ref bv, .int fd, .ref bk, .ref bw])), (b1, .inl (cI, 5, .inl kd)), (b2, .inl (cI, 5, .inl ln)), (b3, .inl (cI, 5, .inl lo)), (b4, .inl (cI, 5, .inl hi)), (b5, .inl (cI, 5, .inl vl)), (bp, .inl (cI, 5, .inl ps)), (bu, .inl (cI, 5, .inl f1)), (bv, .inl (cI, 5, .inl f2)), (bk, .inl (cJ, 10, .inr (.inl ky))), (bw, .inl (cI, 10, .inl wh))] (fun (u : Int64 × (Nat → Int32) × (Nat → Int32) × (Nat → Int32) × Int32 × Int32 × Int32) => (zFree kd ln vl n u.1)) (fun (u : Int64 × (Nat → Int32) × (Nat → Int32) × (Nat → Int32) × Int32 × Int32 × Int32) => some (.long u.1)) (fun (u : Int64 × (Nat → Int32) × (Nat → Int32) × (Nat → Int32) × Int32 × Int32 × Int32) => [(ob, .inr (6, [.int 0, .int (nI n), .ref b1, .ref b2, .ref b3, .ref b4, .ref b5, .int gx, .int gy, .int sl, .ref bp, .int u.2.2.2.2.1, .int u.2.2.2.2.2.1, .int u.2.2.2.2.2.2, .ref bu, .ref bv, .int fd, .ref bk, .ref bw])), (b1, .inl (cI, 5, .inl kd)), (b2, .inl (cI, 5, .inl ln)), (b3, .inl (cI, 5, .inl lo)), (b4, .inl (cI, 5, .inl hi)), (b5, .inl (cI, 5, .inl vl)), (bp, .inl (cI, 5, .inl u.2.2.2.1)), (bu, .inl (cI, 5, .inl u.2.1)), (bv, .inl (cI, 5, .inl u.2.2.1)), (bk, .inl (cJ, 10, .inr (.inl ky))), (bw, .inl (cI, 10, .inl wh))]) := by
  refine zM_l (cc := cX6_freedom) (maxL := 7) (r := fun (u : Int64 × (Nat → Int32) × (Nat → Int32) × (Nat → Int32) × Int32 × Int32 × Int32) => u.1) (by decide) rfl (Nat.le_of_ble_eq_true rfl) ?_
  intro p e s m args below meth c ls A0 Q C hl hP hS hRet
  obtain ⟨⟨hx, hb, hml, hown, hts⟩, hG, hK, hD, hlocks⟩ := C
  have hin6 : ∀ w ∈ u_ws RX6 TX6 19, w ∈ wsX6_freedom := by decide +kernel
  have hf45 := hts (.fieldLink RX6 45 "ArmRoomModel" "thrown" "I") (by decide +kernel)
  have hf48 := hts (.fieldLink RX6 48 "ArmRoomModel" "joints" "I") (by decide +kernel)
  have hf32 := hts (.fieldLink RX6 32 "ArmRoomModel" "moveX" "[I") (by decide +kernel)
  have hf35 := hts (.fieldLink RX6 35 "ArmRoomModel" "moveY" "[I") (by decide +kernel)
  have hl : lv_has ls 7 [(0, .ref ob)] := hl
  have hn := hok.1
  refine lv_aload_n hx hb dX6_freedom_0 rfl (lv_at hl 0 rfl) ?_
  refine lv_iconst (v := 0) hx hb dX6_freedom_1 (by decide) ?_
  refine va_put (D := D) (ci := 6) (v := .int 0) (ty := .int) (C := RX6) (T := TX6) (N := 19) hx hb hts hin6 tyX6 tyX6_ok nmX6 hown hK hP hD hS 0 rfl rfl 0 (by decide) hf45 (fun _ h9 => h9) rfl (by decide +kernel) rfl rfl (Nat.le_of_ble_eq_true rfl) dX6_freedom_2 (fun H locs hP hD hS => ?_)
  have hP : va_P D vwCl [(ob, .inr (6, [.int 0, .int (nI n), .ref b1, .ref b2, .ref b3, .ref b4, .ref b5, .int gx, .int gy, .int sl, .ref bp, .int x, .int y, .int h, .ref bu, .ref bv, .int fd, .ref bk, .ref bw])), (b1, .inl (cI, 5, .inl kd)), (b2, .inl (cI, 5, .inl ln)), (b3, .inl (cI, 5, .inl lo)), (b4, .inl (cI, 5, .inl hi)), (b5, .inl (cI, 5, .inl vl)), (bp, .inl (cI, 5, .inl ps)), (bu, .inl (cI, 5, .inl f1)), (bv, .inl (cI, 5, .inl f2)), (bk, .inl (cJ, 10, .inr (.inl ky))), (bw, .inl (cI, 10, .inl wh))] H := hP
  have hD : va_D A0 [(ob, .inr (6, [.int 0, .int (nI n), .ref b1, .ref b2, .ref b3, .ref b4, .ref b5, .int gx, .int gy, .int sl, .ref bp, .int x, .int y, .int h, .ref bu, .ref bv, .int fd, .ref bk, .ref bw])), (b1, .inl (cI, 5, .inl kd)), (b2, .inl (cI, 5, .inl ln)), (b3, .inl (cI, 5, .inl lo)), (b4, .inl (cI, 5, .inl hi)), (b5, .inl (cI, 5, .inl vl)), (bp, .inl (cI, 5, .inl ps)), (bu, .inl (cI, 5, .inl f1)), (bv, .inl (cI, 5, .inl f2)), (bk, .inl (cJ, 10, .inr (.inl ky))), (bw, .inl (cI, 10, .inl wh))] := hD
  refine lv_aload_n hx hb dX6_freedom_5 rfl (lv_at hl 0 rfl) ?_
  refine z_callV (As := []) (rest := []) ⟨hx, hb, hml, hown, hts⟩ hG hK hP hD hS (c_X6_findsMoves l D cI cJ ob b1 b2 b3 b4 b5 bp bu bv bk bw n 0 gx gy sl x y h fd kd ln lo hi vl ps f1 f2 ky wh (by first | assumption | omega | decide)) (cwV 0 hts gX6_freedom_X6_findsMoves rfl rfl rfl (by decide +kernel) ⟨Nat.le_of_ble_eq_true rfl, Nat.le_of_ble_eq_true rfl⟩) [0, 1, 2, 3, 4, 5, 6, 7, 8, 9, 10] (by decide) rfl (fun _ => rfl) 0 rfl rfl rfl rfl hl.1 rfl (Nat.le_of_ble_eq_true rfl) dX6_freedom_6 ⟨Nat.le_of_ble_eq_true rfl, Nat.le_of_ble_eq_true rfl⟩ (fun u_1 H locs hu_2 hP hD hS => ?_)
  obtain ⟨f5, f6, pq, xa, ya, ha⟩ := u_1
  have hu_2 : (∀ j, j < n → f5 j = zMx kd ln vl n j) ∧ (∀ j, j < n → f6 j = zMy kd ln vl n j) := hu_2
  obtain ⟨ef5, ef6⟩ := hu_2
  have hP : va_P D vwCl [(ob, .inr (6, [.int 0, .int (nI n), .ref b1, .ref b2, .ref b3, .ref b4, .ref b5, .int gx, .int gy, .int sl, .ref bp, .int xa, .int ya, .int ha, .ref bu, .ref bv, .int fd, .ref bk, .ref bw])), (b1, .inl (cI, 5, .inl kd)), (b2, .inl (cI, 5, .inl ln)), (b3, .inl (cI, 5, .inl lo)), (b4, .inl (cI, 5, .inl hi)), (b5, .inl (cI, 5, .inl vl)), (bp, .inl (cI, 5, .inl pq)), (bu, .inl (cI, 5, .inl f5)), (bv, .inl (cI, 5, .inl f6)), (bk, .inl (cJ, 10, .inr (.inl ky))), (bw, .inl (cI, 10, .inl wh))] H := hP
  have hD : va_D A0 [(ob, .inr (6, [.int 0, .int (nI n), .ref b1, .ref b2, .ref b3, .ref b4, .ref b5, .int gx, .int gy, .int sl, .ref bp, .int xa, .int ya, .int ha, .ref bu, .ref bv, .int fd, .ref bk, .ref bw])), (b1, .inl (cI, 5, .inl kd)), (b2, .inl (cI, 5, .inl ln)), (b3, .inl (cI, 5, .inl lo)), (b4, .inl (cI, 5, .inl hi)), (b5, .inl (cI, 5, .inl vl)), (bp, .inl (cI, 5, .inl pq)), (bu, .inl (cI, 5, .inl f5)), (bv, .inl (cI, 5, .inl f6)), (bk, .inl (cJ, 10, .inr (.inl ky))), (bw, .inl (cI, 10, .inl wh))] := hD
  refine lv_lconst (v := 0) hx hb dX6_freedom_9 (by decide) ?_
  refine lv_lstore_n (lv' := [(1, .long 0), (0, .ref ob)]) hx hb dX6_freedom_10 rfl hl (by decide) rfl (fun ls hl => ?_)
  refine lv_iconst (v := 0) hx hb dX6_freedom_11 (by decide) ?_
  refine lv_istore_n (lv' := [(3, .int 0), (1, .long 0), (0, .ref ob)]) hx hb dX6_freedom_12 rfl hl (by decide) rfl (fun ls hl => ?_)
  have lp_13_3 : ∀ (fu : Nat) (i : Nat) (q : Int64), (i ≤ n) → (zFr (fun i' j' => (i' < j' ∧ j' < n) ∧ j' < i) f5 f6 q) → (n - i < fu) → ∀ (H : Heap) (locs : List Loc), va_P D vwCl [(ob, .inr (6, [.int 0, .int (nI n), .ref b1, .ref b2, .ref b3, .ref b4, .ref b5, .int gx, .int gy, .int sl, .ref bp, .int xa, .int ya, .int ha, .ref bu, .ref bv, .int fd, .ref bk, .ref bw])), (b1, .inl (cI, 5, .inl kd)), (b2, .inl (cI, 5, .inl ln)), (b3, .inl (cI, 5, .inl lo)), (b4, .inl (cI, 5, .inl hi)), (b5, .inl (cI, 5, .inl vl)), (bp, .inl (cI, 5, .inl pq)), (bu, .inl (cI, 5, .inl f5)), (bv, .inl (cI, 5, .inl f6)), (bk, .inl (cJ, 10, .inr (.inl ky))), (bw, .inl (cI, 10, .inl wh))] H → va_D A0 [(ob, .inr (6, [.int 0, .int (nI n), .ref b1, .ref b2, .ref b3, .ref b4, .ref b5, .int gx, .int gy, .int sl, .ref bp, .int xa, .int ya, .int ha, .ref bu, .ref bv, .int fd, .ref bk, .ref bw])), (b1, .inl (cI, 5, .inl kd)), (b2, .inl (cI, 5, .inl ln)), (b3, .inl (cI, 5, .inl lo)), (b4, .inl (cI, 5, .inl hi)), (b5, .inl (cI, 5, .inl vl)), (bp, .inl (cI, 5, .inl pq)), (bu, .inl (cI, 5, .inl f5)), (bv, .inl (cI, 5, .inl f6)), (bk, .inl (cJ, 10, .inr (.inl ky))), (bw, .inl (cI, 10, .inl wh))] → va_S A0 s.heap H locs → ∀ (ls : Array Slot), lv_has ls 7 [(0, .ref ob), (1, .long q), (3, .int (nI i))] → W p l e (zRm 5 0 0) s m args below meth c H locs 0 0 Q (F0 m 13 ls []) := by
    intro fu
    induction fu with
    | zero => intro i q hi1 hq hfu; exact absurd hfu (Nat.not_lt_zero _)
    | succ fu ih_13_3 =>
      intro i q hi1 hq hfu H locs hP hD hS ls hl
      refine lv_iload_n hx hb dX6_freedom_13 rfl (lv_at hl 2 rfl) ?_
      refine lv_aload_n hx hb dX6_freedom_14 rfl (lv_at hl 0 rfl) ?_
      refine va_get (D := D) (ci := 6) (v := .int (nI n)) (C := RX6) (T := TX6) (N := 19) hx hb hts hin6 hown hK hP 0 rfl rfl 1 (by decide) hf48 (fun _ h9 => h9) rfl dX6_freedom_15 ?_
      refine lv_icmp_ge (tgt := 108) hx hb dX6_freedom_18 (by decide) (fun c_18 => ?_) (fun c_18 => ?_)
      · rw [nI_leI (by omega) (by omega)] at c_18
        obtain rfl : n = i := by omega
        refine lv_lload_n hx hb dX6_freedom_108 rfl (lv_at hl 1 rfl) ?_
        exact hRet _ (q, f5, f6, pq, xa, ya, ha) _ _ _ (zFr_congr ef5 ef6 (fun i j h => by omega) (zFr_iff (fun i' j' => by omega) hq)) hP hS dX6_freedom_109
      · rw [nI_leI (by omega) (by omega)] at c_18
        refine lv_iconst (v := 0) hx hb dX6_freedom_21 (by decide) ?_
        refine lv_istore (lv' := [(4, .int 0), (0, .ref ob), (1, .long q), (3, .int (nI i))]) hx hb dX6_freedom_22 hl (by decide) rfl (fun ls hl => ?_)
        have lp_24_4 : ∀ (fu : Nat) (j : Nat) (q2 : Int64), (j ≤ i ∧ i < n) → (zFr (fun i' j' => (i' < j' ∧ j' < n) ∧ (j' < i ∨ (j' = i ∧ i' < j))) f5 f6 q2) → (i - j < fu) → ∀ (H : Heap) (locs : List Loc), va_P D vwCl [(ob, .inr (6, [.int 0, .int (nI n), .ref b1, .ref b2, .ref b3, .ref b4, .ref b5, .int gx, .int gy, .int sl, .ref bp, .int xa, .int ya, .int ha, .ref bu, .ref bv, .int fd, .ref bk, .ref bw])), (b1, .inl (cI, 5, .inl kd)), (b2, .inl (cI, 5, .inl ln)), (b3, .inl (cI, 5, .inl lo)), (b4, .inl (cI, 5, .inl hi)), (b5, .inl (cI, 5, .inl vl)), (bp, .inl (cI, 5, .inl pq)), (bu, .inl (cI, 5, .inl f5)), (bv, .inl (cI, 5, .inl f6)), (bk, .inl (cJ, 10, .inr (.inl ky))), (bw, .inl (cI, 10, .inl wh))] H → va_D A0 [(ob, .inr (6, [.int 0, .int (nI n), .ref b1, .ref b2, .ref b3, .ref b4, .ref b5, .int gx, .int gy, .int sl, .ref bp, .int xa, .int ya, .int ha, .ref bu, .ref bv, .int fd, .ref bk, .ref bw])), (b1, .inl (cI, 5, .inl kd)), (b2, .inl (cI, 5, .inl ln)), (b3, .inl (cI, 5, .inl lo)), (b4, .inl (cI, 5, .inl hi)), (b5, .inl (cI, 5, .inl vl)), (bp, .inl (cI, 5, .inl pq)), (bu, .inl (cI, 5, .inl f5)), (bv, .inl (cI, 5, .inl f6)), (bk, .inl (cJ, 10, .inr (.inl ky))), (bw, .inl (cI, 10, .inl wh))] → va_S A0 s.heap H locs → ∀ (ls : Array Slot), lv_has ls 7 [(0, .ref ob), (1, .long q2), (3, .int (nI i)), (4, .int (nI j))] → W p l e (zRm 5 0 0) s m args below meth c H locs 0 0 Q (F0 m 24 ls []) := by
          intro fu
          induction fu with
          | zero => intro j q2 hj1 hq2 hfu; exact absurd hfu (Nat.not_lt_zero _)
          | succ fu ih_24_4 =>
            intro j q2 hj1 hq2 hfu H locs hP hD hS ls hl
            refine lv_iload hx hb dX6_freedom_24 (lv_at hl 3 rfl) ?_
            refine lv_iload_n hx hb dX6_freedom_26 rfl (lv_at hl 2 rfl) ?_
            refine lv_icmp_ge (tgt := 102) hx hb dX6_freedom_27 (by decide) (fun c_27 => ?_) (fun c_27 => ?_)
            · rw [nI_leI (by omega) (by omega)] at c_27
              obtain rfl : i = j := by omega
              refine lv_iinc (v := nI (i + 1)) (lv' := [(3, .int (nI (i + 1))), (0, .ref ob), (1, .long q2), (4, .int (nI i))]) hx hb dX6_freedom_102 hl (k := 2) rfl ((nI_succ _).symm) (by decide) rfl (fun ls hl => ?_)
              refine lv_goto (tgt := 13) hx hb dX6_freedom_105 (by decide) ?_
              exact ih_13_3 (i + 1) q2 (by first | assumption | omega | rfl | simp_all) (zFr_iff (fun i' j' => by omega) hq2) (by omega) _ _ hP hD hS _ (lv_sub hl [1, 2, 0] rfl)
            · rw [nI_leI (by omega) (by omega)] at c_27
              refine lv_aload_n hx hb dX6_freedom_30 rfl (lv_at hl 0 rfl) ?_
              refine va_get (D := D) (ci := 6) (v := .ref bu) (C := RX6) (T := TX6) (N := 19) hx hb hts hin6 hown hK hP 0 rfl rfl 14 (by decide) hf32 (fun _ h9 => h9) rfl dX6_freedom_31 ?_
              refine lv_iload_n hx hb dX6_freedom_34 rfl (lv_at hl 2 rfl) ?_
              refine z_iald hx hb hK hP 7 rfl (j := i) (by omega) (by decide) dX6_freedom_35 ?_
              refine lv_i2l (v := (f5 i).toInt64) hx hb dX6_freedom_36 rfl ?_
              refine lv_aload_n hx hb dX6_freedom_37 rfl (lv_at hl 0 rfl) ?_
              refine va_get (D := D) (ci := 6) (v := .ref bv) (C := RX6) (T := TX6) (N := 19) hx hb hts hin6 hown hK hP 0 rfl rfl 15 (by decide) hf35 (fun _ h9 => h9) rfl dX6_freedom_38 ?_
              refine lv_iload hx hb dX6_freedom_41 (lv_at hl 3 rfl) ?_
              refine z_iald hx hb hK hP 8 rfl (j := j) (by omega) (by decide) dX6_freedom_43 ?_
              refine lv_i2l (v := (f6 j).toInt64) hx hb dX6_freedom_44 rfl ?_
              refine lv_lmul hx hb dX6_freedom_45 ?_
              refine lv_aload_n hx hb dX6_freedom_46 rfl (lv_at hl 0 rfl) ?_
              refine va_get (D := D) (ci := 6) (v := .ref bv) (C := RX6) (T := TX6) (N := 19) hx hb hts hin6 hown hK hP 0 rfl rfl 15 (by decide) hf35 (fun _ h9 => h9) rfl dX6_freedom_47 ?_
              refine lv_iload_n hx hb dX6_freedom_50 rfl (lv_at hl 2 rfl) ?_
              refine z_iald hx hb hK hP 8 rfl (j := i) (by omega) (by decide) dX6_freedom_51 ?_
              refine lv_i2l (v := (f6 i).toInt64) hx hb dX6_freedom_52 rfl ?_
              refine lv_aload_n hx hb dX6_freedom_53 rfl (lv_at hl 0 rfl) ?_
              refine va_get (D := D) (ci := 6) (v := .ref bu) (C := RX6) (T := TX6) (N := 19) hx hb hts hin6 hown hK hP 0 rfl rfl 14 (by decide) hf32 (fun _ h9 => h9) rfl dX6_freedom_54 ?_
              refine lv_iload hx hb dX6_freedom_57 (lv_at hl 3 rfl) ?_
              refine z_iald hx hb hK hP 7 rfl (j := j) (by omega) (by decide) dX6_freedom_59 ?_
              refine lv_i2l (v := (f5 j).toInt64) hx hb dX6_freedom_60 rfl ?_
              refine lv_lmul hx hb dX6_freedom_61 ?_
              refine lv_lsub hx hb dX6_freedom_62 ?_
              refine lv_lstore (lv' := [(5, .long ((((f5 i).toInt64) * ((f6 j).toInt64)) - (((f6 i).toInt64) * ((f5 j).toInt64)))), (0, .ref ob), (1, .long q2), (3, .int (nI i)), (4, .int (nI j))]) hx hb dX6_freedom_63 hl (by decide) rfl (fun ls hl => ?_)
              refine lv_lload hx hb dX6_freedom_65 (lv_at hl 0 rfl) ?_
              refine lv_lconst (v := 0) hx hb dX6_freedom_67 (by decide) ?_
              refine W.lcmp hx hb dX6_freedom_68 ?_
              refine lv_if_ge (tgt := 78) hx hb dX6_freedom_69 (by decide) (fun c_69 => ?_) (fun c_69 => ?_)
              · rw [lg_cmp_ge] at c_69
                refine lv_lload hx hb dX6_freedom_78 (lv_at hl 0 rfl) ?_
                refine lv_lstore (lv' := [(5, .long ((((f5 i).toInt64) * ((f6 j).toInt64)) - (((f6 i).toInt64) * ((f5 j).toInt64)))), (0, .ref ob), (1, .long q2), (3, .int (nI i)), (4, .int (nI j))]) hx hb dX6_freedom_80 hl (by decide) rfl (fun ls hl => ?_)
                refine lv_lload hx hb dX6_freedom_82 (lv_at hl 0 rfl) ?_
                refine lv_lload_n hx hb dX6_freedom_84 rfl (lv_at hl 2 rfl) ?_
                refine W.lcmp hx hb dX6_freedom_85 ?_
                refine lv_if_le (tgt := 94) hx hb dX6_freedom_86 (by decide) (fun c_86 => ?_) (fun c_86 => ?_)
                · rw [lg_cmp_le] at c_86
                  refine lv_lload_n hx hb dX6_freedom_94 rfl (lv_at hl 2 rfl) ?_
                  refine lv_lstore_n (lv' := [(1, .long q2), (5, .long ((((f5 i).toInt64) * ((f6 j).toInt64)) - (((f6 i).toInt64) * ((f5 j).toInt64)))), (0, .ref ob), (3, .int (nI i)), (4, .int (nI j))]) hx hb dX6_freedom_95 rfl hl (by decide) rfl (fun ls hl => ?_)
                  refine lv_iinc (v := nI (j + 1)) (lv' := [(4, .int (nI (j + 1))), (1, .long q2), (5, .long ((((f5 i).toInt64) * ((f6 j).toInt64)) - (((f6 i).toInt64) * ((f5 j).toInt64)))), (0, .ref ob), (3, .int (nI i))]) hx hb dX6_freedom_96 hl (k := 4) rfl ((nI_succ _).symm) (by decide) rfl (fun ls hl => ?_)
                  refine lv_goto (tgt := 24) hx hb dX6_freedom_99 (by decide) ?_
                  exact ih_24_4 (j + 1) q2 (by first | assumption | omega | rfl | simp_all) (zFr_max (x := (((f5 i).toInt64) * ((f6 j).toInt64)) - (((f6 i).toInt64) * ((f5 j).toInt64))) (i := j) (j := i) hq2 (by rw [← zCr_swap f5 f6 i j]; first | exact (if_neg (Int64.not_lt.mpr c_69)).symm | exact (if_pos (Int64.not_le.mp c_69)).symm) (fun i' j' => by omega) (by first | exact Or.inl ⟨rfl, c_86⟩ | exact Or.inr ⟨rfl, c_86⟩)) (by omega) _ _ hP hD hS _ (lv_sub hl [3, 1, 4, 0] rfl)
                · rw [lg_cmp_le] at c_86
                  refine lv_lload hx hb dX6_freedom_89 (lv_at hl 0 rfl) ?_
                  refine lv_goto (tgt := 95) hx hb dX6_freedom_91 (by decide) ?_
                  refine lv_lstore_n (lv' := [(1, .long ((((f5 i).toInt64) * ((f6 j).toInt64)) - (((f6 i).toInt64) * ((f5 j).toInt64)))), (5, .long ((((f5 i).toInt64) * ((f6 j).toInt64)) - (((f6 i).toInt64) * ((f5 j).toInt64)))), (0, .ref ob), (3, .int (nI i)), (4, .int (nI j))]) hx hb dX6_freedom_95 rfl hl (by decide) rfl (fun ls hl => ?_)
                  refine lv_iinc (v := nI (j + 1)) (lv' := [(4, .int (nI (j + 1))), (1, .long ((((f5 i).toInt64) * ((f6 j).toInt64)) - (((f6 i).toInt64) * ((f5 j).toInt64)))), (5, .long ((((f5 i).toInt64) * ((f6 j).toInt64)) - (((f6 i).toInt64) * ((f5 j).toInt64)))), (0, .ref ob), (3, .int (nI i))]) hx hb dX6_freedom_96 hl (k := 4) rfl ((nI_succ _).symm) (by decide) rfl (fun ls hl => ?_)
                  refine lv_goto (tgt := 24) hx hb dX6_freedom_99 (by decide) ?_
                  exact ih_24_4 (j + 1) ((((f5 i).toInt64) * ((f6 j).toInt64)) - (((f6 i).toInt64) * ((f5 j).toInt64))) (by first | assumption | omega | rfl | simp_all) (zFr_max (x := (((f5 i).toInt64) * ((f6 j).toInt64)) - (((f6 i).toInt64) * ((f5 j).toInt64))) (i := j) (j := i) hq2 (by rw [← zCr_swap f5 f6 i j]; first | exact (if_neg (Int64.not_lt.mpr c_69)).symm | exact (if_pos (Int64.not_le.mp c_69)).symm) (fun i' j' => by omega) (by first | exact Or.inl ⟨rfl, c_86⟩ | exact Or.inr ⟨rfl, c_86⟩)) (by omega) _ _ hP hD hS _ (lv_sub hl [3, 1, 4, 0] rfl)
              · rw [lg_cmp_ge] at c_69
                refine lv_lload hx hb dX6_freedom_72 (lv_at hl 0 rfl) ?_
                refine lv_lneg hx hb dX6_freedom_74 ?_
                refine lv_goto (tgt := 80) hx hb dX6_freedom_75 (by decide) ?_
                refine lv_lstore (lv' := [(5, .long (-((((f5 i).toInt64) * ((f6 j).toInt64)) - (((f6 i).toInt64) * ((f5 j).toInt64))))), (0, .ref ob), (1, .long q2), (3, .int (nI i)), (4, .int (nI j))]) hx hb dX6_freedom_80 hl (by decide) rfl (fun ls hl => ?_)
                refine lv_lload hx hb dX6_freedom_82 (lv_at hl 0 rfl) ?_
                refine lv_lload_n hx hb dX6_freedom_84 rfl (lv_at hl 2 rfl) ?_
                refine W.lcmp hx hb dX6_freedom_85 ?_
                refine lv_if_le (tgt := 94) hx hb dX6_freedom_86 (by decide) (fun c_86 => ?_) (fun c_86 => ?_)
                · rw [lg_cmp_le] at c_86
                  refine lv_lload_n hx hb dX6_freedom_94 rfl (lv_at hl 2 rfl) ?_
                  refine lv_lstore_n (lv' := [(1, .long q2), (5, .long (-((((f5 i).toInt64) * ((f6 j).toInt64)) - (((f6 i).toInt64) * ((f5 j).toInt64))))), (0, .ref ob), (3, .int (nI i)), (4, .int (nI j))]) hx hb dX6_freedom_95 rfl hl (by decide) rfl (fun ls hl => ?_)
                  refine lv_iinc (v := nI (j + 1)) (lv' := [(4, .int (nI (j + 1))), (1, .long q2), (5, .long (-((((f5 i).toInt64) * ((f6 j).toInt64)) - (((f6 i).toInt64) * ((f5 j).toInt64))))), (0, .ref ob), (3, .int (nI i))]) hx hb dX6_freedom_96 hl (k := 4) rfl ((nI_succ _).symm) (by decide) rfl (fun ls hl => ?_)
                  refine lv_goto (tgt := 24) hx hb dX6_freedom_99 (by decide) ?_
                  exact ih_24_4 (j + 1) q2 (by first | assumption | omega | rfl | simp_all) (zFr_max (x := -((((f5 i).toInt64) * ((f6 j).toInt64)) - (((f6 i).toInt64) * ((f5 j).toInt64)))) (i := j) (j := i) hq2 (by rw [← zCr_swap f5 f6 i j]; first | exact (if_neg (Int64.not_lt.mpr c_69)).symm | exact (if_pos (Int64.not_le.mp c_69)).symm) (fun i' j' => by omega) (by first | exact Or.inl ⟨rfl, c_86⟩ | exact Or.inr ⟨rfl, c_86⟩)) (by omega) _ _ hP hD hS _ (lv_sub hl [3, 1, 4, 0] rfl)
                · rw [lg_cmp_le] at c_86
                  refine lv_lload hx hb dX6_freedom_89 (lv_at hl 0 rfl) ?_
                  refine lv_goto (tgt := 95) hx hb dX6_freedom_91 (by decide) ?_
                  refine lv_lstore_n (lv' := [(1, .long (-((((f5 i).toInt64) * ((f6 j).toInt64)) - (((f6 i).toInt64) * ((f5 j).toInt64))))), (5, .long (-((((f5 i).toInt64) * ((f6 j).toInt64)) - (((f6 i).toInt64) * ((f5 j).toInt64))))), (0, .ref ob), (3, .int (nI i)), (4, .int (nI j))]) hx hb dX6_freedom_95 rfl hl (by decide) rfl (fun ls hl => ?_)
                  refine lv_iinc (v := nI (j + 1)) (lv' := [(4, .int (nI (j + 1))), (1, .long (-((((f5 i).toInt64) * ((f6 j).toInt64)) - (((f6 i).toInt64) * ((f5 j).toInt64))))), (5, .long (-((((f5 i).toInt64) * ((f6 j).toInt64)) - (((f6 i).toInt64) * ((f5 j).toInt64))))), (0, .ref ob), (3, .int (nI i))]) hx hb dX6_freedom_96 hl (k := 4) rfl ((nI_succ _).symm) (by decide) rfl (fun ls hl => ?_)
                  refine lv_goto (tgt := 24) hx hb dX6_freedom_99 (by decide) ?_
                  exact ih_24_4 (j + 1) (-((((f5 i).toInt64) * ((f6 j).toInt64)) - (((f6 i).toInt64) * ((f5 j).toInt64)))) (by first | assumption | omega | rfl | simp_all) (zFr_max (x := -((((f5 i).toInt64) * ((f6 j).toInt64)) - (((f6 i).toInt64) * ((f5 j).toInt64)))) (i := j) (j := i) hq2 (by rw [← zCr_swap f5 f6 i j]; first | exact (if_neg (Int64.not_lt.mpr c_69)).symm | exact (if_pos (Int64.not_le.mp c_69)).symm) (fun i' j' => by omega) (by first | exact Or.inl ⟨rfl, c_86⟩ | exact Or.inr ⟨rfl, c_86⟩)) (by omega) _ _ hP hD hS _ (lv_sub hl [3, 1, 4, 0] rfl)
        exact lp_24_4 ((i - 0) + 1) 0 q (by first | assumption | omega | rfl | simp_all) (zFr_iff (fun i' j' => by omega) hq) (Nat.lt_succ_self _) _ _ hP hD hS _ (lv_sub hl [1, 2, 3, 0] rfl)
  exact lp_13_3 ((n - 0) + 1) 0 0 (by first | assumption | omega | rfl | simp_all) (zFr_0 (fun i j h => Nat.not_lt_zero _ h.2)) (Nat.lt_succ_self _) _ _ hP hD hS _ (lv_sub hl [2, 1, 0] rfl)

set_option maxHeartbeats 4000000 in
set_option maxRecDepth 100000 in
theorem c_X6_goesOn (l : Launch) (D : va_G) (cI cJ : ClassId) (ob : Nat) (b1 : Nat) (b2 : Nat) (b3 : Nat) (b4 : Nat) (b5 : Nat) (bp : Nat) (bu : Nat) (bv : Nat) (bk : Nat) (bw : Nat) (n : Nat) (th : Int32) (gx : Int32) (gy : Int32) (sl : Int32) (x : Int32) (y : Int32) (h : Int32) (fd : Int32) (kd : Nat → Int32) (ln : Nat → Int32) (lo : Nat → Int32) (hi : Nat → Int32) (vl : Nat → Int32) (ps : Nat → Int32) (f1 : Nat → Int32) (f2 : Nat → Int32) (ky : Nat → Int64) (wh : Nat → Int32) (st : Int32) (hok : zOk n kd ln lo hi vl) (hgx : zB 1000000 gx) (hgy : zB 1000000 gy) : zM l yX6_goesOn wsX6_goesOn 5 D cI cJ [.ref ob, .int st] [(ob, .inr (6, [.int th, .int (nI n), .ref b1, .ref b2, .ref b3, .ref b4, .ref b5, .int gx, .int gy, .int sl, .ref bp, .int x, .int y, .int h, .ref bu, .ref bv, .int fd, .ref bk, .ref bw])), (b1, .inl (cI, 5, .inl kd)), (b2, .inl (cI, 5, .inl ln)), (b3, .inl (cI, 5, .inl lo)), (b4, .inl (cI, 5, .inl hi)), (b5, .inl (cI, 5, .inl vl)), (bp, .inl (cI, 5, .inl ps)), (bu, .inl (cI, 5, .inl f1)), (bv, .inl (cI, 5, .inl f2)), (bk, .inl (cJ, 10, .inr (.inl ky))), (bw, .inl (cI, 10, .inl wh))] (fun (u : Int32 × (Nat → Int32) × (Nat → Int32) × Int32 × Int32 × Int32) => (u.1 = if (zBst kd ln lo hi vl n gx gy st n).2.1 = -1 then 0 else 1) ∧ (u.2.1 = if (zBst kd ln lo hi vl n gx gy st n).2.1 = -1 then vl else zNx kd ln lo hi vl n gx gy st)) (fun (u : Int32 × (Nat → Int32) × (Nat → Int32) × Int32 × Int32 × Int32) => some (.int u.1)) (fun (u : Int32 × (Nat → Int32) × (Nat → Int32) × Int32 × Int32 × Int32) => [(ob, .inr (6, [.int th, .int (nI n), .ref b1, .ref b2, .ref b3, .ref b4, .ref b5, .int gx, .int gy, .int sl, .ref bp, .int u.2.2.2.1, .int u.2.2.2.2.1, .int u.2.2.2.2.2, .ref bu, .ref bv, .int fd, .ref bk, .ref bw])), (b1, .inl (cI, 5, .inl kd)), (b2, .inl (cI, 5, .inl ln)), (b3, .inl (cI, 5, .inl lo)), (b4, .inl (cI, 5, .inl hi)), (b5, .inl (cI, 5, .inl u.2.1)), (bp, .inl (cI, 5, .inl u.2.2.1)), (bu, .inl (cI, 5, .inl f1)), (bv, .inl (cI, 5, .inl f2)), (bk, .inl (cJ, 10, .inr (.inl ky))), (bw, .inl (cI, 10, .inl wh))]) := by
  refine zM_z (cc := cX6_goesOn) (maxL := 11) (r := fun (u : Int32 × (Nat → Int32) × (Nat → Int32) × Int32 × Int32 × Int32) => u.1) (fun u h => by rw [h.1]; split <;> simp) (by decide) rfl (Nat.le_of_ble_eq_true rfl) ?_
  intro p e s m args below meth c ls A0 Q C hl hP hS hRet
  obtain ⟨⟨hx, hb, hml, hown, hts⟩, hG, hK, hD, hlocks⟩ := C
  have hin6 : ∀ w ∈ u_ws RX6 TX6 19, w ∈ wsX6_goesOn := by decide +kernel
  have hf48 := hts (.fieldLink RX6 48 "ArmRoomModel" "joints" "I") (by decide +kernel)
  have hf22 := hts (.fieldLink RX6 22 "ArmRoomModel" "value" "[I") (by decide +kernel)
  have hf16 := hts (.fieldLink RX6 16 "ArmRoomModel" "low" "[I") (by decide +kernel)
  have hf19 := hts (.fieldLink RX6 19 "ArmRoomModel" "high" "[I") (by decide +kernel)
  have hl : lv_has ls 11 [(0, .ref ob), (1, .int st)] := hl
  have hn := hok.1
  refine lv_aload_n hx hb dX6_goesOn_0 rfl (lv_at hl 0 rfl) ?_
  refine z_callV (As := []) (rest := []) ⟨hx, hb, hml, hown, hts⟩ hG hK hP hD hS (c_X6_farNow l D cI cJ ob b1 b2 b3 b4 b5 bp bu bv bk bw n th gx gy sl x y h fd kd ln lo hi vl ps f1 f2 ky wh (by first | assumption | omega | decide) (by first | assumption | omega | decide) (by first | assumption | omega | decide)) (cwV 0 hts gX6_goesOn_X6_farNow rfl rfl rfl (by decide +kernel) ⟨Nat.le_of_ble_eq_true rfl, Nat.le_of_ble_eq_true rfl⟩) [0, 1, 2, 3, 4, 5, 6, 7, 8, 9, 10] (by decide) rfl (fun _ => rfl) 0 rfl rfl rfl rfl hl.1 rfl (Nat.le_of_ble_eq_true rfl) dX6_goesOn_1 ⟨Nat.le_of_ble_eq_true rfl, Nat.le_of_ble_eq_true rfl⟩ (fun u_1 H locs hu_2 hP hD hS => ?_)
  obtain ⟨r_3, ps3_4, x3_5, y3_6, h3_7⟩ := u_1
  have hu_2 : (r_3 = zFn kd ln vl n gx gy) := hu_2
  have e_8 := hu_2
  subst e_8
  have hP : va_P D vwCl [(ob, .inr (6, [.int th, .int (nI n), .ref b1, .ref b2, .ref b3, .ref b4, .ref b5, .int gx, .int gy, .int sl, .ref bp, .int x3_5, .int y3_6, .int h3_7, .ref bu, .ref bv, .int fd, .ref bk, .ref bw])), (b1, .inl (cI, 5, .inl kd)), (b2, .inl (cI, 5, .inl ln)), (b3, .inl (cI, 5, .inl lo)), (b4, .inl (cI, 5, .inl hi)), (b5, .inl (cI, 5, .inl vl)), (bp, .inl (cI, 5, .inl ps3_4)), (bu, .inl (cI, 5, .inl f1)), (bv, .inl (cI, 5, .inl f2)), (bk, .inl (cJ, 10, .inr (.inl ky))), (bw, .inl (cI, 10, .inl wh))] H := hP
  have hD : va_D A0 [(ob, .inr (6, [.int th, .int (nI n), .ref b1, .ref b2, .ref b3, .ref b4, .ref b5, .int gx, .int gy, .int sl, .ref bp, .int x3_5, .int y3_6, .int h3_7, .ref bu, .ref bv, .int fd, .ref bk, .ref bw])), (b1, .inl (cI, 5, .inl kd)), (b2, .inl (cI, 5, .inl ln)), (b3, .inl (cI, 5, .inl lo)), (b4, .inl (cI, 5, .inl hi)), (b5, .inl (cI, 5, .inl vl)), (bp, .inl (cI, 5, .inl ps3_4)), (bu, .inl (cI, 5, .inl f1)), (bv, .inl (cI, 5, .inl f2)), (bk, .inl (cJ, 10, .inr (.inl ky))), (bw, .inl (cI, 10, .inl wh))] := hD
  refine lv_lstore_n (lv' := [(2, .long (zFn kd ln vl n gx gy)), (0, .ref ob), (1, .int st)]) hx hb dX6_goesOn_4 rfl hl (by decide) rfl (fun ls hl => ?_)
  refine lv_iconst (v := (-1)) hx hb dX6_goesOn_5 (by decide) ?_
  refine lv_istore (lv' := [(4, .int (-1)), (2, .long (zFn kd ln vl n gx gy)), (0, .ref ob), (1, .int st)]) hx hb dX6_goesOn_6 hl (by decide) rfl (fun ls hl => ?_)
  refine lv_iconst (v := 0) hx hb dX6_goesOn_8 (by decide) ?_
  refine lv_istore (lv' := [(5, .int 0), (4, .int (-1)), (2, .long (zFn kd ln vl n gx gy)), (0, .ref ob), (1, .int st)]) hx hb dX6_goesOn_9 hl (by decide) rfl (fun ls hl => ?_)
  refine lv_iconst (v := 0) hx hb dX6_goesOn_11 (by decide) ?_
  refine lv_istore (lv' := [(6, .int 0), (5, .int 0), (4, .int (-1)), (2, .long (zFn kd ln vl n gx gy)), (0, .ref ob), (1, .int st)]) hx hb dX6_goesOn_12 hl (by decide) rfl (fun ls hl => ?_)
  have lp_14_9 : ∀ (fu : Nat) (i : Nat) (f : Int64) (b : Int32) (v : Int32) (xp : Int32) (yp : Int32) (hp : Int32) (psp : Nat → Int32), (i ≤ n) → ((f, b, v) = zBst kd ln lo hi vl n gx gy st i) → (n - i < fu) → ∀ (H : Heap) (locs : List Loc), va_P D vwCl [(ob, .inr (6, [.int th, .int (nI n), .ref b1, .ref b2, .ref b3, .ref b4, .ref b5, .int gx, .int gy, .int sl, .ref bp, .int xp, .int yp, .int hp, .ref bu, .ref bv, .int fd, .ref bk, .ref bw])), (b1, .inl (cI, 5, .inl kd)), (b2, .inl (cI, 5, .inl ln)), (b3, .inl (cI, 5, .inl lo)), (b4, .inl (cI, 5, .inl hi)), (b5, .inl (cI, 5, .inl vl)), (bp, .inl (cI, 5, .inl psp)), (bu, .inl (cI, 5, .inl f1)), (bv, .inl (cI, 5, .inl f2)), (bk, .inl (cJ, 10, .inr (.inl ky))), (bw, .inl (cI, 10, .inl wh))] H → va_D A0 [(ob, .inr (6, [.int th, .int (nI n), .ref b1, .ref b2, .ref b3, .ref b4, .ref b5, .int gx, .int gy, .int sl, .ref bp, .int xp, .int yp, .int hp, .ref bu, .ref bv, .int fd, .ref bk, .ref bw])), (b1, .inl (cI, 5, .inl kd)), (b2, .inl (cI, 5, .inl ln)), (b3, .inl (cI, 5, .inl lo)), (b4, .inl (cI, 5, .inl hi)), (b5, .inl (cI, 5, .inl vl)), (bp, .inl (cI, 5, .inl psp)), (bu, .inl (cI, 5, .inl f1)), (bv, .inl (cI, 5, .inl f2)), (bk, .inl (cJ, 10, .inr (.inl ky))), (bw, .inl (cI, 10, .inl wh))] → va_S A0 s.heap H locs → ∀ (ls : Array Slot), lv_has ls 11 [(0, .ref ob), (1, .int st), (2, .long f), (4, .int b), (5, .int v), (6, .int (nI i))] → W p l e (zRm 5 0 0) s m args below meth c H locs 0 0 Q (F0 m 14 ls []) := by
    intro fu
    induction fu with
    | zero => intro i f b v xp yp hp psp hi1 hz hfu; exact absurd hfu (Nat.not_lt_zero _)
    | succ fu ih_14_9 =>
      intro i f b v xp yp hp psp hi1 hz hfu H locs hP hD hS ls hl
      refine lv_iload hx hb dX6_goesOn_14 (lv_at hl 5 rfl) ?_
      refine lv_aload_n hx hb dX6_goesOn_16 rfl (lv_at hl 0 rfl) ?_
      refine va_get (D := D) (ci := 6) (v := .int (nI n)) (C := RX6) (T := TX6) (N := 19) hx hb hts hin6 hown hK hP 0 rfl rfl 1 (by decide) hf48 (fun _ h9 => h9) rfl dX6_goesOn_17 ?_
      refine lv_icmp_ge (tgt := 103) hx hb dX6_goesOn_20 (by decide) (fun c_20 => ?_) (fun c_20 => ?_)
      · rw [nI_leI (by omega) (by omega)] at c_20
        obtain rfl : n = i := by omega
        refine lv_iload hx hb dX6_goesOn_103 (lv_at hl 3 rfl) ?_
        refine lv_iconst (v := (-1)) hx hb dX6_goesOn_105 (by decide) ?_
        refine lv_icmp_eq (tgt := 118) hx hb dX6_goesOn_106 (by decide) (fun c_106 => ?_) (fun c_106 => ?_)
        · refine lv_iload hx hb dX6_goesOn_118 (lv_at hl 3 rfl) ?_
          refine lv_iconst (v := (-1)) hx hb dX6_goesOn_120 (by decide) ?_
          refine lv_icmp_eq (tgt := 128) hx hb dX6_goesOn_121 (by decide) (fun c_121 => ?_) (fun c_121 => ?_)
          · refine lv_iconst (v := 0) hx hb dX6_goesOn_128 (by decide) ?_
            exact hRet _ (0, vl, psp, xp, yp, hp) _ _ _ ⟨by rw [← hz]; exact (if_pos c_106).symm, by rw [← hz]; exact (if_pos c_106).symm⟩ hP hS dX6_goesOn_129
          · exact absurd c_106 c_121
        · have hix := zBst_ix kd ln lo hi vl n gx gy st n
          rw [← hz] at hix
          obtain ⟨jj, hjj, hjb, -⟩ := hix.resolve_left c_106
          have hjb : b = nI jj := hjb
          subst hjb
          refine lv_aload_n hx hb dX6_goesOn_109 rfl (lv_at hl 0 rfl) ?_
          refine va_get (D := D) (ci := 6) (v := .ref b5) (C := RX6) (T := TX6) (N := 19) hx hb hts hin6 hown hK hP 0 rfl rfl 6 (by decide) hf22 (fun _ h9 => h9) rfl dX6_goesOn_110 ?_
          refine lv_iload hx hb dX6_goesOn_113 (lv_at hl 3 rfl) ?_
          refine lv_iload hx hb dX6_goesOn_115 (lv_at hl 4 rfl) ?_
          refine z_iast hx hb hK hP hD hS 5 rfl (j := jj) (by omega) (by decide) dX6_goesOn_117 (fun H locs hP hD hS => ?_)
          have hP : va_P D vwCl [(ob, .inr (6, [.int th, .int (nI n), .ref b1, .ref b2, .ref b3, .ref b4, .ref b5, .int gx, .int gy, .int sl, .ref bp, .int xp, .int yp, .int hp, .ref bu, .ref bv, .int fd, .ref bk, .ref bw])), (b1, .inl (cI, 5, .inl kd)), (b2, .inl (cI, 5, .inl ln)), (b3, .inl (cI, 5, .inl lo)), (b4, .inl (cI, 5, .inl hi)), (b5, .inl (cI, 5, .inl (upd vl jj v))), (bp, .inl (cI, 5, .inl psp)), (bu, .inl (cI, 5, .inl f1)), (bv, .inl (cI, 5, .inl f2)), (bk, .inl (cJ, 10, .inr (.inl ky))), (bw, .inl (cI, 10, .inl wh))] H := hP
          have hD : va_D A0 [(ob, .inr (6, [.int th, .int (nI n), .ref b1, .ref b2, .ref b3, .ref b4, .ref b5, .int gx, .int gy, .int sl, .ref bp, .int xp, .int yp, .int hp, .ref bu, .ref bv, .int fd, .ref bk, .ref bw])), (b1, .inl (cI, 5, .inl kd)), (b2, .inl (cI, 5, .inl ln)), (b3, .inl (cI, 5, .inl lo)), (b4, .inl (cI, 5, .inl hi)), (b5, .inl (cI, 5, .inl (upd vl jj v))), (bp, .inl (cI, 5, .inl psp)), (bu, .inl (cI, 5, .inl f1)), (bv, .inl (cI, 5, .inl f2)), (bk, .inl (cJ, 10, .inr (.inl ky))), (bw, .inl (cI, 10, .inl wh))] := hD
          refine lv_iload hx hb dX6_goesOn_118 (lv_at hl 3 rfl) ?_
          refine lv_iconst (v := (-1)) hx hb dX6_goesOn_120 (by decide) ?_
          refine lv_icmp_eq (tgt := 128) hx hb dX6_goesOn_121 (by decide) (fun c_121 => ?_) (fun c_121 => ?_)
          · exact absurd c_121 c_106
          · refine lv_iconst (v := 1) hx hb dX6_goesOn_124 (by decide) ?_
            refine lv_goto (tgt := 129) hx hb dX6_goesOn_125 (by decide) ?_
            exact hRet _ (1, upd vl jj v, psp, xp, yp, hp) _ _ _ ⟨by rw [← hz]; exact (if_neg c_106).symm, by unfold zNx; rw [← hz]; show upd vl jj v = if nI jj = -1 then vl else upd vl (nI jj).toNatClampNeg v; rw [if_neg c_106, nI_clamp (by omega)]⟩ hP hS dX6_goesOn_129
      · rw [nI_leI (by omega) (by omega)] at c_20
        refine lv_iconst (v := (-1)) hx hb dX6_goesOn_23 (by decide) ?_
        refine lv_istore (lv' := [(7, .int (-1)), (0, .ref ob), (1, .int st), (2, .long f), (4, .int b), (5, .int v), (6, .int (nI i))]) hx hb dX6_goesOn_24 hl (by decide) rfl (fun ls hl => ?_)
        refine lv_iload hx hb dX6_goesOn_26 (lv_at hl 0 rfl) ?_
        refine lv_iconst (v := 1) hx hb dX6_goesOn_28 (by decide) ?_
        refine lv_icmp_gt (tgt := 97) hx hb dX6_goesOn_29 (by decide) (fun c_29 => ?_) (fun c_29 => ?_)
        · exact absurd c_29 (by decide)
        · have jn_91_10 : ∀ (fq : Int64) (bq : Int32) (vq : Int32) (xq : Int32) (yq : Int32) (hq : Int32) (psq : Nat → Int32), (zTry kd ln lo hi vl n gx gy st (f, b, v) i (-1) = (fq, bq, vq)) → ∀ (H : Heap) (locs : List Loc), va_P D vwCl [(ob, .inr (6, [.int th, .int (nI n), .ref b1, .ref b2, .ref b3, .ref b4, .ref b5, .int gx, .int gy, .int sl, .ref bp, .int xq, .int yq, .int hq, .ref bu, .ref bv, .int fd, .ref bk, .ref bw])), (b1, .inl (cI, 5, .inl kd)), (b2, .inl (cI, 5, .inl ln)), (b3, .inl (cI, 5, .inl lo)), (b4, .inl (cI, 5, .inl hi)), (b5, .inl (cI, 5, .inl vl)), (bp, .inl (cI, 5, .inl psq)), (bu, .inl (cI, 5, .inl f1)), (bv, .inl (cI, 5, .inl f2)), (bk, .inl (cJ, 10, .inr (.inl ky))), (bw, .inl (cI, 10, .inl wh))] H → va_D A0 [(ob, .inr (6, [.int th, .int (nI n), .ref b1, .ref b2, .ref b3, .ref b4, .ref b5, .int gx, .int gy, .int sl, .ref bp, .int xq, .int yq, .int hq, .ref bu, .ref bv, .int fd, .ref bk, .ref bw])), (b1, .inl (cI, 5, .inl kd)), (b2, .inl (cI, 5, .inl ln)), (b3, .inl (cI, 5, .inl lo)), (b4, .inl (cI, 5, .inl hi)), (b5, .inl (cI, 5, .inl vl)), (bp, .inl (cI, 5, .inl psq)), (bu, .inl (cI, 5, .inl f1)), (bv, .inl (cI, 5, .inl f2)), (bk, .inl (cJ, 10, .inr (.inl ky))), (bw, .inl (cI, 10, .inl wh))] → va_S A0 s.heap H locs → ∀ (ls : Array Slot), lv_has ls 11 [(0, .ref ob), (1, .int st), (2, .long fq), (4, .int bq), (5, .int vq), (6, .int (nI i)), (7, .int (-1))] → W p l e (zRm 5 0 0) s m args below meth c H locs 0 0 Q (F0 m 91 ls []) := by
            intro fq bq vq xq yq hq psq hjq H locs hP hD hS ls hl
            refine lv_iinc (v := 1) (lv' := [(7, .int 1), (0, .ref ob), (1, .int st), (2, .long fq), (4, .int bq), (5, .int vq), (6, .int (nI i))]) hx hb dX6_goesOn_91 hl (k := 6) rfl (by decide) (by decide) rfl (fun ls hl => ?_)
            refine lv_goto (tgt := 26) hx hb dX6_goesOn_94 (by decide) ?_
            refine lv_iload hx hb dX6_goesOn_26 (lv_at hl 0 rfl) ?_
            refine lv_iconst (v := 1) hx hb dX6_goesOn_28 (by decide) ?_
            refine lv_icmp_gt (tgt := 97) hx hb dX6_goesOn_29 (by decide) (fun c_29 => ?_) (fun c_29 => ?_)
            · exact absurd c_29 (by decide)
            · have jn_91_11 : ∀ (fr : Int64) (br : Int32) (vr : Int32) (xr : Int32) (yr : Int32) (hr : Int32) (psr : Nat → Int32), (zTry kd ln lo hi vl n gx gy st (fq, bq, vq) i 1 = (fr, br, vr)) → ∀ (H : Heap) (locs : List Loc), va_P D vwCl [(ob, .inr (6, [.int th, .int (nI n), .ref b1, .ref b2, .ref b3, .ref b4, .ref b5, .int gx, .int gy, .int sl, .ref bp, .int xr, .int yr, .int hr, .ref bu, .ref bv, .int fd, .ref bk, .ref bw])), (b1, .inl (cI, 5, .inl kd)), (b2, .inl (cI, 5, .inl ln)), (b3, .inl (cI, 5, .inl lo)), (b4, .inl (cI, 5, .inl hi)), (b5, .inl (cI, 5, .inl vl)), (bp, .inl (cI, 5, .inl psr)), (bu, .inl (cI, 5, .inl f1)), (bv, .inl (cI, 5, .inl f2)), (bk, .inl (cJ, 10, .inr (.inl ky))), (bw, .inl (cI, 10, .inl wh))] H → va_D A0 [(ob, .inr (6, [.int th, .int (nI n), .ref b1, .ref b2, .ref b3, .ref b4, .ref b5, .int gx, .int gy, .int sl, .ref bp, .int xr, .int yr, .int hr, .ref bu, .ref bv, .int fd, .ref bk, .ref bw])), (b1, .inl (cI, 5, .inl kd)), (b2, .inl (cI, 5, .inl ln)), (b3, .inl (cI, 5, .inl lo)), (b4, .inl (cI, 5, .inl hi)), (b5, .inl (cI, 5, .inl vl)), (bp, .inl (cI, 5, .inl psr)), (bu, .inl (cI, 5, .inl f1)), (bv, .inl (cI, 5, .inl f2)), (bk, .inl (cJ, 10, .inr (.inl ky))), (bw, .inl (cI, 10, .inl wh))] → va_S A0 s.heap H locs → ∀ (ls : Array Slot), lv_has ls 11 [(0, .ref ob), (1, .int st), (2, .long fr), (4, .int br), (5, .int vr), (6, .int (nI i)), (7, .int 1)] → W p l e (zRm 5 0 0) s m args below meth c H locs 0 0 Q (F0 m 91 ls []) := by
                intro fr br vr xr yr hr psr hjr H locs hP hD hS ls hl
                refine lv_iinc (v := 3) (lv' := [(7, .int 3), (0, .ref ob), (1, .int st), (2, .long fr), (4, .int br), (5, .int vr), (6, .int (nI i))]) hx hb dX6_goesOn_91 hl (k := 6) rfl (by decide) (by decide) rfl (fun ls hl => ?_)
                refine lv_goto (tgt := 26) hx hb dX6_goesOn_94 (by decide) ?_
                refine lv_iload hx hb dX6_goesOn_26 (lv_at hl 0 rfl) ?_
                refine lv_iconst (v := 1) hx hb dX6_goesOn_28 (by decide) ?_
                refine lv_icmp_gt (tgt := 97) hx hb dX6_goesOn_29 (by decide) (fun c_29 => ?_) (fun c_29 => ?_)
                · refine lv_iinc (v := nI (i + 1)) (lv' := [(6, .int (nI (i + 1))), (7, .int 3), (0, .ref ob), (1, .int st), (2, .long fr), (4, .int br), (5, .int vr)]) hx hb dX6_goesOn_97 hl (k := 6) rfl ((nI_succ _).symm) (by decide) rfl (fun ls hl => ?_)
                  refine lv_goto (tgt := 14) hx hb dX6_goesOn_100 (by decide) ?_
                  exact ih_14_9 (i + 1) fr br vr xr yr hr psr (by first | assumption | omega | rfl | simp_all) (by rw [← hjr, ← hjq, hz]; rfl) (by omega) _ _ hP hD hS _ (lv_sub hl [2, 3, 4, 5, 6, 0] rfl)
                · exact absurd (by decide) c_29
              refine lv_aload_n hx hb dX6_goesOn_32 rfl (lv_at hl 1 rfl) ?_
              refine va_get (D := D) (ci := 6) (v := .ref b5) (C := RX6) (T := TX6) (N := 19) hx hb hts hin6 hown hK hP 0 rfl rfl 6 (by decide) hf22 (fun _ h9 => h9) rfl dX6_goesOn_33 ?_
              refine lv_iload hx hb dX6_goesOn_36 (lv_at hl 6 rfl) ?_
              refine z_iald hx hb hK hP 5 rfl (j := i) (by omega) (by decide) dX6_goesOn_38 ?_
              refine lv_iload hx hb dX6_goesOn_39 (lv_at hl 0 rfl) ?_
              refine lv_iload_n hx hb dX6_goesOn_41 rfl (lv_at hl 2 rfl) ?_
              refine lv_imul hx hb dX6_goesOn_42 ?_
              refine lv_iadd hx hb dX6_goesOn_43 ?_
              refine lv_aload_n hx hb dX6_goesOn_44 rfl (lv_at hl 1 rfl) ?_
              refine va_get (D := D) (ci := 6) (v := .ref b3) (C := RX6) (T := TX6) (N := 19) hx hb hts hin6 hown hK hP 0 rfl rfl 4 (by decide) hf16 (fun _ h9 => h9) rfl dX6_goesOn_45 ?_
              refine lv_iload hx hb dX6_goesOn_48 (lv_at hl 6 rfl) ?_
              refine z_iald hx hb hK hP 3 rfl (j := i) (by omega) (by decide) dX6_goesOn_50 ?_
              refine lv_aload_n hx hb dX6_goesOn_51 rfl (lv_at hl 1 rfl) ?_
              refine va_get (D := D) (ci := 6) (v := .ref b4) (C := RX6) (T := TX6) (N := 19) hx hb hts hin6 hown hK hP 0 rfl rfl 5 (by decide) hf19 (fun _ h9 => h9) rfl dX6_goesOn_52 ?_
              refine lv_iload hx hb dX6_goesOn_55 (lv_at hl 6 rfl) ?_
              refine z_iald hx hb hK hP 4 rfl (j := i) (by omega) (by decide) dX6_goesOn_57 ?_
              refine z_callS (As := [.int ((vl i) + (1 * st)), .int (lo i), .int (hi i)]) (rest := []) ⟨hx, hb, hml, hown, hts⟩ hG hK hP hD hS (c_X6_held l D cI cJ ((vl i) + (1 * st)) (lo i) (hi i) ) (va_cwS 3 hts gX6_goesOn_X6_held rfl rfl rfl (by decide +kernel) ⟨Nat.le_of_ble_eq_true rfl, Nat.le_of_ble_eq_true rfl⟩) [] (by decide) rfl (fun _ => rfl) rfl hl.1 rfl (Nat.le_of_ble_eq_true rfl) dX6_goesOn_58 ⟨Nat.le_of_ble_eq_true rfl, Nat.le_of_ble_eq_true rfl⟩ (fun u_12 H locs hu_13 hP hD hS => ?_)
              obtain ⟨r_14, rfl⟩ : ∃ z, z = u_12 := ⟨_, rfl⟩
              have hu_13 : (r_14 = zHeldR (lo i) (hi i) ((vl i) + (1 * st))) := hu_13
              have e_15 := hu_13
              subst e_15
              have hP : va_P D vwCl [(ob, .inr (6, [.int th, .int (nI n), .ref b1, .ref b2, .ref b3, .ref b4, .ref b5, .int gx, .int gy, .int sl, .ref bp, .int xq, .int yq, .int hq, .ref bu, .ref bv, .int fd, .ref bk, .ref bw])), (b1, .inl (cI, 5, .inl kd)), (b2, .inl (cI, 5, .inl ln)), (b3, .inl (cI, 5, .inl lo)), (b4, .inl (cI, 5, .inl hi)), (b5, .inl (cI, 5, .inl vl)), (bp, .inl (cI, 5, .inl psq)), (bu, .inl (cI, 5, .inl f1)), (bv, .inl (cI, 5, .inl f2)), (bk, .inl (cJ, 10, .inr (.inl ky))), (bw, .inl (cI, 10, .inl wh))] H := hP
              have hD : va_D A0 [(ob, .inr (6, [.int th, .int (nI n), .ref b1, .ref b2, .ref b3, .ref b4, .ref b5, .int gx, .int gy, .int sl, .ref bp, .int xq, .int yq, .int hq, .ref bu, .ref bv, .int fd, .ref bk, .ref bw])), (b1, .inl (cI, 5, .inl kd)), (b2, .inl (cI, 5, .inl ln)), (b3, .inl (cI, 5, .inl lo)), (b4, .inl (cI, 5, .inl hi)), (b5, .inl (cI, 5, .inl vl)), (bp, .inl (cI, 5, .inl psq)), (bu, .inl (cI, 5, .inl f1)), (bv, .inl (cI, 5, .inl f2)), (bk, .inl (cJ, 10, .inr (.inl ky))), (bw, .inl (cI, 10, .inl wh))] := hD
              refine z_topi (y := zHeldC (lo i) (hi i) ((vl i) + (1 * st))) (zHeld_eq (hok.lh i (by omega))) ?_
              refine lv_istore (lv' := [(8, .int (zHeldC (lo i) (hi i) ((vl i) + (1 * st)))), (7, .int 1), (0, .ref ob), (1, .int st), (2, .long fq), (4, .int bq), (5, .int vq), (6, .int (nI i))]) hx hb dX6_goesOn_61 hl (by decide) rfl (fun ls hl => ?_)
              refine lv_aload_n hx hb dX6_goesOn_63 rfl (lv_at hl 2 rfl) ?_
              refine lv_iload hx hb dX6_goesOn_64 (lv_at hl 7 rfl) ?_
              refine lv_iload hx hb dX6_goesOn_66 (lv_at hl 0 rfl) ?_
              refine z_callV (As := [.int (nI i), .int (zHeldC (lo i) (hi i) ((vl i) + (1 * st)))]) (rest := []) ⟨hx, hb, hml, hown, hts⟩ hG hK hP hD hS (c_X6_farWith l D cI cJ ob b1 b2 b3 b4 b5 bp bu bv bk bw n th gx gy sl xq yq hq fd kd ln lo hi vl psq f1 f2 ky wh i (zHeldC (lo i) (hi i) ((vl i) + (1 * st))) (by first | assumption | omega | decide) (by first | assumption | omega | decide) (by first | assumption | omega | decide) (by omega) (hok.held (by omega) _)) (cwV 2 hts gX6_goesOn_X6_farWith rfl rfl rfl (by decide +kernel) ⟨Nat.le_of_ble_eq_true rfl, Nat.le_of_ble_eq_true rfl⟩) [0, 1, 2, 3, 4, 5, 6, 7, 8, 9, 10] (by decide) rfl (fun _ => rfl) 0 rfl rfl rfl rfl hl.1 rfl (Nat.le_of_ble_eq_true rfl) dX6_goesOn_68 ⟨Nat.le_of_ble_eq_true rfl, Nat.le_of_ble_eq_true rfl⟩ (fun u_16 H locs hu_17 hP hD hS => ?_)
              obtain ⟨r_18, ps3_19, x3_20, y3_21, h3_22⟩ := u_16
              have hu_17 : (r_18 = zFw kd ln vl n gx gy (nI i) (zHeldC (lo i) (hi i) ((vl i) + (1 * st)))) := hu_17
              have e_23 := hu_17
              subst e_23
              have hP : va_P D vwCl [(ob, .inr (6, [.int th, .int (nI n), .ref b1, .ref b2, .ref b3, .ref b4, .ref b5, .int gx, .int gy, .int sl, .ref bp, .int x3_20, .int y3_21, .int h3_22, .ref bu, .ref bv, .int fd, .ref bk, .ref bw])), (b1, .inl (cI, 5, .inl kd)), (b2, .inl (cI, 5, .inl ln)), (b3, .inl (cI, 5, .inl lo)), (b4, .inl (cI, 5, .inl hi)), (b5, .inl (cI, 5, .inl vl)), (bp, .inl (cI, 5, .inl ps3_19)), (bu, .inl (cI, 5, .inl f1)), (bv, .inl (cI, 5, .inl f2)), (bk, .inl (cJ, 10, .inr (.inl ky))), (bw, .inl (cI, 10, .inl wh))] H := hP
              have hD : va_D A0 [(ob, .inr (6, [.int th, .int (nI n), .ref b1, .ref b2, .ref b3, .ref b4, .ref b5, .int gx, .int gy, .int sl, .ref bp, .int x3_20, .int y3_21, .int h3_22, .ref bu, .ref bv, .int fd, .ref bk, .ref bw])), (b1, .inl (cI, 5, .inl kd)), (b2, .inl (cI, 5, .inl ln)), (b3, .inl (cI, 5, .inl lo)), (b4, .inl (cI, 5, .inl hi)), (b5, .inl (cI, 5, .inl vl)), (bp, .inl (cI, 5, .inl ps3_19)), (bu, .inl (cI, 5, .inl f1)), (bv, .inl (cI, 5, .inl f2)), (bk, .inl (cJ, 10, .inr (.inl ky))), (bw, .inl (cI, 10, .inl wh))] := hD
              refine lv_lstore (lv' := [(9, .long (zFw kd ln vl n gx gy (nI i) (zHeldC (lo i) (hi i) ((vl i) + (1 * st))))), (8, .int (zHeldC (lo i) (hi i) ((vl i) + (1 * st)))), (7, .int 1), (0, .ref ob), (1, .int st), (2, .long fq), (4, .int bq), (5, .int vq), (6, .int (nI i))]) hx hb dX6_goesOn_71 hl (by decide) rfl (fun ls hl => ?_)
              refine lv_lload hx hb dX6_goesOn_73 (lv_at hl 0 rfl) ?_
              refine lv_lload_n hx hb dX6_goesOn_75 rfl (lv_at hl 5 rfl) ?_
              refine W.lcmp hx hb dX6_goesOn_76 ?_
              refine lv_if_ge (tgt := 91) hx hb dX6_goesOn_77 (by decide) (fun c_77 => ?_) (fun c_77 => ?_)
              · rw [lg_cmp_ge] at c_77
                exact jn_91_11 fq bq vq x3_20 y3_21 h3_22 ps3_19 (if_neg (Int64.not_lt.mpr c_77)) _ _ hP hD hS _ (lv_sub hl [3, 4, 5, 6, 7, 8, 2] rfl)
              · rw [lg_cmp_ge] at c_77
                refine lv_lload hx hb dX6_goesOn_80 (lv_at hl 0 rfl) ?_
                refine lv_lstore_n (lv' := [(2, .long (zFw kd ln vl n gx gy (nI i) (zHeldC (lo i) (hi i) ((vl i) + (1 * st))))), (9, .long (zFw kd ln vl n gx gy (nI i) (zHeldC (lo i) (hi i) ((vl i) + (1 * st))))), (8, .int (zHeldC (lo i) (hi i) ((vl i) + (1 * st)))), (7, .int 1), (0, .ref ob), (1, .int st), (4, .int bq), (5, .int vq), (6, .int (nI i))]) hx hb dX6_goesOn_82 rfl hl (by decide) rfl (fun ls hl => ?_)
                refine lv_iload hx hb dX6_goesOn_83 (lv_at hl 8 rfl) ?_
                refine lv_istore (lv' := [(4, .int (nI i)), (2, .long (zFw kd ln vl n gx gy (nI i) (zHeldC (lo i) (hi i) ((vl i) + (1 * st))))), (9, .long (zFw kd ln vl n gx gy (nI i) (zHeldC (lo i) (hi i) ((vl i) + (1 * st))))), (8, .int (zHeldC (lo i) (hi i) ((vl i) + (1 * st)))), (7, .int 1), (0, .ref ob), (1, .int st), (5, .int vq), (6, .int (nI i))]) hx hb dX6_goesOn_85 hl (by decide) rfl (fun ls hl => ?_)
                refine lv_iload hx hb dX6_goesOn_87 (lv_at hl 3 rfl) ?_
                refine lv_istore (lv' := [(5, .int (zHeldC (lo i) (hi i) ((vl i) + (1 * st)))), (4, .int (nI i)), (2, .long (zFw kd ln vl n gx gy (nI i) (zHeldC (lo i) (hi i) ((vl i) + (1 * st))))), (9, .long (zFw kd ln vl n gx gy (nI i) (zHeldC (lo i) (hi i) ((vl i) + (1 * st))))), (8, .int (zHeldC (lo i) (hi i) ((vl i) + (1 * st)))), (7, .int 1), (0, .ref ob), (1, .int st), (6, .int (nI i))]) hx hb dX6_goesOn_89 hl (by decide) rfl (fun ls hl => ?_)
                exact jn_91_11 (zFw kd ln vl n gx gy (nI i) (zHeldC (lo i) (hi i) ((vl i) + (1 * st)))) (nI i) (zHeldC (lo i) (hi i) ((vl i) + (1 * st))) x3_20 y3_21 h3_22 ps3_19 (if_pos (Int64.not_le.mp c_77)) _ _ hP hD hS _ (lv_sub hl [6, 7, 2, 1, 0, 8, 5] rfl)
          refine lv_aload_n hx hb dX6_goesOn_32 rfl (lv_at hl 1 rfl) ?_
          refine va_get (D := D) (ci := 6) (v := .ref b5) (C := RX6) (T := TX6) (N := 19) hx hb hts hin6 hown hK hP 0 rfl rfl 6 (by decide) hf22 (fun _ h9 => h9) rfl dX6_goesOn_33 ?_
          refine lv_iload hx hb dX6_goesOn_36 (lv_at hl 6 rfl) ?_
          refine z_iald hx hb hK hP 5 rfl (j := i) (by omega) (by decide) dX6_goesOn_38 ?_
          refine lv_iload hx hb dX6_goesOn_39 (lv_at hl 0 rfl) ?_
          refine lv_iload_n hx hb dX6_goesOn_41 rfl (lv_at hl 2 rfl) ?_
          refine lv_imul hx hb dX6_goesOn_42 ?_
          refine lv_iadd hx hb dX6_goesOn_43 ?_
          refine lv_aload_n hx hb dX6_goesOn_44 rfl (lv_at hl 1 rfl) ?_
          refine va_get (D := D) (ci := 6) (v := .ref b3) (C := RX6) (T := TX6) (N := 19) hx hb hts hin6 hown hK hP 0 rfl rfl 4 (by decide) hf16 (fun _ h9 => h9) rfl dX6_goesOn_45 ?_
          refine lv_iload hx hb dX6_goesOn_48 (lv_at hl 6 rfl) ?_
          refine z_iald hx hb hK hP 3 rfl (j := i) (by omega) (by decide) dX6_goesOn_50 ?_
          refine lv_aload_n hx hb dX6_goesOn_51 rfl (lv_at hl 1 rfl) ?_
          refine va_get (D := D) (ci := 6) (v := .ref b4) (C := RX6) (T := TX6) (N := 19) hx hb hts hin6 hown hK hP 0 rfl rfl 5 (by decide) hf19 (fun _ h9 => h9) rfl dX6_goesOn_52 ?_
          refine lv_iload hx hb dX6_goesOn_55 (lv_at hl 6 rfl) ?_
          refine z_iald hx hb hK hP 4 rfl (j := i) (by omega) (by decide) dX6_goesOn_57 ?_
          refine z_callS (As := [.int ((vl i) + ((-1) * st)), .int (lo i), .int (hi i)]) (rest := []) ⟨hx, hb, hml, hown, hts⟩ hG hK hP hD hS (c_X6_held l D cI cJ ((vl i) + ((-1) * st)) (lo i) (hi i) ) (va_cwS 3 hts gX6_goesOn_X6_held rfl rfl rfl (by decide +kernel) ⟨Nat.le_of_ble_eq_true rfl, Nat.le_of_ble_eq_true rfl⟩) [] (by decide) rfl (fun _ => rfl) rfl hl.1 rfl (Nat.le_of_ble_eq_true rfl) dX6_goesOn_58 ⟨Nat.le_of_ble_eq_true rfl, Nat.le_of_ble_eq_true rfl⟩ (fun u_24 H locs hu_25 hP hD hS => ?_)
          obtain ⟨r_26, rfl⟩ : ∃ z, z = u_24 := ⟨_, rfl⟩
          have hu_25 : (r_26 = zHeldR (lo i) (hi i) ((vl i) + ((-1) * st))) := hu_25
          have e_27 := hu_25
          subst e_27
          have hP : va_P D vwCl [(ob, .inr (6, [.int th, .int (nI n), .ref b1, .ref b2, .ref b3, .ref b4, .ref b5, .int gx, .int gy, .int sl, .ref bp, .int xp, .int yp, .int hp, .ref bu, .ref bv, .int fd, .ref bk, .ref bw])), (b1, .inl (cI, 5, .inl kd)), (b2, .inl (cI, 5, .inl ln)), (b3, .inl (cI, 5, .inl lo)), (b4, .inl (cI, 5, .inl hi)), (b5, .inl (cI, 5, .inl vl)), (bp, .inl (cI, 5, .inl psp)), (bu, .inl (cI, 5, .inl f1)), (bv, .inl (cI, 5, .inl f2)), (bk, .inl (cJ, 10, .inr (.inl ky))), (bw, .inl (cI, 10, .inl wh))] H := hP
          have hD : va_D A0 [(ob, .inr (6, [.int th, .int (nI n), .ref b1, .ref b2, .ref b3, .ref b4, .ref b5, .int gx, .int gy, .int sl, .ref bp, .int xp, .int yp, .int hp, .ref bu, .ref bv, .int fd, .ref bk, .ref bw])), (b1, .inl (cI, 5, .inl kd)), (b2, .inl (cI, 5, .inl ln)), (b3, .inl (cI, 5, .inl lo)), (b4, .inl (cI, 5, .inl hi)), (b5, .inl (cI, 5, .inl vl)), (bp, .inl (cI, 5, .inl psp)), (bu, .inl (cI, 5, .inl f1)), (bv, .inl (cI, 5, .inl f2)), (bk, .inl (cJ, 10, .inr (.inl ky))), (bw, .inl (cI, 10, .inl wh))] := hD
          refine z_topi (y := zHeldC (lo i) (hi i) ((vl i) + ((-1) * st))) (zHeld_eq (hok.lh i (by omega))) ?_
          refine lv_istore (lv' := [(8, .int (zHeldC (lo i) (hi i) ((vl i) + ((-1) * st)))), (7, .int (-1)), (0, .ref ob), (1, .int st), (2, .long f), (4, .int b), (5, .int v), (6, .int (nI i))]) hx hb dX6_goesOn_61 hl (by decide) rfl (fun ls hl => ?_)
          refine lv_aload_n hx hb dX6_goesOn_63 rfl (lv_at hl 2 rfl) ?_
          refine lv_iload hx hb dX6_goesOn_64 (lv_at hl 7 rfl) ?_
          refine lv_iload hx hb dX6_goesOn_66 (lv_at hl 0 rfl) ?_
          refine z_callV (As := [.int (nI i), .int (zHeldC (lo i) (hi i) ((vl i) + ((-1) * st)))]) (rest := []) ⟨hx, hb, hml, hown, hts⟩ hG hK hP hD hS (c_X6_farWith l D cI cJ ob b1 b2 b3 b4 b5 bp bu bv bk bw n th gx gy sl xp yp hp fd kd ln lo hi vl psp f1 f2 ky wh i (zHeldC (lo i) (hi i) ((vl i) + ((-1) * st))) (by first | assumption | omega | decide) (by first | assumption | omega | decide) (by first | assumption | omega | decide) (by omega) (hok.held (by omega) _)) (cwV 2 hts gX6_goesOn_X6_farWith rfl rfl rfl (by decide +kernel) ⟨Nat.le_of_ble_eq_true rfl, Nat.le_of_ble_eq_true rfl⟩) [0, 1, 2, 3, 4, 5, 6, 7, 8, 9, 10] (by decide) rfl (fun _ => rfl) 0 rfl rfl rfl rfl hl.1 rfl (Nat.le_of_ble_eq_true rfl) dX6_goesOn_68 ⟨Nat.le_of_ble_eq_true rfl, Nat.le_of_ble_eq_true rfl⟩ (fun u_28 H locs hu_29 hP hD hS => ?_)
          obtain ⟨r_30, ps3_31, x3_32, y3_33, h3_34⟩ := u_28
          have hu_29 : (r_30 = zFw kd ln vl n gx gy (nI i) (zHeldC (lo i) (hi i) ((vl i) + ((-1) * st)))) := hu_29
          have e_35 := hu_29
          subst e_35
          have hP : va_P D vwCl [(ob, .inr (6, [.int th, .int (nI n), .ref b1, .ref b2, .ref b3, .ref b4, .ref b5, .int gx, .int gy, .int sl, .ref bp, .int x3_32, .int y3_33, .int h3_34, .ref bu, .ref bv, .int fd, .ref bk, .ref bw])), (b1, .inl (cI, 5, .inl kd)), (b2, .inl (cI, 5, .inl ln)), (b3, .inl (cI, 5, .inl lo)), (b4, .inl (cI, 5, .inl hi)), (b5, .inl (cI, 5, .inl vl)), (bp, .inl (cI, 5, .inl ps3_31)), (bu, .inl (cI, 5, .inl f1)), (bv, .inl (cI, 5, .inl f2)), (bk, .inl (cJ, 10, .inr (.inl ky))), (bw, .inl (cI, 10, .inl wh))] H := hP
          have hD : va_D A0 [(ob, .inr (6, [.int th, .int (nI n), .ref b1, .ref b2, .ref b3, .ref b4, .ref b5, .int gx, .int gy, .int sl, .ref bp, .int x3_32, .int y3_33, .int h3_34, .ref bu, .ref bv, .int fd, .ref bk, .ref bw])), (b1, .inl (cI, 5, .inl kd)), (b2, .inl (cI, 5, .inl ln)), (b3, .inl (cI, 5, .inl lo)), (b4, .inl (cI, 5, .inl hi)), (b5, .inl (cI, 5, .inl vl)), (bp, .inl (cI, 5, .inl ps3_31)), (bu, .inl (cI, 5, .inl f1)), (bv, .inl (cI, 5, .inl f2)), (bk, .inl (cJ, 10, .inr (.inl ky))), (bw, .inl (cI, 10, .inl wh))] := hD
          refine lv_lstore (lv' := [(9, .long (zFw kd ln vl n gx gy (nI i) (zHeldC (lo i) (hi i) ((vl i) + ((-1) * st))))), (8, .int (zHeldC (lo i) (hi i) ((vl i) + ((-1) * st)))), (7, .int (-1)), (0, .ref ob), (1, .int st), (2, .long f), (4, .int b), (5, .int v), (6, .int (nI i))]) hx hb dX6_goesOn_71 hl (by decide) rfl (fun ls hl => ?_)
          refine lv_lload hx hb dX6_goesOn_73 (lv_at hl 0 rfl) ?_
          refine lv_lload_n hx hb dX6_goesOn_75 rfl (lv_at hl 5 rfl) ?_
          refine W.lcmp hx hb dX6_goesOn_76 ?_
          refine lv_if_ge (tgt := 91) hx hb dX6_goesOn_77 (by decide) (fun c_77 => ?_) (fun c_77 => ?_)
          · rw [lg_cmp_ge] at c_77
            exact jn_91_10 f b v x3_32 y3_33 h3_34 ps3_31 (if_neg (Int64.not_lt.mpr c_77)) _ _ hP hD hS _ (lv_sub hl [3, 4, 5, 6, 7, 8, 2] rfl)
          · rw [lg_cmp_ge] at c_77
            refine lv_lload hx hb dX6_goesOn_80 (lv_at hl 0 rfl) ?_
            refine lv_lstore_n (lv' := [(2, .long (zFw kd ln vl n gx gy (nI i) (zHeldC (lo i) (hi i) ((vl i) + ((-1) * st))))), (9, .long (zFw kd ln vl n gx gy (nI i) (zHeldC (lo i) (hi i) ((vl i) + ((-1) * st))))), (8, .int (zHeldC (lo i) (hi i) ((vl i) + ((-1) * st)))), (7, .int (-1)), (0, .ref ob), (1, .int st), (4, .int b), (5, .int v), (6, .int (nI i))]) hx hb dX6_goesOn_82 rfl hl (by decide) rfl (fun ls hl => ?_)
            refine lv_iload hx hb dX6_goesOn_83 (lv_at hl 8 rfl) ?_
            refine lv_istore (lv' := [(4, .int (nI i)), (2, .long (zFw kd ln vl n gx gy (nI i) (zHeldC (lo i) (hi i) ((vl i) + ((-1) * st))))), (9, .long (zFw kd ln vl n gx gy (nI i) (zHeldC (lo i) (hi i) ((vl i) + ((-1) * st))))), (8, .int (zHeldC (lo i) (hi i) ((vl i) + ((-1) * st)))), (7, .int (-1)), (0, .ref ob), (1, .int st), (5, .int v), (6, .int (nI i))]) hx hb dX6_goesOn_85 hl (by decide) rfl (fun ls hl => ?_)
            refine lv_iload hx hb dX6_goesOn_87 (lv_at hl 3 rfl) ?_
            refine lv_istore (lv' := [(5, .int (zHeldC (lo i) (hi i) ((vl i) + ((-1) * st)))), (4, .int (nI i)), (2, .long (zFw kd ln vl n gx gy (nI i) (zHeldC (lo i) (hi i) ((vl i) + ((-1) * st))))), (9, .long (zFw kd ln vl n gx gy (nI i) (zHeldC (lo i) (hi i) ((vl i) + ((-1) * st))))), (8, .int (zHeldC (lo i) (hi i) ((vl i) + ((-1) * st)))), (7, .int (-1)), (0, .ref ob), (1, .int st), (6, .int (nI i))]) hx hb dX6_goesOn_89 hl (by decide) rfl (fun ls hl => ?_)
            exact jn_91_10 (zFw kd ln vl n gx gy (nI i) (zHeldC (lo i) (hi i) ((vl i) + ((-1) * st)))) (nI i) (zHeldC (lo i) (hi i) ((vl i) + ((-1) * st))) x3_32 y3_33 h3_34 ps3_31 (if_pos (Int64.not_le.mp c_77)) _ _ hP hD hS _ (lv_sub hl [6, 7, 2, 1, 0, 8, 5] rfl)
  exact lp_14_9 ((n - 0) + 1) 0 (zFn kd ln vl n gx gy) (-1) 0 x3_5 y3_6 h3_7 ps3_4 (by first | assumption | omega | rfl | simp_all) (rfl) (Nat.lt_succ_self _) _ _ hP hD hS _ (lv_sub hl [4, 5, 3, 2, 1, 0] rfl)

set_option maxHeartbeats 4000000 in
set_option maxRecDepth 100000 in
theorem c_X6_steps (l : Launch) (D : va_G) (cI cJ : ClassId) (ob : Nat) (b1 : Nat) (b2 : Nat) (b3 : Nat) (b4 : Nat) (b5 : Nat) (bp : Nat) (bu : Nat) (bv : Nat) (bk : Nat) (bw : Nat) (n : Nat) (th : Int32) (gx : Int32) (gy : Int32) (sl : Int32) (x : Int32) (y : Int32) (h : Int32) (fd : Int32) (kd : Nat → Int32) (ln : Nat → Int32) (lo : Nat → Int32) (hi : Nat → Int32) (vl : Nat → Int32) (ps : Nat → Int32) (f1 : Nat → Int32) (f2 : Nat → Int32) (ky : Nat → Int64) (wh : Nat → Int32) (p0 : Int32) (hok : zOk n kd ln lo hi vl) (hgx : zB 1000000 gx) (hgy : zB 1000000 gy) : zM l yX6_steps wsX6_steps 6 D cI cJ [.ref ob, .int p0] [(ob, .inr (6, [.int th, .int (nI n), .ref b1, .ref b2, .ref b3, .ref b4, .ref b5, .int gx, .int gy, .int sl, .ref bp, .int x, .int y, .int h, .ref bu, .ref bv, .int fd, .ref bk, .ref bw])), (b1, .inl (cI, 5, .inl kd)), (b2, .inl (cI, 5, .inl ln)), (b3, .inl (cI, 5, .inl lo)), (b4, .inl (cI, 5, .inl hi)), (b5, .inl (cI, 5, .inl vl)), (bp, .inl (cI, 5, .inl ps)), (bu, .inl (cI, 5, .inl f1)), (bv, .inl (cI, 5, .inl f2)), (bk, .inl (cJ, 10, .inr (.inl ky))), (bw, .inl (cI, 10, .inl wh))] (fun (u : Int32 × Int32 × (Nat → Int32) × (Nat → Int32) × Int32 × Int32 × Int32) => ((1 ≤ p0 ∧ p0 ≤ 200) → u.2.1 = 0 ∧ u.1 = nI (zRun kd ln lo hi vl n gx gy p0.toNatClampNeg).1 ∧ u.2.2.1 = (zRun kd ln lo hi vl n gx gy p0.toNatClampNeg).2) ∧ (¬ (1 ≤ p0 ∧ p0 ≤ 200) → u.2.1 = 1 ∧ u.2.2.1 = vl)) (fun (u : Int32 × Int32 × (Nat → Int32) × (Nat → Int32) × Int32 × Int32 × Int32) => some (.int u.1)) (fun (u : Int32 × Int32 × (Nat → Int32) × (Nat → Int32) × Int32 × Int32 × Int32) => [(ob, .inr (6, [.int u.2.1, .int (nI n), .ref b1, .ref b2, .ref b3, .ref b4, .ref b5, .int gx, .int gy, .int sl, .ref bp, .int u.2.2.2.2.1, .int u.2.2.2.2.2.1, .int u.2.2.2.2.2.2, .ref bu, .ref bv, .int fd, .ref bk, .ref bw])), (b1, .inl (cI, 5, .inl kd)), (b2, .inl (cI, 5, .inl ln)), (b3, .inl (cI, 5, .inl lo)), (b4, .inl (cI, 5, .inl hi)), (b5, .inl (cI, 5, .inl u.2.2.1)), (bp, .inl (cI, 5, .inl u.2.2.2.1)), (bu, .inl (cI, 5, .inl f1)), (bv, .inl (cI, 5, .inl f2)), (bk, .inl (cJ, 10, .inr (.inl ky))), (bw, .inl (cI, 10, .inl wh))]) := by
  refine zM_i (cc := cX6_steps) (maxL := 4) (r := fun (u : Int32 × Int32 × (Nat → Int32) × (Nat → Int32) × Int32 × Int32 × Int32) => u.1) (by decide) rfl (Nat.le_of_ble_eq_true rfl) ?_
  intro p e s m args below meth c ls A0 Q C hl hP hS hRet
  obtain ⟨⟨hx, hb, hml, hown, hts⟩, hG, hK, hD, hlocks⟩ := C
  have hin6 : ∀ w ∈ u_ws RX6 TX6 19, w ∈ wsX6_steps := by decide +kernel
  have hf45 := hts (.fieldLink RX6 45 "ArmRoomModel" "thrown" "I") (by decide +kernel)
  have hl : lv_has ls 4 [(0, .ref ob), (1, .int p0)] := hl
  have hn := hok.1
  refine lv_aload_n hx hb dX6_steps_0 rfl (lv_at hl 0 rfl) ?_
  refine lv_iload_n hx hb dX6_steps_1 rfl (lv_at hl 1 rfl) ?_
  refine lv_iconst (v := 1) hx hb dX6_steps_2 (by decide) ?_
  refine lv_sipush (v := 200) hx hb dX6_steps_3 (by decide) ?_
  refine z_callS (As := [.int p0, .int 1, .int 200]) (rest := [.ref ob]) ⟨hx, hb, hml, hown, hts⟩ hG hK hP hD hS (c_X6_in l D cI cJ p0 1 200 ) (va_cwS 3 hts gX6_steps_X6_in rfl rfl rfl (by decide +kernel) ⟨Nat.le_of_ble_eq_true rfl, Nat.le_of_ble_eq_true rfl⟩) [] (by decide) rfl (fun _ => rfl) rfl hl.1 rfl (Nat.le_of_ble_eq_true rfl) dX6_steps_6 ⟨Nat.le_of_ble_eq_true rfl, Nat.le_of_ble_eq_true rfl⟩ (fun u_1 H locs hu_2 hP hD hS => ?_)
  obtain ⟨r_3, rfl⟩ : ∃ z, z = u_1 := ⟨_, rfl⟩
  have hu_2 : (r_3 = if 1 ≤ p0 ∧ p0 ≤ 200 then 1 else 0) := hu_2
  have e_4 := hu_2
  subst e_4
  have hP : va_P D vwCl [(ob, .inr (6, [.int th, .int (nI n), .ref b1, .ref b2, .ref b3, .ref b4, .ref b5, .int gx, .int gy, .int sl, .ref bp, .int x, .int y, .int h, .ref bu, .ref bv, .int fd, .ref bk, .ref bw])), (b1, .inl (cI, 5, .inl kd)), (b2, .inl (cI, 5, .inl ln)), (b3, .inl (cI, 5, .inl lo)), (b4, .inl (cI, 5, .inl hi)), (b5, .inl (cI, 5, .inl vl)), (bp, .inl (cI, 5, .inl ps)), (bu, .inl (cI, 5, .inl f1)), (bv, .inl (cI, 5, .inl f2)), (bk, .inl (cJ, 10, .inr (.inl ky))), (bw, .inl (cI, 10, .inl wh))] H := hP
  have hD : va_D A0 [(ob, .inr (6, [.int th, .int (nI n), .ref b1, .ref b2, .ref b3, .ref b4, .ref b5, .int gx, .int gy, .int sl, .ref bp, .int x, .int y, .int h, .ref bu, .ref bv, .int fd, .ref bk, .ref bw])), (b1, .inl (cI, 5, .inl kd)), (b2, .inl (cI, 5, .inl ln)), (b3, .inl (cI, 5, .inl lo)), (b4, .inl (cI, 5, .inl hi)), (b5, .inl (cI, 5, .inl vl)), (bp, .inl (cI, 5, .inl ps)), (bu, .inl (cI, 5, .inl f1)), (bv, .inl (cI, 5, .inl f2)), (bk, .inl (cJ, 10, .inr (.inl ky))), (bw, .inl (cI, 10, .inl wh))] := hD
  refine lv_if_eq (tgt := 16) hx hb dX6_steps_9 (by decide) (fun c_9 => ?_) (fun c_9 => ?_)
  · have hI := zif_0 c_9
    refine lv_iconst (v := 1) hx hb dX6_steps_16 (by decide) ?_
    refine va_put (D := D) (ci := 6) (v := .int 1) (ty := .int) (C := RX6) (T := TX6) (N := 19) hx hb hts hin6 tyX6 tyX6_ok nmX6 hown hK hP hD hS 0 rfl rfl 0 (by decide) hf45 (fun _ h9 => h9) rfl (by decide +kernel) rfl rfl (Nat.le_of_ble_eq_true rfl) dX6_steps_17 (fun H locs hP hD hS => ?_)
    have hP : va_P D vwCl [(ob, .inr (6, [.int 1, .int (nI n), .ref b1, .ref b2, .ref b3, .ref b4, .ref b5, .int gx, .int gy, .int sl, .ref bp, .int x, .int y, .int h, .ref bu, .ref bv, .int fd, .ref bk, .ref bw])), (b1, .inl (cI, 5, .inl kd)), (b2, .inl (cI, 5, .inl ln)), (b3, .inl (cI, 5, .inl lo)), (b4, .inl (cI, 5, .inl hi)), (b5, .inl (cI, 5, .inl vl)), (bp, .inl (cI, 5, .inl ps)), (bu, .inl (cI, 5, .inl f1)), (bv, .inl (cI, 5, .inl f2)), (bk, .inl (cJ, 10, .inr (.inl ky))), (bw, .inl (cI, 10, .inl wh))] H := hP
    have hD : va_D A0 [(ob, .inr (6, [.int 1, .int (nI n), .ref b1, .ref b2, .ref b3, .ref b4, .ref b5, .int gx, .int gy, .int sl, .ref bp, .int x, .int y, .int h, .ref bu, .ref bv, .int fd, .ref bk, .ref bw])), (b1, .inl (cI, 5, .inl kd)), (b2, .inl (cI, 5, .inl ln)), (b3, .inl (cI, 5, .inl lo)), (b4, .inl (cI, 5, .inl hi)), (b5, .inl (cI, 5, .inl vl)), (bp, .inl (cI, 5, .inl ps)), (bu, .inl (cI, 5, .inl f1)), (bv, .inl (cI, 5, .inl f2)), (bk, .inl (cJ, 10, .inr (.inl ky))), (bw, .inl (cI, 10, .inl wh))] := hD
    refine lv_iconst (v := 0) hx hb dX6_steps_20 (by decide) ?_
    refine lv_istore_n (lv' := [(2, .int 0), (0, .ref ob), (1, .int p0)]) hx hb dX6_steps_21 rfl hl (by decide) rfl (fun ls hl => ?_)
    refine lv_aload_n hx hb dX6_steps_22 rfl (lv_at hl 1 rfl) ?_
    refine va_get (D := D) (ci := 6) (v := .int 1) (C := RX6) (T := TX6) (N := 19) hx hb hts hin6 hown hK hP 0 rfl rfl 0 (by decide) hf45 (fun _ h9 => h9) rfl dX6_steps_23 ?_
    refine lv_if_le (tgt := 33) hx hb dX6_steps_26 (by decide) (fun c_26 => ?_) (fun c_26 => ?_)
    · exact absurd c_26 (by decide)
    · refine lv_iconst (v := 0) hx hb dX6_steps_29 (by decide) ?_
      refine lv_goto (tgt := 35) hx hb dX6_steps_30 (by decide) ?_
      refine lv_istore_n (lv' := [(3, .int 0), (2, .int 0), (0, .ref ob), (1, .int p0)]) hx hb dX6_steps_35 rfl hl (by decide) rfl (fun ls hl => ?_)
      refine lv_iload_n hx hb dX6_steps_36 rfl (lv_at hl 0 rfl) ?_
      refine lv_if_le (tgt := 66) hx hb dX6_steps_37 (by decide) (fun c_37 => ?_) (fun c_37 => ?_)
      · refine lv_iload_n hx hb dX6_steps_66 rfl (lv_at hl 1 rfl) ?_
        exact hRet _ (0, 1, vl, ps, x, y, h) _ _ _ ⟨fun h => absurd h hI, fun _ => ⟨rfl, rfl⟩⟩ hP hS dX6_steps_67
      · exact absurd (by decide) c_37
  · have hst := zif_1 c_9
    obtain ⟨mm, hm1, hm2, hme⟩ := zmost hst
    subst hme
    have hcm : (nI mm).toNatClampNeg = mm := nI_clamp (by omega)
    refine lv_iconst (v := 0) hx hb dX6_steps_12 (by decide) ?_
    refine lv_goto (tgt := 17) hx hb dX6_steps_13 (by decide) ?_
    refine va_put (D := D) (ci := 6) (v := .int 0) (ty := .int) (C := RX6) (T := TX6) (N := 19) hx hb hts hin6 tyX6 tyX6_ok nmX6 hown hK hP hD hS 0 rfl rfl 0 (by decide) hf45 (fun _ h9 => h9) rfl (by decide +kernel) rfl rfl (Nat.le_of_ble_eq_true rfl) dX6_steps_17 (fun H locs hP hD hS => ?_)
    have hP : va_P D vwCl [(ob, .inr (6, [.int 0, .int (nI n), .ref b1, .ref b2, .ref b3, .ref b4, .ref b5, .int gx, .int gy, .int sl, .ref bp, .int x, .int y, .int h, .ref bu, .ref bv, .int fd, .ref bk, .ref bw])), (b1, .inl (cI, 5, .inl kd)), (b2, .inl (cI, 5, .inl ln)), (b3, .inl (cI, 5, .inl lo)), (b4, .inl (cI, 5, .inl hi)), (b5, .inl (cI, 5, .inl vl)), (bp, .inl (cI, 5, .inl ps)), (bu, .inl (cI, 5, .inl f1)), (bv, .inl (cI, 5, .inl f2)), (bk, .inl (cJ, 10, .inr (.inl ky))), (bw, .inl (cI, 10, .inl wh))] H := hP
    have hD : va_D A0 [(ob, .inr (6, [.int 0, .int (nI n), .ref b1, .ref b2, .ref b3, .ref b4, .ref b5, .int gx, .int gy, .int sl, .ref bp, .int x, .int y, .int h, .ref bu, .ref bv, .int fd, .ref bk, .ref bw])), (b1, .inl (cI, 5, .inl kd)), (b2, .inl (cI, 5, .inl ln)), (b3, .inl (cI, 5, .inl lo)), (b4, .inl (cI, 5, .inl hi)), (b5, .inl (cI, 5, .inl vl)), (bp, .inl (cI, 5, .inl ps)), (bu, .inl (cI, 5, .inl f1)), (bv, .inl (cI, 5, .inl f2)), (bk, .inl (cJ, 10, .inr (.inl ky))), (bw, .inl (cI, 10, .inl wh))] := hD
    refine lv_iconst (v := 0) hx hb dX6_steps_20 (by decide) ?_
    refine lv_istore_n (lv' := [(2, .int 0), (0, .ref ob), (1, .int (nI mm))]) hx hb dX6_steps_21 rfl hl (by decide) rfl (fun ls hl => ?_)
    refine lv_aload_n hx hb dX6_steps_22 rfl (lv_at hl 1 rfl) ?_
    refine va_get (D := D) (ci := 6) (v := .int 0) (C := RX6) (T := TX6) (N := 19) hx hb hts hin6 hown hK hP 0 rfl rfl 0 (by decide) hf45 (fun _ h9 => h9) rfl dX6_steps_23 ?_
    refine lv_if_le (tgt := 33) hx hb dX6_steps_26 (by decide) (fun c_26 => ?_) (fun c_26 => ?_)
    · refine lv_bipush (v := 8) hx hb dX6_steps_33 (by decide) ?_
      refine lv_istore_n (lv' := [(3, .int 8), (2, .int 0), (0, .ref ob), (1, .int (nI mm))]) hx hb dX6_steps_35 rfl hl (by decide) rfl (fun ls hl => ?_)
      have lp_36_5 : ∀ (fu : Nat) (d8 : Nat) (v8 : Nat → Int32) (xs_8 : Int32) (ys_8 : Int32) (hs_8 : Int32) (ps_8 : Nat → Int32), (d8 ≤ mm) → ((d8 + (zRn kd ln lo hi n gx gy [8, 4, 2, 1] (mm - d8) v8).1, (zRn kd ln lo hi n gx gy [8, 4, 2, 1] (mm - d8) v8).2) = zRun kd ln lo hi vl n gx gy mm) → (zOk n kd ln lo hi v8) → (mm - d8 < fu) → ∀ (H : Heap) (locs : List Loc), va_P D vwCl [(ob, .inr (6, [.int 0, .int (nI n), .ref b1, .ref b2, .ref b3, .ref b4, .ref b5, .int gx, .int gy, .int sl, .ref bp, .int xs_8, .int ys_8, .int hs_8, .ref bu, .ref bv, .int fd, .ref bk, .ref bw])), (b1, .inl (cI, 5, .inl kd)), (b2, .inl (cI, 5, .inl ln)), (b3, .inl (cI, 5, .inl lo)), (b4, .inl (cI, 5, .inl hi)), (b5, .inl (cI, 5, .inl v8)), (bp, .inl (cI, 5, .inl ps_8)), (bu, .inl (cI, 5, .inl f1)), (bv, .inl (cI, 5, .inl f2)), (bk, .inl (cJ, 10, .inr (.inl ky))), (bw, .inl (cI, 10, .inl wh))] H → va_D A0 [(ob, .inr (6, [.int 0, .int (nI n), .ref b1, .ref b2, .ref b3, .ref b4, .ref b5, .int gx, .int gy, .int sl, .ref bp, .int xs_8, .int ys_8, .int hs_8, .ref bu, .ref bv, .int fd, .ref bk, .ref bw])), (b1, .inl (cI, 5, .inl kd)), (b2, .inl (cI, 5, .inl ln)), (b3, .inl (cI, 5, .inl lo)), (b4, .inl (cI, 5, .inl hi)), (b5, .inl (cI, 5, .inl v8)), (bp, .inl (cI, 5, .inl ps_8)), (bu, .inl (cI, 5, .inl f1)), (bv, .inl (cI, 5, .inl f2)), (bk, .inl (cJ, 10, .inr (.inl ky))), (bw, .inl (cI, 10, .inl wh))] → va_S A0 s.heap H locs → ∀ (ls : Array Slot), lv_has ls 4 [(0, .ref ob), (1, .int (nI mm)), (2, .int (nI d8)), (3, .int 8)] → W p l e (zRm 6 0 0) s m args below meth c H locs 0 0 Q (F0 m 36 ls []) := by
        intro fu
        induction fu with
        | zero => intro d8 v8 xs_8 ys_8 hs_8 ps_8 hd8 hz8 hok8 hfu; exact absurd hfu (Nat.not_lt_zero _)
        | succ fu ih_36_5 =>
          intro d8 v8 xs_8 ys_8 hs_8 ps_8 hd8 hz8 hok8 hfu H locs hP hD hS ls hl
          refine lv_iload_n hx hb dX6_steps_36 rfl (lv_at hl 3 rfl) ?_
          refine lv_if_le (tgt := 66) hx hb dX6_steps_37 (by decide) (fun c_37 => ?_) (fun c_37 => ?_)
          · exact absurd c_37 (by decide)
          · refine lv_iload_n hx hb dX6_steps_40 rfl (lv_at hl 2 rfl) ?_
            refine lv_iload_n hx hb dX6_steps_41 rfl (lv_at hl 1 rfl) ?_
            refine lv_icmp_ge (tgt := 66) hx hb dX6_steps_42 (by decide) (fun c_42 => ?_) (fun c_42 => ?_)
            · rw [nI_leI (by omega) (by omega)] at c_42
              refine lv_iload_n hx hb dX6_steps_66 rfl (lv_at hl 2 rfl) ?_
              exact hRet _ (nI d8, 0, v8, ps_8, xs_8, ys_8, hs_8) _ _ _ ⟨fun _ => by have hzz := zRn_end c_42 hz8; rw [hcm, ← hzz]; exact ⟨rfl, rfl, rfl⟩, fun h => absurd hst h⟩ hP hS dX6_steps_67
            · rw [nI_leI (by omega) (by omega)] at c_42
              refine lv_aload_n hx hb dX6_steps_45 rfl (lv_at hl 0 rfl) ?_
              refine lv_iload_n hx hb dX6_steps_46 rfl (lv_at hl 3 rfl) ?_
              refine z_callV (As := [.int 8]) (rest := []) ⟨hx, hb, hml, hown, hts⟩ hG hK hP hD hS (c_X6_goesOn l D cI cJ ob b1 b2 b3 b4 b5 bp bu bv bk bw n 0 gx gy sl xs_8 ys_8 hs_8 fd kd ln lo hi v8 ps_8 f1 f2 ky wh 8 (hok8) (by first | assumption | omega | decide) (by first | assumption | omega | decide)) (cwV 1 hts gX6_steps_X6_goesOn rfl rfl rfl (by decide +kernel) ⟨Nat.le_of_ble_eq_true rfl, Nat.le_of_ble_eq_true rfl⟩) [0, 1, 2, 3, 4, 5, 6, 7, 8, 9, 10] (by decide) rfl (fun _ => rfl) 0 rfl rfl rfl rfl hl.1 rfl (Nat.le_of_ble_eq_true rfl) dX6_steps_47 ⟨Nat.le_of_ble_eq_true rfl, Nat.le_of_ble_eq_true rfl⟩ (fun u_6 H locs hu_7 hP hD hS => ?_)
              obtain ⟨r_8, vl2_9, ps3_10, x3_11, y3_12, h3_13⟩ := u_6
              have hu_7 : (r_8 = if (zBst kd ln lo hi v8 n gx gy 8 n).2.1 = -1 then 0 else 1) ∧ (vl2_9 = if (zBst kd ln lo hi v8 n gx gy 8 n).2.1 = -1 then v8 else zNx kd ln lo hi v8 n gx gy 8) := hu_7
              obtain ⟨e_14, e_15⟩ := hu_7
              subst e_14
              subst e_15
              have hP : va_P D vwCl [(ob, .inr (6, [.int 0, .int (nI n), .ref b1, .ref b2, .ref b3, .ref b4, .ref b5, .int gx, .int gy, .int sl, .ref bp, .int x3_11, .int y3_12, .int h3_13, .ref bu, .ref bv, .int fd, .ref bk, .ref bw])), (b1, .inl (cI, 5, .inl kd)), (b2, .inl (cI, 5, .inl ln)), (b3, .inl (cI, 5, .inl lo)), (b4, .inl (cI, 5, .inl hi)), (b5, .inl (cI, 5, .inl (if (zBst kd ln lo hi v8 n gx gy 8 n).2.1 = -1 then v8 else zNx kd ln lo hi v8 n gx gy 8))), (bp, .inl (cI, 5, .inl ps3_10)), (bu, .inl (cI, 5, .inl f1)), (bv, .inl (cI, 5, .inl f2)), (bk, .inl (cJ, 10, .inr (.inl ky))), (bw, .inl (cI, 10, .inl wh))] H := hP
              have hD : va_D A0 [(ob, .inr (6, [.int 0, .int (nI n), .ref b1, .ref b2, .ref b3, .ref b4, .ref b5, .int gx, .int gy, .int sl, .ref bp, .int x3_11, .int y3_12, .int h3_13, .ref bu, .ref bv, .int fd, .ref bk, .ref bw])), (b1, .inl (cI, 5, .inl kd)), (b2, .inl (cI, 5, .inl ln)), (b3, .inl (cI, 5, .inl lo)), (b4, .inl (cI, 5, .inl hi)), (b5, .inl (cI, 5, .inl (if (zBst kd ln lo hi v8 n gx gy 8 n).2.1 = -1 then v8 else zNx kd ln lo hi v8 n gx gy 8))), (bp, .inl (cI, 5, .inl ps3_10)), (bu, .inl (cI, 5, .inl f1)), (bv, .inl (cI, 5, .inl f2)), (bk, .inl (cJ, 10, .inr (.inl ky))), (bw, .inl (cI, 10, .inl wh))] := hD
              refine lv_if_eq (tgt := 59) hx hb dX6_steps_50 (by decide) (fun c_50 => ?_) (fun c_50 => ?_)
              · have hbq : (zBst kd ln lo hi v8 n gx gy 8 n).2.1 = -1 := zif_t c_50
                rw [if_pos hbq] at hP hD
                have hP : va_P D vwCl [(ob, .inr (6, [.int 0, .int (nI n), .ref b1, .ref b2, .ref b3, .ref b4, .ref b5, .int gx, .int gy, .int sl, .ref bp, .int x3_11, .int y3_12, .int h3_13, .ref bu, .ref bv, .int fd, .ref bk, .ref bw])), (b1, .inl (cI, 5, .inl kd)), (b2, .inl (cI, 5, .inl ln)), (b3, .inl (cI, 5, .inl lo)), (b4, .inl (cI, 5, .inl hi)), (b5, .inl (cI, 5, .inl v8)), (bp, .inl (cI, 5, .inl ps3_10)), (bu, .inl (cI, 5, .inl f1)), (bv, .inl (cI, 5, .inl f2)), (bk, .inl (cJ, 10, .inr (.inl ky))), (bw, .inl (cI, 10, .inl wh))] H := hP
                have hD : va_D A0 [(ob, .inr (6, [.int 0, .int (nI n), .ref b1, .ref b2, .ref b3, .ref b4, .ref b5, .int gx, .int gy, .int sl, .ref bp, .int x3_11, .int y3_12, .int h3_13, .ref bu, .ref bv, .int fd, .ref bk, .ref bw])), (b1, .inl (cI, 5, .inl kd)), (b2, .inl (cI, 5, .inl ln)), (b3, .inl (cI, 5, .inl lo)), (b4, .inl (cI, 5, .inl hi)), (b5, .inl (cI, 5, .inl v8)), (bp, .inl (cI, 5, .inl ps3_10)), (bu, .inl (cI, 5, .inl f1)), (bv, .inl (cI, 5, .inl f2)), (bk, .inl (cJ, 10, .inr (.inl ky))), (bw, .inl (cI, 10, .inl wh))] := hD
                refine lv_iload_n hx hb dX6_steps_59 rfl (lv_at hl 3 rfl) ?_
                refine lv_iconst (v := 2) hx hb dX6_steps_60 (by decide) ?_
                refine lv_idiv hx hb dX6_steps_61 (by decide) ?_
                refine z_topi (y := 4) (by decide) ?_
                refine lv_istore_n (lv' := [(3, .int 4), (0, .ref ob), (1, .int (nI mm)), (2, .int (nI d8))]) hx hb dX6_steps_62 rfl hl (by decide) rfl (fun ls hl => ?_)
                refine lv_goto (tgt := 36) hx hb dX6_steps_63 (by decide) ?_
                have lp_36_16 : ∀ (fu : Nat) (d4 : Nat) (v4 : Nat → Int32) (xs_4 : Int32) (ys_4 : Int32) (hs_4 : Int32) (ps_4 : Nat → Int32), (d4 ≤ mm) → ((d4 + (zRn kd ln lo hi n gx gy [4, 2, 1] (mm - d4) v4).1, (zRn kd ln lo hi n gx gy [4, 2, 1] (mm - d4) v4).2) = zRun kd ln lo hi vl n gx gy mm) → (zOk n kd ln lo hi v4) → (mm - d4 < fu) → ∀ (H : Heap) (locs : List Loc), va_P D vwCl [(ob, .inr (6, [.int 0, .int (nI n), .ref b1, .ref b2, .ref b3, .ref b4, .ref b5, .int gx, .int gy, .int sl, .ref bp, .int xs_4, .int ys_4, .int hs_4, .ref bu, .ref bv, .int fd, .ref bk, .ref bw])), (b1, .inl (cI, 5, .inl kd)), (b2, .inl (cI, 5, .inl ln)), (b3, .inl (cI, 5, .inl lo)), (b4, .inl (cI, 5, .inl hi)), (b5, .inl (cI, 5, .inl v4)), (bp, .inl (cI, 5, .inl ps_4)), (bu, .inl (cI, 5, .inl f1)), (bv, .inl (cI, 5, .inl f2)), (bk, .inl (cJ, 10, .inr (.inl ky))), (bw, .inl (cI, 10, .inl wh))] H → va_D A0 [(ob, .inr (6, [.int 0, .int (nI n), .ref b1, .ref b2, .ref b3, .ref b4, .ref b5, .int gx, .int gy, .int sl, .ref bp, .int xs_4, .int ys_4, .int hs_4, .ref bu, .ref bv, .int fd, .ref bk, .ref bw])), (b1, .inl (cI, 5, .inl kd)), (b2, .inl (cI, 5, .inl ln)), (b3, .inl (cI, 5, .inl lo)), (b4, .inl (cI, 5, .inl hi)), (b5, .inl (cI, 5, .inl v4)), (bp, .inl (cI, 5, .inl ps_4)), (bu, .inl (cI, 5, .inl f1)), (bv, .inl (cI, 5, .inl f2)), (bk, .inl (cJ, 10, .inr (.inl ky))), (bw, .inl (cI, 10, .inl wh))] → va_S A0 s.heap H locs → ∀ (ls : Array Slot), lv_has ls 4 [(0, .ref ob), (1, .int (nI mm)), (2, .int (nI d4)), (3, .int 4)] → W p l e (zRm 6 0 0) s m args below meth c H locs 0 0 Q (F0 m 36 ls []) := by
                  intro fu
                  induction fu with
                  | zero => intro d4 v4 xs_4 ys_4 hs_4 ps_4 hd4 hz4 hok4 hfu; exact absurd hfu (Nat.not_lt_zero _)
                  | succ fu ih_36_16 =>
                    intro d4 v4 xs_4 ys_4 hs_4 ps_4 hd4 hz4 hok4 hfu H locs hP hD hS ls hl
                    refine lv_iload_n hx hb dX6_steps_36 rfl (lv_at hl 3 rfl) ?_
                    refine lv_if_le (tgt := 66) hx hb dX6_steps_37 (by decide) (fun c_37 => ?_) (fun c_37 => ?_)
                    · exact absurd c_37 (by decide)
                    · refine lv_iload_n hx hb dX6_steps_40 rfl (lv_at hl 2 rfl) ?_
                      refine lv_iload_n hx hb dX6_steps_41 rfl (lv_at hl 1 rfl) ?_
                      refine lv_icmp_ge (tgt := 66) hx hb dX6_steps_42 (by decide) (fun c_42 => ?_) (fun c_42 => ?_)
                      · rw [nI_leI (by omega) (by omega)] at c_42
                        refine lv_iload_n hx hb dX6_steps_66 rfl (lv_at hl 2 rfl) ?_
                        exact hRet _ (nI d4, 0, v4, ps_4, xs_4, ys_4, hs_4) _ _ _ ⟨fun _ => by have hzz := zRn_end c_42 hz4; rw [hcm, ← hzz]; exact ⟨rfl, rfl, rfl⟩, fun h => absurd hst h⟩ hP hS dX6_steps_67
                      · rw [nI_leI (by omega) (by omega)] at c_42
                        refine lv_aload_n hx hb dX6_steps_45 rfl (lv_at hl 0 rfl) ?_
                        refine lv_iload_n hx hb dX6_steps_46 rfl (lv_at hl 3 rfl) ?_
                        refine z_callV (As := [.int 4]) (rest := []) ⟨hx, hb, hml, hown, hts⟩ hG hK hP hD hS (c_X6_goesOn l D cI cJ ob b1 b2 b3 b4 b5 bp bu bv bk bw n 0 gx gy sl xs_4 ys_4 hs_4 fd kd ln lo hi v4 ps_4 f1 f2 ky wh 4 (hok4) (by first | assumption | omega | decide) (by first | assumption | omega | decide)) (cwV 1 hts gX6_steps_X6_goesOn rfl rfl rfl (by decide +kernel) ⟨Nat.le_of_ble_eq_true rfl, Nat.le_of_ble_eq_true rfl⟩) [0, 1, 2, 3, 4, 5, 6, 7, 8, 9, 10] (by decide) rfl (fun _ => rfl) 0 rfl rfl rfl rfl hl.1 rfl (Nat.le_of_ble_eq_true rfl) dX6_steps_47 ⟨Nat.le_of_ble_eq_true rfl, Nat.le_of_ble_eq_true rfl⟩ (fun u_17 H locs hu_18 hP hD hS => ?_)
                        obtain ⟨r_19, vl2_20, ps3_21, x3_22, y3_23, h3_24⟩ := u_17
                        have hu_18 : (r_19 = if (zBst kd ln lo hi v4 n gx gy 4 n).2.1 = -1 then 0 else 1) ∧ (vl2_20 = if (zBst kd ln lo hi v4 n gx gy 4 n).2.1 = -1 then v4 else zNx kd ln lo hi v4 n gx gy 4) := hu_18
                        obtain ⟨e_25, e_26⟩ := hu_18
                        subst e_25
                        subst e_26
                        have hP : va_P D vwCl [(ob, .inr (6, [.int 0, .int (nI n), .ref b1, .ref b2, .ref b3, .ref b4, .ref b5, .int gx, .int gy, .int sl, .ref bp, .int x3_22, .int y3_23, .int h3_24, .ref bu, .ref bv, .int fd, .ref bk, .ref bw])), (b1, .inl (cI, 5, .inl kd)), (b2, .inl (cI, 5, .inl ln)), (b3, .inl (cI, 5, .inl lo)), (b4, .inl (cI, 5, .inl hi)), (b5, .inl (cI, 5, .inl (if (zBst kd ln lo hi v4 n gx gy 4 n).2.1 = -1 then v4 else zNx kd ln lo hi v4 n gx gy 4))), (bp, .inl (cI, 5, .inl ps3_21)), (bu, .inl (cI, 5, .inl f1)), (bv, .inl (cI, 5, .inl f2)), (bk, .inl (cJ, 10, .inr (.inl ky))), (bw, .inl (cI, 10, .inl wh))] H := hP
                        have hD : va_D A0 [(ob, .inr (6, [.int 0, .int (nI n), .ref b1, .ref b2, .ref b3, .ref b4, .ref b5, .int gx, .int gy, .int sl, .ref bp, .int x3_22, .int y3_23, .int h3_24, .ref bu, .ref bv, .int fd, .ref bk, .ref bw])), (b1, .inl (cI, 5, .inl kd)), (b2, .inl (cI, 5, .inl ln)), (b3, .inl (cI, 5, .inl lo)), (b4, .inl (cI, 5, .inl hi)), (b5, .inl (cI, 5, .inl (if (zBst kd ln lo hi v4 n gx gy 4 n).2.1 = -1 then v4 else zNx kd ln lo hi v4 n gx gy 4))), (bp, .inl (cI, 5, .inl ps3_21)), (bu, .inl (cI, 5, .inl f1)), (bv, .inl (cI, 5, .inl f2)), (bk, .inl (cJ, 10, .inr (.inl ky))), (bw, .inl (cI, 10, .inl wh))] := hD
                        refine lv_if_eq (tgt := 59) hx hb dX6_steps_50 (by decide) (fun c_50 => ?_) (fun c_50 => ?_)
                        · have hbq : (zBst kd ln lo hi v4 n gx gy 4 n).2.1 = -1 := zif_t c_50
                          rw [if_pos hbq] at hP hD
                          have hP : va_P D vwCl [(ob, .inr (6, [.int 0, .int (nI n), .ref b1, .ref b2, .ref b3, .ref b4, .ref b5, .int gx, .int gy, .int sl, .ref bp, .int x3_22, .int y3_23, .int h3_24, .ref bu, .ref bv, .int fd, .ref bk, .ref bw])), (b1, .inl (cI, 5, .inl kd)), (b2, .inl (cI, 5, .inl ln)), (b3, .inl (cI, 5, .inl lo)), (b4, .inl (cI, 5, .inl hi)), (b5, .inl (cI, 5, .inl v4)), (bp, .inl (cI, 5, .inl ps3_21)), (bu, .inl (cI, 5, .inl f1)), (bv, .inl (cI, 5, .inl f2)), (bk, .inl (cJ, 10, .inr (.inl ky))), (bw, .inl (cI, 10, .inl wh))] H := hP
                          have hD : va_D A0 [(ob, .inr (6, [.int 0, .int (nI n), .ref b1, .ref b2, .ref b3, .ref b4, .ref b5, .int gx, .int gy, .int sl, .ref bp, .int x3_22, .int y3_23, .int h3_24, .ref bu, .ref bv, .int fd, .ref bk, .ref bw])), (b1, .inl (cI, 5, .inl kd)), (b2, .inl (cI, 5, .inl ln)), (b3, .inl (cI, 5, .inl lo)), (b4, .inl (cI, 5, .inl hi)), (b5, .inl (cI, 5, .inl v4)), (bp, .inl (cI, 5, .inl ps3_21)), (bu, .inl (cI, 5, .inl f1)), (bv, .inl (cI, 5, .inl f2)), (bk, .inl (cJ, 10, .inr (.inl ky))), (bw, .inl (cI, 10, .inl wh))] := hD
                          refine lv_iload_n hx hb dX6_steps_59 rfl (lv_at hl 3 rfl) ?_
                          refine lv_iconst (v := 2) hx hb dX6_steps_60 (by decide) ?_
                          refine lv_idiv hx hb dX6_steps_61 (by decide) ?_
                          refine z_topi (y := 2) (by decide) ?_
                          refine lv_istore_n (lv' := [(3, .int 2), (0, .ref ob), (1, .int (nI mm)), (2, .int (nI d4))]) hx hb dX6_steps_62 rfl hl (by decide) rfl (fun ls hl => ?_)
                          refine lv_goto (tgt := 36) hx hb dX6_steps_63 (by decide) ?_
                          have lp_36_27 : ∀ (fu : Nat) (d2 : Nat) (v2 : Nat → Int32) (xs_2 : Int32) (ys_2 : Int32) (hs_2 : Int32) (ps_2 : Nat → Int32), (d2 ≤ mm) → ((d2 + (zRn kd ln lo hi n gx gy [2, 1] (mm - d2) v2).1, (zRn kd ln lo hi n gx gy [2, 1] (mm - d2) v2).2) = zRun kd ln lo hi vl n gx gy mm) → (zOk n kd ln lo hi v2) → (mm - d2 < fu) → ∀ (H : Heap) (locs : List Loc), va_P D vwCl [(ob, .inr (6, [.int 0, .int (nI n), .ref b1, .ref b2, .ref b3, .ref b4, .ref b5, .int gx, .int gy, .int sl, .ref bp, .int xs_2, .int ys_2, .int hs_2, .ref bu, .ref bv, .int fd, .ref bk, .ref bw])), (b1, .inl (cI, 5, .inl kd)), (b2, .inl (cI, 5, .inl ln)), (b3, .inl (cI, 5, .inl lo)), (b4, .inl (cI, 5, .inl hi)), (b5, .inl (cI, 5, .inl v2)), (bp, .inl (cI, 5, .inl ps_2)), (bu, .inl (cI, 5, .inl f1)), (bv, .inl (cI, 5, .inl f2)), (bk, .inl (cJ, 10, .inr (.inl ky))), (bw, .inl (cI, 10, .inl wh))] H → va_D A0 [(ob, .inr (6, [.int 0, .int (nI n), .ref b1, .ref b2, .ref b3, .ref b4, .ref b5, .int gx, .int gy, .int sl, .ref bp, .int xs_2, .int ys_2, .int hs_2, .ref bu, .ref bv, .int fd, .ref bk, .ref bw])), (b1, .inl (cI, 5, .inl kd)), (b2, .inl (cI, 5, .inl ln)), (b3, .inl (cI, 5, .inl lo)), (b4, .inl (cI, 5, .inl hi)), (b5, .inl (cI, 5, .inl v2)), (bp, .inl (cI, 5, .inl ps_2)), (bu, .inl (cI, 5, .inl f1)), (bv, .inl (cI, 5, .inl f2)), (bk, .inl (cJ, 10, .inr (.inl ky))), (bw, .inl (cI, 10, .inl wh))] → va_S A0 s.heap H locs → ∀ (ls : Array Slot), lv_has ls 4 [(0, .ref ob), (1, .int (nI mm)), (2, .int (nI d2)), (3, .int 2)] → W p l e (zRm 6 0 0) s m args below meth c H locs 0 0 Q (F0 m 36 ls []) := by
                            intro fu
                            induction fu with
                            | zero => intro d2 v2 xs_2 ys_2 hs_2 ps_2 hd2 hz2 hok2 hfu; exact absurd hfu (Nat.not_lt_zero _)
                            | succ fu ih_36_27 =>
                              intro d2 v2 xs_2 ys_2 hs_2 ps_2 hd2 hz2 hok2 hfu H locs hP hD hS ls hl
                              refine lv_iload_n hx hb dX6_steps_36 rfl (lv_at hl 3 rfl) ?_
                              refine lv_if_le (tgt := 66) hx hb dX6_steps_37 (by decide) (fun c_37 => ?_) (fun c_37 => ?_)
                              · exact absurd c_37 (by decide)
                              · refine lv_iload_n hx hb dX6_steps_40 rfl (lv_at hl 2 rfl) ?_
                                refine lv_iload_n hx hb dX6_steps_41 rfl (lv_at hl 1 rfl) ?_
                                refine lv_icmp_ge (tgt := 66) hx hb dX6_steps_42 (by decide) (fun c_42 => ?_) (fun c_42 => ?_)
                                · rw [nI_leI (by omega) (by omega)] at c_42
                                  refine lv_iload_n hx hb dX6_steps_66 rfl (lv_at hl 2 rfl) ?_
                                  exact hRet _ (nI d2, 0, v2, ps_2, xs_2, ys_2, hs_2) _ _ _ ⟨fun _ => by have hzz := zRn_end c_42 hz2; rw [hcm, ← hzz]; exact ⟨rfl, rfl, rfl⟩, fun h => absurd hst h⟩ hP hS dX6_steps_67
                                · rw [nI_leI (by omega) (by omega)] at c_42
                                  refine lv_aload_n hx hb dX6_steps_45 rfl (lv_at hl 0 rfl) ?_
                                  refine lv_iload_n hx hb dX6_steps_46 rfl (lv_at hl 3 rfl) ?_
                                  refine z_callV (As := [.int 2]) (rest := []) ⟨hx, hb, hml, hown, hts⟩ hG hK hP hD hS (c_X6_goesOn l D cI cJ ob b1 b2 b3 b4 b5 bp bu bv bk bw n 0 gx gy sl xs_2 ys_2 hs_2 fd kd ln lo hi v2 ps_2 f1 f2 ky wh 2 (hok2) (by first | assumption | omega | decide) (by first | assumption | omega | decide)) (cwV 1 hts gX6_steps_X6_goesOn rfl rfl rfl (by decide +kernel) ⟨Nat.le_of_ble_eq_true rfl, Nat.le_of_ble_eq_true rfl⟩) [0, 1, 2, 3, 4, 5, 6, 7, 8, 9, 10] (by decide) rfl (fun _ => rfl) 0 rfl rfl rfl rfl hl.1 rfl (Nat.le_of_ble_eq_true rfl) dX6_steps_47 ⟨Nat.le_of_ble_eq_true rfl, Nat.le_of_ble_eq_true rfl⟩ (fun u_28 H locs hu_29 hP hD hS => ?_)
                                  obtain ⟨r_30, vl2_31, ps3_32, x3_33, y3_34, h3_35⟩ := u_28
                                  have hu_29 : (r_30 = if (zBst kd ln lo hi v2 n gx gy 2 n).2.1 = -1 then 0 else 1) ∧ (vl2_31 = if (zBst kd ln lo hi v2 n gx gy 2 n).2.1 = -1 then v2 else zNx kd ln lo hi v2 n gx gy 2) := hu_29
                                  obtain ⟨e_36, e_37⟩ := hu_29
                                  subst e_36
                                  subst e_37
                                  have hP : va_P D vwCl [(ob, .inr (6, [.int 0, .int (nI n), .ref b1, .ref b2, .ref b3, .ref b4, .ref b5, .int gx, .int gy, .int sl, .ref bp, .int x3_33, .int y3_34, .int h3_35, .ref bu, .ref bv, .int fd, .ref bk, .ref bw])), (b1, .inl (cI, 5, .inl kd)), (b2, .inl (cI, 5, .inl ln)), (b3, .inl (cI, 5, .inl lo)), (b4, .inl (cI, 5, .inl hi)), (b5, .inl (cI, 5, .inl (if (zBst kd ln lo hi v2 n gx gy 2 n).2.1 = -1 then v2 else zNx kd ln lo hi v2 n gx gy 2))), (bp, .inl (cI, 5, .inl ps3_32)), (bu, .inl (cI, 5, .inl f1)), (bv, .inl (cI, 5, .inl f2)), (bk, .inl (cJ, 10, .inr (.inl ky))), (bw, .inl (cI, 10, .inl wh))] H := hP
                                  have hD : va_D A0 [(ob, .inr (6, [.int 0, .int (nI n), .ref b1, .ref b2, .ref b3, .ref b4, .ref b5, .int gx, .int gy, .int sl, .ref bp, .int x3_33, .int y3_34, .int h3_35, .ref bu, .ref bv, .int fd, .ref bk, .ref bw])), (b1, .inl (cI, 5, .inl kd)), (b2, .inl (cI, 5, .inl ln)), (b3, .inl (cI, 5, .inl lo)), (b4, .inl (cI, 5, .inl hi)), (b5, .inl (cI, 5, .inl (if (zBst kd ln lo hi v2 n gx gy 2 n).2.1 = -1 then v2 else zNx kd ln lo hi v2 n gx gy 2))), (bp, .inl (cI, 5, .inl ps3_32)), (bu, .inl (cI, 5, .inl f1)), (bv, .inl (cI, 5, .inl f2)), (bk, .inl (cJ, 10, .inr (.inl ky))), (bw, .inl (cI, 10, .inl wh))] := hD
                                  refine lv_if_eq (tgt := 59) hx hb dX6_steps_50 (by decide) (fun c_50 => ?_) (fun c_50 => ?_)
                                  · have hbq : (zBst kd ln lo hi v2 n gx gy 2 n).2.1 = -1 := zif_t c_50
                                    rw [if_pos hbq] at hP hD
                                    have hP : va_P D vwCl [(ob, .inr (6, [.int 0, .int (nI n), .ref b1, .ref b2, .ref b3, .ref b4, .ref b5, .int gx, .int gy, .int sl, .ref bp, .int x3_33, .int y3_34, .int h3_35, .ref bu, .ref bv, .int fd, .ref bk, .ref bw])), (b1, .inl (cI, 5, .inl kd)), (b2, .inl (cI, 5, .inl ln)), (b3, .inl (cI, 5, .inl lo)), (b4, .inl (cI, 5, .inl hi)), (b5, .inl (cI, 5, .inl v2)), (bp, .inl (cI, 5, .inl ps3_32)), (bu, .inl (cI, 5, .inl f1)), (bv, .inl (cI, 5, .inl f2)), (bk, .inl (cJ, 10, .inr (.inl ky))), (bw, .inl (cI, 10, .inl wh))] H := hP
                                    have hD : va_D A0 [(ob, .inr (6, [.int 0, .int (nI n), .ref b1, .ref b2, .ref b3, .ref b4, .ref b5, .int gx, .int gy, .int sl, .ref bp, .int x3_33, .int y3_34, .int h3_35, .ref bu, .ref bv, .int fd, .ref bk, .ref bw])), (b1, .inl (cI, 5, .inl kd)), (b2, .inl (cI, 5, .inl ln)), (b3, .inl (cI, 5, .inl lo)), (b4, .inl (cI, 5, .inl hi)), (b5, .inl (cI, 5, .inl v2)), (bp, .inl (cI, 5, .inl ps3_32)), (bu, .inl (cI, 5, .inl f1)), (bv, .inl (cI, 5, .inl f2)), (bk, .inl (cJ, 10, .inr (.inl ky))), (bw, .inl (cI, 10, .inl wh))] := hD
                                    refine lv_iload_n hx hb dX6_steps_59 rfl (lv_at hl 3 rfl) ?_
                                    refine lv_iconst (v := 2) hx hb dX6_steps_60 (by decide) ?_
                                    refine lv_idiv hx hb dX6_steps_61 (by decide) ?_
                                    refine z_topi (y := 1) (by decide) ?_
                                    refine lv_istore_n (lv' := [(3, .int 1), (0, .ref ob), (1, .int (nI mm)), (2, .int (nI d2))]) hx hb dX6_steps_62 rfl hl (by decide) rfl (fun ls hl => ?_)
                                    refine lv_goto (tgt := 36) hx hb dX6_steps_63 (by decide) ?_
                                    have lp_36_38 : ∀ (fu : Nat) (d1 : Nat) (v1 : Nat → Int32) (xs_1 : Int32) (ys_1 : Int32) (hs_1 : Int32) (ps_1 : Nat → Int32), (d1 ≤ mm) → ((d1 + (zRn kd ln lo hi n gx gy [1] (mm - d1) v1).1, (zRn kd ln lo hi n gx gy [1] (mm - d1) v1).2) = zRun kd ln lo hi vl n gx gy mm) → (zOk n kd ln lo hi v1) → (mm - d1 < fu) → ∀ (H : Heap) (locs : List Loc), va_P D vwCl [(ob, .inr (6, [.int 0, .int (nI n), .ref b1, .ref b2, .ref b3, .ref b4, .ref b5, .int gx, .int gy, .int sl, .ref bp, .int xs_1, .int ys_1, .int hs_1, .ref bu, .ref bv, .int fd, .ref bk, .ref bw])), (b1, .inl (cI, 5, .inl kd)), (b2, .inl (cI, 5, .inl ln)), (b3, .inl (cI, 5, .inl lo)), (b4, .inl (cI, 5, .inl hi)), (b5, .inl (cI, 5, .inl v1)), (bp, .inl (cI, 5, .inl ps_1)), (bu, .inl (cI, 5, .inl f1)), (bv, .inl (cI, 5, .inl f2)), (bk, .inl (cJ, 10, .inr (.inl ky))), (bw, .inl (cI, 10, .inl wh))] H → va_D A0 [(ob, .inr (6, [.int 0, .int (nI n), .ref b1, .ref b2, .ref b3, .ref b4, .ref b5, .int gx, .int gy, .int sl, .ref bp, .int xs_1, .int ys_1, .int hs_1, .ref bu, .ref bv, .int fd, .ref bk, .ref bw])), (b1, .inl (cI, 5, .inl kd)), (b2, .inl (cI, 5, .inl ln)), (b3, .inl (cI, 5, .inl lo)), (b4, .inl (cI, 5, .inl hi)), (b5, .inl (cI, 5, .inl v1)), (bp, .inl (cI, 5, .inl ps_1)), (bu, .inl (cI, 5, .inl f1)), (bv, .inl (cI, 5, .inl f2)), (bk, .inl (cJ, 10, .inr (.inl ky))), (bw, .inl (cI, 10, .inl wh))] → va_S A0 s.heap H locs → ∀ (ls : Array Slot), lv_has ls 4 [(0, .ref ob), (1, .int (nI mm)), (2, .int (nI d1)), (3, .int 1)] → W p l e (zRm 6 0 0) s m args below meth c H locs 0 0 Q (F0 m 36 ls []) := by
                                      intro fu
                                      induction fu with
                                      | zero => intro d1 v1 xs_1 ys_1 hs_1 ps_1 hd1 hz1 hok1 hfu; exact absurd hfu (Nat.not_lt_zero _)
                                      | succ fu ih_36_38 =>
                                        intro d1 v1 xs_1 ys_1 hs_1 ps_1 hd1 hz1 hok1 hfu H locs hP hD hS ls hl
                                        refine lv_iload_n hx hb dX6_steps_36 rfl (lv_at hl 3 rfl) ?_
                                        refine lv_if_le (tgt := 66) hx hb dX6_steps_37 (by decide) (fun c_37 => ?_) (fun c_37 => ?_)
                                        · exact absurd c_37 (by decide)
                                        · refine lv_iload_n hx hb dX6_steps_40 rfl (lv_at hl 2 rfl) ?_
                                          refine lv_iload_n hx hb dX6_steps_41 rfl (lv_at hl 1 rfl) ?_
                                          refine lv_icmp_ge (tgt := 66) hx hb dX6_steps_42 (by decide) (fun c_42 => ?_) (fun c_42 => ?_)
                                          · rw [nI_leI (by omega) (by omega)] at c_42
                                            refine lv_iload_n hx hb dX6_steps_66 rfl (lv_at hl 2 rfl) ?_
                                            exact hRet _ (nI d1, 0, v1, ps_1, xs_1, ys_1, hs_1) _ _ _ ⟨fun _ => by have hzz := zRn_end c_42 hz1; rw [hcm, ← hzz]; exact ⟨rfl, rfl, rfl⟩, fun h => absurd hst h⟩ hP hS dX6_steps_67
                                          · rw [nI_leI (by omega) (by omega)] at c_42
                                            refine lv_aload_n hx hb dX6_steps_45 rfl (lv_at hl 0 rfl) ?_
                                            refine lv_iload_n hx hb dX6_steps_46 rfl (lv_at hl 3 rfl) ?_
                                            refine z_callV (As := [.int 1]) (rest := []) ⟨hx, hb, hml, hown, hts⟩ hG hK hP hD hS (c_X6_goesOn l D cI cJ ob b1 b2 b3 b4 b5 bp bu bv bk bw n 0 gx gy sl xs_1 ys_1 hs_1 fd kd ln lo hi v1 ps_1 f1 f2 ky wh 1 (hok1) (by first | assumption | omega | decide) (by first | assumption | omega | decide)) (cwV 1 hts gX6_steps_X6_goesOn rfl rfl rfl (by decide +kernel) ⟨Nat.le_of_ble_eq_true rfl, Nat.le_of_ble_eq_true rfl⟩) [0, 1, 2, 3, 4, 5, 6, 7, 8, 9, 10] (by decide) rfl (fun _ => rfl) 0 rfl rfl rfl rfl hl.1 rfl (Nat.le_of_ble_eq_true rfl) dX6_steps_47 ⟨Nat.le_of_ble_eq_true rfl, Nat.le_of_ble_eq_true rfl⟩ (fun u_39 H locs hu_40 hP hD hS => ?_)
                                            obtain ⟨r_41, vl2_42, ps3_43, x3_44, y3_45, h3_46⟩ := u_39
                                            have hu_40 : (r_41 = if (zBst kd ln lo hi v1 n gx gy 1 n).2.1 = -1 then 0 else 1) ∧ (vl2_42 = if (zBst kd ln lo hi v1 n gx gy 1 n).2.1 = -1 then v1 else zNx kd ln lo hi v1 n gx gy 1) := hu_40
                                            obtain ⟨e_47, e_48⟩ := hu_40
                                            subst e_47
                                            subst e_48
                                            have hP : va_P D vwCl [(ob, .inr (6, [.int 0, .int (nI n), .ref b1, .ref b2, .ref b3, .ref b4, .ref b5, .int gx, .int gy, .int sl, .ref bp, .int x3_44, .int y3_45, .int h3_46, .ref bu, .ref bv, .int fd, .ref bk, .ref bw])), (b1, .inl (cI, 5, .inl kd)), (b2, .inl (cI, 5, .inl ln)), (b3, .inl (cI, 5, .inl lo)), (b4, .inl (cI, 5, .inl hi)), (b5, .inl (cI, 5, .inl (if (zBst kd ln lo hi v1 n gx gy 1 n).2.1 = -1 then v1 else zNx kd ln lo hi v1 n gx gy 1))), (bp, .inl (cI, 5, .inl ps3_43)), (bu, .inl (cI, 5, .inl f1)), (bv, .inl (cI, 5, .inl f2)), (bk, .inl (cJ, 10, .inr (.inl ky))), (bw, .inl (cI, 10, .inl wh))] H := hP
                                            have hD : va_D A0 [(ob, .inr (6, [.int 0, .int (nI n), .ref b1, .ref b2, .ref b3, .ref b4, .ref b5, .int gx, .int gy, .int sl, .ref bp, .int x3_44, .int y3_45, .int h3_46, .ref bu, .ref bv, .int fd, .ref bk, .ref bw])), (b1, .inl (cI, 5, .inl kd)), (b2, .inl (cI, 5, .inl ln)), (b3, .inl (cI, 5, .inl lo)), (b4, .inl (cI, 5, .inl hi)), (b5, .inl (cI, 5, .inl (if (zBst kd ln lo hi v1 n gx gy 1 n).2.1 = -1 then v1 else zNx kd ln lo hi v1 n gx gy 1))), (bp, .inl (cI, 5, .inl ps3_43)), (bu, .inl (cI, 5, .inl f1)), (bv, .inl (cI, 5, .inl f2)), (bk, .inl (cJ, 10, .inr (.inl ky))), (bw, .inl (cI, 10, .inl wh))] := hD
                                            refine lv_if_eq (tgt := 59) hx hb dX6_steps_50 (by decide) (fun c_50 => ?_) (fun c_50 => ?_)
                                            · have hbq : (zBst kd ln lo hi v1 n gx gy 1 n).2.1 = -1 := zif_t c_50
                                              rw [if_pos hbq] at hP hD
                                              have hP : va_P D vwCl [(ob, .inr (6, [.int 0, .int (nI n), .ref b1, .ref b2, .ref b3, .ref b4, .ref b5, .int gx, .int gy, .int sl, .ref bp, .int x3_44, .int y3_45, .int h3_46, .ref bu, .ref bv, .int fd, .ref bk, .ref bw])), (b1, .inl (cI, 5, .inl kd)), (b2, .inl (cI, 5, .inl ln)), (b3, .inl (cI, 5, .inl lo)), (b4, .inl (cI, 5, .inl hi)), (b5, .inl (cI, 5, .inl v1)), (bp, .inl (cI, 5, .inl ps3_43)), (bu, .inl (cI, 5, .inl f1)), (bv, .inl (cI, 5, .inl f2)), (bk, .inl (cJ, 10, .inr (.inl ky))), (bw, .inl (cI, 10, .inl wh))] H := hP
                                              have hD : va_D A0 [(ob, .inr (6, [.int 0, .int (nI n), .ref b1, .ref b2, .ref b3, .ref b4, .ref b5, .int gx, .int gy, .int sl, .ref bp, .int x3_44, .int y3_45, .int h3_46, .ref bu, .ref bv, .int fd, .ref bk, .ref bw])), (b1, .inl (cI, 5, .inl kd)), (b2, .inl (cI, 5, .inl ln)), (b3, .inl (cI, 5, .inl lo)), (b4, .inl (cI, 5, .inl hi)), (b5, .inl (cI, 5, .inl v1)), (bp, .inl (cI, 5, .inl ps3_43)), (bu, .inl (cI, 5, .inl f1)), (bv, .inl (cI, 5, .inl f2)), (bk, .inl (cJ, 10, .inr (.inl ky))), (bw, .inl (cI, 10, .inl wh))] := hD
                                              have hzf := zRn_skip hbq hz1
                                              refine lv_iload_n hx hb dX6_steps_59 rfl (lv_at hl 3 rfl) ?_
                                              refine lv_iconst (v := 2) hx hb dX6_steps_60 (by decide) ?_
                                              refine lv_idiv hx hb dX6_steps_61 (by decide) ?_
                                              refine z_topi (y := 0) (by decide) ?_
                                              refine lv_istore_n (lv' := [(3, .int 0), (0, .ref ob), (1, .int (nI mm)), (2, .int (nI d1))]) hx hb dX6_steps_62 rfl hl (by decide) rfl (fun ls hl => ?_)
                                              refine lv_goto (tgt := 36) hx hb dX6_steps_63 (by decide) ?_
                                              refine lv_iload_n hx hb dX6_steps_36 rfl (lv_at hl 0 rfl) ?_
                                              refine lv_if_le (tgt := 66) hx hb dX6_steps_37 (by decide) (fun c_37 => ?_) (fun c_37 => ?_)
                                              · refine lv_iload_n hx hb dX6_steps_66 rfl (lv_at hl 3 rfl) ?_
                                                exact hRet _ (nI d1, 0, v1, ps3_43, x3_44, y3_45, h3_46) _ _ _ ⟨fun _ => by have hzz := hzf; rw [hcm, ← hzz]; exact ⟨rfl, rfl, rfl⟩, fun h => absurd hst h⟩ hP hS dX6_steps_67
                                              · exact absurd (by decide) c_37
                                            · have hbq : ¬ (zBst kd ln lo hi v1 n gx gy 1 n).2.1 = -1 := zif_f c_50
                                              rw [if_neg hbq] at hP hD
                                              have hP : va_P D vwCl [(ob, .inr (6, [.int 0, .int (nI n), .ref b1, .ref b2, .ref b3, .ref b4, .ref b5, .int gx, .int gy, .int sl, .ref bp, .int x3_44, .int y3_45, .int h3_46, .ref bu, .ref bv, .int fd, .ref bk, .ref bw])), (b1, .inl (cI, 5, .inl kd)), (b2, .inl (cI, 5, .inl ln)), (b3, .inl (cI, 5, .inl lo)), (b4, .inl (cI, 5, .inl hi)), (b5, .inl (cI, 5, .inl (zNx kd ln lo hi v1 n gx gy 1))), (bp, .inl (cI, 5, .inl ps3_43)), (bu, .inl (cI, 5, .inl f1)), (bv, .inl (cI, 5, .inl f2)), (bk, .inl (cJ, 10, .inr (.inl ky))), (bw, .inl (cI, 10, .inl wh))] H := hP
                                              have hD : va_D A0 [(ob, .inr (6, [.int 0, .int (nI n), .ref b1, .ref b2, .ref b3, .ref b4, .ref b5, .int gx, .int gy, .int sl, .ref bp, .int x3_44, .int y3_45, .int h3_46, .ref bu, .ref bv, .int fd, .ref bk, .ref bw])), (b1, .inl (cI, 5, .inl kd)), (b2, .inl (cI, 5, .inl ln)), (b3, .inl (cI, 5, .inl lo)), (b4, .inl (cI, 5, .inl hi)), (b5, .inl (cI, 5, .inl (zNx kd ln lo hi v1 n gx gy 1))), (bp, .inl (cI, 5, .inl ps3_43)), (bu, .inl (cI, 5, .inl f1)), (bv, .inl (cI, 5, .inl f2)), (bk, .inl (cJ, 10, .inr (.inl ky))), (bw, .inl (cI, 10, .inl wh))] := hD
                                              refine lv_iinc (v := nI (d1 + 1)) (lv' := [(2, .int (nI (d1 + 1))), (0, .ref ob), (1, .int (nI mm)), (3, .int 1)]) hx hb dX6_steps_53 hl (k := 2) rfl ((nI_succ _).symm) (by decide) rfl (fun ls hl => ?_)
                                              refine lv_goto (tgt := 36) hx hb dX6_steps_56 (by decide) ?_
                                              exact ih_36_38 (d1 + 1) (zNx kd ln lo hi v1 n gx gy 1) x3_44 y3_45 h3_46 ps3_43 (by first | assumption | omega | rfl | simp_all) (zRn_step (by omega) hbq hz1) (hok1.nx hbq) (by omega) _ _ hP hD hS _ (lv_sub hl [1, 2, 0, 3] rfl)
                                    exact lp_36_38 ((mm - d2) + 1) d2 v2 x3_33 y3_34 h3_35 ps3_32 (hd2) (zRn_skip hbq hz2) (hok2) (Nat.lt_succ_self _) _ _ hP hD hS _ (lv_sub hl [1, 2, 3, 0] rfl)
                                  · have hbq : ¬ (zBst kd ln lo hi v2 n gx gy 2 n).2.1 = -1 := zif_f c_50
                                    rw [if_neg hbq] at hP hD
                                    have hP : va_P D vwCl [(ob, .inr (6, [.int 0, .int (nI n), .ref b1, .ref b2, .ref b3, .ref b4, .ref b5, .int gx, .int gy, .int sl, .ref bp, .int x3_33, .int y3_34, .int h3_35, .ref bu, .ref bv, .int fd, .ref bk, .ref bw])), (b1, .inl (cI, 5, .inl kd)), (b2, .inl (cI, 5, .inl ln)), (b3, .inl (cI, 5, .inl lo)), (b4, .inl (cI, 5, .inl hi)), (b5, .inl (cI, 5, .inl (zNx kd ln lo hi v2 n gx gy 2))), (bp, .inl (cI, 5, .inl ps3_32)), (bu, .inl (cI, 5, .inl f1)), (bv, .inl (cI, 5, .inl f2)), (bk, .inl (cJ, 10, .inr (.inl ky))), (bw, .inl (cI, 10, .inl wh))] H := hP
                                    have hD : va_D A0 [(ob, .inr (6, [.int 0, .int (nI n), .ref b1, .ref b2, .ref b3, .ref b4, .ref b5, .int gx, .int gy, .int sl, .ref bp, .int x3_33, .int y3_34, .int h3_35, .ref bu, .ref bv, .int fd, .ref bk, .ref bw])), (b1, .inl (cI, 5, .inl kd)), (b2, .inl (cI, 5, .inl ln)), (b3, .inl (cI, 5, .inl lo)), (b4, .inl (cI, 5, .inl hi)), (b5, .inl (cI, 5, .inl (zNx kd ln lo hi v2 n gx gy 2))), (bp, .inl (cI, 5, .inl ps3_32)), (bu, .inl (cI, 5, .inl f1)), (bv, .inl (cI, 5, .inl f2)), (bk, .inl (cJ, 10, .inr (.inl ky))), (bw, .inl (cI, 10, .inl wh))] := hD
                                    refine lv_iinc (v := nI (d2 + 1)) (lv' := [(2, .int (nI (d2 + 1))), (0, .ref ob), (1, .int (nI mm)), (3, .int 2)]) hx hb dX6_steps_53 hl (k := 2) rfl ((nI_succ _).symm) (by decide) rfl (fun ls hl => ?_)
                                    refine lv_goto (tgt := 36) hx hb dX6_steps_56 (by decide) ?_
                                    exact ih_36_27 (d2 + 1) (zNx kd ln lo hi v2 n gx gy 2) x3_33 y3_34 h3_35 ps3_32 (by first | assumption | omega | rfl | simp_all) (zRn_step (by omega) hbq hz2) (hok2.nx hbq) (by omega) _ _ hP hD hS _ (lv_sub hl [1, 2, 0, 3] rfl)
                          exact lp_36_27 ((mm - d4) + 1) d4 v4 x3_22 y3_23 h3_24 ps3_21 (hd4) (zRn_skip hbq hz4) (hok4) (Nat.lt_succ_self _) _ _ hP hD hS _ (lv_sub hl [1, 2, 3, 0] rfl)
                        · have hbq : ¬ (zBst kd ln lo hi v4 n gx gy 4 n).2.1 = -1 := zif_f c_50
                          rw [if_neg hbq] at hP hD
                          have hP : va_P D vwCl [(ob, .inr (6, [.int 0, .int (nI n), .ref b1, .ref b2, .ref b3, .ref b4, .ref b5, .int gx, .int gy, .int sl, .ref bp, .int x3_22, .int y3_23, .int h3_24, .ref bu, .ref bv, .int fd, .ref bk, .ref bw])), (b1, .inl (cI, 5, .inl kd)), (b2, .inl (cI, 5, .inl ln)), (b3, .inl (cI, 5, .inl lo)), (b4, .inl (cI, 5, .inl hi)), (b5, .inl (cI, 5, .inl (zNx kd ln lo hi v4 n gx gy 4))), (bp, .inl (cI, 5, .inl ps3_21)), (bu, .inl (cI, 5, .inl f1)), (bv, .inl (cI, 5, .inl f2)), (bk, .inl (cJ, 10, .inr (.inl ky))), (bw, .inl (cI, 10, .inl wh))] H := hP
                          have hD : va_D A0 [(ob, .inr (6, [.int 0, .int (nI n), .ref b1, .ref b2, .ref b3, .ref b4, .ref b5, .int gx, .int gy, .int sl, .ref bp, .int x3_22, .int y3_23, .int h3_24, .ref bu, .ref bv, .int fd, .ref bk, .ref bw])), (b1, .inl (cI, 5, .inl kd)), (b2, .inl (cI, 5, .inl ln)), (b3, .inl (cI, 5, .inl lo)), (b4, .inl (cI, 5, .inl hi)), (b5, .inl (cI, 5, .inl (zNx kd ln lo hi v4 n gx gy 4))), (bp, .inl (cI, 5, .inl ps3_21)), (bu, .inl (cI, 5, .inl f1)), (bv, .inl (cI, 5, .inl f2)), (bk, .inl (cJ, 10, .inr (.inl ky))), (bw, .inl (cI, 10, .inl wh))] := hD
                          refine lv_iinc (v := nI (d4 + 1)) (lv' := [(2, .int (nI (d4 + 1))), (0, .ref ob), (1, .int (nI mm)), (3, .int 4)]) hx hb dX6_steps_53 hl (k := 2) rfl ((nI_succ _).symm) (by decide) rfl (fun ls hl => ?_)
                          refine lv_goto (tgt := 36) hx hb dX6_steps_56 (by decide) ?_
                          exact ih_36_16 (d4 + 1) (zNx kd ln lo hi v4 n gx gy 4) x3_22 y3_23 h3_24 ps3_21 (by first | assumption | omega | rfl | simp_all) (zRn_step (by omega) hbq hz4) (hok4.nx hbq) (by omega) _ _ hP hD hS _ (lv_sub hl [1, 2, 0, 3] rfl)
                exact lp_36_16 ((mm - d8) + 1) d8 v8 x3_11 y3_12 h3_13 ps3_10 (hd8) (zRn_skip hbq hz8) (hok8) (Nat.lt_succ_self _) _ _ hP hD hS _ (lv_sub hl [1, 2, 3, 0] rfl)
              · have hbq : ¬ (zBst kd ln lo hi v8 n gx gy 8 n).2.1 = -1 := zif_f c_50
                rw [if_neg hbq] at hP hD
                have hP : va_P D vwCl [(ob, .inr (6, [.int 0, .int (nI n), .ref b1, .ref b2, .ref b3, .ref b4, .ref b5, .int gx, .int gy, .int sl, .ref bp, .int x3_11, .int y3_12, .int h3_13, .ref bu, .ref bv, .int fd, .ref bk, .ref bw])), (b1, .inl (cI, 5, .inl kd)), (b2, .inl (cI, 5, .inl ln)), (b3, .inl (cI, 5, .inl lo)), (b4, .inl (cI, 5, .inl hi)), (b5, .inl (cI, 5, .inl (zNx kd ln lo hi v8 n gx gy 8))), (bp, .inl (cI, 5, .inl ps3_10)), (bu, .inl (cI, 5, .inl f1)), (bv, .inl (cI, 5, .inl f2)), (bk, .inl (cJ, 10, .inr (.inl ky))), (bw, .inl (cI, 10, .inl wh))] H := hP
                have hD : va_D A0 [(ob, .inr (6, [.int 0, .int (nI n), .ref b1, .ref b2, .ref b3, .ref b4, .ref b5, .int gx, .int gy, .int sl, .ref bp, .int x3_11, .int y3_12, .int h3_13, .ref bu, .ref bv, .int fd, .ref bk, .ref bw])), (b1, .inl (cI, 5, .inl kd)), (b2, .inl (cI, 5, .inl ln)), (b3, .inl (cI, 5, .inl lo)), (b4, .inl (cI, 5, .inl hi)), (b5, .inl (cI, 5, .inl (zNx kd ln lo hi v8 n gx gy 8))), (bp, .inl (cI, 5, .inl ps3_10)), (bu, .inl (cI, 5, .inl f1)), (bv, .inl (cI, 5, .inl f2)), (bk, .inl (cJ, 10, .inr (.inl ky))), (bw, .inl (cI, 10, .inl wh))] := hD
                refine lv_iinc (v := nI (d8 + 1)) (lv' := [(2, .int (nI (d8 + 1))), (0, .ref ob), (1, .int (nI mm)), (3, .int 8)]) hx hb dX6_steps_53 hl (k := 2) rfl ((nI_succ _).symm) (by decide) rfl (fun ls hl => ?_)
                refine lv_goto (tgt := 36) hx hb dX6_steps_56 (by decide) ?_
                exact ih_36_5 (d8 + 1) (zNx kd ln lo hi v8 n gx gy 8) x3_11 y3_12 h3_13 ps3_10 (by first | assumption | omega | rfl | simp_all) (zRn_step (by omega) hbq hz8) (hok8.nx hbq) (by omega) _ _ hP hD hS _ (lv_sub hl [1, 2, 0, 3] rfl)
      exact lp_36_5 ((mm - 0) + 1) 0 vl x y h ps (by first | assumption | omega | rfl | simp_all) (Prod.ext (Nat.zero_add _) rfl) (hok) (Nat.lt_succ_self _) _ _ hP hD hS _ (lv_sub hl [2, 3, 1, 0] rfl)
    · exact absurd (by decide) c_26
