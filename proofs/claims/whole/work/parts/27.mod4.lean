set_option maxHeartbeats 4000000 in
set_option maxRecDepth 100000 in
theorem c_X6_hindrance (l : Launch) (D : va_G) (cI cJ : ClassId) (ob : Nat) (b1 : Nat) (b2 : Nat) (b3 : Nat) (b4 : Nat) (b5 : Nat) (bp : Nat) (bu : Nat) (bv : Nat) (bk : Nat) (bw : Nat) (n : Nat) (th : Int32) (gx : Int32) (gy : Int32) (sl : Int32) (x : Int32) (y : Int32) (h : Int32) (fd : Int32) (kd : Nat → Int32) (ln : Nat → Int32) (lo : Nat → Int32) (hi : Nat → Int32) (vl : Nat → Int32) (ps : Nat → Int32) (f1 : Nat → Int32) (f2 : Nat → Int32) (ky : Nat → Int64) (wh : Nat → Int32) (hok : zOk n kd ln lo hi vl) (hgx : zB 1000000 gx) (hgy : zB 1000000 gy) : zM l yX6_hindrance wsX6_hindrance 5 D cI cJ [.ref ob] [(ob, .inr (6, [.int th, .int (nI n), .ref b1, .ref b2, .ref b3, .ref b4, .ref b5, .int gx, .int gy, .int sl, .ref bp, .int x, .int y, .int h, .ref bu, .ref bv, .int fd, .ref bk, .ref bw])), (b1, .inl (cI, 5, .inl kd)), (b2, .inl (cI, 5, .inl ln)), (b3, .inl (cI, 5, .inl lo)), (b4, .inl (cI, 5, .inl hi)), (b5, .inl (cI, 5, .inl vl)), (bp, .inl (cI, 5, .inl ps)), (bu, .inl (cI, 5, .inl f1)), (bv, .inl (cI, 5, .inl f2)), (bk, .inl (cJ, 10, .inr (.inl ky))), (bw, .inl (cI, 10, .inl wh))] (fun (u : Int32 × (Nat → Int32) × Int32 × Int32 × Int32) => (u.1 = zHin kd ln lo hi vl n gx gy n 0)) (fun (u : Int32 × (Nat → Int32) × Int32 × Int32 × Int32) => some (.int u.1)) (fun (u : Int32 × (Nat → Int32) × Int32 × Int32 × Int32) => [(ob, .inr (6, [.int 0, .int (nI n), .ref b1, .ref b2, .ref b3, .ref b4, .ref b5, .int gx, .int gy, .int sl, .ref bp, .int u.2.2.1, .int u.2.2.2.1, .int u.2.2.2.2, .ref bu, .ref bv, .int fd, .ref bk, .ref bw])), (b1, .inl (cI, 5, .inl kd)), (b2, .inl (cI, 5, .inl ln)), (b3, .inl (cI, 5, .inl lo)), (b4, .inl (cI, 5, .inl hi)), (b5, .inl (cI, 5, .inl vl)), (bp, .inl (cI, 5, .inl u.2.1)), (bu, .inl (cI, 5, .inl f1)), (bv, .inl (cI, 5, .inl f2)), (bk, .inl (cJ, 10, .inr (.inl ky))), (bw, .inl (cI, 10, .inl wh))]) := by
  refine zM_i (cc := cX6_hindrance) (maxL := 6) (r := fun (u : Int32 × (Nat → Int32) × Int32 × Int32 × Int32) => u.1) (by decide) rfl (Nat.le_of_ble_eq_true rfl) ?_
  intro p e s m args below meth c ls A0 Q C hl hP hS hRet
  obtain ⟨⟨hx, hb, hml, hown, hts⟩, hG, hK, hD, hlocks⟩ := C
  have hin6 : ∀ w ∈ u_ws RX6 TX6 19, w ∈ wsX6_hindrance := by decide +kernel
  have hf45 := hts (.fieldLink RX6 45 "ArmRoomModel" "thrown" "I") (by decide +kernel)
  have hf48 := hts (.fieldLink RX6 48 "ArmRoomModel" "joints" "I") (by decide +kernel)
  have hf22 := hts (.fieldLink RX6 22 "ArmRoomModel" "value" "[I") (by decide +kernel)
  have hf19 := hts (.fieldLink RX6 19 "ArmRoomModel" "high" "[I") (by decide +kernel)
  have hf16 := hts (.fieldLink RX6 16 "ArmRoomModel" "low" "[I") (by decide +kernel)
  have hl : lv_has ls 6 [(0, .ref ob)] := hl
  have hn := hok.1
  refine lv_aload_n hx hb dX6_hindrance_0 rfl (lv_at hl 0 rfl) ?_
  refine lv_iconst (v := 0) hx hb dX6_hindrance_1 (by decide) ?_
  refine va_put (D := D) (ci := 6) (v := .int 0) (ty := .int) (C := RX6) (T := TX6) (N := 19) hx hb hts hin6 tyX6 tyX6_ok nmX6 hown hK hP hD hS 0 rfl rfl 0 (by decide) hf45 (fun _ h9 => h9) rfl (by decide +kernel) rfl rfl (Nat.le_of_ble_eq_true rfl) dX6_hindrance_2 (fun H locs hP hD hS => ?_)
  have hP : va_P D vwCl [(ob, .inr (6, [.int 0, .int (nI n), .ref b1, .ref b2, .ref b3, .ref b4, .ref b5, .int gx, .int gy, .int sl, .ref bp, .int x, .int y, .int h, .ref bu, .ref bv, .int fd, .ref bk, .ref bw])), (b1, .inl (cI, 5, .inl kd)), (b2, .inl (cI, 5, .inl ln)), (b3, .inl (cI, 5, .inl lo)), (b4, .inl (cI, 5, .inl hi)), (b5, .inl (cI, 5, .inl vl)), (bp, .inl (cI, 5, .inl ps)), (bu, .inl (cI, 5, .inl f1)), (bv, .inl (cI, 5, .inl f2)), (bk, .inl (cJ, 10, .inr (.inl ky))), (bw, .inl (cI, 10, .inl wh))] H := hP
  have hD : va_D A0 [(ob, .inr (6, [.int 0, .int (nI n), .ref b1, .ref b2, .ref b3, .ref b4, .ref b5, .int gx, .int gy, .int sl, .ref bp, .int x, .int y, .int h, .ref bu, .ref bv, .int fd, .ref bk, .ref bw])), (b1, .inl (cI, 5, .inl kd)), (b2, .inl (cI, 5, .inl ln)), (b3, .inl (cI, 5, .inl lo)), (b4, .inl (cI, 5, .inl hi)), (b5, .inl (cI, 5, .inl vl)), (bp, .inl (cI, 5, .inl ps)), (bu, .inl (cI, 5, .inl f1)), (bv, .inl (cI, 5, .inl f2)), (bk, .inl (cJ, 10, .inr (.inl ky))), (bw, .inl (cI, 10, .inl wh))] := hD
  refine lv_iconst (v := (-1)) hx hb dX6_hindrance_5 (by decide) ?_
  refine lv_istore_n (lv' := [(1, .int (-1)), (0, .ref ob)]) hx hb dX6_hindrance_6 rfl hl (by decide) rfl (fun ls hl => ?_)
  refine lv_aload_n hx hb dX6_hindrance_7 rfl (lv_at hl 1 rfl) ?_
  refine z_callV (As := []) (rest := []) ⟨hx, hb, hml, hown, hts⟩ hG hK hP hD hS (c_X6_farNow l D cI cJ ob b1 b2 b3 b4 b5 bp bu bv bk bw n 0 gx gy sl x y h fd kd ln lo hi vl ps f1 f2 ky wh (by first | assumption | omega | decide) (by first | assumption | omega | decide) (by first | assumption | omega | decide)) (cwV 0 hts gX6_hindrance_X6_farNow rfl rfl rfl (by decide +kernel) ⟨Nat.le_of_ble_eq_true rfl, Nat.le_of_ble_eq_true rfl⟩) [0, 1, 2, 3, 4, 5, 6, 7, 8, 9, 10] (by decide) rfl (fun _ => rfl) 0 rfl rfl rfl rfl hl.1 rfl (Nat.le_of_ble_eq_true rfl) dX6_hindrance_8 ⟨Nat.le_of_ble_eq_true rfl, Nat.le_of_ble_eq_true rfl⟩ (fun u_1 H locs hu_2 hP hD hS => ?_)
  obtain ⟨r_3, ps3_4, x3_5, y3_6, h3_7⟩ := u_1
  have hu_2 : (r_3 = zFn kd ln vl n gx gy) := hu_2
  have e_8 := hu_2
  subst e_8
  have hP : va_P D vwCl [(ob, .inr (6, [.int 0, .int (nI n), .ref b1, .ref b2, .ref b3, .ref b4, .ref b5, .int gx, .int gy, .int sl, .ref bp, .int x3_5, .int y3_6, .int h3_7, .ref bu, .ref bv, .int fd, .ref bk, .ref bw])), (b1, .inl (cI, 5, .inl kd)), (b2, .inl (cI, 5, .inl ln)), (b3, .inl (cI, 5, .inl lo)), (b4, .inl (cI, 5, .inl hi)), (b5, .inl (cI, 5, .inl vl)), (bp, .inl (cI, 5, .inl ps3_4)), (bu, .inl (cI, 5, .inl f1)), (bv, .inl (cI, 5, .inl f2)), (bk, .inl (cJ, 10, .inr (.inl ky))), (bw, .inl (cI, 10, .inl wh))] H := hP
  have hD : va_D A0 [(ob, .inr (6, [.int 0, .int (nI n), .ref b1, .ref b2, .ref b3, .ref b4, .ref b5, .int gx, .int gy, .int sl, .ref bp, .int x3_5, .int y3_6, .int h3_7, .ref bu, .ref bv, .int fd, .ref bk, .ref bw])), (b1, .inl (cI, 5, .inl kd)), (b2, .inl (cI, 5, .inl ln)), (b3, .inl (cI, 5, .inl lo)), (b4, .inl (cI, 5, .inl hi)), (b5, .inl (cI, 5, .inl vl)), (bp, .inl (cI, 5, .inl ps3_4)), (bu, .inl (cI, 5, .inl f1)), (bv, .inl (cI, 5, .inl f2)), (bk, .inl (cJ, 10, .inr (.inl ky))), (bw, .inl (cI, 10, .inl wh))] := hD
  refine lv_lstore_n (lv' := [(2, .long (zFn kd ln vl n gx gy)), (1, .int (-1)), (0, .ref ob)]) hx hb dX6_hindrance_11 rfl hl (by decide) rfl (fun ls hl => ?_)
  refine lv_iconst (v := 0) hx hb dX6_hindrance_12 (by decide) ?_
  refine lv_istore (lv' := [(4, .int 0), (2, .long (zFn kd ln vl n gx gy)), (1, .int (-1)), (0, .ref ob)]) hx hb dX6_hindrance_13 hl (by decide) rfl (fun ls hl => ?_)
  have lp_15_9 : ∀ (fu : Nat) (i : Nat) (q : Int32) (xp : Int32) (yp : Int32) (hp : Int32) (psp : Nat → Int32), (i ≤ n) → ((q = -1 ∧ zHin kd ln lo hi vl n gx gy (n - i) i = zHin kd ln lo hi vl n gx gy n 0) ∨ (¬ q = -1 ∧ q = zHin kd ln lo hi vl n gx gy n 0)) → (n - i < fu) → ∀ (H : Heap) (locs : List Loc), va_P D vwCl [(ob, .inr (6, [.int 0, .int (nI n), .ref b1, .ref b2, .ref b3, .ref b4, .ref b5, .int gx, .int gy, .int sl, .ref bp, .int xp, .int yp, .int hp, .ref bu, .ref bv, .int fd, .ref bk, .ref bw])), (b1, .inl (cI, 5, .inl kd)), (b2, .inl (cI, 5, .inl ln)), (b3, .inl (cI, 5, .inl lo)), (b4, .inl (cI, 5, .inl hi)), (b5, .inl (cI, 5, .inl vl)), (bp, .inl (cI, 5, .inl psp)), (bu, .inl (cI, 5, .inl f1)), (bv, .inl (cI, 5, .inl f2)), (bk, .inl (cJ, 10, .inr (.inl ky))), (bw, .inl (cI, 10, .inl wh))] H → va_D A0 [(ob, .inr (6, [.int 0, .int (nI n), .ref b1, .ref b2, .ref b3, .ref b4, .ref b5, .int gx, .int gy, .int sl, .ref bp, .int xp, .int yp, .int hp, .ref bu, .ref bv, .int fd, .ref bk, .ref bw])), (b1, .inl (cI, 5, .inl kd)), (b2, .inl (cI, 5, .inl ln)), (b3, .inl (cI, 5, .inl lo)), (b4, .inl (cI, 5, .inl hi)), (b5, .inl (cI, 5, .inl vl)), (bp, .inl (cI, 5, .inl psp)), (bu, .inl (cI, 5, .inl f1)), (bv, .inl (cI, 5, .inl f2)), (bk, .inl (cJ, 10, .inr (.inl ky))), (bw, .inl (cI, 10, .inl wh))] → va_S A0 s.heap H locs → ∀ (ls : Array Slot), lv_has ls 6 [(0, .ref ob), (1, .int q), (2, .long (zFn kd ln vl n gx gy)), (4, .int (nI i))] → W p l e (zRm 5 0 0) s m args below meth c H locs 0 0 Q (F0 m 15 ls []) := by
    intro fu
    induction fu with
    | zero => intro i q xp yp hp psp hi1 hz hfu; exact absurd hfu (Nat.not_lt_zero _)
    | succ fu ih_15_9 =>
      intro i q xp yp hp psp hi1 hz hfu H locs hP hD hS ls hl
      refine lv_iload hx hb dX6_hindrance_15 (lv_at hl 3 rfl) ?_
      refine lv_aload_n hx hb dX6_hindrance_17 rfl (lv_at hl 0 rfl) ?_
      refine va_get (D := D) (ci := 6) (v := .int (nI n)) (C := RX6) (T := TX6) (N := 19) hx hb hts hin6 hown hK hP 0 rfl rfl 1 (by decide) hf48 (fun _ h9 => h9) rfl dX6_hindrance_18 ?_
      refine lv_icmp_ge (tgt := 140) hx hb dX6_hindrance_21 (by decide) (fun c_21 => ?_) (fun c_21 => ?_)
      · rw [nI_leI (by omega) (by omega)] at c_21
        obtain rfl : n = i := by omega
        refine lv_iload_n hx hb dX6_hindrance_140 rfl (lv_at hl 1 rfl) ?_
        exact hRet _ (q, psp, xp, yp, hp) _ _ _ (hz.elim (fun h => by first | (show q = _; rw [h.1, ← h.2, Nat.sub_self]; rfl) | exact absurd h.1 c_26) (fun h => h.2)) hP hS dX6_hindrance_141
      · rw [nI_leI (by omega) (by omega)] at c_21
        refine lv_iload_n hx hb dX6_hindrance_24 rfl (lv_at hl 1 rfl) ?_
        refine lv_iconst (v := (-1)) hx hb dX6_hindrance_25 (by decide) ?_
        refine lv_icmp_ne (tgt := 140) hx hb dX6_hindrance_26 (by decide) (fun c_26 => ?_) (fun c_26 => ?_)
        · refine lv_iload_n hx hb dX6_hindrance_140 rfl (lv_at hl 1 rfl) ?_
          exact hRet _ (q, psp, xp, yp, hp) _ _ _ (hz.elim (fun h => by first | (show q = _; rw [h.1, ← h.2, Nat.sub_self]; rfl) | exact absurd h.1 c_26) (fun h => h.2)) hP hS dX6_hindrance_141
        · obtain ⟨hq1, hq2⟩ := hz.resolve_right (fun h => h.1 c_26)
          refine lv_aload_n hx hb dX6_hindrance_29 rfl (lv_at hl 0 rfl) ?_
          refine va_get (D := D) (ci := 6) (v := .ref b5) (C := RX6) (T := TX6) (N := 19) hx hb hts hin6 hown hK hP 0 rfl rfl 6 (by decide) hf22 (fun _ h9 => h9) rfl dX6_hindrance_30 ?_
          refine lv_iload hx hb dX6_hindrance_33 (lv_at hl 3 rfl) ?_
          refine z_iald hx hb hK hP 5 rfl (j := i) (by omega) (by decide) dX6_hindrance_35 ?_
          refine lv_aload_n hx hb dX6_hindrance_36 rfl (lv_at hl 0 rfl) ?_
          refine va_get (D := D) (ci := 6) (v := .ref b4) (C := RX6) (T := TX6) (N := 19) hx hb hts hin6 hown hK hP 0 rfl rfl 5 (by decide) hf19 (fun _ h9 => h9) rfl dX6_hindrance_37 ?_
          refine lv_iload hx hb dX6_hindrance_40 (lv_at hl 3 rfl) ?_
          refine z_iald hx hb hK hP 4 rfl (j := i) (by omega) (by decide) dX6_hindrance_42 ?_
          refine lv_icmp_ne (tgt := 70) hx hb dX6_hindrance_43 (by decide) (fun c_43 => ?_) (fun c_43 => ?_)
          · refine lv_iconst (v := 0) hx hb dX6_hindrance_70 (by decide) ?_
            refine lv_istore (lv' := [(5, .int 0), (0, .ref ob), (1, .int q), (2, .long (zFn kd ln vl n gx gy)), (4, .int (nI i))]) hx hb dX6_hindrance_71 hl (by decide) rfl (fun ls hl => ?_)
            refine lv_iload hx hb dX6_hindrance_73 (lv_at hl 0 rfl) ?_
            refine lv_if_ne (tgt := 115) hx hb dX6_hindrance_75 (by decide) (fun c_75 => ?_) (fun c_75 => ?_)
            · exact absurd (by decide) c_75
            · refine lv_aload_n hx hb dX6_hindrance_78 rfl (lv_at hl 1 rfl) ?_
              refine va_get (D := D) (ci := 6) (v := .ref b5) (C := RX6) (T := TX6) (N := 19) hx hb hts hin6 hown hK hP 0 rfl rfl 6 (by decide) hf22 (fun _ h9 => h9) rfl dX6_hindrance_79 ?_
              refine lv_iload hx hb dX6_hindrance_82 (lv_at hl 4 rfl) ?_
              refine z_iald hx hb hK hP 5 rfl (j := i) (by omega) (by decide) dX6_hindrance_84 ?_
              refine lv_aload_n hx hb dX6_hindrance_85 rfl (lv_at hl 1 rfl) ?_
              refine va_get (D := D) (ci := 6) (v := .ref b3) (C := RX6) (T := TX6) (N := 19) hx hb hts hin6 hown hK hP 0 rfl rfl 4 (by decide) hf16 (fun _ h9 => h9) rfl dX6_hindrance_86 ?_
              refine lv_iload hx hb dX6_hindrance_89 (lv_at hl 4 rfl) ?_
              refine z_iald hx hb hK hP 3 rfl (j := i) (by omega) (by decide) dX6_hindrance_91 ?_
              refine lv_icmp_ne (tgt := 119) hx hb dX6_hindrance_92 (by decide) (fun c_92 => ?_) (fun c_92 => ?_)
              · refine lv_iconst (v := 0) hx hb dX6_hindrance_119 (by decide) ?_
                refine lv_istore (lv' := [(5, .int 0), (0, .ref ob), (1, .int q), (2, .long (zFn kd ln vl n gx gy)), (4, .int (nI i))]) hx hb dX6_hindrance_120 hl (by decide) rfl (fun ls hl => ?_)
                refine lv_iload hx hb dX6_hindrance_122 (lv_at hl 0 rfl) ?_
                refine lv_if_eq (tgt := 132) hx hb dX6_hindrance_124 (by decide) (fun c_124 => ?_) (fun c_124 => ?_)
                · refine lv_iload_n hx hb dX6_hindrance_132 rfl (lv_at hl 2 rfl) ?_
                  refine lv_istore_n (lv' := [(1, .int q), (5, .int 0), (0, .ref ob), (2, .long (zFn kd ln vl n gx gy)), (4, .int (nI i))]) hx hb dX6_hindrance_133 rfl hl (by decide) rfl (fun ls hl => ?_)
                  refine lv_iinc (v := nI (i + 1)) (lv' := [(4, .int (nI (i + 1))), (1, .int q), (5, .int 0), (0, .ref ob), (2, .long (zFn kd ln vl n gx gy))]) hx hb dX6_hindrance_134 hl (k := 4) rfl ((nI_succ _).symm) (by decide) rfl (fun ls hl => ?_)
                  refine lv_goto (tgt := 15) hx hb dX6_hindrance_137 (by decide) ?_
                  exact ih_15_9 (i + 1) q xp yp hp psp (by first | assumption | omega | rfl | simp_all) (Or.inl ⟨hq1, by rw [← hq2]; exact (zHin_f (by omega) (by rintro (⟨q1, q2⟩ | ⟨q1, q2⟩) <;> first | exact c_43 q1 | exact absurd q2 (Int64.not_lt.mpr c_63) | exact c_92 q1 | exact absurd q2 (Int64.not_lt.mpr c_112))).symm⟩) (by omega) _ _ hP hD hS _ (lv_sub hl [3, 1, 4, 0] rfl)
                · exact absurd (by decide) c_124
              · refine lv_aload_n hx hb dX6_hindrance_95 rfl (lv_at hl 1 rfl) ?_
                refine lv_iload hx hb dX6_hindrance_96 (lv_at hl 4 rfl) ?_
                refine lv_aload_n hx hb dX6_hindrance_98 rfl (lv_at hl 1 rfl) ?_
                refine va_get (D := D) (ci := 6) (v := .ref b5) (C := RX6) (T := TX6) (N := 19) hx hb hts hin6 hown hK hP 0 rfl rfl 6 (by decide) hf22 (fun _ h9 => h9) rfl dX6_hindrance_99 ?_
                refine lv_iload hx hb dX6_hindrance_102 (lv_at hl 4 rfl) ?_
                refine z_iald hx hb hK hP 5 rfl (j := i) (by omega) (by decide) dX6_hindrance_104 ?_
                refine lv_iconst (v := 1) hx hb dX6_hindrance_105 (by decide) ?_
                refine lv_isub hx hb dX6_hindrance_106 ?_
                refine z_callV (As := [.int (nI i), .int ((vl i) - 1)]) (rest := []) ⟨hx, hb, hml, hown, hts⟩ hG hK hP hD hS (c_X6_farWith l D cI cJ ob b1 b2 b3 b4 b5 bp bu bv bk bw n 0 gx gy sl xp yp hp fd kd ln lo hi vl psp f1 f2 ky wh i ((vl i) - 1) (by first | assumption | omega | decide) (by first | assumption | omega | decide) (by first | assumption | omega | decide) (by omega) (hok.dec (by omega))) (cwV 2 hts gX6_hindrance_X6_farWith rfl rfl rfl (by decide +kernel) ⟨Nat.le_of_ble_eq_true rfl, Nat.le_of_ble_eq_true rfl⟩) [0, 1, 2, 3, 4, 5, 6, 7, 8, 9, 10] (by decide) rfl (fun _ => rfl) 0 rfl rfl rfl rfl hl.1 rfl (Nat.le_of_ble_eq_true rfl) dX6_hindrance_107 ⟨Nat.le_of_ble_eq_true rfl, Nat.le_of_ble_eq_true rfl⟩ (fun u_10 H locs hu_11 hP hD hS => ?_)
                obtain ⟨r_12, ps3_13, x3_14, y3_15, h3_16⟩ := u_10
                have hu_11 : (r_12 = zFw kd ln vl n gx gy (nI i) ((vl i) - 1)) := hu_11
                have e_17 := hu_11
                subst e_17
                have hP : va_P D vwCl [(ob, .inr (6, [.int 0, .int (nI n), .ref b1, .ref b2, .ref b3, .ref b4, .ref b5, .int gx, .int gy, .int sl, .ref bp, .int x3_14, .int y3_15, .int h3_16, .ref bu, .ref bv, .int fd, .ref bk, .ref bw])), (b1, .inl (cI, 5, .inl kd)), (b2, .inl (cI, 5, .inl ln)), (b3, .inl (cI, 5, .inl lo)), (b4, .inl (cI, 5, .inl hi)), (b5, .inl (cI, 5, .inl vl)), (bp, .inl (cI, 5, .inl ps3_13)), (bu, .inl (cI, 5, .inl f1)), (bv, .inl (cI, 5, .inl f2)), (bk, .inl (cJ, 10, .inr (.inl ky))), (bw, .inl (cI, 10, .inl wh))] H := hP
                have hD : va_D A0 [(ob, .inr (6, [.int 0, .int (nI n), .ref b1, .ref b2, .ref b3, .ref b4, .ref b5, .int gx, .int gy, .int sl, .ref bp, .int x3_14, .int y3_15, .int h3_16, .ref bu, .ref bv, .int fd, .ref bk, .ref bw])), (b1, .inl (cI, 5, .inl kd)), (b2, .inl (cI, 5, .inl ln)), (b3, .inl (cI, 5, .inl lo)), (b4, .inl (cI, 5, .inl hi)), (b5, .inl (cI, 5, .inl vl)), (bp, .inl (cI, 5, .inl ps3_13)), (bu, .inl (cI, 5, .inl f1)), (bv, .inl (cI, 5, .inl f2)), (bk, .inl (cJ, 10, .inr (.inl ky))), (bw, .inl (cI, 10, .inl wh))] := hD
                refine lv_lload_n hx hb dX6_hindrance_110 rfl (lv_at hl 3 rfl) ?_
                refine W.lcmp hx hb dX6_hindrance_111 ?_
                refine lv_if_ge (tgt := 119) hx hb dX6_hindrance_112 (by decide) (fun c_112 => ?_) (fun c_112 => ?_)
                · rw [lg_cmp_ge] at c_112
                  refine lv_iconst (v := 0) hx hb dX6_hindrance_119 (by decide) ?_
                  refine lv_istore (lv' := [(5, .int 0), (0, .ref ob), (1, .int q), (2, .long (zFn kd ln vl n gx gy)), (4, .int (nI i))]) hx hb dX6_hindrance_120 hl (by decide) rfl (fun ls hl => ?_)
                  refine lv_iload hx hb dX6_hindrance_122 (lv_at hl 0 rfl) ?_
                  refine lv_if_eq (tgt := 132) hx hb dX6_hindrance_124 (by decide) (fun c_124 => ?_) (fun c_124 => ?_)
                  · refine lv_iload_n hx hb dX6_hindrance_132 rfl (lv_at hl 2 rfl) ?_
                    refine lv_istore_n (lv' := [(1, .int q), (5, .int 0), (0, .ref ob), (2, .long (zFn kd ln vl n gx gy)), (4, .int (nI i))]) hx hb dX6_hindrance_133 rfl hl (by decide) rfl (fun ls hl => ?_)
                    refine lv_iinc (v := nI (i + 1)) (lv' := [(4, .int (nI (i + 1))), (1, .int q), (5, .int 0), (0, .ref ob), (2, .long (zFn kd ln vl n gx gy))]) hx hb dX6_hindrance_134 hl (k := 4) rfl ((nI_succ _).symm) (by decide) rfl (fun ls hl => ?_)
                    refine lv_goto (tgt := 15) hx hb dX6_hindrance_137 (by decide) ?_
                    exact ih_15_9 (i + 1) q x3_14 y3_15 h3_16 ps3_13 (by first | assumption | omega | rfl | simp_all) (Or.inl ⟨hq1, by rw [← hq2]; exact (zHin_f (by omega) (by rintro (⟨q1, q2⟩ | ⟨q1, q2⟩) <;> first | exact c_43 q1 | exact absurd q2 (Int64.not_lt.mpr c_63) | exact c_92 q1 | exact absurd q2 (Int64.not_lt.mpr c_112))).symm⟩) (by omega) _ _ hP hD hS _ (lv_sub hl [3, 1, 4, 0] rfl)
                  · exact absurd (by decide) c_124
                · rw [lg_cmp_ge] at c_112
                  refine lv_iconst (v := 1) hx hb dX6_hindrance_115 (by decide) ?_
                  refine lv_goto (tgt := 120) hx hb dX6_hindrance_116 (by decide) ?_
                  refine lv_istore (lv' := [(5, .int 1), (0, .ref ob), (1, .int q), (2, .long (zFn kd ln vl n gx gy)), (4, .int (nI i))]) hx hb dX6_hindrance_120 hl (by decide) rfl (fun ls hl => ?_)
                  refine lv_iload hx hb dX6_hindrance_122 (lv_at hl 0 rfl) ?_
                  refine lv_if_eq (tgt := 132) hx hb dX6_hindrance_124 (by decide) (fun c_124 => ?_) (fun c_124 => ?_)
                  · exact absurd c_124 (by decide)
                  · refine lv_iload hx hb dX6_hindrance_127 (lv_at hl 4 rfl) ?_
                    refine lv_goto (tgt := 133) hx hb dX6_hindrance_129 (by decide) ?_
                    refine lv_istore_n (lv' := [(1, .int (nI i)), (5, .int 1), (0, .ref ob), (2, .long (zFn kd ln vl n gx gy)), (4, .int (nI i))]) hx hb dX6_hindrance_133 rfl hl (by decide) rfl (fun ls hl => ?_)
                    refine lv_iinc (v := nI (i + 1)) (lv' := [(4, .int (nI (i + 1))), (1, .int (nI i)), (5, .int 1), (0, .ref ob), (2, .long (zFn kd ln vl n gx gy))]) hx hb dX6_hindrance_134 hl (k := 4) rfl ((nI_succ _).symm) (by decide) rfl (fun ls hl => ?_)
                    refine lv_goto (tgt := 15) hx hb dX6_hindrance_137 (by decide) ?_
                    exact ih_15_9 (i + 1) (nI i) x3_14 y3_15 h3_16 ps3_13 (by first | assumption | omega | rfl | simp_all) (Or.inr ⟨znm1 (by omega), by rw [← hq2]; exact (zHin_t (by omega) (by first | exact Or.inl ⟨c_43, Int64.not_le.mp c_63⟩ | exact Or.inr ⟨c_92, Int64.not_le.mp c_112⟩)).symm⟩) (by omega) _ _ hP hD hS _ (lv_sub hl [3, 1, 4, 0] rfl)
          · refine lv_aload_n hx hb dX6_hindrance_46 rfl (lv_at hl 0 rfl) ?_
            refine lv_iload hx hb dX6_hindrance_47 (lv_at hl 3 rfl) ?_
            refine lv_aload_n hx hb dX6_hindrance_49 rfl (lv_at hl 0 rfl) ?_
            refine va_get (D := D) (ci := 6) (v := .ref b5) (C := RX6) (T := TX6) (N := 19) hx hb hts hin6 hown hK hP 0 rfl rfl 6 (by decide) hf22 (fun _ h9 => h9) rfl dX6_hindrance_50 ?_
            refine lv_iload hx hb dX6_hindrance_53 (lv_at hl 3 rfl) ?_
            refine z_iald hx hb hK hP 5 rfl (j := i) (by omega) (by decide) dX6_hindrance_55 ?_
            refine lv_iconst (v := 1) hx hb dX6_hindrance_56 (by decide) ?_
            refine lv_iadd hx hb dX6_hindrance_57 ?_
            refine z_callV (As := [.int (nI i), .int ((vl i) + 1)]) (rest := []) ⟨hx, hb, hml, hown, hts⟩ hG hK hP hD hS (c_X6_farWith l D cI cJ ob b1 b2 b3 b4 b5 bp bu bv bk bw n 0 gx gy sl xp yp hp fd kd ln lo hi vl psp f1 f2 ky wh i ((vl i) + 1) (by first | assumption | omega | decide) (by first | assumption | omega | decide) (by first | assumption | omega | decide) (by omega) (hok.inc (by omega))) (cwV 2 hts gX6_hindrance_X6_farWith rfl rfl rfl (by decide +kernel) ⟨Nat.le_of_ble_eq_true rfl, Nat.le_of_ble_eq_true rfl⟩) [0, 1, 2, 3, 4, 5, 6, 7, 8, 9, 10] (by decide) rfl (fun _ => rfl) 0 rfl rfl rfl rfl hl.1 rfl (Nat.le_of_ble_eq_true rfl) dX6_hindrance_58 ⟨Nat.le_of_ble_eq_true rfl, Nat.le_of_ble_eq_true rfl⟩ (fun u_18 H locs hu_19 hP hD hS => ?_)
            obtain ⟨r_20, ps3_21, x3_22, y3_23, h3_24⟩ := u_18
            have hu_19 : (r_20 = zFw kd ln vl n gx gy (nI i) ((vl i) + 1)) := hu_19
            have e_25 := hu_19
            subst e_25
            have hP : va_P D vwCl [(ob, .inr (6, [.int 0, .int (nI n), .ref b1, .ref b2, .ref b3, .ref b4, .ref b5, .int gx, .int gy, .int sl, .ref bp, .int x3_22, .int y3_23, .int h3_24, .ref bu, .ref bv, .int fd, .ref bk, .ref bw])), (b1, .inl (cI, 5, .inl kd)), (b2, .inl (cI, 5, .inl ln)), (b3, .inl (cI, 5, .inl lo)), (b4, .inl (cI, 5, .inl hi)), (b5, .inl (cI, 5, .inl vl)), (bp, .inl (cI, 5, .inl ps3_21)), (bu, .inl (cI, 5, .inl f1)), (bv, .inl (cI, 5, .inl f2)), (bk, .inl (cJ, 10, .inr (.inl ky))), (bw, .inl (cI, 10, .inl wh))] H := hP
            have hD : va_D A0 [(ob, .inr (6, [.int 0, .int (nI n), .ref b1, .ref b2, .ref b3, .ref b4, .ref b5, .int gx, .int gy, .int sl, .ref bp, .int x3_22, .int y3_23, .int h3_24, .ref bu, .ref bv, .int fd, .ref bk, .ref bw])), (b1, .inl (cI, 5, .inl kd)), (b2, .inl (cI, 5, .inl ln)), (b3, .inl (cI, 5, .inl lo)), (b4, .inl (cI, 5, .inl hi)), (b5, .inl (cI, 5, .inl vl)), (bp, .inl (cI, 5, .inl ps3_21)), (bu, .inl (cI, 5, .inl f1)), (bv, .inl (cI, 5, .inl f2)), (bk, .inl (cJ, 10, .inr (.inl ky))), (bw, .inl (cI, 10, .inl wh))] := hD
            refine lv_lload_n hx hb dX6_hindrance_61 rfl (lv_at hl 2 rfl) ?_
            refine W.lcmp hx hb dX6_hindrance_62 ?_
            refine lv_if_ge (tgt := 70) hx hb dX6_hindrance_63 (by decide) (fun c_63 => ?_) (fun c_63 => ?_)
            · rw [lg_cmp_ge] at c_63
              refine lv_iconst (v := 0) hx hb dX6_hindrance_70 (by decide) ?_
              refine lv_istore (lv' := [(5, .int 0), (0, .ref ob), (1, .int q), (2, .long (zFn kd ln vl n gx gy)), (4, .int (nI i))]) hx hb dX6_hindrance_71 hl (by decide) rfl (fun ls hl => ?_)
              refine lv_iload hx hb dX6_hindrance_73 (lv_at hl 0 rfl) ?_
              refine lv_if_ne (tgt := 115) hx hb dX6_hindrance_75 (by decide) (fun c_75 => ?_) (fun c_75 => ?_)
              · exact absurd (by decide) c_75
              · refine lv_aload_n hx hb dX6_hindrance_78 rfl (lv_at hl 1 rfl) ?_
                refine va_get (D := D) (ci := 6) (v := .ref b5) (C := RX6) (T := TX6) (N := 19) hx hb hts hin6 hown hK hP 0 rfl rfl 6 (by decide) hf22 (fun _ h9 => h9) rfl dX6_hindrance_79 ?_
                refine lv_iload hx hb dX6_hindrance_82 (lv_at hl 4 rfl) ?_
                refine z_iald hx hb hK hP 5 rfl (j := i) (by omega) (by decide) dX6_hindrance_84 ?_
                refine lv_aload_n hx hb dX6_hindrance_85 rfl (lv_at hl 1 rfl) ?_
                refine va_get (D := D) (ci := 6) (v := .ref b3) (C := RX6) (T := TX6) (N := 19) hx hb hts hin6 hown hK hP 0 rfl rfl 4 (by decide) hf16 (fun _ h9 => h9) rfl dX6_hindrance_86 ?_
                refine lv_iload hx hb dX6_hindrance_89 (lv_at hl 4 rfl) ?_
                refine z_iald hx hb hK hP 3 rfl (j := i) (by omega) (by decide) dX6_hindrance_91 ?_
                refine lv_icmp_ne (tgt := 119) hx hb dX6_hindrance_92 (by decide) (fun c_92 => ?_) (fun c_92 => ?_)
                · refine lv_iconst (v := 0) hx hb dX6_hindrance_119 (by decide) ?_
                  refine lv_istore (lv' := [(5, .int 0), (0, .ref ob), (1, .int q), (2, .long (zFn kd ln vl n gx gy)), (4, .int (nI i))]) hx hb dX6_hindrance_120 hl (by decide) rfl (fun ls hl => ?_)
                  refine lv_iload hx hb dX6_hindrance_122 (lv_at hl 0 rfl) ?_
                  refine lv_if_eq (tgt := 132) hx hb dX6_hindrance_124 (by decide) (fun c_124 => ?_) (fun c_124 => ?_)
                  · refine lv_iload_n hx hb dX6_hindrance_132 rfl (lv_at hl 2 rfl) ?_
                    refine lv_istore_n (lv' := [(1, .int q), (5, .int 0), (0, .ref ob), (2, .long (zFn kd ln vl n gx gy)), (4, .int (nI i))]) hx hb dX6_hindrance_133 rfl hl (by decide) rfl (fun ls hl => ?_)
                    refine lv_iinc (v := nI (i + 1)) (lv' := [(4, .int (nI (i + 1))), (1, .int q), (5, .int 0), (0, .ref ob), (2, .long (zFn kd ln vl n gx gy))]) hx hb dX6_hindrance_134 hl (k := 4) rfl ((nI_succ _).symm) (by decide) rfl (fun ls hl => ?_)
                    refine lv_goto (tgt := 15) hx hb dX6_hindrance_137 (by decide) ?_
                    exact ih_15_9 (i + 1) q x3_22 y3_23 h3_24 ps3_21 (by first | assumption | omega | rfl | simp_all) (Or.inl ⟨hq1, by rw [← hq2]; exact (zHin_f (by omega) (by rintro (⟨q1, q2⟩ | ⟨q1, q2⟩) <;> first | exact c_43 q1 | exact absurd q2 (Int64.not_lt.mpr c_63) | exact c_92 q1 | exact absurd q2 (Int64.not_lt.mpr c_112))).symm⟩) (by omega) _ _ hP hD hS _ (lv_sub hl [3, 1, 4, 0] rfl)
                  · exact absurd (by decide) c_124
                · refine lv_aload_n hx hb dX6_hindrance_95 rfl (lv_at hl 1 rfl) ?_
                  refine lv_iload hx hb dX6_hindrance_96 (lv_at hl 4 rfl) ?_
                  refine lv_aload_n hx hb dX6_hindrance_98 rfl (lv_at hl 1 rfl) ?_
                  refine va_get (D := D) (ci := 6) (v := .ref b5) (C := RX6) (T := TX6) (N := 19) hx hb hts hin6 hown hK hP 0 rfl rfl 6 (by decide) hf22 (fun _ h9 => h9) rfl dX6_hindrance_99 ?_
                  refine lv_iload hx hb dX6_hindrance_102 (lv_at hl 4 rfl) ?_
                  refine z_iald hx hb hK hP 5 rfl (j := i) (by omega) (by decide) dX6_hindrance_104 ?_
                  refine lv_iconst (v := 1) hx hb dX6_hindrance_105 (by decide) ?_
                  refine lv_isub hx hb dX6_hindrance_106 ?_
                  refine z_callV (As := [.int (nI i), .int ((vl i) - 1)]) (rest := []) ⟨hx, hb, hml, hown, hts⟩ hG hK hP hD hS (c_X6_farWith l D cI cJ ob b1 b2 b3 b4 b5 bp bu bv bk bw n 0 gx gy sl x3_22 y3_23 h3_24 fd kd ln lo hi vl ps3_21 f1 f2 ky wh i ((vl i) - 1) (by first | assumption | omega | decide) (by first | assumption | omega | decide) (by first | assumption | omega | decide) (by omega) (hok.dec (by omega))) (cwV 2 hts gX6_hindrance_X6_farWith rfl rfl rfl (by decide +kernel) ⟨Nat.le_of_ble_eq_true rfl, Nat.le_of_ble_eq_true rfl⟩) [0, 1, 2, 3, 4, 5, 6, 7, 8, 9, 10] (by decide) rfl (fun _ => rfl) 0 rfl rfl rfl rfl hl.1 rfl (Nat.le_of_ble_eq_true rfl) dX6_hindrance_107 ⟨Nat.le_of_ble_eq_true rfl, Nat.le_of_ble_eq_true rfl⟩ (fun u_26 H locs hu_27 hP hD hS => ?_)
                  obtain ⟨r_28, ps3_29, x3_30, y3_31, h3_32⟩ := u_26
                  have hu_27 : (r_28 = zFw kd ln vl n gx gy (nI i) ((vl i) - 1)) := hu_27
                  have e_33 := hu_27
                  subst e_33
                  have hP : va_P D vwCl [(ob, .inr (6, [.int 0, .int (nI n), .ref b1, .ref b2, .ref b3, .ref b4, .ref b5, .int gx, .int gy, .int sl, .ref bp, .int x3_30, .int y3_31, .int h3_32, .ref bu, .ref bv, .int fd, .ref bk, .ref bw])), (b1, .inl (cI, 5, .inl kd)), (b2, .inl (cI, 5, .inl ln)), (b3, .inl (cI, 5, .inl lo)), (b4, .inl (cI, 5, .inl hi)), (b5, .inl (cI, 5, .inl vl)), (bp, .inl (cI, 5, .inl ps3_29)), (bu, .inl (cI, 5, .inl f1)), (bv, .inl (cI, 5, .inl f2)), (bk, .inl (cJ, 10, .inr (.inl ky))), (bw, .inl (cI, 10, .inl wh))] H := hP
                  have hD : va_D A0 [(ob, .inr (6, [.int 0, .int (nI n), .ref b1, .ref b2, .ref b3, .ref b4, .ref b5, .int gx, .int gy, .int sl, .ref bp, .int x3_30, .int y3_31, .int h3_32, .ref bu, .ref bv, .int fd, .ref bk, .ref bw])), (b1, .inl (cI, 5, .inl kd)), (b2, .inl (cI, 5, .inl ln)), (b3, .inl (cI, 5, .inl lo)), (b4, .inl (cI, 5, .inl hi)), (b5, .inl (cI, 5, .inl vl)), (bp, .inl (cI, 5, .inl ps3_29)), (bu, .inl (cI, 5, .inl f1)), (bv, .inl (cI, 5, .inl f2)), (bk, .inl (cJ, 10, .inr (.inl ky))), (bw, .inl (cI, 10, .inl wh))] := hD
                  refine lv_lload_n hx hb dX6_hindrance_110 rfl (lv_at hl 3 rfl) ?_
                  refine W.lcmp hx hb dX6_hindrance_111 ?_
                  refine lv_if_ge (tgt := 119) hx hb dX6_hindrance_112 (by decide) (fun c_112 => ?_) (fun c_112 => ?_)
                  · rw [lg_cmp_ge] at c_112
                    refine lv_iconst (v := 0) hx hb dX6_hindrance_119 (by decide) ?_
                    refine lv_istore (lv' := [(5, .int 0), (0, .ref ob), (1, .int q), (2, .long (zFn kd ln vl n gx gy)), (4, .int (nI i))]) hx hb dX6_hindrance_120 hl (by decide) rfl (fun ls hl => ?_)
                    refine lv_iload hx hb dX6_hindrance_122 (lv_at hl 0 rfl) ?_
                    refine lv_if_eq (tgt := 132) hx hb dX6_hindrance_124 (by decide) (fun c_124 => ?_) (fun c_124 => ?_)
                    · refine lv_iload_n hx hb dX6_hindrance_132 rfl (lv_at hl 2 rfl) ?_
                      refine lv_istore_n (lv' := [(1, .int q), (5, .int 0), (0, .ref ob), (2, .long (zFn kd ln vl n gx gy)), (4, .int (nI i))]) hx hb dX6_hindrance_133 rfl hl (by decide) rfl (fun ls hl => ?_)
                      refine lv_iinc (v := nI (i + 1)) (lv' := [(4, .int (nI (i + 1))), (1, .int q), (5, .int 0), (0, .ref ob), (2, .long (zFn kd ln vl n gx gy))]) hx hb dX6_hindrance_134 hl (k := 4) rfl ((nI_succ _).symm) (by decide) rfl (fun ls hl => ?_)
                      refine lv_goto (tgt := 15) hx hb dX6_hindrance_137 (by decide) ?_
                      exact ih_15_9 (i + 1) q x3_30 y3_31 h3_32 ps3_29 (by first | assumption | omega | rfl | simp_all) (Or.inl ⟨hq1, by rw [← hq2]; exact (zHin_f (by omega) (by rintro (⟨q1, q2⟩ | ⟨q1, q2⟩) <;> first | exact c_43 q1 | exact absurd q2 (Int64.not_lt.mpr c_63) | exact c_92 q1 | exact absurd q2 (Int64.not_lt.mpr c_112))).symm⟩) (by omega) _ _ hP hD hS _ (lv_sub hl [3, 1, 4, 0] rfl)
                    · exact absurd (by decide) c_124
                  · rw [lg_cmp_ge] at c_112
                    refine lv_iconst (v := 1) hx hb dX6_hindrance_115 (by decide) ?_
                    refine lv_goto (tgt := 120) hx hb dX6_hindrance_116 (by decide) ?_
                    refine lv_istore (lv' := [(5, .int 1), (0, .ref ob), (1, .int q), (2, .long (zFn kd ln vl n gx gy)), (4, .int (nI i))]) hx hb dX6_hindrance_120 hl (by decide) rfl (fun ls hl => ?_)
                    refine lv_iload hx hb dX6_hindrance_122 (lv_at hl 0 rfl) ?_
                    refine lv_if_eq (tgt := 132) hx hb dX6_hindrance_124 (by decide) (fun c_124 => ?_) (fun c_124 => ?_)
                    · exact absurd c_124 (by decide)
                    · refine lv_iload hx hb dX6_hindrance_127 (lv_at hl 4 rfl) ?_
                      refine lv_goto (tgt := 133) hx hb dX6_hindrance_129 (by decide) ?_
                      refine lv_istore_n (lv' := [(1, .int (nI i)), (5, .int 1), (0, .ref ob), (2, .long (zFn kd ln vl n gx gy)), (4, .int (nI i))]) hx hb dX6_hindrance_133 rfl hl (by decide) rfl (fun ls hl => ?_)
                      refine lv_iinc (v := nI (i + 1)) (lv' := [(4, .int (nI (i + 1))), (1, .int (nI i)), (5, .int 1), (0, .ref ob), (2, .long (zFn kd ln vl n gx gy))]) hx hb dX6_hindrance_134 hl (k := 4) rfl ((nI_succ _).symm) (by decide) rfl (fun ls hl => ?_)
                      refine lv_goto (tgt := 15) hx hb dX6_hindrance_137 (by decide) ?_
                      exact ih_15_9 (i + 1) (nI i) x3_30 y3_31 h3_32 ps3_29 (by first | assumption | omega | rfl | simp_all) (Or.inr ⟨znm1 (by omega), by rw [← hq2]; exact (zHin_t (by omega) (by first | exact Or.inl ⟨c_43, Int64.not_le.mp c_63⟩ | exact Or.inr ⟨c_92, Int64.not_le.mp c_112⟩)).symm⟩) (by omega) _ _ hP hD hS _ (lv_sub hl [3, 1, 4, 0] rfl)
            · rw [lg_cmp_ge] at c_63
              refine lv_iconst (v := 1) hx hb dX6_hindrance_66 (by decide) ?_
              refine lv_goto (tgt := 71) hx hb dX6_hindrance_67 (by decide) ?_
              refine lv_istore (lv' := [(5, .int 1), (0, .ref ob), (1, .int q), (2, .long (zFn kd ln vl n gx gy)), (4, .int (nI i))]) hx hb dX6_hindrance_71 hl (by decide) rfl (fun ls hl => ?_)
              refine lv_iload hx hb dX6_hindrance_73 (lv_at hl 0 rfl) ?_
              refine lv_if_ne (tgt := 115) hx hb dX6_hindrance_75 (by decide) (fun c_75 => ?_) (fun c_75 => ?_)
              · refine lv_iconst (v := 1) hx hb dX6_hindrance_115 (by decide) ?_
                refine lv_goto (tgt := 120) hx hb dX6_hindrance_116 (by decide) ?_
                refine lv_istore (lv' := [(5, .int 1), (0, .ref ob), (1, .int q), (2, .long (zFn kd ln vl n gx gy)), (4, .int (nI i))]) hx hb dX6_hindrance_120 hl (by decide) rfl (fun ls hl => ?_)
                refine lv_iload hx hb dX6_hindrance_122 (lv_at hl 0 rfl) ?_
                refine lv_if_eq (tgt := 132) hx hb dX6_hindrance_124 (by decide) (fun c_124 => ?_) (fun c_124 => ?_)
                · exact absurd c_124 (by decide)
                · refine lv_iload hx hb dX6_hindrance_127 (lv_at hl 4 rfl) ?_
                  refine lv_goto (tgt := 133) hx hb dX6_hindrance_129 (by decide) ?_
                  refine lv_istore_n (lv' := [(1, .int (nI i)), (5, .int 1), (0, .ref ob), (2, .long (zFn kd ln vl n gx gy)), (4, .int (nI i))]) hx hb dX6_hindrance_133 rfl hl (by decide) rfl (fun ls hl => ?_)
                  refine lv_iinc (v := nI (i + 1)) (lv' := [(4, .int (nI (i + 1))), (1, .int (nI i)), (5, .int 1), (0, .ref ob), (2, .long (zFn kd ln vl n gx gy))]) hx hb dX6_hindrance_134 hl (k := 4) rfl ((nI_succ _).symm) (by decide) rfl (fun ls hl => ?_)
                  refine lv_goto (tgt := 15) hx hb dX6_hindrance_137 (by decide) ?_
                  exact ih_15_9 (i + 1) (nI i) x3_22 y3_23 h3_24 ps3_21 (by first | assumption | omega | rfl | simp_all) (Or.inr ⟨znm1 (by omega), by rw [← hq2]; exact (zHin_t (by omega) (by first | exact Or.inl ⟨c_43, Int64.not_le.mp c_63⟩ | exact Or.inr ⟨c_92, Int64.not_le.mp c_112⟩)).symm⟩) (by omega) _ _ hP hD hS _ (lv_sub hl [3, 1, 4, 0] rfl)
              · exact absurd c_75 (by decide)
  exact lp_15_9 ((n - 0) + 1) 0 (-1) x3_5 y3_6 h3_7 ps3_4 (by first | assumption | omega | rfl | simp_all) (Or.inl ⟨rfl, rfl⟩) (Nat.lt_succ_self _) _ _ hP hD hS _ (lv_sub hl [3, 2, 1, 0] rfl)
