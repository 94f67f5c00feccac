set_option maxHeartbeats 4000000 in
set_option maxRecDepth 100000 in
theorem c_X6_poses (l : Launch) (D : va_G) (cI cJ : ClassId) (ob : Nat) (b1 : Nat) (b2 : Nat) (b3 : Nat) (b4 : Nat) (b5 : Nat) (bp : Nat) (bu : Nat) (bv : Nat) (bk : Nat) (bw : Nat) (n : Nat) (th : Int32) (gx : Int32) (gy : Int32) (sl : Int32) (x : Int32) (y : Int32) (h : Int32) (fd : Int32) (kd : Nat → Int32) (ln : Nat → Int32) (lo : Nat → Int32) (hi : Nat → Int32) (vl : Nat → Int32) (ps : Nat → Int32) (f1 : Nat → Int32) (f2 : Nat → Int32) (ky : Nat → Int64) (wh : Nat → Int32) (hok : zOk n kd ln lo hi vl) : zM l yX6_poses wsX6_poses 0 D cI cJ [.ref ob] [(ob, .inr (6, [.int th, .int (nI n), .ref b1, .ref b2, .ref b3, .ref b4, .ref b5, .int gx, .int gy, .int sl, .ref bp, .int x, .int y, .int h, .ref bu, .ref bv, .int fd, .ref bk, .ref bw])), (b1, .inl (cI, 5, .inl kd)), (b2, .inl (cI, 5, .inl ln)), (b3, .inl (cI, 5, .inl lo)), (b4, .inl (cI, 5, .inl hi)), (b5, .inl (cI, 5, .inl vl)), (bp, .inl (cI, 5, .inl ps)), (bu, .inl (cI, 5, .inl f1)), (bv, .inl (cI, 5, .inl f2)), (bk, .inl (cJ, 10, .inr (.inl ky))), (bw, .inl (cI, 10, .inl wh))] (fun (u : Int32) => (∃ t : Nat, t < 10000000 ∧ u = nI t ∧ (t ≤ 40000 ↔ zPw lo hi n ≤ 40000) ∧ (t ≤ 40000 → t = zPw lo hi n))) (fun (u : Int32) => some (.int u)) (fun (u : Int32) => [(ob, .inr (6, [.int th, .int (nI n), .ref b1, .ref b2, .ref b3, .ref b4, .ref b5, .int gx, .int gy, .int sl, .ref bp, .int x, .int y, .int h, .ref bu, .ref bv, .int fd, .ref bk, .ref bw])), (b1, .inl (cI, 5, .inl kd)), (b2, .inl (cI, 5, .inl ln)), (b3, .inl (cI, 5, .inl lo)), (b4, .inl (cI, 5, .inl hi)), (b5, .inl (cI, 5, .inl vl)), (bp, .inl (cI, 5, .inl ps)), (bu, .inl (cI, 5, .inl f1)), (bv, .inl (cI, 5, .inl f2)), (bk, .inl (cJ, 10, .inr (.inl ky))), (bw, .inl (cI, 10, .inl wh))]) := by
  refine zM_i (cc := cX6_poses) (maxL := 3) (r := fun (u : Int32) => u) (by decide) rfl (Nat.le_of_ble_eq_true rfl) ?_
  intro p e s m args below meth c ls A0 Q C hl hP hS hRet
  obtain ⟨⟨hx, hb, hml, hown, hts⟩, hG, hK, hD, hlocks⟩ := C
  have hin6 : ∀ w ∈ u_ws RX6 TX6 19, w ∈ wsX6_poses := by decide +kernel
  have hf48 := hts (.fieldLink RX6 48 "ArmRoomModel" "joints" "I") (by decide +kernel)
  have hf19 := hts (.fieldLink RX6 19 "ArmRoomModel" "high" "[I") (by decide +kernel)
  have hf16 := hts (.fieldLink RX6 16 "ArmRoomModel" "low" "[I") (by decide +kernel)
  have hl : lv_has ls 3 [(0, .ref ob)] := hl
  have hn := hok.1
  refine lv_iconst (v := 1) hx hb dX6_poses_0 (by decide) ?_
  refine lv_istore_n (lv' := [(1, .int 1), (0, .ref ob)]) hx hb dX6_poses_1 rfl hl (by decide) rfl (fun ls hl => ?_)
  refine lv_iconst (v := 0) hx hb dX6_poses_2 (by decide) ?_
  refine lv_istore_n (lv' := [(2, .int 0), (1, .int 1), (0, .ref ob)]) hx hb dX6_poses_3 rfl hl (by decide) rfl (fun ls hl => ?_)
  have lp_4_1 : ∀ (fu : Nat) (i : Nat), (i ≤ n) → (zPw lo hi i < 10000000) → (n - i < fu) → ∀ (H : Heap) (locs : List Loc), va_P D vwCl [(ob, .inr (6, [.int th, .int (nI n), .ref b1, .ref b2, .ref b3, .ref b4, .ref b5, .int gx, .int gy, .int sl, .ref bp, .int x, .int y, .int h, .ref bu, .ref bv, .int fd, .ref bk, .ref bw])), (b1, .inl (cI, 5, .inl kd)), (b2, .inl (cI, 5, .inl ln)), (b3, .inl (cI, 5, .inl lo)), (b4, .inl (cI, 5, .inl hi)), (b5, .inl (cI, 5, .inl vl)), (bp, .inl (cI, 5, .inl ps)), (bu, .inl (cI, 5, .inl f1)), (bv, .inl (cI, 5, .inl f2)), (bk, .inl (cJ, 10, .inr (.inl ky))), (bw, .inl (cI, 10, .inl wh))] H → va_D A0 [(ob, .inr (6, [.int th, .int (nI n), .ref b1, .ref b2, .ref b3, .ref b4, .ref b5, .int gx, .int gy, .int sl, .ref bp, .int x, .int y, .int h, .ref bu, .ref bv, .int fd, .ref bk, .ref bw])), (b1, .inl (cI, 5, .inl kd)), (b2, .inl (cI, 5, .inl ln)), (b3, .inl (cI, 5, .inl lo)), (b4, .inl (cI, 5, .inl hi)), (b5, .inl (cI, 5, .inl vl)), (bp, .inl (cI, 5, .inl ps)), (bu, .inl (cI, 5, .inl f1)), (bv, .inl (cI, 5, .inl f2)), (bk, .inl (cJ, 10, .inr (.inl ky))), (bw, .inl (cI, 10, .inl wh))] → va_S A0 s.heap H locs → ∀ (ls : Array Slot), lv_has ls 3 [(0, .ref ob), (1, .int (nI (zPw lo hi i))), (2, .int (nI i))] → W p l e (zRm 0 0 0) s m args below meth c H locs 0 0 Q (F0 m 4 ls []) := by
    intro fu
    induction fu with
    | zero => intro i hi1 hbd hfu; exact absurd hfu (Nat.not_lt_zero _)
    | succ fu ih_4_1 =>
      intro i hi1 hbd hfu H locs hP hD hS ls hl
      refine lv_iload_n hx hb dX6_poses_4 rfl (lv_at hl 2 rfl) ?_
      refine lv_aload_n hx hb dX6_poses_5 rfl (lv_at hl 0 rfl) ?_
      refine va_get (D := D) (ci := 6) (v := .int (nI n)) (C := RX6) (T := TX6) (N := 19) hx hb hts hin6 hown hK hP 0 rfl rfl 1 (by decide) hf48 (fun _ h9 => h9) rfl dX6_poses_6 ?_
      refine lv_icmp_ge (tgt := 42) hx hb dX6_poses_9 (by decide) (fun c_9 => ?_) (fun c_9 => ?_)
      · rw [nI_leI (by omega) (by omega)] at c_9
        obtain rfl : n = i := by omega
        refine lv_iload_n hx hb dX6_poses_42 rfl (lv_at hl 1 rfl) ?_
        exact hRet _ (nI (zPw lo hi n)) _ _ _ (⟨_, hbd, rfl, Iff.rfl, fun _ => rfl⟩) hP hS dX6_poses_43
      · rw [nI_leI (by omega) (by omega)] at c_9
        refine lv_iload_n hx hb dX6_poses_12 rfl (lv_at hl 1 rfl) ?_
        refine lv_ldc (own := RX6) (v := 40000) hx hb hown (hts (.constant RX6 123 (40000)) (by decide +kernel)) dX6_poses_13 ?_
        refine z_topi (y := nI 40000) (rfl) ?_
        refine lv_icmp_gt (tgt := 42) hx hb dX6_poses_15 (by decide) (fun c_15 => ?_) (fun c_15 => ?_)
        · rw [nI_ltI (by omega) (by omega)] at c_15
          refine lv_iload_n hx hb dX6_poses_42 rfl (lv_at hl 1 rfl) ?_
          exact hRet _ (nI (zPw lo hi i)) _ _ _ (⟨_, hbd, rfl, ⟨fun h9 => absurd h9 (by omega), fun h9 => absurd (Nat.le_trans (zPw_mono hok (i := i) (j := n) (by omega) (Nat.le_refl n)) h9) (by omega)⟩, fun h9 => absurd h9 (by omega)⟩) hP hS dX6_poses_43
        · rw [nI_ltI (by omega) (by omega)] at c_15
          refine lv_iload_n hx hb dX6_poses_18 rfl (lv_at hl 1 rfl) ?_
          refine lv_aload_n hx hb dX6_poses_19 rfl (lv_at hl 0 rfl) ?_
          refine va_get (D := D) (ci := 6) (v := .ref b4) (C := RX6) (T := TX6) (N := 19) hx hb hts hin6 hown hK hP 0 rfl rfl 5 (by decide) hf19 (fun _ h9 => h9) rfl dX6_poses_20 ?_
          refine lv_iload_n hx hb dX6_poses_23 rfl (lv_at hl 2 rfl) ?_
          refine z_iald hx hb hK hP 4 rfl (j := i) (by omega) (by decide) dX6_poses_24 ?_
          refine lv_aload_n hx hb dX6_poses_25 rfl (lv_at hl 0 rfl) ?_
          refine va_get (D := D) (ci := 6) (v := .ref b3) (C := RX6) (T := TX6) (N := 19) hx hb hts hin6 hown hK hP 0 rfl rfl 4 (by decide) hf16 (fun _ h9 => h9) rfl dX6_poses_26 ?_
          refine lv_iload_n hx hb dX6_poses_29 rfl (lv_at hl 2 rfl) ?_
          refine z_iald hx hb hK hP 3 rfl (j := i) (by omega) (by decide) dX6_poses_30 ?_
          refine lv_isub hx hb dX6_poses_31 ?_
          refine lv_iconst (v := 1) hx hb dX6_poses_32 (by decide) ?_
          refine lv_iadd hx hb dX6_poses_33 ?_
          refine lv_imul hx hb dX6_poses_34 ?_
          refine z_topi (y := nI (zPw lo hi (i + 1))) (by rw [zWd_nI hok (by omega)]; exact pk_mul _ _) ?_
          refine lv_istore_n (lv' := [(1, .int (nI (zPw lo hi (i + 1)))), (0, .ref ob), (2, .int (nI i))]) hx hb dX6_poses_35 rfl hl (by decide) rfl (fun ls hl => ?_)
          refine lv_iinc (v := nI (i + 1)) (lv' := [(2, .int (nI (i + 1))), (1, .int (nI (zPw lo hi (i + 1)))), (0, .ref ob)]) hx hb dX6_poses_36 hl (k := 2) rfl ((nI_succ _).symm) (by decide) rfl (fun ls hl => ?_)
          refine lv_goto (tgt := 4) hx hb dX6_poses_39 (by decide) ?_
          exact ih_4_1 (i + 1) (by first | assumption | omega | rfl | simp_all) (zPw_s hok (by omega) (by omega)) (by omega) _ _ hP hD hS _ (lv_sub hl [2, 1, 0] rfl)
  exact lp_4_1 ((n - 0) + 1) 0 (by first | assumption | omega | rfl | simp_all) (show (1 : Nat) < 10000000 by decide) (Nat.lt_succ_self _) _ _ hP hD hS _ (lv_sub hl [2, 1, 0] rfl)

set_option maxHeartbeats 4000000 in
set_option maxRecDepth 100000 in
theorem c_X6_makesPose (l : Launch) (D : va_G) (cI cJ : ClassId) (ob : Nat) (b1 : Nat) (b2 : Nat) (b3 : Nat) (b4 : Nat) (b5 : Nat) (bp : Nat) (bu : Nat) (bv : Nat) (bk : Nat) (bw : Nat) (n : Nat) (th : Int32) (gx : Int32) (gy : Int32) (sl : Int32) (x : Int32) (y : Int32) (h : Int32) (fd : Int32) (kd : Nat → Int32) (ln : Nat → Int32) (lo : Nat → Int32) (hi : Nat → Int32) (vl : Nat → Int32) (ps : Nat → Int32) (f1 : Nat → Int32) (f2 : Nat → Int32) (ky : Nat → Int64) (wh : Nat → Int32) (k : Nat) (hok : zOk n kd ln lo hi vl) (hk : k ≤ 40000) : zM l yX6_makesPose wsX6_makesPose 0 D cI cJ [.ref ob, .int (nI k)] [(ob, .inr (6, [.int th, .int (nI n), .ref b1, .ref b2, .ref b3, .ref b4, .ref b5, .int gx, .int gy, .int sl, .ref bp, .int x, .int y, .int h, .ref bu, .ref bv, .int fd, .ref bk, .ref bw])), (b1, .inl (cI, 5, .inl kd)), (b2, .inl (cI, 5, .inl ln)), (b3, .inl (cI, 5, .inl lo)), (b4, .inl (cI, 5, .inl hi)), (b5, .inl (cI, 5, .inl vl)), (bp, .inl (cI, 5, .inl ps)), (bu, .inl (cI, 5, .inl f1)), (bv, .inl (cI, 5, .inl f2)), (bk, .inl (cJ, 10, .inr (.inl ky))), (bw, .inl (cI, 10, .inl wh))] (fun (u : (Nat → Int32)) => (∀ j, j < n → u j = zPk lo hi n k j)) (fun (u : (Nat → Int32)) => none) (fun (u : (Nat → Int32)) => [(ob, .inr (6, [.int th, .int (nI n), .ref b1, .ref b2, .ref b3, .ref b4, .ref b5, .int gx, .int gy, .int sl, .ref bp, .int x, .int y, .int h, .ref bu, .ref bv, .int fd, .ref bk, .ref bw])), (b1, .inl (cI, 5, .inl kd)), (b2, .inl (cI, 5, .inl ln)), (b3, .inl (cI, 5, .inl lo)), (b4, .inl (cI, 5, .inl hi)), (b5, .inl (cI, 5, .inl vl)), (bp, .inl (cI, 5, .inl u)), (bu, .inl (cI, 5, .inl f1)), (bv, .inl (cI, 5, .inl f2)), (bk, .inl (cJ, 10, .inr (.inl ky))), (bw, .inl (cI, 10, .inl wh))]) := by
  refine zM_v (cc := cX6_makesPose) (maxL := 5) (by decide) rfl (Nat.le_of_ble_eq_true rfl) ?_
  intro p e s m args below meth c ls A0 Q C hl hP hS hRet
  obtain ⟨⟨hx, hb, hml, hown, hts⟩, hG, hK, hD, hlocks⟩ := C
  have hin6 : ∀ w ∈ u_ws RX6 TX6 19, w ∈ wsX6_makesPose := by decide +kernel
  have hf48 := hts (.fieldLink RX6 48 "ArmRoomModel" "joints" "I") (by decide +kernel)
  have hf19 := hts (.fieldLink RX6 19 "ArmRoomModel" "high" "[I") (by decide +kernel)
  have hf16 := hts (.fieldLink RX6 16 "ArmRoomModel" "low" "[I") (by decide +kernel)
  have hf29 := hts (.fieldLink RX6 29 "ArmRoomModel" "pose" "[I") (by decide +kernel)
  have hl : lv_has ls 5 [(0, .ref ob), (1, .int (nI k))] := hl
  have hn := hok.1
  refine lv_iload_n hx hb dX6_makesPose_0 rfl (lv_at hl 1 rfl) ?_
  refine z_topi (y := nI (k / zMs lo hi (n - n) n)) (zMk_0 lo hi n k) ?_
  refine lv_istore_n (lv' := [(2, .int (nI (k / zMs lo hi (n - n) n))), (0, .ref ob), (1, .int (nI k))]) hx hb dX6_makesPose_1 rfl hl (by decide) rfl (fun ls hl => ?_)
  refine lv_aload_n hx hb dX6_makesPose_2 rfl (lv_at hl 1 rfl) ?_
  refine va_get (D := D) (ci := 6) (v := .int (nI n)) (C := RX6) (T := TX6) (N := 19) hx hb hts hin6 hown hK hP 0 rfl rfl 1 (by decide) hf48 (fun _ h9 => h9) rfl dX6_makesPose_3 ?_
  refine lv_iconst (v := 1) hx hb dX6_makesPose_6 (by decide) ?_
  refine lv_isub hx hb dX6_makesPose_7 ?_
  refine lv_istore_n (lv' := [(3, .int (nI n - 1)), (2, .int (nI (k / zMs lo hi (n - n) n))), (0, .ref ob), (1, .int (nI k))]) hx hb dX6_makesPose_8 rfl hl (by decide) rfl (fun ls hl => ?_)
  have lp_9_1 : ∀ (fu : Nat) (i : Nat) (psx : Nat → Int32), (i ≤ n) → (∀ j, i ≤ j → j < n → psx j = zPk lo hi n k j) → (i < fu) → ∀ (H : Heap) (locs : List Loc), va_P D vwCl [(ob, .inr (6, [.int th, .int (nI n), .ref b1, .ref b2, .ref b3, .ref b4, .ref b5, .int gx, .int gy, .int sl, .ref bp, .int x, .int y, .int h, .ref bu, .ref bv, .int fd, .ref bk, .ref bw])), (b1, .inl (cI, 5, .inl kd)), (b2, .inl (cI, 5, .inl ln)), (b3, .inl (cI, 5, .inl lo)), (b4, .inl (cI, 5, .inl hi)), (b5, .inl (cI, 5, .inl vl)), (bp, .inl (cI, 5, .inl psx)), (bu, .inl (cI, 5, .inl f1)), (bv, .inl (cI, 5, .inl f2)), (bk, .inl (cJ, 10, .inr (.inl ky))), (bw, .inl (cI, 10, .inl wh))] H → va_D A0 [(ob, .inr (6, [.int th, .int (nI n), .ref b1, .ref b2, .ref b3, .ref b4, .ref b5, .int gx, .int gy, .int sl, .ref bp, .int x, .int y, .int h, .ref bu, .ref bv, .int fd, .ref bk, .ref bw])), (b1, .inl (cI, 5, .inl kd)), (b2, .inl (cI, 5, .inl ln)), (b3, .inl (cI, 5, .inl lo)), (b4, .inl (cI, 5, .inl hi)), (b5, .inl (cI, 5, .inl vl)), (bp, .inl (cI, 5, .inl psx)), (bu, .inl (cI, 5, .inl f1)), (bv, .inl (cI, 5, .inl f2)), (bk, .inl (cJ, 10, .inr (.inl ky))), (bw, .inl (cI, 10, .inl wh))] → va_S A0 s.heap H locs → ∀ (ls : Array Slot), lv_has ls 5 [(0, .ref ob), (2, .int (nI (k / zMs lo hi (n - i) i))), (3, .int (nI i - 1))] → W p l e (zRm 0 0 0) s m args below meth c H locs 0 0 Q (F0 m 9 ls []) := by
    intro fu
    induction fu with
    | zero => intro i psx hi1 hr hfu; exact absurd hfu (Nat.not_lt_zero _)
    | succ fu ih_9_1 =>
      intro i psx hi1 hr hfu H locs hP hD hS ls hl
      refine lv_iload_n hx hb dX6_makesPose_9 rfl (lv_at hl 2 rfl) ?_
      refine lv_if_lt (tgt := 58) hx hb dX6_makesPose_10 (by decide) (fun c_10 => ?_) (fun c_10 => ?_)
      · have c_10 := (zlt0_pred (by omega)).mp c_10
        subst c_10
        exact hRet _ (psx) _ _ _ (fun j h9 => hr j (Nat.zero_le j) h9) hP hS dX6_makesPose_58
      · have c_10 : ¬ i = 0 := fun h => c_10 ((zlt0_pred (by omega)).mpr h)
        obtain ⟨q, rfl⟩ : ∃ q, i = q + 1 := ⟨i - 1, by omega⟩
        rw [nI_pred] at hl
        have hw9 := zWd_eq hok (j := q) (by omega)
        refine lv_aload_n hx hb dX6_makesPose_13 rfl (lv_at hl 0 rfl) ?_
        refine va_get (D := D) (ci := 6) (v := .ref b4) (C := RX6) (T := TX6) (N := 19) hx hb hts hin6 hown hK hP 0 rfl rfl 5 (by decide) hf19 (fun _ h9 => h9) rfl dX6_makesPose_14 ?_
        refine lv_iload_n hx hb dX6_makesPose_17 rfl (lv_at hl 2 rfl) ?_
        refine z_iald hx hb hK hP 4 rfl (j := q) (by omega) (by decide) dX6_makesPose_18 ?_
        refine lv_aload_n hx hb dX6_makesPose_19 rfl (lv_at hl 0 rfl) ?_
        refine va_get (D := D) (ci := 6) (v := .ref b3) (C := RX6) (T := TX6) (N := 19) hx hb hts hin6 hown hK hP 0 rfl rfl 4 (by decide) hf16 (fun _ h9 => h9) rfl dX6_makesPose_20 ?_
        refine lv_iload_n hx hb dX6_makesPose_23 rfl (lv_at hl 2 rfl) ?_
        refine z_iald hx hb hK hP 3 rfl (j := q) (by omega) (by decide) dX6_makesPose_24 ?_
        refine lv_isub hx hb dX6_makesPose_25 ?_
        refine lv_iconst (v := 1) hx hb dX6_makesPose_26 (by decide) ?_
        refine lv_iadd hx hb dX6_makesPose_27 ?_
        refine z_topi (y := nI (zWd lo hi q)) (zWd_nI hok (by omega)) ?_
        refine lv_istore (lv' := [(4, .int (nI (zWd lo hi q))), (0, .ref ob), (2, .int (nI (k / zMs lo hi (n - (q + 1)) (q + 1)))), (3, .int (nI q))]) hx hb dX6_makesPose_28 hl (by decide) rfl (fun ls hl => ?_)
        refine lv_aload_n hx hb dX6_makesPose_30 rfl (lv_at hl 1 rfl) ?_
        refine va_get (D := D) (ci := 6) (v := .ref bp) (C := RX6) (T := TX6) (N := 19) hx hb hts hin6 hown hK hP 0 rfl rfl 10 (by decide) hf29 (fun _ h9 => h9) rfl dX6_makesPose_31 ?_
        refine lv_iload_n hx hb dX6_makesPose_34 rfl (lv_at hl 3 rfl) ?_
        refine lv_aload_n hx hb dX6_makesPose_35 rfl (lv_at hl 1 rfl) ?_
        refine va_get (D := D) (ci := 6) (v := .ref b3) (C := RX6) (T := TX6) (N := 19) hx hb hts hin6 hown hK hP 0 rfl rfl 4 (by decide) hf16 (fun _ h9 => h9) rfl dX6_makesPose_36 ?_
        refine lv_iload_n hx hb dX6_makesPose_39 rfl (lv_at hl 3 rfl) ?_
        refine z_iald hx hb hK hP 3 rfl (j := q) (by omega) (by decide) dX6_makesPose_40 ?_
        refine lv_iload_n hx hb dX6_makesPose_41 rfl (lv_at hl 2 rfl) ?_
        refine lv_iload hx hb dX6_makesPose_42 (lv_at hl 0 rfl) ?_
        refine lv_irem hx hb dX6_makesPose_44 (nI_ne0 (by omega) (by omega)) ?_
        refine z_topi (y := nI (k / zMs lo hi (n - (q + 1)) (q + 1) % zWd lo hi q)) (zMk_rem hok (by omega) hk) ?_
        refine lv_iadd hx hb dX6_makesPose_45 ?_
        refine z_iast hx hb hK hP hD hS 6 rfl (j := q) (by omega) (by decide) dX6_makesPose_46 (fun H locs hP hD hS => ?_)
        have hP : va_P D vwCl [(ob, .inr (6, [.int th, .int (nI n), .ref b1, .ref b2, .ref b3, .ref b4, .ref b5, .int gx, .int gy, .int sl, .ref bp, .int x, .int y, .int h, .ref bu, .ref bv, .int fd, .ref bk, .ref bw])), (b1, .inl (cI, 5, .inl kd)), (b2, .inl (cI, 5, .inl ln)), (b3, .inl (cI, 5, .inl lo)), (b4, .inl (cI, 5, .inl hi)), (b5, .inl (cI, 5, .inl vl)), (bp, .inl (cI, 5, .inl (upd psx q ((lo q) + (nI (k / zMs lo hi (n - (q + 1)) (q + 1) % zWd lo hi q)))))), (bu, .inl (cI, 5, .inl f1)), (bv, .inl (cI, 5, .inl f2)), (bk, .inl (cJ, 10, .inr (.inl ky))), (bw, .inl (cI, 10, .inl wh))] H := hP
        have hD : va_D A0 [(ob, .inr (6, [.int th, .int (nI n), .ref b1, .ref b2, .ref b3, .ref b4, .ref b5, .int gx, .int gy, .int sl, .ref bp, .int x, .int y, .int h, .ref bu, .ref bv, .int fd, .ref bk, .ref bw])), (b1, .inl (cI, 5, .inl kd)), (b2, .inl (cI, 5, .inl ln)), (b3, .inl (cI, 5, .inl lo)), (b4, .inl (cI, 5, .inl hi)), (b5, .inl (cI, 5, .inl vl)), (bp, .inl (cI, 5, .inl (upd psx q ((lo q) + (nI (k / zMs lo hi (n - (q + 1)) (q + 1) % zWd lo hi q)))))), (bu, .inl (cI, 5, .inl f1)), (bv, .inl (cI, 5, .inl f2)), (bk, .inl (cJ, 10, .inr (.inl ky))), (bw, .inl (cI, 10, .inl wh))] := hD
        refine lv_iload_n hx hb dX6_makesPose_47 rfl (lv_at hl 2 rfl) ?_
        refine lv_iload hx hb dX6_makesPose_48 (lv_at hl 0 rfl) ?_
        refine lv_idiv hx hb dX6_makesPose_50 (nI_ne0 (by omega) (by omega)) ?_
        refine z_topi (y := nI (k / zMs lo hi (n - q) q)) (zMk_div hok (by omega) hk) ?_
        refine lv_istore_n (lv' := [(2, .int (nI (k / zMs lo hi (n - q) q))), (4, .int (nI (zWd lo hi q))), (0, .ref ob), (3, .int (nI q))]) hx hb dX6_makesPose_51 rfl hl (by decide) rfl (fun ls hl => ?_)
        refine lv_iinc (v := nI q - 1) (lv' := [(3, .int (nI q - 1)), (2, .int (nI (k / zMs lo hi (n - q) q))), (4, .int (nI (zWd lo hi q))), (0, .ref ob)]) hx hb dX6_makesPose_52 hl (k := 3) rfl (zdec _) (by decide) rfl (fun ls hl => ?_)
        refine lv_goto (tgt := 9) hx hb dX6_makesPose_55 (by decide) ?_
        exact ih_9_1 q (upd psx q ((lo q) + (nI (k / zMs lo hi (n - (q + 1)) (q + 1) % zWd lo hi q)))) (by first | assumption | omega | rfl | simp_all) (zpk_up hr rfl) (by omega) _ _ hP hD hS _ (lv_sub hl [3, 1, 0] rfl)
  exact lp_9_1 (n + 1) n ps (by first | assumption | omega | rfl | simp_all) (fun j h1 h2 => absurd h2 (Nat.not_lt.mpr h1)) (Nat.lt_succ_self _) _ _ hP hD hS _ (lv_sub hl [2, 1, 0] rfl)

set_option maxHeartbeats 4000000 in
set_option maxRecDepth 100000 in
theorem c_X6_size (l : Launch) (D : va_G) (cI cJ : ClassId) (v : Int32)  : zM l yX6_size wsX6_size 0 D cI cJ [.int v] [] (fun (u : Int32) => (u = zAbs v)) (fun (u : Int32) => some (.int u)) (fun (u : Int32) => []) := by
  refine zM_i (cc := cX6_size) (maxL := 1) (r := fun (u : Int32) => u) (by decide) rfl (Nat.le_of_ble_eq_true rfl) ?_
  intro p e s m args below meth c ls A0 Q C hl hP hS hRet
  obtain ⟨⟨hx, hb, hml, hown, hts⟩, hG, hK, hD, hlocks⟩ := C
  have hl : lv_has ls 1 [(0, .int v)] := hl
  refine lv_iload_n hx hb dX6_size_0 rfl (lv_at hl 0 rfl) ?_
  refine lv_if_ge (tgt := 9) hx hb dX6_size_1 (by decide) (fun c_1 => ?_) (fun c_1 => ?_)
  · refine lv_iload_n hx hb dX6_size_9 rfl (lv_at hl 0 rfl) ?_
    exact hRet _ (v) _ _ _ (by first | exact zAbs_pos v c_1 | exact zAbs_neg v c_1) hP hS dX6_size_10
  · refine lv_iload_n hx hb dX6_size_4 rfl (lv_at hl 0 rfl) ?_
    refine lv_ineg hx hb dX6_size_5 ?_
    refine lv_goto (tgt := 10) hx hb dX6_size_6 (by decide) ?_
    exact hRet _ (-v) _ _ _ (by first | exact zAbs_pos v c_1 | exact zAbs_neg v c_1) hP hS dX6_size_10

set_option maxHeartbeats 4000000 in
set_option maxRecDepth 100000 in
theorem c_X6_keyOf (l : Launch) (D : va_G) (cI cJ : ClassId) (ob : Nat) (b1 : Nat) (b2 : Nat) (b3 : Nat) (b4 : Nat) (b5 : Nat) (bp : Nat) (bu : Nat) (bv : Nat) (bk : Nat) (bw : Nat) (n : Nat) (th : Int32) (gx : Int32) (gy : Int32) (sl : Int32) (x : Int32) (y : Int32) (h : Int32) (fd : Int32) (kd : Nat → Int32) (ln : Nat → Int32) (lo : Nat → Int32) (hi : Nat → Int32) (vl : Nat → Int32) (ps : Nat → Int32) (f1 : Nat → Int32) (f2 : Nat → Int32) (ky : Nat → Int64) (wh : Nat → Int32) (bq : Int32) (w9 : Int32) (hn : n ≤ 5) (hbq : zB3 bq) (hh : -200 ≤ (h - w9).toInt ∧ (h - w9).toInt < 200) : zM l yX6_keyOf wsX6_keyOf 1 D cI cJ [.ref ob, .int bq, .int w9] [(ob, .inr (6, [.int th, .int (nI n), .ref b1, .ref b2, .ref b3, .ref b4, .ref b5, .int gx, .int gy, .int sl, .ref bp, .int x, .int y, .int h, .ref bu, .ref bv, .int fd, .ref bk, .ref bw])), (b1, .inl (cI, 5, .inl kd)), (b2, .inl (cI, 5, .inl ln)), (b3, .inl (cI, 5, .inl lo)), (b4, .inl (cI, 5, .inl hi)), (b5, .inl (cI, 5, .inl vl)), (bp, .inl (cI, 5, .inl ps)), (bu, .inl (cI, 5, .inl f1)), (bv, .inl (cI, 5, .inl f2)), (bk, .inl (cJ, 10, .inr (.inl ky))), (bw, .inl (cI, 10, .inl wh))] (fun (u : Int64) => (u = zKm vl ps n gx gy x y h w9 bq)) (fun (u : Int64) => some (.long u)) (fun (u : Int64) => [(ob, .inr (6, [.int th, .int (nI n), .ref b1, .ref b2, .ref b3, .ref b4, .ref b5, .int gx, .int gy, .int sl, .ref bp, .int x, .int y, .int h, .ref bu, .ref bv, .int fd, .ref bk, .ref bw])), (b1, .inl (cI, 5, .inl kd)), (b2, .inl (cI, 5, .inl ln)), (b3, .inl (cI, 5, .inl lo)), (b4, .inl (cI, 5, .inl hi)), (b5, .inl (cI, 5, .inl vl)), (bp, .inl (cI, 5, .inl ps)), (bu, .inl (cI, 5, .inl f1)), (bv, .inl (cI, 5, .inl f2)), (bk, .inl (cJ, 10, .inr (.inl ky))), (bw, .inl (cI, 10, .inl wh))]) := by
  refine zM_l (cc := cX6_keyOf) (maxL := 5) (r := fun (u : Int64) => u) (by decide) rfl (Nat.le_of_ble_eq_true rfl) ?_
  intro p e s m args below meth c ls A0 Q C hl hP hS hRet
  obtain ⟨⟨hx, hb, hml, hown, hts⟩, hG, hK, hD, hlocks⟩ := C
  have hin6 : ∀ w ∈ u_ws RX6 TX6 19, w ∈ wsX6_keyOf := by decide +kernel
  have hf48 := hts (.fieldLink RX6 48 "ArmRoomModel" "joints" "I") (by decide +kernel)
  have hf29 := hts (.fieldLink RX6 29 "ArmRoomModel" "pose" "[I") (by decide +kernel)
  have hf22 := hts (.fieldLink RX6 22 "ArmRoomModel" "value" "[I") (by decide +kernel)
  have hf65 := hts (.fieldLink RX6 65 "ArmRoomModel" "heading" "I") (by decide +kernel)
  have hl : lv_has ls 5 [(0, .ref ob), (1, .int bq), (2, .int w9)] := hl
  refine lv_iload_n hx hb dX6_keyOf_0 rfl (lv_at hl 1 rfl) ?_
  refine lv_if_ne (tgt := 9) hx hb dX6_keyOf_1 (by decide) (fun c_1 => ?_) (fun c_1 => ?_)
  · refine lv_iload_n hx hb dX6_keyOf_9 rfl (lv_at hl 1 rfl) ?_
    refine lv_iconst (v := 2) hx hb dX6_keyOf_10 (by decide) ?_
    refine lv_icmp_ne (tgt := 43) hx hb dX6_keyOf_11 (by decide) (fun c_11 => ?_) (fun c_11 => ?_)
    · refine lv_iconst (v := 0) hx hb dX6_keyOf_43 (by decide) ?_
      refine lv_istore_n (lv' := [(3, .int 0), (0, .ref ob), (1, .int bq), (2, .int w9)]) hx hb dX6_keyOf_44 rfl hl (by decide) rfl (fun ls hl => ?_)
      refine lv_iconst (v := 0) hx hb dX6_keyOf_45 (by decide) ?_
      refine lv_istore (lv' := [(4, .int 0), (3, .int 0), (0, .ref ob), (1, .int bq), (2, .int w9)]) hx hb dX6_keyOf_46 hl (by decide) rfl (fun ls hl => ?_)
      have lp_48_1 : ∀ (fu : Nat) (i : Nat), (i ≤ n) → (n - i < fu) → ∀ (H : Heap) (locs : List Loc), va_P D vwCl [(ob, .inr (6, [.int th, .int (nI n), .ref b1, .ref b2, .ref b3, .ref b4, .ref b5, .int gx, .int gy, .int sl, .ref bp, .int x, .int y, .int h, .ref bu, .ref bv, .int fd, .ref bk, .ref bw])), (b1, .inl (cI, 5, .inl kd)), (b2, .inl (cI, 5, .inl ln)), (b3, .inl (cI, 5, .inl lo)), (b4, .inl (cI, 5, .inl hi)), (b5, .inl (cI, 5, .inl vl)), (bp, .inl (cI, 5, .inl ps)), (bu, .inl (cI, 5, .inl f1)), (bv, .inl (cI, 5, .inl f2)), (bk, .inl (cJ, 10, .inr (.inl ky))), (bw, .inl (cI, 10, .inl wh))] H → va_D A0 [(ob, .inr (6, [.int th, .int (nI n), .ref b1, .ref b2, .ref b3, .ref b4, .ref b5, .int gx, .int gy, .int sl, .ref bp, .int x, .int y, .int h, .ref bu, .ref bv, .int fd, .ref bk, .ref bw])), (b1, .inl (cI, 5, .inl kd)), (b2, .inl (cI, 5, .inl ln)), (b3, .inl (cI, 5, .inl lo)), (b4, .inl (cI, 5, .inl hi)), (b5, .inl (cI, 5, .inl vl)), (bp, .inl (cI, 5, .inl ps)), (bu, .inl (cI, 5, .inl f1)), (bv, .inl (cI, 5, .inl f2)), (bk, .inl (cJ, 10, .inr (.inl ky))), (bw, .inl (cI, 10, .inl wh))] → va_S A0 s.heap H locs → ∀ (ls : Array Slot), lv_has ls 5 [(0, .ref ob), (3, .int (zWy vl ps i)), (4, .int (nI i))] → W p l e (zRm 1 0 0) s m args below meth c H locs 0 0 Q (F0 m 48 ls []) := by
        intro fu
        induction fu with
        | zero => intro i hi1 hfu; exact absurd hfu (Nat.not_lt_zero _)
        | succ fu ih_48_1 =>
          intro i hi1 hfu H locs hP hD hS ls hl
          refine lv_iload hx hb dX6_keyOf_48 (lv_at hl 2 rfl) ?_
          refine lv_aload_n hx hb dX6_keyOf_50 rfl (lv_at hl 0 rfl) ?_
          refine va_get (D := D) (ci := 6) (v := .int (nI n)) (C := RX6) (T := TX6) (N := 19) hx hb hts hin6 hown hK hP 0 rfl rfl 1 (by decide) hf48 (fun _ h9 => h9) rfl dX6_keyOf_51 ?_
          refine lv_icmp_ge (tgt := 84) hx hb dX6_keyOf_54 (by decide) (fun c_54 => ?_) (fun c_54 => ?_)
          · rw [nI_leI (by omega) (by omega)] at c_54
            obtain rfl : n = i := by omega
            refine lv_iload_n hx hb dX6_keyOf_84 rfl (lv_at hl 1 rfl) ?_
            refine lv_i2l (v := (zWy vl ps n).toInt64) hx hb dX6_keyOf_85 rfl ?_
            exact hRet _ ((zWy vl ps n).toInt64) _ _ _ (by unfold zKm; rw [if_neg c_1, if_pos (hbq.elim (fun q => absurd q c_1) (fun q => q.elim id (fun q => absurd q c_11)))]) hP hS dX6_keyOf_86
          · rw [nI_leI (by omega) (by omega)] at c_54
            refine lv_iload_n hx hb dX6_keyOf_57 rfl (lv_at hl 1 rfl) ?_
            refine lv_aload_n hx hb dX6_keyOf_58 rfl (lv_at hl 0 rfl) ?_
            refine va_get (D := D) (ci := 6) (v := .ref bp) (C := RX6) (T := TX6) (N := 19) hx hb hts hin6 hown hK hP 0 rfl rfl 10 (by decide) hf29 (fun _ h9 => h9) rfl dX6_keyOf_59 ?_
            refine lv_iload hx hb dX6_keyOf_62 (lv_at hl 2 rfl) ?_
            refine z_iald hx hb hK hP 6 rfl (j := i) (by omega) (by decide) dX6_keyOf_64 ?_
            refine lv_aload_n hx hb dX6_keyOf_65 rfl (lv_at hl 0 rfl) ?_
            refine va_get (D := D) (ci := 6) (v := .ref b5) (C := RX6) (T := TX6) (N := 19) hx hb hts hin6 hown hK hP 0 rfl rfl 6 (by decide) hf22 (fun _ h9 => h9) rfl dX6_keyOf_66 ?_
            refine lv_iload hx hb dX6_keyOf_69 (lv_at hl 2 rfl) ?_
            refine z_iald hx hb hK hP 5 rfl (j := i) (by omega) (by decide) dX6_keyOf_71 ?_
            refine lv_isub hx hb dX6_keyOf_72 ?_
            refine z_callS (As := [.int ((ps i) - (vl i))]) (rest := [.int (zWy vl ps i)]) ⟨hx, hb, hml, hown, hts⟩ hG hK hP hD hS (c_X6_size l D cI cJ ((ps i) - (vl i)) ) (va_cwS 1 hts gX6_keyOf_X6_size rfl rfl rfl (by decide +kernel) ⟨Nat.le_of_ble_eq_true rfl, Nat.le_of_ble_eq_true rfl⟩) [] (by decide) rfl (fun _ => rfl) rfl hl.1 rfl (Nat.le_of_ble_eq_true rfl) dX6_keyOf_73 ⟨Nat.le_of_ble_eq_true rfl, Nat.le_of_ble_eq_true rfl⟩ (fun u_2 H locs hu_3 hP hD hS => ?_)
            obtain ⟨r_4, rfl⟩ : ∃ z, z = u_2 := ⟨_, rfl⟩
            have hu_3 : (r_4 = zAbs ((ps i) - (vl i))) := hu_3
            have e_5 := hu_3
            subst e_5
            have hP : va_P D vwCl [(ob, .inr (6, [.int th, .int (nI n), .ref b1, .ref b2, .ref b3, .ref b4, .ref b5, .int gx, .int gy, .int sl, .ref bp, .int x, .int y, .int h, .ref bu, .ref bv, .int fd, .ref bk, .ref bw])), (b1, .inl (cI, 5, .inl kd)), (b2, .inl (cI, 5, .inl ln)), (b3, .inl (cI, 5, .inl lo)), (b4, .inl (cI, 5, .inl hi)), (b5, .inl (cI, 5, .inl vl)), (bp, .inl (cI, 5, .inl ps)), (bu, .inl (cI, 5, .inl f1)), (bv, .inl (cI, 5, .inl f2)), (bk, .inl (cJ, 10, .inr (.inl ky))), (bw, .inl (cI, 10, .inl wh))] H := hP
            have hD : va_D A0 [(ob, .inr (6, [.int th, .int (nI n), .ref b1, .ref b2, .ref b3, .ref b4, .ref b5, .int gx, .int gy, .int sl, .ref bp, .int x, .int y, .int h, .ref bu, .ref bv, .int fd, .ref bk, .ref bw])), (b1, .inl (cI, 5, .inl kd)), (b2, .inl (cI, 5, .inl ln)), (b3, .inl (cI, 5, .inl lo)), (b4, .inl (cI, 5, .inl hi)), (b5, .inl (cI, 5, .inl vl)), (bp, .inl (cI, 5, .inl ps)), (bu, .inl (cI, 5, .inl f1)), (bv, .inl (cI, 5, .inl f2)), (bk, .inl (cJ, 10, .inr (.inl ky))), (bw, .inl (cI, 10, .inl wh))] := hD
            refine lv_iadd hx hb dX6_keyOf_76 ?_
            refine lv_istore_n (lv' := [(3, .int ((zWy vl ps i) + (zAbs ((ps i) - (vl i))))), (0, .ref ob), (4, .int (nI i))]) hx hb dX6_keyOf_77 rfl hl (by decide) rfl (fun ls hl => ?_)
            refine lv_iinc (v := nI (i + 1)) (lv' := [(4, .int (nI (i + 1))), (3, .int ((zWy vl ps i) + (zAbs ((ps i) - (vl i))))), (0, .ref ob)]) hx hb dX6_keyOf_78 hl (k := 2) rfl ((nI_succ _).symm) (by decide) rfl (fun ls hl => ?_)
            refine lv_goto (tgt := 48) hx hb dX6_keyOf_81 (by decide) ?_
            exact ih_48_1 (i + 1) (by first | assumption | omega | rfl | simp_all) (by omega) _ _ hP hD hS _ (lv_sub hl [2, 1, 0] rfl)
      exact lp_48_1 ((n - 0) + 1) 0 (by first | assumption | omega | rfl | simp_all) (Nat.lt_succ_self _) _ _ hP hD hS _ (lv_sub hl [2, 1, 0] rfl)
    · refine lv_aload_n hx hb dX6_keyOf_14 rfl (lv_at hl 0 rfl) ?_
      refine va_get (D := D) (ci := 6) (v := .int h) (C := RX6) (T := TX6) (N := 19) hx hb hts hin6 hown hK hP 0 rfl rfl 13 (by decide) hf65 (fun _ h9 => h9) rfl dX6_keyOf_15 ?_
      refine lv_iload_n hx hb dX6_keyOf_18 rfl (lv_at hl 2 rfl) ?_
      refine lv_isub hx hb dX6_keyOf_19 ?_
      refine z_callS (As := [.int (h - w9)]) (rest := []) ⟨hx, hb, hml, hown, hts⟩ hG hK hP hD hS (c_X6_told l D cI cJ (h - w9) (hh)) (va_cwS 1 hts gX6_keyOf_X6_told rfl rfl rfl (by decide +kernel) ⟨Nat.le_of_ble_eq_true rfl, Nat.le_of_ble_eq_true rfl⟩) [] (by decide) rfl (fun _ => rfl) rfl hl.1 rfl (Nat.le_of_ble_eq_true rfl) dX6_keyOf_20 ⟨Nat.le_of_ble_eq_true rfl, Nat.le_of_ble_eq_true rfl⟩ (fun u_6 H locs hu_7 hP hD hS => ?_)
      obtain ⟨r_8, rfl⟩ : ∃ z, z = u_6 := ⟨_, rfl⟩
      have hu_7 : (r_8 = (h - w9) &&& 63) := hu_7
      have e_9 := hu_7
      subst e_9
      have hP : va_P D vwCl [(ob, .inr (6, [.int th, .int (nI n), .ref b1, .ref b2, .ref b3, .ref b4, .ref b5, .int gx, .int gy, .int sl, .ref bp, .int x, .int y, .int h, .ref bu, .ref bv, .int fd, .ref bk, .ref bw])), (b1, .inl (cI, 5, .inl kd)), (b2, .inl (cI, 5, .inl ln)), (b3, .inl (cI, 5, .inl lo)), (b4, .inl (cI, 5, .inl hi)), (b5, .inl (cI, 5, .inl vl)), (bp, .inl (cI, 5, .inl ps)), (bu, .inl (cI, 5, .inl f1)), (bv, .inl (cI, 5, .inl f2)), (bk, .inl (cJ, 10, .inr (.inl ky))), (bw, .inl (cI, 10, .inl wh))] H := hP
      have hD : va_D A0 [(ob, .inr (6, [.int th, .int (nI n), .ref b1, .ref b2, .ref b3, .ref b4, .ref b5, .int gx, .int gy, .int sl, .ref bp, .int x, .int y, .int h, .ref bu, .ref bv, .int fd, .ref bk, .ref bw])), (b1, .inl (cI, 5, .inl kd)), (b2, .inl (cI, 5, .inl ln)), (b3, .inl (cI, 5, .inl lo)), (b4, .inl (cI, 5, .inl hi)), (b5, .inl (cI, 5, .inl vl)), (bp, .inl (cI, 5, .inl ps)), (bu, .inl (cI, 5, .inl f1)), (bv, .inl (cI, 5, .inl f2)), (bk, .inl (cJ, 10, .inr (.inl ky))), (bw, .inl (cI, 10, .inl wh))] := hD
      refine lv_istore_n (lv' := [(3, .int ((h - w9) &&& 63)), (0, .ref ob), (1, .int bq), (2, .int w9)]) hx hb dX6_keyOf_23 rfl hl (by decide) rfl (fun ls hl => ?_)
      refine lv_iload_n hx hb dX6_keyOf_24 rfl (lv_at hl 0 rfl) ?_
      refine lv_bipush (v := 64) hx hb dX6_keyOf_25 (by decide) ?_
      refine lv_iload_n hx hb dX6_keyOf_27 rfl (lv_at hl 0 rfl) ?_
      refine lv_isub hx hb dX6_keyOf_28 ?_
      refine lv_icmp_ge (tgt := 37) hx hb dX6_keyOf_29 (by decide) (fun c_29 => ?_) (fun c_29 => ?_)
      · refine lv_bipush (v := 64) hx hb dX6_keyOf_37 (by decide) ?_
        refine lv_iload_n hx hb dX6_keyOf_39 rfl (lv_at hl 0 rfl) ?_
        refine lv_isub hx hb dX6_keyOf_40 ?_
        refine lv_i2l (v := (64 - ((h - w9) &&& 63)).toInt64) hx hb dX6_keyOf_41 rfl ?_
        exact hRet _ ((64 - ((h - w9) &&& 63)).toInt64) _ _ _ (by unfold zKm; rw [if_neg c_1, c_11]; rw [if_neg (by decide), ← zHk_m]; first | rw [if_neg (Int32.not_lt.mpr c_29)] | rw [if_pos (Int32.not_le.mp c_29)]) hP hS dX6_keyOf_42
      · refine lv_iload_n hx hb dX6_keyOf_32 rfl (lv_at hl 0 rfl) ?_
        refine lv_i2l (v := ((h - w9) &&& 63).toInt64) hx hb dX6_keyOf_33 rfl ?_
        refine lv_goto (tgt := 42) hx hb dX6_keyOf_34 (by decide) ?_
        exact hRet _ (((h - w9) &&& 63).toInt64) _ _ _ (by unfold zKm; rw [if_neg c_1, c_11]; rw [if_neg (by decide), ← zHk_m]; first | rw [if_neg (Int32.not_lt.mpr c_29)] | rw [if_pos (Int32.not_le.mp c_29)]) hP hS dX6_keyOf_42
  · refine lv_aload_n hx hb dX6_keyOf_4 rfl (lv_at hl 0 rfl) ?_
    refine z_callV (As := []) (rest := []) ⟨hx, hb, hml, hown, hts⟩ hG hK hP hD hS (c_X6_farness l D cI cJ ob b1 b2 b3 b4 b5 bp bu bv bk bw n th gx gy sl x y h fd kd ln lo hi vl ps f1 f2 ky wh ) (cwV 0 hts gX6_keyOf_X6_farness rfl rfl rfl (by decide +kernel) ⟨Nat.le_of_ble_eq_true rfl, Nat.le_of_ble_eq_true rfl⟩) [0, 1, 2, 3, 4, 5, 6, 7, 8, 9, 10] (by decide) rfl (fun _ => rfl) 0 rfl rfl rfl rfl hl.1 rfl (Nat.le_of_ble_eq_true rfl) dX6_keyOf_5 ⟨Nat.le_of_ble_eq_true rfl, Nat.le_of_ble_eq_true rfl⟩ (fun u_10 H locs hu_11 hP hD hS => ?_)
    obtain ⟨r_12, rfl⟩ : ∃ z, z = u_10 := ⟨_, rfl⟩
    have hu_11 : (r_12 = zFarM gx gy x y) := hu_11
    have e_13 := hu_11
    subst e_13
    have hP : va_P D vwCl [(ob, .inr (6, [.int th, .int (nI n), .ref b1, .ref b2, .ref b3, .ref b4, .ref b5, .int gx, .int gy, .int sl, .ref bp, .int x, .int y, .int h, .ref bu, .ref bv, .int fd, .ref bk, .ref bw])), (b1, .inl (cI, 5, .inl kd)), (b2, .inl (cI, 5, .inl ln)), (b3, .inl (cI, 5, .inl lo)), (b4, .inl (cI, 5, .inl hi)), (b5, .inl (cI, 5, .inl vl)), (bp, .inl (cI, 5, .inl ps)), (bu, .inl (cI, 5, .inl f1)), (bv, .inl (cI, 5, .inl f2)), (bk, .inl (cJ, 10, .inr (.inl ky))), (bw, .inl (cI, 10, .inl wh))] H := hP
    have hD : va_D A0 [(ob, .inr (6, [.int th, .int (nI n), .ref b1, .ref b2, .ref b3, .ref b4, .ref b5, .int gx, .int gy, .int sl, .ref bp, .int x, .int y, .int h, .ref bu, .ref bv, .int fd, .ref bk, .ref bw])), (b1, .inl (cI, 5, .inl kd)), (b2, .inl (cI, 5, .inl ln)), (b3, .inl (cI, 5, .inl lo)), (b4, .inl (cI, 5, .inl hi)), (b5, .inl (cI, 5, .inl vl)), (bp, .inl (cI, 5, .inl ps)), (bu, .inl (cI, 5, .inl f1)), (bv, .inl (cI, 5, .inl f2)), (bk, .inl (cJ, 10, .inr (.inl ky))), (bw, .inl (cI, 10, .inl wh))] := hD
    exact hRet _ (zFarM gx gy x y) _ _ _ (by unfold zKm; rw [if_pos c_1]) hP hS dX6_keyOf_8

set_option maxHeartbeats 4000000 in
set_option maxRecDepth 100000 in
theorem c_X6_ranks (l : Launch) (D : va_G) (cI cJ : ClassId) (ob : Nat) (b1 : Nat) (b2 : Nat) (b3 : Nat) (b4 : Nat) (b5 : Nat) (bp : Nat) (bu : Nat) (bv : Nat) (bk : Nat) (bw : Nat) (n : Nat) (th : Int32) (gx : Int32) (gy : Int32) (sl : Int32) (x : Int32) (y : Int32) (h : Int32) (kd : Nat → Int32) (ln : Nat → Int32) (lo : Nat → Int32) (hi : Nat → Int32) (vl : Nat → Int32) (ps : Nat → Int32) (f1 : Nat → Int32) (f2 : Nat → Int32) (ky : Nat → Int64) (wh : Nat → Int32) (f : Nat) (tag : Nat) (its : Int64) (K : Nat → Int64) (T : Nat → Nat) (hf : f ≤ 40000) (hrel : zRW f K T ky wh) : zM l yX6_ranks wsX6_ranks 1 D cI cJ [.ref ob, .int (nI tag), .long its] [(ob, .inr (6, [.int th, .int (nI n), .ref b1, .ref b2, .ref b3, .ref b4, .ref b5, .int gx, .int gy, .int sl, .ref bp, .int x, .int y, .int h, .ref bu, .ref bv, .int (nI f), .ref bk, .ref bw])), (b1, .inl (cI, 5, .inl kd)), (b2, .inl (cI, 5, .inl ln)), (b3, .inl (cI, 5, .inl lo)), (b4, .inl (cI, 5, .inl hi)), (b5, .inl (cI, 5, .inl vl)), (bp, .inl (cI, 5, .inl ps)), (bu, .inl (cI, 5, .inl f1)), (bv, .inl (cI, 5, .inl f2)), (bk, .inl (cJ, 10, .inr (.inl ky))), (bw, .inl (cI, 10, .inl wh))] (fun (u : (Nat → Int64) × (Nat → Int32)) => (zRW (zIns its tag (f, K, T)).1 (zIns its tag (f, K, T)).2.1 (zIns its tag (f, K, T)).2.2 u.1 u.2)) (fun (u : (Nat → Int64) × (Nat → Int32)) => none) (fun (u : (Nat → Int64) × (Nat → Int32)) => [(ob, .inr (6, [.int th, .int (nI n), .ref b1, .ref b2, .ref b3, .ref b4, .ref b5, .int gx, .int gy, .int sl, .ref bp, .int x, .int y, .int h, .ref bu, .ref bv, .int (nI (f + 1)), .ref bk, .ref bw])), (b1, .inl (cI, 5, .inl kd)), (b2, .inl (cI, 5, .inl ln)), (b3, .inl (cI, 5, .inl lo)), (b4, .inl (cI, 5, .inl hi)), (b5, .inl (cI, 5, .inl vl)), (bp, .inl (cI, 5, .inl ps)), (bu, .inl (cI, 5, .inl f1)), (bv, .inl (cI, 5, .inl f2)), (bk, .inl (cJ, 10, .inr (.inl u.1))), (bw, .inl (cI, 10, .inl u.2))]) := by
  refine zM_v (cc := cX6_ranks) (maxL := 5) (by decide) rfl (Nat.le_of_ble_eq_true rfl) ?_
  intro p e s m args below meth c ls A0 Q C hl hP hS hRet
  obtain ⟨⟨hx, hb, hml, hown, hts⟩, hG, hK, hD, hlocks⟩ := C
  have hin6 : ∀ w ∈ u_ws RX6 TX6 19, w ∈ wsX6_ranks := by decide +kernel
  have hf127 := hts (.fieldLink RX6 127 "ArmRoomModel" "found" "I") (by decide +kernel)
  have hf38 := hts (.fieldLink RX6 38 "ArmRoomModel" "key" "[J") (by decide +kernel)
  have hf42 := hts (.fieldLink RX6 42 "ArmRoomModel" "which" "[I") (by decide +kernel)
  have hl : lv_has ls 5 [(0, .ref ob), (1, .int (nI tag)), (2, .long its)] := hl
  refine lv_aload_n hx hb dX6_ranks_0 rfl (lv_at hl 0 rfl) ?_
  refine va_get (D := D) (ci := 6) (v := .int (nI f)) (C := RX6) (T := TX6) (N := 19) hx hb hts hin6 hown hK hP 0 rfl rfl 16 (by decide) hf127 (fun _ h9 => h9) rfl dX6_ranks_1 ?_
  refine lv_bipush (v := nI 10) hx hb dX6_ranks_4 (rfl) ?_
  refine lv_icmp_ge (tgt := 16) hx hb dX6_ranks_6 (by decide) (fun c_6 => ?_) (fun c_6 => ?_)
  · rw [nI_leI (by omega) (by omega)] at c_6
    refine lv_bipush (v := nI 10) hx hb dX6_ranks_16 (rfl) ?_
    refine z_topi (y := nI (if f < 10 then f else 10)) (by first | rw [if_pos (Nat.lt_of_not_le c_6)] | rw [if_neg (Nat.not_lt.mpr c_6)]) ?_
    refine lv_istore (lv' := [(4, .int (nI (if f < 10 then f else 10))), (0, .ref ob), (1, .int (nI tag)), (2, .long its)]) hx hb dX6_ranks_18 hl (by decide) rfl (fun ls hl => ?_)
    refine lv_aload_n hx hb dX6_ranks_20 rfl (lv_at hl 1 rfl) ?_
    refine lv_dup hx hb dX6_ranks_21 rfl ?_
    refine va_get (D := D) (ci := 6) (v := .int (nI f)) (C := RX6) (T := TX6) (N := 19) hx hb hts hin6 hown hK hP 0 rfl rfl 16 (by decide) hf127 (fun _ h9 => h9) rfl dX6_ranks_22 ?_
    refine lv_iconst (v := 1) hx hb dX6_ranks_25 (by decide) ?_
    refine lv_iadd hx hb dX6_ranks_26 ?_
    refine z_topi (y := nI (f + 1)) ((nI_succ _).symm) ?_
    refine va_put (D := D) (ci := 6) (v := .int (nI (f + 1))) (ty := .int) (C := RX6) (T := TX6) (N := 19) hx hb hts hin6 tyX6 tyX6_ok nmX6 hown hK hP hD hS 0 rfl rfl 16 (by decide) hf127 (fun _ h9 => h9) rfl (by decide +kernel) rfl rfl (Nat.le_of_ble_eq_true rfl) dX6_ranks_27 (fun H locs hP hD hS => ?_)
    have hP : va_P D vwCl [(ob, .inr (6, [.int th, .int (nI n), .ref b1, .ref b2, .ref b3, .ref b4, .ref b5, .int gx, .int gy, .int sl, .ref bp, .int x, .int y, .int h, .ref bu, .ref bv, .int (nI (f + 1)), .ref bk, .ref bw])), (b1, .inl (cI, 5, .inl kd)), (b2, .inl (cI, 5, .inl ln)), (b3, .inl (cI, 5, .inl lo)), (b4, .inl (cI, 5, .inl hi)), (b5, .inl (cI, 5, .inl vl)), (bp, .inl (cI, 5, .inl ps)), (bu, .inl (cI, 5, .inl f1)), (bv, .inl (cI, 5, .inl f2)), (bk, .inl (cJ, 10, .inr (.inl ky))), (bw, .inl (cI, 10, .inl wh))] H := hP
    have hD : va_D A0 [(ob, .inr (6, [.int th, .int (nI n), .ref b1, .ref b2, .ref b3, .ref b4, .ref b5, .int gx, .int gy, .int sl, .ref bp, .int x, .int y, .int h, .ref bu, .ref bv, .int (nI (f + 1)), .ref bk, .ref bw])), (b1, .inl (cI, 5, .inl kd)), (b2, .inl (cI, 5, .inl ln)), (b3, .inl (cI, 5, .inl lo)), (b4, .inl (cI, 5, .inl hi)), (b5, .inl (cI, 5, .inl vl)), (bp, .inl (cI, 5, .inl ps)), (bu, .inl (cI, 5, .inl f1)), (bv, .inl (cI, 5, .inl f2)), (bk, .inl (cJ, 10, .inr (.inl ky))), (bw, .inl (cI, 10, .inl wh))] := hD
    have lp_30_1 : ∀ (fu : Nat) (t : Nat) (ky1 : Nat → Int64) (wh1 : Nat → Int32) (K1 : Nat → Int64) (T1 : Nat → Nat), (t ≤ 10 ∧ t ≤ f) → (zRWh (f + 1) t K1 T1 ky1 wh1) → (zDn its t K1 T1 = zDn its (if f < 10 then f else 10) K T) → (t < fu) → ∀ (H : Heap) (locs : List Loc), va_P D vwCl [(ob, .inr (6, [.int th, .int (nI n), .ref b1, .ref b2, .ref b3, .ref b4, .ref b5, .int gx, .int gy, .int sl, .ref bp, .int x, .int y, .int h, .ref bu, .ref bv, .int (nI (f + 1)), .ref bk, .ref bw])), (b1, .inl (cI, 5, .inl kd)), (b2, .inl (cI, 5, .inl ln)), (b3, .inl (cI, 5, .inl lo)), (b4, .inl (cI, 5, .inl hi)), (b5, .inl (cI, 5, .inl vl)), (bp, .inl (cI, 5, .inl ps)), (bu, .inl (cI, 5, .inl f1)), (bv, .inl (cI, 5, .inl f2)), (bk, .inl (cJ, 10, .inr (.inl ky1))), (bw, .inl (cI, 10, .inl wh1))] H → va_D A0 [(ob, .inr (6, [.int th, .int (nI n), .ref b1, .ref b2, .ref b3, .ref b4, .ref b5, .int gx, .int gy, .int sl, .ref bp, .int x, .int y, .int h, .ref bu, .ref bv, .int (nI (f + 1)), .ref bk, .ref bw])), (b1, .inl (cI, 5, .inl kd)), (b2, .inl (cI, 5, .inl ln)), (b3, .inl (cI, 5, .inl lo)), (b4, .inl (cI, 5, .inl hi)), (b5, .inl (cI, 5, .inl vl)), (bp, .inl (cI, 5, .inl ps)), (bu, .inl (cI, 5, .inl f1)), (bv, .inl (cI, 5, .inl f2)), (bk, .inl (cJ, 10, .inr (.inl ky1))), (bw, .inl (cI, 10, .inl wh1))] → va_S A0 s.heap H locs → ∀ (ls : Array Slot), lv_has ls 5 [(0, .ref ob), (1, .int (nI tag)), (2, .long its), (4, .int (nI t))] → W p l e (zRm 1 0 0) s m args below meth c H locs 0 0 Q (F0 m 30 ls []) := by
      intro fu
      induction fu with
      | zero => intro t ky1 wh1 K1 T1 ht hrel1 hz hfu; exact absurd hfu (Nat.not_lt_zero _)
      | succ fu ih_30_1 =>
        intro t ky1 wh1 K1 T1 ht hrel1 hz hfu H locs hP hD hS ls hl
        refine lv_iload hx hb dX6_ranks_30 (lv_at hl 3 rfl) ?_
        refine lv_if_le (tgt := 96) hx hb dX6_ranks_32 (by decide) (fun c_32 => ?_) (fun c_32 => ?_)
        · have c_32 := (zle0 (by omega)).mp c_32
          subst c_32
          have hz2 : zDm f its K T = (0, K1, T1) := hz.symm
          refine lv_iload hx hb dX6_ranks_96 (lv_at hl 3 rfl) ?_
          refine lv_bipush (v := nI 10) hx hb dX6_ranks_98 (rfl) ?_
          refine lv_icmp_ge (tgt := 119) hx hb dX6_ranks_100 (by decide) (fun c_100 => ?_) (fun c_100 => ?_)
          · rw [nI_leI (by omega) (by omega)] at c_100
            exact hRet _ (ky1, wh1) _ _ _ (by first | exact zRW_end (by omega) hz2 hrel1 | exact zRW_end2 (by omega) hz2 hrel1) hP hS dX6_ranks_119
          · rw [nI_leI (by omega) (by omega)] at c_100
            refine lv_aload_n hx hb dX6_ranks_103 rfl (lv_at hl 0 rfl) ?_
            refine va_get (D := D) (ci := 6) (v := .ref bk) (C := RX6) (T := TX6) (N := 19) hx hb hts hin6 hown hK hP 0 rfl rfl 17 (by decide) hf38 (fun _ h9 => h9) rfl dX6_ranks_104 ?_
            refine lv_iload hx hb dX6_ranks_107 (lv_at hl 3 rfl) ?_
            refine lv_lload_n hx hb dX6_ranks_109 rfl (lv_at hl 2 rfl) ?_
            refine z_last hx hb hK hP hD hS 9 rfl (j := 0) (by omega) (by decide) dX6_ranks_110 (fun H locs hP hD hS => ?_)
            have hP : va_P D vwCl [(ob, .inr (6, [.int th, .int (nI n), .ref b1, .ref b2, .ref b3, .ref b4, .ref b5, .int gx, .int gy, .int sl, .ref bp, .int x, .int y, .int h, .ref bu, .ref bv, .int (nI (f + 1)), .ref bk, .ref bw])), (b1, .inl (cI, 5, .inl kd)), (b2, .inl (cI, 5, .inl ln)), (b3, .inl (cI, 5, .inl lo)), (b4, .inl (cI, 5, .inl hi)), (b5, .inl (cI, 5, .inl vl)), (bp, .inl (cI, 5, .inl ps)), (bu, .inl (cI, 5, .inl f1)), (bv, .inl (cI, 5, .inl f2)), (bk, .inl (cJ, 10, .inr (.inl (vp_updL ky1 0 its)))), (bw, .inl (cI, 10, .inl wh1))] H := hP
            have hD : va_D A0 [(ob, .inr (6, [.int th, .int (nI n), .ref b1, .ref b2, .ref b3, .ref b4, .ref b5, .int gx, .int gy, .int sl, .ref bp, .int x, .int y, .int h, .ref bu, .ref bv, .int (nI (f + 1)), .ref bk, .ref bw])), (b1, .inl (cI, 5, .inl kd)), (b2, .inl (cI, 5, .inl ln)), (b3, .inl (cI, 5, .inl lo)), (b4, .inl (cI, 5, .inl hi)), (b5, .inl (cI, 5, .inl vl)), (bp, .inl (cI, 5, .inl ps)), (bu, .inl (cI, 5, .inl f1)), (bv, .inl (cI, 5, .inl f2)), (bk, .inl (cJ, 10, .inr (.inl (vp_updL ky1 0 its)))), (bw, .inl (cI, 10, .inl wh1))] := hD
            refine lv_aload_n hx hb dX6_ranks_111 rfl (lv_at hl 0 rfl) ?_
            refine va_get (D := D) (ci := 6) (v := .ref bw) (C := RX6) (T := TX6) (N := 19) hx hb hts hin6 hown hK hP 0 rfl rfl 18 (by decide) hf42 (fun _ h9 => h9) rfl dX6_ranks_112 ?_
            refine lv_iload hx hb dX6_ranks_115 (lv_at hl 3 rfl) ?_
            refine lv_iload_n hx hb dX6_ranks_117 rfl (lv_at hl 1 rfl) ?_
            refine z_iast hx hb hK hP hD hS 10 rfl (j := 0) (by omega) (by decide) dX6_ranks_118 (fun H locs hP hD hS => ?_)
            have hP : va_P D vwCl [(ob, .inr (6, [.int th, .int (nI n), .ref b1, .ref b2, .ref b3, .ref b4, .ref b5, .int gx, .int gy, .int sl, .ref bp, .int x, .int y, .int h, .ref bu, .ref bv, .int (nI (f + 1)), .ref bk, .ref bw])), (b1, .inl (cI, 5, .inl kd)), (b2, .inl (cI, 5, .inl ln)), (b3, .inl (cI, 5, .inl lo)), (b4, .inl (cI, 5, .inl hi)), (b5, .inl (cI, 5, .inl vl)), (bp, .inl (cI, 5, .inl ps)), (bu, .inl (cI, 5, .inl f1)), (bv, .inl (cI, 5, .inl f2)), (bk, .inl (cJ, 10, .inr (.inl (vp_updL ky1 0 its)))), (bw, .inl (cI, 10, .inl (upd wh1 0 (nI tag))))] H := hP
            have hD : va_D A0 [(ob, .inr (6, [.int th, .int (nI n), .ref b1, .ref b2, .ref b3, .ref b4, .ref b5, .int gx, .int gy, .int sl, .ref bp, .int x, .int y, .int h, .ref bu, .ref bv, .int (nI (f + 1)), .ref bk, .ref bw])), (b1, .inl (cI, 5, .inl kd)), (b2, .inl (cI, 5, .inl ln)), (b3, .inl (cI, 5, .inl lo)), (b4, .inl (cI, 5, .inl hi)), (b5, .inl (cI, 5, .inl vl)), (bp, .inl (cI, 5, .inl ps)), (bu, .inl (cI, 5, .inl f1)), (bv, .inl (cI, 5, .inl f2)), (bk, .inl (cJ, 10, .inr (.inl (vp_updL ky1 0 its)))), (bw, .inl (cI, 10, .inl (upd wh1 0 (nI tag))))] := hD
            exact hRet _ (vp_updL ky1 0 its, upd wh1 0 (nI tag)) _ _ _ (by first | exact zRW_end (by omega) hz2 hrel1 | exact zRW_end2 (by omega) hz2 hrel1) hP hS dX6_ranks_119
        · have c_32 : ¬ t = 0 := fun h => c_32 ((zle0 (by omega)).mpr h)
          obtain ⟨k, rfl⟩ : ∃ k, t = k + 1 := ⟨t - 1, by omega⟩
          refine lv_aload_n hx hb dX6_ranks_35 rfl (lv_at hl 0 rfl) ?_
          refine va_get (D := D) (ci := 6) (v := .ref bk) (C := RX6) (T := TX6) (N := 19) hx hb hts hin6 hown hK hP 0 rfl rfl 17 (by decide) hf38 (fun _ h9 => h9) rfl dX6_ranks_36 ?_
          refine lv_iload hx hb dX6_ranks_39 (lv_at hl 3 rfl) ?_
          refine lv_iconst (v := 1) hx hb dX6_ranks_41 (by decide) ?_
          refine lv_isub hx hb dX6_ranks_42 ?_
          refine z_topi (y := nI k) (nI_pred _) ?_
          refine z_lald hx hb hK hP 9 rfl (j := k) (by omega) (by decide) dX6_ranks_43 ?_
          refine lv_lload_n hx hb dX6_ranks_44 rfl (lv_at hl 2 rfl) ?_
          refine W.lcmp hx hb dX6_ranks_45 ?_
          refine lv_if_le (tgt := 96) hx hb dX6_ranks_46 (by decide) (fun c_46 => ?_) (fun c_46 => ?_)
          · rw [lg_cmp_le] at c_46
            have hz2 : zDm f its K T = (k + 1, K1, T1) := by rw [← zDn_no (its := its) (K := K1) (T := T1) (a := k) (by rw [← (hrel1 k (by omega) (by omega) (by omega)).1]; exact Int64.not_lt.mpr c_46)]; exact hz.symm
            refine lv_iload hx hb dX6_ranks_96 (lv_at hl 3 rfl) ?_
            refine lv_bipush (v := nI 10) hx hb dX6_ranks_98 (rfl) ?_
            refine lv_icmp_ge (tgt := 119) hx hb dX6_ranks_100 (by decide) (fun c_100 => ?_) (fun c_100 => ?_)
            · rw [nI_leI (by omega) (by omega)] at c_100
              exact hRet _ (ky1, wh1) _ _ _ (by first | exact zRW_end (by omega) hz2 hrel1 | exact zRW_end2 (by omega) hz2 hrel1) hP hS dX6_ranks_119
            · rw [nI_leI (by omega) (by omega)] at c_100
              refine lv_aload_n hx hb dX6_ranks_103 rfl (lv_at hl 0 rfl) ?_
              refine va_get (D := D) (ci := 6) (v := .ref bk) (C := RX6) (T := TX6) (N := 19) hx hb hts hin6 hown hK hP 0 rfl rfl 17 (by decide) hf38 (fun _ h9 => h9) rfl dX6_ranks_104 ?_
              refine lv_iload hx hb dX6_ranks_107 (lv_at hl 3 rfl) ?_
              refine lv_lload_n hx hb dX6_ranks_109 rfl (lv_at hl 2 rfl) ?_
              refine z_last hx hb hK hP hD hS 9 rfl (j := (k + 1)) (by omega) (by decide) dX6_ranks_110 (fun H locs hP hD hS => ?_)
              have hP : va_P D vwCl [(ob, .inr (6, [.int th, .int (nI n), .ref b1, .ref b2, .ref b3, .ref b4, .ref b5, .int gx, .int gy, .int sl, .ref bp, .int x, .int y, .int h, .ref bu, .ref bv, .int (nI (f + 1)), .ref bk, .ref bw])), (b1, .inl (cI, 5, .inl kd)), (b2, .inl (cI, 5, .inl ln)), (b3, .inl (cI, 5, .inl lo)), (b4, .inl (cI, 5, .inl hi)), (b5, .inl (cI, 5, .inl vl)), (bp, .inl (cI, 5, .inl ps)), (bu, .inl (cI, 5, .inl f1)), (bv, .inl (cI, 5, .inl f2)), (bk, .inl (cJ, 10, .inr (.inl (vp_updL ky1 (k + 1) its)))), (bw, .inl (cI, 10, .inl wh1))] H := hP
              have hD : va_D A0 [(ob, .inr (6, [.int th, .int (nI n), .ref b1, .ref b2, .ref b3, .ref b4, .ref b5, .int gx, .int gy, .int sl, .ref bp, .int x, .int y, .int h, .ref bu, .ref bv, .int (nI (f + 1)), .ref bk, .ref bw])), (b1, .inl (cI, 5, .inl kd)), (b2, .inl (cI, 5, .inl ln)), (b3, .inl (cI, 5, .inl lo)), (b4, .inl (cI, 5, .inl hi)), (b5, .inl (cI, 5, .inl vl)), (bp, .inl (cI, 5, .inl ps)), (bu, .inl (cI, 5, .inl f1)), (bv, .inl (cI, 5, .inl f2)), (bk, .inl (cJ, 10, .inr (.inl (vp_updL ky1 (k + 1) its)))), (bw, .inl (cI, 10, .inl wh1))] := hD
              refine lv_aload_n hx hb dX6_ranks_111 rfl (lv_at hl 0 rfl) ?_
              refine va_get (D := D) (ci := 6) (v := .ref bw) (C := RX6) (T := TX6) (N := 19) hx hb hts hin6 hown hK hP 0 rfl rfl 18 (by decide) hf42 (fun _ h9 => h9) rfl dX6_ranks_112 ?_
              refine lv_iload hx hb dX6_ranks_115 (lv_at hl 3 rfl) ?_
              refine lv_iload_n hx hb dX6_ranks_117 rfl (lv_at hl 1 rfl) ?_
              refine z_iast hx hb hK hP hD hS 10 rfl (j := (k + 1)) (by omega) (by decide) dX6_ranks_118 (fun H locs hP hD hS => ?_)
              have hP : va_P D vwCl [(ob, .inr (6, [.int th, .int (nI n), .ref b1, .ref b2, .ref b3, .ref b4, .ref b5, .int gx, .int gy, .int sl, .ref bp, .int x, .int y, .int h, .ref bu, .ref bv, .int (nI (f + 1)), .ref bk, .ref bw])), (b1, .inl (cI, 5, .inl kd)), (b2, .inl (cI, 5, .inl ln)), (b3, .inl (cI, 5, .inl lo)), (b4, .inl (cI, 5, .inl hi)), (b5, .inl (cI, 5, .inl vl)), (bp, .inl (cI, 5, .inl ps)), (bu, .inl (cI, 5, .inl f1)), (bv, .inl (cI, 5, .inl f2)), (bk, .inl (cJ, 10, .inr (.inl (vp_updL ky1 (k + 1) its)))), (bw, .inl (cI, 10, .inl (upd wh1 (k + 1) (nI tag))))] H := hP
              have hD : va_D A0 [(ob, .inr (6, [.int th, .int (nI n), .ref b1, .ref b2, .ref b3, .ref b4, .ref b5, .int gx, .int gy, .int sl, .ref bp, .int x, .int y, .int h, .ref bu, .ref bv, .int (nI (f + 1)), .ref bk, .ref bw])), (b1, .inl (cI, 5, .inl kd)), (b2, .inl (cI, 5, .inl ln)), (b3, .inl (cI, 5, .inl lo)), (b4, .inl (cI, 5, .inl hi)), (b5, .inl (cI, 5, .inl vl)), (bp, .inl (cI, 5, .inl ps)), (bu, .inl (cI, 5, .inl f1)), (bv, .inl (cI, 5, .inl f2)), (bk, .inl (cJ, 10, .inr (.inl (vp_updL ky1 (k + 1) its)))), (bw, .inl (cI, 10, .inl (upd wh1 (k + 1) (nI tag))))] := hD
              exact hRet _ (vp_updL ky1 (k + 1) its, upd wh1 (k + 1) (nI tag)) _ _ _ (by first | exact zRW_end (by omega) hz2 hrel1 | exact zRW_end2 (by omega) hz2 hrel1) hP hS dX6_ranks_119
          · rw [lg_cmp_le] at c_46
            refine lv_iinc (v := nI k) (lv' := [(4, .int (nI k)), (0, .ref ob), (1, .int (nI tag)), (2, .long its)]) hx hb dX6_ranks_49 hl (k := 3) rfl (pk_m1 _) (by decide) rfl (fun ls hl => ?_)
            refine lv_iload hx hb dX6_ranks_52 (lv_at hl 0 rfl) ?_
            refine lv_iconst (v := nI 1) hx hb dX6_ranks_54 (rfl) ?_
            refine lv_iadd hx hb dX6_ranks_55 ?_
            refine z_topi (y := nI (k + 1)) (nI_add _ _) ?_
            refine lv_bipush (v := nI 10) hx hb dX6_ranks_56 (rfl) ?_
            refine lv_icmp_ge (tgt := 30) hx hb dX6_ranks_58 (by decide) (fun c_58 => ?_) (fun c_58 => ?_)
            · rw [nI_leI (by omega) (by omega)] at c_58
              exact ih_30_1 k ky1 wh1 (zMvK k K1) (zMvT k T1) (by first | assumption | omega | rfl | simp_all) (by have h9 := zRWh_mv (by omega) (by omega) hrel1; rw [zMvK_n (K := ky1) (by omega), zMvW_n (by omega)] at h9; exact h9) (by rw [← hz]; exact (zDn_go (by rw [← (hrel1 k (by omega) (by omega) (by omega)).1]; exact Int64.not_le.mp c_46)).symm) (by omega) _ _ hP hD hS _ (lv_sub hl [1, 2, 3, 0] rfl)
            · rw [nI_leI (by omega) (by omega)] at c_58
              refine lv_aload_n hx hb dX6_ranks_61 rfl (lv_at hl 1 rfl) ?_
              refine va_get (D := D) (ci := 6) (v := .ref bk) (C := RX6) (T := TX6) (N := 19) hx hb hts hin6 hown hK hP 0 rfl rfl 17 (by decide) hf38 (fun _ h9 => h9) rfl dX6_ranks_62 ?_
              refine lv_iload hx hb dX6_ranks_65 (lv_at hl 0 rfl) ?_
              refine lv_iconst (v := nI 1) hx hb dX6_ranks_67 (rfl) ?_
              refine lv_iadd hx hb dX6_ranks_68 ?_
              refine z_topi (y := nI (k + 1)) (nI_add _ _) ?_
              refine lv_aload_n hx hb dX6_ranks_69 rfl (lv_at hl 1 rfl) ?_
              refine va_get (D := D) (ci := 6) (v := .ref bk) (C := RX6) (T := TX6) (N := 19) hx hb hts hin6 hown hK hP 0 rfl rfl 17 (by decide) hf38 (fun _ h9 => h9) rfl dX6_ranks_70 ?_
              refine lv_iload hx hb dX6_ranks_73 (lv_at hl 0 rfl) ?_
              refine z_lald hx hb hK hP 9 rfl (j := k) (by omega) (by decide) dX6_ranks_75 ?_
              refine z_last hx hb hK hP hD hS 9 rfl (j := (k + 1)) (by omega) (by decide) dX6_ranks_76 (fun H locs hP hD hS => ?_)
              have hP : va_P D vwCl [(ob, .inr (6, [.int th, .int (nI n), .ref b1, .ref b2, .ref b3, .ref b4, .ref b5, .int gx, .int gy, .int sl, .ref bp, .int x, .int y, .int h, .ref bu, .ref bv, .int (nI (f + 1)), .ref bk, .ref bw])), (b1, .inl (cI, 5, .inl kd)), (b2, .inl (cI, 5, .inl ln)), (b3, .inl (cI, 5, .inl lo)), (b4, .inl (cI, 5, .inl hi)), (b5, .inl (cI, 5, .inl vl)), (bp, .inl (cI, 5, .inl ps)), (bu, .inl (cI, 5, .inl f1)), (bv, .inl (cI, 5, .inl f2)), (bk, .inl (cJ, 10, .inr (.inl (vp_updL ky1 (k + 1) (ky1 k))))), (bw, .inl (cI, 10, .inl wh1))] H := hP
              have hD : va_D A0 [(ob, .inr (6, [.int th, .int (nI n), .ref b1, .ref b2, .ref b3, .ref b4, .ref b5, .int gx, .int gy, .int sl, .ref bp, .int x, .int y, .int h, .ref bu, .ref bv, .int (nI (f + 1)), .ref bk, .ref bw])), (b1, .inl (cI, 5, .inl kd)), (b2, .inl (cI, 5, .inl ln)), (b3, .inl (cI, 5, .inl lo)), (b4, .inl (cI, 5, .inl hi)), (b5, .inl (cI, 5, .inl vl)), (bp, .inl (cI, 5, .inl ps)), (bu, .inl (cI, 5, .inl f1)), (bv, .inl (cI, 5, .inl f2)), (bk, .inl (cJ, 10, .inr (.inl (vp_updL ky1 (k + 1) (ky1 k))))), (bw, .inl (cI, 10, .inl wh1))] := hD
              refine lv_aload_n hx hb dX6_ranks_77 rfl (lv_at hl 1 rfl) ?_
              refine va_get (D := D) (ci := 6) (v := .ref bw) (C := RX6) (T := TX6) (N := 19) hx hb hts hin6 hown hK hP 0 rfl rfl 18 (by decide) hf42 (fun _ h9 => h9) rfl dX6_ranks_78 ?_
              refine lv_iload hx hb dX6_ranks_81 (lv_at hl 0 rfl) ?_
              refine lv_iconst (v := nI 1) hx hb dX6_ranks_83 (rfl) ?_
              refine lv_iadd hx hb dX6_ranks_84 ?_
              refine z_topi (y := nI (k + 1)) (nI_add _ _) ?_
              refine lv_aload_n hx hb dX6_ranks_85 rfl (lv_at hl 1 rfl) ?_
              refine va_get (D := D) (ci := 6) (v := .ref bw) (C := RX6) (T := TX6) (N := 19) hx hb hts hin6 hown hK hP 0 rfl rfl 18 (by decide) hf42 (fun _ h9 => h9) rfl dX6_ranks_86 ?_
              refine lv_iload hx hb dX6_ranks_89 (lv_at hl 0 rfl) ?_
              refine z_iald hx hb hK hP 10 rfl (j := k) (by omega) (by decide) dX6_ranks_91 ?_
              refine z_iast hx hb hK hP hD hS 10 rfl (j := (k + 1)) (by omega) (by decide) dX6_ranks_92 (fun H locs hP hD hS => ?_)
              have hP : va_P D vwCl [(ob, .inr (6, [.int th, .int (nI n), .ref b1, .ref b2, .ref b3, .ref b4, .ref b5, .int gx, .int gy, .int sl, .ref bp, .int x, .int y, .int h, .ref bu, .ref bv, .int (nI (f + 1)), .ref bk, .ref bw])), (b1, .inl (cI, 5, .inl kd)), (b2, .inl (cI, 5, .inl ln)), (b3, .inl (cI, 5, .inl lo)), (b4, .inl (cI, 5, .inl hi)), (b5, .inl (cI, 5, .inl vl)), (bp, .inl (cI, 5, .inl ps)), (bu, .inl (cI, 5, .inl f1)), (bv, .inl (cI, 5, .inl f2)), (bk, .inl (cJ, 10, .inr (.inl (vp_updL ky1 (k + 1) (ky1 k))))), (bw, .inl (cI, 10, .inl (upd wh1 (k + 1) (wh1 k))))] H := hP
              have hD : va_D A0 [(ob, .inr (6, [.int th, .int (nI n), .ref b1, .ref b2, .ref b3, .ref b4, .ref b5, .int gx, .int gy, .int sl, .ref bp, .int x, .int y, .int h, .ref bu, .ref bv, .int (nI (f + 1)), .ref bk, .ref bw])), (b1, .inl (cI, 5, .inl kd)), (b2, .inl (cI, 5, .inl ln)), (b3, .inl (cI, 5, .inl lo)), (b4, .inl (cI, 5, .inl hi)), (b5, .inl (cI, 5, .inl vl)), (bp, .inl (cI, 5, .inl ps)), (bu, .inl (cI, 5, .inl f1)), (bv, .inl (cI, 5, .inl f2)), (bk, .inl (cJ, 10, .inr (.inl (vp_updL ky1 (k + 1) (ky1 k))))), (bw, .inl (cI, 10, .inl (upd wh1 (k + 1) (wh1 k))))] := hD
              refine lv_goto (tgt := 30) hx hb dX6_ranks_93 (by decide) ?_
              exact ih_30_1 k (vp_updL ky1 (k + 1) (ky1 k)) (upd wh1 (k + 1) (wh1 k)) (zMvK k K1) (zMvT k T1) (by first | assumption | omega | rfl | simp_all) (by have h9 := zRWh_mv (by omega) (by omega) hrel1; rw [zMvK_p (K := ky1) (by omega), zMvW_p (by omega)] at h9; exact h9) (by rw [← hz]; exact (zDn_go (by rw [← (hrel1 k (by omega) (by omega) (by omega)).1]; exact Int64.not_le.mp c_46)).symm) (by omega) _ _ hP hD hS _ (lv_sub hl [1, 2, 3, 0] rfl)
    exact lp_30_1 ((if f < 10 then f else 10) + 1) (if f < 10 then f else 10) ky wh K T (by split <;> omega) (zRWh_0 hrel) (rfl) (Nat.lt_succ_self _) _ _ hP hD hS _ (lv_sub hl [1, 2, 3, 0] rfl)
  · rw [nI_leI (by omega) (by omega)] at c_6
    refine lv_aload_n hx hb dX6_ranks_9 rfl (lv_at hl 0 rfl) ?_
    refine va_get (D := D) (ci := 6) (v := .int (nI f)) (C := RX6) (T := TX6) (N := 19) hx hb hts hin6 hown hK hP 0 rfl rfl 16 (by decide) hf127 (fun _ h9 => h9) rfl dX6_ranks_10 ?_
    refine lv_goto (tgt := 18) hx hb dX6_ranks_13 (by decide) ?_
    refine z_topi (y := nI (if f < 10 then f else 10)) (by first | rw [if_pos (Nat.lt_of_not_le c_6)] | rw [if_neg (Nat.not_lt.mpr c_6)]) ?_
    refine lv_istore (lv' := [(4, .int (nI (if f < 10 then f else 10))), (0, .ref ob), (1, .int (nI tag)), (2, .long its)]) hx hb dX6_ranks_18 hl (by decide) rfl (fun ls hl => ?_)
    refine lv_aload_n hx hb dX6_ranks_20 rfl (lv_at hl 1 rfl) ?_
    refine lv_dup hx hb dX6_ranks_21 rfl ?_
    refine va_get (D := D) (ci := 6) (v := .int (nI f)) (C := RX6) (T := TX6) (N := 19) hx hb hts hin6 hown hK hP 0 rfl rfl 16 (by decide) hf127 (fun _ h9 => h9) rfl dX6_ranks_22 ?_
    refine lv_iconst (v := 1) hx hb dX6_ranks_25 (by decide) ?_
    refine lv_iadd hx hb dX6_ranks_26 ?_
    refine z_topi (y := nI (f + 1)) ((nI_succ _).symm) ?_
    refine va_put (D := D) (ci := 6) (v := .int (nI (f + 1))) (ty := .int) (C := RX6) (T := TX6) (N := 19) hx hb hts hin6 tyX6 tyX6_ok nmX6 hown hK hP hD hS 0 rfl rfl 16 (by decide) hf127 (fun _ h9 => h9) rfl (by decide +kernel) rfl rfl (Nat.le_of_ble_eq_true rfl) dX6_ranks_27 (fun H locs hP hD hS => ?_)
    have hP : va_P D vwCl [(ob, .inr (6, [.int th, .int (nI n), .ref b1, .ref b2, .ref b3, .ref b4, .ref b5, .int gx, .int gy, .int sl, .ref bp, .int x, .int y, .int h, .ref bu, .ref bv, .int (nI (f + 1)), .ref bk, .ref bw])), (b1, .inl (cI, 5, .inl kd)), (b2, .inl (cI, 5, .inl ln)), (b3, .inl (cI, 5, .inl lo)), (b4, .inl (cI, 5, .inl hi)), (b5, .inl (cI, 5, .inl vl)), (bp, .inl (cI, 5, .inl ps)), (bu, .inl (cI, 5, .inl f1)), (bv, .inl (cI, 5, .inl f2)), (bk, .inl (cJ, 10, .inr (.inl ky))), (bw, .inl (cI, 10, .inl wh))] H := hP
    have hD : va_D A0 [(ob, .inr (6, [.int th, .int (nI n), .ref b1, .ref b2, .ref b3, .ref b4, .ref b5, .int gx, .int gy, .int sl, .ref bp, .int x, .int y, .int h, .ref bu, .ref bv, .int (nI (f + 1)), .ref bk, .ref bw])), (b1, .inl (cI, 5, .inl kd)), (b2, .inl (cI, 5, .inl ln)), (b3, .inl (cI, 5, .inl lo)), (b4, .inl (cI, 5, .inl hi)), (b5, .inl (cI, 5, .inl vl)), (bp, .inl (cI, 5, .inl ps)), (bu, .inl (cI, 5, .inl f1)), (bv, .inl (cI, 5, .inl f2)), (bk, .inl (cJ, 10, .inr (.inl ky))), (bw, .inl (cI, 10, .inl wh))] := hD
    have lp_30_2 : ∀ (fu : Nat) (t : Nat) (ky1 : Nat → Int64) (wh1 : Nat → Int32) (K1 : Nat → Int64) (T1 : Nat → Nat), (t ≤ 10 ∧ t ≤ f) → (zRWh (f + 1) t K1 T1 ky1 wh1) → (zDn its t K1 T1 = zDn its (if f < 10 then f else 10) K T) → (t < fu) → ∀ (H : Heap) (locs : List Loc), va_P D vwCl [(ob, .inr (6, [.int th, .int (nI n), .ref b1, .ref b2, .ref b3, .ref b4, .ref b5, .int gx, .int gy, .int sl, .ref bp, .int x, .int y, .int h, .ref bu, .ref bv, .int (nI (f + 1)), .ref bk, .ref bw])), (b1, .inl (cI, 5, .inl kd)), (b2, .inl (cI, 5, .inl ln)), (b3, .inl (cI, 5, .inl lo)), (b4, .inl (cI, 5, .inl hi)), (b5, .inl (cI, 5, .inl vl)), (bp, .inl (cI, 5, .inl ps)), (bu, .inl (cI, 5, .inl f1)), (bv, .inl (cI, 5, .inl f2)), (bk, .inl (cJ, 10, .inr (.inl ky1))), (bw, .inl (cI, 10, .inl wh1))] H → va_D A0 [(ob, .inr (6, [.int th, .int (nI n), .ref b1, .ref b2, .ref b3, .ref b4, .ref b5, .int gx, .int gy, .int sl, .ref bp, .int x, .int y, .int h, .ref bu, .ref bv, .int (nI (f + 1)), .ref bk, .ref bw])), (b1, .inl (cI, 5, .inl kd)), (b2, .inl (cI, 5, .inl ln)), (b3, .inl (cI, 5, .inl lo)), (b4, .inl (cI, 5, .inl hi)), (b5, .inl (cI, 5, .inl vl)), (bp, .inl (cI, 5, .inl ps)), (bu, .inl (cI, 5, .inl f1)), (bv, .inl (cI, 5, .inl f2)), (bk, .inl (cJ, 10, .inr (.inl ky1))), (bw, .inl (cI, 10, .inl wh1))] → va_S A0 s.heap H locs → ∀ (ls : Array Slot), lv_has ls 5 [(0, .ref ob), (1, .int (nI tag)), (2, .long its), (4, .int (nI t))] → W p l e (zRm 1 0 0) s m args below meth c H locs 0 0 Q (F0 m 30 ls []) := by
      intro fu
      induction fu with
      | zero => intro t ky1 wh1 K1 T1 ht hrel1 hz hfu; exact absurd hfu (Nat.not_lt_zero _)
      | succ fu ih_30_2 =>
        intro t ky1 wh1 K1 T1 ht hrel1 hz hfu H locs hP hD hS ls hl
        refine lv_iload hx hb dX6_ranks_30 (lv_at hl 3 rfl) ?_
        refine lv_if_le (tgt := 96) hx hb dX6_ranks_32 (by decide) (fun c_32 => ?_) (fun c_32 => ?_)
        · have c_32 := (zle0 (by omega)).mp c_32
          subst c_32
          have hz2 : zDm f its K T = (0, K1, T1) := hz.symm
          refine lv_iload hx hb dX6_ranks_96 (lv_at hl 3 rfl) ?_
          refine lv_bipush (v := nI 10) hx hb dX6_ranks_98 (rfl) ?_
          refine lv_icmp_ge (tgt := 119) hx hb dX6_ranks_100 (by decide) (fun c_100 => ?_) (fun c_100 => ?_)
          · rw [nI_leI (by omega) (by omega)] at c_100
            exact hRet _ (ky1, wh1) _ _ _ (by first | exact zRW_end (by omega) hz2 hrel1 | exact zRW_end2 (by omega) hz2 hrel1) hP hS dX6_ranks_119
          · rw [nI_leI (by omega) (by omega)] at c_100
            refine lv_aload_n hx hb dX6_ranks_103 rfl (lv_at hl 0 rfl) ?_
            refine va_get (D := D) (ci := 6) (v := .ref bk) (C := RX6) (T := TX6) (N := 19) hx hb hts hin6 hown hK hP 0 rfl rfl 17 (by decide) hf38 (fun _ h9 => h9) rfl dX6_ranks_104 ?_
            refine lv_iload hx hb dX6_ranks_107 (lv_at hl 3 rfl) ?_
            refine lv_lload_n hx hb dX6_ranks_109 rfl (lv_at hl 2 rfl) ?_
            refine z_last hx hb hK hP hD hS 9 rfl (j := 0) (by omega) (by decide) dX6_ranks_110 (fun H locs hP hD hS => ?_)
            have hP : va_P D vwCl [(ob, .inr (6, [.int th, .int (nI n), .ref b1, .ref b2, .ref b3, .ref b4, .ref b5, .int gx, .int gy, .int sl, .ref bp, .int x, .int y, .int h, .ref bu, .ref bv, .int (nI (f + 1)), .ref bk, .ref bw])), (b1, .inl (cI, 5, .inl kd)), (b2, .inl (cI, 5, .inl ln)), (b3, .inl (cI, 5, .inl lo)), (b4, .inl (cI, 5, .inl hi)), (b5, .inl (cI, 5, .inl vl)), (bp, .inl (cI, 5, .inl ps)), (bu, .inl (cI, 5, .inl f1)), (bv, .inl (cI, 5, .inl f2)), (bk, .inl (cJ, 10, .inr (.inl (vp_updL ky1 0 its)))), (bw, .inl (cI, 10, .inl wh1))] H := hP
            have hD : va_D A0 [(ob, .inr (6, [.int th, .int (nI n), .ref b1, .ref b2, .ref b3, .ref b4, .ref b5, .int gx, .int gy, .int sl, .ref bp, .int x, .int y, .int h, .ref bu, .ref bv, .int (nI (f + 1)), .ref bk, .ref bw])), (b1, .inl (cI, 5, .inl kd)), (b2, .inl (cI, 5, .inl ln)), (b3, .inl (cI, 5, .inl lo)), (b4, .inl (cI, 5, .inl hi)), (b5, .inl (cI, 5, .inl vl)), (bp, .inl (cI, 5, .inl ps)), (bu, .inl (cI, 5, .inl f1)), (bv, .inl (cI, 5, .inl f2)), (bk, .inl (cJ, 10, .inr (.inl (vp_updL ky1 0 its)))), (bw, .inl (cI, 10, .inl wh1))] := hD
            refine lv_aload_n hx hb dX6_ranks_111 rfl (lv_at hl 0 rfl) ?_
            refine va_get (D := D) (ci := 6) (v := .ref bw) (C := RX6) (T := TX6) (N := 19) hx hb hts hin6 hown hK hP 0 rfl rfl 18 (by decide) hf42 (fun _ h9 => h9) rfl dX6_ranks_112 ?_
            refine lv_iload hx hb dX6_ranks_115 (lv_at hl 3 rfl) ?_
            refine lv_iload_n hx hb dX6_ranks_117 rfl (lv_at hl 1 rfl) ?_
            refine z_iast hx hb hK hP hD hS 10 rfl (j := 0) (by omega) (by decide) dX6_ranks_118 (fun H locs hP hD hS => ?_)
            have hP : va_P D vwCl [(ob, .inr (6, [.int th, .int (nI n), .ref b1, .ref b2, .ref b3, .ref b4, .ref b5, .int gx, .int gy, .int sl, .ref bp, .int x, .int y, .int h, .ref bu, .ref bv, .int (nI (f + 1)), .ref bk, .ref bw])), (b1, .inl (cI, 5, .inl kd)), (b2, .inl (cI, 5, .inl ln)), (b3, .inl (cI, 5, .inl lo)), (b4, .inl (cI, 5, .inl hi)), (b5, .inl (cI, 5, .inl vl)), (bp, .inl (cI, 5, .inl ps)), (bu, .inl (cI, 5, .inl f1)), (bv, .inl (cI, 5, .inl f2)), (bk, .inl (cJ, 10, .inr (.inl (vp_updL ky1 0 its)))), (bw, .inl (cI, 10, .inl (upd wh1 0 (nI tag))))] H := hP
            have hD : va_D A0 [(ob, .inr (6, [.int th, .int (nI n), .ref b1, .ref b2, .ref b3, .ref b4, .ref b5, .int gx, .int gy, .int sl, .ref bp, .int x, .int y, .int h, .ref bu, .ref bv, .int (nI (f + 1)), .ref bk, .ref bw])), (b1, .inl (cI, 5, .inl kd)), (b2, .inl (cI, 5, .inl ln)), (b3, .inl (cI, 5, .inl lo)), (b4, .inl (cI, 5, .inl hi)), (b5, .inl (cI, 5, .inl vl)), (bp, .inl (cI, 5, .inl ps)), (bu, .inl (cI, 5, .inl f1)), (bv, .inl (cI, 5, .inl f2)), (bk, .inl (cJ, 10, .inr (.inl (vp_updL ky1 0 its)))), (bw, .inl (cI, 10, .inl (upd wh1 0 (nI tag))))] := hD
            exact hRet _ (vp_updL ky1 0 its, upd wh1 0 (nI tag)) _ _ _ (by first | exact zRW_end (by omega) hz2 hrel1 | exact zRW_end2 (by omega) hz2 hrel1) hP hS dX6_ranks_119
        · have c_32 : ¬ t = 0 := fun h => c_32 ((zle0 (by omega)).mpr h)
          obtain ⟨k, rfl⟩ : ∃ k, t = k + 1 := ⟨t - 1, by omega⟩
          refine lv_aload_n hx hb dX6_ranks_35 rfl (lv_at hl 0 rfl) ?_
          refine va_get (D := D) (ci := 6) (v := .ref bk) (C := RX6) (T := TX6) (N := 19) hx hb hts hin6 hown hK hP 0 rfl rfl 17 (by decide) hf38 (fun _ h9 => h9) rfl dX6_ranks_36 ?_
          refine lv_iload hx hb dX6_ranks_39 (lv_at hl 3 rfl) ?_
          refine lv_iconst (v := 1) hx hb dX6_ranks_41 (by decide) ?_
          refine lv_isub hx hb dX6_ranks_42 ?_
          refine z_topi (y := nI k) (nI_pred _) ?_
          refine z_lald hx hb hK hP 9 rfl (j := k) (by omega) (by decide) dX6_ranks_43 ?_
          refine lv_lload_n hx hb dX6_ranks_44 rfl (lv_at hl 2 rfl) ?_
          refine W.lcmp hx hb dX6_ranks_45 ?_
          refine lv_if_le (tgt := 96) hx hb dX6_ranks_46 (by decide) (fun c_46 => ?_) (fun c_46 => ?_)
          · rw [lg_cmp_le] at c_46
            have hz2 : zDm f its K T = (k + 1, K1, T1) := by rw [← zDn_no (its := its) (K := K1) (T := T1) (a := k) (by rw [← (hrel1 k (by omega) (by omega) (by omega)).1]; exact Int64.not_lt.mpr c_46)]; exact hz.symm
            refine lv_iload hx hb dX6_ranks_96 (lv_at hl 3 rfl) ?_
            refine lv_bipush (v := nI 10) hx hb dX6_ranks_98 (rfl) ?_
            refine lv_icmp_ge (tgt := 119) hx hb dX6_ranks_100 (by decide) (fun c_100 => ?_) (fun c_100 => ?_)
            · rw [nI_leI (by omega) (by omega)] at c_100
              exact hRet _ (ky1, wh1) _ _ _ (by first | exact zRW_end (by omega) hz2 hrel1 | exact zRW_end2 (by omega) hz2 hrel1) hP hS dX6_ranks_119
            · rw [nI_leI (by omega) (by omega)] at c_100
              refine lv_aload_n hx hb dX6_ranks_103 rfl (lv_at hl 0 rfl) ?_
              refine va_get (D := D) (ci := 6) (v := .ref bk) (C := RX6) (T := TX6) (N := 19) hx hb hts hin6 hown hK hP 0 rfl rfl 17 (by decide) hf38 (fun _ h9 => h9) rfl dX6_ranks_104 ?_
              refine lv_iload hx hb dX6_ranks_107 (lv_at hl 3 rfl) ?_
              refine lv_lload_n hx hb dX6_ranks_109 rfl (lv_at hl 2 rfl) ?_
              refine z_last hx hb hK hP hD hS 9 rfl (j := (k + 1)) (by omega) (by decide) dX6_ranks_110 (fun H locs hP hD hS => ?_)
              have hP : va_P D vwCl [(ob, .inr (6, [.int th, .int (nI n), .ref b1, .ref b2, .ref b3, .ref b4, .ref b5, .int gx, .int gy, .int sl, .ref bp, .int x, .int y, .int h, .ref bu, .ref bv, .int (nI (f + 1)), .ref bk, .ref bw])), (b1, .inl (cI, 5, .inl kd)), (b2, .inl (cI, 5, .inl ln)), (b3, .inl (cI, 5, .inl lo)), (b4, .inl (cI, 5, .inl hi)), (b5, .inl (cI, 5, .inl vl)), (bp, .inl (cI, 5, .inl ps)), (bu, .inl (cI, 5, .inl f1)), (bv, .inl (cI, 5, .inl f2)), (bk, .inl (cJ, 10, .inr (.inl (vp_updL ky1 (k + 1) its)))), (bw, .inl (cI, 10, .inl wh1))] H := hP
              have hD : va_D A0 [(ob, .inr (6, [.int th, .int (nI n), .ref b1, .ref b2, .ref b3, .ref b4, .ref b5, .int gx, .int gy, .int sl, .ref bp, .int x, .int y, .int h, .ref bu, .ref bv, .int (nI (f + 1)), .ref bk, .ref bw])), (b1, .inl (cI, 5, .inl kd)), (b2, .inl (cI, 5, .inl ln)), (b3, .inl (cI, 5, .inl lo)), (b4, .inl (cI, 5, .inl hi)), (b5, .inl (cI, 5, .inl vl)), (bp, .inl (cI, 5, .inl ps)), (bu, .inl (cI, 5, .inl f1)), (bv, .inl (cI, 5, .inl f2)), (bk, .inl (cJ, 10, .inr (.inl (vp_updL ky1 (k + 1) its)))), (bw, .inl (cI, 10, .inl wh1))] := hD
              refine lv_aload_n hx hb dX6_ranks_111 rfl (lv_at hl 0 rfl) ?_
              refine va_get (D := D) (ci := 6) (v := .ref bw) (C := RX6) (T := TX6) (N := 19) hx hb hts hin6 hown hK hP 0 rfl rfl 18 (by decide) hf42 (fun _ h9 => h9) rfl dX6_ranks_112 ?_
              refine lv_iload hx hb dX6_ranks_115 (lv_at hl 3 rfl) ?_
              refine lv_iload_n hx hb dX6_ranks_117 rfl (lv_at hl 1 rfl) ?_
              refine z_iast hx hb hK hP hD hS 10 rfl (j := (k + 1)) (by omega) (by decide) dX6_ranks_118 (fun H locs hP hD hS => ?_)
              have hP : va_P D vwCl [(ob, .inr (6, [.int th, .int (nI n), .ref b1, .ref b2, .ref b3, .ref b4, .ref b5, .int gx, .int gy, .int sl, .ref bp, .int x, .int y, .int h, .ref bu, .ref bv, .int (nI (f + 1)), .ref bk, .ref bw])), (b1, .inl (cI, 5, .inl kd)), (b2, .inl (cI, 5, .inl ln)), (b3, .inl (cI, 5, .inl lo)), (b4, .inl (cI, 5, .inl hi)), (b5, .inl (cI, 5, .inl vl)), (bp, .inl (cI, 5, .inl ps)), (bu, .inl (cI, 5, .inl f1)), (bv, .inl (cI, 5, .inl f2)), (bk, .inl (cJ, 10, .inr (.inl (vp_updL ky1 (k + 1) its)))), (bw, .inl (cI, 10, .inl (upd wh1 (k + 1) (nI tag))))] H := hP
              have hD : va_D A0 [(ob, .inr (6, [.int th, .int (nI n), .ref b1, .ref b2, .ref b3, .ref b4, .ref b5, .int gx, .int gy, .int sl, .ref bp, .int x, .int y, .int h, .ref bu, .ref bv, .int (nI (f + 1)), .ref bk, .ref bw])), (b1, .inl (cI, 5, .inl kd)), (b2, .inl (cI, 5, .inl ln)), (b3, .inl (cI, 5, .inl lo)), (b4, .inl (cI, 5, .inl hi)), (b5, .inl (cI, 5, .inl vl)), (bp, .inl (cI, 5, .inl ps)), (bu, .inl (cI, 5, .inl f1)), (bv, .inl (cI, 5, .inl f2)), (bk, .inl (cJ, 10, .inr (.inl (vp_updL ky1 (k + 1) its)))), (bw, .inl (cI, 10, .inl (upd wh1 (k + 1) (nI tag))))] := hD
              exact hRet _ (vp_updL ky1 (k + 1) its, upd wh1 (k + 1) (nI tag)) _ _ _ (by first | exact zRW_end (by omega) hz2 hrel1 | exact zRW_end2 (by omega) hz2 hrel1) hP hS dX6_ranks_119
          · rw [lg_cmp_le] at c_46
            refine lv_iinc (v := nI k) (lv' := [(4, .int (nI k)), (0, .ref ob), (1, .int (nI tag)), (2, .long its)]) hx hb dX6_ranks_49 hl (k := 3) rfl (pk_m1 _) (by decide) rfl (fun ls hl => ?_)
            refine lv_iload hx hb dX6_ranks_52 (lv_at hl 0 rfl) ?_
            refine lv_iconst (v := nI 1) hx hb dX6_ranks_54 (rfl) ?_
            refine lv_iadd hx hb dX6_ranks_55 ?_
            refine z_topi (y := nI (k + 1)) (nI_add _ _) ?_
            refine lv_bipush (v := nI 10) hx hb dX6_ranks_56 (rfl) ?_
            refine lv_icmp_ge (tgt := 30) hx hb dX6_ranks_58 (by decide) (fun c_58 => ?_) (fun c_58 => ?_)
            · rw [nI_leI (by omega) (by omega)] at c_58
              exact ih_30_2 k ky1 wh1 (zMvK k K1) (zMvT k T1) (by first | assumption | omega | rfl | simp_all) (by have h9 := zRWh_mv (by omega) (by omega) hrel1; rw [zMvK_n (K := ky1) (by omega), zMvW_n (by omega)] at h9; exact h9) (by rw [← hz]; exact (zDn_go (by rw [← (hrel1 k (by omega) (by omega) (by omega)).1]; exact Int64.not_le.mp c_46)).symm) (by omega) _ _ hP hD hS _ (lv_sub hl [1, 2, 3, 0] rfl)
            · rw [nI_leI (by omega) (by omega)] at c_58
              refine lv_aload_n hx hb dX6_ranks_61 rfl (lv_at hl 1 rfl) ?_
              refine va_get (D := D) (ci := 6) (v := .ref bk) (C := RX6) (T := TX6) (N := 19) hx hb hts hin6 hown hK hP 0 rfl rfl 17 (by decide) hf38 (fun _ h9 => h9) rfl dX6_ranks_62 ?_
              refine lv_iload hx hb dX6_ranks_65 (lv_at hl 0 rfl) ?_
              refine lv_iconst (v := nI 1) hx hb dX6_ranks_67 (rfl) ?_
              refine lv_iadd hx hb dX6_ranks_68 ?_
              refine z_topi (y := nI (k + 1)) (nI_add _ _) ?_
              refine lv_aload_n hx hb dX6_ranks_69 rfl (lv_at hl 1 rfl) ?_
              refine va_get (D := D) (ci := 6) (v := .ref bk) (C := RX6) (T := TX6) (N := 19) hx hb hts hin6 hown hK hP 0 rfl rfl 17 (by decide) hf38 (fun _ h9 => h9) rfl dX6_ranks_70 ?_
              refine lv_iload hx hb dX6_ranks_73 (lv_at hl 0 rfl) ?_
              refine z_lald hx hb hK hP 9 rfl (j := k) (by omega) (by decide) dX6_ranks_75 ?_
              refine z_last hx hb hK hP hD hS 9 rfl (j := (k + 1)) (by omega) (by decide) dX6_ranks_76 (fun H locs hP hD hS => ?_)
              have hP : va_P D vwCl [(ob, .inr (6, [.int th, .int (nI n), .ref b1, .ref b2, .ref b3, .ref b4, .ref b5, .int gx, .int gy, .int sl, .ref bp, .int x, .int y, .int h, .ref bu, .ref bv, .int (nI (f + 1)), .ref bk, .ref bw])), (b1, .inl (cI, 5, .inl kd)), (b2, .inl (cI, 5, .inl ln)), (b3, .inl (cI, 5, .inl lo)), (b4, .inl (cI, 5, .inl hi)), (b5, .inl (cI, 5, .inl vl)), (bp, .inl (cI, 5, .inl ps)), (bu, .inl (cI, 5, .inl f1)), (bv, .inl (cI, 5, .inl f2)), (bk, .inl (cJ, 10, .inr (.inl (vp_updL ky1 (k + 1) (ky1 k))))), (bw, .inl (cI, 10, .inl wh1))] H := hP
              have hD : va_D A0 [(ob, .inr (6, [.int th, .int (nI n), .ref b1, .ref b2, .ref b3, .ref b4, .ref b5, .int gx, .int gy, .int sl, .ref bp, .int x, .int y, .int h, .ref bu, .ref bv, .int (nI (f + 1)), .ref bk, .ref bw])), (b1, .inl (cI, 5, .inl kd)), (b2, .inl (cI, 5, .inl ln)), (b3, .inl (cI, 5, .inl lo)), (b4, .inl (cI, 5, .inl hi)), (b5, .inl (cI, 5, .inl vl)), (bp, .inl (cI, 5, .inl ps)), (bu, .inl (cI, 5, .inl f1)), (bv, .inl (cI, 5, .inl f2)), (bk, .inl (cJ, 10, .inr (.inl (vp_updL ky1 (k + 1) (ky1 k))))), (bw, .inl (cI, 10, .inl wh1))] := hD
              refine lv_aload_n hx hb dX6_ranks_77 rfl (lv_at hl 1 rfl) ?_
              refine va_get (D := D) (ci := 6) (v := .ref bw) (C := RX6) (T := TX6) (N := 19) hx hb hts hin6 hown hK hP 0 rfl rfl 18 (by decide) hf42 (fun _ h9 => h9) rfl dX6_ranks_78 ?_
              refine lv_iload hx hb dX6_ranks_81 (lv_at hl 0 rfl) ?_
              refine lv_iconst (v := nI 1) hx hb dX6_ranks_83 (rfl) ?_
              refine lv_iadd hx hb dX6_ranks_84 ?_
              refine z_topi (y := nI (k + 1)) (nI_add _ _) ?_
              refine lv_aload_n hx hb dX6_ranks_85 rfl (lv_at hl 1 rfl) ?_
              refine va_get (D := D) (ci := 6) (v := .ref bw) (C := RX6) (T := TX6) (N := 19) hx hb hts hin6 hown hK hP 0 rfl rfl 18 (by decide) hf42 (fun _ h9 => h9) rfl dX6_ranks_86 ?_
              refine lv_iload hx hb dX6_ranks_89 (lv_at hl 0 rfl) ?_
              refine z_iald hx hb hK hP 10 rfl (j := k) (by omega) (by decide) dX6_ranks_91 ?_
              refine z_iast hx hb hK hP hD hS 10 rfl (j := (k + 1)) (by omega) (by decide) dX6_ranks_92 (fun H locs hP hD hS => ?_)
              have hP : va_P D vwCl [(ob, .inr (6, [.int th, .int (nI n), .ref b1, .ref b2, .ref b3, .ref b4, .ref b5, .int gx, .int gy, .int sl, .ref bp, .int x, .int y, .int h, .ref bu, .ref bv, .int (nI (f + 1)), .ref bk, .ref bw])), (b1, .inl (cI, 5, .inl kd)), (b2, .inl (cI, 5, .inl ln)), (b3, .inl (cI, 5, .inl lo)), (b4, .inl (cI, 5, .inl hi)), (b5, .inl (cI, 5, .inl vl)), (bp, .inl (cI, 5, .inl ps)), (bu, .inl (cI, 5, .inl f1)), (bv, .inl (cI, 5, .inl f2)), (bk, .inl (cJ, 10, .inr (.inl (vp_updL ky1 (k + 1) (ky1 k))))), (bw, .inl (cI, 10, .inl (upd wh1 (k + 1) (wh1 k))))] H := hP
              have hD : va_D A0 [(ob, .inr (6, [.int th, .int (nI n), .ref b1, .ref b2, .ref b3, .ref b4, .ref b5, .int gx, .int gy, .int sl, .ref bp, .int x, .int y, .int h, .ref bu, .ref bv, .int (nI (f + 1)), .ref bk, .ref bw])), (b1, .inl (cI, 5, .inl kd)), (b2, .inl (cI, 5, .inl ln)), (b3, .inl (cI, 5, .inl lo)), (b4, .inl (cI, 5, .inl hi)), (b5, .inl (cI, 5, .inl vl)), (bp, .inl (cI, 5, .inl ps)), (bu, .inl (cI, 5, .inl f1)), (bv, .inl (cI, 5, .inl f2)), (bk, .inl (cJ, 10, .inr (.inl (vp_updL ky1 (k + 1) (ky1 k))))), (bw, .inl (cI, 10, .inl (upd wh1 (k + 1) (wh1 k))))] := hD
              refine lv_goto (tgt := 30) hx hb dX6_ranks_93 (by decide) ?_
              exact ih_30_2 k (vp_updL ky1 (k + 1) (ky1 k)) (upd wh1 (k + 1) (wh1 k)) (zMvK k K1) (zMvT k T1) (by first | assumption | omega | rfl | simp_all) (by have h9 := zRWh_mv (by omega) (by omega) hrel1; rw [zMvK_p (K := ky1) (by omega), zMvW_p (by omega)] at h9; exact h9) (by rw [← hz]; exact (zDn_go (by rw [← (hrel1 k (by omega) (by omega) (by omega)).1]; exact Int64.not_le.mp c_46)).symm) (by omega) _ _ hP hD hS _ (lv_sub hl [1, 2, 3, 0] rfl)
    exact lp_30_2 ((if f < 10 then f else 10) + 1) (if f < 10 then f else 10) ky wh K T (by split <;> omega) (zRWh_0 hrel) (rfl) (Nat.lt_succ_self _) _ _ hP hD hS _ (lv_sub hl [1, 2, 3, 0] rfl)
