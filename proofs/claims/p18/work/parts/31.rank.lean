set_option maxHeartbeats 4000000 in
set_option maxRecDepth 100000 in
theorem c_X2_clear (l : Launch) (D : va_G) (cI cJ : ClassId) (rk : Nat) (ky : Nat) (rw : Nat) (fd : Int32) (kc : Nat → Int64) (rr : Nat → Int32)  : zM l yX2_clear wsX2_clear 0 D cI cJ [.ref rk] [(rk, .inr (2, [.ref ky, .ref rw, .int fd])), (ky, .inl (cJ, 10, .inr (.inl kc))), (rw, .inl (cI, 50, .inl rr))] (fun (_ : Unit) => True) (fun (_ : Unit) => none) (fun (_ : Unit) => [(rk, .inr (2, [.ref ky, .ref rw, .int 0])), (ky, .inl (cJ, 10, .inr (.inl kc))), (rw, .inl (cI, 50, .inl rr))]) := by
  refine zM_v (cc := cX2_clear) (maxL := 1) (by decide) rfl (Nat.le_of_ble_eq_true rfl) ?_
  intro p e s m args below meth c ls A0 Q C hl hP hS hRet
  obtain ⟨⟨hx, hb, hml, hown, hts⟩, hG, hK, hD, hlocks⟩ := C
  have hin2 : ∀ w ∈ u_ws RX2 TX2 3, w ∈ wsX2_clear := by decide +kernel
  have hf19 := hts (.fieldLink RX2 19 "ArmRoom$Ranking" "found" "I") (by decide +kernel)
  have hl : lv_has ls 1 [(0, .ref rk)] := hl
  refine lv_aload_n hx hb dX2_clear_0 rfl (lv_at hl 0 rfl) ?_
  refine lv_iconst (v := 0) hx hb dX2_clear_1 (by decide) ?_
  refine va_put (D := D) (ci := 2) (v := .int 0) (ty := .int) (C := RX2) (T := TX2) (N := 3) hx hb hts hin2 tyX2 tyX2_ok nmX2 hown hK hP hD hS 0 rfl rfl 2 (by decide) hf19 (fun _ h9 => h9) rfl (by decide +kernel) rfl rfl (Nat.le_of_ble_eq_true rfl) dX2_clear_2 (fun H locs hP hD hS => ?_)
  have hP : va_P D vwCl [(rk, .inr (2, [.ref ky, .ref rw, .int 0])), (ky, .inl (cJ, 10, .inr (.inl kc))), (rw, .inl (cI, 50, .inl rr))] H := hP
  have hD : va_D A0 [(rk, .inr (2, [.ref ky, .ref rw, .int 0])), (ky, .inl (cJ, 10, .inr (.inl kc))), (rw, .inl (cI, 50, .inl rr))] := hD
  exact hRet _ () _ _ _ trivial hP hS dX2_clear_5

set_option maxHeartbeats 4000000 in
set_option maxRecDepth 100000 in
theorem c_X2_moveDown (l : Launch) (D : va_G) (cI cJ : ClassId) (rk : Nat) (ky : Nat) (rw : Nat) (fd : Int32) (kc : Nat → Int64) (rr : Nat → Int32) (k : Nat) (hk : k < 10) : zM l yX2_moveDown wsX2_moveDown 0 D cI cJ [.ref rk, .int (nI k)] [(rk, .inr (2, [.ref ky, .ref rw, .int fd])), (ky, .inl (cJ, 10, .inr (.inl kc))), (rw, .inl (cI, 50, .inl rr))] (fun (u : (Nat → Int64) × (Nat → Int32)) => (u.1 = zMvK k kc) ∧ (u.2 = zMvR k rr)) (fun (u : (Nat → Int64) × (Nat → Int32)) => none) (fun (u : (Nat → Int64) × (Nat → Int32)) => [(rk, .inr (2, [.ref ky, .ref rw, .int fd])), (ky, .inl (cJ, 10, .inr (.inl u.1))), (rw, .inl (cI, 50, .inl u.2))]) := by
  refine zM_v (cc := cX2_moveDown) (maxL := 2) (by decide) rfl (Nat.le_of_ble_eq_true rfl) ?_
  intro p e s m args below meth c ls A0 Q C hl hP hS hRet
  obtain ⟨⟨hx, hb, hml, hown, hts⟩, hG, hK, hD, hlocks⟩ := C
  have hin2 : ∀ w ∈ u_ws RX2 TX2 3, w ∈ wsX2_moveDown := by decide +kernel
  have hf9 := hts (.fieldLink RX2 9 "ArmRoom$Ranking" "keys" "[J") (by decide +kernel)
  have hf15 := hts (.fieldLink RX2 15 "ArmRoom$Ranking" "rows" "[I") (by decide +kernel)
  have hl : lv_has ls 2 [(0, .ref rk), (1, .int (nI k))] := hl
  refine lv_iload_n hx hb dX2_moveDown_0 rfl (lv_at hl 1 rfl) ?_
  refine lv_iconst (v := nI 1) hx hb dX2_moveDown_1 (rfl) ?_
  refine lv_iadd hx hb dX2_moveDown_2 ?_
  refine z_topi (y := nI (k + 1)) (nI_add _ _) ?_
  refine lv_bipush (v := nI 10) hx hb dX2_moveDown_3 (rfl) ?_
  refine lv_icmp_ge (tgt := 42) hx hb dX2_moveDown_5 (by decide) (fun c_5 => ?_) (fun c_5 => ?_)
  · rw [nI_leI (by omega) (by omega)] at c_5
    exact hRet _ (kc, rr) _ _ _ ⟨by unfold zMvK; first | rw [if_pos (by omega)] | rw [if_neg (by omega)], by unfold zMvR; first | rw [if_pos (by omega)] | rw [if_neg (by omega)]⟩ hP hS dX2_moveDown_42
  · rw [nI_leI (by omega) (by omega)] at c_5
    refine lv_aload_n hx hb dX2_moveDown_8 rfl (lv_at hl 0 rfl) ?_
    refine va_get (D := D) (ci := 2) (v := .ref ky) (C := RX2) (T := TX2) (N := 3) hx hb hts hin2 hown hK hP 0 rfl rfl 0 (by decide) hf9 (fun _ h9 => h9) rfl dX2_moveDown_9 ?_
    refine lv_iload_n hx hb dX2_moveDown_12 rfl (lv_at hl 1 rfl) ?_
    refine lv_iconst (v := nI 1) hx hb dX2_moveDown_13 (rfl) ?_
    refine lv_iadd hx hb dX2_moveDown_14 ?_
    refine z_topi (y := nI (k + 1)) (nI_add _ _) ?_
    refine lv_aload_n hx hb dX2_moveDown_15 rfl (lv_at hl 0 rfl) ?_
    refine va_get (D := D) (ci := 2) (v := .ref ky) (C := RX2) (T := TX2) (N := 3) hx hb hts hin2 hown hK hP 0 rfl rfl 0 (by decide) hf9 (fun _ h9 => h9) rfl dX2_moveDown_16 ?_
    refine lv_iload_n hx hb dX2_moveDown_19 rfl (lv_at hl 1 rfl) ?_
    refine z_lald hx hb hK hP 1 rfl (j := k) (by omega) (by decide) dX2_moveDown_20 ?_
    refine z_last hx hb hK hP hD hS 1 rfl (j := (k + 1)) (by omega) (by decide) dX2_moveDown_21 (fun H locs hP hD hS => ?_)
    have hP : va_P D vwCl [(rk, .inr (2, [.ref ky, .ref rw, .int fd])), (ky, .inl (cJ, 10, .inr (.inl (vp_updL kc (k + 1) (kc k))))), (rw, .inl (cI, 50, .inl rr))] H := hP
    have hD : va_D A0 [(rk, .inr (2, [.ref ky, .ref rw, .int fd])), (ky, .inl (cJ, 10, .inr (.inl (vp_updL kc (k + 1) (kc k))))), (rw, .inl (cI, 50, .inl rr))] := hD
    refine lv_aload_n hx hb dX2_moveDown_22 rfl (lv_at hl 0 rfl) ?_
    refine va_get (D := D) (ci := 2) (v := .ref rw) (C := RX2) (T := TX2) (N := 3) hx hb hts hin2 hown hK hP 0 rfl rfl 1 (by decide) hf15 (fun _ h9 => h9) rfl dX2_moveDown_23 ?_
    refine lv_iload_n hx hb dX2_moveDown_26 rfl (lv_at hl 1 rfl) ?_
    refine lv_iconst (v := nI 5) hx hb dX2_moveDown_27 (rfl) ?_
    refine lv_imul hx hb dX2_moveDown_28 ?_
    refine z_topi (y := nI (k * 5)) (pk_mul _ _) ?_
    refine lv_aload_n hx hb dX2_moveDown_29 rfl (lv_at hl 0 rfl) ?_
    refine va_get (D := D) (ci := 2) (v := .ref rw) (C := RX2) (T := TX2) (N := 3) hx hb hts hin2 hown hK hP 0 rfl rfl 1 (by decide) hf15 (fun _ h9 => h9) rfl dX2_moveDown_30 ?_
    refine lv_iload_n hx hb dX2_moveDown_33 rfl (lv_at hl 1 rfl) ?_
    refine lv_iconst (v := nI 1) hx hb dX2_moveDown_34 (rfl) ?_
    refine lv_iadd hx hb dX2_moveDown_35 ?_
    refine z_topi (y := nI (k + 1)) (nI_add _ _) ?_
    refine lv_iconst (v := nI 5) hx hb dX2_moveDown_36 (rfl) ?_
    refine lv_imul hx hb dX2_moveDown_37 ?_
    refine z_topi (y := nI ((k + 1) * 5)) (pk_mul _ _) ?_
    refine lv_iconst (v := nI 5) hx hb dX2_moveDown_38 (rfl) ?_
    refine z_copy (sp := (k * 5)) (dp := ((k + 1) * 5)) (n := 5) hx hb (by rw [hml]; exact hl.1.symm) hown (hts (.methodLink RX2 33 arraycopyName) (by decide +kernel)) (hts (.native arraycopyName) (by decide +kernel)) (hts (.static arraycopyName) (by decide +kernel)) (hts (.initialized "java/lang/System") (by decide +kernel)) hK hP hD hS 2 2 rfl rfl (by omega) (by omega) (by decide) (by decide) (Nat.le_of_ble_eq_true rfl) (by decide +kernel) dX2_moveDown_39 (fun H locs hP hD hS => ?_)
    have hP : va_P D vwCl [(rk, .inr (2, [.ref ky, .ref rw, .int fd])), (ky, .inl (cJ, 10, .inr (.inl (vp_updL kc (k + 1) (kc k))))), (rw, .inl (cI, 50, .inl (va_cpy rr rr (k * 5) ((k + 1) * 5) 5)))] H := hP
    have hD : va_D A0 [(rk, .inr (2, [.ref ky, .ref rw, .int fd])), (ky, .inl (cJ, 10, .inr (.inl (vp_updL kc (k + 1) (kc k))))), (rw, .inl (cI, 50, .inl (va_cpy rr rr (k * 5) ((k + 1) * 5) 5)))] := hD
    exact hRet _ (vp_updL kc (k + 1) (kc k), va_cpy rr rr (k * 5) ((k + 1) * 5) 5) _ _ _ ⟨by unfold zMvK; first | rw [if_pos (by omega)] | rw [if_neg (by omega)], by unfold zMvR; first | rw [if_pos (by omega)] | rw [if_neg (by omega)]⟩ hP hS dX2_moveDown_42

set_option maxHeartbeats 4000000 in
set_option maxRecDepth 100000 in
theorem c_X2_add (l : Launch) (D : va_G) (cI cJ : ClassId) (rk : Nat) (ky : Nat) (rw : Nat) (pa : Nat) (f : Nat) (kc : Nat → Int64) (rr : Nat → Int32) (po : Nat → Int32) (key : Int64) (n : Nat) (P : Nat → Nat → Int32) (K : Nat → Int64) (T : Nat → Nat) (tag : Nat) (hn : n ≤ 5) (hf : f ≤ 40000) (hrel : zRK n P f K T kc rr) (hpo : ∀ j, j < n → po j = P tag j) : zM l yX2_add wsX2_add 1 D cI cJ [.ref rk, .long key, .ref pa] [(rk, .inr (2, [.ref ky, .ref rw, .int (nI f)])), (ky, .inl (cJ, 10, .inr (.inl kc))), (rw, .inl (cI, 50, .inl rr)), (pa, .inl (cI, 5, .inl po))] (fun (u : (Nat → Int64) × (Nat → Int32)) => (zRK n P (zIns key tag (f, K, T)).1 (zIns key tag (f, K, T)).2.1 (zIns key tag (f, K, T)).2.2 u.1 u.2)) (fun (u : (Nat → Int64) × (Nat → Int32)) => none) (fun (u : (Nat → Int64) × (Nat → Int32)) => [(rk, .inr (2, [.ref ky, .ref rw, .int (nI (f + 1))])), (ky, .inl (cJ, 10, .inr (.inl u.1))), (rw, .inl (cI, 50, .inl u.2)), (pa, .inl (cI, 5, .inl po))]) := by
  refine zM_v (cc := cX2_add) (maxL := 5) (by decide) rfl (Nat.le_of_ble_eq_true rfl) ?_
  intro p e s m args below meth c ls A0 Q C hl hP hS hRet
  obtain ⟨⟨hx, hb, hml, hown, hts⟩, hG, hK, hD, hlocks⟩ := C
  have hin2 : ∀ w ∈ u_ws RX2 TX2 3, w ∈ wsX2_add := by decide +kernel
  have hf19 := hts (.fieldLink RX2 19 "ArmRoom$Ranking" "found" "I") (by decide +kernel)
  have hf9 := hts (.fieldLink RX2 9 "ArmRoom$Ranking" "keys" "[J") (by decide +kernel)
  have hf15 := hts (.fieldLink RX2 15 "ArmRoom$Ranking" "rows" "[I") (by decide +kernel)
  have hl : lv_has ls 5 [(0, .ref rk), (1, .long key), (3, .ref pa)] := hl
  refine lv_aload_n hx hb dX2_add_0 rfl (lv_at hl 0 rfl) ?_
  refine va_get (D := D) (ci := 2) (v := .int (nI f)) (C := RX2) (T := TX2) (N := 3) hx hb hts hin2 hown hK hP 0 rfl rfl 2 (by decide) hf19 (fun _ h9 => h9) rfl dX2_add_1 ?_
  refine lv_bipush (v := nI 10) hx hb dX2_add_4 (rfl) ?_
  refine va_mmin hx hb (by rw [hml]; exact hl.1.symm) hown (hts (.methodLink RX2 23 Lib.Math.min.name) (by decide +kernel)) (hts (.static Lib.Math.min.name) (by decide +kernel)) (hts (.initialized "java/lang/Math") (by decide +kernel)) (hts (.code Lib.Math.min.name Lib.Math.min.code 2 (some .int)) (by decide +kernel)) (Nat.le_of_ble_eq_true rfl) (Nat.le_of_ble_eq_true rfl) (Nat.le_of_ble_eq_true rfl) (Nat.le_of_ble_eq_true rfl) dX2_add_6 ?_
  refine z_topi (y := nI (if f < 10 then f else 10)) (by rw [← zmin10 (by omega : f < 2147483648)]) ?_
  refine lv_istore (lv' := [(4, .int (nI (if f < 10 then f else 10))), (0, .ref rk), (1, .long key), (3, .ref pa)]) hx hb dX2_add_9 hl (by decide) rfl (fun ls hl => ?_)
  refine lv_aload_n hx hb dX2_add_11 rfl (lv_at hl 1 rfl) ?_
  refine lv_dup hx hb dX2_add_12 rfl ?_
  refine va_get (D := D) (ci := 2) (v := .int (nI f)) (C := RX2) (T := TX2) (N := 3) hx hb hts hin2 hown hK hP 0 rfl rfl 2 (by decide) hf19 (fun _ h9 => h9) rfl dX2_add_13 ?_
  refine lv_iconst (v := 1) hx hb dX2_add_16 (by decide) ?_
  refine lv_iadd hx hb dX2_add_17 ?_
  refine z_topi (y := nI (f + 1)) ((nI_succ _).symm) ?_
  refine va_put (D := D) (ci := 2) (v := .int (nI (f + 1))) (ty := .int) (C := RX2) (T := TX2) (N := 3) hx hb hts hin2 tyX2 tyX2_ok nmX2 hown hK hP hD hS 0 rfl rfl 2 (by decide) hf19 (fun _ h9 => h9) rfl (by decide +kernel) rfl rfl (Nat.le_of_ble_eq_true rfl) dX2_add_18 (fun H locs hP hD hS => ?_)
  have hP : va_P D vwCl [(rk, .inr (2, [.ref ky, .ref rw, .int (nI (f + 1))])), (ky, .inl (cJ, 10, .inr (.inl kc))), (rw, .inl (cI, 50, .inl rr)), (pa, .inl (cI, 5, .inl po))] H := hP
  have hD : va_D A0 [(rk, .inr (2, [.ref ky, .ref rw, .int (nI (f + 1))])), (ky, .inl (cJ, 10, .inr (.inl kc))), (rw, .inl (cI, 50, .inl rr)), (pa, .inl (cI, 5, .inl po))] := hD
  have lp_21_1 : ∀ (fu : Nat) (t : Nat) (kc1 : Nat → Int64) (rr1 : Nat → Int32) (K1 : Nat → Int64) (T1 : Nat → Nat), (t ≤ 10 ∧ t ≤ f) → (zRKh n P (f + 1) t K1 T1 kc1 rr1) → (zDn key t K1 T1 = zDn key (if f < 10 then f else 10) K T) → (t < fu) → ∀ (H : Heap) (locs : List Loc), va_P D vwCl [(rk, .inr (2, [.ref ky, .ref rw, .int (nI (f + 1))])), (ky, .inl (cJ, 10, .inr (.inl kc1))), (rw, .inl (cI, 50, .inl rr1)), (pa, .inl (cI, 5, .inl po))] H → va_D A0 [(rk, .inr (2, [.ref ky, .ref rw, .int (nI (f + 1))])), (ky, .inl (cJ, 10, .inr (.inl kc1))), (rw, .inl (cI, 50, .inl rr1)), (pa, .inl (cI, 5, .inl po))] → va_S A0 s.heap H locs → ∀ (ls : Array Slot), lv_has ls 5 [(0, .ref rk), (1, .long key), (3, .ref pa), (4, .int (nI t))] → W p l e (zRm 1 0 0) s m args below meth c H locs 0 0 Q (F0 m 21 ls []) := by
    intro fu
    induction fu with
    | zero => intro t kc1 rr1 K1 T1 ht hrel1 hz hfu; exact absurd hfu (Nat.not_lt_zero _)
    | succ fu ih_21_1 =>
      intro t kc1 rr1 K1 T1 ht hrel1 hz hfu H locs hP hD hS ls hl
      refine lv_iload hx hb dX2_add_21 (lv_at hl 3 rfl) ?_
      refine lv_if_le (tgt := 52) hx hb dX2_add_23 (by decide) (fun c_23 => ?_) (fun c_23 => ?_)
      · have c_23 := (zle0 (by omega)).mp c_23
        subst c_23
        have hz2 : zDm f key K T = (0, K1, T1) := hz.symm
        refine lv_iload hx hb dX2_add_52 (lv_at hl 3 rfl) ?_
        refine lv_bipush (v := nI 10) hx hb dX2_add_54 (rfl) ?_
        refine lv_icmp_ge (tgt := 81) hx hb dX2_add_56 (by decide) (fun c_56 => ?_) (fun c_56 => ?_)
        · rw [nI_leI (by omega) (by omega)] at c_56
          exact hRet _ (kc1, rr1) _ _ _ (by first | exact zRK_end hn (by omega) hz2 hrel1 hpo | exact zRK_end2 (by omega) hz2 hrel1) hP hS dX2_add_81
        · rw [nI_leI (by omega) (by omega)] at c_56
          refine lv_aload_n hx hb dX2_add_59 rfl (lv_at hl 0 rfl) ?_
          refine va_get (D := D) (ci := 2) (v := .ref ky) (C := RX2) (T := TX2) (N := 3) hx hb hts hin2 hown hK hP 0 rfl rfl 0 (by decide) hf9 (fun _ h9 => h9) rfl dX2_add_60 ?_
          refine lv_iload hx hb dX2_add_63 (lv_at hl 3 rfl) ?_
          refine lv_lload_n hx hb dX2_add_65 rfl (lv_at hl 1 rfl) ?_
          refine z_last hx hb hK hP hD hS 1 rfl (j := 0) (by omega) (by decide) dX2_add_66 (fun H locs hP hD hS => ?_)
          have hP : va_P D vwCl [(rk, .inr (2, [.ref ky, .ref rw, .int (nI (f + 1))])), (ky, .inl (cJ, 10, .inr (.inl (vp_updL kc1 0 key)))), (rw, .inl (cI, 50, .inl rr1)), (pa, .inl (cI, 5, .inl po))] H := hP
          have hD : va_D A0 [(rk, .inr (2, [.ref ky, .ref rw, .int (nI (f + 1))])), (ky, .inl (cJ, 10, .inr (.inl (vp_updL kc1 0 key)))), (rw, .inl (cI, 50, .inl rr1)), (pa, .inl (cI, 5, .inl po))] := hD
          refine lv_aload_n hx hb dX2_add_67 rfl (lv_at hl 2 rfl) ?_
          refine lv_iconst (v := nI 0) hx hb dX2_add_68 (rfl) ?_
          refine lv_aload_n hx hb dX2_add_69 rfl (lv_at hl 0 rfl) ?_
          refine va_get (D := D) (ci := 2) (v := .ref rw) (C := RX2) (T := TX2) (N := 3) hx hb hts hin2 hown hK hP 0 rfl rfl 1 (by decide) hf15 (fun _ h9 => h9) rfl dX2_add_70 ?_
          refine lv_iload hx hb dX2_add_73 (lv_at hl 3 rfl) ?_
          refine lv_iconst (v := nI 5) hx hb dX2_add_75 (rfl) ?_
          refine lv_imul hx hb dX2_add_76 ?_
          refine z_topi (y := nI (0 * 5)) (pk_mul _ _) ?_
          refine lv_iconst (v := nI 5) hx hb dX2_add_77 (rfl) ?_
          refine z_copy (sp := 0) (dp := (0 * 5)) (n := 5) hx hb (by rw [hml]; exact hl.1.symm) hown (hts (.methodLink RX2 33 arraycopyName) (by decide +kernel)) (hts (.native arraycopyName) (by decide +kernel)) (hts (.static arraycopyName) (by decide +kernel)) (hts (.initialized "java/lang/System") (by decide +kernel)) hK hP hD hS 3 2 rfl rfl (by omega) (by omega) (by decide) (by decide) (Nat.le_of_ble_eq_true rfl) (by decide +kernel) dX2_add_78 (fun H locs hP hD hS => ?_)
          have hP : va_P D vwCl [(rk, .inr (2, [.ref ky, .ref rw, .int (nI (f + 1))])), (ky, .inl (cJ, 10, .inr (.inl (vp_updL kc1 0 key)))), (rw, .inl (cI, 50, .inl (va_cpy po rr1 0 (0 * 5) 5))), (pa, .inl (cI, 5, .inl po))] H := hP
          have hD : va_D A0 [(rk, .inr (2, [.ref ky, .ref rw, .int (nI (f + 1))])), (ky, .inl (cJ, 10, .inr (.inl (vp_updL kc1 0 key)))), (rw, .inl (cI, 50, .inl (va_cpy po rr1 0 (0 * 5) 5))), (pa, .inl (cI, 5, .inl po))] := hD
          exact hRet _ (vp_updL kc1 0 key, va_cpy po rr1 0 (0 * 5) 5) _ _ _ (by first | exact zRK_end hn (by omega) hz2 hrel1 hpo | exact zRK_end2 (by omega) hz2 hrel1) hP hS dX2_add_81
      · have c_23 : ¬ t = 0 := fun h => c_23 ((zle0 (by omega)).mpr h)
        obtain ⟨k, rfl⟩ : ∃ k, t = k + 1 := ⟨t - 1, by omega⟩
        refine lv_aload_n hx hb dX2_add_26 rfl (lv_at hl 0 rfl) ?_
        refine va_get (D := D) (ci := 2) (v := .ref ky) (C := RX2) (T := TX2) (N := 3) hx hb hts hin2 hown hK hP 0 rfl rfl 0 (by decide) hf9 (fun _ h9 => h9) rfl dX2_add_27 ?_
        refine lv_iload hx hb dX2_add_30 (lv_at hl 3 rfl) ?_
        refine lv_iconst (v := 1) hx hb dX2_add_32 (by decide) ?_
        refine lv_isub hx hb dX2_add_33 ?_
        refine z_topi (y := nI k) (nI_pred _) ?_
        refine z_lald hx hb hK hP 1 rfl (j := k) (by omega) (by decide) dX2_add_34 ?_
        refine lv_lload_n hx hb dX2_add_35 rfl (lv_at hl 1 rfl) ?_
        refine W.lcmp hx hb dX2_add_36 ?_
        refine lv_if_le (tgt := 52) hx hb dX2_add_37 (by decide) (fun c_37 => ?_) (fun c_37 => ?_)
        · rw [lg_cmp_le] at c_37
          have hz2 : zDm f key K T = (k + 1, K1, T1) := by rw [← zDn_no (its := key) (K := K1) (T := T1) (a := k) (by rw [← (hrel1 k (by omega) (by omega) (by omega)).1]; exact Int64.not_lt.mpr c_37)]; exact hz.symm
          refine lv_iload hx hb dX2_add_52 (lv_at hl 3 rfl) ?_
          refine lv_bipush (v := nI 10) hx hb dX2_add_54 (rfl) ?_
          refine lv_icmp_ge (tgt := 81) hx hb dX2_add_56 (by decide) (fun c_56 => ?_) (fun c_56 => ?_)
          · rw [nI_leI (by omega) (by omega)] at c_56
            exact hRet _ (kc1, rr1) _ _ _ (by first | exact zRK_end hn (by omega) hz2 hrel1 hpo | exact zRK_end2 (by omega) hz2 hrel1) hP hS dX2_add_81
          · rw [nI_leI (by omega) (by omega)] at c_56
            refine lv_aload_n hx hb dX2_add_59 rfl (lv_at hl 0 rfl) ?_
            refine va_get (D := D) (ci := 2) (v := .ref ky) (C := RX2) (T := TX2) (N := 3) hx hb hts hin2 hown hK hP 0 rfl rfl 0 (by decide) hf9 (fun _ h9 => h9) rfl dX2_add_60 ?_
            refine lv_iload hx hb dX2_add_63 (lv_at hl 3 rfl) ?_
            refine lv_lload_n hx hb dX2_add_65 rfl (lv_at hl 1 rfl) ?_
            refine z_last hx hb hK hP hD hS 1 rfl (j := (k + 1)) (by omega) (by decide) dX2_add_66 (fun H locs hP hD hS => ?_)
            have hP : va_P D vwCl [(rk, .inr (2, [.ref ky, .ref rw, .int (nI (f + 1))])), (ky, .inl (cJ, 10, .inr (.inl (vp_updL kc1 (k + 1) key)))), (rw, .inl (cI, 50, .inl rr1)), (pa, .inl (cI, 5, .inl po))] H := hP
            have hD : va_D A0 [(rk, .inr (2, [.ref ky, .ref rw, .int (nI (f + 1))])), (ky, .inl (cJ, 10, .inr (.inl (vp_updL kc1 (k + 1) key)))), (rw, .inl (cI, 50, .inl rr1)), (pa, .inl (cI, 5, .inl po))] := hD
            refine lv_aload_n hx hb dX2_add_67 rfl (lv_at hl 2 rfl) ?_
            refine lv_iconst (v := nI 0) hx hb dX2_add_68 (rfl) ?_
            refine lv_aload_n hx hb dX2_add_69 rfl (lv_at hl 0 rfl) ?_
            refine va_get (D := D) (ci := 2) (v := .ref rw) (C := RX2) (T := TX2) (N := 3) hx hb hts hin2 hown hK hP 0 rfl rfl 1 (by decide) hf15 (fun _ h9 => h9) rfl dX2_add_70 ?_
            refine lv_iload hx hb dX2_add_73 (lv_at hl 3 rfl) ?_
            refine lv_iconst (v := nI 5) hx hb dX2_add_75 (rfl) ?_
            refine lv_imul hx hb dX2_add_76 ?_
            refine z_topi (y := nI ((k + 1) * 5)) (pk_mul _ _) ?_
            refine lv_iconst (v := nI 5) hx hb dX2_add_77 (rfl) ?_
            refine z_copy (sp := 0) (dp := ((k + 1) * 5)) (n := 5) hx hb (by rw [hml]; exact hl.1.symm) hown (hts (.methodLink RX2 33 arraycopyName) (by decide +kernel)) (hts (.native arraycopyName) (by decide +kernel)) (hts (.static arraycopyName) (by decide +kernel)) (hts (.initialized "java/lang/System") (by decide +kernel)) hK hP hD hS 3 2 rfl rfl (by omega) (by omega) (by decide) (by decide) (Nat.le_of_ble_eq_true rfl) (by decide +kernel) dX2_add_78 (fun H locs hP hD hS => ?_)
            have hP : va_P D vwCl [(rk, .inr (2, [.ref ky, .ref rw, .int (nI (f + 1))])), (ky, .inl (cJ, 10, .inr (.inl (vp_updL kc1 (k + 1) key)))), (rw, .inl (cI, 50, .inl (va_cpy po rr1 0 ((k + 1) * 5) 5))), (pa, .inl (cI, 5, .inl po))] H := hP
            have hD : va_D A0 [(rk, .inr (2, [.ref ky, .ref rw, .int (nI (f + 1))])), (ky, .inl (cJ, 10, .inr (.inl (vp_updL kc1 (k + 1) key)))), (rw, .inl (cI, 50, .inl (va_cpy po rr1 0 ((k + 1) * 5) 5))), (pa, .inl (cI, 5, .inl po))] := hD
            exact hRet _ (vp_updL kc1 (k + 1) key, va_cpy po rr1 0 ((k + 1) * 5) 5) _ _ _ (by first | exact zRK_end hn (by omega) hz2 hrel1 hpo | exact zRK_end2 (by omega) hz2 hrel1) hP hS dX2_add_81
        · rw [lg_cmp_le] at c_37
          refine lv_iinc (v := nI k) (lv' := [(4, .int (nI k)), (0, .ref rk), (1, .long key), (3, .ref pa)]) hx hb dX2_add_40 hl (k := 3) rfl (pk_m1 _) (by decide) rfl (fun ls hl => ?_)
          refine lv_aload_n hx hb dX2_add_43 rfl (lv_at hl 1 rfl) ?_
          refine lv_iload hx hb dX2_add_44 (lv_at hl 0 rfl) ?_
          refine z_callV (As := [.int (nI k)]) (rest := []) ⟨hx, hb, hml, hown, hts⟩ hG hK hP hD hS (c_X2_moveDown l D cI cJ rk ky rw (nI (f + 1)) kc1 rr1 k (by first | assumption | omega | decide)) (cwV 1 hts gX2_add_X2_moveDown rfl rfl rfl (by decide +kernel) ⟨Nat.le_of_ble_eq_true rfl, Nat.le_of_ble_eq_true rfl⟩) [0, 1, 2] (by decide) rfl (fun _ => rfl) 0 rfl rfl rfl rfl hl.1 rfl (Nat.le_of_ble_eq_true rfl) dX2_add_46 ⟨Nat.le_of_ble_eq_true rfl, Nat.le_of_ble_eq_true rfl⟩ (fun u_2 H locs hu_3 hP hD hS => ?_)
          obtain ⟨kc2_4, rr2_5⟩ := u_2
          have hu_3 : (kc2_4 = zMvK k kc1) ∧ (rr2_5 = zMvR k rr1) := hu_3
          obtain ⟨e_6, e_7⟩ := hu_3
          subst e_6
          subst e_7
          have hP : va_P D vwCl [(rk, .inr (2, [.ref ky, .ref rw, .int (nI (f + 1))])), (ky, .inl (cJ, 10, .inr (.inl (zMvK k kc1)))), (rw, .inl (cI, 50, .inl (zMvR k rr1))), (pa, .inl (cI, 5, .inl po))] H := hP
          have hD : va_D A0 [(rk, .inr (2, [.ref ky, .ref rw, .int (nI (f + 1))])), (ky, .inl (cJ, 10, .inr (.inl (zMvK k kc1)))), (rw, .inl (cI, 50, .inl (zMvR k rr1))), (pa, .inl (cI, 5, .inl po))] := hD
          refine lv_goto (tgt := 21) hx hb dX2_add_49 (by decide) ?_
          exact ih_21_1 k (zMvK k kc1) (zMvR k rr1) (zMvK k K1) (zMvT k T1) (by first | assumption | omega | rfl | simp_all) (zRKh_mv hn (by omega) (by omega) hrel1) (by rw [← hz]; exact (zDn_go (by rw [← (hrel1 k (by omega) (by omega) (by omega)).1]; exact Int64.not_le.mp c_37)).symm) (by omega) _ _ hP hD hS _ (lv_sub hl [1, 2, 3, 0] rfl)
  exact lp_21_1 ((if f < 10 then f else 10) + 1) (if f < 10 then f else 10) kc rr K T (by split <;> omega) (zRKh_0 hrel) (rfl) (Nat.lt_succ_self _) _ _ hP hD hS _ (lv_sub hl [1, 2, 3, 0] rfl)

set_option maxHeartbeats 4000000 in
set_option maxRecDepth 100000 in
theorem c_X2_valueOf (l : Launch) (D : va_G) (cI cJ : ClassId) (rk : Nat) (ky : Nat) (rw : Nat) (fd : Int32) (kc : Nat → Int64) (rr : Nat → Int32) (k : Nat) (j : Nat) (hk : k < 10) (hj : j < 5) : zM l yX2_valueOf wsX2_valueOf 0 D cI cJ [.ref rk, .int (nI k), .int (nI j)] [(rk, .inr (2, [.ref ky, .ref rw, .int fd])), (ky, .inl (cJ, 10, .inr (.inl kc))), (rw, .inl (cI, 50, .inl rr))] (fun (u : Int32) => (u = rr (k * 5 + j))) (fun (u : Int32) => some (.int u)) (fun (u : Int32) => [(rk, .inr (2, [.ref ky, .ref rw, .int fd])), (ky, .inl (cJ, 10, .inr (.inl kc))), (rw, .inl (cI, 50, .inl rr))]) := by
  refine zM_i (cc := cX2_valueOf) (maxL := 3) (r := fun (u : Int32) => u) (by decide) rfl (Nat.le_of_ble_eq_true rfl) ?_
  intro p e s m args below meth c ls A0 Q C hl hP hS hRet
  obtain ⟨⟨hx, hb, hml, hown, hts⟩, hG, hK, hD, hlocks⟩ := C
  have hin2 : ∀ w ∈ u_ws RX2 TX2 3, w ∈ wsX2_valueOf := by decide +kernel
  have hf15 := hts (.fieldLink RX2 15 "ArmRoom$Ranking" "rows" "[I") (by decide +kernel)
  have hl : lv_has ls 3 [(0, .ref rk), (1, .int (nI k)), (2, .int (nI j))] := hl
  refine lv_aload_n hx hb dX2_valueOf_0 rfl (lv_at hl 0 rfl) ?_
  refine va_get (D := D) (ci := 2) (v := .ref rw) (C := RX2) (T := TX2) (N := 3) hx hb hts hin2 hown hK hP 0 rfl rfl 1 (by decide) hf15 (fun _ h9 => h9) rfl dX2_valueOf_1 ?_
  refine lv_iload_n hx hb dX2_valueOf_4 rfl (lv_at hl 1 rfl) ?_
  refine lv_iconst (v := nI 5) hx hb dX2_valueOf_5 (rfl) ?_
  refine lv_imul hx hb dX2_valueOf_6 ?_
  refine z_topi (y := nI (k * 5)) (pk_mul _ _) ?_
  refine lv_iload_n hx hb dX2_valueOf_7 rfl (lv_at hl 2 rfl) ?_
  refine lv_iadd hx hb dX2_valueOf_8 ?_
  refine z_topi (y := nI (k * 5 + j)) (nI_add _ _) ?_
  refine z_iald hx hb hK hP 2 rfl (j := (k * 5 + j)) (by omega) (by decide) dX2_valueOf_9 ?_
  exact hRet _ (rr (k * 5 + j)) _ _ _ (rfl) hP hS dX2_valueOf_10
