/-! the law's own methods that make nothing -/
set_option maxHeartbeats 4000000 in
set_option maxRecDepth 100000 in
theorem c_L_low (l : Launch) (D : va_G) (cI cJ : ClassId) (v : Int32) (mu : Nat) (hm : 0 < mu ∧ mu < 2 ^ 31) : zM l yL_low wsL_low 0 D cI cJ [.int v, .int (nI mu)] [] (fun (u : Int32) => (u = nI (zLw v mu))) (fun (u : Int32) => some (.int u)) (fun (u : Int32) => []) := by
  refine zM_i (cc := cL_low) (maxL := 2) (r := fun (u : Int32) => u) (by decide) rfl (Nat.le_of_ble_eq_true rfl) ?_
  intro p e s m args below meth c ls A0 Q C hl hP hS hRet
  obtain ⟨⟨hx, hb, hml, hown, hts⟩, hG, hK, hD, hlocks⟩ := C
  have hl : lv_has ls 2 [(0, .int v), (1, .int (nI mu))] := hl
  refine lv_iload_n hx hb dL_low_0 rfl (lv_at hl 0 rfl) ?_
  refine lv_iconst (v := 1) hx hb dL_low_1 (by decide) ?_
  refine lv_iushr (v := nI (v.toBitVec.toNat / 2)) hx hb dL_low_2 (zUsh v) ?_
  refine lv_iload_n hx hb dL_low_3 rfl (lv_at hl 1 rfl) ?_
  refine lv_irem hx hb dL_low_4 (nI_ne0 hm.1 hm.2) ?_
  refine z_topi (y := nI (zLw v mu)) (pk_rem (zUsh_lt v) hm.1 hm.2) ?_
  exact hRet _ (nI (zLw v mu)) _ _ _ (rfl) hP hS dL_low_5

set_option maxHeartbeats 4000000 in
set_option maxRecDepth 100000 in
theorem c_L_sine (l : Launch) (D : va_G) (cI cJ : ClassId) (d : Int32) (lt : Nat) (ft : Nat → Int32) (hT : zTt ft) : zM l yL_sine wsL_sine 0 D cI cJ [.int d, .ref lt] [(lt, .inl (cI, 17, .inl ft))] (fun (u : Int32) => (u = zsn d)) (fun (u : Int32) => some (.int u)) (fun (u : Int32) => [(lt, .inl (cI, 17, .inl ft))]) := by
  refine zM_i (cc := cL_sine) (maxL := 5) (r := fun (u : Int32) => u) (by decide) rfl (Nat.le_of_ble_eq_true rfl) ?_
  intro p e s m args below meth c ls A0 Q C hl hP hS hRet
  obtain ⟨⟨hx, hb, hml, hown, hts⟩, hG, hK, hD, hlocks⟩ := C
  have hl : lv_has ls 5 [(0, .int d), (1, .ref lt)] := hl
  obtain ⟨k, hk, ek⟩ := z63 d
  refine lv_iload_n hx hb dL_sine_0 rfl (lv_at hl 0 rfl) ?_
  refine lv_bipush (v := 63) hx hb dL_sine_1 (by decide) ?_
  refine lv_iand hx hb dL_sine_3 ?_
  refine z_topi (y := nI k) (ek) ?_
  refine lv_istore_n (lv' := [(2, .int (nI k)), (0, .int d), (1, .ref lt)]) hx hb dL_sine_4 rfl hl (by decide) rfl (fun ls hl => ?_)
  refine lv_iload_n hx hb dL_sine_5 rfl (lv_at hl 0 rfl) ?_
  refine lv_bipush (v := nI 32) hx hb dL_sine_6 (rfl) ?_
  refine lv_icmp_le (tgt := 18) hx hb dL_sine_8 (by decide) (fun c_8 => ?_) (fun c_8 => ?_)
  · rw [nI_leI (by omega) (by omega)] at c_8
    refine lv_iload_n hx hb dL_sine_18 rfl (lv_at hl 0 rfl) ?_
    refine lv_istore_n (lv' := [(3, .int (nI k)), (2, .int (nI k)), (0, .int d), (1, .ref lt)]) hx hb dL_sine_19 rfl hl (by decide) rfl (fun ls hl => ?_)
    refine lv_aload_n hx hb dL_sine_20 rfl (lv_at hl 3 rfl) ?_
    refine lv_iload_n hx hb dL_sine_21 rfl (lv_at hl 0 rfl) ?_
    refine lv_bipush (v := nI 16) hx hb dL_sine_22 (rfl) ?_
    refine lv_icmp_le (tgt := 34) hx hb dL_sine_24 (by decide) (fun c_24 => ?_) (fun c_24 => ?_)
    · rw [nI_leI (by omega) (by omega)] at c_24
      refine lv_iload_n hx hb dL_sine_34 rfl (lv_at hl 0 rfl) ?_
      refine z_iald hx hb hK hP 0 rfl (j := k) (by omega) (by decide) dL_sine_35 ?_
      refine lv_istore (lv' := [(4, .int (ft k)), (3, .int (nI k)), (2, .int (nI k)), (0, .int d), (1, .ref lt)]) hx hb dL_sine_36 hl (by decide) rfl (fun ls hl => ?_)
      refine lv_iload_n hx hb dL_sine_38 rfl (lv_at hl 2 rfl) ?_
      refine lv_bipush (v := nI 32) hx hb dL_sine_39 (rfl) ?_
      refine lv_icmp_le (tgt := 50) hx hb dL_sine_41 (by decide) (fun c_41 => ?_) (fun c_41 => ?_)
      · rw [nI_leI (by omega) (by omega)] at c_41
        refine lv_iload hx hb dL_sine_50 (lv_at hl 0 rfl) ?_
        exact hRet _ (ft k) _ _ _ (by rw [hT _ (by omega), ← zsn_63 d, ek, zsnL k hk]; first | (exfalso; omega) | (rw [if_neg (by omega), if_neg (by omega)]) | (rw [if_neg (by omega), if_pos (by omega)]) | (rw [if_pos (by omega), if_pos (by omega)]) | (rw [if_pos (by omega), if_neg (by omega)]) | (exfalso; omega)) hP hS dL_sine_52
      · rw [nI_leI (by omega) (by omega)] at c_41
        refine lv_iload hx hb dL_sine_44 (lv_at hl 0 rfl) ?_
        refine lv_ineg hx hb dL_sine_46 ?_
        refine lv_goto (tgt := 52) hx hb dL_sine_47 (by decide) ?_
        exact hRet _ (-(ft k)) _ _ _ (by rw [hT _ (by omega), ← zsn_63 d, ek, zsnL k hk]; first | (exfalso; omega) | (rw [if_neg (by omega), if_neg (by omega)]) | (rw [if_neg (by omega), if_pos (by omega)]) | (rw [if_pos (by omega), if_pos (by omega)]) | (rw [if_pos (by omega), if_neg (by omega)]) | (exfalso; omega)) hP hS dL_sine_52
    · rw [nI_leI (by omega) (by omega)] at c_24
      refine lv_bipush (v := nI 32) hx hb dL_sine_27 (rfl) ?_
      refine lv_iload_n hx hb dL_sine_29 rfl (lv_at hl 0 rfl) ?_
      refine lv_isub hx hb dL_sine_30 ?_
      refine z_topi (y := nI (32 - k)) (pk_sub (by omega)) ?_
      refine lv_goto (tgt := 35) hx hb dL_sine_31 (by decide) ?_
      refine z_iald hx hb hK hP 0 rfl (j := (32 - k)) (by omega) (by decide) dL_sine_35 ?_
      refine lv_istore (lv' := [(4, .int (ft (32 - k))), (3, .int (nI k)), (2, .int (nI k)), (0, .int d), (1, .ref lt)]) hx hb dL_sine_36 hl (by decide) rfl (fun ls hl => ?_)
      refine lv_iload_n hx hb dL_sine_38 rfl (lv_at hl 2 rfl) ?_
      refine lv_bipush (v := nI 32) hx hb dL_sine_39 (rfl) ?_
      refine lv_icmp_le (tgt := 50) hx hb dL_sine_41 (by decide) (fun c_41 => ?_) (fun c_41 => ?_)
      · rw [nI_leI (by omega) (by omega)] at c_41
        refine lv_iload hx hb dL_sine_50 (lv_at hl 0 rfl) ?_
        exact hRet _ (ft (32 - k)) _ _ _ (by rw [hT _ (by omega), ← zsn_63 d, ek, zsnL k hk]; first | (exfalso; omega) | (rw [if_neg (by omega), if_neg (by omega)]) | (rw [if_neg (by omega), if_pos (by omega)]) | (rw [if_pos (by omega), if_pos (by omega)]) | (rw [if_pos (by omega), if_neg (by omega)]) | (exfalso; omega)) hP hS dL_sine_52
      · rw [nI_leI (by omega) (by omega)] at c_41
        refine lv_iload hx hb dL_sine_44 (lv_at hl 0 rfl) ?_
        refine lv_ineg hx hb dL_sine_46 ?_
        refine lv_goto (tgt := 52) hx hb dL_sine_47 (by decide) ?_
        exact hRet _ (-(ft (32 - k))) _ _ _ (by rw [hT _ (by omega), ← zsn_63 d, ek, zsnL k hk]; first | (exfalso; omega) | (rw [if_neg (by omega), if_neg (by omega)]) | (rw [if_neg (by omega), if_pos (by omega)]) | (rw [if_pos (by omega), if_pos (by omega)]) | (rw [if_pos (by omega), if_neg (by omega)]) | (exfalso; omega)) hP hS dL_sine_52
  · rw [nI_leI (by omega) (by omega)] at c_8
    refine lv_bipush (v := nI 64) hx hb dL_sine_11 (rfl) ?_
    refine lv_iload_n hx hb dL_sine_13 rfl (lv_at hl 0 rfl) ?_
    refine lv_isub hx hb dL_sine_14 ?_
    refine z_topi (y := nI (64 - k)) (pk_sub (by omega)) ?_
    refine lv_goto (tgt := 19) hx hb dL_sine_15 (by decide) ?_
    refine lv_istore_n (lv' := [(3, .int (nI (64 - k))), (2, .int (nI k)), (0, .int d), (1, .ref lt)]) hx hb dL_sine_19 rfl hl (by decide) rfl (fun ls hl => ?_)
    refine lv_aload_n hx hb dL_sine_20 rfl (lv_at hl 3 rfl) ?_
    refine lv_iload_n hx hb dL_sine_21 rfl (lv_at hl 0 rfl) ?_
    refine lv_bipush (v := nI 16) hx hb dL_sine_22 (rfl) ?_
    refine lv_icmp_le (tgt := 34) hx hb dL_sine_24 (by decide) (fun c_24 => ?_) (fun c_24 => ?_)
    · rw [nI_leI (by omega) (by omega)] at c_24
      refine lv_iload_n hx hb dL_sine_34 rfl (lv_at hl 0 rfl) ?_
      refine z_iald hx hb hK hP 0 rfl (j := (64 - k)) (by omega) (by decide) dL_sine_35 ?_
      refine lv_istore (lv' := [(4, .int (ft (64 - k))), (3, .int (nI (64 - k))), (2, .int (nI k)), (0, .int d), (1, .ref lt)]) hx hb dL_sine_36 hl (by decide) rfl (fun ls hl => ?_)
      refine lv_iload_n hx hb dL_sine_38 rfl (lv_at hl 2 rfl) ?_
      refine lv_bipush (v := nI 32) hx hb dL_sine_39 (rfl) ?_
      refine lv_icmp_le (tgt := 50) hx hb dL_sine_41 (by decide) (fun c_41 => ?_) (fun c_41 => ?_)
      · rw [nI_leI (by omega) (by omega)] at c_41
        refine lv_iload hx hb dL_sine_50 (lv_at hl 0 rfl) ?_
        exact hRet _ (ft (64 - k)) _ _ _ (by rw [hT _ (by omega), ← zsn_63 d, ek, zsnL k hk]; first | (exfalso; omega) | (rw [if_neg (by omega), if_neg (by omega)]) | (rw [if_neg (by omega), if_pos (by omega)]) | (rw [if_pos (by omega), if_pos (by omega)]) | (rw [if_pos (by omega), if_neg (by omega)]) | (exfalso; omega)) hP hS dL_sine_52
      · rw [nI_leI (by omega) (by omega)] at c_41
        refine lv_iload hx hb dL_sine_44 (lv_at hl 0 rfl) ?_
        refine lv_ineg hx hb dL_sine_46 ?_
        refine lv_goto (tgt := 52) hx hb dL_sine_47 (by decide) ?_
        exact hRet _ (-(ft (64 - k))) _ _ _ (by rw [hT _ (by omega), ← zsn_63 d, ek, zsnL k hk]; first | (exfalso; omega) | (rw [if_neg (by omega), if_neg (by omega)]) | (rw [if_neg (by omega), if_pos (by omega)]) | (rw [if_pos (by omega), if_pos (by omega)]) | (rw [if_pos (by omega), if_neg (by omega)]) | (exfalso; omega)) hP hS dL_sine_52
    · rw [nI_leI (by omega) (by omega)] at c_24
      refine lv_bipush (v := nI 32) hx hb dL_sine_27 (rfl) ?_
      refine lv_iload_n hx hb dL_sine_29 rfl (lv_at hl 0 rfl) ?_
      refine lv_isub hx hb dL_sine_30 ?_
      refine z_topi (y := nI (32 - (64 - k))) (pk_sub (by omega)) ?_
      refine lv_goto (tgt := 35) hx hb dL_sine_31 (by decide) ?_
      refine z_iald hx hb hK hP 0 rfl (j := (32 - (64 - k))) (by omega) (by decide) dL_sine_35 ?_
      refine lv_istore (lv' := [(4, .int (ft (32 - (64 - k)))), (3, .int (nI (64 - k))), (2, .int (nI k)), (0, .int d), (1, .ref lt)]) hx hb dL_sine_36 hl (by decide) rfl (fun ls hl => ?_)
      refine lv_iload_n hx hb dL_sine_38 rfl (lv_at hl 2 rfl) ?_
      refine lv_bipush (v := nI 32) hx hb dL_sine_39 (rfl) ?_
      refine lv_icmp_le (tgt := 50) hx hb dL_sine_41 (by decide) (fun c_41 => ?_) (fun c_41 => ?_)
      · rw [nI_leI (by omega) (by omega)] at c_41
        refine lv_iload hx hb dL_sine_50 (lv_at hl 0 rfl) ?_
        exact hRet _ (ft (32 - (64 - k))) _ _ _ (by rw [hT _ (by omega), ← zsn_63 d, ek, zsnL k hk]; first | (exfalso; omega) | (rw [if_neg (by omega), if_neg (by omega)]) | (rw [if_neg (by omega), if_pos (by omega)]) | (rw [if_pos (by omega), if_pos (by omega)]) | (rw [if_pos (by omega), if_neg (by omega)]) | (exfalso; omega)) hP hS dL_sine_52
      · rw [nI_leI (by omega) (by omega)] at c_41
        refine lv_iload hx hb dL_sine_44 (lv_at hl 0 rfl) ?_
        refine lv_ineg hx hb dL_sine_46 ?_
        refine lv_goto (tgt := 52) hx hb dL_sine_47 (by decide) ?_
        exact hRet _ (-(ft (32 - (64 - k)))) _ _ _ (by rw [hT _ (by omega), ← zsn_63 d, ek, zsnL k hk]; first | (exfalso; omega) | (rw [if_neg (by omega), if_neg (by omega)]) | (rw [if_neg (by omega), if_pos (by omega)]) | (rw [if_pos (by omega), if_pos (by omega)]) | (rw [if_pos (by omega), if_neg (by omega)]) | (exfalso; omega)) hP hS dL_sine_52

set_option maxHeartbeats 4000000 in
set_option maxRecDepth 100000 in
theorem c_L_heading (l : Launch) (D : va_G) (cI cJ : ClassId) (la0 : Int32) (j : Int32) (mo : Int32) (la : Nat) (fa : Nat → Int32) (n : Nat) (kd : Nat → Int32) (ln : Nat → Int32) (lo : Nat → Int32) (hi : Nat → Int32) (vl : Nat → Int32) (mm : Nat) (hA : zAr n fa kd ln lo hi vl) (hn : n ≤ 5) (hmm : mm ≤ n) (hla : la0 = nI mm - 1) : zM l yL_heading wsL_heading 0 D cI cJ [.int la0, .int j, .int mo, .ref la] [(la, .inl (cI, 25, .inl fa))] (fun (u : Int32) => (u = zH kd (zPm vl j mo) mm)) (fun (u : Int32) => some (.int u)) (fun (u : Int32) => [(la, .inl (cI, 25, .inl fa))]) := by
  refine zM_i (cc := cL_heading) (maxL := 6) (r := fun (u : Int32) => u) (by decide) rfl (Nat.le_of_ble_eq_true rfl) ?_
  intro p e s m args below meth c ls A0 Q C hl hP hS hRet
  obtain ⟨⟨hx, hb, hml, hown, hts⟩, hG, hK, hD, hlocks⟩ := C
  have hl : lv_has ls 6 [(0, .int la0), (1, .int j), (2, .int mo), (3, .ref la)] := hl
  refine lv_iconst (v := 0) hx hb dL_heading_0 (by decide) ?_
  refine lv_istore (lv' := [(4, .int 0), (0, .int la0), (1, .int j), (2, .int mo), (3, .ref la)]) hx hb dL_heading_1 hl (by decide) rfl (fun ls hl => ?_)
  refine lv_iconst (v := 0) hx hb dL_heading_3 (by decide) ?_
  refine lv_istore (lv' := [(5, .int 0), (4, .int 0), (0, .int la0), (1, .int j), (2, .int mo), (3, .ref la)]) hx hb dL_heading_4 hl (by decide) rfl (fun ls hl => ?_)
  have lp_6_1 : ∀ (fu : Nat) (i : Nat), (i ≤ mm) → (mm - i < fu) → ∀ (H : Heap) (locs : List Loc), va_P D vwCl [(la, .inl (cI, 25, .inl fa))] H → va_D A0 [(la, .inl (cI, 25, .inl fa))] → va_S A0 s.heap H locs → ∀ (ls : Array Slot), lv_has ls 6 [(0, .int la0), (1, .int j), (2, .int mo), (3, .ref la), (4, .int (zHs kd (zPm vl j mo) i)), (5, .int (nI i))] → W p l e (zRm 0 0 0) s m args below meth c H locs 0 0 Q (F0 m 6 ls []) := by
    intro fu
    induction fu with
    | zero => intro i hi1 hfu; exact absurd hfu (Nat.not_lt_zero _)
    | succ fu ih_6_1 =>
      intro i hi1 hfu H locs hP hD hS ls hl
      refine lv_iload hx hb dL_heading_6 (lv_at hl 5 rfl) ?_
      refine lv_iload_n hx hb dL_heading_8 rfl (lv_at hl 0 rfl) ?_
      refine lv_icmp_gt (tgt := 52) hx hb dL_heading_9 (by decide) (fun c_9 => ?_) (fun c_9 => ?_)
      · rw [hla] at c_9
        have c_9 := (zlt_pred (by omega) (by omega)).mp c_9
        obtain rfl : mm = i := by omega
        refine lv_iload hx hb dL_heading_52 (lv_at hl 4 rfl) ?_
        refine lv_bipush (v := 63) hx hb dL_heading_54 (by decide) ?_
        refine lv_iand hx hb dL_heading_56 ?_
        exact hRet _ ((zHs kd (zPm vl j mo) mm) &&& 63) _ _ _ (zHs_H kd (zPm vl j mo) mm) hP hS dL_heading_57
      · rw [hla] at c_9
        have c_9 := fun h => c_9 ((zlt_pred (by omega) (by omega)).mpr h)
        have hi2 : i < mm := Nat.lt_of_not_le c_9
        refine lv_aload_n hx hb dL_heading_12 rfl (lv_at hl 3 rfl) ?_
        refine lv_iconst (v := nI 5) hx hb dL_heading_13 (rfl) ?_
        refine lv_iload hx hb dL_heading_14 (lv_at hl 5 rfl) ?_
        refine lv_imul hx hb dL_heading_16 ?_
        refine z_topi (y := nI (5 * i)) (pk_mul 5 _) ?_
        refine z_iald hx hb hK hP 0 rfl (j := (5 * i)) (by omega) (by decide) dL_heading_17 ?_
        refine z_topi (y := kd i) ((hA i (by omega)).1) ?_
        refine lv_if_ne (tgt := 46) hx hb dL_heading_18 (by decide) (fun c_18 => ?_) (fun c_18 => ?_)
        · rw [zHs_s (p := zPm vl j mo) c_18] at hl
          refine lv_iinc (v := nI (i + 1)) (lv' := [(5, .int (nI (i + 1))), (0, .int la0), (1, .int j), (2, .int mo), (3, .ref la), (4, .int (zHs kd (zPm vl j mo) (i + 1)))]) hx hb dL_heading_46 hl (k := 5) rfl ((nI_succ _).symm) (by decide) rfl (fun ls hl => ?_)
          refine lv_goto (tgt := 6) hx hb dL_heading_49 (by decide) ?_
          exact ih_6_1 (i + 1) (by first | assumption | omega | rfl | simp_all) (by omega) _ _ hP hD hS _ (lv_sub hl [1, 2, 3, 4, 5, 0] rfl)
        · refine lv_iload hx hb dL_heading_21 (lv_at hl 4 rfl) ?_
          refine lv_aload_n hx hb dL_heading_23 rfl (lv_at hl 3 rfl) ?_
          refine lv_iconst (v := nI 5) hx hb dL_heading_24 (rfl) ?_
          refine lv_iload hx hb dL_heading_25 (lv_at hl 5 rfl) ?_
          refine lv_imul hx hb dL_heading_27 ?_
          refine z_topi (y := nI (5 * i)) (pk_mul 5 _) ?_
          refine lv_iconst (v := nI 4) hx hb dL_heading_28 (rfl) ?_
          refine lv_iadd hx hb dL_heading_29 ?_
          refine z_topi (y := nI (5 * i + 4)) (nI_add _ _) ?_
          refine z_iald hx hb hK hP 0 rfl (j := (5 * i + 4)) (by omega) (by decide) dL_heading_30 ?_
          refine z_topi (y := vl i) ((hA i (by omega)).2.2.2.2) ?_
          refine lv_iload hx hb dL_heading_31 (lv_at hl 5 rfl) ?_
          refine lv_iload_n hx hb dL_heading_33 rfl (lv_at hl 1 rfl) ?_
          refine lv_icmp_ne (tgt := 41) hx hb dL_heading_34 (by decide) (fun c_34 => ?_) (fun c_34 => ?_)
          · refine lv_iconst (v := 0) hx hb dL_heading_41 (by decide) ?_
            refine lv_iadd hx hb dL_heading_42 ?_
            refine z_topi (y := zPm vl j mo i) (by first | exact zPm_t c_34 | exact zPm_f c_34) ?_
            refine lv_iadd hx hb dL_heading_43 ?_
            refine z_topi (y := zHs kd (zPm vl j mo) (i + 1)) (zHs_t c_18) ?_
            refine lv_istore (lv' := [(4, .int (zHs kd (zPm vl j mo) (i + 1))), (0, .int la0), (1, .int j), (2, .int mo), (3, .ref la), (5, .int (nI i))]) hx hb dL_heading_44 hl (by decide) rfl (fun ls hl => ?_)
            refine lv_iinc (v := nI (i + 1)) (lv' := [(5, .int (nI (i + 1))), (4, .int (zHs kd (zPm vl j mo) (i + 1))), (0, .int la0), (1, .int j), (2, .int mo), (3, .ref la)]) hx hb dL_heading_46 hl (k := 5) rfl ((nI_succ _).symm) (by decide) rfl (fun ls hl => ?_)
            refine lv_goto (tgt := 6) hx hb dL_heading_49 (by decide) ?_
            exact ih_6_1 (i + 1) (by first | assumption | omega | rfl | simp_all) (by omega) _ _ hP hD hS _ (lv_sub hl [2, 3, 4, 5, 1, 0] rfl)
          · refine lv_iload_n hx hb dL_heading_37 rfl (lv_at hl 2 rfl) ?_
            refine lv_goto (tgt := 42) hx hb dL_heading_38 (by decide) ?_
            refine lv_iadd hx hb dL_heading_42 ?_
            refine z_topi (y := zPm vl j mo i) (by first | exact zPm_t c_34 | exact zPm_f c_34) ?_
            refine lv_iadd hx hb dL_heading_43 ?_
            refine z_topi (y := zHs kd (zPm vl j mo) (i + 1)) (zHs_t c_18) ?_
            refine lv_istore (lv' := [(4, .int (zHs kd (zPm vl j mo) (i + 1))), (0, .int la0), (1, .int j), (2, .int mo), (3, .ref la), (5, .int (nI i))]) hx hb dL_heading_44 hl (by decide) rfl (fun ls hl => ?_)
            refine lv_iinc (v := nI (i + 1)) (lv' := [(5, .int (nI (i + 1))), (4, .int (zHs kd (zPm vl j mo) (i + 1))), (0, .int la0), (1, .int j), (2, .int mo), (3, .ref la)]) hx hb dL_heading_46 hl (k := 5) rfl ((nI_succ _).symm) (by decide) rfl (fun ls hl => ?_)
            refine lv_goto (tgt := 6) hx hb dL_heading_49 (by decide) ?_
            exact ih_6_1 (i + 1) (by first | assumption | omega | rfl | simp_all) (by omega) _ _ hP hD hS _ (lv_sub hl [2, 3, 4, 5, 1, 0] rfl)
  exact lp_6_1 ((mm - 0) + 1) 0 (by first | assumption | omega | rfl | simp_all) (Nat.lt_succ_self _) _ _ hP hD hS _ (lv_sub hl [2, 3, 4, 5, 1, 0] rfl)

set_option maxHeartbeats 4000000 in
set_option maxRecDepth 100000 in
theorem c_L_tips (l : Launch) (D : va_G) (cI cJ : ClassId) (bx : Int32) (j : Int32) (mo : Int32) (la : Nat) (fa : Nat → Int32) (lg : Nat) (fg : Nat → Int32) (lt : Nat) (ft : Nat → Int32) (n : Nat) (kd : Nat → Int32) (ln : Nat → Int32) (lo : Nat → Int32) (hi : Nat → Int32) (vl : Nat → Int32) (gx : Int32) (gy : Int32) (sl : Int32) (hA : zAr n fa kd ln lo hi vl) (hGs : zGs fg n gx gy sl) (hT : zTt ft) (hkd : zKd n kd) (hn : n ≤ 5) : zM l yL_tips wsL_tips 1 D cI cJ [.int bx, .int j, .int mo, .ref la, .ref lg, .ref lt] [(la, .inl (cI, 25, .inl fa)), (lg, .inl (cI, 4, .inl fg)), (lt, .inl (cI, 17, .inl ft))] (fun (u : Int32) => (u = zXY bx kd ln (zPm vl j mo) n)) (fun (u : Int32) => some (.int u)) (fun (u : Int32) => [(la, .inl (cI, 25, .inl fa)), (lg, .inl (cI, 4, .inl fg)), (lt, .inl (cI, 17, .inl ft))]) := by
  refine zM_i (cc := cL_tips) (maxL := 9) (r := fun (u : Int32) => u) (by decide) rfl (Nat.le_of_ble_eq_true rfl) ?_
  intro p e s m args below meth c ls A0 Q C hl hP hS hRet
  obtain ⟨⟨hx, hb, hml, hown, hts⟩, hG, hK, hD, hlocks⟩ := C
  have hl : lv_has ls 9 [(0, .int bx), (1, .int j), (2, .int mo), (3, .ref la), (4, .ref lg), (5, .ref lt)] := hl
  refine lv_iconst (v := 0) hx hb dL_tips_0 (by decide) ?_
  refine lv_istore (lv' := [(6, .int 0), (0, .int bx), (1, .int j), (2, .int mo), (3, .ref la), (4, .ref lg), (5, .ref lt)]) hx hb dL_tips_1 hl (by decide) rfl (fun ls hl => ?_)
  refine lv_aload hx hb dL_tips_3 (lv_at hl 5 rfl) ?_
  refine lv_iconst (v := nI 0) hx hb dL_tips_5 (rfl) ?_
  refine z_iald hx hb hK hP 1 rfl (j := 0) (by omega) (by decide) dL_tips_6 ?_
  refine z_topi (y := nI n) (hGs.1) ?_
  refine lv_iconst (v := 1) hx hb dL_tips_7 (by decide) ?_
  refine lv_isub hx hb dL_tips_8 ?_
  refine lv_istore (lv' := [(7, .int (nI n - 1)), (6, .int 0), (0, .int bx), (1, .int j), (2, .int mo), (3, .ref la), (4, .ref lg), (5, .ref lt)]) hx hb dL_tips_9 hl (by decide) rfl (fun ls hl => ?_)
  have lp_11_1 : ∀ (fu : Nat) (i : Nat) (sm : Int32), (i ≤ n) → (sm + zXY bx kd ln (zPm vl j mo) i = zXY bx kd ln (zPm vl j mo) n) → (i < fu) → ∀ (H : Heap) (locs : List Loc), va_P D vwCl [(la, .inl (cI, 25, .inl fa)), (lg, .inl (cI, 4, .inl fg)), (lt, .inl (cI, 17, .inl ft))] H → va_D A0 [(la, .inl (cI, 25, .inl fa)), (lg, .inl (cI, 4, .inl fg)), (lt, .inl (cI, 17, .inl ft))] → va_S A0 s.heap H locs → ∀ (ls : Array Slot), lv_has ls 9 [(0, .int bx), (1, .int j), (2, .int mo), (3, .ref la), (4, .ref lg), (5, .ref lt), (6, .int sm), (7, .int (nI i - 1))] → W p l e (zRm 1 0 0) s m args below meth c H locs 0 0 Q (F0 m 11 ls []) := by
    intro fu
    induction fu with
    | zero => intro i sm hi1 hsm hfu; exact absurd hfu (Nat.not_lt_zero _)
    | succ fu ih_11_1 =>
      intro i sm hi1 hsm hfu H locs hP hD hS ls hl
      refine lv_iload hx hb dL_tips_11 (lv_at hl 7 rfl) ?_
      refine lv_if_lt (tgt := 99) hx hb dL_tips_13 (by decide) (fun c_13 => ?_) (fun c_13 => ?_)
      · have c_13 := (zlt0_pred (by omega)).mp c_13
        subst c_13
        have hr9 : sm = zXY bx kd ln (zPm vl j mo) n := by rw [← hsm, zXY_0]; exact (Int32.add_zero sm).symm
        refine lv_iload hx hb dL_tips_99 (lv_at hl 6 rfl) ?_
        exact hRet _ (sm) _ _ _ (hr9) hP hS dL_tips_101
      · have c_13 : ¬ i = 0 := fun h => c_13 ((zlt0_pred (by omega)).mpr h)
        obtain ⟨k, rfl⟩ : ∃ k, i = k + 1 := ⟨i - 1, by omega⟩
        rw [nI_pred] at hl
        refine lv_aload_n hx hb dL_tips_16 rfl (lv_at hl 3 rfl) ?_
        refine lv_iconst (v := nI 5) hx hb dL_tips_17 (rfl) ?_
        refine lv_iload hx hb dL_tips_18 (lv_at hl 7 rfl) ?_
        refine lv_imul hx hb dL_tips_20 ?_
        refine z_topi (y := nI (5 * k)) (pk_mul 5 _) ?_
        refine lv_iconst (v := nI 1) hx hb dL_tips_21 (rfl) ?_
        refine lv_iadd hx hb dL_tips_22 ?_
        refine z_topi (y := nI (5 * k + 1)) (nI_add _ _) ?_
        refine z_iald hx hb hK hP 0 rfl (j := (5 * k + 1)) (by omega) (by decide) dL_tips_23 ?_
        refine z_topi (y := ln k) ((hA k (by omega)).2.1) ?_
        refine lv_aload_n hx hb dL_tips_24 rfl (lv_at hl 3 rfl) ?_
        refine lv_iconst (v := nI 5) hx hb dL_tips_25 (rfl) ?_
        refine lv_iload hx hb dL_tips_26 (lv_at hl 7 rfl) ?_
        refine lv_imul hx hb dL_tips_28 ?_
        refine z_topi (y := nI (5 * k)) (pk_mul 5 _) ?_
        refine z_iald hx hb hK hP 0 rfl (j := (5 * k)) (by omega) (by decide) dL_tips_29 ?_
        refine z_topi (y := kd k) ((hA k (by omega)).1) ?_
        refine lv_iconst (v := 1) hx hb dL_tips_30 (by decide) ?_
        refine lv_icmp_ne (tgt := 57) hx hb dL_tips_31 (by decide) (fun c_31 => ?_) (fun c_31 => ?_)
        · have hk0 : kd k = 0 := Classical.byContradiction (fun h => c_31 ((zKd_s hkd (by omega)).mpr h))
          refine lv_iconst (v := 0) hx hb dL_tips_57 (by decide) ?_
          refine lv_iadd hx hb dL_tips_58 ?_
          refine z_topi (y := zDist kd ln k (zPm vl j mo k)) (by first | exact zDs hk0 | exact (Int32.add_zero _).trans (zDt hk0)) ?_
          refine lv_istore (lv' := [(8, .int (zDist kd ln k (zPm vl j mo k))), (0, .int bx), (1, .int j), (2, .int mo), (3, .ref la), (4, .ref lg), (5, .ref lt), (6, .int sm), (7, .int (nI k))]) hx hb dL_tips_59 hl (by decide) rfl (fun ls hl => ?_)
          refine lv_iload hx hb dL_tips_61 (lv_at hl 7 rfl) ?_
          refine lv_iload hx hb dL_tips_63 (lv_at hl 0 rfl) ?_
          refine lv_iload hx hb dL_tips_65 (lv_at hl 8 rfl) ?_
          refine lv_iload_n hx hb dL_tips_67 rfl (lv_at hl 2 rfl) ?_
          refine lv_iload_n hx hb dL_tips_68 rfl (lv_at hl 3 rfl) ?_
          refine lv_aload_n hx hb dL_tips_69 rfl (lv_at hl 4 rfl) ?_
          refine z_callS (As := [.int (nI k), .int j, .int mo, .ref la]) (rest := [.int (zDist kd ln k (zPm vl j mo k)), .int sm]) ⟨hx, hb, hml, hown, hts⟩ hG hK hP hD hS (c_L_heading l D cI cJ (nI k) j mo la fa n kd ln lo hi vl (k + 1) (by first | assumption | omega | decide) (by first | assumption | omega | decide) (by omega) ((nI_pred _).symm)) (va_cwS 4 hts gL_tips_L_heading rfl rfl rfl (by decide +kernel) ⟨Nat.le_of_ble_eq_true rfl, Nat.le_of_ble_eq_true rfl⟩) [0] (by decide) rfl (fun _ => rfl) rfl hl.1 rfl (Nat.le_of_ble_eq_true rfl) dL_tips_70 ⟨Nat.le_of_ble_eq_true rfl, Nat.le_of_ble_eq_true rfl⟩ (fun u_2 H locs hu_3 hP hD hS => ?_)
          obtain ⟨r_4, rfl⟩ : ∃ z, z = u_2 := ⟨_, rfl⟩
          have hu_3 : (r_4 = zH kd (zPm vl j mo) (k + 1)) := hu_3
          have e_5 := hu_3
          subst e_5
          have hP : va_P D vwCl [(la, .inl (cI, 25, .inl fa)), (lg, .inl (cI, 4, .inl fg)), (lt, .inl (cI, 17, .inl ft))] H := hP
          have hD : va_D A0 [(la, .inl (cI, 25, .inl fa)), (lg, .inl (cI, 4, .inl fg)), (lt, .inl (cI, 17, .inl ft))] := hD
          refine lv_iload_n hx hb dL_tips_73 rfl (lv_at hl 1 rfl) ?_
          refine lv_if_eq (tgt := 82) hx hb dL_tips_74 (by decide) (fun c_74 => ?_) (fun c_74 => ?_)
          · refine lv_iconst (v := 0) hx hb dL_tips_82 (by decide) ?_
            refine lv_iadd hx hb dL_tips_83 ?_
            refine z_topi (y := zH kd (zPm vl j mo) (k + 1) + (if bx = 0 then 0 else 16)) (by first | rw [if_pos c_74] | rw [if_neg c_74]) ?_
            refine lv_aload hx hb dL_tips_84 (lv_at hl 6 rfl) ?_
            refine z_callS (As := [.int (zH kd (zPm vl j mo) (k + 1) + (if bx = 0 then 0 else 16)), .ref lt]) (rest := [.int (zDist kd ln k (zPm vl j mo k)), .int sm]) ⟨hx, hb, hml, hown, hts⟩ hG hK hP hD hS (c_L_sine l D cI cJ (zH kd (zPm vl j mo) (k + 1) + (if bx = 0 then 0 else 16)) lt ft (by first | assumption | omega | decide)) (va_cwS 2 hts gL_tips_L_sine rfl rfl rfl (by decide +kernel) ⟨Nat.le_of_ble_eq_true rfl, Nat.le_of_ble_eq_true rfl⟩) [2] (by decide) rfl (fun _ => rfl) rfl hl.1 rfl (Nat.le_of_ble_eq_true rfl) dL_tips_86 ⟨Nat.le_of_ble_eq_true rfl, Nat.le_of_ble_eq_true rfl⟩ (fun u_6 H locs hu_7 hP hD hS => ?_)
            obtain ⟨r_8, rfl⟩ : ∃ z, z = u_6 := ⟨_, rfl⟩
            have hu_7 : (r_8 = zsn (zH kd (zPm vl j mo) (k + 1) + (if bx = 0 then 0 else 16))) := hu_7
            have e_9 := hu_7
            subst e_9
            have hP : va_P D vwCl [(la, .inl (cI, 25, .inl fa)), (lg, .inl (cI, 4, .inl fg)), (lt, .inl (cI, 17, .inl ft))] H := hP
            have hD : va_D A0 [(la, .inl (cI, 25, .inl fa)), (lg, .inl (cI, 4, .inl fg)), (lt, .inl (cI, 17, .inl ft))] := hD
            refine lv_imul hx hb dL_tips_89 ?_
            refine lv_iadd hx hb dL_tips_90 ?_
            refine lv_istore (lv' := [(6, .int (sm + ((zDist kd ln k (zPm vl j mo k)) * (zsn (zH kd (zPm vl j mo) (k + 1) + (if bx = 0 then 0 else 16)))))), (8, .int (zDist kd ln k (zPm vl j mo k))), (0, .int bx), (1, .int j), (2, .int mo), (3, .ref la), (4, .ref lg), (5, .ref lt), (7, .int (nI k))]) hx hb dL_tips_91 hl (by decide) rfl (fun ls hl => ?_)
            refine lv_iinc (v := nI k - 1) (lv' := [(7, .int (nI k - 1)), (6, .int (sm + ((zDist kd ln k (zPm vl j mo k)) * (zsn (zH kd (zPm vl j mo) (k + 1) + (if bx = 0 then 0 else 16)))))), (8, .int (zDist kd ln k (zPm vl j mo k))), (0, .int bx), (1, .int j), (2, .int mo), (3, .ref la), (4, .ref lg), (5, .ref lt)]) hx hb dL_tips_93 hl (k := 8) rfl (zdec _) (by decide) rfl (fun ls hl => ?_)
            refine lv_goto (tgt := 11) hx hb dL_tips_96 (by decide) ?_
            exact ih_11_1 k (sm + ((zDist kd ln k (zPm vl j mo k)) * (zsn (zH kd (zPm vl j mo) (k + 1) + (if bx = 0 then 0 else 16))))) (by first | assumption | omega | rfl | simp_all) (zback _ _ _ _ (by rw [← zXY_s]; exact hsm)) (by omega) _ _ hP hD hS _ (lv_sub hl [3, 4, 5, 6, 7, 8, 1, 0] rfl)
          · refine lv_bipush (v := 16) hx hb dL_tips_77 (by decide) ?_
            refine lv_goto (tgt := 83) hx hb dL_tips_79 (by decide) ?_
            refine lv_iadd hx hb dL_tips_83 ?_
            refine z_topi (y := zH kd (zPm vl j mo) (k + 1) + (if bx = 0 then 0 else 16)) (by first | rw [if_pos c_74] | rw [if_neg c_74]) ?_
            refine lv_aload hx hb dL_tips_84 (lv_at hl 6 rfl) ?_
            refine z_callS (As := [.int (zH kd (zPm vl j mo) (k + 1) + (if bx = 0 then 0 else 16)), .ref lt]) (rest := [.int (zDist kd ln k (zPm vl j mo k)), .int sm]) ⟨hx, hb, hml, hown, hts⟩ hG hK hP hD hS (c_L_sine l D cI cJ (zH kd (zPm vl j mo) (k + 1) + (if bx = 0 then 0 else 16)) lt ft (by first | assumption | omega | decide)) (va_cwS 2 hts gL_tips_L_sine rfl rfl rfl (by decide +kernel) ⟨Nat.le_of_ble_eq_true rfl, Nat.le_of_ble_eq_true rfl⟩) [2] (by decide) rfl (fun _ => rfl) rfl hl.1 rfl (Nat.le_of_ble_eq_true rfl) dL_tips_86 ⟨Nat.le_of_ble_eq_true rfl, Nat.le_of_ble_eq_true rfl⟩ (fun u_10 H locs hu_11 hP hD hS => ?_)
            obtain ⟨r_12, rfl⟩ : ∃ z, z = u_10 := ⟨_, rfl⟩
            have hu_11 : (r_12 = zsn (zH kd (zPm vl j mo) (k + 1) + (if bx = 0 then 0 else 16))) := hu_11
            have e_13 := hu_11
            subst e_13
            have hP : va_P D vwCl [(la, .inl (cI, 25, .inl fa)), (lg, .inl (cI, 4, .inl fg)), (lt, .inl (cI, 17, .inl ft))] H := hP
            have hD : va_D A0 [(la, .inl (cI, 25, .inl fa)), (lg, .inl (cI, 4, .inl fg)), (lt, .inl (cI, 17, .inl ft))] := hD
            refine lv_imul hx hb dL_tips_89 ?_
            refine lv_iadd hx hb dL_tips_90 ?_
            refine lv_istore (lv' := [(6, .int (sm + ((zDist kd ln k (zPm vl j mo k)) * (zsn (zH kd (zPm vl j mo) (k + 1) + (if bx = 0 then 0 else 16)))))), (8, .int (zDist kd ln k (zPm vl j mo k))), (0, .int bx), (1, .int j), (2, .int mo), (3, .ref la), (4, .ref lg), (5, .ref lt), (7, .int (nI k))]) hx hb dL_tips_91 hl (by decide) rfl (fun ls hl => ?_)
            refine lv_iinc (v := nI k - 1) (lv' := [(7, .int (nI k - 1)), (6, .int (sm + ((zDist kd ln k (zPm vl j mo k)) * (zsn (zH kd (zPm vl j mo) (k + 1) + (if bx = 0 then 0 else 16)))))), (8, .int (zDist kd ln k (zPm vl j mo k))), (0, .int bx), (1, .int j), (2, .int mo), (3, .ref la), (4, .ref lg), (5, .ref lt)]) hx hb dL_tips_93 hl (k := 8) rfl (zdec _) (by decide) rfl (fun ls hl => ?_)
            refine lv_goto (tgt := 11) hx hb dL_tips_96 (by decide) ?_
            exact ih_11_1 k (sm + ((zDist kd ln k (zPm vl j mo k)) * (zsn (zH kd (zPm vl j mo) (k + 1) + (if bx = 0 then 0 else 16))))) (by first | assumption | omega | rfl | simp_all) (zback _ _ _ _ (by rw [← zXY_s]; exact hsm)) (by omega) _ _ hP hD hS _ (lv_sub hl [3, 4, 5, 6, 7, 8, 1, 0] rfl)
        · have hk0 := (zKd_s hkd (by omega)).mp c_31
          refine lv_aload_n hx hb dL_tips_34 rfl (lv_at hl 3 rfl) ?_
          refine lv_iconst (v := nI 5) hx hb dL_tips_35 (rfl) ?_
          refine lv_iload hx hb dL_tips_36 (lv_at hl 7 rfl) ?_
          refine lv_imul hx hb dL_tips_38 ?_
          refine z_topi (y := nI (5 * k)) (pk_mul 5 _) ?_
          refine lv_iconst (v := nI 4) hx hb dL_tips_39 (rfl) ?_
          refine lv_iadd hx hb dL_tips_40 ?_
          refine z_topi (y := nI (5 * k + 4)) (nI_add _ _) ?_
          refine z_iald hx hb hK hP 0 rfl (j := (5 * k + 4)) (by omega) (by decide) dL_tips_41 ?_
          refine z_topi (y := vl k) ((hA k (by omega)).2.2.2.2) ?_
          refine lv_iload hx hb dL_tips_42 (lv_at hl 7 rfl) ?_
          refine lv_iload_n hx hb dL_tips_44 rfl (lv_at hl 1 rfl) ?_
          refine lv_icmp_ne (tgt := 52) hx hb dL_tips_45 (by decide) (fun c_45 => ?_) (fun c_45 => ?_)
          · refine lv_iconst (v := 0) hx hb dL_tips_52 (by decide) ?_
            refine lv_iadd hx hb dL_tips_53 ?_
            refine z_topi (y := zPm vl j mo k) (by first | exact zPm_t c_45 | exact zPm_f c_45) ?_
            refine lv_goto (tgt := 58) hx hb dL_tips_54 (by decide) ?_
            refine lv_iadd hx hb dL_tips_58 ?_
            refine z_topi (y := zDist kd ln k (zPm vl j mo k)) (by first | exact zDs hk0 | exact (Int32.add_zero _).trans (zDt hk0)) ?_
            refine lv_istore (lv' := [(8, .int (zDist kd ln k (zPm vl j mo k))), (0, .int bx), (1, .int j), (2, .int mo), (3, .ref la), (4, .ref lg), (5, .ref lt), (6, .int sm), (7, .int (nI k))]) hx hb dL_tips_59 hl (by decide) rfl (fun ls hl => ?_)
            refine lv_iload hx hb dL_tips_61 (lv_at hl 7 rfl) ?_
            refine lv_iload hx hb dL_tips_63 (lv_at hl 0 rfl) ?_
            refine lv_iload hx hb dL_tips_65 (lv_at hl 8 rfl) ?_
            refine lv_iload_n hx hb dL_tips_67 rfl (lv_at hl 2 rfl) ?_
            refine lv_iload_n hx hb dL_tips_68 rfl (lv_at hl 3 rfl) ?_
            refine lv_aload_n hx hb dL_tips_69 rfl (lv_at hl 4 rfl) ?_
            refine z_callS (As := [.int (nI k), .int j, .int mo, .ref la]) (rest := [.int (zDist kd ln k (zPm vl j mo k)), .int sm]) ⟨hx, hb, hml, hown, hts⟩ hG hK hP hD hS (c_L_heading l D cI cJ (nI k) j mo la fa n kd ln lo hi vl (k + 1) (by first | assumption | omega | decide) (by first | assumption | omega | decide) (by omega) ((nI_pred _).symm)) (va_cwS 4 hts gL_tips_L_heading rfl rfl rfl (by decide +kernel) ⟨Nat.le_of_ble_eq_true rfl, Nat.le_of_ble_eq_true rfl⟩) [0] (by decide) rfl (fun _ => rfl) rfl hl.1 rfl (Nat.le_of_ble_eq_true rfl) dL_tips_70 ⟨Nat.le_of_ble_eq_true rfl, Nat.le_of_ble_eq_true rfl⟩ (fun u_14 H locs hu_15 hP hD hS => ?_)
            obtain ⟨r_16, rfl⟩ : ∃ z, z = u_14 := ⟨_, rfl⟩
            have hu_15 : (r_16 = zH kd (zPm vl j mo) (k + 1)) := hu_15
            have e_17 := hu_15
            subst e_17
            have hP : va_P D vwCl [(la, .inl (cI, 25, .inl fa)), (lg, .inl (cI, 4, .inl fg)), (lt, .inl (cI, 17, .inl ft))] H := hP
            have hD : va_D A0 [(la, .inl (cI, 25, .inl fa)), (lg, .inl (cI, 4, .inl fg)), (lt, .inl (cI, 17, .inl ft))] := hD
            refine lv_iload_n hx hb dL_tips_73 rfl (lv_at hl 1 rfl) ?_
            refine lv_if_eq (tgt := 82) hx hb dL_tips_74 (by decide) (fun c_74 => ?_) (fun c_74 => ?_)
            · refine lv_iconst (v := 0) hx hb dL_tips_82 (by decide) ?_
              refine lv_iadd hx hb dL_tips_83 ?_
              refine z_topi (y := zH kd (zPm vl j mo) (k + 1) + (if bx = 0 then 0 else 16)) (by first | rw [if_pos c_74] | rw [if_neg c_74]) ?_
              refine lv_aload hx hb dL_tips_84 (lv_at hl 6 rfl) ?_
              refine z_callS (As := [.int (zH kd (zPm vl j mo) (k + 1) + (if bx = 0 then 0 else 16)), .ref lt]) (rest := [.int (zDist kd ln k (zPm vl j mo k)), .int sm]) ⟨hx, hb, hml, hown, hts⟩ hG hK hP hD hS (c_L_sine l D cI cJ (zH kd (zPm vl j mo) (k + 1) + (if bx = 0 then 0 else 16)) lt ft (by first | assumption | omega | decide)) (va_cwS 2 hts gL_tips_L_sine rfl rfl rfl (by decide +kernel) ⟨Nat.le_of_ble_eq_true rfl, Nat.le_of_ble_eq_true rfl⟩) [2] (by decide) rfl (fun _ => rfl) rfl hl.1 rfl (Nat.le_of_ble_eq_true rfl) dL_tips_86 ⟨Nat.le_of_ble_eq_true rfl, Nat.le_of_ble_eq_true rfl⟩ (fun u_18 H locs hu_19 hP hD hS => ?_)
              obtain ⟨r_20, rfl⟩ : ∃ z, z = u_18 := ⟨_, rfl⟩
              have hu_19 : (r_20 = zsn (zH kd (zPm vl j mo) (k + 1) + (if bx = 0 then 0 else 16))) := hu_19
              have e_21 := hu_19
              subst e_21
              have hP : va_P D vwCl [(la, .inl (cI, 25, .inl fa)), (lg, .inl (cI, 4, .inl fg)), (lt, .inl (cI, 17, .inl ft))] H := hP
              have hD : va_D A0 [(la, .inl (cI, 25, .inl fa)), (lg, .inl (cI, 4, .inl fg)), (lt, .inl (cI, 17, .inl ft))] := hD
              refine lv_imul hx hb dL_tips_89 ?_
              refine lv_iadd hx hb dL_tips_90 ?_
              refine lv_istore (lv' := [(6, .int (sm + ((zDist kd ln k (zPm vl j mo k)) * (zsn (zH kd (zPm vl j mo) (k + 1) + (if bx = 0 then 0 else 16)))))), (8, .int (zDist kd ln k (zPm vl j mo k))), (0, .int bx), (1, .int j), (2, .int mo), (3, .ref la), (4, .ref lg), (5, .ref lt), (7, .int (nI k))]) hx hb dL_tips_91 hl (by decide) rfl (fun ls hl => ?_)
              refine lv_iinc (v := nI k - 1) (lv' := [(7, .int (nI k - 1)), (6, .int (sm + ((zDist kd ln k (zPm vl j mo k)) * (zsn (zH kd (zPm vl j mo) (k + 1) + (if bx = 0 then 0 else 16)))))), (8, .int (zDist kd ln k (zPm vl j mo k))), (0, .int bx), (1, .int j), (2, .int mo), (3, .ref la), (4, .ref lg), (5, .ref lt)]) hx hb dL_tips_93 hl (k := 8) rfl (zdec _) (by decide) rfl (fun ls hl => ?_)
              refine lv_goto (tgt := 11) hx hb dL_tips_96 (by decide) ?_
              exact ih_11_1 k (sm + ((zDist kd ln k (zPm vl j mo k)) * (zsn (zH kd (zPm vl j mo) (k + 1) + (if bx = 0 then 0 else 16))))) (by first | assumption | omega | rfl | simp_all) (zback _ _ _ _ (by rw [← zXY_s]; exact hsm)) (by omega) _ _ hP hD hS _ (lv_sub hl [3, 4, 5, 6, 7, 8, 1, 0] rfl)
            · refine lv_bipush (v := 16) hx hb dL_tips_77 (by decide) ?_
              refine lv_goto (tgt := 83) hx hb dL_tips_79 (by decide) ?_
              refine lv_iadd hx hb dL_tips_83 ?_
              refine z_topi (y := zH kd (zPm vl j mo) (k + 1) + (if bx = 0 then 0 else 16)) (by first | rw [if_pos c_74] | rw [if_neg c_74]) ?_
              refine lv_aload hx hb dL_tips_84 (lv_at hl 6 rfl) ?_
              refine z_callS (As := [.int (zH kd (zPm vl j mo) (k + 1) + (if bx = 0 then 0 else 16)), .ref lt]) (rest := [.int (zDist kd ln k (zPm vl j mo k)), .int sm]) ⟨hx, hb, hml, hown, hts⟩ hG hK hP hD hS (c_L_sine l D cI cJ (zH kd (zPm vl j mo) (k + 1) + (if bx = 0 then 0 else 16)) lt ft (by first | assumption | omega | decide)) (va_cwS 2 hts gL_tips_L_sine rfl rfl rfl (by decide +kernel) ⟨Nat.le_of_ble_eq_true rfl, Nat.le_of_ble_eq_true rfl⟩) [2] (by decide) rfl (fun _ => rfl) rfl hl.1 rfl (Nat.le_of_ble_eq_true rfl) dL_tips_86 ⟨Nat.le_of_ble_eq_true rfl, Nat.le_of_ble_eq_true rfl⟩ (fun u_22 H locs hu_23 hP hD hS => ?_)
              obtain ⟨r_24, rfl⟩ : ∃ z, z = u_22 := ⟨_, rfl⟩
              have hu_23 : (r_24 = zsn (zH kd (zPm vl j mo) (k + 1) + (if bx = 0 then 0 else 16))) := hu_23
              have e_25 := hu_23
              subst e_25
              have hP : va_P D vwCl [(la, .inl (cI, 25, .inl fa)), (lg, .inl (cI, 4, .inl fg)), (lt, .inl (cI, 17, .inl ft))] H := hP
              have hD : va_D A0 [(la, .inl (cI, 25, .inl fa)), (lg, .inl (cI, 4, .inl fg)), (lt, .inl (cI, 17, .inl ft))] := hD
              refine lv_imul hx hb dL_tips_89 ?_
              refine lv_iadd hx hb dL_tips_90 ?_
              refine lv_istore (lv' := [(6, .int (sm + ((zDist kd ln k (zPm vl j mo k)) * (zsn (zH kd (zPm vl j mo) (k + 1) + (if bx = 0 then 0 else 16)))))), (8, .int (zDist kd ln k (zPm vl j mo k))), (0, .int bx), (1, .int j), (2, .int mo), (3, .ref la), (4, .ref lg), (5, .ref lt), (7, .int (nI k))]) hx hb dL_tips_91 hl (by decide) rfl (fun ls hl => ?_)
              refine lv_iinc (v := nI k - 1) (lv' := [(7, .int (nI k - 1)), (6, .int (sm + ((zDist kd ln k (zPm vl j mo k)) * (zsn (zH kd (zPm vl j mo) (k + 1) + (if bx = 0 then 0 else 16)))))), (8, .int (zDist kd ln k (zPm vl j mo k))), (0, .int bx), (1, .int j), (2, .int mo), (3, .ref la), (4, .ref lg), (5, .ref lt)]) hx hb dL_tips_93 hl (k := 8) rfl (zdec _) (by decide) rfl (fun ls hl => ?_)
              refine lv_goto (tgt := 11) hx hb dL_tips_96 (by decide) ?_
              exact ih_11_1 k (sm + ((zDist kd ln k (zPm vl j mo k)) * (zsn (zH kd (zPm vl j mo) (k + 1) + (if bx = 0 then 0 else 16))))) (by first | assumption | omega | rfl | simp_all) (zback _ _ _ _ (by rw [← zXY_s]; exact hsm)) (by omega) _ _ hP hD hS _ (lv_sub hl [3, 4, 5, 6, 7, 8, 1, 0] rfl)
          · refine lv_iload_n hx hb dL_tips_48 rfl (lv_at hl 2 rfl) ?_
            refine lv_goto (tgt := 53) hx hb dL_tips_49 (by decide) ?_
            refine lv_iadd hx hb dL_tips_53 ?_
            refine z_topi (y := zPm vl j mo k) (by first | exact zPm_t c_45 | exact zPm_f c_45) ?_
            refine lv_goto (tgt := 58) hx hb dL_tips_54 (by decide) ?_
            refine lv_iadd hx hb dL_tips_58 ?_
            refine z_topi (y := zDist kd ln k (zPm vl j mo k)) (by first | exact zDs hk0 | exact (Int32.add_zero _).trans (zDt hk0)) ?_
            refine lv_istore (lv' := [(8, .int (zDist kd ln k (zPm vl j mo k))), (0, .int bx), (1, .int j), (2, .int mo), (3, .ref la), (4, .ref lg), (5, .ref lt), (6, .int sm), (7, .int (nI k))]) hx hb dL_tips_59 hl (by decide) rfl (fun ls hl => ?_)
            refine lv_iload hx hb dL_tips_61 (lv_at hl 7 rfl) ?_
            refine lv_iload hx hb dL_tips_63 (lv_at hl 0 rfl) ?_
            refine lv_iload hx hb dL_tips_65 (lv_at hl 8 rfl) ?_
            refine lv_iload_n hx hb dL_tips_67 rfl (lv_at hl 2 rfl) ?_
            refine lv_iload_n hx hb dL_tips_68 rfl (lv_at hl 3 rfl) ?_
            refine lv_aload_n hx hb dL_tips_69 rfl (lv_at hl 4 rfl) ?_
            refine z_callS (As := [.int (nI k), .int j, .int mo, .ref la]) (rest := [.int (zDist kd ln k (zPm vl j mo k)), .int sm]) ⟨hx, hb, hml, hown, hts⟩ hG hK hP hD hS (c_L_heading l D cI cJ (nI k) j mo la fa n kd ln lo hi vl (k + 1) (by first | assumption | omega | decide) (by first | assumption | omega | decide) (by omega) ((nI_pred _).symm)) (va_cwS 4 hts gL_tips_L_heading rfl rfl rfl (by decide +kernel) ⟨Nat.le_of_ble_eq_true rfl, Nat.le_of_ble_eq_true rfl⟩) [0] (by decide) rfl (fun _ => rfl) rfl hl.1 rfl (Nat.le_of_ble_eq_true rfl) dL_tips_70 ⟨Nat.le_of_ble_eq_true rfl, Nat.le_of_ble_eq_true rfl⟩ (fun u_26 H locs hu_27 hP hD hS => ?_)
            obtain ⟨r_28, rfl⟩ : ∃ z, z = u_26 := ⟨_, rfl⟩
            have hu_27 : (r_28 = zH kd (zPm vl j mo) (k + 1)) := hu_27
            have e_29 := hu_27
            subst e_29
            have hP : va_P D vwCl [(la, .inl (cI, 25, .inl fa)), (lg, .inl (cI, 4, .inl fg)), (lt, .inl (cI, 17, .inl ft))] H := hP
            have hD : va_D A0 [(la, .inl (cI, 25, .inl fa)), (lg, .inl (cI, 4, .inl fg)), (lt, .inl (cI, 17, .inl ft))] := hD
            refine lv_iload_n hx hb dL_tips_73 rfl (lv_at hl 1 rfl) ?_
            refine lv_if_eq (tgt := 82) hx hb dL_tips_74 (by decide) (fun c_74 => ?_) (fun c_74 => ?_)
            · refine lv_iconst (v := 0) hx hb dL_tips_82 (by decide) ?_
              refine lv_iadd hx hb dL_tips_83 ?_
              refine z_topi (y := zH kd (zPm vl j mo) (k + 1) + (if bx = 0 then 0 else 16)) (by first | rw [if_pos c_74] | rw [if_neg c_74]) ?_
              refine lv_aload hx hb dL_tips_84 (lv_at hl 6 rfl) ?_
              refine z_callS (As := [.int (zH kd (zPm vl j mo) (k + 1) + (if bx = 0 then 0 else 16)), .ref lt]) (rest := [.int (zDist kd ln k (zPm vl j mo k)), .int sm]) ⟨hx, hb, hml, hown, hts⟩ hG hK hP hD hS (c_L_sine l D cI cJ (zH kd (zPm vl j mo) (k + 1) + (if bx = 0 then 0 else 16)) lt ft (by first | assumption | omega | decide)) (va_cwS 2 hts gL_tips_L_sine rfl rfl rfl (by decide +kernel) ⟨Nat.le_of_ble_eq_true rfl, Nat.le_of_ble_eq_true rfl⟩) [2] (by decide) rfl (fun _ => rfl) rfl hl.1 rfl (Nat.le_of_ble_eq_true rfl) dL_tips_86 ⟨Nat.le_of_ble_eq_true rfl, Nat.le_of_ble_eq_true rfl⟩ (fun u_30 H locs hu_31 hP hD hS => ?_)
              obtain ⟨r_32, rfl⟩ : ∃ z, z = u_30 := ⟨_, rfl⟩
              have hu_31 : (r_32 = zsn (zH kd (zPm vl j mo) (k + 1) + (if bx = 0 then 0 else 16))) := hu_31
              have e_33 := hu_31
              subst e_33
              have hP : va_P D vwCl [(la, .inl (cI, 25, .inl fa)), (lg, .inl (cI, 4, .inl fg)), (lt, .inl (cI, 17, .inl ft))] H := hP
              have hD : va_D A0 [(la, .inl (cI, 25, .inl fa)), (lg, .inl (cI, 4, .inl fg)), (lt, .inl (cI, 17, .inl ft))] := hD
              refine lv_imul hx hb dL_tips_89 ?_
              refine lv_iadd hx hb dL_tips_90 ?_
              refine lv_istore (lv' := [(6, .int (sm + ((zDist kd ln k (zPm vl j mo k)) * (zsn (zH kd (zPm vl j mo) (k + 1) + (if bx = 0 then 0 else 16)))))), (8, .int (zDist kd ln k (zPm vl j mo k))), (0, .int bx), (1, .int j), (2, .int mo), (3, .ref la), (4, .ref lg), (5, .ref lt), (7, .int (nI k))]) hx hb dL_tips_91 hl (by decide) rfl (fun ls hl => ?_)
              refine lv_iinc (v := nI k - 1) (lv' := [(7, .int (nI k - 1)), (6, .int (sm + ((zDist kd ln k (zPm vl j mo k)) * (zsn (zH kd (zPm vl j mo) (k + 1) + (if bx = 0 then 0 else 16)))))), (8, .int (zDist kd ln k (zPm vl j mo k))), (0, .int bx), (1, .int j), (2, .int mo), (3, .ref la), (4, .ref lg), (5, .ref lt)]) hx hb dL_tips_93 hl (k := 8) rfl (zdec _) (by decide) rfl (fun ls hl => ?_)
              refine lv_goto (tgt := 11) hx hb dL_tips_96 (by decide) ?_
              exact ih_11_1 k (sm + ((zDist kd ln k (zPm vl j mo k)) * (zsn (zH kd (zPm vl j mo) (k + 1) + (if bx = 0 then 0 else 16))))) (by first | assumption | omega | rfl | simp_all) (zback _ _ _ _ (by rw [← zXY_s]; exact hsm)) (by omega) _ _ hP hD hS _ (lv_sub hl [3, 4, 5, 6, 7, 8, 1, 0] rfl)
            · refine lv_bipush (v := 16) hx hb dL_tips_77 (by decide) ?_
              refine lv_goto (tgt := 83) hx hb dL_tips_79 (by decide) ?_
              refine lv_iadd hx hb dL_tips_83 ?_
              refine z_topi (y := zH kd (zPm vl j mo) (k + 1) + (if bx = 0 then 0 else 16)) (by first | rw [if_pos c_74] | rw [if_neg c_74]) ?_
              refine lv_aload hx hb dL_tips_84 (lv_at hl 6 rfl) ?_
              refine z_callS (As := [.int (zH kd (zPm vl j mo) (k + 1) + (if bx = 0 then 0 else 16)), .ref lt]) (rest := [.int (zDist kd ln k (zPm vl j mo k)), .int sm]) ⟨hx, hb, hml, hown, hts⟩ hG hK hP hD hS (c_L_sine l D cI cJ (zH kd (zPm vl j mo) (k + 1) + (if bx = 0 then 0 else 16)) lt ft (by first | assumption | omega | decide)) (va_cwS 2 hts gL_tips_L_sine rfl rfl rfl (by decide +kernel) ⟨Nat.le_of_ble_eq_true rfl, Nat.le_of_ble_eq_true rfl⟩) [2] (by decide) rfl (fun _ => rfl) rfl hl.1 rfl (Nat.le_of_ble_eq_true rfl) dL_tips_86 ⟨Nat.le_of_ble_eq_true rfl, Nat.le_of_ble_eq_true rfl⟩ (fun u_34 H locs hu_35 hP hD hS => ?_)
              obtain ⟨r_36, rfl⟩ : ∃ z, z = u_34 := ⟨_, rfl⟩
              have hu_35 : (r_36 = zsn (zH kd (zPm vl j mo) (k + 1) + (if bx = 0 then 0 else 16))) := hu_35
              have e_37 := hu_35
              subst e_37
              have hP : va_P D vwCl [(la, .inl (cI, 25, .inl fa)), (lg, .inl (cI, 4, .inl fg)), (lt, .inl (cI, 17, .inl ft))] H := hP
              have hD : va_D A0 [(la, .inl (cI, 25, .inl fa)), (lg, .inl (cI, 4, .inl fg)), (lt, .inl (cI, 17, .inl ft))] := hD
              refine lv_imul hx hb dL_tips_89 ?_
              refine lv_iadd hx hb dL_tips_90 ?_
              refine lv_istore (lv' := [(6, .int (sm + ((zDist kd ln k (zPm vl j mo k)) * (zsn (zH kd (zPm vl j mo) (k + 1) + (if bx = 0 then 0 else 16)))))), (8, .int (zDist kd ln k (zPm vl j mo k))), (0, .int bx), (1, .int j), (2, .int mo), (3, .ref la), (4, .ref lg), (5, .ref lt), (7, .int (nI k))]) hx hb dL_tips_91 hl (by decide) rfl (fun ls hl => ?_)
              refine lv_iinc (v := nI k - 1) (lv' := [(7, .int (nI k - 1)), (6, .int (sm + ((zDist kd ln k (zPm vl j mo k)) * (zsn (zH kd (zPm vl j mo) (k + 1) + (if bx = 0 then 0 else 16)))))), (8, .int (zDist kd ln k (zPm vl j mo k))), (0, .int bx), (1, .int j), (2, .int mo), (3, .ref la), (4, .ref lg), (5, .ref lt)]) hx hb dL_tips_93 hl (k := 8) rfl (zdec _) (by decide) rfl (fun ls hl => ?_)
              refine lv_goto (tgt := 11) hx hb dL_tips_96 (by decide) ?_
              exact ih_11_1 k (sm + ((zDist kd ln k (zPm vl j mo k)) * (zsn (zH kd (zPm vl j mo) (k + 1) + (if bx = 0 then 0 else 16))))) (by first | assumption | omega | rfl | simp_all) (zback _ _ _ _ (by rw [← zXY_s]; exact hsm)) (by omega) _ _ hP hD hS _ (lv_sub hl [3, 4, 5, 6, 7, 8, 1, 0] rfl)
  exact lp_11_1 (n + 1) n 0 (by first | assumption | omega | rfl | simp_all) (Int32.zero_add _) (Nat.lt_succ_self _) _ _ hP hD hS _ (lv_sub hl [2, 3, 4, 5, 6, 7, 1, 0] rfl)

set_option maxHeartbeats 4000000 in
set_option maxRecDepth 100000 in
theorem c_L_far (l : Launch) (D : va_G) (cI cJ : ClassId) (j : Int32) (mo : Int32) (la : Nat) (fa : Nat → Int32) (lg : Nat) (fg : Nat → Int32) (lt : Nat) (ft : Nat → Int32) (n : Nat) (kd : Nat → Int32) (ln : Nat → Int32) (lo : Nat → Int32) (hi : Nat → Int32) (vl : Nat → Int32) (gx : Int32) (gy : Int32) (sl : Int32) (hA : zAr n fa kd ln lo hi vl) (hGs : zGs fg n gx gy sl) (hT : zTt ft) (hkd : zKd n kd) (hn : n ≤ 5) (hl9 : zLok n ln) (hp9 : zPok n (zPm vl j mo)) (hgx : zB 1000000 gx) (hgy : zB 1000000 gy) : zM l yL_far wsL_far 2 D cI cJ [.int j, .int mo, .ref la, .ref lg, .ref lt] [(la, .inl (cI, 25, .inl fa)), (lg, .inl (cI, 4, .inl fg)), (lt, .inl (cI, 17, .inl ft))] (fun (u : Int64) => (u = zFar gx gy (zX kd ln (zPm vl j mo) n) (zY kd ln (zPm vl j mo) n))) (fun (u : Int64) => some (.long u)) (fun (u : Int64) => [(la, .inl (cI, 25, .inl fa)), (lg, .inl (cI, 4, .inl fg)), (lt, .inl (cI, 17, .inl ft))]) := by
  refine zM_l (cc := cL_far) (maxL := 9) (r := fun (u : Int64) => u) (by decide) rfl (Nat.le_of_ble_eq_true rfl) ?_
  intro p e s m args below meth c ls A0 Q C hl hP hS hRet
  obtain ⟨⟨hx, hb, hml, hown, hts⟩, hG, hK, hD, hlocks⟩ := C
  have hl : lv_has ls 9 [(0, .int j), (1, .int mo), (2, .ref la), (3, .ref lg), (4, .ref lt)] := hl
  refine lv_iconst (v := 1) hx hb dL_far_0 (by decide) ?_
  refine lv_iload_n hx hb dL_far_1 rfl (lv_at hl 0 rfl) ?_
  refine lv_iload_n hx hb dL_far_2 rfl (lv_at hl 1 rfl) ?_
  refine lv_aload_n hx hb dL_far_3 rfl (lv_at hl 2 rfl) ?_
  refine lv_aload_n hx hb dL_far_4 rfl (lv_at hl 3 rfl) ?_
  refine lv_aload hx hb dL_far_5 (lv_at hl 4 rfl) ?_
  refine z_callS (As := [.int 1, .int j, .int mo, .ref la, .ref lg, .ref lt]) (rest := []) ⟨hx, hb, hml, hown, hts⟩ hG hK hP hD hS (c_L_tips l D cI cJ 1 j mo la fa lg fg lt ft n kd ln lo hi vl gx gy sl (by first | assumption | omega | decide) (by first | assumption | omega | decide) (by first | assumption | omega | decide) (by first | assumption | omega | decide) (by first | assumption | omega | decide)) (va_cwS 6 hts gL_far_L_tips rfl rfl rfl (by decide +kernel) ⟨Nat.le_of_ble_eq_true rfl, Nat.le_of_ble_eq_true rfl⟩) [0, 1, 2] (by decide) rfl (fun _ => rfl) rfl hl.1 rfl (Nat.le_of_ble_eq_true rfl) dL_far_7 ⟨Nat.le_of_ble_eq_true rfl, Nat.le_of_ble_eq_true rfl⟩ (fun u_1 H locs hu_2 hP hD hS => ?_)
  obtain ⟨r_3, rfl⟩ : ∃ z, z = u_1 := ⟨_, rfl⟩
  have hu_2 : (r_3 = zXY 1 kd ln (zPm vl j mo) n) := hu_2
  have e_4 := hu_2
  subst e_4
  have hP : va_P D vwCl [(la, .inl (cI, 25, .inl fa)), (lg, .inl (cI, 4, .inl fg)), (lt, .inl (cI, 17, .inl ft))] H := hP
  have hD : va_D A0 [(la, .inl (cI, 25, .inl fa)), (lg, .inl (cI, 4, .inl fg)), (lt, .inl (cI, 17, .inl ft))] := hD
  refine z_topi (y := zX kd ln (zPm vl j mo) n) (zXY_x _ _ _ _) ?_
  refine lv_aload_n hx hb dL_far_10 rfl (lv_at hl 3 rfl) ?_
  refine lv_iconst (v := nI 1) hx hb dL_far_11 (rfl) ?_
  refine z_iald hx hb hK hP 1 rfl (j := 1) (by omega) (by decide) dL_far_12 ?_
  refine z_topi (y := gx) (hGs.2.1) ?_
  refine lv_isub hx hb dL_far_13 ?_
  refine lv_i2l (v := ((zX kd ln (zPm vl j mo) n) - gx).toInt64) hx hb dL_far_14 rfl ?_
  refine lv_lstore (lv' := [(5, .long (((zX kd ln (zPm vl j mo) n) - gx).toInt64)), (0, .int j), (1, .int mo), (2, .ref la), (3, .ref lg), (4, .ref lt)]) hx hb dL_far_15 hl (by decide) rfl (fun ls hl => ?_)
  refine lv_iconst (v := 0) hx hb dL_far_17 (by decide) ?_
  refine lv_iload_n hx hb dL_far_18 rfl (lv_at hl 1 rfl) ?_
  refine lv_iload_n hx hb dL_far_19 rfl (lv_at hl 2 rfl) ?_
  refine lv_aload_n hx hb dL_far_20 rfl (lv_at hl 3 rfl) ?_
  refine lv_aload_n hx hb dL_far_21 rfl (lv_at hl 4 rfl) ?_
  refine lv_aload hx hb dL_far_22 (lv_at hl 5 rfl) ?_
  refine z_callS (As := [.int 0, .int j, .int mo, .ref la, .ref lg, .ref lt]) (rest := []) ⟨hx, hb, hml, hown, hts⟩ hG hK hP hD hS (c_L_tips l D cI cJ 0 j mo la fa lg fg lt ft n kd ln lo hi vl gx gy sl (by first | assumption | omega | decide) (by first | assumption | omega | decide) (by first | assumption | omega | decide) (by first | assumption | omega | decide) (by first | assumption | omega | decide)) (va_cwS 6 hts gL_far_L_tips rfl rfl rfl (by decide +kernel) ⟨Nat.le_of_ble_eq_true rfl, Nat.le_of_ble_eq_true rfl⟩) [0, 1, 2] (by decide) rfl (fun _ => rfl) rfl hl.1 rfl (Nat.le_of_ble_eq_true rfl) dL_far_24 ⟨Nat.le_of_ble_eq_true rfl, Nat.le_of_ble_eq_true rfl⟩ (fun u_5 H locs hu_6 hP hD hS => ?_)
  obtain ⟨r_7, rfl⟩ : ∃ z, z = u_5 := ⟨_, rfl⟩
  have hu_6 : (r_7 = zXY 0 kd ln (zPm vl j mo) n) := hu_6
  have e_8 := hu_6
  subst e_8
  have hP : va_P D vwCl [(la, .inl (cI, 25, .inl fa)), (lg, .inl (cI, 4, .inl fg)), (lt, .inl (cI, 17, .inl ft))] H := hP
  have hD : va_D A0 [(la, .inl (cI, 25, .inl fa)), (lg, .inl (cI, 4, .inl fg)), (lt, .inl (cI, 17, .inl ft))] := hD
  refine z_topi (y := zY kd ln (zPm vl j mo) n) (zXY_y _ _ _ _) ?_
  refine lv_aload_n hx hb dL_far_27 rfl (lv_at hl 4 rfl) ?_
  refine lv_iconst (v := nI 2) hx hb dL_far_28 (rfl) ?_
  refine z_iald hx hb hK hP 1 rfl (j := 2) (by omega) (by decide) dL_far_29 ?_
  refine z_topi (y := gy) (hGs.2.2.1) ?_
  refine lv_isub hx hb dL_far_30 ?_
  refine lv_i2l (v := ((zY kd ln (zPm vl j mo) n) - gy).toInt64) hx hb dL_far_31 rfl ?_
  refine lv_lstore (lv' := [(7, .long (((zY kd ln (zPm vl j mo) n) - gy).toInt64)), (5, .long (((zX kd ln (zPm vl j mo) n) - gx).toInt64)), (0, .int j), (1, .int mo), (2, .ref la), (3, .ref lg), (4, .ref lt)]) hx hb dL_far_32 hl (by decide) rfl (fun ls hl => ?_)
  refine lv_lload hx hb dL_far_34 (lv_at hl 1 rfl) ?_
  refine lv_lload hx hb dL_far_36 (lv_at hl 1 rfl) ?_
  refine lv_lmul hx hb dL_far_38 ?_
  refine lv_lload hx hb dL_far_39 (lv_at hl 0 rfl) ?_
  refine lv_lload hx hb dL_far_41 (lv_at hl 0 rfl) ?_
  refine lv_lmul hx hb dL_far_43 ?_
  refine lv_ladd hx hb dL_far_44 ?_
  exact hRet _ (((((zX kd ln (zPm vl j mo) n) - gx).toInt64) * (((zX kd ln (zPm vl j mo) n) - gx).toInt64)) + ((((zY kd ln (zPm vl j mo) n) - gy).toInt64) * (((zY kd ln (zPm vl j mo) n) - gy).toInt64))) _ _ _ (zFar_eq (zXb hn hl9 hp9) (zYb hn hl9 hp9) hgx hgy) hP hS dL_far_45

set_option maxHeartbeats 4000000 in
set_option maxRecDepth 100000 in
theorem c_L_poses (l : Launch) (D : va_G) (cI cJ : ClassId) (la : Nat) (fa : Nat → Int32) (lg : Nat) (fg : Nat → Int32) (n : Nat) (kd : Nat → Int32) (ln : Nat → Int32) (lo : Nat → Int32) (hi : Nat → Int32) (vl : Nat → Int32) (gx : Int32) (gy : Int32) (sl : Int32) (hA : zAr n fa kd ln lo hi vl) (hGs : zGs fg n gx gy sl) (hok : zOk n kd ln lo hi vl) : zM l yL_poses wsL_poses 0 D cI cJ [.ref la, .ref lg] [(la, .inl (cI, 25, .inl fa)), (lg, .inl (cI, 4, .inl fg))] (fun (u : Int32) => (u = nI (zMil lo hi n))) (fun (u : Int32) => some (.int u)) (fun (u : Int32) => [(la, .inl (cI, 25, .inl fa)), (lg, .inl (cI, 4, .inl fg))]) := by
  refine zM_i (cc := cL_poses) (maxL := 5) (r := fun (u : Int32) => u) (by decide) rfl (Nat.le_of_ble_eq_true rfl) ?_
  intro p e s m args below meth c ls A0 Q C hl hP hS hRet
  obtain ⟨⟨hx, hb, hml, hown, hts⟩, hG, hK, hD, hlocks⟩ := C
  have hl : lv_has ls 5 [(0, .ref la), (1, .ref lg)] := hl
  have hn := hok.1
  refine lv_lconst (v := 1) hx hb dL_poses_0 (by decide) ?_
  refine lv_lstore_n (lv' := [(2, .long 1), (0, .ref la), (1, .ref lg)]) hx hb dL_poses_1 rfl hl (by decide) rfl (fun ls hl => ?_)
  refine lv_iconst (v := 0) hx hb dL_poses_2 (by decide) ?_
  refine lv_istore (lv' := [(4, .int 0), (2, .long 1), (0, .ref la), (1, .ref lg)]) hx hb dL_poses_3 hl (by decide) rfl (fun ls hl => ?_)
  have lp_5_1 : ∀ (fu : Nat) (i : Nat), (i ≤ n) → (n - i < fu) → ∀ (H : Heap) (locs : List Loc), va_P D vwCl [(la, .inl (cI, 25, .inl fa)), (lg, .inl (cI, 4, .inl fg))] H → va_D A0 [(la, .inl (cI, 25, .inl fa)), (lg, .inl (cI, 4, .inl fg))] → va_S A0 s.heap H locs → ∀ (ls : Array Slot), lv_has ls 5 [(0, .ref la), (1, .ref lg), (2, .long (zPoses lo hi i)), (4, .int (nI i))] → W p l e (zRm 0 0 0) s m args below meth c H locs 0 0 Q (F0 m 5 ls []) := by
    intro fu
    induction fu with
    | zero => intro i hi1 hfu; exact absurd hfu (Nat.not_lt_zero _)
    | succ fu ih_5_1 =>
      intro i hi1 hfu H locs hP hD hS ls hl
      refine lv_iload hx hb dL_poses_5 (lv_at hl 3 rfl) ?_
      refine lv_aload_n hx hb dL_poses_7 rfl (lv_at hl 1 rfl) ?_
      refine lv_iconst (v := nI 0) hx hb dL_poses_8 (rfl) ?_
      refine z_iald hx hb hK hP 1 rfl (j := 0) (by omega) (by decide) dL_poses_9 ?_
      refine z_topi (y := nI n) (hGs.1) ?_
      refine lv_icmp_ge (tgt := 42) hx hb dL_poses_10 (by decide) (fun c_10 => ?_) (fun c_10 => ?_)
      · rw [nI_leI (by omega) (by omega)] at c_10
        obtain rfl : n = i := by omega
        refine lv_lload_n hx hb dL_poses_42 rfl (lv_at hl 2 rfl) ?_
        refine lv_ldc2 (own := RL) (v := 1000000) hx hb hown (hts (.constantLong RL 80 (1000000)) (by decide +kernel)) dL_poses_43 ?_
        refine W.lcmp hx hb dL_poses_46 ?_
        refine lv_if_le (tgt := 55) hx hb dL_poses_47 (by decide) (fun c_47 => ?_) (fun c_47 => ?_)
        · rw [lg_cmp_le] at c_47
          refine lv_lload_n hx hb dL_poses_55 rfl (lv_at hl 2 rfl) ?_
          refine lv_l2i (v := (zPoses lo hi n).toInt32) hx hb dL_poses_56 rfl ?_
          exact hRet _ ((zPoses lo hi n).toInt32) _ _ _ (by rw [← zMil_of hok]; first | rw [if_neg (Int64.not_lt.mpr c_47)] | rw [if_pos (Int64.not_le.mp c_47)]) hP hS dL_poses_57
        · rw [lg_cmp_le] at c_47
          refine lv_ldc (own := RL) (v := 1000000) hx hb hown (hts (.constant RL 82 (1000000)) (by decide +kernel)) dL_poses_50 ?_
          refine lv_goto (tgt := 57) hx hb dL_poses_52 (by decide) ?_
          exact hRet _ (1000000) _ _ _ (by rw [← zMil_of hok]; first | rw [if_neg (Int64.not_lt.mpr c_47)] | rw [if_pos (Int64.not_le.mp c_47)]) hP hS dL_poses_57
      · rw [nI_leI (by omega) (by omega)] at c_10
        refine lv_lload_n hx hb dL_poses_13 rfl (lv_at hl 2 rfl) ?_
        refine lv_aload_n hx hb dL_poses_14 rfl (lv_at hl 0 rfl) ?_
        refine lv_iconst (v := nI 5) hx hb dL_poses_15 (rfl) ?_
        refine lv_iload hx hb dL_poses_16 (lv_at hl 3 rfl) ?_
        refine lv_imul hx hb dL_poses_18 ?_
        refine z_topi (y := nI (5 * i)) (pk_mul 5 _) ?_
        refine lv_iconst (v := nI 3) hx hb dL_poses_19 (rfl) ?_
        refine lv_iadd hx hb dL_poses_20 ?_
        refine z_topi (y := nI (5 * i + 3)) (nI_add _ _) ?_
        refine z_iald hx hb hK hP 0 rfl (j := (5 * i + 3)) (by omega) (by decide) dL_poses_21 ?_
        refine z_topi (y := hi i) ((hA i (by omega)).2.2.2.1) ?_
        refine lv_aload_n hx hb dL_poses_22 rfl (lv_at hl 0 rfl) ?_
        refine lv_iconst (v := nI 5) hx hb dL_poses_23 (rfl) ?_
        refine lv_iload hx hb dL_poses_24 (lv_at hl 3 rfl) ?_
        refine lv_imul hx hb dL_poses_26 ?_
        refine z_topi (y := nI (5 * i)) (pk_mul 5 _) ?_
        refine lv_iconst (v := nI 2) hx hb dL_poses_27 (rfl) ?_
        refine lv_iadd hx hb dL_poses_28 ?_
        refine z_topi (y := nI (5 * i + 2)) (nI_add _ _) ?_
        refine z_iald hx hb hK hP 0 rfl (j := (5 * i + 2)) (by omega) (by decide) dL_poses_29 ?_
        refine z_topi (y := lo i) ((hA i (by omega)).2.2.1) ?_
        refine lv_isub hx hb dL_poses_30 ?_
        refine lv_iconst (v := 1) hx hb dL_poses_31 (by decide) ?_
        refine lv_iadd hx hb dL_poses_32 ?_
        refine lv_i2l (v := (((hi i) - (lo i)) + 1).toInt64) hx hb dL_poses_33 rfl ?_
        refine lv_lmul hx hb dL_poses_34 ?_
        refine lv_lstore_n (lv' := [(2, .long ((zPoses lo hi i) * ((((hi i) - (lo i)) + 1).toInt64))), (0, .ref la), (1, .ref lg), (4, .int (nI i))]) hx hb dL_poses_35 rfl hl (by decide) rfl (fun ls hl => ?_)
        refine lv_iinc (v := nI (i + 1)) (lv' := [(4, .int (nI (i + 1))), (2, .long ((zPoses lo hi i) * ((((hi i) - (lo i)) + 1).toInt64))), (0, .ref la), (1, .ref lg)]) hx hb dL_poses_36 hl (k := 3) rfl ((nI_succ _).symm) (by decide) rfl (fun ls hl => ?_)
        refine lv_goto (tgt := 5) hx hb dL_poses_39 (by decide) ?_
        exact ih_5_1 (i + 1) (by first | assumption | omega | rfl | simp_all) (by omega) _ _ hP hD hS _ (lv_sub hl [2, 3, 1, 0] rfl)
  exact lp_5_1 ((n - 0) + 1) 0 (by first | assumption | omega | rfl | simp_all) (Nat.lt_succ_self _) _ _ hP hD hS _ (lv_sub hl [2, 3, 1, 0] rfl)

set_option maxHeartbeats 4000000 in
set_option maxRecDepth 100000 in
theorem c_L_lays (l : Launch) (D : va_G) (cI cJ : ClassId) (q : Nat) (lb : Nat) (fb : Nat → Int32) (lg : Nat) (fg : Nat → Int32) (n : Nat) (kd : Nat → Int32) (ln : Nat → Int32) (lo : Nat → Int32) (hi : Nat → Int32) (vl : Nat → Int32) (pv : Nat → Int32) (gx : Int32) (gy : Int32) (sl : Int32) (hB : zAr n fb kd ln lo hi pv) (hGs : zGs fg n gx gy sl) (hok : zOk n kd ln lo hi vl) (hq : q ≤ 40000) : zM l yL_lays wsL_lays 0 D cI cJ [.int (nI q), .ref lb, .ref lg] [(lb, .inl (cI, 25, .inl fb)), (lg, .inl (cI, 4, .inl fg))] (fun (u : (Nat → Int32)) => (zAr n u kd ln lo hi (zPk lo hi n q))) (fun (u : (Nat → Int32)) => none) (fun (u : (Nat → Int32)) => [(lb, .inl (cI, 25, .inl u)), (lg, .inl (cI, 4, .inl fg))]) := by
  refine zM_v (cc := cL_lays) (maxL := 6) (by decide) rfl (Nat.le_of_ble_eq_true rfl) ?_
  intro p e s m args below meth c ls A0 Q C hl hP hS hRet
  obtain ⟨⟨hx, hb, hml, hown, hts⟩, hG, hK, hD, hlocks⟩ := C
  have hl : lv_has ls 6 [(0, .int (nI q)), (1, .ref lb), (2, .ref lg)] := hl
  have hn := hok.1
  refine lv_iload_n hx hb dL_lays_0 rfl (lv_at hl 0 rfl) ?_
  refine lv_istore_n (lv' := [(3, .int (nI q)), (0, .int (nI q)), (1, .ref lb), (2, .ref lg)]) hx hb dL_lays_1 rfl hl (by decide) rfl (fun ls hl => ?_)
  refine lv_aload_n hx hb dL_lays_2 rfl (lv_at hl 3 rfl) ?_
  refine lv_iconst (v := nI 0) hx hb dL_lays_3 (rfl) ?_
  refine z_iald hx hb hK hP 1 rfl (j := 0) (by omega) (by decide) dL_lays_4 ?_
  refine z_topi (y := nI n) (hGs.1) ?_
  refine lv_iconst (v := 1) hx hb dL_lays_5 (by decide) ?_
  refine lv_isub hx hb dL_lays_6 ?_
  refine lv_istore (lv' := [(4, .int (nI n - 1)), (3, .int (nI q)), (0, .int (nI q)), (1, .ref lb), (2, .ref lg)]) hx hb dL_lays_7 hl (by decide) rfl (fun ls hl => ?_)
  have lp_9_1 : ∀ (fu : Nat) (i : Nat) (bx : Nat → Int32) (px : Nat → Int32), (i ≤ n) → (zAr n bx kd ln lo hi px) → (∀ j, i ≤ j → j < n → px j = zPk lo hi n q j) → (i < fu) → ∀ (H : Heap) (locs : List Loc), va_P D vwCl [(lb, .inl (cI, 25, .inl bx)), (lg, .inl (cI, 4, .inl fg))] H → va_D A0 [(lb, .inl (cI, 25, .inl bx)), (lg, .inl (cI, 4, .inl fg))] → va_S A0 s.heap H locs → ∀ (ls : Array Slot), lv_has ls 6 [(1, .ref lb), (2, .ref lg), (3, .int (nI (q / zMs lo hi (n - i) i))), (4, .int (nI i - 1))] → W p l e (zRm 0 0 0) s m args below meth c H locs 0 0 Q (F0 m 9 ls []) := by
    intro fu
    induction fu with
    | zero => intro i bx px hi1 hbx hpx hfu; exact absurd hfu (Nat.not_lt_zero _)
    | succ fu ih_9_1 =>
      intro i bx px hi1 hbx hpx hfu H locs hP hD hS ls hl
      refine lv_iload hx hb dL_lays_9 (lv_at hl 3 rfl) ?_
      refine lv_if_lt (tgt := 67) hx hb dL_lays_11 (by decide) (fun c_11 => ?_) (fun c_11 => ?_)
      · have c_11 := (zlt0_pred (by omega)).mp c_11
        subst c_11
        exact hRet _ (bx) _ _ _ (zAr_congr hbx (fun j hj => hpx j (Nat.zero_le j) hj)) hP hS dL_lays_67
      · have c_11 : ¬ i = 0 := fun h => c_11 ((zlt0_pred (by omega)).mpr h)
        obtain ⟨k, rfl⟩ : ∃ k, i = k + 1 := ⟨i - 1, by omega⟩
        rw [nI_pred] at hl
        refine lv_aload_n hx hb dL_lays_14 rfl (lv_at hl 0 rfl) ?_
        refine lv_iconst (v := nI 5) hx hb dL_lays_15 (rfl) ?_
        refine lv_iload hx hb dL_lays_16 (lv_at hl 3 rfl) ?_
        refine lv_imul hx hb dL_lays_18 ?_
        refine z_topi (y := nI (5 * k)) (pk_mul 5 _) ?_
        refine lv_iconst (v := nI 3) hx hb dL_lays_19 (rfl) ?_
        refine lv_iadd hx hb dL_lays_20 ?_
        refine z_topi (y := nI (5 * k + 3)) (nI_add _ _) ?_
        refine z_iald hx hb hK hP 0 rfl (j := (5 * k + 3)) (by omega) (by decide) dL_lays_21 ?_
        refine z_topi (y := hi k) ((hbx k (by omega)).2.2.2.1) ?_
        refine lv_aload_n hx hb dL_lays_22 rfl (lv_at hl 0 rfl) ?_
        refine lv_iconst (v := nI 5) hx hb dL_lays_23 (rfl) ?_
        refine lv_iload hx hb dL_lays_24 (lv_at hl 3 rfl) ?_
        refine lv_imul hx hb dL_lays_26 ?_
        refine z_topi (y := nI (5 * k)) (pk_mul 5 _) ?_
        refine lv_iconst (v := nI 2) hx hb dL_lays_27 (rfl) ?_
        refine lv_iadd hx hb dL_lays_28 ?_
        refine z_topi (y := nI (5 * k + 2)) (nI_add _ _) ?_
        refine z_iald hx hb hK hP 0 rfl (j := (5 * k + 2)) (by omega) (by decide) dL_lays_29 ?_
        refine z_topi (y := lo k) ((hbx k (by omega)).2.2.1) ?_
        refine lv_isub hx hb dL_lays_30 ?_
        refine lv_iconst (v := 1) hx hb dL_lays_31 (by decide) ?_
        refine lv_iadd hx hb dL_lays_32 ?_
        refine z_topi (y := nI (zWd lo hi k)) (zWd_nI hok (by omega)) ?_
        refine lv_istore (lv' := [(5, .int (nI (zWd lo hi k))), (1, .ref lb), (2, .ref lg), (3, .int (nI (q / zMs lo hi (n - (k + 1)) (k + 1)))), (4, .int (nI k))]) hx hb dL_lays_33 hl (by decide) rfl (fun ls hl => ?_)
        refine lv_aload_n hx hb dL_lays_35 rfl (lv_at hl 1 rfl) ?_
        refine lv_iconst (v := nI 5) hx hb dL_lays_36 (rfl) ?_
        refine lv_iload hx hb dL_lays_37 (lv_at hl 4 rfl) ?_
        refine lv_imul hx hb dL_lays_39 ?_
        refine z_topi (y := nI (5 * k)) (pk_mul 5 _) ?_
        refine lv_iconst (v := nI 4) hx hb dL_lays_40 (rfl) ?_
        refine lv_iadd hx hb dL_lays_41 ?_
        refine z_topi (y := nI (5 * k + 4)) (nI_add _ _) ?_
        refine lv_aload_n hx hb dL_lays_42 rfl (lv_at hl 1 rfl) ?_
        refine lv_iconst (v := nI 5) hx hb dL_lays_43 (rfl) ?_
        refine lv_iload hx hb dL_lays_44 (lv_at hl 4 rfl) ?_
        refine lv_imul hx hb dL_lays_46 ?_
        refine z_topi (y := nI (5 * k)) (pk_mul 5 _) ?_
        refine lv_iconst (v := nI 2) hx hb dL_lays_47 (rfl) ?_
        refine lv_iadd hx hb dL_lays_48 ?_
        refine z_topi (y := nI (5 * k + 2)) (nI_add _ _) ?_
        refine z_iald hx hb hK hP 0 rfl (j := (5 * k + 2)) (by omega) (by decide) dL_lays_49 ?_
        refine z_topi (y := lo k) ((hbx k (by omega)).2.2.1) ?_
        refine lv_iload_n hx hb dL_lays_50 rfl (lv_at hl 3 rfl) ?_
        refine lv_iload hx hb dL_lays_51 (lv_at hl 0 rfl) ?_
        refine lv_irem hx hb dL_lays_53 (zWd_nz hok (by omega)) ?_
        refine z_topi (y := nI (q / zMs lo hi (n - (k + 1)) (k + 1) % zWd lo hi k)) (zMk_rem hok (by omega) hq) ?_
        refine lv_iadd hx hb dL_lays_54 ?_
        refine z_topi (y := zPk lo hi n q k) (rfl) ?_
        refine z_iast hx hb hK hP hD hS 0 rfl (j := (5 * k + 4)) (by omega) (by decide) dL_lays_55 (fun H locs hP hD hS => ?_)
        have hP : va_P D vwCl [(lb, .inl (cI, 25, .inl (upd bx (5 * k + 4) (zPk lo hi n q k)))), (lg, .inl (cI, 4, .inl fg))] H := hP
        have hD : va_D A0 [(lb, .inl (cI, 25, .inl (upd bx (5 * k + 4) (zPk lo hi n q k)))), (lg, .inl (cI, 4, .inl fg))] := hD
        refine lv_iload_n hx hb dL_lays_56 rfl (lv_at hl 3 rfl) ?_
        refine lv_iload hx hb dL_lays_57 (lv_at hl 0 rfl) ?_
        refine lv_idiv hx hb dL_lays_59 (zWd_nz hok (by omega)) ?_
        refine z_topi (y := nI (q / zMs lo hi (n - k) k)) (zMk_div hok (by omega) hq) ?_
        refine lv_istore_n (lv' := [(3, .int (nI (q / zMs lo hi (n - k) k))), (5, .int (nI (zWd lo hi k))), (1, .ref lb), (2, .ref lg), (4, .int (nI k))]) hx hb dL_lays_60 rfl hl (by decide) rfl (fun ls hl => ?_)
        refine lv_iinc (v := nI k - 1) (lv' := [(4, .int (nI k - 1)), (3, .int (nI (q / zMs lo hi (n - k) k))), (5, .int (nI (zWd lo hi k))), (1, .ref lb), (2, .ref lg)]) hx hb dL_lays_61 hl (k := 4) rfl (zdec _) (by decide) rfl (fun ls hl => ?_)
        refine lv_goto (tgt := 9) hx hb dL_lays_64 (by decide) ?_
        exact ih_9_1 k (upd bx (5 * k + 4) (zPk lo hi n q k)) (upd px k (zPk lo hi n q k)) (by first | assumption | omega | rfl | simp_all) (zAr_v hbx (by omega)) (zpk_up hpx rfl) (by omega) _ _ hP hD hS _ (lv_sub hl [3, 4, 1, 0] rfl)
  rw [zMk_0 lo hi n q] at hl
  exact lp_9_1 (n + 1) n fb pv (by first | assumption | omega | rfl | simp_all) (hB) (fun j h1 h2 => absurd h2 (Nat.not_lt.mpr h1)) (Nat.lt_succ_self _) _ _ hP hD hS _ (lv_sub hl [3, 4, 1, 0] rfl)

set_option maxHeartbeats 4000000 in
set_option maxRecDepth 100000 in
theorem c_L_key (l : Launch) (D : va_G) (cI cJ : ClassId) (bq : Int32) (lb : Nat) (fb : Nat → Int32) (la : Nat) (fa : Nat → Int32) (lg : Nat) (fg : Nat → Int32) (lt : Nat) (ft : Nat → Int32) (n : Nat) (kd : Nat → Int32) (ln : Nat → Int32) (lo : Nat → Int32) (hi : Nat → Int32) (vl : Nat → Int32) (pv : Nat → Int32) (gx : Int32) (gy : Int32) (sl : Int32) (hB : zAr n fb kd ln lo hi pv) (hA : zAr n fa kd ln lo hi vl) (hGs : zGs fg n gx gy sl) (hT : zTt ft) (hkd : zKd n kd) (hok : zOk n kd ln lo hi vl) (hpv : zPok n pv) (hgx : zB 1000000 gx) (hgy : zB 1000000 gy) (hsl : 0 ≤ sl.toInt ∧ sl.toInt ≤ 100000) (hbq : zB3 bq) : zM l yL_key wsL_key 2 D cI cJ [.int bq, .ref lb, .ref la, .ref lg, .ref lt] [(lb, .inl (cI, 25, .inl fb)), (la, .inl (cI, 25, .inl fa)), (lg, .inl (cI, 4, .inl fg)), (lt, .inl (cI, 17, .inl ft))] (fun (u : Int64) => (u = if zIn sl gx gy (zX kd ln pv n) (zY kd ln pv n) = 1 then zKy kd ln vl n gx gy bq pv else -1)) (fun (u : Int64) => some (.long u)) (fun (u : Int64) => [(lb, .inl (cI, 25, .inl fb)), (la, .inl (cI, 25, .inl fa)), (lg, .inl (cI, 4, .inl fg)), (lt, .inl (cI, 17, .inl ft))]) := by
  refine zM_l (cc := cL_key) (maxL := 9) (r := fun (u : Int64) => u) (by decide) rfl (Nat.le_of_ble_eq_true rfl) ?_
  intro p e s m args below meth c ls A0 Q C hl hP hS hRet
  obtain ⟨⟨hx, hb, hml, hown, hts⟩, hG, hK, hD, hlocks⟩ := C
  have hl : lv_has ls 9 [(0, .int bq), (1, .ref lb), (2, .ref la), (3, .ref lg), (4, .ref lt)] := hl
  have hn := hok.1
  have hX9 : zB 2000000 (zX kd ln pv n) := zXb hn hok.l hpv
  have hY9 : zB 2000000 (zY kd ln pv n) := zYb hn hok.l hpv
  refine lv_iconst (v := 1) hx hb dL_key_0 (by decide) ?_
  refine lv_iconst (v := (-1)) hx hb dL_key_1 (by decide) ?_
  refine lv_iconst (v := 0) hx hb dL_key_2 (by decide) ?_
  refine lv_aload_n hx hb dL_key_3 rfl (lv_at hl 1 rfl) ?_
  refine lv_aload_n hx hb dL_key_4 rfl (lv_at hl 3 rfl) ?_
  refine lv_aload hx hb dL_key_5 (lv_at hl 4 rfl) ?_
  refine z_callS (As := [.int 1, .int (-1), .int 0, .ref lb, .ref lg, .ref lt]) (rest := []) ⟨hx, hb, hml, hown, hts⟩ hG hK hP hD hS (c_L_tips l D cI cJ 1 (-1) 0 lb fb lg fg lt ft n kd ln lo hi pv gx gy sl (hB) (by first | assumption | omega | decide) (by first | assumption | omega | decide) (by first | assumption | omega | decide) (by first | assumption | omega | decide)) (va_cwS 6 hts gL_key_L_tips rfl rfl rfl (by decide +kernel) ⟨Nat.le_of_ble_eq_true rfl, Nat.le_of_ble_eq_true rfl⟩) [0, 2, 3] (by decide) rfl (fun _ => rfl) rfl hl.1 rfl (Nat.le_of_ble_eq_true rfl) dL_key_7 ⟨Nat.le_of_ble_eq_true rfl, Nat.le_of_ble_eq_true rfl⟩ (fun u_1 H locs hu_2 hP hD hS => ?_)
  obtain ⟨r_3, rfl⟩ : ∃ z, z = u_1 := ⟨_, rfl⟩
  have hu_2 : (r_3 = zXY 1 kd ln (zPm pv (-1) 0) n) := hu_2
  have e_4 := hu_2
  subst e_4
  have hP : va_P D vwCl [(lb, .inl (cI, 25, .inl fb)), (la, .inl (cI, 25, .inl fa)), (lg, .inl (cI, 4, .inl fg)), (lt, .inl (cI, 17, .inl ft))] H := hP
  have hD : va_D A0 [(lb, .inl (cI, 25, .inl fb)), (la, .inl (cI, 25, .inl fa)), (lg, .inl (cI, 4, .inl fg)), (lt, .inl (cI, 17, .inl ft))] := hD
  refine z_topi (y := zX kd ln pv n) ((zXY_x _ _ _ _).trans (zX_congr (zPm_m1 hn 0))) ?_
  refine lv_aload_n hx hb dL_key_10 rfl (lv_at hl 3 rfl) ?_
  refine lv_iconst (v := nI 1) hx hb dL_key_11 (rfl) ?_
  refine z_iald hx hb hK hP 2 rfl (j := 1) (by omega) (by decide) dL_key_12 ?_
  refine z_topi (y := gx) (hGs.2.1) ?_
  refine lv_isub hx hb dL_key_13 ?_
  refine lv_istore (lv' := [(5, .int ((zX kd ln pv n) - gx)), (0, .int bq), (1, .ref lb), (2, .ref la), (3, .ref lg), (4, .ref lt)]) hx hb dL_key_14 hl (by decide) rfl (fun ls hl => ?_)
  refine lv_iconst (v := 0) hx hb dL_key_16 (by decide) ?_
  refine lv_iconst (v := (-1)) hx hb dL_key_17 (by decide) ?_
  refine lv_iconst (v := 0) hx hb dL_key_18 (by decide) ?_
  refine lv_aload_n hx hb dL_key_19 rfl (lv_at hl 2 rfl) ?_
  refine lv_aload_n hx hb dL_key_20 rfl (lv_at hl 4 rfl) ?_
  refine lv_aload hx hb dL_key_21 (lv_at hl 5 rfl) ?_
  refine z_callS (As := [.int 0, .int (-1), .int 0, .ref lb, .ref lg, .ref lt]) (rest := []) ⟨hx, hb, hml, hown, hts⟩ hG hK hP hD hS (c_L_tips l D cI cJ 0 (-1) 0 lb fb lg fg lt ft n kd ln lo hi pv gx gy sl (hB) (by first | assumption | omega | decide) (by first | assumption | omega | decide) (by first | assumption | omega | decide) (by first | assumption | omega | decide)) (va_cwS 6 hts gL_key_L_tips rfl rfl rfl (by decide +kernel) ⟨Nat.le_of_ble_eq_true rfl, Nat.le_of_ble_eq_true rfl⟩) [0, 2, 3] (by decide) rfl (fun _ => rfl) rfl hl.1 rfl (Nat.le_of_ble_eq_true rfl) dL_key_23 ⟨Nat.le_of_ble_eq_true rfl, Nat.le_of_ble_eq_true rfl⟩ (fun u_5 H locs hu_6 hP hD hS => ?_)
  obtain ⟨r_7, rfl⟩ : ∃ z, z = u_5 := ⟨_, rfl⟩
  have hu_6 : (r_7 = zXY 0 kd ln (zPm pv (-1) 0) n) := hu_6
  have e_8 := hu_6
  subst e_8
  have hP : va_P D vwCl [(lb, .inl (cI, 25, .inl fb)), (la, .inl (cI, 25, .inl fa)), (lg, .inl (cI, 4, .inl fg)), (lt, .inl (cI, 17, .inl ft))] H := hP
  have hD : va_D A0 [(lb, .inl (cI, 25, .inl fb)), (la, .inl (cI, 25, .inl fa)), (lg, .inl (cI, 4, .inl fg)), (lt, .inl (cI, 17, .inl ft))] := hD
  refine z_topi (y := zY kd ln pv n) ((zXY_y _ _ _ _).trans (zY_congr (zPm_m1 hn 0))) ?_
  refine lv_aload_n hx hb dL_key_26 rfl (lv_at hl 4 rfl) ?_
  refine lv_iconst (v := nI 2) hx hb dL_key_27 (rfl) ?_
  refine z_iald hx hb hK hP 2 rfl (j := 2) (by omega) (by decide) dL_key_28 ?_
  refine z_topi (y := gy) (hGs.2.2.1) ?_
  refine lv_isub hx hb dL_key_29 ?_
  refine lv_istore (lv' := [(6, .int ((zY kd ln pv n) - gy)), (5, .int ((zX kd ln pv n) - gx)), (0, .int bq), (1, .ref lb), (2, .ref la), (3, .ref lg), (4, .ref lt)]) hx hb dL_key_30 hl (by decide) rfl (fun ls hl => ?_)
  refine lv_iload hx hb dL_key_32 (lv_at hl 1 rfl) ?_
  refine lv_aload_n hx hb dL_key_34 rfl (lv_at hl 5 rfl) ?_
  refine lv_iconst (v := nI 3) hx hb dL_key_35 (rfl) ?_
  refine z_iald hx hb hK hP 2 rfl (j := 3) (by omega) (by decide) dL_key_36 ?_
  refine z_topi (y := sl) (hGs.2.2.2) ?_
  refine lv_icmp_gt (tgt := 66) hx hb dL_key_37 (by decide) (fun c_37 => ?_) (fun c_37 => ?_)
  · refine lv_ldc2 (own := RL) (v := -1) hx hb hown (hts (.constantLong RL 83 (-1)) (by decide +kernel)) dL_key_66 ?_
    exact hRet _ (-1) _ _ _ (by rw [if_neg (fun h => (zIn_law hsl hX9 hY9 hgx hgy).mp h (by first | exact Or.inl c_37 | exact Or.inr (Or.inl c_46) | exact Or.inr (Or.inr (Or.inl c_54)) | exact Or.inr (Or.inr (Or.inr (Int32.not_le.mp c_63)))))]) hP hS dL_key_69
  · refine lv_iload hx hb dL_key_40 (lv_at hl 1 rfl) ?_
    refine lv_aload_n hx hb dL_key_42 rfl (lv_at hl 5 rfl) ?_
    refine lv_iconst (v := nI 3) hx hb dL_key_43 (rfl) ?_
    refine z_iald hx hb hK hP 2 rfl (j := 3) (by omega) (by decide) dL_key_44 ?_
    refine z_topi (y := sl) (hGs.2.2.2) ?_
    refine lv_ineg hx hb dL_key_45 ?_
    refine lv_icmp_lt (tgt := 66) hx hb dL_key_46 (by decide) (fun c_46 => ?_) (fun c_46 => ?_)
    · refine lv_ldc2 (own := RL) (v := -1) hx hb hown (hts (.constantLong RL 83 (-1)) (by decide +kernel)) dL_key_66 ?_
      exact hRet _ (-1) _ _ _ (by rw [if_neg (fun h => (zIn_law hsl hX9 hY9 hgx hgy).mp h (by first | exact Or.inl c_37 | exact Or.inr (Or.inl c_46) | exact Or.inr (Or.inr (Or.inl c_54)) | exact Or.inr (Or.inr (Or.inr (Int32.not_le.mp c_63)))))]) hP hS dL_key_69
    · refine lv_iload hx hb dL_key_49 (lv_at hl 0 rfl) ?_
      refine lv_aload_n hx hb dL_key_51 rfl (lv_at hl 5 rfl) ?_
      refine lv_iconst (v := nI 3) hx hb dL_key_52 (rfl) ?_
      refine z_iald hx hb hK hP 2 rfl (j := 3) (by omega) (by decide) dL_key_53 ?_
      refine z_topi (y := sl) (hGs.2.2.2) ?_
      refine lv_icmp_gt (tgt := 66) hx hb dL_key_54 (by decide) (fun c_54 => ?_) (fun c_54 => ?_)
      · refine lv_ldc2 (own := RL) (v := -1) hx hb hown (hts (.constantLong RL 83 (-1)) (by decide +kernel)) dL_key_66 ?_
        exact hRet _ (-1) _ _ _ (by rw [if_neg (fun h => (zIn_law hsl hX9 hY9 hgx hgy).mp h (by first | exact Or.inl c_37 | exact Or.inr (Or.inl c_46) | exact Or.inr (Or.inr (Or.inl c_54)) | exact Or.inr (Or.inr (Or.inr (Int32.not_le.mp c_63)))))]) hP hS dL_key_69
      · refine lv_iload hx hb dL_key_57 (lv_at hl 0 rfl) ?_
        refine lv_aload_n hx hb dL_key_59 rfl (lv_at hl 5 rfl) ?_
        refine lv_iconst (v := nI 3) hx hb dL_key_60 (rfl) ?_
        refine z_iald hx hb hK hP 2 rfl (j := 3) (by omega) (by decide) dL_key_61 ?_
        refine z_topi (y := sl) (hGs.2.2.2) ?_
        refine lv_ineg hx hb dL_key_62 ?_
        refine lv_icmp_ge (tgt := 70) hx hb dL_key_63 (by decide) (fun c_63 => ?_) (fun c_63 => ?_)
        · have hin := (zIn_law hsl hX9 hY9 hgx hgy).mpr (fun h => h.elim c_37 (fun h => h.elim c_46 (fun h => h.elim c_54 (fun h => absurd h (Int32.not_lt.mpr c_63)))))
          refine lv_iload_n hx hb dL_key_70 rfl (lv_at hl 2 rfl) ?_
          refine lv_if_ne (tgt := 90) hx hb dL_key_71 (by decide) (fun c_71 => ?_) (fun c_71 => ?_)
          · refine lv_iload_n hx hb dL_key_90 rfl (lv_at hl 2 rfl) ?_
            refine lv_iconst (v := 2) hx hb dL_key_91 (by decide) ?_
            refine lv_icmp_ne (tgt := 143) hx hb dL_key_92 (by decide) (fun c_92 => ?_) (fun c_92 => ?_)
            · have hb1 : bq = 1 := (hbq.resolve_left c_71).resolve_right c_92
              refine lv_iconst (v := 0) hx hb dL_key_143 (by decide) ?_
              refine lv_istore (lv' := [(7, .int 0), (6, .int ((zY kd ln pv n) - gy)), (5, .int ((zX kd ln pv n) - gx)), (0, .int bq), (1, .ref lb), (2, .ref la), (3, .ref lg), (4, .ref lt)]) hx hb dL_key_144 hl (by decide) rfl (fun ls hl => ?_)
              refine lv_iconst (v := 0) hx hb dL_key_146 (by decide) ?_
              refine lv_istore (lv' := [(8, .int 0), (7, .int 0), (6, .int ((zY kd ln pv n) - gy)), (5, .int ((zX kd ln pv n) - gx)), (0, .int bq), (1, .ref lb), (2, .ref la), (3, .ref lg), (4, .ref lt)]) hx hb dL_key_147 hl (by decide) rfl (fun ls hl => ?_)
              have lp_149_9 : ∀ (fu : Nat) (i : Nat), (i ≤ n) → (n - i < fu) → ∀ (H : Heap) (locs : List Loc), va_P D vwCl [(lb, .inl (cI, 25, .inl fb)), (la, .inl (cI, 25, .inl fa)), (lg, .inl (cI, 4, .inl fg)), (lt, .inl (cI, 17, .inl ft))] H → va_D A0 [(lb, .inl (cI, 25, .inl fb)), (la, .inl (cI, 25, .inl fa)), (lg, .inl (cI, 4, .inl fg)), (lt, .inl (cI, 17, .inl ft))] → va_S A0 s.heap H locs → ∀ (ls : Array Slot), lv_has ls 9 [(1, .ref lb), (2, .ref la), (3, .ref lg), (7, .int (zWy vl pv i)), (8, .int (nI i))] → W p l e (zRm 2 0 0) s m args below meth c H locs 0 0 Q (F0 m 149 ls []) := by
                intro fu
                induction fu with
                | zero => intro i hi1 hfu; exact absurd hfu (Nat.not_lt_zero _)
                | succ fu ih_149_9 =>
                  intro i hi1 hfu H locs hP hD hS ls hl
                  refine lv_iload hx hb dL_key_149 (lv_at hl 4 rfl) ?_
                  refine lv_aload_n hx hb dL_key_151 rfl (lv_at hl 2 rfl) ?_
                  refine lv_iconst (v := nI 0) hx hb dL_key_152 (rfl) ?_
                  refine z_iald hx hb hK hP 2 rfl (j := 0) (by omega) (by decide) dL_key_153 ?_
                  refine z_topi (y := nI n) (hGs.1) ?_
                  refine lv_icmp_ge (tgt := 224) hx hb dL_key_154 (by decide) (fun c_154 => ?_) (fun c_154 => ?_)
                  · rw [nI_leI (by omega) (by omega)] at c_154
                    obtain rfl : n = i := by omega
                    refine lv_iload hx hb dL_key_224 (lv_at hl 3 rfl) ?_
                    refine lv_i2l (v := (zWy vl pv n).toInt64) hx hb dL_key_226 rfl ?_
                    exact hRet _ ((zWy vl pv n).toInt64) _ _ _ (by rw [if_pos hin]; unfold zKy; rw [if_neg c_71, if_pos hb1]) hP hS dL_key_227
                  · rw [nI_leI (by omega) (by omega)] at c_154
                    refine lv_iload hx hb dL_key_157 (lv_at hl 3 rfl) ?_
                    refine lv_aload_n hx hb dL_key_159 rfl (lv_at hl 0 rfl) ?_
                    refine lv_iconst (v := nI 5) hx hb dL_key_160 (rfl) ?_
                    refine lv_iload hx hb dL_key_161 (lv_at hl 4 rfl) ?_
                    refine lv_imul hx hb dL_key_163 ?_
                    refine z_topi (y := nI (5 * i)) (pk_mul 5 _) ?_
                    refine lv_iconst (v := nI 4) hx hb dL_key_164 (rfl) ?_
                    refine lv_iadd hx hb dL_key_165 ?_
                    refine z_topi (y := nI (5 * i + 4)) (nI_add _ _) ?_
                    refine z_iald hx hb hK hP 0 rfl (j := (5 * i + 4)) (by omega) (by decide) dL_key_166 ?_
                    refine z_topi (y := pv i) ((hB i (by omega)).2.2.2.2) ?_
                    refine lv_aload_n hx hb dL_key_167 rfl (lv_at hl 1 rfl) ?_
                    refine lv_iconst (v := nI 5) hx hb dL_key_168 (rfl) ?_
                    refine lv_iload hx hb dL_key_169 (lv_at hl 4 rfl) ?_
                    refine lv_imul hx hb dL_key_171 ?_
                    refine z_topi (y := nI (5 * i)) (pk_mul 5 _) ?_
                    refine lv_iconst (v := nI 4) hx hb dL_key_172 (rfl) ?_
                    refine lv_iadd hx hb dL_key_173 ?_
                    refine z_topi (y := nI (5 * i + 4)) (nI_add _ _) ?_
                    refine z_iald hx hb hK hP 1 rfl (j := (5 * i + 4)) (by omega) (by decide) dL_key_174 ?_
                    refine z_topi (y := vl i) ((hA i (by omega)).2.2.2.2) ?_
                    refine lv_icmp_le (tgt := 198) hx hb dL_key_175 (by decide) (fun c_175 => ?_) (fun c_175 => ?_)
                    · refine lv_aload_n hx hb dL_key_198 rfl (lv_at hl 1 rfl) ?_
                      refine lv_iconst (v := nI 5) hx hb dL_key_199 (rfl) ?_
                      refine lv_iload hx hb dL_key_200 (lv_at hl 4 rfl) ?_
                      refine lv_imul hx hb dL_key_202 ?_
                      refine z_topi (y := nI (5 * i)) (pk_mul 5 _) ?_
                      refine lv_iconst (v := nI 4) hx hb dL_key_203 (rfl) ?_
                      refine lv_iadd hx hb dL_key_204 ?_
                      refine z_topi (y := nI (5 * i + 4)) (nI_add _ _) ?_
                      refine z_iald hx hb hK hP 1 rfl (j := (5 * i + 4)) (by omega) (by decide) dL_key_205 ?_
                      refine z_topi (y := vl i) ((hA i (by omega)).2.2.2.2) ?_
                      refine lv_aload_n hx hb dL_key_206 rfl (lv_at hl 0 rfl) ?_
                      refine lv_iconst (v := nI 5) hx hb dL_key_207 (rfl) ?_
                      refine lv_iload hx hb dL_key_208 (lv_at hl 4 rfl) ?_
                      refine lv_imul hx hb dL_key_210 ?_
                      refine z_topi (y := nI (5 * i)) (pk_mul 5 _) ?_
                      refine lv_iconst (v := nI 4) hx hb dL_key_211 (rfl) ?_
                      refine lv_iadd hx hb dL_key_212 ?_
                      refine z_topi (y := nI (5 * i + 4)) (nI_add _ _) ?_
                      refine z_iald hx hb hK hP 0 rfl (j := (5 * i + 4)) (by omega) (by decide) dL_key_213 ?_
                      refine z_topi (y := pv i) ((hB i (by omega)).2.2.2.2) ?_
                      refine lv_isub hx hb dL_key_214 ?_
                      refine lv_iadd hx hb dL_key_215 ?_
                      refine z_topi (y := zWy vl pv (i + 1)) (by rw [show zWy vl pv (i + 1) = zWy vl pv i + zAbs (pv i - vl i) from rfl, ← zWy_L (hpv i (by omega)) (hok.p i (by omega))]; first | rw [if_pos (Int32.not_le.mp c_175)] | rw [if_neg (Int32.not_lt.mpr c_175)]) ?_
                      refine lv_istore (lv' := [(7, .int (zWy vl pv (i + 1))), (1, .ref lb), (2, .ref la), (3, .ref lg), (8, .int (nI i))]) hx hb dL_key_216 hl (by decide) rfl (fun ls hl => ?_)
                      refine lv_iinc (v := nI (i + 1)) (lv' := [(8, .int (nI (i + 1))), (7, .int (zWy vl pv (i + 1))), (1, .ref lb), (2, .ref la), (3, .ref lg)]) hx hb dL_key_218 hl (k := 4) rfl ((nI_succ _).symm) (by decide) rfl (fun ls hl => ?_)
                      refine lv_goto (tgt := 149) hx hb dL_key_221 (by decide) ?_
                      exact ih_149_9 (i + 1) (by first | assumption | omega | rfl | simp_all) (by omega) _ _ hP hD hS _ (lv_sub hl [2, 3, 4, 1, 0] rfl)
                    · refine lv_aload_n hx hb dL_key_178 rfl (lv_at hl 0 rfl) ?_
                      refine lv_iconst (v := nI 5) hx hb dL_key_179 (rfl) ?_
                      refine lv_iload hx hb dL_key_180 (lv_at hl 4 rfl) ?_
                      refine lv_imul hx hb dL_key_182 ?_
                      refine z_topi (y := nI (5 * i)) (pk_mul 5 _) ?_
                      refine lv_iconst (v := nI 4) hx hb dL_key_183 (rfl) ?_
                      refine lv_iadd hx hb dL_key_184 ?_
                      refine z_topi (y := nI (5 * i + 4)) (nI_add _ _) ?_
                      refine z_iald hx hb hK hP 0 rfl (j := (5 * i + 4)) (by omega) (by decide) dL_key_185 ?_
                      refine z_topi (y := pv i) ((hB i (by omega)).2.2.2.2) ?_
                      refine lv_aload_n hx hb dL_key_186 rfl (lv_at hl 1 rfl) ?_
                      refine lv_iconst (v := nI 5) hx hb dL_key_187 (rfl) ?_
                      refine lv_iload hx hb dL_key_188 (lv_at hl 4 rfl) ?_
                      refine lv_imul hx hb dL_key_190 ?_
                      refine z_topi (y := nI (5 * i)) (pk_mul 5 _) ?_
                      refine lv_iconst (v := nI 4) hx hb dL_key_191 (rfl) ?_
                      refine lv_iadd hx hb dL_key_192 ?_
                      refine z_topi (y := nI (5 * i + 4)) (nI_add _ _) ?_
                      refine z_iald hx hb hK hP 1 rfl (j := (5 * i + 4)) (by omega) (by decide) dL_key_193 ?_
                      refine z_topi (y := vl i) ((hA i (by omega)).2.2.2.2) ?_
                      refine lv_isub hx hb dL_key_194 ?_
                      refine lv_goto (tgt := 215) hx hb dL_key_195 (by decide) ?_
                      refine lv_iadd hx hb dL_key_215 ?_
                      refine z_topi (y := zWy vl pv (i + 1)) (by rw [show zWy vl pv (i + 1) = zWy vl pv i + zAbs (pv i - vl i) from rfl, ← zWy_L (hpv i (by omega)) (hok.p i (by omega))]; first | rw [if_pos (Int32.not_le.mp c_175)] | rw [if_neg (Int32.not_lt.mpr c_175)]) ?_
                      refine lv_istore (lv' := [(7, .int (zWy vl pv (i + 1))), (1, .ref lb), (2, .ref la), (3, .ref lg), (8, .int (nI i))]) hx hb dL_key_216 hl (by decide) rfl (fun ls hl => ?_)
                      refine lv_iinc (v := nI (i + 1)) (lv' := [(8, .int (nI (i + 1))), (7, .int (zWy vl pv (i + 1))), (1, .ref lb), (2, .ref la), (3, .ref lg)]) hx hb dL_key_218 hl (k := 4) rfl ((nI_succ _).symm) (by decide) rfl (fun ls hl => ?_)
                      refine lv_goto (tgt := 149) hx hb dL_key_221 (by decide) ?_
                      exact ih_149_9 (i + 1) (by first | assumption | omega | rfl | simp_all) (by omega) _ _ hP hD hS _ (lv_sub hl [2, 3, 4, 1, 0] rfl)
              exact lp_149_9 ((n - 0) + 1) 0 (by first | assumption | omega | rfl | simp_all) (Nat.lt_succ_self _) _ _ hP hD hS _ (lv_sub hl [5, 6, 7, 1, 0] rfl)
            · have hb0 : ¬ bq = 0 := c_71
              refine lv_aload_n hx hb dL_key_95 rfl (lv_at hl 5 rfl) ?_
              refine lv_iconst (v := nI 0) hx hb dL_key_96 (rfl) ?_
              refine z_iald hx hb hK hP 2 rfl (j := 0) (by omega) (by decide) dL_key_97 ?_
              refine z_topi (y := nI n) (hGs.1) ?_
              refine lv_iconst (v := 1) hx hb dL_key_98 (by decide) ?_
              refine lv_isub hx hb dL_key_99 ?_
              refine lv_iconst (v := (-1)) hx hb dL_key_100 (by decide) ?_
              refine lv_iconst (v := 0) hx hb dL_key_101 (by decide) ?_
              refine lv_aload_n hx hb dL_key_102 rfl (lv_at hl 3 rfl) ?_
              refine z_callS (As := [.int (nI n - 1), .int (-1), .int 0, .ref lb]) (rest := []) ⟨hx, hb, hml, hown, hts⟩ hG hK hP hD hS (c_L_heading l D cI cJ (nI n - 1) (-1) 0 lb fb n kd ln lo hi pv n (hB) (by first | assumption | omega | decide) (Nat.le_refl n) (rfl)) (va_cwS 4 hts gL_key_L_heading rfl rfl rfl (by decide +kernel) ⟨Nat.le_of_ble_eq_true rfl, Nat.le_of_ble_eq_true rfl⟩) [0] (by decide) rfl (fun _ => rfl) rfl hl.1 rfl (Nat.le_of_ble_eq_true rfl) dL_key_103 ⟨Nat.le_of_ble_eq_true rfl, Nat.le_of_ble_eq_true rfl⟩ (fun u_10 H locs hu_11 hP hD hS => ?_)
              obtain ⟨r_12, rfl⟩ : ∃ z, z = u_10 := ⟨_, rfl⟩
              have hu_11 : (r_12 = zH kd (zPm pv (-1) 0) n) := hu_11
              have e_13 := hu_11
              subst e_13
              have hP : va_P D vwCl [(lb, .inl (cI, 25, .inl fb)), (la, .inl (cI, 25, .inl fa)), (lg, .inl (cI, 4, .inl fg)), (lt, .inl (cI, 17, .inl ft))] H := hP
              have hD : va_D A0 [(lb, .inl (cI, 25, .inl fb)), (la, .inl (cI, 25, .inl fa)), (lg, .inl (cI, 4, .inl fg)), (lt, .inl (cI, 17, .inl ft))] := hD
              refine z_topi (y := zH kd pv n) (zH_congr (zPm_m1 hn 0)) ?_
              refine lv_aload_n hx hb dL_key_106 rfl (lv_at hl 5 rfl) ?_
              refine lv_iconst (v := nI 0) hx hb dL_key_107 (rfl) ?_
              refine z_iald hx hb hK hP 2 rfl (j := 0) (by omega) (by decide) dL_key_108 ?_
              refine z_topi (y := nI n) (hGs.1) ?_
              refine lv_iconst (v := 1) hx hb dL_key_109 (by decide) ?_
              refine lv_isub hx hb dL_key_110 ?_
              refine lv_iconst (v := (-1)) hx hb dL_key_111 (by decide) ?_
              refine lv_iconst (v := 0) hx hb dL_key_112 (by decide) ?_
              refine lv_aload_n hx hb dL_key_113 rfl (lv_at hl 4 rfl) ?_
              refine z_callS (As := [.int (nI n - 1), .int (-1), .int 0, .ref la]) (rest := [.int (zH kd pv n)]) ⟨hx, hb, hml, hown, hts⟩ hG hK hP hD hS (c_L_heading l D cI cJ (nI n - 1) (-1) 0 la fa n kd ln lo hi vl n (by first | assumption | omega | decide) (by first | assumption | omega | decide) (Nat.le_refl n) (rfl)) (va_cwS 4 hts gL_key_L_heading rfl rfl rfl (by decide +kernel) ⟨Nat.le_of_ble_eq_true rfl, Nat.le_of_ble_eq_true rfl⟩) [1] (by decide) rfl (fun _ => rfl) rfl hl.1 rfl (Nat.le_of_ble_eq_true rfl) dL_key_114 ⟨Nat.le_of_ble_eq_true rfl, Nat.le_of_ble_eq_true rfl⟩ (fun u_14 H locs hu_15 hP hD hS => ?_)
              obtain ⟨r_16, rfl⟩ : ∃ z, z = u_14 := ⟨_, rfl⟩
              have hu_15 : (r_16 = zH kd (zPm vl (-1) 0) n) := hu_15
              have e_17 := hu_15
              subst e_17
              have hP : va_P D vwCl [(lb, .inl (cI, 25, .inl fb)), (la, .inl (cI, 25, .inl fa)), (lg, .inl (cI, 4, .inl fg)), (lt, .inl (cI, 17, .inl ft))] H := hP
              have hD : va_D A0 [(lb, .inl (cI, 25, .inl fb)), (la, .inl (cI, 25, .inl fa)), (lg, .inl (cI, 4, .inl fg)), (lt, .inl (cI, 17, .inl ft))] := hD
              refine z_topi (y := zH kd vl n) (zH_congr (zPm_m1 hn 0)) ?_
              refine lv_isub hx hb dL_key_117 ?_
              refine lv_bipush (v := 63) hx hb dL_key_118 (by decide) ?_
              refine lv_iand hx hb dL_key_120 ?_
              obtain ⟨k9, hk9, ek9⟩ := z63 (zH kd pv n - zH kd vl n)
              refine z_topi (y := nI k9) (ek9) ?_
              refine lv_istore (lv' := [(7, .int (nI k9)), (6, .int ((zY kd ln pv n) - gy)), (5, .int ((zX kd ln pv n) - gx)), (0, .int bq), (1, .ref lb), (2, .ref la), (3, .ref lg), (4, .ref lt)]) hx hb dL_key_121 hl (by decide) rfl (fun ls hl => ?_)
              refine lv_iload hx hb dL_key_123 (lv_at hl 0 rfl) ?_
              refine lv_bipush (v := nI 32) hx hb dL_key_125 (rfl) ?_
              refine lv_icmp_le (tgt := 139) hx hb dL_key_127 (by decide) (fun c_127 => ?_) (fun c_127 => ?_)
              · rw [nI_leI (by omega) (by omega)] at c_127
                refine lv_iload hx hb dL_key_139 (lv_at hl 0 rfl) ?_
                refine lv_i2l (v := (nI k9).toInt64) hx hb dL_key_141 rfl ?_
                exact hRet _ ((nI k9).toInt64) _ _ _ (by rw [if_pos hin]; unfold zKy; rw [if_neg hb0, if_neg (by rw [c_92]; decide), ek9, ← zHk_L hk9]; first | rw [if_neg (Nat.not_lt.mpr c_127)] | rw [if_pos (Nat.lt_of_not_le c_127)]) hP hS dL_key_142
              · rw [nI_leI (by omega) (by omega)] at c_127
                refine lv_bipush (v := 64) hx hb dL_key_130 (by decide) ?_
                refine lv_iload hx hb dL_key_132 (lv_at hl 0 rfl) ?_
                refine lv_isub hx hb dL_key_134 ?_
                refine lv_i2l (v := (64 - nI k9).toInt64) hx hb dL_key_135 rfl ?_
                refine lv_goto (tgt := 142) hx hb dL_key_136 (by decide) ?_
                exact hRet _ ((64 - nI k9).toInt64) _ _ _ (by rw [if_pos hin]; unfold zKy; rw [if_neg hb0, if_neg (by rw [c_92]; decide), ek9, ← zHk_L hk9]; first | rw [if_neg (Nat.not_lt.mpr c_127)] | rw [if_pos (Nat.lt_of_not_le c_127)]) hP hS dL_key_142
          · refine lv_iload hx hb dL_key_74 (lv_at hl 1 rfl) ?_
            refine lv_i2l (v := ((zX kd ln pv n) - gx).toInt64) hx hb dL_key_76 rfl ?_
            refine lv_iload hx hb dL_key_77 (lv_at hl 1 rfl) ?_
            refine lv_i2l (v := ((zX kd ln pv n) - gx).toInt64) hx hb dL_key_79 rfl ?_
            refine lv_lmul hx hb dL_key_80 ?_
            refine lv_iload hx hb dL_key_81 (lv_at hl 0 rfl) ?_
            refine lv_i2l (v := ((zY kd ln pv n) - gy).toInt64) hx hb dL_key_83 rfl ?_
            refine lv_iload hx hb dL_key_84 (lv_at hl 0 rfl) ?_
            refine lv_i2l (v := ((zY kd ln pv n) - gy).toInt64) hx hb dL_key_86 rfl ?_
            refine lv_lmul hx hb dL_key_87 ?_
            refine lv_ladd hx hb dL_key_88 ?_
            exact hRet _ (((((zX kd ln pv n) - gx).toInt64) * (((zX kd ln pv n) - gx).toInt64)) + ((((zY kd ln pv n) - gy).toInt64) * (((zY kd ln pv n) - gy).toInt64))) _ _ _ (by rw [if_pos hin]; unfold zKy; rw [if_pos c_71]; exact zFar_eq hX9 hY9 hgx hgy) hP hS dL_key_89
        · refine lv_ldc2 (own := RL) (v := -1) hx hb hown (hts (.constantLong RL 83 (-1)) (by decide +kernel)) dL_key_66 ?_
          exact hRet _ (-1) _ _ _ (by rw [if_neg (fun h => (zIn_law hsl hX9 hY9 hgx hgy).mp h (by first | exact Or.inl c_37 | exact Or.inr (Or.inl c_46) | exact Or.inr (Or.inr (Or.inl c_54)) | exact Or.inr (Or.inr (Or.inr (Int32.not_le.mp c_63)))))]) hP hS dL_key_69

