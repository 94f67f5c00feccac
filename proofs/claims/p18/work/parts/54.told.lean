/-! what is told of a room is what the law finds -/
theorem zm1 (x : Int32) : x + -1 = x - 1 := (Int32.sub_eq_add_neg x 1).symm
set_option maxHeartbeats 4000000 in
set_option maxRecDepth 100000 in
theorem c_L_isTold (l : Launch) (hfl : l.stackTraces = false) (D : va_G) (cI cJ : ClassId) (ad : Nat → Nat) (n : Nat) (kd : Nat → Int32) (ln : Nat → Int32) (lo : Nat → Int32) (hi : Nat → Int32) (vl : Nat → Int32) (gx : Int32) (gy : Int32) (sl : Int32) (si : Nat → Int32) (kc : Nat → Int64) (FF : Nat → Nat → Int32) (uu : Int32) (la : Nat) (fa : Nat → Int32) (lg : Nat) (fg : Nat → Int32) (lt : Nat) (ft : Nat → Int32) (hR : zRo n kd ln lo hi vl gx gy sl FF) (hA : zAr n fa kd ln lo hi vl) (hGs : zGs fg n gx gy sl) (hT : zTt ft) (hkd : zKd n kd) : zML l yL_isTold wsL_isTold 8 40 D cI cJ [.ref (ad 0), .int uu, .ref la, .ref lg, .ref lt] ([(la, .inl (cI, 25, .inl fa)), (lg, .inl (cI, 4, .inl fg)), (lt, .inl (cI, 17, .inl ft))] ++ zWR cI cJ ad n kd ln lo hi vl gx gy sl si kc FF) (fun (u : (Nat → Int32) × (Nat → Int64) × (Nat → Nat → Int32)) => (zL0 (u.2.2 3) (u.2.2 4) (u.2.2 5) (u.2.2 6))) (fun (u : (Nat → Int32) × (Nat → Int64) × (Nat → Nat → Int32)) => some (.int 1)) (fun (u : (Nat → Int32) × (Nat → Int64) × (Nat → Nat → Int32)) => ([(la, .inl (cI, 25, .inl fa)), (lg, .inl (cI, 4, .inl fg)), (lt, .inl (cI, 17, .inl ft))] ++ zWR cI cJ ad n kd ln lo hi vl gx gy sl u.1 u.2.1 u.2.2)) := by
  refine zMB_z (cc := cL_isTold) (maxL := 17) (r := fun (u : (Nat → Int32) × (Nat → Int64) × (Nat → Nat → Int32)) => 1) (fun _ _ => Or.inr rfl) (by decide) rfl (Nat.le_of_ble_eq_true rfl) ?_
  intro p e s m args below meth c ls A0 Q C hNw hl hP hS hRet
  obtain ⟨⟨hx, hb, hml, hown, hts⟩, hG, hK, hD, hlocks⟩ := C
  have hl : lv_has ls 17 [(0, .ref (ad 0)), (1, .int uu), (2, .ref la), (3, .ref lg), (4, .ref lt)] := hl
  have hok := hR.1
  have hn := hok.1
  have hgx := hR.2.1
  have hgy := hR.2.2.1
  have hsl := hR.2.2.2.1
  have hdec : ∀ {j : Nat}, j < n → -101 ≤ (vl j + -1).toInt ∧ (vl j + -1).toInt ≤ 101 := fun {j} hj => by rw [zm1]; exact hok.dec hj
  refine lv_iconst (v := 1) hx hb dL_isTold_0 (by decide) ?_
  refine lv_iconst (v := (-1)) hx hb dL_isTold_1 (by decide) ?_
  refine lv_iconst (v := 0) hx hb dL_isTold_2 (by decide) ?_
  refine lv_aload_n hx hb dL_isTold_3 rfl (lv_at hl 2 rfl) ?_
  refine lv_aload_n hx hb dL_isTold_4 rfl (lv_at hl 3 rfl) ?_
  refine lv_aload hx hb dL_isTold_5 (lv_at hl 4 rfl) ?_
  refine z_callF (w1 := zWR cI cJ ad n kd ln lo hi vl gx gy sl si kc FF) (As := [.int 1, .int (-1), .int 0, .ref la, .ref lg, .ref lt]) (rest := []) ⟨hx, hb, hml, hown, hts⟩ hG hK hP hD hS (c3_tips l hfl D cI cJ 1 (-1) 0 la fa lg fg lt ft n kd ln lo hi vl gx gy sl (by first | assumption | omega | decide) (by first | assumption | omega | decide) (by first | assumption | omega | decide) (by first | assumption | omega | decide) (by first | assumption | omega | decide)) (va_cwS 6 hts gL_isTold_L_tips rfl rfl rfl (by decide +kernel) ⟨Nat.le_of_ble_eq_true rfl, Nat.le_of_ble_eq_true rfl⟩) (fun _ => rfl) rfl hl.1 rfl (Nat.le_of_ble_eq_true rfl) dL_isTold_7 ⟨(show 0 + 0 ≤ 40 by omega), (show 0 + 0 ≤ 6 * 40 by omega)⟩ (fun u_1 H locs hu_2 hP hD hS => ?_)
  obtain ⟨r_3, rfl⟩ : ∃ z, z = u_1 := ⟨_, rfl⟩
  have hu_2 : (r_3 = zXY (1 : Int32) kd ln (zPm vl (-1 : Int32) (0 : Int32)) n) := hu_2
  have e_4 := hu_2
  subst e_4
  have hP : va_P D vwCl ([(la, .inl (cI, 25, .inl fa)), (lg, .inl (cI, 4, .inl fg)), (lt, .inl (cI, 17, .inl ft))] ++ zWR cI cJ ad n kd ln lo hi vl gx gy sl si kc FF) H := hP
  have hD : va_D A0 ([(la, .inl (cI, 25, .inl fa)), (lg, .inl (cI, 4, .inl fg)), (lt, .inl (cI, 17, .inl ft))] ++ zWR cI cJ ad n kd ln lo hi vl gx gy sl si kc FF) := hD
  refine z_topi (y := zX kd ln vl n) (zXm_m1 hn) ?_
  refine lv_istore (lv' := [(5, .int (zX kd ln vl n)), (0, .ref (ad 0)), (1, .int uu), (2, .ref la), (3, .ref lg), (4, .ref lt)]) hx hb dL_isTold_10 hl (by decide) rfl (fun ls hl => ?_)
  refine lv_iconst (v := 0) hx hb dL_isTold_12 (by decide) ?_
  refine lv_iconst (v := (-1)) hx hb dL_isTold_13 (by decide) ?_
  refine lv_iconst (v := 0) hx hb dL_isTold_14 (by decide) ?_
  refine lv_aload_n hx hb dL_isTold_15 rfl (lv_at hl 3 rfl) ?_
  refine lv_aload_n hx hb dL_isTold_16 rfl (lv_at hl 4 rfl) ?_
  refine lv_aload hx hb dL_isTold_17 (lv_at hl 5 rfl) ?_
  refine z_callF (w1 := zWR cI cJ ad n kd ln lo hi vl gx gy sl si kc FF) (As := [.int 0, .int (-1), .int 0, .ref la, .ref lg, .ref lt]) (rest := []) ⟨hx, hb, hml, hown, hts⟩ hG hK hP hD hS (c3_tips l hfl D cI cJ 0 (-1) 0 la fa lg fg lt ft n kd ln lo hi vl gx gy sl (by first | assumption | omega | decide) (by first | assumption | omega | decide) (by first | assumption | omega | decide) (by first | assumption | omega | decide) (by first | assumption | omega | decide)) (va_cwS 6 hts gL_isTold_L_tips rfl rfl rfl (by decide +kernel) ⟨Nat.le_of_ble_eq_true rfl, Nat.le_of_ble_eq_true rfl⟩) (fun _ => rfl) rfl hl.1 rfl (Nat.le_of_ble_eq_true rfl) dL_isTold_19 ⟨(show 0 + 0 ≤ 40 by omega), (show 0 + 0 ≤ 6 * 40 by omega)⟩ (fun u_5 H locs hu_6 hP hD hS => ?_)
  obtain ⟨r_7, rfl⟩ : ∃ z, z = u_5 := ⟨_, rfl⟩
  have hu_6 : (r_7 = zXY (0 : Int32) kd ln (zPm vl (-1 : Int32) (0 : Int32)) n) := hu_6
  have e_8 := hu_6
  subst e_8
  have hP : va_P D vwCl ([(la, .inl (cI, 25, .inl fa)), (lg, .inl (cI, 4, .inl fg)), (lt, .inl (cI, 17, .inl ft))] ++ zWR cI cJ ad n kd ln lo hi vl gx gy sl si kc FF) H := hP
  have hD : va_D A0 ([(la, .inl (cI, 25, .inl fa)), (lg, .inl (cI, 4, .inl fg)), (lt, .inl (cI, 17, .inl ft))] ++ zWR cI cJ ad n kd ln lo hi vl gx gy sl si kc FF) := hD
  refine z_topi (y := zY kd ln vl n) (zYm_m1 hn) ?_
  refine lv_istore (lv' := [(6, .int (zY kd ln vl n)), (5, .int (zX kd ln vl n)), (0, .ref (ad 0)), (1, .int uu), (2, .ref la), (3, .ref lg), (4, .ref lt)]) hx hb dL_isTold_22 hl (by decide) rfl (fun ls hl => ?_)
  refine lv_aload_n hx hb dL_isTold_24 rfl (lv_at hl 5 rfl) ?_
  refine lv_iconst (v := nI 0) hx hb dL_isTold_25 (rfl) ?_
  refine z_iald hx hb hK hP 1 rfl (j := 0) (by omega) (by decide) dL_isTold_26 ?_
  refine z_topi (y := nI n) (hGs.1) ?_
  refine lv_iconst (v := 1) hx hb dL_isTold_27 (by decide) ?_
  refine lv_isub hx hb dL_isTold_28 ?_
  refine lv_iconst (v := (-1)) hx hb dL_isTold_29 (by decide) ?_
  refine lv_iconst (v := 0) hx hb dL_isTold_30 (by decide) ?_
  refine lv_aload_n hx hb dL_isTold_31 rfl (lv_at hl 4 rfl) ?_
  refine z_callF (w1 := zWR cI cJ ad n kd ln lo hi vl gx gy sl si kc FF) (As := [.int (nI n - 1), .int (-1), .int 0, .ref la]) (rest := []) ⟨hx, hb, hml, hown, hts⟩ hG hK hP hD hS (c3_heading l hfl D cI cJ (nI n - 1) (-1) 0 la fa n kd ln lo hi vl n lg fg lt ft (by first | assumption | omega | decide) (by first | assumption | omega | decide) (Nat.le_refl n) (rfl)) (va_cwS 4 hts gL_isTold_L_heading rfl rfl rfl (by decide +kernel) ⟨Nat.le_of_ble_eq_true rfl, Nat.le_of_ble_eq_true rfl⟩) (fun _ => rfl) rfl hl.1 rfl (Nat.le_of_ble_eq_true rfl) dL_isTold_32 ⟨(show 0 + 0 ≤ 40 by omega), (show 0 + 0 ≤ 6 * 40 by omega)⟩ (fun u_9 H locs hu_10 hP hD hS => ?_)
  obtain ⟨r_11, rfl⟩ : ∃ z, z = u_9 := ⟨_, rfl⟩
  have hu_10 : (r_11 = zH kd (zPm vl (-1 : Int32) (0 : Int32)) n) := hu_10
  have e_12 := hu_10
  subst e_12
  have hP : va_P D vwCl ([(la, .inl (cI, 25, .inl fa)), (lg, .inl (cI, 4, .inl fg)), (lt, .inl (cI, 17, .inl ft))] ++ zWR cI cJ ad n kd ln lo hi vl gx gy sl si kc FF) H := hP
  have hD : va_D A0 ([(la, .inl (cI, 25, .inl fa)), (lg, .inl (cI, 4, .inl fg)), (lt, .inl (cI, 17, .inl ft))] ++ zWR cI cJ ad n kd ln lo hi vl gx gy sl si kc FF) := hD
  refine z_topi (y := zH kd vl n) (zHm_m1 hn) ?_
  refine lv_istore (lv' := [(7, .int (zH kd vl n)), (6, .int (zY kd ln vl n)), (5, .int (zX kd ln vl n)), (0, .ref (ad 0)), (1, .int uu), (2, .ref la), (3, .ref lg), (4, .ref lt)]) hx hb dL_isTold_35 hl (by decide) rfl (fun ls hl => ?_)
  refine lv_aload_n hx hb dL_isTold_37 rfl (lv_at hl 3 rfl) ?_
  refine lv_iconst (v := 0) hx hb dL_isTold_38 (by decide) ?_
  refine z_callAX (w1 := [(la, .inl (cI, 25, .inl fa)), (lg, .inl (cI, 4, .inl fg)), (lt, .inl (cI, 17, .inl ft))]) (As := [.ref (ad 0), .int 0]) (rest := []) ⟨hx, hb, hml, hown, hts⟩ hG hK hP hD hS (cR_tip l hfl D cI cJ ad n kd ln lo hi vl gx gy sl si kc FF 0 (by first | assumption | omega | decide)) (vx_cwSW (hh := [(0, 6, 9, 14)]) 2 hts gL_isTold_L_tip rfl rfl rfl (by decide +kernel) ⟨Nat.le_of_ble_eq_true rfl, Nat.le_of_ble_eq_true rfl⟩) (fun _ => rfl) rfl hl.1 rfl (Nat.le_of_ble_eq_true rfl) dL_isTold_39 ⟨(show 0 + 1 ≤ 40 by omega), (show 0 + 6 ≤ 6 * 40 by omega)⟩ (fun u_13 H locs hu_14 hP hD hS => ?_)
  obtain ⟨kk_15, si2_16, kc2_17, FF2_18⟩ := u_13
  have hu_14 : (zL0 (FF2_18 3) (FF2_18 4) (FF2_18 5) (FF2_18 6)) ∧ (0 ≤ (0 : Int32) ∧ (0 : Int32) ≤ 2 → (kk_15 = zTp (0 : Int32) (zX kd ln vl n) (zY kd ln vl n) (zH kd vl n))) := hu_14
  obtain ⟨e_19, e_20⟩ := hu_14
  have r_21 : (kk_15 = zTp (0 : Int32) (zX kd ln vl n) (zY kd ln vl n) (zH kd vl n)) := e_20 (by decide)
  subst r_21
  have hP : va_P D vwCl ([(la, .inl (cI, 25, .inl fa)), (lg, .inl (cI, 4, .inl fg)), (lt, .inl (cI, 17, .inl ft))] ++ zWR cI cJ ad n kd ln lo hi vl gx gy sl si2_16 kc2_17 FF2_18) H := hP
  have hD : va_D A0 ([(la, .inl (cI, 25, .inl fa)), (lg, .inl (cI, 4, .inl fg)), (lt, .inl (cI, 17, .inl ft))] ++ zWR cI cJ ad n kd ln lo hi vl gx gy sl si2_16 kc2_17 FF2_18) := hD
  refine z_topi (y := zTp (0 : Int32) (zX kd ln vl n) (zY kd ln vl n) (zH kd vl n)) rfl ?_
  replace hR := zRo_of hR e_19
  refine z_topi (y := zX kd ln vl n) (zTp_0 (zX kd ln vl n) (zY kd ln vl n) (zH kd vl n)) ?_
  refine lv_iload hx hb dL_isTold_42 (lv_at hl 2 rfl) ?_
  refine lv_icmp_ne (tgt := 114) hx hb dL_isTold_44 (by decide) (fun c_44 => ?_) (fun c_44 => ?_)
  · exact absurd rfl c_44
  · refine lv_aload_n hx hb dL_isTold_47 rfl (lv_at hl 3 rfl) ?_
    refine lv_iconst (v := 1) hx hb dL_isTold_48 (by decide) ?_
    refine z_callAX (w1 := [(la, .inl (cI, 25, .inl fa)), (lg, .inl (cI, 4, .inl fg)), (lt, .inl (cI, 17, .inl ft))]) (As := [.ref (ad 0), .int 1]) (rest := []) ⟨hx, hb, hml, hown, hts⟩ hG hK hP hD hS (cR_tip l hfl D cI cJ ad n kd ln lo hi vl gx gy sl si2_16 kc2_17 FF2_18 1 (by first | assumption | omega | decide)) (vx_cwSW (hh := [(0, 6, 9, 14)]) 2 hts gL_isTold_L_tip rfl rfl rfl (by decide +kernel) ⟨Nat.le_of_ble_eq_true rfl, Nat.le_of_ble_eq_true rfl⟩) (fun _ => rfl) rfl hl.1 rfl (Nat.le_of_ble_eq_true rfl) dL_isTold_49 ⟨(show 0 + 1 + 1 ≤ 40 by omega), (show 0 + 6 * 1 + 6 ≤ 6 * 40 by omega)⟩ (fun u_22 H locs hu_23 hP hD hS => ?_)
    obtain ⟨kk_24, si2_25, kc2_26, FF2_27⟩ := u_22
    have hu_23 : (zL0 (FF2_27 3) (FF2_27 4) (FF2_27 5) (FF2_27 6)) ∧ (0 ≤ (1 : Int32) ∧ (1 : Int32) ≤ 2 → (kk_24 = zTp (1 : Int32) (zX kd ln vl n) (zY kd ln vl n) (zH kd vl n))) := hu_23
    obtain ⟨e_28, e_29⟩ := hu_23
    have r_30 : (kk_24 = zTp (1 : Int32) (zX kd ln vl n) (zY kd ln vl n) (zH kd vl n)) := e_29 (by decide)
    subst r_30
    have hP : va_P D vwCl ([(la, .inl (cI, 25, .inl fa)), (lg, .inl (cI, 4, .inl fg)), (lt, .inl (cI, 17, .inl ft))] ++ zWR cI cJ ad n kd ln lo hi vl gx gy sl si2_25 kc2_26 FF2_27) H := hP
    have hD : va_D A0 ([(la, .inl (cI, 25, .inl fa)), (lg, .inl (cI, 4, .inl fg)), (lt, .inl (cI, 17, .inl ft))] ++ zWR cI cJ ad n kd ln lo hi vl gx gy sl si2_25 kc2_26 FF2_27) := hD
    refine z_topi (y := zTp (1 : Int32) (zX kd ln vl n) (zY kd ln vl n) (zH kd vl n)) rfl ?_
    replace hR := zRo_of hR e_28
    refine z_topi (y := zY kd ln vl n) (zTp_1 (zX kd ln vl n) (zY kd ln vl n) (zH kd vl n)) ?_
    refine lv_iload hx hb dL_isTold_52 (lv_at hl 1 rfl) ?_
    refine lv_icmp_ne (tgt := 114) hx hb dL_isTold_54 (by decide) (fun c_54 => ?_) (fun c_54 => ?_)
    · exact absurd rfl c_54
    · refine lv_aload_n hx hb dL_isTold_57 rfl (lv_at hl 3 rfl) ?_
      refine lv_iconst (v := 2) hx hb dL_isTold_58 (by decide) ?_
      refine z_callAX (w1 := [(la, .inl (cI, 25, .inl fa)), (lg, .inl (cI, 4, .inl fg)), (lt, .inl (cI, 17, .inl ft))]) (As := [.ref (ad 0), .int 2]) (rest := []) ⟨hx, hb, hml, hown, hts⟩ hG hK hP hD hS (cR_tip l hfl D cI cJ ad n kd ln lo hi vl gx gy sl si2_25 kc2_26 FF2_27 2 (by first | assumption | omega | decide)) (vx_cwSW (hh := [(0, 6, 9, 14)]) 2 hts gL_isTold_L_tip rfl rfl rfl (by decide +kernel) ⟨Nat.le_of_ble_eq_true rfl, Nat.le_of_ble_eq_true rfl⟩) (fun _ => rfl) rfl hl.1 rfl (Nat.le_of_ble_eq_true rfl) dL_isTold_59 ⟨(show 0 + 1 + 1 + 1 ≤ 40 by omega), (show 0 + 6 * 1 + 6 * 1 + 6 ≤ 6 * 40 by omega)⟩ (fun u_31 H locs hu_32 hP hD hS => ?_)
      obtain ⟨kk_33, si2_34, kc2_35, FF2_36⟩ := u_31
      have hu_32 : (zL0 (FF2_36 3) (FF2_36 4) (FF2_36 5) (FF2_36 6)) ∧ (0 ≤ (2 : Int32) ∧ (2 : Int32) ≤ 2 → (kk_33 = zTp (2 : Int32) (zX kd ln vl n) (zY kd ln vl n) (zH kd vl n))) := hu_32
      obtain ⟨e_37, e_38⟩ := hu_32
      have r_39 : (kk_33 = zTp (2 : Int32) (zX kd ln vl n) (zY kd ln vl n) (zH kd vl n)) := e_38 (by decide)
      subst r_39
      have hP : va_P D vwCl ([(la, .inl (cI, 25, .inl fa)), (lg, .inl (cI, 4, .inl fg)), (lt, .inl (cI, 17, .inl ft))] ++ zWR cI cJ ad n kd ln lo hi vl gx gy sl si2_34 kc2_35 FF2_36) H := hP
      have hD : va_D A0 ([(la, .inl (cI, 25, .inl fa)), (lg, .inl (cI, 4, .inl fg)), (lt, .inl (cI, 17, .inl ft))] ++ zWR cI cJ ad n kd ln lo hi vl gx gy sl si2_34 kc2_35 FF2_36) := hD
      refine z_topi (y := zTp (2 : Int32) (zX kd ln vl n) (zY kd ln vl n) (zH kd vl n)) rfl ?_
      replace hR := zRo_of hR e_37
      refine z_topi (y := zH kd vl n) (zTp_2 (zX kd ln vl n) (zY kd ln vl n) (zH kd vl n)) ?_
      refine lv_iload hx hb dL_isTold_62 (lv_at hl 0 rfl) ?_
      refine lv_icmp_ne (tgt := 114) hx hb dL_isTold_64 (by decide) (fun c_64 => ?_) (fun c_64 => ?_)
      · exact absurd rfl c_64
      · refine lv_aload_n hx hb dL_isTold_67 rfl (lv_at hl 3 rfl) ?_
        refine lv_iconst (v := 0) hx hb dL_isTold_68 (by decide) ?_
        refine z_callAX (w1 := [(la, .inl (cI, 25, .inl fa)), (lg, .inl (cI, 4, .inl fg)), (lt, .inl (cI, 17, .inl ft))]) (As := [.ref (ad 0), .int 0]) (rest := []) ⟨hx, hb, hml, hown, hts⟩ hG hK hP hD hS (cR_tipAnew l hfl D cI cJ ad n kd ln lo hi vl gx gy sl si2_34 kc2_35 FF2_36 0 (by first | assumption | omega | decide)) (vx_cwSW (hh := [(0, 6, 9, 14)]) 2 hts gL_isTold_L_tipAnew rfl rfl rfl (by decide +kernel) ⟨Nat.le_of_ble_eq_true rfl, Nat.le_of_ble_eq_true rfl⟩) (fun _ => rfl) rfl hl.1 rfl (Nat.le_of_ble_eq_true rfl) dL_isTold_69 ⟨(show 0 + 1 + 1 + 1 + 1 ≤ 40 by omega), (show 0 + 6 * 1 + 6 * 1 + 6 * 1 + 6 ≤ 6 * 40 by omega)⟩ (fun u_40 H locs hu_41 hP hD hS => ?_)
        obtain ⟨kk_42, si2_43, kc2_44, FF2_45⟩ := u_40
        have hu_41 : (zL0 (FF2_45 3) (FF2_45 4) (FF2_45 5) (FF2_45 6)) ∧ (0 ≤ (0 : Int32) ∧ (0 : Int32) ≤ 2 → (kk_42 = zTp (0 : Int32) (zX kd ln vl n) (zY kd ln vl n) (zH kd vl n))) := hu_41
        obtain ⟨e_46, e_47⟩ := hu_41
        have r_48 : (kk_42 = zTp (0 : Int32) (zX kd ln vl n) (zY kd ln vl n) (zH kd vl n)) := e_47 (by decide)
        subst r_48
        have hP : va_P D vwCl ([(la, .inl (cI, 25, .inl fa)), (lg, .inl (cI, 4, .inl fg)), (lt, .inl (cI, 17, .inl ft))] ++ zWR cI cJ ad n kd ln lo hi vl gx gy sl si2_43 kc2_44 FF2_45) H := hP
        have hD : va_D A0 ([(la, .inl (cI, 25, .inl fa)), (lg, .inl (cI, 4, .inl fg)), (lt, .inl (cI, 17, .inl ft))] ++ zWR cI cJ ad n kd ln lo hi vl gx gy sl si2_43 kc2_44 FF2_45) := hD
        refine z_topi (y := zTp (0 : Int32) (zX kd ln vl n) (zY kd ln vl n) (zH kd vl n)) rfl ?_
        replace hR := zRo_of hR e_46
        refine z_topi (y := zX kd ln vl n) (zTp_0 (zX kd ln vl n) (zY kd ln vl n) (zH kd vl n)) ?_
        refine lv_iload hx hb dL_isTold_72 (lv_at hl 2 rfl) ?_
        refine lv_icmp_ne (tgt := 114) hx hb dL_isTold_74 (by decide) (fun c_74 => ?_) (fun c_74 => ?_)
        · exact absurd rfl c_74
        · refine lv_aload_n hx hb dL_isTold_77 rfl (lv_at hl 3 rfl) ?_
          refine lv_iconst (v := 1) hx hb dL_isTold_78 (by decide) ?_
          refine z_callAX (w1 := [(la, .inl (cI, 25, .inl fa)), (lg, .inl (cI, 4, .inl fg)), (lt, .inl (cI, 17, .inl ft))]) (As := [.ref (ad 0), .int 1]) (rest := []) ⟨hx, hb, hml, hown, hts⟩ hG hK hP hD hS (cR_tipAnew l hfl D cI cJ ad n kd ln lo hi vl gx gy sl si2_43 kc2_44 FF2_45 1 (by first | assumption | omega | decide)) (vx_cwSW (hh := [(0, 6, 9, 14)]) 2 hts gL_isTold_L_tipAnew rfl rfl rfl (by decide +kernel) ⟨Nat.le_of_ble_eq_true rfl, Nat.le_of_ble_eq_true rfl⟩) (fun _ => rfl) rfl hl.1 rfl (Nat.le_of_ble_eq_true rfl) dL_isTold_79 ⟨(show 0 + 1 + 1 + 1 + 1 + 1 ≤ 40 by omega), (show 0 + 6 * 1 + 6 * 1 + 6 * 1 + 6 * 1 + 6 ≤ 6 * 40 by omega)⟩ (fun u_49 H locs hu_50 hP hD hS => ?_)
          obtain ⟨kk_51, si2_52, kc2_53, FF2_54⟩ := u_49
          have hu_50 : (zL0 (FF2_54 3) (FF2_54 4) (FF2_54 5) (FF2_54 6)) ∧ (0 ≤ (1 : Int32) ∧ (1 : Int32) ≤ 2 → (kk_51 = zTp (1 : Int32) (zX kd ln vl n) (zY kd ln vl n) (zH kd vl n))) := hu_50
          obtain ⟨e_55, e_56⟩ := hu_50
          have r_57 : (kk_51 = zTp (1 : Int32) (zX kd ln vl n) (zY kd ln vl n) (zH kd vl n)) := e_56 (by decide)
          subst r_57
          have hP : va_P D vwCl ([(la, .inl (cI, 25, .inl fa)), (lg, .inl (cI, 4, .inl fg)), (lt, .inl (cI, 17, .inl ft))] ++ zWR cI cJ ad n kd ln lo hi vl gx gy sl si2_52 kc2_53 FF2_54) H := hP
          have hD : va_D A0 ([(la, .inl (cI, 25, .inl fa)), (lg, .inl (cI, 4, .inl fg)), (lt, .inl (cI, 17, .inl ft))] ++ zWR cI cJ ad n kd ln lo hi vl gx gy sl si2_52 kc2_53 FF2_54) := hD
          refine z_topi (y := zTp (1 : Int32) (zX kd ln vl n) (zY kd ln vl n) (zH kd vl n)) rfl ?_
          replace hR := zRo_of hR e_55
          refine z_topi (y := zY kd ln vl n) (zTp_1 (zX kd ln vl n) (zY kd ln vl n) (zH kd vl n)) ?_
          refine lv_iload hx hb dL_isTold_82 (lv_at hl 1 rfl) ?_
          refine lv_icmp_ne (tgt := 114) hx hb dL_isTold_84 (by decide) (fun c_84 => ?_) (fun c_84 => ?_)
          · exact absurd rfl c_84
          · refine lv_aload_n hx hb dL_isTold_87 rfl (lv_at hl 3 rfl) ?_
            refine lv_iconst (v := 2) hx hb dL_isTold_88 (by decide) ?_
            refine z_callAX (w1 := [(la, .inl (cI, 25, .inl fa)), (lg, .inl (cI, 4, .inl fg)), (lt, .inl (cI, 17, .inl ft))]) (As := [.ref (ad 0), .int 2]) (rest := []) ⟨hx, hb, hml, hown, hts⟩ hG hK hP hD hS (cR_tipAnew l hfl D cI cJ ad n kd ln lo hi vl gx gy sl si2_52 kc2_53 FF2_54 2 (by first | assumption | omega | decide)) (vx_cwSW (hh := [(0, 6, 9, 14)]) 2 hts gL_isTold_L_tipAnew rfl rfl rfl (by decide +kernel) ⟨Nat.le_of_ble_eq_true rfl, Nat.le_of_ble_eq_true rfl⟩) (fun _ => rfl) rfl hl.1 rfl (Nat.le_of_ble_eq_true rfl) dL_isTold_89 ⟨(show 0 + 1 + 1 + 1 + 1 + 1 + 1 ≤ 40 by omega), (show 0 + 6 * 1 + 6 * 1 + 6 * 1 + 6 * 1 + 6 * 1 + 6 ≤ 6 * 40 by omega)⟩ (fun u_58 H locs hu_59 hP hD hS => ?_)
            obtain ⟨kk_60, si2_61, kc2_62, FF2_63⟩ := u_58
            have hu_59 : (zL0 (FF2_63 3) (FF2_63 4) (FF2_63 5) (FF2_63 6)) ∧ (0 ≤ (2 : Int32) ∧ (2 : Int32) ≤ 2 → (kk_60 = zTp (2 : Int32) (zX kd ln vl n) (zY kd ln vl n) (zH kd vl n))) := hu_59
            obtain ⟨e_64, e_65⟩ := hu_59
            have r_66 : (kk_60 = zTp (2 : Int32) (zX kd ln vl n) (zY kd ln vl n) (zH kd vl n)) := e_65 (by decide)
            subst r_66
            have hP : va_P D vwCl ([(la, .inl (cI, 25, .inl fa)), (lg, .inl (cI, 4, .inl fg)), (lt, .inl (cI, 17, .inl ft))] ++ zWR cI cJ ad n kd ln lo hi vl gx gy sl si2_61 kc2_62 FF2_63) H := hP
            have hD : va_D A0 ([(la, .inl (cI, 25, .inl fa)), (lg, .inl (cI, 4, .inl fg)), (lt, .inl (cI, 17, .inl ft))] ++ zWR cI cJ ad n kd ln lo hi vl gx gy sl si2_61 kc2_62 FF2_63) := hD
            refine z_topi (y := zTp (2 : Int32) (zX kd ln vl n) (zY kd ln vl n) (zH kd vl n)) rfl ?_
            replace hR := zRo_of hR e_64
            refine z_topi (y := zH kd vl n) (zTp_2 (zX kd ln vl n) (zY kd ln vl n) (zH kd vl n)) ?_
            refine lv_iload hx hb dL_isTold_92 (lv_at hl 0 rfl) ?_
            refine lv_icmp_ne (tgt := 114) hx hb dL_isTold_94 (by decide) (fun c_94 => ?_) (fun c_94 => ?_)
            · exact absurd rfl c_94
            · refine lv_aload_n hx hb dL_isTold_97 rfl (lv_at hl 3 rfl) ?_
              refine z_callAV (w1 := [(la, .inl (cI, 25, .inl fa)), (lg, .inl (cI, 4, .inl fg)), (lt, .inl (cI, 17, .inl ft))]) (As := []) (rest := []) ⟨hx, hb, hml, hown, hts⟩ hG hK hP hD hS (cR_far l hfl D cI cJ ad n kd ln lo hi vl gx gy sl si2_61 kc2_62 FF2_63 (by first | assumption | omega | decide)) (cwV 0 hts gL_isTold_X5_far rfl rfl rfl (by decide +kernel) ⟨Nat.le_of_ble_eq_true rfl, Nat.le_of_ble_eq_true rfl⟩) (fun _ => rfl) 0 rfl rfl rfl rfl hl.1 rfl (Nat.le_of_ble_eq_true rfl) dL_isTold_98 ⟨(show 0 + 1 + 1 + 1 + 1 + 1 + 1 + 0 ≤ 40 by omega), (show 0 + 6 * 1 + 6 * 1 + 6 * 1 + 6 * 1 + 6 * 1 + 6 * 1 + 0 ≤ 6 * 40 by omega)⟩ (fun u_67 H locs hu_68 hP hD hS => ?_)
              obtain ⟨r_69, si2_70, kc2_71, FF2_72⟩ := u_67
              have hu_68 : (zL0 (FF2_72 3) (FF2_72 4) (FF2_72 5) (FF2_72 6)) ∧ (r_69 = zFn kd ln vl n gx gy) := hu_68
              obtain ⟨e_73, e_74⟩ := hu_68
              subst e_74
              have hP : va_P D vwCl ([(la, .inl (cI, 25, .inl fa)), (lg, .inl (cI, 4, .inl fg)), (lt, .inl (cI, 17, .inl ft))] ++ zWR cI cJ ad n kd ln lo hi vl gx gy sl si2_70 kc2_71 FF2_72) H := hP
              have hD : va_D A0 ([(la, .inl (cI, 25, .inl fa)), (lg, .inl (cI, 4, .inl fg)), (lt, .inl (cI, 17, .inl ft))] ++ zWR cI cJ ad n kd ln lo hi vl gx gy sl si2_70 kc2_71 FF2_72) := hD
              refine z_topl (y := zFn kd ln vl n gx gy) rfl ?_
              replace hR := zRo_of hR e_73
              refine lv_iconst (v := (-1)) hx hb dL_isTold_101 (by decide) ?_
              refine lv_iconst (v := 0) hx hb dL_isTold_102 (by decide) ?_
              refine lv_aload_n hx hb dL_isTold_103 rfl (lv_at hl 5 rfl) ?_
              refine lv_aload_n hx hb dL_isTold_104 rfl (lv_at hl 6 rfl) ?_
              refine lv_aload hx hb dL_isTold_105 (lv_at hl 7 rfl) ?_
              refine z_callF (w1 := zWR cI cJ ad n kd ln lo hi vl gx gy sl si2_70 kc2_71 FF2_72) (As := [.int (-1), .int 0, .ref la, .ref lg, .ref lt]) (rest := [.long (zFn kd ln vl n gx gy)]) ⟨hx, hb, hml, hown, hts⟩ hG hK hP hD hS (c3_far l hfl D cI cJ (-1) 0 la fa lg fg lt ft n kd ln lo hi vl gx gy sl (by first | assumption | omega | decide) (by first | assumption | omega | decide) (by first | assumption | omega | decide) (by first | assumption | omega | decide) (by first | assumption | omega | decide) (hok.l) (zPm_pok hok) (by first | assumption | omega | decide) (by first | assumption | omega | decide)) (va_cwS 5 hts gL_isTold_L_far rfl rfl rfl (by decide +kernel) ⟨Nat.le_of_ble_eq_true rfl, Nat.le_of_ble_eq_true rfl⟩) (fun _ => rfl) rfl hl.1 rfl (Nat.le_of_ble_eq_true rfl) dL_isTold_107 ⟨(show 0 + 1 + 1 + 1 + 1 + 1 + 1 + 0 ≤ 40 by omega), (show 0 + 6 * 1 + 6 * 1 + 6 * 1 + 6 * 1 + 6 * 1 + 6 * 1 + 0 ≤ 6 * 40 by omega)⟩ (fun u_75 H locs hu_76 hP hD hS => ?_)
              obtain ⟨r_77, rfl⟩ : ∃ z, z = u_75 := ⟨_, rfl⟩
              have hu_76 : (r_77 = zFar gx gy (zX kd ln (zPm vl (-1 : Int32) (0 : Int32)) n) (zY kd ln (zPm vl (-1 : Int32) (0 : Int32)) n)) := hu_76
              have e_78 := hu_76
              subst e_78
              have hP : va_P D vwCl ([(la, .inl (cI, 25, .inl fa)), (lg, .inl (cI, 4, .inl fg)), (lt, .inl (cI, 17, .inl ft))] ++ zWR cI cJ ad n kd ln lo hi vl gx gy sl si2_70 kc2_71 FF2_72) H := hP
              have hD : va_D A0 ([(la, .inl (cI, 25, .inl fa)), (lg, .inl (cI, 4, .inl fg)), (lt, .inl (cI, 17, .inl ft))] ++ zWR cI cJ ad n kd ln lo hi vl gx gy sl si2_70 kc2_71 FF2_72) := hD
              refine z_topl (y := zFn kd ln vl n gx gy) (zFm_m1 hn) ?_
              refine W.lcmp hx hb dL_isTold_110 ?_
              refine lv_if_eq (tgt := 116) hx hb dL_isTold_111 (by decide) (fun c_111 => ?_) (fun c_111 => ?_)
              · rw [lg_cmp_eq] at c_111
                refine lv_lconst (v := 0) hx hb dL_isTold_116 (by decide) ?_
                refine lv_lstore (lv' := [(8, .long 0), (7, .int (zH kd vl n)), (6, .int (zY kd ln vl n)), (5, .int (zX kd ln vl n)), (0, .ref (ad 0)), (1, .int uu), (2, .ref la), (3, .ref lg), (4, .ref lt)]) hx hb dL_isTold_117 hl (by decide) rfl (fun ls hl => ?_)
                refine lv_iconst (v := (-1)) hx hb dL_isTold_119 (by decide) ?_
                refine lv_istore (lv' := [(10, .int (-1)), (8, .long 0), (7, .int (zH kd vl n)), (6, .int (zY kd ln vl n)), (5, .int (zX kd ln vl n)), (0, .ref (ad 0)), (1, .int uu), (2, .ref la), (3, .ref lg), (4, .ref lt)]) hx hb dL_isTold_120 hl (by decide) rfl (fun ls hl => ?_)
                refine lv_aload_n hx hb dL_isTold_122 rfl (lv_at hl 8 rfl) ?_
                refine lv_iconst (v := nI 0) hx hb dL_isTold_123 (rfl) ?_
                refine z_iald hx hb hK hP 1 rfl (j := 0) (by omega) (by decide) dL_isTold_124 ?_
                refine z_topi (y := nI n) (hGs.1) ?_
                refine lv_iconst (v := 1) hx hb dL_isTold_125 (by decide) ?_
                refine lv_isub hx hb dL_isTold_126 ?_
                refine lv_istore (lv' := [(11, .int (nI n - 1)), (10, .int (-1)), (8, .long 0), (7, .int (zH kd vl n)), (6, .int (zY kd ln vl n)), (5, .int (zX kd ln vl n)), (0, .ref (ad 0)), (1, .int uu), (2, .ref la), (3, .ref lg), (4, .ref lt)]) hx hb dL_isTold_127 hl (by decide) rfl (fun ls hl => ?_)
                have lp_129_79 : ∀ (fu : Nat) (i : Nat) (si3 : Nat → Int32) (kc3 : Nat → Int64) (FF3 : Nat → Nat → Int32) (ms : Int64) (sd : Int32) (c9 : Nat) (s9 : Nat), (i ≤ n) → (zRo n kd ln lo hi vl gx gy sl FF3) → (zFr (fun a b => a < b ∧ b < n ∧ i ≤ b) (zMx kd ln vl n) (zMy kd ln vl n) ms) → (sd = zHin kd ln lo hi vl n gx gy (n - i) i) → (c9 + 5 * i ≤ 6 + 5 * n) → (s9 + 30 * i ≤ 36 + 30 * n) → (i < fu) → ∀ (H : Heap) (locs : List Loc), va_P D vwCl ([(la, .inl (cI, 25, .inl fa)), (lg, .inl (cI, 4, .inl fg)), (lt, .inl (cI, 17, .inl ft))] ++ zWR cI cJ ad n kd ln lo hi vl gx gy sl si3 kc3 FF3) H → va_D A0 ([(la, .inl (cI, 25, .inl fa)), (lg, .inl (cI, 4, .inl fg)), (lt, .inl (cI, 17, .inl ft))] ++ zWR cI cJ ad n kd ln lo hi vl gx gy sl si3 kc3 FF3) → va_S A0 s.heap H locs → ∀ (ls : Array Slot), lv_has ls 17 [(0, .ref (ad 0)), (1, .int uu), (2, .ref la), (3, .ref lg), (4, .ref lt), (5, .int (zX kd ln vl n)), (6, .int (zY kd ln vl n)), (8, .long ms), (10, .int sd), (11, .int (nI i - 1))] → W p l e (zRm 8 40 (6 * 40)) s m args below meth c H locs c9 s9 Q (F0 m 129 ls []) := by
                  intro fu
                  induction fu with
                  | zero => intro i si3 kc3 FF3 ms sd c9 s9 hi1 hR hms hsd hc9 hs9 hfu; exact absurd hfu (Nat.not_lt_zero _)
                  | succ fu ih_129_79 =>
                    intro i si3 kc3 FF3 ms sd c9 s9 hi1 hR hms hsd hc9 hs9 hfu H locs hP hD hS ls hl
                    refine lv_iload hx hb dL_isTold_129 (lv_at hl 9 rfl) ?_
                    refine lv_if_lt (tgt := 406) hx hb dL_isTold_131 (by decide) (fun c_131 => ?_) (fun c_131 => ?_)
                    · have c_131 := (zlt0_pred (by omega)).mp c_131
                      subst c_131
                      refine lv_aload_n hx hb dL_isTold_406 rfl (lv_at hl 0 rfl) ?_
                      refine z_callAV (w1 := [(la, .inl (cI, 25, .inl fa)), (lg, .inl (cI, 4, .inl fg)), (lt, .inl (cI, 17, .inl ft))]) (As := []) (rest := []) ⟨hx, hb, hml, hown, hts⟩ hG hK hP hD hS (cR_freedom l hfl D cI cJ ad n kd ln lo hi vl gx gy sl si3 kc3 FF3 (by first | assumption | omega | decide)) (cwV 0 hts gL_isTold_X5_freedom rfl rfl rfl (by decide +kernel) ⟨Nat.le_of_ble_eq_true rfl, Nat.le_of_ble_eq_true rfl⟩) (fun _ => rfl) 0 rfl rfl rfl rfl hl.1 rfl (Nat.le_of_ble_eq_true rfl) dL_isTold_407 ⟨(show c9 + 0 ≤ 40 by omega), (show s9 + 0 ≤ 6 * 40 by omega)⟩ (fun u_80 H locs hu_81 hP hD hS => ?_)
                      obtain ⟨r_82, si2_83, kc2_84, FF2_85⟩ := u_80
                      have hu_81 : (zL0 (FF2_85 3) (FF2_85 4) (FF2_85 5) (FF2_85 6)) ∧ (zFree kd ln vl n r_82) := hu_81
                      obtain ⟨e_86, he9⟩ := hu_81
                      have hP : va_P D vwCl ([(la, .inl (cI, 25, .inl fa)), (lg, .inl (cI, 4, .inl fg)), (lt, .inl (cI, 17, .inl ft))] ++ zWR cI cJ ad n kd ln lo hi vl gx gy sl si2_83 kc2_84 FF2_85) H := hP
                      have hD : va_D A0 ([(la, .inl (cI, 25, .inl fa)), (lg, .inl (cI, 4, .inl fg)), (lt, .inl (cI, 17, .inl ft))] ++ zWR cI cJ ad n kd ln lo hi vl gx gy sl si2_83 kc2_84 FF2_85) := hD
                      refine z_topl (y := r_82) rfl ?_
                      replace hR := zRo_of hR e_86
                      refine lv_lload hx hb dL_isTold_410 (lv_at hl 7 rfl) ?_
                      refine W.lcmp hx hb dL_isTold_412 ?_
                      refine lv_if_ne (tgt := 459) hx hb dL_isTold_413 (by decide) (fun c_413 => ?_) (fun c_413 => ?_)
                      · rw [lg_cmp_eq] at c_413
                        exact absurd (zFr_one he9 (zFr_iff (fun a b => ⟨fun h => ⟨h.1, h.2.1⟩, fun h => ⟨h.1, h.2, Nat.zero_le _⟩⟩) hms)) c_413
                      · rw [lg_cmp_eq] at c_413
                        refine lv_aload_n hx hb dL_isTold_416 rfl (lv_at hl 0 rfl) ?_
                        refine z_callAV (w1 := [(la, .inl (cI, 25, .inl fa)), (lg, .inl (cI, 4, .inl fg)), (lt, .inl (cI, 17, .inl ft))]) (As := []) (rest := []) ⟨hx, hb, hml, hown, hts⟩ hG hK hP hD hS (cR_hindrance l hfl D cI cJ ad n kd ln lo hi vl gx gy sl si2_83 kc2_84 FF2_85 (by first | assumption | omega | decide)) (cwV 0 hts gL_isTold_X5_hindrance rfl rfl rfl (by decide +kernel) ⟨Nat.le_of_ble_eq_true rfl, Nat.le_of_ble_eq_true rfl⟩) (fun _ => rfl) 0 rfl rfl rfl rfl hl.1 rfl (Nat.le_of_ble_eq_true rfl) dL_isTold_417 ⟨(show c9 + 0 ≤ 40 by omega), (show s9 + 0 ≤ 6 * 40 by omega)⟩ (fun u_87 H locs hu_88 hP hD hS => ?_)
                        obtain ⟨r_89, si2_90, kc2_91, FF2_92⟩ := u_87
                        have hu_88 : (zL0 (FF2_92 3) (FF2_92 4) (FF2_92 5) (FF2_92 6)) ∧ (r_89 = zHin kd ln lo hi vl n gx gy n 0) := hu_88
                        obtain ⟨e_93, e_94⟩ := hu_88
                        subst e_94
                        have hP : va_P D vwCl ([(la, .inl (cI, 25, .inl fa)), (lg, .inl (cI, 4, .inl fg)), (lt, .inl (cI, 17, .inl ft))] ++ zWR cI cJ ad n kd ln lo hi vl gx gy sl si2_90 kc2_91 FF2_92) H := hP
                        have hD : va_D A0 ([(la, .inl (cI, 25, .inl fa)), (lg, .inl (cI, 4, .inl fg)), (lt, .inl (cI, 17, .inl ft))] ++ zWR cI cJ ad n kd ln lo hi vl gx gy sl si2_90 kc2_91 FF2_92) := hD
                        refine z_topi (y := zHin kd ln lo hi vl n gx gy n 0) rfl ?_
                        replace hR := zRo_of hR e_93
                        refine lv_iload hx hb dL_isTold_420 (lv_at hl 8 rfl) ?_
                        refine lv_icmp_ne (tgt := 459) hx hb dL_isTold_422 (by decide) (fun c_422 => ?_) (fun c_422 => ?_)
                        · exact absurd hsd.symm c_422
                        · refine lv_aload_n hx hb dL_isTold_425 rfl (lv_at hl 0 rfl) ?_
                          refine lv_aload_n hx hb dL_isTold_426 rfl (lv_at hl 3 rfl) ?_
                          refine lv_iconst (v := nI 0) hx hb dL_isTold_427 (rfl) ?_
                          refine z_iald hx hb hK hP 1 rfl (j := 0) (by omega) (by decide) dL_isTold_428 ?_
                          refine z_topi (y := nI n) (hGs.1) ?_
                          refine z_callAX (w1 := [(la, .inl (cI, 25, .inl fa)), (lg, .inl (cI, 4, .inl fg)), (lt, .inl (cI, 17, .inl ft))]) (As := [.ref (ad 0), .int (nI n)]) (rest := []) ⟨hx, hb, hml, hown, hts⟩ hG hK hP hD hS (cR_value l hfl D cI cJ ad n kd ln lo hi vl gx gy sl si2_90 kc2_91 FF2_92 (nI n) (by first | assumption | omega | decide)) (vx_cwSW (hh := [(0, 6, 9, 22)]) 2 hts gL_isTold_L_value rfl rfl rfl (by decide +kernel) ⟨Nat.le_of_ble_eq_true rfl, Nat.le_of_ble_eq_true rfl⟩) (fun _ => rfl) rfl hl.1 rfl (Nat.le_of_ble_eq_true rfl) dL_isTold_429 ⟨(show c9 + 1 ≤ 40 by omega), (show s9 + 6 ≤ 6 * 40 by omega)⟩ (fun u_95 H locs hu_96 hP hD hS => ?_)
                          obtain ⟨kk_97, si2_98, kc2_99, FF2_100⟩ := u_95
                          have hu_96 : (zL0 (FF2_100 3) (FF2_100 4) (FF2_100 5) (FF2_100 6)) ∧ (zJ n (nI n) → (kk_97 = vl (nI n).toNatClampNeg)) ∧ (¬ zJ n (nI n) → (kk_97 = (-7100))) := hu_96
                          obtain ⟨e_101, e_102, e_103⟩ := hu_96
                          have r_104 : (kk_97 = (-7100)) := e_103 (zJ_no hn)
                          subst r_104
                          have hP : va_P D vwCl ([(la, .inl (cI, 25, .inl fa)), (lg, .inl (cI, 4, .inl fg)), (lt, .inl (cI, 17, .inl ft))] ++ zWR cI cJ ad n kd ln lo hi vl gx gy sl si2_98 kc2_99 FF2_100) H := hP
                          have hD : va_D A0 ([(la, .inl (cI, 25, .inl fa)), (lg, .inl (cI, 4, .inl fg)), (lt, .inl (cI, 17, .inl ft))] ++ zWR cI cJ ad n kd ln lo hi vl gx gy sl si2_98 kc2_99 FF2_100) := hD
                          refine z_topi (y := -7100) rfl ?_
                          replace hR := zRo_of hR e_101
                          refine lv_sipush (v := (-7100)) hx hb dL_isTold_432 (by decide) ?_
                          refine lv_icmp_ne (tgt := 459) hx hb dL_isTold_435 (by decide) (fun c_435 => ?_) (fun c_435 => ?_)
                          · exact absurd (by decide) c_435
                          · refine lv_aload_n hx hb dL_isTold_438 rfl (lv_at hl 0 rfl) ?_
                            refine lv_aload_n hx hb dL_isTold_439 rfl (lv_at hl 3 rfl) ?_
                            refine lv_iconst (v := nI 0) hx hb dL_isTold_440 (rfl) ?_
                            refine z_iald hx hb hK hP 1 rfl (j := 0) (by omega) (by decide) dL_isTold_441 ?_
                            refine z_topi (y := nI n) (hGs.1) ?_
                            refine lv_iload_n hx hb dL_isTold_442 rfl (lv_at hl 1 rfl) ?_
                            refine lv_iconst (v := nI 3) hx hb dL_isTold_443 (rfl) ?_
                            refine z_call0 (As := [.int uu, .int (nI 3)]) (rest := [.int (nI n), .ref (ad 0)]) ⟨hx, hb, hml, hown, hts⟩ hG hK hP hD hS (zML_of (c_L_low l D cI cJ uu 3 (by first | assumption | omega | decide))) (va_cwS 2 hts gL_isTold_L_low rfl rfl rfl (by decide +kernel) ⟨Nat.le_of_ble_eq_true rfl, Nat.le_of_ble_eq_true rfl⟩) (fun _ => rfl) rfl hl.1 rfl (Nat.le_of_ble_eq_true rfl) dL_isTold_444 ⟨(show c9 + 1 + 0 ≤ 40 by omega), (show s9 + 6 * 1 + 0 ≤ 6 * 40 by omega)⟩ (fun u_105 H locs hu_106 hP hD hS => ?_)
                            obtain ⟨r_107, rfl⟩ : ∃ z, z = u_105 := ⟨_, rfl⟩
                            have hu_106 : (r_107 = nI (zLw uu 3)) := hu_106
                            have e_108 := hu_106
                            subst e_108
                            have hP : va_P D vwCl ([(la, .inl (cI, 25, .inl fa)), (lg, .inl (cI, 4, .inl fg)), (lt, .inl (cI, 17, .inl ft))] ++ zWR cI cJ ad n kd ln lo hi vl gx gy sl si2_98 kc2_99 FF2_100) H := hP
                            have hD : va_D A0 ([(la, .inl (cI, 25, .inl fa)), (lg, .inl (cI, 4, .inl fg)), (lt, .inl (cI, 17, .inl ft))] ++ zWR cI cJ ad n kd ln lo hi vl gx gy sl si2_98 kc2_99 FF2_100) := hD
                            refine z_callAX (w1 := [(la, .inl (cI, 25, .inl fa)), (lg, .inl (cI, 4, .inl fg)), (lt, .inl (cI, 17, .inl ft))]) (As := [.ref (ad 0), .int (nI n), .int (nI (zLw uu 3))]) (rest := []) ⟨hx, hb, hml, hown, hts⟩ hG hK hP hD hS (cR_moves l hfl D cI cJ ad n kd ln lo hi vl gx gy sl si2_98 kc2_99 FF2_100 (nI n) (nI (zLw uu 3)) (by first | assumption | omega | decide)) (vx_cwSW (hh := [(0, 7, 10, 22), (0, 7, 15, 14)]) 3 hts gL_isTold_L_moves rfl rfl rfl (by decide +kernel) ⟨Nat.le_of_ble_eq_true rfl, Nat.le_of_ble_eq_true rfl⟩) (fun _ => rfl) rfl hl.1 rfl (Nat.le_of_ble_eq_true rfl) dL_isTold_447 ⟨(show c9 + 1 + 2 ≤ 40 by omega), (show s9 + 6 * 1 + 12 ≤ 6 * 40 by omega)⟩ (fun u_109 H locs hu_110 hP hD hS => ?_)
                            obtain ⟨kk_111, si2_112, kc2_113, FF2_114⟩ := u_109
                            have hu_110 : (zL0 (FF2_114 3) (FF2_114 4) (FF2_114 5) (FF2_114 6)) ∧ (zJ n (nI n) → (0 ≤ (nI (zLw uu 3)) ∧ (nI (zLw uu 3)) ≤ 1) → (kk_111 = if (nI (zLw uu 3)) = 0 then zMx kd ln vl n ((nI n).toNatClampNeg) else zMy kd ln vl n ((nI n).toNatClampNeg))) ∧ (¬ zJ n (nI n) → (kk_111 = (-99100100))) := hu_110
                            obtain ⟨e_115, e_116, e_117⟩ := hu_110
                            have r_118 : (kk_111 = (-99100100)) := e_117 (zJ_no hn)
                            subst r_118
                            have hP : va_P D vwCl ([(la, .inl (cI, 25, .inl fa)), (lg, .inl (cI, 4, .inl fg)), (lt, .inl (cI, 17, .inl ft))] ++ zWR cI cJ ad n kd ln lo hi vl gx gy sl si2_112 kc2_113 FF2_114) H := hP
                            have hD : va_D A0 ([(la, .inl (cI, 25, .inl fa)), (lg, .inl (cI, 4, .inl fg)), (lt, .inl (cI, 17, .inl ft))] ++ zWR cI cJ ad n kd ln lo hi vl gx gy sl si2_112 kc2_113 FF2_114) := hD
                            refine z_topi (y := -99100100) rfl ?_
                            replace hR := zRo_of hR e_115
                            refine lv_ldc (own := RL) (v := (-99100100)) hx hb hown (hts (.constant RL 38 (-99100100)) (by decide +kernel)) dL_isTold_450 ?_
                            refine lv_icmp_ne (tgt := 459) hx hb dL_isTold_452 (by decide) (fun c_452 => ?_) (fun c_452 => ?_)
                            · exact absurd (by decide) c_452
                            · refine lv_iconst (v := 1) hx hb dL_isTold_455 (by decide) ?_
                              refine lv_goto (tgt := 460) hx hb dL_isTold_456 (by decide) ?_
                              exact hRet _ (si2_112, kc2_113, FF2_114) _ _ _ _ _ (show c9 + 1 + 2 ≤ 40 by omega) (show s9 + 6 * 1 + 6 * 2 ≤ 6 * 40 by omega) (hR.2.2.2.2) hP hS dL_isTold_460
                    · have c_131 : ¬ i = 0 := fun h => c_131 ((zlt0_pred (by omega)).mpr h)
                      obtain ⟨k, rfl⟩ : ∃ k, i = k + 1 := ⟨i - 1, by omega⟩
                      rw [nI_pred] at hl
                      refine lv_iconst (v := 1) hx hb dL_isTold_134 (by decide) ?_
                      refine lv_iload hx hb dL_isTold_135 (lv_at hl 9 rfl) ?_
                      refine lv_iconst (v := 1) hx hb dL_isTold_137 (by decide) ?_
                      refine lv_aload_n hx hb dL_isTold_138 rfl (lv_at hl 2 rfl) ?_
                      refine lv_aload_n hx hb dL_isTold_139 rfl (lv_at hl 3 rfl) ?_
                      refine lv_aload hx hb dL_isTold_140 (lv_at hl 4 rfl) ?_
                      refine z_callF (w1 := zWR cI cJ ad n kd ln lo hi vl gx gy sl si3 kc3 FF3) (As := [.int 1, .int (nI k), .int 1, .ref la, .ref lg, .ref lt]) (rest := []) ⟨hx, hb, hml, hown, hts⟩ hG hK hP hD hS (c3_tips l hfl D cI cJ 1 (nI k) 1 la fa lg fg lt ft n kd ln lo hi vl gx gy sl (by first | assumption | omega | decide) (by first | assumption | omega | decide) (by first | assumption | omega | decide) (by first | assumption | omega | decide) (by first | assumption | omega | decide)) (va_cwS 6 hts gL_isTold_L_tips rfl rfl rfl (by decide +kernel) ⟨Nat.le_of_ble_eq_true rfl, Nat.le_of_ble_eq_true rfl⟩) (fun _ => rfl) rfl hl.1 rfl (Nat.le_of_ble_eq_true rfl) dL_isTold_142 ⟨(show c9 + 0 ≤ 40 by omega), (show s9 + 0 ≤ 6 * 40 by omega)⟩ (fun u_119 H locs hu_120 hP hD hS => ?_)
                      obtain ⟨r_121, rfl⟩ : ∃ z, z = u_119 := ⟨_, rfl⟩
                      have hu_120 : (r_121 = zXY (1 : Int32) kd ln (zPm vl (nI k) (1 : Int32)) n) := hu_120
                      have e_122 := hu_120
                      subst e_122
                      have hP : va_P D vwCl ([(la, .inl (cI, 25, .inl fa)), (lg, .inl (cI, 4, .inl fg)), (lt, .inl (cI, 17, .inl ft))] ++ zWR cI cJ ad n kd ln lo hi vl gx gy sl si3 kc3 FF3) H := hP
                      have hD : va_D A0 ([(la, .inl (cI, 25, .inl fa)), (lg, .inl (cI, 4, .inl fg)), (lt, .inl (cI, 17, .inl ft))] ++ zWR cI cJ ad n kd ln lo hi vl gx gy sl si3 kc3 FF3) := hD
                      refine z_topi (y := zX kd ln (zPo vl (nI k) (vl k + 1)) n) (zXm_po hn (by omega) 1) ?_
                      refine lv_iload hx hb dL_isTold_145 (lv_at hl 5 rfl) ?_
                      refine lv_isub hx hb dL_isTold_147 ?_
                      refine z_topi (y := zMx kd ln vl n k) (rfl) ?_
                      refine lv_istore (lv' := [(12, .int (zMx kd ln vl n k)), (0, .ref (ad 0)), (1, .int uu), (2, .ref la), (3, .ref lg), (4, .ref lt), (5, .int (zX kd ln vl n)), (6, .int (zY kd ln vl n)), (8, .long ms), (10, .int sd), (11, .int (nI k))]) hx hb dL_isTold_148 hl (by decide) rfl (fun ls hl => ?_)
                      refine lv_iconst (v := 0) hx hb dL_isTold_150 (by decide) ?_
                      refine lv_iload hx hb dL_isTold_151 (lv_at hl 10 rfl) ?_
                      refine lv_iconst (v := 1) hx hb dL_isTold_153 (by decide) ?_
                      refine lv_aload_n hx hb dL_isTold_154 rfl (lv_at hl 3 rfl) ?_
                      refine lv_aload_n hx hb dL_isTold_155 rfl (lv_at hl 4 rfl) ?_
                      refine lv_aload hx hb dL_isTold_156 (lv_at hl 5 rfl) ?_
                      refine z_callF (w1 := zWR cI cJ ad n kd ln lo hi vl gx gy sl si3 kc3 FF3) (As := [.int 0, .int (nI k), .int 1, .ref la, .ref lg, .ref lt]) (rest := []) ⟨hx, hb, hml, hown, hts⟩ hG hK hP hD hS (c3_tips l hfl D cI cJ 0 (nI k) 1 la fa lg fg lt ft n kd ln lo hi vl gx gy sl (by first | assumption | omega | decide) (by first | assumption | omega | decide) (by first | assumption | omega | decide) (by first | assumption | omega | decide) (by first | assumption | omega | decide)) (va_cwS 6 hts gL_isTold_L_tips rfl rfl rfl (by decide +kernel) ⟨Nat.le_of_ble_eq_true rfl, Nat.le_of_ble_eq_true rfl⟩) (fun _ => rfl) rfl hl.1 rfl (Nat.le_of_ble_eq_true rfl) dL_isTold_158 ⟨(show c9 + 0 ≤ 40 by omega), (show s9 + 0 ≤ 6 * 40 by omega)⟩ (fun u_123 H locs hu_124 hP hD hS => ?_)
                      obtain ⟨r_125, rfl⟩ : ∃ z, z = u_123 := ⟨_, rfl⟩
                      have hu_124 : (r_125 = zXY (0 : Int32) kd ln (zPm vl (nI k) (1 : Int32)) n) := hu_124
                      have e_126 := hu_124
                      subst e_126
                      have hP : va_P D vwCl ([(la, .inl (cI, 25, .inl fa)), (lg, .inl (cI, 4, .inl fg)), (lt, .inl (cI, 17, .inl ft))] ++ zWR cI cJ ad n kd ln lo hi vl gx gy sl si3 kc3 FF3) H := hP
                      have hD : va_D A0 ([(la, .inl (cI, 25, .inl fa)), (lg, .inl (cI, 4, .inl fg)), (lt, .inl (cI, 17, .inl ft))] ++ zWR cI cJ ad n kd ln lo hi vl gx gy sl si3 kc3 FF3) := hD
                      refine z_topi (y := zY kd ln (zPo vl (nI k) (vl k + 1)) n) (zYm_po hn (by omega) 1) ?_
                      refine lv_iload hx hb dL_isTold_161 (lv_at hl 7 rfl) ?_
                      refine lv_isub hx hb dL_isTold_163 ?_
                      refine z_topi (y := zMy kd ln vl n k) (rfl) ?_
                      refine lv_istore (lv' := [(13, .int (zMy kd ln vl n k)), (12, .int (zMx kd ln vl n k)), (0, .ref (ad 0)), (1, .int uu), (2, .ref la), (3, .ref lg), (4, .ref lt), (5, .int (zX kd ln vl n)), (6, .int (zY kd ln vl n)), (8, .long ms), (10, .int sd), (11, .int (nI k))]) hx hb dL_isTold_164 hl (by decide) rfl (fun ls hl => ?_)
                      refine lv_aload_n hx hb dL_isTold_166 rfl (lv_at hl 2 rfl) ?_
                      refine lv_iload hx hb dL_isTold_167 (lv_at hl 11 rfl) ?_
                      refine z_callAX (w1 := [(la, .inl (cI, 25, .inl fa)), (lg, .inl (cI, 4, .inl fg)), (lt, .inl (cI, 17, .inl ft))]) (As := [.ref (ad 0), .int (nI k)]) (rest := []) ⟨hx, hb, hml, hown, hts⟩ hG hK hP hD hS (cR_value l hfl D cI cJ ad n kd ln lo hi vl gx gy sl si3 kc3 FF3 (nI k) (by first | assumption | omega | decide)) (vx_cwSW (hh := [(0, 6, 9, 22)]) 2 hts gL_isTold_L_value rfl rfl rfl (by decide +kernel) ⟨Nat.le_of_ble_eq_true rfl, Nat.le_of_ble_eq_true rfl⟩) (fun _ => rfl) rfl hl.1 rfl (Nat.le_of_ble_eq_true rfl) dL_isTold_169 ⟨(show c9 + 1 ≤ 40 by omega), (show s9 + 6 ≤ 6 * 40 by omega)⟩ (fun u_127 H locs hu_128 hP hD hS => ?_)
                      obtain ⟨kk_129, si2_130, kc2_131, FF2_132⟩ := u_127
                      have hu_128 : (zL0 (FF2_132 3) (FF2_132 4) (FF2_132 5) (FF2_132 6)) ∧ (zJ n (nI k) → (kk_129 = vl (nI k).toNatClampNeg)) ∧ (¬ zJ n (nI k) → (kk_129 = (-7100))) := hu_128
                      obtain ⟨e_133, e_134, e_135⟩ := hu_128
                      have r_136 : (kk_129 = vl (nI k).toNatClampNeg) := e_134 (zJ_lt hn (by omega))
                      subst r_136
                      have hP : va_P D vwCl ([(la, .inl (cI, 25, .inl fa)), (lg, .inl (cI, 4, .inl fg)), (lt, .inl (cI, 17, .inl ft))] ++ zWR cI cJ ad n kd ln lo hi vl gx gy sl si2_130 kc2_131 FF2_132) H := hP
                      have hD : va_D A0 ([(la, .inl (cI, 25, .inl fa)), (lg, .inl (cI, 4, .inl fg)), (lt, .inl (cI, 17, .inl ft))] ++ zWR cI cJ ad n kd ln lo hi vl gx gy sl si2_130 kc2_131 FF2_132) := hD
                      refine z_topi (y := vl (nI k).toNatClampNeg) rfl ?_
                      replace hR := zRo_of hR e_133
                      refine z_topi (y := vl k) (by rw [nI_clamp (by omega)]) ?_
                      refine lv_aload_n hx hb dL_isTold_172 rfl (lv_at hl 4 rfl) ?_
                      refine lv_iconst (v := nI 5) hx hb dL_isTold_173 (rfl) ?_
                      refine lv_iload hx hb dL_isTold_174 (lv_at hl 11 rfl) ?_
                      refine lv_imul hx hb dL_isTold_176 ?_
                      refine z_topi (y := nI (5 * k)) (pk_mul 5 _) ?_
                      refine lv_iconst (v := nI 4) hx hb dL_isTold_177 (rfl) ?_
                      refine lv_iadd hx hb dL_isTold_178 ?_
                      refine z_topi (y := nI (5 * k + 4)) (nI_add _ _) ?_
                      refine z_iald hx hb hK hP 0 rfl (j := (5 * k + 4)) (by omega) (by decide) dL_isTold_179 ?_
                      refine z_topi (y := vl k) ((hA k (by omega)).2.2.2.2) ?_
                      refine lv_icmp_ne (tgt := 207) hx hb dL_isTold_180 (by decide) (fun c_180 => ?_) (fun c_180 => ?_)
                      · exact absurd rfl c_180
                      · refine lv_aload_n hx hb dL_isTold_183 rfl (lv_at hl 2 rfl) ?_
                        refine lv_iload hx hb dL_isTold_184 (lv_at hl 11 rfl) ?_
                        refine lv_iconst (v := 0) hx hb dL_isTold_186 (by decide) ?_
                        refine z_callAX (w1 := [(la, .inl (cI, 25, .inl fa)), (lg, .inl (cI, 4, .inl fg)), (lt, .inl (cI, 17, .inl ft))]) (As := [.ref (ad 0), .int (nI k), .int 0]) (rest := []) ⟨hx, hb, hml, hown, hts⟩ hG hK hP hD hS (cR_moves l hfl D cI cJ ad n kd ln lo hi vl gx gy sl si2_130 kc2_131 FF2_132 (nI k) 0 (by first | assumption | omega | decide)) (vx_cwSW (hh := [(0, 7, 10, 22), (0, 7, 15, 14)]) 3 hts gL_isTold_L_moves rfl rfl rfl (by decide +kernel) ⟨Nat.le_of_ble_eq_true rfl, Nat.le_of_ble_eq_true rfl⟩) (fun _ => rfl) rfl hl.1 rfl (Nat.le_of_ble_eq_true rfl) dL_isTold_187 ⟨(show c9 + 1 + 2 ≤ 40 by omega), (show s9 + 6 * 1 + 12 ≤ 6 * 40 by omega)⟩ (fun u_137 H locs hu_138 hP hD hS => ?_)
                        obtain ⟨kk_139, si2_140, kc2_141, FF2_142⟩ := u_137
                        have hu_138 : (zL0 (FF2_142 3) (FF2_142 4) (FF2_142 5) (FF2_142 6)) ∧ (zJ n (nI k) → (0 ≤ (0 : Int32) ∧ (0 : Int32) ≤ 1) → (kk_139 = if (0 : Int32) = 0 then zMx kd ln vl n ((nI k).toNatClampNeg) else zMy kd ln vl n ((nI k).toNatClampNeg))) ∧ (¬ zJ n (nI k) → (kk_139 = (-99100100))) := hu_138
                        obtain ⟨e_143, e_144, e_145⟩ := hu_138
                        have r_146 : (kk_139 = if (0 : Int32) = 0 then zMx kd ln vl n ((nI k).toNatClampNeg) else zMy kd ln vl n ((nI k).toNatClampNeg)) := e_144 (zJ_lt hn (by omega)) (by decide)
                        subst r_146
                        have hP : va_P D vwCl ([(la, .inl (cI, 25, .inl fa)), (lg, .inl (cI, 4, .inl fg)), (lt, .inl (cI, 17, .inl ft))] ++ zWR cI cJ ad n kd ln lo hi vl gx gy sl si2_140 kc2_141 FF2_142) H := hP
                        have hD : va_D A0 ([(la, .inl (cI, 25, .inl fa)), (lg, .inl (cI, 4, .inl fg)), (lt, .inl (cI, 17, .inl ft))] ++ zWR cI cJ ad n kd ln lo hi vl gx gy sl si2_140 kc2_141 FF2_142) := hD
                        refine z_topi (y := if (0 : Int32) = 0 then zMx kd ln vl n ((nI k).toNatClampNeg) else zMy kd ln vl n ((nI k).toNatClampNeg)) rfl ?_
                        replace hR := zRo_of hR e_143
                        refine z_topi (y := zMx kd ln vl n k) (by rw [nI_clamp (by omega)]; exact if_pos rfl) ?_
                        refine lv_iload hx hb dL_isTold_190 (lv_at hl 1 rfl) ?_
                        refine lv_icmp_ne (tgt := 207) hx hb dL_isTold_192 (by decide) (fun c_192 => ?_) (fun c_192 => ?_)
                        · exact absurd rfl c_192
                        · refine lv_aload_n hx hb dL_isTold_195 rfl (lv_at hl 2 rfl) ?_
                          refine lv_iload hx hb dL_isTold_196 (lv_at hl 11 rfl) ?_
                          refine lv_iconst (v := 1) hx hb dL_isTold_198 (by decide) ?_
                          refine z_callAX (w1 := [(la, .inl (cI, 25, .inl fa)), (lg, .inl (cI, 4, .inl fg)), (lt, .inl (cI, 17, .inl ft))]) (As := [.ref (ad 0), .int (nI k), .int 1]) (rest := []) ⟨hx, hb, hml, hown, hts⟩ hG hK hP hD hS (cR_moves l hfl D cI cJ ad n kd ln lo hi vl gx gy sl si2_140 kc2_141 FF2_142 (nI k) 1 (by first | assumption | omega | decide)) (vx_cwSW (hh := [(0, 7, 10, 22), (0, 7, 15, 14)]) 3 hts gL_isTold_L_moves rfl rfl rfl (by decide +kernel) ⟨Nat.le_of_ble_eq_true rfl, Nat.le_of_ble_eq_true rfl⟩) (fun _ => rfl) rfl hl.1 rfl (Nat.le_of_ble_eq_true rfl) dL_isTold_199 ⟨(show c9 + 1 + 2 + 2 ≤ 40 by omega), (show s9 + 6 * 1 + 6 * 2 + 12 ≤ 6 * 40 by omega)⟩ (fun u_147 H locs hu_148 hP hD hS => ?_)
                          obtain ⟨kk_149, si2_150, kc2_151, FF2_152⟩ := u_147
                          have hu_148 : (zL0 (FF2_152 3) (FF2_152 4) (FF2_152 5) (FF2_152 6)) ∧ (zJ n (nI k) → (0 ≤ (1 : Int32) ∧ (1 : Int32) ≤ 1) → (kk_149 = if (1 : Int32) = 0 then zMx kd ln vl n ((nI k).toNatClampNeg) else zMy kd ln vl n ((nI k).toNatClampNeg))) ∧ (¬ zJ n (nI k) → (kk_149 = (-99100100))) := hu_148
                          obtain ⟨e_153, e_154, e_155⟩ := hu_148
                          have r_156 : (kk_149 = if (1 : Int32) = 0 then zMx kd ln vl n ((nI k).toNatClampNeg) else zMy kd ln vl n ((nI k).toNatClampNeg)) := e_154 (zJ_lt hn (by omega)) (by decide)
                          subst r_156
                          have hP : va_P D vwCl ([(la, .inl (cI, 25, .inl fa)), (lg, .inl (cI, 4, .inl fg)), (lt, .inl (cI, 17, .inl ft))] ++ zWR cI cJ ad n kd ln lo hi vl gx gy sl si2_150 kc2_151 FF2_152) H := hP
                          have hD : va_D A0 ([(la, .inl (cI, 25, .inl fa)), (lg, .inl (cI, 4, .inl fg)), (lt, .inl (cI, 17, .inl ft))] ++ zWR cI cJ ad n kd ln lo hi vl gx gy sl si2_150 kc2_151 FF2_152) := hD
                          refine z_topi (y := if (1 : Int32) = 0 then zMx kd ln vl n ((nI k).toNatClampNeg) else zMy kd ln vl n ((nI k).toNatClampNeg)) rfl ?_
                          replace hR := zRo_of hR e_153
                          refine z_topi (y := zMy kd ln vl n k) (by rw [nI_clamp (by omega)]; exact if_neg (by decide)) ?_
                          refine lv_iload hx hb dL_isTold_202 (lv_at hl 0 rfl) ?_
                          refine lv_icmp_eq (tgt := 209) hx hb dL_isTold_204 (by decide) (fun c_204 => ?_) (fun c_204 => ?_)
                          · refine lv_iconst (v := 0) hx hb dL_isTold_209 (by decide) ?_
                            refine lv_istore (lv' := [(14, .int 0), (13, .int (zMy kd ln vl n k)), (12, .int (zMx kd ln vl n k)), (0, .ref (ad 0)), (1, .int uu), (2, .ref la), (3, .ref lg), (4, .ref lt), (5, .int (zX kd ln vl n)), (6, .int (zY kd ln vl n)), (8, .long ms), (10, .int sd), (11, .int (nI k))]) hx hb dL_isTold_210 hl (by decide) rfl (fun ls hl => ?_)
                            have lp_212_157 : ∀ (fu : Nat) (b : Nat) (ms2 : Int64), (b ≤ k) → (zFr (fun a b9 => a < b9 ∧ b9 < n ∧ (k + 1 ≤ b9 ∨ (b9 = k ∧ a < b))) (zMx kd ln vl n) (zMy kd ln vl n) ms2) → (k - b < fu) → ∀ (H : Heap) (locs : List Loc), va_P D vwCl ([(la, .inl (cI, 25, .inl fa)), (lg, .inl (cI, 4, .inl fg)), (lt, .inl (cI, 17, .inl ft))] ++ zWR cI cJ ad n kd ln lo hi vl gx gy sl si2_150 kc2_151 FF2_152) H → va_D A0 ([(la, .inl (cI, 25, .inl fa)), (lg, .inl (cI, 4, .inl fg)), (lt, .inl (cI, 17, .inl ft))] ++ zWR cI cJ ad n kd ln lo hi vl gx gy sl si2_150 kc2_151 FF2_152) → va_S A0 s.heap H locs → ∀ (ls : Array Slot), lv_has ls 17 [(0, .ref (ad 0)), (1, .int uu), (2, .ref la), (3, .ref lg), (4, .ref lt), (5, .int (zX kd ln vl n)), (6, .int (zY kd ln vl n)), (8, .long ms2), (10, .int sd), (11, .int (nI k)), (12, .int (zMx kd ln vl n k)), (13, .int (zMy kd ln vl n k)), (14, .int (nI b))] → W p l e (zRm 8 40 (6 * 40)) s m args below meth c H locs (c9 + 1 + 2 + 2) (s9 + 6 * 1 + 6 * 2 + 6 * 2) Q (F0 m 212 ls []) := by
                              intro fu
                              induction fu with
                              | zero => intro b ms2 hb1 hms2 hfu; exact absurd hfu (Nat.not_lt_zero _)
                              | succ fu ih_212_157 =>
                                intro b ms2 hb1 hms2 hfu H locs hP hD hS ls hl
                                refine lv_iload hx hb dL_isTold_212 (lv_at hl 12 rfl) ?_
                                refine lv_iload hx hb dL_isTold_214 (lv_at hl 9 rfl) ?_
                                refine lv_icmp_ge (tgt := 298) hx hb dL_isTold_216 (by decide) (fun c_216 => ?_) (fun c_216 => ?_)
                                · rw [nI_leI (by omega) (by omega)] at c_216
                                  obtain rfl : k = b := by omega
                                  refine lv_aload_n hx hb dL_isTold_298 rfl (lv_at hl 2 rfl) ?_
                                  refine lv_iconst (v := nI 5) hx hb dL_isTold_299 (rfl) ?_
                                  refine lv_iload hx hb dL_isTold_300 (lv_at hl 9 rfl) ?_
                                  refine lv_imul hx hb dL_isTold_302 ?_
                                  refine z_topi (y := nI (5 * k)) (pk_mul 5 _) ?_
                                  refine lv_iconst (v := nI 4) hx hb dL_isTold_303 (rfl) ?_
                                  refine lv_iadd hx hb dL_isTold_304 ?_
                                  refine z_topi (y := nI (5 * k + 4)) (nI_add _ _) ?_
                                  refine z_iald hx hb hK hP 0 rfl (j := (5 * k + 4)) (by omega) (by decide) dL_isTold_305 ?_
                                  refine z_topi (y := vl k) ((hA k (by omega)).2.2.2.2) ?_
                                  refine lv_aload_n hx hb dL_isTold_306 rfl (lv_at hl 2 rfl) ?_
                                  refine lv_iconst (v := nI 5) hx hb dL_isTold_307 (rfl) ?_
                                  refine lv_iload hx hb dL_isTold_308 (lv_at hl 9 rfl) ?_
                                  refine lv_imul hx hb dL_isTold_310 ?_
                                  refine z_topi (y := nI (5 * k)) (pk_mul 5 _) ?_
                                  refine lv_iconst (v := nI 3) hx hb dL_isTold_311 (rfl) ?_
                                  refine lv_iadd hx hb dL_isTold_312 ?_
                                  refine z_topi (y := nI (5 * k + 3)) (nI_add _ _) ?_
                                  refine z_iald hx hb hK hP 0 rfl (j := (5 * k + 3)) (by omega) (by decide) dL_isTold_313 ?_
                                  refine z_topi (y := hi k) ((hA k (by omega)).2.2.2.1) ?_
                                  refine lv_icmp_ne (tgt := 339) hx hb dL_isTold_314 (by decide) (fun c_314 => ?_) (fun c_314 => ?_)
                                  · refine lv_iconst (v := 0) hx hb dL_isTold_339 (by decide) ?_
                                    refine lv_istore (lv' := [(14, .int 0), (0, .ref (ad 0)), (1, .int uu), (2, .ref la), (3, .ref lg), (4, .ref lt), (5, .int (zX kd ln vl n)), (6, .int (zY kd ln vl n)), (8, .long ms2), (10, .int sd), (11, .int (nI k)), (12, .int (zMx kd ln vl n k)), (13, .int (zMy kd ln vl n k))]) hx hb dL_isTold_340 hl (by decide) rfl (fun ls hl => ?_)
                                    refine lv_aload_n hx hb dL_isTold_342 rfl (lv_at hl 3 rfl) ?_
                                    refine lv_iconst (v := nI 5) hx hb dL_isTold_343 (rfl) ?_
                                    refine lv_iload hx hb dL_isTold_344 (lv_at hl 10 rfl) ?_
                                    refine lv_imul hx hb dL_isTold_346 ?_
                                    refine z_topi (y := nI (5 * k)) (pk_mul 5 _) ?_
                                    refine lv_iconst (v := nI 4) hx hb dL_isTold_347 (rfl) ?_
                                    refine lv_iadd hx hb dL_isTold_348 ?_
                                    refine z_topi (y := nI (5 * k + 4)) (nI_add _ _) ?_
                                    refine z_iald hx hb hK hP 0 rfl (j := (5 * k + 4)) (by omega) (by decide) dL_isTold_349 ?_
                                    refine z_topi (y := vl k) ((hA k (by omega)).2.2.2.2) ?_
                                    refine lv_aload_n hx hb dL_isTold_350 rfl (lv_at hl 3 rfl) ?_
                                    refine lv_iconst (v := nI 5) hx hb dL_isTold_351 (rfl) ?_
                                    refine lv_iload hx hb dL_isTold_352 (lv_at hl 10 rfl) ?_
                                    refine lv_imul hx hb dL_isTold_354 ?_
                                    refine z_topi (y := nI (5 * k)) (pk_mul 5 _) ?_
                                    refine lv_iconst (v := nI 2) hx hb dL_isTold_355 (rfl) ?_
                                    refine lv_iadd hx hb dL_isTold_356 ?_
                                    refine z_topi (y := nI (5 * k + 2)) (nI_add _ _) ?_
                                    refine z_iald hx hb hK hP 0 rfl (j := (5 * k + 2)) (by omega) (by decide) dL_isTold_357 ?_
                                    refine z_topi (y := lo k) ((hA k (by omega)).2.2.1) ?_
                                    refine lv_icmp_ne (tgt := 383) hx hb dL_isTold_358 (by decide) (fun c_358 => ?_) (fun c_358 => ?_)
                                    · refine lv_iconst (v := 0) hx hb dL_isTold_383 (by decide) ?_
                                      refine lv_istore (lv' := [(15, .int 0), (14, .int 0), (0, .ref (ad 0)), (1, .int uu), (2, .ref la), (3, .ref lg), (4, .ref lt), (5, .int (zX kd ln vl n)), (6, .int (zY kd ln vl n)), (8, .long ms2), (10, .int sd), (11, .int (nI k)), (12, .int (zMx kd ln vl n k)), (13, .int (zMy kd ln vl n k))]) hx hb dL_isTold_384 hl (by decide) rfl (fun ls hl => ?_)
                                      refine lv_iload hx hb dL_isTold_386 (lv_at hl 1 rfl) ?_
                                      refine lv_if_ne (tgt := 396) hx hb dL_isTold_388 (by decide) (fun c_388 => ?_) (fun c_388 => ?_)
                                      · exact absurd (by decide) c_388
                                      · refine lv_iload hx hb dL_isTold_391 (lv_at hl 0 rfl) ?_
                                        refine lv_if_eq (tgt := 400) hx hb dL_isTold_393 (by decide) (fun c_393 => ?_) (fun c_393 => ?_)
                                        · refine lv_iinc (v := nI k - 1) (lv' := [(11, .int (nI k - 1)), (15, .int 0), (14, .int 0), (0, .ref (ad 0)), (1, .int uu), (2, .ref la), (3, .ref lg), (4, .ref lt), (5, .int (zX kd ln vl n)), (6, .int (zY kd ln vl n)), (8, .long ms2), (10, .int sd), (12, .int (zMx kd ln vl n k)), (13, .int (zMy kd ln vl n k))]) hx hb dL_isTold_400 hl (k := 11) rfl (zdec _) (by decide) rfl (fun ls hl => ?_)
                                          refine lv_goto (tgt := 129) hx hb dL_isTold_403 (by decide) ?_
                                          exact ih_129_79 k si2_150 kc2_151 FF2_152 ms2 sd (c9 + 1 + 2 + 2) (s9 + 6 * 1 + 6 * 2 + 6 * 2) (by omega) (hR) (zFr_iff (fun a b => ⟨fun h => ⟨h.1, h.2.1, h.2.2.elim (fun q => by omega) (fun q => by omega)⟩, fun h => ⟨h.1, h.2.1, by omega⟩⟩) hms2) (by first | exact (zHin_t (by omega) (Or.inl ⟨c_314, Int64.not_le.mp c_332⟩)).symm | exact (zHin_t (by omega) (Or.inr ⟨c_358, Int64.not_le.mp c_376⟩)).symm | exact hsd.trans (zHin_f (by omega) (fun h => h.elim (by first | exact fun h => absurd h.1 c_314 | exact fun h => absurd h.2 (Int64.not_lt.mpr c_332)) (by first | exact fun h => absurd h.1 c_358 | exact fun h => absurd h.2 (Int64.not_lt.mpr c_376)))).symm) (by omega) (by omega) (by omega) _ _ hP hD hS _ (lv_sub hl [3, 4, 5, 6, 7, 8, 9, 10, 11, 0] rfl)
                                        · exact absurd (by decide) c_393
                                    · refine lv_iload hx hb dL_isTold_361 (lv_at hl 10 rfl) ?_
                                      refine lv_iconst (v := (-1)) hx hb dL_isTold_363 (by decide) ?_
                                      refine lv_aload_n hx hb dL_isTold_364 rfl (lv_at hl 3 rfl) ?_
                                      refine lv_aload_n hx hb dL_isTold_365 rfl (lv_at hl 4 rfl) ?_
                                      refine lv_aload hx hb dL_isTold_366 (lv_at hl 5 rfl) ?_
                                      refine z_callF (w1 := zWR cI cJ ad n kd ln lo hi vl gx gy sl si2_150 kc2_151 FF2_152) (As := [.int (nI k), .int (-1), .ref la, .ref lg, .ref lt]) (rest := []) ⟨hx, hb, hml, hown, hts⟩ hG hK hP hD hS (c3_far l hfl D cI cJ (nI k) (-1) la fa lg fg lt ft n kd ln lo hi vl gx gy sl (by first | assumption | omega | decide) (by first | assumption | omega | decide) (by first | assumption | omega | decide) (by first | assumption | omega | decide) (by first | assumption | omega | decide) (hok.l) (zPm_pok2 hok (by omega) (hdec (by omega)).1 (hdec (by omega)).2) (by first | assumption | omega | decide) (by first | assumption | omega | decide)) (va_cwS 5 hts gL_isTold_L_far rfl rfl rfl (by decide +kernel) ⟨Nat.le_of_ble_eq_true rfl, Nat.le_of_ble_eq_true rfl⟩) (fun _ => rfl) rfl hl.1 rfl (Nat.le_of_ble_eq_true rfl) dL_isTold_368 ⟨(show c9 + 1 + 2 + 2 + 0 ≤ 40 by omega), (show s9 + 6 * 1 + 6 * 2 + 6 * 2 + 0 ≤ 6 * 40 by omega)⟩ (fun u_158 H locs hu_159 hP hD hS => ?_)
                                      obtain ⟨r_160, rfl⟩ : ∃ z, z = u_158 := ⟨_, rfl⟩
                                      have hu_159 : (r_160 = zFar gx gy (zX kd ln (zPm vl (nI k) (-1 : Int32)) n) (zY kd ln (zPm vl (nI k) (-1 : Int32)) n)) := hu_159
                                      have e_161 := hu_159
                                      subst e_161
                                      have hP : va_P D vwCl ([(la, .inl (cI, 25, .inl fa)), (lg, .inl (cI, 4, .inl fg)), (lt, .inl (cI, 17, .inl ft))] ++ zWR cI cJ ad n kd ln lo hi vl gx gy sl si2_150 kc2_151 FF2_152) H := hP
                                      have hD : va_D A0 ([(la, .inl (cI, 25, .inl fa)), (lg, .inl (cI, 4, .inl fg)), (lt, .inl (cI, 17, .inl ft))] ++ zWR cI cJ ad n kd ln lo hi vl gx gy sl si2_150 kc2_151 FF2_152) := hD
                                      refine z_topl (y := zFw kd ln vl n gx gy (nI k) (vl k - 1)) (by rw [zFm_po hn (by omega) (-1), zm1]) ?_
                                      refine lv_aload_n hx hb dL_isTold_371 rfl (lv_at hl 1 rfl) ?_
                                      refine z_callAV (w1 := [(la, .inl (cI, 25, .inl fa)), (lg, .inl (cI, 4, .inl fg)), (lt, .inl (cI, 17, .inl ft))]) (As := []) (rest := [.long (zFw kd ln vl n gx gy (nI k) (vl k - 1))]) ⟨hx, hb, hml, hown, hts⟩ hG hK hP hD hS (cR_far l hfl D cI cJ ad n kd ln lo hi vl gx gy sl si2_150 kc2_151 FF2_152 (by first | assumption | omega | decide)) (cwV 0 hts gL_isTold_X5_far rfl rfl rfl (by decide +kernel) ⟨Nat.le_of_ble_eq_true rfl, Nat.le_of_ble_eq_true rfl⟩) (fun _ => rfl) 0 rfl rfl rfl rfl hl.1 rfl (Nat.le_of_ble_eq_true rfl) dL_isTold_372 ⟨(show c9 + 1 + 2 + 2 + 0 ≤ 40 by omega), (show s9 + 6 * 1 + 6 * 2 + 6 * 2 + 0 ≤ 6 * 40 by omega)⟩ (fun u_162 H locs hu_163 hP hD hS => ?_)
                                      obtain ⟨r_164, si2_165, kc2_166, FF2_167⟩ := u_162
                                      have hu_163 : (zL0 (FF2_167 3) (FF2_167 4) (FF2_167 5) (FF2_167 6)) ∧ (r_164 = zFn kd ln vl n gx gy) := hu_163
                                      obtain ⟨e_168, e_169⟩ := hu_163
                                      subst e_169
                                      have hP : va_P D vwCl ([(la, .inl (cI, 25, .inl fa)), (lg, .inl (cI, 4, .inl fg)), (lt, .inl (cI, 17, .inl ft))] ++ zWR cI cJ ad n kd ln lo hi vl gx gy sl si2_165 kc2_166 FF2_167) H := hP
                                      have hD : va_D A0 ([(la, .inl (cI, 25, .inl fa)), (lg, .inl (cI, 4, .inl fg)), (lt, .inl (cI, 17, .inl ft))] ++ zWR cI cJ ad n kd ln lo hi vl gx gy sl si2_165 kc2_166 FF2_167) := hD
                                      refine z_topl (y := zFn kd ln vl n gx gy) rfl ?_
                                      replace hR := zRo_of hR e_168
                                      refine W.lcmp hx hb dL_isTold_375 ?_
                                      refine lv_if_ge (tgt := 383) hx hb dL_isTold_376 (by decide) (fun c_376 => ?_) (fun c_376 => ?_)
                                      · rw [lg_cmp_ge] at c_376
                                        refine lv_iconst (v := 0) hx hb dL_isTold_383 (by decide) ?_
                                        refine lv_istore (lv' := [(15, .int 0), (14, .int 0), (0, .ref (ad 0)), (1, .int uu), (2, .ref la), (3, .ref lg), (4, .ref lt), (5, .int (zX kd ln vl n)), (6, .int (zY kd ln vl n)), (8, .long ms2), (10, .int sd), (11, .int (nI k)), (12, .int (zMx kd ln vl n k)), (13, .int (zMy kd ln vl n k))]) hx hb dL_isTold_384 hl (by decide) rfl (fun ls hl => ?_)
                                        refine lv_iload hx hb dL_isTold_386 (lv_at hl 1 rfl) ?_
                                        refine lv_if_ne (tgt := 396) hx hb dL_isTold_388 (by decide) (fun c_388 => ?_) (fun c_388 => ?_)
                                        · exact absurd (by decide) c_388
                                        · refine lv_iload hx hb dL_isTold_391 (lv_at hl 0 rfl) ?_
                                          refine lv_if_eq (tgt := 400) hx hb dL_isTold_393 (by decide) (fun c_393 => ?_) (fun c_393 => ?_)
                                          · refine lv_iinc (v := nI k - 1) (lv' := [(11, .int (nI k - 1)), (15, .int 0), (14, .int 0), (0, .ref (ad 0)), (1, .int uu), (2, .ref la), (3, .ref lg), (4, .ref lt), (5, .int (zX kd ln vl n)), (6, .int (zY kd ln vl n)), (8, .long ms2), (10, .int sd), (12, .int (zMx kd ln vl n k)), (13, .int (zMy kd ln vl n k))]) hx hb dL_isTold_400 hl (k := 11) rfl (zdec _) (by decide) rfl (fun ls hl => ?_)
                                            refine lv_goto (tgt := 129) hx hb dL_isTold_403 (by decide) ?_
                                            exact ih_129_79 k si2_165 kc2_166 FF2_167 ms2 sd (c9 + 1 + 2 + 2) (s9 + 6 * 1 + 6 * 2 + 6 * 2) (by omega) (hR) (zFr_iff (fun a b => ⟨fun h => ⟨h.1, h.2.1, h.2.2.elim (fun q => by omega) (fun q => by omega)⟩, fun h => ⟨h.1, h.2.1, by omega⟩⟩) hms2) (by first | exact (zHin_t (by omega) (Or.inl ⟨c_314, Int64.not_le.mp c_332⟩)).symm | exact (zHin_t (by omega) (Or.inr ⟨c_358, Int64.not_le.mp c_376⟩)).symm | exact hsd.trans (zHin_f (by omega) (fun h => h.elim (by first | exact fun h => absurd h.1 c_314 | exact fun h => absurd h.2 (Int64.not_lt.mpr c_332)) (by first | exact fun h => absurd h.1 c_358 | exact fun h => absurd h.2 (Int64.not_lt.mpr c_376)))).symm) (by omega) (by omega) (by omega) _ _ hP hD hS _ (lv_sub hl [3, 4, 5, 6, 7, 8, 9, 10, 11, 0] rfl)
                                          · exact absurd (by decide) c_393
                                      · rw [lg_cmp_ge] at c_376
                                        refine lv_iconst (v := 1) hx hb dL_isTold_379 (by decide) ?_
                                        refine lv_goto (tgt := 384) hx hb dL_isTold_380 (by decide) ?_
                                        refine lv_istore (lv' := [(15, .int 1), (14, .int 0), (0, .ref (ad 0)), (1, .int uu), (2, .ref la), (3, .ref lg), (4, .ref lt), (5, .int (zX kd ln vl n)), (6, .int (zY kd ln vl n)), (8, .long ms2), (10, .int sd), (11, .int (nI k)), (12, .int (zMx kd ln vl n k)), (13, .int (zMy kd ln vl n k))]) hx hb dL_isTold_384 hl (by decide) rfl (fun ls hl => ?_)
                                        refine lv_iload hx hb dL_isTold_386 (lv_at hl 1 rfl) ?_
                                        refine lv_if_ne (tgt := 396) hx hb dL_isTold_388 (by decide) (fun c_388 => ?_) (fun c_388 => ?_)
                                        · exact absurd (by decide) c_388
                                        · refine lv_iload hx hb dL_isTold_391 (lv_at hl 0 rfl) ?_
                                          refine lv_if_eq (tgt := 400) hx hb dL_isTold_393 (by decide) (fun c_393 => ?_) (fun c_393 => ?_)
                                          · exact absurd c_393 (by decide)
                                          · refine lv_iload hx hb dL_isTold_396 (lv_at hl 11 rfl) ?_
                                            refine lv_istore (lv' := [(10, .int (nI k)), (15, .int 1), (14, .int 0), (0, .ref (ad 0)), (1, .int uu), (2, .ref la), (3, .ref lg), (4, .ref lt), (5, .int (zX kd ln vl n)), (6, .int (zY kd ln vl n)), (8, .long ms2), (11, .int (nI k)), (12, .int (zMx kd ln vl n k)), (13, .int (zMy kd ln vl n k))]) hx hb dL_isTold_398 hl (by decide) rfl (fun ls hl => ?_)
                                            refine lv_iinc (v := nI k - 1) (lv' := [(11, .int (nI k - 1)), (10, .int (nI k)), (15, .int 1), (14, .int 0), (0, .ref (ad 0)), (1, .int uu), (2, .ref la), (3, .ref lg), (4, .ref lt), (5, .int (zX kd ln vl n)), (6, .int (zY kd ln vl n)), (8, .long ms2), (12, .int (zMx kd ln vl n k)), (13, .int (zMy kd ln vl n k))]) hx hb dL_isTold_400 hl (k := 11) rfl (zdec _) (by decide) rfl (fun ls hl => ?_)
                                            refine lv_goto (tgt := 129) hx hb dL_isTold_403 (by decide) ?_
                                            exact ih_129_79 k si2_165 kc2_166 FF2_167 ms2 (nI k) (c9 + 1 + 2 + 2) (s9 + 6 * 1 + 6 * 2 + 6 * 2) (by omega) (hR) (zFr_iff (fun a b => ⟨fun h => ⟨h.1, h.2.1, h.2.2.elim (fun q => by omega) (fun q => by omega)⟩, fun h => ⟨h.1, h.2.1, by omega⟩⟩) hms2) (by first | exact (zHin_t (by omega) (Or.inl ⟨c_314, Int64.not_le.mp c_332⟩)).symm | exact (zHin_t (by omega) (Or.inr ⟨c_358, Int64.not_le.mp c_376⟩)).symm | exact hsd.trans (zHin_f (by omega) (fun h => h.elim (by first | exact fun h => absurd h.1 c_314 | exact fun h => absurd h.2 (Int64.not_lt.mpr c_332)) (by first | exact fun h => absurd h.1 c_358 | exact fun h => absurd h.2 (Int64.not_lt.mpr c_376)))).symm) (by omega) (by omega) (by omega) _ _ hP hD hS _ (lv_sub hl [4, 5, 6, 7, 8, 9, 10, 11, 1, 0] rfl)
                                  · refine lv_iload hx hb dL_isTold_317 (lv_at hl 9 rfl) ?_
                                    refine lv_iconst (v := 1) hx hb dL_isTold_319 (by decide) ?_
                                    refine lv_aload_n hx hb dL_isTold_320 rfl (lv_at hl 2 rfl) ?_
                                    refine lv_aload_n hx hb dL_isTold_321 rfl (lv_at hl 3 rfl) ?_
                                    refine lv_aload hx hb dL_isTold_322 (lv_at hl 4 rfl) ?_
                                    refine z_callF (w1 := zWR cI cJ ad n kd ln lo hi vl gx gy sl si2_150 kc2_151 FF2_152) (As := [.int (nI k), .int 1, .ref la, .ref lg, .ref lt]) (rest := []) ⟨hx, hb, hml, hown, hts⟩ hG hK hP hD hS (c3_far l hfl D cI cJ (nI k) 1 la fa lg fg lt ft n kd ln lo hi vl gx gy sl (by first | assumption | omega | decide) (by first | assumption | omega | decide) (by first | assumption | omega | decide) (by first | assumption | omega | decide) (by first | assumption | omega | decide) (hok.l) (zPm_pok2 hok (by omega) (hok.inc (by omega)).1 (hok.inc (by omega)).2) (by first | assumption | omega | decide) (by first | assumption | omega | decide)) (va_cwS 5 hts gL_isTold_L_far rfl rfl rfl (by decide +kernel) ⟨Nat.le_of_ble_eq_true rfl, Nat.le_of_ble_eq_true rfl⟩) (fun _ => rfl) rfl hl.1 rfl (Nat.le_of_ble_eq_true rfl) dL_isTold_324 ⟨(show c9 + 1 + 2 + 2 + 0 ≤ 40 by omega), (show s9 + 6 * 1 + 6 * 2 + 6 * 2 + 0 ≤ 6 * 40 by omega)⟩ (fun u_170 H locs hu_171 hP hD hS => ?_)
                                    obtain ⟨r_172, rfl⟩ : ∃ z, z = u_170 := ⟨_, rfl⟩
                                    have hu_171 : (r_172 = zFar gx gy (zX kd ln (zPm vl (nI k) (1 : Int32)) n) (zY kd ln (zPm vl (nI k) (1 : Int32)) n)) := hu_171
                                    have e_173 := hu_171
                                    subst e_173
                                    have hP : va_P D vwCl ([(la, .inl (cI, 25, .inl fa)), (lg, .inl (cI, 4, .inl fg)), (lt, .inl (cI, 17, .inl ft))] ++ zWR cI cJ ad n kd ln lo hi vl gx gy sl si2_150 kc2_151 FF2_152) H := hP
                                    have hD : va_D A0 ([(la, .inl (cI, 25, .inl fa)), (lg, .inl (cI, 4, .inl fg)), (lt, .inl (cI, 17, .inl ft))] ++ zWR cI cJ ad n kd ln lo hi vl gx gy sl si2_150 kc2_151 FF2_152) := hD
                                    refine z_topl (y := zFw kd ln vl n gx gy (nI k) (vl k + 1)) (zFm_po hn (by omega) 1) ?_
                                    refine lv_aload_n hx hb dL_isTold_327 rfl (lv_at hl 0 rfl) ?_
                                    refine z_callAV (w1 := [(la, .inl (cI, 25, .inl fa)), (lg, .inl (cI, 4, .inl fg)), (lt, .inl (cI, 17, .inl ft))]) (As := []) (rest := [.long (zFw kd ln vl n gx gy (nI k) (vl k + 1))]) ⟨hx, hb, hml, hown, hts⟩ hG hK hP hD hS (cR_far l hfl D cI cJ ad n kd ln lo hi vl gx gy sl si2_150 kc2_151 FF2_152 (by first | assumption | omega | decide)) (cwV 0 hts gL_isTold_X5_far rfl rfl rfl (by decide +kernel) ⟨Nat.le_of_ble_eq_true rfl, Nat.le_of_ble_eq_true rfl⟩) (fun _ => rfl) 0 rfl rfl rfl rfl hl.1 rfl (Nat.le_of_ble_eq_true rfl) dL_isTold_328 ⟨(show c9 + 1 + 2 + 2 + 0 ≤ 40 by omega), (show s9 + 6 * 1 + 6 * 2 + 6 * 2 + 0 ≤ 6 * 40 by omega)⟩ (fun u_174 H locs hu_175 hP hD hS => ?_)
                                    obtain ⟨r_176, si2_177, kc2_178, FF2_179⟩ := u_174
                                    have hu_175 : (zL0 (FF2_179 3) (FF2_179 4) (FF2_179 5) (FF2_179 6)) ∧ (r_176 = zFn kd ln vl n gx gy) := hu_175
                                    obtain ⟨e_180, e_181⟩ := hu_175
                                    subst e_181
                                    have hP : va_P D vwCl ([(la, .inl (cI, 25, .inl fa)), (lg, .inl (cI, 4, .inl fg)), (lt, .inl (cI, 17, .inl ft))] ++ zWR cI cJ ad n kd ln lo hi vl gx gy sl si2_177 kc2_178 FF2_179) H := hP
                                    have hD : va_D A0 ([(la, .inl (cI, 25, .inl fa)), (lg, .inl (cI, 4, .inl fg)), (lt, .inl (cI, 17, .inl ft))] ++ zWR cI cJ ad n kd ln lo hi vl gx gy sl si2_177 kc2_178 FF2_179) := hD
                                    refine z_topl (y := zFn kd ln vl n gx gy) rfl ?_
                                    replace hR := zRo_of hR e_180
                                    refine W.lcmp hx hb dL_isTold_331 ?_
                                    refine lv_if_ge (tgt := 339) hx hb dL_isTold_332 (by decide) (fun c_332 => ?_) (fun c_332 => ?_)
                                    · rw [lg_cmp_ge] at c_332
                                      refine lv_iconst (v := 0) hx hb dL_isTold_339 (by decide) ?_
                                      refine lv_istore (lv' := [(14, .int 0), (0, .ref (ad 0)), (1, .int uu), (2, .ref la), (3, .ref lg), (4, .ref lt), (5, .int (zX kd ln vl n)), (6, .int (zY kd ln vl n)), (8, .long ms2), (10, .int sd), (11, .int (nI k)), (12, .int (zMx kd ln vl n k)), (13, .int (zMy kd ln vl n k))]) hx hb dL_isTold_340 hl (by decide) rfl (fun ls hl => ?_)
                                      refine lv_aload_n hx hb dL_isTold_342 rfl (lv_at hl 3 rfl) ?_
                                      refine lv_iconst (v := nI 5) hx hb dL_isTold_343 (rfl) ?_
                                      refine lv_iload hx hb dL_isTold_344 (lv_at hl 10 rfl) ?_
                                      refine lv_imul hx hb dL_isTold_346 ?_
                                      refine z_topi (y := nI (5 * k)) (pk_mul 5 _) ?_
                                      refine lv_iconst (v := nI 4) hx hb dL_isTold_347 (rfl) ?_
                                      refine lv_iadd hx hb dL_isTold_348 ?_
                                      refine z_topi (y := nI (5 * k + 4)) (nI_add _ _) ?_
                                      refine z_iald hx hb hK hP 0 rfl (j := (5 * k + 4)) (by omega) (by decide) dL_isTold_349 ?_
                                      refine z_topi (y := vl k) ((hA k (by omega)).2.2.2.2) ?_
                                      refine lv_aload_n hx hb dL_isTold_350 rfl (lv_at hl 3 rfl) ?_
                                      refine lv_iconst (v := nI 5) hx hb dL_isTold_351 (rfl) ?_
                                      refine lv_iload hx hb dL_isTold_352 (lv_at hl 10 rfl) ?_
                                      refine lv_imul hx hb dL_isTold_354 ?_
                                      refine z_topi (y := nI (5 * k)) (pk_mul 5 _) ?_
                                      refine lv_iconst (v := nI 2) hx hb dL_isTold_355 (rfl) ?_
                                      refine lv_iadd hx hb dL_isTold_356 ?_
                                      refine z_topi (y := nI (5 * k + 2)) (nI_add _ _) ?_
                                      refine z_iald hx hb hK hP 0 rfl (j := (5 * k + 2)) (by omega) (by decide) dL_isTold_357 ?_
                                      refine z_topi (y := lo k) ((hA k (by omega)).2.2.1) ?_
                                      refine lv_icmp_ne (tgt := 383) hx hb dL_isTold_358 (by decide) (fun c_358 => ?_) (fun c_358 => ?_)
                                      · refine lv_iconst (v := 0) hx hb dL_isTold_383 (by decide) ?_
                                        refine lv_istore (lv' := [(15, .int 0), (14, .int 0), (0, .ref (ad 0)), (1, .int uu), (2, .ref la), (3, .ref lg), (4, .ref lt), (5, .int (zX kd ln vl n)), (6, .int (zY kd ln vl n)), (8, .long ms2), (10, .int sd), (11, .int (nI k)), (12, .int (zMx kd ln vl n k)), (13, .int (zMy kd ln vl n k))]) hx hb dL_isTold_384 hl (by decide) rfl (fun ls hl => ?_)
                                        refine lv_iload hx hb dL_isTold_386 (lv_at hl 1 rfl) ?_
                                        refine lv_if_ne (tgt := 396) hx hb dL_isTold_388 (by decide) (fun c_388 => ?_) (fun c_388 => ?_)
                                        · exact absurd (by decide) c_388
                                        · refine lv_iload hx hb dL_isTold_391 (lv_at hl 0 rfl) ?_
                                          refine lv_if_eq (tgt := 400) hx hb dL_isTold_393 (by decide) (fun c_393 => ?_) (fun c_393 => ?_)
                                          · refine lv_iinc (v := nI k - 1) (lv' := [(11, .int (nI k - 1)), (15, .int 0), (14, .int 0), (0, .ref (ad 0)), (1, .int uu), (2, .ref la), (3, .ref lg), (4, .ref lt), (5, .int (zX kd ln vl n)), (6, .int (zY kd ln vl n)), (8, .long ms2), (10, .int sd), (12, .int (zMx kd ln vl n k)), (13, .int (zMy kd ln vl n k))]) hx hb dL_isTold_400 hl (k := 11) rfl (zdec _) (by decide) rfl (fun ls hl => ?_)
                                            refine lv_goto (tgt := 129) hx hb dL_isTold_403 (by decide) ?_
                                            exact ih_129_79 k si2_177 kc2_178 FF2_179 ms2 sd (c9 + 1 + 2 + 2) (s9 + 6 * 1 + 6 * 2 + 6 * 2) (by omega) (hR) (zFr_iff (fun a b => ⟨fun h => ⟨h.1, h.2.1, h.2.2.elim (fun q => by omega) (fun q => by omega)⟩, fun h => ⟨h.1, h.2.1, by omega⟩⟩) hms2) (by first | exact (zHin_t (by omega) (Or.inl ⟨c_314, Int64.not_le.mp c_332⟩)).symm | exact (zHin_t (by omega) (Or.inr ⟨c_358, Int64.not_le.mp c_376⟩)).symm | exact hsd.trans (zHin_f (by omega) (fun h => h.elim (by first | exact fun h => absurd h.1 c_314 | exact fun h => absurd h.2 (Int64.not_lt.mpr c_332)) (by first | exact fun h => absurd h.1 c_358 | exact fun h => absurd h.2 (Int64.not_lt.mpr c_376)))).symm) (by omega) (by omega) (by omega) _ _ hP hD hS _ (lv_sub hl [3, 4, 5, 6, 7, 8, 9, 10, 11, 0] rfl)
                                          · exact absurd (by decide) c_393
                                      · refine lv_iload hx hb dL_isTold_361 (lv_at hl 10 rfl) ?_
                                        refine lv_iconst (v := (-1)) hx hb dL_isTold_363 (by decide) ?_
                                        refine lv_aload_n hx hb dL_isTold_364 rfl (lv_at hl 3 rfl) ?_
                                        refine lv_aload_n hx hb dL_isTold_365 rfl (lv_at hl 4 rfl) ?_
                                        refine lv_aload hx hb dL_isTold_366 (lv_at hl 5 rfl) ?_
                                        refine z_callF (w1 := zWR cI cJ ad n kd ln lo hi vl gx gy sl si2_177 kc2_178 FF2_179) (As := [.int (nI k), .int (-1), .ref la, .ref lg, .ref lt]) (rest := []) ⟨hx, hb, hml, hown, hts⟩ hG hK hP hD hS (c3_far l hfl D cI cJ (nI k) (-1) la fa lg fg lt ft n kd ln lo hi vl gx gy sl (by first | assumption | omega | decide) (by first | assumption | omega | decide) (by first | assumption | omega | decide) (by first | assumption | omega | decide) (by first | assumption | omega | decide) (hok.l) (zPm_pok2 hok (by omega) (hdec (by omega)).1 (hdec (by omega)).2) (by first | assumption | omega | decide) (by first | assumption | omega | decide)) (va_cwS 5 hts gL_isTold_L_far rfl rfl rfl (by decide +kernel) ⟨Nat.le_of_ble_eq_true rfl, Nat.le_of_ble_eq_true rfl⟩) (fun _ => rfl) rfl hl.1 rfl (Nat.le_of_ble_eq_true rfl) dL_isTold_368 ⟨(show c9 + 1 + 2 + 2 + 0 ≤ 40 by omega), (show s9 + 6 * 1 + 6 * 2 + 6 * 2 + 0 ≤ 6 * 40 by omega)⟩ (fun u_182 H locs hu_183 hP hD hS => ?_)
                                        obtain ⟨r_184, rfl⟩ : ∃ z, z = u_182 := ⟨_, rfl⟩
                                        have hu_183 : (r_184 = zFar gx gy (zX kd ln (zPm vl (nI k) (-1 : Int32)) n) (zY kd ln (zPm vl (nI k) (-1 : Int32)) n)) := hu_183
                                        have e_185 := hu_183
                                        subst e_185
                                        have hP : va_P D vwCl ([(la, .inl (cI, 25, .inl fa)), (lg, .inl (cI, 4, .inl fg)), (lt, .inl (cI, 17, .inl ft))] ++ zWR cI cJ ad n kd ln lo hi vl gx gy sl si2_177 kc2_178 FF2_179) H := hP
                                        have hD : va_D A0 ([(la, .inl (cI, 25, .inl fa)), (lg, .inl (cI, 4, .inl fg)), (lt, .inl (cI, 17, .inl ft))] ++ zWR cI cJ ad n kd ln lo hi vl gx gy sl si2_177 kc2_178 FF2_179) := hD
                                        refine z_topl (y := zFw kd ln vl n gx gy (nI k) (vl k - 1)) (by rw [zFm_po hn (by omega) (-1), zm1]) ?_
                                        refine lv_aload_n hx hb dL_isTold_371 rfl (lv_at hl 1 rfl) ?_
                                        refine z_callAV (w1 := [(la, .inl (cI, 25, .inl fa)), (lg, .inl (cI, 4, .inl fg)), (lt, .inl (cI, 17, .inl ft))]) (As := []) (rest := [.long (zFw kd ln vl n gx gy (nI k) (vl k - 1))]) ⟨hx, hb, hml, hown, hts⟩ hG hK hP hD hS (cR_far l hfl D cI cJ ad n kd ln lo hi vl gx gy sl si2_177 kc2_178 FF2_179 (by first | assumption | omega | decide)) (cwV 0 hts gL_isTold_X5_far rfl rfl rfl (by decide +kernel) ⟨Nat.le_of_ble_eq_true rfl, Nat.le_of_ble_eq_true rfl⟩) (fun _ => rfl) 0 rfl rfl rfl rfl hl.1 rfl (Nat.le_of_ble_eq_true rfl) dL_isTold_372 ⟨(show c9 + 1 + 2 + 2 + 0 ≤ 40 by omega), (show s9 + 6 * 1 + 6 * 2 + 6 * 2 + 0 ≤ 6 * 40 by omega)⟩ (fun u_186 H locs hu_187 hP hD hS => ?_)
                                        obtain ⟨r_188, si2_189, kc2_190, FF2_191⟩ := u_186
                                        have hu_187 : (zL0 (FF2_191 3) (FF2_191 4) (FF2_191 5) (FF2_191 6)) ∧ (r_188 = zFn kd ln vl n gx gy) := hu_187
                                        obtain ⟨e_192, e_193⟩ := hu_187
                                        subst e_193
                                        have hP : va_P D vwCl ([(la, .inl (cI, 25, .inl fa)), (lg, .inl (cI, 4, .inl fg)), (lt, .inl (cI, 17, .inl ft))] ++ zWR cI cJ ad n kd ln lo hi vl gx gy sl si2_189 kc2_190 FF2_191) H := hP
                                        have hD : va_D A0 ([(la, .inl (cI, 25, .inl fa)), (lg, .inl (cI, 4, .inl fg)), (lt, .inl (cI, 17, .inl ft))] ++ zWR cI cJ ad n kd ln lo hi vl gx gy sl si2_189 kc2_190 FF2_191) := hD
                                        refine z_topl (y := zFn kd ln vl n gx gy) rfl ?_
                                        replace hR := zRo_of hR e_192
                                        refine W.lcmp hx hb dL_isTold_375 ?_
                                        refine lv_if_ge (tgt := 383) hx hb dL_isTold_376 (by decide) (fun c_376 => ?_) (fun c_376 => ?_)
                                        · rw [lg_cmp_ge] at c_376
                                          refine lv_iconst (v := 0) hx hb dL_isTold_383 (by decide) ?_
                                          refine lv_istore (lv' := [(15, .int 0), (14, .int 0), (0, .ref (ad 0)), (1, .int uu), (2, .ref la), (3, .ref lg), (4, .ref lt), (5, .int (zX kd ln vl n)), (6, .int (zY kd ln vl n)), (8, .long ms2), (10, .int sd), (11, .int (nI k)), (12, .int (zMx kd ln vl n k)), (13, .int (zMy kd ln vl n k))]) hx hb dL_isTold_384 hl (by decide) rfl (fun ls hl => ?_)
                                          refine lv_iload hx hb dL_isTold_386 (lv_at hl 1 rfl) ?_
                                          refine lv_if_ne (tgt := 396) hx hb dL_isTold_388 (by decide) (fun c_388 => ?_) (fun c_388 => ?_)
                                          · exact absurd (by decide) c_388
                                          · refine lv_iload hx hb dL_isTold_391 (lv_at hl 0 rfl) ?_
                                            refine lv_if_eq (tgt := 400) hx hb dL_isTold_393 (by decide) (fun c_393 => ?_) (fun c_393 => ?_)
                                            · refine lv_iinc (v := nI k - 1) (lv' := [(11, .int (nI k - 1)), (15, .int 0), (14, .int 0), (0, .ref (ad 0)), (1, .int uu), (2, .ref la), (3, .ref lg), (4, .ref lt), (5, .int (zX kd ln vl n)), (6, .int (zY kd ln vl n)), (8, .long ms2), (10, .int sd), (12, .int (zMx kd ln vl n k)), (13, .int (zMy kd ln vl n k))]) hx hb dL_isTold_400 hl (k := 11) rfl (zdec _) (by decide) rfl (fun ls hl => ?_)
                                              refine lv_goto (tgt := 129) hx hb dL_isTold_403 (by decide) ?_
                                              exact ih_129_79 k si2_189 kc2_190 FF2_191 ms2 sd (c9 + 1 + 2 + 2) (s9 + 6 * 1 + 6 * 2 + 6 * 2) (by omega) (hR) (zFr_iff (fun a b => ⟨fun h => ⟨h.1, h.2.1, h.2.2.elim (fun q => by omega) (fun q => by omega)⟩, fun h => ⟨h.1, h.2.1, by omega⟩⟩) hms2) (by first | exact (zHin_t (by omega) (Or.inl ⟨c_314, Int64.not_le.mp c_332⟩)).symm | exact (zHin_t (by omega) (Or.inr ⟨c_358, Int64.not_le.mp c_376⟩)).symm | exact hsd.trans (zHin_f (by omega) (fun h => h.elim (by first | exact fun h => absurd h.1 c_314 | exact fun h => absurd h.2 (Int64.not_lt.mpr c_332)) (by first | exact fun h => absurd h.1 c_358 | exact fun h => absurd h.2 (Int64.not_lt.mpr c_376)))).symm) (by omega) (by omega) (by omega) _ _ hP hD hS _ (lv_sub hl [3, 4, 5, 6, 7, 8, 9, 10, 11, 0] rfl)
                                            · exact absurd (by decide) c_393
                                        · rw [lg_cmp_ge] at c_376
                                          refine lv_iconst (v := 1) hx hb dL_isTold_379 (by decide) ?_
                                          refine lv_goto (tgt := 384) hx hb dL_isTold_380 (by decide) ?_
                                          refine lv_istore (lv' := [(15, .int 1), (14, .int 0), (0, .ref (ad 0)), (1, .int uu), (2, .ref la), (3, .ref lg), (4, .ref lt), (5, .int (zX kd ln vl n)), (6, .int (zY kd ln vl n)), (8, .long ms2), (10, .int sd), (11, .int (nI k)), (12, .int (zMx kd ln vl n k)), (13, .int (zMy kd ln vl n k))]) hx hb dL_isTold_384 hl (by decide) rfl (fun ls hl => ?_)
                                          refine lv_iload hx hb dL_isTold_386 (lv_at hl 1 rfl) ?_
                                          refine lv_if_ne (tgt := 396) hx hb dL_isTold_388 (by decide) (fun c_388 => ?_) (fun c_388 => ?_)
                                          · exact absurd (by decide) c_388
                                          · refine lv_iload hx hb dL_isTold_391 (lv_at hl 0 rfl) ?_
                                            refine lv_if_eq (tgt := 400) hx hb dL_isTold_393 (by decide) (fun c_393 => ?_) (fun c_393 => ?_)
                                            · exact absurd c_393 (by decide)
                                            · refine lv_iload hx hb dL_isTold_396 (lv_at hl 11 rfl) ?_
                                              refine lv_istore (lv' := [(10, .int (nI k)), (15, .int 1), (14, .int 0), (0, .ref (ad 0)), (1, .int uu), (2, .ref la), (3, .ref lg), (4, .ref lt), (5, .int (zX kd ln vl n)), (6, .int (zY kd ln vl n)), (8, .long ms2), (11, .int (nI k)), (12, .int (zMx kd ln vl n k)), (13, .int (zMy kd ln vl n k))]) hx hb dL_isTold_398 hl (by decide) rfl (fun ls hl => ?_)
                                              refine lv_iinc (v := nI k - 1) (lv' := [(11, .int (nI k - 1)), (10, .int (nI k)), (15, .int 1), (14, .int 0), (0, .ref (ad 0)), (1, .int uu), (2, .ref la), (3, .ref lg), (4, .ref lt), (5, .int (zX kd ln vl n)), (6, .int (zY kd ln vl n)), (8, .long ms2), (12, .int (zMx kd ln vl n k)), (13, .int (zMy kd ln vl n k))]) hx hb dL_isTold_400 hl (k := 11) rfl (zdec _) (by decide) rfl (fun ls hl => ?_)
                                              refine lv_goto (tgt := 129) hx hb dL_isTold_403 (by decide) ?_
                                              exact ih_129_79 k si2_189 kc2_190 FF2_191 ms2 (nI k) (c9 + 1 + 2 + 2) (s9 + 6 * 1 + 6 * 2 + 6 * 2) (by omega) (hR) (zFr_iff (fun a b => ⟨fun h => ⟨h.1, h.2.1, h.2.2.elim (fun q => by omega) (fun q => by omega)⟩, fun h => ⟨h.1, h.2.1, by omega⟩⟩) hms2) (by first | exact (zHin_t (by omega) (Or.inl ⟨c_314, Int64.not_le.mp c_332⟩)).symm | exact (zHin_t (by omega) (Or.inr ⟨c_358, Int64.not_le.mp c_376⟩)).symm | exact hsd.trans (zHin_f (by omega) (fun h => h.elim (by first | exact fun h => absurd h.1 c_314 | exact fun h => absurd h.2 (Int64.not_lt.mpr c_332)) (by first | exact fun h => absurd h.1 c_358 | exact fun h => absurd h.2 (Int64.not_lt.mpr c_376)))).symm) (by omega) (by omega) (by omega) _ _ hP hD hS _ (lv_sub hl [4, 5, 6, 7, 8, 9, 10, 11, 1, 0] rfl)
                                    · rw [lg_cmp_ge] at c_332
                                      refine lv_iconst (v := 1) hx hb dL_isTold_335 (by decide) ?_
                                      refine lv_goto (tgt := 340) hx hb dL_isTold_336 (by decide) ?_
                                      refine lv_istore (lv' := [(14, .int 1), (0, .ref (ad 0)), (1, .int uu), (2, .ref la), (3, .ref lg), (4, .ref lt), (5, .int (zX kd ln vl n)), (6, .int (zY kd ln vl n)), (8, .long ms2), (10, .int sd), (11, .int (nI k)), (12, .int (zMx kd ln vl n k)), (13, .int (zMy kd ln vl n k))]) hx hb dL_isTold_340 hl (by decide) rfl (fun ls hl => ?_)
                                      refine lv_aload_n hx hb dL_isTold_342 rfl (lv_at hl 3 rfl) ?_
                                      refine lv_iconst (v := nI 5) hx hb dL_isTold_343 (rfl) ?_
                                      refine lv_iload hx hb dL_isTold_344 (lv_at hl 10 rfl) ?_
                                      refine lv_imul hx hb dL_isTold_346 ?_
                                      refine z_topi (y := nI (5 * k)) (pk_mul 5 _) ?_
                                      refine lv_iconst (v := nI 4) hx hb dL_isTold_347 (rfl) ?_
                                      refine lv_iadd hx hb dL_isTold_348 ?_
                                      refine z_topi (y := nI (5 * k + 4)) (nI_add _ _) ?_
                                      refine z_iald hx hb hK hP 0 rfl (j := (5 * k + 4)) (by omega) (by decide) dL_isTold_349 ?_
                                      refine z_topi (y := vl k) ((hA k (by omega)).2.2.2.2) ?_
                                      refine lv_aload_n hx hb dL_isTold_350 rfl (lv_at hl 3 rfl) ?_
                                      refine lv_iconst (v := nI 5) hx hb dL_isTold_351 (rfl) ?_
                                      refine lv_iload hx hb dL_isTold_352 (lv_at hl 10 rfl) ?_
                                      refine lv_imul hx hb dL_isTold_354 ?_
                                      refine z_topi (y := nI (5 * k)) (pk_mul 5 _) ?_
                                      refine lv_iconst (v := nI 2) hx hb dL_isTold_355 (rfl) ?_
                                      refine lv_iadd hx hb dL_isTold_356 ?_
                                      refine z_topi (y := nI (5 * k + 2)) (nI_add _ _) ?_
                                      refine z_iald hx hb hK hP 0 rfl (j := (5 * k + 2)) (by omega) (by decide) dL_isTold_357 ?_
                                      refine z_topi (y := lo k) ((hA k (by omega)).2.2.1) ?_
                                      refine lv_icmp_ne (tgt := 383) hx hb dL_isTold_358 (by decide) (fun c_358 => ?_) (fun c_358 => ?_)
                                      · refine lv_iconst (v := 0) hx hb dL_isTold_383 (by decide) ?_
                                        refine lv_istore (lv' := [(15, .int 0), (14, .int 1), (0, .ref (ad 0)), (1, .int uu), (2, .ref la), (3, .ref lg), (4, .ref lt), (5, .int (zX kd ln vl n)), (6, .int (zY kd ln vl n)), (8, .long ms2), (10, .int sd), (11, .int (nI k)), (12, .int (zMx kd ln vl n k)), (13, .int (zMy kd ln vl n k))]) hx hb dL_isTold_384 hl (by decide) rfl (fun ls hl => ?_)
                                        refine lv_iload hx hb dL_isTold_386 (lv_at hl 1 rfl) ?_
                                        refine lv_if_ne (tgt := 396) hx hb dL_isTold_388 (by decide) (fun c_388 => ?_) (fun c_388 => ?_)
                                        · refine lv_iload hx hb dL_isTold_396 (lv_at hl 11 rfl) ?_
                                          refine lv_istore (lv' := [(10, .int (nI k)), (15, .int 0), (14, .int 1), (0, .ref (ad 0)), (1, .int uu), (2, .ref la), (3, .ref lg), (4, .ref lt), (5, .int (zX kd ln vl n)), (6, .int (zY kd ln vl n)), (8, .long ms2), (11, .int (nI k)), (12, .int (zMx kd ln vl n k)), (13, .int (zMy kd ln vl n k))]) hx hb dL_isTold_398 hl (by decide) rfl (fun ls hl => ?_)
                                          refine lv_iinc (v := nI k - 1) (lv' := [(11, .int (nI k - 1)), (10, .int (nI k)), (15, .int 0), (14, .int 1), (0, .ref (ad 0)), (1, .int uu), (2, .ref la), (3, .ref lg), (4, .ref lt), (5, .int (zX kd ln vl n)), (6, .int (zY kd ln vl n)), (8, .long ms2), (12, .int (zMx kd ln vl n k)), (13, .int (zMy kd ln vl n k))]) hx hb dL_isTold_400 hl (k := 11) rfl (zdec _) (by decide) rfl (fun ls hl => ?_)
                                          refine lv_goto (tgt := 129) hx hb dL_isTold_403 (by decide) ?_
                                          exact ih_129_79 k si2_177 kc2_178 FF2_179 ms2 (nI k) (c9 + 1 + 2 + 2) (s9 + 6 * 1 + 6 * 2 + 6 * 2) (by omega) (hR) (zFr_iff (fun a b => ⟨fun h => ⟨h.1, h.2.1, h.2.2.elim (fun q => by omega) (fun q => by omega)⟩, fun h => ⟨h.1, h.2.1, by omega⟩⟩) hms2) (by first | exact (zHin_t (by omega) (Or.inl ⟨c_314, Int64.not_le.mp c_332⟩)).symm | exact (zHin_t (by omega) (Or.inr ⟨c_358, Int64.not_le.mp c_376⟩)).symm | exact hsd.trans (zHin_f (by omega) (fun h => h.elim (by first | exact fun h => absurd h.1 c_314 | exact fun h => absurd h.2 (Int64.not_lt.mpr c_332)) (by first | exact fun h => absurd h.1 c_358 | exact fun h => absurd h.2 (Int64.not_lt.mpr c_376)))).symm) (by omega) (by omega) (by omega) _ _ hP hD hS _ (lv_sub hl [4, 5, 6, 7, 8, 9, 10, 11, 1, 0] rfl)
                                        · exact absurd c_388 (by decide)
                                      · refine lv_iload hx hb dL_isTold_361 (lv_at hl 10 rfl) ?_
                                        refine lv_iconst (v := (-1)) hx hb dL_isTold_363 (by decide) ?_
                                        refine lv_aload_n hx hb dL_isTold_364 rfl (lv_at hl 3 rfl) ?_
                                        refine lv_aload_n hx hb dL_isTold_365 rfl (lv_at hl 4 rfl) ?_
                                        refine lv_aload hx hb dL_isTold_366 (lv_at hl 5 rfl) ?_
                                        refine z_callF (w1 := zWR cI cJ ad n kd ln lo hi vl gx gy sl si2_177 kc2_178 FF2_179) (As := [.int (nI k), .int (-1), .ref la, .ref lg, .ref lt]) (rest := []) ⟨hx, hb, hml, hown, hts⟩ hG hK hP hD hS (c3_far l hfl D cI cJ (nI k) (-1) la fa lg fg lt ft n kd ln lo hi vl gx gy sl (by first | assumption | omega | decide) (by first | assumption | omega | decide) (by first | assumption | omega | decide) (by first | assumption | omega | decide) (by first | assumption | omega | decide) (hok.l) (zPm_pok2 hok (by omega) (hdec (by omega)).1 (hdec (by omega)).2) (by first | assumption | omega | decide) (by first | assumption | omega | decide)) (va_cwS 5 hts gL_isTold_L_far rfl rfl rfl (by decide +kernel) ⟨Nat.le_of_ble_eq_true rfl, Nat.le_of_ble_eq_true rfl⟩) (fun _ => rfl) rfl hl.1 rfl (Nat.le_of_ble_eq_true rfl) dL_isTold_368 ⟨(show c9 + 1 + 2 + 2 + 0 ≤ 40 by omega), (show s9 + 6 * 1 + 6 * 2 + 6 * 2 + 0 ≤ 6 * 40 by omega)⟩ (fun u_194 H locs hu_195 hP hD hS => ?_)
                                        obtain ⟨r_196, rfl⟩ : ∃ z, z = u_194 := ⟨_, rfl⟩
                                        have hu_195 : (r_196 = zFar gx gy (zX kd ln (zPm vl (nI k) (-1 : Int32)) n) (zY kd ln (zPm vl (nI k) (-1 : Int32)) n)) := hu_195
                                        have e_197 := hu_195
                                        subst e_197
                                        have hP : va_P D vwCl ([(la, .inl (cI, 25, .inl fa)), (lg, .inl (cI, 4, .inl fg)), (lt, .inl (cI, 17, .inl ft))] ++ zWR cI cJ ad n kd ln lo hi vl gx gy sl si2_177 kc2_178 FF2_179) H := hP
                                        have hD : va_D A0 ([(la, .inl (cI, 25, .inl fa)), (lg, .inl (cI, 4, .inl fg)), (lt, .inl (cI, 17, .inl ft))] ++ zWR cI cJ ad n kd ln lo hi vl gx gy sl si2_177 kc2_178 FF2_179) := hD
                                        refine z_topl (y := zFw kd ln vl n gx gy (nI k) (vl k - 1)) (by rw [zFm_po hn (by omega) (-1), zm1]) ?_
                                        refine lv_aload_n hx hb dL_isTold_371 rfl (lv_at hl 1 rfl) ?_
                                        refine z_callAV (w1 := [(la, .inl (cI, 25, .inl fa)), (lg, .inl (cI, 4, .inl fg)), (lt, .inl (cI, 17, .inl ft))]) (As := []) (rest := [.long (zFw kd ln vl n gx gy (nI k) (vl k - 1))]) ⟨hx, hb, hml, hown, hts⟩ hG hK hP hD hS (cR_far l hfl D cI cJ ad n kd ln lo hi vl gx gy sl si2_177 kc2_178 FF2_179 (by first | assumption | omega | decide)) (cwV 0 hts gL_isTold_X5_far rfl rfl rfl (by decide +kernel) ⟨Nat.le_of_ble_eq_true rfl, Nat.le_of_ble_eq_true rfl⟩) (fun _ => rfl) 0 rfl rfl rfl rfl hl.1 rfl (Nat.le_of_ble_eq_true rfl) dL_isTold_372 ⟨(show c9 + 1 + 2 + 2 + 0 ≤ 40 by omega), (show s9 + 6 * 1 + 6 * 2 + 6 * 2 + 0 ≤ 6 * 40 by omega)⟩ (fun u_198 H locs hu_199 hP hD hS => ?_)
                                        obtain ⟨r_200, si2_201, kc2_202, FF2_203⟩ := u_198
                                        have hu_199 : (zL0 (FF2_203 3) (FF2_203 4) (FF2_203 5) (FF2_203 6)) ∧ (r_200 = zFn kd ln vl n gx gy) := hu_199
                                        obtain ⟨e_204, e_205⟩ := hu_199
                                        subst e_205
                                        have hP : va_P D vwCl ([(la, .inl (cI, 25, .inl fa)), (lg, .inl (cI, 4, .inl fg)), (lt, .inl (cI, 17, .inl ft))] ++ zWR cI cJ ad n kd ln lo hi vl gx gy sl si2_201 kc2_202 FF2_203) H := hP
                                        have hD : va_D A0 ([(la, .inl (cI, 25, .inl fa)), (lg, .inl (cI, 4, .inl fg)), (lt, .inl (cI, 17, .inl ft))] ++ zWR cI cJ ad n kd ln lo hi vl gx gy sl si2_201 kc2_202 FF2_203) := hD
                                        refine z_topl (y := zFn kd ln vl n gx gy) rfl ?_
                                        replace hR := zRo_of hR e_204
                                        refine W.lcmp hx hb dL_isTold_375 ?_
                                        refine lv_if_ge (tgt := 383) hx hb dL_isTold_376 (by decide) (fun c_376 => ?_) (fun c_376 => ?_)
                                        · rw [lg_cmp_ge] at c_376
                                          refine lv_iconst (v := 0) hx hb dL_isTold_383 (by decide) ?_
                                          refine lv_istore (lv' := [(15, .int 0), (14, .int 1), (0, .ref (ad 0)), (1, .int uu), (2, .ref la), (3, .ref lg), (4, .ref lt), (5, .int (zX kd ln vl n)), (6, .int (zY kd ln vl n)), (8, .long ms2), (10, .int sd), (11, .int (nI k)), (12, .int (zMx kd ln vl n k)), (13, .int (zMy kd ln vl n k))]) hx hb dL_isTold_384 hl (by decide) rfl (fun ls hl => ?_)
                                          refine lv_iload hx hb dL_isTold_386 (lv_at hl 1 rfl) ?_
                                          refine lv_if_ne (tgt := 396) hx hb dL_isTold_388 (by decide) (fun c_388 => ?_) (fun c_388 => ?_)
                                          · refine lv_iload hx hb dL_isTold_396 (lv_at hl 11 rfl) ?_
                                            refine lv_istore (lv' := [(10, .int (nI k)), (15, .int 0), (14, .int 1), (0, .ref (ad 0)), (1, .int uu), (2, .ref la), (3, .ref lg), (4, .ref lt), (5, .int (zX kd ln vl n)), (6, .int (zY kd ln vl n)), (8, .long ms2), (11, .int (nI k)), (12, .int (zMx kd ln vl n k)), (13, .int (zMy kd ln vl n k))]) hx hb dL_isTold_398 hl (by decide) rfl (fun ls hl => ?_)
                                            refine lv_iinc (v := nI k - 1) (lv' := [(11, .int (nI k - 1)), (10, .int (nI k)), (15, .int 0), (14, .int 1), (0, .ref (ad 0)), (1, .int uu), (2, .ref la), (3, .ref lg), (4, .ref lt), (5, .int (zX kd ln vl n)), (6, .int (zY kd ln vl n)), (8, .long ms2), (12, .int (zMx kd ln vl n k)), (13, .int (zMy kd ln vl n k))]) hx hb dL_isTold_400 hl (k := 11) rfl (zdec _) (by decide) rfl (fun ls hl => ?_)
                                            refine lv_goto (tgt := 129) hx hb dL_isTold_403 (by decide) ?_
                                            exact ih_129_79 k si2_201 kc2_202 FF2_203 ms2 (nI k) (c9 + 1 + 2 + 2) (s9 + 6 * 1 + 6 * 2 + 6 * 2) (by omega) (hR) (zFr_iff (fun a b => ⟨fun h => ⟨h.1, h.2.1, h.2.2.elim (fun q => by omega) (fun q => by omega)⟩, fun h => ⟨h.1, h.2.1, by omega⟩⟩) hms2) (by first | exact (zHin_t (by omega) (Or.inl ⟨c_314, Int64.not_le.mp c_332⟩)).symm | exact (zHin_t (by omega) (Or.inr ⟨c_358, Int64.not_le.mp c_376⟩)).symm | exact hsd.trans (zHin_f (by omega) (fun h => h.elim (by first | exact fun h => absurd h.1 c_314 | exact fun h => absurd h.2 (Int64.not_lt.mpr c_332)) (by first | exact fun h => absurd h.1 c_358 | exact fun h => absurd h.2 (Int64.not_lt.mpr c_376)))).symm) (by omega) (by omega) (by omega) _ _ hP hD hS _ (lv_sub hl [4, 5, 6, 7, 8, 9, 10, 11, 1, 0] rfl)
                                          · exact absurd c_388 (by decide)
                                        · rw [lg_cmp_ge] at c_376
                                          refine lv_iconst (v := 1) hx hb dL_isTold_379 (by decide) ?_
                                          refine lv_goto (tgt := 384) hx hb dL_isTold_380 (by decide) ?_
                                          refine lv_istore (lv' := [(15, .int 1), (14, .int 1), (0, .ref (ad 0)), (1, .int uu), (2, .ref la), (3, .ref lg), (4, .ref lt), (5, .int (zX kd ln vl n)), (6, .int (zY kd ln vl n)), (8, .long ms2), (10, .int sd), (11, .int (nI k)), (12, .int (zMx kd ln vl n k)), (13, .int (zMy kd ln vl n k))]) hx hb dL_isTold_384 hl (by decide) rfl (fun ls hl => ?_)
                                          refine lv_iload hx hb dL_isTold_386 (lv_at hl 1 rfl) ?_
                                          refine lv_if_ne (tgt := 396) hx hb dL_isTold_388 (by decide) (fun c_388 => ?_) (fun c_388 => ?_)
                                          · refine lv_iload hx hb dL_isTold_396 (lv_at hl 11 rfl) ?_
                                            refine lv_istore (lv' := [(10, .int (nI k)), (15, .int 1), (14, .int 1), (0, .ref (ad 0)), (1, .int uu), (2, .ref la), (3, .ref lg), (4, .ref lt), (5, .int (zX kd ln vl n)), (6, .int (zY kd ln vl n)), (8, .long ms2), (11, .int (nI k)), (12, .int (zMx kd ln vl n k)), (13, .int (zMy kd ln vl n k))]) hx hb dL_isTold_398 hl (by decide) rfl (fun ls hl => ?_)
                                            refine lv_iinc (v := nI k - 1) (lv' := [(11, .int (nI k - 1)), (10, .int (nI k)), (15, .int 1), (14, .int 1), (0, .ref (ad 0)), (1, .int uu), (2, .ref la), (3, .ref lg), (4, .ref lt), (5, .int (zX kd ln vl n)), (6, .int (zY kd ln vl n)), (8, .long ms2), (12, .int (zMx kd ln vl n k)), (13, .int (zMy kd ln vl n k))]) hx hb dL_isTold_400 hl (k := 11) rfl (zdec _) (by decide) rfl (fun ls hl => ?_)
                                            refine lv_goto (tgt := 129) hx hb dL_isTold_403 (by decide) ?_
                                            exact ih_129_79 k si2_201 kc2_202 FF2_203 ms2 (nI k) (c9 + 1 + 2 + 2) (s9 + 6 * 1 + 6 * 2 + 6 * 2) (by omega) (hR) (zFr_iff (fun a b => ⟨fun h => ⟨h.1, h.2.1, h.2.2.elim (fun q => by omega) (fun q => by omega)⟩, fun h => ⟨h.1, h.2.1, by omega⟩⟩) hms2) (by first | exact (zHin_t (by omega) (Or.inl ⟨c_314, Int64.not_le.mp c_332⟩)).symm | exact (zHin_t (by omega) (Or.inr ⟨c_358, Int64.not_le.mp c_376⟩)).symm | exact hsd.trans (zHin_f (by omega) (fun h => h.elim (by first | exact fun h => absurd h.1 c_314 | exact fun h => absurd h.2 (Int64.not_lt.mpr c_332)) (by first | exact fun h => absurd h.1 c_358 | exact fun h => absurd h.2 (Int64.not_lt.mpr c_376)))).symm) (by omega) (by omega) (by omega) _ _ hP hD hS _ (lv_sub hl [4, 5, 6, 7, 8, 9, 10, 11, 1, 0] rfl)
                                          · exact absurd c_388 (by decide)
                                · rw [nI_leI (by omega) (by omega)] at c_216
                                  refine lv_iload hx hb dL_isTold_219 (lv_at hl 10 rfl) ?_
                                  refine lv_i2l (v := (zMx kd ln vl n k).toInt64) hx hb dL_isTold_221 rfl ?_
                                  refine lv_iconst (v := 0) hx hb dL_isTold_222 (by decide) ?_
                                  refine lv_iload hx hb dL_isTold_223 (lv_at hl 12 rfl) ?_
                                  refine lv_iconst (v := 1) hx hb dL_isTold_225 (by decide) ?_
                                  refine lv_aload_n hx hb dL_isTold_226 rfl (lv_at hl 2 rfl) ?_
                                  refine lv_aload_n hx hb dL_isTold_227 rfl (lv_at hl 3 rfl) ?_
                                  refine lv_aload hx hb dL_isTold_228 (lv_at hl 4 rfl) ?_
                                  refine z_callF (w1 := zWR cI cJ ad n kd ln lo hi vl gx gy sl si2_150 kc2_151 FF2_152) (As := [.int 0, .int (nI b), .int 1, .ref la, .ref lg, .ref lt]) (rest := [.long ((zMx kd ln vl n k).toInt64)]) ⟨hx, hb, hml, hown, hts⟩ hG hK hP hD hS (c3_tips l hfl D cI cJ 0 (nI b) 1 la fa lg fg lt ft n kd ln lo hi vl gx gy sl (by first | assumption | omega | decide) (by first | assumption | omega | decide) (by first | assumption | omega | decide) (by first | assumption | omega | decide) (by first | assumption | omega | decide)) (va_cwS 6 hts gL_isTold_L_tips rfl rfl rfl (by decide +kernel) ⟨Nat.le_of_ble_eq_true rfl, Nat.le_of_ble_eq_true rfl⟩) (fun _ => rfl) rfl hl.1 rfl (Nat.le_of_ble_eq_true rfl) dL_isTold_230 ⟨(show c9 + 1 + 2 + 2 + 0 ≤ 40 by omega), (show s9 + 6 * 1 + 6 * 2 + 6 * 2 + 0 ≤ 6 * 40 by omega)⟩ (fun u_206 H locs hu_207 hP hD hS => ?_)
                                  obtain ⟨r_208, rfl⟩ : ∃ z, z = u_206 := ⟨_, rfl⟩
                                  have hu_207 : (r_208 = zXY (0 : Int32) kd ln (zPm vl (nI b) (1 : Int32)) n) := hu_207
                                  have e_209 := hu_207
                                  subst e_209
                                  have hP : va_P D vwCl ([(la, .inl (cI, 25, .inl fa)), (lg, .inl (cI, 4, .inl fg)), (lt, .inl (cI, 17, .inl ft))] ++ zWR cI cJ ad n kd ln lo hi vl gx gy sl si2_150 kc2_151 FF2_152) H := hP
                                  have hD : va_D A0 ([(la, .inl (cI, 25, .inl fa)), (lg, .inl (cI, 4, .inl fg)), (lt, .inl (cI, 17, .inl ft))] ++ zWR cI cJ ad n kd ln lo hi vl gx gy sl si2_150 kc2_151 FF2_152) := hD
                                  refine z_topi (y := zY kd ln (zPo vl (nI b) (vl b + 1)) n) (zYm_po hn (by omega) 1) ?_
                                  refine lv_iload hx hb dL_isTold_233 (lv_at hl 6 rfl) ?_
                                  refine lv_isub hx hb dL_isTold_235 ?_
                                  refine z_topi (y := zMy kd ln vl n b) (rfl) ?_
                                  refine lv_i2l (v := (zMy kd ln vl n b).toInt64) hx hb dL_isTold_236 rfl ?_
                                  refine lv_lmul hx hb dL_isTold_237 ?_
                                  refine lv_iload hx hb dL_isTold_238 (lv_at hl 11 rfl) ?_
                                  refine lv_i2l (v := (zMy kd ln vl n k).toInt64) hx hb dL_isTold_240 rfl ?_
                                  refine lv_iconst (v := 1) hx hb dL_isTold_241 (by decide) ?_
                                  refine lv_iload hx hb dL_isTold_242 (lv_at hl 12 rfl) ?_
                                  refine lv_iconst (v := 1) hx hb dL_isTold_244 (by decide) ?_
                                  refine lv_aload_n hx hb dL_isTold_245 rfl (lv_at hl 2 rfl) ?_
                                  refine lv_aload_n hx hb dL_isTold_246 rfl (lv_at hl 3 rfl) ?_
                                  refine lv_aload hx hb dL_isTold_247 (lv_at hl 4 rfl) ?_
                                  refine z_callF (w1 := zWR cI cJ ad n kd ln lo hi vl gx gy sl si2_150 kc2_151 FF2_152) (As := [.int 1, .int (nI b), .int 1, .ref la, .ref lg, .ref lt]) (rest := [.long ((zMy kd ln vl n k).toInt64), .long (((zMx kd ln vl n k).toInt64) * ((zMy kd ln vl n b).toInt64))]) ⟨hx, hb, hml, hown, hts⟩ hG hK hP hD hS (c3_tips l hfl D cI cJ 1 (nI b) 1 la fa lg fg lt ft n kd ln lo hi vl gx gy sl (by first | assumption | omega | decide) (by first | assumption | omega | decide) (by first | assumption | omega | decide) (by first | assumption | omega | decide) (by first | assumption | omega | decide)) (va_cwS 6 hts gL_isTold_L_tips rfl rfl rfl (by decide +kernel) ⟨Nat.le_of_ble_eq_true rfl, Nat.le_of_ble_eq_true rfl⟩) (fun _ => rfl) rfl hl.1 rfl (Nat.le_of_ble_eq_true rfl) dL_isTold_249 ⟨(show c9 + 1 + 2 + 2 + 0 ≤ 40 by omega), (show s9 + 6 * 1 + 6 * 2 + 6 * 2 + 0 ≤ 6 * 40 by omega)⟩ (fun u_210 H locs hu_211 hP hD hS => ?_)
                                  obtain ⟨r_212, rfl⟩ : ∃ z, z = u_210 := ⟨_, rfl⟩
                                  have hu_211 : (r_212 = zXY (1 : Int32) kd ln (zPm vl (nI b) (1 : Int32)) n) := hu_211
                                  have e_213 := hu_211
                                  subst e_213
                                  have hP : va_P D vwCl ([(la, .inl (cI, 25, .inl fa)), (lg, .inl (cI, 4, .inl fg)), (lt, .inl (cI, 17, .inl ft))] ++ zWR cI cJ ad n kd ln lo hi vl gx gy sl si2_150 kc2_151 FF2_152) H := hP
                                  have hD : va_D A0 ([(la, .inl (cI, 25, .inl fa)), (lg, .inl (cI, 4, .inl fg)), (lt, .inl (cI, 17, .inl ft))] ++ zWR cI cJ ad n kd ln lo hi vl gx gy sl si2_150 kc2_151 FF2_152) := hD
                                  refine z_topi (y := zX kd ln (zPo vl (nI b) (vl b + 1)) n) (zXm_po hn (by omega) 1) ?_
                                  refine lv_iload hx hb dL_isTold_252 (lv_at hl 5 rfl) ?_
                                  refine lv_isub hx hb dL_isTold_254 ?_
                                  refine z_topi (y := zMx kd ln vl n b) (rfl) ?_
                                  refine lv_i2l (v := (zMx kd ln vl n b).toInt64) hx hb dL_isTold_255 rfl ?_
                                  refine lv_lmul hx hb dL_isTold_256 ?_
                                  refine lv_lsub hx hb dL_isTold_257 ?_
                                  refine z_topl (y := zIt (zMx kd ln vl n) (zMy kd ln vl n) k b) (rfl) ?_
                                  refine lv_lstore (lv' := [(15, .long (zIt (zMx kd ln vl n) (zMy kd ln vl n) k b)), (0, .ref (ad 0)), (1, .int uu), (2, .ref la), (3, .ref lg), (4, .ref lt), (5, .int (zX kd ln vl n)), (6, .int (zY kd ln vl n)), (8, .long ms2), (10, .int sd), (11, .int (nI k)), (12, .int (zMx kd ln vl n k)), (13, .int (zMy kd ln vl n k)), (14, .int (nI b))]) hx hb dL_isTold_258 hl (by decide) rfl (fun ls hl => ?_)
                                  refine lv_lload hx hb dL_isTold_260 (lv_at hl 0 rfl) ?_
                                  refine lv_lload hx hb dL_isTold_262 (lv_at hl 8 rfl) ?_
                                  refine W.lcmp hx hb dL_isTold_264 ?_
                                  refine lv_if_le (tgt := 273) hx hb dL_isTold_265 (by decide) (fun c_265 => ?_) (fun c_265 => ?_)
                                  · rw [lg_cmp_le] at c_265
                                    refine lv_lload hx hb dL_isTold_273 (lv_at hl 0 rfl) ?_
                                    refine lv_lneg hx hb dL_isTold_275 ?_
                                    refine lv_lload hx hb dL_isTold_276 (lv_at hl 8 rfl) ?_
                                    refine W.lcmp hx hb dL_isTold_278 ?_
                                    refine lv_if_le (tgt := 288) hx hb dL_isTold_279 (by decide) (fun c_279 => ?_) (fun c_279 => ?_)
                                    · rw [lg_cmp_le] at c_279
                                      refine lv_lload hx hb dL_isTold_288 (lv_at hl 8 rfl) ?_
                                      refine z_topl (y := if zCr (zMx kd ln vl n) (zMy kd ln vl n) b k < ms2 then ms2 else zCr (zMx kd ln vl n) (zMy kd ln vl n) b k) (by first | exact zIt_a hms2.1 c_265 | exact zIt_b hms2.1 c_279 | exact zIt_c c_265 c_279) ?_
                                      refine lv_lstore (lv' := [(8, .long (if zCr (zMx kd ln vl n) (zMy kd ln vl n) b k < ms2 then ms2 else zCr (zMx kd ln vl n) (zMy kd ln vl n) b k)), (15, .long (zIt (zMx kd ln vl n) (zMy kd ln vl n) k b)), (0, .ref (ad 0)), (1, .int uu), (2, .ref la), (3, .ref lg), (4, .ref lt), (5, .int (zX kd ln vl n)), (6, .int (zY kd ln vl n)), (10, .int sd), (11, .int (nI k)), (12, .int (zMx kd ln vl n k)), (13, .int (zMy kd ln vl n k)), (14, .int (nI b))]) hx hb dL_isTold_290 hl (by decide) rfl (fun ls hl => ?_)
                                      refine lv_iinc (v := nI (b + 1)) (lv' := [(14, .int (nI (b + 1))), (8, .long (if zCr (zMx kd ln vl n) (zMy kd ln vl n) b k < ms2 then ms2 else zCr (zMx kd ln vl n) (zMy kd ln vl n) b k)), (15, .long (zIt (zMx kd ln vl n) (zMy kd ln vl n) k b)), (0, .ref (ad 0)), (1, .int uu), (2, .ref la), (3, .ref lg), (4, .ref lt), (5, .int (zX kd ln vl n)), (6, .int (zY kd ln vl n)), (10, .int sd), (11, .int (nI k)), (12, .int (zMx kd ln vl n k)), (13, .int (zMy kd ln vl n k))]) hx hb dL_isTold_292 hl (k := 13) rfl ((nI_succ _).symm) (by decide) rfl (fun ls hl => ?_)
                                      refine lv_goto (tgt := 212) hx hb dL_isTold_295 (by decide) ?_
                                      exact ih_212_157 (b + 1) (if zCr (zMx kd ln vl n) (zMy kd ln vl n) b k < ms2 then ms2 else zCr (zMx kd ln vl n) (zMy kd ln vl n) b k) (by first | assumption | omega | rfl | simp_all) (zFr_add hms2 rfl (fun a b9 => by omega)) (by omega) _ _ hP hD hS _ (lv_sub hl [3, 4, 5, 6, 7, 8, 9, 1, 10, 11, 12, 13, 0] rfl)
                                    · rw [lg_cmp_le] at c_279
                                      refine lv_lload hx hb dL_isTold_282 (lv_at hl 0 rfl) ?_
                                      refine lv_lneg hx hb dL_isTold_284 ?_
                                      refine lv_goto (tgt := 290) hx hb dL_isTold_285 (by decide) ?_
                                      refine z_topl (y := if zCr (zMx kd ln vl n) (zMy kd ln vl n) b k < ms2 then ms2 else zCr (zMx kd ln vl n) (zMy kd ln vl n) b k) (by first | exact zIt_a hms2.1 c_265 | exact zIt_b hms2.1 c_279 | exact zIt_c c_265 c_279) ?_
                                      refine lv_lstore (lv' := [(8, .long (if zCr (zMx kd ln vl n) (zMy kd ln vl n) b k < ms2 then ms2 else zCr (zMx kd ln vl n) (zMy kd ln vl n) b k)), (15, .long (zIt (zMx kd ln vl n) (zMy kd ln vl n) k b)), (0, .ref (ad 0)), (1, .int uu), (2, .ref la), (3, .ref lg), (4, .ref lt), (5, .int (zX kd ln vl n)), (6, .int (zY kd ln vl n)), (10, .int sd), (11, .int (nI k)), (12, .int (zMx kd ln vl n k)), (13, .int (zMy kd ln vl n k)), (14, .int (nI b))]) hx hb dL_isTold_290 hl (by decide) rfl (fun ls hl => ?_)
                                      refine lv_iinc (v := nI (b + 1)) (lv' := [(14, .int (nI (b + 1))), (8, .long (if zCr (zMx kd ln vl n) (zMy kd ln vl n) b k < ms2 then ms2 else zCr (zMx kd ln vl n) (zMy kd ln vl n) b k)), (15, .long (zIt (zMx kd ln vl n) (zMy kd ln vl n) k b)), (0, .ref (ad 0)), (1, .int uu), (2, .ref la), (3, .ref lg), (4, .ref lt), (5, .int (zX kd ln vl n)), (6, .int (zY kd ln vl n)), (10, .int sd), (11, .int (nI k)), (12, .int (zMx kd ln vl n k)), (13, .int (zMy kd ln vl n k))]) hx hb dL_isTold_292 hl (k := 13) rfl ((nI_succ _).symm) (by decide) rfl (fun ls hl => ?_)
                                      refine lv_goto (tgt := 212) hx hb dL_isTold_295 (by decide) ?_
                                      exact ih_212_157 (b + 1) (if zCr (zMx kd ln vl n) (zMy kd ln vl n) b k < ms2 then ms2 else zCr (zMx kd ln vl n) (zMy kd ln vl n) b k) (by first | assumption | omega | rfl | simp_all) (zFr_add hms2 rfl (fun a b9 => by omega)) (by omega) _ _ hP hD hS _ (lv_sub hl [3, 4, 5, 6, 7, 8, 9, 1, 10, 11, 12, 13, 0] rfl)
                                  · rw [lg_cmp_le] at c_265
                                    refine lv_lload hx hb dL_isTold_268 (lv_at hl 0 rfl) ?_
                                    refine lv_goto (tgt := 290) hx hb dL_isTold_270 (by decide) ?_
                                    refine z_topl (y := if zCr (zMx kd ln vl n) (zMy kd ln vl n) b k < ms2 then ms2 else zCr (zMx kd ln vl n) (zMy kd ln vl n) b k) (by first | exact zIt_a hms2.1 c_265 | exact zIt_b hms2.1 c_279 | exact zIt_c c_265 c_279) ?_
                                    refine lv_lstore (lv' := [(8, .long (if zCr (zMx kd ln vl n) (zMy kd ln vl n) b k < ms2 then ms2 else zCr (zMx kd ln vl n) (zMy kd ln vl n) b k)), (15, .long (zIt (zMx kd ln vl n) (zMy kd ln vl n) k b)), (0, .ref (ad 0)), (1, .int uu), (2, .ref la), (3, .ref lg), (4, .ref lt), (5, .int (zX kd ln vl n)), (6, .int (zY kd ln vl n)), (10, .int sd), (11, .int (nI k)), (12, .int (zMx kd ln vl n k)), (13, .int (zMy kd ln vl n k)), (14, .int (nI b))]) hx hb dL_isTold_290 hl (by decide) rfl (fun ls hl => ?_)
                                    refine lv_iinc (v := nI (b + 1)) (lv' := [(14, .int (nI (b + 1))), (8, .long (if zCr (zMx kd ln vl n) (zMy kd ln vl n) b k < ms2 then ms2 else zCr (zMx kd ln vl n) (zMy kd ln vl n) b k)), (15, .long (zIt (zMx kd ln vl n) (zMy kd ln vl n) k b)), (0, .ref (ad 0)), (1, .int uu), (2, .ref la), (3, .ref lg), (4, .ref lt), (5, .int (zX kd ln vl n)), (6, .int (zY kd ln vl n)), (10, .int sd), (11, .int (nI k)), (12, .int (zMx kd ln vl n k)), (13, .int (zMy kd ln vl n k))]) hx hb dL_isTold_292 hl (k := 13) rfl ((nI_succ _).symm) (by decide) rfl (fun ls hl => ?_)
                                    refine lv_goto (tgt := 212) hx hb dL_isTold_295 (by decide) ?_
                                    exact ih_212_157 (b + 1) (if zCr (zMx kd ln vl n) (zMy kd ln vl n) b k < ms2 then ms2 else zCr (zMx kd ln vl n) (zMy kd ln vl n) b k) (by first | assumption | omega | rfl | simp_all) (zFr_add hms2 rfl (fun a b9 => by omega)) (by omega) _ _ hP hD hS _ (lv_sub hl [3, 4, 5, 6, 7, 8, 9, 1, 10, 11, 12, 13, 0] rfl)
                            exact lp_212_157 ((k - 0) + 1) 0 ms (by first | assumption | omega | rfl | simp_all) (zFr_iff (fun a b => ⟨fun h => ⟨h.1, h.2.1, by omega⟩, fun h => ⟨h.1, h.2.1, by omega⟩⟩) hms) (Nat.lt_succ_self _) _ _ hP hD hS _ (lv_sub hl [3, 4, 5, 6, 7, 8, 9, 10, 11, 12, 2, 1, 0] rfl)
                          · exact absurd rfl c_204
                exact lp_129_79 (n + 1) n si2_70 kc2_71 FF2_72 0 (-1) (0 + 1 + 1 + 1 + 1 + 1 + 1) (0 + 6 * 1 + 6 * 1 + 6 * 1 + 6 * 1 + 6 * 1 + 6 * 1) (Nat.le_refl n) (hR) (zFr_0 (fun a b h => absurd (Nat.lt_of_lt_of_le h.2.1 h.2.2) (Nat.lt_irrefl _))) (by rw [Nat.sub_self]; rfl) (by omega) (by omega) (Nat.lt_succ_self _) _ _ hP hD hS _ (lv_sub hl [6, 7, 8, 9, 10, 5, 4, 2, 1, 0] rfl)
              · rw [lg_cmp_eq] at c_111
                exact absurd rfl c_111

