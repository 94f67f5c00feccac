/-! the law's cases: branches -/
set_option maxHeartbeats 4000000 in
set_option maxRecDepth 100000 in
theorem law_branch {p : Program} {l : Launch} {e : Env} {s : State} {m : MethodId} {args : Array Value} {below : List Frame} {meth : Method} {c : Code} {D : va_G} {cI cJ : ClassId} {A0 : Nat → Prop} {Q : State → Prop} {b la lg lt tau : Nat} {ad : Nat → Nat} {n : Nat} {kd : Nat → Int32} {ln : Nat → Int32} {lo : Nat → Int32} {hi : Nat → Int32} {vl : Nat → Int32} {gx : Int32} {gy : Int32} {sl : Int32} {si : Nat → Int32} {kc : Nat → Int64} {FF : Nat → Nat → Int32} {fa fg ft : Nat → Int32} {uu vv : Int32} {jj : Nat} (hfl : l.stackTraces = false) (C : zC p m c meth cL_law 34 s args wsL_law RL D cI cJ A0 []) (hNw : ∀ q : Nat, s.heap.size ≤ q → A0 q) (hR : zRo n kd ln lo hi vl gx gy sl FF) (hA : zAr n fa kd ln lo hi vl) (hGs : zGs fg n gx gy sl) (hT : zTt ft) (hkd : zKd n kd) (hn1 : 1 ≤ n) (hjj : jj < n) {H : Heap} {locs : List Loc} {cells slots : Nat} {ls : Array Slot} (hc : cells + 40 ≤ 600104) (hs : slots + 240 ≤ 7301314) (hP : va_P D vwCl ([(la, .inl (cI, 25, .inl fa)), (lg, .inl (cI, 4, .inl fg)), (lt, .inl (cI, 17, .inl ft))] ++ zWR cI cJ ad n kd ln lo hi vl gx gy sl si kc FF) H) (hD : va_D A0 ([(la, .inl (cI, 25, .inl fa)), (lg, .inl (cI, 4, .inl fg)), (lt, .inl (cI, 17, .inl ft))] ++ zWR cI cJ ad n kd ln lo hi vl gx gy sl si kc FF)) (hS : va_S A0 s.heap H locs) (hl : lv_has ls 34 [(9, .int 1), (8, .int (nI jj)), (7, .int uu), (6, .int vv), (5, .int (nI tau)), (4, .ref lt), (3, .ref lg), (2, .ref la), (1, .ref (ad 0)), (0, .ref b)]) (kk9 : ∀ (H1 : Heap) (locs1 : List Loc) (ls1 : Array Slot) (c1 s1 : Nat), c1 ≤ cells + 40 → s1 ≤ slots + 240 → zLv D cI cJ A0 s.heap H1 locs1 ad la lg lt 1 → lv_has ls1 34 [(9, .int 1), (7, .int uu), (5, .int (nI tau)), (4, .ref lt), (3, .ref lg), (2, .ref la), (1, .ref (ad 0)), (0, .ref b)] → W p l e room_1 s m args below meth c H1 locs1 c1 s1 Q (F0 m 1740 ls1 [])) : W p l e room_1 s m args below meth c H locs cells slots Q (F0 m 1284 ls []) := by
  obtain ⟨⟨hx, hb, hml, hown, hts⟩, hG, hK, hD0, hlocks⟩ := id C
  have hok := hR.1
  have hn := hok.1
  have hgx := hR.2.1
  have hgy := hR.2.2.1
  have hsl := hR.2.2.2.1
  have hn0 : ¬ n = 0 := by omega
  have hcl9 : (nI jj).toNatClampNeg = jj := nI_clamp (by omega)
  refine lv_aload_n hx hb dL_law_1284 rfl (lv_at hl 7 rfl) ?_
  refine lv_aload_n hx hb dL_law_1285 rfl (lv_at hl 6 rfl) ?_
  refine z_callF (w1 := zWR cI cJ ad n kd ln lo hi vl gx gy sl si kc FF) (As := [.ref la, .ref lg]) (rest := []) ⟨hx, hb, hml, hown, hts⟩ hG hK hP hD hS (c3_poses l hfl D cI cJ la fa lg fg n kd ln lo hi vl gx gy sl lt ft (by first | assumption | omega | decide) (by first | assumption | omega | decide) (by first | assumption | omega | decide)) (va_cwS 2 hts gL_law_L_poses rfl rfl rfl (by decide +kernel) ⟨Nat.le_of_ble_eq_true rfl, Nat.le_of_ble_eq_true rfl⟩) (fun _ => rfl) rfl hl.1 rfl (Nat.le_of_ble_eq_true rfl) dL_law_1286 ⟨(show cells + 0 ≤ 600104 by omega), (show slots + 0 ≤ 7301314 by omega)⟩ (fun u_1 H locs hu_2 hP hD hS => ?_)
  obtain ⟨r_3, rfl⟩ : ∃ z, z = u_1 := ⟨_, rfl⟩
  have hu_2 : (r_3 = nI (zMil lo hi n)) := hu_2
  have e_4 := hu_2
  subst e_4
  have hP : va_P D vwCl ([(la, .inl (cI, 25, .inl fa)), (lg, .inl (cI, 4, .inl fg)), (lt, .inl (cI, 17, .inl ft))] ++ zWR cI cJ ad n kd ln lo hi vl gx gy sl si kc FF) H := hP
  have hD : va_D A0 ([(la, .inl (cI, 25, .inl fa)), (lg, .inl (cI, 4, .inl fg)), (lt, .inl (cI, 17, .inl ft))] ++ zWR cI cJ ad n kd ln lo hi vl gx gy sl si kc FF) := hD
  refine lv_istore (lv' := [(24, .int (nI (zMil lo hi n))), (9, .int 1), (8, .int (nI jj)), (7, .int uu), (6, .int vv), (5, .int (nI tau)), (4, .ref lt), (3, .ref lg), (2, .ref la), (1, .ref (ad 0)), (0, .ref b)]) hx hb dL_law_1289 hl (by decide) rfl (fun ls hl => ?_)
  refine lv_iload hx hb dL_law_1291 (lv_at hl 3 rfl) ?_
  refine lv_iconst (v := nI 3) hx hb dL_law_1293 (rfl) ?_
  refine z_call0 (As := [.int uu, .int (nI 3)]) (rest := []) ⟨hx, hb, hml, hown, hts⟩ hG hK hP hD hS (zML_of (c_L_low l D cI cJ uu 3 (by first | assumption | omega | decide))) (va_cwS 2 hts gL_law_L_low rfl rfl rfl (by decide +kernel) ⟨Nat.le_of_ble_eq_true rfl, Nat.le_of_ble_eq_true rfl⟩) (fun _ => rfl) rfl hl.1 rfl (Nat.le_of_ble_eq_true rfl) dL_law_1294 ⟨(show cells + 0 ≤ 600104 by omega), (show slots + 0 ≤ 7301314 by omega)⟩ (fun u_5 H locs hu_6 hP hD hS => ?_)
  obtain ⟨r_7, rfl⟩ : ∃ z, z = u_5 := ⟨_, rfl⟩
  have hu_6 : (r_7 = nI (zLw uu 3)) := hu_6
  have e_8 := hu_6
  subst e_8
  have hP : va_P D vwCl ([(la, .inl (cI, 25, .inl fa)), (lg, .inl (cI, 4, .inl fg)), (lt, .inl (cI, 17, .inl ft))] ++ zWR cI cJ ad n kd ln lo hi vl gx gy sl si kc FF) H := hP
  have hD : va_D A0 ([(la, .inl (cI, 25, .inl fa)), (lg, .inl (cI, 4, .inl fg)), (lt, .inl (cI, 17, .inl ft))] ++ zWR cI cJ ad n kd ln lo hi vl gx gy sl si kc FF) := hD
  obtain ⟨bq, hbq⟩ : ∃ z9, z9 = nI (zLw uu 3) := ⟨_, rfl⟩
  refine z_topi (y := bq) hbq.symm ?_
  have hb3 : zB3 bq := by rw [hbq]; exact zlow3 _
  have hby := zB3_b hb3
  refine lv_istore (lv' := [(25, .int bq), (24, .int (nI (zMil lo hi n))), (9, .int 1), (8, .int (nI jj)), (7, .int uu), (6, .int vv), (5, .int (nI tau)), (4, .ref lt), (3, .ref lg), (2, .ref la), (1, .ref (ad 0)), (0, .ref b)]) hx hb dL_law_1297 hl (by decide) rfl (fun ls hl => ?_)
  refine lv_iload hx hb dL_law_1299 (lv_at hl 4 rfl) ?_
  refine lv_iconst (v := 4) hx hb dL_law_1301 (by decide) ?_
  refine lv_ishr hx hb dL_law_1302 ?_
  refine lv_bipush (v := nI 10) hx hb dL_law_1303 (rfl) ?_
  refine z_call0 (As := [.int (uu >>> (4 &&& 31)), .int (nI 10)]) (rest := []) ⟨hx, hb, hml, hown, hts⟩ hG hK hP hD hS (zML_of (c_L_low l D cI cJ (uu >>> (4 &&& 31)) 10 (by first | assumption | omega | decide))) (va_cwS 2 hts gL_law_L_low rfl rfl rfl (by decide +kernel) ⟨Nat.le_of_ble_eq_true rfl, Nat.le_of_ble_eq_true rfl⟩) (fun _ => rfl) rfl hl.1 rfl (Nat.le_of_ble_eq_true rfl) dL_law_1305 ⟨(show cells + 0 ≤ 600104 by omega), (show slots + 0 ≤ 7301314 by omega)⟩ (fun u_9 H locs hu_10 hP hD hS => ?_)
  obtain ⟨r_11, rfl⟩ : ∃ z, z = u_9 := ⟨_, rfl⟩
  have hu_10 : (r_11 = nI (zLw (uu >>> (4 &&& 31)) 10)) := hu_10
  have e_12 := hu_10
  subst e_12
  have hP : va_P D vwCl ([(la, .inl (cI, 25, .inl fa)), (lg, .inl (cI, 4, .inl fg)), (lt, .inl (cI, 17, .inl ft))] ++ zWR cI cJ ad n kd ln lo hi vl gx gy sl si kc FF) H := hP
  have hD : va_D A0 ([(la, .inl (cI, 25, .inl fa)), (lg, .inl (cI, 4, .inl fg)), (lt, .inl (cI, 17, .inl ft))] ++ zWR cI cJ ad n kd ln lo hi vl gx gy sl si kc FF) := hD
  obtain ⟨rk, hrk, hrk10⟩ : ∃ rk : Nat, rk = zLw (uu >>> (4 &&& 31)) 10 ∧ rk < 10 := ⟨_, rfl, zLw_lt (by decide)⟩
  refine z_topi (y := nI rk) (by rw [hrk]) ?_
  have hr10 : 0 ≤ nI rk ∧ nI rk < 10 := ⟨nI_pos' (by omega), (nI_ltI (b := 10) (by omega) (by omega)).mpr hrk10⟩
  have hcr9 : (nI rk).toNatClampNeg = rk := nI_clamp (by omega)
  refine lv_istore (lv' := [(26, .int (nI rk)), (25, .int bq), (24, .int (nI (zMil lo hi n))), (9, .int 1), (8, .int (nI jj)), (7, .int uu), (6, .int vv), (5, .int (nI tau)), (4, .ref lt), (3, .ref lg), (2, .ref la), (1, .ref (ad 0)), (0, .ref b)]) hx hb dL_law_1308 hl (by decide) rfl (fun ls hl => ?_)
  refine lv_iload hx hb dL_law_1310 (lv_at hl 2 rfl) ?_
  refine lv_ldc (own := RL) (v := 40000) hx hb hown (hts (.constant RL 145 (40000)) (by decide +kernel)) dL_law_1312 ?_
  refine z_topi (y := nI 40000) (by decide +kernel) ?_
  refine lv_icmp_le (tgt := 1398) hx hb dL_law_1314 (by decide) (fun c_1314 => ?_) (fun c_1314 => ?_)
  · have hfew : zPw lo hi n ≤ 40000 := by have h9 := zMil_le lo hi n; exact zMil_few.mp ((nI_leI (a := zMil lo hi n) (b := 40000) (by omega) (by omega)).mp c_1314)
    have hmeq : zMil lo hi n = zPw lo hi n := zMil_eq (zMil_few.mpr hfew)
    refine lv_iload hx hb dL_law_1398 (lv_at hl 2 rfl) ?_
    refine lv_sipush (v := nI 900) hx hb dL_law_1400 (rfl) ?_
    refine lv_icmp_le (tgt := 1409) hx hb dL_law_1403 (by decide) (fun c_1403 => ?_) (fun c_1403 => ?_)
    · have hsm9 : zPw lo hi n ≤ 900 := by have h9 := zMil_le lo hi n; rw [← hmeq]; exact (nI_leI (b := 900) (by omega) (by omega)).mp c_1403
      refine lv_aload_n hx hb dL_law_1409 rfl (lv_at hl 9 rfl) ?_
      refine lv_iconst (v := nI 0) hx hb dL_law_1410 (rfl) ?_
      refine z_iald hx hb hK hP 1 rfl (j := 0) (by omega) (by decide) dL_law_1411 ?_
      refine z_topi (y := nI n) (hGs.1) ?_
      refine lv_if_ne (tgt := 1419) hx hb dL_law_1412 (by decide) (fun c_1412 => ?_) (fun c_1412 => ?_)
      · refine lv_aload_n hx hb dL_law_1419 rfl (lv_at hl 10 rfl) ?_
        refine lv_aload_n hx hb dL_law_1420 rfl (lv_at hl 9 rfl) ?_
        refine lv_aload hx hb dL_law_1421 (lv_at hl 8 rfl) ?_
        refine z_callF (w1 := zWR cI cJ ad n kd ln lo hi vl gx gy sl si kc FF) (As := [.ref la, .ref lg, .ref lt]) (rest := []) ⟨hx, hb, hml, hown, hts⟩ hG hK hP hD hS (c3_reaches l hfl D cI cJ la fa lg fg lt ft n kd ln lo hi vl gx gy sl (by first | assumption | omega | decide) (by first | assumption | omega | decide) (by first | assumption | omega | decide) (by first | assumption | omega | decide) (by first | assumption | omega | decide) (by first | assumption | omega | decide) (by first | assumption | omega | decide) (by first | assumption | omega | decide) (by first | assumption | omega | decide) (by first | assumption | omega | decide)) (va_cwS 3 hts gL_law_L_reaches rfl rfl rfl (by decide +kernel) ⟨Nat.le_of_ble_eq_true rfl, Nat.le_of_ble_eq_true rfl⟩) (fun _ => rfl) rfl hl.1 rfl (Nat.le_of_ble_eq_true rfl) dL_law_1423 ⟨(show cells + 5 ≤ 600104 by omega), (show slots + 30 ≤ 7301314 by omega)⟩ (fun u_13 H locs hu_14 hP hD hS => ?_)
        obtain ⟨r_15, rfl⟩ : ∃ z, z = u_13 := ⟨_, rfl⟩
        have hu_14 : (r_15 = nI (zAll kd ln lo hi vl n gx gy sl 0).1) := hu_14
        have e_16 := hu_14
        subst e_16
        have hP : va_P D vwCl ([(la, .inl (cI, 25, .inl fa)), (lg, .inl (cI, 4, .inl fg)), (lt, .inl (cI, 17, .inl ft))] ++ zWR cI cJ ad n kd ln lo hi vl gx gy sl si kc FF) H := hP
        have hD : va_D A0 ([(la, .inl (cI, 25, .inl fa)), (lg, .inl (cI, 4, .inl fg)), (lt, .inl (cI, 17, .inl ft))] ++ zWR cI cJ ad n kd ln lo hi vl gx gy sl si kc FF) := hD
        refine z_topi (y := nI (zAll kd ln lo hi vl n gx gy sl bq).1) (by rw [zAll_cn hn0 0 bq]) ?_
        refine lv_istore (lv' := [(27, .int (nI (zAll kd ln lo hi vl n gx gy sl bq).1)), (26, .int (nI rk)), (25, .int bq), (24, .int (nI (zMil lo hi n))), (9, .int 1), (8, .int (nI jj)), (7, .int uu), (6, .int vv), (5, .int (nI tau)), (4, .ref lt), (3, .ref lg), (2, .ref la), (1, .ref (ad 0)), (0, .ref b)]) hx hb dL_law_1426 hl (by decide) rfl (fun ls hl => ?_)
        refine lv_aload_n hx hb dL_law_1428 rfl (lv_at hl 12 rfl) ?_
        refine z_callAX (w1 := [(la, .inl (cI, 25, .inl fa)), (lg, .inl (cI, 4, .inl fg)), (lt, .inl (cI, 17, .inl ft))]) (As := [.ref (ad 0)]) (rest := []) ⟨hx, hb, hml, hown, hts⟩ hG hK hP hD hS (cR_branches l hfl D cI cJ ad n kd ln lo hi vl gx gy sl si kc FF (by first | assumption | omega | decide)) (vx_cwSW (hh := [(0, 5, 8, 16)]) 1 hts gL_law_L_branches rfl rfl rfl (by decide +kernel) ⟨Nat.le_of_ble_eq_true rfl, Nat.le_of_ble_eq_true rfl⟩) (fun _ => rfl) rfl hl.1 rfl (Nat.le_of_ble_eq_true rfl) dL_law_1429 ⟨(show cells + 5 + 1 ≤ 600104 by omega), (show slots + 6 * 5 + 6 ≤ 7301314 by omega)⟩ (fun u_17 H locs hu_18 hP hD hS => ?_)
        obtain ⟨kk_19, si2_20, kc2_21, FF2_22⟩ := u_17
        have hu_18 : (zL0 (FF2_22 3) (FF2_22 4) (FF2_22 5) (FF2_22 6)) ∧ (zPw lo hi n ≤ 40000 → (kk_19 = nI (zAll kd ln lo hi vl n gx gy sl 0).1)) ∧ (¬ zPw lo hi n ≤ 40000 → (kk_19 = (-7300))) := hu_18
        obtain ⟨e_23, e_24, e_25⟩ := hu_18
        have r_26 : (kk_19 = nI (zAll kd ln lo hi vl n gx gy sl 0).1) := e_24 hfew
        subst r_26
        have hP : va_P D vwCl ([(la, .inl (cI, 25, .inl fa)), (lg, .inl (cI, 4, .inl fg)), (lt, .inl (cI, 17, .inl ft))] ++ zWR cI cJ ad n kd ln lo hi vl gx gy sl si2_20 kc2_21 FF2_22) H := hP
        have hD : va_D A0 ([(la, .inl (cI, 25, .inl fa)), (lg, .inl (cI, 4, .inl fg)), (lt, .inl (cI, 17, .inl ft))] ++ zWR cI cJ ad n kd ln lo hi vl gx gy sl si2_20 kc2_21 FF2_22) := hD
        refine z_topi (y := nI (zAll kd ln lo hi vl n gx gy sl 0).1) rfl ?_
        replace hR := zRo_of hR e_23
        refine z_topi (y := nI (zAll kd ln lo hi vl n gx gy sl bq).1) (by rw [zAll_cn hn0 0 bq]) ?_
        refine lv_iload hx hb dL_law_1432 (lv_at hl 0 rfl) ?_
        refine lv_icmp_ne (tgt := 1441) hx hb dL_law_1434 (by decide) (fun c_1434 => ?_) (fun c_1434 => ?_)
        · exact absurd rfl c_1434
        · refine lv_iconst (v := 1) hx hb dL_law_1437 (by decide) ?_
          refine lv_goto (tgt := 1442) hx hb dL_law_1438 (by decide) ?_
          refine lv_istore (lv' := [(9, .int 1), (27, .int (nI (zAll kd ln lo hi vl n gx gy sl bq).1)), (26, .int (nI rk)), (25, .int bq), (24, .int (nI (zMil lo hi n))), (8, .int (nI jj)), (7, .int uu), (6, .int vv), (5, .int (nI tau)), (4, .ref lt), (3, .ref lg), (2, .ref la), (1, .ref (ad 0)), (0, .ref b)]) hx hb dL_law_1442 hl (by decide) rfl (fun ls hl => ?_)
          refine lv_aload_n hx hb dL_law_1444 rfl (lv_at hl 10 rfl) ?_
          refine lv_iconst (v := nI 0) hx hb dL_law_1445 (rfl) ?_
          refine z_iald hx hb hK hP 1 rfl (j := 0) (by omega) (by decide) dL_law_1446 ?_
          refine z_topi (y := nI n) (hGs.1) ?_
          refine lv_if_ne (tgt := 1454) hx hb dL_law_1447 (by decide) (fun c_1447 => ?_) (fun c_1447 => ?_)
          · refine lv_iload hx hb dL_law_1454 (lv_at hl 2 rfl) ?_
            refine lv_iload hx hb dL_law_1456 (lv_at hl 3 rfl) ?_
            refine lv_aload_n hx hb dL_law_1458 rfl (lv_at hl 11 rfl) ?_
            refine lv_aload_n hx hb dL_law_1459 rfl (lv_at hl 10 rfl) ?_
            refine lv_aload hx hb dL_law_1460 (lv_at hl 9 rfl) ?_
            refine z_callF (w1 := zWR cI cJ ad n kd ln lo hi vl gx gy sl si2_20 kc2_21 FF2_22) (As := [.int (nI rk), .int bq, .ref la, .ref lg, .ref lt]) (rest := []) ⟨hx, hb, hml, hown, hts⟩ hG hK hP hD hS (c3_ranked l hfl D cI cJ rk bq la fa lg fg lt ft n kd ln lo hi vl gx gy sl (by first | assumption | omega | decide) (by first | assumption | omega | decide) (by first | assumption | omega | decide) (by first | assumption | omega | decide) (by first | assumption | omega | decide) (by first | assumption | omega | decide) (by first | assumption | omega | decide) (by first | assumption | omega | decide) (by first | assumption | omega | decide) (by first | assumption | omega | decide) (by first | assumption | omega | decide) (by first | assumption | omega | decide)) (va_cwS 5 hts gL_law_L_ranked rfl rfl rfl (by decide +kernel) ⟨Nat.le_of_ble_eq_true rfl, Nat.le_of_ble_eq_true rfl⟩) (fun _ => rfl) rfl hl.1 rfl (Nat.le_of_ble_eq_true rfl) dL_law_1462 ⟨(show cells + 5 + 1 + 5 ≤ 600104 by omega), (show slots + 6 * 5 + 6 * 1 + 30 ≤ 7301314 by omega)⟩ (fun u_27 H locs hu_28 hP hD hS => ?_)
            obtain ⟨r_29, rfl⟩ : ∃ z, z = u_27 := ⟨_, rfl⟩
            have hu_28 : (r_29 = if rk < (zAll kd ln lo hi vl n gx gy sl bq).1 then nI ((zAll kd ln lo hi vl n gx gy sl bq).2.2 rk) else -1) := hu_28
            have e_30 := hu_28
            subst e_30
            have hP : va_P D vwCl ([(la, .inl (cI, 25, .inl fa)), (lg, .inl (cI, 4, .inl fg)), (lt, .inl (cI, 17, .inl ft))] ++ zWR cI cJ ad n kd ln lo hi vl gx gy sl si2_20 kc2_21 FF2_22) H := hP
            have hD : va_D A0 ([(la, .inl (cI, 25, .inl fa)), (lg, .inl (cI, 4, .inl fg)), (lt, .inl (cI, 17, .inl ft))] ++ zWR cI cJ ad n kd ln lo hi vl gx gy sl si2_20 kc2_21 FF2_22) := hD
            by_cases hrf : rk < (zAll kd ln lo hi vl n gx gy sl bq).1
            · refine z_topi (y := nI ((zAll kd ln lo hi vl n gx gy sl bq).2.2 rk)) (by rw [if_pos hrf]) ?_
              refine law_br_pos hfl C hNw hR hA hGs hT hkd hn1 hn0 hb3 hrk10 hfew rfl hrf (cells := cells + 5 + 1 + 5) (slots := slots + 6 * 5 + 6 * 1 + 6 * 5) (show cells + 5 + 1 + 5 + 20 ≤ 600104 by omega) (show slots + 6 * 5 + 6 * 1 + 6 * 5 + 130 ≤ 7301314 by omega) hP hD hS (lv_sub hl [1, 2, 3, 0, 6, 8, 9, 10, 11, 12, 13] rfl) (fun H1 locs1 ls1 c1 s1 g1 g2 => kk9 H1 locs1 ls1 c1 s1 (Nat.le_trans g1 (by omega)) (Nat.le_trans g2 (by omega)))
            · refine z_topi (y := -1) (by rw [if_neg hrf]) ?_
              refine law_br_neg hfl C hNw hR hA hGs hT hkd hn1 hn0 hb3 hrk10 hfew hrf (cells := cells + 5 + 1 + 5) (slots := slots + 6 * 5 + 6 * 1 + 6 * 5) (show cells + 5 + 1 + 5 + 20 ≤ 600104 by omega) (show slots + 6 * 5 + 6 * 1 + 6 * 5 + 130 ≤ 7301314 by omega) hP hD hS (lv_sub hl [1, 2, 3, 0, 6, 8, 9, 10, 11, 12, 13] rfl) (fun H1 locs1 ls1 c1 s1 g1 g2 => kk9 H1 locs1 ls1 c1 s1 (Nat.le_trans g1 (by omega)) (Nat.le_trans g2 (by omega)))
          · exact absurd c_1447 (nI_ne0 (by omega) (by omega))
      · exact absurd c_1412 (nI_ne0 (by omega) (by omega))
    · refine lv_goto (tgt := 1740) hx hb dL_law_1406 (by decide) ?_
      exact kk9 _ _ _ _ _ (by omega) (by omega) ⟨n, kd, ln, lo, hi, vl, gx, gy, sl, si, kc, FF, fa, fg, ft, hn1, hR, hA, hGs, hT, hkd, hP, hD, hS⟩ (lv_sub hl [3, 5, 7, 8, 9, 10, 11, 12] rfl)
  · have hmany : ¬ zPw lo hi n ≤ 40000 := by have h9 := zMil_le lo hi n; exact fun h8 => c_1314 ((nI_leI (a := zMil lo hi n) (b := 40000) (by omega) (by omega)).mpr (zMil_few.mpr h8))
    refine lv_aload_n hx hb dL_law_1317 rfl (lv_at hl 11 rfl) ?_
    refine z_callAX (w1 := [(la, .inl (cI, 25, .inl fa)), (lg, .inl (cI, 4, .inl fg)), (lt, .inl (cI, 17, .inl ft))]) (As := [.ref (ad 0)]) (rest := []) ⟨hx, hb, hml, hown, hts⟩ hG hK hP hD hS (cR_branches l hfl D cI cJ ad n kd ln lo hi vl gx gy sl si kc FF (by first | assumption | omega | decide)) (vx_cwSW (hh := [(0, 5, 8, 16)]) 1 hts gL_law_L_branches rfl rfl rfl (by decide +kernel) ⟨Nat.le_of_ble_eq_true rfl, Nat.le_of_ble_eq_true rfl⟩) (fun _ => rfl) rfl hl.1 rfl (Nat.le_of_ble_eq_true rfl) dL_law_1318 ⟨(show cells + 1 ≤ 600104 by omega), (show slots + 6 ≤ 7301314 by omega)⟩ (fun u_31 H locs hu_32 hP hD hS => ?_)
    obtain ⟨kk_33, si2_34, kc2_35, FF2_36⟩ := u_31
    have hu_32 : (zL0 (FF2_36 3) (FF2_36 4) (FF2_36 5) (FF2_36 6)) ∧ (zPw lo hi n ≤ 40000 → (kk_33 = nI (zAll kd ln lo hi vl n gx gy sl 0).1)) ∧ (¬ zPw lo hi n ≤ 40000 → (kk_33 = (-7300))) := hu_32
    obtain ⟨e_37, e_38, e_39⟩ := hu_32
    have r_40 : (kk_33 = (-7300)) := e_39 hmany
    subst r_40
    have hP : va_P D vwCl ([(la, .inl (cI, 25, .inl fa)), (lg, .inl (cI, 4, .inl fg)), (lt, .inl (cI, 17, .inl ft))] ++ zWR cI cJ ad n kd ln lo hi vl gx gy sl si2_34 kc2_35 FF2_36) H := hP
    have hD : va_D A0 ([(la, .inl (cI, 25, .inl fa)), (lg, .inl (cI, 4, .inl fg)), (lt, .inl (cI, 17, .inl ft))] ++ zWR cI cJ ad n kd ln lo hi vl gx gy sl si2_34 kc2_35 FF2_36) := hD
    refine z_topi (y := -7300) rfl ?_
    replace hR := zRo_of hR e_37
    refine lv_sipush (v := (-7300)) hx hb dL_law_1321 (by decide) ?_
    refine lv_icmp_ne (tgt := 1392) hx hb dL_law_1324 (by decide) (fun c_1324 => ?_) (fun c_1324 => ?_)
    · exact absurd (by decide) c_1324
    · refine lv_aload_n hx hb dL_law_1327 rfl (lv_at hl 11 rfl) ?_
      refine lv_iload hx hb dL_law_1328 (lv_at hl 0 rfl) ?_
      refine lv_iload hx hb dL_law_1330 (lv_at hl 1 rfl) ?_
      refine lv_iload hx hb dL_law_1332 (lv_at hl 4 rfl) ?_
      refine z_callAX (w1 := [(la, .inl (cI, 25, .inl fa)), (lg, .inl (cI, 4, .inl fg)), (lt, .inl (cI, 17, .inl ft))]) (As := [.ref (ad 0), .int (nI rk), .int bq, .int (nI jj)]) (rest := []) ⟨hx, hb, hml, hown, hts⟩ hG hK hP hD hS (cR_branch l hfl D cI cJ ad n kd ln lo hi vl gx gy sl si2_34 kc2_35 FF2_36 (nI rk) bq (nI jj) (by first | assumption | omega | decide)) (vx_cwSW (hh := [(0, 9, 12, 22), (0, 9, 18, 14), (0, 9, 24, 16)]) 4 hts gL_law_L_branch rfl rfl rfl (by decide +kernel) ⟨Nat.le_of_ble_eq_true rfl, Nat.le_of_ble_eq_true rfl⟩) (fun _ => rfl) rfl hl.1 rfl (Nat.le_of_ble_eq_true rfl) dL_law_1334 ⟨(show cells + 1 + 2 ≤ 600104 by omega), (show slots + 6 * 1 + 12 ≤ 7301314 by omega)⟩ (fun u_41 H locs hu_42 hP hD hS => ?_)
      obtain ⟨kk_43, si2_44, kc2_45, FF2_46⟩ := u_41
      have hu_42 : (zL0 (FF2_46 3) (FF2_46 4) (FF2_46 5) (FF2_46 6)) ∧ (zJ n (nI jj) → (0 ≤ (nI rk) ∧ (nI rk) < 10) → zPw lo hi n ≤ 40000 → (nI rk) < nI (zAll kd ln lo hi vl n gx gy sl bq).1 → (0 ≤ bq ∧ bq ≤ 2) → (kk_43 = zPk lo hi n ((zAll kd ln lo hi vl n gx gy sl bq).2.2 (nI rk).toNatClampNeg) (nI jj).toNatClampNeg)) ∧ ((¬ zJ n (nI jj) ∨ ¬ (0 ≤ (nI rk) ∧ (nI rk) < 10) ∨ (zPw lo hi n ≤ 40000 ∧ ¬ (nI rk) < nI (zAll kd ln lo hi vl n gx gy sl bq).1)) → (kk_43 = (-7100))) ∧ (zJ n (nI jj) → (0 ≤ (nI rk) ∧ (nI rk) < 10) → (zPw lo hi n ≤ 40000 → (nI rk) < nI (zAll kd ln lo hi vl n gx gy sl bq).1) → ¬ (0 ≤ bq ∧ bq ≤ 2) → (kk_43 = (-7200))) ∧ (zJ n (nI jj) → (0 ≤ (nI rk) ∧ (nI rk) < 10) → (0 ≤ bq ∧ bq ≤ 2) → ¬ zPw lo hi n ≤ 40000 → (kk_43 = (-7300))) := hu_42
      obtain ⟨e_47, e_48, e_49, e_50, e_51⟩ := hu_42
      have r_52 : (kk_43 = (-7300)) := e_51 (zJ_lt hn hjj) hr10 hby hmany
      subst r_52
      have hP : va_P D vwCl ([(la, .inl (cI, 25, .inl fa)), (lg, .inl (cI, 4, .inl fg)), (lt, .inl (cI, 17, .inl ft))] ++ zWR cI cJ ad n kd ln lo hi vl gx gy sl si2_44 kc2_45 FF2_46) H := hP
      have hD : va_D A0 ([(la, .inl (cI, 25, .inl fa)), (lg, .inl (cI, 4, .inl fg)), (lt, .inl (cI, 17, .inl ft))] ++ zWR cI cJ ad n kd ln lo hi vl gx gy sl si2_44 kc2_45 FF2_46) := hD
      refine z_topi (y := -7300) rfl ?_
      replace hR := zRo_of hR e_47
      refine lv_sipush (v := (-7300)) hx hb dL_law_1337 (by decide) ?_
      refine lv_icmp_ne (tgt := 1392) hx hb dL_law_1340 (by decide) (fun c_1340 => ?_) (fun c_1340 => ?_)
      · exact absurd (by decide) c_1340
      · refine lv_aload_n hx hb dL_law_1343 rfl (lv_at hl 11 rfl) ?_
        refine lv_iload hx hb dL_law_1344 (lv_at hl 0 rfl) ?_
        refine lv_iload hx hb dL_law_1346 (lv_at hl 1 rfl) ?_
        refine z_callAX (w1 := [(la, .inl (cI, 25, .inl fa)), (lg, .inl (cI, 4, .inl fg)), (lt, .inl (cI, 17, .inl ft))]) (As := [.ref (ad 0), .int (nI rk), .int bq]) (rest := []) ⟨hx, hb, hml, hown, hts⟩ hG hK hP hD hS (cR_take l hfl D cI cJ ad n kd ln lo hi vl gx gy sl si2_44 kc2_45 FF2_46 (nI rk) bq (by first | assumption | omega | decide)) (vx_cwSW (hh := [(0, 7, 10, 22), (0, 7, 16, 14), (0, 7, 22, 16)]) 3 hts gL_law_L_take rfl rfl rfl (by decide +kernel) ⟨Nat.le_of_ble_eq_true rfl, Nat.le_of_ble_eq_true rfl⟩) (fun _ => rfl) rfl hl.1 rfl (Nat.le_of_ble_eq_true rfl) dL_law_1348 ⟨(show cells + 1 + 2 + 1 ≤ 600104 by omega), (show slots + 6 * 1 + 6 * 2 + 6 ≤ 7301314 by omega)⟩ (fun u_53 H locs hu_54 hP hD hS => ?_)
        obtain ⟨kk_55, vl2_56, si2_57, kc2_58, FF2_59⟩ := u_53
        have hu_54 : (zL0 (FF2_59 3) (FF2_59 4) (FF2_59 5) (FF2_59 6)) ∧ ((0 ≤ (nI rk) ∧ (nI rk) < 10) → zPw lo hi n ≤ 40000 → (nI rk) < nI (zAll kd ln lo hi vl n gx gy sl bq).1 → (0 ≤ bq ∧ bq ≤ 2) → (kk_55 = zFn kd ln (zTk vl n (zPk lo hi n ((zAll kd ln lo hi vl n gx gy sl bq).2.2 (nI rk).toNatClampNeg))) n gx gy) ∧ (vl2_56 = zTk vl n (zPk lo hi n ((zAll kd ln lo hi vl n gx gy sl bq).2.2 (nI rk).toNatClampNeg)))) ∧ ((¬ (0 ≤ (nI rk) ∧ (nI rk) < 10) ∨ (zPw lo hi n ≤ 40000 ∧ ¬ (nI rk) < nI (zAll kd ln lo hi vl n gx gy sl bq).1)) → (kk_55 = (-7100)) ∧ (vl2_56 = vl)) ∧ ((0 ≤ (nI rk) ∧ (nI rk) < 10) → (zPw lo hi n ≤ 40000 → (nI rk) < nI (zAll kd ln lo hi vl n gx gy sl bq).1) → ¬ (0 ≤ bq ∧ bq ≤ 2) → (kk_55 = (-7200)) ∧ (vl2_56 = vl)) ∧ ((0 ≤ (nI rk) ∧ (nI rk) < 10) → (0 ≤ bq ∧ bq ≤ 2) → ¬ zPw lo hi n ≤ 40000 → (kk_55 = (-7300)) ∧ (vl2_56 = vl)) := hu_54
        obtain ⟨e_60, e_61, e_62, e_63, e_64⟩ := hu_54
        obtain ⟨r_65, r_66⟩ : (kk_55 = (-7300)) ∧ (vl2_56 = vl) := e_64 hr10 hby hmany
        subst r_65
        replace r_66 := r_66.symm
        subst r_66
        have hP : va_P D vwCl ([(la, .inl (cI, 25, .inl fa)), (lg, .inl (cI, 4, .inl fg)), (lt, .inl (cI, 17, .inl ft))] ++ zWR cI cJ ad n kd ln lo hi vl gx gy sl si2_57 kc2_58 FF2_59) H := hP
        have hD : va_D A0 ([(la, .inl (cI, 25, .inl fa)), (lg, .inl (cI, 4, .inl fg)), (lt, .inl (cI, 17, .inl ft))] ++ zWR cI cJ ad n kd ln lo hi vl gx gy sl si2_57 kc2_58 FF2_59) := hD
        refine z_topl (y := -7300) rfl ?_
        replace hR := zRo_of hR e_60
        refine lv_ldc2 (own := RL) (v := -7300) hx hb hown (hts (.constantLong RL 64 (-7300)) (by decide +kernel)) dL_law_1351 ?_
        refine W.lcmp hx hb dL_law_1354 ?_
        refine lv_if_ne (tgt := 1392) hx hb dL_law_1355 (by decide) (fun c_1355 => ?_) (fun c_1355 => ?_)
        · rw [lg_cmp_eq] at c_1355
          exact absurd rfl c_1355
        · rw [lg_cmp_eq] at c_1355
          refine lv_aload_n hx hb dL_law_1358 rfl (lv_at hl 11 rfl) ?_
          refine lv_iload hx hb dL_law_1359 (lv_at hl 0 rfl) ?_
          refine lv_iconst (v := 3) hx hb dL_law_1361 (by decide) ?_
          refine lv_iload hx hb dL_law_1362 (lv_at hl 4 rfl) ?_
          refine z_callAX (w1 := [(la, .inl (cI, 25, .inl fa)), (lg, .inl (cI, 4, .inl fg)), (lt, .inl (cI, 17, .inl ft))]) (As := [.ref (ad 0), .int (nI rk), .int 3, .int (nI jj)]) (rest := []) ⟨hx, hb, hml, hown, hts⟩ hG hK hP hD hS (cR_branch l hfl D cI cJ ad n kd ln lo hi vl gx gy sl si2_57 kc2_58 FF2_59 (nI rk) 3 (nI jj) (by first | assumption | omega | decide)) (vx_cwSW (hh := [(0, 9, 12, 22), (0, 9, 18, 14), (0, 9, 24, 16)]) 4 hts gL_law_L_branch rfl rfl rfl (by decide +kernel) ⟨Nat.le_of_ble_eq_true rfl, Nat.le_of_ble_eq_true rfl⟩) (fun _ => rfl) rfl hl.1 rfl (Nat.le_of_ble_eq_true rfl) dL_law_1364 ⟨(show cells + 1 + 2 + 1 + 2 ≤ 600104 by omega), (show slots + 6 * 1 + 6 * 2 + 6 * 1 + 12 ≤ 7301314 by omega)⟩ (fun u_67 H locs hu_68 hP hD hS => ?_)
          obtain ⟨kk_69, si2_70, kc2_71, FF2_72⟩ := u_67
          have hu_68 : (zL0 (FF2_72 3) (FF2_72 4) (FF2_72 5) (FF2_72 6)) ∧ (zJ n (nI jj) → (0 ≤ (nI rk) ∧ (nI rk) < 10) → zPw lo hi n ≤ 40000 → (nI rk) < nI (zAll kd ln lo hi vl n gx gy sl (3 : Int32)).1 → (0 ≤ (3 : Int32) ∧ (3 : Int32) ≤ 2) → (kk_69 = zPk lo hi n ((zAll kd ln lo hi vl n gx gy sl (3 : Int32)).2.2 (nI rk).toNatClampNeg) (nI jj).toNatClampNeg)) ∧ ((¬ zJ n (nI jj) ∨ ¬ (0 ≤ (nI rk) ∧ (nI rk) < 10) ∨ (zPw lo hi n ≤ 40000 ∧ ¬ (nI rk) < nI (zAll kd ln lo hi vl n gx gy sl (3 : Int32)).1)) → (kk_69 = (-7100))) ∧ (zJ n (nI jj) → (0 ≤ (nI rk) ∧ (nI rk) < 10) → (zPw lo hi n ≤ 40000 → (nI rk) < nI (zAll kd ln lo hi vl n gx gy sl (3 : Int32)).1) → ¬ (0 ≤ (3 : Int32) ∧ (3 : Int32) ≤ 2) → (kk_69 = (-7200))) ∧ (zJ n (nI jj) → (0 ≤ (nI rk) ∧ (nI rk) < 10) → (0 ≤ (3 : Int32) ∧ (3 : Int32) ≤ 2) → ¬ zPw lo hi n ≤ 40000 → (kk_69 = (-7300))) := hu_68
          obtain ⟨e_73, e_74, e_75, e_76, e_77⟩ := hu_68
          have r_78 : (kk_69 = (-7200)) := e_76 (zJ_lt hn hjj) hr10 (fun h9 => absurd h9 hmany) (by decide)
          subst r_78
          have hP : va_P D vwCl ([(la, .inl (cI, 25, .inl fa)), (lg, .inl (cI, 4, .inl fg)), (lt, .inl (cI, 17, .inl ft))] ++ zWR cI cJ ad n kd ln lo hi vl gx gy sl si2_70 kc2_71 FF2_72) H := hP
          have hD : va_D A0 ([(la, .inl (cI, 25, .inl fa)), (lg, .inl (cI, 4, .inl fg)), (lt, .inl (cI, 17, .inl ft))] ++ zWR cI cJ ad n kd ln lo hi vl gx gy sl si2_70 kc2_71 FF2_72) := hD
          refine z_topi (y := -7200) rfl ?_
          replace hR := zRo_of hR e_73
          refine lv_sipush (v := (-7200)) hx hb dL_law_1367 (by decide) ?_
          refine lv_icmp_ne (tgt := 1392) hx hb dL_law_1370 (by decide) (fun c_1370 => ?_) (fun c_1370 => ?_)
          · exact absurd (by decide) c_1370
          · refine lv_aload_n hx hb dL_law_1373 rfl (lv_at hl 11 rfl) ?_
            refine lv_bipush (v := 10) hx hb dL_law_1374 (by decide) ?_
            refine lv_iconst (v := 3) hx hb dL_law_1376 (by decide) ?_
            refine lv_iload hx hb dL_law_1377 (lv_at hl 4 rfl) ?_
            refine z_callAX (w1 := [(la, .inl (cI, 25, .inl fa)), (lg, .inl (cI, 4, .inl fg)), (lt, .inl (cI, 17, .inl ft))]) (As := [.ref (ad 0), .int 10, .int 3, .int (nI jj)]) (rest := []) ⟨hx, hb, hml, hown, hts⟩ hG hK hP hD hS (cR_branch l hfl D cI cJ ad n kd ln lo hi vl gx gy sl si2_70 kc2_71 FF2_72 10 3 (nI jj) (by first | assumption | omega | decide)) (vx_cwSW (hh := [(0, 9, 12, 22), (0, 9, 18, 14), (0, 9, 24, 16)]) 4 hts gL_law_L_branch rfl rfl rfl (by decide +kernel) ⟨Nat.le_of_ble_eq_true rfl, Nat.le_of_ble_eq_true rfl⟩) (fun _ => rfl) rfl hl.1 rfl (Nat.le_of_ble_eq_true rfl) dL_law_1379 ⟨(show cells + 1 + 2 + 1 + 2 + 2 ≤ 600104 by omega), (show slots + 6 * 1 + 6 * 2 + 6 * 1 + 6 * 2 + 12 ≤ 7301314 by omega)⟩ (fun u_79 H locs hu_80 hP hD hS => ?_)
            obtain ⟨kk_81, si2_82, kc2_83, FF2_84⟩ := u_79
            have hu_80 : (zL0 (FF2_84 3) (FF2_84 4) (FF2_84 5) (FF2_84 6)) ∧ (zJ n (nI jj) → (0 ≤ (10 : Int32) ∧ (10 : Int32) < 10) → zPw lo hi n ≤ 40000 → (10 : Int32) < nI (zAll kd ln lo hi vl n gx gy sl (3 : Int32)).1 → (0 ≤ (3 : Int32) ∧ (3 : Int32) ≤ 2) → (kk_81 = zPk lo hi n ((zAll kd ln lo hi vl n gx gy sl (3 : Int32)).2.2 (10 : Int32).toNatClampNeg) (nI jj).toNatClampNeg)) ∧ ((¬ zJ n (nI jj) ∨ ¬ (0 ≤ (10 : Int32) ∧ (10 : Int32) < 10) ∨ (zPw lo hi n ≤ 40000 ∧ ¬ (10 : Int32) < nI (zAll kd ln lo hi vl n gx gy sl (3 : Int32)).1)) → (kk_81 = (-7100))) ∧ (zJ n (nI jj) → (0 ≤ (10 : Int32) ∧ (10 : Int32) < 10) → (zPw lo hi n ≤ 40000 → (10 : Int32) < nI (zAll kd ln lo hi vl n gx gy sl (3 : Int32)).1) → ¬ (0 ≤ (3 : Int32) ∧ (3 : Int32) ≤ 2) → (kk_81 = (-7200))) ∧ (zJ n (nI jj) → (0 ≤ (10 : Int32) ∧ (10 : Int32) < 10) → (0 ≤ (3 : Int32) ∧ (3 : Int32) ≤ 2) → ¬ zPw lo hi n ≤ 40000 → (kk_81 = (-7300))) := hu_80
            obtain ⟨e_85, e_86, e_87, e_88, e_89⟩ := hu_80
            have r_90 : (kk_81 = (-7100)) := e_87 (Or.inr (Or.inl (by decide)))
            subst r_90
            have hP : va_P D vwCl ([(la, .inl (cI, 25, .inl fa)), (lg, .inl (cI, 4, .inl fg)), (lt, .inl (cI, 17, .inl ft))] ++ zWR cI cJ ad n kd ln lo hi vl gx gy sl si2_82 kc2_83 FF2_84) H := hP
            have hD : va_D A0 ([(la, .inl (cI, 25, .inl fa)), (lg, .inl (cI, 4, .inl fg)), (lt, .inl (cI, 17, .inl ft))] ++ zWR cI cJ ad n kd ln lo hi vl gx gy sl si2_82 kc2_83 FF2_84) := hD
            refine z_topi (y := -7100) rfl ?_
            replace hR := zRo_of hR e_85
            refine lv_sipush (v := (-7100)) hx hb dL_law_1382 (by decide) ?_
            refine lv_icmp_ne (tgt := 1392) hx hb dL_law_1385 (by decide) (fun c_1385 => ?_) (fun c_1385 => ?_)
            · exact absurd (by decide) c_1385
            · refine lv_iconst (v := 1) hx hb dL_law_1388 (by decide) ?_
              refine lv_goto (tgt := 1393) hx hb dL_law_1389 (by decide) ?_
              refine lv_istore (lv' := [(9, .int 1), (26, .int (nI rk)), (25, .int bq), (24, .int (nI (zMil lo hi n))), (8, .int (nI jj)), (7, .int uu), (6, .int vv), (5, .int (nI tau)), (4, .ref lt), (3, .ref lg), (2, .ref la), (1, .ref (ad 0)), (0, .ref b)]) hx hb dL_law_1393 hl (by decide) rfl (fun ls hl => ?_)
              refine lv_goto (tgt := 1740) hx hb dL_law_1395 (by decide) ?_
              exact kk9 _ _ _ _ _ (by omega) (by omega) ⟨n, kd, ln, lo, hi, vl, gx, gy, sl, si2_82, kc2_83, FF2_84, fa, fg, ft, hn1, hR, hA, hGs, hT, hkd, hP, hD, hS⟩ (lv_sub hl [0, 5, 7, 8, 9, 10, 11, 12] rfl)

