/-! the law's cases: branches, a pose at that rank -/
set_option maxHeartbeats 4000000 in
set_option maxRecDepth 100000 in
theorem law_br_pos {p : Program} {l : Launch} {e : Env} {s : State} {m : MethodId} {args : Array Value} {below : List Frame} {meth : Method} {c : Code} {D : va_G} {cI cJ : ClassId} {A0 : Nat → Prop} {Q : State → Prop} {b la lg lt tau : Nat} {ad : Nat → Nat} {n : Nat} {kd : Nat → Int32} {ln : Nat → Int32} {lo : Nat → Int32} {hi : Nat → Int32} {vl : Nat → Int32} {gx : Int32} {gy : Int32} {sl : Int32} {si : Nat → Int32} {kc : Nat → Int64} {FF : Nat → Nat → Int32} {fa fg ft : Nat → Int32} {uu bq : Int32} {rk tk : Nat} (hfl : l.stackTraces = false) (C : zC p m c meth cL_law 34 s args wsL_law RL D cI cJ A0 []) (hNw : ∀ q : Nat, s.heap.size ≤ q → A0 q) (hR : zRo n kd ln lo hi vl gx gy sl FF) (hA : zAr n fa kd ln lo hi vl) (hGs : zGs fg n gx gy sl) (hT : zTt ft) (hkd : zKd n kd) (hn1 : 1 ≤ n) (hn0 : ¬ n = 0) (hb3 : zB3 bq) (hrk10 : rk < 10) (hfew : zPw lo hi n ≤ 40000) (htk : tk = (zAll kd ln lo hi vl n gx gy sl bq).2.2 rk) (hrf : rk < (zAll kd ln lo hi vl n gx gy sl bq).1) {H : Heap} {locs : List Loc} {cells slots : Nat} {ls : Array Slot} (hc : cells + 20 ≤ 600104) (hs : slots + 130 ≤ 7301314) (hP : va_P D vwCl ([(la, .inl (cI, 25, .inl fa)), (lg, .inl (cI, 4, .inl fg)), (lt, .inl (cI, 17, .inl ft))] ++ zWR cI cJ ad n kd ln lo hi vl gx gy sl si kc FF) H) (hD : va_D A0 ([(la, .inl (cI, 25, .inl fa)), (lg, .inl (cI, 4, .inl fg)), (lt, .inl (cI, 17, .inl ft))] ++ zWR cI cJ ad n kd ln lo hi vl gx gy sl si kc FF)) (hS : va_S A0 s.heap H locs) (hl : lv_has ls 34 [(27, .int (nI (zAll kd ln lo hi vl n gx gy sl bq).1)), (26, .int (nI rk)), (25, .int bq), (9, .int 1), (7, .int uu), (5, .int (nI tau)), (4, .ref lt), (3, .ref lg), (2, .ref la), (1, .ref (ad 0)), (0, .ref b)]) (kk9 : ∀ (H1 : Heap) (locs1 : List Loc) (ls1 : Array Slot) (c1 s1 : Nat), c1 ≤ cells + 20 → s1 ≤ slots + 130 → zLv D cI cJ A0 s.heap H1 locs1 ad la lg lt 1 → lv_has ls1 34 [(9, .int 1), (7, .int uu), (5, .int (nI tau)), (4, .ref lt), (3, .ref lg), (2, .ref la), (1, .ref (ad 0)), (0, .ref b)] → W p l e room_1 s m args below meth c H1 locs1 c1 s1 Q (F0 m 1740 ls1 [])) : W p l e room_1 s m args below meth c H locs cells slots Q (F0 m 1465 ls [.int (nI tk)]) := by
  obtain ⟨⟨hx, hb, hml, hown, hts⟩, hG, hK, hD0, hlocks⟩ := C
  have hok := hR.1
  have hn := hok.1
  have hgx := hR.2.1
  have hgy := hR.2.2.1
  have hsl := hR.2.2.2.1
  have hby := zB3_b hb3
  have hr10 : 0 ≤ nI rk ∧ nI rk < 10 := ⟨nI_pos' (by omega), (nI_ltI (b := 10) (by omega) (by omega)).mpr hrk10⟩
  have hcr9 : (nI rk).toNatClampNeg = rk := nI_clamp (by omega)
  have hcb9 : (zAll kd ln lo hi vl n gx gy sl bq).1 ≤ zPw lo hi n := zAll_le
  have htl : tk < zPw lo hi n := by rw [htk]; exact zAll_tag rk hrf hrk10
  have hfd9 : nI rk < nI (zAll kd ln lo hi vl n gx gy sl bq).1 := (nI_ltI (by omega) (by omega)).mpr hrf
  refine lv_istore (lv' := [(28, .int (nI tk)), (27, .int (nI (zAll kd ln lo hi vl n gx gy sl bq).1)), (26, .int (nI rk)), (25, .int bq), (9, .int 1), (7, .int uu), (5, .int (nI tau)), (4, .ref lt), (3, .ref lg), (2, .ref la), (1, .ref (ad 0)), (0, .ref b)]) hx hb dL_law_1465 hl (by decide) rfl (fun ls hl => ?_)
  refine lv_bipush (v := 25) hx hb dL_law_1467 (by decide) ?_
  refine z_newi hx hb (hts (.arrayClass .int) (by decide +kernel)) hK hP hD hS hNw 25 (by decide) (by decide) (by decide) (show cells + 1 ≤ 600104 by omega) (show slots + 25 ≤ 7301314 by omega) dL_law_1469 (fun lb H hP hD hS => ?_)
  replace hP := za_Pc hP
  replace hD := za_Dc hD
  have hP : va_P D vwCl ([(lb, .inl (cI, 25, .inl (fun _ => 0))), (la, .inl (cI, 25, .inl fa)), (lg, .inl (cI, 4, .inl fg)), (lt, .inl (cI, 17, .inl ft))] ++ zWR cI cJ ad n kd ln lo hi vl gx gy sl si kc FF) H := hP
  have hD : va_D A0 ([(lb, .inl (cI, 25, .inl (fun _ => 0))), (la, .inl (cI, 25, .inl fa)), (lg, .inl (cI, 4, .inl fg)), (lt, .inl (cI, 17, .inl ft))] ++ zWR cI cJ ad n kd ln lo hi vl gx gy sl si kc FF) := hD
  refine lv_astore (lv' := [(29, .ref lb), (28, .int (nI tk)), (27, .int (nI (zAll kd ln lo hi vl n gx gy sl bq).1)), (26, .int (nI rk)), (25, .int bq), (9, .int 1), (7, .int uu), (5, .int (nI tau)), (4, .ref lt), (3, .ref lg), (2, .ref la), (1, .ref (ad 0)), (0, .ref b)]) hx hb dL_law_1471 hl (by decide) rfl (fun ls hl => ?_)
  refine lv_iconst (v := 0) hx hb dL_law_1473 (by decide) ?_
  refine lv_istore (lv' := [(30, .int 0), (29, .ref lb), (28, .int (nI tk)), (27, .int (nI (zAll kd ln lo hi vl n gx gy sl bq).1)), (26, .int (nI rk)), (25, .int bq), (9, .int 1), (7, .int uu), (5, .int (nI tau)), (4, .ref lt), (3, .ref lg), (2, .ref la), (1, .ref (ad 0)), (0, .ref b)]) hx hb dL_law_1474 hl (by decide) rfl (fun ls hl => ?_)
  have lp_1476_1 : ∀ (fu : Nat) (i : Nat) (fx2 : Nat → Int32), (i ≤ 25) → (∀ k, k < i → fx2 k = fa k) → (25 - i < fu) → ∀ (H : Heap) (locs : List Loc), va_P D vwCl ([(lb, .inl (cI, 25, .inl fx2)), (la, .inl (cI, 25, .inl fa)), (lg, .inl (cI, 4, .inl fg)), (lt, .inl (cI, 17, .inl ft))] ++ zWR cI cJ ad n kd ln lo hi vl gx gy sl si kc FF) H → va_D A0 ([(lb, .inl (cI, 25, .inl fx2)), (la, .inl (cI, 25, .inl fa)), (lg, .inl (cI, 4, .inl fg)), (lt, .inl (cI, 17, .inl ft))] ++ zWR cI cJ ad n kd ln lo hi vl gx gy sl si kc FF) → va_S A0 s.heap H locs → ∀ (ls : Array Slot), lv_has ls 34 [(0, .ref b), (1, .ref (ad 0)), (2, .ref la), (3, .ref lg), (4, .ref lt), (5, .int (nI tau)), (7, .int uu), (9, .int 1), (25, .int bq), (26, .int (nI rk)), (27, .int (nI (zAll kd ln lo hi vl n gx gy sl bq).1)), (28, .int (nI tk)), (29, .ref lb), (30, .int (nI i))] → W p l e (room_1) s m args below meth c H locs (cells + 1) (slots + 25) Q (F0 m 1476 ls []) := by
    intro fu
    induction fu with
    | zero => intro i fx2 hi1 hfx2 hfu; exact absurd hfu (Nat.not_lt_zero _)
    | succ fu ih_1476_1 =>
      intro i fx2 hi1 hfx2 hfu H locs hP hD hS ls hl
      refine lv_iload hx hb dL_law_1476 (lv_at hl 13 rfl) ?_
      refine lv_bipush (v := nI 25) hx hb dL_law_1478 (rfl) ?_
      refine lv_icmp_ge (tgt := 1498) hx hb dL_law_1480 (by decide) (fun c_1480 => ?_) (fun c_1480 => ?_)
      · rw [nI_leI (by omega) (by omega)] at c_1480
        have hB0 : zAr n fx2 kd ln lo hi vl := zAr_copy hA hn (fun k hk => hfx2 k (by omega))
        refine lv_iload hx hb dL_law_1498 (lv_at hl 11 rfl) ?_
        refine lv_iconst (v := (-1)) hx hb dL_law_1500 (by decide) ?_
        refine lv_icmp_eq (tgt := 1512) hx hb dL_law_1501 (by decide) (fun c_1501 => ?_) (fun c_1501 => ?_)
        · exact absurd c_1501 (zm1_ne (by omega))
        · refine lv_iload hx hb dL_law_1504 (lv_at hl 11 rfl) ?_
          refine lv_aload hx hb dL_law_1506 (lv_at hl 12 rfl) ?_
          refine lv_aload_n hx hb dL_law_1508 rfl (lv_at hl 3 rfl) ?_
          refine z_callF (w1 := zWR cI cJ ad n kd ln lo hi vl gx gy sl si kc FF) (As := [.int (nI tk), .ref lb, .ref lg]) (rest := []) ⟨hx, hb, hml, hown, hts⟩ hG hK hP hD hS (c4_lays l hfl D cI cJ tk lb fx2 lg fg n kd ln lo hi vl vl gx gy sl la fa lt ft (hB0) (by first | assumption | omega | decide) (by first | assumption | omega | decide) (by omega)) (va_cwS 3 hts gL_law_L_lays rfl rfl rfl (by decide +kernel) ⟨Nat.le_of_ble_eq_true rfl, Nat.le_of_ble_eq_true rfl⟩) (fun _ => rfl) rfl hl.1 rfl (Nat.le_of_ble_eq_true rfl) dL_law_1509 ⟨(show cells + 1 + 0 ≤ 600104 by omega), (show slots + 25 + 0 ≤ 7301314 by omega)⟩ (fun u_2 H locs hu_3 hP hD hS => ?_)
          obtain ⟨fz, rfl⟩ : ∃ z, z = u_2 := ⟨_, rfl⟩
          have hu_3 : (zAr n fz kd ln lo hi (zPk lo hi n tk)) := hu_3
          have hz9 := hu_3
          have hP : va_P D vwCl ([(lb, .inl (cI, 25, .inl fz)), (la, .inl (cI, 25, .inl fa)), (lg, .inl (cI, 4, .inl fg)), (lt, .inl (cI, 17, .inl ft))] ++ zWR cI cJ ad n kd ln lo hi vl gx gy sl si kc FF) H := hP
          have hD : va_D A0 ([(lb, .inl (cI, 25, .inl fz)), (la, .inl (cI, 25, .inl fa)), (lg, .inl (cI, 4, .inl fg)), (lt, .inl (cI, 17, .inl ft))] ++ zWR cI cJ ad n kd ln lo hi vl gx gy sl si kc FF) := hD
          refine lv_iconst (v := 0) hx hb dL_law_1512 (by decide) ?_
          refine lv_istore (lv' := [(30, .int 0), (0, .ref b), (1, .ref (ad 0)), (2, .ref la), (3, .ref lg), (4, .ref lt), (5, .int (nI tau)), (7, .int uu), (9, .int 1), (25, .int bq), (26, .int (nI rk)), (27, .int (nI (zAll kd ln lo hi vl n gx gy sl bq).1)), (28, .int (nI tk)), (29, .ref lb)]) hx hb dL_law_1513 hl (by decide) rfl (fun ls hl => ?_)
          have lp_1515_4 : ∀ (fu : Nat) (i : Nat) (si3 : Nat → Int32) (kc3 : Nat → Int64) (FF3 : Nat → Nat → Int32) (c9 : Nat) (s9 : Nat), (i ≤ n) → (zRo n kd ln lo hi vl gx gy sl FF3) → (c9 ≤ cells + 1 + 2 * i) → (s9 ≤ slots + 25 + 12 * i) → (n - i < fu) → ∀ (H : Heap) (locs : List Loc), va_P D vwCl ([(lb, .inl (cI, 25, .inl fz)), (la, .inl (cI, 25, .inl fa)), (lg, .inl (cI, 4, .inl fg)), (lt, .inl (cI, 17, .inl ft))] ++ zWR cI cJ ad n kd ln lo hi vl gx gy sl si3 kc3 FF3) H → va_D A0 ([(lb, .inl (cI, 25, .inl fz)), (la, .inl (cI, 25, .inl fa)), (lg, .inl (cI, 4, .inl fg)), (lt, .inl (cI, 17, .inl ft))] ++ zWR cI cJ ad n kd ln lo hi vl gx gy sl si3 kc3 FF3) → va_S A0 s.heap H locs → ∀ (ls : Array Slot), lv_has ls 34 [(0, .ref b), (1, .ref (ad 0)), (2, .ref la), (3, .ref lg), (4, .ref lt), (5, .int (nI tau)), (7, .int uu), (9, .int 1), (25, .int bq), (26, .int (nI rk)), (27, .int (nI (zAll kd ln lo hi vl n gx gy sl bq).1)), (28, .int (nI tk)), (29, .ref lb), (30, .int (nI i))] → W p l e (room_1) s m args below meth c H locs c9 s9 Q (F0 m 1515 ls []) := by
            intro fu
            induction fu with
            | zero => intro i si3 kc3 FF3 c9 s9 hi1 hR hc9 hs9 hfu; exact absurd hfu (Nat.not_lt_zero _)
            | succ fu ih_1515_4 =>
              intro i si3 kc3 FF3 c9 s9 hi1 hR hc9 hs9 hfu H locs hP hD hS ls hl
              refine lv_iload hx hb dL_law_1515 (lv_at hl 13 rfl) ?_
              refine lv_aload_n hx hb dL_law_1517 rfl (lv_at hl 3 rfl) ?_
              refine lv_iconst (v := nI 0) hx hb dL_law_1518 (rfl) ?_
              refine z_iald hx hb hK hP 2 rfl (j := 0) (by omega) (by decide) dL_law_1519 ?_
              refine z_topi (y := nI n) (hGs.1) ?_
              refine lv_icmp_ge (tgt := 1573) hx hb dL_law_1520 (by decide) (fun c_1520 => ?_) (fun c_1520 => ?_)
              · rw [nI_leI (by omega) (by omega)] at c_1520
                obtain rfl : n = i := by omega
                refine lv_iload hx hb dL_law_1573 (lv_at hl 7 rfl) ?_
                refine lv_aload_n hx hb dL_law_1575 rfl (lv_at hl 1 rfl) ?_
                refine lv_iload hx hb dL_law_1576 (lv_at hl 9 rfl) ?_
                refine lv_iload hx hb dL_law_1578 (lv_at hl 8 rfl) ?_
                refine lv_aload_n hx hb dL_law_1580 rfl (lv_at hl 3 rfl) ?_
                refine lv_iconst (v := nI 0) hx hb dL_law_1581 (rfl) ?_
                refine z_iald hx hb hK hP 2 rfl (j := 0) (by omega) (by decide) dL_law_1582 ?_
                refine z_topi (y := nI n) (hGs.1) ?_
                refine z_callAX (w1 := [(lb, .inl (cI, 25, .inl fz)), (la, .inl (cI, 25, .inl fa)), (lg, .inl (cI, 4, .inl fg)), (lt, .inl (cI, 17, .inl ft))]) (As := [.ref (ad 0), .int (nI rk), .int bq, .int (nI n)]) (rest := [.int 1]) ⟨hx, hb, hml, hown, hts⟩ hG hK hP hD hS (cR_branch l hfl D cI cJ ad n kd ln lo hi vl gx gy sl si3 kc3 FF3 (nI rk) bq (nI n) (by first | assumption | omega | decide)) (vx_cwSW (hh := [(0, 9, 12, 22), (0, 9, 18, 14), (0, 9, 24, 16)]) 4 hts gL_law_L_branch rfl rfl rfl (by decide +kernel) ⟨Nat.le_of_ble_eq_true rfl, Nat.le_of_ble_eq_true rfl⟩) (fun _ => rfl) rfl hl.1 rfl (Nat.le_of_ble_eq_true rfl) dL_law_1583 ⟨(show c9 + 2 ≤ 600104 by omega), (show s9 + 12 ≤ 7301314 by omega)⟩ (fun u_5 H locs hu_6 hP hD hS => ?_)
                obtain ⟨kk_7, si2_8, kc2_9, FF2_10⟩ := u_5
                have hu_6 : (zL0 (FF2_10 3) (FF2_10 4) (FF2_10 5) (FF2_10 6)) ∧ (zJ n (nI n) → (0 ≤ (nI rk) ∧ (nI rk) < 10) → zPw lo hi n ≤ 40000 → (nI rk) < nI (zAll kd ln lo hi vl n gx gy sl bq).1 → (0 ≤ bq ∧ bq ≤ 2) → (kk_7 = zPk lo hi n ((zAll kd ln lo hi vl n gx gy sl bq).2.2 (nI rk).toNatClampNeg) (nI n).toNatClampNeg)) ∧ ((¬ zJ n (nI n) ∨ ¬ (0 ≤ (nI rk) ∧ (nI rk) < 10) ∨ (zPw lo hi n ≤ 40000 ∧ ¬ (nI rk) < nI (zAll kd ln lo hi vl n gx gy sl bq).1)) → (kk_7 = (-7100))) ∧ (zJ n (nI n) → (0 ≤ (nI rk) ∧ (nI rk) < 10) → (zPw lo hi n ≤ 40000 → (nI rk) < nI (zAll kd ln lo hi vl n gx gy sl bq).1) → ¬ (0 ≤ bq ∧ bq ≤ 2) → (kk_7 = (-7200))) ∧ (zJ n (nI n) → (0 ≤ (nI rk) ∧ (nI rk) < 10) → (0 ≤ bq ∧ bq ≤ 2) → ¬ zPw lo hi n ≤ 40000 → (kk_7 = (-7300))) := hu_6
                obtain ⟨e_11, e_12, e_13, e_14, e_15⟩ := hu_6
                have r_16 : (kk_7 = (-7100)) := e_13 (Or.inl (zJ_no hn))
                subst r_16
                have hP : va_P D vwCl ([(lb, .inl (cI, 25, .inl fz)), (la, .inl (cI, 25, .inl fa)), (lg, .inl (cI, 4, .inl fg)), (lt, .inl (cI, 17, .inl ft))] ++ zWR cI cJ ad n kd ln lo hi vl gx gy sl si2_8 kc2_9 FF2_10) H := hP
                have hD : va_D A0 ([(lb, .inl (cI, 25, .inl fz)), (la, .inl (cI, 25, .inl fa)), (lg, .inl (cI, 4, .inl fg)), (lt, .inl (cI, 17, .inl ft))] ++ zWR cI cJ ad n kd ln lo hi vl gx gy sl si2_8 kc2_9 FF2_10) := hD
                refine z_topi (y := -7100) rfl ?_
                replace hR := zRo_of hR e_11
                refine lv_sipush (v := (-7100)) hx hb dL_law_1586 (by decide) ?_
                refine lv_icmp_ne (tgt := 1622) hx hb dL_law_1589 (by decide) (fun c_1589 => ?_) (fun c_1589 => ?_)
                · exact absurd (by decide) c_1589
                · refine lv_iload hx hb dL_law_1592 (lv_at hl 11 rfl) ?_
                  refine lv_iconst (v := (-1)) hx hb dL_law_1594 (by decide) ?_
                  refine lv_icmp_ne (tgt := 1602) hx hb dL_law_1595 (by decide) (fun c_1595 => ?_) (fun c_1595 => ?_)
                  · refine lv_iconst (v := 0) hx hb dL_law_1602 (by decide) ?_
                    refine lv_iload hx hb dL_law_1603 (lv_at hl 9 rfl) ?_
                    refine lv_iload hx hb dL_law_1605 (lv_at hl 10 rfl) ?_
                    refine lv_icmp_lt (tgt := 1614) hx hb dL_law_1607 (by decide) (fun c_1607 => ?_) (fun c_1607 => ?_)
                    · refine lv_iconst (v := 0) hx hb dL_law_1614 (by decide) ?_
                      refine lv_icmp_ne (tgt := 1622) hx hb dL_law_1615 (by decide) (fun c_1615 => ?_) (fun c_1615 => ?_)
                      · exact absurd (by decide) c_1615
                      · refine lv_iconst (v := 1) hx hb dL_law_1618 (by decide) ?_
                        refine lv_goto (tgt := 1623) hx hb dL_law_1619 (by decide) ?_
                        refine lv_iand hx hb dL_law_1623 ?_
                        refine z_topi (y := 1) (by decide) ?_
                        refine lv_istore (lv' := [(9, .int 1), (0, .ref b), (1, .ref (ad 0)), (2, .ref la), (3, .ref lg), (4, .ref lt), (5, .int (nI tau)), (7, .int uu), (25, .int bq), (26, .int (nI rk)), (27, .int (nI (zAll kd ln lo hi vl n gx gy sl bq).1)), (28, .int (nI tk)), (29, .ref lb), (30, .int (nI n))]) hx hb dL_law_1624 hl (by decide) rfl (fun ls hl => ?_)
                        refine lv_iload hx hb dL_law_1626 (lv_at hl 7 rfl) ?_
                        refine lv_iconst (v := 1) hx hb dL_law_1628 (by decide) ?_
                        refine lv_iand hx hb dL_law_1629 ?_
                        refine lv_if_ne (tgt := 1636) hx hb dL_law_1630 (by decide) (fun c_1630 => ?_) (fun c_1630 => ?_)
                        · refine lv_iload hx hb dL_law_1636 (lv_at hl 11 rfl) ?_
                          refine lv_iconst (v := (-1)) hx hb dL_law_1638 (by decide) ?_
                          refine lv_icmp_ne (tgt := 1684) hx hb dL_law_1639 (by decide) (fun c_1639 => ?_) (fun c_1639 => ?_)
                          · refine lv_iconst (v := 0) hx hb dL_law_1684 (by decide) ?_
                            refine lv_istore (lv' := [(30, .int 0), (9, .int 1), (0, .ref b), (1, .ref (ad 0)), (2, .ref la), (3, .ref lg), (4, .ref lt), (5, .int (nI tau)), (7, .int uu), (25, .int bq), (26, .int (nI rk)), (27, .int (nI (zAll kd ln lo hi vl n gx gy sl bq).1)), (28, .int (nI tk)), (29, .ref lb)]) hx hb dL_law_1685 hl (by decide) rfl (fun ls hl => ?_)
                            have lp_1687_17 : ∀ (fu : Nat) (i : Nat) (fy : Nat → Int32), (i ≤ 25) → (∀ k, k < i → fy k = fz k) → (25 - i < fu) → ∀ (H : Heap) (locs : List Loc), va_P D vwCl ([(lb, .inl (cI, 25, .inl fz)), (la, .inl (cI, 25, .inl fy)), (lg, .inl (cI, 4, .inl fg)), (lt, .inl (cI, 17, .inl ft))] ++ zWR cI cJ ad n kd ln lo hi vl gx gy sl si2_8 kc2_9 FF2_10) H → va_D A0 ([(lb, .inl (cI, 25, .inl fz)), (la, .inl (cI, 25, .inl fy)), (lg, .inl (cI, 4, .inl fg)), (lt, .inl (cI, 17, .inl ft))] ++ zWR cI cJ ad n kd ln lo hi vl gx gy sl si2_8 kc2_9 FF2_10) → va_S A0 s.heap H locs → ∀ (ls : Array Slot), lv_has ls 34 [(0, .ref b), (1, .ref (ad 0)), (2, .ref la), (3, .ref lg), (4, .ref lt), (5, .int (nI tau)), (7, .int uu), (9, .int 1), (25, .int bq), (26, .int (nI rk)), (27, .int (nI (zAll kd ln lo hi vl n gx gy sl bq).1)), (28, .int (nI tk)), (29, .ref lb), (30, .int (nI i))] → W p l e (room_1) s m args below meth c H locs (c9 + 2) (s9 + 6 * 2) Q (F0 m 1687 ls []) := by
                              intro fu
                              induction fu with
                              | zero => intro i fy hi1 hfy hfu; exact absurd hfu (Nat.not_lt_zero _)
                              | succ fu ih_1687_17 =>
                                intro i fy hi1 hfy hfu H locs hP hD hS ls hl
                                refine lv_iload hx hb dL_law_1687 (lv_at hl 13 rfl) ?_
                                refine lv_bipush (v := nI 25) hx hb dL_law_1689 (rfl) ?_
                                refine lv_icmp_ge (tgt := 1709) hx hb dL_law_1691 (by decide) (fun c_1691 => ?_) (fun c_1691 => ?_)
                                · rw [nI_leI (by omega) (by omega)] at c_1691
                                  have hA9 : zAr n fy kd ln lo hi (zTk vl n (zPk lo hi n tk)) := zAr_congr (zAr_copy hz9 hn (fun k hk => hfy k (by omega))) (fun j hj => zTk_j vl _ hj)
                                  have hokt := hok.tk tk
                                  refine lv_iload hx hb dL_law_1709 (lv_at hl 7 rfl) ?_
                                  refine lv_aload_n hx hb dL_law_1711 rfl (lv_at hl 1 rfl) ?_
                                  refine lv_iload hx hb dL_law_1712 (lv_at hl 9 rfl) ?_
                                  refine lv_iload hx hb dL_law_1714 (lv_at hl 8 rfl) ?_
                                  refine z_callAX (w1 := [(lb, .inl (cI, 25, .inl fz)), (la, .inl (cI, 25, .inl fy)), (lg, .inl (cI, 4, .inl fg)), (lt, .inl (cI, 17, .inl ft))]) (As := [.ref (ad 0), .int (nI rk), .int bq]) (rest := [.int 1]) ⟨hx, hb, hml, hown, hts⟩ hG hK hP hD hS (cR_take l hfl D cI cJ ad n kd ln lo hi vl gx gy sl si2_8 kc2_9 FF2_10 (nI rk) bq (by first | assumption | omega | decide)) (vx_cwSW (hh := [(0, 7, 10, 22), (0, 7, 16, 14), (0, 7, 22, 16)]) 3 hts gL_law_L_take rfl rfl rfl (by decide +kernel) ⟨Nat.le_of_ble_eq_true rfl, Nat.le_of_ble_eq_true rfl⟩) (fun _ => rfl) rfl hl.1 rfl (Nat.le_of_ble_eq_true rfl) dL_law_1716 ⟨(show c9 + 2 + 1 ≤ 600104 by omega), (show s9 + 6 * 2 + 6 ≤ 7301314 by omega)⟩ (fun u_18 H locs hu_19 hP hD hS => ?_)
                                  obtain ⟨kk_20, vl2_21, si2_22, kc2_23, FF2_24⟩ := u_18
                                  have hu_19 : (zL0 (FF2_24 3) (FF2_24 4) (FF2_24 5) (FF2_24 6)) ∧ ((0 ≤ (nI rk) ∧ (nI rk) < 10) → zPw lo hi n ≤ 40000 → (nI rk) < nI (zAll kd ln lo hi vl n gx gy sl bq).1 → (0 ≤ bq ∧ bq ≤ 2) → (kk_20 = zFn kd ln (zTk vl n (zPk lo hi n ((zAll kd ln lo hi vl n gx gy sl bq).2.2 (nI rk).toNatClampNeg))) n gx gy) ∧ (vl2_21 = zTk vl n (zPk lo hi n ((zAll kd ln lo hi vl n gx gy sl bq).2.2 (nI rk).toNatClampNeg)))) ∧ ((¬ (0 ≤ (nI rk) ∧ (nI rk) < 10) ∨ (zPw lo hi n ≤ 40000 ∧ ¬ (nI rk) < nI (zAll kd ln lo hi vl n gx gy sl bq).1)) → (kk_20 = (-7100)) ∧ (vl2_21 = vl)) ∧ ((0 ≤ (nI rk) ∧ (nI rk) < 10) → (zPw lo hi n ≤ 40000 → (nI rk) < nI (zAll kd ln lo hi vl n gx gy sl bq).1) → ¬ (0 ≤ bq ∧ bq ≤ 2) → (kk_20 = (-7200)) ∧ (vl2_21 = vl)) ∧ ((0 ≤ (nI rk) ∧ (nI rk) < 10) → (0 ≤ bq ∧ bq ≤ 2) → ¬ zPw lo hi n ≤ 40000 → (kk_20 = (-7300)) ∧ (vl2_21 = vl)) := hu_19
                                  obtain ⟨e_25, e_26, e_27, e_28, e_29⟩ := hu_19
                                  obtain ⟨r_30, r_31⟩ : (kk_20 = zFn kd ln (zTk vl n (zPk lo hi n ((zAll kd ln lo hi vl n gx gy sl bq).2.2 (nI rk).toNatClampNeg))) n gx gy) ∧ (vl2_21 = zTk vl n (zPk lo hi n ((zAll kd ln lo hi vl n gx gy sl bq).2.2 (nI rk).toNatClampNeg))) := e_26 hr10 hfew hfd9 hby
                                  replace r_30 : kk_20 = zFn kd ln (zTk vl n (zPk lo hi n tk)) n gx gy := r_30.trans (by rw [hcr9, htk])
                                  replace r_31 : vl2_21 = zTk vl n (zPk lo hi n tk) := r_31.trans (by rw [hcr9, htk])
                                  subst r_30
                                  subst r_31
                                  have hP : va_P D vwCl ([(lb, .inl (cI, 25, .inl fz)), (la, .inl (cI, 25, .inl fy)), (lg, .inl (cI, 4, .inl fg)), (lt, .inl (cI, 17, .inl ft))] ++ zWR cI cJ ad n kd ln lo hi (zTk vl n (zPk lo hi n tk)) gx gy sl si2_22 kc2_23 FF2_24) H := hP
                                  have hD : va_D A0 ([(lb, .inl (cI, 25, .inl fz)), (la, .inl (cI, 25, .inl fy)), (lg, .inl (cI, 4, .inl fg)), (lt, .inl (cI, 17, .inl ft))] ++ zWR cI cJ ad n kd ln lo hi (zTk vl n (zPk lo hi n tk)) gx gy sl si2_22 kc2_23 FF2_24) := hD
                                  refine z_topl (y := zFn kd ln (zTk vl n (zPk lo hi n tk)) n gx gy) rfl ?_
                                  replace hR := zRo_v hR e_25 (hok.tk tk)
                                  refine lv_iconst (v := (-1)) hx hb dL_law_1719 (by decide) ?_
                                  refine lv_iconst (v := 0) hx hb dL_law_1720 (by decide) ?_
                                  refine lv_aload_n hx hb dL_law_1721 rfl (lv_at hl 2 rfl) ?_
                                  refine lv_aload_n hx hb dL_law_1722 rfl (lv_at hl 3 rfl) ?_
                                  refine lv_aload hx hb dL_law_1723 (lv_at hl 4 rfl) ?_
                                  refine z_callF (w1 := zWR cI cJ ad n kd ln lo hi (zTk vl n (zPk lo hi n tk)) gx gy sl si2_22 kc2_23 FF2_24) (As := [.int (-1), .int 0, .ref la, .ref lg, .ref lt]) (rest := [.long (zFn kd ln (zTk vl n (zPk lo hi n tk)) n gx gy), .int 1]) ⟨hx, hb, hml, hown, hts⟩ hG hK hP hD hS (c4_far l hfl D cI cJ (-1) 0 la fy lg fg lt ft n kd ln lo hi (zTk vl n (zPk lo hi n tk)) gx gy sl lb fz (hA9) (by first | assumption | omega | decide) (by first | assumption | omega | decide) (by first | assumption | omega | decide) (by first | assumption | omega | decide) (hokt.l) (zPm_pok hokt) (by first | assumption | omega | decide) (by first | assumption | omega | decide)) (va_cwS 5 hts gL_law_L_far rfl rfl rfl (by decide +kernel) ⟨Nat.le_of_ble_eq_true rfl, Nat.le_of_ble_eq_true rfl⟩) (fun _ => rfl) rfl hl.1 rfl (Nat.le_of_ble_eq_true rfl) dL_law_1725 ⟨(show c9 + 2 + 1 + 0 ≤ 600104 by omega), (show s9 + 6 * 2 + 6 * 1 + 0 ≤ 7301314 by omega)⟩ (fun u_32 H locs hu_33 hP hD hS => ?_)
                                  obtain ⟨r_34, rfl⟩ : ∃ z, z = u_32 := ⟨_, rfl⟩
                                  have hu_33 : (r_34 = zFar gx gy (zX kd ln (zPm (zTk vl n (zPk lo hi n tk)) (-1 : Int32) (0 : Int32)) n) (zY kd ln (zPm (zTk vl n (zPk lo hi n tk)) (-1 : Int32) (0 : Int32)) n)) := hu_33
                                  have e_35 := hu_33
                                  subst e_35
                                  have hP : va_P D vwCl ([(lb, .inl (cI, 25, .inl fz)), (la, .inl (cI, 25, .inl fy)), (lg, .inl (cI, 4, .inl fg)), (lt, .inl (cI, 17, .inl ft))] ++ zWR cI cJ ad n kd ln lo hi (zTk vl n (zPk lo hi n tk)) gx gy sl si2_22 kc2_23 FF2_24) H := hP
                                  have hD : va_D A0 ([(lb, .inl (cI, 25, .inl fz)), (la, .inl (cI, 25, .inl fy)), (lg, .inl (cI, 4, .inl fg)), (lt, .inl (cI, 17, .inl ft))] ++ zWR cI cJ ad n kd ln lo hi (zTk vl n (zPk lo hi n tk)) gx gy sl si2_22 kc2_23 FF2_24) := hD
                                  refine z_topl (y := zFn kd ln (zTk vl n (zPk lo hi n tk)) n gx gy) (zFm_m1 hn) ?_
                                  refine W.lcmp hx hb dL_law_1728 ?_
                                  refine lv_if_ne (tgt := 1736) hx hb dL_law_1729 (by decide) (fun c_1729 => ?_) (fun c_1729 => ?_)
                                  · rw [lg_cmp_eq] at c_1729
                                    exact absurd rfl c_1729
                                  · rw [lg_cmp_eq] at c_1729
                                    refine lv_iconst (v := 1) hx hb dL_law_1732 (by decide) ?_
                                    refine lv_goto (tgt := 1737) hx hb dL_law_1733 (by decide) ?_
                                    refine lv_iand hx hb dL_law_1737 ?_
                                    refine z_topi (y := 1) (by decide) ?_
                                    refine lv_istore (lv' := [(9, .int 1), (0, .ref b), (1, .ref (ad 0)), (2, .ref la), (3, .ref lg), (4, .ref lt), (5, .int (nI tau)), (7, .int uu), (25, .int bq), (26, .int (nI rk)), (27, .int (nI (zAll kd ln lo hi vl n gx gy sl bq).1)), (28, .int (nI tk)), (29, .ref lb), (30, .int (nI i))]) hx hb dL_law_1738 hl (by decide) rfl (fun ls hl => ?_)
                                    exact kk9 _ _ _ _ _ (by omega) (by omega) ⟨n, kd, ln, lo, hi, zTk vl n (zPk lo hi n tk), gx, gy, sl, si2_22, kc2_23, FF2_24, fy, fg, ft, hn1, hR, hA9, hGs, hT, hkd, (za_Pr (w1 := [(lb, .inl (cI, 25, .inl fz))]) hP), (za_Dr (w1 := [(lb, .inl (cI, 25, .inl fz))]) hD), hS⟩ (lv_sub hl [0, 7, 6, 5, 4, 3, 2, 1] rfl)
                                · rw [nI_leI (by omega) (by omega)] at c_1691
                                  refine lv_aload_n hx hb dL_law_1694 rfl (lv_at hl 2 rfl) ?_
                                  refine lv_iload hx hb dL_law_1695 (lv_at hl 13 rfl) ?_
                                  refine lv_aload hx hb dL_law_1697 (lv_at hl 12 rfl) ?_
                                  refine lv_iload hx hb dL_law_1699 (lv_at hl 13 rfl) ?_
                                  refine z_iald hx hb hK hP 0 rfl (j := i) (by omega) (by decide) dL_law_1701 ?_
                                  refine z_iast hx hb hK hP hD hS 1 rfl (j := i) (by omega) (by decide) dL_law_1702 (fun H locs hP hD hS => ?_)
                                  have hP : va_P D vwCl ([(lb, .inl (cI, 25, .inl fz)), (la, .inl (cI, 25, .inl (upd fy i (fz i)))), (lg, .inl (cI, 4, .inl fg)), (lt, .inl (cI, 17, .inl ft))] ++ zWR cI cJ ad n kd ln lo hi vl gx gy sl si2_8 kc2_9 FF2_10) H := hP
                                  have hD : va_D A0 ([(lb, .inl (cI, 25, .inl fz)), (la, .inl (cI, 25, .inl (upd fy i (fz i)))), (lg, .inl (cI, 4, .inl fg)), (lt, .inl (cI, 17, .inl ft))] ++ zWR cI cJ ad n kd ln lo hi vl gx gy sl si2_8 kc2_9 FF2_10) := hD
                                  refine lv_iinc (v := nI (i + 1)) (lv' := [(30, .int (nI (i + 1))), (0, .ref b), (1, .ref (ad 0)), (2, .ref la), (3, .ref lg), (4, .ref lt), (5, .int (nI tau)), (7, .int uu), (9, .int 1), (25, .int bq), (26, .int (nI rk)), (27, .int (nI (zAll kd ln lo hi vl n gx gy sl bq).1)), (28, .int (nI tk)), (29, .ref lb)]) hx hb dL_law_1703 hl (k := 13) rfl ((nI_succ _).symm) (by decide) rfl (fun ls hl => ?_)
                                  refine lv_goto (tgt := 1687) hx hb dL_law_1706 (by decide) ?_
                                  exact ih_1687_17 (i + 1) (upd fy i (fz i)) (by omega) (zupd_ok hfy rfl) (by omega) _ _ hP hD hS _ (lv_sub hl [1, 2, 3, 4, 5, 6, 7, 8, 9, 10, 11, 12, 13, 0] rfl)
                            exact lp_1687_17 ((25 - 0) + 1) 0 fa (Nat.zero_le 25) (fun k h9 => absurd h9 (Nat.not_lt_zero k)) (Nat.lt_succ_self _) _ _ hP hD hS _ (lv_sub hl [2, 3, 4, 5, 6, 7, 8, 1, 9, 10, 11, 12, 13, 0] rfl)
                          · exact absurd c_1639 (zm1_ne (by omega))
                        · refine lv_goto (tgt := 1740) hx hb dL_law_1633 (by decide) ?_
                          exact kk9 _ _ _ _ _ (by omega) (by omega) ⟨n, kd, ln, lo, hi, vl, gx, gy, sl, si2_8, kc2_9, FF2_10, fa, fg, ft, hn1, hR, hA, hGs, hT, hkd, (za_Pr (w1 := [(lb, .inl (cI, 25, .inl fz))]) hP), (za_Dr (w1 := [(lb, .inl (cI, 25, .inl fz))]) hD), hS⟩ (lv_sub hl [0, 7, 6, 5, 4, 3, 2, 1] rfl)
                    · exact absurd hfd9 c_1607
                  · exact absurd c_1595 (zm1_ne (by omega))
              · rw [nI_leI (by omega) (by omega)] at c_1520
                refine lv_iload hx hb dL_law_1523 (lv_at hl 7 rfl) ?_
                refine lv_aload_n hx hb dL_law_1525 rfl (lv_at hl 1 rfl) ?_
                refine lv_iload hx hb dL_law_1526 (lv_at hl 9 rfl) ?_
                refine lv_iload hx hb dL_law_1528 (lv_at hl 8 rfl) ?_
                refine lv_iload hx hb dL_law_1530 (lv_at hl 13 rfl) ?_
                refine z_callAX (w1 := [(lb, .inl (cI, 25, .inl fz)), (la, .inl (cI, 25, .inl fa)), (lg, .inl (cI, 4, .inl fg)), (lt, .inl (cI, 17, .inl ft))]) (As := [.ref (ad 0), .int (nI rk), .int bq, .int (nI i)]) (rest := [.int 1]) ⟨hx, hb, hml, hown, hts⟩ hG hK hP hD hS (cR_branch l hfl D cI cJ ad n kd ln lo hi vl gx gy sl si3 kc3 FF3 (nI rk) bq (nI i) (by first | assumption | omega | decide)) (vx_cwSW (hh := [(0, 9, 12, 22), (0, 9, 18, 14), (0, 9, 24, 16)]) 4 hts gL_law_L_branch rfl rfl rfl (by decide +kernel) ⟨Nat.le_of_ble_eq_true rfl, Nat.le_of_ble_eq_true rfl⟩) (fun _ => rfl) rfl hl.1 rfl (Nat.le_of_ble_eq_true rfl) dL_law_1532 ⟨(show c9 + 2 ≤ 600104 by omega), (show s9 + 12 ≤ 7301314 by omega)⟩ (fun u_36 H locs hu_37 hP hD hS => ?_)
                obtain ⟨kk_38, si2_39, kc2_40, FF2_41⟩ := u_36
                have hu_37 : (zL0 (FF2_41 3) (FF2_41 4) (FF2_41 5) (FF2_41 6)) ∧ (zJ n (nI i) → (0 ≤ (nI rk) ∧ (nI rk) < 10) → zPw lo hi n ≤ 40000 → (nI rk) < nI (zAll kd ln lo hi vl n gx gy sl bq).1 → (0 ≤ bq ∧ bq ≤ 2) → (kk_38 = zPk lo hi n ((zAll kd ln lo hi vl n gx gy sl bq).2.2 (nI rk).toNatClampNeg) (nI i).toNatClampNeg)) ∧ ((¬ zJ n (nI i) ∨ ¬ (0 ≤ (nI rk) ∧ (nI rk) < 10) ∨ (zPw lo hi n ≤ 40000 ∧ ¬ (nI rk) < nI (zAll kd ln lo hi vl n gx gy sl bq).1)) → (kk_38 = (-7100))) ∧ (zJ n (nI i) → (0 ≤ (nI rk) ∧ (nI rk) < 10) → (zPw lo hi n ≤ 40000 → (nI rk) < nI (zAll kd ln lo hi vl n gx gy sl bq).1) → ¬ (0 ≤ bq ∧ bq ≤ 2) → (kk_38 = (-7200))) ∧ (zJ n (nI i) → (0 ≤ (nI rk) ∧ (nI rk) < 10) → (0 ≤ bq ∧ bq ≤ 2) → ¬ zPw lo hi n ≤ 40000 → (kk_38 = (-7300))) := hu_37
                obtain ⟨e_42, e_43, e_44, e_45, e_46⟩ := hu_37
                have r_47 : (kk_38 = zPk lo hi n ((zAll kd ln lo hi vl n gx gy sl bq).2.2 (nI rk).toNatClampNeg) (nI i).toNatClampNeg) := e_43 (zJ_lt hn (by omega)) hr10 hfew hfd9 hby
                replace r_47 : kk_38 = zPk lo hi n tk i := r_47.trans (by rw [hcr9, ← htk, nI_clamp (by omega)])
                subst r_47
                have hP : va_P D vwCl ([(lb, .inl (cI, 25, .inl fz)), (la, .inl (cI, 25, .inl fa)), (lg, .inl (cI, 4, .inl fg)), (lt, .inl (cI, 17, .inl ft))] ++ zWR cI cJ ad n kd ln lo hi vl gx gy sl si2_39 kc2_40 FF2_41) H := hP
                have hD : va_D A0 ([(lb, .inl (cI, 25, .inl fz)), (la, .inl (cI, 25, .inl fa)), (lg, .inl (cI, 4, .inl fg)), (lt, .inl (cI, 17, .inl ft))] ++ zWR cI cJ ad n kd ln lo hi vl gx gy sl si2_39 kc2_40 FF2_41) := hD
                refine z_topi (y := zPk lo hi n tk i) rfl ?_
                replace hR := zRo_of hR e_42
                refine lv_iload hx hb dL_law_1535 (lv_at hl 11 rfl) ?_
                refine lv_iconst (v := (-1)) hx hb dL_law_1537 (by decide) ?_
                refine lv_icmp_ne (tgt := 1547) hx hb dL_law_1538 (by decide) (fun c_1538 => ?_) (fun c_1538 => ?_)
                · refine lv_aload hx hb dL_law_1547 (lv_at hl 12 rfl) ?_
                  refine lv_iconst (v := nI 5) hx hb dL_law_1549 (rfl) ?_
                  refine lv_iload hx hb dL_law_1550 (lv_at hl 13 rfl) ?_
                  refine lv_imul hx hb dL_law_1552 ?_
                  refine z_topi (y := nI (5 * i)) (pk_mul 5 _) ?_
                  refine lv_iconst (v := nI 4) hx hb dL_law_1553 (rfl) ?_
                  refine lv_iadd hx hb dL_law_1554 ?_
                  refine z_topi (y := nI (5 * i + 4)) (nI_add _ _) ?_
                  refine z_iald hx hb hK hP 0 rfl (j := (5 * i + 4)) (by omega) (by decide) dL_law_1555 ?_
                  refine z_topi (y := (zPk lo hi n tk) i) ((hz9 i (by omega)).2.2.2.2) ?_
                  refine lv_icmp_ne (tgt := 1563) hx hb dL_law_1556 (by decide) (fun c_1556 => ?_) (fun c_1556 => ?_)
                  · exact absurd rfl c_1556
                  · refine lv_iconst (v := 1) hx hb dL_law_1559 (by decide) ?_
                    refine lv_goto (tgt := 1564) hx hb dL_law_1560 (by decide) ?_
                    refine lv_iand hx hb dL_law_1564 ?_
                    refine z_topi (y := 1) (by decide) ?_
                    refine lv_istore (lv' := [(9, .int 1), (0, .ref b), (1, .ref (ad 0)), (2, .ref la), (3, .ref lg), (4, .ref lt), (5, .int (nI tau)), (7, .int uu), (25, .int bq), (26, .int (nI rk)), (27, .int (nI (zAll kd ln lo hi vl n gx gy sl bq).1)), (28, .int (nI tk)), (29, .ref lb), (30, .int (nI i))]) hx hb dL_law_1565 hl (by decide) rfl (fun ls hl => ?_)
                    refine lv_iinc (v := nI (i + 1)) (lv' := [(30, .int (nI (i + 1))), (9, .int 1), (0, .ref b), (1, .ref (ad 0)), (2, .ref la), (3, .ref lg), (4, .ref lt), (5, .int (nI tau)), (7, .int uu), (25, .int bq), (26, .int (nI rk)), (27, .int (nI (zAll kd ln lo hi vl n gx gy sl bq).1)), (28, .int (nI tk)), (29, .ref lb)]) hx hb dL_law_1567 hl (k := 13) rfl ((nI_succ _).symm) (by decide) rfl (fun ls hl => ?_)
                    refine lv_goto (tgt := 1515) hx hb dL_law_1570 (by decide) ?_
                    exact ih_1515_4 (i + 1) si2_39 kc2_40 FF2_41 (c9 + 2) (s9 + 6 * 2) (by omega) (hR) (by omega) (by omega) (by omega) _ _ hP hD hS _ (lv_sub hl [2, 3, 4, 5, 6, 7, 8, 1, 9, 10, 11, 12, 13, 0] rfl)
                · exact absurd c_1538 (zm1_ne (by omega))
          exact lp_1515_4 ((n - 0) + 1) 0 si kc FF (cells + 1) (slots + 25) (Nat.zero_le n) (hR) (by omega) (by omega) (Nat.lt_succ_self _) _ _ hP hD hS _ (lv_sub hl [1, 2, 3, 4, 5, 6, 7, 8, 9, 10, 11, 12, 13, 0] rfl)
      · rw [nI_leI (by omega) (by omega)] at c_1480
        refine lv_aload hx hb dL_law_1483 (lv_at hl 12 rfl) ?_
        refine lv_iload hx hb dL_law_1485 (lv_at hl 13 rfl) ?_
        refine lv_aload_n hx hb dL_law_1487 rfl (lv_at hl 2 rfl) ?_
        refine lv_iload hx hb dL_law_1488 (lv_at hl 13 rfl) ?_
        refine z_iald hx hb hK hP 1 rfl (j := i) (by omega) (by decide) dL_law_1490 ?_
        refine z_iast hx hb hK hP hD hS 0 rfl (j := i) (by omega) (by decide) dL_law_1491 (fun H locs hP hD hS => ?_)
        have hP : va_P D vwCl ([(lb, .inl (cI, 25, .inl (upd fx2 i (fa i)))), (la, .inl (cI, 25, .inl fa)), (lg, .inl (cI, 4, .inl fg)), (lt, .inl (cI, 17, .inl ft))] ++ zWR cI cJ ad n kd ln lo hi vl gx gy sl si kc FF) H := hP
        have hD : va_D A0 ([(lb, .inl (cI, 25, .inl (upd fx2 i (fa i)))), (la, .inl (cI, 25, .inl fa)), (lg, .inl (cI, 4, .inl fg)), (lt, .inl (cI, 17, .inl ft))] ++ zWR cI cJ ad n kd ln lo hi vl gx gy sl si kc FF) := hD
        refine lv_iinc (v := nI (i + 1)) (lv' := [(30, .int (nI (i + 1))), (0, .ref b), (1, .ref (ad 0)), (2, .ref la), (3, .ref lg), (4, .ref lt), (5, .int (nI tau)), (7, .int uu), (9, .int 1), (25, .int bq), (26, .int (nI rk)), (27, .int (nI (zAll kd ln lo hi vl n gx gy sl bq).1)), (28, .int (nI tk)), (29, .ref lb)]) hx hb dL_law_1492 hl (k := 13) rfl ((nI_succ _).symm) (by decide) rfl (fun ls hl => ?_)
        refine lv_goto (tgt := 1476) hx hb dL_law_1495 (by decide) ?_
        exact ih_1476_1 (i + 1) (upd fx2 i (fa i)) (by omega) (zupd_ok hfx2 rfl) (by omega) _ _ hP hD hS _ (lv_sub hl [1, 2, 3, 4, 5, 6, 7, 8, 9, 10, 11, 12, 13, 0] rfl)
  exact lp_1476_1 ((25 - 0) + 1) 0 (fun _ => 0) (Nat.zero_le 25) (fun k h9 => absurd h9 (Nat.not_lt_zero k)) (Nat.lt_succ_self _) _ _ hP hD hS _ (lv_sub hl [13, 12, 11, 10, 9, 8, 7, 6, 5, 4, 3, 2, 1, 0] rfl)
