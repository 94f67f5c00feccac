/-! the law's cases: branches, no pose at that rank -/
set_option maxHeartbeats 4000000 in
set_option maxRecDepth 100000 in
theorem law_br_neg {p : Program} {l : Launch} {e : Env} {s : State} {m : MethodId} {args : Array Value} {below : List Frame} {meth : Method} {c : Code} {D : va_G} {cI cJ : ClassId} {A0 : Nat → Prop} {Q : State → Prop} {b la lg lt tau : Nat} {ad : Nat → Nat} {n : Nat} {kd : Nat → Int32} {ln : Nat → Int32} {lo : Nat → Int32} {hi : Nat → Int32} {vl : Nat → Int32} {gx : Int32} {gy : Int32} {sl : Int32} {si : Nat → Int32} {kc : Nat → Int64} {FF : Nat → Nat → Int32} {fa fg ft : Nat → Int32} {uu bq : Int32} {rk : Nat} (hfl : l.stackTraces = false) (C : zC p m c meth cL_law 34 s args wsL_law RL D cI cJ A0 []) (hNw : ∀ q : Nat, s.heap.size ≤ q → A0 q) (hR : zRo n kd ln lo hi vl gx gy sl FF) (hA : zAr n fa kd ln lo hi vl) (hGs : zGs fg n gx gy sl) (hT : zTt ft) (hkd : zKd n kd) (hn1 : 1 ≤ n) (hn0 : ¬ n = 0) (hb3 : zB3 bq) (hrk10 : rk < 10) (hfew : zPw lo hi n ≤ 40000) (hrf : ¬ rk < (zAll kd ln lo hi vl n gx gy sl bq).1) {H : Heap} {locs : List Loc} {cells slots : Nat} {ls : Array Slot} (hc : cells + 20 ≤ 600104) (hs : slots + 130 ≤ 7301314) (hP : va_P D vwCl ([(la, .inl (cI, 25, .inl fa)), (lg, .inl (cI, 4, .inl fg)), (lt, .inl (cI, 17, .inl ft))] ++ zWR cI cJ ad n kd ln lo hi vl gx gy sl si kc FF) H) (hD : va_D A0 ([(la, .inl (cI, 25, .inl fa)), (lg, .inl (cI, 4, .inl fg)), (lt, .inl (cI, 17, .inl ft))] ++ zWR cI cJ ad n kd ln lo hi vl gx gy sl si kc FF)) (hS : va_S A0 s.heap H locs) (hl : lv_has ls 34 [(27, .int (nI (zAll kd ln lo hi vl n gx gy sl bq).1)), (26, .int (nI rk)), (25, .int bq), (9, .int 1), (7, .int uu), (5, .int (nI tau)), (4, .ref lt), (3, .ref lg), (2, .ref la), (1, .ref (ad 0)), (0, .ref b)]) (kk9 : ∀ (H1 : Heap) (locs1 : List Loc) (ls1 : Array Slot) (c1 s1 : Nat), c1 ≤ cells + 20 → s1 ≤ slots + 130 → zLv D cI cJ A0 s.heap H1 locs1 ad la lg lt 1 → lv_has ls1 34 [(9, .int 1), (7, .int uu), (5, .int (nI tau)), (4, .ref lt), (3, .ref lg), (2, .ref la), (1, .ref (ad 0)), (0, .ref b)] → W p l e room_1 s m args below meth c H1 locs1 c1 s1 Q (F0 m 1740 ls1 [])) : W p l e room_1 s m args below meth c H locs cells slots Q (F0 m 1465 ls [.int (-1)]) := by
  obtain ⟨⟨hx, hb, hml, hown, hts⟩, hG, hK, hD0, hlocks⟩ := C
  have hok := hR.1
  have hn := hok.1
  have hgx := hR.2.1
  have hgy := hR.2.2.1
  have hsl := hR.2.2.2.1
  have hby := zB3_b hb3
  have hr10 : 0 ≤ nI rk ∧ nI rk < 10 := ⟨nI_pos' (by omega), (nI_ltI (b := 10) (by omega) (by omega)).mpr hrk10⟩
  have hcr9 : (nI rk).toNatClampNeg = rk := nI_clamp (by omega)
  have hcb9 : (zAll kd ln lo hi vl n gx gy sl bq).1 ≤ zPw lo hi n := zAll_le
  have hnf9 : ¬ nI rk < nI (zAll kd ln lo hi vl n gx gy sl bq).1 := fun h9 => hrf ((nI_ltI (by omega) (by omega)).mp h9)
  refine lv_istore (lv' := [(28, .int (-1)), (27, .int (nI (zAll kd ln lo hi vl n gx gy sl bq).1)), (26, .int (nI rk)), (25, .int bq), (9, .int 1), (7, .int uu), (5, .int (nI tau)), (4, .ref lt), (3, .ref lg), (2, .ref la), (1, .ref (ad 0)), (0, .ref b)]) hx hb dL_law_1465 hl (by decide) rfl (fun ls hl => ?_)
  refine lv_bipush (v := 25) hx hb dL_law_1467 (by decide) ?_
  refine z_newi hx hb (hts (.arrayClass .int) (by decide +kernel)) hK hP hD hS hNw 25 (by decide) (by decide) (by decide) (show cells + 1 ≤ 600104 by omega) (show slots + 25 ≤ 7301314 by omega) dL_law_1469 (fun lb H hP hD hS => ?_)
  replace hP := za_Pc hP
  replace hD := za_Dc hD
  have hP : va_P D vwCl ([(lb, .inl (cI, 25, .inl (fun _ => 0))), (la, .inl (cI, 25, .inl fa)), (lg, .inl (cI, 4, .inl fg)), (lt, .inl (cI, 17, .inl ft))] ++ zWR cI cJ ad n kd ln lo hi vl gx gy sl si kc FF) H := hP
  have hD : va_D A0 ([(lb, .inl (cI, 25, .inl (fun _ => 0))), (la, .inl (cI, 25, .inl fa)), (lg, .inl (cI, 4, .inl fg)), (lt, .inl (cI, 17, .inl ft))] ++ zWR cI cJ ad n kd ln lo hi vl gx gy sl si kc FF) := hD
  refine lv_astore (lv' := [(29, .ref lb), (28, .int (-1)), (27, .int (nI (zAll kd ln lo hi vl n gx gy sl bq).1)), (26, .int (nI rk)), (25, .int bq), (9, .int 1), (7, .int uu), (5, .int (nI tau)), (4, .ref lt), (3, .ref lg), (2, .ref la), (1, .ref (ad 0)), (0, .ref b)]) hx hb dL_law_1471 hl (by decide) rfl (fun ls hl => ?_)
  refine lv_iconst (v := 0) hx hb dL_law_1473 (by decide) ?_
  refine lv_istore (lv' := [(30, .int 0), (29, .ref lb), (28, .int (-1)), (27, .int (nI (zAll kd ln lo hi vl n gx gy sl bq).1)), (26, .int (nI rk)), (25, .int bq), (9, .int 1), (7, .int uu), (5, .int (nI tau)), (4, .ref lt), (3, .ref lg), (2, .ref la), (1, .ref (ad 0)), (0, .ref b)]) hx hb dL_law_1474 hl (by decide) rfl (fun ls hl => ?_)
  have lp_1476_1 : ∀ (fu : Nat) (i : Nat) (fx2 : Nat → Int32), (i ≤ 25) → (∀ k, k < i → fx2 k = fa k) → (25 - i < fu) → ∀ (H : Heap) (locs : List Loc), va_P D vwCl ([(lb, .inl (cI, 25, .inl fx2)), (la, .inl (cI, 25, .inl fa)), (lg, .inl (cI, 4, .inl fg)), (lt, .inl (cI, 17, .inl ft))] ++ zWR cI cJ ad n kd ln lo hi vl gx gy sl si kc FF) H → va_D A0 ([(lb, .inl (cI, 25, .inl fx2)), (la, .inl (cI, 25, .inl fa)), (lg, .inl (cI, 4, .inl fg)), (lt, .inl (cI, 17, .inl ft))] ++ zWR cI cJ ad n kd ln lo hi vl gx gy sl si kc FF) → va_S A0 s.heap H locs → ∀ (ls : Array Slot), lv_has ls 34 [(0, .ref b), (1, .ref (ad 0)), (2, .ref la), (3, .ref lg), (4, .ref lt), (5, .int (nI tau)), (7, .int uu), (9, .int 1), (25, .int bq), (26, .int (nI rk)), (27, .int (nI (zAll kd ln lo hi vl n gx gy sl bq).1)), (28, .int (-1)), (29, .ref lb), (30, .int (nI i))] → W p l e (room_1) s m args below meth c H locs (cells + 1) (slots + 25) Q (F0 m 1476 ls []) := by
    intro fu
    induction fu with
    | zero => intro i fx2 hi1 hfx2 hfu; exact absurd hfu (Nat.not_lt_zero _)
    | succ fu ih_1476_1 =>
      intro i fx2 hi1 hfx2 hfu H locs hP hD hS ls hl
      refine lv_iload hx hb dL_law_1476 (lv_at hl 13 rfl) ?_
      refine lv_bipush (v := nI 25) hx hb dL_law_1478 (rfl) ?_
      refine lv_icmp_ge (tgt := 1498) hx hb dL_law_1480 (by decide) (fun c_1480 => ?_) (fun c_1480 => ?_)
      · rw [nI_leI (by omega) (by omega)] at c_1480
        have hB0 : zAr n fx2 kd ln lo hi vl := zAr_copy hA hn (fun k hk => hfx2 k (by omega))
        refine lv_iload hx hb dL_law_1498 (lv_at hl 11 rfl) ?_
        refine lv_iconst (v := (-1)) hx hb dL_law_1500 (by decide) ?_
        refine lv_icmp_eq (tgt := 1512) hx hb dL_law_1501 (by decide) (fun c_1501 => ?_) (fun c_1501 => ?_)
        · refine lv_iconst (v := 0) hx hb dL_law_1512 (by decide) ?_
          refine lv_istore (lv' := [(30, .int 0), (0, .ref b), (1, .ref (ad 0)), (2, .ref la), (3, .ref lg), (4, .ref lt), (5, .int (nI tau)), (7, .int uu), (9, .int 1), (25, .int bq), (26, .int (nI rk)), (27, .int (nI (zAll kd ln lo hi vl n gx gy sl bq).1)), (28, .int (-1)), (29, .ref lb)]) hx hb dL_law_1513 hl (by decide) rfl (fun ls hl => ?_)
          have lp_1515_2 : ∀ (fu : Nat) (i : Nat) (si3 : Nat → Int32) (kc3 : Nat → Int64) (FF3 : Nat → Nat → Int32) (c9 : Nat) (s9 : Nat), (i ≤ n) → (zRo n kd ln lo hi vl gx gy sl FF3) → (c9 ≤ cells + 1 + 2 * i) → (s9 ≤ slots + 25 + 12 * i) → (n - i < fu) → ∀ (H : Heap) (locs : List Loc), va_P D vwCl ([(lb, .inl (cI, 25, .inl fx2)), (la, .inl (cI, 25, .inl fa)), (lg, .inl (cI, 4, .inl fg)), (lt, .inl (cI, 17, .inl ft))] ++ zWR cI cJ ad n kd ln lo hi vl gx gy sl si3 kc3 FF3) H → va_D A0 ([(lb, .inl (cI, 25, .inl fx2)), (la, .inl (cI, 25, .inl fa)), (lg, .inl (cI, 4, .inl fg)), (lt, .inl (cI, 17, .inl ft))] ++ zWR cI cJ ad n kd ln lo hi vl gx gy sl si3 kc3 FF3) → va_S A0 s.heap H locs → ∀ (ls : Array Slot), lv_has ls 34 [(0, .ref b), (1, .ref (ad 0)), (2, .ref la), (3, .ref lg), (4, .ref lt), (5, .int (nI tau)), (7, .int uu), (9, .int 1), (25, .int bq), (26, .int (nI rk)), (27, .int (nI (zAll kd ln lo hi vl n gx gy sl bq).1)), (28, .int (-1)), (29, .ref lb), (30, .int (nI i))] → W p l e (room_1) s m args below meth c H locs c9 s9 Q (F0 m 1515 ls []) := by
            intro fu
            induction fu with
            | zero => intro i si3 kc3 FF3 c9 s9 hi1 hR hc9 hs9 hfu; exact absurd hfu (Nat.not_lt_zero _)
            | succ fu ih_1515_2 =>
              intro i si3 kc3 FF3 c9 s9 hi1 hR hc9 hs9 hfu H locs hP hD hS ls hl
              refine lv_iload hx hb dL_law_1515 (lv_at hl 13 rfl) ?_
              refine lv_aload_n hx hb dL_law_1517 rfl (lv_at hl 3 rfl) ?_
              refine lv_iconst (v := nI 0) hx hb dL_law_1518 (rfl) ?_
              refine z_iald hx hb hK hP 2 rfl (j := 0) (by omega) (by decide) dL_law_1519 ?_
              refine z_topi (y := nI n) (hGs.1) ?_
              refine lv_icmp_ge (tgt := 1573) hx hb dL_law_1520 (by decide) (fun c_1520 => ?_) (fun c_1520 => ?_)
              · rw [nI_leI (by omega) (by omega)] at c_1520
                obtain rfl : n = i := by omega
                refine lv_iload hx hb dL_law_1573 (lv_at hl 7 rfl) ?_
                refine lv_aload_n hx hb dL_law_1575 rfl (lv_at hl 1 rfl) ?_
                refine lv_iload hx hb dL_law_1576 (lv_at hl 9 rfl) ?_
                refine lv_iload hx hb dL_law_1578 (lv_at hl 8 rfl) ?_
                refine lv_aload_n hx hb dL_law_1580 rfl (lv_at hl 3 rfl) ?_
                refine lv_iconst (v := nI 0) hx hb dL_law_1581 (rfl) ?_
                refine z_iald hx hb hK hP 2 rfl (j := 0) (by omega) (by decide) dL_law_1582 ?_
                refine z_topi (y := nI n) (hGs.1) ?_
                refine z_callAX (w1 := [(lb, .inl (cI, 25, .inl fx2)), (la, .inl (cI, 25, .inl fa)), (lg, .inl (cI, 4, .inl fg)), (lt, .inl (cI, 17, .inl ft))]) (As := [.ref (ad 0), .int (nI rk), .int bq, .int (nI n)]) (rest := [.int 1]) ⟨hx, hb, hml, hown, hts⟩ hG hK hP hD hS (cR_branch l hfl D cI cJ ad n kd ln lo hi vl gx gy sl si3 kc3 FF3 (nI rk) bq (nI n) (by first | assumption | omega | decide)) (vx_cwSW (hh := [(0, 9, 12, 22), (0, 9, 18, 14), (0, 9, 24, 16)]) 4 hts gL_law_L_branch rfl rfl rfl (by decide +kernel) ⟨Nat.le_of_ble_eq_true rfl, Nat.le_of_ble_eq_true rfl⟩) (fun _ => rfl) rfl hl.1 rfl (Nat.le_of_ble_eq_true rfl) dL_law_1583 ⟨(show c9 + 2 ≤ 600104 by omega), (show s9 + 12 ≤ 7301314 by omega)⟩ (fun u_3 H locs hu_4 hP hD hS => ?_)
                obtain ⟨kk_5, si2_6, kc2_7, FF2_8⟩ := u_3
                have hu_4 : (zL0 (FF2_8 3) (FF2_8 4) (FF2_8 5) (FF2_8 6)) ∧ (zJ n (nI n) → (0 ≤ (nI rk) ∧ (nI rk) < 10) → zPw lo hi n ≤ 40000 → (nI rk) < nI (zAll kd ln lo hi vl n gx gy sl bq).1 → (0 ≤ bq ∧ bq ≤ 2) → (kk_5 = zPk lo hi n ((zAll kd ln lo hi vl n gx gy sl bq).2.2 (nI rk).toNatClampNeg) (nI n).toNatClampNeg)) ∧ ((¬ zJ n (nI n) ∨ ¬ (0 ≤ (nI rk) ∧ (nI rk) < 10) ∨ (zPw lo hi n ≤ 40000 ∧ ¬ (nI rk) < nI (zAll kd ln lo hi vl n gx gy sl bq).1)) → (kk_5 = (-7100))) ∧ (zJ n (nI n) → (0 ≤ (nI rk) ∧ (nI rk) < 10) → (zPw lo hi n ≤ 40000 → (nI rk) < nI (zAll kd ln lo hi vl n gx gy sl bq).1) → ¬ (0 ≤ bq ∧ bq ≤ 2) → (kk_5 = (-7200))) ∧ (zJ n (nI n) → (0 ≤ (nI rk) ∧ (nI rk) < 10) → (0 ≤ bq ∧ bq ≤ 2) → ¬ zPw lo hi n ≤ 40000 → (kk_5 = (-7300))) := hu_4
                obtain ⟨e_9, e_10, e_11, e_12, e_13⟩ := hu_4
                have r_14 : (kk_5 = (-7100)) := e_11 (Or.inl (zJ_no hn))
                subst r_14
                have hP : va_P D vwCl ([(lb, .inl (cI, 25, .inl fx2)), (la, .inl (cI, 25, .inl fa)), (lg, .inl (cI, 4, .inl fg)), (lt, .inl (cI, 17, .inl ft))] ++ zWR cI cJ ad n kd ln lo hi vl gx gy sl si2_6 kc2_7 FF2_8) H := hP
                have hD : va_D A0 ([(lb, .inl (cI, 25, .inl fx2)), (la, .inl (cI, 25, .inl fa)), (lg, .inl (cI, 4, .inl fg)), (lt, .inl (cI, 17, .inl ft))] ++ zWR cI cJ ad n kd ln lo hi vl gx gy sl si2_6 kc2_7 FF2_8) := hD
                refine z_topi (y := -7100) rfl ?_
                replace hR := zRo_of hR e_9
                refine lv_sipush (v := (-7100)) hx hb dL_law_1586 (by decide) ?_
                refine lv_icmp_ne (tgt := 1622) hx hb dL_law_1589 (by decide) (fun c_1589 => ?_) (fun c_1589 => ?_)
                · exact absurd (by decide) c_1589
                · refine lv_iload hx hb dL_law_1592 (lv_at hl 11 rfl) ?_
                  refine lv_iconst (v := (-1)) hx hb dL_law_1594 (by decide) ?_
                  refine lv_icmp_ne (tgt := 1602) hx hb dL_law_1595 (by decide) (fun c_1595 => ?_) (fun c_1595 => ?_)
                  · exact absurd (by decide) c_1595
                  · refine lv_iconst (v := 1) hx hb dL_law_1598 (by decide) ?_
                    refine lv_goto (tgt := 1603) hx hb dL_law_1599 (by decide) ?_
                    refine lv_iload hx hb dL_law_1603 (lv_at hl 9 rfl) ?_
                    refine lv_iload hx hb dL_law_1605 (lv_at hl 10 rfl) ?_
                    refine lv_icmp_lt (tgt := 1614) hx hb dL_law_1607 (by decide) (fun c_1607 => ?_) (fun c_1607 => ?_)
                    · exact absurd c_1607 hnf9
                    · refine lv_iconst (v := 1) hx hb dL_law_1610 (by decide) ?_
                      refine lv_goto (tgt := 1615) hx hb dL_law_1611 (by decide) ?_
                      refine lv_icmp_ne (tgt := 1622) hx hb dL_law_1615 (by decide) (fun c_1615 => ?_) (fun c_1615 => ?_)
                      · exact absurd (by decide) c_1615
                      · refine lv_iconst (v := 1) hx hb dL_law_1618 (by decide) ?_
                        refine lv_goto (tgt := 1623) hx hb dL_law_1619 (by decide) ?_
                        refine lv_iand hx hb dL_law_1623 ?_
                        refine z_topi (y := 1) (by decide) ?_
                        refine lv_istore (lv' := [(9, .int 1), (0, .ref b), (1, .ref (ad 0)), (2, .ref la), (3, .ref lg), (4, .ref lt), (5, .int (nI tau)), (7, .int uu), (25, .int bq), (26, .int (nI rk)), (27, .int (nI (zAll kd ln lo hi vl n gx gy sl bq).1)), (28, .int (-1)), (29, .ref lb), (30, .int (nI n))]) hx hb dL_law_1624 hl (by decide) rfl (fun ls hl => ?_)
                        refine lv_iload hx hb dL_law_1626 (lv_at hl 7 rfl) ?_
                        refine lv_iconst (v := 1) hx hb dL_law_1628 (by decide) ?_
                        refine lv_iand hx hb dL_law_1629 ?_
                        refine lv_if_ne (tgt := 1636) hx hb dL_law_1630 (by decide) (fun c_1630 => ?_) (fun c_1630 => ?_)
                        · refine lv_iload hx hb dL_law_1636 (lv_at hl 11 rfl) ?_
                          refine lv_iconst (v := (-1)) hx hb dL_law_1638 (by decide) ?_
                          refine lv_icmp_ne (tgt := 1684) hx hb dL_law_1639 (by decide) (fun c_1639 => ?_) (fun c_1639 => ?_)
                          · exact absurd (by decide) c_1639
                          · refine lv_iload hx hb dL_law_1642 (lv_at hl 0 rfl) ?_
                            refine lv_aload_n hx hb dL_law_1644 rfl (lv_at hl 2 rfl) ?_
                            refine lv_iload hx hb dL_law_1645 (lv_at hl 9 rfl) ?_
                            refine lv_iload hx hb dL_law_1647 (lv_at hl 8 rfl) ?_
                            refine z_callAX (w1 := [(lb, .inl (cI, 25, .inl fx2)), (la, .inl (cI, 25, .inl fa)), (lg, .inl (cI, 4, .inl fg)), (lt, .inl (cI, 17, .inl ft))]) (As := [.ref (ad 0), .int (nI rk), .int bq]) (rest := [.int 1]) ⟨hx, hb, hml, hown, hts⟩ hG hK hP hD hS (cR_take l hfl D cI cJ ad n kd ln lo hi vl gx gy sl si2_6 kc2_7 FF2_8 (nI rk) bq (by first | assumption | omega | decide)) (vx_cwSW (hh := [(0, 7, 10, 22), (0, 7, 16, 14), (0, 7, 22, 16)]) 3 hts gL_law_L_take rfl rfl rfl (by decide +kernel) ⟨Nat.le_of_ble_eq_true rfl, Nat.le_of_ble_eq_true rfl⟩) (fun _ => rfl) rfl hl.1 rfl (Nat.le_of_ble_eq_true rfl) dL_law_1649 ⟨(show c9 + 2 + 1 ≤ 600104 by omega), (show s9 + 6 * 2 + 6 ≤ 7301314 by omega)⟩ (fun u_15 H locs hu_16 hP hD hS => ?_)
                            obtain ⟨kk_17, vl2_18, si2_19, kc2_20, FF2_21⟩ := u_15
                            have hu_16 : (zL0 (FF2_21 3) (FF2_21 4) (FF2_21 5) (FF2_21 6)) ∧ ((0 ≤ (nI rk) ∧ (nI rk) < 10) → zPw lo hi n ≤ 40000 → (nI rk) < nI (zAll kd ln lo hi vl n gx gy sl bq).1 → (0 ≤ bq ∧ bq ≤ 2) → (kk_17 = zFn kd ln (zTk vl n (zPk lo hi n ((zAll kd ln lo hi vl n gx gy sl bq).2.2 (nI rk).toNatClampNeg))) n gx gy) ∧ (vl2_18 = zTk vl n (zPk lo hi n ((zAll kd ln lo hi vl n gx gy sl bq).2.2 (nI rk).toNatClampNeg)))) ∧ ((¬ (0 ≤ (nI rk) ∧ (nI rk) < 10) ∨ (zPw lo hi n ≤ 40000 ∧ ¬ (nI rk) < nI (zAll kd ln lo hi vl n gx gy sl bq).1)) → (kk_17 = (-7100)) ∧ (vl2_18 = vl)) ∧ ((0 ≤ (nI rk) ∧ (nI rk) < 10) → (zPw lo hi n ≤ 40000 → (nI rk) < nI (zAll kd ln lo hi vl n gx gy sl bq).1) → ¬ (0 ≤ bq ∧ bq ≤ 2) → (kk_17 = (-7200)) ∧ (vl2_18 = vl)) ∧ ((0 ≤ (nI rk) ∧ (nI rk) < 10) → (0 ≤ bq ∧ bq ≤ 2) → ¬ zPw lo hi n ≤ 40000 → (kk_17 = (-7300)) ∧ (vl2_18 = vl)) := hu_16
                            obtain ⟨e_22, e_23, e_24, e_25, e_26⟩ := hu_16
                            obtain ⟨r_27, r_28⟩ : (kk_17 = (-7100)) ∧ (vl2_18 = vl) := e_24 (Or.inr ⟨hfew, hnf9⟩)
                            subst r_27
                            replace r_28 := r_28.symm
                            subst r_28
                            have hP : va_P D vwCl ([(lb, .inl (cI, 25, .inl fx2)), (la, .inl (cI, 25, .inl fa)), (lg, .inl (cI, 4, .inl fg)), (lt, .inl (cI, 17, .inl ft))] ++ zWR cI cJ ad n kd ln lo hi vl gx gy sl si2_19 kc2_20 FF2_21) H := hP
                            have hD : va_D A0 ([(lb, .inl (cI, 25, .inl fx2)), (la, .inl (cI, 25, .inl fa)), (lg, .inl (cI, 4, .inl fg)), (lt, .inl (cI, 17, .inl ft))] ++ zWR cI cJ ad n kd ln lo hi vl gx gy sl si2_19 kc2_20 FF2_21) := hD
                            refine z_topl (y := -7100) rfl ?_
                            replace hR := zRo_of hR e_22
                            refine lv_ldc2 (own := RL) (v := -7100) hx hb hown (hts (.constantLong RL 62 (-7100)) (by decide +kernel)) dL_law_1652 ?_
                            refine W.lcmp hx hb dL_law_1655 ?_
                            refine lv_if_ne (tgt := 1677) hx hb dL_law_1656 (by decide) (fun c_1656 => ?_) (fun c_1656 => ?_)
                            · rw [lg_cmp_eq] at c_1656
                              exact absurd rfl c_1656
                            · rw [lg_cmp_eq] at c_1656
                              refine lv_aload_n hx hb dL_law_1659 rfl (lv_at hl 2 rfl) ?_
                              refine lv_iload hx hb dL_law_1660 (lv_at hl 9 rfl) ?_
                              refine lv_iconst (v := 3) hx hb dL_law_1662 (by decide) ?_
                              refine z_callAX (w1 := [(lb, .inl (cI, 25, .inl fx2)), (la, .inl (cI, 25, .inl fa)), (lg, .inl (cI, 4, .inl fg)), (lt, .inl (cI, 17, .inl ft))]) (As := [.ref (ad 0), .int (nI rk), .int 3]) (rest := [.int 1]) ⟨hx, hb, hml, hown, hts⟩ hG hK hP hD hS (cR_take l hfl D cI cJ ad n kd ln lo hi vl gx gy sl si2_19 kc2_20 FF2_21 (nI rk) 3 (by first | assumption | omega | decide)) (vx_cwSW (hh := [(0, 7, 10, 22), (0, 7, 16, 14), (0, 7, 22, 16)]) 3 hts gL_law_L_take rfl rfl rfl (by decide +kernel) ⟨Nat.le_of_ble_eq_true rfl, Nat.le_of_ble_eq_true rfl⟩) (fun _ => rfl) rfl hl.1 rfl (Nat.le_of_ble_eq_true rfl) dL_law_1663 ⟨(show c9 + 2 + 1 + 1 ≤ 600104 by omega), (show s9 + 6 * 2 + 6 * 1 + 6 ≤ 7301314 by omega)⟩ (fun u_29 H locs hu_30 hP hD hS => ?_)
                              obtain ⟨kk_31, vl2_32, si2_33, kc2_34, FF2_35⟩ := u_29
                              have hu_30 : (zL0 (FF2_35 3) (FF2_35 4) (FF2_35 5) (FF2_35 6)) ∧ ((0 ≤ (nI rk) ∧ (nI rk) < 10) → zPw lo hi n ≤ 40000 → (nI rk) < nI (zAll kd ln lo hi vl n gx gy sl (3 : Int32)).1 → (0 ≤ (3 : Int32) ∧ (3 : Int32) ≤ 2) → (kk_31 = zFn kd ln (zTk vl n (zPk lo hi n ((zAll kd ln lo hi vl n gx gy sl (3 : Int32)).2.2 (nI rk).toNatClampNeg))) n gx gy) ∧ (vl2_32 = zTk vl n (zPk lo hi n ((zAll kd ln lo hi vl n gx gy sl (3 : Int32)).2.2 (nI rk).toNatClampNeg)))) ∧ ((¬ (0 ≤ (nI rk) ∧ (nI rk) < 10) ∨ (zPw lo hi n ≤ 40000 ∧ ¬ (nI rk) < nI (zAll kd ln lo hi vl n gx gy sl (3 : Int32)).1)) → (kk_31 = (-7100)) ∧ (vl2_32 = vl)) ∧ ((0 ≤ (nI rk) ∧ (nI rk) < 10) → (zPw lo hi n ≤ 40000 → (nI rk) < nI (zAll kd ln lo hi vl n gx gy sl (3 : Int32)).1) → ¬ (0 ≤ (3 : Int32) ∧ (3 : Int32) ≤ 2) → (kk_31 = (-7200)) ∧ (vl2_32 = vl)) ∧ ((0 ≤ (nI rk) ∧ (nI rk) < 10) → (0 ≤ (3 : Int32) ∧ (3 : Int32) ≤ 2) → ¬ zPw lo hi n ≤ 40000 → (kk_31 = (-7300)) ∧ (vl2_32 = vl)) := hu_30
                              obtain ⟨e_36, e_37, e_38, e_39, e_40⟩ := hu_30
                              obtain ⟨r_41, r_42⟩ : (kk_31 = (-7100)) ∧ (vl2_32 = vl) := e_38 (Or.inr ⟨hfew, by rw [zAll_cn hn0 3 bq]; exact hnf9⟩)
                              subst r_41
                              replace r_42 := r_42.symm
                              subst r_42
                              have hP : va_P D vwCl ([(lb, .inl (cI, 25, .inl fx2)), (la, .inl (cI, 25, .inl fa)), (lg, .inl (cI, 4, .inl fg)), (lt, .inl (cI, 17, .inl ft))] ++ zWR cI cJ ad n kd ln lo hi vl gx gy sl si2_33 kc2_34 FF2_35) H := hP
                              have hD : va_D A0 ([(lb, .inl (cI, 25, .inl fx2)), (la, .inl (cI, 25, .inl fa)), (lg, .inl (cI, 4, .inl fg)), (lt, .inl (cI, 17, .inl ft))] ++ zWR cI cJ ad n kd ln lo hi vl gx gy sl si2_33 kc2_34 FF2_35) := hD
                              refine z_topl (y := -7100) rfl ?_
                              replace hR := zRo_of hR e_36
                              refine lv_ldc2 (own := RL) (v := -7100) hx hb hown (hts (.constantLong RL 62 (-7100)) (by decide +kernel)) dL_law_1666 ?_
                              refine W.lcmp hx hb dL_law_1669 ?_
                              refine lv_if_ne (tgt := 1677) hx hb dL_law_1670 (by decide) (fun c_1670 => ?_) (fun c_1670 => ?_)
                              · rw [lg_cmp_eq] at c_1670
                                exact absurd rfl c_1670
                              · rw [lg_cmp_eq] at c_1670
                                refine lv_iconst (v := 1) hx hb dL_law_1673 (by decide) ?_
                                refine lv_goto (tgt := 1678) hx hb dL_law_1674 (by decide) ?_
                                refine lv_iand hx hb dL_law_1678 ?_
                                refine z_topi (y := 1) (by decide) ?_
                                refine lv_istore (lv' := [(9, .int 1), (0, .ref b), (1, .ref (ad 0)), (2, .ref la), (3, .ref lg), (4, .ref lt), (5, .int (nI tau)), (7, .int uu), (25, .int bq), (26, .int (nI rk)), (27, .int (nI (zAll kd ln lo hi vl n gx gy sl bq).1)), (28, .int (-1)), (29, .ref lb), (30, .int (nI n))]) hx hb dL_law_1679 hl (by decide) rfl (fun ls hl => ?_)
                                refine lv_goto (tgt := 1740) hx hb dL_law_1681 (by decide) ?_
                                exact kk9 _ _ _ _ _ (by omega) (by omega) ⟨n, kd, ln, lo, hi, vl, gx, gy, sl, si2_33, kc2_34, FF2_35, fa, fg, ft, hn1, hR, hA, hGs, hT, hkd, (za_Pr (w1 := [(lb, .inl (cI, 25, .inl fx2))]) hP), (za_Dr (w1 := [(lb, .inl (cI, 25, .inl fx2))]) hD), hS⟩ (lv_sub hl [0, 7, 6, 5, 4, 3, 2, 1] rfl)
                        · refine lv_goto (tgt := 1740) hx hb dL_law_1633 (by decide) ?_
                          exact kk9 _ _ _ _ _ (by omega) (by omega) ⟨n, kd, ln, lo, hi, vl, gx, gy, sl, si2_6, kc2_7, FF2_8, fa, fg, ft, hn1, hR, hA, hGs, hT, hkd, (za_Pr (w1 := [(lb, .inl (cI, 25, .inl fx2))]) hP), (za_Dr (w1 := [(lb, .inl (cI, 25, .inl fx2))]) hD), hS⟩ (lv_sub hl [0, 7, 6, 5, 4, 3, 2, 1] rfl)
              · rw [nI_leI (by omega) (by omega)] at c_1520
                refine lv_iload hx hb dL_law_1523 (lv_at hl 7 rfl) ?_
                refine lv_aload_n hx hb dL_law_1525 rfl (lv_at hl 1 rfl) ?_
                refine lv_iload hx hb dL_law_1526 (lv_at hl 9 rfl) ?_
                refine lv_iload hx hb dL_law_1528 (lv_at hl 8 rfl) ?_
                refine lv_iload hx hb dL_law_1530 (lv_at hl 13 rfl) ?_
                refine z_callAX (w1 := [(lb, .inl (cI, 25, .inl fx2)), (la, .inl (cI, 25, .inl fa)), (lg, .inl (cI, 4, .inl fg)), (lt, .inl (cI, 17, .inl ft))]) (As := [.ref (ad 0), .int (nI rk), .int bq, .int (nI i)]) (rest := [.int 1]) ⟨hx, hb, hml, hown, hts⟩ hG hK hP hD hS (cR_branch l hfl D cI cJ ad n kd ln lo hi vl gx gy sl si3 kc3 FF3 (nI rk) bq (nI i) (by first | assumption | omega | decide)) (vx_cwSW (hh := [(0, 9, 12, 22), (0, 9, 18, 14), (0, 9, 24, 16)]) 4 hts gL_law_L_branch rfl rfl rfl (by decide +kernel) ⟨Nat.le_of_ble_eq_true rfl, Nat.le_of_ble_eq_true rfl⟩) (fun _ => rfl) rfl hl.1 rfl (Nat.le_of_ble_eq_true rfl) dL_law_1532 ⟨(show c9 + 2 ≤ 600104 by omega), (show s9 + 12 ≤ 7301314 by omega)⟩ (fun u_43 H locs hu_44 hP hD hS => ?_)
                obtain ⟨kk_45, si2_46, kc2_47, FF2_48⟩ := u_43
                have hu_44 : (zL0 (FF2_48 3) (FF2_48 4) (FF2_48 5) (FF2_48 6)) ∧ (zJ n (nI i) → (0 ≤ (nI rk) ∧ (nI rk) < 10) → zPw lo hi n ≤ 40000 → (nI rk) < nI (zAll kd ln lo hi vl n gx gy sl bq).1 → (0 ≤ bq ∧ bq ≤ 2) → (kk_45 = zPk lo hi n ((zAll kd ln lo hi vl n gx gy sl bq).2.2 (nI rk).toNatClampNeg) (nI i).toNatClampNeg)) ∧ ((¬ zJ n (nI i) ∨ ¬ (0 ≤ (nI rk) ∧ (nI rk) < 10) ∨ (zPw lo hi n ≤ 40000 ∧ ¬ (nI rk) < nI (zAll kd ln lo hi vl n gx gy sl bq).1)) → (kk_45 = (-7100))) ∧ (zJ n (nI i) → (0 ≤ (nI rk) ∧ (nI rk) < 10) → (zPw lo hi n ≤ 40000 → (nI rk) < nI (zAll kd ln lo hi vl n gx gy sl bq).1) → ¬ (0 ≤ bq ∧ bq ≤ 2) → (kk_45 = (-7200))) ∧ (zJ n (nI i) → (0 ≤ (nI rk) ∧ (nI rk) < 10) → (0 ≤ bq ∧ bq ≤ 2) → ¬ zPw lo hi n ≤ 40000 → (kk_45 = (-7300))) := hu_44
                obtain ⟨e_49, e_50, e_51, e_52, e_53⟩ := hu_44
                have r_54 : (kk_45 = (-7100)) := e_51 (Or.inr (Or.inr ⟨hfew, hnf9⟩))
                subst r_54
                have hP : va_P D vwCl ([(lb, .inl (cI, 25, .inl fx2)), (la, .inl (cI, 25, .inl fa)), (lg, .inl (cI, 4, .inl fg)), (lt, .inl (cI, 17, .inl ft))] ++ zWR cI cJ ad n kd ln lo hi vl gx gy sl si2_46 kc2_47 FF2_48) H := hP
                have hD : va_D A0 ([(lb, .inl (cI, 25, .inl fx2)), (la, .inl (cI, 25, .inl fa)), (lg, .inl (cI, 4, .inl fg)), (lt, .inl (cI, 17, .inl ft))] ++ zWR cI cJ ad n kd ln lo hi vl gx gy sl si2_46 kc2_47 FF2_48) := hD
                refine z_topi (y := -7100) rfl ?_
                replace hR := zRo_of hR e_49
                refine lv_iload hx hb dL_law_1535 (lv_at hl 11 rfl) ?_
                refine lv_iconst (v := (-1)) hx hb dL_law_1537 (by decide) ?_
                refine lv_icmp_ne (tgt := 1547) hx hb dL_law_1538 (by decide) (fun c_1538 => ?_) (fun c_1538 => ?_)
                · exact absurd (by decide) c_1538
                · refine lv_sipush (v := (-7100)) hx hb dL_law_1541 (by decide) ?_
                  refine lv_goto (tgt := 1556) hx hb dL_law_1544 (by decide) ?_
                  refine lv_icmp_ne (tgt := 1563) hx hb dL_law_1556 (by decide) (fun c_1556 => ?_) (fun c_1556 => ?_)
                  · exact absurd (by decide) c_1556
                  · refine lv_iconst (v := 1) hx hb dL_law_1559 (by decide) ?_
                    refine lv_goto (tgt := 1564) hx hb dL_law_1560 (by decide) ?_
                    refine lv_iand hx hb dL_law_1564 ?_
                    refine z_topi (y := 1) (by decide) ?_
                    refine lv_istore (lv' := [(9, .int 1), (0, .ref b), (1, .ref (ad 0)), (2, .ref la), (3, .ref lg), (4, .ref lt), (5, .int (nI tau)), (7, .int uu), (25, .int bq), (26, .int (nI rk)), (27, .int (nI (zAll kd ln lo hi vl n gx gy sl bq).1)), (28, .int (-1)), (29, .ref lb), (30, .int (nI i))]) hx hb dL_law_1565 hl (by decide) rfl (fun ls hl => ?_)
                    refine lv_iinc (v := nI (i + 1)) (lv' := [(30, .int (nI (i + 1))), (9, .int 1), (0, .ref b), (1, .ref (ad 0)), (2, .ref la), (3, .ref lg), (4, .ref lt), (5, .int (nI tau)), (7, .int uu), (25, .int bq), (26, .int (nI rk)), (27, .int (nI (zAll kd ln lo hi vl n gx gy sl bq).1)), (28, .int (-1)), (29, .ref lb)]) hx hb dL_law_1567 hl (k := 13) rfl ((nI_succ _).symm) (by decide) rfl (fun ls hl => ?_)
                    refine lv_goto (tgt := 1515) hx hb dL_law_1570 (by decide) ?_
                    exact ih_1515_2 (i + 1) si2_46 kc2_47 FF2_48 (c9 + 2) (s9 + 6 * 2) (by omega) (hR) (by omega) (by omega) (by omega) _ _ hP hD hS _ (lv_sub hl [2, 3, 4, 5, 6, 7, 8, 1, 9, 10, 11, 12, 13, 0] rfl)
          exact lp_1515_2 ((n - 0) + 1) 0 si kc FF (cells + 1) (slots + 25) (Nat.zero_le n) (hR) (by omega) (by omega) (Nat.lt_succ_self _) _ _ hP hD hS _ (lv_sub hl [1, 2, 3, 4, 5, 6, 7, 8, 9, 10, 11, 12, 13, 0] rfl)
        · exact absurd (by decide) c_1501
      · rw [nI_leI (by omega) (by omega)] at c_1480
        refine lv_aload hx hb dL_law_1483 (lv_at hl 12 rfl) ?_
        refine lv_iload hx hb dL_law_1485 (lv_at hl 13 rfl) ?_
        refine lv_aload_n hx hb dL_law_1487 rfl (lv_at hl 2 rfl) ?_
        refine lv_iload hx hb dL_law_1488 (lv_at hl 13 rfl) ?_
        refine z_iald hx hb hK hP 1 rfl (j := i) (by omega) (by decide) dL_law_1490 ?_
        refine z_iast hx hb hK hP hD hS 0 rfl (j := i) (by omega) (by decide) dL_law_1491 (fun H locs hP hD hS => ?_)
        have hP : va_P D vwCl ([(lb, .inl (cI, 25, .inl (upd fx2 i (fa i)))), (la, .inl (cI, 25, .inl fa)), (lg, .inl (cI, 4, .inl fg)), (lt, .inl (cI, 17, .inl ft))] ++ zWR cI cJ ad n kd ln lo hi vl gx gy sl si kc FF) H := hP
        have hD : va_D A0 ([(lb, .inl (cI, 25, .inl (upd fx2 i (fa i)))), (la, .inl (cI, 25, .inl fa)), (lg, .inl (cI, 4, .inl fg)), (lt, .inl (cI, 17, .inl ft))] ++ zWR cI cJ ad n kd ln lo hi vl gx gy sl si kc FF) := hD
        refine lv_iinc (v := nI (i + 1)) (lv' := [(30, .int (nI (i + 1))), (0, .ref b), (1, .ref (ad 0)), (2, .ref la), (3, .ref lg), (4, .ref lt), (5, .int (nI tau)), (7, .int uu), (9, .int 1), (25, .int bq), (26, .int (nI rk)), (27, .int (nI (zAll kd ln lo hi vl n gx gy sl bq).1)), (28, .int (-1)), (29, .ref lb)]) hx hb dL_law_1492 hl (k := 13) rfl ((nI_succ _).symm) (by decide) rfl (fun ls hl => ?_)
        refine lv_goto (tgt := 1476) hx hb dL_law_1495 (by decide) ?_
        exact ih_1476_1 (i + 1) (upd fx2 i (fa i)) (by omega) (zupd_ok hfx2 rfl) (by omega) _ _ hP hD hS _ (lv_sub hl [1, 2, 3, 4, 5, 6, 7, 8, 9, 10, 11, 12, 13, 0] rfl)
  exact lp_1476_1 ((25 - 0) + 1) 0 (fun _ => 0) (Nat.zero_le 25) (fun k h9 => absurd h9 (Nat.not_lt_zero k)) (Nat.lt_succ_self _) _ _ hP hD hS _ (lv_sub hl [13, 12, 11, 10, 9, 8, 7, 6, 5, 4, 3, 2, 1, 0] rfl)
