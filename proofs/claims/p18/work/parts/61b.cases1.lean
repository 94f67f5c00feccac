/-! the law's cases: set, goal, slack -/
set_option maxHeartbeats 4000000 in
set_option maxRecDepth 100000 in
theorem law_set {p : Program} {l : Launch} {e : Env} {s : State} {m : MethodId} {args : Array Value} {below : List Frame} {meth : Method} {c : Code} {D : va_G} {cI cJ : ClassId} {A0 : Nat → Prop} {Q : State → Prop} {b la lg lt tau : Nat} {ad : Nat → Nat} {n : Nat} {kd : Nat → Int32} {ln : Nat → Int32} {lo : Nat → Int32} {hi : Nat → Int32} {vl : Nat → Int32} {gx : Int32} {gy : Int32} {sl : Int32} {si : Nat → Int32} {kc : Nat → Int64} {FF : Nat → Nat → Int32} {fa fg ft : Nat → Int32} {uu vv : Int32} {jj : Nat} (hfl : l.stackTraces = false) (C : zC p m c meth cL_law 34 s args wsL_law RL D cI cJ A0 []) (hNw : ∀ q : Nat, s.heap.size ≤ q → A0 q) (hR : zRo n kd ln lo hi vl gx gy sl FF) (hA : zAr n fa kd ln lo hi vl) (hGs : zGs fg n gx gy sl) (hT : zTt ft) (hkd : zKd n kd) (hn1 : 1 ≤ n) (hjj : jj < n) {H : Heap} {locs : List Loc} {cells slots : Nat} {ls : Array Slot} (hc : cells + 40 ≤ 600104) (hs : slots + 240 ≤ 7301314) (hP : va_P D vwCl ([(la, .inl (cI, 25, .inl fa)), (lg, .inl (cI, 4, .inl fg)), (lt, .inl (cI, 17, .inl ft))] ++ zWR cI cJ ad n kd ln lo hi vl gx gy sl si kc FF) H) (hD : va_D A0 ([(la, .inl (cI, 25, .inl fa)), (lg, .inl (cI, 4, .inl fg)), (lt, .inl (cI, 17, .inl ft))] ++ zWR cI cJ ad n kd ln lo hi vl gx gy sl si kc FF)) (hS : va_S A0 s.heap H locs) (hl : lv_has ls 34 [(9, .int 1), (8, .int (nI jj)), (7, .int uu), (6, .int vv), (5, .int (nI tau)), (4, .ref lt), (3, .ref lg), (2, .ref la), (1, .ref (ad 0)), (0, .ref b)]) (kk9 : ∀ (H1 : Heap) (locs1 : List Loc) (ls1 : Array Slot) (c1 s1 : Nat), c1 ≤ cells + 40 → s1 ≤ slots + 240 → zLv D cI cJ A0 s.heap H1 locs1 ad la lg lt 1 → lv_has ls1 34 [(9, .int 1), (7, .int uu), (5, .int (nI tau)), (4, .ref lt), (3, .ref lg), (2, .ref la), (1, .ref (ad 0)), (0, .ref b)] → W p l e room_1 s m args below meth c H1 locs1 c1 s1 Q (F0 m 1740 ls1 [])) : W p l e room_1 s m args below meth c H locs cells slots Q (F0 m 517 ls []) := by
  obtain ⟨⟨hx, hb, hml, hown, hts⟩, hG, hK, hD0, hlocks⟩ := C
  have hok := hR.1
  have hn := hok.1
  have hgx := hR.2.1
  have hgy := hR.2.2.1
  have hsl := hR.2.2.2.1
  have hcl9 : (nI jj).toNatClampNeg = jj := nI_clamp (by omega)
  refine lv_aload_n hx hb dL_law_517 rfl (lv_at hl 6 rfl) ?_
  refine lv_iconst (v := nI 0) hx hb dL_law_518 (rfl) ?_
  refine z_iald hx hb hK hP 1 rfl (j := 0) (by omega) (by decide) dL_law_519 ?_
  refine z_topi (y := nI n) (hGs.1) ?_
  refine lv_if_ne (tgt := 526) hx hb dL_law_520 (by decide) (fun c_520 => ?_) (fun c_520 => ?_)
  · refine lv_iload hx hb dL_law_526 (lv_at hl 2 rfl) ?_
    refine lv_sipush (v := nI 170) hx hb dL_law_528 (rfl) ?_
    refine z_call0 (As := [.int uu, .int (nI 170)]) (rest := []) ⟨hx, hb, hml, hown, hts⟩ hG hK hP hD hS (zML_of (c_L_low l D cI cJ uu 170 (by first | assumption | omega | decide))) (va_cwS 2 hts gL_law_L_low rfl rfl rfl (by decide +kernel) ⟨Nat.le_of_ble_eq_true rfl, Nat.le_of_ble_eq_true rfl⟩) (fun _ => rfl) rfl hl.1 rfl (Nat.le_of_ble_eq_true rfl) dL_law_531 ⟨(show cells + 0 ≤ 600104 by omega), (show slots + 0 ≤ 7301314 by omega)⟩ (fun u_1 H locs hu_2 hP hD hS => ?_)
    obtain ⟨r_3, rfl⟩ : ∃ z, z = u_1 := ⟨_, rfl⟩
    have hu_2 : (r_3 = nI (zLw uu 170)) := hu_2
    have e_4 := hu_2
    subst e_4
    have hP : va_P D vwCl ([(la, .inl (cI, 25, .inl fa)), (lg, .inl (cI, 4, .inl fg)), (lt, .inl (cI, 17, .inl ft))] ++ zWR cI cJ ad n kd ln lo hi vl gx gy sl si kc FF) H := hP
    have hD : va_D A0 ([(la, .inl (cI, 25, .inl fa)), (lg, .inl (cI, 4, .inl fg)), (lt, .inl (cI, 17, .inl ft))] ++ zWR cI cJ ad n kd ln lo hi vl gx gy sl si kc FF) := hD
    refine lv_bipush (v := 50) hx hb dL_law_534 (by decide) ?_
    refine lv_isub hx hb dL_law_536 ?_
    refine lv_istore (lv' := [(17, .int ((nI (zLw uu 170)) - 50)), (9, .int 1), (8, .int (nI jj)), (7, .int uu), (6, .int vv), (5, .int (nI tau)), (4, .ref lt), (3, .ref lg), (2, .ref la), (1, .ref (ad 0)), (0, .ref b)]) hx hb dL_law_537 hl (by decide) rfl (fun ls hl => ?_)
    refine lv_iload hx hb dL_law_539 (lv_at hl 0 rfl) ?_
    refine lv_aload_n hx hb dL_law_541 rfl (lv_at hl 8 rfl) ?_
    refine lv_iconst (v := nI 5) hx hb dL_law_542 (rfl) ?_
    refine lv_iload hx hb dL_law_543 (lv_at hl 2 rfl) ?_
    refine lv_imul hx hb dL_law_545 ?_
    refine z_topi (y := nI (5 * jj)) (pk_mul 5 _) ?_
    refine lv_iconst (v := nI 2) hx hb dL_law_546 (rfl) ?_
    refine lv_iadd hx hb dL_law_547 ?_
    refine z_topi (y := nI (5 * jj + 2)) (nI_add _ _) ?_
    refine z_iald hx hb hK hP 0 rfl (j := (5 * jj + 2)) (by omega) (by decide) dL_law_548 ?_
    refine z_topi (y := lo jj) ((hA jj (by omega)).2.2.1) ?_
    refine lv_icmp_lt (tgt := 569) hx hb dL_law_549 (by decide) (fun c_549 => ?_) (fun c_549 => ?_)
    · refine lv_iconst (v := 0) hx hb dL_law_569 (by decide) ?_
      refine lv_istore (lv' := [(18, .int 0), (17, .int ((nI (zLw uu 170)) - 50)), (9, .int 1), (8, .int (nI jj)), (7, .int uu), (6, .int vv), (5, .int (nI tau)), (4, .ref lt), (3, .ref lg), (2, .ref la), (1, .ref (ad 0)), (0, .ref b)]) hx hb dL_law_570 hl (by decide) rfl (fun ls hl => ?_)
      refine lv_iload hx hb dL_law_572 (lv_at hl 4 rfl) ?_
      refine lv_iconst (v := 1) hx hb dL_law_574 (by decide) ?_
      refine lv_iand hx hb dL_law_575 ?_
      refine lv_if_ne (tgt := 625) hx hb dL_law_576 (by decide) (fun c_576 => ?_) (fun c_576 => ?_)
      · obtain ⟨tv9, htv9⟩ : ∃ z9, z9 = (nI (zLw uu 170)) - 50 := ⟨_, rfl⟩
        rw [← htv9] at hl
        have hin9 : ¬ (lo jj ≤ tv9 ∧ tv9 ≤ hi jj) := by rw [htv9]; first | exact fun h => absurd c_549 (Int32.not_lt.mpr h.1) | exact fun h => absurd c_562 (Int32.not_lt.mpr h.2)
        refine lv_aload_n hx hb dL_law_625 rfl (lv_at hl 10 rfl) ?_
        refine lv_iload hx hb dL_law_626 (lv_at hl 3 rfl) ?_
        refine lv_iload hx hb dL_law_628 (lv_at hl 1 rfl) ?_
        refine z_callAX (w1 := [(la, .inl (cI, 25, .inl fa)), (lg, .inl (cI, 4, .inl fg)), (lt, .inl (cI, 17, .inl ft))]) (As := [.ref (ad 0), .int (nI jj), .int tv9]) (rest := []) ⟨hx, hb, hml, hown, hts⟩ hG hK hP hD hS (cR_set l hfl D cI cJ ad n kd ln lo hi vl gx gy sl si kc FF (nI jj) tv9 (by first | assumption | omega | decide)) (vx_cwSW (hh := [(0, 7, 10, 22), (0, 7, 16, 14)]) 3 hts gL_law_L_set rfl rfl rfl (by decide +kernel) ⟨Nat.le_of_ble_eq_true rfl, Nat.le_of_ble_eq_true rfl⟩) (fun _ => rfl) rfl hl.1 rfl (Nat.le_of_ble_eq_true rfl) dL_law_630 ⟨(show cells + 2 ≤ 600104 by omega), (show slots + 12 ≤ 7301314 by omega)⟩ (fun u_5 H locs hu_6 hP hD hS => ?_)
        obtain ⟨kk_7, vl2_8, si2_9, kc2_10, FF2_11⟩ := u_5
        have hu_6 : (zL0 (FF2_11 3) (FF2_11 4) (FF2_11 5) (FF2_11 6)) ∧ (zJ n (nI jj) → (lo ((nI jj).toNatClampNeg) ≤ tv9 ∧ tv9 ≤ hi ((nI jj).toNatClampNeg)) → (kk_7 = vl (nI jj).toNatClampNeg) ∧ (vl2_8 = upd vl ((nI jj).toNatClampNeg) tv9)) ∧ (zJ n (nI jj) → ¬ (lo ((nI jj).toNatClampNeg) ≤ tv9 ∧ tv9 ≤ hi ((nI jj).toNatClampNeg)) → (kk_7 = (-7200)) ∧ (vl2_8 = vl)) := hu_6
        obtain ⟨e_12, e_13, e_14⟩ := hu_6
        obtain ⟨r_15, r_16⟩ : (kk_7 = (-7200)) ∧ (vl2_8 = vl) := e_14 (zJ_lt hn hjj) (by rw [hcl9]; exact hin9)
        subst r_15
        replace r_16 := r_16.symm
        subst r_16
        have hP : va_P D vwCl ([(la, .inl (cI, 25, .inl fa)), (lg, .inl (cI, 4, .inl fg)), (lt, .inl (cI, 17, .inl ft))] ++ zWR cI cJ ad n kd ln lo hi vl gx gy sl si2_9 kc2_10 FF2_11) H := hP
        have hD : va_D A0 ([(la, .inl (cI, 25, .inl fa)), (lg, .inl (cI, 4, .inl fg)), (lt, .inl (cI, 17, .inl ft))] ++ zWR cI cJ ad n kd ln lo hi vl gx gy sl si2_9 kc2_10 FF2_11) := hD
        refine z_topi (y := -7200) rfl ?_
        replace hR := zRo_of hR e_12
        refine lv_iload hx hb dL_law_633 (lv_at hl 0 rfl) ?_
        refine lv_if_eq (tgt := 649) hx hb dL_law_635 (by decide) (fun c_635 => ?_) (fun c_635 => ?_)
        · refine lv_sipush (v := (-7200)) hx hb dL_law_649 (by decide) ?_
          refine lv_icmp_ne (tgt := 659) hx hb dL_law_652 (by decide) (fun c_652 => ?_) (fun c_652 => ?_)
          · exact absurd (by decide) c_652
          · refine lv_iconst (v := 1) hx hb dL_law_655 (by decide) ?_
            refine lv_goto (tgt := 660) hx hb dL_law_656 (by decide) ?_
            refine lv_istore (lv' := [(9, .int 1), (18, .int 0), (17, .int tv9), (8, .int (nI jj)), (7, .int uu), (6, .int vv), (5, .int (nI tau)), (4, .ref lt), (3, .ref lg), (2, .ref la), (1, .ref (ad 0)), (0, .ref b)]) hx hb dL_law_660 hl (by decide) rfl (fun ls hl => ?_)
            refine lv_aload_n hx hb dL_law_662 rfl (lv_at hl 9 rfl) ?_
            refine lv_iconst (v := nI 5) hx hb dL_law_663 (rfl) ?_
            refine lv_iload hx hb dL_law_664 (lv_at hl 3 rfl) ?_
            refine lv_imul hx hb dL_law_666 ?_
            refine z_topi (y := nI (5 * jj)) (pk_mul 5 _) ?_
            refine lv_iconst (v := nI 4) hx hb dL_law_667 (rfl) ?_
            refine lv_iadd hx hb dL_law_668 ?_
            refine z_topi (y := nI (5 * jj + 4)) (nI_add _ _) ?_
            refine lv_iload hx hb dL_law_669 (lv_at hl 1 rfl) ?_
            refine lv_if_eq (tgt := 679) hx hb dL_law_671 (by decide) (fun c_671 => ?_) (fun c_671 => ?_)
            · refine lv_aload_n hx hb dL_law_679 rfl (lv_at hl 9 rfl) ?_
              refine lv_iconst (v := nI 5) hx hb dL_law_680 (rfl) ?_
              refine lv_iload hx hb dL_law_681 (lv_at hl 3 rfl) ?_
              refine lv_imul hx hb dL_law_683 ?_
              refine z_topi (y := nI (5 * jj)) (pk_mul 5 _) ?_
              refine lv_iconst (v := nI 4) hx hb dL_law_684 (rfl) ?_
              refine lv_iadd hx hb dL_law_685 ?_
              refine z_topi (y := nI (5 * jj + 4)) (nI_add _ _) ?_
              refine z_iald hx hb hK hP 0 rfl (j := (5 * jj + 4)) (by omega) (by decide) dL_law_686 ?_
              refine z_topi (y := vl jj) ((hA jj (by omega)).2.2.2.2) ?_
              refine z_iast hx hb hK hP hD hS 0 rfl (j := (5 * jj + 4)) (by omega) (by decide) dL_law_687 (fun H locs hP hD hS => ?_)
              have hP : va_P D vwCl ([(la, .inl (cI, 25, .inl (upd fa (5 * jj + 4) (vl jj)))), (lg, .inl (cI, 4, .inl fg)), (lt, .inl (cI, 17, .inl ft))] ++ zWR cI cJ ad n kd ln lo hi vl gx gy sl si2_9 kc2_10 FF2_11) H := hP
              have hD : va_D A0 ([(la, .inl (cI, 25, .inl (upd fa (5 * jj + 4) (vl jj)))), (lg, .inl (cI, 4, .inl fg)), (lt, .inl (cI, 17, .inl ft))] ++ zWR cI cJ ad n kd ln lo hi vl gx gy sl si2_9 kc2_10 FF2_11) := hD
              refine lv_goto (tgt := 1740) hx hb dL_law_688 (by decide) ?_
              exact kk9 _ _ _ _ _ (by omega) (by omega) ⟨n, kd, ln, lo, hi, vl, gx, gy, sl, si2_9, kc2_10, FF2_11, upd fa (5 * jj + 4) (vl jj), fg, ft, hn1, hR, (zAr_same hA hjj), hGs, hT, hkd, hP, hD, hS⟩ (lv_sub hl [0, 4, 6, 7, 8, 9, 10, 11] rfl)
            · exact absurd (by decide) c_671
        · exact absurd (by decide) c_635
      · refine lv_iload hx hb dL_law_579 (lv_at hl 0 rfl) ?_
        refine lv_if_ne (tgt := 625) hx hb dL_law_581 (by decide) (fun c_581 => ?_) (fun c_581 => ?_)
        · exact absurd (by decide) c_581
        · refine lv_aload_n hx hb dL_law_584 rfl (lv_at hl 9 rfl) ?_
          refine lv_iconst (v := nI 5) hx hb dL_law_585 (rfl) ?_
          refine lv_iload hx hb dL_law_586 (lv_at hl 3 rfl) ?_
          refine lv_imul hx hb dL_law_588 ?_
          refine z_topi (y := nI (5 * jj)) (pk_mul 5 _) ?_
          refine lv_iconst (v := nI 2) hx hb dL_law_589 (rfl) ?_
          refine lv_iadd hx hb dL_law_590 ?_
          refine z_topi (y := nI (5 * jj + 2)) (nI_add _ _) ?_
          refine z_iald hx hb hK hP 0 rfl (j := (5 * jj + 2)) (by omega) (by decide) dL_law_591 ?_
          refine z_topi (y := lo jj) ((hA jj (by omega)).2.2.1) ?_
          refine lv_iload hx hb dL_law_592 (lv_at hl 4 rfl) ?_
          refine lv_bipush (v := 8) hx hb dL_law_594 (by decide) ?_
          refine lv_ishr hx hb dL_law_596 ?_
          refine lv_aload_n hx hb dL_law_597 rfl (lv_at hl 9 rfl) ?_
          refine lv_iconst (v := nI 5) hx hb dL_law_598 (rfl) ?_
          refine lv_iload hx hb dL_law_599 (lv_at hl 3 rfl) ?_
          refine lv_imul hx hb dL_law_601 ?_
          refine z_topi (y := nI (5 * jj)) (pk_mul 5 _) ?_
          refine lv_iconst (v := nI 3) hx hb dL_law_602 (rfl) ?_
          refine lv_iadd hx hb dL_law_603 ?_
          refine z_topi (y := nI (5 * jj + 3)) (nI_add _ _) ?_
          refine z_iald hx hb hK hP 0 rfl (j := (5 * jj + 3)) (by omega) (by decide) dL_law_604 ?_
          refine z_topi (y := hi jj) ((hA jj (by omega)).2.2.2.1) ?_
          refine lv_aload_n hx hb dL_law_605 rfl (lv_at hl 9 rfl) ?_
          refine lv_iconst (v := nI 5) hx hb dL_law_606 (rfl) ?_
          refine lv_iload hx hb dL_law_607 (lv_at hl 3 rfl) ?_
          refine lv_imul hx hb dL_law_609 ?_
          refine z_topi (y := nI (5 * jj)) (pk_mul 5 _) ?_
          refine lv_iconst (v := nI 2) hx hb dL_law_610 (rfl) ?_
          refine lv_iadd hx hb dL_law_611 ?_
          refine z_topi (y := nI (5 * jj + 2)) (nI_add _ _) ?_
          refine z_iald hx hb hK hP 0 rfl (j := (5 * jj + 2)) (by omega) (by decide) dL_law_612 ?_
          refine z_topi (y := lo jj) ((hA jj (by omega)).2.2.1) ?_
          refine lv_isub hx hb dL_law_613 ?_
          refine lv_iconst (v := 1) hx hb dL_law_614 (by decide) ?_
          refine lv_iadd hx hb dL_law_615 ?_
          refine z_topi (y := nI (zWd lo hi jj)) (zWd_nI hok hjj) ?_
          refine z_call0 (As := [.int (uu >>> (8 &&& 31)), .int (nI (zWd lo hi jj))]) (rest := [.int (lo jj)]) ⟨hx, hb, hml, hown, hts⟩ hG hK hP hD hS (zML_of (c_L_low l D cI cJ (uu >>> (8 &&& 31)) (zWd lo hi jj) (zWd_ok hok hjj))) (va_cwS 2 hts gL_law_L_low rfl rfl rfl (by decide +kernel) ⟨Nat.le_of_ble_eq_true rfl, Nat.le_of_ble_eq_true rfl⟩) (fun _ => rfl) rfl hl.1 rfl (Nat.le_of_ble_eq_true rfl) dL_law_616 ⟨(show cells + 0 ≤ 600104 by omega), (show slots + 0 ≤ 7301314 by omega)⟩ (fun u_17 H locs hu_18 hP hD hS => ?_)
          obtain ⟨r_19, rfl⟩ : ∃ z, z = u_17 := ⟨_, rfl⟩
          have hu_18 : (r_19 = nI (zLw (uu >>> (8 &&& 31)) (zWd lo hi jj))) := hu_18
          have e_20 := hu_18
          subst e_20
          have hP : va_P D vwCl ([(la, .inl (cI, 25, .inl fa)), (lg, .inl (cI, 4, .inl fg)), (lt, .inl (cI, 17, .inl ft))] ++ zWR cI cJ ad n kd ln lo hi vl gx gy sl si kc FF) H := hP
          have hD : va_D A0 ([(la, .inl (cI, 25, .inl fa)), (lg, .inl (cI, 4, .inl fg)), (lt, .inl (cI, 17, .inl ft))] ++ zWR cI cJ ad n kd ln lo hi vl gx gy sl si kc FF) := hD
          refine lv_iadd hx hb dL_law_619 ?_
          refine lv_istore (lv' := [(17, .int ((lo jj) + (nI (zLw (uu >>> (8 &&& 31)) (zWd lo hi jj))))), (18, .int 0), (9, .int 1), (8, .int (nI jj)), (7, .int uu), (6, .int vv), (5, .int (nI tau)), (4, .ref lt), (3, .ref lg), (2, .ref la), (1, .ref (ad 0)), (0, .ref b)]) hx hb dL_law_620 hl (by decide) rfl (fun ls hl => ?_)
          refine lv_iconst (v := 1) hx hb dL_law_622 (by decide) ?_
          refine lv_istore (lv' := [(18, .int 1), (17, .int ((lo jj) + (nI (zLw (uu >>> (8 &&& 31)) (zWd lo hi jj))))), (9, .int 1), (8, .int (nI jj)), (7, .int uu), (6, .int vv), (5, .int (nI tau)), (4, .ref lt), (3, .ref lg), (2, .ref la), (1, .ref (ad 0)), (0, .ref b)]) hx hb dL_law_623 hl (by decide) rfl (fun ls hl => ?_)
          obtain ⟨tv9, htv9⟩ : ∃ z9, z9 = (lo jj) + (nI (zLw (uu >>> (8 &&& 31)) (zWd lo hi jj))) := ⟨_, rfl⟩
          rw [← htv9] at hl
          have hin9 : lo jj ≤ tv9 ∧ tv9 ≤ hi jj := by rw [htv9]; first | exact zAdj hok hjj _ | exact ⟨Int32.not_lt.mp c_549, Int32.not_lt.mp c_562⟩
          refine lv_aload_n hx hb dL_law_625 rfl (lv_at hl 10 rfl) ?_
          refine lv_iload hx hb dL_law_626 (lv_at hl 3 rfl) ?_
          refine lv_iload hx hb dL_law_628 (lv_at hl 1 rfl) ?_
          refine z_callAX (w1 := [(la, .inl (cI, 25, .inl fa)), (lg, .inl (cI, 4, .inl fg)), (lt, .inl (cI, 17, .inl ft))]) (As := [.ref (ad 0), .int (nI jj), .int tv9]) (rest := []) ⟨hx, hb, hml, hown, hts⟩ hG hK hP hD hS (cR_set l hfl D cI cJ ad n kd ln lo hi vl gx gy sl si kc FF (nI jj) tv9 (by first | assumption | omega | decide)) (vx_cwSW (hh := [(0, 7, 10, 22), (0, 7, 16, 14)]) 3 hts gL_law_L_set rfl rfl rfl (by decide +kernel) ⟨Nat.le_of_ble_eq_true rfl, Nat.le_of_ble_eq_true rfl⟩) (fun _ => rfl) rfl hl.1 rfl (Nat.le_of_ble_eq_true rfl) dL_law_630 ⟨(show cells + 2 ≤ 600104 by omega), (show slots + 12 ≤ 7301314 by omega)⟩ (fun u_21 H locs hu_22 hP hD hS => ?_)
          obtain ⟨kk_23, vl2_24, si2_25, kc2_26, FF2_27⟩ := u_21
          have hu_22 : (zL0 (FF2_27 3) (FF2_27 4) (FF2_27 5) (FF2_27 6)) ∧ (zJ n (nI jj) → (lo ((nI jj).toNatClampNeg) ≤ tv9 ∧ tv9 ≤ hi ((nI jj).toNatClampNeg)) → (kk_23 = vl (nI jj).toNatClampNeg) ∧ (vl2_24 = upd vl ((nI jj).toNatClampNeg) tv9)) ∧ (zJ n (nI jj) → ¬ (lo ((nI jj).toNatClampNeg) ≤ tv9 ∧ tv9 ≤ hi ((nI jj).toNatClampNeg)) → (kk_23 = (-7200)) ∧ (vl2_24 = vl)) := hu_22
          obtain ⟨e_28, e_29, e_30⟩ := hu_22
          obtain ⟨r_31, r_32⟩ : (kk_23 = vl (nI jj).toNatClampNeg) ∧ (vl2_24 = upd vl ((nI jj).toNatClampNeg) tv9) := e_29 (zJ_lt hn hjj) (by rw [hcl9]; exact hin9)
          replace r_31 : kk_23 = vl jj := r_31.trans (by rw [hcl9])
          replace r_32 : vl2_24 = upd vl jj tv9 := r_32.trans (by rw [hcl9])
          subst r_31
          subst r_32
          have hP : va_P D vwCl ([(la, .inl (cI, 25, .inl fa)), (lg, .inl (cI, 4, .inl fg)), (lt, .inl (cI, 17, .inl ft))] ++ zWR cI cJ ad n kd ln lo hi (upd vl jj tv9) gx gy sl si2_25 kc2_26 FF2_27) H := hP
          have hD : va_D A0 ([(la, .inl (cI, 25, .inl fa)), (lg, .inl (cI, 4, .inl fg)), (lt, .inl (cI, 17, .inl ft))] ++ zWR cI cJ ad n kd ln lo hi (upd vl jj tv9) gx gy sl si2_25 kc2_26 FF2_27) := hD
          refine z_topi (y := vl jj) rfl ?_
          replace hR := zRo_v hR e_28 (hok.upd hin9.1 hin9.2)
          refine lv_iload hx hb dL_law_633 (lv_at hl 0 rfl) ?_
          refine lv_if_eq (tgt := 649) hx hb dL_law_635 (by decide) (fun c_635 => ?_) (fun c_635 => ?_)
          · exact absurd c_635 (by decide)
          · refine lv_aload_n hx hb dL_law_638 rfl (lv_at hl 9 rfl) ?_
            refine lv_iconst (v := nI 5) hx hb dL_law_639 (rfl) ?_
            refine lv_iload hx hb dL_law_640 (lv_at hl 3 rfl) ?_
            refine lv_imul hx hb dL_law_642 ?_
            refine z_topi (y := nI (5 * jj)) (pk_mul 5 _) ?_
            refine lv_iconst (v := nI 4) hx hb dL_law_643 (rfl) ?_
            refine lv_iadd hx hb dL_law_644 ?_
            refine z_topi (y := nI (5 * jj + 4)) (nI_add _ _) ?_
            refine z_iald hx hb hK hP 0 rfl (j := (5 * jj + 4)) (by omega) (by decide) dL_law_645 ?_
            refine z_topi (y := vl jj) ((hA jj (by omega)).2.2.2.2) ?_
            refine lv_goto (tgt := 652) hx hb dL_law_646 (by decide) ?_
            refine lv_icmp_ne (tgt := 659) hx hb dL_law_652 (by decide) (fun c_652 => ?_) (fun c_652 => ?_)
            · exact absurd rfl c_652
            · refine lv_iconst (v := 1) hx hb dL_law_655 (by decide) ?_
              refine lv_goto (tgt := 660) hx hb dL_law_656 (by decide) ?_
              refine lv_istore (lv' := [(9, .int 1), (18, .int 1), (17, .int tv9), (8, .int (nI jj)), (7, .int uu), (6, .int vv), (5, .int (nI tau)), (4, .ref lt), (3, .ref lg), (2, .ref la), (1, .ref (ad 0)), (0, .ref b)]) hx hb dL_law_660 hl (by decide) rfl (fun ls hl => ?_)
              refine lv_aload_n hx hb dL_law_662 rfl (lv_at hl 9 rfl) ?_
              refine lv_iconst (v := nI 5) hx hb dL_law_663 (rfl) ?_
              refine lv_iload hx hb dL_law_664 (lv_at hl 3 rfl) ?_
              refine lv_imul hx hb dL_law_666 ?_
              refine z_topi (y := nI (5 * jj)) (pk_mul 5 _) ?_
              refine lv_iconst (v := nI 4) hx hb dL_law_667 (rfl) ?_
              refine lv_iadd hx hb dL_law_668 ?_
              refine z_topi (y := nI (5 * jj + 4)) (nI_add _ _) ?_
              refine lv_iload hx hb dL_law_669 (lv_at hl 1 rfl) ?_
              refine lv_if_eq (tgt := 679) hx hb dL_law_671 (by decide) (fun c_671 => ?_) (fun c_671 => ?_)
              · exact absurd c_671 (by decide)
              · refine lv_iload hx hb dL_law_674 (lv_at hl 2 rfl) ?_
                refine lv_goto (tgt := 687) hx hb dL_law_676 (by decide) ?_
                refine z_iast hx hb hK hP hD hS 0 rfl (j := (5 * jj + 4)) (by omega) (by decide) dL_law_687 (fun H locs hP hD hS => ?_)
                have hP : va_P D vwCl ([(la, .inl (cI, 25, .inl (upd fa (5 * jj + 4) tv9))), (lg, .inl (cI, 4, .inl fg)), (lt, .inl (cI, 17, .inl ft))] ++ zWR cI cJ ad n kd ln lo hi (upd vl jj tv9) gx gy sl si2_25 kc2_26 FF2_27) H := hP
                have hD : va_D A0 ([(la, .inl (cI, 25, .inl (upd fa (5 * jj + 4) tv9))), (lg, .inl (cI, 4, .inl fg)), (lt, .inl (cI, 17, .inl ft))] ++ zWR cI cJ ad n kd ln lo hi (upd vl jj tv9) gx gy sl si2_25 kc2_26 FF2_27) := hD
                refine lv_goto (tgt := 1740) hx hb dL_law_688 (by decide) ?_
                exact kk9 _ _ _ _ _ (by omega) (by omega) ⟨n, kd, ln, lo, hi, upd vl jj tv9, gx, gy, sl, si2_25, kc2_26, FF2_27, upd fa (5 * jj + 4) tv9, fg, ft, hn1, hR, (zAr_v hA hjj), hGs, hT, hkd, hP, hD, hS⟩ (lv_sub hl [0, 4, 6, 7, 8, 9, 10, 11] rfl)
    · refine lv_iload hx hb dL_law_552 (lv_at hl 0 rfl) ?_
      refine lv_aload_n hx hb dL_law_554 rfl (lv_at hl 8 rfl) ?_
      refine lv_iconst (v := nI 5) hx hb dL_law_555 (rfl) ?_
      refine lv_iload hx hb dL_law_556 (lv_at hl 2 rfl) ?_
      refine lv_imul hx hb dL_law_558 ?_
      refine z_topi (y := nI (5 * jj)) (pk_mul 5 _) ?_
      refine lv_iconst (v := nI 3) hx hb dL_law_559 (rfl) ?_
      refine lv_iadd hx hb dL_law_560 ?_
      refine z_topi (y := nI (5 * jj + 3)) (nI_add _ _) ?_
      refine z_iald hx hb hK hP 0 rfl (j := (5 * jj + 3)) (by omega) (by decide) dL_law_561 ?_
      refine z_topi (y := hi jj) ((hA jj (by omega)).2.2.2.1) ?_
      refine lv_icmp_gt (tgt := 569) hx hb dL_law_562 (by decide) (fun c_562 => ?_) (fun c_562 => ?_)
      · refine lv_iconst (v := 0) hx hb dL_law_569 (by decide) ?_
        refine lv_istore (lv' := [(18, .int 0), (17, .int ((nI (zLw uu 170)) - 50)), (9, .int 1), (8, .int (nI jj)), (7, .int uu), (6, .int vv), (5, .int (nI tau)), (4, .ref lt), (3, .ref lg), (2, .ref la), (1, .ref (ad 0)), (0, .ref b)]) hx hb dL_law_570 hl (by decide) rfl (fun ls hl => ?_)
        refine lv_iload hx hb dL_law_572 (lv_at hl 4 rfl) ?_
        refine lv_iconst (v := 1) hx hb dL_law_574 (by decide) ?_
        refine lv_iand hx hb dL_law_575 ?_
        refine lv_if_ne (tgt := 625) hx hb dL_law_576 (by decide) (fun c_576 => ?_) (fun c_576 => ?_)
        · obtain ⟨tv9, htv9⟩ : ∃ z9, z9 = (nI (zLw uu 170)) - 50 := ⟨_, rfl⟩
          rw [← htv9] at hl
          have hin9 : ¬ (lo jj ≤ tv9 ∧ tv9 ≤ hi jj) := by rw [htv9]; first | exact fun h => absurd c_549 (Int32.not_lt.mpr h.1) | exact fun h => absurd c_562 (Int32.not_lt.mpr h.2)
          refine lv_aload_n hx hb dL_law_625 rfl (lv_at hl 10 rfl) ?_
          refine lv_iload hx hb dL_law_626 (lv_at hl 3 rfl) ?_
          refine lv_iload hx hb dL_law_628 (lv_at hl 1 rfl) ?_
          refine z_callAX (w1 := [(la, .inl (cI, 25, .inl fa)), (lg, .inl (cI, 4, .inl fg)), (lt, .inl (cI, 17, .inl ft))]) (As := [.ref (ad 0), .int (nI jj), .int tv9]) (rest := []) ⟨hx, hb, hml, hown, hts⟩ hG hK hP hD hS (cR_set l hfl D cI cJ ad n kd ln lo hi vl gx gy sl si kc FF (nI jj) tv9 (by first | assumption | omega | decide)) (vx_cwSW (hh := [(0, 7, 10, 22), (0, 7, 16, 14)]) 3 hts gL_law_L_set rfl rfl rfl (by decide +kernel) ⟨Nat.le_of_ble_eq_true rfl, Nat.le_of_ble_eq_true rfl⟩) (fun _ => rfl) rfl hl.1 rfl (Nat.le_of_ble_eq_true rfl) dL_law_630 ⟨(show cells + 2 ≤ 600104 by omega), (show slots + 12 ≤ 7301314 by omega)⟩ (fun u_33 H locs hu_34 hP hD hS => ?_)
          obtain ⟨kk_35, vl2_36, si2_37, kc2_38, FF2_39⟩ := u_33
          have hu_34 : (zL0 (FF2_39 3) (FF2_39 4) (FF2_39 5) (FF2_39 6)) ∧ (zJ n (nI jj) → (lo ((nI jj).toNatClampNeg) ≤ tv9 ∧ tv9 ≤ hi ((nI jj).toNatClampNeg)) → (kk_35 = vl (nI jj).toNatClampNeg) ∧ (vl2_36 = upd vl ((nI jj).toNatClampNeg) tv9)) ∧ (zJ n (nI jj) → ¬ (lo ((nI jj).toNatClampNeg) ≤ tv9 ∧ tv9 ≤ hi ((nI jj).toNatClampNeg)) → (kk_35 = (-7200)) ∧ (vl2_36 = vl)) := hu_34
          obtain ⟨e_40, e_41, e_42⟩ := hu_34
          obtain ⟨r_43, r_44⟩ : (kk_35 = (-7200)) ∧ (vl2_36 = vl) := e_42 (zJ_lt hn hjj) (by rw [hcl9]; exact hin9)
          subst r_43
          replace r_44 := r_44.symm
          subst r_44
          have hP : va_P D vwCl ([(la, .inl (cI, 25, .inl fa)), (lg, .inl (cI, 4, .inl fg)), (lt, .inl (cI, 17, .inl ft))] ++ zWR cI cJ ad n kd ln lo hi vl gx gy sl si2_37 kc2_38 FF2_39) H := hP
          have hD : va_D A0 ([(la, .inl (cI, 25, .inl fa)), (lg, .inl (cI, 4, .inl fg)), (lt, .inl (cI, 17, .inl ft))] ++ zWR cI cJ ad n kd ln lo hi vl gx gy sl si2_37 kc2_38 FF2_39) := hD
          refine z_topi (y := -7200) rfl ?_
          replace hR := zRo_of hR e_40
          refine lv_iload hx hb dL_law_633 (lv_at hl 0 rfl) ?_
          refine lv_if_eq (tgt := 649) hx hb dL_law_635 (by decide) (fun c_635 => ?_) (fun c_635 => ?_)
          · refine lv_sipush (v := (-7200)) hx hb dL_law_649 (by decide) ?_
            refine lv_icmp_ne (tgt := 659) hx hb dL_law_652 (by decide) (fun c_652 => ?_) (fun c_652 => ?_)
            · exact absurd (by decide) c_652
            · refine lv_iconst (v := 1) hx hb dL_law_655 (by decide) ?_
              refine lv_goto (tgt := 660) hx hb dL_law_656 (by decide) ?_
              refine lv_istore (lv' := [(9, .int 1), (18, .int 0), (17, .int tv9), (8, .int (nI jj)), (7, .int uu), (6, .int vv), (5, .int (nI tau)), (4, .ref lt), (3, .ref lg), (2, .ref la), (1, .ref (ad 0)), (0, .ref b)]) hx hb dL_law_660 hl (by decide) rfl (fun ls hl => ?_)
              refine lv_aload_n hx hb dL_law_662 rfl (lv_at hl 9 rfl) ?_
              refine lv_iconst (v := nI 5) hx hb dL_law_663 (rfl) ?_
              refine lv_iload hx hb dL_law_664 (lv_at hl 3 rfl) ?_
              refine lv_imul hx hb dL_law_666 ?_
              refine z_topi (y := nI (5 * jj)) (pk_mul 5 _) ?_
              refine lv_iconst (v := nI 4) hx hb dL_law_667 (rfl) ?_
              refine lv_iadd hx hb dL_law_668 ?_
              refine z_topi (y := nI (5 * jj + 4)) (nI_add _ _) ?_
              refine lv_iload hx hb dL_law_669 (lv_at hl 1 rfl) ?_
              refine lv_if_eq (tgt := 679) hx hb dL_law_671 (by decide) (fun c_671 => ?_) (fun c_671 => ?_)
              · refine lv_aload_n hx hb dL_law_679 rfl (lv_at hl 9 rfl) ?_
                refine lv_iconst (v := nI 5) hx hb dL_law_680 (rfl) ?_
                refine lv_iload hx hb dL_law_681 (lv_at hl 3 rfl) ?_
                refine lv_imul hx hb dL_law_683 ?_
                refine z_topi (y := nI (5 * jj)) (pk_mul 5 _) ?_
                refine lv_iconst (v := nI 4) hx hb dL_law_684 (rfl) ?_
                refine lv_iadd hx hb dL_law_685 ?_
                refine z_topi (y := nI (5 * jj + 4)) (nI_add _ _) ?_
                refine z_iald hx hb hK hP 0 rfl (j := (5 * jj + 4)) (by omega) (by decide) dL_law_686 ?_
                refine z_topi (y := vl jj) ((hA jj (by omega)).2.2.2.2) ?_
                refine z_iast hx hb hK hP hD hS 0 rfl (j := (5 * jj + 4)) (by omega) (by decide) dL_law_687 (fun H locs hP hD hS => ?_)
                have hP : va_P D vwCl ([(la, .inl (cI, 25, .inl (upd fa (5 * jj + 4) (vl jj)))), (lg, .inl (cI, 4, .inl fg)), (lt, .inl (cI, 17, .inl ft))] ++ zWR cI cJ ad n kd ln lo hi vl gx gy sl si2_37 kc2_38 FF2_39) H := hP
                have hD : va_D A0 ([(la, .inl (cI, 25, .inl (upd fa (5 * jj + 4) (vl jj)))), (lg, .inl (cI, 4, .inl fg)), (lt, .inl (cI, 17, .inl ft))] ++ zWR cI cJ ad n kd ln lo hi vl gx gy sl si2_37 kc2_38 FF2_39) := hD
                refine lv_goto (tgt := 1740) hx hb dL_law_688 (by decide) ?_
                exact kk9 _ _ _ _ _ (by omega) (by omega) ⟨n, kd, ln, lo, hi, vl, gx, gy, sl, si2_37, kc2_38, FF2_39, upd fa (5 * jj + 4) (vl jj), fg, ft, hn1, hR, (zAr_same hA hjj), hGs, hT, hkd, hP, hD, hS⟩ (lv_sub hl [0, 4, 6, 7, 8, 9, 10, 11] rfl)
              · exact absurd (by decide) c_671
          · exact absurd (by decide) c_635
        · refine lv_iload hx hb dL_law_579 (lv_at hl 0 rfl) ?_
          refine lv_if_ne (tgt := 625) hx hb dL_law_581 (by decide) (fun c_581 => ?_) (fun c_581 => ?_)
          · exact absurd (by decide) c_581
          · refine lv_aload_n hx hb dL_law_584 rfl (lv_at hl 9 rfl) ?_
            refine lv_iconst (v := nI 5) hx hb dL_law_585 (rfl) ?_
            refine lv_iload hx hb dL_law_586 (lv_at hl 3 rfl) ?_
            refine lv_imul hx hb dL_law_588 ?_
            refine z_topi (y := nI (5 * jj)) (pk_mul 5 _) ?_
            refine lv_iconst (v := nI 2) hx hb dL_law_589 (rfl) ?_
            refine lv_iadd hx hb dL_law_590 ?_
            refine z_topi (y := nI (5 * jj + 2)) (nI_add _ _) ?_
            refine z_iald hx hb hK hP 0 rfl (j := (5 * jj + 2)) (by omega) (by decide) dL_law_591 ?_
            refine z_topi (y := lo jj) ((hA jj (by omega)).2.2.1) ?_
            refine lv_iload hx hb dL_law_592 (lv_at hl 4 rfl) ?_
            refine lv_bipush (v := 8) hx hb dL_law_594 (by decide) ?_
            refine lv_ishr hx hb dL_law_596 ?_
            refine lv_aload_n hx hb dL_law_597 rfl (lv_at hl 9 rfl) ?_
            refine lv_iconst (v := nI 5) hx hb dL_law_598 (rfl) ?_
            refine lv_iload hx hb dL_law_599 (lv_at hl 3 rfl) ?_
            refine lv_imul hx hb dL_law_601 ?_
            refine z_topi (y := nI (5 * jj)) (pk_mul 5 _) ?_
            refine lv_iconst (v := nI 3) hx hb dL_law_602 (rfl) ?_
            refine lv_iadd hx hb dL_law_603 ?_
            refine z_topi (y := nI (5 * jj + 3)) (nI_add _ _) ?_
            refine z_iald hx hb hK hP 0 rfl (j := (5 * jj + 3)) (by omega) (by decide) dL_law_604 ?_
            refine z_topi (y := hi jj) ((hA jj (by omega)).2.2.2.1) ?_
            refine lv_aload_n hx hb dL_law_605 rfl (lv_at hl 9 rfl) ?_
            refine lv_iconst (v := nI 5) hx hb dL_law_606 (rfl) ?_
            refine lv_iload hx hb dL_law_607 (lv_at hl 3 rfl) ?_
            refine lv_imul hx hb dL_law_609 ?_
            refine z_topi (y := nI (5 * jj)) (pk_mul 5 _) ?_
            refine lv_iconst (v := nI 2) hx hb dL_law_610 (rfl) ?_
            refine lv_iadd hx hb dL_law_611 ?_
            refine z_topi (y := nI (5 * jj + 2)) (nI_add _ _) ?_
            refine z_iald hx hb hK hP 0 rfl (j := (5 * jj + 2)) (by omega) (by decide) dL_law_612 ?_
            refine z_topi (y := lo jj) ((hA jj (by omega)).2.2.1) ?_
            refine lv_isub hx hb dL_law_613 ?_
            refine lv_iconst (v := 1) hx hb dL_law_614 (by decide) ?_
            refine lv_iadd hx hb dL_law_615 ?_
            refine z_topi (y := nI (zWd lo hi jj)) (zWd_nI hok hjj) ?_
            refine z_call0 (As := [.int (uu >>> (8 &&& 31)), .int (nI (zWd lo hi jj))]) (rest := [.int (lo jj)]) ⟨hx, hb, hml, hown, hts⟩ hG hK hP hD hS (zML_of (c_L_low l D cI cJ (uu >>> (8 &&& 31)) (zWd lo hi jj) (zWd_ok hok hjj))) (va_cwS 2 hts gL_law_L_low rfl rfl rfl (by decide +kernel) ⟨Nat.le_of_ble_eq_true rfl, Nat.le_of_ble_eq_true rfl⟩) (fun _ => rfl) rfl hl.1 rfl (Nat.le_of_ble_eq_true rfl) dL_law_616 ⟨(show cells + 0 ≤ 600104 by omega), (show slots + 0 ≤ 7301314 by omega)⟩ (fun u_45 H locs hu_46 hP hD hS => ?_)
            obtain ⟨r_47, rfl⟩ : ∃ z, z = u_45 := ⟨_, rfl⟩
            have hu_46 : (r_47 = nI (zLw (uu >>> (8 &&& 31)) (zWd lo hi jj))) := hu_46
            have e_48 := hu_46
            subst e_48
            have hP : va_P D vwCl ([(la, .inl (cI, 25, .inl fa)), (lg, .inl (cI, 4, .inl fg)), (lt, .inl (cI, 17, .inl ft))] ++ zWR cI cJ ad n kd ln lo hi vl gx gy sl si kc FF) H := hP
            have hD : va_D A0 ([(la, .inl (cI, 25, .inl fa)), (lg, .inl (cI, 4, .inl fg)), (lt, .inl (cI, 17, .inl ft))] ++ zWR cI cJ ad n kd ln lo hi vl gx gy sl si kc FF) := hD
            refine lv_iadd hx hb dL_law_619 ?_
            refine lv_istore (lv' := [(17, .int ((lo jj) + (nI (zLw (uu >>> (8 &&& 31)) (zWd lo hi jj))))), (18, .int 0), (9, .int 1), (8, .int (nI jj)), (7, .int uu), (6, .int vv), (5, .int (nI tau)), (4, .ref lt), (3, .ref lg), (2, .ref la), (1, .ref (ad 0)), (0, .ref b)]) hx hb dL_law_620 hl (by decide) rfl (fun ls hl => ?_)
            refine lv_iconst (v := 1) hx hb dL_law_622 (by decide) ?_
            refine lv_istore (lv' := [(18, .int 1), (17, .int ((lo jj) + (nI (zLw (uu >>> (8 &&& 31)) (zWd lo hi jj))))), (9, .int 1), (8, .int (nI jj)), (7, .int uu), (6, .int vv), (5, .int (nI tau)), (4, .ref lt), (3, .ref lg), (2, .ref la), (1, .ref (ad 0)), (0, .ref b)]) hx hb dL_law_623 hl (by decide) rfl (fun ls hl => ?_)
            obtain ⟨tv9, htv9⟩ : ∃ z9, z9 = (lo jj) + (nI (zLw (uu >>> (8 &&& 31)) (zWd lo hi jj))) := ⟨_, rfl⟩
            rw [← htv9] at hl
            have hin9 : lo jj ≤ tv9 ∧ tv9 ≤ hi jj := by rw [htv9]; first | exact zAdj hok hjj _ | exact ⟨Int32.not_lt.mp c_549, Int32.not_lt.mp c_562⟩
            refine lv_aload_n hx hb dL_law_625 rfl (lv_at hl 10 rfl) ?_
            refine lv_iload hx hb dL_law_626 (lv_at hl 3 rfl) ?_
            refine lv_iload hx hb dL_law_628 (lv_at hl 1 rfl) ?_
            refine z_callAX (w1 := [(la, .inl (cI, 25, .inl fa)), (lg, .inl (cI, 4, .inl fg)), (lt, .inl (cI, 17, .inl ft))]) (As := [.ref (ad 0), .int (nI jj), .int tv9]) (rest := []) ⟨hx, hb, hml, hown, hts⟩ hG hK hP hD hS (cR_set l hfl D cI cJ ad n kd ln lo hi vl gx gy sl si kc FF (nI jj) tv9 (by first | assumption | omega | decide)) (vx_cwSW (hh := [(0, 7, 10, 22), (0, 7, 16, 14)]) 3 hts gL_law_L_set rfl rfl rfl (by decide +kernel) ⟨Nat.le_of_ble_eq_true rfl, Nat.le_of_ble_eq_true rfl⟩) (fun _ => rfl) rfl hl.1 rfl (Nat.le_of_ble_eq_true rfl) dL_law_630 ⟨(show cells + 2 ≤ 600104 by omega), (show slots + 12 ≤ 7301314 by omega)⟩ (fun u_49 H locs hu_50 hP hD hS => ?_)
            obtain ⟨kk_51, vl2_52, si2_53, kc2_54, FF2_55⟩ := u_49
            have hu_50 : (zL0 (FF2_55 3) (FF2_55 4) (FF2_55 5) (FF2_55 6)) ∧ (zJ n (nI jj) → (lo ((nI jj).toNatClampNeg) ≤ tv9 ∧ tv9 ≤ hi ((nI jj).toNatClampNeg)) → (kk_51 = vl (nI jj).toNatClampNeg) ∧ (vl2_52 = upd vl ((nI jj).toNatClampNeg) tv9)) ∧ (zJ n (nI jj) → ¬ (lo ((nI jj).toNatClampNeg) ≤ tv9 ∧ tv9 ≤ hi ((nI jj).toNatClampNeg)) → (kk_51 = (-7200)) ∧ (vl2_52 = vl)) := hu_50
            obtain ⟨e_56, e_57, e_58⟩ := hu_50
            obtain ⟨r_59, r_60⟩ : (kk_51 = vl (nI jj).toNatClampNeg) ∧ (vl2_52 = upd vl ((nI jj).toNatClampNeg) tv9) := e_57 (zJ_lt hn hjj) (by rw [hcl9]; exact hin9)
            replace r_59 : kk_51 = vl jj := r_59.trans (by rw [hcl9])
            replace r_60 : vl2_52 = upd vl jj tv9 := r_60.trans (by rw [hcl9])
            subst r_59
            subst r_60
            have hP : va_P D vwCl ([(la, .inl (cI, 25, .inl fa)), (lg, .inl (cI, 4, .inl fg)), (lt, .inl (cI, 17, .inl ft))] ++ zWR cI cJ ad n kd ln lo hi (upd vl jj tv9) gx gy sl si2_53 kc2_54 FF2_55) H := hP
            have hD : va_D A0 ([(la, .inl (cI, 25, .inl fa)), (lg, .inl (cI, 4, .inl fg)), (lt, .inl (cI, 17, .inl ft))] ++ zWR cI cJ ad n kd ln lo hi (upd vl jj tv9) gx gy sl si2_53 kc2_54 FF2_55) := hD
            refine z_topi (y := vl jj) rfl ?_
            replace hR := zRo_v hR e_56 (hok.upd hin9.1 hin9.2)
            refine lv_iload hx hb dL_law_633 (lv_at hl 0 rfl) ?_
            refine lv_if_eq (tgt := 649) hx hb dL_law_635 (by decide) (fun c_635 => ?_) (fun c_635 => ?_)
            · exact absurd c_635 (by decide)
            · refine lv_aload_n hx hb dL_law_638 rfl (lv_at hl 9 rfl) ?_
              refine lv_iconst (v := nI 5) hx hb dL_law_639 (rfl) ?_
              refine lv_iload hx hb dL_law_640 (lv_at hl 3 rfl) ?_
              refine lv_imul hx hb dL_law_642 ?_
              refine z_topi (y := nI (5 * jj)) (pk_mul 5 _) ?_
              refine lv_iconst (v := nI 4) hx hb dL_law_643 (rfl) ?_
              refine lv_iadd hx hb dL_law_644 ?_
              refine z_topi (y := nI (5 * jj + 4)) (nI_add _ _) ?_
              refine z_iald hx hb hK hP 0 rfl (j := (5 * jj + 4)) (by omega) (by decide) dL_law_645 ?_
              refine z_topi (y := vl jj) ((hA jj (by omega)).2.2.2.2) ?_
              refine lv_goto (tgt := 652) hx hb dL_law_646 (by decide) ?_
              refine lv_icmp_ne (tgt := 659) hx hb dL_law_652 (by decide) (fun c_652 => ?_) (fun c_652 => ?_)
              · exact absurd rfl c_652
              · refine lv_iconst (v := 1) hx hb dL_law_655 (by decide) ?_
                refine lv_goto (tgt := 660) hx hb dL_law_656 (by decide) ?_
                refine lv_istore (lv' := [(9, .int 1), (18, .int 1), (17, .int tv9), (8, .int (nI jj)), (7, .int uu), (6, .int vv), (5, .int (nI tau)), (4, .ref lt), (3, .ref lg), (2, .ref la), (1, .ref (ad 0)), (0, .ref b)]) hx hb dL_law_660 hl (by decide) rfl (fun ls hl => ?_)
                refine lv_aload_n hx hb dL_law_662 rfl (lv_at hl 9 rfl) ?_
                refine lv_iconst (v := nI 5) hx hb dL_law_663 (rfl) ?_
                refine lv_iload hx hb dL_law_664 (lv_at hl 3 rfl) ?_
                refine lv_imul hx hb dL_law_666 ?_
                refine z_topi (y := nI (5 * jj)) (pk_mul 5 _) ?_
                refine lv_iconst (v := nI 4) hx hb dL_law_667 (rfl) ?_
                refine lv_iadd hx hb dL_law_668 ?_
                refine z_topi (y := nI (5 * jj + 4)) (nI_add _ _) ?_
                refine lv_iload hx hb dL_law_669 (lv_at hl 1 rfl) ?_
                refine lv_if_eq (tgt := 679) hx hb dL_law_671 (by decide) (fun c_671 => ?_) (fun c_671 => ?_)
                · exact absurd c_671 (by decide)
                · refine lv_iload hx hb dL_law_674 (lv_at hl 2 rfl) ?_
                  refine lv_goto (tgt := 687) hx hb dL_law_676 (by decide) ?_
                  refine z_iast hx hb hK hP hD hS 0 rfl (j := (5 * jj + 4)) (by omega) (by decide) dL_law_687 (fun H locs hP hD hS => ?_)
                  have hP : va_P D vwCl ([(la, .inl (cI, 25, .inl (upd fa (5 * jj + 4) tv9))), (lg, .inl (cI, 4, .inl fg)), (lt, .inl (cI, 17, .inl ft))] ++ zWR cI cJ ad n kd ln lo hi (upd vl jj tv9) gx gy sl si2_53 kc2_54 FF2_55) H := hP
                  have hD : va_D A0 ([(la, .inl (cI, 25, .inl (upd fa (5 * jj + 4) tv9))), (lg, .inl (cI, 4, .inl fg)), (lt, .inl (cI, 17, .inl ft))] ++ zWR cI cJ ad n kd ln lo hi (upd vl jj tv9) gx gy sl si2_53 kc2_54 FF2_55) := hD
                  refine lv_goto (tgt := 1740) hx hb dL_law_688 (by decide) ?_
                  exact kk9 _ _ _ _ _ (by omega) (by omega) ⟨n, kd, ln, lo, hi, upd vl jj tv9, gx, gy, sl, si2_53, kc2_54, FF2_55, upd fa (5 * jj + 4) tv9, fg, ft, hn1, hR, (zAr_v hA hjj), hGs, hT, hkd, hP, hD, hS⟩ (lv_sub hl [0, 4, 6, 7, 8, 9, 10, 11] rfl)
      · refine lv_iconst (v := 1) hx hb dL_law_565 (by decide) ?_
        refine lv_goto (tgt := 570) hx hb dL_law_566 (by decide) ?_
        refine lv_istore (lv' := [(18, .int 1), (17, .int ((nI (zLw uu 170)) - 50)), (9, .int 1), (8, .int (nI jj)), (7, .int uu), (6, .int vv), (5, .int (nI tau)), (4, .ref lt), (3, .ref lg), (2, .ref la), (1, .ref (ad 0)), (0, .ref b)]) hx hb dL_law_570 hl (by decide) rfl (fun ls hl => ?_)
        refine lv_iload hx hb dL_law_572 (lv_at hl 4 rfl) ?_
        refine lv_iconst (v := 1) hx hb dL_law_574 (by decide) ?_
        refine lv_iand hx hb dL_law_575 ?_
        refine lv_if_ne (tgt := 625) hx hb dL_law_576 (by decide) (fun c_576 => ?_) (fun c_576 => ?_)
        · obtain ⟨tv9, htv9⟩ : ∃ z9, z9 = (nI (zLw uu 170)) - 50 := ⟨_, rfl⟩
          rw [← htv9] at hl
          have hin9 : lo jj ≤ tv9 ∧ tv9 ≤ hi jj := by rw [htv9]; first | exact zAdj hok hjj _ | exact ⟨Int32.not_lt.mp c_549, Int32.not_lt.mp c_562⟩
          refine lv_aload_n hx hb dL_law_625 rfl (lv_at hl 10 rfl) ?_
          refine lv_iload hx hb dL_law_626 (lv_at hl 3 rfl) ?_
          refine lv_iload hx hb dL_law_628 (lv_at hl 1 rfl) ?_
          refine z_callAX (w1 := [(la, .inl (cI, 25, .inl fa)), (lg, .inl (cI, 4, .inl fg)), (lt, .inl (cI, 17, .inl ft))]) (As := [.ref (ad 0), .int (nI jj), .int tv9]) (rest := []) ⟨hx, hb, hml, hown, hts⟩ hG hK hP hD hS (cR_set l hfl D cI cJ ad n kd ln lo hi vl gx gy sl si kc FF (nI jj) tv9 (by first | assumption | omega | decide)) (vx_cwSW (hh := [(0, 7, 10, 22), (0, 7, 16, 14)]) 3 hts gL_law_L_set rfl rfl rfl (by decide +kernel) ⟨Nat.le_of_ble_eq_true rfl, Nat.le_of_ble_eq_true rfl⟩) (fun _ => rfl) rfl hl.1 rfl (Nat.le_of_ble_eq_true rfl) dL_law_630 ⟨(show cells + 2 ≤ 600104 by omega), (show slots + 12 ≤ 7301314 by omega)⟩ (fun u_61 H locs hu_62 hP hD hS => ?_)
          obtain ⟨kk_63, vl2_64, si2_65, kc2_66, FF2_67⟩ := u_61
          have hu_62 : (zL0 (FF2_67 3) (FF2_67 4) (FF2_67 5) (FF2_67 6)) ∧ (zJ n (nI jj) → (lo ((nI jj).toNatClampNeg) ≤ tv9 ∧ tv9 ≤ hi ((nI jj).toNatClampNeg)) → (kk_63 = vl (nI jj).toNatClampNeg) ∧ (vl2_64 = upd vl ((nI jj).toNatClampNeg) tv9)) ∧ (zJ n (nI jj) → ¬ (lo ((nI jj).toNatClampNeg) ≤ tv9 ∧ tv9 ≤ hi ((nI jj).toNatClampNeg)) → (kk_63 = (-7200)) ∧ (vl2_64 = vl)) := hu_62
          obtain ⟨e_68, e_69, e_70⟩ := hu_62
          obtain ⟨r_71, r_72⟩ : (kk_63 = vl (nI jj).toNatClampNeg) ∧ (vl2_64 = upd vl ((nI jj).toNatClampNeg) tv9) := e_69 (zJ_lt hn hjj) (by rw [hcl9]; exact hin9)
          replace r_71 : kk_63 = vl jj := r_71.trans (by rw [hcl9])
          replace r_72 : vl2_64 = upd vl jj tv9 := r_72.trans (by rw [hcl9])
          subst r_71
          subst r_72
          have hP : va_P D vwCl ([(la, .inl (cI, 25, .inl fa)), (lg, .inl (cI, 4, .inl fg)), (lt, .inl (cI, 17, .inl ft))] ++ zWR cI cJ ad n kd ln lo hi (upd vl jj tv9) gx gy sl si2_65 kc2_66 FF2_67) H := hP
          have hD : va_D A0 ([(la, .inl (cI, 25, .inl fa)), (lg, .inl (cI, 4, .inl fg)), (lt, .inl (cI, 17, .inl ft))] ++ zWR cI cJ ad n kd ln lo hi (upd vl jj tv9) gx gy sl si2_65 kc2_66 FF2_67) := hD
          refine z_topi (y := vl jj) rfl ?_
          replace hR := zRo_v hR e_68 (hok.upd hin9.1 hin9.2)
          refine lv_iload hx hb dL_law_633 (lv_at hl 0 rfl) ?_
          refine lv_if_eq (tgt := 649) hx hb dL_law_635 (by decide) (fun c_635 => ?_) (fun c_635 => ?_)
          · exact absurd c_635 (by decide)
          · refine lv_aload_n hx hb dL_law_638 rfl (lv_at hl 9 rfl) ?_
            refine lv_iconst (v := nI 5) hx hb dL_law_639 (rfl) ?_
            refine lv_iload hx hb dL_law_640 (lv_at hl 3 rfl) ?_
            refine lv_imul hx hb dL_law_642 ?_
            refine z_topi (y := nI (5 * jj)) (pk_mul 5 _) ?_
            refine lv_iconst (v := nI 4) hx hb dL_law_643 (rfl) ?_
            refine lv_iadd hx hb dL_law_644 ?_
            refine z_topi (y := nI (5 * jj + 4)) (nI_add _ _) ?_
            refine z_iald hx hb hK hP 0 rfl (j := (5 * jj + 4)) (by omega) (by decide) dL_law_645 ?_
            refine z_topi (y := vl jj) ((hA jj (by omega)).2.2.2.2) ?_
            refine lv_goto (tgt := 652) hx hb dL_law_646 (by decide) ?_
            refine lv_icmp_ne (tgt := 659) hx hb dL_law_652 (by decide) (fun c_652 => ?_) (fun c_652 => ?_)
            · exact absurd rfl c_652
            · refine lv_iconst (v := 1) hx hb dL_law_655 (by decide) ?_
              refine lv_goto (tgt := 660) hx hb dL_law_656 (by decide) ?_
              refine lv_istore (lv' := [(9, .int 1), (18, .int 1), (17, .int tv9), (8, .int (nI jj)), (7, .int uu), (6, .int vv), (5, .int (nI tau)), (4, .ref lt), (3, .ref lg), (2, .ref la), (1, .ref (ad 0)), (0, .ref b)]) hx hb dL_law_660 hl (by decide) rfl (fun ls hl => ?_)
              refine lv_aload_n hx hb dL_law_662 rfl (lv_at hl 9 rfl) ?_
              refine lv_iconst (v := nI 5) hx hb dL_law_663 (rfl) ?_
              refine lv_iload hx hb dL_law_664 (lv_at hl 3 rfl) ?_
              refine lv_imul hx hb dL_law_666 ?_
              refine z_topi (y := nI (5 * jj)) (pk_mul 5 _) ?_
              refine lv_iconst (v := nI 4) hx hb dL_law_667 (rfl) ?_
              refine lv_iadd hx hb dL_law_668 ?_
              refine z_topi (y := nI (5 * jj + 4)) (nI_add _ _) ?_
              refine lv_iload hx hb dL_law_669 (lv_at hl 1 rfl) ?_
              refine lv_if_eq (tgt := 679) hx hb dL_law_671 (by decide) (fun c_671 => ?_) (fun c_671 => ?_)
              · exact absurd c_671 (by decide)
              · refine lv_iload hx hb dL_law_674 (lv_at hl 2 rfl) ?_
                refine lv_goto (tgt := 687) hx hb dL_law_676 (by decide) ?_
                refine z_iast hx hb hK hP hD hS 0 rfl (j := (5 * jj + 4)) (by omega) (by decide) dL_law_687 (fun H locs hP hD hS => ?_)
                have hP : va_P D vwCl ([(la, .inl (cI, 25, .inl (upd fa (5 * jj + 4) tv9))), (lg, .inl (cI, 4, .inl fg)), (lt, .inl (cI, 17, .inl ft))] ++ zWR cI cJ ad n kd ln lo hi (upd vl jj tv9) gx gy sl si2_65 kc2_66 FF2_67) H := hP
                have hD : va_D A0 ([(la, .inl (cI, 25, .inl (upd fa (5 * jj + 4) tv9))), (lg, .inl (cI, 4, .inl fg)), (lt, .inl (cI, 17, .inl ft))] ++ zWR cI cJ ad n kd ln lo hi (upd vl jj tv9) gx gy sl si2_65 kc2_66 FF2_67) := hD
                refine lv_goto (tgt := 1740) hx hb dL_law_688 (by decide) ?_
                exact kk9 _ _ _ _ _ (by omega) (by omega) ⟨n, kd, ln, lo, hi, upd vl jj tv9, gx, gy, sl, si2_65, kc2_66, FF2_67, upd fa (5 * jj + 4) tv9, fg, ft, hn1, hR, (zAr_v hA hjj), hGs, hT, hkd, hP, hD, hS⟩ (lv_sub hl [0, 4, 6, 7, 8, 9, 10, 11] rfl)
        · refine lv_iload hx hb dL_law_579 (lv_at hl 0 rfl) ?_
          refine lv_if_ne (tgt := 625) hx hb dL_law_581 (by decide) (fun c_581 => ?_) (fun c_581 => ?_)
          · obtain ⟨tv9, htv9⟩ : ∃ z9, z9 = (nI (zLw uu 170)) - 50 := ⟨_, rfl⟩
            rw [← htv9] at hl
            have hin9 : lo jj ≤ tv9 ∧ tv9 ≤ hi jj := by rw [htv9]; first | exact zAdj hok hjj _ | exact ⟨Int32.not_lt.mp c_549, Int32.not_lt.mp c_562⟩
            refine lv_aload_n hx hb dL_law_625 rfl (lv_at hl 10 rfl) ?_
            refine lv_iload hx hb dL_law_626 (lv_at hl 3 rfl) ?_
            refine lv_iload hx hb dL_law_628 (lv_at hl 1 rfl) ?_
            refine z_callAX (w1 := [(la, .inl (cI, 25, .inl fa)), (lg, .inl (cI, 4, .inl fg)), (lt, .inl (cI, 17, .inl ft))]) (As := [.ref (ad 0), .int (nI jj), .int tv9]) (rest := []) ⟨hx, hb, hml, hown, hts⟩ hG hK hP hD hS (cR_set l hfl D cI cJ ad n kd ln lo hi vl gx gy sl si kc FF (nI jj) tv9 (by first | assumption | omega | decide)) (vx_cwSW (hh := [(0, 7, 10, 22), (0, 7, 16, 14)]) 3 hts gL_law_L_set rfl rfl rfl (by decide +kernel) ⟨Nat.le_of_ble_eq_true rfl, Nat.le_of_ble_eq_true rfl⟩) (fun _ => rfl) rfl hl.1 rfl (Nat.le_of_ble_eq_true rfl) dL_law_630 ⟨(show cells + 2 ≤ 600104 by omega), (show slots + 12 ≤ 7301314 by omega)⟩ (fun u_73 H locs hu_74 hP hD hS => ?_)
            obtain ⟨kk_75, vl2_76, si2_77, kc2_78, FF2_79⟩ := u_73
            have hu_74 : (zL0 (FF2_79 3) (FF2_79 4) (FF2_79 5) (FF2_79 6)) ∧ (zJ n (nI jj) → (lo ((nI jj).toNatClampNeg) ≤ tv9 ∧ tv9 ≤ hi ((nI jj).toNatClampNeg)) → (kk_75 = vl (nI jj).toNatClampNeg) ∧ (vl2_76 = upd vl ((nI jj).toNatClampNeg) tv9)) ∧ (zJ n (nI jj) → ¬ (lo ((nI jj).toNatClampNeg) ≤ tv9 ∧ tv9 ≤ hi ((nI jj).toNatClampNeg)) → (kk_75 = (-7200)) ∧ (vl2_76 = vl)) := hu_74
            obtain ⟨e_80, e_81, e_82⟩ := hu_74
            obtain ⟨r_83, r_84⟩ : (kk_75 = vl (nI jj).toNatClampNeg) ∧ (vl2_76 = upd vl ((nI jj).toNatClampNeg) tv9) := e_81 (zJ_lt hn hjj) (by rw [hcl9]; exact hin9)
            replace r_83 : kk_75 = vl jj := r_83.trans (by rw [hcl9])
            replace r_84 : vl2_76 = upd vl jj tv9 := r_84.trans (by rw [hcl9])
            subst r_83
            subst r_84
            have hP : va_P D vwCl ([(la, .inl (cI, 25, .inl fa)), (lg, .inl (cI, 4, .inl fg)), (lt, .inl (cI, 17, .inl ft))] ++ zWR cI cJ ad n kd ln lo hi (upd vl jj tv9) gx gy sl si2_77 kc2_78 FF2_79) H := hP
            have hD : va_D A0 ([(la, .inl (cI, 25, .inl fa)), (lg, .inl (cI, 4, .inl fg)), (lt, .inl (cI, 17, .inl ft))] ++ zWR cI cJ ad n kd ln lo hi (upd vl jj tv9) gx gy sl si2_77 kc2_78 FF2_79) := hD
            refine z_topi (y := vl jj) rfl ?_
            replace hR := zRo_v hR e_80 (hok.upd hin9.1 hin9.2)
            refine lv_iload hx hb dL_law_633 (lv_at hl 0 rfl) ?_
            refine lv_if_eq (tgt := 649) hx hb dL_law_635 (by decide) (fun c_635 => ?_) (fun c_635 => ?_)
            · exact absurd c_635 (by decide)
            · refine lv_aload_n hx hb dL_law_638 rfl (lv_at hl 9 rfl) ?_
              refine lv_iconst (v := nI 5) hx hb dL_law_639 (rfl) ?_
              refine lv_iload hx hb dL_law_640 (lv_at hl 3 rfl) ?_
              refine lv_imul hx hb dL_law_642 ?_
              refine z_topi (y := nI (5 * jj)) (pk_mul 5 _) ?_
              refine lv_iconst (v := nI 4) hx hb dL_law_643 (rfl) ?_
              refine lv_iadd hx hb dL_law_644 ?_
              refine z_topi (y := nI (5 * jj + 4)) (nI_add _ _) ?_
              refine z_iald hx hb hK hP 0 rfl (j := (5 * jj + 4)) (by omega) (by decide) dL_law_645 ?_
              refine z_topi (y := vl jj) ((hA jj (by omega)).2.2.2.2) ?_
              refine lv_goto (tgt := 652) hx hb dL_law_646 (by decide) ?_
              refine lv_icmp_ne (tgt := 659) hx hb dL_law_652 (by decide) (fun c_652 => ?_) (fun c_652 => ?_)
              · exact absurd rfl c_652
              · refine lv_iconst (v := 1) hx hb dL_law_655 (by decide) ?_
                refine lv_goto (tgt := 660) hx hb dL_law_656 (by decide) ?_
                refine lv_istore (lv' := [(9, .int 1), (18, .int 1), (17, .int tv9), (8, .int (nI jj)), (7, .int uu), (6, .int vv), (5, .int (nI tau)), (4, .ref lt), (3, .ref lg), (2, .ref la), (1, .ref (ad 0)), (0, .ref b)]) hx hb dL_law_660 hl (by decide) rfl (fun ls hl => ?_)
                refine lv_aload_n hx hb dL_law_662 rfl (lv_at hl 9 rfl) ?_
                refine lv_iconst (v := nI 5) hx hb dL_law_663 (rfl) ?_
                refine lv_iload hx hb dL_law_664 (lv_at hl 3 rfl) ?_
                refine lv_imul hx hb dL_law_666 ?_
                refine z_topi (y := nI (5 * jj)) (pk_mul 5 _) ?_
                refine lv_iconst (v := nI 4) hx hb dL_law_667 (rfl) ?_
                refine lv_iadd hx hb dL_law_668 ?_
                refine z_topi (y := nI (5 * jj + 4)) (nI_add _ _) ?_
                refine lv_iload hx hb dL_law_669 (lv_at hl 1 rfl) ?_
                refine lv_if_eq (tgt := 679) hx hb dL_law_671 (by decide) (fun c_671 => ?_) (fun c_671 => ?_)
                · exact absurd c_671 (by decide)
                · refine lv_iload hx hb dL_law_674 (lv_at hl 2 rfl) ?_
                  refine lv_goto (tgt := 687) hx hb dL_law_676 (by decide) ?_
                  refine z_iast hx hb hK hP hD hS 0 rfl (j := (5 * jj + 4)) (by omega) (by decide) dL_law_687 (fun H locs hP hD hS => ?_)
                  have hP : va_P D vwCl ([(la, .inl (cI, 25, .inl (upd fa (5 * jj + 4) tv9))), (lg, .inl (cI, 4, .inl fg)), (lt, .inl (cI, 17, .inl ft))] ++ zWR cI cJ ad n kd ln lo hi (upd vl jj tv9) gx gy sl si2_77 kc2_78 FF2_79) H := hP
                  have hD : va_D A0 ([(la, .inl (cI, 25, .inl (upd fa (5 * jj + 4) tv9))), (lg, .inl (cI, 4, .inl fg)), (lt, .inl (cI, 17, .inl ft))] ++ zWR cI cJ ad n kd ln lo hi (upd vl jj tv9) gx gy sl si2_77 kc2_78 FF2_79) := hD
                  refine lv_goto (tgt := 1740) hx hb dL_law_688 (by decide) ?_
                  exact kk9 _ _ _ _ _ (by omega) (by omega) ⟨n, kd, ln, lo, hi, upd vl jj tv9, gx, gy, sl, si2_77, kc2_78, FF2_79, upd fa (5 * jj + 4) tv9, fg, ft, hn1, hR, (zAr_v hA hjj), hGs, hT, hkd, hP, hD, hS⟩ (lv_sub hl [0, 4, 6, 7, 8, 9, 10, 11] rfl)
          · exact absurd c_581 (by decide)
  · exact absurd c_520 (nI_ne0 (by omega) (by omega))

set_option maxHeartbeats 4000000 in
set_option maxRecDepth 100000 in
theorem law_goal {p : Program} {l : Launch} {e : Env} {s : State} {m : MethodId} {args : Array Value} {below : List Frame} {meth : Method} {c : Code} {D : va_G} {cI cJ : ClassId} {A0 : Nat → Prop} {Q : State → Prop} {b la lg lt tau : Nat} {ad : Nat → Nat} {n : Nat} {kd : Nat → Int32} {ln : Nat → Int32} {lo : Nat → Int32} {hi : Nat → Int32} {vl : Nat → Int32} {gx : Int32} {gy : Int32} {sl : Int32} {si : Nat → Int32} {kc : Nat → Int64} {FF : Nat → Nat → Int32} {fa fg ft : Nat → Int32} {uu vv : Int32} {jj : Nat} (hfl : l.stackTraces = false) (C : zC p m c meth cL_law 34 s args wsL_law RL D cI cJ A0 []) (hNw : ∀ q : Nat, s.heap.size ≤ q → A0 q) (hR : zRo n kd ln lo hi vl gx gy sl FF) (hA : zAr n fa kd ln lo hi vl) (hGs : zGs fg n gx gy sl) (hT : zTt ft) (hkd : zKd n kd) (hn1 : 1 ≤ n) (hjj : jj < n) {H : Heap} {locs : List Loc} {cells slots : Nat} {ls : Array Slot} (hc : cells + 40 ≤ 600104) (hs : slots + 240 ≤ 7301314) (hP : va_P D vwCl ([(la, .inl (cI, 25, .inl fa)), (lg, .inl (cI, 4, .inl fg)), (lt, .inl (cI, 17, .inl ft))] ++ zWR cI cJ ad n kd ln lo hi vl gx gy sl si kc FF) H) (hD : va_D A0 ([(la, .inl (cI, 25, .inl fa)), (lg, .inl (cI, 4, .inl fg)), (lt, .inl (cI, 17, .inl ft))] ++ zWR cI cJ ad n kd ln lo hi vl gx gy sl si kc FF)) (hS : va_S A0 s.heap H locs) (hl : lv_has ls 34 [(9, .int 1), (8, .int (nI jj)), (7, .int uu), (6, .int vv), (5, .int (nI tau)), (4, .ref lt), (3, .ref lg), (2, .ref la), (1, .ref (ad 0)), (0, .ref b)]) (kk9 : ∀ (H1 : Heap) (locs1 : List Loc) (ls1 : Array Slot) (c1 s1 : Nat), c1 ≤ cells + 40 → s1 ≤ slots + 240 → zLv D cI cJ A0 s.heap H1 locs1 ad la lg lt 1 → lv_has ls1 34 [(9, .int 1), (7, .int uu), (5, .int (nI tau)), (4, .ref lt), (3, .ref lg), (2, .ref la), (1, .ref (ad 0)), (0, .ref b)] → W p l e room_1 s m args below meth c H1 locs1 c1 s1 Q (F0 m 1740 ls1 [])) : W p l e room_1 s m args below meth c H locs cells slots Q (F0 m 691 ls []) := by
  obtain ⟨⟨hx, hb, hml, hown, hts⟩, hG, hK, hD0, hlocks⟩ := C
  have hok := hR.1
  have hn := hok.1
  have hgx := hR.2.1
  have hgy := hR.2.2.1
  have hsl := hR.2.2.2.1
  have jn_880_1 : ∀ (y1 : Int32) (y2 : Int32) (fgv : Nat → Int32), (zGs fgv n y1 y2 sl) → (zGl y1 y2) → ∀ (H : Heap) (locs : List Loc), va_P D vwCl ([(la, .inl (cI, 25, .inl fa)), (lg, .inl (cI, 4, .inl fgv)), (lt, .inl (cI, 17, .inl ft))] ++ zWR cI cJ ad n kd ln lo hi vl gx gy sl si kc FF) H → va_D A0 ([(la, .inl (cI, 25, .inl fa)), (lg, .inl (cI, 4, .inl fgv)), (lt, .inl (cI, 17, .inl ft))] ++ zWR cI cJ ad n kd ln lo hi vl gx gy sl si kc FF) → va_S A0 s.heap H locs → ∀ (ls : Array Slot), lv_has ls 34 [(0, .ref b), (1, .ref (ad 0)), (2, .ref la), (3, .ref lg), (4, .ref lt), (5, .int (nI tau)), (7, .int uu)] → W p l e (room_1) s m args below meth c H locs cells slots Q (F0 m 880 ls []) := by
    intro y1 y2 fgv hgv hgl H locs hP hD hS ls hl
    refine lv_aload_n hx hb dL_law_880 rfl (lv_at hl 1 rfl) ?_
    refine lv_aload_n hx hb dL_law_881 rfl (lv_at hl 3 rfl) ?_
    refine lv_iconst (v := nI 1) hx hb dL_law_882 (rfl) ?_
    refine z_iald hx hb hK hP 1 rfl (j := 1) (by omega) (by decide) dL_law_883 ?_
    refine z_topi (y := y1) (hgv.2.1) ?_
    refine lv_aload_n hx hb dL_law_884 rfl (lv_at hl 3 rfl) ?_
    refine lv_iconst (v := nI 2) hx hb dL_law_885 (rfl) ?_
    refine z_iald hx hb hK hP 1 rfl (j := 2) (by omega) (by decide) dL_law_886 ?_
    refine z_topi (y := y2) (hgv.2.2.1) ?_
    refine z_callAX (w1 := [(la, .inl (cI, 25, .inl fa)), (lg, .inl (cI, 4, .inl fgv)), (lt, .inl (cI, 17, .inl ft))]) (As := [.ref (ad 0), .int y1, .int y2]) (rest := []) ⟨hx, hb, hml, hown, hts⟩ hG hK hP hD hS (cR_goal l hfl D cI cJ ad n kd ln lo hi vl gx gy sl si kc FF y1 y2 (by first | assumption | omega | decide)) (vx_cwSW (hh := [(0, 7, 10, 14)]) 3 hts gL_law_L_goal rfl rfl rfl (by decide +kernel) ⟨Nat.le_of_ble_eq_true rfl, Nat.le_of_ble_eq_true rfl⟩) (fun _ => rfl) rfl hl.1 rfl (Nat.le_of_ble_eq_true rfl) dL_law_887 ⟨(show cells + 1 ≤ 600104 by omega), (show slots + 6 ≤ 7301314 by omega)⟩ (fun u_2 H locs hu_3 hP hD hS => ?_)
    obtain ⟨kk_4, gx2_5, gy2_6, si2_7, kc2_8, FF2_9⟩ := u_2
    have hu_3 : (zL0 (FF2_9 3) (FF2_9 4) (FF2_9 5) (FF2_9 6)) ∧ (zGl y1 y2 → (kk_4 = zFn kd ln vl n y1 y2) ∧ (gx2_5 = y1) ∧ (gy2_6 = y2)) := hu_3
    obtain ⟨e_10, e_11⟩ := hu_3
    obtain ⟨r_12, r_13, r_14⟩ : (kk_4 = zFn kd ln vl n y1 y2) ∧ (gx2_5 = y1) ∧ (gy2_6 = y2) := e_11 hgl
    subst r_12
    replace r_13 := r_13.symm
    subst r_13
    replace r_14 := r_14.symm
    subst r_14
    have hP : va_P D vwCl ([(la, .inl (cI, 25, .inl fa)), (lg, .inl (cI, 4, .inl fgv)), (lt, .inl (cI, 17, .inl ft))] ++ zWR cI cJ ad n kd ln lo hi vl y1 y2 sl si2_7 kc2_8 FF2_9) H := hP
    have hD : va_D A0 ([(la, .inl (cI, 25, .inl fa)), (lg, .inl (cI, 4, .inl fgv)), (lt, .inl (cI, 17, .inl ft))] ++ zWR cI cJ ad n kd ln lo hi vl y1 y2 sl si2_7 kc2_8 FF2_9) := hD
    refine z_topl (y := zFn kd ln vl n y1 y2) rfl ?_
    replace hR := zRo_g hR e_10 hgl
    refine lv_iconst (v := (-1)) hx hb dL_law_890 (by decide) ?_
    refine lv_iconst (v := 0) hx hb dL_law_891 (by decide) ?_
    refine lv_aload_n hx hb dL_law_892 rfl (lv_at hl 2 rfl) ?_
    refine lv_aload_n hx hb dL_law_893 rfl (lv_at hl 3 rfl) ?_
    refine lv_aload hx hb dL_law_894 (lv_at hl 4 rfl) ?_
    refine z_callF (w1 := zWR cI cJ ad n kd ln lo hi vl y1 y2 sl si2_7 kc2_8 FF2_9) (As := [.int (-1), .int 0, .ref la, .ref lg, .ref lt]) (rest := [.long (zFn kd ln vl n y1 y2)]) ⟨hx, hb, hml, hown, hts⟩ hG hK hP hD hS (c3_far l hfl D cI cJ (-1) 0 la fa lg fgv lt ft n kd ln lo hi vl y1 y2 sl (by first | assumption | omega | decide) (hgv) (by first | assumption | omega | decide) (by first | assumption | omega | decide) (by first | assumption | omega | decide) (hok.l) (zPm_pok hok) ((zGl_b hgl).1) ((zGl_b hgl).2)) (va_cwS 5 hts gL_law_L_far rfl rfl rfl (by decide +kernel) ⟨Nat.le_of_ble_eq_true rfl, Nat.le_of_ble_eq_true rfl⟩) (fun _ => rfl) rfl hl.1 rfl (Nat.le_of_ble_eq_true rfl) dL_law_896 ⟨(show cells + 1 + 0 ≤ 600104 by omega), (show slots + 6 * 1 + 0 ≤ 7301314 by omega)⟩ (fun u_15 H locs hu_16 hP hD hS => ?_)
    obtain ⟨r_17, rfl⟩ : ∃ z, z = u_15 := ⟨_, rfl⟩
    have hu_16 : (r_17 = zFar y1 y2 (zX kd ln (zPm vl (-1 : Int32) (0 : Int32)) n) (zY kd ln (zPm vl (-1 : Int32) (0 : Int32)) n)) := hu_16
    have e_18 := hu_16
    subst e_18
    have hP : va_P D vwCl ([(la, .inl (cI, 25, .inl fa)), (lg, .inl (cI, 4, .inl fgv)), (lt, .inl (cI, 17, .inl ft))] ++ zWR cI cJ ad n kd ln lo hi vl y1 y2 sl si2_7 kc2_8 FF2_9) H := hP
    have hD : va_D A0 ([(la, .inl (cI, 25, .inl fa)), (lg, .inl (cI, 4, .inl fgv)), (lt, .inl (cI, 17, .inl ft))] ++ zWR cI cJ ad n kd ln lo hi vl y1 y2 sl si2_7 kc2_8 FF2_9) := hD
    refine z_topl (y := zFn kd ln vl n y1 y2) (zFm_m1 hn) ?_
    refine W.lcmp hx hb dL_law_899 ?_
    refine lv_if_ne (tgt := 907) hx hb dL_law_900 (by decide) (fun c_900 => ?_) (fun c_900 => ?_)
    · rw [lg_cmp_eq] at c_900
      exact absurd rfl c_900
    · rw [lg_cmp_eq] at c_900
      refine lv_iconst (v := 1) hx hb dL_law_903 (by decide) ?_
      refine lv_goto (tgt := 908) hx hb dL_law_904 (by decide) ?_
      refine lv_istore (lv' := [(9, .int 1), (0, .ref b), (1, .ref (ad 0)), (2, .ref la), (3, .ref lg), (4, .ref lt), (5, .int (nI tau)), (7, .int uu)]) hx hb dL_law_908 hl (by decide) rfl (fun ls hl => ?_)
      refine lv_goto (tgt := 1740) hx hb dL_law_910 (by decide) ?_
      exact kk9 _ _ _ _ _ (by omega) (by omega) ⟨n, kd, ln, lo, hi, vl, y1, y2, sl, si2_7, kc2_8, FF2_9, fa, fgv, ft, hn1, hR, hA, hgv, hT, hkd, hP, hD, hS⟩ (lv_sub hl [0, 7, 6, 5, 4, 3, 2, 1] rfl)
  have jn_816_19 : ∀ (x1 : Int32) (x2 : Int32) (fgu : Nat → Int32), (zGs fgu n x1 x2 sl) → ∀ (H : Heap) (locs : List Loc), va_P D vwCl ([(la, .inl (cI, 25, .inl fa)), (lg, .inl (cI, 4, .inl fgu)), (lt, .inl (cI, 17, .inl ft))] ++ zWR cI cJ ad n kd ln lo hi vl gx gy sl si kc FF) H → va_D A0 ([(la, .inl (cI, 25, .inl fa)), (lg, .inl (cI, 4, .inl fgu)), (lt, .inl (cI, 17, .inl ft))] ++ zWR cI cJ ad n kd ln lo hi vl gx gy sl si kc FF) → va_S A0 s.heap H locs → ∀ (ls : Array Slot), lv_has ls 34 [(0, .ref b), (1, .ref (ad 0)), (2, .ref la), (3, .ref lg), (4, .ref lt), (5, .int (nI tau)), (7, .int uu)] → W p l e (room_1) s m args below meth c H locs cells slots Q (F0 m 816 ls []) := by
    intro x1 x2 fgu hgu H locs hP hD hS ls hl
    refine lv_aload_n hx hb dL_law_816 rfl (lv_at hl 3 rfl) ?_
    refine lv_iconst (v := nI 1) hx hb dL_law_817 (rfl) ?_
    refine lv_aload_n hx hb dL_law_818 rfl (lv_at hl 3 rfl) ?_
    refine lv_iconst (v := nI 1) hx hb dL_law_819 (rfl) ?_
    refine z_iald hx hb hK hP 1 rfl (j := 1) (by omega) (by decide) dL_law_820 ?_
    refine z_topi (y := x1) (hgu.2.1) ?_
    refine lv_ldc (own := RL) (v := 1000000) hx hb hown (hts (.constant RL 82 (1000000)) (by decide +kernel)) dL_law_821 ?_
    refine lv_icmp_le (tgt := 831) hx hb dL_law_823 (by decide) (fun c_823 => ?_) (fun c_823 => ?_)
    · refine lv_aload_n hx hb dL_law_831 rfl (lv_at hl 3 rfl) ?_
      refine lv_iconst (v := nI 1) hx hb dL_law_832 (rfl) ?_
      refine z_iald hx hb hK hP 1 rfl (j := 1) (by omega) (by decide) dL_law_833 ?_
      refine z_topi (y := x1) (hgu.2.1) ?_
      refine lv_ldc (own := RL) (v := (-1000000)) hx hb hown (hts (.constant RL 136 (-1000000)) (by decide +kernel)) dL_law_834 ?_
      refine lv_icmp_ge (tgt := 844) hx hb dL_law_836 (by decide) (fun c_836 => ?_) (fun c_836 => ?_)
      · refine lv_aload_n hx hb dL_law_844 rfl (lv_at hl 3 rfl) ?_
        refine lv_iconst (v := nI 1) hx hb dL_law_845 (rfl) ?_
        refine z_iald hx hb hK hP 1 rfl (j := 1) (by omega) (by decide) dL_law_846 ?_
        refine z_topi (y := x1) (hgu.2.1) ?_
        refine z_iast hx hb hK hP hD hS 1 rfl (j := 1) (by omega) (by decide) dL_law_847 (fun H locs hP hD hS => ?_)
        have hP : va_P D vwCl ([(la, .inl (cI, 25, .inl fa)), (lg, .inl (cI, 4, .inl (upd fgu 1 x1))), (lt, .inl (cI, 17, .inl ft))] ++ zWR cI cJ ad n kd ln lo hi vl gx gy sl si kc FF) H := hP
        have hD : va_D A0 ([(la, .inl (cI, 25, .inl fa)), (lg, .inl (cI, 4, .inl (upd fgu 1 x1))), (lt, .inl (cI, 17, .inl ft))] ++ zWR cI cJ ad n kd ln lo hi vl gx gy sl si kc FF) := hD
        refine lv_aload_n hx hb dL_law_848 rfl (lv_at hl 3 rfl) ?_
        refine lv_iconst (v := nI 2) hx hb dL_law_849 (rfl) ?_
        refine lv_aload_n hx hb dL_law_850 rfl (lv_at hl 3 rfl) ?_
        refine lv_iconst (v := nI 2) hx hb dL_law_851 (rfl) ?_
        refine z_iald hx hb hK hP 1 rfl (j := 2) (by omega) (by decide) dL_law_852 ?_
        refine z_topi (y := x2) ((zGs_1 hgu).2.2.1) ?_
        refine lv_ldc (own := RL) (v := 1000000) hx hb hown (hts (.constant RL 82 (1000000)) (by decide +kernel)) dL_law_853 ?_
        refine lv_icmp_le (tgt := 863) hx hb dL_law_855 (by decide) (fun c_855 => ?_) (fun c_855 => ?_)
        · refine lv_aload_n hx hb dL_law_863 rfl (lv_at hl 3 rfl) ?_
          refine lv_iconst (v := nI 2) hx hb dL_law_864 (rfl) ?_
          refine z_iald hx hb hK hP 1 rfl (j := 2) (by omega) (by decide) dL_law_865 ?_
          refine z_topi (y := x2) ((zGs_1 hgu).2.2.1) ?_
          refine lv_ldc (own := RL) (v := (-1000000)) hx hb hown (hts (.constant RL 136 (-1000000)) (by decide +kernel)) dL_law_866 ?_
          refine lv_icmp_ge (tgt := 876) hx hb dL_law_868 (by decide) (fun c_868 => ?_) (fun c_868 => ?_)
          · refine lv_aload_n hx hb dL_law_876 rfl (lv_at hl 3 rfl) ?_
            refine lv_iconst (v := nI 2) hx hb dL_law_877 (rfl) ?_
            refine z_iald hx hb hK hP 1 rfl (j := 2) (by omega) (by decide) dL_law_878 ?_
            refine z_topi (y := x2) ((zGs_1 hgu).2.2.1) ?_
            refine z_iast hx hb hK hP hD hS 1 rfl (j := 2) (by omega) (by decide) dL_law_879 (fun H locs hP hD hS => ?_)
            have hP : va_P D vwCl ([(la, .inl (cI, 25, .inl fa)), (lg, .inl (cI, 4, .inl (upd (upd fgu 1 x1) 2 x2))), (lt, .inl (cI, 17, .inl ft))] ++ zWR cI cJ ad n kd ln lo hi vl gx gy sl si kc FF) H := hP
            have hD : va_D A0 ([(la, .inl (cI, 25, .inl fa)), (lg, .inl (cI, 4, .inl (upd (upd fgu 1 x1) 2 x2))), (lt, .inl (cI, 17, .inl ft))] ++ zWR cI cJ ad n kd ln lo hi vl gx gy sl si kc FF) := hD
            exact jn_880_1 x1 x2 (upd (upd fgu 1 x1) 2 x2) (zGs_2 (zGs_1 hgu)) (⟨by first | decide | exact c_836, by first | decide | exact c_823, by first | decide | exact c_868, by first | decide | exact c_855⟩) _ _ hP hD hS _ (lv_sub hl [0, 1, 2, 3, 4, 5, 6] rfl)
          · refine lv_ldc (own := RL) (v := (-1000000)) hx hb hown (hts (.constant RL 136 (-1000000)) (by decide +kernel)) dL_law_871 ?_
            refine lv_goto (tgt := 879) hx hb dL_law_873 (by decide) ?_
            refine z_iast hx hb hK hP hD hS 1 rfl (j := 2) (by omega) (by decide) dL_law_879 (fun H locs hP hD hS => ?_)
            have hP : va_P D vwCl ([(la, .inl (cI, 25, .inl fa)), (lg, .inl (cI, 4, .inl (upd (upd fgu 1 x1) 2 (-1000000)))), (lt, .inl (cI, 17, .inl ft))] ++ zWR cI cJ ad n kd ln lo hi vl gx gy sl si kc FF) H := hP
            have hD : va_D A0 ([(la, .inl (cI, 25, .inl fa)), (lg, .inl (cI, 4, .inl (upd (upd fgu 1 x1) 2 (-1000000)))), (lt, .inl (cI, 17, .inl ft))] ++ zWR cI cJ ad n kd ln lo hi vl gx gy sl si kc FF) := hD
            exact jn_880_1 x1 (-1000000) (upd (upd fgu 1 x1) 2 (-1000000)) (zGs_2 (zGs_1 hgu)) (⟨by first | decide | exact c_836, by first | decide | exact c_823, by first | decide | exact c_868, by first | decide | exact c_855⟩) _ _ hP hD hS _ (lv_sub hl [0, 1, 2, 3, 4, 5, 6] rfl)
        · refine lv_ldc (own := RL) (v := 1000000) hx hb hown (hts (.constant RL 82 (1000000)) (by decide +kernel)) dL_law_858 ?_
          refine lv_goto (tgt := 879) hx hb dL_law_860 (by decide) ?_
          refine z_iast hx hb hK hP hD hS 1 rfl (j := 2) (by omega) (by decide) dL_law_879 (fun H locs hP hD hS => ?_)
          have hP : va_P D vwCl ([(la, .inl (cI, 25, .inl fa)), (lg, .inl (cI, 4, .inl (upd (upd fgu 1 x1) 2 1000000))), (lt, .inl (cI, 17, .inl ft))] ++ zWR cI cJ ad n kd ln lo hi vl gx gy sl si kc FF) H := hP
          have hD : va_D A0 ([(la, .inl (cI, 25, .inl fa)), (lg, .inl (cI, 4, .inl (upd (upd fgu 1 x1) 2 1000000))), (lt, .inl (cI, 17, .inl ft))] ++ zWR cI cJ ad n kd ln lo hi vl gx gy sl si kc FF) := hD
          exact jn_880_1 x1 1000000 (upd (upd fgu 1 x1) 2 1000000) (zGs_2 (zGs_1 hgu)) (⟨by first | decide | exact c_836, by first | decide | exact c_823, by first | decide | exact c_868, by first | decide | exact c_855⟩) _ _ hP hD hS _ (lv_sub hl [0, 1, 2, 3, 4, 5, 6] rfl)
      · refine lv_ldc (own := RL) (v := (-1000000)) hx hb hown (hts (.constant RL 136 (-1000000)) (by decide +kernel)) dL_law_839 ?_
        refine lv_goto (tgt := 847) hx hb dL_law_841 (by decide) ?_
        refine z_iast hx hb hK hP hD hS 1 rfl (j := 1) (by omega) (by decide) dL_law_847 (fun H locs hP hD hS => ?_)
        have hP : va_P D vwCl ([(la, .inl (cI, 25, .inl fa)), (lg, .inl (cI, 4, .inl (upd fgu 1 (-1000000)))), (lt, .inl (cI, 17, .inl ft))] ++ zWR cI cJ ad n kd ln lo hi vl gx gy sl si kc FF) H := hP
        have hD : va_D A0 ([(la, .inl (cI, 25, .inl fa)), (lg, .inl (cI, 4, .inl (upd fgu 1 (-1000000)))), (lt, .inl (cI, 17, .inl ft))] ++ zWR cI cJ ad n kd ln lo hi vl gx gy sl si kc FF) := hD
        refine lv_aload_n hx hb dL_law_848 rfl (lv_at hl 3 rfl) ?_
        refine lv_iconst (v := nI 2) hx hb dL_law_849 (rfl) ?_
        refine lv_aload_n hx hb dL_law_850 rfl (lv_at hl 3 rfl) ?_
        refine lv_iconst (v := nI 2) hx hb dL_law_851 (rfl) ?_
        refine z_iald hx hb hK hP 1 rfl (j := 2) (by omega) (by decide) dL_law_852 ?_
        refine z_topi (y := x2) ((zGs_1 hgu).2.2.1) ?_
        refine lv_ldc (own := RL) (v := 1000000) hx hb hown (hts (.constant RL 82 (1000000)) (by decide +kernel)) dL_law_853 ?_
        refine lv_icmp_le (tgt := 863) hx hb dL_law_855 (by decide) (fun c_855 => ?_) (fun c_855 => ?_)
        · refine lv_aload_n hx hb dL_law_863 rfl (lv_at hl 3 rfl) ?_
          refine lv_iconst (v := nI 2) hx hb dL_law_864 (rfl) ?_
          refine z_iald hx hb hK hP 1 rfl (j := 2) (by omega) (by decide) dL_law_865 ?_
          refine z_topi (y := x2) ((zGs_1 hgu).2.2.1) ?_
          refine lv_ldc (own := RL) (v := (-1000000)) hx hb hown (hts (.constant RL 136 (-1000000)) (by decide +kernel)) dL_law_866 ?_
          refine lv_icmp_ge (tgt := 876) hx hb dL_law_868 (by decide) (fun c_868 => ?_) (fun c_868 => ?_)
          · refine lv_aload_n hx hb dL_law_876 rfl (lv_at hl 3 rfl) ?_
            refine lv_iconst (v := nI 2) hx hb dL_law_877 (rfl) ?_
            refine z_iald hx hb hK hP 1 rfl (j := 2) (by omega) (by decide) dL_law_878 ?_
            refine z_topi (y := x2) ((zGs_1 hgu).2.2.1) ?_
            refine z_iast hx hb hK hP hD hS 1 rfl (j := 2) (by omega) (by decide) dL_law_879 (fun H locs hP hD hS => ?_)
            have hP : va_P D vwCl ([(la, .inl (cI, 25, .inl fa)), (lg, .inl (cI, 4, .inl (upd (upd fgu 1 (-1000000)) 2 x2))), (lt, .inl (cI, 17, .inl ft))] ++ zWR cI cJ ad n kd ln lo hi vl gx gy sl si kc FF) H := hP
            have hD : va_D A0 ([(la, .inl (cI, 25, .inl fa)), (lg, .inl (cI, 4, .inl (upd (upd fgu 1 (-1000000)) 2 x2))), (lt, .inl (cI, 17, .inl ft))] ++ zWR cI cJ ad n kd ln lo hi vl gx gy sl si kc FF) := hD
            exact jn_880_1 (-1000000) x2 (upd (upd fgu 1 (-1000000)) 2 x2) (zGs_2 (zGs_1 hgu)) (⟨by first | decide | exact c_836, by first | decide | exact c_823, by first | decide | exact c_868, by first | decide | exact c_855⟩) _ _ hP hD hS _ (lv_sub hl [0, 1, 2, 3, 4, 5, 6] rfl)
          · refine lv_ldc (own := RL) (v := (-1000000)) hx hb hown (hts (.constant RL 136 (-1000000)) (by decide +kernel)) dL_law_871 ?_
            refine lv_goto (tgt := 879) hx hb dL_law_873 (by decide) ?_
            refine z_iast hx hb hK hP hD hS 1 rfl (j := 2) (by omega) (by decide) dL_law_879 (fun H locs hP hD hS => ?_)
            have hP : va_P D vwCl ([(la, .inl (cI, 25, .inl fa)), (lg, .inl (cI, 4, .inl (upd (upd fgu 1 (-1000000)) 2 (-1000000)))), (lt, .inl (cI, 17, .inl ft))] ++ zWR cI cJ ad n kd ln lo hi vl gx gy sl si kc FF) H := hP
            have hD : va_D A0 ([(la, .inl (cI, 25, .inl fa)), (lg, .inl (cI, 4, .inl (upd (upd fgu 1 (-1000000)) 2 (-1000000)))), (lt, .inl (cI, 17, .inl ft))] ++ zWR cI cJ ad n kd ln lo hi vl gx gy sl si kc FF) := hD
            exact jn_880_1 (-1000000) (-1000000) (upd (upd fgu 1 (-1000000)) 2 (-1000000)) (zGs_2 (zGs_1 hgu)) (⟨by first | decide | exact c_836, by first | decide | exact c_823, by first | decide | exact c_868, by first | decide | exact c_855⟩) _ _ hP hD hS _ (lv_sub hl [0, 1, 2, 3, 4, 5, 6] rfl)
        · refine lv_ldc (own := RL) (v := 1000000) hx hb hown (hts (.constant RL 82 (1000000)) (by decide +kernel)) dL_law_858 ?_
          refine lv_goto (tgt := 879) hx hb dL_law_860 (by decide) ?_
          refine z_iast hx hb hK hP hD hS 1 rfl (j := 2) (by omega) (by decide) dL_law_879 (fun H locs hP hD hS => ?_)
          have hP : va_P D vwCl ([(la, .inl (cI, 25, .inl fa)), (lg, .inl (cI, 4, .inl (upd (upd fgu 1 (-1000000)) 2 1000000))), (lt, .inl (cI, 17, .inl ft))] ++ zWR cI cJ ad n kd ln lo hi vl gx gy sl si kc FF) H := hP
          have hD : va_D A0 ([(la, .inl (cI, 25, .inl fa)), (lg, .inl (cI, 4, .inl (upd (upd fgu 1 (-1000000)) 2 1000000))), (lt, .inl (cI, 17, .inl ft))] ++ zWR cI cJ ad n kd ln lo hi vl gx gy sl si kc FF) := hD
          exact jn_880_1 (-1000000) 1000000 (upd (upd fgu 1 (-1000000)) 2 1000000) (zGs_2 (zGs_1 hgu)) (⟨by first | decide | exact c_836, by first | decide | exact c_823, by first | decide | exact c_868, by first | decide | exact c_855⟩) _ _ hP hD hS _ (lv_sub hl [0, 1, 2, 3, 4, 5, 6] rfl)
    · refine lv_ldc (own := RL) (v := 1000000) hx hb hown (hts (.constant RL 82 (1000000)) (by decide +kernel)) dL_law_826 ?_
      refine lv_goto (tgt := 847) hx hb dL_law_828 (by decide) ?_
      refine z_iast hx hb hK hP hD hS 1 rfl (j := 1) (by omega) (by decide) dL_law_847 (fun H locs hP hD hS => ?_)
      have hP : va_P D vwCl ([(la, .inl (cI, 25, .inl fa)), (lg, .inl (cI, 4, .inl (upd fgu 1 1000000))), (lt, .inl (cI, 17, .inl ft))] ++ zWR cI cJ ad n kd ln lo hi vl gx gy sl si kc FF) H := hP
      have hD : va_D A0 ([(la, .inl (cI, 25, .inl fa)), (lg, .inl (cI, 4, .inl (upd fgu 1 1000000))), (lt, .inl (cI, 17, .inl ft))] ++ zWR cI cJ ad n kd ln lo hi vl gx gy sl si kc FF) := hD
      refine lv_aload_n hx hb dL_law_848 rfl (lv_at hl 3 rfl) ?_
      refine lv_iconst (v := nI 2) hx hb dL_law_849 (rfl) ?_
      refine lv_aload_n hx hb dL_law_850 rfl (lv_at hl 3 rfl) ?_
      refine lv_iconst (v := nI 2) hx hb dL_law_851 (rfl) ?_
      refine z_iald hx hb hK hP 1 rfl (j := 2) (by omega) (by decide) dL_law_852 ?_
      refine z_topi (y := x2) ((zGs_1 hgu).2.2.1) ?_
      refine lv_ldc (own := RL) (v := 1000000) hx hb hown (hts (.constant RL 82 (1000000)) (by decide +kernel)) dL_law_853 ?_
      refine lv_icmp_le (tgt := 863) hx hb dL_law_855 (by decide) (fun c_855 => ?_) (fun c_855 => ?_)
      · refine lv_aload_n hx hb dL_law_863 rfl (lv_at hl 3 rfl) ?_
        refine lv_iconst (v := nI 2) hx hb dL_law_864 (rfl) ?_
        refine z_iald hx hb hK hP 1 rfl (j := 2) (by omega) (by decide) dL_law_865 ?_
        refine z_topi (y := x2) ((zGs_1 hgu).2.2.1) ?_
        refine lv_ldc (own := RL) (v := (-1000000)) hx hb hown (hts (.constant RL 136 (-1000000)) (by decide +kernel)) dL_law_866 ?_
        refine lv_icmp_ge (tgt := 876) hx hb dL_law_868 (by decide) (fun c_868 => ?_) (fun c_868 => ?_)
        · refine lv_aload_n hx hb dL_law_876 rfl (lv_at hl 3 rfl) ?_
          refine lv_iconst (v := nI 2) hx hb dL_law_877 (rfl) ?_
          refine z_iald hx hb hK hP 1 rfl (j := 2) (by omega) (by decide) dL_law_878 ?_
          refine z_topi (y := x2) ((zGs_1 hgu).2.2.1) ?_
          refine z_iast hx hb hK hP hD hS 1 rfl (j := 2) (by omega) (by decide) dL_law_879 (fun H locs hP hD hS => ?_)
          have hP : va_P D vwCl ([(la, .inl (cI, 25, .inl fa)), (lg, .inl (cI, 4, .inl (upd (upd fgu 1 1000000) 2 x2))), (lt, .inl (cI, 17, .inl ft))] ++ zWR cI cJ ad n kd ln lo hi vl gx gy sl si kc FF) H := hP
          have hD : va_D A0 ([(la, .inl (cI, 25, .inl fa)), (lg, .inl (cI, 4, .inl (upd (upd fgu 1 1000000) 2 x2))), (lt, .inl (cI, 17, .inl ft))] ++ zWR cI cJ ad n kd ln lo hi vl gx gy sl si kc FF) := hD
          exact jn_880_1 1000000 x2 (upd (upd fgu 1 1000000) 2 x2) (zGs_2 (zGs_1 hgu)) (⟨by first | decide | exact c_836, by first | decide | exact c_823, by first | decide | exact c_868, by first | decide | exact c_855⟩) _ _ hP hD hS _ (lv_sub hl [0, 1, 2, 3, 4, 5, 6] rfl)
        · refine lv_ldc (own := RL) (v := (-1000000)) hx hb hown (hts (.constant RL 136 (-1000000)) (by decide +kernel)) dL_law_871 ?_
          refine lv_goto (tgt := 879) hx hb dL_law_873 (by decide) ?_
          refine z_iast hx hb hK hP hD hS 1 rfl (j := 2) (by omega) (by decide) dL_law_879 (fun H locs hP hD hS => ?_)
          have hP : va_P D vwCl ([(la, .inl (cI, 25, .inl fa)), (lg, .inl (cI, 4, .inl (upd (upd fgu 1 1000000) 2 (-1000000)))), (lt, .inl (cI, 17, .inl ft))] ++ zWR cI cJ ad n kd ln lo hi vl gx gy sl si kc FF) H := hP
          have hD : va_D A0 ([(la, .inl (cI, 25, .inl fa)), (lg, .inl (cI, 4, .inl (upd (upd fgu 1 1000000) 2 (-1000000)))), (lt, .inl (cI, 17, .inl ft))] ++ zWR cI cJ ad n kd ln lo hi vl gx gy sl si kc FF) := hD
          exact jn_880_1 1000000 (-1000000) (upd (upd fgu 1 1000000) 2 (-1000000)) (zGs_2 (zGs_1 hgu)) (⟨by first | decide | exact c_836, by first | decide | exact c_823, by first | decide | exact c_868, by first | decide | exact c_855⟩) _ _ hP hD hS _ (lv_sub hl [0, 1, 2, 3, 4, 5, 6] rfl)
      · refine lv_ldc (own := RL) (v := 1000000) hx hb hown (hts (.constant RL 82 (1000000)) (by decide +kernel)) dL_law_858 ?_
        refine lv_goto (tgt := 879) hx hb dL_law_860 (by decide) ?_
        refine z_iast hx hb hK hP hD hS 1 rfl (j := 2) (by omega) (by decide) dL_law_879 (fun H locs hP hD hS => ?_)
        have hP : va_P D vwCl ([(la, .inl (cI, 25, .inl fa)), (lg, .inl (cI, 4, .inl (upd (upd fgu 1 1000000) 2 1000000))), (lt, .inl (cI, 17, .inl ft))] ++ zWR cI cJ ad n kd ln lo hi vl gx gy sl si kc FF) H := hP
        have hD : va_D A0 ([(la, .inl (cI, 25, .inl fa)), (lg, .inl (cI, 4, .inl (upd (upd fgu 1 1000000) 2 1000000))), (lt, .inl (cI, 17, .inl ft))] ++ zWR cI cJ ad n kd ln lo hi vl gx gy sl si kc FF) := hD
        exact jn_880_1 1000000 1000000 (upd (upd fgu 1 1000000) 2 1000000) (zGs_2 (zGs_1 hgu)) (⟨by first | decide | exact c_836, by first | decide | exact c_823, by first | decide | exact c_868, by first | decide | exact c_855⟩) _ _ hP hD hS _ (lv_sub hl [0, 1, 2, 3, 4, 5, 6] rfl)
  refine lv_aload_n hx hb dL_law_691 rfl (lv_at hl 6 rfl) ?_
  refine lv_iconst (v := nI 0) hx hb dL_law_692 (rfl) ?_
  refine z_iald hx hb hK hP 1 rfl (j := 0) (by omega) (by decide) dL_law_693 ?_
  refine z_topi (y := nI n) (hGs.1) ?_
  refine lv_if_le (tgt := 708) hx hb dL_law_694 (by decide) (fun c_694 => ?_) (fun c_694 => ?_)
  · exact absurd c_694 (nI_nle (by omega) (by omega))
  · refine lv_iload hx hb dL_law_697 (lv_at hl 2 rfl) ?_
    refine lv_iconst (v := 2) hx hb dL_law_699 (by decide) ?_
    refine lv_iand hx hb dL_law_700 ?_
    refine lv_if_ne (tgt := 708) hx hb dL_law_701 (by decide) (fun c_701 => ?_) (fun c_701 => ?_)
    · refine lv_iconst (v := 0) hx hb dL_law_708 (by decide) ?_
      refine lv_istore (lv' := [(19, .int 0), (9, .int 1), (8, .int (nI jj)), (7, .int uu), (6, .int vv), (5, .int (nI tau)), (4, .ref lt), (3, .ref lg), (2, .ref la), (1, .ref (ad 0)), (0, .ref b)]) hx hb dL_law_709 hl (by decide) rfl (fun ls hl => ?_)
      refine lv_iload hx hb dL_law_711 (lv_at hl 3 rfl) ?_
      refine lv_iconst (v := 4) hx hb dL_law_713 (by decide) ?_
      refine lv_ishr hx hb dL_law_714 ?_
      refine lv_bipush (v := nI 9) hx hb dL_law_715 (rfl) ?_
      refine z_call0 (As := [.int (uu >>> (4 &&& 31)), .int (nI 9)]) (rest := []) ⟨hx, hb, hml, hown, hts⟩ hG hK hP hD hS (zML_of (c_L_low l D cI cJ (uu >>> (4 &&& 31)) 9 (by first | assumption | omega | decide))) (va_cwS 2 hts gL_law_L_low rfl rfl rfl (by decide +kernel) ⟨Nat.le_of_ble_eq_true rfl, Nat.le_of_ble_eq_true rfl⟩) (fun _ => rfl) rfl hl.1 rfl (Nat.le_of_ble_eq_true rfl) dL_law_717 ⟨(show cells + 0 ≤ 600104 by omega), (show slots + 0 ≤ 7301314 by omega)⟩ (fun u_20 H locs hu_21 hP hD hS => ?_)
      obtain ⟨r_22, rfl⟩ : ∃ z, z = u_20 := ⟨_, rfl⟩
      have hu_21 : (r_22 = nI (zLw (uu >>> (4 &&& 31)) 9)) := hu_21
      have e_23 := hu_21
      subst e_23
      have hP : va_P D vwCl ([(la, .inl (cI, 25, .inl fa)), (lg, .inl (cI, 4, .inl fg)), (lt, .inl (cI, 17, .inl ft))] ++ zWR cI cJ ad n kd ln lo hi vl gx gy sl si kc FF) H := hP
      have hD : va_D A0 ([(la, .inl (cI, 25, .inl fa)), (lg, .inl (cI, 4, .inl fg)), (lt, .inl (cI, 17, .inl ft))] ++ zWR cI cJ ad n kd ln lo hi vl gx gy sl si kc FF) := hD
      refine lv_iconst (v := 4) hx hb dL_law_720 (by decide) ?_
      refine lv_isub hx hb dL_law_721 ?_
      refine lv_istore (lv' := [(20, .int ((nI (zLw (uu >>> (4 &&& 31)) 9)) - 4)), (19, .int 0), (9, .int 1), (8, .int (nI jj)), (7, .int uu), (6, .int vv), (5, .int (nI tau)), (4, .ref lt), (3, .ref lg), (2, .ref la), (1, .ref (ad 0)), (0, .ref b)]) hx hb dL_law_722 hl (by decide) rfl (fun ls hl => ?_)
      refine lv_aload_n hx hb dL_law_724 rfl (lv_at hl 8 rfl) ?_
      refine lv_iconst (v := nI 1) hx hb dL_law_725 (rfl) ?_
      refine lv_iload hx hb dL_law_726 (lv_at hl 1 rfl) ?_
      refine lv_if_eq (tgt := 758) hx hb dL_law_728 (by decide) (fun c_728 => ?_) (fun c_728 => ?_)
      · refine lv_iload hx hb dL_law_758 (lv_at hl 4 rfl) ?_
        refine lv_ldc (own := RL) (v := 800001) hx hb hown (hts (.constant RL 134 (800001)) (by decide +kernel)) dL_law_760 ?_
        refine z_topi (y := nI 800001) (by decide +kernel) ?_
        refine z_call0 (As := [.int uu, .int (nI 800001)]) (rest := [.int (nI 1), .ref lg]) ⟨hx, hb, hml, hown, hts⟩ hG hK hP hD hS (zML_of (c_L_low l D cI cJ uu 800001 (by first | assumption | omega | decide))) (va_cwS 2 hts gL_law_L_low rfl rfl rfl (by decide +kernel) ⟨Nat.le_of_ble_eq_true rfl, Nat.le_of_ble_eq_true rfl⟩) (fun _ => rfl) rfl hl.1 rfl (Nat.le_of_ble_eq_true rfl) dL_law_762 ⟨(show cells + 0 ≤ 600104 by omega), (show slots + 0 ≤ 7301314 by omega)⟩ (fun u_24 H locs hu_25 hP hD hS => ?_)
        obtain ⟨r_26, rfl⟩ : ∃ z, z = u_24 := ⟨_, rfl⟩
        have hu_25 : (r_26 = nI (zLw uu 800001)) := hu_25
        have e_27 := hu_25
        subst e_27
        have hP : va_P D vwCl ([(la, .inl (cI, 25, .inl fa)), (lg, .inl (cI, 4, .inl fg)), (lt, .inl (cI, 17, .inl ft))] ++ zWR cI cJ ad n kd ln lo hi vl gx gy sl si kc FF) H := hP
        have hD : va_D A0 ([(la, .inl (cI, 25, .inl fa)), (lg, .inl (cI, 4, .inl fg)), (lt, .inl (cI, 17, .inl ft))] ++ zWR cI cJ ad n kd ln lo hi vl gx gy sl si kc FF) := hD
        refine lv_ldc (own := RL) (v := 400000) hx hb hown (hts (.constant RL 135 (400000)) (by decide +kernel)) dL_law_765 ?_
        refine lv_isub hx hb dL_law_767 ?_
        obtain ⟨x1, hx1⟩ : ∃ z9, z9 = (nI (zLw uu 800001)) - 400000 := ⟨_, rfl⟩
        refine z_topi (y := x1) hx1.symm ?_
        refine z_iast hx hb hK hP hD hS 1 rfl (j := 1) (by omega) (by decide) dL_law_768 (fun H locs hP hD hS => ?_)
        have hP : va_P D vwCl ([(la, .inl (cI, 25, .inl fa)), (lg, .inl (cI, 4, .inl (upd fg 1 x1))), (lt, .inl (cI, 17, .inl ft))] ++ zWR cI cJ ad n kd ln lo hi vl gx gy sl si kc FF) H := hP
        have hD : va_D A0 ([(la, .inl (cI, 25, .inl fa)), (lg, .inl (cI, 4, .inl (upd fg 1 x1))), (lt, .inl (cI, 17, .inl ft))] ++ zWR cI cJ ad n kd ln lo hi vl gx gy sl si kc FF) := hD
        refine lv_aload_n hx hb dL_law_769 rfl (lv_at hl 8 rfl) ?_
        refine lv_iconst (v := nI 2) hx hb dL_law_770 (rfl) ?_
        refine lv_iload hx hb dL_law_771 (lv_at hl 1 rfl) ?_
        refine lv_if_eq (tgt := 803) hx hb dL_law_773 (by decide) (fun c_773 => ?_) (fun c_773 => ?_)
        · refine lv_iload hx hb dL_law_803 (lv_at hl 4 rfl) ?_
          refine lv_iconst (v := 3) hx hb dL_law_805 (by decide) ?_
          refine lv_ishr hx hb dL_law_806 ?_
          refine lv_ldc (own := RL) (v := 800001) hx hb hown (hts (.constant RL 134 (800001)) (by decide +kernel)) dL_law_807 ?_
          refine z_topi (y := nI 800001) (by decide +kernel) ?_
          refine z_call0 (As := [.int (uu >>> (3 &&& 31)), .int (nI 800001)]) (rest := [.int (nI 2), .ref lg]) ⟨hx, hb, hml, hown, hts⟩ hG hK hP hD hS (zML_of (c_L_low l D cI cJ (uu >>> (3 &&& 31)) 800001 (by first | assumption | omega | decide))) (va_cwS 2 hts gL_law_L_low rfl rfl rfl (by decide +kernel) ⟨Nat.le_of_ble_eq_true rfl, Nat.le_of_ble_eq_true rfl⟩) (fun _ => rfl) rfl hl.1 rfl (Nat.le_of_ble_eq_true rfl) dL_law_809 ⟨(show cells + 0 ≤ 600104 by omega), (show slots + 0 ≤ 7301314 by omega)⟩ (fun u_28 H locs hu_29 hP hD hS => ?_)
          obtain ⟨r_30, rfl⟩ : ∃ z, z = u_28 := ⟨_, rfl⟩
          have hu_29 : (r_30 = nI (zLw (uu >>> (3 &&& 31)) 800001)) := hu_29
          have e_31 := hu_29
          subst e_31
          have hP : va_P D vwCl ([(la, .inl (cI, 25, .inl fa)), (lg, .inl (cI, 4, .inl (upd fg 1 x1))), (lt, .inl (cI, 17, .inl ft))] ++ zWR cI cJ ad n kd ln lo hi vl gx gy sl si kc FF) H := hP
          have hD : va_D A0 ([(la, .inl (cI, 25, .inl fa)), (lg, .inl (cI, 4, .inl (upd fg 1 x1))), (lt, .inl (cI, 17, .inl ft))] ++ zWR cI cJ ad n kd ln lo hi vl gx gy sl si kc FF) := hD
          refine lv_ldc (own := RL) (v := 400000) hx hb hown (hts (.constant RL 135 (400000)) (by decide +kernel)) dL_law_812 ?_
          refine lv_isub hx hb dL_law_814 ?_
          obtain ⟨x2, hx2⟩ : ∃ z9, z9 = (nI (zLw (uu >>> (3 &&& 31)) 800001)) - 400000 := ⟨_, rfl⟩
          refine z_topi (y := x2) hx2.symm ?_
          refine z_iast hx hb hK hP hD hS 1 rfl (j := 2) (by omega) (by decide) dL_law_815 (fun H locs hP hD hS => ?_)
          have hP : va_P D vwCl ([(la, .inl (cI, 25, .inl fa)), (lg, .inl (cI, 4, .inl (upd (upd fg 1 x1) 2 x2))), (lt, .inl (cI, 17, .inl ft))] ++ zWR cI cJ ad n kd ln lo hi vl gx gy sl si kc FF) H := hP
          have hD : va_D A0 ([(la, .inl (cI, 25, .inl fa)), (lg, .inl (cI, 4, .inl (upd (upd fg 1 x1) 2 x2))), (lt, .inl (cI, 17, .inl ft))] ++ zWR cI cJ ad n kd ln lo hi vl gx gy sl si kc FF) := hD
          exact jn_816_19 x1 x2 (upd (upd fg 1 x1) 2 x2) (zGs_2 (zGs_1 hGs)) _ _ hP hD hS _ (lv_sub hl [11, 10, 9, 8, 7, 6, 4] rfl)
        · exact absurd (by decide) c_773
      · exact absurd (by decide) c_728
    · refine lv_iconst (v := 1) hx hb dL_law_704 (by decide) ?_
      refine lv_goto (tgt := 709) hx hb dL_law_705 (by decide) ?_
      refine lv_istore (lv' := [(19, .int 1), (9, .int 1), (8, .int (nI jj)), (7, .int uu), (6, .int vv), (5, .int (nI tau)), (4, .ref lt), (3, .ref lg), (2, .ref la), (1, .ref (ad 0)), (0, .ref b)]) hx hb dL_law_709 hl (by decide) rfl (fun ls hl => ?_)
      refine lv_iload hx hb dL_law_711 (lv_at hl 3 rfl) ?_
      refine lv_iconst (v := 4) hx hb dL_law_713 (by decide) ?_
      refine lv_ishr hx hb dL_law_714 ?_
      refine lv_bipush (v := nI 9) hx hb dL_law_715 (rfl) ?_
      refine z_call0 (As := [.int (uu >>> (4 &&& 31)), .int (nI 9)]) (rest := []) ⟨hx, hb, hml, hown, hts⟩ hG hK hP hD hS (zML_of (c_L_low l D cI cJ (uu >>> (4 &&& 31)) 9 (by first | assumption | omega | decide))) (va_cwS 2 hts gL_law_L_low rfl rfl rfl (by decide +kernel) ⟨Nat.le_of_ble_eq_true rfl, Nat.le_of_ble_eq_true rfl⟩) (fun _ => rfl) rfl hl.1 rfl (Nat.le_of_ble_eq_true rfl) dL_law_717 ⟨(show cells + 0 ≤ 600104 by omega), (show slots + 0 ≤ 7301314 by omega)⟩ (fun u_32 H locs hu_33 hP hD hS => ?_)
      obtain ⟨r_34, rfl⟩ : ∃ z, z = u_32 := ⟨_, rfl⟩
      have hu_33 : (r_34 = nI (zLw (uu >>> (4 &&& 31)) 9)) := hu_33
      have e_35 := hu_33
      subst e_35
      have hP : va_P D vwCl ([(la, .inl (cI, 25, .inl fa)), (lg, .inl (cI, 4, .inl fg)), (lt, .inl (cI, 17, .inl ft))] ++ zWR cI cJ ad n kd ln lo hi vl gx gy sl si kc FF) H := hP
      have hD : va_D A0 ([(la, .inl (cI, 25, .inl fa)), (lg, .inl (cI, 4, .inl fg)), (lt, .inl (cI, 17, .inl ft))] ++ zWR cI cJ ad n kd ln lo hi vl gx gy sl si kc FF) := hD
      refine lv_iconst (v := 4) hx hb dL_law_720 (by decide) ?_
      refine lv_isub hx hb dL_law_721 ?_
      refine lv_istore (lv' := [(20, .int ((nI (zLw (uu >>> (4 &&& 31)) 9)) - 4)), (19, .int 1), (9, .int 1), (8, .int (nI jj)), (7, .int uu), (6, .int vv), (5, .int (nI tau)), (4, .ref lt), (3, .ref lg), (2, .ref la), (1, .ref (ad 0)), (0, .ref b)]) hx hb dL_law_722 hl (by decide) rfl (fun ls hl => ?_)
      refine lv_aload_n hx hb dL_law_724 rfl (lv_at hl 8 rfl) ?_
      refine lv_iconst (v := nI 1) hx hb dL_law_725 (rfl) ?_
      refine lv_iload hx hb dL_law_726 (lv_at hl 1 rfl) ?_
      refine lv_if_eq (tgt := 758) hx hb dL_law_728 (by decide) (fun c_728 => ?_) (fun c_728 => ?_)
      · exact absurd c_728 (by decide)
      · refine lv_iconst (v := 1) hx hb dL_law_731 (by decide) ?_
        refine lv_iload hx hb dL_law_732 (lv_at hl 3 rfl) ?_
        refine lv_iload hx hb dL_law_734 (lv_at hl 0 rfl) ?_
        refine lv_aload_n hx hb dL_law_736 rfl (lv_at hl 9 rfl) ?_
        refine lv_aload_n hx hb dL_law_737 rfl (lv_at hl 8 rfl) ?_
        refine lv_aload hx hb dL_law_738 (lv_at hl 7 rfl) ?_
        refine z_callF (w1 := zWR cI cJ ad n kd ln lo hi vl gx gy sl si kc FF) (As := [.int 1, .int (nI jj), .int ((nI (zLw (uu >>> (4 &&& 31)) 9)) - 4), .ref la, .ref lg, .ref lt]) (rest := [.int (nI 1), .ref lg]) ⟨hx, hb, hml, hown, hts⟩ hG hK hP hD hS (c3_tips l hfl D cI cJ 1 (nI jj) ((nI (zLw (uu >>> (4 &&& 31)) 9)) - 4) la fa lg fg lt ft n kd ln lo hi vl gx gy sl (by first | assumption | omega | decide) (by first | assumption | omega | decide) (by first | assumption | omega | decide) (by first | assumption | omega | decide) (by first | assumption | omega | decide)) (va_cwS 6 hts gL_law_L_tips rfl rfl rfl (by decide +kernel) ⟨Nat.le_of_ble_eq_true rfl, Nat.le_of_ble_eq_true rfl⟩) (fun _ => rfl) rfl hl.1 rfl (Nat.le_of_ble_eq_true rfl) dL_law_740 ⟨(show cells + 0 ≤ 600104 by omega), (show slots + 0 ≤ 7301314 by omega)⟩ (fun u_36 H locs hu_37 hP hD hS => ?_)
        obtain ⟨r_38, rfl⟩ : ∃ z, z = u_36 := ⟨_, rfl⟩
        have hu_37 : (r_38 = zXY (1 : Int32) kd ln (zPm vl (nI jj) ((nI (zLw (uu >>> (4 &&& 31)) 9)) - 4)) n) := hu_37
        have e_39 := hu_37
        subst e_39
        have hP : va_P D vwCl ([(la, .inl (cI, 25, .inl fa)), (lg, .inl (cI, 4, .inl fg)), (lt, .inl (cI, 17, .inl ft))] ++ zWR cI cJ ad n kd ln lo hi vl gx gy sl si kc FF) H := hP
        have hD : va_D A0 ([(la, .inl (cI, 25, .inl fa)), (lg, .inl (cI, 4, .inl fg)), (lt, .inl (cI, 17, .inl ft))] ++ zWR cI cJ ad n kd ln lo hi vl gx gy sl si kc FF) := hD
        refine lv_iload hx hb dL_law_743 (lv_at hl 4 rfl) ?_
        refine lv_bipush (v := 9) hx hb dL_law_745 (by decide) ?_
        refine lv_ishr hx hb dL_law_747 ?_
        refine lv_sipush (v := nI 3000) hx hb dL_law_748 (rfl) ?_
        refine z_call0 (As := [.int (uu >>> (9 &&& 31)), .int (nI 3000)]) (rest := [.int (zXY (1 : Int32) kd ln (zPm vl (nI jj) ((nI (zLw (uu >>> (4 &&& 31)) 9)) - 4)) n), .int (nI 1), .ref lg]) ⟨hx, hb, hml, hown, hts⟩ hG hK hP hD hS (zML_of (c_L_low l D cI cJ (uu >>> (9 &&& 31)) 3000 (by first | assumption | omega | decide))) (va_cwS 2 hts gL_law_L_low rfl rfl rfl (by decide +kernel) ⟨Nat.le_of_ble_eq_true rfl, Nat.le_of_ble_eq_true rfl⟩) (fun _ => rfl) rfl hl.1 rfl (Nat.le_of_ble_eq_true rfl) dL_law_751 ⟨(show cells + 0 ≤ 600104 by omega), (show slots + 0 ≤ 7301314 by omega)⟩ (fun u_40 H locs hu_41 hP hD hS => ?_)
        obtain ⟨r_42, rfl⟩ : ∃ z, z = u_40 := ⟨_, rfl⟩
        have hu_41 : (r_42 = nI (zLw (uu >>> (9 &&& 31)) 3000)) := hu_41
        have e_43 := hu_41
        subst e_43
        have hP : va_P D vwCl ([(la, .inl (cI, 25, .inl fa)), (lg, .inl (cI, 4, .inl fg)), (lt, .inl (cI, 17, .inl ft))] ++ zWR cI cJ ad n kd ln lo hi vl gx gy sl si kc FF) H := hP
        have hD : va_D A0 ([(la, .inl (cI, 25, .inl fa)), (lg, .inl (cI, 4, .inl fg)), (lt, .inl (cI, 17, .inl ft))] ++ zWR cI cJ ad n kd ln lo hi vl gx gy sl si kc FF) := hD
        refine lv_iadd hx hb dL_law_754 ?_
        refine lv_goto (tgt := 768) hx hb dL_law_755 (by decide) ?_
        obtain ⟨x1, hx1⟩ : ∃ z9, z9 = (zXY (1 : Int32) kd ln (zPm vl (nI jj) ((nI (zLw (uu >>> (4 &&& 31)) 9)) - 4)) n) + (nI (zLw (uu >>> (9 &&& 31)) 3000)) := ⟨_, rfl⟩
        refine z_topi (y := x1) hx1.symm ?_
        refine z_iast hx hb hK hP hD hS 1 rfl (j := 1) (by omega) (by decide) dL_law_768 (fun H locs hP hD hS => ?_)
        have hP : va_P D vwCl ([(la, .inl (cI, 25, .inl fa)), (lg, .inl (cI, 4, .inl (upd fg 1 x1))), (lt, .inl (cI, 17, .inl ft))] ++ zWR cI cJ ad n kd ln lo hi vl gx gy sl si kc FF) H := hP
        have hD : va_D A0 ([(la, .inl (cI, 25, .inl fa)), (lg, .inl (cI, 4, .inl (upd fg 1 x1))), (lt, .inl (cI, 17, .inl ft))] ++ zWR cI cJ ad n kd ln lo hi vl gx gy sl si kc FF) := hD
        refine lv_aload_n hx hb dL_law_769 rfl (lv_at hl 8 rfl) ?_
        refine lv_iconst (v := nI 2) hx hb dL_law_770 (rfl) ?_
        refine lv_iload hx hb dL_law_771 (lv_at hl 1 rfl) ?_
        refine lv_if_eq (tgt := 803) hx hb dL_law_773 (by decide) (fun c_773 => ?_) (fun c_773 => ?_)
        · exact absurd c_773 (by decide)
        · refine lv_iconst (v := 0) hx hb dL_law_776 (by decide) ?_
          refine lv_iload hx hb dL_law_777 (lv_at hl 3 rfl) ?_
          refine lv_iload hx hb dL_law_779 (lv_at hl 0 rfl) ?_
          refine lv_aload_n hx hb dL_law_781 rfl (lv_at hl 9 rfl) ?_
          refine lv_aload_n hx hb dL_law_782 rfl (lv_at hl 8 rfl) ?_
          refine lv_aload hx hb dL_law_783 (lv_at hl 7 rfl) ?_
          refine z_callF (w1 := zWR cI cJ ad n kd ln lo hi vl gx gy sl si kc FF) (As := [.int 0, .int (nI jj), .int ((nI (zLw (uu >>> (4 &&& 31)) 9)) - 4), .ref la, .ref lg, .ref lt]) (rest := [.int (nI 2), .ref lg]) ⟨hx, hb, hml, hown, hts⟩ hG hK hP hD hS (c3_tips l hfl D cI cJ 0 (nI jj) ((nI (zLw (uu >>> (4 &&& 31)) 9)) - 4) la fa lg (upd fg 1 x1) lt ft n kd ln lo hi vl x1 gy sl (by first | assumption | omega | decide) (zGs_1 hGs) (by first | assumption | omega | decide) (by first | assumption | omega | decide) (by first | assumption | omega | decide)) (va_cwS 6 hts gL_law_L_tips rfl rfl rfl (by decide +kernel) ⟨Nat.le_of_ble_eq_true rfl, Nat.le_of_ble_eq_true rfl⟩) (fun _ => rfl) rfl hl.1 rfl (Nat.le_of_ble_eq_true rfl) dL_law_785 ⟨(show cells + 0 ≤ 600104 by omega), (show slots + 0 ≤ 7301314 by omega)⟩ (fun u_44 H locs hu_45 hP hD hS => ?_)
          obtain ⟨r_46, rfl⟩ : ∃ z, z = u_44 := ⟨_, rfl⟩
          have hu_45 : (r_46 = zXY (0 : Int32) kd ln (zPm vl (nI jj) ((nI (zLw (uu >>> (4 &&& 31)) 9)) - 4)) n) := hu_45
          have e_47 := hu_45
          subst e_47
          have hP : va_P D vwCl ([(la, .inl (cI, 25, .inl fa)), (lg, .inl (cI, 4, .inl (upd fg 1 x1))), (lt, .inl (cI, 17, .inl ft))] ++ zWR cI cJ ad n kd ln lo hi vl gx gy sl si kc FF) H := hP
          have hD : va_D A0 ([(la, .inl (cI, 25, .inl fa)), (lg, .inl (cI, 4, .inl (upd fg 1 x1))), (lt, .inl (cI, 17, .inl ft))] ++ zWR cI cJ ad n kd ln lo hi vl gx gy sl si kc FF) := hD
          refine lv_iload hx hb dL_law_788 (lv_at hl 4 rfl) ?_
          refine lv_bipush (v := 12) hx hb dL_law_790 (by decide) ?_
          refine lv_ishr hx hb dL_law_792 ?_
          refine lv_sipush (v := nI 3000) hx hb dL_law_793 (rfl) ?_
          refine z_call0 (As := [.int (uu >>> (12 &&& 31)), .int (nI 3000)]) (rest := [.int (zXY (0 : Int32) kd ln (zPm vl (nI jj) ((nI (zLw (uu >>> (4 &&& 31)) 9)) - 4)) n), .int (nI 2), .ref lg]) ⟨hx, hb, hml, hown, hts⟩ hG hK hP hD hS (zML_of (c_L_low l D cI cJ (uu >>> (12 &&& 31)) 3000 (by first | assumption | omega | decide))) (va_cwS 2 hts gL_law_L_low rfl rfl rfl (by decide +kernel) ⟨Nat.le_of_ble_eq_true rfl, Nat.le_of_ble_eq_true rfl⟩) (fun _ => rfl) rfl hl.1 rfl (Nat.le_of_ble_eq_true rfl) dL_law_796 ⟨(show cells + 0 ≤ 600104 by omega), (show slots + 0 ≤ 7301314 by omega)⟩ (fun u_48 H locs hu_49 hP hD hS => ?_)
          obtain ⟨r_50, rfl⟩ : ∃ z, z = u_48 := ⟨_, rfl⟩
          have hu_49 : (r_50 = nI (zLw (uu >>> (12 &&& 31)) 3000)) := hu_49
          have e_51 := hu_49
          subst e_51
          have hP : va_P D vwCl ([(la, .inl (cI, 25, .inl fa)), (lg, .inl (cI, 4, .inl (upd fg 1 x1))), (lt, .inl (cI, 17, .inl ft))] ++ zWR cI cJ ad n kd ln lo hi vl gx gy sl si kc FF) H := hP
          have hD : va_D A0 ([(la, .inl (cI, 25, .inl fa)), (lg, .inl (cI, 4, .inl (upd fg 1 x1))), (lt, .inl (cI, 17, .inl ft))] ++ zWR cI cJ ad n kd ln lo hi vl gx gy sl si kc FF) := hD
          refine lv_isub hx hb dL_law_799 ?_
          refine lv_goto (tgt := 815) hx hb dL_law_800 (by decide) ?_
          obtain ⟨x2, hx2⟩ : ∃ z9, z9 = (zXY (0 : Int32) kd ln (zPm vl (nI jj) ((nI (zLw (uu >>> (4 &&& 31)) 9)) - 4)) n) - (nI (zLw (uu >>> (12 &&& 31)) 3000)) := ⟨_, rfl⟩
          refine z_topi (y := x2) hx2.symm ?_
          refine z_iast hx hb hK hP hD hS 1 rfl (j := 2) (by omega) (by decide) dL_law_815 (fun H locs hP hD hS => ?_)
          have hP : va_P D vwCl ([(la, .inl (cI, 25, .inl fa)), (lg, .inl (cI, 4, .inl (upd (upd fg 1 x1) 2 x2))), (lt, .inl (cI, 17, .inl ft))] ++ zWR cI cJ ad n kd ln lo hi vl gx gy sl si kc FF) H := hP
          have hD : va_D A0 ([(la, .inl (cI, 25, .inl fa)), (lg, .inl (cI, 4, .inl (upd (upd fg 1 x1) 2 x2))), (lt, .inl (cI, 17, .inl ft))] ++ zWR cI cJ ad n kd ln lo hi vl gx gy sl si kc FF) := hD
          exact jn_816_19 x1 x2 (upd (upd fg 1 x1) 2 x2) (zGs_2 (zGs_1 hGs)) _ _ hP hD hS _ (lv_sub hl [11, 10, 9, 8, 7, 6, 4] rfl)

set_option maxHeartbeats 4000000 in
set_option maxRecDepth 100000 in
theorem law_slack {p : Program} {l : Launch} {e : Env} {s : State} {m : MethodId} {args : Array Value} {below : List Frame} {meth : Method} {c : Code} {D : va_G} {cI cJ : ClassId} {A0 : Nat → Prop} {Q : State → Prop} {b la lg lt tau : Nat} {ad : Nat → Nat} {n : Nat} {kd : Nat → Int32} {ln : Nat → Int32} {lo : Nat → Int32} {hi : Nat → Int32} {vl : Nat → Int32} {gx : Int32} {gy : Int32} {sl : Int32} {si : Nat → Int32} {kc : Nat → Int64} {FF : Nat → Nat → Int32} {fa fg ft : Nat → Int32} {uu vv : Int32} {jj : Nat} (hfl : l.stackTraces = false) (C : zC p m c meth cL_law 34 s args wsL_law RL D cI cJ A0 []) (hNw : ∀ q : Nat, s.heap.size ≤ q → A0 q) (hR : zRo n kd ln lo hi vl gx gy sl FF) (hA : zAr n fa kd ln lo hi vl) (hGs : zGs fg n gx gy sl) (hT : zTt ft) (hkd : zKd n kd) (hn1 : 1 ≤ n) (hjj : jj < n) {H : Heap} {locs : List Loc} {cells slots : Nat} {ls : Array Slot} (hc : cells + 40 ≤ 600104) (hs : slots + 240 ≤ 7301314) (hP : va_P D vwCl ([(la, .inl (cI, 25, .inl fa)), (lg, .inl (cI, 4, .inl fg)), (lt, .inl (cI, 17, .inl ft))] ++ zWR cI cJ ad n kd ln lo hi vl gx gy sl si kc FF) H) (hD : va_D A0 ([(la, .inl (cI, 25, .inl fa)), (lg, .inl (cI, 4, .inl fg)), (lt, .inl (cI, 17, .inl ft))] ++ zWR cI cJ ad n kd ln lo hi vl gx gy sl si kc FF)) (hS : va_S A0 s.heap H locs) (hl : lv_has ls 34 [(9, .int 1), (8, .int (nI jj)), (7, .int uu), (6, .int vv), (5, .int (nI tau)), (4, .ref lt), (3, .ref lg), (2, .ref la), (1, .ref (ad 0)), (0, .ref b)]) (kk9 : ∀ (H1 : Heap) (locs1 : List Loc) (ls1 : Array Slot) (c1 s1 : Nat), c1 ≤ cells + 40 → s1 ≤ slots + 240 → zLv D cI cJ A0 s.heap H1 locs1 ad la lg lt 1 → lv_has ls1 34 [(9, .int 1), (7, .int uu), (5, .int (nI tau)), (4, .ref lt), (3, .ref lg), (2, .ref la), (1, .ref (ad 0)), (0, .ref b)] → W p l e room_1 s m args below meth c H1 locs1 c1 s1 Q (F0 m 1740 ls1 [])) : W p l e room_1 s m args below meth c H locs cells slots Q (F0 m 913 ls []) := by
  obtain ⟨⟨hx, hb, hml, hown, hts⟩, hG, hK, hD0, hlocks⟩ := C
  have hok := hR.1
  have hn := hok.1
  have hgx := hR.2.1
  have hgy := hR.2.2.1
  have hsl := hR.2.2.2.1
  refine lv_iload hx hb dL_law_913 (lv_at hl 2 rfl) ?_
  refine lv_iload hx hb dL_law_915 (lv_at hl 2 rfl) ?_
  refine lv_ldc (own := RL) (v := 1048576) hx hb hown (hts (.constant RL 128 (1048576)) (by decide +kernel)) dL_law_917 ?_
  refine lv_iand hx hb dL_law_919 ?_
  refine lv_if_ne (tgt := 928) hx hb dL_law_920 (by decide) (fun c_920 => ?_) (fun c_920 => ?_)
  · refine lv_sipush (v := nI 9000) hx hb dL_law_928 (rfl) ?_
    refine z_call0 (As := [.int uu, .int (nI 9000)]) (rest := []) ⟨hx, hb, hml, hown, hts⟩ hG hK hP hD hS (zML_of (c_L_low l D cI cJ uu 9000 (by first | assumption | omega | decide))) (va_cwS 2 hts gL_law_L_low rfl rfl rfl (by decide +kernel) ⟨Nat.le_of_ble_eq_true rfl, Nat.le_of_ble_eq_true rfl⟩) (fun _ => rfl) rfl hl.1 rfl (Nat.le_of_ble_eq_true rfl) dL_law_931 ⟨(show cells + 0 ≤ 600104 by omega), (show slots + 0 ≤ 7301314 by omega)⟩ (fun u_1 H locs hu_2 hP hD hS => ?_)
    obtain ⟨r_3, rfl⟩ : ∃ z, z = u_1 := ⟨_, rfl⟩
    have hu_2 : (r_3 = nI (zLw uu 9000)) := hu_2
    have e_4 := hu_2
    subst e_4
    have hP : va_P D vwCl ([(la, .inl (cI, 25, .inl fa)), (lg, .inl (cI, 4, .inl fg)), (lt, .inl (cI, 17, .inl ft))] ++ zWR cI cJ ad n kd ln lo hi vl gx gy sl si kc FF) H := hP
    have hD : va_D A0 ([(la, .inl (cI, 25, .inl fa)), (lg, .inl (cI, 4, .inl fg)), (lt, .inl (cI, 17, .inl ft))] ++ zWR cI cJ ad n kd ln lo hi vl gx gy sl si kc FF) := hD
    obtain ⟨sv9, hsv9⟩ : ∃ z9, z9 = nI (zLw uu 9000) := ⟨_, rfl⟩
    refine z_topi (y := sv9) hsv9.symm ?_
    have hsl9 : 0 ≤ sv9 ∧ sv9 ≤ 100000 := by rw [hsv9]; first | exact zslk _ (by decide) (by decide) | exact zslk _ (by decide) (by decide)
    refine lv_istore (lv' := [(21, .int sv9), (9, .int 1), (8, .int (nI jj)), (7, .int uu), (6, .int vv), (5, .int (nI tau)), (4, .ref lt), (3, .ref lg), (2, .ref la), (1, .ref (ad 0)), (0, .ref b)]) hx hb dL_law_934 hl (by decide) rfl (fun ls hl => ?_)
    refine lv_aload_n hx hb dL_law_936 rfl (lv_at hl 9 rfl) ?_
    refine lv_iload hx hb dL_law_937 (lv_at hl 0 rfl) ?_
    refine z_callAX (w1 := [(la, .inl (cI, 25, .inl fa)), (lg, .inl (cI, 4, .inl fg)), (lt, .inl (cI, 17, .inl ft))]) (As := [.ref (ad 0), .int sv9]) (rest := []) ⟨hx, hb, hml, hown, hts⟩ hG hK hP hD hS (cR_slack l hfl D cI cJ ad n kd ln lo hi vl gx gy sl si kc FF sv9 (by first | assumption | omega | decide)) (vx_cwSW (hh := [(0, 6, 9, 14)]) 2 hts gL_law_L_slack rfl rfl rfl (by decide +kernel) ⟨Nat.le_of_ble_eq_true rfl, Nat.le_of_ble_eq_true rfl⟩) (fun _ => rfl) rfl hl.1 rfl (Nat.le_of_ble_eq_true rfl) dL_law_939 ⟨(show cells + 1 ≤ 600104 by omega), (show slots + 6 ≤ 7301314 by omega)⟩ (fun u_5 H locs hu_6 hP hD hS => ?_)
    obtain ⟨kk_7, sl2_8, si2_9, kc2_10, FF2_11⟩ := u_5
    have hu_6 : (zL0 (FF2_11 3) (FF2_11 4) (FF2_11 5) (FF2_11 6)) ∧ ((0 ≤ sv9 ∧ sv9 ≤ 100000) → (kk_7 = sl) ∧ (sl2_8 = sv9)) := hu_6
    obtain ⟨e_12, e_13⟩ := hu_6
    obtain ⟨r_14, r_15⟩ : (kk_7 = sl) ∧ (sl2_8 = sv9) := e_13 hsl9
    replace r_14 := r_14.symm
    subst r_14
    replace r_15 := r_15.symm
    subst r_15
    have hP : va_P D vwCl ([(la, .inl (cI, 25, .inl fa)), (lg, .inl (cI, 4, .inl fg)), (lt, .inl (cI, 17, .inl ft))] ++ zWR cI cJ ad n kd ln lo hi vl gx gy sv9 si2_9 kc2_10 FF2_11) H := hP
    have hD : va_D A0 ([(la, .inl (cI, 25, .inl fa)), (lg, .inl (cI, 4, .inl fg)), (lt, .inl (cI, 17, .inl ft))] ++ zWR cI cJ ad n kd ln lo hi vl gx gy sv9 si2_9 kc2_10 FF2_11) := hD
    refine z_topi (y := sl) rfl ?_
    replace hR := zRo_s hR e_12 hsl9
    refine lv_aload_n hx hb dL_law_942 rfl (lv_at hl 7 rfl) ?_
    refine lv_iconst (v := nI 3) hx hb dL_law_943 (rfl) ?_
    refine z_iald hx hb hK hP 1 rfl (j := 3) (by omega) (by decide) dL_law_944 ?_
    refine z_topi (y := sl) (hGs.2.2.2) ?_
    refine lv_icmp_ne (tgt := 952) hx hb dL_law_945 (by decide) (fun c_945 => ?_) (fun c_945 => ?_)
    · exact absurd rfl c_945
    · refine lv_iconst (v := 1) hx hb dL_law_948 (by decide) ?_
      refine lv_goto (tgt := 953) hx hb dL_law_949 (by decide) ?_
      refine lv_istore (lv' := [(9, .int 1), (21, .int sv9), (8, .int (nI jj)), (7, .int uu), (6, .int vv), (5, .int (nI tau)), (4, .ref lt), (3, .ref lg), (2, .ref la), (1, .ref (ad 0)), (0, .ref b)]) hx hb dL_law_953 hl (by decide) rfl (fun ls hl => ?_)
      refine lv_aload_n hx hb dL_law_955 rfl (lv_at hl 7 rfl) ?_
      refine lv_iconst (v := nI 3) hx hb dL_law_956 (rfl) ?_
      refine lv_iload hx hb dL_law_957 (lv_at hl 1 rfl) ?_
      refine z_iast hx hb hK hP hD hS 1 rfl (j := 3) (by omega) (by decide) dL_law_959 (fun H locs hP hD hS => ?_)
      have hP : va_P D vwCl ([(la, .inl (cI, 25, .inl fa)), (lg, .inl (cI, 4, .inl (upd fg 3 sv9))), (lt, .inl (cI, 17, .inl ft))] ++ zWR cI cJ ad n kd ln lo hi vl gx gy sv9 si2_9 kc2_10 FF2_11) H := hP
      have hD : va_D A0 ([(la, .inl (cI, 25, .inl fa)), (lg, .inl (cI, 4, .inl (upd fg 3 sv9))), (lt, .inl (cI, 17, .inl ft))] ++ zWR cI cJ ad n kd ln lo hi vl gx gy sv9 si2_9 kc2_10 FF2_11) := hD
      refine lv_goto (tgt := 1740) hx hb dL_law_960 (by decide) ?_
      exact kk9 _ _ _ _ _ (by omega) (by omega) ⟨n, kd, ln, lo, hi, vl, gx, gy, sv9, si2_9, kc2_10, FF2_11, fa, upd fg 3 sv9, ft, hn1, hR, hA, (zGs_3 hGs), hT, hkd, hP, hD, hS⟩ (lv_sub hl [0, 3, 5, 6, 7, 8, 9, 10] rfl)
  · refine lv_ldc (own := RL) (v := 100001) hx hb hown (hts (.constant RL 140 (100001)) (by decide +kernel)) dL_law_923 ?_
    refine lv_goto (tgt := 931) hx hb dL_law_925 (by decide) ?_
    refine z_topi (y := nI 100001) (by decide +kernel) ?_
    refine z_call0 (As := [.int uu, .int (nI 100001)]) (rest := []) ⟨hx, hb, hml, hown, hts⟩ hG hK hP hD hS (zML_of (c_L_low l D cI cJ uu 100001 (by first | assumption | omega | decide))) (va_cwS 2 hts gL_law_L_low rfl rfl rfl (by decide +kernel) ⟨Nat.le_of_ble_eq_true rfl, Nat.le_of_ble_eq_true rfl⟩) (fun _ => rfl) rfl hl.1 rfl (Nat.le_of_ble_eq_true rfl) dL_law_931 ⟨(show cells + 0 ≤ 600104 by omega), (show slots + 0 ≤ 7301314 by omega)⟩ (fun u_16 H locs hu_17 hP hD hS => ?_)
    obtain ⟨r_18, rfl⟩ : ∃ z, z = u_16 := ⟨_, rfl⟩
    have hu_17 : (r_18 = nI (zLw uu 100001)) := hu_17
    have e_19 := hu_17
    subst e_19
    have hP : va_P D vwCl ([(la, .inl (cI, 25, .inl fa)), (lg, .inl (cI, 4, .inl fg)), (lt, .inl (cI, 17, .inl ft))] ++ zWR cI cJ ad n kd ln lo hi vl gx gy sl si kc FF) H := hP
    have hD : va_D A0 ([(la, .inl (cI, 25, .inl fa)), (lg, .inl (cI, 4, .inl fg)), (lt, .inl (cI, 17, .inl ft))] ++ zWR cI cJ ad n kd ln lo hi vl gx gy sl si kc FF) := hD
    obtain ⟨sv9, hsv9⟩ : ∃ z9, z9 = nI (zLw uu 100001) := ⟨_, rfl⟩
    refine z_topi (y := sv9) hsv9.symm ?_
    have hsl9 : 0 ≤ sv9 ∧ sv9 ≤ 100000 := by rw [hsv9]; first | exact zslk _ (by decide) (by decide) | exact zslk _ (by decide) (by decide)
    refine lv_istore (lv' := [(21, .int sv9), (9, .int 1), (8, .int (nI jj)), (7, .int uu), (6, .int vv), (5, .int (nI tau)), (4, .ref lt), (3, .ref lg), (2, .ref la), (1, .ref (ad 0)), (0, .ref b)]) hx hb dL_law_934 hl (by decide) rfl (fun ls hl => ?_)
    refine lv_aload_n hx hb dL_law_936 rfl (lv_at hl 9 rfl) ?_
    refine lv_iload hx hb dL_law_937 (lv_at hl 0 rfl) ?_
    refine z_callAX (w1 := [(la, .inl (cI, 25, .inl fa)), (lg, .inl (cI, 4, .inl fg)), (lt, .inl (cI, 17, .inl ft))]) (As := [.ref (ad 0), .int sv9]) (rest := []) ⟨hx, hb, hml, hown, hts⟩ hG hK hP hD hS (cR_slack l hfl D cI cJ ad n kd ln lo hi vl gx gy sl si kc FF sv9 (by first | assumption | omega | decide)) (vx_cwSW (hh := [(0, 6, 9, 14)]) 2 hts gL_law_L_slack rfl rfl rfl (by decide +kernel) ⟨Nat.le_of_ble_eq_true rfl, Nat.le_of_ble_eq_true rfl⟩) (fun _ => rfl) rfl hl.1 rfl (Nat.le_of_ble_eq_true rfl) dL_law_939 ⟨(show cells + 1 ≤ 600104 by omega), (show slots + 6 ≤ 7301314 by omega)⟩ (fun u_20 H locs hu_21 hP hD hS => ?_)
    obtain ⟨kk_22, sl2_23, si2_24, kc2_25, FF2_26⟩ := u_20
    have hu_21 : (zL0 (FF2_26 3) (FF2_26 4) (FF2_26 5) (FF2_26 6)) ∧ ((0 ≤ sv9 ∧ sv9 ≤ 100000) → (kk_22 = sl) ∧ (sl2_23 = sv9)) := hu_21
    obtain ⟨e_27, e_28⟩ := hu_21
    obtain ⟨r_29, r_30⟩ : (kk_22 = sl) ∧ (sl2_23 = sv9) := e_28 hsl9
    replace r_29 := r_29.symm
    subst r_29
    replace r_30 := r_30.symm
    subst r_30
    have hP : va_P D vwCl ([(la, .inl (cI, 25, .inl fa)), (lg, .inl (cI, 4, .inl fg)), (lt, .inl (cI, 17, .inl ft))] ++ zWR cI cJ ad n kd ln lo hi vl gx gy sv9 si2_24 kc2_25 FF2_26) H := hP
    have hD : va_D A0 ([(la, .inl (cI, 25, .inl fa)), (lg, .inl (cI, 4, .inl fg)), (lt, .inl (cI, 17, .inl ft))] ++ zWR cI cJ ad n kd ln lo hi vl gx gy sv9 si2_24 kc2_25 FF2_26) := hD
    refine z_topi (y := sl) rfl ?_
    replace hR := zRo_s hR e_27 hsl9
    refine lv_aload_n hx hb dL_law_942 rfl (lv_at hl 7 rfl) ?_
    refine lv_iconst (v := nI 3) hx hb dL_law_943 (rfl) ?_
    refine z_iald hx hb hK hP 1 rfl (j := 3) (by omega) (by decide) dL_law_944 ?_
    refine z_topi (y := sl) (hGs.2.2.2) ?_
    refine lv_icmp_ne (tgt := 952) hx hb dL_law_945 (by decide) (fun c_945 => ?_) (fun c_945 => ?_)
    · exact absurd rfl c_945
    · refine lv_iconst (v := 1) hx hb dL_law_948 (by decide) ?_
      refine lv_goto (tgt := 953) hx hb dL_law_949 (by decide) ?_
      refine lv_istore (lv' := [(9, .int 1), (21, .int sv9), (8, .int (nI jj)), (7, .int uu), (6, .int vv), (5, .int (nI tau)), (4, .ref lt), (3, .ref lg), (2, .ref la), (1, .ref (ad 0)), (0, .ref b)]) hx hb dL_law_953 hl (by decide) rfl (fun ls hl => ?_)
      refine lv_aload_n hx hb dL_law_955 rfl (lv_at hl 7 rfl) ?_
      refine lv_iconst (v := nI 3) hx hb dL_law_956 (rfl) ?_
      refine lv_iload hx hb dL_law_957 (lv_at hl 1 rfl) ?_
      refine z_iast hx hb hK hP hD hS 1 rfl (j := 3) (by omega) (by decide) dL_law_959 (fun H locs hP hD hS => ?_)
      have hP : va_P D vwCl ([(la, .inl (cI, 25, .inl fa)), (lg, .inl (cI, 4, .inl (upd fg 3 sv9))), (lt, .inl (cI, 17, .inl ft))] ++ zWR cI cJ ad n kd ln lo hi vl gx gy sv9 si2_24 kc2_25 FF2_26) H := hP
      have hD : va_D A0 ([(la, .inl (cI, 25, .inl fa)), (lg, .inl (cI, 4, .inl (upd fg 3 sv9))), (lt, .inl (cI, 17, .inl ft))] ++ zWR cI cJ ad n kd ln lo hi vl gx gy sv9 si2_24 kc2_25 FF2_26) := hD
      refine lv_goto (tgt := 1740) hx hb dL_law_960 (by decide) ?_
      exact kk9 _ _ _ _ _ (by omega) (by omega) ⟨n, kd, ln, lo, hi, vl, gx, gy, sv9, si2_24, kc2_25, FF2_26, fa, upd fg 3 sv9, ft, hn1, hR, hA, (zGs_3 hGs), hT, hkd, hP, hD, hS⟩ (lv_sub hl [0, 3, 5, 6, 7, 8, 9, 10] rfl)

