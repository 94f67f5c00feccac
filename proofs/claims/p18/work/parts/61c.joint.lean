/-! the law's cases: joints, steps -/
set_option maxHeartbeats 4000000 in
set_option maxRecDepth 100000 in
theorem law_joint {p : Program} {l : Launch} {e : Env} {s : State} {m : MethodId} {args : Array Value} {below : List Frame} {meth : Method} {c : Code} {D : va_G} {cI cJ : ClassId} {A0 : Nat → Prop} {Q : State → Prop} {b la lg lt tau : Nat} {ad : Nat → Nat} {n : Nat} {kd : Nat → Int32} {ln : Nat → Int32} {lo : Nat → Int32} {hi : Nat → Int32} {vl : Nat → Int32} {gx : Int32} {gy : Int32} {sl : Int32} {si : Nat → Int32} {kc : Nat → Int64} {FF : Nat → Nat → Int32} {fa fg ft : Nat → Int32} {uu vv : Int32} {jj : Nat} (hfl : l.stackTraces = false) (C : zC p m c meth cL_law 34 s args wsL_law RL D cI cJ A0 []) (hNw : ∀ q : Nat, s.heap.size ≤ q → A0 q) (hR : zRo n kd ln lo hi vl gx gy sl FF) (hA : zAr n fa kd ln lo hi vl) (hGs : zGs fg n gx gy sl) (hT : zTt ft) (hkd : zKd n kd) {H : Heap} {locs : List Loc} {cells slots : Nat} {ls : Array Slot} (hc : cells + 40 ≤ 600104) (hs : slots + 240 ≤ 7301314) (hP : va_P D vwCl ([(la, .inl (cI, 25, .inl fa)), (lg, .inl (cI, 4, .inl fg)), (lt, .inl (cI, 17, .inl ft))] ++ zWR cI cJ ad n kd ln lo hi vl gx gy sl si kc FF) H) (hD : va_D A0 ([(la, .inl (cI, 25, .inl fa)), (lg, .inl (cI, 4, .inl fg)), (lt, .inl (cI, 17, .inl ft))] ++ zWR cI cJ ad n kd ln lo hi vl gx gy sl si kc FF)) (hS : va_S A0 s.heap H locs) (hl : lv_has ls 34 [(9, .int 1), (8, .int (nI jj)), (7, .int uu), (6, .int vv), (5, .int (nI tau)), (4, .ref lt), (3, .ref lg), (2, .ref la), (1, .ref (ad 0)), (0, .ref b)]) (kk9 : ∀ (H1 : Heap) (locs1 : List Loc) (ls1 : Array Slot) (c1 s1 : Nat), c1 ≤ cells + 40 → s1 ≤ slots + 240 → zLv D cI cJ A0 s.heap H1 locs1 ad la lg lt 1 → lv_has ls1 34 [(9, .int 1), (7, .int uu), (5, .int (nI tau)), (4, .ref lt), (3, .ref lg), (2, .ref la), (1, .ref (ad 0)), (0, .ref b)] → W p l e room_1 s m args below meth c H1 locs1 c1 s1 Q (F0 m 1740 ls1 [])) : W p l e room_1 s m args below meth c H locs cells slots Q (F0 m 276 ls []) := by
  obtain ⟨⟨hx, hb, hml, hown, hts⟩, hG, hK, hD0, hlocks⟩ := C
  have hok := hR.1
  have hn := hok.1
  have hgx := hR.2.1
  have hgy := hR.2.2.1
  have hsl := hR.2.2.2.1
  refine lv_iload hx hb dL_law_276 (lv_at hl 2 rfl) ?_
  refine lv_iconst (v := nI 2) hx hb dL_law_278 (rfl) ?_
  refine z_call0 (As := [.int uu, .int (nI 2)]) (rest := []) ⟨hx, hb, hml, hown, hts⟩ hG hK hP hD hS (zML_of (c_L_low l D cI cJ uu 2 (by first | assumption | omega | decide))) (va_cwS 2 hts gL_law_L_low rfl rfl rfl (by decide +kernel) ⟨Nat.le_of_ble_eq_true rfl, Nat.le_of_ble_eq_true rfl⟩) (fun _ => rfl) rfl hl.1 rfl (Nat.le_of_ble_eq_true rfl) dL_law_279 ⟨(show cells + 0 ≤ 600104 by omega), (show slots + 0 ≤ 7301314 by omega)⟩ (fun u_1 H locs hu_2 hP hD hS => ?_)
  obtain ⟨r_3, rfl⟩ : ∃ z, z = u_1 := ⟨_, rfl⟩
  have hu_2 : (r_3 = nI (zLw uu 2)) := hu_2
  have e_4 := hu_2
  subst e_4
  have hP : va_P D vwCl ([(la, .inl (cI, 25, .inl fa)), (lg, .inl (cI, 4, .inl fg)), (lt, .inl (cI, 17, .inl ft))] ++ zWR cI cJ ad n kd ln lo hi vl gx gy sl si kc FF) H := hP
  have hD : va_D A0 ([(la, .inl (cI, 25, .inl fa)), (lg, .inl (cI, 4, .inl fg)), (lt, .inl (cI, 17, .inl ft))] ++ zWR cI cJ ad n kd ln lo hi vl gx gy sl si kc FF) := hD
  obtain ⟨p0, hp0⟩ : ∃ z9, z9 = nI (zLw uu 2) := ⟨_, rfl⟩
  refine z_topi (y := p0) hp0.symm ?_
  have hk0 : p0 = 0 ∨ p0 = 1 := by rw [hp0]; exact zlow2 _
  refine lv_istore (lv' := [(10, .int p0), (9, .int 1), (8, .int (nI jj)), (7, .int uu), (6, .int vv), (5, .int (nI tau)), (4, .ref lt), (3, .ref lg), (2, .ref la), (1, .ref (ad 0)), (0, .ref b)]) hx hb dL_law_282 hl (by decide) rfl (fun ls hl => ?_)
  have jn_374_5 : ∀ (lst : Int32) (gr : Int32), (zLs p0 lst) → (lst.toInt ≤ gr.toInt ∧ gr.toInt ≤ (zTo p0).toInt) → ∀ (H : Heap) (locs : List Loc), va_P D vwCl ([(la, .inl (cI, 25, .inl fa)), (lg, .inl (cI, 4, .inl fg)), (lt, .inl (cI, 17, .inl ft))] ++ zWR cI cJ ad n kd ln lo hi vl gx gy sl si kc FF) H → va_D A0 ([(la, .inl (cI, 25, .inl fa)), (lg, .inl (cI, 4, .inl fg)), (lt, .inl (cI, 17, .inl ft))] ++ zWR cI cJ ad n kd ln lo hi vl gx gy sl si kc FF) → va_S A0 s.heap H locs → ∀ (ls : Array Slot), lv_has ls 34 [(0, .ref b), (1, .ref (ad 0)), (2, .ref la), (3, .ref lg), (4, .ref lt), (5, .int (nI tau)), (7, .int uu), (10, .int p0), (11, .int lst), (13, .int gr)] → W p l e (room_1) s m args below meth c H locs cells slots Q (F0 m 374 ls []) := by
    intro lst gr hls hgr H locs hP hD hS ls hl
    refine lv_iload hx hb dL_law_374 (lv_at hl 6 rfl) ?_
    refine lv_bipush (v := 15) hx hb dL_law_376 (by decide) ?_
    refine lv_ishr hx hb dL_law_378 ?_
    refine lv_sipush (v := nI 201) hx hb dL_law_379 (rfl) ?_
    refine z_call0 (As := [.int (uu >>> (15 &&& 31)), .int (nI 201)]) (rest := []) ⟨hx, hb, hml, hown, hts⟩ hG hK hP hD hS (zML_of (c_L_low l D cI cJ (uu >>> (15 &&& 31)) 201 (by first | assumption | omega | decide))) (va_cwS 2 hts gL_law_L_low rfl rfl rfl (by decide +kernel) ⟨Nat.le_of_ble_eq_true rfl, Nat.le_of_ble_eq_true rfl⟩) (fun _ => rfl) rfl hl.1 rfl (Nat.le_of_ble_eq_true rfl) dL_law_382 ⟨(show cells + 0 ≤ 600104 by omega), (show slots + 0 ≤ 7301314 by omega)⟩ (fun u_6 H locs hu_7 hP hD hS => ?_)
    obtain ⟨r_8, rfl⟩ : ∃ z, z = u_6 := ⟨_, rfl⟩
    have hu_7 : (r_8 = nI (zLw (uu >>> (15 &&& 31)) 201)) := hu_7
    have e_9 := hu_7
    subst e_9
    have hP : va_P D vwCl ([(la, .inl (cI, 25, .inl fa)), (lg, .inl (cI, 4, .inl fg)), (lt, .inl (cI, 17, .inl ft))] ++ zWR cI cJ ad n kd ln lo hi vl gx gy sl si kc FF) H := hP
    have hD : va_D A0 ([(la, .inl (cI, 25, .inl fa)), (lg, .inl (cI, 4, .inl fg)), (lt, .inl (cI, 17, .inl ft))] ++ zWR cI cJ ad n kd ln lo hi vl gx gy sl si kc FF) := hD
    obtain ⟨p1, hp1⟩ : ∃ z9, z9 = nI (zLw (uu >>> (15 &&& 31)) 201) := ⟨_, rfl⟩
    refine z_topi (y := p1) hp1.symm ?_
    have hgd : zGd p0 p1 lst gr := by rw [hp1]; exact zGd_of hk0 hls hgr _
    refine lv_istore (lv' := [(14, .int p1), (0, .ref b), (1, .ref (ad 0)), (2, .ref la), (3, .ref lg), (4, .ref lt), (5, .int (nI tau)), (7, .int uu), (10, .int p0), (11, .int lst), (13, .int gr)]) hx hb dL_law_385 hl (by decide) rfl (fun ls hl => ?_)
    refine lv_aload_n hx hb dL_law_387 rfl (lv_at hl 4 rfl) ?_
    refine lv_iconst (v := nI 0) hx hb dL_law_388 (rfl) ?_
    refine z_iald hx hb hK hP 1 rfl (j := 0) (by omega) (by decide) dL_law_389 ?_
    refine z_topi (y := nI n) (hGs.1) ?_
    refine lv_iconst (v := nI 5) hx hb dL_law_390 (rfl) ?_
    refine lv_icmp_ge (tgt := 398) hx hb dL_law_391 (by decide) (fun c_391 => ?_) (fun c_391 => ?_)
    · rw [nI_leI (by omega) (by omega)] at c_391
      refine lv_iconst (v := 0) hx hb dL_law_398 (by decide) ?_
      refine lv_istore (lv' := [(15, .int 0), (14, .int p1), (0, .ref b), (1, .ref (ad 0)), (2, .ref la), (3, .ref lg), (4, .ref lt), (5, .int (nI tau)), (7, .int uu), (10, .int p0), (11, .int lst), (13, .int gr)]) hx hb dL_law_399 hl (by decide) rfl (fun ls hl => ?_)
      refine lv_aload_n hx hb dL_law_401 rfl (lv_at hl 3 rfl) ?_
      refine lv_iload hx hb dL_law_402 (lv_at hl 9 rfl) ?_
      refine lv_iload hx hb dL_law_404 (lv_at hl 1 rfl) ?_
      refine lv_iload hx hb dL_law_406 (lv_at hl 10 rfl) ?_
      refine lv_iload hx hb dL_law_408 (lv_at hl 11 rfl) ?_
      refine z_callAX (w1 := [(la, .inl (cI, 25, .inl fa)), (lg, .inl (cI, 4, .inl fg)), (lt, .inl (cI, 17, .inl ft))]) (As := [.ref (ad 0), .int p0, .int p1, .int lst, .int gr]) (rest := []) ⟨hx, hb, hml, hown, hts⟩ hG hK hP hD hS (cR_joint l hfl D cI cJ ad n kd ln lo hi vl gx gy sl si kc FF p0 p1 lst gr (by first | assumption | omega | decide)) (vx_cwSW (hh := [(0, 11, 14, 14), (0, 11, 20, 16)]) 5 hts gL_law_L_joint rfl rfl rfl (by decide +kernel) ⟨Nat.le_of_ble_eq_true rfl, Nat.le_of_ble_eq_true rfl⟩) (fun _ => rfl) rfl hl.1 rfl (Nat.le_of_ble_eq_true rfl) dL_law_410 ⟨(show cells + 1 ≤ 600104 by omega), (show slots + 6 ≤ 7301314 by omega)⟩ (fun u_10 H locs hu_11 hP hD hS => ?_)
      obtain ⟨kk_12, n2_13, kd2_14, ln2_15, lo2_16, hi2_17, vl2_18, si2_19, kc2_20, FF2_21⟩ := u_10
      have hu_11 : (zL0 (FF2_21 3) (FF2_21 4) (FF2_21 5) (FF2_21 6)) ∧ (zGd p0 p1 lst gr → n < 5 → (kk_12 = nI n) ∧ (n2_13 = n + 1) ∧ (kd2_14 = upd kd n p0) ∧ (ln2_15 = upd ln n p1) ∧ (lo2_16 = upd lo n lst) ∧ (hi2_17 = upd hi n gr) ∧ (vl2_18 = upd vl n (zHeldC lst gr 0))) ∧ (zGd p0 p1 lst gr → ¬ n < 5 → (kk_12 = (-7300)) ∧ (n2_13 = n) ∧ (kd2_14 = kd) ∧ (ln2_15 = ln) ∧ (lo2_16 = lo) ∧ (hi2_17 = hi) ∧ (vl2_18 = vl)) ∧ (¬ zGd p0 p1 lst gr → (kk_12 = (-7200)) ∧ (n2_13 = n) ∧ (kd2_14 = kd) ∧ (ln2_15 = ln) ∧ (lo2_16 = lo) ∧ (hi2_17 = hi) ∧ (vl2_18 = vl)) := hu_11
      obtain ⟨e_22, e_23, e_24, e_25⟩ := hu_11
      obtain ⟨r_26, r_27, r_28, r_29, r_30, r_31, r_32⟩ : (kk_12 = (-7300)) ∧ (n2_13 = n) ∧ (kd2_14 = kd) ∧ (ln2_15 = ln) ∧ (lo2_16 = lo) ∧ (hi2_17 = hi) ∧ (vl2_18 = vl) := e_24 hgd (by omega)
      subst r_26
      replace r_27 := r_27.symm
      subst r_27
      replace r_28 := r_28.symm
      subst r_28
      replace r_29 := r_29.symm
      subst r_29
      replace r_30 := r_30.symm
      subst r_30
      replace r_31 := r_31.symm
      subst r_31
      replace r_32 := r_32.symm
      subst r_32
      have hP : va_P D vwCl ([(la, .inl (cI, 25, .inl fa)), (lg, .inl (cI, 4, .inl fg)), (lt, .inl (cI, 17, .inl ft))] ++ zWR cI cJ ad n kd ln lo hi vl gx gy sl si2_19 kc2_20 FF2_21) H := hP
      have hD : va_D A0 ([(la, .inl (cI, 25, .inl fa)), (lg, .inl (cI, 4, .inl fg)), (lt, .inl (cI, 17, .inl ft))] ++ zWR cI cJ ad n kd ln lo hi vl gx gy sl si2_19 kc2_20 FF2_21) := hD
      refine z_topi (y := -7300) rfl ?_
      replace hR := zRo_of hR e_22
      refine lv_iload hx hb dL_law_413 (lv_at hl 0 rfl) ?_
      refine lv_if_eq (tgt := 424) hx hb dL_law_415 (by decide) (fun c_415 => ?_) (fun c_415 => ?_)
      · refine lv_sipush (v := (-7300)) hx hb dL_law_424 (by decide) ?_
        refine lv_icmp_ne (tgt := 434) hx hb dL_law_427 (by decide) (fun c_427 => ?_) (fun c_427 => ?_)
        · exact absurd (by decide) c_427
        · refine lv_iconst (v := 1) hx hb dL_law_430 (by decide) ?_
          refine lv_goto (tgt := 435) hx hb dL_law_431 (by decide) ?_
          refine lv_istore (lv' := [(9, .int 1), (15, .int 0), (14, .int p1), (0, .ref b), (1, .ref (ad 0)), (2, .ref la), (3, .ref lg), (4, .ref lt), (5, .int (nI tau)), (7, .int uu), (10, .int p0), (11, .int lst), (13, .int gr)]) hx hb dL_law_435 hl (by decide) rfl (fun ls hl => ?_)
          refine lv_iload hx hb dL_law_437 (lv_at hl 1 rfl) ?_
          refine lv_if_ne (tgt := 445) hx hb dL_law_439 (by decide) (fun c_439 => ?_) (fun c_439 => ?_)
          · exact absurd (by decide) c_439
          · refine lv_goto (tgt := 1740) hx hb dL_law_442 (by decide) ?_
            exact kk9 _ _ _ _ _ (by omega) (by omega) ⟨n, kd, ln, lo, hi, vl, gx, gy, sl, si2_19, kc2_20, FF2_21, fa, fg, ft, (by omega), hR, hA, hGs, hT, hkd, hP, hD, hS⟩ (lv_sub hl [0, 9, 8, 7, 6, 5, 4, 3] rfl)
      · exact absurd (by decide) c_415
    · rw [nI_leI (by omega) (by omega)] at c_391
      refine lv_iconst (v := 1) hx hb dL_law_394 (by decide) ?_
      refine lv_goto (tgt := 399) hx hb dL_law_395 (by decide) ?_
      refine lv_istore (lv' := [(15, .int 1), (14, .int p1), (0, .ref b), (1, .ref (ad 0)), (2, .ref la), (3, .ref lg), (4, .ref lt), (5, .int (nI tau)), (7, .int uu), (10, .int p0), (11, .int lst), (13, .int gr)]) hx hb dL_law_399 hl (by decide) rfl (fun ls hl => ?_)
      refine lv_aload_n hx hb dL_law_401 rfl (lv_at hl 3 rfl) ?_
      refine lv_iload hx hb dL_law_402 (lv_at hl 9 rfl) ?_
      refine lv_iload hx hb dL_law_404 (lv_at hl 1 rfl) ?_
      refine lv_iload hx hb dL_law_406 (lv_at hl 10 rfl) ?_
      refine lv_iload hx hb dL_law_408 (lv_at hl 11 rfl) ?_
      refine z_callAX (w1 := [(la, .inl (cI, 25, .inl fa)), (lg, .inl (cI, 4, .inl fg)), (lt, .inl (cI, 17, .inl ft))]) (As := [.ref (ad 0), .int p0, .int p1, .int lst, .int gr]) (rest := []) ⟨hx, hb, hml, hown, hts⟩ hG hK hP hD hS (cR_joint l hfl D cI cJ ad n kd ln lo hi vl gx gy sl si kc FF p0 p1 lst gr (by first | assumption | omega | decide)) (vx_cwSW (hh := [(0, 11, 14, 14), (0, 11, 20, 16)]) 5 hts gL_law_L_joint rfl rfl rfl (by decide +kernel) ⟨Nat.le_of_ble_eq_true rfl, Nat.le_of_ble_eq_true rfl⟩) (fun _ => rfl) rfl hl.1 rfl (Nat.le_of_ble_eq_true rfl) dL_law_410 ⟨(show cells + 1 ≤ 600104 by omega), (show slots + 6 ≤ 7301314 by omega)⟩ (fun u_33 H locs hu_34 hP hD hS => ?_)
      obtain ⟨kk_35, n2_36, kd2_37, ln2_38, lo2_39, hi2_40, vl2_41, si2_42, kc2_43, FF2_44⟩ := u_33
      have hu_34 : (zL0 (FF2_44 3) (FF2_44 4) (FF2_44 5) (FF2_44 6)) ∧ (zGd p0 p1 lst gr → n < 5 → (kk_35 = nI n) ∧ (n2_36 = n + 1) ∧ (kd2_37 = upd kd n p0) ∧ (ln2_38 = upd ln n p1) ∧ (lo2_39 = upd lo n lst) ∧ (hi2_40 = upd hi n gr) ∧ (vl2_41 = upd vl n (zHeldC lst gr 0))) ∧ (zGd p0 p1 lst gr → ¬ n < 5 → (kk_35 = (-7300)) ∧ (n2_36 = n) ∧ (kd2_37 = kd) ∧ (ln2_38 = ln) ∧ (lo2_39 = lo) ∧ (hi2_40 = hi) ∧ (vl2_41 = vl)) ∧ (¬ zGd p0 p1 lst gr → (kk_35 = (-7200)) ∧ (n2_36 = n) ∧ (kd2_37 = kd) ∧ (ln2_38 = ln) ∧ (lo2_39 = lo) ∧ (hi2_40 = hi) ∧ (vl2_41 = vl)) := hu_34
      obtain ⟨e_45, e_46, e_47, e_48⟩ := hu_34
      obtain ⟨r_49, r_50, r_51, r_52, r_53, r_54, r_55⟩ : (kk_35 = nI n) ∧ (n2_36 = n + 1) ∧ (kd2_37 = upd kd n p0) ∧ (ln2_38 = upd ln n p1) ∧ (lo2_39 = upd lo n lst) ∧ (hi2_40 = upd hi n gr) ∧ (vl2_41 = upd vl n (zHeldC lst gr 0)) := e_46 hgd (by omega)
      subst r_49
      subst r_50
      subst r_51
      subst r_52
      subst r_53
      subst r_54
      subst r_55
      have hP : va_P D vwCl ([(la, .inl (cI, 25, .inl fa)), (lg, .inl (cI, 4, .inl fg)), (lt, .inl (cI, 17, .inl ft))] ++ zWR cI cJ ad (n + 1) (upd kd n p0) (upd ln n p1) (upd lo n lst) (upd hi n gr) (upd vl n (zHeldC lst gr 0)) gx gy sl si2_42 kc2_43 FF2_44) H := hP
      have hD : va_D A0 ([(la, .inl (cI, 25, .inl fa)), (lg, .inl (cI, 4, .inl fg)), (lt, .inl (cI, 17, .inl ft))] ++ zWR cI cJ ad (n + 1) (upd kd n p0) (upd ln n p1) (upd lo n lst) (upd hi n gr) (upd vl n (zHeldC lst gr 0)) gx gy sl si2_42 kc2_43 FF2_44) := hD
      refine z_topi (y := nI n) rfl ?_
      replace hR := zRo_add hR e_45 hgd (by omega)
      refine lv_iload hx hb dL_law_413 (lv_at hl 0 rfl) ?_
      refine lv_if_eq (tgt := 424) hx hb dL_law_415 (by decide) (fun c_415 => ?_) (fun c_415 => ?_)
      · exact absurd c_415 (by decide)
      · refine lv_aload_n hx hb dL_law_418 rfl (lv_at hl 5 rfl) ?_
        refine lv_iconst (v := nI 0) hx hb dL_law_419 (rfl) ?_
        refine z_iald hx hb hK hP 1 rfl (j := 0) (by omega) (by decide) dL_law_420 ?_
        refine z_topi (y := nI n) (hGs.1) ?_
        refine lv_goto (tgt := 427) hx hb dL_law_421 (by decide) ?_
        refine lv_icmp_ne (tgt := 434) hx hb dL_law_427 (by decide) (fun c_427 => ?_) (fun c_427 => ?_)
        · exact absurd rfl c_427
        · refine lv_iconst (v := 1) hx hb dL_law_430 (by decide) ?_
          refine lv_goto (tgt := 435) hx hb dL_law_431 (by decide) ?_
          refine lv_istore (lv' := [(9, .int 1), (15, .int 1), (14, .int p1), (0, .ref b), (1, .ref (ad 0)), (2, .ref la), (3, .ref lg), (4, .ref lt), (5, .int (nI tau)), (7, .int uu), (10, .int p0), (11, .int lst), (13, .int gr)]) hx hb dL_law_435 hl (by decide) rfl (fun ls hl => ?_)
          refine lv_iload hx hb dL_law_437 (lv_at hl 1 rfl) ?_
          refine lv_if_ne (tgt := 445) hx hb dL_law_439 (by decide) (fun c_439 => ?_) (fun c_439 => ?_)
          · refine lv_iconst (v := nI 5) hx hb dL_law_445 (rfl) ?_
            refine lv_aload_n hx hb dL_law_446 rfl (lv_at hl 6 rfl) ?_
            refine lv_iconst (v := nI 0) hx hb dL_law_447 (rfl) ?_
            refine lv_dup2_11 hx hb dL_law_448 rfl rfl ?_
            refine z_iald hx hb hK hP 1 rfl (j := 0) (by omega) (by decide) dL_law_449 ?_
            refine z_topi (y := nI n) (hGs.1) ?_
            refine lv_dup_x2 hx hb dL_law_450 rfl rfl rfl ?_
            refine lv_iconst (v := 1) hx hb dL_law_451 (by decide) ?_
            refine lv_iadd hx hb dL_law_452 ?_
            refine z_topi (y := nI (n + 1)) ((nI_succ _).symm) ?_
            refine z_iast hx hb hK hP hD hS 1 rfl (j := 0) (by omega) (by decide) dL_law_453 (fun H locs hP hD hS => ?_)
            have hP : va_P D vwCl ([(la, .inl (cI, 25, .inl fa)), (lg, .inl (cI, 4, .inl (upd fg 0 (nI (n + 1))))), (lt, .inl (cI, 17, .inl ft))] ++ zWR cI cJ ad (n + 1) (upd kd n p0) (upd ln n p1) (upd lo n lst) (upd hi n gr) (upd vl n (zHeldC lst gr 0)) gx gy sl si2_42 kc2_43 FF2_44) H := hP
            have hD : va_D A0 ([(la, .inl (cI, 25, .inl fa)), (lg, .inl (cI, 4, .inl (upd fg 0 (nI (n + 1))))), (lt, .inl (cI, 17, .inl ft))] ++ zWR cI cJ ad (n + 1) (upd kd n p0) (upd ln n p1) (upd lo n lst) (upd hi n gr) (upd vl n (zHeldC lst gr 0)) gx gy sl si2_42 kc2_43 FF2_44) := hD
            refine lv_imul hx hb dL_law_454 ?_
            refine z_topi (y := nI (5 * n)) (pk_mul 5 _) ?_
            refine lv_istore (lv' := [(16, .int (nI (5 * n))), (9, .int 1), (15, .int 1), (14, .int p1), (0, .ref b), (1, .ref (ad 0)), (2, .ref la), (3, .ref lg), (4, .ref lt), (5, .int (nI tau)), (7, .int uu), (10, .int p0), (11, .int lst), (13, .int gr)]) hx hb dL_law_455 hl (by decide) rfl (fun ls hl => ?_)
            refine lv_aload_n hx hb dL_law_457 rfl (lv_at hl 6 rfl) ?_
            refine lv_iload hx hb dL_law_458 (lv_at hl 0 rfl) ?_
            refine lv_iload hx hb dL_law_460 (lv_at hl 11 rfl) ?_
            refine z_iast hx hb hK hP hD hS 0 rfl (j := (5 * n)) (by omega) (by decide) dL_law_462 (fun H locs hP hD hS => ?_)
            have hP : va_P D vwCl ([(la, .inl (cI, 25, .inl (upd fa (5 * n) p0))), (lg, .inl (cI, 4, .inl (upd fg 0 (nI (n + 1))))), (lt, .inl (cI, 17, .inl ft))] ++ zWR cI cJ ad (n + 1) (upd kd n p0) (upd ln n p1) (upd lo n lst) (upd hi n gr) (upd vl n (zHeldC lst gr 0)) gx gy sl si2_42 kc2_43 FF2_44) H := hP
            have hD : va_D A0 ([(la, .inl (cI, 25, .inl (upd fa (5 * n) p0))), (lg, .inl (cI, 4, .inl (upd fg 0 (nI (n + 1))))), (lt, .inl (cI, 17, .inl ft))] ++ zWR cI cJ ad (n + 1) (upd kd n p0) (upd ln n p1) (upd lo n lst) (upd hi n gr) (upd vl n (zHeldC lst gr 0)) gx gy sl si2_42 kc2_43 FF2_44) := hD
            refine lv_aload_n hx hb dL_law_463 rfl (lv_at hl 6 rfl) ?_
            refine lv_iload hx hb dL_law_464 (lv_at hl 0 rfl) ?_
            refine lv_iconst (v := nI 1) hx hb dL_law_466 (rfl) ?_
            refine lv_iadd hx hb dL_law_467 ?_
            refine z_topi (y := nI (5 * n + 1)) (nI_add _ _) ?_
            refine lv_iload hx hb dL_law_468 (lv_at hl 3 rfl) ?_
            refine z_iast hx hb hK hP hD hS 0 rfl (j := (5 * n + 1)) (by omega) (by decide) dL_law_470 (fun H locs hP hD hS => ?_)
            have hP : va_P D vwCl ([(la, .inl (cI, 25, .inl (upd (upd fa (5 * n) p0) (5 * n + 1) p1))), (lg, .inl (cI, 4, .inl (upd fg 0 (nI (n + 1))))), (lt, .inl (cI, 17, .inl ft))] ++ zWR cI cJ ad (n + 1) (upd kd n p0) (upd ln n p1) (upd lo n lst) (upd hi n gr) (upd vl n (zHeldC lst gr 0)) gx gy sl si2_42 kc2_43 FF2_44) H := hP
            have hD : va_D A0 ([(la, .inl (cI, 25, .inl (upd (upd fa (5 * n) p0) (5 * n + 1) p1))), (lg, .inl (cI, 4, .inl (upd fg 0 (nI (n + 1))))), (lt, .inl (cI, 17, .inl ft))] ++ zWR cI cJ ad (n + 1) (upd kd n p0) (upd ln n p1) (upd lo n lst) (upd hi n gr) (upd vl n (zHeldC lst gr 0)) gx gy sl si2_42 kc2_43 FF2_44) := hD
            refine lv_aload_n hx hb dL_law_471 rfl (lv_at hl 6 rfl) ?_
            refine lv_iload hx hb dL_law_472 (lv_at hl 0 rfl) ?_
            refine lv_iconst (v := nI 2) hx hb dL_law_474 (rfl) ?_
            refine lv_iadd hx hb dL_law_475 ?_
            refine z_topi (y := nI (5 * n + 2)) (nI_add _ _) ?_
            refine lv_iload hx hb dL_law_476 (lv_at hl 12 rfl) ?_
            refine z_iast hx hb hK hP hD hS 0 rfl (j := (5 * n + 2)) (by omega) (by decide) dL_law_478 (fun H locs hP hD hS => ?_)
            have hP : va_P D vwCl ([(la, .inl (cI, 25, .inl (upd (upd (upd fa (5 * n) p0) (5 * n + 1) p1) (5 * n + 2) lst))), (lg, .inl (cI, 4, .inl (upd fg 0 (nI (n + 1))))), (lt, .inl (cI, 17, .inl ft))] ++ zWR cI cJ ad (n + 1) (upd kd n p0) (upd ln n p1) (upd lo n lst) (upd hi n gr) (upd vl n (zHeldC lst gr 0)) gx gy sl si2_42 kc2_43 FF2_44) H := hP
            have hD : va_D A0 ([(la, .inl (cI, 25, .inl (upd (upd (upd fa (5 * n) p0) (5 * n + 1) p1) (5 * n + 2) lst))), (lg, .inl (cI, 4, .inl (upd fg 0 (nI (n + 1))))), (lt, .inl (cI, 17, .inl ft))] ++ zWR cI cJ ad (n + 1) (upd kd n p0) (upd ln n p1) (upd lo n lst) (upd hi n gr) (upd vl n (zHeldC lst gr 0)) gx gy sl si2_42 kc2_43 FF2_44) := hD
            refine lv_aload_n hx hb dL_law_479 rfl (lv_at hl 6 rfl) ?_
            refine lv_iload hx hb dL_law_480 (lv_at hl 0 rfl) ?_
            refine lv_iconst (v := nI 3) hx hb dL_law_482 (rfl) ?_
            refine lv_iadd hx hb dL_law_483 ?_
            refine z_topi (y := nI (5 * n + 3)) (nI_add _ _) ?_
            refine lv_iload hx hb dL_law_484 (lv_at hl 13 rfl) ?_
            refine z_iast hx hb hK hP hD hS 0 rfl (j := (5 * n + 3)) (by omega) (by decide) dL_law_486 (fun H locs hP hD hS => ?_)
            have hP : va_P D vwCl ([(la, .inl (cI, 25, .inl (upd (upd (upd (upd fa (5 * n) p0) (5 * n + 1) p1) (5 * n + 2) lst) (5 * n + 3) gr))), (lg, .inl (cI, 4, .inl (upd fg 0 (nI (n + 1))))), (lt, .inl (cI, 17, .inl ft))] ++ zWR cI cJ ad (n + 1) (upd kd n p0) (upd ln n p1) (upd lo n lst) (upd hi n gr) (upd vl n (zHeldC lst gr 0)) gx gy sl si2_42 kc2_43 FF2_44) H := hP
            have hD : va_D A0 ([(la, .inl (cI, 25, .inl (upd (upd (upd (upd fa (5 * n) p0) (5 * n + 1) p1) (5 * n + 2) lst) (5 * n + 3) gr))), (lg, .inl (cI, 4, .inl (upd fg 0 (nI (n + 1))))), (lt, .inl (cI, 17, .inl ft))] ++ zWR cI cJ ad (n + 1) (upd kd n p0) (upd ln n p1) (upd lo n lst) (upd hi n gr) (upd vl n (zHeldC lst gr 0)) gx gy sl si2_42 kc2_43 FF2_44) := hD
            refine lv_aload_n hx hb dL_law_487 rfl (lv_at hl 6 rfl) ?_
            refine lv_iload hx hb dL_law_488 (lv_at hl 0 rfl) ?_
            refine lv_iconst (v := nI 4) hx hb dL_law_490 (rfl) ?_
            refine lv_iadd hx hb dL_law_491 ?_
            refine z_topi (y := nI (5 * n + 4)) (nI_add _ _) ?_
            refine lv_iload hx hb dL_law_492 (lv_at hl 12 rfl) ?_
            refine lv_if_le (tgt := 502) hx hb dL_law_494 (by decide) (fun c_494 => ?_) (fun c_494 => ?_)
            · refine lv_iload hx hb dL_law_502 (lv_at hl 13 rfl) ?_
              refine lv_if_ge (tgt := 512) hx hb dL_law_504 (by decide) (fun c_504 => ?_) (fun c_504 => ?_)
              · refine lv_iconst (v := 0) hx hb dL_law_512 (by decide) ?_
                refine z_topi (y := zHeldC lst gr 0) (by first | exact zHc_a hgr.1 c_494 | exact zHc_b hgr.1 c_494 c_504 | exact zHc_c hgr.1 c_494 c_504) ?_
                refine z_iast hx hb hK hP hD hS 0 rfl (j := (5 * n + 4)) (by omega) (by decide) dL_law_513 (fun H locs hP hD hS => ?_)
                have hP : va_P D vwCl ([(la, .inl (cI, 25, .inl (upd (upd (upd (upd (upd fa (5 * n) p0) (5 * n + 1) p1) (5 * n + 2) lst) (5 * n + 3) gr) (5 * n + 4) (zHeldC lst gr 0)))), (lg, .inl (cI, 4, .inl (upd fg 0 (nI (n + 1))))), (lt, .inl (cI, 17, .inl ft))] ++ zWR cI cJ ad (n + 1) (upd kd n p0) (upd ln n p1) (upd lo n lst) (upd hi n gr) (upd vl n (zHeldC lst gr 0)) gx gy sl si2_42 kc2_43 FF2_44) H := hP
                have hD : va_D A0 ([(la, .inl (cI, 25, .inl (upd (upd (upd (upd (upd fa (5 * n) p0) (5 * n + 1) p1) (5 * n + 2) lst) (5 * n + 3) gr) (5 * n + 4) (zHeldC lst gr 0)))), (lg, .inl (cI, 4, .inl (upd fg 0 (nI (n + 1))))), (lt, .inl (cI, 17, .inl ft))] ++ zWR cI cJ ad (n + 1) (upd kd n p0) (upd ln n p1) (upd lo n lst) (upd hi n gr) (upd vl n (zHeldC lst gr 0)) gx gy sl si2_42 kc2_43 FF2_44) := hD
                refine lv_goto (tgt := 1740) hx hb dL_law_514 (by decide) ?_
                exact kk9 _ _ _ _ _ (by omega) (by omega) ⟨n + 1, upd kd n p0, upd ln n p1, upd lo n lst, upd hi n gr, upd vl n (zHeldC lst gr 0), gx, gy, sl, si2_42, kc2_43, FF2_44, upd (upd (upd (upd (upd fa (5 * n) p0) (5 * n + 1) p1) (5 * n + 2) lst) (5 * n + 3) gr) (5 * n + 4) (zHeldC lst gr 0), upd fg 0 (nI (n + 1)), ft, (by omega), hR, (zAr_add hA), (zGs_n hGs), hT, (zKd_add hkd hk0), hP, hD, hS⟩ (lv_sub hl [1, 10, 9, 8, 7, 6, 5, 4] rfl)
              · refine lv_iload hx hb dL_law_507 (lv_at hl 13 rfl) ?_
                refine lv_goto (tgt := 513) hx hb dL_law_509 (by decide) ?_
                refine z_topi (y := zHeldC lst gr 0) (by first | exact zHc_a hgr.1 c_494 | exact zHc_b hgr.1 c_494 c_504 | exact zHc_c hgr.1 c_494 c_504) ?_
                refine z_iast hx hb hK hP hD hS 0 rfl (j := (5 * n + 4)) (by omega) (by decide) dL_law_513 (fun H locs hP hD hS => ?_)
                have hP : va_P D vwCl ([(la, .inl (cI, 25, .inl (upd (upd (upd (upd (upd fa (5 * n) p0) (5 * n + 1) p1) (5 * n + 2) lst) (5 * n + 3) gr) (5 * n + 4) (zHeldC lst gr 0)))), (lg, .inl (cI, 4, .inl (upd fg 0 (nI (n + 1))))), (lt, .inl (cI, 17, .inl ft))] ++ zWR cI cJ ad (n + 1) (upd kd n p0) (upd ln n p1) (upd lo n lst) (upd hi n gr) (upd vl n (zHeldC lst gr 0)) gx gy sl si2_42 kc2_43 FF2_44) H := hP
                have hD : va_D A0 ([(la, .inl (cI, 25, .inl (upd (upd (upd (upd (upd fa (5 * n) p0) (5 * n + 1) p1) (5 * n + 2) lst) (5 * n + 3) gr) (5 * n + 4) (zHeldC lst gr 0)))), (lg, .inl (cI, 4, .inl (upd fg 0 (nI (n + 1))))), (lt, .inl (cI, 17, .inl ft))] ++ zWR cI cJ ad (n + 1) (upd kd n p0) (upd ln n p1) (upd lo n lst) (upd hi n gr) (upd vl n (zHeldC lst gr 0)) gx gy sl si2_42 kc2_43 FF2_44) := hD
                refine lv_goto (tgt := 1740) hx hb dL_law_514 (by decide) ?_
                exact kk9 _ _ _ _ _ (by omega) (by omega) ⟨n + 1, upd kd n p0, upd ln n p1, upd lo n lst, upd hi n gr, upd vl n (zHeldC lst gr 0), gx, gy, sl, si2_42, kc2_43, FF2_44, upd (upd (upd (upd (upd fa (5 * n) p0) (5 * n + 1) p1) (5 * n + 2) lst) (5 * n + 3) gr) (5 * n + 4) (zHeldC lst gr 0), upd fg 0 (nI (n + 1)), ft, (by omega), hR, (zAr_add hA), (zGs_n hGs), hT, (zKd_add hkd hk0), hP, hD, hS⟩ (lv_sub hl [1, 10, 9, 8, 7, 6, 5, 4] rfl)
            · refine lv_iload hx hb dL_law_497 (lv_at hl 12 rfl) ?_
              refine lv_goto (tgt := 513) hx hb dL_law_499 (by decide) ?_
              refine z_topi (y := zHeldC lst gr 0) (by first | exact zHc_a hgr.1 c_494 | exact zHc_b hgr.1 c_494 c_504 | exact zHc_c hgr.1 c_494 c_504) ?_
              refine z_iast hx hb hK hP hD hS 0 rfl (j := (5 * n + 4)) (by omega) (by decide) dL_law_513 (fun H locs hP hD hS => ?_)
              have hP : va_P D vwCl ([(la, .inl (cI, 25, .inl (upd (upd (upd (upd (upd fa (5 * n) p0) (5 * n + 1) p1) (5 * n + 2) lst) (5 * n + 3) gr) (5 * n + 4) (zHeldC lst gr 0)))), (lg, .inl (cI, 4, .inl (upd fg 0 (nI (n + 1))))), (lt, .inl (cI, 17, .inl ft))] ++ zWR cI cJ ad (n + 1) (upd kd n p0) (upd ln n p1) (upd lo n lst) (upd hi n gr) (upd vl n (zHeldC lst gr 0)) gx gy sl si2_42 kc2_43 FF2_44) H := hP
              have hD : va_D A0 ([(la, .inl (cI, 25, .inl (upd (upd (upd (upd (upd fa (5 * n) p0) (5 * n + 1) p1) (5 * n + 2) lst) (5 * n + 3) gr) (5 * n + 4) (zHeldC lst gr 0)))), (lg, .inl (cI, 4, .inl (upd fg 0 (nI (n + 1))))), (lt, .inl (cI, 17, .inl ft))] ++ zWR cI cJ ad (n + 1) (upd kd n p0) (upd ln n p1) (upd lo n lst) (upd hi n gr) (upd vl n (zHeldC lst gr 0)) gx gy sl si2_42 kc2_43 FF2_44) := hD
              refine lv_goto (tgt := 1740) hx hb dL_law_514 (by decide) ?_
              exact kk9 _ _ _ _ _ (by omega) (by omega) ⟨n + 1, upd kd n p0, upd ln n p1, upd lo n lst, upd hi n gr, upd vl n (zHeldC lst gr 0), gx, gy, sl, si2_42, kc2_43, FF2_44, upd (upd (upd (upd (upd fa (5 * n) p0) (5 * n + 1) p1) (5 * n + 2) lst) (5 * n + 3) gr) (5 * n + 4) (zHeldC lst gr 0), upd fg 0 (nI (n + 1)), ft, (by omega), hR, (zAr_add hA), (zGs_n hGs), hT, (zKd_add hkd hk0), hP, hD, hS⟩ (lv_sub hl [1, 10, 9, 8, 7, 6, 5, 4] rfl)
          · exact absurd c_439 (by decide)
  have jn_329_56 : ∀ (lst : Int32), (zLs p0 lst) → ∀ (H : Heap) (locs : List Loc), va_P D vwCl ([(la, .inl (cI, 25, .inl fa)), (lg, .inl (cI, 4, .inl fg)), (lt, .inl (cI, 17, .inl ft))] ++ zWR cI cJ ad n kd ln lo hi vl gx gy sl si kc FF) H → va_D A0 ([(la, .inl (cI, 25, .inl fa)), (lg, .inl (cI, 4, .inl fg)), (lt, .inl (cI, 17, .inl ft))] ++ zWR cI cJ ad n kd ln lo hi vl gx gy sl si kc FF) → va_S A0 s.heap H locs → ∀ (ls : Array Slot), lv_has ls 34 [(0, .ref b), (1, .ref (ad 0)), (2, .ref la), (3, .ref lg), (4, .ref lt), (5, .int (nI tau)), (7, .int uu), (10, .int p0), (11, .int lst), (12, .int (zTo p0))] → W p l e (room_1) s m args below meth c H locs cells slots Q (F0 m 329 ls []) := by
    intro lst hls H locs hP hD hS ls hl
    refine lv_iload hx hb dL_law_329 (lv_at hl 8 rfl) ?_
    refine lv_iload hx hb dL_law_331 (lv_at hl 6 rfl) ?_
    refine lv_bipush (v := 9) hx hb dL_law_333 (by decide) ?_
    refine lv_ishr hx hb dL_law_335 ?_
    refine lv_iload hx hb dL_law_336 (lv_at hl 6 rfl) ?_
    refine lv_ldc (own := RL) (v := 1048576) hx hb hown (hts (.constant RL 128 (1048576)) (by decide +kernel)) dL_law_338 ?_
    refine lv_iand hx hb dL_law_340 ?_
    refine lv_if_ne (tgt := 349) hx hb dL_law_341 (by decide) (fun c_341 => ?_) (fun c_341 => ?_)
    · refine lv_sipush (v := nI 140) hx hb dL_law_349 (rfl) ?_
      refine z_call0 (As := [.int (uu >>> (9 &&& 31)), .int (nI 140)]) (rest := [.int lst]) ⟨hx, hb, hml, hown, hts⟩ hG hK hP hD hS (zML_of (c_L_low l D cI cJ (uu >>> (9 &&& 31)) 140 (by first | assumption | omega | decide))) (va_cwS 2 hts gL_law_L_low rfl rfl rfl (by decide +kernel) ⟨Nat.le_of_ble_eq_true rfl, Nat.le_of_ble_eq_true rfl⟩) (fun _ => rfl) rfl hl.1 rfl (Nat.le_of_ble_eq_true rfl) dL_law_352 ⟨(show cells + 0 ≤ 600104 by omega), (show slots + 0 ≤ 7301314 by omega)⟩ (fun u_57 H locs hu_58 hP hD hS => ?_)
      obtain ⟨r_59, rfl⟩ : ∃ z, z = u_57 := ⟨_, rfl⟩
      have hu_58 : (r_59 = nI (zLw (uu >>> (9 &&& 31)) 140)) := hu_58
      have e_60 := hu_58
      subst e_60
      have hP : va_P D vwCl ([(la, .inl (cI, 25, .inl fa)), (lg, .inl (cI, 4, .inl fg)), (lt, .inl (cI, 17, .inl ft))] ++ zWR cI cJ ad n kd ln lo hi vl gx gy sl si kc FF) H := hP
      have hD : va_D A0 ([(la, .inl (cI, 25, .inl fa)), (lg, .inl (cI, 4, .inl fg)), (lt, .inl (cI, 17, .inl ft))] ++ zWR cI cJ ad n kd ln lo hi vl gx gy sl si kc FF) := hD
      refine lv_iadd hx hb dL_law_355 ?_
      refine lv_istore (lv' := [(13, .int (lst + (nI (zLw (uu >>> (9 &&& 31)) 140)))), (0, .ref b), (1, .ref (ad 0)), (2, .ref la), (3, .ref lg), (4, .ref lt), (5, .int (nI tau)), (7, .int uu), (10, .int p0), (11, .int lst), (12, .int (zTo p0))]) hx hb dL_law_356 hl (by decide) rfl (fun ls hl => ?_)
      refine lv_iload hx hb dL_law_358 (lv_at hl 0 rfl) ?_
      refine lv_iload hx hb dL_law_360 (lv_at hl 10 rfl) ?_
      refine lv_icmp_le (tgt := 370) hx hb dL_law_362 (by decide) (fun c_362 => ?_) (fun c_362 => ?_)
      · refine lv_iload hx hb dL_law_370 (lv_at hl 0 rfl) ?_
        refine lv_istore (lv' := [(13, .int (lst + (nI (zLw (uu >>> (9 &&& 31)) 140)))), (0, .ref b), (1, .ref (ad 0)), (2, .ref la), (3, .ref lg), (4, .ref lt), (5, .int (nI tau)), (7, .int uu), (10, .int p0), (11, .int lst), (12, .int (zTo p0))]) hx hb dL_law_372 hl (by decide) rfl (fun ls hl => ?_)
        exact jn_374_5 lst (lst + (nI (zLw (uu >>> (9 &&& 31)) 140))) (hls) (zGr_1 hls (by decide) (by decide) c_362) _ _ hP hD hS _ (lv_sub hl [1, 2, 3, 4, 5, 6, 7, 8, 9, 0] rfl)
      · refine lv_iload hx hb dL_law_365 (lv_at hl 10 rfl) ?_
        refine lv_goto (tgt := 372) hx hb dL_law_367 (by decide) ?_
        refine lv_istore (lv' := [(13, .int (zTo p0)), (0, .ref b), (1, .ref (ad 0)), (2, .ref la), (3, .ref lg), (4, .ref lt), (5, .int (nI tau)), (7, .int uu), (10, .int p0), (11, .int lst), (12, .int (zTo p0))]) hx hb dL_law_372 hl (by decide) rfl (fun ls hl => ?_)
        exact jn_374_5 lst (zTo p0) (hls) (zGr_2 hls) _ _ hP hD hS _ (lv_sub hl [1, 2, 3, 4, 5, 6, 7, 8, 9, 0] rfl)
    · refine lv_bipush (v := nI 7) hx hb dL_law_344 (rfl) ?_
      refine lv_goto (tgt := 352) hx hb dL_law_346 (by decide) ?_
      refine z_call0 (As := [.int (uu >>> (9 &&& 31)), .int (nI 7)]) (rest := [.int lst]) ⟨hx, hb, hml, hown, hts⟩ hG hK hP hD hS (zML_of (c_L_low l D cI cJ (uu >>> (9 &&& 31)) 7 (by first | assumption | omega | decide))) (va_cwS 2 hts gL_law_L_low rfl rfl rfl (by decide +kernel) ⟨Nat.le_of_ble_eq_true rfl, Nat.le_of_ble_eq_true rfl⟩) (fun _ => rfl) rfl hl.1 rfl (Nat.le_of_ble_eq_true rfl) dL_law_352 ⟨(show cells + 0 ≤ 600104 by omega), (show slots + 0 ≤ 7301314 by omega)⟩ (fun u_61 H locs hu_62 hP hD hS => ?_)
      obtain ⟨r_63, rfl⟩ : ∃ z, z = u_61 := ⟨_, rfl⟩
      have hu_62 : (r_63 = nI (zLw (uu >>> (9 &&& 31)) 7)) := hu_62
      have e_64 := hu_62
      subst e_64
      have hP : va_P D vwCl ([(la, .inl (cI, 25, .inl fa)), (lg, .inl (cI, 4, .inl fg)), (lt, .inl (cI, 17, .inl ft))] ++ zWR cI cJ ad n kd ln lo hi vl gx gy sl si kc FF) H := hP
      have hD : va_D A0 ([(la, .inl (cI, 25, .inl fa)), (lg, .inl (cI, 4, .inl fg)), (lt, .inl (cI, 17, .inl ft))] ++ zWR cI cJ ad n kd ln lo hi vl gx gy sl si kc FF) := hD
      refine lv_iadd hx hb dL_law_355 ?_
      refine lv_istore (lv' := [(13, .int (lst + (nI (zLw (uu >>> (9 &&& 31)) 7)))), (0, .ref b), (1, .ref (ad 0)), (2, .ref la), (3, .ref lg), (4, .ref lt), (5, .int (nI tau)), (7, .int uu), (10, .int p0), (11, .int lst), (12, .int (zTo p0))]) hx hb dL_law_356 hl (by decide) rfl (fun ls hl => ?_)
      refine lv_iload hx hb dL_law_358 (lv_at hl 0 rfl) ?_
      refine lv_iload hx hb dL_law_360 (lv_at hl 10 rfl) ?_
      refine lv_icmp_le (tgt := 370) hx hb dL_law_362 (by decide) (fun c_362 => ?_) (fun c_362 => ?_)
      · refine lv_iload hx hb dL_law_370 (lv_at hl 0 rfl) ?_
        refine lv_istore (lv' := [(13, .int (lst + (nI (zLw (uu >>> (9 &&& 31)) 7)))), (0, .ref b), (1, .ref (ad 0)), (2, .ref la), (3, .ref lg), (4, .ref lt), (5, .int (nI tau)), (7, .int uu), (10, .int p0), (11, .int lst), (12, .int (zTo p0))]) hx hb dL_law_372 hl (by decide) rfl (fun ls hl => ?_)
        exact jn_374_5 lst (lst + (nI (zLw (uu >>> (9 &&& 31)) 7))) (hls) (zGr_1 hls (by decide) (by decide) c_362) _ _ hP hD hS _ (lv_sub hl [1, 2, 3, 4, 5, 6, 7, 8, 9, 0] rfl)
      · refine lv_iload hx hb dL_law_365 (lv_at hl 10 rfl) ?_
        refine lv_goto (tgt := 372) hx hb dL_law_367 (by decide) ?_
        refine lv_istore (lv' := [(13, .int (zTo p0)), (0, .ref b), (1, .ref (ad 0)), (2, .ref la), (3, .ref lg), (4, .ref lt), (5, .int (nI tau)), (7, .int uu), (10, .int p0), (11, .int lst), (12, .int (zTo p0))]) hx hb dL_law_372 hl (by decide) rfl (fun ls hl => ?_)
        exact jn_374_5 lst (zTo p0) (hls) (zGr_2 hls) _ _ hP hD hS _ (lv_sub hl [1, 2, 3, 4, 5, 6, 7, 8, 9, 0] rfl)
  have jn_315_65 : ∀ (lst : Int32), (zLs p0 lst) → ∀ (H : Heap) (locs : List Loc), va_P D vwCl ([(la, .inl (cI, 25, .inl fa)), (lg, .inl (cI, 4, .inl fg)), (lt, .inl (cI, 17, .inl ft))] ++ zWR cI cJ ad n kd ln lo hi vl gx gy sl si kc FF) H → va_D A0 ([(la, .inl (cI, 25, .inl fa)), (lg, .inl (cI, 4, .inl fg)), (lt, .inl (cI, 17, .inl ft))] ++ zWR cI cJ ad n kd ln lo hi vl gx gy sl si kc FF) → va_S A0 s.heap H locs → ∀ (ls : Array Slot), lv_has ls 34 [(0, .ref b), (1, .ref (ad 0)), (2, .ref la), (3, .ref lg), (4, .ref lt), (5, .int (nI tau)), (7, .int uu), (10, .int p0), (11, .int lst)] → W p l e (room_1) s m args below meth c H locs cells slots Q (F0 m 315 ls []) := by
    intro lst hls H locs hP hD hS ls hl
    refine lv_iload hx hb dL_law_315 (lv_at hl 7 rfl) ?_
    refine lv_if_ne (tgt := 325) hx hb dL_law_317 (by decide) (fun c_317 => ?_) (fun c_317 => ?_)
    · refine lv_bipush (v := 100) hx hb dL_law_325 (by decide) ?_
      refine z_topi (y := zTo p0) (by first | exact zTo_t c_317 | exact zTo_s c_317) ?_
      refine lv_istore (lv' := [(12, .int (zTo p0)), (0, .ref b), (1, .ref (ad 0)), (2, .ref la), (3, .ref lg), (4, .ref lt), (5, .int (nI tau)), (7, .int uu), (10, .int p0), (11, .int lst)]) hx hb dL_law_327 hl (by decide) rfl (fun ls hl => ?_)
      exact jn_329_56 lst (hls) _ _ hP hD hS _ (lv_sub hl [1, 2, 3, 4, 5, 6, 7, 8, 9, 0] rfl)
    · refine lv_bipush (v := 32) hx hb dL_law_320 (by decide) ?_
      refine lv_goto (tgt := 327) hx hb dL_law_322 (by decide) ?_
      refine z_topi (y := zTo p0) (by first | exact zTo_t c_317 | exact zTo_s c_317) ?_
      refine lv_istore (lv' := [(12, .int (zTo p0)), (0, .ref b), (1, .ref (ad 0)), (2, .ref la), (3, .ref lg), (4, .ref lt), (5, .int (nI tau)), (7, .int uu), (10, .int p0), (11, .int lst)]) hx hb dL_law_327 hl (by decide) rfl (fun ls hl => ?_)
      exact jn_329_56 lst (hls) _ _ hP hD hS _ (lv_sub hl [1, 2, 3, 4, 5, 6, 7, 8, 9, 0] rfl)
  refine lv_iload hx hb dL_law_284 (lv_at hl 0 rfl) ?_
  refine lv_if_ne (tgt := 304) hx hb dL_law_286 (by decide) (fun c_286 => ?_) (fun c_286 => ?_)
  · refine lv_iload hx hb dL_law_304 (lv_at hl 3 rfl) ?_
    refine lv_iconst (v := 2) hx hb dL_law_306 (by decide) ?_
    refine lv_ishr hx hb dL_law_307 ?_
    refine lv_bipush (v := nI 101) hx hb dL_law_308 (rfl) ?_
    refine z_call0 (As := [.int (uu >>> (2 &&& 31)), .int (nI 101)]) (rest := []) ⟨hx, hb, hml, hown, hts⟩ hG hK hP hD hS (zML_of (c_L_low l D cI cJ (uu >>> (2 &&& 31)) 101 (by first | assumption | omega | decide))) (va_cwS 2 hts gL_law_L_low rfl rfl rfl (by decide +kernel) ⟨Nat.le_of_ble_eq_true rfl, Nat.le_of_ble_eq_true rfl⟩) (fun _ => rfl) rfl hl.1 rfl (Nat.le_of_ble_eq_true rfl) dL_law_310 ⟨(show cells + 0 ≤ 600104 by omega), (show slots + 0 ≤ 7301314 by omega)⟩ (fun u_66 H locs hu_67 hP hD hS => ?_)
    obtain ⟨r_68, rfl⟩ : ∃ z, z = u_66 := ⟨_, rfl⟩
    have hu_67 : (r_68 = nI (zLw (uu >>> (2 &&& 31)) 101)) := hu_67
    have e_69 := hu_67
    subst e_69
    have hP : va_P D vwCl ([(la, .inl (cI, 25, .inl fa)), (lg, .inl (cI, 4, .inl fg)), (lt, .inl (cI, 17, .inl ft))] ++ zWR cI cJ ad n kd ln lo hi vl gx gy sl si kc FF) H := hP
    have hD : va_D A0 ([(la, .inl (cI, 25, .inl fa)), (lg, .inl (cI, 4, .inl fg)), (lt, .inl (cI, 17, .inl ft))] ++ zWR cI cJ ad n kd ln lo hi vl gx gy sl si kc FF) := hD
    refine lv_istore (lv' := [(11, .int (nI (zLw (uu >>> (2 &&& 31)) 101))), (10, .int p0), (9, .int 1), (8, .int (nI jj)), (7, .int uu), (6, .int vv), (5, .int (nI tau)), (4, .ref lt), (3, .ref lg), (2, .ref la), (1, .ref (ad 0)), (0, .ref b)]) hx hb dL_law_313 hl (by decide) rfl (fun ls hl => ?_)
    exact jn_315_65 (nI (zLw (uu >>> (2 &&& 31)) 101)) (by first | exact zLs_t c_286 _ | exact zLs_s c_286 _) _ _ hP hD hS _ (lv_sub hl [11, 10, 9, 8, 7, 6, 4, 1, 0] rfl)
  · refine lv_iload hx hb dL_law_289 (lv_at hl 3 rfl) ?_
    refine lv_iconst (v := 2) hx hb dL_law_291 (by decide) ?_
    refine lv_ishr hx hb dL_law_292 ?_
    refine lv_bipush (v := nI 65) hx hb dL_law_293 (rfl) ?_
    refine z_call0 (As := [.int (uu >>> (2 &&& 31)), .int (nI 65)]) (rest := []) ⟨hx, hb, hml, hown, hts⟩ hG hK hP hD hS (zML_of (c_L_low l D cI cJ (uu >>> (2 &&& 31)) 65 (by first | assumption | omega | decide))) (va_cwS 2 hts gL_law_L_low rfl rfl rfl (by decide +kernel) ⟨Nat.le_of_ble_eq_true rfl, Nat.le_of_ble_eq_true rfl⟩) (fun _ => rfl) rfl hl.1 rfl (Nat.le_of_ble_eq_true rfl) dL_law_295 ⟨(show cells + 0 ≤ 600104 by omega), (show slots + 0 ≤ 7301314 by omega)⟩ (fun u_70 H locs hu_71 hP hD hS => ?_)
    obtain ⟨r_72, rfl⟩ : ∃ z, z = u_70 := ⟨_, rfl⟩
    have hu_71 : (r_72 = nI (zLw (uu >>> (2 &&& 31)) 65)) := hu_71
    have e_73 := hu_71
    subst e_73
    have hP : va_P D vwCl ([(la, .inl (cI, 25, .inl fa)), (lg, .inl (cI, 4, .inl fg)), (lt, .inl (cI, 17, .inl ft))] ++ zWR cI cJ ad n kd ln lo hi vl gx gy sl si kc FF) H := hP
    have hD : va_D A0 ([(la, .inl (cI, 25, .inl fa)), (lg, .inl (cI, 4, .inl fg)), (lt, .inl (cI, 17, .inl ft))] ++ zWR cI cJ ad n kd ln lo hi vl gx gy sl si kc FF) := hD
    refine lv_bipush (v := 32) hx hb dL_law_298 (by decide) ?_
    refine lv_isub hx hb dL_law_300 ?_
    refine lv_goto (tgt := 313) hx hb dL_law_301 (by decide) ?_
    refine lv_istore (lv' := [(11, .int ((nI (zLw (uu >>> (2 &&& 31)) 65)) - 32)), (10, .int p0), (9, .int 1), (8, .int (nI jj)), (7, .int uu), (6, .int vv), (5, .int (nI tau)), (4, .ref lt), (3, .ref lg), (2, .ref la), (1, .ref (ad 0)), (0, .ref b)]) hx hb dL_law_313 hl (by decide) rfl (fun ls hl => ?_)
    exact jn_315_65 ((nI (zLw (uu >>> (2 &&& 31)) 65)) - 32) (by first | exact zLs_t c_286 _ | exact zLs_s c_286 _) _ _ hP hD hS _ (lv_sub hl [11, 10, 9, 8, 7, 6, 4, 1, 0] rfl)

