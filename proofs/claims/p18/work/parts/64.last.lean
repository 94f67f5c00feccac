/-! the law's last answers -/
set_option maxHeartbeats 4000000 in
set_option maxRecDepth 100000 in
theorem law_last {p : Program} {l : Launch} {e : Env} {s : State} {m : MethodId} {args : Array Value} {below : List Frame} {meth : Method} {c : Code} {D : va_G} {cI cJ : ClassId} {A0 : Nat → Prop} {Q : State → Prop} {b la lg lt : Nat} {ad : Nat → Nat} (hfl : l.stackTraces = false) (C : zC p m c meth cL_law 34 s args wsL_law RL D cI cJ A0 []) (hNw : ∀ q : Nat, s.heap.size ≤ q → A0 q) {H : Heap} {locs : List Loc} {cells slots : Nat} {ls : Array Slot} (hc : cells + 40 ≤ 600104) (hs : slots + 240 ≤ 7301314) (hw : zLv D cI cJ A0 s.heap H locs ad la lg lt 1) (hl : lv_has ls 34 [(5, .int (nI 60)), (4, .ref lt), (3, .ref lg), (2, .ref la), (1, .ref (ad 0)), (0, .ref b)]) (kk9 : ∀ (H1 : Heap) (locs1 : List Loc) (ls1 : Array Slot) (c1 s1 : Nat), c1 ≤ 600104 → s1 ≤ 7301314 → va_S A0 s.heap H1 locs1 → W p l e room_1 s m args below meth c H1 locs1 c1 s1 Q (F0 m 1796 ls1 [.int 1])) : W p l e room_1 s m args below meth c H locs cells slots Q (F0 m 1766 ls []) := by
  obtain ⟨⟨hx, hb, hml, hown, hts⟩, hG, hK, hD0, hlocks⟩ := C
  obtain ⟨n, kd, ln, lo, hi, vl, gx, gy, sl, si, kc, FF, fa, fg, ft, hn1, hR, hA, hGs, hT, hkd, hP, hD, hS⟩ := hw
  refine lv_aload_n hx hb dL_law_1766 rfl (lv_at hl 4 rfl) ?_
  refine lv_iconst (v := 2) hx hb dL_law_1767 (by decide) ?_
  refine lv_iconst (v := 0) hx hb dL_law_1768 (by decide) ?_
  refine lv_iconst (v := 0) hx hb dL_law_1769 (by decide) ?_
  refine lv_iconst (v := 0) hx hb dL_law_1770 (by decide) ?_
  refine z_callAX (w1 := [(la, .inl (cI, 25, .inl fa)), (lg, .inl (cI, 4, .inl fg)), (lt, .inl (cI, 17, .inl ft))]) (As := [.ref (ad 0), .int 2, .int 0, .int 0, .int 0]) (rest := []) ⟨hx, hb, hml, hown, hts⟩ hG hK hP hD hS (cR_joint l hfl D cI cJ ad n kd ln lo hi vl gx gy sl si kc FF 2 0 0 0 (by first | assumption | omega | decide)) (vx_cwSW (hh := [(0, 11, 14, 14), (0, 11, 20, 16)]) 5 hts gL_law_L_joint rfl rfl rfl (by decide +kernel) ⟨Nat.le_of_ble_eq_true rfl, Nat.le_of_ble_eq_true rfl⟩) (fun _ => rfl) rfl hl.1 rfl (Nat.le_of_ble_eq_true rfl) dL_law_1771 ⟨(show cells + 1 ≤ 600104 by omega), (show slots + 6 ≤ 7301314 by omega)⟩ (fun u_1 H locs hu_2 hP hD hS => ?_)
  obtain ⟨kk_3, n2_4, kd2_5, ln2_6, lo2_7, hi2_8, vl2_9, si2_10, kc2_11, FF2_12⟩ := u_1
  have hu_2 : (zL0 (FF2_12 3) (FF2_12 4) (FF2_12 5) (FF2_12 6)) ∧ (zGd (2 : Int32) (0 : Int32) (0 : Int32) (0 : Int32) → n < 5 → (kk_3 = nI n) ∧ (n2_4 = n + 1) ∧ (kd2_5 = upd kd n (2 : Int32)) ∧ (ln2_6 = upd ln n (0 : Int32)) ∧ (lo2_7 = upd lo n (0 : Int32)) ∧ (hi2_8 = upd hi n (0 : Int32)) ∧ (vl2_9 = upd vl n (zHeldC (0 : Int32) (0 : Int32) 0))) ∧ (zGd (2 : Int32) (0 : Int32) (0 : Int32) (0 : Int32) → ¬ n < 5 → (kk_3 = (-7300)) ∧ (n2_4 = n) ∧ (kd2_5 = kd) ∧ (ln2_6 = ln) ∧ (lo2_7 = lo) ∧ (hi2_8 = hi) ∧ (vl2_9 = vl)) ∧ (¬ zGd (2 : Int32) (0 : Int32) (0 : Int32) (0 : Int32) → (kk_3 = (-7200)) ∧ (n2_4 = n) ∧ (kd2_5 = kd) ∧ (ln2_6 = ln) ∧ (lo2_7 = lo) ∧ (hi2_8 = hi) ∧ (vl2_9 = vl)) := hu_2
  obtain ⟨e_13, e_14, e_15, e_16⟩ := hu_2
  obtain ⟨r_17, r_18, r_19, r_20, r_21, r_22, r_23⟩ : (kk_3 = (-7200)) ∧ (n2_4 = n) ∧ (kd2_5 = kd) ∧ (ln2_6 = ln) ∧ (lo2_7 = lo) ∧ (hi2_8 = hi) ∧ (vl2_9 = vl) := e_16 (fun h9 => absurd h9.1 (by decide))
  subst r_17
  replace r_18 := r_18.symm
  subst r_18
  replace r_19 := r_19.symm
  subst r_19
  replace r_20 := r_20.symm
  subst r_20
  replace r_21 := r_21.symm
  subst r_21
  replace r_22 := r_22.symm
  subst r_22
  replace r_23 := r_23.symm
  subst r_23
  have hP : va_P D vwCl ([(la, .inl (cI, 25, .inl fa)), (lg, .inl (cI, 4, .inl fg)), (lt, .inl (cI, 17, .inl ft))] ++ zWR cI cJ ad n kd ln lo hi vl gx gy sl si2_10 kc2_11 FF2_12) H := hP
  have hD : va_D A0 ([(la, .inl (cI, 25, .inl fa)), (lg, .inl (cI, 4, .inl fg)), (lt, .inl (cI, 17, .inl ft))] ++ zWR cI cJ ad n kd ln lo hi vl gx gy sl si2_10 kc2_11 FF2_12) := hD
  refine z_topi (y := -7200) rfl ?_
  replace hR := zRo_of hR e_13
  refine lv_sipush (v := (-7200)) hx hb dL_law_1774 (by decide) ?_
  refine lv_icmp_ne (tgt := 1795) hx hb dL_law_1777 (by decide) (fun c_1777 => ?_) (fun c_1777 => ?_)
  · exact absurd (by decide) c_1777
  · refine lv_aload_n hx hb dL_law_1780 rfl (lv_at hl 4 rfl) ?_
    refine lv_iconst (v := 0) hx hb dL_law_1781 (by decide) ?_
    refine z_callAX (w1 := [(la, .inl (cI, 25, .inl fa)), (lg, .inl (cI, 4, .inl fg)), (lt, .inl (cI, 17, .inl ft))]) (As := [.ref (ad 0), .int 0]) (rest := []) ⟨hx, hb, hml, hown, hts⟩ hG hK hP hD hS (cR_steps l hfl D cI cJ ad n kd ln lo hi vl gx gy sl si2_10 kc2_11 FF2_12 0 (by first | assumption | omega | decide)) (vx_cwSW (hh := [(0, 6, 9, 14)]) 2 hts gL_law_L_steps rfl rfl rfl (by decide +kernel) ⟨Nat.le_of_ble_eq_true rfl, Nat.le_of_ble_eq_true rfl⟩) (fun _ => rfl) rfl hl.1 rfl (Nat.le_of_ble_eq_true rfl) dL_law_1782 ⟨(show cells + 1 + 1 ≤ 600104 by omega), (show slots + 6 * 1 + 6 ≤ 7301314 by omega)⟩ (fun u_24 H locs hu_25 hP hD hS => ?_)
    obtain ⟨kk_26, vl2_27, si2_28, kc2_29, FF2_30⟩ := u_24
    have hu_25 : (zL0 (FF2_30 3) (FF2_30 4) (FF2_30 5) (FF2_30 6)) ∧ ((1 ≤ (0 : Int32) ∧ (0 : Int32) ≤ 200) → (kk_26 = nI (zRun kd ln lo hi vl n gx gy (0 : Int32).toNatClampNeg).1) ∧ (vl2_27 = (zRun kd ln lo hi vl n gx gy (0 : Int32).toNatClampNeg).2)) ∧ (¬ (1 ≤ (0 : Int32) ∧ (0 : Int32) ≤ 200) → (kk_26 = (-7200)) ∧ (vl2_27 = vl)) := hu_25
    obtain ⟨e_31, e_32, e_33⟩ := hu_25
    obtain ⟨r_34, r_35⟩ : (kk_26 = (-7200)) ∧ (vl2_27 = vl) := e_33 (fun h9 => absurd h9.1 (by decide))
    subst r_34
    replace r_35 := r_35.symm
    subst r_35
    have hP : va_P D vwCl ([(la, .inl (cI, 25, .inl fa)), (lg, .inl (cI, 4, .inl fg)), (lt, .inl (cI, 17, .inl ft))] ++ zWR cI cJ ad n kd ln lo hi vl gx gy sl si2_28 kc2_29 FF2_30) H := hP
    have hD : va_D A0 ([(la, .inl (cI, 25, .inl fa)), (lg, .inl (cI, 4, .inl fg)), (lt, .inl (cI, 17, .inl ft))] ++ zWR cI cJ ad n kd ln lo hi vl gx gy sl si2_28 kc2_29 FF2_30) := hD
    refine z_topi (y := -7200) rfl ?_
    replace hR := zRo_of hR e_31
    refine lv_sipush (v := (-7200)) hx hb dL_law_1785 (by decide) ?_
    refine lv_icmp_ne (tgt := 1795) hx hb dL_law_1788 (by decide) (fun c_1788 => ?_) (fun c_1788 => ?_)
    · exact absurd (by decide) c_1788
    · refine lv_iconst (v := 1) hx hb dL_law_1791 (by decide) ?_
      refine lv_goto (tgt := 1796) hx hb dL_law_1792 (by decide) ?_
      exact kk9 _ _ _ _ _ (by omega) (by omega) hS
