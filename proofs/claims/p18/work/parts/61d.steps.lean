/-! the law's cases: joints, steps -/
set_option maxHeartbeats 4000000 in
set_option maxRecDepth 100000 in
theorem law_steps {p : Program} {l : Launch} {e : Env} {s : State} {m : MethodId} {args : Array Value} {below : List Frame} {meth : Method} {c : Code} {D : va_G} {cI cJ : ClassId} {A0 : Nat → Prop} {Q : State → Prop} {b la lg lt tau : Nat} {ad : Nat → Nat} {n : Nat} {kd : Nat → Int32} {ln : Nat → Int32} {lo : Nat → Int32} {hi : Nat → Int32} {vl : Nat → Int32} {gx : Int32} {gy : Int32} {sl : Int32} {si : Nat → Int32} {kc : Nat → Int64} {FF : Nat → Nat → Int32} {fa fg ft : Nat → Int32} {uu vv : Int32} {jj : Nat} (hfl : l.stackTraces = false) (C : zC p m c meth cL_law 34 s args wsL_law RL D cI cJ A0 []) (hNw : ∀ q : Nat, s.heap.size ≤ q → A0 q) (hR : zRo n kd ln lo hi vl gx gy sl FF) (hA : zAr n fa kd ln lo hi vl) (hGs : zGs fg n gx gy sl) (hT : zTt ft) (hkd : zKd n kd) (hn1 : 1 ≤ n) (hjj : jj < n) {H : Heap} {locs : List Loc} {cells slots : Nat} {ls : Array Slot} (hc : cells + 40 ≤ 600104) (hs : slots + 240 ≤ 7301314) (hP : va_P D vwCl ([(la, .inl (cI, 25, .inl fa)), (lg, .inl (cI, 4, .inl fg)), (lt, .inl (cI, 17, .inl ft))] ++ zWR cI cJ ad n kd ln lo hi vl gx gy sl si kc FF) H) (hD : va_D A0 ([(la, .inl (cI, 25, .inl fa)), (lg, .inl (cI, 4, .inl fg)), (lt, .inl (cI, 17, .inl ft))] ++ zWR cI cJ ad n kd ln lo hi vl gx gy sl si kc FF)) (hS : va_S A0 s.heap H locs) (hl : lv_has ls 34 [(9, .int 1), (8, .int (nI jj)), (7, .int uu), (6, .int vv), (5, .int (nI tau)), (4, .ref lt), (3, .ref lg), (2, .ref la), (1, .ref (ad 0)), (0, .ref b)]) (kk9 : ∀ (H1 : Heap) (locs1 : List Loc) (ls1 : Array Slot) (c1 s1 : Nat), c1 ≤ cells + 40 → s1 ≤ slots + 240 → zLv D cI cJ A0 s.heap H1 locs1 ad la lg lt 1 → lv_has ls1 34 [(9, .int 1), (7, .int uu), (5, .int (nI tau)), (4, .ref lt), (3, .ref lg), (2, .ref la), (1, .ref (ad 0)), (0, .ref b)] → W p l e room_1 s m args below meth c H1 locs1 c1 s1 Q (F0 m 1740 ls1 [])) : W p l e room_1 s m args below meth c H locs cells slots Q (F0 m 963 ls []) := by
  obtain ⟨⟨hx, hb, hml, hown, hts⟩, hG, hK, hD0, hlocks⟩ := C
  have hok := hR.1
  have hn := hok.1
  have hgx := hR.2.1
  have hgy := hR.2.2.1
  have hsl := hR.2.2.2.1
  have jn_987_1 : ∀ (mm : Nat), (1 ≤ mm) → (mm ≤ 200) → ∀ (H : Heap) (locs : List Loc), va_P D vwCl ([(la, .inl (cI, 25, .inl fa)), (lg, .inl (cI, 4, .inl fg)), (lt, .inl (cI, 17, .inl ft))] ++ zWR cI cJ ad n kd ln lo hi vl gx gy sl si kc FF) H → va_D A0 ([(la, .inl (cI, 25, .inl fa)), (lg, .inl (cI, 4, .inl fg)), (lt, .inl (cI, 17, .inl ft))] ++ zWR cI cJ ad n kd ln lo hi vl gx gy sl si kc FF) → va_S A0 s.heap H locs → ∀ (ls : Array Slot), lv_has ls 34 [(0, .ref b), (1, .ref (ad 0)), (2, .ref la), (3, .ref lg), (4, .ref lt), (5, .int (nI tau)), (7, .int uu), (22, .int (nI mm))] → W p l e (room_1) s m args below meth c H locs cells slots Q (F0 m 987 ls []) := by
    intro mm hmm1 hmm2 H locs hP hD hS ls hl
    refine lv_iconst (v := 0) hx hb dL_law_987 (by decide) ?_
    refine lv_istore (lv' := [(23, .int 0), (0, .ref b), (1, .ref (ad 0)), (2, .ref la), (3, .ref lg), (4, .ref lt), (5, .int (nI tau)), (7, .int uu), (22, .int (nI mm))]) hx hb dL_law_988 hl (by decide) rfl (fun ls hl => ?_)
    have jn_1263_2 : ∀ (dd : Nat) (vx : Nat → Int32) (fx : Nat → Int32), (zRun kd ln lo hi vl n gx gy mm = (dd, vx)) → (zOk n kd ln lo hi vx) → (zAr n fx kd ln lo hi vx) → (dd ≤ mm) → ∀ (H : Heap) (locs : List Loc), va_P D vwCl ([(la, .inl (cI, 25, .inl fx)), (lg, .inl (cI, 4, .inl fg)), (lt, .inl (cI, 17, .inl ft))] ++ zWR cI cJ ad n kd ln lo hi vl gx gy sl si kc FF) H → va_D A0 ([(la, .inl (cI, 25, .inl fx)), (lg, .inl (cI, 4, .inl fg)), (lt, .inl (cI, 17, .inl ft))] ++ zWR cI cJ ad n kd ln lo hi vl gx gy sl si kc FF) → va_S A0 s.heap H locs → ∀ (ls : Array Slot), lv_has ls 34 [(0, .ref b), (1, .ref (ad 0)), (2, .ref la), (3, .ref lg), (4, .ref lt), (5, .int (nI tau)), (7, .int uu), (22, .int (nI mm)), (23, .int (nI dd))] → W p l e (room_1) s m args below meth c H locs cells slots Q (F0 m 1263 ls []) := by
      intro dd vx fx hT9 hok2 hAx hdd H locs hP hD hS ls hl
      refine lv_aload_n hx hb dL_law_1263 rfl (lv_at hl 1 rfl) ?_
      refine lv_iload hx hb dL_law_1264 (lv_at hl 7 rfl) ?_
      refine z_callAX (w1 := [(la, .inl (cI, 25, .inl fx)), (lg, .inl (cI, 4, .inl fg)), (lt, .inl (cI, 17, .inl ft))]) (As := [.ref (ad 0), .int (nI mm)]) (rest := []) ⟨hx, hb, hml, hown, hts⟩ hG hK hP hD hS (cR_steps l hfl D cI cJ ad n kd ln lo hi vl gx gy sl si kc FF (nI mm) (by first | assumption | omega | decide)) (vx_cwSW (hh := [(0, 6, 9, 14)]) 2 hts gL_law_L_steps rfl rfl rfl (by decide +kernel) ⟨Nat.le_of_ble_eq_true rfl, Nat.le_of_ble_eq_true rfl⟩) (fun _ => rfl) rfl hl.1 rfl (Nat.le_of_ble_eq_true rfl) dL_law_1266 ⟨(show cells + 1 ≤ 600104 by omega), (show slots + 6 ≤ 7301314 by omega)⟩ (fun u_3 H locs hu_4 hP hD hS => ?_)
      obtain ⟨kk_5, vl2_6, si2_7, kc2_8, FF2_9⟩ := u_3
      have hu_4 : (zL0 (FF2_9 3) (FF2_9 4) (FF2_9 5) (FF2_9 6)) ∧ ((1 ≤ (nI mm) ∧ (nI mm) ≤ 200) → (kk_5 = nI (zRun kd ln lo hi vl n gx gy (nI mm).toNatClampNeg).1) ∧ (vl2_6 = (zRun kd ln lo hi vl n gx gy (nI mm).toNatClampNeg).2)) ∧ (¬ (1 ≤ (nI mm) ∧ (nI mm) ≤ 200) → (kk_5 = (-7200)) ∧ (vl2_6 = vl)) := hu_4
      obtain ⟨e_10, e_11, e_12⟩ := hu_4
      obtain ⟨r_13, r_14⟩ : (kk_5 = nI (zRun kd ln lo hi vl n gx gy (nI mm).toNatClampNeg).1) ∧ (vl2_6 = (zRun kd ln lo hi vl n gx gy (nI mm).toNatClampNeg).2) := e_11 (zmost_of hmm1 hmm2)
      replace r_13 : kk_5 = nI dd := r_13.trans (by rw [nI_clamp (by omega), hT9])
      replace r_14 : vl2_6 = vx := r_14.trans (by rw [nI_clamp (by omega), hT9])
      subst r_13
      replace r_14 := r_14.symm
      subst r_14
      have hP : va_P D vwCl ([(la, .inl (cI, 25, .inl fx)), (lg, .inl (cI, 4, .inl fg)), (lt, .inl (cI, 17, .inl ft))] ++ zWR cI cJ ad n kd ln lo hi vx gx gy sl si2_7 kc2_8 FF2_9) H := hP
      have hD : va_D A0 ([(la, .inl (cI, 25, .inl fx)), (lg, .inl (cI, 4, .inl fg)), (lt, .inl (cI, 17, .inl ft))] ++ zWR cI cJ ad n kd ln lo hi vx gx gy sl si2_7 kc2_8 FF2_9) := hD
      refine z_topi (y := nI dd) rfl ?_
      replace hR := zRo_v hR e_10 hok2
      refine lv_iload hx hb dL_law_1269 (lv_at hl 8 rfl) ?_
      refine lv_icmp_ne (tgt := 1278) hx hb dL_law_1271 (by decide) (fun c_1271 => ?_) (fun c_1271 => ?_)
      · exact absurd rfl c_1271
      · refine lv_iconst (v := 1) hx hb dL_law_1274 (by decide) ?_
        refine lv_goto (tgt := 1279) hx hb dL_law_1275 (by decide) ?_
        refine lv_istore (lv' := [(9, .int 1), (0, .ref b), (1, .ref (ad 0)), (2, .ref la), (3, .ref lg), (4, .ref lt), (5, .int (nI tau)), (7, .int uu), (22, .int (nI mm)), (23, .int (nI dd))]) hx hb dL_law_1279 hl (by decide) rfl (fun ls hl => ?_)
        refine lv_goto (tgt := 1740) hx hb dL_law_1281 (by decide) ?_
        exact kk9 _ _ _ _ _ (by omega) (by omega) ⟨n, kd, ln, lo, hi, vx, gx, gy, sl, si2_7, kc2_8, FF2_9, fx, fg, ft, hn1, hR, hAx, hGs, hT, hkd, hP, hD, hS⟩ (lv_sub hl [0, 7, 6, 5, 4, 3, 2, 1] rfl)
    refine lv_bipush (v := 8) hx hb dL_law_990 (by decide) ?_
    refine lv_istore (lv' := [(24, .int 8), (23, .int 0), (0, .ref b), (1, .ref (ad 0)), (2, .ref la), (3, .ref lg), (4, .ref lt), (5, .int (nI tau)), (7, .int uu), (22, .int (nI mm))]) hx hb dL_law_992 hl (by decide) rfl (fun ls hl => ?_)
    have lp_994_15 : ∀ (fu : Nat) (dd : Nat) (ss : List Int32) (vx : Nat → Int32) (fx : Nat → Int32), (dd ≤ mm) → (zSfx ss) → (zOk n kd ln lo hi vx) → (zAr n fx kd ln lo hi vx) → ((dd + (zRn kd ln lo hi n gx gy ss (mm - dd) vx).1, (zRn kd ln lo hi n gx gy ss (mm - dd) vx).2) = zRun kd ln lo hi vl n gx gy mm) → (ss.length + (mm - dd) < fu) → ∀ (H : Heap) (locs : List Loc), va_P D vwCl ([(la, .inl (cI, 25, .inl fx)), (lg, .inl (cI, 4, .inl fg)), (lt, .inl (cI, 17, .inl ft))] ++ zWR cI cJ ad n kd ln lo hi vl gx gy sl si kc FF) H → va_D A0 ([(la, .inl (cI, 25, .inl fx)), (lg, .inl (cI, 4, .inl fg)), (lt, .inl (cI, 17, .inl ft))] ++ zWR cI cJ ad n kd ln lo hi vl gx gy sl si kc FF) → va_S A0 s.heap H locs → ∀ (ls : Array Slot), lv_has ls 34 [(0, .ref b), (1, .ref (ad 0)), (2, .ref la), (3, .ref lg), (4, .ref lt), (5, .int (nI tau)), (7, .int uu), (22, .int (nI mm)), (23, .int (nI dd)), (24, .int (ss.headD 0))] → W p l e (room_1) s m args below meth c H locs cells slots Q (F0 m 994 ls []) := by
      intro fu
      induction fu with
      | zero => intro dd ss vx fx hdd hss hok2 hAx hz hfu; exact absurd hfu (Nat.not_lt_zero _)
      | succ fu ih_994_15 =>
        intro dd ss vx fx hdd hss hok2 hAx hz hfu H locs hP hD hS ls hl
        have hfu9 := hfu
        refine lv_iload hx hb dL_law_994 (lv_at hl 9 rfl) ?_
        refine lv_if_le (tgt := 1263) hx hb dL_law_996 (by decide) (fun c_996 => ?_) (fun c_996 => ?_)
        · obtain rfl : [] = ss := (zSfx_nil hss c_996).symm
          have hT9 : zRun kd ln lo hi vl n gx gy mm = (dd, vx) := hz.symm
          exact jn_1263_2 _ _ fx (by first | assumption | omega | rfl | simp_all) (by first | assumption | omega | rfl | simp_all) (by first | assumption | omega | rfl | simp_all) (by first | assumption | omega | rfl | simp_all) _ _ hP hD hS _ (lv_sub hl [0, 1, 2, 3, 4, 5, 6, 7, 8] rfl)
        · obtain ⟨sd, st9, hse, hs4, hss2, hdv⟩ := zSfx_cons hss c_996
          subst hse
          have hl : lv_has ls 34 [(0, .ref b), (1, .ref (ad 0)), (2, .ref la), (3, .ref lg), (4, .ref lt), (5, .int (nI tau)), (7, .int uu), (22, .int (nI mm)), (23, .int (nI dd)), (24, .int sd)] := hl
          refine lv_iload hx hb dL_law_999 (lv_at hl 8 rfl) ?_
          refine lv_iload hx hb dL_law_1001 (lv_at hl 7 rfl) ?_
          refine lv_icmp_ge (tgt := 1263) hx hb dL_law_1003 (by decide) (fun c_1003 => ?_) (fun c_1003 => ?_)
          · rw [nI_leI (by omega) (by omega)] at c_1003
            have hz8 := hz
            rw [show mm - dd = 0 by omega, zRn_0] at hz8
            have hT9 : zRun kd ln lo hi vl n gx gy mm = (dd, vx) := hz8.symm
            exact jn_1263_2 _ _ fx (by first | assumption | omega | rfl | simp_all) (by first | assumption | omega | rfl | simp_all) (by first | assumption | omega | rfl | simp_all) (by first | assumption | omega | rfl | simp_all) _ _ hP hD hS _ (lv_sub hl [0, 1, 2, 3, 4, 5, 6, 7, 8] rfl)
          · rw [nI_leI (by omega) (by omega)] at c_1003
            refine lv_iconst (v := (-1)) hx hb dL_law_1006 (by decide) ?_
            refine lv_iconst (v := 0) hx hb dL_law_1007 (by decide) ?_
            refine lv_aload_n hx hb dL_law_1008 rfl (lv_at hl 2 rfl) ?_
            refine lv_aload_n hx hb dL_law_1009 rfl (lv_at hl 3 rfl) ?_
            refine lv_aload hx hb dL_law_1010 (lv_at hl 4 rfl) ?_
            refine z_callF (w1 := zWR cI cJ ad n kd ln lo hi vl gx gy sl si kc FF) (As := [.int (-1), .int 0, .ref la, .ref lg, .ref lt]) (rest := []) ⟨hx, hb, hml, hown, hts⟩ hG hK hP hD hS (c3_far l hfl D cI cJ (-1) 0 la fx lg fg lt ft n kd ln lo hi vx gx gy sl (hAx) (by first | assumption | omega | decide) (by first | assumption | omega | decide) (by first | assumption | omega | decide) (by first | assumption | omega | decide) (hok2.l) (zPm_pok hok2) (by first | assumption | omega | decide) (by first | assumption | omega | decide)) (va_cwS 5 hts gL_law_L_far rfl rfl rfl (by decide +kernel) ⟨Nat.le_of_ble_eq_true rfl, Nat.le_of_ble_eq_true rfl⟩) (fun _ => rfl) rfl hl.1 rfl (Nat.le_of_ble_eq_true rfl) dL_law_1012 ⟨(show cells + 0 ≤ 600104 by omega), (show slots + 0 ≤ 7301314 by omega)⟩ (fun u_16 H locs hu_17 hP hD hS => ?_)
            obtain ⟨r_18, rfl⟩ : ∃ z, z = u_16 := ⟨_, rfl⟩
            have hu_17 : (r_18 = zFar gx gy (zX kd ln (zPm vx (-1 : Int32) (0 : Int32)) n) (zY kd ln (zPm vx (-1 : Int32) (0 : Int32)) n)) := hu_17
            have e_19 := hu_17
            subst e_19
            have hP : va_P D vwCl ([(la, .inl (cI, 25, .inl fx)), (lg, .inl (cI, 4, .inl fg)), (lt, .inl (cI, 17, .inl ft))] ++ zWR cI cJ ad n kd ln lo hi vl gx gy sl si kc FF) H := hP
            have hD : va_D A0 ([(la, .inl (cI, 25, .inl fx)), (lg, .inl (cI, 4, .inl fg)), (lt, .inl (cI, 17, .inl ft))] ++ zWR cI cJ ad n kd ln lo hi vl gx gy sl si kc FF) := hD
            refine z_topl (y := zFn kd ln vx n gx gy) (zFm_m1 hn) ?_
            refine lv_lstore (lv' := [(25, .long (zFn kd ln vx n gx gy)), (0, .ref b), (1, .ref (ad 0)), (2, .ref la), (3, .ref lg), (4, .ref lt), (5, .int (nI tau)), (7, .int uu), (22, .int (nI mm)), (23, .int (nI dd)), (24, .int sd)]) hx hb dL_law_1015 hl (by decide) rfl (fun ls hl => ?_)
            refine lv_iconst (v := (-1)) hx hb dL_law_1017 (by decide) ?_
            refine lv_istore (lv' := [(27, .int (-1)), (25, .long (zFn kd ln vx n gx gy)), (0, .ref b), (1, .ref (ad 0)), (2, .ref la), (3, .ref lg), (4, .ref lt), (5, .int (nI tau)), (7, .int uu), (22, .int (nI mm)), (23, .int (nI dd)), (24, .int sd)]) hx hb dL_law_1018 hl (by decide) rfl (fun ls hl => ?_)
            refine lv_iconst (v := 0) hx hb dL_law_1020 (by decide) ?_
            refine lv_istore (lv' := [(28, .int 0), (27, .int (-1)), (25, .long (zFn kd ln vx n gx gy)), (0, .ref b), (1, .ref (ad 0)), (2, .ref la), (3, .ref lg), (4, .ref lt), (5, .int (nI tau)), (7, .int uu), (22, .int (nI mm)), (23, .int (nI dd)), (24, .int sd)]) hx hb dL_law_1021 hl (by decide) rfl (fun ls hl => ?_)
            refine lv_aload_n hx hb dL_law_1023 rfl (lv_at hl 6 rfl) ?_
            refine lv_iconst (v := nI 0) hx hb dL_law_1024 (rfl) ?_
            refine z_iald hx hb hK hP 1 rfl (j := 0) (by omega) (by decide) dL_law_1025 ?_
            refine z_topi (y := nI n) (hGs.1) ?_
            refine lv_iconst (v := 1) hx hb dL_law_1026 (by decide) ?_
            refine lv_isub hx hb dL_law_1027 ?_
            refine lv_istore (lv' := [(29, .int (nI n - 1)), (28, .int 0), (27, .int (-1)), (25, .long (zFn kd ln vx n gx gy)), (0, .ref b), (1, .ref (ad 0)), (2, .ref la), (3, .ref lg), (4, .ref lt), (5, .int (nI tau)), (7, .int uu), (22, .int (nI mm)), (23, .int (nI dd)), (24, .int sd)]) hx hb dL_law_1028 hl (by decide) rfl (fun ls hl => ?_)
            have lp_1030_20 : ∀ (fu : Nat) (i : Nat) (bs : Int64) (wh : Int32) (mo9 : Int32), (i ≤ n) → (zBk kd ln lo hi vx n gx gy sd (2 * i) bs wh mo9) → (i < fu) → ∀ (H : Heap) (locs : List Loc), va_P D vwCl ([(la, .inl (cI, 25, .inl fx)), (lg, .inl (cI, 4, .inl fg)), (lt, .inl (cI, 17, .inl ft))] ++ zWR cI cJ ad n kd ln lo hi vl gx gy sl si kc FF) H → va_D A0 ([(la, .inl (cI, 25, .inl fx)), (lg, .inl (cI, 4, .inl fg)), (lt, .inl (cI, 17, .inl ft))] ++ zWR cI cJ ad n kd ln lo hi vl gx gy sl si kc FF) → va_S A0 s.heap H locs → ∀ (ls : Array Slot), lv_has ls 34 [(0, .ref b), (1, .ref (ad 0)), (2, .ref la), (3, .ref lg), (4, .ref lt), (5, .int (nI tau)), (7, .int uu), (22, .int (nI mm)), (23, .int (nI dd)), (24, .int sd), (25, .long bs), (27, .int wh), (28, .int mo9), (29, .int (nI i - 1))] → W p l e (room_1) s m args below meth c H locs cells slots Q (F0 m 1030 ls []) := by
              intro fu
              induction fu with
              | zero => intro i bs wh mo9 hi1 hbk hfu; exact absurd hfu (Nat.not_lt_zero _)
              | succ fu ih_1030_20 =>
                intro i bs wh mo9 hi1 hbk hfu H locs hP hD hS ls hl
                refine lv_iload hx hb dL_law_1030 (lv_at hl 13 rfl) ?_
                refine lv_if_lt (tgt := 1229) hx hb dL_law_1032 (by decide) (fun c_1032 => ?_) (fun c_1032 => ?_)
                · have c_1032 := (zlt0_pred (by omega)).mp c_1032
                  subst c_1032
                  have hend := zBk_end hn hbk
                  refine lv_iload hx hb dL_law_1229 (lv_at hl 11 rfl) ?_
                  refine lv_iconst (v := (-1)) hx hb dL_law_1231 (by decide) ?_
                  refine lv_icmp_ne (tgt := 1244) hx hb dL_law_1232 (by decide) (fun c_1232 => ?_) (fun c_1232 => ?_)
                  · obtain ⟨-, hbe, jw, hjw, hwe, hnx⟩ := hend.resolve_left (fun h9 => c_1232 h9.1)
                    subst hwe
                    refine lv_aload_n hx hb dL_law_1244 rfl (lv_at hl 2 rfl) ?_
                    refine lv_iconst (v := nI 5) hx hb dL_law_1245 (rfl) ?_
                    refine lv_iload hx hb dL_law_1246 (lv_at hl 11 rfl) ?_
                    refine lv_imul hx hb dL_law_1248 ?_
                    refine z_topi (y := nI (5 * jw)) (pk_mul 5 _) ?_
                    refine lv_iconst (v := nI 4) hx hb dL_law_1249 (rfl) ?_
                    refine lv_iadd hx hb dL_law_1250 ?_
                    refine z_topi (y := nI (5 * jw + 4)) (nI_add _ _) ?_
                    refine lv_dup2_11 hx hb dL_law_1251 rfl rfl ?_
                    refine z_iald hx hb hK hP 0 rfl (j := (5 * jw + 4)) (by omega) (by decide) dL_law_1252 ?_
                    refine z_topi (y := vx jw) ((hAx jw (by omega)).2.2.2.2) ?_
                    refine lv_iload hx hb dL_law_1253 (lv_at hl 12 rfl) ?_
                    refine lv_iadd hx hb dL_law_1255 ?_
                    refine z_iast hx hb hK hP hD hS 0 rfl (j := (5 * jw + 4)) (by omega) (by decide) dL_law_1256 (fun H locs hP hD hS => ?_)
                    have hP : va_P D vwCl ([(la, .inl (cI, 25, .inl (upd fx (5 * jw + 4) ((vx jw) + mo9)))), (lg, .inl (cI, 4, .inl fg)), (lt, .inl (cI, 17, .inl ft))] ++ zWR cI cJ ad n kd ln lo hi vl gx gy sl si kc FF) H := hP
                    have hD : va_D A0 ([(la, .inl (cI, 25, .inl (upd fx (5 * jw + 4) ((vx jw) + mo9)))), (lg, .inl (cI, 4, .inl fg)), (lt, .inl (cI, 17, .inl ft))] ++ zWR cI cJ ad n kd ln lo hi vl gx gy sl si kc FF) := hD
                    refine lv_iinc (v := nI (dd + 1)) (lv' := [(23, .int (nI (dd + 1))), (0, .ref b), (1, .ref (ad 0)), (2, .ref la), (3, .ref lg), (4, .ref lt), (5, .int (nI tau)), (7, .int uu), (22, .int (nI mm)), (24, .int sd), (25, .long bs), (27, .int (nI jw)), (28, .int mo9), (29, .int (nI 0 - 1))]) hx hb dL_law_1257 hl (k := 8) rfl ((nI_succ _).symm) (by decide) rfl (fun ls hl => ?_)
                    refine lv_goto (tgt := 994) hx hb dL_law_1260 (by decide) ?_
                    exact ih_994_15 (dd + 1) (sd :: st9) (zNx kd ln lo hi vx n gx gy sd) (upd fx (5 * jw + 4) ((vx jw) + mo9)) (by omega) (hss) (hok2.nx hbe) (by rw [hnx]; exact zAr_v hAx hjw) (zRn_step (by omega) hbe hz) (by omega) _ _ hP hD hS _ (lv_sub hl [1, 2, 3, 4, 5, 6, 7, 8, 0, 9] rfl)
                  · have hbe := (hend.resolve_right (fun h9 => h9.1 c_1232)).2
                    refine lv_iload hx hb dL_law_1235 (lv_at hl 9 rfl) ?_
                    refine lv_iconst (v := 2) hx hb dL_law_1237 (by decide) ?_
                    refine lv_idiv hx hb dL_law_1238 (by decide) ?_
                    refine z_topi (y := st9.headD 0) (hdv) ?_
                    refine lv_istore (lv' := [(24, .int (st9.headD 0)), (0, .ref b), (1, .ref (ad 0)), (2, .ref la), (3, .ref lg), (4, .ref lt), (5, .int (nI tau)), (7, .int uu), (22, .int (nI mm)), (23, .int (nI dd)), (25, .long bs), (27, .int wh), (28, .int mo9), (29, .int (nI 0 - 1))]) hx hb dL_law_1239 hl (by decide) rfl (fun ls hl => ?_)
                    refine lv_goto (tgt := 994) hx hb dL_law_1241 (by decide) ?_
                    exact ih_994_15 dd st9 vx fx (hdd) (hss2) (hok2) (hAx) (zRn_skip hbe hz) (by rw [List.length_cons] at hfu9; omega) _ _ hP hD hS _ (lv_sub hl [1, 2, 3, 4, 5, 6, 7, 8, 9, 0] rfl)
                · have c_1032 : ¬ i = 0 := fun h => c_1032 ((zlt0_pred (by omega)).mpr h)
                  obtain ⟨k, rfl⟩ : ∃ k, i = k + 1 := ⟨i - 1, by omega⟩
                  rw [nI_pred] at hl
                  have hbv := hok2.2 k (by omega)
                  have hup1 := hbv.2.1
                  have jn_1174_21 : ∀ (dn9 : Int32) (bs : Int64) (wh : Int32) (mo9 : Int32), (vx k + -dn9 = zHeldC (lo k) (hi k) (vx k + -1 * sd)) → (zBk kd ln lo hi vx n gx gy sd (2 * k + 1) bs wh mo9) → ∀ (H : Heap) (locs : List Loc), va_P D vwCl ([(la, .inl (cI, 25, .inl fx)), (lg, .inl (cI, 4, .inl fg)), (lt, .inl (cI, 17, .inl ft))] ++ zWR cI cJ ad n kd ln lo hi vl gx gy sl si kc FF) H → va_D A0 ([(la, .inl (cI, 25, .inl fx)), (lg, .inl (cI, 4, .inl fg)), (lt, .inl (cI, 17, .inl ft))] ++ zWR cI cJ ad n kd ln lo hi vl gx gy sl si kc FF) → va_S A0 s.heap H locs → ∀ (ls : Array Slot), lv_has ls 34 [(0, .ref b), (1, .ref (ad 0)), (2, .ref la), (3, .ref lg), (4, .ref lt), (5, .int (nI tau)), (7, .int uu), (22, .int (nI mm)), (23, .int (nI dd)), (24, .int sd), (25, .long bs), (27, .int wh), (28, .int mo9), (29, .int (nI k)), (31, .int dn9)] → W p l e (room_1) s m args below meth c H locs cells slots Q (F0 m 1174 ls []) := by
                    intro dn9 bs wh mo9 hdn hbk H locs hP hD hS ls hl
                    refine lv_iload hx hb dL_law_1174 (lv_at hl 13 rfl) ?_
                    refine lv_iload hx hb dL_law_1176 (lv_at hl 14 rfl) ?_
                    refine lv_ineg hx hb dL_law_1178 ?_
                    refine lv_aload_n hx hb dL_law_1179 rfl (lv_at hl 2 rfl) ?_
                    refine lv_aload_n hx hb dL_law_1180 rfl (lv_at hl 3 rfl) ?_
                    refine lv_aload hx hb dL_law_1181 (lv_at hl 4 rfl) ?_
                    refine z_callF (w1 := zWR cI cJ ad n kd ln lo hi vl gx gy sl si kc FF) (As := [.int (nI k), .int (-dn9), .ref la, .ref lg, .ref lt]) (rest := []) ⟨hx, hb, hml, hown, hts⟩ hG hK hP hD hS (c3_far l hfl D cI cJ (nI k) (-dn9) la fx lg fg lt ft n kd ln lo hi vx gx gy sl (hAx) (by first | assumption | omega | decide) (by first | assumption | omega | decide) (by first | assumption | omega | decide) (by first | assumption | omega | decide) (hok2.l) (zPm_pok2 hok2 (by omega) (by rw [hdn]; exact (hok2.held (by omega) _).1) (by rw [hdn]; exact (hok2.held (by omega) _).2)) (by first | assumption | omega | decide) (by first | assumption | omega | decide)) (va_cwS 5 hts gL_law_L_far rfl rfl rfl (by decide +kernel) ⟨Nat.le_of_ble_eq_true rfl, Nat.le_of_ble_eq_true rfl⟩) (fun _ => rfl) rfl hl.1 rfl (Nat.le_of_ble_eq_true rfl) dL_law_1183 ⟨(show cells + 0 ≤ 600104 by omega), (show slots + 0 ≤ 7301314 by omega)⟩ (fun u_22 H locs hu_23 hP hD hS => ?_)
                    obtain ⟨r_24, rfl⟩ : ∃ z, z = u_22 := ⟨_, rfl⟩
                    have hu_23 : (r_24 = zFar gx gy (zX kd ln (zPm vx (nI k) (-dn9)) n) (zY kd ln (zPm vx (nI k) (-dn9)) n)) := hu_23
                    have e_25 := hu_23
                    subst e_25
                    have hP : va_P D vwCl ([(la, .inl (cI, 25, .inl fx)), (lg, .inl (cI, 4, .inl fg)), (lt, .inl (cI, 17, .inl ft))] ++ zWR cI cJ ad n kd ln lo hi vl gx gy sl si kc FF) H := hP
                    have hD : va_D A0 ([(la, .inl (cI, 25, .inl fx)), (lg, .inl (cI, 4, .inl fg)), (lt, .inl (cI, 17, .inl ft))] ++ zWR cI cJ ad n kd ln lo hi vl gx gy sl si kc FF) := hD
                    refine z_topl (y := zTf kd ln lo hi vx n gx gy sd (2 * k)) (by rw [zFm_po hn (by omega) (-dn9), hdn]; unfold zTf; rw [zTv_0, show 2 * k / 2 = k by omega]) ?_
                    refine lv_lstore (lv' := [(32, .long (zTf kd ln lo hi vx n gx gy sd (2 * k))), (0, .ref b), (1, .ref (ad 0)), (2, .ref la), (3, .ref lg), (4, .ref lt), (5, .int (nI tau)), (7, .int uu), (22, .int (nI mm)), (23, .int (nI dd)), (24, .int sd), (25, .long bs), (27, .int wh), (28, .int mo9), (29, .int (nI k)), (31, .int dn9)]) hx hb dL_law_1186 hl (by decide) rfl (fun ls hl => ?_)
                    refine lv_lload hx hb dL_law_1188 (lv_at hl 0 rfl) ?_
                    refine lv_lload hx hb dL_law_1190 (lv_at hl 11 rfl) ?_
                    refine W.lcmp hx hb dL_law_1192 ?_
                    refine lv_if_lt (tgt := 1210) hx hb dL_law_1193 (by decide) (fun c_1193 => ?_) (fun c_1193 => ?_)
                    · rw [lg_cmp_lt] at c_1193
                      refine lv_lload hx hb dL_law_1210 (lv_at hl 0 rfl) ?_
                      refine lv_lstore (lv' := [(25, .long (zTf kd ln lo hi vx n gx gy sd (2 * k))), (32, .long (zTf kd ln lo hi vx n gx gy sd (2 * k))), (0, .ref b), (1, .ref (ad 0)), (2, .ref la), (3, .ref lg), (4, .ref lt), (5, .int (nI tau)), (7, .int uu), (22, .int (nI mm)), (23, .int (nI dd)), (24, .int sd), (27, .int wh), (28, .int mo9), (29, .int (nI k)), (31, .int dn9)]) hx hb dL_law_1212 hl (by decide) rfl (fun ls hl => ?_)
                      refine lv_iload hx hb dL_law_1214 (lv_at hl 14 rfl) ?_
                      refine lv_istore (lv' := [(27, .int (nI k)), (25, .long (zTf kd ln lo hi vx n gx gy sd (2 * k))), (32, .long (zTf kd ln lo hi vx n gx gy sd (2 * k))), (0, .ref b), (1, .ref (ad 0)), (2, .ref la), (3, .ref lg), (4, .ref lt), (5, .int (nI tau)), (7, .int uu), (22, .int (nI mm)), (23, .int (nI dd)), (24, .int sd), (28, .int mo9), (29, .int (nI k)), (31, .int dn9)]) hx hb dL_law_1216 hl (by decide) rfl (fun ls hl => ?_)
                      refine lv_iload hx hb dL_law_1218 (lv_at hl 15 rfl) ?_
                      refine lv_ineg hx hb dL_law_1220 ?_
                      refine lv_istore (lv' := [(28, .int (-dn9)), (27, .int (nI k)), (25, .long (zTf kd ln lo hi vx n gx gy sd (2 * k))), (32, .long (zTf kd ln lo hi vx n gx gy sd (2 * k))), (0, .ref b), (1, .ref (ad 0)), (2, .ref la), (3, .ref lg), (4, .ref lt), (5, .int (nI tau)), (7, .int uu), (22, .int (nI mm)), (23, .int (nI dd)), (24, .int sd), (29, .int (nI k)), (31, .int dn9)]) hx hb dL_law_1221 hl (by decide) rfl (fun ls hl => ?_)
                      refine lv_iinc (v := nI k - 1) (lv' := [(29, .int (nI k - 1)), (28, .int (-dn9)), (27, .int (nI k)), (25, .long (zTf kd ln lo hi vx n gx gy sd (2 * k))), (32, .long (zTf kd ln lo hi vx n gx gy sd (2 * k))), (0, .ref b), (1, .ref (ad 0)), (2, .ref la), (3, .ref lg), (4, .ref lt), (5, .int (nI tau)), (7, .int uu), (22, .int (nI mm)), (23, .int (nI dd)), (24, .int sd), (31, .int dn9)]) hx hb dL_law_1223 hl (k := 14) rfl (zdec _) (by decide) rfl (fun ls hl => ?_)
                      refine lv_goto (tgt := 1030) hx hb dL_law_1226 (by decide) ?_
                      exact ih_1030_20 k (zTf kd ln lo hi vx n gx gy sd (2 * k)) (nI k) (-dn9) (by omega) ((by first | exact zBk_up0 hbk (by omega) hn hdn (Or.inl c_1193) | exact zBk_up0 hbk (by omega) hn hdn (Or.inr ⟨c_1201, c_1207⟩) | exact zBk_no hbk hn c_1193 (Or.inl c_1201) | exact zBk_no hbk hn c_1193 (Or.inr c_1207))) (by omega) _ _ hP hD hS _ (lv_sub hl [5, 6, 7, 8, 9, 10, 11, 12, 13, 14, 3, 2, 1, 0] rfl)
                    · rw [lg_cmp_lt] at c_1193
                      refine lv_lload hx hb dL_law_1196 (lv_at hl 0 rfl) ?_
                      refine lv_lload hx hb dL_law_1198 (lv_at hl 11 rfl) ?_
                      refine W.lcmp hx hb dL_law_1200 ?_
                      refine lv_if_ne (tgt := 1223) hx hb dL_law_1201 (by decide) (fun c_1201 => ?_) (fun c_1201 => ?_)
                      · rw [lg_cmp_eq] at c_1201
                        refine lv_iinc (v := nI k - 1) (lv' := [(29, .int (nI k - 1)), (32, .long (zTf kd ln lo hi vx n gx gy sd (2 * k))), (0, .ref b), (1, .ref (ad 0)), (2, .ref la), (3, .ref lg), (4, .ref lt), (5, .int (nI tau)), (7, .int uu), (22, .int (nI mm)), (23, .int (nI dd)), (24, .int sd), (25, .long bs), (27, .int wh), (28, .int mo9), (31, .int dn9)]) hx hb dL_law_1223 hl (k := 14) rfl (zdec _) (by decide) rfl (fun ls hl => ?_)
                        refine lv_goto (tgt := 1030) hx hb dL_law_1226 (by decide) ?_
                        exact ih_1030_20 k bs wh mo9 (by omega) ((by first | exact zBk_up0 hbk (by omega) hn hdn (Or.inl c_1193) | exact zBk_up0 hbk (by omega) hn hdn (Or.inr ⟨c_1201, c_1207⟩) | exact zBk_no hbk hn c_1193 (Or.inl c_1201) | exact zBk_no hbk hn c_1193 (Or.inr c_1207))) (by omega) _ _ hP hD hS _ (lv_sub hl [2, 3, 4, 5, 6, 7, 8, 9, 10, 11, 12, 13, 14, 0] rfl)
                      · rw [lg_cmp_eq] at c_1201
                        refine lv_iload hx hb dL_law_1204 (lv_at hl 12 rfl) ?_
                        refine lv_iconst (v := (-1)) hx hb dL_law_1206 (by decide) ?_
                        refine lv_icmp_eq (tgt := 1223) hx hb dL_law_1207 (by decide) (fun c_1207 => ?_) (fun c_1207 => ?_)
                        · refine lv_iinc (v := nI k - 1) (lv' := [(29, .int (nI k - 1)), (32, .long (zTf kd ln lo hi vx n gx gy sd (2 * k))), (0, .ref b), (1, .ref (ad 0)), (2, .ref la), (3, .ref lg), (4, .ref lt), (5, .int (nI tau)), (7, .int uu), (22, .int (nI mm)), (23, .int (nI dd)), (24, .int sd), (25, .long bs), (27, .int wh), (28, .int mo9), (31, .int dn9)]) hx hb dL_law_1223 hl (k := 14) rfl (zdec _) (by decide) rfl (fun ls hl => ?_)
                          refine lv_goto (tgt := 1030) hx hb dL_law_1226 (by decide) ?_
                          exact ih_1030_20 k bs wh mo9 (by omega) ((by first | exact zBk_up0 hbk (by omega) hn hdn (Or.inl c_1193) | exact zBk_up0 hbk (by omega) hn hdn (Or.inr ⟨c_1201, c_1207⟩) | exact zBk_no hbk hn c_1193 (Or.inl c_1201) | exact zBk_no hbk hn c_1193 (Or.inr c_1207))) (by omega) _ _ hP hD hS _ (lv_sub hl [2, 3, 4, 5, 6, 7, 8, 9, 10, 11, 12, 13, 14, 0] rfl)
                        · refine lv_lload hx hb dL_law_1210 (lv_at hl 0 rfl) ?_
                          refine lv_lstore (lv' := [(25, .long (zTf kd ln lo hi vx n gx gy sd (2 * k))), (32, .long (zTf kd ln lo hi vx n gx gy sd (2 * k))), (0, .ref b), (1, .ref (ad 0)), (2, .ref la), (3, .ref lg), (4, .ref lt), (5, .int (nI tau)), (7, .int uu), (22, .int (nI mm)), (23, .int (nI dd)), (24, .int sd), (27, .int wh), (28, .int mo9), (29, .int (nI k)), (31, .int dn9)]) hx hb dL_law_1212 hl (by decide) rfl (fun ls hl => ?_)
                          refine lv_iload hx hb dL_law_1214 (lv_at hl 14 rfl) ?_
                          refine lv_istore (lv' := [(27, .int (nI k)), (25, .long (zTf kd ln lo hi vx n gx gy sd (2 * k))), (32, .long (zTf kd ln lo hi vx n gx gy sd (2 * k))), (0, .ref b), (1, .ref (ad 0)), (2, .ref la), (3, .ref lg), (4, .ref lt), (5, .int (nI tau)), (7, .int uu), (22, .int (nI mm)), (23, .int (nI dd)), (24, .int sd), (28, .int mo9), (29, .int (nI k)), (31, .int dn9)]) hx hb dL_law_1216 hl (by decide) rfl (fun ls hl => ?_)
                          refine lv_iload hx hb dL_law_1218 (lv_at hl 15 rfl) ?_
                          refine lv_ineg hx hb dL_law_1220 ?_
                          refine lv_istore (lv' := [(28, .int (-dn9)), (27, .int (nI k)), (25, .long (zTf kd ln lo hi vx n gx gy sd (2 * k))), (32, .long (zTf kd ln lo hi vx n gx gy sd (2 * k))), (0, .ref b), (1, .ref (ad 0)), (2, .ref la), (3, .ref lg), (4, .ref lt), (5, .int (nI tau)), (7, .int uu), (22, .int (nI mm)), (23, .int (nI dd)), (24, .int sd), (29, .int (nI k)), (31, .int dn9)]) hx hb dL_law_1221 hl (by decide) rfl (fun ls hl => ?_)
                          refine lv_iinc (v := nI k - 1) (lv' := [(29, .int (nI k - 1)), (28, .int (-dn9)), (27, .int (nI k)), (25, .long (zTf kd ln lo hi vx n gx gy sd (2 * k))), (32, .long (zTf kd ln lo hi vx n gx gy sd (2 * k))), (0, .ref b), (1, .ref (ad 0)), (2, .ref la), (3, .ref lg), (4, .ref lt), (5, .int (nI tau)), (7, .int uu), (22, .int (nI mm)), (23, .int (nI dd)), (24, .int sd), (31, .int dn9)]) hx hb dL_law_1223 hl (k := 14) rfl (zdec _) (by decide) rfl (fun ls hl => ?_)
                          refine lv_goto (tgt := 1030) hx hb dL_law_1226 (by decide) ?_
                          exact ih_1030_20 k (zTf kd ln lo hi vx n gx gy sd (2 * k)) (nI k) (-dn9) (by omega) ((by first | exact zBk_up0 hbk (by omega) hn hdn (Or.inl c_1193) | exact zBk_up0 hbk (by omega) hn hdn (Or.inr ⟨c_1201, c_1207⟩) | exact zBk_no hbk hn c_1193 (Or.inl c_1201) | exact zBk_no hbk hn c_1193 (Or.inr c_1207))) (by omega) _ _ hP hD hS _ (lv_sub hl [5, 6, 7, 8, 9, 10, 11, 12, 13, 14, 3, 2, 1, 0] rfl)
                  have jn_1127_26 : ∀ (up9 : Int32) (dn9 : Int32), (vx k + up9 = zHeldC (lo k) (hi k) (vx k + 1 * sd)) → (vx k + -dn9 = zHeldC (lo k) (hi k) (vx k + -1 * sd)) → ∀ (H : Heap) (locs : List Loc), va_P D vwCl ([(la, .inl (cI, 25, .inl fx)), (lg, .inl (cI, 4, .inl fg)), (lt, .inl (cI, 17, .inl ft))] ++ zWR cI cJ ad n kd ln lo hi vl gx gy sl si kc FF) H → va_D A0 ([(la, .inl (cI, 25, .inl fx)), (lg, .inl (cI, 4, .inl fg)), (lt, .inl (cI, 17, .inl ft))] ++ zWR cI cJ ad n kd ln lo hi vl gx gy sl si kc FF) → va_S A0 s.heap H locs → ∀ (ls : Array Slot), lv_has ls 34 [(0, .ref b), (1, .ref (ad 0)), (2, .ref la), (3, .ref lg), (4, .ref lt), (5, .int (nI tau)), (7, .int uu), (22, .int (nI mm)), (23, .int (nI dd)), (24, .int sd), (25, .long bs), (27, .int wh), (28, .int mo9), (29, .int (nI k)), (30, .int up9), (31, .int dn9)] → W p l e (room_1) s m args below meth c H locs cells slots Q (F0 m 1127 ls []) := by
                    intro up9 dn9 hup hdn H locs hP hD hS ls hl
                    refine lv_iload hx hb dL_law_1127 (lv_at hl 13 rfl) ?_
                    refine lv_iload hx hb dL_law_1129 (lv_at hl 14 rfl) ?_
                    refine lv_aload_n hx hb dL_law_1131 rfl (lv_at hl 2 rfl) ?_
                    refine lv_aload_n hx hb dL_law_1132 rfl (lv_at hl 3 rfl) ?_
                    refine lv_aload hx hb dL_law_1133 (lv_at hl 4 rfl) ?_
                    refine z_callF (w1 := zWR cI cJ ad n kd ln lo hi vl gx gy sl si kc FF) (As := [.int (nI k), .int up9, .ref la, .ref lg, .ref lt]) (rest := []) ⟨hx, hb, hml, hown, hts⟩ hG hK hP hD hS (c3_far l hfl D cI cJ (nI k) up9 la fx lg fg lt ft n kd ln lo hi vx gx gy sl (hAx) (by first | assumption | omega | decide) (by first | assumption | omega | decide) (by first | assumption | omega | decide) (by first | assumption | omega | decide) (hok2.l) (zPm_pok2 hok2 (by omega) (by rw [hup]; exact (hok2.held (by omega) _).1) (by rw [hup]; exact (hok2.held (by omega) _).2)) (by first | assumption | omega | decide) (by first | assumption | omega | decide)) (va_cwS 5 hts gL_law_L_far rfl rfl rfl (by decide +kernel) ⟨Nat.le_of_ble_eq_true rfl, Nat.le_of_ble_eq_true rfl⟩) (fun _ => rfl) rfl hl.1 rfl (Nat.le_of_ble_eq_true rfl) dL_law_1135 ⟨(show cells + 0 ≤ 600104 by omega), (show slots + 0 ≤ 7301314 by omega)⟩ (fun u_27 H locs hu_28 hP hD hS => ?_)
                    obtain ⟨r_29, rfl⟩ : ∃ z, z = u_27 := ⟨_, rfl⟩
                    have hu_28 : (r_29 = zFar gx gy (zX kd ln (zPm vx (nI k) up9) n) (zY kd ln (zPm vx (nI k) up9) n)) := hu_28
                    have e_30 := hu_28
                    subst e_30
                    have hP : va_P D vwCl ([(la, .inl (cI, 25, .inl fx)), (lg, .inl (cI, 4, .inl fg)), (lt, .inl (cI, 17, .inl ft))] ++ zWR cI cJ ad n kd ln lo hi vl gx gy sl si kc FF) H := hP
                    have hD : va_D A0 ([(la, .inl (cI, 25, .inl fx)), (lg, .inl (cI, 4, .inl fg)), (lt, .inl (cI, 17, .inl ft))] ++ zWR cI cJ ad n kd ln lo hi vl gx gy sl si kc FF) := hD
                    refine z_topl (y := zTf kd ln lo hi vx n gx gy sd (2 * k + 1)) (by rw [zFm_po hn (by omega) up9, hup]; unfold zTf; rw [zTv_1, show (2 * k + 1) / 2 = k by omega]) ?_
                    refine lv_lstore (lv' := [(32, .long (zTf kd ln lo hi vx n gx gy sd (2 * k + 1))), (0, .ref b), (1, .ref (ad 0)), (2, .ref la), (3, .ref lg), (4, .ref lt), (5, .int (nI tau)), (7, .int uu), (22, .int (nI mm)), (23, .int (nI dd)), (24, .int sd), (25, .long bs), (27, .int wh), (28, .int mo9), (29, .int (nI k)), (30, .int up9), (31, .int dn9)]) hx hb dL_law_1138 hl (by decide) rfl (fun ls hl => ?_)
                    refine lv_lload hx hb dL_law_1140 (lv_at hl 0 rfl) ?_
                    refine lv_lload hx hb dL_law_1142 (lv_at hl 11 rfl) ?_
                    refine W.lcmp hx hb dL_law_1144 ?_
                    refine lv_if_lt (tgt := 1162) hx hb dL_law_1145 (by decide) (fun c_1145 => ?_) (fun c_1145 => ?_)
                    · rw [lg_cmp_lt] at c_1145
                      refine lv_lload hx hb dL_law_1162 (lv_at hl 0 rfl) ?_
                      refine lv_lstore (lv' := [(25, .long (zTf kd ln lo hi vx n gx gy sd (2 * k + 1))), (32, .long (zTf kd ln lo hi vx n gx gy sd (2 * k + 1))), (0, .ref b), (1, .ref (ad 0)), (2, .ref la), (3, .ref lg), (4, .ref lt), (5, .int (nI tau)), (7, .int uu), (22, .int (nI mm)), (23, .int (nI dd)), (24, .int sd), (27, .int wh), (28, .int mo9), (29, .int (nI k)), (30, .int up9), (31, .int dn9)]) hx hb dL_law_1164 hl (by decide) rfl (fun ls hl => ?_)
                      refine lv_iload hx hb dL_law_1166 (lv_at hl 14 rfl) ?_
                      refine lv_istore (lv' := [(27, .int (nI k)), (25, .long (zTf kd ln lo hi vx n gx gy sd (2 * k + 1))), (32, .long (zTf kd ln lo hi vx n gx gy sd (2 * k + 1))), (0, .ref b), (1, .ref (ad 0)), (2, .ref la), (3, .ref lg), (4, .ref lt), (5, .int (nI tau)), (7, .int uu), (22, .int (nI mm)), (23, .int (nI dd)), (24, .int sd), (28, .int mo9), (29, .int (nI k)), (30, .int up9), (31, .int dn9)]) hx hb dL_law_1168 hl (by decide) rfl (fun ls hl => ?_)
                      refine lv_iload hx hb dL_law_1170 (lv_at hl 15 rfl) ?_
                      refine lv_istore (lv' := [(28, .int up9), (27, .int (nI k)), (25, .long (zTf kd ln lo hi vx n gx gy sd (2 * k + 1))), (32, .long (zTf kd ln lo hi vx n gx gy sd (2 * k + 1))), (0, .ref b), (1, .ref (ad 0)), (2, .ref la), (3, .ref lg), (4, .ref lt), (5, .int (nI tau)), (7, .int uu), (22, .int (nI mm)), (23, .int (nI dd)), (24, .int sd), (29, .int (nI k)), (30, .int up9), (31, .int dn9)]) hx hb dL_law_1172 hl (by decide) rfl (fun ls hl => ?_)
                      exact jn_1174_21 dn9 (zTf kd ln lo hi vx n gx gy sd (2 * k + 1)) (nI k) up9 (hdn) ((by first | exact zBk_up1 hbk (by omega) hn hup (Or.inl c_1145) | exact zBk_up1 hbk (by omega) hn hup (Or.inr ⟨c_1153, c_1159⟩) | exact zBk_no1 hbk hn c_1145 (Or.inl c_1153) | exact zBk_no1 hbk hn c_1145 (Or.inr c_1159))) _ _ hP hD hS _ (lv_sub hl [4, 5, 6, 7, 8, 9, 10, 11, 12, 13, 2, 1, 0, 14, 16] rfl)
                    · rw [lg_cmp_lt] at c_1145
                      refine lv_lload hx hb dL_law_1148 (lv_at hl 0 rfl) ?_
                      refine lv_lload hx hb dL_law_1150 (lv_at hl 11 rfl) ?_
                      refine W.lcmp hx hb dL_law_1152 ?_
                      refine lv_if_ne (tgt := 1174) hx hb dL_law_1153 (by decide) (fun c_1153 => ?_) (fun c_1153 => ?_)
                      · rw [lg_cmp_eq] at c_1153
                        exact jn_1174_21 dn9 bs wh mo9 (hdn) ((by first | exact zBk_up1 hbk (by omega) hn hup (Or.inl c_1145) | exact zBk_up1 hbk (by omega) hn hup (Or.inr ⟨c_1153, c_1159⟩) | exact zBk_no1 hbk hn c_1145 (Or.inl c_1153) | exact zBk_no1 hbk hn c_1145 (Or.inr c_1159))) _ _ hP hD hS _ (lv_sub hl [1, 2, 3, 4, 5, 6, 7, 8, 9, 10, 11, 12, 13, 14, 16] rfl)
                      · rw [lg_cmp_eq] at c_1153
                        refine lv_iload hx hb dL_law_1156 (lv_at hl 12 rfl) ?_
                        refine lv_iconst (v := (-1)) hx hb dL_law_1158 (by decide) ?_
                        refine lv_icmp_eq (tgt := 1174) hx hb dL_law_1159 (by decide) (fun c_1159 => ?_) (fun c_1159 => ?_)
                        · exact jn_1174_21 dn9 bs wh mo9 (hdn) ((by first | exact zBk_up1 hbk (by omega) hn hup (Or.inl c_1145) | exact zBk_up1 hbk (by omega) hn hup (Or.inr ⟨c_1153, c_1159⟩) | exact zBk_no1 hbk hn c_1145 (Or.inl c_1153) | exact zBk_no1 hbk hn c_1145 (Or.inr c_1159))) _ _ hP hD hS _ (lv_sub hl [1, 2, 3, 4, 5, 6, 7, 8, 9, 10, 11, 12, 13, 14, 16] rfl)
                        · refine lv_lload hx hb dL_law_1162 (lv_at hl 0 rfl) ?_
                          refine lv_lstore (lv' := [(25, .long (zTf kd ln lo hi vx n gx gy sd (2 * k + 1))), (32, .long (zTf kd ln lo hi vx n gx gy sd (2 * k + 1))), (0, .ref b), (1, .ref (ad 0)), (2, .ref la), (3, .ref lg), (4, .ref lt), (5, .int (nI tau)), (7, .int uu), (22, .int (nI mm)), (23, .int (nI dd)), (24, .int sd), (27, .int wh), (28, .int mo9), (29, .int (nI k)), (30, .int up9), (31, .int dn9)]) hx hb dL_law_1164 hl (by decide) rfl (fun ls hl => ?_)
                          refine lv_iload hx hb dL_law_1166 (lv_at hl 14 rfl) ?_
                          refine lv_istore (lv' := [(27, .int (nI k)), (25, .long (zTf kd ln lo hi vx n gx gy sd (2 * k + 1))), (32, .long (zTf kd ln lo hi vx n gx gy sd (2 * k + 1))), (0, .ref b), (1, .ref (ad 0)), (2, .ref la), (3, .ref lg), (4, .ref lt), (5, .int (nI tau)), (7, .int uu), (22, .int (nI mm)), (23, .int (nI dd)), (24, .int sd), (28, .int mo9), (29, .int (nI k)), (30, .int up9), (31, .int dn9)]) hx hb dL_law_1168 hl (by decide) rfl (fun ls hl => ?_)
                          refine lv_iload hx hb dL_law_1170 (lv_at hl 15 rfl) ?_
                          refine lv_istore (lv' := [(28, .int up9), (27, .int (nI k)), (25, .long (zTf kd ln lo hi vx n gx gy sd (2 * k + 1))), (32, .long (zTf kd ln lo hi vx n gx gy sd (2 * k + 1))), (0, .ref b), (1, .ref (ad 0)), (2, .ref la), (3, .ref lg), (4, .ref lt), (5, .int (nI tau)), (7, .int uu), (22, .int (nI mm)), (23, .int (nI dd)), (24, .int sd), (29, .int (nI k)), (30, .int up9), (31, .int dn9)]) hx hb dL_law_1172 hl (by decide) rfl (fun ls hl => ?_)
                          exact jn_1174_21 dn9 (zTf kd ln lo hi vx n gx gy sd (2 * k + 1)) (nI k) up9 (hdn) ((by first | exact zBk_up1 hbk (by omega) hn hup (Or.inl c_1145) | exact zBk_up1 hbk (by omega) hn hup (Or.inr ⟨c_1153, c_1159⟩) | exact zBk_no1 hbk hn c_1145 (Or.inl c_1153) | exact zBk_no1 hbk hn c_1145 (Or.inr c_1159))) _ _ hP hD hS _ (lv_sub hl [4, 5, 6, 7, 8, 9, 10, 11, 12, 13, 2, 1, 0, 14, 16] rfl)
                  have jn_1081_31 : ∀ (up9 : Int32), (vx k + up9 = zHeldC (lo k) (hi k) (vx k + 1 * sd)) → ∀ (H : Heap) (locs : List Loc), va_P D vwCl ([(la, .inl (cI, 25, .inl fx)), (lg, .inl (cI, 4, .inl fg)), (lt, .inl (cI, 17, .inl ft))] ++ zWR cI cJ ad n kd ln lo hi vl gx gy sl si kc FF) H → va_D A0 ([(la, .inl (cI, 25, .inl fx)), (lg, .inl (cI, 4, .inl fg)), (lt, .inl (cI, 17, .inl ft))] ++ zWR cI cJ ad n kd ln lo hi vl gx gy sl si kc FF) → va_S A0 s.heap H locs → ∀ (ls : Array Slot), lv_has ls 34 [(0, .ref b), (1, .ref (ad 0)), (2, .ref la), (3, .ref lg), (4, .ref lt), (5, .int (nI tau)), (7, .int uu), (22, .int (nI mm)), (23, .int (nI dd)), (24, .int sd), (25, .long bs), (27, .int wh), (28, .int mo9), (29, .int (nI k)), (30, .int up9)] → W p l e (room_1) s m args below meth c H locs cells slots Q (F0 m 1081 ls []) := by
                    intro up9 hup H locs hP hD hS ls hl
                    refine lv_aload_n hx hb dL_law_1081 rfl (lv_at hl 2 rfl) ?_
                    refine lv_iconst (v := nI 5) hx hb dL_law_1082 (rfl) ?_
                    refine lv_iload hx hb dL_law_1083 (lv_at hl 13 rfl) ?_
                    refine lv_imul hx hb dL_law_1085 ?_
                    refine z_topi (y := nI (5 * k)) (pk_mul 5 _) ?_
                    refine lv_iconst (v := nI 4) hx hb dL_law_1086 (rfl) ?_
                    refine lv_iadd hx hb dL_law_1087 ?_
                    refine z_topi (y := nI (5 * k + 4)) (nI_add _ _) ?_
                    refine z_iald hx hb hK hP 0 rfl (j := (5 * k + 4)) (by omega) (by decide) dL_law_1088 ?_
                    refine z_topi (y := vx k) ((hAx k (by omega)).2.2.2.2) ?_
                    refine lv_aload_n hx hb dL_law_1089 rfl (lv_at hl 2 rfl) ?_
                    refine lv_iconst (v := nI 5) hx hb dL_law_1090 (rfl) ?_
                    refine lv_iload hx hb dL_law_1091 (lv_at hl 13 rfl) ?_
                    refine lv_imul hx hb dL_law_1093 ?_
                    refine z_topi (y := nI (5 * k)) (pk_mul 5 _) ?_
                    refine lv_iconst (v := nI 2) hx hb dL_law_1094 (rfl) ?_
                    refine lv_iadd hx hb dL_law_1095 ?_
                    refine z_topi (y := nI (5 * k + 2)) (nI_add _ _) ?_
                    refine z_iald hx hb hK hP 0 rfl (j := (5 * k + 2)) (by omega) (by decide) dL_law_1096 ?_
                    refine z_topi (y := lo k) ((hAx k (by omega)).2.2.1) ?_
                    refine lv_isub hx hb dL_law_1097 ?_
                    refine lv_iload hx hb dL_law_1098 (lv_at hl 9 rfl) ?_
                    refine lv_icmp_ge (tgt := 1123) hx hb dL_law_1100 (by decide) (fun c_1100 => ?_) (fun c_1100 => ?_)
                    · refine lv_iload hx hb dL_law_1123 (lv_at hl 9 rfl) ?_
                      obtain ⟨dn9, hdn9⟩ : ∃ z9, z9 = sd := ⟨_, rfl⟩
                      refine z_topi (y := dn9) hdn9.symm ?_
                      refine lv_istore (lv' := [(31, .int dn9), (0, .ref b), (1, .ref (ad 0)), (2, .ref la), (3, .ref lg), (4, .ref lt), (5, .int (nI tau)), (7, .int uu), (22, .int (nI mm)), (23, .int (nI dd)), (24, .int sd), (25, .long bs), (27, .int wh), (28, .int mo9), (29, .int (nI k)), (30, .int up9)]) hx hb dL_law_1125 hl (by decide) rfl (fun ls hl => ?_)
                      exact jn_1127_26 up9 dn9 (hup) (by rw [hdn9]; exact zDn_2 hup1 hs4 c_1100) _ _ hP hD hS _ (lv_sub hl [1, 2, 3, 4, 5, 6, 7, 8, 9, 10, 11, 12, 13, 14, 15, 0] rfl)
                    · refine lv_aload_n hx hb dL_law_1103 rfl (lv_at hl 2 rfl) ?_
                      refine lv_iconst (v := nI 5) hx hb dL_law_1104 (rfl) ?_
                      refine lv_iload hx hb dL_law_1105 (lv_at hl 13 rfl) ?_
                      refine lv_imul hx hb dL_law_1107 ?_
                      refine z_topi (y := nI (5 * k)) (pk_mul 5 _) ?_
                      refine lv_iconst (v := nI 4) hx hb dL_law_1108 (rfl) ?_
                      refine lv_iadd hx hb dL_law_1109 ?_
                      refine z_topi (y := nI (5 * k + 4)) (nI_add _ _) ?_
                      refine z_iald hx hb hK hP 0 rfl (j := (5 * k + 4)) (by omega) (by decide) dL_law_1110 ?_
                      refine z_topi (y := vx k) ((hAx k (by omega)).2.2.2.2) ?_
                      refine lv_aload_n hx hb dL_law_1111 rfl (lv_at hl 2 rfl) ?_
                      refine lv_iconst (v := nI 5) hx hb dL_law_1112 (rfl) ?_
                      refine lv_iload hx hb dL_law_1113 (lv_at hl 13 rfl) ?_
                      refine lv_imul hx hb dL_law_1115 ?_
                      refine z_topi (y := nI (5 * k)) (pk_mul 5 _) ?_
                      refine lv_iconst (v := nI 2) hx hb dL_law_1116 (rfl) ?_
                      refine lv_iadd hx hb dL_law_1117 ?_
                      refine z_topi (y := nI (5 * k + 2)) (nI_add _ _) ?_
                      refine z_iald hx hb hK hP 0 rfl (j := (5 * k + 2)) (by omega) (by decide) dL_law_1118 ?_
                      refine z_topi (y := lo k) ((hAx k (by omega)).2.2.1) ?_
                      refine lv_isub hx hb dL_law_1119 ?_
                      refine lv_goto (tgt := 1125) hx hb dL_law_1120 (by decide) ?_
                      obtain ⟨dn9, hdn9⟩ : ∃ z9, z9 = (vx k) - (lo k) := ⟨_, rfl⟩
                      refine z_topi (y := dn9) hdn9.symm ?_
                      refine lv_istore (lv' := [(31, .int dn9), (0, .ref b), (1, .ref (ad 0)), (2, .ref la), (3, .ref lg), (4, .ref lt), (5, .int (nI tau)), (7, .int uu), (22, .int (nI mm)), (23, .int (nI dd)), (24, .int sd), (25, .long bs), (27, .int wh), (28, .int mo9), (29, .int (nI k)), (30, .int up9)]) hx hb dL_law_1125 hl (by decide) rfl (fun ls hl => ?_)
                      exact jn_1127_26 up9 dn9 (hup) (by rw [hdn9]; exact zDn_1 hup1 hs4 c_1100) _ _ hP hD hS _ (lv_sub hl [1, 2, 3, 4, 5, 6, 7, 8, 9, 10, 11, 12, 13, 14, 15, 0] rfl)
                  refine lv_aload_n hx hb dL_law_1035 rfl (lv_at hl 2 rfl) ?_
                  refine lv_iconst (v := nI 5) hx hb dL_law_1036 (rfl) ?_
                  refine lv_iload hx hb dL_law_1037 (lv_at hl 13 rfl) ?_
                  refine lv_imul hx hb dL_law_1039 ?_
                  refine z_topi (y := nI (5 * k)) (pk_mul 5 _) ?_
                  refine lv_iconst (v := nI 3) hx hb dL_law_1040 (rfl) ?_
                  refine lv_iadd hx hb dL_law_1041 ?_
                  refine z_topi (y := nI (5 * k + 3)) (nI_add _ _) ?_
                  refine z_iald hx hb hK hP 0 rfl (j := (5 * k + 3)) (by omega) (by decide) dL_law_1042 ?_
                  refine z_topi (y := hi k) ((hAx k (by omega)).2.2.2.1) ?_
                  refine lv_aload_n hx hb dL_law_1043 rfl (lv_at hl 2 rfl) ?_
                  refine lv_iconst (v := nI 5) hx hb dL_law_1044 (rfl) ?_
                  refine lv_iload hx hb dL_law_1045 (lv_at hl 13 rfl) ?_
                  refine lv_imul hx hb dL_law_1047 ?_
                  refine z_topi (y := nI (5 * k)) (pk_mul 5 _) ?_
                  refine lv_iconst (v := nI 4) hx hb dL_law_1048 (rfl) ?_
                  refine lv_iadd hx hb dL_law_1049 ?_
                  refine z_topi (y := nI (5 * k + 4)) (nI_add _ _) ?_
                  refine z_iald hx hb hK hP 0 rfl (j := (5 * k + 4)) (by omega) (by decide) dL_law_1050 ?_
                  refine z_topi (y := vx k) ((hAx k (by omega)).2.2.2.2) ?_
                  refine lv_isub hx hb dL_law_1051 ?_
                  refine lv_iload hx hb dL_law_1052 (lv_at hl 9 rfl) ?_
                  refine lv_icmp_ge (tgt := 1077) hx hb dL_law_1054 (by decide) (fun c_1054 => ?_) (fun c_1054 => ?_)
                  · refine lv_iload hx hb dL_law_1077 (lv_at hl 9 rfl) ?_
                    obtain ⟨up9, hup9⟩ : ∃ z9, z9 = sd := ⟨_, rfl⟩
                    refine z_topi (y := up9) hup9.symm ?_
                    refine lv_istore (lv' := [(30, .int up9), (0, .ref b), (1, .ref (ad 0)), (2, .ref la), (3, .ref lg), (4, .ref lt), (5, .int (nI tau)), (7, .int uu), (22, .int (nI mm)), (23, .int (nI dd)), (24, .int sd), (25, .long bs), (27, .int wh), (28, .int mo9), (29, .int (nI k))]) hx hb dL_law_1079 hl (by decide) rfl (fun ls hl => ?_)
                    exact jn_1081_31 up9 (by rw [hup9]; exact zUp_2 hup1 hs4 c_1054) _ _ hP hD hS _ (lv_sub hl [1, 2, 3, 4, 5, 6, 7, 8, 9, 10, 11, 12, 13, 14, 0] rfl)
                  · refine lv_aload_n hx hb dL_law_1057 rfl (lv_at hl 2 rfl) ?_
                    refine lv_iconst (v := nI 5) hx hb dL_law_1058 (rfl) ?_
                    refine lv_iload hx hb dL_law_1059 (lv_at hl 13 rfl) ?_
                    refine lv_imul hx hb dL_law_1061 ?_
                    refine z_topi (y := nI (5 * k)) (pk_mul 5 _) ?_
                    refine lv_iconst (v := nI 3) hx hb dL_law_1062 (rfl) ?_
                    refine lv_iadd hx hb dL_law_1063 ?_
                    refine z_topi (y := nI (5 * k + 3)) (nI_add _ _) ?_
                    refine z_iald hx hb hK hP 0 rfl (j := (5 * k + 3)) (by omega) (by decide) dL_law_1064 ?_
                    refine z_topi (y := hi k) ((hAx k (by omega)).2.2.2.1) ?_
                    refine lv_aload_n hx hb dL_law_1065 rfl (lv_at hl 2 rfl) ?_
                    refine lv_iconst (v := nI 5) hx hb dL_law_1066 (rfl) ?_
                    refine lv_iload hx hb dL_law_1067 (lv_at hl 13 rfl) ?_
                    refine lv_imul hx hb dL_law_1069 ?_
                    refine z_topi (y := nI (5 * k)) (pk_mul 5 _) ?_
                    refine lv_iconst (v := nI 4) hx hb dL_law_1070 (rfl) ?_
                    refine lv_iadd hx hb dL_law_1071 ?_
                    refine z_topi (y := nI (5 * k + 4)) (nI_add _ _) ?_
                    refine z_iald hx hb hK hP 0 rfl (j := (5 * k + 4)) (by omega) (by decide) dL_law_1072 ?_
                    refine z_topi (y := vx k) ((hAx k (by omega)).2.2.2.2) ?_
                    refine lv_isub hx hb dL_law_1073 ?_
                    refine lv_goto (tgt := 1079) hx hb dL_law_1074 (by decide) ?_
                    obtain ⟨up9, hup9⟩ : ∃ z9, z9 = (hi k) - (vx k) := ⟨_, rfl⟩
                    refine z_topi (y := up9) hup9.symm ?_
                    refine lv_istore (lv' := [(30, .int up9), (0, .ref b), (1, .ref (ad 0)), (2, .ref la), (3, .ref lg), (4, .ref lt), (5, .int (nI tau)), (7, .int uu), (22, .int (nI mm)), (23, .int (nI dd)), (24, .int sd), (25, .long bs), (27, .int wh), (28, .int mo9), (29, .int (nI k))]) hx hb dL_law_1079 hl (by decide) rfl (fun ls hl => ?_)
                    exact jn_1081_31 up9 (by rw [hup9]; exact zUp_1 hup1 hs4 c_1054) _ _ hP hD hS _ (lv_sub hl [1, 2, 3, 4, 5, 6, 7, 8, 9, 10, 11, 12, 13, 14, 0] rfl)
            exact lp_1030_20 (n + 1) n (zFn kd ln vx n gx gy) (-1) 0 (Nat.le_refl n) (zBk_0) (Nat.lt_succ_self _) _ _ hP hD hS _ (lv_sub hl [4, 5, 6, 7, 8, 9, 10, 11, 12, 13, 3, 2, 1, 0] rfl)
    exact lp_994_15 ((([8, 4, 2, 1]).length + (mm - 0)) + 1) 0 ([8, 4, 2, 1]) vl fa (Nat.zero_le _) (Or.inl rfl) (hok) (hA) (by rw [Nat.zero_add, Nat.sub_zero]; rfl) (Nat.lt_succ_self _) _ _ hP hD hS _ (lv_sub hl [2, 3, 4, 5, 6, 7, 8, 9, 1, 0] rfl)
  have hok0 := hok
  refine lv_iconst (v := nI 1) hx hb dL_law_963 (rfl) ?_
  refine lv_iload hx hb dL_law_964 (lv_at hl 2 rfl) ?_
  refine lv_iload hx hb dL_law_966 (lv_at hl 2 rfl) ?_
  refine lv_ldc (own := RL) (v := 1048576) hx hb hown (hts (.constant RL 128 (1048576)) (by decide +kernel)) dL_law_968 ?_
  refine lv_iand hx hb dL_law_970 ?_
  refine lv_if_ne (tgt := 980) hx hb dL_law_971 (by decide) (fun c_971 => ?_) (fun c_971 => ?_)
  · refine lv_iconst (v := nI 4) hx hb dL_law_980 (rfl) ?_
    refine z_call0 (As := [.int uu, .int (nI 4)]) (rest := [.int (nI 1)]) ⟨hx, hb, hml, hown, hts⟩ hG hK hP hD hS (zML_of (c_L_low l D cI cJ uu 4 (by first | assumption | omega | decide))) (va_cwS 2 hts gL_law_L_low rfl rfl rfl (by decide +kernel) ⟨Nat.le_of_ble_eq_true rfl, Nat.le_of_ble_eq_true rfl⟩) (fun _ => rfl) rfl hl.1 rfl (Nat.le_of_ble_eq_true rfl) dL_law_981 ⟨(show cells + 0 ≤ 600104 by omega), (show slots + 0 ≤ 7301314 by omega)⟩ (fun u_32 H locs hu_33 hP hD hS => ?_)
    obtain ⟨r_34, rfl⟩ : ∃ z, z = u_32 := ⟨_, rfl⟩
    have hu_33 : (r_34 = nI (zLw uu 4)) := hu_33
    have e_35 := hu_33
    subst e_35
    have hP : va_P D vwCl ([(la, .inl (cI, 25, .inl fa)), (lg, .inl (cI, 4, .inl fg)), (lt, .inl (cI, 17, .inl ft))] ++ zWR cI cJ ad n kd ln lo hi vl gx gy sl si kc FF) H := hP
    have hD : va_D A0 ([(la, .inl (cI, 25, .inl fa)), (lg, .inl (cI, 4, .inl fg)), (lt, .inl (cI, 17, .inl ft))] ++ zWR cI cJ ad n kd ln lo hi vl gx gy sl si kc FF) := hD
    refine lv_iadd hx hb dL_law_984 ?_
    obtain ⟨mm, hmm, hmm1, hmm2⟩ : ∃ mm : Nat, nI 1 + (nI (zLw uu 4)) = nI mm ∧ 1 ≤ mm ∧ mm ≤ 200 := zmos _ (by decide) (by decide)
    refine z_topi (y := nI mm) hmm ?_
    refine lv_istore (lv' := [(22, .int (nI mm)), (9, .int 1), (8, .int (nI jj)), (7, .int uu), (6, .int vv), (5, .int (nI tau)), (4, .ref lt), (3, .ref lg), (2, .ref la), (1, .ref (ad 0)), (0, .ref b)]) hx hb dL_law_985 hl (by decide) rfl (fun ls hl => ?_)
    exact jn_987_1 mm (hmm1) (hmm2) _ _ hP hD hS _ (lv_sub hl [10, 9, 8, 7, 6, 5, 3, 0] rfl)
  · refine lv_sipush (v := nI 200) hx hb dL_law_974 (rfl) ?_
    refine lv_goto (tgt := 981) hx hb dL_law_977 (by decide) ?_
    refine z_call0 (As := [.int uu, .int (nI 200)]) (rest := [.int (nI 1)]) ⟨hx, hb, hml, hown, hts⟩ hG hK hP hD hS (zML_of (c_L_low l D cI cJ uu 200 (by first | assumption | omega | decide))) (va_cwS 2 hts gL_law_L_low rfl rfl rfl (by decide +kernel) ⟨Nat.le_of_ble_eq_true rfl, Nat.le_of_ble_eq_true rfl⟩) (fun _ => rfl) rfl hl.1 rfl (Nat.le_of_ble_eq_true rfl) dL_law_981 ⟨(show cells + 0 ≤ 600104 by omega), (show slots + 0 ≤ 7301314 by omega)⟩ (fun u_36 H locs hu_37 hP hD hS => ?_)
    obtain ⟨r_38, rfl⟩ : ∃ z, z = u_36 := ⟨_, rfl⟩
    have hu_37 : (r_38 = nI (zLw uu 200)) := hu_37
    have e_39 := hu_37
    subst e_39
    have hP : va_P D vwCl ([(la, .inl (cI, 25, .inl fa)), (lg, .inl (cI, 4, .inl fg)), (lt, .inl (cI, 17, .inl ft))] ++ zWR cI cJ ad n kd ln lo hi vl gx gy sl si kc FF) H := hP
    have hD : va_D A0 ([(la, .inl (cI, 25, .inl fa)), (lg, .inl (cI, 4, .inl fg)), (lt, .inl (cI, 17, .inl ft))] ++ zWR cI cJ ad n kd ln lo hi vl gx gy sl si kc FF) := hD
    refine lv_iadd hx hb dL_law_984 ?_
    obtain ⟨mm, hmm, hmm1, hmm2⟩ : ∃ mm : Nat, nI 1 + (nI (zLw uu 200)) = nI mm ∧ 1 ≤ mm ∧ mm ≤ 200 := zmos _ (by decide) (by decide)
    refine z_topi (y := nI mm) hmm ?_
    refine lv_istore (lv' := [(22, .int (nI mm)), (9, .int 1), (8, .int (nI jj)), (7, .int uu), (6, .int vv), (5, .int (nI tau)), (4, .ref lt), (3, .ref lg), (2, .ref la), (1, .ref (ad 0)), (0, .ref b)]) hx hb dL_law_985 hl (by decide) rfl (fun ls hl => ?_)
    exact jn_987_1 mm (hmm1) (hmm2) _ _ hP hD hS _ (lv_sub hl [10, 9, 8, 7, 6, 5, 3, 0] rfl)

