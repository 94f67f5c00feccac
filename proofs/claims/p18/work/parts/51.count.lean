/-! the law's own counting and ranking of poses -/
set_option maxHeartbeats 4000000 in
set_option maxRecDepth 100000 in
theorem c_L_reaches (l : Launch) (hfl : l.stackTraces = false) (D : va_G) (cI cJ : ClassId) (la : Nat) (fa : Nat → Int32) (lg : Nat) (fg : Nat → Int32) (lt : Nat) (ft : Nat → Int32) (n : Nat) (kd : Nat → Int32) (ln : Nat → Int32) (lo : Nat → Int32) (hi : Nat → Int32) (vl : Nat → Int32) (gx : Int32) (gy : Int32) (sl : Int32) (hA : zAr n fa kd ln lo hi vl) (hGs : zGs fg n gx gy sl) (hT : zTt ft) (hkd : zKd n kd) (hok : zOk n kd ln lo hi vl) (hgx : zB 1000000 gx) (hgy : zB 1000000 gy) (hsl : 0 ≤ sl.toInt ∧ sl.toInt ≤ 100000) (hn0 : ¬ n = 0) (hfew : zPw lo hi n ≤ 40000) : zML l yL_reaches wsL_reaches 3 5 D cI cJ [.ref la, .ref lg, .ref lt] ([(la, .inl (cI, 25, .inl fa)), (lg, .inl (cI, 4, .inl fg)), (lt, .inl (cI, 17, .inl ft))]) (fun (u : Int32) => (u = nI (zAll kd ln lo hi vl n gx gy sl 0).1)) (fun (u : Int32) => some (.int u)) (fun (u : Int32) => [(la, .inl (cI, 25, .inl fa)), (lg, .inl (cI, 4, .inl fg)), (lt, .inl (cI, 17, .inl ft))]) := by
  refine zMB_i (cc := cL_reaches) (maxL := 6) (r := fun (u : Int32) => u) (by decide) rfl (Nat.le_of_ble_eq_true rfl) ?_
  intro p e s m args below meth c ls A0 Q C hNw hl hP hS hRet
  obtain ⟨⟨hx, hb, hml, hown, hts⟩, hG, hK, hD, hlocks⟩ := C
  have hl : lv_has ls 6 [(0, .ref la), (1, .ref lg), (2, .ref lt)] := hl
  have hn := hok.1
  have hpc : zMil lo hi n = zPw lo hi n := by unfold zMil; rw [if_pos (by omega)]
  refine lv_bipush (v := 25) hx hb dL_reaches_0 (by decide) ?_
  refine z_newi hx hb (hts (.arrayClass .int) (by decide +kernel)) hK hP hD hS hNw 25 (by decide) (by decide) (by decide) (show 0 + 1 ≤ 5 by omega) (show 0 + 25 ≤ 6 * 5 by omega) dL_reaches_2 (fun lb H hP hD hS => ?_)
  have hP : va_P D vwCl [(la, .inl (cI, 25, .inl fa)), (lg, .inl (cI, 4, .inl fg)), (lt, .inl (cI, 17, .inl ft)), (lb, .inl (cI, 25, .inl (fun _ => 0)))] H := hP
  have hD : va_D A0 [(la, .inl (cI, 25, .inl fa)), (lg, .inl (cI, 4, .inl fg)), (lt, .inl (cI, 17, .inl ft)), (lb, .inl (cI, 25, .inl (fun _ => 0)))] := hD
  refine lv_astore_n (lv' := [(3, .ref lb), (0, .ref la), (1, .ref lg), (2, .ref lt)]) hx hb dL_reaches_4 rfl hl (by decide) rfl (fun ls hl => ?_)
  refine lv_iconst (v := 0) hx hb dL_reaches_5 (by decide) ?_
  refine lv_istore (lv' := [(4, .int 0), (3, .ref lb), (0, .ref la), (1, .ref lg), (2, .ref lt)]) hx hb dL_reaches_6 hl (by decide) rfl (fun ls hl => ?_)
  have lp_8_1 : ∀ (fu : Nat) (i : Nat) (fx : Nat → Int32), (i ≤ 25) → (∀ k, k < i → fx k = fa k) → (25 - i < fu) → ∀ (H : Heap) (locs : List Loc), va_P D vwCl [(la, .inl (cI, 25, .inl fa)), (lg, .inl (cI, 4, .inl fg)), (lt, .inl (cI, 17, .inl ft)), (lb, .inl (cI, 25, .inl fx))] H → va_D A0 [(la, .inl (cI, 25, .inl fa)), (lg, .inl (cI, 4, .inl fg)), (lt, .inl (cI, 17, .inl ft)), (lb, .inl (cI, 25, .inl fx))] → va_S A0 s.heap H locs → ∀ (ls : Array Slot), lv_has ls 6 [(0, .ref la), (1, .ref lg), (2, .ref lt), (3, .ref lb), (4, .int (nI i))] → W p l e (zRm 3 5 (6 * 5)) s m args below meth c H locs (0 + 1) (0 + 25) Q (F0 m 8 ls []) := by
    intro fu
    induction fu with
    | zero => intro i fx hi1 hfx hfu; exact absurd hfu (Nat.not_lt_zero _)
    | succ fu ih_8_1 =>
      intro i fx hi1 hfx hfu H locs hP hD hS ls hl
      refine lv_iload hx hb dL_reaches_8 (lv_at hl 4 rfl) ?_
      refine lv_bipush (v := nI 25) hx hb dL_reaches_10 (rfl) ?_
      refine lv_icmp_ge (tgt := 29) hx hb dL_reaches_12 (by decide) (fun c_12 => ?_) (fun c_12 => ?_)
      · rw [nI_leI (by omega) (by omega)] at c_12
        have hB0 : zAr n fx kd ln lo hi vl := zAr_copy hA hn (fun k hk => hfx k (by omega))
        refine lv_iconst (v := 0) hx hb dL_reaches_29 (by decide) ?_
        refine lv_istore (lv' := [(4, .int 0), (0, .ref la), (1, .ref lg), (2, .ref lt), (3, .ref lb)]) hx hb dL_reaches_30 hl (by decide) rfl (fun ls hl => ?_)
        refine lv_iconst (v := 0) hx hb dL_reaches_32 (by decide) ?_
        refine lv_istore (lv' := [(5, .int 0), (4, .int 0), (0, .ref la), (1, .ref lg), (2, .ref lt), (3, .ref lb)]) hx hb dL_reaches_33 hl (by decide) rfl (fun ls hl => ?_)
        have lp_35_2 : ∀ (fu : Nat) (i : Nat) (fy : Nat → Int32) (py : Nat → Int32), (i ≤ zPw lo hi n) → (zAr n fy kd ln lo hi py) → (zPw lo hi n - i < fu) → ∀ (H : Heap) (locs : List Loc), va_P D vwCl [(la, .inl (cI, 25, .inl fa)), (lg, .inl (cI, 4, .inl fg)), (lt, .inl (cI, 17, .inl ft)), (lb, .inl (cI, 25, .inl fy))] H → va_D A0 [(la, .inl (cI, 25, .inl fa)), (lg, .inl (cI, 4, .inl fg)), (lt, .inl (cI, 17, .inl ft)), (lb, .inl (cI, 25, .inl fy))] → va_S A0 s.heap H locs → ∀ (ls : Array Slot), lv_has ls 6 [(0, .ref la), (1, .ref lg), (2, .ref lt), (3, .ref lb), (4, .int (nI (zCn kd ln lo hi vl n gx gy sl 0 i))), (5, .int (nI i))] → W p l e (zRm 3 5 (6 * 5)) s m args below meth c H locs (0 + 1) (0 + 25) Q (F0 m 35 ls []) := by
          intro fu
          induction fu with
          | zero => intro i fy py hi2 hB hfu; exact absurd hfu (Nat.not_lt_zero _)
          | succ fu ih_35_2 =>
            intro i fy py hi2 hB hfu H locs hP hD hS ls hl
            refine lv_iload hx hb dL_reaches_35 (lv_at hl 5 rfl) ?_
            refine lv_aload_n hx hb dL_reaches_37 rfl (lv_at hl 0 rfl) ?_
            refine lv_aload_n hx hb dL_reaches_38 rfl (lv_at hl 1 rfl) ?_
            refine z_callS (As := [.ref la, .ref lg]) (rest := [.int (nI i)]) ⟨hx, hb, hml, hown, hts⟩ hG hK hP hD hS (c_L_poses l D cI cJ la fa lg fg n kd ln lo hi vl gx gy sl (by first | assumption | omega | decide) (by first | assumption | omega | decide) (by first | assumption | omega | decide)) (va_cwS 2 hts gL_reaches_L_poses rfl rfl rfl (by decide +kernel) ⟨Nat.le_of_ble_eq_true rfl, Nat.le_of_ble_eq_true rfl⟩) [0, 1] (by decide) rfl (fun _ => rfl) rfl hl.1 rfl (Nat.le_of_ble_eq_true rfl) dL_reaches_39 ⟨Nat.le_of_ble_eq_true rfl, Nat.le_of_ble_eq_true rfl⟩ (fun u_3 H locs hu_4 hP hD hS => ?_)
            obtain ⟨r_5, rfl⟩ : ∃ z, z = u_3 := ⟨_, rfl⟩
            have hu_4 : (r_5 = nI (zMil lo hi n)) := hu_4
            have e_6 := hu_4
            subst e_6
            have hP : va_P D vwCl [(la, .inl (cI, 25, .inl fa)), (lg, .inl (cI, 4, .inl fg)), (lt, .inl (cI, 17, .inl ft)), (lb, .inl (cI, 25, .inl fy))] H := hP
            have hD : va_D A0 [(la, .inl (cI, 25, .inl fa)), (lg, .inl (cI, 4, .inl fg)), (lt, .inl (cI, 17, .inl ft)), (lb, .inl (cI, 25, .inl fy))] := hD
            refine z_topi (y := nI (zPw lo hi n)) (by rw [hpc]) ?_
            refine lv_icmp_ge (tgt := 81) hx hb dL_reaches_42 (by decide) (fun c_42 => ?_) (fun c_42 => ?_)
            · rw [nI_leI (by omega) (by omega)] at c_42
              obtain rfl : i = zPw lo hi n := by omega
              refine lv_iload hx hb dL_reaches_81 (lv_at hl 4 rfl) ?_
              exact hRet _ (nI (zCn kd ln lo hi vl n gx gy sl 0 (zPw lo hi n))) _ _ _ _ _ (show 0 + 1 ≤ 5 by omega) (show 0 + 25 ≤ 6 * 5 by omega) (by rw [zCn_all hn0]) (hP.sub [0, 1, 2] rfl) hS dL_reaches_83
            · rw [nI_leI (by omega) (by omega)] at c_42
              refine lv_iload hx hb dL_reaches_45 (lv_at hl 5 rfl) ?_
              refine lv_aload_n hx hb dL_reaches_47 rfl (lv_at hl 3 rfl) ?_
              refine lv_aload_n hx hb dL_reaches_48 rfl (lv_at hl 1 rfl) ?_
              refine z_callS (As := [.int (nI i), .ref lb, .ref lg]) (rest := []) ⟨hx, hb, hml, hown, hts⟩ hG hK hP hD hS (c_L_lays l D cI cJ i lb fy lg fg n kd ln lo hi vl py gx gy sl (hB) (by first | assumption | omega | decide) (by first | assumption | omega | decide) (by omega)) (va_cwS 3 hts gL_reaches_L_lays rfl rfl rfl (by decide +kernel) ⟨Nat.le_of_ble_eq_true rfl, Nat.le_of_ble_eq_true rfl⟩) [3, 1] (by decide) rfl (fun _ => rfl) rfl hl.1 rfl (Nat.le_of_ble_eq_true rfl) dL_reaches_49 ⟨Nat.le_of_ble_eq_true rfl, Nat.le_of_ble_eq_true rfl⟩ (fun u_7 H locs hu_8 hP hD hS => ?_)
              obtain ⟨fz, rfl⟩ : ∃ z, z = u_7 := ⟨_, rfl⟩
              have hu_8 : (zAr n fz kd ln lo hi (zPk lo hi n i)) := hu_8
              have hz9 := hu_8
              have hP : va_P D vwCl [(la, .inl (cI, 25, .inl fa)), (lg, .inl (cI, 4, .inl fg)), (lt, .inl (cI, 17, .inl ft)), (lb, .inl (cI, 25, .inl fz))] H := hP
              have hD : va_D A0 [(la, .inl (cI, 25, .inl fa)), (lg, .inl (cI, 4, .inl fg)), (lt, .inl (cI, 17, .inl ft)), (lb, .inl (cI, 25, .inl fz))] := hD
              refine lv_iload hx hb dL_reaches_52 (lv_at hl 4 rfl) ?_
              refine lv_iconst (v := 0) hx hb dL_reaches_54 (by decide) ?_
              refine lv_aload_n hx hb dL_reaches_55 rfl (lv_at hl 3 rfl) ?_
              refine lv_aload_n hx hb dL_reaches_56 rfl (lv_at hl 0 rfl) ?_
              refine lv_aload_n hx hb dL_reaches_57 rfl (lv_at hl 1 rfl) ?_
              refine lv_aload_n hx hb dL_reaches_58 rfl (lv_at hl 2 rfl) ?_
              refine z_callS (As := [.int 0, .ref lb, .ref la, .ref lg, .ref lt]) (rest := [.int (nI (zCn kd ln lo hi vl n gx gy sl 0 i))]) ⟨hx, hb, hml, hown, hts⟩ hG hK hP hD hS (c_L_key l D cI cJ 0 lb fz la fa lg fg lt ft n kd ln lo hi vl (zPk lo hi n i) gx gy sl (hz9) (by first | assumption | omega | decide) (by first | assumption | omega | decide) (by first | assumption | omega | decide) (by first | assumption | omega | decide) (by first | assumption | omega | decide) (zPk_p hok i) (by first | assumption | omega | decide) (by first | assumption | omega | decide) (by first | assumption | omega | decide) (Or.inl rfl)) (va_cwS 5 hts gL_reaches_L_key rfl rfl rfl (by decide +kernel) ⟨Nat.le_of_ble_eq_true rfl, Nat.le_of_ble_eq_true rfl⟩) [3, 0, 1, 2] (by decide) rfl (fun _ => rfl) rfl hl.1 rfl (Nat.le_of_ble_eq_true rfl) dL_reaches_59 ⟨Nat.le_of_ble_eq_true rfl, Nat.le_of_ble_eq_true rfl⟩ (fun u_9 H locs hu_10 hP hD hS => ?_)
              obtain ⟨r_11, rfl⟩ : ∃ z, z = u_9 := ⟨_, rfl⟩
              have hu_10 : (r_11 = if zIn sl gx gy (zX kd ln (zPk lo hi n i) n) (zY kd ln (zPk lo hi n i) n) = 1 then zKy kd ln vl n gx gy 0 (zPk lo hi n i) else -1) := hu_10
              have e_12 := hu_10
              subst e_12
              have hP : va_P D vwCl [(la, .inl (cI, 25, .inl fa)), (lg, .inl (cI, 4, .inl fg)), (lt, .inl (cI, 17, .inl ft)), (lb, .inl (cI, 25, .inl fz))] H := hP
              have hD : va_D A0 [(la, .inl (cI, 25, .inl fa)), (lg, .inl (cI, 4, .inl fg)), (lt, .inl (cI, 17, .inl ft)), (lb, .inl (cI, 25, .inl fz))] := hD
              refine z_topl (y := zKl kd ln lo hi vl n gx gy sl 0 i) (zKl_of) ?_
              refine lv_lconst (v := 0) hx hb dL_reaches_62 (by decide) ?_
              refine W.lcmp hx hb dL_reaches_63 ?_
              refine lv_if_ge (tgt := 71) hx hb dL_reaches_64 (by decide) (fun c_64 => ?_) (fun c_64 => ?_)
              · rw [lg_cmp_ge] at c_64
                refine lv_iconst (v := 1) hx hb dL_reaches_71 (by decide) ?_
                refine lv_iadd hx hb dL_reaches_72 ?_
                refine z_topi (y := nI (zCn kd ln lo hi vl n gx gy sl 0 (i + 1))) (by first | exact zCn_t hok hgx hgy c_64 | exact zCn_f hok hgx hgy c_64) ?_
                refine lv_istore (lv' := [(4, .int (nI (zCn kd ln lo hi vl n gx gy sl 0 (i + 1)))), (0, .ref la), (1, .ref lg), (2, .ref lt), (3, .ref lb), (5, .int (nI i))]) hx hb dL_reaches_73 hl (by decide) rfl (fun ls hl => ?_)
                refine lv_iinc (v := nI (i + 1)) (lv' := [(5, .int (nI (i + 1))), (4, .int (nI (zCn kd ln lo hi vl n gx gy sl 0 (i + 1)))), (0, .ref la), (1, .ref lg), (2, .ref lt), (3, .ref lb)]) hx hb dL_reaches_75 hl (k := 5) rfl ((nI_succ _).symm) (by decide) rfl (fun ls hl => ?_)
                refine lv_goto (tgt := 35) hx hb dL_reaches_78 (by decide) ?_
                exact ih_35_2 (i + 1) fz (zPk lo hi n i) (by first | assumption | omega | rfl | simp_all) (hz9) (by omega) _ _ hP hD hS _ (lv_sub hl [2, 3, 4, 5, 1, 0] rfl)
              · rw [lg_cmp_ge] at c_64
                refine lv_iconst (v := 0) hx hb dL_reaches_67 (by decide) ?_
                refine lv_goto (tgt := 72) hx hb dL_reaches_68 (by decide) ?_
                refine lv_iadd hx hb dL_reaches_72 ?_
                refine z_topi (y := nI (zCn kd ln lo hi vl n gx gy sl 0 (i + 1))) (by first | exact zCn_t hok hgx hgy c_64 | exact zCn_f hok hgx hgy c_64) ?_
                refine lv_istore (lv' := [(4, .int (nI (zCn kd ln lo hi vl n gx gy sl 0 (i + 1)))), (0, .ref la), (1, .ref lg), (2, .ref lt), (3, .ref lb), (5, .int (nI i))]) hx hb dL_reaches_73 hl (by decide) rfl (fun ls hl => ?_)
                refine lv_iinc (v := nI (i + 1)) (lv' := [(5, .int (nI (i + 1))), (4, .int (nI (zCn kd ln lo hi vl n gx gy sl 0 (i + 1)))), (0, .ref la), (1, .ref lg), (2, .ref lt), (3, .ref lb)]) hx hb dL_reaches_75 hl (k := 5) rfl ((nI_succ _).symm) (by decide) rfl (fun ls hl => ?_)
                refine lv_goto (tgt := 35) hx hb dL_reaches_78 (by decide) ?_
                exact ih_35_2 (i + 1) fz (zPk lo hi n i) (by first | assumption | omega | rfl | simp_all) (hz9) (by omega) _ _ hP hD hS _ (lv_sub hl [2, 3, 4, 5, 1, 0] rfl)
        exact lp_35_2 ((zPw lo hi n - 0) + 1) 0 fx vl (by first | assumption | omega | rfl | simp_all) (hB0) (Nat.lt_succ_self _) _ _ hP hD hS _ (lv_sub hl [2, 3, 4, 5, 1, 0] rfl)
      · rw [nI_leI (by omega) (by omega)] at c_12
        refine lv_aload_n hx hb dL_reaches_15 rfl (lv_at hl 3 rfl) ?_
        refine lv_iload hx hb dL_reaches_16 (lv_at hl 4 rfl) ?_
        refine lv_aload_n hx hb dL_reaches_18 rfl (lv_at hl 0 rfl) ?_
        refine lv_iload hx hb dL_reaches_19 (lv_at hl 4 rfl) ?_
        refine z_iald hx hb hK hP 0 rfl (j := i) (by omega) (by decide) dL_reaches_21 ?_
        refine z_iast hx hb hK hP hD hS 3 rfl (j := i) (by omega) (by decide) dL_reaches_22 (fun H locs hP hD hS => ?_)
        have hP : va_P D vwCl [(la, .inl (cI, 25, .inl fa)), (lg, .inl (cI, 4, .inl fg)), (lt, .inl (cI, 17, .inl ft)), (lb, .inl (cI, 25, .inl (upd fx i (fa i))))] H := hP
        have hD : va_D A0 [(la, .inl (cI, 25, .inl fa)), (lg, .inl (cI, 4, .inl fg)), (lt, .inl (cI, 17, .inl ft)), (lb, .inl (cI, 25, .inl (upd fx i (fa i))))] := hD
        refine lv_iinc (v := nI (i + 1)) (lv' := [(4, .int (nI (i + 1))), (0, .ref la), (1, .ref lg), (2, .ref lt), (3, .ref lb)]) hx hb dL_reaches_23 hl (k := 4) rfl ((nI_succ _).symm) (by decide) rfl (fun ls hl => ?_)
        refine lv_goto (tgt := 8) hx hb dL_reaches_26 (by decide) ?_
        exact ih_8_1 (i + 1) (upd fx i (fa i)) (by first | assumption | omega | rfl | simp_all) (zupd_ok hfx rfl) (by omega) _ _ hP hD hS _ (lv_sub hl [1, 2, 3, 4, 0] rfl)
  exact lp_8_1 ((25 - 0) + 1) 0 (fun _ => 0) (by first | assumption | omega | rfl | simp_all) (fun k h9 => absurd h9 (Nat.not_lt_zero k)) (Nat.lt_succ_self _) _ _ hP hD hS _ (lv_sub hl [2, 3, 4, 1, 0] rfl)

set_option maxHeartbeats 4000000 in
set_option maxRecDepth 100000 in
theorem c_L_ranked (l : Launch) (hfl : l.stackTraces = false) (D : va_G) (cI cJ : ClassId) (rk : Nat) (bq : Int32) (la : Nat) (fa : Nat → Int32) (lg : Nat) (fg : Nat → Int32) (lt : Nat) (ft : Nat → Int32) (n : Nat) (kd : Nat → Int32) (ln : Nat → Int32) (lo : Nat → Int32) (hi : Nat → Int32) (vl : Nat → Int32) (gx : Int32) (gy : Int32) (sl : Int32) (hA : zAr n fa kd ln lo hi vl) (hGs : zGs fg n gx gy sl) (hT : zTt ft) (hkd : zKd n kd) (hok : zOk n kd ln lo hi vl) (hgx : zB 1000000 gx) (hgy : zB 1000000 gy) (hsl : 0 ≤ sl.toInt ∧ sl.toInt ≤ 100000) (hn0 : ¬ n = 0) (hfew : zPw lo hi n ≤ 40000) (hrk : rk < 10) (hbq : zB3 bq) : zML l yL_ranked wsL_ranked 3 5 D cI cJ [.int (nI rk), .int bq, .ref la, .ref lg, .ref lt] ([(la, .inl (cI, 25, .inl fa)), (lg, .inl (cI, 4, .inl fg)), (lt, .inl (cI, 17, .inl ft))]) (fun (u : Int32) => (u = if rk < (zAll kd ln lo hi vl n gx gy sl bq).1 then nI ((zAll kd ln lo hi vl n gx gy sl bq).2.2 rk) else -1)) (fun (u : Int32) => some (.int u)) (fun (u : Int32) => [(la, .inl (cI, 25, .inl fa)), (lg, .inl (cI, 4, .inl fg)), (lt, .inl (cI, 17, .inl ft))]) := by
  refine zMB_i (cc := cL_ranked) (maxL := 16) (r := fun (u : Int32) => u) (by decide) rfl (Nat.le_of_ble_eq_true rfl) ?_
  intro p e s m args below meth c ls A0 Q C hNw hl hP hS hRet
  obtain ⟨⟨hx, hb, hml, hown, hts⟩, hG, hK, hD, hlocks⟩ := C
  have hl : lv_has ls 16 [(0, .int (nI rk)), (1, .int bq), (2, .ref la), (3, .ref lg), (4, .ref lt)] := hl
  have hn := hok.1
  have hpc : zMil lo hi n = zPw lo hi n := by unfold zMil; rw [if_pos (by omega)]
  refine lv_bipush (v := 25) hx hb dL_ranked_0 (by decide) ?_
  refine z_newi hx hb (hts (.arrayClass .int) (by decide +kernel)) hK hP hD hS hNw 25 (by decide) (by decide) (by decide) (show 0 + 1 ≤ 5 by omega) (show 0 + 25 ≤ 6 * 5 by omega) dL_ranked_2 (fun lb H hP hD hS => ?_)
  have hP : va_P D vwCl [(la, .inl (cI, 25, .inl fa)), (lg, .inl (cI, 4, .inl fg)), (lt, .inl (cI, 17, .inl ft)), (lb, .inl (cI, 25, .inl (fun _ => 0)))] H := hP
  have hD : va_D A0 [(la, .inl (cI, 25, .inl fa)), (lg, .inl (cI, 4, .inl fg)), (lt, .inl (cI, 17, .inl ft)), (lb, .inl (cI, 25, .inl (fun _ => 0)))] := hD
  refine lv_astore (lv' := [(5, .ref lb), (0, .int (nI rk)), (1, .int bq), (2, .ref la), (3, .ref lg), (4, .ref lt)]) hx hb dL_ranked_4 hl (by decide) rfl (fun ls hl => ?_)
  refine lv_iconst (v := 0) hx hb dL_ranked_6 (by decide) ?_
  refine lv_istore (lv' := [(6, .int 0), (5, .ref lb), (0, .int (nI rk)), (1, .int bq), (2, .ref la), (3, .ref lg), (4, .ref lt)]) hx hb dL_ranked_7 hl (by decide) rfl (fun ls hl => ?_)
  have lp_9_1 : ∀ (fu : Nat) (i : Nat) (fx : Nat → Int32), (i ≤ 25) → (∀ k, k < i → fx k = fa k) → (25 - i < fu) → ∀ (H : Heap) (locs : List Loc), va_P D vwCl [(la, .inl (cI, 25, .inl fa)), (lg, .inl (cI, 4, .inl fg)), (lt, .inl (cI, 17, .inl ft)), (lb, .inl (cI, 25, .inl fx))] H → va_D A0 [(la, .inl (cI, 25, .inl fa)), (lg, .inl (cI, 4, .inl fg)), (lt, .inl (cI, 17, .inl ft)), (lb, .inl (cI, 25, .inl fx))] → va_S A0 s.heap H locs → ∀ (ls : Array Slot), lv_has ls 16 [(0, .int (nI rk)), (1, .int bq), (2, .ref la), (3, .ref lg), (4, .ref lt), (5, .ref lb), (6, .int (nI i))] → W p l e (zRm 3 5 (6 * 5)) s m args below meth c H locs (0 + 1) (0 + 25) Q (F0 m 9 ls []) := by
    intro fu
    induction fu with
    | zero => intro i fx hi1 hfx hfu; exact absurd hfu (Nat.not_lt_zero _)
    | succ fu ih_9_1 =>
      intro i fx hi1 hfx hfu H locs hP hD hS ls hl
      refine lv_iload hx hb dL_ranked_9 (lv_at hl 6 rfl) ?_
      refine lv_bipush (v := nI 25) hx hb dL_ranked_11 (rfl) ?_
      refine lv_icmp_ge (tgt := 31) hx hb dL_ranked_13 (by decide) (fun c_13 => ?_) (fun c_13 => ?_)
      · rw [nI_leI (by omega) (by omega)] at c_13
        have hB0 : zAr n fx kd ln lo hi vl := zAr_copy hA hn (fun k hk => hfx k (by omega))
        refine lv_ldc2 (own := RL) (v := -1) hx hb hown (hts (.constantLong RL 83 (-1)) (by decide +kernel)) dL_ranked_31 ?_
        refine lv_lstore (lv' := [(6, .long (-1)), (0, .int (nI rk)), (1, .int bq), (2, .ref la), (3, .ref lg), (4, .ref lt), (5, .ref lb)]) hx hb dL_ranked_34 hl (by decide) rfl (fun ls hl => ?_)
        refine lv_iconst (v := (-1)) hx hb dL_ranked_36 (by decide) ?_
        refine lv_istore (lv' := [(8, .int (-1)), (6, .long (-1)), (0, .int (nI rk)), (1, .int bq), (2, .ref la), (3, .ref lg), (4, .ref lt), (5, .ref lb)]) hx hb dL_ranked_37 hl (by decide) rfl (fun ls hl => ?_)
        refine lv_iconst (v := 0) hx hb dL_ranked_39 (by decide) ?_
        refine lv_istore (lv' := [(9, .int 0), (8, .int (-1)), (6, .long (-1)), (0, .int (nI rk)), (1, .int bq), (2, .ref la), (3, .ref lg), (4, .ref lt), (5, .ref lb)]) hx hb dL_ranked_40 hl (by decide) rfl (fun ls hl => ?_)
        have lp_42_2 : ∀ (fu : Nat) (q : Nat) (hd : Int64) (lst : Int32) (fy : Nat → Int32) (py : Nat → Int32), (q ≤ rk + 1) → (zSel (zKyy kd ln lo hi vl n gx gy bq) (zAll kd ln lo hi vl n gx gy sl bq).1 (zAll kd ln lo hi vl n gx gy sl bq).2.2 q hd lst) → (zAr n fy kd ln lo hi py) → (rk + 1 - q < fu) → ∀ (H : Heap) (locs : List Loc), va_P D vwCl [(la, .inl (cI, 25, .inl fa)), (lg, .inl (cI, 4, .inl fg)), (lt, .inl (cI, 17, .inl ft)), (lb, .inl (cI, 25, .inl fy))] H → va_D A0 [(la, .inl (cI, 25, .inl fa)), (lg, .inl (cI, 4, .inl fg)), (lt, .inl (cI, 17, .inl ft)), (lb, .inl (cI, 25, .inl fy))] → va_S A0 s.heap H locs → ∀ (ls : Array Slot), lv_has ls 16 [(0, .int (nI rk)), (1, .int bq), (2, .ref la), (3, .ref lg), (4, .ref lt), (5, .ref lb), (6, .long hd), (8, .int lst), (9, .int (nI q))] → W p l e (zRm 3 5 (6 * 5)) s m args below meth c H locs (0 + 1) (0 + 25) Q (F0 m 42 ls []) := by
          intro fu
          induction fu with
          | zero => intro q hd lst fy py hq1 hsel hB hfu; exact absurd hfu (Nat.not_lt_zero _)
          | succ fu ih_42_2 =>
            intro q hd lst fy py hq1 hsel hB hfu H locs hP hD hS ls hl
            refine lv_iload hx hb dL_ranked_42 (lv_at hl 8 rfl) ?_
            refine lv_iload_n hx hb dL_ranked_44 rfl (lv_at hl 0 rfl) ?_
            refine lv_icmp_gt (tgt := 172) hx hb dL_ranked_45 (by decide) (fun c_45 => ?_) (fun c_45 => ?_)
            · rw [nI_ltI (by omega) (by omega)] at c_45
              obtain rfl : q = rk + 1 := by omega
              refine lv_iload hx hb dL_ranked_172 (lv_at hl 7 rfl) ?_
              exact hRet _ lst _ _ _ _ _ (show 0 + 1 ≤ 5 by omega) (show 0 + 25 ≤ 6 * 5 by omega) ((zSel_end hsel).symm) (hP.sub [0, 1, 2] rfl) hS dL_ranked_174
            · rw [nI_ltI (by omega) (by omega)] at c_45
              refine lv_ldc2 (own := RL) (v := -1) hx hb hown (hts (.constantLong RL 83 (-1)) (by decide +kernel)) dL_ranked_48 ?_
              refine lv_lstore (lv' := [(10, .long (-1)), (0, .int (nI rk)), (1, .int bq), (2, .ref la), (3, .ref lg), (4, .ref lt), (5, .ref lb), (6, .long hd), (8, .int lst), (9, .int (nI q))]) hx hb dL_ranked_51 hl (by decide) rfl (fun ls hl => ?_)
              refine lv_iconst (v := (-1)) hx hb dL_ranked_53 (by decide) ?_
              refine lv_istore (lv' := [(12, .int (-1)), (10, .long (-1)), (0, .int (nI rk)), (1, .int bq), (2, .ref la), (3, .ref lg), (4, .ref lt), (5, .ref lb), (6, .long hd), (8, .int lst), (9, .int (nI q))]) hx hb dL_ranked_54 hl (by decide) rfl (fun ls hl => ?_)
              refine lv_iconst (v := 0) hx hb dL_ranked_56 (by decide) ?_
              refine lv_istore (lv' := [(13, .int 0), (12, .int (-1)), (10, .long (-1)), (0, .int (nI rk)), (1, .int bq), (2, .ref la), (3, .ref lg), (4, .ref lt), (5, .ref lb), (6, .long hd), (8, .int lst), (9, .int (nI q))]) hx hb dL_ranked_57 hl (by decide) rfl (fun ls hl => ?_)
              have lp_59_3 : ∀ (fu : Nat) (i : Nat) (bs : Int64) (wh : Int32) (fy2 : Nat → Int32) (py2 : Nat → Int32), (i ≤ zPw lo hi n) → (zPik (zPss kd ln lo hi n gx gy sl) (zKyy kd ln lo hi vl n gx gy bq) hd lst i bs wh) → (zAr n fy2 kd ln lo hi py2) → (zPw lo hi n - i < fu) → ∀ (H : Heap) (locs : List Loc), va_P D vwCl [(la, .inl (cI, 25, .inl fa)), (lg, .inl (cI, 4, .inl fg)), (lt, .inl (cI, 17, .inl ft)), (lb, .inl (cI, 25, .inl fy2))] H → va_D A0 [(la, .inl (cI, 25, .inl fa)), (lg, .inl (cI, 4, .inl fg)), (lt, .inl (cI, 17, .inl ft)), (lb, .inl (cI, 25, .inl fy2))] → va_S A0 s.heap H locs → ∀ (ls : Array Slot), lv_has ls 16 [(0, .int (nI rk)), (1, .int bq), (2, .ref la), (3, .ref lg), (4, .ref lt), (5, .ref lb), (6, .long hd), (8, .int lst), (9, .int (nI q)), (10, .long bs), (12, .int wh), (13, .int (nI i))] → W p l e (zRm 3 5 (6 * 5)) s m args below meth c H locs (0 + 1) (0 + 25) Q (F0 m 59 ls []) := by
                intro fu
                induction fu with
                | zero => intro i bs wh fy2 py2 hi2 hpk hB2 hfu; exact absurd hfu (Nat.not_lt_zero _)
                | succ fu ih_59_3 =>
                  intro i bs wh fy2 py2 hi2 hpk hB2 hfu H locs hP hD hS ls hl
                  refine lv_iload hx hb dL_ranked_59 (lv_at hl 11 rfl) ?_
                  refine lv_aload_n hx hb dL_ranked_61 rfl (lv_at hl 2 rfl) ?_
                  refine lv_aload_n hx hb dL_ranked_62 rfl (lv_at hl 3 rfl) ?_
                  refine z_callS (As := [.ref la, .ref lg]) (rest := [.int (nI i)]) ⟨hx, hb, hml, hown, hts⟩ hG hK hP hD hS (c_L_poses l D cI cJ la fa lg fg n kd ln lo hi vl gx gy sl (by first | assumption | omega | decide) (by first | assumption | omega | decide) (by first | assumption | omega | decide)) (va_cwS 2 hts gL_ranked_L_poses rfl rfl rfl (by decide +kernel) ⟨Nat.le_of_ble_eq_true rfl, Nat.le_of_ble_eq_true rfl⟩) [0, 1] (by decide) rfl (fun _ => rfl) rfl hl.1 rfl (Nat.le_of_ble_eq_true rfl) dL_ranked_63 ⟨Nat.le_of_ble_eq_true rfl, Nat.le_of_ble_eq_true rfl⟩ (fun u_4 H locs hu_5 hP hD hS => ?_)
                  obtain ⟨r_6, rfl⟩ : ∃ z, z = u_4 := ⟨_, rfl⟩
                  have hu_5 : (r_6 = nI (zMil lo hi n)) := hu_5
                  have e_7 := hu_5
                  subst e_7
                  have hP : va_P D vwCl [(la, .inl (cI, 25, .inl fa)), (lg, .inl (cI, 4, .inl fg)), (lt, .inl (cI, 17, .inl ft)), (lb, .inl (cI, 25, .inl fy2))] H := hP
                  have hD : va_D A0 [(la, .inl (cI, 25, .inl fa)), (lg, .inl (cI, 4, .inl fg)), (lt, .inl (cI, 17, .inl ft)), (lb, .inl (cI, 25, .inl fy2))] := hD
                  refine z_topi (y := nI (zPw lo hi n)) (by rw [hpc]) ?_
                  refine lv_icmp_ge (tgt := 150) hx hb dL_ranked_66 (by decide) (fun c_66 => ?_) (fun c_66 => ?_)
                  · rw [nI_leI (by omega) (by omega)] at c_66
                    obtain rfl : i = zPw lo hi n := by omega
                    have hend := zPik_end (zAll_srt hok hn0) (by omega) (fun k _ _ => zKey_0 hok hgx hgy k) (show q < 10 by omega) hsel hpk
                    refine lv_iload hx hb dL_ranked_150 (lv_at hl 10 rfl) ?_
                    refine lv_iconst (v := (-1)) hx hb dL_ranked_152 (by decide) ?_
                    refine lv_icmp_ne (tgt := 158) hx hb dL_ranked_153 (by decide) (fun c_153 => ?_) (fun c_153 => ?_)
                    · obtain ⟨-, he1, he2, he3⟩ := hend.resolve_left (fun h9 => c_153 h9.1)
                      refine lv_lload hx hb dL_ranked_158 (lv_at hl 9 rfl) ?_
                      refine lv_lstore (lv' := [(6, .long bs), (0, .int (nI rk)), (1, .int bq), (2, .ref la), (3, .ref lg), (4, .ref lt), (5, .ref lb), (8, .int lst), (9, .int (nI q)), (10, .long bs), (12, .int wh), (13, .int (nI (zPw lo hi n)))]) hx hb dL_ranked_160 hl (by decide) rfl (fun ls hl => ?_)
                      refine lv_iload hx hb dL_ranked_162 (lv_at hl 10 rfl) ?_
                      refine lv_istore (lv' := [(8, .int wh), (6, .long bs), (0, .int (nI rk)), (1, .int bq), (2, .ref la), (3, .ref lg), (4, .ref lt), (5, .ref lb), (9, .int (nI q)), (10, .long bs), (12, .int wh), (13, .int (nI (zPw lo hi n)))]) hx hb dL_ranked_164 hl (by decide) rfl (fun ls hl => ?_)
                      refine lv_iinc (v := nI (q + 1)) (lv' := [(9, .int (nI (q + 1))), (8, .int wh), (6, .long bs), (0, .int (nI rk)), (1, .int bq), (2, .ref la), (3, .ref lg), (4, .ref lt), (5, .ref lb), (10, .long bs), (12, .int wh), (13, .int (nI (zPw lo hi n)))]) hx hb dL_ranked_166 hl (k := 8) rfl ((nI_succ _).symm) (by decide) rfl (fun ls hl => ?_)
                      refine lv_goto (tgt := 42) hx hb dL_ranked_169 (by decide) ?_
                      exact ih_42_2 (q + 1) bs wh fy2 py2 (by omega) (Or.inr ⟨q, rfl, he1, by omega, he3, he2⟩) (hB2) (by omega) _ _ hP hD hS _ (lv_sub hl [3, 4, 5, 6, 7, 8, 2, 1, 0] rfl)
                    · have he1 := (hend.resolve_right (fun h9 => h9.1 c_153)).2
                      refine lv_iconst (v := (-1)) hx hb dL_ranked_156 (by decide) ?_
                      exact hRet _ (-1) _ _ _ _ _ (show 0 + 1 ≤ 5 by omega) (show 0 + 25 ≤ 6 * 5 by omega) (by rw [if_neg (fun h9 => he1 (by omega))]) (hP.sub [0, 1, 2] rfl) hS dL_ranked_157
                  · rw [nI_leI (by omega) (by omega)] at c_66
                    refine lv_iload hx hb dL_ranked_69 (lv_at hl 11 rfl) ?_
                    refine lv_aload hx hb dL_ranked_71 (lv_at hl 5 rfl) ?_
                    refine lv_aload_n hx hb dL_ranked_73 rfl (lv_at hl 3 rfl) ?_
                    refine z_callS (As := [.int (nI i), .ref lb, .ref lg]) (rest := []) ⟨hx, hb, hml, hown, hts⟩ hG hK hP hD hS (c_L_lays l D cI cJ i lb fy2 lg fg n kd ln lo hi vl py2 gx gy sl (hB2) (by first | assumption | omega | decide) (by first | assumption | omega | decide) (by omega)) (va_cwS 3 hts gL_ranked_L_lays rfl rfl rfl (by decide +kernel) ⟨Nat.le_of_ble_eq_true rfl, Nat.le_of_ble_eq_true rfl⟩) [3, 1] (by decide) rfl (fun _ => rfl) rfl hl.1 rfl (Nat.le_of_ble_eq_true rfl) dL_ranked_74 ⟨Nat.le_of_ble_eq_true rfl, Nat.le_of_ble_eq_true rfl⟩ (fun u_8 H locs hu_9 hP hD hS => ?_)
                    obtain ⟨fz, rfl⟩ : ∃ z, z = u_8 := ⟨_, rfl⟩
                    have hu_9 : (zAr n fz kd ln lo hi (zPk lo hi n i)) := hu_9
                    have hz9 := hu_9
                    have hP : va_P D vwCl [(la, .inl (cI, 25, .inl fa)), (lg, .inl (cI, 4, .inl fg)), (lt, .inl (cI, 17, .inl ft)), (lb, .inl (cI, 25, .inl fz))] H := hP
                    have hD : va_D A0 [(la, .inl (cI, 25, .inl fa)), (lg, .inl (cI, 4, .inl fg)), (lt, .inl (cI, 17, .inl ft)), (lb, .inl (cI, 25, .inl fz))] := hD
                    refine lv_iload_n hx hb dL_ranked_77 rfl (lv_at hl 1 rfl) ?_
                    refine lv_aload hx hb dL_ranked_78 (lv_at hl 5 rfl) ?_
                    refine lv_aload_n hx hb dL_ranked_80 rfl (lv_at hl 2 rfl) ?_
                    refine lv_aload_n hx hb dL_ranked_81 rfl (lv_at hl 3 rfl) ?_
                    refine lv_aload hx hb dL_ranked_82 (lv_at hl 4 rfl) ?_
                    refine z_callS (As := [.int bq, .ref lb, .ref la, .ref lg, .ref lt]) (rest := []) ⟨hx, hb, hml, hown, hts⟩ hG hK hP hD hS (c_L_key l D cI cJ bq lb fz la fa lg fg lt ft n kd ln lo hi vl (zPk lo hi n i) gx gy sl (hz9) (by first | assumption | omega | decide) (by first | assumption | omega | decide) (by first | assumption | omega | decide) (by first | assumption | omega | decide) (by first | assumption | omega | decide) (zPk_p hok i) (by first | assumption | omega | decide) (by first | assumption | omega | decide) (by first | assumption | omega | decide) (by first | assumption | omega | decide)) (va_cwS 5 hts gL_ranked_L_key rfl rfl rfl (by decide +kernel) ⟨Nat.le_of_ble_eq_true rfl, Nat.le_of_ble_eq_true rfl⟩) [3, 0, 1, 2] (by decide) rfl (fun _ => rfl) rfl hl.1 rfl (Nat.le_of_ble_eq_true rfl) dL_ranked_84 ⟨Nat.le_of_ble_eq_true rfl, Nat.le_of_ble_eq_true rfl⟩ (fun u_10 H locs hu_11 hP hD hS => ?_)
                    obtain ⟨r_12, rfl⟩ : ∃ z, z = u_10 := ⟨_, rfl⟩
                    have hu_11 : (r_12 = if zIn sl gx gy (zX kd ln (zPk lo hi n i) n) (zY kd ln (zPk lo hi n i) n) = 1 then zKy kd ln vl n gx gy bq (zPk lo hi n i) else -1) := hu_11
                    have e_13 := hu_11
                    subst e_13
                    have hP : va_P D vwCl [(la, .inl (cI, 25, .inl fa)), (lg, .inl (cI, 4, .inl fg)), (lt, .inl (cI, 17, .inl ft)), (lb, .inl (cI, 25, .inl fz))] H := hP
                    have hD : va_D A0 [(la, .inl (cI, 25, .inl fa)), (lg, .inl (cI, 4, .inl fg)), (lt, .inl (cI, 17, .inl ft)), (lb, .inl (cI, 25, .inl fz))] := hD
                    refine z_topl (y := zKl kd ln lo hi vl n gx gy sl bq i) (zKl_of) ?_
                    refine lv_lstore (lv' := [(14, .long (zKl kd ln lo hi vl n gx gy sl bq i)), (0, .int (nI rk)), (1, .int bq), (2, .ref la), (3, .ref lg), (4, .ref lt), (5, .ref lb), (6, .long hd), (8, .int lst), (9, .int (nI q)), (10, .long bs), (12, .int wh), (13, .int (nI i))]) hx hb dL_ranked_87 hl (by decide) rfl (fun ls hl => ?_)
                    refine lv_lload hx hb dL_ranked_89 (lv_at hl 0 rfl) ?_
                    refine lv_lconst (v := 0) hx hb dL_ranked_91 (by decide) ?_
                    refine W.lcmp hx hb dL_ranked_92 ?_
                    refine lv_if_lt (tgt := 144) hx hb dL_ranked_93 (by decide) (fun c_93 => ?_) (fun c_93 => ?_)
                    · rw [lg_cmp_lt] at c_93
                      refine lv_iinc (v := nI (i + 1)) (lv' := [(13, .int (nI (i + 1))), (14, .long (zKl kd ln lo hi vl n gx gy sl bq i)), (0, .int (nI rk)), (1, .int bq), (2, .ref la), (3, .ref lg), (4, .ref lt), (5, .ref lb), (6, .long hd), (8, .int lst), (9, .int (nI q)), (10, .long bs), (12, .int wh)]) hx hb dL_ranked_144 hl (k := 12) rfl ((nI_succ _).symm) (by decide) rfl (fun ls hl => ?_)
                      refine lv_goto (tgt := 59) hx hb dL_ranked_147 (by decide) ?_
                      exact ih_59_3 (i + 1) bs wh fz (zPk lo hi n i) (by first | assumption | omega | rfl | simp_all) (by first | exact zPik_no hpk (fun h9 => absurd h9 ((zKl_lt hok hgx hgy).mp c_93)) | exact zPik_no hpk (fun _ g9 => zGtr_1 e9 c_101 g9) | exact zPik_no hpk (fun _ g9 => zGtr_2 e9 c_109 c_116 (by omega) g9) | exact zPik_old hpk c_125 (zGtr_3 e9 c_133) | (rw [e9]; exact zPik_new hpk hp9 hg9 (Or.inl c_125) (by omega)) | (rw [e9]; exact zPik_new hpk hp9 hg9 (Or.inr (zGtr_4 e9 c_133)) (by omega))) (hz9) (by omega) _ _ hP hD hS _ (lv_sub hl [2, 3, 4, 5, 6, 7, 8, 9, 10, 11, 12, 0] rfl)
                    · rw [lg_cmp_lt] at c_93
                      have hp9 : zPss kd ln lo hi n gx gy sl i = true := Classical.byContradiction (fun h9 => c_93 ((zKl_lt hok hgx hgy).mpr h9))
                      have e9 := zKl_t (vl := vl) (bq := bq) hp9
                      refine lv_lload hx hb dL_ranked_96 (lv_at hl 0 rfl) ?_
                      refine lv_lload hx hb dL_ranked_98 (lv_at hl 7 rfl) ?_
                      refine W.lcmp hx hb dL_ranked_100 ?_
                      refine lv_if_lt (tgt := 144) hx hb dL_ranked_101 (by decide) (fun c_101 => ?_) (fun c_101 => ?_)
                      · rw [lg_cmp_lt] at c_101
                        refine lv_iinc (v := nI (i + 1)) (lv' := [(13, .int (nI (i + 1))), (14, .long (zKl kd ln lo hi vl n gx gy sl bq i)), (0, .int (nI rk)), (1, .int bq), (2, .ref la), (3, .ref lg), (4, .ref lt), (5, .ref lb), (6, .long hd), (8, .int lst), (9, .int (nI q)), (10, .long bs), (12, .int wh)]) hx hb dL_ranked_144 hl (k := 12) rfl ((nI_succ _).symm) (by decide) rfl (fun ls hl => ?_)
                        refine lv_goto (tgt := 59) hx hb dL_ranked_147 (by decide) ?_
                        exact ih_59_3 (i + 1) bs wh fz (zPk lo hi n i) (by first | assumption | omega | rfl | simp_all) (by first | exact zPik_no hpk (fun h9 => absurd h9 ((zKl_lt hok hgx hgy).mp c_93)) | exact zPik_no hpk (fun _ g9 => zGtr_1 e9 c_101 g9) | exact zPik_no hpk (fun _ g9 => zGtr_2 e9 c_109 c_116 (by omega) g9) | exact zPik_old hpk c_125 (zGtr_3 e9 c_133) | (rw [e9]; exact zPik_new hpk hp9 hg9 (Or.inl c_125) (by omega)) | (rw [e9]; exact zPik_new hpk hp9 hg9 (Or.inr (zGtr_4 e9 c_133)) (by omega))) (hz9) (by omega) _ _ hP hD hS _ (lv_sub hl [2, 3, 4, 5, 6, 7, 8, 9, 10, 11, 12, 0] rfl)
                      · rw [lg_cmp_lt] at c_101
                        refine lv_lload hx hb dL_ranked_104 (lv_at hl 0 rfl) ?_
                        refine lv_lload hx hb dL_ranked_106 (lv_at hl 7 rfl) ?_
                        refine W.lcmp hx hb dL_ranked_108 ?_
                        refine lv_if_ne (tgt := 122) hx hb dL_ranked_109 (by decide) (fun c_109 => ?_) (fun c_109 => ?_)
                        · rw [lg_cmp_eq] at c_109
                          have hg9 : zGtr hd lst (zKyy kd ln lo hi vl n gx gy bq) i := by first | exact zGtr_a e9 c_101 c_109 | exact zGtr_b e9 c_109 c_116 (by omega)
                          refine lv_iload hx hb dL_ranked_122 (lv_at hl 11 rfl) ?_
                          refine lv_iconst (v := (-1)) hx hb dL_ranked_124 (by decide) ?_
                          refine lv_icmp_eq (tgt := 136) hx hb dL_ranked_125 (by decide) (fun c_125 => ?_) (fun c_125 => ?_)
                          · refine lv_lload hx hb dL_ranked_136 (lv_at hl 0 rfl) ?_
                            refine lv_lstore (lv' := [(10, .long (zKl kd ln lo hi vl n gx gy sl bq i)), (14, .long (zKl kd ln lo hi vl n gx gy sl bq i)), (0, .int (nI rk)), (1, .int bq), (2, .ref la), (3, .ref lg), (4, .ref lt), (5, .ref lb), (6, .long hd), (8, .int lst), (9, .int (nI q)), (12, .int wh), (13, .int (nI i))]) hx hb dL_ranked_138 hl (by decide) rfl (fun ls hl => ?_)
                            refine lv_iload hx hb dL_ranked_140 (lv_at hl 12 rfl) ?_
                            refine lv_istore (lv' := [(12, .int (nI i)), (10, .long (zKl kd ln lo hi vl n gx gy sl bq i)), (14, .long (zKl kd ln lo hi vl n gx gy sl bq i)), (0, .int (nI rk)), (1, .int bq), (2, .ref la), (3, .ref lg), (4, .ref lt), (5, .ref lb), (6, .long hd), (8, .int lst), (9, .int (nI q)), (13, .int (nI i))]) hx hb dL_ranked_142 hl (by decide) rfl (fun ls hl => ?_)
                            refine lv_iinc (v := nI (i + 1)) (lv' := [(13, .int (nI (i + 1))), (12, .int (nI i)), (10, .long (zKl kd ln lo hi vl n gx gy sl bq i)), (14, .long (zKl kd ln lo hi vl n gx gy sl bq i)), (0, .int (nI rk)), (1, .int bq), (2, .ref la), (3, .ref lg), (4, .ref lt), (5, .ref lb), (6, .long hd), (8, .int lst), (9, .int (nI q))]) hx hb dL_ranked_144 hl (k := 12) rfl ((nI_succ _).symm) (by decide) rfl (fun ls hl => ?_)
                            refine lv_goto (tgt := 59) hx hb dL_ranked_147 (by decide) ?_
                            exact ih_59_3 (i + 1) (zKl kd ln lo hi vl n gx gy sl bq i) (nI i) fz (zPk lo hi n i) (by first | assumption | omega | rfl | simp_all) (by first | exact zPik_no hpk (fun h9 => absurd h9 ((zKl_lt hok hgx hgy).mp c_93)) | exact zPik_no hpk (fun _ g9 => zGtr_1 e9 c_101 g9) | exact zPik_no hpk (fun _ g9 => zGtr_2 e9 c_109 c_116 (by omega) g9) | exact zPik_old hpk c_125 (zGtr_3 e9 c_133) | (rw [e9]; exact zPik_new hpk hp9 hg9 (Or.inl c_125) (by omega)) | (rw [e9]; exact zPik_new hpk hp9 hg9 (Or.inr (zGtr_4 e9 c_133)) (by omega))) (hz9) (by omega) _ _ hP hD hS _ (lv_sub hl [4, 5, 6, 7, 8, 9, 10, 11, 12, 2, 1, 0] rfl)
                          · refine lv_lload hx hb dL_ranked_128 (lv_at hl 0 rfl) ?_
                            refine lv_lload hx hb dL_ranked_130 (lv_at hl 10 rfl) ?_
                            refine W.lcmp hx hb dL_ranked_132 ?_
                            refine lv_if_ge (tgt := 144) hx hb dL_ranked_133 (by decide) (fun c_133 => ?_) (fun c_133 => ?_)
                            · rw [lg_cmp_ge] at c_133
                              refine lv_iinc (v := nI (i + 1)) (lv' := [(13, .int (nI (i + 1))), (14, .long (zKl kd ln lo hi vl n gx gy sl bq i)), (0, .int (nI rk)), (1, .int bq), (2, .ref la), (3, .ref lg), (4, .ref lt), (5, .ref lb), (6, .long hd), (8, .int lst), (9, .int (nI q)), (10, .long bs), (12, .int wh)]) hx hb dL_ranked_144 hl (k := 12) rfl ((nI_succ _).symm) (by decide) rfl (fun ls hl => ?_)
                              refine lv_goto (tgt := 59) hx hb dL_ranked_147 (by decide) ?_
                              exact ih_59_3 (i + 1) bs wh fz (zPk lo hi n i) (by first | assumption | omega | rfl | simp_all) (by first | exact zPik_no hpk (fun h9 => absurd h9 ((zKl_lt hok hgx hgy).mp c_93)) | exact zPik_no hpk (fun _ g9 => zGtr_1 e9 c_101 g9) | exact zPik_no hpk (fun _ g9 => zGtr_2 e9 c_109 c_116 (by omega) g9) | exact zPik_old hpk c_125 (zGtr_3 e9 c_133) | (rw [e9]; exact zPik_new hpk hp9 hg9 (Or.inl c_125) (by omega)) | (rw [e9]; exact zPik_new hpk hp9 hg9 (Or.inr (zGtr_4 e9 c_133)) (by omega))) (hz9) (by omega) _ _ hP hD hS _ (lv_sub hl [2, 3, 4, 5, 6, 7, 8, 9, 10, 11, 12, 0] rfl)
                            · rw [lg_cmp_ge] at c_133
                              refine lv_lload hx hb dL_ranked_136 (lv_at hl 0 rfl) ?_
                              refine lv_lstore (lv' := [(10, .long (zKl kd ln lo hi vl n gx gy sl bq i)), (14, .long (zKl kd ln lo hi vl n gx gy sl bq i)), (0, .int (nI rk)), (1, .int bq), (2, .ref la), (3, .ref lg), (4, .ref lt), (5, .ref lb), (6, .long hd), (8, .int lst), (9, .int (nI q)), (12, .int wh), (13, .int (nI i))]) hx hb dL_ranked_138 hl (by decide) rfl (fun ls hl => ?_)
                              refine lv_iload hx hb dL_ranked_140 (lv_at hl 12 rfl) ?_
                              refine lv_istore (lv' := [(12, .int (nI i)), (10, .long (zKl kd ln lo hi vl n gx gy sl bq i)), (14, .long (zKl kd ln lo hi vl n gx gy sl bq i)), (0, .int (nI rk)), (1, .int bq), (2, .ref la), (3, .ref lg), (4, .ref lt), (5, .ref lb), (6, .long hd), (8, .int lst), (9, .int (nI q)), (13, .int (nI i))]) hx hb dL_ranked_142 hl (by decide) rfl (fun ls hl => ?_)
                              refine lv_iinc (v := nI (i + 1)) (lv' := [(13, .int (nI (i + 1))), (12, .int (nI i)), (10, .long (zKl kd ln lo hi vl n gx gy sl bq i)), (14, .long (zKl kd ln lo hi vl n gx gy sl bq i)), (0, .int (nI rk)), (1, .int bq), (2, .ref la), (3, .ref lg), (4, .ref lt), (5, .ref lb), (6, .long hd), (8, .int lst), (9, .int (nI q))]) hx hb dL_ranked_144 hl (k := 12) rfl ((nI_succ _).symm) (by decide) rfl (fun ls hl => ?_)
                              refine lv_goto (tgt := 59) hx hb dL_ranked_147 (by decide) ?_
                              exact ih_59_3 (i + 1) (zKl kd ln lo hi vl n gx gy sl bq i) (nI i) fz (zPk lo hi n i) (by first | assumption | omega | rfl | simp_all) (by first | exact zPik_no hpk (fun h9 => absurd h9 ((zKl_lt hok hgx hgy).mp c_93)) | exact zPik_no hpk (fun _ g9 => zGtr_1 e9 c_101 g9) | exact zPik_no hpk (fun _ g9 => zGtr_2 e9 c_109 c_116 (by omega) g9) | exact zPik_old hpk c_125 (zGtr_3 e9 c_133) | (rw [e9]; exact zPik_new hpk hp9 hg9 (Or.inl c_125) (by omega)) | (rw [e9]; exact zPik_new hpk hp9 hg9 (Or.inr (zGtr_4 e9 c_133)) (by omega))) (hz9) (by omega) _ _ hP hD hS _ (lv_sub hl [4, 5, 6, 7, 8, 9, 10, 11, 12, 2, 1, 0] rfl)
                        · rw [lg_cmp_eq] at c_109
                          refine lv_iload hx hb dL_ranked_112 (lv_at hl 12 rfl) ?_
                          refine lv_iload hx hb dL_ranked_114 (lv_at hl 8 rfl) ?_
                          refine lv_icmp_gt (tgt := 122) hx hb dL_ranked_116 (by decide) (fun c_116 => ?_) (fun c_116 => ?_)
                          · have hg9 : zGtr hd lst (zKyy kd ln lo hi vl n gx gy bq) i := by first | exact zGtr_a e9 c_101 c_109 | exact zGtr_b e9 c_109 c_116 (by omega)
                            refine lv_iload hx hb dL_ranked_122 (lv_at hl 11 rfl) ?_
                            refine lv_iconst (v := (-1)) hx hb dL_ranked_124 (by decide) ?_
                            refine lv_icmp_eq (tgt := 136) hx hb dL_ranked_125 (by decide) (fun c_125 => ?_) (fun c_125 => ?_)
                            · refine lv_lload hx hb dL_ranked_136 (lv_at hl 0 rfl) ?_
                              refine lv_lstore (lv' := [(10, .long (zKl kd ln lo hi vl n gx gy sl bq i)), (14, .long (zKl kd ln lo hi vl n gx gy sl bq i)), (0, .int (nI rk)), (1, .int bq), (2, .ref la), (3, .ref lg), (4, .ref lt), (5, .ref lb), (6, .long hd), (8, .int lst), (9, .int (nI q)), (12, .int wh), (13, .int (nI i))]) hx hb dL_ranked_138 hl (by decide) rfl (fun ls hl => ?_)
                              refine lv_iload hx hb dL_ranked_140 (lv_at hl 12 rfl) ?_
                              refine lv_istore (lv' := [(12, .int (nI i)), (10, .long (zKl kd ln lo hi vl n gx gy sl bq i)), (14, .long (zKl kd ln lo hi vl n gx gy sl bq i)), (0, .int (nI rk)), (1, .int bq), (2, .ref la), (3, .ref lg), (4, .ref lt), (5, .ref lb), (6, .long hd), (8, .int lst), (9, .int (nI q)), (13, .int (nI i))]) hx hb dL_ranked_142 hl (by decide) rfl (fun ls hl => ?_)
                              refine lv_iinc (v := nI (i + 1)) (lv' := [(13, .int (nI (i + 1))), (12, .int (nI i)), (10, .long (zKl kd ln lo hi vl n gx gy sl bq i)), (14, .long (zKl kd ln lo hi vl n gx gy sl bq i)), (0, .int (nI rk)), (1, .int bq), (2, .ref la), (3, .ref lg), (4, .ref lt), (5, .ref lb), (6, .long hd), (8, .int lst), (9, .int (nI q))]) hx hb dL_ranked_144 hl (k := 12) rfl ((nI_succ _).symm) (by decide) rfl (fun ls hl => ?_)
                              refine lv_goto (tgt := 59) hx hb dL_ranked_147 (by decide) ?_
                              exact ih_59_3 (i + 1) (zKl kd ln lo hi vl n gx gy sl bq i) (nI i) fz (zPk lo hi n i) (by first | assumption | omega | rfl | simp_all) (by first | exact zPik_no hpk (fun h9 => absurd h9 ((zKl_lt hok hgx hgy).mp c_93)) | exact zPik_no hpk (fun _ g9 => zGtr_1 e9 c_101 g9) | exact zPik_no hpk (fun _ g9 => zGtr_2 e9 c_109 c_116 (by omega) g9) | exact zPik_old hpk c_125 (zGtr_3 e9 c_133) | (rw [e9]; exact zPik_new hpk hp9 hg9 (Or.inl c_125) (by omega)) | (rw [e9]; exact zPik_new hpk hp9 hg9 (Or.inr (zGtr_4 e9 c_133)) (by omega))) (hz9) (by omega) _ _ hP hD hS _ (lv_sub hl [4, 5, 6, 7, 8, 9, 10, 11, 12, 2, 1, 0] rfl)
                            · refine lv_lload hx hb dL_ranked_128 (lv_at hl 0 rfl) ?_
                              refine lv_lload hx hb dL_ranked_130 (lv_at hl 10 rfl) ?_
                              refine W.lcmp hx hb dL_ranked_132 ?_
                              refine lv_if_ge (tgt := 144) hx hb dL_ranked_133 (by decide) (fun c_133 => ?_) (fun c_133 => ?_)
                              · rw [lg_cmp_ge] at c_133
                                refine lv_iinc (v := nI (i + 1)) (lv' := [(13, .int (nI (i + 1))), (14, .long (zKl kd ln lo hi vl n gx gy sl bq i)), (0, .int (nI rk)), (1, .int bq), (2, .ref la), (3, .ref lg), (4, .ref lt), (5, .ref lb), (6, .long hd), (8, .int lst), (9, .int (nI q)), (10, .long bs), (12, .int wh)]) hx hb dL_ranked_144 hl (k := 12) rfl ((nI_succ _).symm) (by decide) rfl (fun ls hl => ?_)
                                refine lv_goto (tgt := 59) hx hb dL_ranked_147 (by decide) ?_
                                exact ih_59_3 (i + 1) bs wh fz (zPk lo hi n i) (by first | assumption | omega | rfl | simp_all) (by first | exact zPik_no hpk (fun h9 => absurd h9 ((zKl_lt hok hgx hgy).mp c_93)) | exact zPik_no hpk (fun _ g9 => zGtr_1 e9 c_101 g9) | exact zPik_no hpk (fun _ g9 => zGtr_2 e9 c_109 c_116 (by omega) g9) | exact zPik_old hpk c_125 (zGtr_3 e9 c_133) | (rw [e9]; exact zPik_new hpk hp9 hg9 (Or.inl c_125) (by omega)) | (rw [e9]; exact zPik_new hpk hp9 hg9 (Or.inr (zGtr_4 e9 c_133)) (by omega))) (hz9) (by omega) _ _ hP hD hS _ (lv_sub hl [2, 3, 4, 5, 6, 7, 8, 9, 10, 11, 12, 0] rfl)
                              · rw [lg_cmp_ge] at c_133
                                refine lv_lload hx hb dL_ranked_136 (lv_at hl 0 rfl) ?_
                                refine lv_lstore (lv' := [(10, .long (zKl kd ln lo hi vl n gx gy sl bq i)), (14, .long (zKl kd ln lo hi vl n gx gy sl bq i)), (0, .int (nI rk)), (1, .int bq), (2, .ref la), (3, .ref lg), (4, .ref lt), (5, .ref lb), (6, .long hd), (8, .int lst), (9, .int (nI q)), (12, .int wh), (13, .int (nI i))]) hx hb dL_ranked_138 hl (by decide) rfl (fun ls hl => ?_)
                                refine lv_iload hx hb dL_ranked_140 (lv_at hl 12 rfl) ?_
                                refine lv_istore (lv' := [(12, .int (nI i)), (10, .long (zKl kd ln lo hi vl n gx gy sl bq i)), (14, .long (zKl kd ln lo hi vl n gx gy sl bq i)), (0, .int (nI rk)), (1, .int bq), (2, .ref la), (3, .ref lg), (4, .ref lt), (5, .ref lb), (6, .long hd), (8, .int lst), (9, .int (nI q)), (13, .int (nI i))]) hx hb dL_ranked_142 hl (by decide) rfl (fun ls hl => ?_)
                                refine lv_iinc (v := nI (i + 1)) (lv' := [(13, .int (nI (i + 1))), (12, .int (nI i)), (10, .long (zKl kd ln lo hi vl n gx gy sl bq i)), (14, .long (zKl kd ln lo hi vl n gx gy sl bq i)), (0, .int (nI rk)), (1, .int bq), (2, .ref la), (3, .ref lg), (4, .ref lt), (5, .ref lb), (6, .long hd), (8, .int lst), (9, .int (nI q))]) hx hb dL_ranked_144 hl (k := 12) rfl ((nI_succ _).symm) (by decide) rfl (fun ls hl => ?_)
                                refine lv_goto (tgt := 59) hx hb dL_ranked_147 (by decide) ?_
                                exact ih_59_3 (i + 1) (zKl kd ln lo hi vl n gx gy sl bq i) (nI i) fz (zPk lo hi n i) (by first | assumption | omega | rfl | simp_all) (by first | exact zPik_no hpk (fun h9 => absurd h9 ((zKl_lt hok hgx hgy).mp c_93)) | exact zPik_no hpk (fun _ g9 => zGtr_1 e9 c_101 g9) | exact zPik_no hpk (fun _ g9 => zGtr_2 e9 c_109 c_116 (by omega) g9) | exact zPik_old hpk c_125 (zGtr_3 e9 c_133) | (rw [e9]; exact zPik_new hpk hp9 hg9 (Or.inl c_125) (by omega)) | (rw [e9]; exact zPik_new hpk hp9 hg9 (Or.inr (zGtr_4 e9 c_133)) (by omega))) (hz9) (by omega) _ _ hP hD hS _ (lv_sub hl [4, 5, 6, 7, 8, 9, 10, 11, 12, 2, 1, 0] rfl)
                          · refine lv_goto (tgt := 144) hx hb dL_ranked_119 (by decide) ?_
                            refine lv_iinc (v := nI (i + 1)) (lv' := [(13, .int (nI (i + 1))), (14, .long (zKl kd ln lo hi vl n gx gy sl bq i)), (0, .int (nI rk)), (1, .int bq), (2, .ref la), (3, .ref lg), (4, .ref lt), (5, .ref lb), (6, .long hd), (8, .int lst), (9, .int (nI q)), (10, .long bs), (12, .int wh)]) hx hb dL_ranked_144 hl (k := 12) rfl ((nI_succ _).symm) (by decide) rfl (fun ls hl => ?_)
                            refine lv_goto (tgt := 59) hx hb dL_ranked_147 (by decide) ?_
                            exact ih_59_3 (i + 1) bs wh fz (zPk lo hi n i) (by first | assumption | omega | rfl | simp_all) (by first | exact zPik_no hpk (fun h9 => absurd h9 ((zKl_lt hok hgx hgy).mp c_93)) | exact zPik_no hpk (fun _ g9 => zGtr_1 e9 c_101 g9) | exact zPik_no hpk (fun _ g9 => zGtr_2 e9 c_109 c_116 (by omega) g9) | exact zPik_old hpk c_125 (zGtr_3 e9 c_133) | (rw [e9]; exact zPik_new hpk hp9 hg9 (Or.inl c_125) (by omega)) | (rw [e9]; exact zPik_new hpk hp9 hg9 (Or.inr (zGtr_4 e9 c_133)) (by omega))) (hz9) (by omega) _ _ hP hD hS _ (lv_sub hl [2, 3, 4, 5, 6, 7, 8, 9, 10, 11, 12, 0] rfl)
              exact lp_59_3 ((zPw lo hi n - 0) + 1) 0 (-1) (-1) fy py (by first | assumption | omega | rfl | simp_all) (zPik_0) (hB) (Nat.lt_succ_self _) _ _ hP hD hS _ (lv_sub hl [3, 4, 5, 6, 7, 8, 9, 10, 11, 2, 1, 0] rfl)
        exact lp_42_2 ((rk + 1 - 0) + 1) 0 (-1) (-1) fx vl (by first | assumption | omega | rfl | simp_all) (Or.inl ⟨rfl, rfl, rfl⟩) (hB0) (Nat.lt_succ_self _) _ _ hP hD hS _ (lv_sub hl [3, 4, 5, 6, 7, 8, 2, 1, 0] rfl)
      · rw [nI_leI (by omega) (by omega)] at c_13
        refine lv_aload hx hb dL_ranked_16 (lv_at hl 5 rfl) ?_
        refine lv_iload hx hb dL_ranked_18 (lv_at hl 6 rfl) ?_
        refine lv_aload_n hx hb dL_ranked_20 rfl (lv_at hl 2 rfl) ?_
        refine lv_iload hx hb dL_ranked_21 (lv_at hl 6 rfl) ?_
        refine z_iald hx hb hK hP 0 rfl (j := i) (by omega) (by decide) dL_ranked_23 ?_
        refine z_iast hx hb hK hP hD hS 3 rfl (j := i) (by omega) (by decide) dL_ranked_24 (fun H locs hP hD hS => ?_)
        have hP : va_P D vwCl [(la, .inl (cI, 25, .inl fa)), (lg, .inl (cI, 4, .inl fg)), (lt, .inl (cI, 17, .inl ft)), (lb, .inl (cI, 25, .inl (upd fx i (fa i))))] H := hP
        have hD : va_D A0 [(la, .inl (cI, 25, .inl fa)), (lg, .inl (cI, 4, .inl fg)), (lt, .inl (cI, 17, .inl ft)), (lb, .inl (cI, 25, .inl (upd fx i (fa i))))] := hD
        refine lv_iinc (v := nI (i + 1)) (lv' := [(6, .int (nI (i + 1))), (0, .int (nI rk)), (1, .int bq), (2, .ref la), (3, .ref lg), (4, .ref lt), (5, .ref lb)]) hx hb dL_ranked_25 hl (k := 6) rfl ((nI_succ _).symm) (by decide) rfl (fun ls hl => ?_)
        refine lv_goto (tgt := 9) hx hb dL_ranked_28 (by decide) ?_
        exact ih_9_1 (i + 1) (upd fx i (fa i)) (by first | assumption | omega | rfl | simp_all) (zupd_ok hfx rfl) (by omega) _ _ hP hD hS _ (lv_sub hl [1, 2, 3, 4, 5, 6, 0] rfl)
  exact lp_9_1 ((25 - 0) + 1) 0 (fun _ => 0) (by first | assumption | omega | rfl | simp_all) (fun k h9 => absurd h9 (Nat.not_lt_zero k)) (Nat.lt_succ_self _) _ _ hP hD hS _ (lv_sub hl [2, 3, 4, 5, 6, 1, 0] rfl)

