set_option maxHeartbeats 4000000 in
set_option maxRecDepth 100000 in
theorem c_X5_stepped (l : Launch) (D : va_G) (cI cJ : ClassId) (oo : Nat) (s9 : Nat) (m1 : Nat) (m2 : Nat) (g : Nat) (gx : Int32) (gy : Int32) (sl : Int32) (t1 : Nat) (x1 : Int32) (y1 : Int32) (h1 : Int32) (t2 : Nat) (x2 : Int32) (y2 : Int32) (h2 : Int32) (a : Nat) (k1 : Nat) (k2 : Nat) (k3 : Nat) (k4 : Nat) (k5 : Nat) (n : Nat) (kd : Nat → Int32) (ln : Nat → Int32) (lo : Nat → Int32) (hi : Nat → Int32) (vl : Nat → Int32) (st : Int32) (hn : n ≤ 5) : zM l yX5_stepped wsX5_stepped 6 D cI cJ [.ref oo, .int st] [(oo, .inr (5, [.ref a, .ref g, .ref t1, .ref t2, .ref s9, .ref m1, .ref m2])), (g, .inr (1, [.int gx, .int gy, .int sl])), (t1, .inr (4, [.int x1, .int y1, .int h1])), (t2, .inr (4, [.int x2, .int y2, .int h2])), (a, .inr (0, [.ref k1, .ref k2, .ref k3, .ref k4, .ref k5, .int (nI n)])), (k1, .inl (cI, 5, .inl kd)), (k2, .inl (cI, 5, .inl ln)), (k3, .inl (cI, 5, .inl lo)), (k4, .inl (cI, 5, .inl hi)), (k5, .inl (cI, 5, .inl vl))] (fun (u : Int32 × (Nat → Int32) × Int32 × Int32 × Int32 × Int32 × Int32 × Int32) => (u.1 = if (zBst kd ln lo hi vl n gx gy st n).2.1 = -1 then 0 else 1) ∧ (u.2.1 = if (zBst kd ln lo hi vl n gx gy st n).2.1 = -1 then vl else zNx kd ln lo hi vl n gx gy st)) (fun (u : Int32 × (Nat → Int32) × Int32 × Int32 × Int32 × Int32 × Int32 × Int32) => some (.int u.1)) (fun (u : Int32 × (Nat → Int32) × Int32 × Int32 × Int32 × Int32 × Int32 × Int32) => [(oo, .inr (5, [.ref a, .ref g, .ref t1, .ref t2, .ref s9, .ref m1, .ref m2])), (g, .inr (1, [.int gx, .int gy, .int sl])), (t1, .inr (4, [.int u.2.2.1, .int u.2.2.2.1, .int u.2.2.2.2.1])), (t2, .inr (4, [.int u.2.2.2.2.2.1, .int u.2.2.2.2.2.2.1, .int u.2.2.2.2.2.2.2])), (a, .inr (0, [.ref k1, .ref k2, .ref k3, .ref k4, .ref k5, .int (nI n)])), (k1, .inl (cI, 5, .inl kd)), (k2, .inl (cI, 5, .inl ln)), (k3, .inl (cI, 5, .inl lo)), (k4, .inl (cI, 5, .inl hi)), (k5, .inl (cI, 5, .inl u.2.1))]) := by
  refine zM_z (cc := cX5_stepped) (maxL := 11) (r := fun (u : Int32 × (Nat → Int32) × Int32 × Int32 × Int32 × Int32 × Int32 × Int32) => u.1) (fun u h => by rw [h.1]; split <;> simp) (by decide) rfl (Nat.le_of_ble_eq_true rfl) ?_
  intro p e s m args below meth c ls A0 Q C hl hP hS hRet
  obtain ⟨⟨hx, hb, hml, hown, hts⟩, hG, hK, hD, hlocks⟩ := C
  have hin0 : ∀ w ∈ u_ws RX0 TX0 6, w ∈ wsX5_stepped := by decide +kernel
  have hin5 : ∀ w ∈ u_ws RX5 TX5 7, w ∈ wsX5_stepped := by decide +kernel
  have hf10 := hts (.fieldLink RX5 10 "ArmRoom" "arm" "LArmRoom$Arm;") (by decide +kernel)
  have hf108 := hG.1.2.1 ("ArmRoom", 108, "ArmRoom$Arm", "count", "I", "ArmRoom") (List.mem_of_getElem? (i := 9) rfl)
  have hf83 := hG.1.2.1 ("ArmRoom", 83, "ArmRoom$Arm", "values", "[I", "ArmRoom") (List.mem_of_getElem? (i := 4) rfl)
  have hl : lv_has ls 11 [(0, .ref oo), (1, .int st)] := hl
  refine lv_aload_n hx hb dX5_stepped_0 rfl (lv_at hl 0 rfl) ?_
  refine z_callV (As := []) (rest := []) ⟨hx, hb, hml, hown, hts⟩ hG hK hP hD hS (c_X5_farNow l D cI cJ oo s9 m1 m2 g gx gy sl t1 x1 y1 h1 t2 a k1 k2 k3 k4 k5 n kd ln lo hi vl (by first | assumption | omega | decide)) (cwV 0 hts gX5_stepped_X5_farNow rfl rfl rfl (by decide +kernel) ⟨Nat.le_of_ble_eq_true rfl, Nat.le_of_ble_eq_true rfl⟩) [0, 1, 2, 4, 5, 6, 7, 8, 9] (by decide) rfl (fun _ => rfl) 0 rfl rfl rfl rfl hl.1 rfl (Nat.le_of_ble_eq_true rfl) dX5_stepped_1 ⟨Nat.le_of_ble_eq_true rfl, Nat.le_of_ble_eq_true rfl⟩ (fun u_1 H locs hu_2 hP hD hS => ?_)
  obtain ⟨r_3, x3_4, y3_5, h3_6⟩ := u_1
  have hu_2 : (r_3 = zFn kd ln vl n gx gy) := hu_2
  have e_7 := hu_2
  subst e_7
  have hP : va_P D vwCl [(oo, .inr (5, [.ref a, .ref g, .ref t1, .ref t2, .ref s9, .ref m1, .ref m2])), (g, .inr (1, [.int gx, .int gy, .int sl])), (t1, .inr (4, [.int x3_4, .int y3_5, .int h3_6])), (t2, .inr (4, [.int x2, .int y2, .int h2])), (a, .inr (0, [.ref k1, .ref k2, .ref k3, .ref k4, .ref k5, .int (nI n)])), (k1, .inl (cI, 5, .inl kd)), (k2, .inl (cI, 5, .inl ln)), (k3, .inl (cI, 5, .inl lo)), (k4, .inl (cI, 5, .inl hi)), (k5, .inl (cI, 5, .inl vl))] H := hP
  have hD : va_D A0 [(oo, .inr (5, [.ref a, .ref g, .ref t1, .ref t2, .ref s9, .ref m1, .ref m2])), (g, .inr (1, [.int gx, .int gy, .int sl])), (t1, .inr (4, [.int x3_4, .int y3_5, .int h3_6])), (t2, .inr (4, [.int x2, .int y2, .int h2])), (a, .inr (0, [.ref k1, .ref k2, .ref k3, .ref k4, .ref k5, .int (nI n)])), (k1, .inl (cI, 5, .inl kd)), (k2, .inl (cI, 5, .inl ln)), (k3, .inl (cI, 5, .inl lo)), (k4, .inl (cI, 5, .inl hi)), (k5, .inl (cI, 5, .inl vl))] := hD
  refine lv_lstore_n (lv' := [(2, .long (zFn kd ln vl n gx gy)), (0, .ref oo), (1, .int st)]) hx hb dX5_stepped_4 rfl hl (by decide) rfl (fun ls hl => ?_)
  refine lv_iconst (v := (-1)) hx hb dX5_stepped_5 (by decide) ?_
  refine lv_istore (lv' := [(4, .int (-1)), (2, .long (zFn kd ln vl n gx gy)), (0, .ref oo), (1, .int st)]) hx hb dX5_stepped_6 hl (by decide) rfl (fun ls hl => ?_)
  refine lv_iconst (v := 0) hx hb dX5_stepped_8 (by decide) ?_
  refine lv_istore (lv' := [(5, .int 0), (4, .int (-1)), (2, .long (zFn kd ln vl n gx gy)), (0, .ref oo), (1, .int st)]) hx hb dX5_stepped_9 hl (by decide) rfl (fun ls hl => ?_)
  refine lv_iconst (v := 0) hx hb dX5_stepped_11 (by decide) ?_
  refine lv_istore (lv' := [(6, .int 0), (5, .int 0), (4, .int (-1)), (2, .long (zFn kd ln vl n gx gy)), (0, .ref oo), (1, .int st)]) hx hb dX5_stepped_12 hl (by decide) rfl (fun ls hl => ?_)
  have lp_14_8 : ∀ (fu : Nat) (i : Nat) (f : Int64) (b : Int32) (v : Int32) (xp : Int32) (yp : Int32) (hp : Int32), (i ≤ n) → ((f, b, v) = zBst kd ln lo hi vl n gx gy st i) → (n - i < fu) → ∀ (H : Heap) (locs : List Loc), va_P D vwCl [(oo, .inr (5, [.ref a, .ref g, .ref t1, .ref t2, .ref s9, .ref m1, .ref m2])), (g, .inr (1, [.int gx, .int gy, .int sl])), (t1, .inr (4, [.int x3_4, .int y3_5, .int h3_6])), (t2, .inr (4, [.int xp, .int yp, .int hp])), (a, .inr (0, [.ref k1, .ref k2, .ref k3, .ref k4, .ref k5, .int (nI n)])), (k1, .inl (cI, 5, .inl kd)), (k2, .inl (cI, 5, .inl ln)), (k3, .inl (cI, 5, .inl lo)), (k4, .inl (cI, 5, .inl hi)), (k5, .inl (cI, 5, .inl vl))] H → va_D A0 [(oo, .inr (5, [.ref a, .ref g, .ref t1, .ref t2, .ref s9, .ref m1, .ref m2])), (g, .inr (1, [.int gx, .int gy, .int sl])), (t1, .inr (4, [.int x3_4, .int y3_5, .int h3_6])), (t2, .inr (4, [.int xp, .int yp, .int hp])), (a, .inr (0, [.ref k1, .ref k2, .ref k3, .ref k4, .ref k5, .int (nI n)])), (k1, .inl (cI, 5, .inl kd)), (k2, .inl (cI, 5, .inl ln)), (k3, .inl (cI, 5, .inl lo)), (k4, .inl (cI, 5, .inl hi)), (k5, .inl (cI, 5, .inl vl))] → va_S A0 s.heap H locs → ∀ (ls : Array Slot), lv_has ls 11 [(0, .ref oo), (1, .int st), (2, .long f), (4, .int b), (5, .int v), (6, .int (nI i))] → W p l e (zRm 6 0 0) s m args below meth c H locs 0 0 Q (F0 m 14 ls []) := by
    intro fu
    induction fu with
    | zero => intro i f b v xp yp hp hi1 hz hfu; exact absurd hfu (Nat.not_lt_zero _)
    | succ fu ih_14_8 =>
      intro i f b v xp yp hp hi1 hz hfu H locs hP hD hS ls hl
      refine lv_iload hx hb dX5_stepped_14 (lv_at hl 5 rfl) ?_
      refine lv_aload_n hx hb dX5_stepped_16 rfl (lv_at hl 0 rfl) ?_
      refine va_get (D := D) (ci := 5) (v := .ref a) (C := RX5) (T := TX5) (N := 7) hx hb hts hin5 hown hK hP 0 rfl rfl 0 (by decide) hf10 (fun _ h9 => h9) rfl dX5_stepped_17 ?_
      refine va_getN (D := D) (ci := 0) (v := .int (nI n)) (C := RX0) (T := TX0) (N := 6) hx hb hts hin0 hown hK hP 4 rfl rfl 5 (by decide) (va_Nw.use rfl hf108) (fun _ h9 => h9) rfl dX5_stepped_20 ?_
      refine lv_icmp_ge (tgt := 101) hx hb dX5_stepped_23 (by decide) (fun c_23 => ?_) (fun c_23 => ?_)
      · rw [nI_leI (by omega) (by omega)] at c_23
        obtain rfl : n = i := by omega
        refine lv_iload hx hb dX5_stepped_101 (lv_at hl 3 rfl) ?_
        refine lv_iconst (v := (-1)) hx hb dX5_stepped_103 (by decide) ?_
        refine lv_icmp_ne (tgt := 109) hx hb dX5_stepped_104 (by decide) (fun c_104 => ?_) (fun c_104 => ?_)
        · have hix := zBst_ix kd ln lo hi vl n gx gy st n
          rw [← hz] at hix
          obtain ⟨jj, hjj, hjb, -⟩ := hix.resolve_left c_104
          have hjb : b = nI jj := hjb
          subst hjb
          refine lv_aload_n hx hb dX5_stepped_109 rfl (lv_at hl 0 rfl) ?_
          refine va_get (D := D) (ci := 5) (v := .ref a) (C := RX5) (T := TX5) (N := 7) hx hb hts hin5 hown hK hP 0 rfl rfl 0 (by decide) hf10 (fun _ h9 => h9) rfl dX5_stepped_110 ?_
          refine va_getN (D := D) (ci := 0) (v := .ref k5) (C := RX0) (T := TX0) (N := 6) hx hb hts hin0 hown hK hP 4 rfl rfl 4 (by decide) (va_Nw.use rfl hf83) (fun _ h9 => h9) rfl dX5_stepped_113 ?_
          refine lv_iload hx hb dX5_stepped_116 (lv_at hl 3 rfl) ?_
          refine lv_iload hx hb dX5_stepped_118 (lv_at hl 4 rfl) ?_
          refine z_iast hx hb hK hP hD hS 9 rfl (j := jj) (by omega) (by decide) dX5_stepped_120 (fun H locs hP hD hS => ?_)
          have hP : va_P D vwCl [(oo, .inr (5, [.ref a, .ref g, .ref t1, .ref t2, .ref s9, .ref m1, .ref m2])), (g, .inr (1, [.int gx, .int gy, .int sl])), (t1, .inr (4, [.int x3_4, .int y3_5, .int h3_6])), (t2, .inr (4, [.int xp, .int yp, .int hp])), (a, .inr (0, [.ref k1, .ref k2, .ref k3, .ref k4, .ref k5, .int (nI n)])), (k1, .inl (cI, 5, .inl kd)), (k2, .inl (cI, 5, .inl ln)), (k3, .inl (cI, 5, .inl lo)), (k4, .inl (cI, 5, .inl hi)), (k5, .inl (cI, 5, .inl (upd vl jj v)))] H := hP
          have hD : va_D A0 [(oo, .inr (5, [.ref a, .ref g, .ref t1, .ref t2, .ref s9, .ref m1, .ref m2])), (g, .inr (1, [.int gx, .int gy, .int sl])), (t1, .inr (4, [.int x3_4, .int y3_5, .int h3_6])), (t2, .inr (4, [.int xp, .int yp, .int hp])), (a, .inr (0, [.ref k1, .ref k2, .ref k3, .ref k4, .ref k5, .int (nI n)])), (k1, .inl (cI, 5, .inl kd)), (k2, .inl (cI, 5, .inl ln)), (k3, .inl (cI, 5, .inl lo)), (k4, .inl (cI, 5, .inl hi)), (k5, .inl (cI, 5, .inl (upd vl jj v)))] := hD
          refine lv_iconst (v := 1) hx hb dX5_stepped_121 (by decide) ?_
          exact hRet _ (1, upd vl jj v, x3_4, y3_5, h3_6, xp, yp, hp) _ _ _ ⟨by rw [← hz]; exact (if_neg c_104).symm, by unfold zNx; rw [← hz]; show upd vl jj v = if nI jj = -1 then vl else upd vl (nI jj).toNatClampNeg v; rw [if_neg c_104, nI_clamp (by omega)]⟩ hP hS dX5_stepped_122
        · refine lv_iconst (v := 0) hx hb dX5_stepped_107 (by decide) ?_
          exact hRet _ (0, vl, x3_4, y3_5, h3_6, xp, yp, hp) _ _ _ ⟨by rw [← hz]; exact (if_pos c_104).symm, by rw [← hz]; exact (if_pos c_104).symm⟩ hP hS dX5_stepped_108
      · rw [nI_leI (by omega) (by omega)] at c_23
        refine lv_iconst (v := (-1)) hx hb dX5_stepped_26 (by decide) ?_
        refine lv_istore (lv' := [(7, .int (-1)), (0, .ref oo), (1, .int st), (2, .long f), (4, .int b), (5, .int v), (6, .int (nI i))]) hx hb dX5_stepped_27 hl (by decide) rfl (fun ls hl => ?_)
        refine lv_iload hx hb dX5_stepped_29 (lv_at hl 0 rfl) ?_
        refine lv_iconst (v := 1) hx hb dX5_stepped_31 (by decide) ?_
        refine lv_icmp_gt (tgt := 95) hx hb dX5_stepped_32 (by decide) (fun c_32 => ?_) (fun c_32 => ?_)
        · exact absurd c_32 (by decide)
        · have jn_89_9 : ∀ (fq : Int64) (bq : Int32) (vq : Int32) (xq : Int32) (yq : Int32) (hq : Int32), (zTry kd ln lo hi vl n gx gy st (f, b, v) i (-1) = (fq, bq, vq)) → ∀ (H : Heap) (locs : List Loc), va_P D vwCl [(oo, .inr (5, [.ref a, .ref g, .ref t1, .ref t2, .ref s9, .ref m1, .ref m2])), (g, .inr (1, [.int gx, .int gy, .int sl])), (t1, .inr (4, [.int x3_4, .int y3_5, .int h3_6])), (t2, .inr (4, [.int xq, .int yq, .int hq])), (a, .inr (0, [.ref k1, .ref k2, .ref k3, .ref k4, .ref k5, .int (nI n)])), (k1, .inl (cI, 5, .inl kd)), (k2, .inl (cI, 5, .inl ln)), (k3, .inl (cI, 5, .inl lo)), (k4, .inl (cI, 5, .inl hi)), (k5, .inl (cI, 5, .inl vl))] H → va_D A0 [(oo, .inr (5, [.ref a, .ref g, .ref t1, .ref t2, .ref s9, .ref m1, .ref m2])), (g, .inr (1, [.int gx, .int gy, .int sl])), (t1, .inr (4, [.int x3_4, .int y3_5, .int h3_6])), (t2, .inr (4, [.int xq, .int yq, .int hq])), (a, .inr (0, [.ref k1, .ref k2, .ref k3, .ref k4, .ref k5, .int (nI n)])), (k1, .inl (cI, 5, .inl kd)), (k2, .inl (cI, 5, .inl ln)), (k3, .inl (cI, 5, .inl lo)), (k4, .inl (cI, 5, .inl hi)), (k5, .inl (cI, 5, .inl vl))] → va_S A0 s.heap H locs → ∀ (ls : Array Slot), lv_has ls 11 [(0, .ref oo), (1, .int st), (2, .long fq), (4, .int bq), (5, .int vq), (6, .int (nI i)), (7, .int (-1))] → W p l e (zRm 6 0 0) s m args below meth c H locs 0 0 Q (F0 m 89 ls []) := by
            intro fq bq vq xq yq hq hjq H locs hP hD hS ls hl
            refine lv_iinc (v := 1) (lv' := [(7, .int 1), (0, .ref oo), (1, .int st), (2, .long fq), (4, .int bq), (5, .int vq), (6, .int (nI i))]) hx hb dX5_stepped_89 hl (k := 6) rfl (by decide) (by decide) rfl (fun ls hl => ?_)
            refine lv_goto (tgt := 29) hx hb dX5_stepped_92 (by decide) ?_
            refine lv_iload hx hb dX5_stepped_29 (lv_at hl 0 rfl) ?_
            refine lv_iconst (v := 1) hx hb dX5_stepped_31 (by decide) ?_
            refine lv_icmp_gt (tgt := 95) hx hb dX5_stepped_32 (by decide) (fun c_32 => ?_) (fun c_32 => ?_)
            · exact absurd c_32 (by decide)
            · have jn_89_10 : ∀ (fr : Int64) (br : Int32) (vr : Int32) (xr : Int32) (yr : Int32) (hr : Int32), (zTry kd ln lo hi vl n gx gy st (fq, bq, vq) i 1 = (fr, br, vr)) → ∀ (H : Heap) (locs : List Loc), va_P D vwCl [(oo, .inr (5, [.ref a, .ref g, .ref t1, .ref t2, .ref s9, .ref m1, .ref m2])), (g, .inr (1, [.int gx, .int gy, .int sl])), (t1, .inr (4, [.int x3_4, .int y3_5, .int h3_6])), (t2, .inr (4, [.int xr, .int yr, .int hr])), (a, .inr (0, [.ref k1, .ref k2, .ref k3, .ref k4, .ref k5, .int (nI n)])), (k1, .inl (cI, 5, .inl kd)), (k2, .inl (cI, 5, .inl ln)), (k3, .inl (cI, 5, .inl lo)), (k4, .inl (cI, 5, .inl hi)), (k5, .inl (cI, 5, .inl vl))] H → va_D A0 [(oo, .inr (5, [.ref a, .ref g, .ref t1, .ref t2, .ref s9, .ref m1, .ref m2])), (g, .inr (1, [.int gx, .int gy, .int sl])), (t1, .inr (4, [.int x3_4, .int y3_5, .int h3_6])), (t2, .inr (4, [.int xr, .int yr, .int hr])), (a, .inr (0, [.ref k1, .ref k2, .ref k3, .ref k4, .ref k5, .int (nI n)])), (k1, .inl (cI, 5, .inl kd)), (k2, .inl (cI, 5, .inl ln)), (k3, .inl (cI, 5, .inl lo)), (k4, .inl (cI, 5, .inl hi)), (k5, .inl (cI, 5, .inl vl))] → va_S A0 s.heap H locs → ∀ (ls : Array Slot), lv_has ls 11 [(0, .ref oo), (1, .int st), (2, .long fr), (4, .int br), (5, .int vr), (6, .int (nI i)), (7, .int 1)] → W p l e (zRm 6 0 0) s m args below meth c H locs 0 0 Q (F0 m 89 ls []) := by
                intro fr br vr xr yr hr hjr H locs hP hD hS ls hl
                refine lv_iinc (v := 3) (lv' := [(7, .int 3), (0, .ref oo), (1, .int st), (2, .long fr), (4, .int br), (5, .int vr), (6, .int (nI i))]) hx hb dX5_stepped_89 hl (k := 6) rfl (by decide) (by decide) rfl (fun ls hl => ?_)
                refine lv_goto (tgt := 29) hx hb dX5_stepped_92 (by decide) ?_
                refine lv_iload hx hb dX5_stepped_29 (lv_at hl 0 rfl) ?_
                refine lv_iconst (v := 1) hx hb dX5_stepped_31 (by decide) ?_
                refine lv_icmp_gt (tgt := 95) hx hb dX5_stepped_32 (by decide) (fun c_32 => ?_) (fun c_32 => ?_)
                · refine lv_iinc (v := nI (i + 1)) (lv' := [(6, .int (nI (i + 1))), (7, .int 3), (0, .ref oo), (1, .int st), (2, .long fr), (4, .int br), (5, .int vr)]) hx hb dX5_stepped_95 hl (k := 6) rfl ((nI_succ _).symm) (by decide) rfl (fun ls hl => ?_)
                  refine lv_goto (tgt := 14) hx hb dX5_stepped_98 (by decide) ?_
                  exact ih_14_8 (i + 1) fr br vr xr yr hr (by first | assumption | omega | rfl | simp_all) (by rw [← hjr, ← hjq, hz]; rfl) (by omega) _ _ hP hD hS _ (lv_sub hl [2, 3, 4, 5, 6, 0] rfl)
                · exact absurd (by decide) c_32
              refine lv_aload_n hx hb dX5_stepped_35 rfl (lv_at hl 1 rfl) ?_
              refine va_get (D := D) (ci := 5) (v := .ref a) (C := RX5) (T := TX5) (N := 7) hx hb hts hin5 hown hK hP 0 rfl rfl 0 (by decide) hf10 (fun _ h9 => h9) rfl dX5_stepped_36 ?_
              refine lv_iload hx hb dX5_stepped_39 (lv_at hl 6 rfl) ?_
              refine lv_aload_n hx hb dX5_stepped_41 rfl (lv_at hl 1 rfl) ?_
              refine va_get (D := D) (ci := 5) (v := .ref a) (C := RX5) (T := TX5) (N := 7) hx hb hts hin5 hown hK hP 0 rfl rfl 0 (by decide) hf10 (fun _ h9 => h9) rfl dX5_stepped_42 ?_
              refine va_getN (D := D) (ci := 0) (v := .ref k5) (C := RX0) (T := TX0) (N := 6) hx hb hts hin0 hown hK hP 4 rfl rfl 4 (by decide) (va_Nw.use rfl hf83) (fun _ h9 => h9) rfl dX5_stepped_45 ?_
              refine lv_iload hx hb dX5_stepped_48 (lv_at hl 6 rfl) ?_
              refine z_iald hx hb hK hP 9 rfl (j := i) (by omega) (by decide) dX5_stepped_50 ?_
              refine lv_iload hx hb dX5_stepped_51 (lv_at hl 0 rfl) ?_
              refine lv_iload_n hx hb dX5_stepped_53 rfl (lv_at hl 2 rfl) ?_
              refine lv_imul hx hb dX5_stepped_54 ?_
              refine lv_iadd hx hb dX5_stepped_55 ?_
              refine z_callVN (As := [.int (nI i), .int ((vl i) + (1 * st))]) (rest := []) ⟨hx, hb, hml, hown, hts⟩ hG hK hP hD hS (c_X0_held l D cI cJ a k1 k2 k3 k4 k5 n kd ln lo hi vl i ((vl i) + (1 * st)) (by first | assumption | omega | decide)) (⟨va_cnB 2 hts gX5_stepped_X0_held_n190 rfl rfl rfl (hG.1.1 ("ArmRoom", 190, yX0_held, "ArmRoom") (List.mem_of_getElem? (i := 17) rfl)) (hts (.initialized RX0) (by decide +kernel)) (by decide +kernel) ⟨Nat.le_of_ble_eq_true rfl, Nat.le_of_ble_eq_true rfl⟩, hts (.instanceMethod yX0_held) (by decide +kernel), hts (.selects RX0 yX0_held yX0_held) (by decide +kernel)⟩) [4, 5, 6, 7, 8, 9] (by decide) rfl (fun _ => rfl) 4 rfl rfl rfl rfl hl.1 rfl (Nat.le_of_ble_eq_true rfl) dX5_stepped_56 ⟨Nat.le_of_ble_eq_true rfl, Nat.le_of_ble_eq_true rfl⟩ (fun u_11 H locs hu_12 hP hD hS => ?_)
              obtain ⟨r_13, rfl⟩ : ∃ z, z = u_11 := ⟨_, rfl⟩
              have hu_12 : (r_13 = zHeldC (lo i) (hi i) ((vl i) + (1 * st))) := hu_12
              have e_14 := hu_12
              subst e_14
              have hP : va_P D vwCl [(oo, .inr (5, [.ref a, .ref g, .ref t1, .ref t2, .ref s9, .ref m1, .ref m2])), (g, .inr (1, [.int gx, .int gy, .int sl])), (t1, .inr (4, [.int x3_4, .int y3_5, .int h3_6])), (t2, .inr (4, [.int xq, .int yq, .int hq])), (a, .inr (0, [.ref k1, .ref k2, .ref k3, .ref k4, .ref k5, .int (nI n)])), (k1, .inl (cI, 5, .inl kd)), (k2, .inl (cI, 5, .inl ln)), (k3, .inl (cI, 5, .inl lo)), (k4, .inl (cI, 5, .inl hi)), (k5, .inl (cI, 5, .inl vl))] H := hP
              have hD : va_D A0 [(oo, .inr (5, [.ref a, .ref g, .ref t1, .ref t2, .ref s9, .ref m1, .ref m2])), (g, .inr (1, [.int gx, .int gy, .int sl])), (t1, .inr (4, [.int x3_4, .int y3_5, .int h3_6])), (t2, .inr (4, [.int xq, .int yq, .int hq])), (a, .inr (0, [.ref k1, .ref k2, .ref k3, .ref k4, .ref k5, .int (nI n)])), (k1, .inl (cI, 5, .inl kd)), (k2, .inl (cI, 5, .inl ln)), (k3, .inl (cI, 5, .inl lo)), (k4, .inl (cI, 5, .inl hi)), (k5, .inl (cI, 5, .inl vl))] := hD
              refine lv_istore (lv' := [(8, .int (zHeldC (lo i) (hi i) ((vl i) + (1 * st)))), (7, .int 1), (0, .ref oo), (1, .int st), (2, .long fq), (4, .int bq), (5, .int vq), (6, .int (nI i))]) hx hb dX5_stepped_59 hl (by decide) rfl (fun ls hl => ?_)
              refine lv_aload_n hx hb dX5_stepped_61 rfl (lv_at hl 2 rfl) ?_
              refine lv_iload hx hb dX5_stepped_62 (lv_at hl 7 rfl) ?_
              refine lv_iload hx hb dX5_stepped_64 (lv_at hl 0 rfl) ?_
              refine z_callV (As := [.int (nI i), .int (zHeldC (lo i) (hi i) ((vl i) + (1 * st)))]) (rest := []) ⟨hx, hb, hml, hown, hts⟩ hG hK hP hD hS (c_X5_farWith l D cI cJ oo s9 m1 m2 g gx gy sl t2 xq yq hq t1 a k1 k2 k3 k4 k5 n kd ln lo hi vl (nI i) (zHeldC (lo i) (hi i) ((vl i) + (1 * st))) (by first | assumption | omega | decide)) (cwV 2 hts gX5_stepped_X5_farWith rfl rfl rfl (by decide +kernel) ⟨Nat.le_of_ble_eq_true rfl, Nat.le_of_ble_eq_true rfl⟩) [0, 1, 3, 4, 5, 6, 7, 8, 9] (by decide) rfl (fun _ => rfl) 0 rfl rfl rfl rfl hl.1 rfl (Nat.le_of_ble_eq_true rfl) dX5_stepped_66 ⟨Nat.le_of_ble_eq_true rfl, Nat.le_of_ble_eq_true rfl⟩ (fun u_15 H locs hu_16 hP hD hS => ?_)
              obtain ⟨r_17, x4_18, y4_19, h4_20⟩ := u_15
              have hu_16 : (r_17 = zFw kd ln vl n gx gy (nI i) (zHeldC (lo i) (hi i) ((vl i) + (1 * st)))) := hu_16
              have e_21 := hu_16
              subst e_21
              have hP : va_P D vwCl [(oo, .inr (5, [.ref a, .ref g, .ref t1, .ref t2, .ref s9, .ref m1, .ref m2])), (g, .inr (1, [.int gx, .int gy, .int sl])), (t1, .inr (4, [.int x3_4, .int y3_5, .int h3_6])), (t2, .inr (4, [.int x4_18, .int y4_19, .int h4_20])), (a, .inr (0, [.ref k1, .ref k2, .ref k3, .ref k4, .ref k5, .int (nI n)])), (k1, .inl (cI, 5, .inl kd)), (k2, .inl (cI, 5, .inl ln)), (k3, .inl (cI, 5, .inl lo)), (k4, .inl (cI, 5, .inl hi)), (k5, .inl (cI, 5, .inl vl))] H := hP
              have hD : va_D A0 [(oo, .inr (5, [.ref a, .ref g, .ref t1, .ref t2, .ref s9, .ref m1, .ref m2])), (g, .inr (1, [.int gx, .int gy, .int sl])), (t1, .inr (4, [.int x3_4, .int y3_5, .int h3_6])), (t2, .inr (4, [.int x4_18, .int y4_19, .int h4_20])), (a, .inr (0, [.ref k1, .ref k2, .ref k3, .ref k4, .ref k5, .int (nI n)])), (k1, .inl (cI, 5, .inl kd)), (k2, .inl (cI, 5, .inl ln)), (k3, .inl (cI, 5, .inl lo)), (k4, .inl (cI, 5, .inl hi)), (k5, .inl (cI, 5, .inl vl))] := hD
              refine lv_lstore (lv' := [(9, .long (zFw kd ln vl n gx gy (nI i) (zHeldC (lo i) (hi i) ((vl i) + (1 * st))))), (8, .int (zHeldC (lo i) (hi i) ((vl i) + (1 * st)))), (7, .int 1), (0, .ref oo), (1, .int st), (2, .long fq), (4, .int bq), (5, .int vq), (6, .int (nI i))]) hx hb dX5_stepped_69 hl (by decide) rfl (fun ls hl => ?_)
              refine lv_lload hx hb dX5_stepped_71 (lv_at hl 0 rfl) ?_
              refine lv_lload_n hx hb dX5_stepped_73 rfl (lv_at hl 5 rfl) ?_
              refine W.lcmp hx hb dX5_stepped_74 ?_
              refine lv_if_ge (tgt := 89) hx hb dX5_stepped_75 (by decide) (fun c_75 => ?_) (fun c_75 => ?_)
              · rw [lg_cmp_ge] at c_75
                exact jn_89_10 fq bq vq x4_18 y4_19 h4_20 (if_neg (Int64.not_lt.mpr c_75)) _ _ hP hD hS _ (lv_sub hl [3, 4, 5, 6, 7, 8, 2] rfl)
              · rw [lg_cmp_ge] at c_75
                refine lv_lload hx hb dX5_stepped_78 (lv_at hl 0 rfl) ?_
                refine lv_lstore_n (lv' := [(2, .long (zFw kd ln vl n gx gy (nI i) (zHeldC (lo i) (hi i) ((vl i) + (1 * st))))), (9, .long (zFw kd ln vl n gx gy (nI i) (zHeldC (lo i) (hi i) ((vl i) + (1 * st))))), (8, .int (zHeldC (lo i) (hi i) ((vl i) + (1 * st)))), (7, .int 1), (0, .ref oo), (1, .int st), (4, .int bq), (5, .int vq), (6, .int (nI i))]) hx hb dX5_stepped_80 rfl hl (by decide) rfl (fun ls hl => ?_)
                refine lv_iload hx hb dX5_stepped_81 (lv_at hl 8 rfl) ?_
                refine lv_istore (lv' := [(4, .int (nI i)), (2, .long (zFw kd ln vl n gx gy (nI i) (zHeldC (lo i) (hi i) ((vl i) + (1 * st))))), (9, .long (zFw kd ln vl n gx gy (nI i) (zHeldC (lo i) (hi i) ((vl i) + (1 * st))))), (8, .int (zHeldC (lo i) (hi i) ((vl i) + (1 * st)))), (7, .int 1), (0, .ref oo), (1, .int st), (5, .int vq), (6, .int (nI i))]) hx hb dX5_stepped_83 hl (by decide) rfl (fun ls hl => ?_)
                refine lv_iload hx hb dX5_stepped_85 (lv_at hl 3 rfl) ?_
                refine lv_istore (lv' := [(5, .int (zHeldC (lo i) (hi i) ((vl i) + (1 * st)))), (4, .int (nI i)), (2, .long (zFw kd ln vl n gx gy (nI i) (zHeldC (lo i) (hi i) ((vl i) + (1 * st))))), (9, .long (zFw kd ln vl n gx gy (nI i) (zHeldC (lo i) (hi i) ((vl i) + (1 * st))))), (8, .int (zHeldC (lo i) (hi i) ((vl i) + (1 * st)))), (7, .int 1), (0, .ref oo), (1, .int st), (6, .int (nI i))]) hx hb dX5_stepped_87 hl (by decide) rfl (fun ls hl => ?_)
                exact jn_89_10 (zFw kd ln vl n gx gy (nI i) (zHeldC (lo i) (hi i) ((vl i) + (1 * st)))) (nI i) (zHeldC (lo i) (hi i) ((vl i) + (1 * st))) x4_18 y4_19 h4_20 (if_pos (Int64.not_le.mp c_75)) _ _ hP hD hS _ (lv_sub hl [6, 7, 2, 1, 0, 8, 5] rfl)
          refine lv_aload_n hx hb dX5_stepped_35 rfl (lv_at hl 1 rfl) ?_
          refine va_get (D := D) (ci := 5) (v := .ref a) (C := RX5) (T := TX5) (N := 7) hx hb hts hin5 hown hK hP 0 rfl rfl 0 (by decide) hf10 (fun _ h9 => h9) rfl dX5_stepped_36 ?_
          refine lv_iload hx hb dX5_stepped_39 (lv_at hl 6 rfl) ?_
          refine lv_aload_n hx hb dX5_stepped_41 rfl (lv_at hl 1 rfl) ?_
          refine va_get (D := D) (ci := 5) (v := .ref a) (C := RX5) (T := TX5) (N := 7) hx hb hts hin5 hown hK hP 0 rfl rfl 0 (by decide) hf10 (fun _ h9 => h9) rfl dX5_stepped_42 ?_
          refine va_getN (D := D) (ci := 0) (v := .ref k5) (C := RX0) (T := TX0) (N := 6) hx hb hts hin0 hown hK hP 4 rfl rfl 4 (by decide) (va_Nw.use rfl hf83) (fun _ h9 => h9) rfl dX5_stepped_45 ?_
          refine lv_iload hx hb dX5_stepped_48 (lv_at hl 6 rfl) ?_
          refine z_iald hx hb hK hP 9 rfl (j := i) (by omega) (by decide) dX5_stepped_50 ?_
          refine lv_iload hx hb dX5_stepped_51 (lv_at hl 0 rfl) ?_
          refine lv_iload_n hx hb dX5_stepped_53 rfl (lv_at hl 2 rfl) ?_
          refine lv_imul hx hb dX5_stepped_54 ?_
          refine lv_iadd hx hb dX5_stepped_55 ?_
          refine z_callVN (As := [.int (nI i), .int ((vl i) + ((-1) * st))]) (rest := []) ⟨hx, hb, hml, hown, hts⟩ hG hK hP hD hS (c_X0_held l D cI cJ a k1 k2 k3 k4 k5 n kd ln lo hi vl i ((vl i) + ((-1) * st)) (by first | assumption | omega | decide)) (⟨va_cnB 2 hts gX5_stepped_X0_held_n190 rfl rfl rfl (hG.1.1 ("ArmRoom", 190, yX0_held, "ArmRoom") (List.mem_of_getElem? (i := 17) rfl)) (hts (.initialized RX0) (by decide +kernel)) (by decide +kernel) ⟨Nat.le_of_ble_eq_true rfl, Nat.le_of_ble_eq_true rfl⟩, hts (.instanceMethod yX0_held) (by decide +kernel), hts (.selects RX0 yX0_held yX0_held) (by decide +kernel)⟩) [4, 5, 6, 7, 8, 9] (by decide) rfl (fun _ => rfl) 4 rfl rfl rfl rfl hl.1 rfl (Nat.le_of_ble_eq_true rfl) dX5_stepped_56 ⟨Nat.le_of_ble_eq_true rfl, Nat.le_of_ble_eq_true rfl⟩ (fun u_22 H locs hu_23 hP hD hS => ?_)
          obtain ⟨r_24, rfl⟩ : ∃ z, z = u_22 := ⟨_, rfl⟩
          have hu_23 : (r_24 = zHeldC (lo i) (hi i) ((vl i) + ((-1) * st))) := hu_23
          have e_25 := hu_23
          subst e_25
          have hP : va_P D vwCl [(oo, .inr (5, [.ref a, .ref g, .ref t1, .ref t2, .ref s9, .ref m1, .ref m2])), (g, .inr (1, [.int gx, .int gy, .int sl])), (t1, .inr (4, [.int x3_4, .int y3_5, .int h3_6])), (t2, .inr (4, [.int xp, .int yp, .int hp])), (a, .inr (0, [.ref k1, .ref k2, .ref k3, .ref k4, .ref k5, .int (nI n)])), (k1, .inl (cI, 5, .inl kd)), (k2, .inl (cI, 5, .inl ln)), (k3, .inl (cI, 5, .inl lo)), (k4, .inl (cI, 5, .inl hi)), (k5, .inl (cI, 5, .inl vl))] H := hP
          have hD : va_D A0 [(oo, .inr (5, [.ref a, .ref g, .ref t1, .ref t2, .ref s9, .ref m1, .ref m2])), (g, .inr (1, [.int gx, .int gy, .int sl])), (t1, .inr (4, [.int x3_4, .int y3_5, .int h3_6])), (t2, .inr (4, [.int xp, .int yp, .int hp])), (a, .inr (0, [.ref k1, .ref k2, .ref k3, .ref k4, .ref k5, .int (nI n)])), (k1, .inl (cI, 5, .inl kd)), (k2, .inl (cI, 5, .inl ln)), (k3, .inl (cI, 5, .inl lo)), (k4, .inl (cI, 5, .inl hi)), (k5, .inl (cI, 5, .inl vl))] := hD
          refine lv_istore (lv' := [(8, .int (zHeldC (lo i) (hi i) ((vl i) + ((-1) * st)))), (7, .int (-1)), (0, .ref oo), (1, .int st), (2, .long f), (4, .int b), (5, .int v), (6, .int (nI i))]) hx hb dX5_stepped_59 hl (by decide) rfl (fun ls hl => ?_)
          refine lv_aload_n hx hb dX5_stepped_61 rfl (lv_at hl 2 rfl) ?_
          refine lv_iload hx hb dX5_stepped_62 (lv_at hl 7 rfl) ?_
          refine lv_iload hx hb dX5_stepped_64 (lv_at hl 0 rfl) ?_
          refine z_callV (As := [.int (nI i), .int (zHeldC (lo i) (hi i) ((vl i) + ((-1) * st)))]) (rest := []) ⟨hx, hb, hml, hown, hts⟩ hG hK hP hD hS (c_X5_farWith l D cI cJ oo s9 m1 m2 g gx gy sl t2 xp yp hp t1 a k1 k2 k3 k4 k5 n kd ln lo hi vl (nI i) (zHeldC (lo i) (hi i) ((vl i) + ((-1) * st))) (by first | assumption | omega | decide)) (cwV 2 hts gX5_stepped_X5_farWith rfl rfl rfl (by decide +kernel) ⟨Nat.le_of_ble_eq_true rfl, Nat.le_of_ble_eq_true rfl⟩) [0, 1, 3, 4, 5, 6, 7, 8, 9] (by decide) rfl (fun _ => rfl) 0 rfl rfl rfl rfl hl.1 rfl (Nat.le_of_ble_eq_true rfl) dX5_stepped_66 ⟨Nat.le_of_ble_eq_true rfl, Nat.le_of_ble_eq_true rfl⟩ (fun u_26 H locs hu_27 hP hD hS => ?_)
          obtain ⟨r_28, x4_29, y4_30, h4_31⟩ := u_26
          have hu_27 : (r_28 = zFw kd ln vl n gx gy (nI i) (zHeldC (lo i) (hi i) ((vl i) + ((-1) * st)))) := hu_27
          have e_32 := hu_27
          subst e_32
          have hP : va_P D vwCl [(oo, .inr (5, [.ref a, .ref g, .ref t1, .ref t2, .ref s9, .ref m1, .ref m2])), (g, .inr (1, [.int gx, .int gy, .int sl])), (t1, .inr (4, [.int x3_4, .int y3_5, .int h3_6])), (t2, .inr (4, [.int x4_29, .int y4_30, .int h4_31])), (a, .inr (0, [.ref k1, .ref k2, .ref k3, .ref k4, .ref k5, .int (nI n)])), (k1, .inl (cI, 5, .inl kd)), (k2, .inl (cI, 5, .inl ln)), (k3, .inl (cI, 5, .inl lo)), (k4, .inl (cI, 5, .inl hi)), (k5, .inl (cI, 5, .inl vl))] H := hP
          have hD : va_D A0 [(oo, .inr (5, [.ref a, .ref g, .ref t1, .ref t2, .ref s9, .ref m1, .ref m2])), (g, .inr (1, [.int gx, .int gy, .int sl])), (t1, .inr (4, [.int x3_4, .int y3_5, .int h3_6])), (t2, .inr (4, [.int x4_29, .int y4_30, .int h4_31])), (a, .inr (0, [.ref k1, .ref k2, .ref k3, .ref k4, .ref k5, .int (nI n)])), (k1, .inl (cI, 5, .inl kd)), (k2, .inl (cI, 5, .inl ln)), (k3, .inl (cI, 5, .inl lo)), (k4, .inl (cI, 5, .inl hi)), (k5, .inl (cI, 5, .inl vl))] := hD
          refine lv_lstore (lv' := [(9, .long (zFw kd ln vl n gx gy (nI i) (zHeldC (lo i) (hi i) ((vl i) + ((-1) * st))))), (8, .int (zHeldC (lo i) (hi i) ((vl i) + ((-1) * st)))), (7, .int (-1)), (0, .ref oo), (1, .int st), (2, .long f), (4, .int b), (5, .int v), (6, .int (nI i))]) hx hb dX5_stepped_69 hl (by decide) rfl (fun ls hl => ?_)
          refine lv_lload hx hb dX5_stepped_71 (lv_at hl 0 rfl) ?_
          refine lv_lload_n hx hb dX5_stepped_73 rfl (lv_at hl 5 rfl) ?_
          refine W.lcmp hx hb dX5_stepped_74 ?_
          refine lv_if_ge (tgt := 89) hx hb dX5_stepped_75 (by decide) (fun c_75 => ?_) (fun c_75 => ?_)
          · rw [lg_cmp_ge] at c_75
            exact jn_89_9 f b v x4_29 y4_30 h4_31 (if_neg (Int64.not_lt.mpr c_75)) _ _ hP hD hS _ (lv_sub hl [3, 4, 5, 6, 7, 8, 2] rfl)
          · rw [lg_cmp_ge] at c_75
            refine lv_lload hx hb dX5_stepped_78 (lv_at hl 0 rfl) ?_
            refine lv_lstore_n (lv' := [(2, .long (zFw kd ln vl n gx gy (nI i) (zHeldC (lo i) (hi i) ((vl i) + ((-1) * st))))), (9, .long (zFw kd ln vl n gx gy (nI i) (zHeldC (lo i) (hi i) ((vl i) + ((-1) * st))))), (8, .int (zHeldC (lo i) (hi i) ((vl i) + ((-1) * st)))), (7, .int (-1)), (0, .ref oo), (1, .int st), (4, .int b), (5, .int v), (6, .int (nI i))]) hx hb dX5_stepped_80 rfl hl (by decide) rfl (fun ls hl => ?_)
            refine lv_iload hx hb dX5_stepped_81 (lv_at hl 8 rfl) ?_
            refine lv_istore (lv' := [(4, .int (nI i)), (2, .long (zFw kd ln vl n gx gy (nI i) (zHeldC (lo i) (hi i) ((vl i) + ((-1) * st))))), (9, .long (zFw kd ln vl n gx gy (nI i) (zHeldC (lo i) (hi i) ((vl i) + ((-1) * st))))), (8, .int (zHeldC (lo i) (hi i) ((vl i) + ((-1) * st)))), (7, .int (-1)), (0, .ref oo), (1, .int st), (5, .int v), (6, .int (nI i))]) hx hb dX5_stepped_83 hl (by decide) rfl (fun ls hl => ?_)
            refine lv_iload hx hb dX5_stepped_85 (lv_at hl 3 rfl) ?_
            refine lv_istore (lv' := [(5, .int (zHeldC (lo i) (hi i) ((vl i) + ((-1) * st)))), (4, .int (nI i)), (2, .long (zFw kd ln vl n gx gy (nI i) (zHeldC (lo i) (hi i) ((vl i) + ((-1) * st))))), (9, .long (zFw kd ln vl n gx gy (nI i) (zHeldC (lo i) (hi i) ((vl i) + ((-1) * st))))), (8, .int (zHeldC (lo i) (hi i) ((vl i) + ((-1) * st)))), (7, .int (-1)), (0, .ref oo), (1, .int st), (6, .int (nI i))]) hx hb dX5_stepped_87 hl (by decide) rfl (fun ls hl => ?_)
            exact jn_89_9 (zFw kd ln vl n gx gy (nI i) (zHeldC (lo i) (hi i) ((vl i) + ((-1) * st)))) (nI i) (zHeldC (lo i) (hi i) ((vl i) + ((-1) * st))) x4_29 y4_30 h4_31 (if_pos (Int64.not_le.mp c_75)) _ _ hP hD hS _ (lv_sub hl [6, 7, 2, 1, 0, 8, 5] rfl)
  exact lp_14_8 ((n - 0) + 1) 0 (zFn kd ln vl n gx gy) (-1) 0 x2 y2 h2 (by first | assumption | omega | rfl | simp_all) (rfl) (Nat.lt_succ_self _) _ _ hP hD hS _ (lv_sub hl [4, 5, 3, 2, 1, 0] rfl)

set_option maxHeartbeats 4000000 in
set_option maxRecDepth 100000 in
theorem c_X5_hindrance (l : Launch) (D : va_G) (cI cJ : ClassId) (oo : Nat) (s9 : Nat) (m1 : Nat) (m2 : Nat) (g : Nat) (gx : Int32) (gy : Int32) (sl : Int32) (t1 : Nat) (x1 : Int32) (y1 : Int32) (h1 : Int32) (t2 : Nat) (x2 : Int32) (y2 : Int32) (h2 : Int32) (a : Nat) (k1 : Nat) (k2 : Nat) (k3 : Nat) (k4 : Nat) (k5 : Nat) (n : Nat) (kd : Nat → Int32) (ln : Nat → Int32) (lo : Nat → Int32) (hi : Nat → Int32) (vl : Nat → Int32) (hn : n ≤ 5) : zM l yX5_hindrance wsX5_hindrance 6 D cI cJ [.ref oo] [(oo, .inr (5, [.ref a, .ref g, .ref t1, .ref t2, .ref s9, .ref m1, .ref m2])), (g, .inr (1, [.int gx, .int gy, .int sl])), (t1, .inr (4, [.int x1, .int y1, .int h1])), (t2, .inr (4, [.int x2, .int y2, .int h2])), (a, .inr (0, [.ref k1, .ref k2, .ref k3, .ref k4, .ref k5, .int (nI n)])), (k1, .inl (cI, 5, .inl kd)), (k2, .inl (cI, 5, .inl ln)), (k3, .inl (cI, 5, .inl lo)), (k4, .inl (cI, 5, .inl hi)), (k5, .inl (cI, 5, .inl vl))] (fun (u : Int32 × Int32 × Int32 × Int32 × Int32 × Int32 × Int32) => (u.1 = zHin kd ln lo hi vl n gx gy n 0)) (fun (u : Int32 × Int32 × Int32 × Int32 × Int32 × Int32 × Int32) => some (.int u.1)) (fun (u : Int32 × Int32 × Int32 × Int32 × Int32 × Int32 × Int32) => [(oo, .inr (5, [.ref a, .ref g, .ref t1, .ref t2, .ref s9, .ref m1, .ref m2])), (g, .inr (1, [.int gx, .int gy, .int sl])), (t1, .inr (4, [.int u.2.1, .int u.2.2.1, .int u.2.2.2.1])), (t2, .inr (4, [.int u.2.2.2.2.1, .int u.2.2.2.2.2.1, .int u.2.2.2.2.2.2])), (a, .inr (0, [.ref k1, .ref k2, .ref k3, .ref k4, .ref k5, .int (nI n)])), (k1, .inl (cI, 5, .inl kd)), (k2, .inl (cI, 5, .inl ln)), (k3, .inl (cI, 5, .inl lo)), (k4, .inl (cI, 5, .inl hi)), (k5, .inl (cI, 5, .inl vl))]) := by
  refine zM_i (cc := cX5_hindrance) (maxL := 5) (r := fun (u : Int32 × Int32 × Int32 × Int32 × Int32 × Int32 × Int32) => u.1) (by decide) rfl (Nat.le_of_ble_eq_true rfl) ?_
  intro p e s m args below meth c ls A0 Q C hl hP hS hRet
  obtain ⟨⟨hx, hb, hml, hown, hts⟩, hG, hK, hD, hlocks⟩ := C
  have hin0 : ∀ w ∈ u_ws RX0 TX0 6, w ∈ wsX5_hindrance := by decide +kernel
  have hin5 : ∀ w ∈ u_ws RX5 TX5 7, w ∈ wsX5_hindrance := by decide +kernel
  have hf10 := hts (.fieldLink RX5 10 "ArmRoom" "arm" "LArmRoom$Arm;") (by decide +kernel)
  have hf108 := hG.1.2.1 ("ArmRoom", 108, "ArmRoom$Arm", "count", "I", "ArmRoom") (List.mem_of_getElem? (i := 9) rfl)
  have hf83 := hG.1.2.1 ("ArmRoom", 83, "ArmRoom$Arm", "values", "[I", "ArmRoom") (List.mem_of_getElem? (i := 4) rfl)
  have hf78 := hG.1.2.1 ("ArmRoom", 78, "ArmRoom$Arm", "highs", "[I", "ArmRoom") (List.mem_of_getElem? (i := 2) rfl)
  have hf75 := hG.1.2.1 ("ArmRoom", 75, "ArmRoom$Arm", "lows", "[I", "ArmRoom") (List.mem_of_getElem? (i := 0) rfl)
  have hl : lv_has ls 5 [(0, .ref oo)] := hl
  refine lv_aload_n hx hb dX5_hindrance_0 rfl (lv_at hl 0 rfl) ?_
  refine z_callV (As := []) (rest := []) ⟨hx, hb, hml, hown, hts⟩ hG hK hP hD hS (c_X5_farNow l D cI cJ oo s9 m1 m2 g gx gy sl t1 x1 y1 h1 t2 a k1 k2 k3 k4 k5 n kd ln lo hi vl (by first | assumption | omega | decide)) (cwV 0 hts gX5_hindrance_X5_farNow rfl rfl rfl (by decide +kernel) ⟨Nat.le_of_ble_eq_true rfl, Nat.le_of_ble_eq_true rfl⟩) [0, 1, 2, 4, 5, 6, 7, 8, 9] (by decide) rfl (fun _ => rfl) 0 rfl rfl rfl rfl hl.1 rfl (Nat.le_of_ble_eq_true rfl) dX5_hindrance_1 ⟨Nat.le_of_ble_eq_true rfl, Nat.le_of_ble_eq_true rfl⟩ (fun u_1 H locs hu_2 hP hD hS => ?_)
  obtain ⟨r_3, x3_4, y3_5, h3_6⟩ := u_1
  have hu_2 : (r_3 = zFn kd ln vl n gx gy) := hu_2
  have e_7 := hu_2
  subst e_7
  have hP : va_P D vwCl [(oo, .inr (5, [.ref a, .ref g, .ref t1, .ref t2, .ref s9, .ref m1, .ref m2])), (g, .inr (1, [.int gx, .int gy, .int sl])), (t1, .inr (4, [.int x3_4, .int y3_5, .int h3_6])), (t2, .inr (4, [.int x2, .int y2, .int h2])), (a, .inr (0, [.ref k1, .ref k2, .ref k3, .ref k4, .ref k5, .int (nI n)])), (k1, .inl (cI, 5, .inl kd)), (k2, .inl (cI, 5, .inl ln)), (k3, .inl (cI, 5, .inl lo)), (k4, .inl (cI, 5, .inl hi)), (k5, .inl (cI, 5, .inl vl))] H := hP
  have hD : va_D A0 [(oo, .inr (5, [.ref a, .ref g, .ref t1, .ref t2, .ref s9, .ref m1, .ref m2])), (g, .inr (1, [.int gx, .int gy, .int sl])), (t1, .inr (4, [.int x3_4, .int y3_5, .int h3_6])), (t2, .inr (4, [.int x2, .int y2, .int h2])), (a, .inr (0, [.ref k1, .ref k2, .ref k3, .ref k4, .ref k5, .int (nI n)])), (k1, .inl (cI, 5, .inl kd)), (k2, .inl (cI, 5, .inl ln)), (k3, .inl (cI, 5, .inl lo)), (k4, .inl (cI, 5, .inl hi)), (k5, .inl (cI, 5, .inl vl))] := hD
  refine lv_lstore_n (lv' := [(1, .long (zFn kd ln vl n gx gy)), (0, .ref oo)]) hx hb dX5_hindrance_4 rfl hl (by decide) rfl (fun ls hl => ?_)
  refine lv_iconst (v := 0) hx hb dX5_hindrance_5 (by decide) ?_
  refine lv_istore_n (lv' := [(3, .int 0), (1, .long (zFn kd ln vl n gx gy)), (0, .ref oo)]) hx hb dX5_hindrance_6 rfl hl (by decide) rfl (fun ls hl => ?_)
  have lp_7_8 : ∀ (fu : Nat) (i : Nat) (xp : Int32) (yp : Int32) (hp : Int32), (i ≤ n) → (zHin kd ln lo hi vl n gx gy (n - i) i = zHin kd ln lo hi vl n gx gy n 0) → (n - i < fu) → ∀ (H : Heap) (locs : List Loc), va_P D vwCl [(oo, .inr (5, [.ref a, .ref g, .ref t1, .ref t2, .ref s9, .ref m1, .ref m2])), (g, .inr (1, [.int gx, .int gy, .int sl])), (t1, .inr (4, [.int x3_4, .int y3_5, .int h3_6])), (t2, .inr (4, [.int xp, .int yp, .int hp])), (a, .inr (0, [.ref k1, .ref k2, .ref k3, .ref k4, .ref k5, .int (nI n)])), (k1, .inl (cI, 5, .inl kd)), (k2, .inl (cI, 5, .inl ln)), (k3, .inl (cI, 5, .inl lo)), (k4, .inl (cI, 5, .inl hi)), (k5, .inl (cI, 5, .inl vl))] H → va_D A0 [(oo, .inr (5, [.ref a, .ref g, .ref t1, .ref t2, .ref s9, .ref m1, .ref m2])), (g, .inr (1, [.int gx, .int gy, .int sl])), (t1, .inr (4, [.int x3_4, .int y3_5, .int h3_6])), (t2, .inr (4, [.int xp, .int yp, .int hp])), (a, .inr (0, [.ref k1, .ref k2, .ref k3, .ref k4, .ref k5, .int (nI n)])), (k1, .inl (cI, 5, .inl kd)), (k2, .inl (cI, 5, .inl ln)), (k3, .inl (cI, 5, .inl lo)), (k4, .inl (cI, 5, .inl hi)), (k5, .inl (cI, 5, .inl vl))] → va_S A0 s.heap H locs → ∀ (ls : Array Slot), lv_has ls 5 [(0, .ref oo), (1, .long (zFn kd ln vl n gx gy)), (3, .int (nI i))] → W p l e (zRm 6 0 0) s m args below meth c H locs 0 0 Q (F0 m 7 ls []) := by
    intro fu
    induction fu with
    | zero => intro i xp yp hp hi1 hz hfu; exact absurd hfu (Nat.not_lt_zero _)
    | succ fu ih_7_8 =>
      intro i xp yp hp hi1 hz hfu H locs hP hD hS ls hl
      refine lv_iload_n hx hb dX5_hindrance_7 rfl (lv_at hl 2 rfl) ?_
      refine lv_aload_n hx hb dX5_hindrance_8 rfl (lv_at hl 0 rfl) ?_
      refine va_get (D := D) (ci := 5) (v := .ref a) (C := RX5) (T := TX5) (N := 7) hx hb hts hin5 hown hK hP 0 rfl rfl 0 (by decide) hf10 (fun _ h9 => h9) rfl dX5_hindrance_9 ?_
      refine va_getN (D := D) (ci := 0) (v := .int (nI n)) (C := RX0) (T := TX0) (N := 6) hx hb hts hin0 hown hK hP 4 rfl rfl 5 (by decide) (va_Nw.use rfl hf108) (fun _ h9 => h9) rfl dX5_hindrance_12 ?_
      refine lv_icmp_ge (tgt := 95) hx hb dX5_hindrance_15 (by decide) (fun c_15 => ?_) (fun c_15 => ?_)
      · rw [nI_leI (by omega) (by omega)] at c_15
        obtain rfl : n = i := by omega
        rw [Nat.sub_self] at hz
        refine lv_iconst (v := (-1)) hx hb dX5_hindrance_95 (by decide) ?_
        exact hRet _ ((-1), x3_4, y3_5, h3_6, xp, yp, hp) _ _ _ (by rw [← hz]; rfl) hP hS dX5_hindrance_96
      · rw [nI_leI (by omega) (by omega)] at c_15
        refine lv_aload_n hx hb dX5_hindrance_18 rfl (lv_at hl 0 rfl) ?_
        refine va_get (D := D) (ci := 5) (v := .ref a) (C := RX5) (T := TX5) (N := 7) hx hb hts hin5 hown hK hP 0 rfl rfl 0 (by decide) hf10 (fun _ h9 => h9) rfl dX5_hindrance_19 ?_
        refine va_getN (D := D) (ci := 0) (v := .ref k5) (C := RX0) (T := TX0) (N := 6) hx hb hts hin0 hown hK hP 4 rfl rfl 4 (by decide) (va_Nw.use rfl hf83) (fun _ h9 => h9) rfl dX5_hindrance_22 ?_
        refine lv_iload_n hx hb dX5_hindrance_25 rfl (lv_at hl 2 rfl) ?_
        refine z_iald hx hb hK hP 9 rfl (j := i) (by omega) (by decide) dX5_hindrance_26 ?_
        refine lv_istore (lv' := [(4, .int (vl i)), (0, .ref oo), (1, .long (zFn kd ln vl n gx gy)), (3, .int (nI i))]) hx hb dX5_hindrance_27 hl (by decide) rfl (fun ls hl => ?_)
        refine lv_iload hx hb dX5_hindrance_29 (lv_at hl 0 rfl) ?_
        refine lv_aload_n hx hb dX5_hindrance_31 rfl (lv_at hl 1 rfl) ?_
        refine va_get (D := D) (ci := 5) (v := .ref a) (C := RX5) (T := TX5) (N := 7) hx hb hts hin5 hown hK hP 0 rfl rfl 0 (by decide) hf10 (fun _ h9 => h9) rfl dX5_hindrance_32 ?_
        refine va_getN (D := D) (ci := 0) (v := .ref k4) (C := RX0) (T := TX0) (N := 6) hx hb hts hin0 hown hK hP 4 rfl rfl 3 (by decide) (va_Nw.use rfl hf78) (fun _ h9 => h9) rfl dX5_hindrance_35 ?_
        refine lv_iload_n hx hb dX5_hindrance_38 rfl (lv_at hl 3 rfl) ?_
        refine z_iald hx hb hK hP 8 rfl (j := i) (by omega) (by decide) dX5_hindrance_39 ?_
        refine lv_icmp_ne (tgt := 59) hx hb dX5_hindrance_40 (by decide) (fun c_40 => ?_) (fun c_40 => ?_)
        · refine lv_iload hx hb dX5_hindrance_59 (lv_at hl 0 rfl) ?_
          refine lv_aload_n hx hb dX5_hindrance_61 rfl (lv_at hl 1 rfl) ?_
          refine va_get (D := D) (ci := 5) (v := .ref a) (C := RX5) (T := TX5) (N := 7) hx hb hts hin5 hown hK hP 0 rfl rfl 0 (by decide) hf10 (fun _ h9 => h9) rfl dX5_hindrance_62 ?_
          refine va_getN (D := D) (ci := 0) (v := .ref k3) (C := RX0) (T := TX0) (N := 6) hx hb hts hin0 hown hK hP 4 rfl rfl 2 (by decide) (va_Nw.use rfl hf75) (fun _ h9 => h9) rfl dX5_hindrance_65 ?_
          refine lv_iload_n hx hb dX5_hindrance_68 rfl (lv_at hl 3 rfl) ?_
          refine z_iald hx hb hK hP 7 rfl (j := i) (by omega) (by decide) dX5_hindrance_69 ?_
          refine lv_icmp_ne (tgt := 89) hx hb dX5_hindrance_70 (by decide) (fun c_70 => ?_) (fun c_70 => ?_)
          · refine lv_iinc (v := nI (i + 1)) (lv' := [(3, .int (nI (i + 1))), (4, .int (vl i)), (0, .ref oo), (1, .long (zFn kd ln vl n gx gy))]) hx hb dX5_hindrance_89 hl (k := 3) rfl ((nI_succ _).symm) (by decide) rfl (fun ls hl => ?_)
            refine lv_goto (tgt := 7) hx hb dX5_hindrance_92 (by decide) ?_
            exact ih_7_8 (i + 1) xp yp hp (by first | assumption | omega | rfl | simp_all) (by rw [← hz]; exact (zHin_f (by omega) (by rintro (⟨q1, q2⟩ | ⟨q1, q2⟩) <;> first | exact c_40 q1 | exact absurd q2 (Int64.not_lt.mpr c_54) | exact c_70 q1 | exact absurd q2 (Int64.not_lt.mpr c_84))).symm) (by omega) _ _ hP hD hS _ (lv_sub hl [2, 3, 0] rfl)
          · refine lv_aload_n hx hb dX5_hindrance_73 rfl (lv_at hl 1 rfl) ?_
            refine lv_iload_n hx hb dX5_hindrance_74 rfl (lv_at hl 3 rfl) ?_
            refine lv_iload hx hb dX5_hindrance_75 (lv_at hl 0 rfl) ?_
            refine lv_iconst (v := 1) hx hb dX5_hindrance_77 (by decide) ?_
            refine lv_isub hx hb dX5_hindrance_78 ?_
            refine z_callV (As := [.int (nI i), .int ((vl i) - 1)]) (rest := []) ⟨hx, hb, hml, hown, hts⟩ hG hK hP hD hS (c_X5_farWith l D cI cJ oo s9 m1 m2 g gx gy sl t2 xp yp hp t1 a k1 k2 k3 k4 k5 n kd ln lo hi vl (nI i) ((vl i) - 1) (by first | assumption | omega | decide)) (cwV 2 hts gX5_hindrance_X5_farWith rfl rfl rfl (by decide +kernel) ⟨Nat.le_of_ble_eq_true rfl, Nat.le_of_ble_eq_true rfl⟩) [0, 1, 3, 4, 5, 6, 7, 8, 9] (by decide) rfl (fun _ => rfl) 0 rfl rfl rfl rfl hl.1 rfl (Nat.le_of_ble_eq_true rfl) dX5_hindrance_79 ⟨Nat.le_of_ble_eq_true rfl, Nat.le_of_ble_eq_true rfl⟩ (fun u_9 H locs hu_10 hP hD hS => ?_)
            obtain ⟨r_11, x4_12, y4_13, h4_14⟩ := u_9
            have hu_10 : (r_11 = zFw kd ln vl n gx gy (nI i) ((vl i) - 1)) := hu_10
            have e_15 := hu_10
            subst e_15
            have hP : va_P D vwCl [(oo, .inr (5, [.ref a, .ref g, .ref t1, .ref t2, .ref s9, .ref m1, .ref m2])), (g, .inr (1, [.int gx, .int gy, .int sl])), (t1, .inr (4, [.int x3_4, .int y3_5, .int h3_6])), (t2, .inr (4, [.int x4_12, .int y4_13, .int h4_14])), (a, .inr (0, [.ref k1, .ref k2, .ref k3, .ref k4, .ref k5, .int (nI n)])), (k1, .inl (cI, 5, .inl kd)), (k2, .inl (cI, 5, .inl ln)), (k3, .inl (cI, 5, .inl lo)), (k4, .inl (cI, 5, .inl hi)), (k5, .inl (cI, 5, .inl vl))] H := hP
            have hD : va_D A0 [(oo, .inr (5, [.ref a, .ref g, .ref t1, .ref t2, .ref s9, .ref m1, .ref m2])), (g, .inr (1, [.int gx, .int gy, .int sl])), (t1, .inr (4, [.int x3_4, .int y3_5, .int h3_6])), (t2, .inr (4, [.int x4_12, .int y4_13, .int h4_14])), (a, .inr (0, [.ref k1, .ref k2, .ref k3, .ref k4, .ref k5, .int (nI n)])), (k1, .inl (cI, 5, .inl kd)), (k2, .inl (cI, 5, .inl ln)), (k3, .inl (cI, 5, .inl lo)), (k4, .inl (cI, 5, .inl hi)), (k5, .inl (cI, 5, .inl vl))] := hD
            refine lv_lload_n hx hb dX5_hindrance_82 rfl (lv_at hl 2 rfl) ?_
            refine W.lcmp hx hb dX5_hindrance_83 ?_
            refine lv_if_ge (tgt := 89) hx hb dX5_hindrance_84 (by decide) (fun c_84 => ?_) (fun c_84 => ?_)
            · rw [lg_cmp_ge] at c_84
              refine lv_iinc (v := nI (i + 1)) (lv' := [(3, .int (nI (i + 1))), (4, .int (vl i)), (0, .ref oo), (1, .long (zFn kd ln vl n gx gy))]) hx hb dX5_hindrance_89 hl (k := 3) rfl ((nI_succ _).symm) (by decide) rfl (fun ls hl => ?_)
              refine lv_goto (tgt := 7) hx hb dX5_hindrance_92 (by decide) ?_
              exact ih_7_8 (i + 1) x4_12 y4_13 h4_14 (by first | assumption | omega | rfl | simp_all) (by rw [← hz]; exact (zHin_f (by omega) (by rintro (⟨q1, q2⟩ | ⟨q1, q2⟩) <;> first | exact c_40 q1 | exact absurd q2 (Int64.not_lt.mpr c_54) | exact c_70 q1 | exact absurd q2 (Int64.not_lt.mpr c_84))).symm) (by omega) _ _ hP hD hS _ (lv_sub hl [2, 3, 0] rfl)
            · rw [lg_cmp_ge] at c_84
              refine lv_iload_n hx hb dX5_hindrance_87 rfl (lv_at hl 3 rfl) ?_
              exact hRet _ (nI i, x3_4, y3_5, h3_6, x4_12, y4_13, h4_14) _ _ _ (by rw [← hz]; exact (zHin_t (by omega) (Or.inr ⟨c_70, Int64.not_le.mp c_84⟩)).symm) hP hS dX5_hindrance_88
        · refine lv_aload_n hx hb dX5_hindrance_43 rfl (lv_at hl 1 rfl) ?_
          refine lv_iload_n hx hb dX5_hindrance_44 rfl (lv_at hl 3 rfl) ?_
          refine lv_iload hx hb dX5_hindrance_45 (lv_at hl 0 rfl) ?_
          refine lv_iconst (v := 1) hx hb dX5_hindrance_47 (by decide) ?_
          refine lv_iadd hx hb dX5_hindrance_48 ?_
          refine z_callV (As := [.int (nI i), .int ((vl i) + 1)]) (rest := []) ⟨hx, hb, hml, hown, hts⟩ hG hK hP hD hS (c_X5_farWith l D cI cJ oo s9 m1 m2 g gx gy sl t2 xp yp hp t1 a k1 k2 k3 k4 k5 n kd ln lo hi vl (nI i) ((vl i) + 1) (by first | assumption | omega | decide)) (cwV 2 hts gX5_hindrance_X5_farWith rfl rfl rfl (by decide +kernel) ⟨Nat.le_of_ble_eq_true rfl, Nat.le_of_ble_eq_true rfl⟩) [0, 1, 3, 4, 5, 6, 7, 8, 9] (by decide) rfl (fun _ => rfl) 0 rfl rfl rfl rfl hl.1 rfl (Nat.le_of_ble_eq_true rfl) dX5_hindrance_49 ⟨Nat.le_of_ble_eq_true rfl, Nat.le_of_ble_eq_true rfl⟩ (fun u_16 H locs hu_17 hP hD hS => ?_)
          obtain ⟨r_18, x4_19, y4_20, h4_21⟩ := u_16
          have hu_17 : (r_18 = zFw kd ln vl n gx gy (nI i) ((vl i) + 1)) := hu_17
          have e_22 := hu_17
          subst e_22
          have hP : va_P D vwCl [(oo, .inr (5, [.ref a, .ref g, .ref t1, .ref t2, .ref s9, .ref m1, .ref m2])), (g, .inr (1, [.int gx, .int gy, .int sl])), (t1, .inr (4, [.int x3_4, .int y3_5, .int h3_6])), (t2, .inr (4, [.int x4_19, .int y4_20, .int h4_21])), (a, .inr (0, [.ref k1, .ref k2, .ref k3, .ref k4, .ref k5, .int (nI n)])), (k1, .inl (cI, 5, .inl kd)), (k2, .inl (cI, 5, .inl ln)), (k3, .inl (cI, 5, .inl lo)), (k4, .inl (cI, 5, .inl hi)), (k5, .inl (cI, 5, .inl vl))] H := hP
          have hD : va_D A0 [(oo, .inr (5, [.ref a, .ref g, .ref t1, .ref t2, .ref s9, .ref m1, .ref m2])), (g, .inr (1, [.int gx, .int gy, .int sl])), (t1, .inr (4, [.int x3_4, .int y3_5, .int h3_6])), (t2, .inr (4, [.int x4_19, .int y4_20, .int h4_21])), (a, .inr (0, [.ref k1, .ref k2, .ref k3, .ref k4, .ref k5, .int (nI n)])), (k1, .inl (cI, 5, .inl kd)), (k2, .inl (cI, 5, .inl ln)), (k3, .inl (cI, 5, .inl lo)), (k4, .inl (cI, 5, .inl hi)), (k5, .inl (cI, 5, .inl vl))] := hD
          refine lv_lload_n hx hb dX5_hindrance_52 rfl (lv_at hl 2 rfl) ?_
          refine W.lcmp hx hb dX5_hindrance_53 ?_
          refine lv_if_ge (tgt := 59) hx hb dX5_hindrance_54 (by decide) (fun c_54 => ?_) (fun c_54 => ?_)
          · rw [lg_cmp_ge] at c_54
            refine lv_iload hx hb dX5_hindrance_59 (lv_at hl 0 rfl) ?_
            refine lv_aload_n hx hb dX5_hindrance_61 rfl (lv_at hl 1 rfl) ?_
            refine va_get (D := D) (ci := 5) (v := .ref a) (C := RX5) (T := TX5) (N := 7) hx hb hts hin5 hown hK hP 0 rfl rfl 0 (by decide) hf10 (fun _ h9 => h9) rfl dX5_hindrance_62 ?_
            refine va_getN (D := D) (ci := 0) (v := .ref k3) (C := RX0) (T := TX0) (N := 6) hx hb hts hin0 hown hK hP 4 rfl rfl 2 (by decide) (va_Nw.use rfl hf75) (fun _ h9 => h9) rfl dX5_hindrance_65 ?_
            refine lv_iload_n hx hb dX5_hindrance_68 rfl (lv_at hl 3 rfl) ?_
            refine z_iald hx hb hK hP 7 rfl (j := i) (by omega) (by decide) dX5_hindrance_69 ?_
            refine lv_icmp_ne (tgt := 89) hx hb dX5_hindrance_70 (by decide) (fun c_70 => ?_) (fun c_70 => ?_)
            · refine lv_iinc (v := nI (i + 1)) (lv' := [(3, .int (nI (i + 1))), (4, .int (vl i)), (0, .ref oo), (1, .long (zFn kd ln vl n gx gy))]) hx hb dX5_hindrance_89 hl (k := 3) rfl ((nI_succ _).symm) (by decide) rfl (fun ls hl => ?_)
              refine lv_goto (tgt := 7) hx hb dX5_hindrance_92 (by decide) ?_
              exact ih_7_8 (i + 1) x4_19 y4_20 h4_21 (by first | assumption | omega | rfl | simp_all) (by rw [← hz]; exact (zHin_f (by omega) (by rintro (⟨q1, q2⟩ | ⟨q1, q2⟩) <;> first | exact c_40 q1 | exact absurd q2 (Int64.not_lt.mpr c_54) | exact c_70 q1 | exact absurd q2 (Int64.not_lt.mpr c_84))).symm) (by omega) _ _ hP hD hS _ (lv_sub hl [2, 3, 0] rfl)
            · refine lv_aload_n hx hb dX5_hindrance_73 rfl (lv_at hl 1 rfl) ?_
              refine lv_iload_n hx hb dX5_hindrance_74 rfl (lv_at hl 3 rfl) ?_
              refine lv_iload hx hb dX5_hindrance_75 (lv_at hl 0 rfl) ?_
              refine lv_iconst (v := 1) hx hb dX5_hindrance_77 (by decide) ?_
              refine lv_isub hx hb dX5_hindrance_78 ?_
              refine z_callV (As := [.int (nI i), .int ((vl i) - 1)]) (rest := []) ⟨hx, hb, hml, hown, hts⟩ hG hK hP hD hS (c_X5_farWith l D cI cJ oo s9 m1 m2 g gx gy sl t2 x4_19 y4_20 h4_21 t1 a k1 k2 k3 k4 k5 n kd ln lo hi vl (nI i) ((vl i) - 1) (by first | assumption | omega | decide)) (cwV 2 hts gX5_hindrance_X5_farWith rfl rfl rfl (by decide +kernel) ⟨Nat.le_of_ble_eq_true rfl, Nat.le_of_ble_eq_true rfl⟩) [0, 1, 3, 4, 5, 6, 7, 8, 9] (by decide) rfl (fun _ => rfl) 0 rfl rfl rfl rfl hl.1 rfl (Nat.le_of_ble_eq_true rfl) dX5_hindrance_79 ⟨Nat.le_of_ble_eq_true rfl, Nat.le_of_ble_eq_true rfl⟩ (fun u_23 H locs hu_24 hP hD hS => ?_)
              obtain ⟨r_25, x4_26, y4_27, h4_28⟩ := u_23
              have hu_24 : (r_25 = zFw kd ln vl n gx gy (nI i) ((vl i) - 1)) := hu_24
              have e_29 := hu_24
              subst e_29
              have hP : va_P D vwCl [(oo, .inr (5, [.ref a, .ref g, .ref t1, .ref t2, .ref s9, .ref m1, .ref m2])), (g, .inr (1, [.int gx, .int gy, .int sl])), (t1, .inr (4, [.int x3_4, .int y3_5, .int h3_6])), (t2, .inr (4, [.int x4_26, .int y4_27, .int h4_28])), (a, .inr (0, [.ref k1, .ref k2, .ref k3, .ref k4, .ref k5, .int (nI n)])), (k1, .inl (cI, 5, .inl kd)), (k2, .inl (cI, 5, .inl ln)), (k3, .inl (cI, 5, .inl lo)), (k4, .inl (cI, 5, .inl hi)), (k5, .inl (cI, 5, .inl vl))] H := hP
              have hD : va_D A0 [(oo, .inr (5, [.ref a, .ref g, .ref t1, .ref t2, .ref s9, .ref m1, .ref m2])), (g, .inr (1, [.int gx, .int gy, .int sl])), (t1, .inr (4, [.int x3_4, .int y3_5, .int h3_6])), (t2, .inr (4, [.int x4_26, .int y4_27, .int h4_28])), (a, .inr (0, [.ref k1, .ref k2, .ref k3, .ref k4, .ref k5, .int (nI n)])), (k1, .inl (cI, 5, .inl kd)), (k2, .inl (cI, 5, .inl ln)), (k3, .inl (cI, 5, .inl lo)), (k4, .inl (cI, 5, .inl hi)), (k5, .inl (cI, 5, .inl vl))] := hD
              refine lv_lload_n hx hb dX5_hindrance_82 rfl (lv_at hl 2 rfl) ?_
              refine W.lcmp hx hb dX5_hindrance_83 ?_
              refine lv_if_ge (tgt := 89) hx hb dX5_hindrance_84 (by decide) (fun c_84 => ?_) (fun c_84 => ?_)
              · rw [lg_cmp_ge] at c_84
                refine lv_iinc (v := nI (i + 1)) (lv' := [(3, .int (nI (i + 1))), (4, .int (vl i)), (0, .ref oo), (1, .long (zFn kd ln vl n gx gy))]) hx hb dX5_hindrance_89 hl (k := 3) rfl ((nI_succ _).symm) (by decide) rfl (fun ls hl => ?_)
                refine lv_goto (tgt := 7) hx hb dX5_hindrance_92 (by decide) ?_
                exact ih_7_8 (i + 1) x4_26 y4_27 h4_28 (by first | assumption | omega | rfl | simp_all) (by rw [← hz]; exact (zHin_f (by omega) (by rintro (⟨q1, q2⟩ | ⟨q1, q2⟩) <;> first | exact c_40 q1 | exact absurd q2 (Int64.not_lt.mpr c_54) | exact c_70 q1 | exact absurd q2 (Int64.not_lt.mpr c_84))).symm) (by omega) _ _ hP hD hS _ (lv_sub hl [2, 3, 0] rfl)
              · rw [lg_cmp_ge] at c_84
                refine lv_iload_n hx hb dX5_hindrance_87 rfl (lv_at hl 3 rfl) ?_
                exact hRet _ (nI i, x3_4, y3_5, h3_6, x4_26, y4_27, h4_28) _ _ _ (by rw [← hz]; exact (zHin_t (by omega) (Or.inr ⟨c_70, Int64.not_le.mp c_84⟩)).symm) hP hS dX5_hindrance_88
          · rw [lg_cmp_ge] at c_54
            refine lv_iload_n hx hb dX5_hindrance_57 rfl (lv_at hl 3 rfl) ?_
            exact hRet _ (nI i, x3_4, y3_5, h3_6, x4_19, y4_20, h4_21) _ _ _ (by rw [← hz]; exact (zHin_t (by omega) (Or.inl ⟨c_40, Int64.not_le.mp c_54⟩)).symm) hP hS dX5_hindrance_58
  exact lp_7_8 ((n - 0) + 1) 0 x2 y2 h2 (by first | assumption | omega | rfl | simp_all) (rfl) (Nat.lt_succ_self _) _ _ hP hD hS _ (lv_sub hl [2, 1, 0] rfl)
