theorem zLw_S {D : va_G} {cI cJ : ClassId} {A0 : Nat → Prop} {H0 H : Heap} {locs : List Loc} {oo a k1 k2 k3 k4 k5 g t1 t2 s9 rk ky rw pa re xa ya ha wa m1 m2 ot ob b1 b2 b3 b4 b5 bp bu bv bk bw : Nat} (h : zLw D cI cJ A0 H0 H locs oo a k1 k2 k3 k4 k5 g t1 t2 s9 rk ky rw pa re xa ya ha wa m1 m2 ot ob b1 b2 b3 b4 b5 bp bu bv bk bw) : va_S A0 H0 H locs := by
  obtain ⟨n, kd, ln, lo, hi, vl, gx, gy, sl, x1, y1, h1, x2, y2, h2, fd, kc, rr, po, rc, xf, yf, hf, wf, f1, f2, ov, th, mx, my, mh, md, ps, f3, f4, kv, wh, hok, hgx, hgy, hsl, h0, hP, hD, hS⟩ := h
  exact hS
theorem zlaw_le {i L : Nat} (hi : i < L + 5) (hL : L ≤ 2560) (h : ¬ (Int32.ofNat L - 5 < nI i)) : i + 5 ≤ L := by
  have eL : (Int32.ofNat L).toInt = (L : Int) := nI_toInt (by omega)
  have e5 : (5 : Int32).toInt = 5 := by decide
  have e : (Int32.ofNat L - 5).toInt = (L : Int) - 5 := by rw [zsub (by rw [eL, e5]; omega) (by rw [eL, e5]; omega), eL, e5]
  rw [zlt, nI_toInt (by omega), e] at h
  omega
set_option maxHeartbeats 4000000 in
set_option maxRecDepth 100000 in
theorem law_loop {p : Program} {l : Launch} {e : Env} {s : State} {m : MethodId} {args : Array Value} {below : List Frame} {meth : Method} {c : Code} {b L : Nat} {xs : Nat → Int32} {D : va_G} {cI cJ : ClassId} {oo a k1 k2 k3 k4 k5 g t1 t2 s9 rk ky rw pa re xa ya ha wa m1 m2 ot ob b1 b2 b3 b4 b5 bp bu bv bk bw : Nat} {Q : State → Prop} (hfl : l.stackTraces = false) (C0 : zLA p s m args c b L xs D cI cJ) (kend : ∀ (H1 : Heap) (locs1 : List Loc) (ls1 : Array Slot) (c1 s1 : Nat), c1 ≤ 667644 → s1 ≤ 7093172 → va_S (fun q => s.heap.size ≤ q) s.heap H1 locs1 → W p l e room_1 s m args below meth c H1 locs1 c1 s1 Q (F0 m 925 ls1 [])) :
    ∀ (fu i : Nat), i < L + 5 → L + 5 ≤ i + 5 * fu → ∀ (H : Heap) (locs : List Loc) (ls : Array Slot) (cells slots : Nat), cells + 2 * fu ≤ 667644 → slots + 12 * fu ≤ 7093172 → zLw D cI cJ (fun q => s.heap.size ≤ q) s.heap H locs oo a k1 k2 k3 k4 k5 g t1 t2 s9 rk ky rw pa re xa ya ha wa m1 m2 ot ob b1 b2 b3 b4 b5 bp bu bv bk bw → lv_has ls 8 [(4, .int (nI i)), (3, .ref ot), (2, .ref ob), (1, .ref oo), (0, .ref b)] → W p l e room_1 s m args below meth c H locs cells slots Q (F0 m 23 ls []) := by
  intro fu
  induction fu with
  | zero =>
    intro i h1 h2
    exact absurd h2 (by omega)
  | succ fu ih =>
    intro i h1 h2 H locs ls cells slots hc hs hw hl
    obtain ⟨hx, hb, hml, hown, hts, hX, hbl, hG, hK, hL⟩ := id C0
    have hbA : ¬ (fun q : Nat => s.heap.size ≤ q) b := Nat.not_le.mpr hbl
    have hS := zLw_S hw
    refine lv_iload hx hb dL_law_23 (lv_at hl 0 rfl) ?_
    refine lv_aload_n hx hb dL_law_25 rfl (lv_at hl 4 rfl) ?_
    refine va_slen hx hb hX hbl hbA hS dL_law_26 ?_
    refine lv_iconst (v := 5) hx hb dL_law_27 (by decide) ?_
    refine lv_isub hx hb dL_law_28 ?_
    refine lv_icmp_gt (tgt := 925) hx hb dL_law_29 (by decide) (fun c9 => ?_) (fun c9 => ?_)
    · exact kend _ _ _ _ _ (by omega) (by omega) hS
    · have hi5 : i + 5 ≤ L := zlaw_le h1 hL c9
      refine lv_aload_n hx hb dL_law_32 rfl (lv_at hl 4 rfl) ?_
      refine lv_iload hx hb dL_law_33 (lv_at hl 0 rfl) ?_
      refine z_sld hx hb hX hbl hbA hS (j := i) (by omega) hL dL_law_35 ?_
      refine lv_bipush (v := 15) hx hb dL_law_36 (by decide) ?_
      refine lv_iand hx hb dL_law_38 ?_
      obtain ⟨j, hj, ej⟩ := pk_andE (xs i) (m := 15) 4 (by decide)
      refine z_topi ej ?_
      have hc2 : cells + 2 ≤ 667644 := by omega
      have hs2 : slots + 12 ≤ 7093172 := by omega
      have kk9 : ∀ (H1 : Heap) (locs1 : List Loc) (ls1 : Array Slot) (c1 s1 : Nat), c1 ≤ cells + 2 → s1 ≤ slots + 12 → zLw D cI cJ (fun q => s.heap.size ≤ q) s.heap H1 locs1 oo a k1 k2 k3 k4 k5 g t1 t2 s9 rk ky rw pa re xa ya ha wa m1 m2 ot ob b1 b2 b3 b4 b5 bp bu bv bk bw → lv_has ls1 8 [(4, .int (nI i)), (3, .ref ot), (2, .ref ob), (1, .ref oo), (0, .ref b)] → W p l e room_1 s m args below meth c H1 locs1 c1 s1 Q (F0 m 919 ls1 []) := by
        intro H1 locs1 ls1 c1 s1 e1 e2 hw1 hl1
        refine lv_iinc (v := nI (i + 5)) (lv' := [(4, .int (nI (i + 5))), (3, .ref ot), (2, .ref ob), (1, .ref oo), (0, .ref b)]) hx hb dL_law_919 hl1 (k := 0) rfl (by rw [show Int32.ofInt 5 = nI 5 by decide]; exact nI_add i 5) (by decide) rfl (fun ls2 hl2 => ?_)
        refine lv_goto (tgt := 23) hx hb dL_law_922 (by decide) ?_
        exact ih (i + 5) (by omega) (by omega) _ _ _ _ _ (by omega) (by omega) hw1 hl2
      rcases (show j = 0 ∨ j = 1 ∨ j = 2 ∨ j = 3 ∨ j = 4 ∨ j = 5 ∨ j = 6 ∨ j = 7 ∨ j = 8 ∨ j = 9 ∨ j = 10 ∨ j = 11 ∨ j = 12 ∨ j = 13 ∨ j = 14 ∨ j = 15 by omega) with rfl | rfl | rfl | rfl | rfl | rfl | rfl | rfl | rfl | rfl | rfl | rfl | rfl | rfl | rfl | rfl
      · exact lv_tableIn (off := 73) (tgt := 112) hx hb dL_law_39 (by decide +kernel) (by decide +kernel) (by decide +kernel) (by decide) (law_joint hfl C0 hi5 hc2 hs2 hw hl kk9)
      · exact lv_tableIn (off := 165) (tgt := 204) hx hb dL_law_39 (by decide +kernel) (by decide +kernel) (by decide +kernel) (by decide) (law_set hfl C0 hi5 hc2 hs2 hw hl kk9)
      · exact lv_tableIn (off := 233) (tgt := 272) hx hb dL_law_39 (by decide +kernel) (by decide +kernel) (by decide +kernel) (by decide) (law_value hfl C0 hi5 hc2 hs2 hw hl kk9)
      · exact lv_tableIn (off := 289) (tgt := 328) hx hb dL_law_39 (by decide +kernel) (by decide +kernel) (by decide +kernel) (by decide) (law_tip hfl C0 hi5 hc2 hs2 hw hl kk9)
      · exact lv_tableIn (off := 345) (tgt := 384) hx hb dL_law_39 (by decide +kernel) (by decide +kernel) (by decide +kernel) (by decide) (law_tipAnew hfl C0 hi5 hc2 hs2 hw hl kk9)
      · exact lv_tableIn (off := 401) (tgt := 440) hx hb dL_law_39 (by decide +kernel) (by decide +kernel) (by decide +kernel) (by decide) (law_moves hfl C0 hi5 hc2 hs2 hw hl kk9)
      · exact lv_tableIn (off := 469) (tgt := 508) hx hb dL_law_39 (by decide +kernel) (by decide +kernel) (by decide +kernel) (by decide) (law_freedom hfl C0 hi5 hc2 hs2 hw hl kk9)
      · exact lv_tableIn (off := 483) (tgt := 522) hx hb dL_law_39 (by decide +kernel) (by decide +kernel) (by decide +kernel) (by decide) (law_goal hfl C0 hi5 hc2 hs2 hw hl kk9)
      · exact lv_tableIn (off := 550) (tgt := 589) hx hb dL_law_39 (by decide +kernel) (by decide +kernel) (by decide +kernel) (by decide) (law_far hfl C0 hi5 hc2 hs2 hw hl kk9)
      · exact lv_tableIn (off := 564) (tgt := 603) hx hb dL_law_39 (by decide +kernel) (by decide +kernel) (by decide +kernel) (by decide) (law_steps hfl C0 hi5 hc2 hs2 hw hl kk9)
      · exact lv_tableIn (off := 620) (tgt := 659) hx hb dL_law_39 (by decide +kernel) (by decide +kernel) (by decide +kernel) (by decide) (law_hindrance hfl C0 hi5 hc2 hs2 hw hl kk9)
      · exact lv_tableIn (off := 633) (tgt := 672) hx hb dL_law_39 (by decide +kernel) (by decide +kernel) (by decide +kernel) (by decide) (law_slack hfl C0 hi5 hc2 hs2 hw hl kk9)
      · exact lv_tableIn (off := 689) (tgt := 728) hx hb dL_law_39 (by decide +kernel) (by decide +kernel) (by decide +kernel) (by decide) (law_branches hfl C0 hi5 hc2 hs2 hw hl kk9)
      · exact lv_tableIn (off := 733) (tgt := 772) hx hb dL_law_39 (by decide +kernel) (by decide +kernel) (by decide +kernel) (by decide) (law_branch hfl C0 hi5 hc2 hs2 hw hl kk9)
      · exact lv_tableIn (off := 813) (tgt := 852) hx hb dL_law_39 (by decide +kernel) (by decide +kernel) (by decide +kernel) (by decide) (law_take hfl C0 hi5 hc2 hs2 hw hl kk9)
      · exact lv_tableOut (tgt := 919) hx hb dL_law_39 (Or.inr (by decide +kernel)) (by decide) (kk9 _ _ _ _ _ (by omega) (by omega) hw hl)
