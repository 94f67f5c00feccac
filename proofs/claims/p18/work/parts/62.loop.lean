/-! the law's loop -/
theorem c_L_cell (l : Launch) (b L k : Nat) (xs : Nat → Int32) (hL : L ≤ 260) (hk : k < 1000) : Met l yL_cell wsL_cell (zRm 0 0 0) (va_Pc [.ref b, .int (nI k)] (fun U => va_X b L xs U U.heap ∧ b < U.heap.size)) (va_Qi (fun _ (_ : Unit) => True) (fun _ _ => True) (fun _ => False)) 0 0 (fun _ => False) := by
  refine Met.ofW (cc := cL_cell) (maxL := 2) (ret := some .int) (by decide) rfl ?_
  intro p e s m args below meth c s₁ B hml hv
  obtain ⟨rfl, hX, hbl⟩ := hv
  have hl := lv_entry ([.ref b, .int (nI k)]) (n := 2) (Nat.le_of_ble_eq_true rfl)
  rw [lg_entry_eq]
  generalize (lg_sl ([.ref b, .int (nI k)]) ++ List.replicate (2 - (lg_sl ([.ref b, .int (nI k)])).length) Slot.unset).toArray = ls at hl ⊢
  have hl : lv_has ls 2 [(0, .ref b), (1, .int (nI k))] := hl
  have hx := B.exec
  have hb := B.bytes
  have hown := findClass_of_methodNamed B.named
  have hts := atoms_spec (ws := wsL_cell) B.pre
  have hS : va_S (fun _ => False) s.heap s.heap [] := va_S.rf
  have hbA : ¬ (fun _ : Nat => False) b := id
  refine lv_iload_n hx hb dL_cell_0 rfl (lv_at hl 1 rfl) ?_
  refine lv_aload_n hx hb dL_cell_1 rfl (lv_at hl 0 rfl) ?_
  refine va_slen hx hb hX hbl hbA hS dL_cell_2 ?_
  refine lv_icmp_ge (tgt := 12) hx hb dL_cell_3 (by decide) (fun c9 => ?_) (fun c9 => ?_)
  · refine lv_ldc (own := RL) (v := 1205587481) hx hb hown (hts (.constant RL 7 1205587481) (by decide +kernel)) dL_cell_12 ?_
    refine lv_iload_n hx hb dL_cell_14 rfl (lv_at hl 1 rfl) ?_
    refine lv_bipush (v := 11) hx hb dL_cell_15 (by decide) ?_
    refine lv_iadd hx hb dL_cell_17 ?_
    refine lv_imul hx hb dL_cell_18 ?_
    exact W.iret hx hb B.returns (fun t ht hW => ⟨⟨_, (), rfl, trivial, trivial⟩, hS.F ht⟩) hS.2.2 dL_cell_19 B.notSynchronized
  · have hkL : k < L := Nat.lt_of_not_le (fun h9 => c9 ((nI_leI (a := L) (b := k) (by omega) (by omega)).mpr h9))
    refine lv_aload_n hx hb dL_cell_6 rfl (lv_at hl 0 rfl) ?_
    refine lv_iload_n hx hb dL_cell_7 rfl (lv_at hl 1 rfl) ?_
    refine va_sld hx hb hX hbl hbA hS (vp_in_nI hkL (by omega)) dL_cell_8 ?_
    refine lv_goto (tgt := 19) hx hb dL_cell_9 (by decide) ?_
    exact W.iret hx hb B.returns (fun t ht hW => ⟨⟨_, (), rfl, trivial, trivial⟩, hS.F ht⟩) hS.2.2 dL_cell_19 B.notSynchronized
section ZCELL
variable {p : Program} {l : Launch} {e : Env} {R : Room} {s : State} {m : MethodId} {args : Array Value} {below : List Frame} {meth : Method} {c : Code} {H : Heap} {locs : List Loc} {cells slots : Nat} {Q : State → Prop}
variable {pc : Nat} {ls : Array Slot} {rest : List Value} {A0 : Nat → Prop} {D : va_G} {ws : va_W}
variable {bytes cc : ByteArray} {maxL nL index : Nat} {ret : Option FieldType} {Ts : List Cond} {own : String} {b L k : Nat} {xs : Nat → Int32}
theorem z_cell (Fx : CallFix p m c cc nL s args Ts own) (hX : va_X b L xs s s.heap) (hbl : b < s.heap.size) (hbA : ¬ A0 b) (hL : L ≤ 260) (hk : k < 1000) (hP : va_P D vwCl ws H) (hD : va_D A0 ws) (hS : va_S A0 s.heap H locs)
    (cw : CallB R s args own index yL_cell bytes maxL ret wsL_cell (zRm 0 0 0) 0 0 2 ∧ (Cond.static yL_cell).before args s = true) (hsize : ls.size = nL) (hW : (rest.map fun v => v.category).sum ≤ 8) (hdg : decode cc pc = .ok (.invokestatic index, 3)) (hb : cells ≤ R.cells ∧ slots ≤ R.slots)
    (kk : ∀ (r : Int32) (H1 : Heap) (locs1 : List Loc), va_P D vwCl ws H1 → va_D A0 ws → va_S A0 s.heap H1 locs1 → W p l e R s m args below meth c H1 locs1 cells slots Q (F0 m (pc + 3) ls (.int r :: rest))) : W p l e R s m args below meth c H locs cells slots Q (F0 m pc ls (.int (nI k) :: .ref b :: rest)) := by
  refine va_calli (A1 := fun _ => False) (va_runS (As := [.ref b, .int (nI k)]) (rest := rest) (g := F0 m pc ls (.int (nI k) :: .ref b :: rest)) Fx (c_L_cell l b L k xs hL hk) cw ⟨fun a U g mk h => ⟨h.1, va_X.moved (u := U) (U := U.calling g mk a) (Vm.Alike.refl U.vm) h.2.1, h.2.2⟩, fun U hU hW => ⟨rfl, ?_, ?_⟩⟩ rfl rfl hsize rfl (lv_room (rest := .int (nI k) :: .ref b :: rest) hW) hdg hb) hS (fun q _ h => h.elim) (fun q h => h.elim) (fun r u t H1 locs1 e1 e2 _ _ h5 h6 h7 => kk r H1 locs1 (hP.kept (fun j q hq => h6 q.1 (hP j q hq).lt id)) hD h7)
  · rw [hU]
    exact va_X.moved hW.alike (hX.kept (hS.2.1 b hbl hbA))
  · rw [hU]
    exact Nat.lt_of_lt_of_le hbl hS.1
end ZCELL

set_option maxHeartbeats 4000000 in
set_option maxRecDepth 100000 in
theorem law_tail {p : Program} {l : Launch} {e : Env} {s : State} {m : MethodId} {args : Array Value} {below : List Frame} {meth : Method} {c : Code} {D : va_G} {cI cJ : ClassId} {A0 : Nat → Prop} {Q : State → Prop} {b la lg lt tau : Nat} {ad : Nat → Nat} {uu : Int32} (hfl : l.stackTraces = false) (C : zC p m c meth cL_law 34 s args wsL_law RL D cI cJ A0 []) (hNw : ∀ q : Nat, s.heap.size ≤ q → A0 q) {H : Heap} {locs : List Loc} {cells slots : Nat} {ls : Array Slot} (hc : cells + 40 ≤ 600104) (hs : slots + 240 ≤ 7301314) (hw : zLv D cI cJ A0 s.heap H locs ad la lg lt 1) (hl : lv_has ls 34 [(9, .int 1), (7, .int uu), (5, .int (nI tau)), (4, .ref lt), (3, .ref lg), (2, .ref la), (1, .ref (ad 0)), (0, .ref b)]) (kk9 : ∀ (H1 : Heap) (locs1 : List Loc) (ls1 : Array Slot) (c1 s1 : Nat), c1 ≤ cells + 40 → s1 ≤ slots + 240 → zLv D cI cJ A0 s.heap H1 locs1 ad la lg lt 1 → lv_has ls1 34 [(5, .int (nI (tau + 1))), (4, .ref lt), (3, .ref lg), (2, .ref la), (1, .ref (ad 0)), (0, .ref b)] → W p l e room_1 s m args below meth c H1 locs1 c1 s1 Q (F0 m 154 ls1 [])) : W p l e room_1 s m args below meth c H locs cells slots Q (F0 m 1740 ls []) := by
  obtain ⟨⟨hx, hb, hml, hown, hts⟩, hG, hK, hD0, hlocks⟩ := C
  obtain ⟨n, kd, ln, lo, hi, vl, gx, gy, sl, si, kc, FF, fa, fg, ft, hn1, hR, hA, hGs, hT, hkd, hP, hD, hS⟩ := hw
  refine lv_iload hx hb dL_law_1740 (lv_at hl 0 rfl) ?_
  refine lv_if_eq (tgt := 1758) hx hb dL_law_1742 (by decide) (fun c_1742 => ?_) (fun c_1742 => ?_)
  · exact absurd c_1742 (by decide)
  · refine lv_aload_n hx hb dL_law_1745 rfl (lv_at hl 6 rfl) ?_
    refine lv_iload hx hb dL_law_1746 (lv_at hl 1 rfl) ?_
    refine lv_aload_n hx hb dL_law_1748 rfl (lv_at hl 5 rfl) ?_
    refine lv_aload_n hx hb dL_law_1749 rfl (lv_at hl 4 rfl) ?_
    refine lv_aload hx hb dL_law_1750 (lv_at hl 3 rfl) ?_
    refine z_callA (w1 := []) (As := [.ref (ad 0), .int uu, .ref la, .ref lg, .ref lt]) (rest := []) ⟨hx, hb, hml, hown, hts⟩ hG hK hP hD hS (c_L_isTold l hfl D cI cJ ad n kd ln lo hi vl gx gy sl si kc FF uu la fa lg fg lt ft (by first | assumption | omega | decide) (by first | assumption | omega | decide) (by first | assumption | omega | decide) (by first | assumption | omega | decide) (by first | assumption | omega | decide)) (va_cwS 5 hts gL_law_L_isTold rfl rfl rfl (by decide +kernel) ⟨Nat.le_of_ble_eq_true rfl, Nat.le_of_ble_eq_true rfl⟩) (fun _ => rfl) rfl hl.1 rfl (Nat.le_of_ble_eq_true rfl) dL_law_1752 ⟨(show cells + 40 ≤ 600104 by omega), (show slots + 240 ≤ 7301314 by omega)⟩ (fun u_1 H locs hu_2 hP hD hS => ?_)
    obtain ⟨si2_3, kc2_4, FF2_5⟩ := u_1
    have hu_2 : (zL0 (FF2_5 3) (FF2_5 4) (FF2_5 5) (FF2_5 6)) := hu_2
    have e_6 := hu_2
    have hP : va_P D vwCl ([(la, .inl (cI, 25, .inl fa)), (lg, .inl (cI, 4, .inl fg)), (lt, .inl (cI, 17, .inl ft))] ++ zWR cI cJ ad n kd ln lo hi vl gx gy sl si2_3 kc2_4 FF2_5) H := hP
    have hD : va_D A0 ([(la, .inl (cI, 25, .inl fa)), (lg, .inl (cI, 4, .inl fg)), (lt, .inl (cI, 17, .inl ft))] ++ zWR cI cJ ad n kd ln lo hi vl gx gy sl si2_3 kc2_4 FF2_5) := hD
    replace hR := zRo_of hR e_6
    refine lv_if_ne (tgt := 1760) hx hb dL_law_1755 (by decide) (fun c_1755 => ?_) (fun c_1755 => ?_)
    · refine lv_iinc (v := nI (tau + 1)) (lv' := [(5, .int (nI (tau + 1))), (9, .int 1), (7, .int uu), (4, .ref lt), (3, .ref lg), (2, .ref la), (1, .ref (ad 0)), (0, .ref b)]) hx hb dL_law_1760 hl (k := 2) rfl ((nI_succ _).symm) (by decide) rfl (fun ls hl => ?_)
      refine lv_goto (tgt := 154) hx hb dL_law_1763 (by decide) ?_
      exact kk9 _ _ _ _ _ (by omega) (by omega) ⟨n, kd, ln, lo, hi, vl, gx, gy, sl, si2_3, kc2_4, FF2_5, fa, fg, ft, hn1, hR, hA, hGs, hT, hkd, hP, hD, hS⟩ (lv_sub hl [0, 3, 4, 5, 6, 7] rfl)
    · exact absurd c_1755 (by decide)

set_option maxHeartbeats 4000000 in
set_option maxRecDepth 100000 in
theorem law_loop {p : Program} {l : Launch} {e : Env} {s : State} {m : MethodId} {args : Array Value} {below : List Frame} {meth : Method} {c : Code} {D : va_G} {cI cJ : ClassId} {A0 : Nat → Prop} {Q : State → Prop} {b L la lg lt : Nat} {xs : Nat → Int32} {ad : Nat → Nat} (hfl : l.stackTraces = false) (C : zC p m c meth cL_law 34 s args wsL_law RL D cI cJ A0 []) (hNw : ∀ q : Nat, s.heap.size ≤ q → A0 q) (hX : va_X b L xs s s.heap) (hbl : b < s.heap.size) (hbA : ¬ A0 b) (hL : L ≤ 260)
    (kend : ∀ (H1 : Heap) (locs1 : List Loc) (ls1 : Array Slot) (c1 s1 : Nat), c1 + 40 ≤ 600104 → s1 + 240 ≤ 7301314 → zLv D cI cJ A0 s.heap H1 locs1 ad la lg lt 1 → lv_has ls1 34 [(5, .int (nI 60)), (4, .ref lt), (3, .ref lg), (2, .ref la), (1, .ref (ad 0)), (0, .ref b)] → W p l e room_1 s m args below meth c H1 locs1 c1 s1 Q (F0 m 1766 ls1 [])) :
    ∀ (fu tau nm : Nat), tau + fu = 60 → (1 ≤ tau → nm = 1) → (tau = 0 → nm = 0) → ∀ (H : Heap) (locs : List Loc) (ls : Array Slot) (cells slots : Nat), cells + 80 * fu + 40 ≤ 600104 → slots + 480 * fu + 240 ≤ 7301314 → zLv D cI cJ A0 s.heap H locs ad la lg lt nm → lv_has ls 34 [(5, .int (nI tau)), (4, .ref lt), (3, .ref lg), (2, .ref la), (1, .ref (ad 0)), (0, .ref b)] → W p l e room_1 s m args below meth c H locs cells slots Q (F0 m 154 ls []) := by
  intro fu
  induction fu with
  | zero =>
    intro tau nm h1 h2 h3 H locs ls cells slots hc hs hw hl
    obtain ⟨⟨hx, hb, hml, hown, hts⟩, hG, hK, hD0, hlocks⟩ := id C
    obtain rfl : tau = 60 := by omega
    obtain rfl : nm = 1 := h2 (by omega)
    refine lv_iload hx hb dL_law_154 (lv_at hl 0 rfl) ?_
    refine lv_bipush (v := nI 60) hx hb dL_law_156 (rfl) ?_
    refine lv_icmp_ge (tgt := 1766) hx hb dL_law_158 (by decide) (fun c9 => ?_) (fun c9 => absurd (by decide) c9)
    exact kend _ _ _ _ _ (by omega) (by omega) hw hl
  | succ fu ih =>
    intro tau nm h1 h2 h3 H locs ls cells slots hc hs hw hl
    obtain ⟨⟨hx, hb, hml, hown, hts⟩, hG, hK, hD0, hlocks⟩ := id C
    obtain ⟨n, kd, ln, lo, hi, vl, gx, gy, sl, si, kc, FF, fa, fg, ft, hn1, hR, hA, hGs, hT, hkd, hP, hD, hS⟩ := hw
    have hn5 := hR.1.1
    refine lv_iload hx hb dL_law_154 (lv_at hl 0 rfl) ?_
    refine lv_bipush (v := nI 60) hx hb dL_law_156 (rfl) ?_
    refine lv_icmp_ge (tgt := 1766) hx hb dL_law_158 (by decide) (fun c9 => absurd ((nI_leI (by omega) (by omega)).mp c9) (by omega)) (fun c9 => ?_)
    refine lv_aload_n hx hb dL_law_161 rfl (lv_at hl 5 rfl) ?_
    refine lv_iconst (v := nI 2) hx hb dL_law_162 (rfl) ?_
    refine lv_iload hx hb dL_law_163 (lv_at hl 0 rfl) ?_
    refine lv_imul hx hb dL_law_165 ?_
    refine z_topi (y := nI (2 * tau)) (pk_mul 2 _) ?_
    refine z_cell ⟨hx, hb, hml, hown, hts⟩ hX hbl hbA hL (k := 2 * tau) (by omega) hP hD hS (va_cwS 2 hts gL_law_L_cell rfl rfl rfl (by decide +kernel) ⟨Nat.le_of_ble_eq_true rfl, Nat.le_of_ble_eq_true rfl⟩) hl.1 (Nat.le_of_ble_eq_true rfl) dL_law_166 ⟨(show cells ≤ 600104 by omega), (show slots ≤ 7301314 by omega)⟩ (fun vv H locs hP hD hS => ?_)
    refine lv_istore (lv' := [(6, .int vv), (5, .int (nI tau)), (4, .ref lt), (3, .ref lg), (2, .ref la), (1, .ref (ad 0)), (0, .ref b)]) hx hb dL_law_169 hl (by decide) rfl (fun ls hl => ?_)
    refine lv_aload_n hx hb dL_law_171 rfl (lv_at hl 6 rfl) ?_
    refine lv_iconst (v := nI 2) hx hb dL_law_172 (rfl) ?_
    refine lv_iload hx hb dL_law_173 (lv_at hl 1 rfl) ?_
    refine lv_imul hx hb dL_law_175 ?_
    refine z_topi (y := nI (2 * tau)) (pk_mul 2 _) ?_
    refine lv_iconst (v := nI 1) hx hb dL_law_176 (rfl) ?_
    refine lv_iadd hx hb dL_law_177 ?_
    refine z_topi (y := nI (2 * tau + 1)) (nI_add _ 1) ?_
    refine z_cell ⟨hx, hb, hml, hown, hts⟩ hX hbl hbA hL (k := 2 * tau + 1) (by omega) hP hD hS (va_cwS 2 hts gL_law_L_cell rfl rfl rfl (by decide +kernel) ⟨Nat.le_of_ble_eq_true rfl, Nat.le_of_ble_eq_true rfl⟩) hl.1 (Nat.le_of_ble_eq_true rfl) dL_law_178 ⟨(show cells ≤ 600104 by omega), (show slots ≤ 7301314 by omega)⟩ (fun uu H locs hP hD hS => ?_)
    refine lv_istore (lv' := [(7, .int uu), (6, .int vv), (5, .int (nI tau)), (4, .ref lt), (3, .ref lg), (2, .ref la), (1, .ref (ad 0)), (0, .ref b)]) hx hb dL_law_181 hl (by decide) rfl (fun ls hl => ?_)
    -- behind the joint that is chosen: the cases
    have hc2 : cells + 40 ≤ 600104 := by omega
    have hs2 : slots + 240 ≤ 7301314 := by omega
    have kk9 : ∀ (H1 : Heap) (locs1 : List Loc) (ls1 : Array Slot) (c1 s1 : Nat), c1 ≤ cells + 40 → s1 ≤ slots + 240 → zLv D cI cJ A0 s.heap H1 locs1 ad la lg lt 1 → lv_has ls1 34 [(9, .int 1), (7, .int uu), (5, .int (nI tau)), (4, .ref lt), (3, .ref lg), (2, .ref la), (1, .ref (ad 0)), (0, .ref b)] → W p l e room_1 s m args below meth c H1 locs1 c1 s1 Q (F0 m 1740 ls1 []) := fun H1 locs1 ls1 c1 s1 e1 e2 hw1 hl1 => law_tail hfl C hNw (by omega) (by omega) hw1 hl1 (fun H2 locs2 ls2 c2 s2 e3 e4 hw2 hl2 => ih (tau + 1) 1 (by omega) (fun _ => rfl) (fun h9 => absurd h9 (Nat.succ_ne_zero tau)) _ _ _ _ _ (by omega) (by omega) hw2 hl2)
    have hgo : ∀ (jj : Nat) (H : Heap) (locs : List Loc) (ls : Array Slot), (1 ≤ n → jj < n) → va_P D vwCl ([(la, .inl (cI, 25, .inl fa)), (lg, .inl (cI, 4, .inl fg)), (lt, .inl (cI, 17, .inl ft))] ++ zWR cI cJ ad n kd ln lo hi vl gx gy sl si kc FF) H → va_D A0 ([(la, .inl (cI, 25, .inl fa)), (lg, .inl (cI, 4, .inl fg)), (lt, .inl (cI, 17, .inl ft))] ++ zWR cI cJ ad n kd ln lo hi vl gx gy sl si kc FF) → va_S A0 s.heap H locs → lv_has ls 34 [(7, .int uu), (6, .int vv), (5, .int (nI tau)), (4, .ref lt), (3, .ref lg), (2, .ref la), (1, .ref (ad 0)), (0, .ref b)] → W p l e room_1 s m args below meth c H locs cells slots Q (F0 m 204 ls [.int (nI jj)]) := by
      intro jj H locs ls hjj hP hD hS hl
      refine lv_istore (lv' := [(8, .int (nI jj)), (7, .int uu), (6, .int vv), (5, .int (nI tau)), (4, .ref lt), (3, .ref lg), (2, .ref la), (1, .ref (ad 0)), (0, .ref b)]) hx hb dL_law_204 hl (by decide) rfl (fun ls hl => ?_)
      refine lv_iconst (v := 1) hx hb dL_law_206 (by decide) ?_
      refine lv_istore (lv' := [(9, .int 1), (8, .int (nI jj)), (7, .int uu), (6, .int vv), (5, .int (nI tau)), (4, .ref lt), (3, .ref lg), (2, .ref la), (1, .ref (ad 0)), (0, .ref b)]) hx hb dL_law_207 hl (by decide) rfl (fun ls hl => ?_)
      refine lv_iload hx hb dL_law_209 (lv_at hl 4 rfl) ?_
      refine lv_iconst (v := nI 2) hx hb dL_law_211 (rfl) ?_
      refine lv_icmp_ge (tgt := 219) hx hb dL_law_212 (by decide) (fun c9 => ?_) (fun c9 => ?_)
      · have c9 := (nI_leI (by omega) (by omega)).mp c9
        have hn1 : 1 ≤ n := by have h9 := h2 (by omega); omega
        have hjj := hjj hn1
        refine lv_iload hx hb dL_law_219 (lv_at hl 3 rfl) ?_
        refine lv_bipush (v := nI 13) hx hb dL_law_221 (rfl) ?_
        refine z_call0 (As := [.int vv, .int (nI 13)]) (rest := []) ⟨hx, hb, hml, hown, hts⟩ hG hK hP hD hS (zML_of (c_L_low l D cI cJ vv 13 (by decide))) (va_cwS 2 hts gL_law_L_low rfl rfl rfl (by decide +kernel) ⟨Nat.le_of_ble_eq_true rfl, Nat.le_of_ble_eq_true rfl⟩) (fun _ => rfl) rfl hl.1 rfl (Nat.le_of_ble_eq_true rfl) dL_law_223 ⟨(show cells + 0 ≤ 600104 by omega), (show slots + 0 ≤ 7301314 by omega)⟩ (fun u H locs hu hP hD hS => ?_)
        have hu : u = nI (zLw vv 13) := hu
        subst hu
        refine z_topi (y := nI (zLw vv 13)) rfl ?_
        have hz := zLw_lt (v := vv) (m := 13) (by decide)
        generalize zLw vv 13 = z at hz ⊢
        rcases (show z = 0 ∨ z = 1 ∨ z = 2 ∨ z = 3 ∨ z = 4 ∨ z = 5 ∨ z = 6 ∨ z = 7 ∨ z = 8 ∨ z = 9 ∨ z = 10 ∨ z = 11 ∨ z = 12 by omega) with rfl | rfl | rfl | rfl | rfl | rfl | rfl | rfl | rfl | rfl | rfl | rfl | rfl
        · exact lv_tableIn (off := 50) (tgt := 276) hx hb dL_law_226 (by decide +kernel) (by decide +kernel) (by decide +kernel) (by decide) (law_joint hfl C hNw hR hA hGs hT hkd hc2 hs2 hP hD hS hl kk9)
        · exact lv_tableIn (off := 291) (tgt := 517) hx hb dL_law_226 (by decide +kernel) (by decide +kernel) (by decide +kernel) (by decide) (law_set hfl C hNw hR hA hGs hT hkd hn1 hjj hc2 hs2 hP hD hS hl kk9)
        · exact lv_tableIn (off := 291) (tgt := 517) hx hb dL_law_226 (by decide +kernel) (by decide +kernel) (by decide +kernel) (by decide) (law_set hfl C hNw hR hA hGs hT hkd hn1 hjj hc2 hs2 hP hD hS hl kk9)
        · exact lv_tableIn (off := 465) (tgt := 691) hx hb dL_law_226 (by decide +kernel) (by decide +kernel) (by decide +kernel) (by decide) (law_goal hfl C hNw hR hA hGs hT hkd hn1 hjj hc2 hs2 hP hD hS hl kk9)
        · exact lv_tableIn (off := 465) (tgt := 691) hx hb dL_law_226 (by decide +kernel) (by decide +kernel) (by decide +kernel) (by decide) (law_goal hfl C hNw hR hA hGs hT hkd hn1 hjj hc2 hs2 hP hD hS hl kk9)
        · exact lv_tableIn (off := 687) (tgt := 913) hx hb dL_law_226 (by decide +kernel) (by decide +kernel) (by decide +kernel) (by decide) (law_slack hfl C hNw hR hA hGs hT hkd hn1 hjj hc2 hs2 hP hD hS hl kk9)
        · exact lv_tableIn (off := 737) (tgt := 963) hx hb dL_law_226 (by decide +kernel) (by decide +kernel) (by decide +kernel) (by decide) (law_steps hfl C hNw hR hA hGs hT hkd hn1 hjj hc2 hs2 hP hD hS hl kk9)
        · exact lv_tableIn (off := 737) (tgt := 963) hx hb dL_law_226 (by decide +kernel) (by decide +kernel) (by decide +kernel) (by decide) (law_steps hfl C hNw hR hA hGs hT hkd hn1 hjj hc2 hs2 hP hD hS hl kk9)
        · exact lv_tableIn (off := 737) (tgt := 963) hx hb dL_law_226 (by decide +kernel) (by decide +kernel) (by decide +kernel) (by decide) (law_steps hfl C hNw hR hA hGs hT hkd hn1 hjj hc2 hs2 hP hD hS hl kk9)
        · exact lv_tableOut (tgt := 1284) hx hb dL_law_226 (Or.inr (by decide +kernel)) (by decide) (law_branch hfl C hNw hR hA hGs hT hkd hn1 hjj hc2 hs2 hP hD hS hl kk9)
        · exact lv_tableOut (tgt := 1284) hx hb dL_law_226 (Or.inr (by decide +kernel)) (by decide) (law_branch hfl C hNw hR hA hGs hT hkd hn1 hjj hc2 hs2 hP hD hS hl kk9)
        · exact lv_tableOut (tgt := 1284) hx hb dL_law_226 (Or.inr (by decide +kernel)) (by decide) (law_branch hfl C hNw hR hA hGs hT hkd hn1 hjj hc2 hs2 hP hD hS hl kk9)
        · exact lv_tableOut (tgt := 1284) hx hb dL_law_226 (Or.inr (by decide +kernel)) (by decide) (law_branch hfl C hNw hR hA hGs hT hkd hn1 hjj hc2 hs2 hP hD hS hl kk9)
      · refine lv_iconst (v := nI 0) hx hb dL_law_215 (rfl) ?_
        refine lv_goto (tgt := 226) hx hb dL_law_216 (by decide) ?_
        exact lv_tableIn (off := 50) (tgt := 276) hx hb dL_law_226 (by decide +kernel) (by decide +kernel) (by decide +kernel) (by decide) (law_joint hfl C hNw hR hA hGs hT hkd hc2 hs2 hP hD hS hl kk9)
    refine lv_aload_n hx hb dL_law_183 rfl (lv_at hl 4 rfl) ?_
    refine lv_iconst (v := nI 0) hx hb dL_law_184 (rfl) ?_
    refine z_iald hx hb hK hP 1 rfl (j := 0) (by decide) (by decide) dL_law_185 ?_
    refine z_topi (y := nI n) hGs.1 ?_
    refine lv_if_ne (tgt := 193) hx hb dL_law_186 (by decide) (fun c9 => ?_) (fun c9 => ?_)
    · have hn9 : 1 ≤ n := Nat.pos_of_ne_zero (fun h9 => c9 (by rw [h9]; rfl))
      refine lv_iload hx hb dL_law_193 (lv_at hl 1 rfl) ?_
      refine lv_bipush (v := 6) hx hb dL_law_195 (by decide) ?_
      refine lv_ishr hx hb dL_law_197 ?_
      refine lv_aload_n hx hb dL_law_198 rfl (lv_at hl 4 rfl) ?_
      refine lv_iconst (v := nI 0) hx hb dL_law_199 (rfl) ?_
      refine z_iald hx hb hK hP 1 rfl (j := 0) (by decide) (by decide) dL_law_200 ?_
      refine z_topi (y := nI n) hGs.1 ?_
      refine z_call0 (As := [.int (vv >>> (6 &&& 31)), .int (nI n)]) (rest := []) ⟨hx, hb, hml, hown, hts⟩ hG hK hP hD hS (zML_of (c_L_low l D cI cJ (vv >>> (6 &&& 31)) n (by omega))) (va_cwS 2 hts gL_law_L_low rfl rfl rfl (by decide +kernel) ⟨Nat.le_of_ble_eq_true rfl, Nat.le_of_ble_eq_true rfl⟩) (fun _ => rfl) rfl hl.1 rfl (Nat.le_of_ble_eq_true rfl) dL_law_201 ⟨(show cells + 0 ≤ 600104 by omega), (show slots + 0 ≤ 7301314 by omega)⟩ (fun u H locs hu hP hD hS => ?_)
      have hu : u = nI (zLw (vv >>> (6 &&& 31)) n) := hu
      subst hu
      exact hgo _ _ _ _ (fun _ => zLw_lt hn9) hP hD hS hl
    · refine lv_iconst (v := nI 0) hx hb dL_law_189 (rfl) ?_
      refine lv_goto (tgt := 204) hx hb dL_law_190 (by decide) ?_
      exact hgo 0 _ _ _ (fun h9 => h9) hP hD hS hl
