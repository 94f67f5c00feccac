/-! the law's own methods, over all of its rows of numbers -/
set_option maxHeartbeats 4000000 in
theorem c3_heading (l : Launch) (hfl : l.stackTraces = false) (D : va_G) (cI cJ : ClassId) (la0 : Int32) (j : Int32) (mo : Int32) (la : Nat) (fa : Nat → Int32) (n : Nat) (kd : Nat → Int32) (ln : Nat → Int32) (lo : Nat → Int32) (hi : Nat → Int32) (vl : Nat → Int32) (mm : Nat) (lg : Nat) (fg : Nat → Int32) (lt : Nat) (ft : Nat → Int32) (hA : zAr n fa kd ln lo hi vl) (hn : n ≤ 5) (hmm : mm ≤ n) (hla : la0 = nI mm - 1) : zML l yL_heading wsL_heading 0 0 D cI cJ [.int la0, .int j, .int mo, .ref la] ([(la, .inl (cI, 25, .inl fa)), (lg, .inl (cI, 4, .inl fg)), (lt, .inl (cI, 17, .inl ft))]) (fun (u : Int32) => (u = zH kd (zPm vl j mo) mm)) (fun (u : Int32) => some (.int u)) (fun (u : Int32) => [(la, .inl (cI, 25, .inl fa)), (lg, .inl (cI, 4, .inl fg)), (lt, .inl (cI, 17, .inl ft))]) :=
  z_frame2 (wr := [(lg, .inl (cI, 4, .inl fg)), (lt, .inl (cI, 17, .inl ft))]) (zML_of (c_L_heading l D cI cJ la0 j mo la fa n kd ln lo hi vl mm hA hn hmm hla)) [0] [1, 2] rfl rfl (by decide) (by decide) (by decide) (fun _ => rfl) [2, 0, 1] (fun u hu => ⟨u, hu, rfl, rfl⟩)

set_option maxHeartbeats 4000000 in
theorem c3_tips (l : Launch) (hfl : l.stackTraces = false) (D : va_G) (cI cJ : ClassId) (bx : Int32) (j : Int32) (mo : Int32) (la : Nat) (fa : Nat → Int32) (lg : Nat) (fg : Nat → Int32) (lt : Nat) (ft : Nat → Int32) (n : Nat) (kd : Nat → Int32) (ln : Nat → Int32) (lo : Nat → Int32) (hi : Nat → Int32) (vl : Nat → Int32) (gx : Int32) (gy : Int32) (sl : Int32) (hA : zAr n fa kd ln lo hi vl) (hGs : zGs fg n gx gy sl) (hT : zTt ft) (hkd : zKd n kd) (hn : n ≤ 5) : zML l yL_tips wsL_tips 1 0 D cI cJ [.int bx, .int j, .int mo, .ref la, .ref lg, .ref lt] ([(la, .inl (cI, 25, .inl fa)), (lg, .inl (cI, 4, .inl fg)), (lt, .inl (cI, 17, .inl ft))]) (fun (u : Int32) => (u = zXY bx kd ln (zPm vl j mo) n)) (fun (u : Int32) => some (.int u)) (fun (u : Int32) => [(la, .inl (cI, 25, .inl fa)), (lg, .inl (cI, 4, .inl fg)), (lt, .inl (cI, 17, .inl ft))]) :=
  z_frame2 (wr := []) (zML_of (c_L_tips l D cI cJ bx j mo la fa lg fg lt ft n kd ln lo hi vl gx gy sl hA hGs hT hkd hn)) [0, 1, 2] [] rfl rfl (by decide) (by decide) (by decide) (fun _ => rfl) [0, 1, 2] (fun u hu => ⟨u, hu, rfl, rfl⟩)

set_option maxHeartbeats 4000000 in
theorem c3_far (l : Launch) (hfl : l.stackTraces = false) (D : va_G) (cI cJ : ClassId) (j : Int32) (mo : Int32) (la : Nat) (fa : Nat → Int32) (lg : Nat) (fg : Nat → Int32) (lt : Nat) (ft : Nat → Int32) (n : Nat) (kd : Nat → Int32) (ln : Nat → Int32) (lo : Nat → Int32) (hi : Nat → Int32) (vl : Nat → Int32) (gx : Int32) (gy : Int32) (sl : Int32) (hA : zAr n fa kd ln lo hi vl) (hGs : zGs fg n gx gy sl) (hT : zTt ft) (hkd : zKd n kd) (hn : n ≤ 5) (hl9 : zLok n ln) (hp9 : zPok n (zPm vl j mo)) (hgx : zB 1000000 gx) (hgy : zB 1000000 gy) : zML l yL_far wsL_far 2 0 D cI cJ [.int j, .int mo, .ref la, .ref lg, .ref lt] ([(la, .inl (cI, 25, .inl fa)), (lg, .inl (cI, 4, .inl fg)), (lt, .inl (cI, 17, .inl ft))]) (fun (u : Int64) => (u = zFar gx gy (zX kd ln (zPm vl j mo) n) (zY kd ln (zPm vl j mo) n))) (fun (u : Int64) => some (.long u)) (fun (u : Int64) => [(la, .inl (cI, 25, .inl fa)), (lg, .inl (cI, 4, .inl fg)), (lt, .inl (cI, 17, .inl ft))]) :=
  z_frame2 (wr := []) (zML_of (c_L_far l D cI cJ j mo la fa lg fg lt ft n kd ln lo hi vl gx gy sl hA hGs hT hkd hn hl9 hp9 hgx hgy)) [0, 1, 2] [] rfl rfl (by decide) (by decide) (by decide) (fun _ => rfl) [0, 1, 2] (fun u hu => ⟨u, hu, rfl, rfl⟩)

set_option maxHeartbeats 4000000 in
theorem c3_poses (l : Launch) (hfl : l.stackTraces = false) (D : va_G) (cI cJ : ClassId) (la : Nat) (fa : Nat → Int32) (lg : Nat) (fg : Nat → Int32) (n : Nat) (kd : Nat → Int32) (ln : Nat → Int32) (lo : Nat → Int32) (hi : Nat → Int32) (vl : Nat → Int32) (gx : Int32) (gy : Int32) (sl : Int32) (lt : Nat) (ft : Nat → Int32) (hA : zAr n fa kd ln lo hi vl) (hGs : zGs fg n gx gy sl) (hok : zOk n kd ln lo hi vl) : zML l yL_poses wsL_poses 0 0 D cI cJ [.ref la, .ref lg] ([(la, .inl (cI, 25, .inl fa)), (lg, .inl (cI, 4, .inl fg)), (lt, .inl (cI, 17, .inl ft))]) (fun (u : Int32) => (u = nI (zMil lo hi n))) (fun (u : Int32) => some (.int u)) (fun (u : Int32) => [(la, .inl (cI, 25, .inl fa)), (lg, .inl (cI, 4, .inl fg)), (lt, .inl (cI, 17, .inl ft))]) :=
  z_frame2 (wr := [(lt, .inl (cI, 17, .inl ft))]) (zML_of (c_L_poses l D cI cJ la fa lg fg n kd ln lo hi vl gx gy sl hA hGs hok)) [0, 1] [2] rfl rfl (by decide) (by decide) (by decide) (fun _ => rfl) [1, 2, 0] (fun u hu => ⟨u, hu, rfl, rfl⟩)

set_option maxHeartbeats 4000000 in
theorem c3_reaches (l : Launch) (hfl : l.stackTraces = false) (D : va_G) (cI cJ : ClassId) (la : Nat) (fa : Nat → Int32) (lg : Nat) (fg : Nat → Int32) (lt : Nat) (ft : Nat → Int32) (n : Nat) (kd : Nat → Int32) (ln : Nat → Int32) (lo : Nat → Int32) (hi : Nat → Int32) (vl : Nat → Int32) (gx : Int32) (gy : Int32) (sl : Int32) (hA : zAr n fa kd ln lo hi vl) (hGs : zGs fg n gx gy sl) (hT : zTt ft) (hkd : zKd n kd) (hok : zOk n kd ln lo hi vl) (hgx : zB 1000000 gx) (hgy : zB 1000000 gy) (hsl : 0 ≤ sl.toInt ∧ sl.toInt ≤ 100000) (hn0 : ¬ n = 0) (hfew : zPw lo hi n ≤ 40000) : zML l yL_reaches wsL_reaches 3 5 D cI cJ [.ref la, .ref lg, .ref lt] ([(la, .inl (cI, 25, .inl fa)), (lg, .inl (cI, 4, .inl fg)), (lt, .inl (cI, 17, .inl ft))]) (fun (u : Int32) => (u = nI (zAll kd ln lo hi vl n gx gy sl 0).1)) (fun (u : Int32) => some (.int u)) (fun (u : Int32) => [(la, .inl (cI, 25, .inl fa)), (lg, .inl (cI, 4, .inl fg)), (lt, .inl (cI, 17, .inl ft))]) :=
  z_frame2 (wr := []) (c_L_reaches l hfl D cI cJ la fa lg fg lt ft n kd ln lo hi vl gx gy sl hA hGs hT hkd hok hgx hgy hsl hn0 hfew) [0, 1, 2] [] rfl rfl (by decide) (by decide) (by decide) (fun _ => rfl) [0, 1, 2] (fun u hu => ⟨u, hu, rfl, rfl⟩)

set_option maxHeartbeats 4000000 in
theorem c3_ranked (l : Launch) (hfl : l.stackTraces = false) (D : va_G) (cI cJ : ClassId) (rk : Nat) (bq : Int32) (la : Nat) (fa : Nat → Int32) (lg : Nat) (fg : Nat → Int32) (lt : Nat) (ft : Nat → Int32) (n : Nat) (kd : Nat → Int32) (ln : Nat → Int32) (lo : Nat → Int32) (hi : Nat → Int32) (vl : Nat → Int32) (gx : Int32) (gy : Int32) (sl : Int32) (hA : zAr n fa kd ln lo hi vl) (hGs : zGs fg n gx gy sl) (hT : zTt ft) (hkd : zKd n kd) (hok : zOk n kd ln lo hi vl) (hgx : zB 1000000 gx) (hgy : zB 1000000 gy) (hsl : 0 ≤ sl.toInt ∧ sl.toInt ≤ 100000) (hn0 : ¬ n = 0) (hfew : zPw lo hi n ≤ 40000) (hrk : rk < 10) (hbq : zB3 bq) : zML l yL_ranked wsL_ranked 3 5 D cI cJ [.int (nI rk), .int bq, .ref la, .ref lg, .ref lt] ([(la, .inl (cI, 25, .inl fa)), (lg, .inl (cI, 4, .inl fg)), (lt, .inl (cI, 17, .inl ft))]) (fun (u : Int32) => (u = if rk < (zAll kd ln lo hi vl n gx gy sl bq).1 then nI ((zAll kd ln lo hi vl n gx gy sl bq).2.2 rk) else -1)) (fun (u : Int32) => some (.int u)) (fun (u : Int32) => [(la, .inl (cI, 25, .inl fa)), (lg, .inl (cI, 4, .inl fg)), (lt, .inl (cI, 17, .inl ft))]) :=
  z_frame2 (wr := []) (c_L_ranked l hfl D cI cJ rk bq la fa lg fg lt ft n kd ln lo hi vl gx gy sl hA hGs hT hkd hok hgx hgy hsl hn0 hfew hrk hbq) [0, 1, 2] [] rfl rfl (by decide) (by decide) (by decide) (fun _ => rfl) [0, 1, 2] (fun u hu => ⟨u, hu, rfl, rfl⟩)

set_option maxHeartbeats 4000000 in
theorem c4_heading (l : Launch) (hfl : l.stackTraces = false) (D : va_G) (cI cJ : ClassId) (la0 : Int32) (j : Int32) (mo : Int32) (la : Nat) (fa : Nat → Int32) (n : Nat) (kd : Nat → Int32) (ln : Nat → Int32) (lo : Nat → Int32) (hi : Nat → Int32) (vl : Nat → Int32) (mm : Nat) (lb : Nat) (fb : Nat → Int32) (lg : Nat) (fg : Nat → Int32) (lt : Nat) (ft : Nat → Int32) (hA : zAr n fa kd ln lo hi vl) (hn : n ≤ 5) (hmm : mm ≤ n) (hla : la0 = nI mm - 1) : zML l yL_heading wsL_heading 0 0 D cI cJ [.int la0, .int j, .int mo, .ref la] ([(lb, .inl (cI, 25, .inl fb)), (la, .inl (cI, 25, .inl fa)), (lg, .inl (cI, 4, .inl fg)), (lt, .inl (cI, 17, .inl ft))]) (fun (u : Int32) => (u = zH kd (zPm vl j mo) mm)) (fun (u : Int32) => some (.int u)) (fun (u : Int32) => [(lb, .inl (cI, 25, .inl fb)), (la, .inl (cI, 25, .inl fa)), (lg, .inl (cI, 4, .inl fg)), (lt, .inl (cI, 17, .inl ft))]) :=
  z_frame2 (wr := [(lb, .inl (cI, 25, .inl fb)), (lg, .inl (cI, 4, .inl fg)), (lt, .inl (cI, 17, .inl ft))]) (zML_of (c_L_heading l D cI cJ la0 j mo la fa n kd ln lo hi vl mm hA hn hmm hla)) [1] [0, 2, 3] rfl rfl (by decide) (by decide) (by decide) (fun _ => rfl) [0, 3, 1, 2] (fun u hu => ⟨u, hu, rfl, rfl⟩)

set_option maxHeartbeats 4000000 in
theorem c4_tips (l : Launch) (hfl : l.stackTraces = false) (D : va_G) (cI cJ : ClassId) (bx : Int32) (j : Int32) (mo : Int32) (la : Nat) (fa : Nat → Int32) (lg : Nat) (fg : Nat → Int32) (lt : Nat) (ft : Nat → Int32) (n : Nat) (kd : Nat → Int32) (ln : Nat → Int32) (lo : Nat → Int32) (hi : Nat → Int32) (vl : Nat → Int32) (gx : Int32) (gy : Int32) (sl : Int32) (lb : Nat) (fb : Nat → Int32) (hA : zAr n fa kd ln lo hi vl) (hGs : zGs fg n gx gy sl) (hT : zTt ft) (hkd : zKd n kd) (hn : n ≤ 5) : zML l yL_tips wsL_tips 1 0 D cI cJ [.int bx, .int j, .int mo, .ref la, .ref lg, .ref lt] ([(lb, .inl (cI, 25, .inl fb)), (la, .inl (cI, 25, .inl fa)), (lg, .inl (cI, 4, .inl fg)), (lt, .inl (cI, 17, .inl ft))]) (fun (u : Int32) => (u = zXY bx kd ln (zPm vl j mo) n)) (fun (u : Int32) => some (.int u)) (fun (u : Int32) => [(lb, .inl (cI, 25, .inl fb)), (la, .inl (cI, 25, .inl fa)), (lg, .inl (cI, 4, .inl fg)), (lt, .inl (cI, 17, .inl ft))]) :=
  z_frame2 (wr := [(lb, .inl (cI, 25, .inl fb))]) (zML_of (c_L_tips l D cI cJ bx j mo la fa lg fg lt ft n kd ln lo hi vl gx gy sl hA hGs hT hkd hn)) [1, 2, 3] [0] rfl rfl (by decide) (by decide) (by decide) (fun _ => rfl) [0, 1, 2, 3] (fun u hu => ⟨u, hu, rfl, rfl⟩)

set_option maxHeartbeats 4000000 in
theorem c4_far (l : Launch) (hfl : l.stackTraces = false) (D : va_G) (cI cJ : ClassId) (j : Int32) (mo : Int32) (la : Nat) (fa : Nat → Int32) (lg : Nat) (fg : Nat → Int32) (lt : Nat) (ft : Nat → Int32) (n : Nat) (kd : Nat → Int32) (ln : Nat → Int32) (lo : Nat → Int32) (hi : Nat → Int32) (vl : Nat → Int32) (gx : Int32) (gy : Int32) (sl : Int32) (lb : Nat) (fb : Nat → Int32) (hA : zAr n fa kd ln lo hi vl) (hGs : zGs fg n gx gy sl) (hT : zTt ft) (hkd : zKd n kd) (hn : n ≤ 5) (hl9 : zLok n ln) (hp9 : zPok n (zPm vl j mo)) (hgx : zB 1000000 gx) (hgy : zB 1000000 gy) : zML l yL_far wsL_far 2 0 D cI cJ [.int j, .int mo, .ref la, .ref lg, .ref lt] ([(lb, .inl (cI, 25, .inl fb)), (la, .inl (cI, 25, .inl fa)), (lg, .inl (cI, 4, .inl fg)), (lt, .inl (cI, 17, .inl ft))]) (fun (u : Int64) => (u = zFar gx gy (zX kd ln (zPm vl j mo) n) (zY kd ln (zPm vl j mo) n))) (fun (u : Int64) => some (.long u)) (fun (u : Int64) => [(lb, .inl (cI, 25, .inl fb)), (la, .inl (cI, 25, .inl fa)), (lg, .inl (cI, 4, .inl fg)), (lt, .inl (cI, 17, .inl ft))]) :=
  z_frame2 (wr := [(lb, .inl (cI, 25, .inl fb))]) (zML_of (c_L_far l D cI cJ j mo la fa lg fg lt ft n kd ln lo hi vl gx gy sl hA hGs hT hkd hn hl9 hp9 hgx hgy)) [1, 2, 3] [0] rfl rfl (by decide) (by decide) (by decide) (fun _ => rfl) [0, 1, 2, 3] (fun u hu => ⟨u, hu, rfl, rfl⟩)

set_option maxHeartbeats 4000000 in
theorem c4_poses (l : Launch) (hfl : l.stackTraces = false) (D : va_G) (cI cJ : ClassId) (la : Nat) (fa : Nat → Int32) (lg : Nat) (fg : Nat → Int32) (n : Nat) (kd : Nat → Int32) (ln : Nat → Int32) (lo : Nat → Int32) (hi : Nat → Int32) (vl : Nat → Int32) (gx : Int32) (gy : Int32) (sl : Int32) (lb : Nat) (fb : Nat → Int32) (lt : Nat) (ft : Nat → Int32) (hA : zAr n fa kd ln lo hi vl) (hGs : zGs fg n gx gy sl) (hok : zOk n kd ln lo hi vl) : zML l yL_poses wsL_poses 0 0 D cI cJ [.ref la, .ref lg] ([(lb, .inl (cI, 25, .inl fb)), (la, .inl (cI, 25, .inl fa)), (lg, .inl (cI, 4, .inl fg)), (lt, .inl (cI, 17, .inl ft))]) (fun (u : Int32) => (u = nI (zMil lo hi n))) (fun (u : Int32) => some (.int u)) (fun (u : Int32) => [(lb, .inl (cI, 25, .inl fb)), (la, .inl (cI, 25, .inl fa)), (lg, .inl (cI, 4, .inl fg)), (lt, .inl (cI, 17, .inl ft))]) :=
  z_frame2 (wr := [(lb, .inl (cI, 25, .inl fb)), (lt, .inl (cI, 17, .inl ft))]) (zML_of (c_L_poses l D cI cJ la fa lg fg n kd ln lo hi vl gx gy sl hA hGs hok)) [1, 2] [0, 3] rfl rfl (by decide) (by decide) (by decide) (fun _ => rfl) [0, 2, 3, 1] (fun u hu => ⟨u, hu, rfl, rfl⟩)

set_option maxHeartbeats 4000000 in
theorem c4_lays (l : Launch) (hfl : l.stackTraces = false) (D : va_G) (cI cJ : ClassId) (q : Nat) (lb : Nat) (fb : Nat → Int32) (lg : Nat) (fg : Nat → Int32) (n : Nat) (kd : Nat → Int32) (ln : Nat → Int32) (lo : Nat → Int32) (hi : Nat → Int32) (vl : Nat → Int32) (pv : Nat → Int32) (gx : Int32) (gy : Int32) (sl : Int32) (la : Nat) (fa : Nat → Int32) (lt : Nat) (ft : Nat → Int32) (hB : zAr n fb kd ln lo hi pv) (hGs : zGs fg n gx gy sl) (hok : zOk n kd ln lo hi vl) (hq : q ≤ 40000) : zML l yL_lays wsL_lays 0 0 D cI cJ [.int (nI q), .ref lb, .ref lg] ([(lb, .inl (cI, 25, .inl fb)), (la, .inl (cI, 25, .inl fa)), (lg, .inl (cI, 4, .inl fg)), (lt, .inl (cI, 17, .inl ft))]) (fun (u : (Nat → Int32)) => (zAr n u kd ln lo hi (zPk lo hi n q))) (fun (u : (Nat → Int32)) => none) (fun (u : (Nat → Int32)) => [(lb, .inl (cI, 25, .inl u)), (la, .inl (cI, 25, .inl fa)), (lg, .inl (cI, 4, .inl fg)), (lt, .inl (cI, 17, .inl ft))]) :=
  z_frame2 (wr := [(la, .inl (cI, 25, .inl fa)), (lt, .inl (cI, 17, .inl ft))]) (zML_of (c_L_lays l D cI cJ q lb fb lg fg n kd ln lo hi vl pv gx gy sl hB hGs hok hq)) [0, 2] [1, 3] rfl rfl (by decide) (by decide) (by decide) (fun _ => rfl) [2, 0, 3, 1] (fun u hu => ⟨u, hu, rfl, rfl⟩)

theorem zRo_of {n : Nat} {kd ln lo hi vl : Nat → Int32} {gx gy sl : Int32} {FF FF2 : Nat → Nat → Int32} (h : zRo n kd ln lo hi vl gx gy sl FF) (h0 : zL0 (FF2 3) (FF2 4) (FF2 5) (FF2 6)) : zRo n kd ln lo hi vl gx gy sl FF2 := ⟨h.1, h.2.1, h.2.2.1, h.2.2.2.1, h0⟩
theorem zTp_0 (x y h : Int32) : zTp 0 x y h = x := if_pos rfl
theorem zTp_1 (x y h : Int32) : zTp 1 x y h = y := by unfold zTp; rw [if_neg (by decide), if_pos rfl]
theorem zTp_2 (x y h : Int32) : zTp 2 x y h = h := by unfold zTp; rw [if_neg (by decide), if_neg (by decide)]
theorem zJ_lt {n k : Nat} (hn : n ≤ 5) (h : k < n) : zJ n (nI k) := ⟨nI_pos' (by omega), nI_lt h (by omega)⟩
theorem zJ_no {n : Nat} (hn : n ≤ 5) : ¬ zJ n (nI n) := fun h => absurd ((nI_ltI (by omega) (by omega)).mp h.2) (Nat.lt_irrefl n)
section
variable {n : Nat} {kd ln lo hi vl : Nat → Int32} {gx gy : Int32}
theorem zPm_pok (h : zOk n kd ln lo hi vl) : zPok n (zPm vl (-1) 0) := fun j hj => by rw [zPm_m1 h.1 0 j hj]; exact h.p j hj
theorem zPm_pok2 (h : zOk n kd ln lo hi vl) {k : Nat} (hk : k < n) {mo : Int32} (h1 : -101 ≤ (vl k + mo).toInt) (h2 : (vl k + mo).toInt ≤ 101) : zPok n (zPm vl (nI k) mo) := fun j hj => by rw [zPm_po h.1 hk mo j hj]; exact h.po h1 h2 j hj
theorem zFm_m1 (hn : n ≤ 5) : zFar gx gy (zX kd ln (zPm vl (-1) 0) n) (zY kd ln (zPm vl (-1) 0) n) = zFn kd ln vl n gx gy := by
  rw [zX_congr (zPm_m1 hn 0), zY_congr (zPm_m1 hn 0)]; rfl
theorem zFm_po (hn : n ≤ 5) {k : Nat} (hk : k < n) (mo : Int32) : zFar gx gy (zX kd ln (zPm vl (nI k) mo) n) (zY kd ln (zPm vl (nI k) mo) n) = zFw kd ln vl n gx gy (nI k) (vl k + mo) := by
  rw [zX_congr (zPm_po hn hk mo), zY_congr (zPm_po hn hk mo)]; rfl
theorem zXm_po (hn : n ≤ 5) {k : Nat} (hk : k < n) (mo : Int32) : zXY 1 kd ln (zPm vl (nI k) mo) n = zX kd ln (zPo vl (nI k) (vl k + mo)) n := (zXY_x _ _ _ _).trans (zX_congr (zPm_po hn hk mo))
theorem zYm_po (hn : n ≤ 5) {k : Nat} (hk : k < n) (mo : Int32) : zXY 0 kd ln (zPm vl (nI k) mo) n = zY kd ln (zPo vl (nI k) (vl k + mo)) n := (zXY_y _ _ _ _).trans (zY_congr (zPm_po hn hk mo))
theorem zXm_m1 (hn : n ≤ 5) : zXY 1 kd ln (zPm vl (-1) 0) n = zX kd ln vl n := (zXY_x _ _ _ _).trans (zX_congr (zPm_m1 hn 0))
theorem zYm_m1 (hn : n ≤ 5) : zXY 0 kd ln (zPm vl (-1) 0) n = zY kd ln vl n := (zXY_y _ _ _ _).trans (zY_congr (zPm_m1 hn 0))
theorem zHm_m1 (hn : n ≤ 5) : zH kd (zPm vl (-1) 0) n = zH kd vl n := zH_congr (zPm_m1 hn 0)
end
/-- one product less the other, as the law takes the pair -/
def zIt (mx my : Nat → Int32) (j i : Nat) : Int64 := (mx j).toInt64 * (my i).toInt64 - (my j).toInt64 * (mx i).toInt64
section
variable {mx my : Nat → Int32} {ms : Int64} {j i : Nat}
theorem zIt_cr (mx my : Nat → Int32) (j i : Nat) : zCr mx my i j = if 0 < -(zIt mx my j i) then -(zIt mx my j i) else zIt mx my j i := by
  have e : (mx i).toInt64 * (my j).toInt64 - (my i).toInt64 * (mx j).toInt64 = -(zIt mx my j i) := by
    unfold zIt
    rw [Int64.neg_sub, Int64.mul_comm (my j).toInt64, Int64.mul_comm (mx j).toInt64]
  unfold zCr
  rw [e, Int64.neg_neg]
theorem zIt_a (h0 : 0 ≤ ms.toInt) (c : ¬ zIt mx my j i ≤ ms) : zIt mx my j i = if zCr mx my i j < ms then ms else zCr mx my i j := by
  rw [zIt_cr]
  generalize zIt mx my j i = v at *
  have z0 : (0 : Int64).toInt = 0 := by decide
  rw [Int64.le_iff_toInt_le] at c
  have h1 := Int64.le_toInt v
  have h2 := Int64.toInt_lt v
  have hn : (-v).toInt = -v.toInt := by
    rw [Int64.toInt_neg]; exact Int.bmod_eq_of_le_mul_two (by omega) (by omega)
  have g : ¬ 0 < -v := by rw [Int64.lt_iff_toInt_lt, hn, z0]; omega
  rw [if_neg g, if_neg (by rw [Int64.lt_iff_toInt_lt]; omega)]
theorem zIt_b (h0 : 0 ≤ ms.toInt) (c2 : ¬ -(zIt mx my j i) ≤ ms) : -(zIt mx my j i) = if zCr mx my i j < ms then ms else zCr mx my i j := by
  rw [zIt_cr]
  generalize zIt mx my j i = v at *
  have z0 : (0 : Int64).toInt = 0 := by decide
  rw [Int64.le_iff_toInt_le] at c2
  have g : 0 < -v := by rw [Int64.lt_iff_toInt_lt, z0]; omega
  rw [if_pos g, if_neg (by rw [Int64.lt_iff_toInt_lt]; omega)]
theorem zIt_c (c : zIt mx my j i ≤ ms) (c2 : -(zIt mx my j i) ≤ ms) : ms = if zCr mx my i j < ms then ms else zCr mx my i j := by
  rw [zIt_cr]
  generalize zIt mx my j i = v at *
  rw [Int64.le_iff_toInt_le] at c c2
  by_cases g : 0 < -v
  · rw [if_pos g]
    by_cases e : -v < ms
    · rw [if_pos e]
    · rw [if_neg e]
      rw [Int64.lt_iff_toInt_lt] at e
      exact Int64.toInt_inj.mp (by omega)
  · rw [if_neg g]
    by_cases e : v < ms
    · rw [if_pos e]
    · rw [if_neg e]
      rw [Int64.lt_iff_toInt_lt] at e
      exact Int64.toInt_inj.mp (by omega)
end

