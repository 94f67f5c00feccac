/-! THE CLAIM OUT OF ONE WALK OF THE LAW'S BODY. Your part is whole_start (and what it stands on); all else here is the same for every law, but numbers. -/
def R_law : String := "ArmRoomLaw"
def lw_P (b : Addr) (xs : List Int32) (args : Array Value) (s : State) : Prop := args = #[.ref b] ∧ s.IntsAt b xs ∧ xs.length ≤ 260 ∧ (Jvm.Cond.and given_1 narrow_1).before args s = true
def lw_Q (_ : Array Value) (s : State) (o : Outcome) (t : State) : Prop := o = .returned (some (.int 1)) ∧ Framed s o t [] 600104 7301314
def lw_Z (below : List Frame) (a : Array Value) (s : State) : State → Prop := fun t => ∃ o, t.status = .running ∧ Ended t below o ∧ lw_Q a s o t
/-- the law's own end, with 1 on the stack, nothing written that was there before, its room as the claim has it -/
theorem lw_ret {p : Program} {l : Launch} {e : Env} {s : State} {m : MethodId} {below : List Frame} {meth : Method} {c : Code} {b : Nat} (hx : p.tables.exec = Jvm.exec) (hb : c.code = code) (hr : meth.sig.returnType = ret) (hlocks : meth.locks = false) {pc : Nat} {H : Heap} {ls : Array Slot} (hdg : decode code pc = .ok (.ireturn, 1)) : W p l e room_1 s m #[Value.ref b] below meth c H [] 600104 7301314 (lw_Z below #[Value.ref b] s) (F0 m pc ls [.int 1]) := by
  intro T hT X
  obtain ⟨fs, hret, hrun, hended, hW, hframe⟩ := X.leave (v := some (.int 1)) (hlocks := hlocks) (fun h => by rw [hr] at h; cases h)
  have hmeth' : T.vm.method? m = some meth := X.method'
  refine ⟨T.setFrames fs, ?_, .returned (some (.int 1)), hrun, hended, rfl, ⟨_, rfl⟩, hW, hframe⟩
  jvm_step X.here [X.here.top, hx, hb, hdg, hmeth', hr, ret, narrow_b1]
  (try refine ⟨rfl, ?_⟩); (try refine ⟨rfl, ?_⟩)
  first | (intro acts; rw [hret _ acts rfl rfl rfl]) | rw [hret _ _ rfl rfl rfl]
  exact Steps.refl _
/-- what holds at the law's entry: the machine, the code, the tables' words (any of lw_tbl by 'hts w (by decide +kernel)'), the script of L ints xs at the cell b, what the Statement gives of the start (any of its parts by flat_of_before) -/
def lw_At (p : Program) (s : State) (m : MethodId) (meth : Method) (c : Code) (b L : Nat) (xs : Nat → Int32) : Prop :=
  p.tables.exec = Jvm.exec ∧ c.code = code ∧ meth.sig.returnType = ret ∧ c.maxLocals = 34 ∧ s.vm.findClass R_law = some m.cls ∧ (∀ w ∈ lw_tbl, w.before #[Value.ref b] s = true) ∧ va_X b L xs s s.heap ∧ b < s.heap.size ∧ meth.locks = false ∧ (Jvm.Cond.and given_1 narrow_1).before #[Value.ref b] s = true
-- ===== YOUR PART BEGINS =====
set_option maxHeartbeats 4000000 in
set_option maxRecDepth 100000 in
theorem whole_start {p : Program} {e : Env} {s : State} {m : MethodId} {below : List Frame} {meth : Method} {c : Code} (l : Launch) (hflags : l.flags = flags0) {b L : Nat} {xs : Nat → Int32} (hL : L ≤ 260) (C0 : lw_At p s m meth c b L xs) : W p l e room_1 s m #[Value.ref b] below meth c s.heap [] 0 0 (lw_Z below #[Value.ref b] s) (entryFrame m ([Value.ref b] : List Value).toArray 34) := by
  obtain ⟨hx, hb, hr, hml, hown, hts, hX, hbl, hlocks, hgv⟩ := C0
  have hfl := zfl hflags
  have hA : ∀ q : Nat, s.heap.size ≤ q → (fun q : Nat => s.heap.size ≤ q) q := fun _ h => h
  obtain ⟨D, cI, cJ, hK⟩ := zK_start hts
  have hG := zG_start hts hgv
  have hN := hG.1
  have htl : ∀ w ∈ wsL_law, w.before #[Value.ref b] s = true := fun w h => hts w (wsL_law_in w h)
  have hown : s.vm.findClass RL = some m.cls := hown
  have hb : c.code = cL_law := hb
  have hS : va_S (fun q : Nat => s.heap.size ≤ q) s.heap s.heap [] := va_S.rf
  have hP : va_P D vwCl [] s.heap := fun k q h => by simp at h
  have hD : va_D (fun q : Nat => s.heap.size ≤ q) [] := ⟨fun i j p q h => by simp at h, fun k q h => by simp at h⟩
  have hD0 := hD
  have hl := lv_entry ([.ref b]) (n := 34) (Nat.le_of_ble_eq_true rfl)
  rw [lg_entry_eq]
  generalize (lg_sl ([.ref b]) ++ List.replicate (34 - (lg_sl ([.ref b])).length) Slot.unset).toArray = ls at hl ⊢
  have hl : lv_has ls 34 [(0, .ref b)] := hl
  refine va_new (ci := 5) (fs := [.null, .null, .null, .null, .null, .null, .null]) (C := RX5) (T := TX5) (N := 7) hx hb hts (fun w h => inX5 w h) tyX5 tyX5_ok hown (hts (.classLink RL 9 RX5) (by decide +kernel)) (hts (.instantiable RX5 7) (by decide +kernel)) (hts (.initialized RX5) (by decide +kernel)) hK hP hD hS hA rfl (fun j hj => by rcases (show j = 0 ∨ j = 1 ∨ j = 2 ∨ j = 3 ∨ j = 4 ∨ j = 5 ∨ j = 6 by omega) with rfl | rfl | rfl | rfl | rfl | rfl | rfl <;> rfl) (Nat.le_of_ble_eq_true rfl) (Nat.le_of_ble_eq_true rfl) dL_law_0 (fun oo H hP hD hS => ?_)
  replace hP : va_P D vwCl ([] ++ [(oo, .inr (5, [.null, .null, .null, .null, .null, .null, .null]))]) H := hP
  replace hP : va_P D vwCl [(oo, .inr (5, [.null, .null, .null, .null, .null, .null, .null]))] H := hP
  replace hD : va_D (fun q : Nat => s.heap.size ≤ q) [(oo, .inr (5, [.null, .null, .null, .null, .null, .null, .null]))] := hD
  refine lv_dup hx hb dL_law_3 rfl ?_
  refine z_callI (rest := [.ref oo]) (wr := []) ⟨hx, hb, hml, hown, htl⟩ hN hK hP hD hS hA (c_X5_init l D cI cJ oo H.size) (cwI 0 htl gL_law_X5_init rfl rfl rfl (hts (.initialized RX5) (by decide +kernel)) (hts (.methodLink RL 123 yX5_init) (by decide +kernel)) (hts (.instanceMethod yX5_init) (by decide +kernel)) rfl (by decide +kernel) ⟨Nat.le_of_ble_eq_true rfl, Nat.le_of_ble_eq_true rfl⟩) [0] [] (by decide) rfl rfl (by decide) (by decide) hl.1 rfl (Nat.le_of_ble_eq_true rfl) dL_law_4 ⟨Nat.le_of_ble_eq_true rfl, Nat.le_of_ble_eq_true rfl⟩ (fun u H locs _ hP hD hS => ?_)
  obtain ⟨a, k1, k2, k3, k4, k5, g, t1, t2, s9, rk, ky, rw, pa, re, xa, ya, ha, wa, m1, m2⟩ := u
  replace hP : va_P D vwCl [(oo, .inr (5, [.ref a, .ref g, .ref t1, .ref t2, .ref s9, .ref m1, .ref m2])), (a, .inr (0, [.ref k1, .ref k2, .ref k3, .ref k4, .ref k5, .int 0])), (k1, .inl (cI, 5, .inl (fun _ => 0))), (k2, .inl (cI, 5, .inl (fun _ => 0))), (k3, .inl (cI, 5, .inl (fun _ => 0))), (k4, .inl (cI, 5, .inl (fun _ => 0))), (k5, .inl (cI, 5, .inl (fun _ => 0))), (g, .inr (1, [.int 0, .int 0, .int 10000])), (t1, .inr (4, [.int 0, .int 0, .int 0])), (t2, .inr (4, [.int 0, .int 0, .int 0])), (s9, .inr (3, [.ref rk, .ref pa, .ref re, .ref xa, .ref ya, .ref ha, .ref wa])), (rk, .inr (2, [.ref ky, .ref rw, .int 0])), (ky, .inl (cJ, 10, .inr (.inl (fun _ => 0)))), (rw, .inl (cI, 50, .inl (fun _ => 0))), (pa, .inl (cI, 5, .inl (fun _ => 0))), (re, .inl (cI, 6, .inl (fun _ => 0))), (xa, .inl (cI, 6, .inl (fun _ => 0))), (ya, .inl (cI, 6, .inl (fun _ => 0))), (ha, .inl (cI, 6, .inl (fun _ => 0))), (wa, .inl (cI, 6, .inl (fun _ => 0))), (m1, .inl (cI, 5, .inl (fun _ => 0))), (m2, .inl (cI, 5, .inl (fun _ => 0)))] H := hP
  replace hD : va_D (fun q : Nat => s.heap.size ≤ q) [(oo, .inr (5, [.ref a, .ref g, .ref t1, .ref t2, .ref s9, .ref m1, .ref m2])), (a, .inr (0, [.ref k1, .ref k2, .ref k3, .ref k4, .ref k5, .int 0])), (k1, .inl (cI, 5, .inl (fun _ => 0))), (k2, .inl (cI, 5, .inl (fun _ => 0))), (k3, .inl (cI, 5, .inl (fun _ => 0))), (k4, .inl (cI, 5, .inl (fun _ => 0))), (k5, .inl (cI, 5, .inl (fun _ => 0))), (g, .inr (1, [.int 0, .int 0, .int 10000])), (t1, .inr (4, [.int 0, .int 0, .int 0])), (t2, .inr (4, [.int 0, .int 0, .int 0])), (s9, .inr (3, [.ref rk, .ref pa, .ref re, .ref xa, .ref ya, .ref ha, .ref wa])), (rk, .inr (2, [.ref ky, .ref rw, .int 0])), (ky, .inl (cJ, 10, .inr (.inl (fun _ => 0)))), (rw, .inl (cI, 50, .inl (fun _ => 0))), (pa, .inl (cI, 5, .inl (fun _ => 0))), (re, .inl (cI, 6, .inl (fun _ => 0))), (xa, .inl (cI, 6, .inl (fun _ => 0))), (ya, .inl (cI, 6, .inl (fun _ => 0))), (ha, .inl (cI, 6, .inl (fun _ => 0))), (wa, .inl (cI, 6, .inl (fun _ => 0))), (m1, .inl (cI, 5, .inl (fun _ => 0))), (m2, .inl (cI, 5, .inl (fun _ => 0)))] := hD
  refine lv_astore_n (lv' := [(1, .ref oo), (0, .ref b)]) hx hb dL_law_7 rfl hl (by decide) rfl (fun ls hl => ?_)
  refine lv_bipush (v := 25) hx hb dL_law_8 (by decide) ?_
  refine z_newi hx hb (hts (.arrayClass .int) (by decide +kernel)) hK hP hD hS hA 25 (by decide) (by decide) (by decide) (Nat.le_of_ble_eq_true rfl) (Nat.le_of_ble_eq_true rfl) dL_law_10 (fun la H hP hD hS => ?_)
  replace hP : va_P D vwCl [(oo, .inr (5, [.ref a, .ref g, .ref t1, .ref t2, .ref s9, .ref m1, .ref m2])), (a, .inr (0, [.ref k1, .ref k2, .ref k3, .ref k4, .ref k5, .int 0])), (k1, .inl (cI, 5, .inl (fun _ => 0))), (k2, .inl (cI, 5, .inl (fun _ => 0))), (k3, .inl (cI, 5, .inl (fun _ => 0))), (k4, .inl (cI, 5, .inl (fun _ => 0))), (k5, .inl (cI, 5, .inl (fun _ => 0))), (g, .inr (1, [.int 0, .int 0, .int 10000])), (t1, .inr (4, [.int 0, .int 0, .int 0])), (t2, .inr (4, [.int 0, .int 0, .int 0])), (s9, .inr (3, [.ref rk, .ref pa, .ref re, .ref xa, .ref ya, .ref ha, .ref wa])), (rk, .inr (2, [.ref ky, .ref rw, .int 0])), (ky, .inl (cJ, 10, .inr (.inl (fun _ => 0)))), (rw, .inl (cI, 50, .inl (fun _ => 0))), (pa, .inl (cI, 5, .inl (fun _ => 0))), (re, .inl (cI, 6, .inl (fun _ => 0))), (xa, .inl (cI, 6, .inl (fun _ => 0))), (ya, .inl (cI, 6, .inl (fun _ => 0))), (ha, .inl (cI, 6, .inl (fun _ => 0))), (wa, .inl (cI, 6, .inl (fun _ => 0))), (m1, .inl (cI, 5, .inl (fun _ => 0))), (m2, .inl (cI, 5, .inl (fun _ => 0))), (la, .inl (cI, 25, .inl (fun _ => 0)))] H := hP
  replace hD : va_D (fun q : Nat => s.heap.size ≤ q) [(oo, .inr (5, [.ref a, .ref g, .ref t1, .ref t2, .ref s9, .ref m1, .ref m2])), (a, .inr (0, [.ref k1, .ref k2, .ref k3, .ref k4, .ref k5, .int 0])), (k1, .inl (cI, 5, .inl (fun _ => 0))), (k2, .inl (cI, 5, .inl (fun _ => 0))), (k3, .inl (cI, 5, .inl (fun _ => 0))), (k4, .inl (cI, 5, .inl (fun _ => 0))), (k5, .inl (cI, 5, .inl (fun _ => 0))), (g, .inr (1, [.int 0, .int 0, .int 10000])), (t1, .inr (4, [.int 0, .int 0, .int 0])), (t2, .inr (4, [.int 0, .int 0, .int 0])), (s9, .inr (3, [.ref rk, .ref pa, .ref re, .ref xa, .ref ya, .ref ha, .ref wa])), (rk, .inr (2, [.ref ky, .ref rw, .int 0])), (ky, .inl (cJ, 10, .inr (.inl (fun _ => 0)))), (rw, .inl (cI, 50, .inl (fun _ => 0))), (pa, .inl (cI, 5, .inl (fun _ => 0))), (re, .inl (cI, 6, .inl (fun _ => 0))), (xa, .inl (cI, 6, .inl (fun _ => 0))), (ya, .inl (cI, 6, .inl (fun _ => 0))), (ha, .inl (cI, 6, .inl (fun _ => 0))), (wa, .inl (cI, 6, .inl (fun _ => 0))), (m1, .inl (cI, 5, .inl (fun _ => 0))), (m2, .inl (cI, 5, .inl (fun _ => 0))), (la, .inl (cI, 25, .inl (fun _ => 0)))] := hD
  refine lv_astore_n (lv' := [(2, .ref la), (1, .ref oo), (0, .ref b)]) hx hb dL_law_12 rfl hl (by decide) rfl (fun ls hl => ?_)
  refine lv_iconst (v := 4) hx hb dL_law_13 (by decide) ?_
  refine z_newi hx hb (hts (.arrayClass .int) (by decide +kernel)) hK hP hD hS hA 4 (by decide) (by decide) (by decide) (Nat.le_of_ble_eq_true rfl) (Nat.le_of_ble_eq_true rfl) dL_law_14 (fun lg H hP hD hS => ?_)
  replace hP : va_P D vwCl [(oo, .inr (5, [.ref a, .ref g, .ref t1, .ref t2, .ref s9, .ref m1, .ref m2])), (a, .inr (0, [.ref k1, .ref k2, .ref k3, .ref k4, .ref k5, .int 0])), (k1, .inl (cI, 5, .inl (fun _ => 0))), (k2, .inl (cI, 5, .inl (fun _ => 0))), (k3, .inl (cI, 5, .inl (fun _ => 0))), (k4, .inl (cI, 5, .inl (fun _ => 0))), (k5, .inl (cI, 5, .inl (fun _ => 0))), (g, .inr (1, [.int 0, .int 0, .int 10000])), (t1, .inr (4, [.int 0, .int 0, .int 0])), (t2, .inr (4, [.int 0, .int 0, .int 0])), (s9, .inr (3, [.ref rk, .ref pa, .ref re, .ref xa, .ref ya, .ref ha, .ref wa])), (rk, .inr (2, [.ref ky, .ref rw, .int 0])), (ky, .inl (cJ, 10, .inr (.inl (fun _ => 0)))), (rw, .inl (cI, 50, .inl (fun _ => 0))), (pa, .inl (cI, 5, .inl (fun _ => 0))), (re, .inl (cI, 6, .inl (fun _ => 0))), (xa, .inl (cI, 6, .inl (fun _ => 0))), (ya, .inl (cI, 6, .inl (fun _ => 0))), (ha, .inl (cI, 6, .inl (fun _ => 0))), (wa, .inl (cI, 6, .inl (fun _ => 0))), (m1, .inl (cI, 5, .inl (fun _ => 0))), (m2, .inl (cI, 5, .inl (fun _ => 0))), (la, .inl (cI, 25, .inl (fun _ => 0))), (lg, .inl (cI, 4, .inl (fun _ => 0)))] H := hP
  replace hD : va_D (fun q : Nat => s.heap.size ≤ q) [(oo, .inr (5, [.ref a, .ref g, .ref t1, .ref t2, .ref s9, .ref m1, .ref m2])), (a, .inr (0, [.ref k1, .ref k2, .ref k3, .ref k4, .ref k5, .int 0])), (k1, .inl (cI, 5, .inl (fun _ => 0))), (k2, .inl (cI, 5, .inl (fun _ => 0))), (k3, .inl (cI, 5, .inl (fun _ => 0))), (k4, .inl (cI, 5, .inl (fun _ => 0))), (k5, .inl (cI, 5, .inl (fun _ => 0))), (g, .inr (1, [.int 0, .int 0, .int 10000])), (t1, .inr (4, [.int 0, .int 0, .int 0])), (t2, .inr (4, [.int 0, .int 0, .int 0])), (s9, .inr (3, [.ref rk, .ref pa, .ref re, .ref xa, .ref ya, .ref ha, .ref wa])), (rk, .inr (2, [.ref ky, .ref rw, .int 0])), (ky, .inl (cJ, 10, .inr (.inl (fun _ => 0)))), (rw, .inl (cI, 50, .inl (fun _ => 0))), (pa, .inl (cI, 5, .inl (fun _ => 0))), (re, .inl (cI, 6, .inl (fun _ => 0))), (xa, .inl (cI, 6, .inl (fun _ => 0))), (ya, .inl (cI, 6, .inl (fun _ => 0))), (ha, .inl (cI, 6, .inl (fun _ => 0))), (wa, .inl (cI, 6, .inl (fun _ => 0))), (m1, .inl (cI, 5, .inl (fun _ => 0))), (m2, .inl (cI, 5, .inl (fun _ => 0))), (la, .inl (cI, 25, .inl (fun _ => 0))), (lg, .inl (cI, 4, .inl (fun _ => 0)))] := hD
  refine lv_astore_n (lv' := [(3, .ref lg), (2, .ref la), (1, .ref oo), (0, .ref b)]) hx hb dL_law_16 rfl hl (by decide) rfl (fun ls hl => ?_)
  refine lv_bipush (v := 17) hx hb dL_law_17 (by decide) ?_
  refine z_newi hx hb (hts (.arrayClass .int) (by decide +kernel)) hK hP hD hS hA 17 (by decide) (by decide) (by decide) (Nat.le_of_ble_eq_true rfl) (Nat.le_of_ble_eq_true rfl) dL_law_19 (fun lt H hP hD hS => ?_)
  replace hP : va_P D vwCl [(oo, .inr (5, [.ref a, .ref g, .ref t1, .ref t2, .ref s9, .ref m1, .ref m2])), (a, .inr (0, [.ref k1, .ref k2, .ref k3, .ref k4, .ref k5, .int 0])), (k1, .inl (cI, 5, .inl (fun _ => 0))), (k2, .inl (cI, 5, .inl (fun _ => 0))), (k3, .inl (cI, 5, .inl (fun _ => 0))), (k4, .inl (cI, 5, .inl (fun _ => 0))), (k5, .inl (cI, 5, .inl (fun _ => 0))), (g, .inr (1, [.int 0, .int 0, .int 10000])), (t1, .inr (4, [.int 0, .int 0, .int 0])), (t2, .inr (4, [.int 0, .int 0, .int 0])), (s9, .inr (3, [.ref rk, .ref pa, .ref re, .ref xa, .ref ya, .ref ha, .ref wa])), (rk, .inr (2, [.ref ky, .ref rw, .int 0])), (ky, .inl (cJ, 10, .inr (.inl (fun _ => 0)))), (rw, .inl (cI, 50, .inl (fun _ => 0))), (pa, .inl (cI, 5, .inl (fun _ => 0))), (re, .inl (cI, 6, .inl (fun _ => 0))), (xa, .inl (cI, 6, .inl (fun _ => 0))), (ya, .inl (cI, 6, .inl (fun _ => 0))), (ha, .inl (cI, 6, .inl (fun _ => 0))), (wa, .inl (cI, 6, .inl (fun _ => 0))), (m1, .inl (cI, 5, .inl (fun _ => 0))), (m2, .inl (cI, 5, .inl (fun _ => 0))), (la, .inl (cI, 25, .inl (fun _ => 0))), (lg, .inl (cI, 4, .inl (fun _ => 0))), (lt, .inl (cI, 17, .inl (fun _ => 0)))] H := hP
  replace hD : va_D (fun q : Nat => s.heap.size ≤ q) [(oo, .inr (5, [.ref a, .ref g, .ref t1, .ref t2, .ref s9, .ref m1, .ref m2])), (a, .inr (0, [.ref k1, .ref k2, .ref k3, .ref k4, .ref k5, .int 0])), (k1, .inl (cI, 5, .inl (fun _ => 0))), (k2, .inl (cI, 5, .inl (fun _ => 0))), (k3, .inl (cI, 5, .inl (fun _ => 0))), (k4, .inl (cI, 5, .inl (fun _ => 0))), (k5, .inl (cI, 5, .inl (fun _ => 0))), (g, .inr (1, [.int 0, .int 0, .int 10000])), (t1, .inr (4, [.int 0, .int 0, .int 0])), (t2, .inr (4, [.int 0, .int 0, .int 0])), (s9, .inr (3, [.ref rk, .ref pa, .ref re, .ref xa, .ref ya, .ref ha, .ref wa])), (rk, .inr (2, [.ref ky, .ref rw, .int 0])), (ky, .inl (cJ, 10, .inr (.inl (fun _ => 0)))), (rw, .inl (cI, 50, .inl (fun _ => 0))), (pa, .inl (cI, 5, .inl (fun _ => 0))), (re, .inl (cI, 6, .inl (fun _ => 0))), (xa, .inl (cI, 6, .inl (fun _ => 0))), (ya, .inl (cI, 6, .inl (fun _ => 0))), (ha, .inl (cI, 6, .inl (fun _ => 0))), (wa, .inl (cI, 6, .inl (fun _ => 0))), (m1, .inl (cI, 5, .inl (fun _ => 0))), (m2, .inl (cI, 5, .inl (fun _ => 0))), (la, .inl (cI, 25, .inl (fun _ => 0))), (lg, .inl (cI, 4, .inl (fun _ => 0))), (lt, .inl (cI, 17, .inl (fun _ => 0)))] := hD
  refine lv_astore (lv' := [(4, .ref lt), (3, .ref lg), (2, .ref la), (1, .ref oo), (0, .ref b)]) hx hb dL_law_21 hl (by decide) rfl (fun ls hl => ?_)
  obtain ⟨ad, had⟩ : ∃ ad : Nat → Nat, ad = (fun k => match k with | 0 => oo | 1 => a | 2 => k1 | 3 => k2 | 4 => k3 | 5 => k4 | 6 => k5 | 7 => g | 8 => t1 | 9 => t2 | 10 => s9 | 11 => rk | 12 => ky | 13 => rw | 14 => pa | 15 => re | 16 => xa | 17 => ya | 18 => ha | 19 => wa | 20 => m1 | _ => m2) := ⟨_, rfl⟩
  have hP : va_P D vwCl ([(la, .inl (cI, 25, .inl (fun _ => 0))), (lg, .inl (cI, 4, .inl (fun _ => 0))), (lt, .inl (cI, 17, .inl (fun _ => 0)))] ++ zWR cI cJ ad 0 (fun _ => 0) (fun _ => 0) (fun _ => 0) (fun _ => 0) (fun _ => 0) 0 0 10000 (fun _ => 0) (fun _ => 0) (fun _ _ => 0)) H := by subst had; exact hP.sub [22, 23, 24, 0, 1, 2, 3, 4, 5, 6, 7, 8, 9, 10, 11, 12, 13, 14, 15, 16, 17, 18, 19, 20, 21] rfl
  have hD : va_D (fun q : Nat => s.heap.size ≤ q) ([(la, .inl (cI, 25, .inl (fun _ => 0))), (lg, .inl (cI, 4, .inl (fun _ => 0))), (lt, .inl (cI, 17, .inl (fun _ => 0)))] ++ zWR cI cJ ad 0 (fun _ => 0) (fun _ => 0) (fun _ => 0) (fun _ => 0) (fun _ => 0) 0 0 10000 (fun _ => 0) (fun _ => 0) (fun _ _ => 0)) := by subst had; exact hD.sub [22, 23, 24, 0, 1, 2, 3, 4, 5, 6, 7, 8, 9, 10, 11, 12, 13, 14, 15, 16, 17, 18, 19, 20, 21] (by decide) rfl
  have hoo : oo = ad 0 := by subst had; rfl
  have hl : lv_has ls 34 [(4, .ref lt), (3, .ref lg), (2, .ref la), (1, .ref (ad 0)), (0, .ref b)] := by rw [← hoo]; exact hl
  clear hoo had
  refine lv_aload hx hb dL_law_23 (lv_at hl 0 rfl) ?_
  refine lv_iconst (v := nI 1) hx hb dL_law_25 (rfl) ?_
  refine lv_bipush (v := 98) hx hb dL_law_26 (by decide) ?_
  refine z_iast hx hb hK hP hD hS 2 rfl (j := 1) (by decide) (by decide) dL_law_28 (fun H locs hP hD hS => ?_)
  replace hP : va_P D vwCl ([(la, .inl (cI, 25, .inl (fun _ => 0))), (lg, .inl (cI, 4, .inl (fun _ => 0))), (lt, .inl (cI, 17, .inl (upd (fun _ => 0) 1 98)))] ++ zWR cI cJ ad 0 (fun _ => 0) (fun _ => 0) (fun _ => 0) (fun _ => 0) (fun _ => 0) 0 0 10000 (fun _ => 0) (fun _ => 0) (fun _ _ => 0)) H := hP
  replace hD : va_D (fun q : Nat => s.heap.size ≤ q) ([(la, .inl (cI, 25, .inl (fun _ => 0))), (lg, .inl (cI, 4, .inl (fun _ => 0))), (lt, .inl (cI, 17, .inl (upd (fun _ => 0) 1 98)))] ++ zWR cI cJ ad 0 (fun _ => 0) (fun _ => 0) (fun _ => 0) (fun _ => 0) (fun _ => 0) 0 0 10000 (fun _ => 0) (fun _ => 0) (fun _ _ => 0)) := hD
  refine lv_aload hx hb dL_law_29 (lv_at hl 0 rfl) ?_
  refine lv_iconst (v := nI 2) hx hb dL_law_31 (rfl) ?_
  refine lv_sipush (v := 195) hx hb dL_law_32 (by decide) ?_
  refine z_iast hx hb hK hP hD hS 2 rfl (j := 2) (by decide) (by decide) dL_law_35 (fun H locs hP hD hS => ?_)
  replace hP : va_P D vwCl ([(la, .inl (cI, 25, .inl (fun _ => 0))), (lg, .inl (cI, 4, .inl (fun _ => 0))), (lt, .inl (cI, 17, .inl (upd (upd (fun _ => 0) 1 98) 2 195)))] ++ zWR cI cJ ad 0 (fun _ => 0) (fun _ => 0) (fun _ => 0) (fun _ => 0) (fun _ => 0) 0 0 10000 (fun _ => 0) (fun _ => 0) (fun _ _ => 0)) H := hP
  replace hD : va_D (fun q : Nat => s.heap.size ≤ q) ([(la, .inl (cI, 25, .inl (fun _ => 0))), (lg, .inl (cI, 4, .inl (fun _ => 0))), (lt, .inl (cI, 17, .inl (upd (upd (fun _ => 0) 1 98) 2 195)))] ++ zWR cI cJ ad 0 (fun _ => 0) (fun _ => 0) (fun _ => 0) (fun _ => 0) (fun _ => 0) 0 0 10000 (fun _ => 0) (fun _ => 0) (fun _ _ => 0)) := hD
  refine lv_aload hx hb dL_law_36 (lv_at hl 0 rfl) ?_
  refine lv_iconst (v := nI 3) hx hb dL_law_38 (rfl) ?_
  refine lv_sipush (v := 290) hx hb dL_law_39 (by decide) ?_
  refine z_iast hx hb hK hP hD hS 2 rfl (j := 3) (by decide) (by decide) dL_law_42 (fun H locs hP hD hS => ?_)
  replace hP : va_P D vwCl ([(la, .inl (cI, 25, .inl (fun _ => 0))), (lg, .inl (cI, 4, .inl (fun _ => 0))), (lt, .inl (cI, 17, .inl (upd (upd (upd (fun _ => 0) 1 98) 2 195) 3 290)))] ++ zWR cI cJ ad 0 (fun _ => 0) (fun _ => 0) (fun _ => 0) (fun _ => 0) (fun _ => 0) 0 0 10000 (fun _ => 0) (fun _ => 0) (fun _ _ => 0)) H := hP
  replace hD : va_D (fun q : Nat => s.heap.size ≤ q) ([(la, .inl (cI, 25, .inl (fun _ => 0))), (lg, .inl (cI, 4, .inl (fun _ => 0))), (lt, .inl (cI, 17, .inl (upd (upd (upd (fun _ => 0) 1 98) 2 195) 3 290)))] ++ zWR cI cJ ad 0 (fun _ => 0) (fun _ => 0) (fun _ => 0) (fun _ => 0) (fun _ => 0) 0 0 10000 (fun _ => 0) (fun _ => 0) (fun _ _ => 0)) := hD
  refine lv_aload hx hb dL_law_43 (lv_at hl 0 rfl) ?_
  refine lv_iconst (v := nI 4) hx hb dL_law_45 (rfl) ?_
  refine lv_sipush (v := 383) hx hb dL_law_46 (by decide) ?_
  refine z_iast hx hb hK hP hD hS 2 rfl (j := 4) (by decide) (by decide) dL_law_49 (fun H locs hP hD hS => ?_)
  replace hP : va_P D vwCl ([(la, .inl (cI, 25, .inl (fun _ => 0))), (lg, .inl (cI, 4, .inl (fun _ => 0))), (lt, .inl (cI, 17, .inl (upd (upd (upd (upd (fun _ => 0) 1 98) 2 195) 3 290) 4 383)))] ++ zWR cI cJ ad 0 (fun _ => 0) (fun _ => 0) (fun _ => 0) (fun _ => 0) (fun _ => 0) 0 0 10000 (fun _ => 0) (fun _ => 0) (fun _ _ => 0)) H := hP
  replace hD : va_D (fun q : Nat => s.heap.size ≤ q) ([(la, .inl (cI, 25, .inl (fun _ => 0))), (lg, .inl (cI, 4, .inl (fun _ => 0))), (lt, .inl (cI, 17, .inl (upd (upd (upd (upd (fun _ => 0) 1 98) 2 195) 3 290) 4 383)))] ++ zWR cI cJ ad 0 (fun _ => 0) (fun _ => 0) (fun _ => 0) (fun _ => 0) (fun _ => 0) 0 0 10000 (fun _ => 0) (fun _ => 0) (fun _ _ => 0)) := hD
  refine lv_aload hx hb dL_law_50 (lv_at hl 0 rfl) ?_
  refine lv_iconst (v := nI 5) hx hb dL_law_52 (rfl) ?_
  refine lv_sipush (v := 471) hx hb dL_law_53 (by decide) ?_
  refine z_iast hx hb hK hP hD hS 2 rfl (j := 5) (by decide) (by decide) dL_law_56 (fun H locs hP hD hS => ?_)
  replace hP : va_P D vwCl ([(la, .inl (cI, 25, .inl (fun _ => 0))), (lg, .inl (cI, 4, .inl (fun _ => 0))), (lt, .inl (cI, 17, .inl (upd (upd (upd (upd (upd (fun _ => 0) 1 98) 2 195) 3 290) 4 383) 5 471)))] ++ zWR cI cJ ad 0 (fun _ => 0) (fun _ => 0) (fun _ => 0) (fun _ => 0) (fun _ => 0) 0 0 10000 (fun _ => 0) (fun _ => 0) (fun _ _ => 0)) H := hP
  replace hD : va_D (fun q : Nat => s.heap.size ≤ q) ([(la, .inl (cI, 25, .inl (fun _ => 0))), (lg, .inl (cI, 4, .inl (fun _ => 0))), (lt, .inl (cI, 17, .inl (upd (upd (upd (upd (upd (fun _ => 0) 1 98) 2 195) 3 290) 4 383) 5 471)))] ++ zWR cI cJ ad 0 (fun _ => 0) (fun _ => 0) (fun _ => 0) (fun _ => 0) (fun _ => 0) 0 0 10000 (fun _ => 0) (fun _ => 0) (fun _ _ => 0)) := hD
  refine lv_aload hx hb dL_law_57 (lv_at hl 0 rfl) ?_
  refine lv_bipush (v := nI 6) hx hb dL_law_59 (rfl) ?_
  refine lv_sipush (v := 556) hx hb dL_law_61 (by decide) ?_
  refine z_iast hx hb hK hP hD hS 2 rfl (j := 6) (by decide) (by decide) dL_law_64 (fun H locs hP hD hS => ?_)
  replace hP : va_P D vwCl ([(la, .inl (cI, 25, .inl (fun _ => 0))), (lg, .inl (cI, 4, .inl (fun _ => 0))), (lt, .inl (cI, 17, .inl (upd (upd (upd (upd (upd (upd (fun _ => 0) 1 98) 2 195) 3 290) 4 383) 5 471) 6 556)))] ++ zWR cI cJ ad 0 (fun _ => 0) (fun _ => 0) (fun _ => 0) (fun _ => 0) (fun _ => 0) 0 0 10000 (fun _ => 0) (fun _ => 0) (fun _ _ => 0)) H := hP
  replace hD : va_D (fun q : Nat => s.heap.size ≤ q) ([(la, .inl (cI, 25, .inl (fun _ => 0))), (lg, .inl (cI, 4, .inl (fun _ => 0))), (lt, .inl (cI, 17, .inl (upd (upd (upd (upd (upd (upd (fun _ => 0) 1 98) 2 195) 3 290) 4 383) 5 471) 6 556)))] ++ zWR cI cJ ad 0 (fun _ => 0) (fun _ => 0) (fun _ => 0) (fun _ => 0) (fun _ => 0) 0 0 10000 (fun _ => 0) (fun _ => 0) (fun _ _ => 0)) := hD
  refine lv_aload hx hb dL_law_65 (lv_at hl 0 rfl) ?_
  refine lv_bipush (v := nI 7) hx hb dL_law_67 (rfl) ?_
  refine lv_sipush (v := 634) hx hb dL_law_69 (by decide) ?_
  refine z_iast hx hb hK hP hD hS 2 rfl (j := 7) (by decide) (by decide) dL_law_72 (fun H locs hP hD hS => ?_)
  replace hP : va_P D vwCl ([(la, .inl (cI, 25, .inl (fun _ => 0))), (lg, .inl (cI, 4, .inl (fun _ => 0))), (lt, .inl (cI, 17, .inl (upd (upd (upd (upd (upd (upd (upd (fun _ => 0) 1 98) 2 195) 3 290) 4 383) 5 471) 6 556) 7 634)))] ++ zWR cI cJ ad 0 (fun _ => 0) (fun _ => 0) (fun _ => 0) (fun _ => 0) (fun _ => 0) 0 0 10000 (fun _ => 0) (fun _ => 0) (fun _ _ => 0)) H := hP
  replace hD : va_D (fun q : Nat => s.heap.size ≤ q) ([(la, .inl (cI, 25, .inl (fun _ => 0))), (lg, .inl (cI, 4, .inl (fun _ => 0))), (lt, .inl (cI, 17, .inl (upd (upd (upd (upd (upd (upd (upd (fun _ => 0) 1 98) 2 195) 3 290) 4 383) 5 471) 6 556) 7 634)))] ++ zWR cI cJ ad 0 (fun _ => 0) (fun _ => 0) (fun _ => 0) (fun _ => 0) (fun _ => 0) 0 0 10000 (fun _ => 0) (fun _ => 0) (fun _ _ => 0)) := hD
  refine lv_aload hx hb dL_law_73 (lv_at hl 0 rfl) ?_
  refine lv_bipush (v := nI 8) hx hb dL_law_75 (rfl) ?_
  refine lv_sipush (v := 707) hx hb dL_law_77 (by decide) ?_
  refine z_iast hx hb hK hP hD hS 2 rfl (j := 8) (by decide) (by decide) dL_law_80 (fun H locs hP hD hS => ?_)
  replace hP : va_P D vwCl ([(la, .inl (cI, 25, .inl (fun _ => 0))), (lg, .inl (cI, 4, .inl (fun _ => 0))), (lt, .inl (cI, 17, .inl (upd (upd (upd (upd (upd (upd (upd (upd (fun _ => 0) 1 98) 2 195) 3 290) 4 383) 5 471) 6 556) 7 634) 8 707)))] ++ zWR cI cJ ad 0 (fun _ => 0) (fun _ => 0) (fun _ => 0) (fun _ => 0) (fun _ => 0) 0 0 10000 (fun _ => 0) (fun _ => 0) (fun _ _ => 0)) H := hP
  replace hD : va_D (fun q : Nat => s.heap.size ≤ q) ([(la, .inl (cI, 25, .inl (fun _ => 0))), (lg, .inl (cI, 4, .inl (fun _ => 0))), (lt, .inl (cI, 17, .inl (upd (upd (upd (upd (upd (upd (upd (upd (fun _ => 0) 1 98) 2 195) 3 290) 4 383) 5 471) 6 556) 7 634) 8 707)))] ++ zWR cI cJ ad 0 (fun _ => 0) (fun _ => 0) (fun _ => 0) (fun _ => 0) (fun _ => 0) 0 0 10000 (fun _ => 0) (fun _ => 0) (fun _ _ => 0)) := hD
  refine lv_aload hx hb dL_law_81 (lv_at hl 0 rfl) ?_
  refine lv_bipush (v := nI 9) hx hb dL_law_83 (rfl) ?_
  refine lv_sipush (v := 773) hx hb dL_law_85 (by decide) ?_
  refine z_iast hx hb hK hP hD hS 2 rfl (j := 9) (by decide) (by decide) dL_law_88 (fun H locs hP hD hS => ?_)
  replace hP : va_P D vwCl ([(la, .inl (cI, 25, .inl (fun _ => 0))), (lg, .inl (cI, 4, .inl (fun _ => 0))), (lt, .inl (cI, 17, .inl (upd (upd (upd (upd (upd (upd (upd (upd (upd (fun _ => 0) 1 98) 2 195) 3 290) 4 383) 5 471) 6 556) 7 634) 8 707) 9 773)))] ++ zWR cI cJ ad 0 (fun _ => 0) (fun _ => 0) (fun _ => 0) (fun _ => 0) (fun _ => 0) 0 0 10000 (fun _ => 0) (fun _ => 0) (fun _ _ => 0)) H := hP
  replace hD : va_D (fun q : Nat => s.heap.size ≤ q) ([(la, .inl (cI, 25, .inl (fun _ => 0))), (lg, .inl (cI, 4, .inl (fun _ => 0))), (lt, .inl (cI, 17, .inl (upd (upd (upd (upd (upd (upd (upd (upd (upd (fun _ => 0) 1 98) 2 195) 3 290) 4 383) 5 471) 6 556) 7 634) 8 707) 9 773)))] ++ zWR cI cJ ad 0 (fun _ => 0) (fun _ => 0) (fun _ => 0) (fun _ => 0) (fun _ => 0) 0 0 10000 (fun _ => 0) (fun _ => 0) (fun _ _ => 0)) := hD
  refine lv_aload hx hb dL_law_89 (lv_at hl 0 rfl) ?_
  refine lv_bipush (v := nI 10) hx hb dL_law_91 (rfl) ?_
  refine lv_sipush (v := 831) hx hb dL_law_93 (by decide) ?_
  refine z_iast hx hb hK hP hD hS 2 rfl (j := 10) (by decide) (by decide) dL_law_96 (fun H locs hP hD hS => ?_)
  replace hP : va_P D vwCl ([(la, .inl (cI, 25, .inl (fun _ => 0))), (lg, .inl (cI, 4, .inl (fun _ => 0))), (lt, .inl (cI, 17, .inl (upd (upd (upd (upd (upd (upd (upd (upd (upd (upd (fun _ => 0) 1 98) 2 195) 3 290) 4 383) 5 471) 6 556) 7 634) 8 707) 9 773) 10 831)))] ++ zWR cI cJ ad 0 (fun _ => 0) (fun _ => 0) (fun _ => 0) (fun _ => 0) (fun _ => 0) 0 0 10000 (fun _ => 0) (fun _ => 0) (fun _ _ => 0)) H := hP
  replace hD : va_D (fun q : Nat => s.heap.size ≤ q) ([(la, .inl (cI, 25, .inl (fun _ => 0))), (lg, .inl (cI, 4, .inl (fun _ => 0))), (lt, .inl (cI, 17, .inl (upd (upd (upd (upd (upd (upd (upd (upd (upd (upd (fun _ => 0) 1 98) 2 195) 3 290) 4 383) 5 471) 6 556) 7 634) 8 707) 9 773) 10 831)))] ++ zWR cI cJ ad 0 (fun _ => 0) (fun _ => 0) (fun _ => 0) (fun _ => 0) (fun _ => 0) 0 0 10000 (fun _ => 0) (fun _ => 0) (fun _ _ => 0)) := hD
  refine lv_aload hx hb dL_law_97 (lv_at hl 0 rfl) ?_
  refine lv_bipush (v := nI 11) hx hb dL_law_99 (rfl) ?_
  refine lv_sipush (v := 882) hx hb dL_law_101 (by decide) ?_
  refine z_iast hx hb hK hP hD hS 2 rfl (j := 11) (by decide) (by decide) dL_law_104 (fun H locs hP hD hS => ?_)
  replace hP : va_P D vwCl ([(la, .inl (cI, 25, .inl (fun _ => 0))), (lg, .inl (cI, 4, .inl (fun _ => 0))), (lt, .inl (cI, 17, .inl (upd (upd (upd (upd (upd (upd (upd (upd (upd (upd (upd (fun _ => 0) 1 98) 2 195) 3 290) 4 383) 5 471) 6 556) 7 634) 8 707) 9 773) 10 831) 11 882)))] ++ zWR cI cJ ad 0 (fun _ => 0) (fun _ => 0) (fun _ => 0) (fun _ => 0) (fun _ => 0) 0 0 10000 (fun _ => 0) (fun _ => 0) (fun _ _ => 0)) H := hP
  replace hD : va_D (fun q : Nat => s.heap.size ≤ q) ([(la, .inl (cI, 25, .inl (fun _ => 0))), (lg, .inl (cI, 4, .inl (fun _ => 0))), (lt, .inl (cI, 17, .inl (upd (upd (upd (upd (upd (upd (upd (upd (upd (upd (upd (fun _ => 0) 1 98) 2 195) 3 290) 4 383) 5 471) 6 556) 7 634) 8 707) 9 773) 10 831) 11 882)))] ++ zWR cI cJ ad 0 (fun _ => 0) (fun _ => 0) (fun _ => 0) (fun _ => 0) (fun _ => 0) 0 0 10000 (fun _ => 0) (fun _ => 0) (fun _ _ => 0)) := hD
  refine lv_aload hx hb dL_law_105 (lv_at hl 0 rfl) ?_
  refine lv_bipush (v := nI 12) hx hb dL_law_107 (rfl) ?_
  refine lv_sipush (v := 924) hx hb dL_law_109 (by decide) ?_
  refine z_iast hx hb hK hP hD hS 2 rfl (j := 12) (by decide) (by decide) dL_law_112 (fun H locs hP hD hS => ?_)
  replace hP : va_P D vwCl ([(la, .inl (cI, 25, .inl (fun _ => 0))), (lg, .inl (cI, 4, .inl (fun _ => 0))), (lt, .inl (cI, 17, .inl (upd (upd (upd (upd (upd (upd (upd (upd (upd (upd (upd (upd (fun _ => 0) 1 98) 2 195) 3 290) 4 383) 5 471) 6 556) 7 634) 8 707) 9 773) 10 831) 11 882) 12 924)))] ++ zWR cI cJ ad 0 (fun _ => 0) (fun _ => 0) (fun _ => 0) (fun _ => 0) (fun _ => 0) 0 0 10000 (fun _ => 0) (fun _ => 0) (fun _ _ => 0)) H := hP
  replace hD : va_D (fun q : Nat => s.heap.size ≤ q) ([(la, .inl (cI, 25, .inl (fun _ => 0))), (lg, .inl (cI, 4, .inl (fun _ => 0))), (lt, .inl (cI, 17, .inl (upd (upd (upd (upd (upd (upd (upd (upd (upd (upd (upd (upd (fun _ => 0) 1 98) 2 195) 3 290) 4 383) 5 471) 6 556) 7 634) 8 707) 9 773) 10 831) 11 882) 12 924)))] ++ zWR cI cJ ad 0 (fun _ => 0) (fun _ => 0) (fun _ => 0) (fun _ => 0) (fun _ => 0) 0 0 10000 (fun _ => 0) (fun _ => 0) (fun _ _ => 0)) := hD
  refine lv_aload hx hb dL_law_113 (lv_at hl 0 rfl) ?_
  refine lv_bipush (v := nI 13) hx hb dL_law_115 (rfl) ?_
  refine lv_sipush (v := 957) hx hb dL_law_117 (by decide) ?_
  refine z_iast hx hb hK hP hD hS 2 rfl (j := 13) (by decide) (by decide) dL_law_120 (fun H locs hP hD hS => ?_)
  replace hP : va_P D vwCl ([(la, .inl (cI, 25, .inl (fun _ => 0))), (lg, .inl (cI, 4, .inl (fun _ => 0))), (lt, .inl (cI, 17, .inl (upd (upd (upd (upd (upd (upd (upd (upd (upd (upd (upd (upd (upd (fun _ => 0) 1 98) 2 195) 3 290) 4 383) 5 471) 6 556) 7 634) 8 707) 9 773) 10 831) 11 882) 12 924) 13 957)))] ++ zWR cI cJ ad 0 (fun _ => 0) (fun _ => 0) (fun _ => 0) (fun _ => 0) (fun _ => 0) 0 0 10000 (fun _ => 0) (fun _ => 0) (fun _ _ => 0)) H := hP
  replace hD : va_D (fun q : Nat => s.heap.size ≤ q) ([(la, .inl (cI, 25, .inl (fun _ => 0))), (lg, .inl (cI, 4, .inl (fun _ => 0))), (lt, .inl (cI, 17, .inl (upd (upd (upd (upd (upd (upd (upd (upd (upd (upd (upd (upd (upd (fun _ => 0) 1 98) 2 195) 3 290) 4 383) 5 471) 6 556) 7 634) 8 707) 9 773) 10 831) 11 882) 12 924) 13 957)))] ++ zWR cI cJ ad 0 (fun _ => 0) (fun _ => 0) (fun _ => 0) (fun _ => 0) (fun _ => 0) 0 0 10000 (fun _ => 0) (fun _ => 0) (fun _ _ => 0)) := hD
  refine lv_aload hx hb dL_law_121 (lv_at hl 0 rfl) ?_
  refine lv_bipush (v := nI 14) hx hb dL_law_123 (rfl) ?_
  refine lv_sipush (v := 981) hx hb dL_law_125 (by decide) ?_
  refine z_iast hx hb hK hP hD hS 2 rfl (j := 14) (by decide) (by decide) dL_law_128 (fun H locs hP hD hS => ?_)
  replace hP : va_P D vwCl ([(la, .inl (cI, 25, .inl (fun _ => 0))), (lg, .inl (cI, 4, .inl (fun _ => 0))), (lt, .inl (cI, 17, .inl (upd (upd (upd (upd (upd (upd (upd (upd (upd (upd (upd (upd (upd (upd (fun _ => 0) 1 98) 2 195) 3 290) 4 383) 5 471) 6 556) 7 634) 8 707) 9 773) 10 831) 11 882) 12 924) 13 957) 14 981)))] ++ zWR cI cJ ad 0 (fun _ => 0) (fun _ => 0) (fun _ => 0) (fun _ => 0) (fun _ => 0) 0 0 10000 (fun _ => 0) (fun _ => 0) (fun _ _ => 0)) H := hP
  replace hD : va_D (fun q : Nat => s.heap.size ≤ q) ([(la, .inl (cI, 25, .inl (fun _ => 0))), (lg, .inl (cI, 4, .inl (fun _ => 0))), (lt, .inl (cI, 17, .inl (upd (upd (upd (upd (upd (upd (upd (upd (upd (upd (upd (upd (upd (upd (fun _ => 0) 1 98) 2 195) 3 290) 4 383) 5 471) 6 556) 7 634) 8 707) 9 773) 10 831) 11 882) 12 924) 13 957) 14 981)))] ++ zWR cI cJ ad 0 (fun _ => 0) (fun _ => 0) (fun _ => 0) (fun _ => 0) (fun _ => 0) 0 0 10000 (fun _ => 0) (fun _ => 0) (fun _ _ => 0)) := hD
  refine lv_aload hx hb dL_law_129 (lv_at hl 0 rfl) ?_
  refine lv_bipush (v := nI 15) hx hb dL_law_131 (rfl) ?_
  refine lv_sipush (v := 995) hx hb dL_law_133 (by decide) ?_
  refine z_iast hx hb hK hP hD hS 2 rfl (j := 15) (by decide) (by decide) dL_law_136 (fun H locs hP hD hS => ?_)
  replace hP : va_P D vwCl ([(la, .inl (cI, 25, .inl (fun _ => 0))), (lg, .inl (cI, 4, .inl (fun _ => 0))), (lt, .inl (cI, 17, .inl (upd (upd (upd (upd (upd (upd (upd (upd (upd (upd (upd (upd (upd (upd (upd (fun _ => 0) 1 98) 2 195) 3 290) 4 383) 5 471) 6 556) 7 634) 8 707) 9 773) 10 831) 11 882) 12 924) 13 957) 14 981) 15 995)))] ++ zWR cI cJ ad 0 (fun _ => 0) (fun _ => 0) (fun _ => 0) (fun _ => 0) (fun _ => 0) 0 0 10000 (fun _ => 0) (fun _ => 0) (fun _ _ => 0)) H := hP
  replace hD : va_D (fun q : Nat => s.heap.size ≤ q) ([(la, .inl (cI, 25, .inl (fun _ => 0))), (lg, .inl (cI, 4, .inl (fun _ => 0))), (lt, .inl (cI, 17, .inl (upd (upd (upd (upd (upd (upd (upd (upd (upd (upd (upd (upd (upd (upd (upd (fun _ => 0) 1 98) 2 195) 3 290) 4 383) 5 471) 6 556) 7 634) 8 707) 9 773) 10 831) 11 882) 12 924) 13 957) 14 981) 15 995)))] ++ zWR cI cJ ad 0 (fun _ => 0) (fun _ => 0) (fun _ => 0) (fun _ => 0) (fun _ => 0) 0 0 10000 (fun _ => 0) (fun _ => 0) (fun _ _ => 0)) := hD
  refine lv_aload hx hb dL_law_137 (lv_at hl 0 rfl) ?_
  refine lv_bipush (v := nI 16) hx hb dL_law_139 (rfl) ?_
  refine lv_sipush (v := 1000) hx hb dL_law_141 (by decide) ?_
  refine z_iast hx hb hK hP hD hS 2 rfl (j := 16) (by decide) (by decide) dL_law_144 (fun H locs hP hD hS => ?_)
  replace hP : va_P D vwCl ([(la, .inl (cI, 25, .inl (fun _ => 0))), (lg, .inl (cI, 4, .inl (fun _ => 0))), (lt, .inl (cI, 17, .inl (upd (upd (upd (upd (upd (upd (upd (upd (upd (upd (upd (upd (upd (upd (upd (upd (fun _ => 0) 1 98) 2 195) 3 290) 4 383) 5 471) 6 556) 7 634) 8 707) 9 773) 10 831) 11 882) 12 924) 13 957) 14 981) 15 995) 16 1000)))] ++ zWR cI cJ ad 0 (fun _ => 0) (fun _ => 0) (fun _ => 0) (fun _ => 0) (fun _ => 0) 0 0 10000 (fun _ => 0) (fun _ => 0) (fun _ _ => 0)) H := hP
  replace hD : va_D (fun q : Nat => s.heap.size ≤ q) ([(la, .inl (cI, 25, .inl (fun _ => 0))), (lg, .inl (cI, 4, .inl (fun _ => 0))), (lt, .inl (cI, 17, .inl (upd (upd (upd (upd (upd (upd (upd (upd (upd (upd (upd (upd (upd (upd (upd (upd (fun _ => 0) 1 98) 2 195) 3 290) 4 383) 5 471) 6 556) 7 634) 8 707) 9 773) 10 831) 11 882) 12 924) 13 957) 14 981) 15 995) 16 1000)))] ++ zWR cI cJ ad 0 (fun _ => 0) (fun _ => 0) (fun _ => 0) (fun _ => 0) (fun _ => 0) 0 0 10000 (fun _ => 0) (fun _ => 0) (fun _ _ => 0)) := hD
  refine lv_aload_n hx hb dL_law_145 rfl (lv_at hl 1 rfl) ?_
  refine lv_iconst (v := nI 3) hx hb dL_law_146 (rfl) ?_
  refine lv_sipush (v := 10000) hx hb dL_law_147 (by decide) ?_
  refine z_iast hx hb hK hP hD hS 1 rfl (j := 3) (by decide) (by decide) dL_law_150 (fun H locs hP hD hS => ?_)
  replace hP : va_P D vwCl ([(la, .inl (cI, 25, .inl (fun _ => 0))), (lg, .inl (cI, 4, .inl (upd (fun _ => 0) 3 10000))), (lt, .inl (cI, 17, .inl (upd (upd (upd (upd (upd (upd (upd (upd (upd (upd (upd (upd (upd (upd (upd (upd (fun _ => 0) 1 98) 2 195) 3 290) 4 383) 5 471) 6 556) 7 634) 8 707) 9 773) 10 831) 11 882) 12 924) 13 957) 14 981) 15 995) 16 1000)))] ++ zWR cI cJ ad 0 (fun _ => 0) (fun _ => 0) (fun _ => 0) (fun _ => 0) (fun _ => 0) 0 0 10000 (fun _ => 0) (fun _ => 0) (fun _ _ => 0)) H := hP
  replace hD : va_D (fun q : Nat => s.heap.size ≤ q) ([(la, .inl (cI, 25, .inl (fun _ => 0))), (lg, .inl (cI, 4, .inl (upd (fun _ => 0) 3 10000))), (lt, .inl (cI, 17, .inl (upd (upd (upd (upd (upd (upd (upd (upd (upd (upd (upd (upd (upd (upd (upd (upd (fun _ => 0) 1 98) 2 195) 3 290) 4 383) 5 471) 6 556) 7 634) 8 707) 9 773) 10 831) 11 882) 12 924) 13 957) 14 981) 15 995) 16 1000)))] ++ zWR cI cJ ad 0 (fun _ => 0) (fun _ => 0) (fun _ => 0) (fun _ => 0) (fun _ => 0) 0 0 10000 (fun _ => 0) (fun _ => 0) (fun _ _ => 0)) := hD
  refine lv_iconst (v := nI 0) hx hb dL_law_151 (rfl) ?_
  refine lv_istore (lv' := [(5, .int (nI 0)), (4, .ref lt), (3, .ref lg), (2, .ref la), (1, .ref (ad 0)), (0, .ref b)]) hx hb dL_law_152 hl (by decide) rfl (fun ls hl => ?_)
  have hT : zTt (upd (upd (upd (upd (upd (upd (upd (upd (upd (upd (upd (upd (upd (upd (upd (upd (fun _ => 0) 1 98) 2 195) 3 290) 4 383) 5 471) 6 556) 7 634) 8 707) 9 773) 10 831) 11 882) 12 924) 13 957) 14 981) 15 995) 16 1000) := by unfold zTt; decide +kernel
  have hGs : zGs (upd (fun _ => 0) 3 10000) 0 0 0 10000 := ⟨rfl, rfl, rfl, rfl⟩
  have hR : zRo 0 (fun _ => 0) (fun _ => 0) (fun _ => 0) (fun _ => 0) (fun _ => 0) 0 0 10000 (fun _ _ => 0) := ⟨⟨Nat.zero_le 5, fun j hj => absurd hj (Nat.not_lt_zero j)⟩, ⟨by decide, by decide⟩, ⟨by decide, by decide⟩, ⟨by decide, by decide⟩, ⟨rfl, rfl, rfl, rfl⟩⟩
  have hAr : zAr 0 (fun _ => 0) (fun _ => 0) (fun _ => 0) (fun _ => 0) (fun _ => 0) (fun _ => 0) := fun k hk => absurd hk (Nat.not_lt_zero k)
  have hkd : zKd 0 (fun _ => 0) := fun k hk => absurd hk (Nat.not_lt_zero k)
  have hF : zLv D cI cJ (fun q : Nat => s.heap.size ≤ q) s.heap H locs ad la lg lt 0 := ⟨0, (fun _ => 0), (fun _ => 0), (fun _ => 0), (fun _ => 0), (fun _ => 0), 0, 0, 10000, (fun _ => 0), (fun _ => 0), (fun _ _ => 0), (fun _ => 0), (upd (fun _ => 0) 3 10000), (upd (upd (upd (upd (upd (upd (upd (upd (upd (upd (upd (upd (upd (upd (upd (upd (fun _ => 0) 1 98) 2 195) 3 290) 4 383) 5 471) 6 556) 7 634) 8 707) 9 773) 10 831) 11 882) 12 924) 13 957) 14 981) 15 995) 16 1000), Nat.le_refl 0, hR, hAr, hGs, hT, hkd, hP, hD, hS⟩
  refine law_loop hfl ⟨⟨hx, hb, hml, hown, htl⟩, hG, hK, hD0, hlocks⟩ hA hX hbl (Nat.not_le.mpr hbl) hL (fun H1 locs1 ls1 c1 s1 e1 e2 hw1 hl1 => ?_) 60 0 0 rfl (fun h9 => absurd h9 (by decide)) (fun _ => rfl) _ _ _ _ _ (Nat.le_of_ble_eq_true rfl) (Nat.le_of_ble_eq_true rfl) hF hl
  exact law_last hfl ⟨⟨hx, hb, hml, hown, htl⟩, hG, hK, hD0, hlocks⟩ hA e1 e2 hw1 hl1 (fun H2 locs2 ls2 c2 s2 g1 g2 hS2 => va_forget (fun q hq => hS2.2.2 q hq) (W.widen (k := 600104) (n := 7301314) g1 g2 (lw_ret hx hb hr hlocks dL_law_1796)))
-- ===== YOUR PART ENDS =====
set_option maxHeartbeats 4000000 in
theorem lw_walk (l : Launch) (hflags : l.flags = flags0) (b : Addr) (xs : List Int32) : MetFree l x (headSpec (Jvm.Cond.code x code maxLocals ret :: tables_1) room_1) (lw_P b xs) (fun _ _ _ _ _ => True) lw_Q := by
  refine MetFree.of_bodyS (code := code) (maxLocals := maxLocals) (ret := ret) (by decide) ?_ ?_
  · intro args s m h hn
    obtain ⟨meth, c, h1, h2, h3, h4, h5, h6, -, -⟩ := Cond.code_spec hn (atoms_spec (ws := Jvm.Cond.code x code maxLocals ret :: tables_1) h _ List.mem_cons_self)
    exact ⟨meth, c, h1, h2, h3, h4, h5, h6⟩
  · intro p e s m args below meth c s₁ B hml0 hP _
    obtain ⟨rfl, hx, hbd, hgv⟩ := hP
    obtain ⟨scr, harrAt, hlist, hof, hsmall⟩ := hx
    obtain ⟨hcb, hkn, -, -⟩ := State.arrayAt?_spec harrAt
    have hown : s.vm.findClass R_law = some m.cls := findClass_of_methodNamed B.named
    have hts0 : ∀ c ∈ (Jvm.Cond.code x code maxLocals ret :: tables_1), c.before #[Value.ref b] s = true := atoms_spec (ws := Jvm.Cond.code x code maxLocals ret :: tables_1) B.pre
    have hts : ∀ w ∈ lw_tbl, w.before #[Value.ref b] s = true := k2_hts_sels lw_privs (fun w hw => hts0 w (List.mem_cons_of_mem _ hw)) lw_privs_ok
    have hml : c.maxLocals = 34 := B.maxLocals_eq (hts0 _ List.mem_cons_self)
    have X₀ : Stand p l e room_1 s m #[Value.ref b] below meth c s₁ [] 0 0 := Stand.of_body B
    have hh0 : s₁.heap = s.heap := by rw [B.state]; rfl
    have hsz : scr.slots.size = xs.length := by rw [← Array.length_toList, hlist, List.length_map]
    have hval : ∀ j : Nat, j < xs.length → scr.slots[j]? = some (.int (xs.getD j 0)) := fun j hj => by
      rw [← Array.getElem?_toList, hlist]
      simp [hj]
    have hbl : b < s.heap.size := (Array.getElem?_eq_some_iff.mp hcb).1
    have hX : va_X b xs.length (fun j => xs.getD j 0) s s.heap := ⟨scr, hcb, hof, hkn, hsz, hval⟩
    have K : W p l e room_1 s m #[Value.ref b] below meth c s₁.heap [] 0 0 (lw_Z below #[Value.ref b] s) (entryFrame m ([Value.ref b] : List Value).toArray 34) := by
      rw [hh0]
      exact whole_start l hflags hbd ⟨B.exec, B.bytes, B.returns, hml, hown, hts, hX, hbl, B.notSynchronized, hgv⟩
    obtain ⟨t, a1, o, b1, b2, b3⟩ := K s₁ rfl X₀
    exact ⟨t, o, a1, b1, b2, b3⟩
theorem lw_pre_spec {args : Array Value} {s : State} (h : (Jvm.Cond.and given_1 narrow_1).before args s = true) (hr : rest_1_c.before args s = true) : ∃ (b : Addr) (xs : List Int32), lw_P b xs args s := by
  have hs := flat_of_before _ h
  have hq := flat_of_before _ hr
  have hc : (Cond.count 1).before args s = true := hs _ (by decide +kernel)
  have harr : (Cond.arrayOf (.arg 0) .int).before args s = true := hs _ (by decide +kernel)
  have hle : (Cond.le (.length (.arg 0)) (.int 260)).before args s = true := hs _ (by decide +kernel)
  have hlen : (Cond.isInt (.length (.arg 0))).before args s = true := hq _ (by decide +kernel)
  have hall : (Cond.all (.arg 0) (.isInt (.elem (.arg 0) (.index 0)))).before args s = true := hq _ (by decide +kernel)
  obtain ⟨b, xs, hb, hx⟩ := State.ints_of_pre rfl harr hlen hall
  have hsm : xs.length < 2 ^ 31 := hx.choose_spec.2.2.2
  have hev : (Term.length (.arg 0)).eval args s none [] s = some (.int xs.length.toInt32) := hx.length_eval hb
  have hv := Cond.le_ints hev (show (Term.int 260).eval args s none [] s = some (.int 260) from rfl)
  have hd : xs.length.toInt32 ≤ 260 := by
    simpa [Cond.before, Cond.holds, hv] using hle
  have hN : xs.length ≤ 260 := (Int32.ofNat_le_ofNat hsm (by decide)).mp (show Int32.ofNat xs.length ≤ Int32.ofNat 260 from hd)
  exact ⟨b, xs, Cond.one_arg hc (show args[0]? = some (.ref b) from hb), hx, hN, h⟩
theorem lw_comes (l : Launch) (hflags : l.flags = flags0) : Comes l x (Jvm.Cond.code x code maxLocals ret :: tables_1) room_1 (fun tb e args s => Calls_1 tb e args s ∧ rest_1 tb e args s ∧ Pre_1 tb e args s)
    (fun _ _ args s o t => lw_Q args s o t) := by
  intro p e ha hc hk s m args below hf hfit hheap happ hpre
  obtain ⟨b, xs, hP⟩ := lw_pre_spec hpre.2.2 hpre.2.1
  obtain ⟨k, o, h1, h2, h3, hQ⟩ := lw_walk l hflags b xs p e ha hc hk s m args below hf ((Spec.applies_iff_loose hf).mp happ).1 hP trivial
  exact ⟨k, o, h1, h2, h3, hQ⟩
theorem lw_frame {s t : State} {o : Outcome} {args : Array Value} (h : Framed s o t [] 600104 7301314) :
    Framed s o t (fieldLocs frame_1_writes args s ++ arrayLocs frame_1_arrays args s ++ staticLocs frame_1_statics s) 600104 7301314 := h
theorem lw_limb (L : Cond) (hL : ∀ (args : Array Value) (s t : State), L.after args s (.returned (some (.int 1))) t = true) :
    ArmFor flags0 classFile x code maxLocals ret World_1 tables_1 room_1 Calls_1 rest_1 Pre_1
      (fun tb e a s o t => postC L tb e a s o t ∧ Framed s o t (fieldLocs frame_1_writes a s ++ arrayLocs frame_1_arrays a s ++ staticLocs frame_1_statics s) 600104 7301314) := by
  intro l hflags _ _ p e ha hc hk s m args below hf hfit hheap happ hpre
  obtain ⟨k, o, h1, h2, h3, rfl, hF⟩ := lw_comes l hflags p e ha hc hk s m args below hf hfit hheap happ hpre
  exact ⟨k, _, h1, h2, h3, hL args s _, lw_frame hF⟩
theorem i_vc : Claimed_1_1 ∧ Claimed_1_2 := ⟨lw_limb limb_1_1 (fun args s t => by simp [limb_1_1, Cond.after, Cond.holds, Cond.value]), lw_limb limb_1_2 (fun args s t => Cond.after_iff.mpr (by
  first | (rw [show limb_1_2 = Cond.eq .result (.int 1) from rfl, Cond.eq_ints (x := 1) (y := 1) rfl rfl]; simp; done) | (simp [limb_1_2, Cond.value, Term.eval]; done)))⟩

