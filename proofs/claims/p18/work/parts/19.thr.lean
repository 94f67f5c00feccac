/-! methods that may throw: contracts, bodies, calls -/
def zNames : List String := ["java/lang/RuntimeException", "java/lang/Exception"]
theorem zat_51 : ∀ w ∈ (vx_atS RX5 51 "java/lang/IllegalArgumentException" zNames).filter (fun w => !goodWord w), w ∈ zBad := by decide +kernel
theorem zat_66 : ∀ w ∈ (vx_atS RX5 66 "java/lang/IllegalStateException" zNames).filter (fun w => !goodWord w), w ∈ zBad := by decide +kernel
theorem zat_182 : ∀ w ∈ (vx_atS RX5 182 "java/lang/IndexOutOfBoundsException" zNames).filter (fun w => !goodWord w), w ∈ zBad := by decide +kernel
theorem zgood_51 : ∀ w ∈ Cond.classLink RX5 47 "java/lang/IllegalArgumentException" :: Cond.initialized "java/lang/IllegalArgumentException" :: vx_atS RX5 51 "java/lang/IllegalArgumentException" zNames, vx_ot w = true := by decide +kernel
theorem zgood_66 : ∀ w ∈ Cond.classLink RX5 62 "java/lang/IllegalStateException" :: Cond.initialized "java/lang/IllegalStateException" :: vx_atS RX5 66 "java/lang/IllegalStateException" zNames, vx_ot w = true := by decide +kernel
theorem zgood_182 : ∀ w ∈ Cond.classLink RX5 178 "java/lang/IndexOutOfBoundsException" :: Cond.initialized "java/lang/IndexOutOfBoundsException" :: vx_atS RX5 182 "java/lang/IndexOutOfBoundsException" zNames, vx_ot w = true := by decide +kernel
def zXC (D : va_G) (ws : va_W) {SX : Type} (px : String → SX → Prop) (wx : SX → va_W) : String → State → State → Prop := fun E st t => ∃ u : SX, px E u ∧ va_P D vwCl (wx u) t.heap ∧ va_F (zA ws) st t
def zMt (l : Launch) (y : MethodName) (wds : List Cond) (L k : Nat) (D : va_G) (cI cJ : ClassId) (av : List Value) (ws : va_W) {S SX : Type} (post : S → Prop) (rv : S → Option Value) (ws' : S → va_W) (px : String → SX → Prop) (wx : SX → va_W) : Prop := vx_Met l y wds (zRm L k (6 * k)) (zPc D cI cJ ws av) (zQ D ws post rv ws') (zXC D ws px wx) k (6 * k) (zA ws)
section ZX
variable {p : Program} {l : Launch} {e : Env} {R : Room} {s : State} {m : MethodId} {args : Array Value} {below : List Frame} {meth : Method} {c : Code} {H : Heap} {locs : List Loc} {cells slots : Nat} {Q : State → Prop}
variable {pc : Nat} {ls : Array Slot} {rest st0 : List Value} {A0 : Nat → Prop} {H0 : Heap} {D : va_G} {cI cJ : ClassId} {ws wc : va_W}
theorem z_runx {a : Array Value} {mc ms : Nat} {S SX : Type} {post : S → Prop} {rv : S → Option Value} {w' : S → va_W} {px : String → SX → Prop} {wx : SX → va_W} (hr : vx_Run p l e R s m args below meth c H locs cells slots mc ms (F0 m pc ls st0) rest (zQ D wc post rv w' a) (zXC D wc px wx) (zA wc)) (hP : va_P D vwCl ws H) (hD : va_D A0 ws) (hS : va_S A0 H0 H locs) (is : List Nat) (hC : is.map (fun i => ws[i]?) = wc.map some) (hf : ∀ u, (w' u).map Prod.fst = wc.map Prod.fst) (hfx : ∀ u, (wx u).map Prod.fst = wc.map Prod.fst)
    (kx : ∀ (E : String) (ce : Cell) (q9 : Addr) (u : SX) (H1 : Heap) (locs1 : List Loc), px E u → va_P D vwCl (za_set ws is (wx u)) H1 → va_D A0 (za_set ws is (wx u)) → va_S A0 H0 H1 locs1 → H1[q9]? = some ce → ce.vm = .none → s.vm.findClass E = some ce.cls → vx_W p l e R s m args below meth c H1 locs1 (cells + mc) (slots + ms) Q (F0 m pc ls rest) q9)
    (kk : ∀ (u : S) (H1 : Heap) (locs1 : List Loc), post u → va_P D vwCl (za_set ws is (w' u)) H1 → va_D A0 (za_set ws is (w' u)) → va_S A0 H0 H1 locs1 → W p l e R s m args below meth c H1 locs1 (cells + mc) (slots + ms) Q (F0 m (pc + 3) ls ((rv u).toList ++ rest))) : W p l e R s m args below meth c H locs cells slots Q (F0 m pc ls st0) := by
  intro T hT X
  have hA : ∀ q, zA wc q → A0 q := za_in hD is hC
  rcases hr T hT X with ⟨v, st₀, t, T', L, h0, X', hL, e1, e2, ⟨u, hv, hp, hb, hF⟩, st⟩ | ⟨q, st₀, t, T', L, E, ce, h0, X', hL, e1, e2, ⟨u, hp, hb, hF⟩, hce, hcv, hcl, st⟩
  · have hv : v = rv u := by cases hv; rfl
    subst hv
    obtain ⟨k1, k2, k3⟩ := vx_keep (A0 := A0) (A1 := zA wc) (free := zA wc) h0 e1 hS (fun q _ => hA q) hA hL hF
    rw [← e1] at hb
    obtain ⟨g1, g2⟩ := za_join hP hD is hC (hf u) k2 hb
    obtain ⟨t2, a1, b1⟩ := kk u T'.heap (locs ++ L) hp g1 g2 k3 T' rfl X'
    exact ⟨t2, st t2 a1, b1⟩
  · obtain ⟨k1, k2, k3⟩ := vx_keep (A0 := A0) (A1 := zA wc) (free := zA wc) h0 e1 hS (fun q _ => hA q) hA hL hF
    rw [← e1] at hb
    obtain ⟨g1, g2⟩ := za_join hP hD is hC (hfx u) k2 hb
    obtain ⟨t2, a1, b1⟩ := kx E ce q u T'.heap (locs ++ L) hp g1 g2 k3 (by rw [e1]; exact hce) hcv hcl T' rfl X'
    exact ⟨t2, st.trans a1, b1⟩
variable {y : MethodName} {bytes cc : ByteArray} {maxL nL n index : Nat} {ret : Option FieldType} {wy : List Cond} {Ly k9 : Nat} {Ts : List Cond} {own C : String} {b : Addr} {As : List Value}
theorem z_callXV {S SX : Type} {post : S → Prop} {rv : S → Option Value} {w' : S → va_W} {px : String → SX → Prop} {wx : SX → va_W} (Fx : CallFix p m c cc nL s args Ts own) (hG : zG A0 s s.heap) (hK : va_K D vwCl [(cI, .int), (cJ, .long)] s) (hP : va_P D vwCl ws H) (hD : va_D A0 ws) (hS : va_S A0 s.heap H locs)
    (hM : zMt l y wy Ly k9 D cI cJ (.ref b :: As) wc post rv w' px wx) (cw : CallW R s args own C index y bytes maxL ret wy (zRm Ly k9 (6 * k9)) k9 (6 * k9) n) (is : List Nat) (hn : va_nd is = true) (hC : is.map (fun i => ws[i]?) = wc.map some) (hf : ∀ u, (w' u).map Prod.fst = wc.map Prod.fst) (hfx : ∀ u, (wx u).map Prod.fst = wc.map Prod.fst)
    (k : Nat) {fs : List Value} {ci : Nat} {q : vw_C} (hk : ws[k]? = some (b, .inr (ci, fs))) (hc : vwCl[ci]? = some q) (hq : q.1 = C) (hlen : As.length = n) (hsize : ls.size = nL) (hst : st0 = As.reverse ++ .ref b :: rest) (hW : (rest.map fun v => v.category).sum ≤ 8) (hdg : decode cc pc = .ok (.invokevirtual index, 3)) (hb : cells + k9 ≤ R.cells ∧ slots + 6 * k9 ≤ R.slots)
    (kx : ∀ (E : String) (ce : Cell) (q9 : Addr) (u : SX) (H1 : Heap) (locs1 : List Loc), px E u → va_P D vwCl (za_set ws is (wx u)) H1 → va_D A0 (za_set ws is (wx u)) → va_S A0 s.heap H1 locs1 → H1[q9]? = some ce → ce.vm = .none → s.vm.findClass E = some ce.cls → vx_W p l e R s m args below meth c H1 locs1 (cells + k9) (slots + 6 * k9) Q (F0 m pc ls rest) q9)
    (kk : ∀ (u : S) (H1 : Heap) (locs1 : List Loc), post u → va_P D vwCl (za_set ws is (w' u)) H1 → va_D A0 (za_set ws is (w' u)) → va_S A0 s.heap H1 locs1 → W p l e R s m args below meth c H1 locs1 (cells + k9) (slots + 6 * k9) Q (F0 m (pc + 3) ls ((rv u).toList ++ rest))) : W p l e R s m args below meth c H locs cells slots Q (F0 m pc ls st0) := by
  subst hq
  exact z_runx (vx_runV (As := As) (rest := rest) (g := F0 m pc ls st0) Fx hM cw ⟨zPc.blind, va_recv hK hP hc hk, z_pre hG hK hP hD hS is hn hC⟩ rfl hlen hsize hst (lv_room (rest := st0) hW) hdg hb) hP hD hS is hC hf hfx kx kk
theorem z_callXS {S SX : Type} {post : S → Prop} {rv : S → Option Value} {w' : S → va_W} {px : String → SX → Prop} {wx : SX → va_W} (Fx : CallFix p m c cc nL s args Ts own) (hG : zG A0 s s.heap) (hK : va_K D vwCl [(cI, .int), (cJ, .long)] s) (hP : va_P D vwCl ws H) (hD : va_D A0 ws) (hS : va_S A0 s.heap H locs)
    (hM : zMt l y wy Ly k9 D cI cJ As wc post rv w' px wx) (cw : CallB R s args own index y bytes maxL ret wy (zRm Ly k9 (6 * k9)) k9 (6 * k9) n ∧ (Cond.static y).before args s = true) (is : List Nat) (hn : va_nd is = true) (hC : is.map (fun i => ws[i]?) = wc.map some) (hf : ∀ u, (w' u).map Prod.fst = wc.map Prod.fst) (hfx : ∀ u, (wx u).map Prod.fst = wc.map Prod.fst)
    (hlen : As.length = n) (hsize : ls.size = nL) (hst : st0 = As.reverse ++ rest) (hW : (rest.map fun v => v.category).sum ≤ 8) (hdg : decode cc pc = .ok (.invokestatic index, 3)) (hb : cells + k9 ≤ R.cells ∧ slots + 6 * k9 ≤ R.slots)
    (kx : ∀ (E : String) (ce : Cell) (q9 : Addr) (u : SX) (H1 : Heap) (locs1 : List Loc), px E u → va_P D vwCl (za_set ws is (wx u)) H1 → va_D A0 (za_set ws is (wx u)) → va_S A0 s.heap H1 locs1 → H1[q9]? = some ce → ce.vm = .none → s.vm.findClass E = some ce.cls → vx_W p l e R s m args below meth c H1 locs1 (cells + k9) (slots + 6 * k9) Q (F0 m pc ls rest) q9)
    (kk : ∀ (u : S) (H1 : Heap) (locs1 : List Loc), post u → va_P D vwCl (za_set ws is (w' u)) H1 → va_D A0 (za_set ws is (w' u)) → va_S A0 s.heap H1 locs1 → W p l e R s m args below meth c H1 locs1 (cells + k9) (slots + 6 * k9) Q (F0 m (pc + 3) ls ((rv u).toList ++ rest))) : W p l e R s m args below meth c H locs cells slots Q (F0 m pc ls st0) := by
  exact z_runx (vx_runS (As := As) (rest := rest) (g := F0 m pc ls st0) Fx hM cw ⟨zPc.blind, z_pre hG hK hP hD hS is hn hC⟩ rfl hlen hsize hst (lv_room (rest := st0) hW) hdg hb) hP hD hS is hC hf hfx kx kk
end ZX
theorem zXC_of {D : va_G} {ws : va_W} {SX : Type} {px : String → SX → Prop} {wx : SX → va_W} {E : String} {s t : State} {H : Heap} {locs : List Loc} (u : SX) (hu : px E u) (hP : va_P D vwCl (wx u) H) (hS : va_S (zA ws) s.heap H locs) (h1 : H.size ≤ t.heap.size) (h2 : ∀ q : Nat, q < H.size → t.heap[q]? = H[q]?) : zXC D ws px wx E s t :=
  ⟨u, hu, hP.kept (fun k q hk => h2 q.1 (hP k q hk).lt), Nat.le_trans hS.1 h1, fun q hq ha => (h2 q (Nat.lt_of_lt_of_le hq hS.1)).trans (hS.2.1 q hq ha)⟩
section ZXB
variable {l : Launch} {y : MethodName} {wds wds' : List Cond} {L k9 : Nat} {D : va_G} {cI cJ : ClassId} {av : List Value} {ws : va_W} {S SX : Type} {post : S → Prop} {ws' : S → va_W} {px : String → SX → Prop} {wx : SX → va_W} {cc : ByteArray} {maxL : Nat}
/-- what a body that may throw has at hand: to go on with an exception that isn't caught here; to throw one -/
def zOut (p : Program) (l : Launch) (e : Env) (L k9 : Nat) (s : State) (m : MethodId) (args : Array Value) (below : List Frame) (meth : Method) (c : Code) (A0 : Nat → Prop) (D : va_G) (px : String → SX → Prop) (wx : SX → va_W) (Q : State → Prop) : Prop :=
  ∀ (pc : Nat) (ls : Array Slot) (rest : List Value) (H : Heap) (locs : List Loc) (cells slots : Nat) (E : String) (ce : Cell) (q9 : Addr) (u : SX), px E u → va_P D vwCl (wx u) H → va_S A0 s.heap H locs → H[q9]? = some ce → ce.vm = .none → s.vm.findClass E = some ce.cls → cells ≤ k9 → slots ≤ 6 * k9 → vx_W p l e (zRm L k9 (6 * k9)) s m args below meth c H locs cells slots Q (F0 m pc ls rest) q9
def zThr (p : Program) (l : Launch) (e : Env) (L k9 : Nat) (s : State) (m : MethodId) (args : Array Value) (below : List Frame) (meth : Method) (c : Code) (cc : ByteArray) (maxL : Nat) (A0 : Nat → Prop) (D : va_G) (px : String → SX → Prop) (wx : SX → va_W) (Q : State → Prop) : Prop :=
  ∀ (pc ik is ic : Nat) (cls text : String) (ls : Array Slot) (rest : List Value) (H : Heap) (locs : List Loc) (cells slots : Nat) (u : SX), Bundle.fit cls = true → (Cond.classLink RX5 ik cls).before args s = true → (Cond.initialized cls).before args s = true → (∃ sa, vk_R RX5 is text sa s) → (∀ w ∈ vx_atS RX5 ic cls zNames, w.before args s = true) → (∀ w ∈ Cond.classLink RX5 ik cls :: Cond.initialized cls :: vx_atS RX5 ic cls zNames, vx_ot w = true) → ls.size = maxL →
    decode cc pc = .ok (.new ik, 3) → decode cc (pc + 3) = .ok (.dup, 1) → decode cc (pc + 4) = .ok (.ldc is, 2) → decode cc (pc + 6) = .ok (.invokespecial ic, 3) → decode cc (pc + 9) = .ok (.athrow, 1) → (rest.map fun v => v.category).sum ≤ 8 → cells + 1 ≤ k9 → slots + 6 ≤ 6 * k9 → px cls u → va_P D vwCl (wx u) H → va_S A0 s.heap H locs → W p l e (zRm L k9 (6 * k9)) s m args below meth c H locs cells slots Q (F0 m pc ls rest)
theorem zMt_of {ret : Option FieldType} {rv : S → Option Value} (hfl : l.stackTraces = false) (hy : plainName y.cls = true) (hy5 : y.cls = RX5) (hw : wds = Cond.code y cc maxL ret :: wds') (hlen : (lg_sl av).length ≤ maxL)
    (body : ∀ (p : Program) (e : Env) (s : State) (m : MethodId) (args : Array Value) (below : List Frame) (meth : Method) (c : Code) (ls : Array Slot), zC p m c meth cc maxL s args wds y.cls D cI cJ (zA ws) ws → meth.sig.returnType = ret → lv_has ls maxL (lv_args 0 av) → va_P D vwCl ws s.heap → va_S (zA ws) s.heap s.heap [] → zOut p l e L k9 s m args below meth c (zA ws) D px wx (vx_MQ below (zQ D ws post rv ws') (zXC D ws px wx) args s k9 (6 * k9) (zA ws)) → zThr p l e L k9 s m args below meth c cc maxL (zA ws) D px wx (vx_MQ below (zQ D ws post rv ws') (zXC D ws px wx) args s k9 (6 * k9) (zA ws)) →
      W p l e (zRm L k9 (6 * k9)) s m args below meth c s.heap [] 0 0 (vx_MQ below (zQ D ws post rv ws') (zXC D ws px wx) args s k9 (6 * k9) (zA ws)) (F0 m 0 ls [])) : zMt l y wds L k9 D cI cJ av ws post rv ws' px wx := by
  refine vx_ofW (cc := cc) (maxL := maxL) (ret := ret) hy hw ?_
  intro p e s m args below meth c s₁ B hml hT hv
  obtain ⟨rfl, hG, hP, hK, hD⟩ := hv
  have hl := lv_entry av (n := maxL) hlen
  rw [lg_entry_eq]
  refine body p e s m _ below meth c _ ⟨⟨B.exec, B.bytes, hml, findClass_of_methodNamed B.named, atoms_spec (ws := wds) B.pre⟩, hG, hK, ⟨hD.1, fun k q hk => ⟨k, q.2, hk⟩⟩, B.notSynchronized⟩ B.returns hl hP va_S.rf ?_ ?_
  · intro pc ls rest H locs cells slots E ce q9 u hu hP hS hce hcv hcl hc hs
    exact vx_out (fun x hx => (hT x hx).elim) B.notSynchronized hce hcv hcl (fun t ht _ => zXC_of u hu hP hS (by rw [ht]; exact Nat.le_refl _) (fun q _ => by rw [ht])) hS.2.2 hc hs
  · intro pc ik is ic cls text ls rest H locs cells slots u hfit hk hini hstr hat hgood hsize d0 d3 d4 d6 d9 hrest hc hs hu hP hS
    obtain ⟨sa, hstr⟩ := hstr
    refine vx_throwS (own := RX5) (names := zNames) B.exec B.bytes hfl (by rw [← hy5]; exact findClass_of_methodNamed B.named) hfit (by decide) hk hini hstr hat hgood hG.2.2.1 hG.2.2.2 hS (hsize.trans hml.symm) d0 d3 d4 d6 d9 (fun x hx => (hT x hx).elim) ?_ ?_ hc hs B.notSynchronized (fun t _ h1 h2 => zXC_of u hu hP hS h1 h2) hS.2.2 hc hs
    · show 2 + 3 < 8 * L + 8
      omega
    · show _ + (13 * (2 + 1) + 43) ≤ 500 * L + 500
      omega
theorem zMt_i {r : S → Int32} (hfl : l.stackTraces = false) (hy : plainName y.cls = true) (hy5 : y.cls = RX5) (hw : wds = Cond.code y cc maxL (some .int) :: wds') (hlen : (lg_sl av).length ≤ maxL)
    (body : ∀ (p : Program) (e : Env) (s : State) (m : MethodId) (args : Array Value) (below : List Frame) (meth : Method) (c : Code) (ls : Array Slot) (A0 : Nat → Prop) (Q : State → Prop), zC p m c meth cc maxL s args wds y.cls D cI cJ A0 ws → lv_has ls maxL (lv_args 0 av) → va_P D vwCl ws s.heap → va_S A0 s.heap s.heap [] → zOut p l e L k9 s m args below meth c A0 D px wx Q → zThr p l e L k9 s m args below meth c cc maxL A0 D px wx Q →
      (∀ (pc : Nat) (u : S) (H : Heap) (locs : List Loc) (ls : Array Slot) (cells slots : Nat), cells ≤ k9 → slots ≤ 6 * k9 → post u → va_P D vwCl (ws' u) H → va_S A0 s.heap H locs → decode cc pc = .ok (.ireturn, 1) → W p l e (zRm L k9 (6 * k9)) s m args below meth c H locs cells slots Q (F0 m pc ls [.int (r u)])) → W p l e (zRm L k9 (6 * k9)) s m args below meth c s.heap [] 0 0 Q (F0 m 0 ls [])) : zMt l y wds L k9 D cI cJ av ws post (fun u => some (.int (r u))) ws' px wx := by
  refine zMt_of hfl hy hy5 hw hlen ?_
  intro p e s m args below meth c ls C hr hl hP hS hO hT
  exact body p e s m args below meth c ls _ _ C hl hP hS hO hT (fun pc u H locs ls cells slots hc hs hu hP hS hd => W.widen hc hs (vx_ret (W.iret C.1.1 C.1.2.1 hr (fun t ht hW => ⟨u, rfl, hu, by rw [ht]; exact hP, hS.F ht⟩) hS.2.2 hd C.2.2.2.2)))
theorem zMt_l {r : S → Int64} (hfl : l.stackTraces = false) (hy : plainName y.cls = true) (hy5 : y.cls = RX5) (hw : wds = Cond.code y cc maxL (some .long) :: wds') (hlen : (lg_sl av).length ≤ maxL)
    (body : ∀ (p : Program) (e : Env) (s : State) (m : MethodId) (args : Array Value) (below : List Frame) (meth : Method) (c : Code) (ls : Array Slot) (A0 : Nat → Prop) (Q : State → Prop), zC p m c meth cc maxL s args wds y.cls D cI cJ A0 ws → lv_has ls maxL (lv_args 0 av) → va_P D vwCl ws s.heap → va_S A0 s.heap s.heap [] → zOut p l e L k9 s m args below meth c A0 D px wx Q → zThr p l e L k9 s m args below meth c cc maxL A0 D px wx Q →
      (∀ (pc : Nat) (u : S) (H : Heap) (locs : List Loc) (ls : Array Slot) (cells slots : Nat), cells ≤ k9 → slots ≤ 6 * k9 → post u → va_P D vwCl (ws' u) H → va_S A0 s.heap H locs → decode cc pc = .ok (.lreturn, 1) → W p l e (zRm L k9 (6 * k9)) s m args below meth c H locs cells slots Q (F0 m pc ls [.long (r u)])) → W p l e (zRm L k9 (6 * k9)) s m args below meth c s.heap [] 0 0 Q (F0 m 0 ls [])) : zMt l y wds L k9 D cI cJ av ws post (fun u => some (.long (r u))) ws' px wx := by
  refine zMt_of hfl hy hy5 hw hlen ?_
  intro p e s m args below meth c ls C hr hl hP hS hO hT
  exact body p e s m args below meth c ls _ _ C hl hP hS hO hT (fun pc u H locs ls cells slots hc hs hu hP hS hd => W.widen hc hs (vx_ret (W.lret C.1.1 C.1.2.1 hr (fun t ht hW => ⟨u, rfl, hu, by rw [ht]; exact hP, hS.F ht⟩) hS.2.2 hd C.2.2.2.2)))
theorem zMt_v (hfl : l.stackTraces = false) (hy : plainName y.cls = true) (hy5 : y.cls = RX5) (hw : wds = Cond.code y cc maxL none :: wds') (hlen : (lg_sl av).length ≤ maxL)
    (body : ∀ (p : Program) (e : Env) (s : State) (m : MethodId) (args : Array Value) (below : List Frame) (meth : Method) (c : Code) (ls : Array Slot) (A0 : Nat → Prop) (Q : State → Prop), zC p m c meth cc maxL s args wds y.cls D cI cJ A0 ws → lv_has ls maxL (lv_args 0 av) → va_P D vwCl ws s.heap → va_S A0 s.heap s.heap [] → zOut p l e L k9 s m args below meth c A0 D px wx Q → zThr p l e L k9 s m args below meth c cc maxL A0 D px wx Q →
      (∀ (pc : Nat) (u : S) (H : Heap) (locs : List Loc) (ls : Array Slot) (cells slots : Nat), cells ≤ k9 → slots ≤ 6 * k9 → post u → va_P D vwCl (ws' u) H → va_S A0 s.heap H locs → decode cc pc = .ok (.return_, 1) → W p l e (zRm L k9 (6 * k9)) s m args below meth c H locs cells slots Q (F0 m pc ls [])) → W p l e (zRm L k9 (6 * k9)) s m args below meth c s.heap [] 0 0 Q (F0 m 0 ls [])) : zMt l y wds L k9 D cI cJ av ws post (fun _ => none) ws' px wx := by
  refine zMt_of hfl hy hy5 hw hlen ?_
  intro p e s m args below meth c ls C hr hl hP hS hO hT
  exact body p e s m args below meth c ls _ _ C hl hP hS hO hT (fun pc u H locs ls cells slots hc hs hu hP hS hd => W.widen hc hs (vx_ret (W.vret C.1.1 C.1.2.1 hr (fun t ht hW => ⟨u, rfl, hu, by rw [ht]; exact hP, hS.F ht⟩) hS.2.2 hd C.2.2.2.2)))
end ZXB
