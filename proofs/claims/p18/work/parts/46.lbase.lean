/-! the law's own methods: those that make cells of their own; and calls of them -/
theorem zZ_new {C n d : String} {v : Value} {A : Nat → Prop} {U : State} {H : Heap} (h : va_Z C n d v A U H) : va_Z C n d v (fun q => A q ∨ H.size ≤ q) U H := by
  obtain ⟨cf, kf, fi, f, a, cell, h1, h2, h3, h4, h5, h6, h7, h8⟩ := h
  exact ⟨cf, kf, fi, f, a, cell, h1, h2, h3, h4, h5, h6, h7, fun z => z.elim h8 (fun y => absurd (Array.getElem?_eq_some_iff.mp h5).1 (Nat.not_lt.mpr y))⟩
theorem zT_new {ty : FieldType} {t N : Nat} {f : Nat → Value} {A : Nat → Prop} {U : State} {H : Heap} (h : va_T ty t N f A U H) : va_T ty t N f (fun q => A q ∨ H.size ≤ q) U H := by
  obtain ⟨cell, h1, h2, h3, h4, h5, h6, h7⟩ := h
  exact ⟨cell, h1, h2, h3, h4, h5, h6, fun z => z.elim h7 (fun y => absurd (Array.getElem?_eq_some_iff.mp h1).1 (Nat.not_lt.mpr y))⟩
theorem zZq_new {C n d : String} {A : Nat → Prop} {U : State} {H : Heap} (h : vx_Zq C n d A U H) : vx_Zq C n d (fun q => A q ∨ H.size ≤ q) U H := by
  refine ⟨h.1.elim (fun g => Or.inl (zZ_new g)) (fun g => g.elim (fun t g => Or.inr ⟨t, zZ_new g⟩)), ?_⟩
  obtain ⟨c, k, i, f, a, cell, h1, h2, h3, h4, h5, h6, h7, h8, h9, h10⟩ := h.2
  exact ⟨c, k, i, f, a, cell, h1, h2, h3, h4, h5, h6, h7, h8, h9, fun z => z.elim h10 (fun y => absurd (Array.getElem?_eq_some_iff.mp h5).1 (Nat.not_lt.mpr y))⟩
theorem zG_new {A : Nat → Prop} {U : State} {H : Heap} (h : zG A U H) : zG (fun q => A q ∨ H.size ≤ q) U H := by
  obtain ⟨h1, ⟨t, h2, h3⟩, h4, h5⟩ := h
  exact ⟨h1, ⟨t, zZ_new h2, zT_new h3⟩, zZq_new h4, zZq_new h5⟩
section ZFORGET
variable {p : Program} {l : Launch} {e : Env} {R : Room} {s : State} {m : MethodId} {args : Array Value} {below : List Frame} {meth : Method} {c : Code} {H : Heap} {locs : List Loc} {cells slots : Nat} {Q : State → Prop}
theorem z_forget {g : JFrame} (kk : W p l e R s m args below meth c H (locs.filter (fun y => decide (y.base < s.heap.size))) cells slots Q g) : W p l e R s m args below meth c H locs cells slots Q g := fun T hT X => kk T hT { X with same := X.same.weaken (fun y hy hlt => List.mem_filter.mpr ⟨hy, decide_eq_true hlt⟩) (Nat.le_refl _) (Nat.le_refl _) }
end ZFORGET
def zML (l : Launch) (y : MethodName) (wds : List Cond) (L k : Nat) (D : va_G) (cI cJ : ClassId) (av : List Value) (ws : va_W) {S : Type} (post : S → Prop) (rv : S → Option Value) (ws' : S → va_W) : Prop := Met l y wds (zRm L k (6 * k)) (zPc D cI cJ ws av) (zQ D ws post rv ws') k (6 * k) (zA ws)
theorem zML_of {l : Launch} {y : MethodName} {wds : List Cond} {L : Nat} {D : va_G} {cI cJ : ClassId} {av : List Value} {ws : va_W} {S : Type} {post : S → Prop} {rv : S → Option Value} {ws' : S → va_W} (h : zM l y wds L D cI cJ av ws post rv ws') : zML l y wds L 0 D cI cJ av ws post rv ws' := h
section ZMB
variable {l : Launch} {y : MethodName} {wds wds' : List Cond} {L k : Nat} {D : va_G} {cI cJ : ClassId} {av : List Value} {ws : va_W} {S : Type} {post : S → Prop} {ws' : S → va_W} {cc : ByteArray} {maxL : Nat}
theorem zMB_of {ret : Option FieldType} {rv : S → Option Value} (hy : plainName y.cls = true) (hw : wds = Cond.code y cc maxL ret :: wds') (hlen : (lg_sl av).length ≤ maxL)
    (body : ∀ (p : Program) (e : Env) (s : State) (m : MethodId) (args : Array Value) (below : List Frame) (meth : Method) (c : Code) (ls : Array Slot), zC p m c meth cc maxL s args wds y.cls D cI cJ (fun q => zA ws q ∨ s.heap.size ≤ q) ws → meth.sig.returnType = ret → lv_has ls maxL (lv_args 0 av) → va_P D vwCl ws s.heap → va_S (fun q => zA ws q ∨ s.heap.size ≤ q) s.heap s.heap [] → W p l e (zRm L k (6 * k)) s m args below meth c s.heap [] 0 0 (MQ below (zQ D ws post rv ws') args s k (6 * k) (zA ws)) (F0 m 0 ls [])) : zML l y wds L k D cI cJ av ws post rv ws' := by
  refine Met.ofW (cc := cc) (maxL := maxL) (ret := ret) hy hw ?_
  intro p e s m args below meth c s₁ B hml hv
  obtain ⟨rfl, hG, hP, hK, hD⟩ := hv
  have hl := lv_entry av (n := maxL) hlen
  rw [lg_entry_eq]
  exact body p e s m _ below meth c _ ⟨⟨B.exec, B.bytes, hml, findClass_of_methodNamed B.named, atoms_spec (ws := wds) B.pre⟩, zG_new hG, hK, ⟨hD.1, fun k q hk => Or.inl ⟨k, q.2, hk⟩⟩, B.notSynchronized⟩ B.returns hl hP va_S.rf
theorem zMB_free {A : Nat → Prop} {n : Nat} {locs : List Loc} (h : ∀ q ∈ locs, A q.base ∨ n ≤ q.base) : ∀ q ∈ locs.filter (fun y => decide (y.base < n)), A q.base := by
  intro q hq
  obtain ⟨h1, h2⟩ := List.mem_filter.mp hq
  exact (h q h1).resolve_right (Nat.not_le.mpr (of_decide_eq_true h2))
theorem zMB_F {A : Nat → Prop} {s t : State} {H : Heap} {locs : List Loc} (h : va_S (fun q => A q ∨ s.heap.size ≤ q) s.heap H locs) (ht : t.heap = H) : va_F A s t :=
  ⟨by rw [ht]; exact h.1, fun q h1 h2 => by rw [ht]; exact h.2.1 q h1 (fun z => z.elim h2 (fun y => absurd h1 (Nat.not_lt.mpr y)))⟩
theorem zMB_i {r : S → Int32} (hy : plainName y.cls = true) (hw : wds = Cond.code y cc maxL (some .int) :: wds') (hlen : (lg_sl av).length ≤ maxL)
    (body : ∀ (p : Program) (e : Env) (s : State) (m : MethodId) (args : Array Value) (below : List Frame) (meth : Method) (c : Code) (ls : Array Slot) (A0 : Nat → Prop) (Q : State → Prop), zC p m c meth cc maxL s args wds y.cls D cI cJ A0 ws → (∀ q : Nat, s.heap.size ≤ q → A0 q) → lv_has ls maxL (lv_args 0 av) → va_P D vwCl ws s.heap → va_S A0 s.heap s.heap [] →
      (∀ (pc : Nat) (u : S) (H : Heap) (locs : List Loc) (ls : Array Slot) (cells slots : Nat), cells ≤ k → slots ≤ 6 * k → post u → va_P D vwCl (ws' u) H → va_S A0 s.heap H locs → decode cc pc = .ok (.ireturn, 1) → W p l e (zRm L k (6 * k)) s m args below meth c H locs cells slots Q (F0 m pc ls [.int (r u)])) → W p l e (zRm L k (6 * k)) s m args below meth c s.heap [] 0 0 Q (F0 m 0 ls [])) : zML l y wds L k D cI cJ av ws post (fun u => some (.int (r u))) ws' := by
  refine zMB_of hy hw hlen ?_
  intro p e s m args below meth c ls C hr hl hP hS
  exact body p e s m args below meth c ls _ _ C (fun q h => Or.inr h) hl hP hS (fun pc u H locs ls cells slots hc hs hu hP hS hd => z_forget (W.widen hc hs (W.iret C.1.1 C.1.2.1 hr (fun t ht hW => ⟨u, rfl, hu, by rw [ht]; exact hP, zMB_F hS ht⟩) (zMB_free hS.2.2) hd C.2.2.2.2)))
theorem zMB_z {r : S → Int32} (hr9 : ∀ u, post u → r u = 0 ∨ r u = 1) (hy : plainName y.cls = true) (hw : wds = Cond.code y cc maxL (some .boolean) :: wds') (hlen : (lg_sl av).length ≤ maxL)
    (body : ∀ (p : Program) (e : Env) (s : State) (m : MethodId) (args : Array Value) (below : List Frame) (meth : Method) (c : Code) (ls : Array Slot) (A0 : Nat → Prop) (Q : State → Prop), zC p m c meth cc maxL s args wds y.cls D cI cJ A0 ws → (∀ q : Nat, s.heap.size ≤ q → A0 q) → lv_has ls maxL (lv_args 0 av) → va_P D vwCl ws s.heap → va_S A0 s.heap s.heap [] →
      (∀ (pc : Nat) (u : S) (H : Heap) (locs : List Loc) (ls : Array Slot) (cells slots : Nat), cells ≤ k → slots ≤ 6 * k → post u → va_P D vwCl (ws' u) H → va_S A0 s.heap H locs → decode cc pc = .ok (.ireturn, 1) → W p l e (zRm L k (6 * k)) s m args below meth c H locs cells slots Q (F0 m pc ls [.int (r u)])) → W p l e (zRm L k (6 * k)) s m args below meth c s.heap [] 0 0 Q (F0 m 0 ls [])) : zML l y wds L k D cI cJ av ws post (fun u => some (.int (r u))) ws' := by
  refine zMB_of hy hw hlen ?_
  intro p e s m args below meth c ls C hr hl hP hS
  exact body p e s m args below meth c ls _ _ C (fun q h => Or.inr h) hl hP hS (fun pc u H locs ls cells slots hc hs hu hP hS hd => z_forget (W.widen hc hs (W.zret C.1.1 C.1.2.1 hr (by rcases hr9 u hu with h | h <;> rw [h] <;> decide) (fun t ht hW => ⟨u, rfl, hu, by rw [ht]; exact hP, zMB_F hS ht⟩) (zMB_free hS.2.2) hd C.2.2.2.2)))
end ZMB
section ZLAW
theorem zML_i {l : Launch} {y : MethodName} {wds wds' : List Cond} {L k : Nat} {D : va_G} {cI cJ : ClassId} {av : List Value} {ws : va_W} {S : Type} {post : S → Prop} {ws' : S → va_W} {cc : ByteArray} {maxL : Nat} {hh : List (Nat × Nat × Nat × Nat)} {r : S → Int32}
    (hy : plainName y.cls = true) (hw : wds = Cond.codeWith y cc maxL (some .int) hh :: wds') (hlen : (lg_sl av).length ≤ maxL)
    (body : ∀ (p : Program) (e : Env) (s : State) (m : MethodId) (args : Array Value) (below : List Frame) (meth : Method) (c : Code) (ls : Array Slot) (A0 : Nat → Prop) (Q : State → Prop), zC p m c meth cc maxL s args wds y.cls D cI cJ A0 ws → c.exceptionTable.toList = tableOf hh → lv_has ls maxL (lv_args 0 av) → va_P D vwCl ws s.heap → va_S A0 s.heap s.heap [] →
      (∀ (pc : Nat) (u : S) (H : Heap) (locs : List Loc) (ls : Array Slot) (cells slots : Nat), cells ≤ k → slots ≤ 6 * k → post u → va_P D vwCl (ws' u) H → va_S A0 s.heap H locs → decode cc pc = .ok (.ireturn, 1) → W p l e (zRm L k (6 * k)) s m args below meth c H locs cells slots Q (F0 m pc ls [.int (r u)])) → W p l e (zRm L k (6 * k)) s m args below meth c s.heap [] 0 0 Q (F0 m 0 ls [])) : zML l y wds L k D cI cJ av ws post (fun u => some (.int (r u))) ws' := by
  refine va_MetW (cc := cc) (maxL := maxL) (ret := some .int) (hh := hh) hy hw ?_
  intro p e s m args below meth c s₁ B hml hv
  obtain ⟨rfl, hG, hP, hK, hD⟩ := hv
  have hl := lv_entry av (n := maxL) hlen
  have htab := vx_table (x := y) (hh := hh) B (atoms_spec (ws := wds) B.pre _ (by rw [hw]; exact List.mem_cons_self))
  rw [lg_entry_eq]
  refine body p e s m _ below meth c _ _ _ ⟨⟨B.exec, B.bytes, hml, findClass_of_methodNamed B.named, atoms_spec (ws := wds) B.pre⟩, hG, hK, ⟨hD.1, fun k q hk => ⟨k, q.2, hk⟩⟩, B.notSynchronized⟩ htab hl hP va_S.rf ?_
  intro pc u H locs ls cells slots hc hs hu hP hS hd
  exact W.widen hc hs (W.iret B.exec B.bytes B.returns (fun t ht hW => ⟨u, rfl, hu, by rw [ht]; exact hP, hS.F ht⟩) hS.2.2 hd B.notSynchronized)
theorem zML_l {l : Launch} {y : MethodName} {wds wds' : List Cond} {L k : Nat} {D : va_G} {cI cJ : ClassId} {av : List Value} {ws : va_W} {S : Type} {post : S → Prop} {ws' : S → va_W} {cc : ByteArray} {maxL : Nat} {hh : List (Nat × Nat × Nat × Nat)} {r : S → Int64}
    (hy : plainName y.cls = true) (hw : wds = Cond.codeWith y cc maxL (some .long) hh :: wds') (hlen : (lg_sl av).length ≤ maxL)
    (body : ∀ (p : Program) (e : Env) (s : State) (m : MethodId) (args : Array Value) (below : List Frame) (meth : Method) (c : Code) (ls : Array Slot) (A0 : Nat → Prop) (Q : State → Prop), zC p m c meth cc maxL s args wds y.cls D cI cJ A0 ws → c.exceptionTable.toList = tableOf hh → lv_has ls maxL (lv_args 0 av) → va_P D vwCl ws s.heap → va_S A0 s.heap s.heap [] →
      (∀ (pc : Nat) (u : S) (H : Heap) (locs : List Loc) (ls : Array Slot) (cells slots : Nat), cells ≤ k → slots ≤ 6 * k → post u → va_P D vwCl (ws' u) H → va_S A0 s.heap H locs → decode cc pc = .ok (.lreturn, 1) → W p l e (zRm L k (6 * k)) s m args below meth c H locs cells slots Q (F0 m pc ls [.long (r u)])) → W p l e (zRm L k (6 * k)) s m args below meth c s.heap [] 0 0 Q (F0 m 0 ls [])) : zML l y wds L k D cI cJ av ws post (fun u => some (.long (r u))) ws' := by
  refine va_MetW (cc := cc) (maxL := maxL) (ret := some .long) (hh := hh) hy hw ?_
  intro p e s m args below meth c s₁ B hml hv
  obtain ⟨rfl, hG, hP, hK, hD⟩ := hv
  have hl := lv_entry av (n := maxL) hlen
  have htab := vx_table (x := y) (hh := hh) B (atoms_spec (ws := wds) B.pre _ (by rw [hw]; exact List.mem_cons_self))
  rw [lg_entry_eq]
  refine body p e s m _ below meth c _ _ _ ⟨⟨B.exec, B.bytes, hml, findClass_of_methodNamed B.named, atoms_spec (ws := wds) B.pre⟩, hG, hK, ⟨hD.1, fun k q hk => ⟨k, q.2, hk⟩⟩, B.notSynchronized⟩ htab hl hP va_S.rf ?_
  intro pc u H locs ls cells slots hc hs hu hP hS hd
  exact W.widen hc hs (W.lret B.exec B.bytes B.returns (fun t ht hW => ⟨u, rfl, hu, by rw [ht]; exact hP, hS.F ht⟩) hS.2.2 hd B.notSynchronized)
variable {p : Program} {l : Launch} {e : Env} {R : Room} {s : State} {m : MethodId} {args : Array Value} {below : List Frame} {meth : Method} {c : Code} {H : Heap} {locs : List Loc} {cells slots : Nat} {Q : State → Prop}
variable {pc : Nat} {ls : Array Slot} {rest st0 : List Value} {A0 : Nat → Prop} {D : va_G} {cI cJ : ClassId} {ws wc : va_W}
variable {y : MethodName} {bytes cc : ByteArray} {maxL nL n index : Nat} {ret : Option FieldType} {wy : List Cond} {Ly k9 : Nat} {Ts : List Cond} {own : String} {hh : List (Nat × Nat × Nat × Nat)} {As : List Value}
theorem za_join2 {w1 wr : va_W} {H1 : Heap} (hP : va_P D vwCl ws H) (hD : va_D A0 ws) (isC isR : List Nat) (hC : isC.map (fun i => ws[i]?) = wc.map some) (hR : isR.map (fun i => ws[i]?) = wr.map some) (hnC : va_nd isC = true) (hnR : va_nd isR = true) (hdis : ∀ i ∈ isR, i ∉ isC)
    (ha : w1.map Prod.fst = wc.map Prod.fst) (hk : ∀ q : Nat, q < H.size → ¬ zA wc q → H1[q]? = H[q]?) (hP1 : va_P D vwCl w1 H1) : va_P D vwCl (wr ++ w1) H1 ∧ va_D A0 (wr ++ w1) := by
  have apart : ∀ (k : Nat) (q : Nat × va_E), wr[k]? = some q → q.1 < H.size ∧ ¬ zA wc q.1 := by
    intro k q hq
    obtain ⟨i, h1, h2⟩ := za_sub hD isR hR k q hq
    refine ⟨(hP i q h2).lt, ?_⟩
    rintro ⟨k2, e, h⟩
    obtain ⟨j, h3, h4⟩ := za_sub hD isC hC k2 _ h
    have hij := hD.1 i j q (q.1, e) h2 h4 rfl
    subst hij
    exact hdis i (List.mem_of_getElem? h1) (List.mem_of_getElem? h3)
  have hD1 : va_D A0 w1 := za_D_fst ha (hD.sub isC hnC hC)
  refine ⟨va_P.app (fun k q hq => ?_) hP1, va_D.app (hD.sub isR hnR hR) hD1 (fun i j x y hx hy hxy => ?_)⟩
  · obtain ⟨i, h1, h2⟩ := za_sub hD isR hR k q hq
    obtain ⟨g1, g2⟩ := apart k q hq
    exact (hP i q h2).kept (hk q.1 g1 g2)
  · refine (apart i x hx).2 ?_
    rw [hxy]
    have h1 : (w1.map Prod.fst)[j]? = some y.1 := by rw [List.getElem?_map, hy]; rfl
    rw [ha, List.getElem?_map] at h1
    cases hw : wc[j]? with
    | none => rw [hw] at h1; cases h1
    | some q0 =>
      rw [hw] at h1
      have h2 : q0.1 = y.1 := Option.some.inj h1
      exact ⟨j, q0.2, by rw [hw, ← h2]⟩
theorem z_run2 {mc ms : Nat} {a : Array Value} {S : Type} {post : S → Prop} {rv : S → Option Value} {w' : S → va_W} {wr : va_W} (hr : va_Run p l e R s m args below meth c H locs cells slots mc ms (F0 m pc ls st0) rest (zQ D wc post rv w' a) (zA wc)) (hP : va_P D vwCl ws H) (hD : va_D A0 ws) (hS : va_S A0 s.heap H locs)
    (isC isR : List Nat) (hC : isC.map (fun i => ws[i]?) = wc.map some) (hR : isR.map (fun i => ws[i]?) = wr.map some) (hnC : va_nd isC = true) (hnR : va_nd isR = true) (hdis : ∀ i ∈ isR, i ∉ isC) (hf : ∀ u, (w' u).map Prod.fst = wc.map Prod.fst)
    (kk : ∀ (u : S) (H1 : Heap) (locs1 : List Loc), post u → va_P D vwCl (wr ++ w' u) H1 → va_D A0 (wr ++ w' u) → va_S A0 s.heap H1 locs1 → W p l e R s m args below meth c H1 locs1 (cells + mc) (slots + ms) Q (F0 m (pc + 3) ls ((rv u).toList ++ rest))) : W p l e R s m args below meth c H locs cells slots Q (F0 m pc ls st0) := by
  intro T hT X
  obtain ⟨v, st₀, t, T', L, h0, X', hL, e1, e2, ⟨u, hv, hp, hb, hz, hk⟩, st⟩ := hr T hT X
  have hv : v = rv u := by cases hv; rfl
  subst hv
  rw [h0] at hz hk
  have hA : ∀ q, zA wc q → A0 q := za_in hD isC hC
  obtain ⟨g1, g2⟩ := za_join2 hP hD isC isR hC hR hnC hnR hdis (hf u) hk hb
  rw [← e1] at g1
  obtain ⟨t2, a1, b1⟩ := kk u T'.heap (locs ++ L) hp g1 g2
    ⟨Nat.le_trans hS.1 (by rw [e1]; exact hz), fun q h1 h2 => by rw [e1, hk q (Nat.lt_of_lt_of_le h1 hS.1) (fun z => h2 (hA q z))]; exact hS.2.1 q h1 h2, fun q hq => by
      rcases List.mem_append.mp hq with h | h
      · exact hS.2.2 q h
      · exact hA _ (hL q h)⟩ T' rfl X'
  exact ⟨t2, st t2 a1, b1⟩
theorem z_runx2 {a : Array Value} {mc ms : Nat} {S SX : Type} {post : S → Prop} {rv : S → Option Value} {w' : S → va_W} {px : String → SX → Prop} {wx : SX → va_W} {wr : va_W} (hr : vx_Run p l e R s m args below meth c H locs cells slots mc ms (F0 m pc ls st0) rest (zQ D wc post rv w' a) (zXC D wc px wx) (zA wc)) (hP : va_P D vwCl ws H) (hD : va_D A0 ws) (hS : va_S A0 s.heap H locs)
    (isC isR : List Nat) (hC : isC.map (fun i => ws[i]?) = wc.map some) (hR : isR.map (fun i => ws[i]?) = wr.map some) (hnC : va_nd isC = true) (hnR : va_nd isR = true) (hdis : ∀ i ∈ isR, i ∉ isC) (hf : ∀ u, (w' u).map Prod.fst = wc.map Prod.fst) (hfx : ∀ u, (wx u).map Prod.fst = wc.map Prod.fst)
    (kx : ∀ (E : String) (ce : Cell) (q9 : Addr) (u : SX) (H1 : Heap) (locs1 : List Loc), px E u → va_P D vwCl (wr ++ wx u) H1 → va_D A0 (wr ++ wx u) → va_S A0 s.heap H1 locs1 → H1[q9]? = some ce → ce.vm = .none → s.vm.findClass E = some ce.cls → vx_W p l e R s m args below meth c H1 locs1 (cells + mc) (slots + ms) Q (F0 m pc ls rest) q9)
    (kk : ∀ (u : S) (H1 : Heap) (locs1 : List Loc), post u → va_P D vwCl (wr ++ w' u) H1 → va_D A0 (wr ++ w' u) → va_S A0 s.heap H1 locs1 → W p l e R s m args below meth c H1 locs1 (cells + mc) (slots + ms) Q (F0 m (pc + 3) ls ((rv u).toList ++ rest))) : W p l e R s m args below meth c H locs cells slots Q (F0 m pc ls st0) := by
  intro T hT X
  have hA : ∀ q, zA wc q → A0 q := za_in hD isC hC
  rcases hr T hT X with ⟨v, st₀, t, T', L, h0, X', hL, e1, e2, ⟨u, hv, hp, hb, hF⟩, st⟩ | ⟨q, st₀, t, T', L, E, ce, h0, X', hL, e1, e2, ⟨u, hp, hb, hF⟩, hce, hcv, hcl, st⟩
  · have hv : v = rv u := by cases hv; rfl
    subst hv
    obtain ⟨k1, k2, k3⟩ := vx_keep (A0 := A0) (A1 := zA wc) (free := zA wc) h0 e1 hS (fun q _ => hA q) hA hL hF
    rw [← e1] at hb
    obtain ⟨g1, g2⟩ := za_join2 hP hD isC isR hC hR hnC hnR hdis (hf u) k2 hb
    obtain ⟨t2, a1, b1⟩ := kk u T'.heap (locs ++ L) hp g1 g2 k3 T' rfl X'
    exact ⟨t2, st t2 a1, b1⟩
  · obtain ⟨k1, k2, k3⟩ := vx_keep (A0 := A0) (A1 := zA wc) (free := zA wc) h0 e1 hS (fun q _ => hA q) hA hL hF
    rw [← e1] at hb
    obtain ⟨g1, g2⟩ := za_join2 hP hD isC isR hC hR hnC hnR hdis (hfx u) k2 hb
    obtain ⟨t2, a1, b1⟩ := kx E ce q u T'.heap (locs ++ L) hp g1 g2 k3 (by rw [e1]; exact hce) hcv hcl T' rfl X'
    exact ⟨t2, st.trans a1, b1⟩
variable {C : String} {b : Addr}
theorem z_callV2 {S : Type} {post : S → Prop} {rv : S → Option Value} {w' : S → va_W} {wr : va_W} (Fx : CallFix p m c cc nL s args Ts own) (hG : zG A0 s s.heap) (hK : va_K D vwCl [(cI, .int), (cJ, .long)] s) (hP : va_P D vwCl ws H) (hD : va_D A0 ws) (hS : va_S A0 s.heap H locs)
    (hM : zM l y wy Ly D cI cJ (.ref b :: As) wc post rv w') (cw : CallW R s args own C index y bytes maxL ret wy (zRm Ly 0 0) 0 0 n) (isC isR : List Nat) (hC : isC.map (fun i => ws[i]?) = wc.map some) (hR : isR.map (fun i => ws[i]?) = wr.map some) (hnC : va_nd isC = true) (hnR : va_nd isR = true) (hdis : ∀ i ∈ isR, i ∉ isC) (hf : ∀ u, (w' u).map Prod.fst = wc.map Prod.fst)
    (k : Nat) {fs : List Value} {ci : Nat} {q : vw_C} (hk : ws[k]? = some (b, .inr (ci, fs))) (hc : vwCl[ci]? = some q) (hq : q.1 = C) (hlen : As.length = n) (hsize : ls.size = nL) (hst : st0 = As.reverse ++ .ref b :: rest) (hW : (rest.map fun v => v.category).sum ≤ 8) (hdg : decode cc pc = .ok (.invokevirtual index, 3)) (hb : cells ≤ R.cells ∧ slots ≤ R.slots)
    (kk : ∀ (u : S) (H1 : Heap) (locs1 : List Loc), post u → va_P D vwCl (wr ++ w' u) H1 → va_D A0 (wr ++ w' u) → va_S A0 s.heap H1 locs1 → W p l e R s m args below meth c H1 locs1 cells slots Q (F0 m (pc + 3) ls ((rv u).toList ++ rest))) : W p l e R s m args below meth c H locs cells slots Q (F0 m pc ls st0) := by
  subst hq
  exact z_run2 (va_runV (As := As) (rest := rest) (g := F0 m pc ls st0) Fx hM cw ⟨zPc.blind, va_recv hK hP hc hk, z_pre hG hK hP hD hS isC hnC hC⟩ rfl hlen hsize hst (lv_room (rest := st0) hW) hdg hb) hP hD hS isC isR hC hR hnC hnR hdis hf kk
theorem z_callXV2 {S SX : Type} {post : S → Prop} {rv : S → Option Value} {w' : S → va_W} {px : String → SX → Prop} {wx : SX → va_W} {wr : va_W} (Fx : CallFix p m c cc nL s args Ts own) (hG : zG A0 s s.heap) (hK : va_K D vwCl [(cI, .int), (cJ, .long)] s) (hP : va_P D vwCl ws H) (hD : va_D A0 ws) (hS : va_S A0 s.heap H locs)
    (hM : zMt l y wy Ly k9 D cI cJ (.ref b :: As) wc post rv w' px wx) (cw : CallW R s args own C index y bytes maxL ret wy (zRm Ly k9 (6 * k9)) k9 (6 * k9) n) (isC isR : List Nat) (hC : isC.map (fun i => ws[i]?) = wc.map some) (hR : isR.map (fun i => ws[i]?) = wr.map some) (hnC : va_nd isC = true) (hnR : va_nd isR = true) (hdis : ∀ i ∈ isR, i ∉ isC) (hf : ∀ u, (w' u).map Prod.fst = wc.map Prod.fst) (hfx : ∀ u, (wx u).map Prod.fst = wc.map Prod.fst)
    (k : Nat) {fs : List Value} {ci : Nat} {q : vw_C} (hk : ws[k]? = some (b, .inr (ci, fs))) (hc : vwCl[ci]? = some q) (hq : q.1 = C) (hlen : As.length = n) (hsize : ls.size = nL) (hst : st0 = As.reverse ++ .ref b :: rest) (hW : (rest.map fun v => v.category).sum ≤ 8) (hdg : decode cc pc = .ok (.invokevirtual index, 3)) (hb : cells + k9 ≤ R.cells ∧ slots + 6 * k9 ≤ R.slots)
    (kx : ∀ (E : String) (ce : Cell) (q9 : Addr) (u : SX) (H1 : Heap) (locs1 : List Loc), px E u → va_P D vwCl (wr ++ wx u) H1 → va_D A0 (wr ++ wx u) → va_S A0 s.heap H1 locs1 → H1[q9]? = some ce → ce.vm = .none → s.vm.findClass E = some ce.cls → vx_W p l e R s m args below meth c H1 locs1 (cells + k9) (slots + 6 * k9) Q (F0 m pc ls rest) q9)
    (kk : ∀ (u : S) (H1 : Heap) (locs1 : List Loc), post u → va_P D vwCl (wr ++ w' u) H1 → va_D A0 (wr ++ w' u) → va_S A0 s.heap H1 locs1 → W p l e R s m args below meth c H1 locs1 (cells + k9) (slots + 6 * k9) Q (F0 m (pc + 3) ls ((rv u).toList ++ rest))) : W p l e R s m args below meth c H locs cells slots Q (F0 m pc ls st0) := by
  subst hq
  exact z_runx2 (vx_runV (As := As) (rest := rest) (g := F0 m pc ls st0) Fx hM cw ⟨zPc.blind, va_recv hK hP hc hk, z_pre hG hK hP hD hS isC hnC hC⟩ rfl hlen hsize hst (lv_room (rest := st0) hW) hdg hb) hP hD hS isC isR hC hR hnC hnR hdis hf hfx kx kk
theorem z_callSL {S : Type} {post : S → Prop} {rv : S → Option Value} {w' : S → va_W} {wr : va_W} (Fx : CallFix p m c cc nL s args Ts own) (hG : zG A0 s s.heap) (hK : va_K D vwCl [(cI, .int), (cJ, .long)] s) (hP : va_P D vwCl ws H) (hD : va_D A0 ws) (hS : va_S A0 s.heap H locs)
    (hM : zML l y wy Ly k9 D cI cJ As wc post rv w') (cw : vx_CSW R s args own index y bytes maxL ret hh wy (zRm Ly k9 (6 * k9)) k9 (6 * k9) n) (isC isR : List Nat) (hC : isC.map (fun i => ws[i]?) = wc.map some) (hR : isR.map (fun i => ws[i]?) = wr.map some) (hnC : va_nd isC = true) (hnR : va_nd isR = true) (hdis : ∀ i ∈ isR, i ∉ isC) (hf : ∀ u, (w' u).map Prod.fst = wc.map Prod.fst)
    (hlen : As.length = n) (hsize : ls.size = nL) (hst : st0 = As.reverse ++ rest) (hW : (rest.map fun v => v.category).sum ≤ 8) (hdg : decode cc pc = .ok (.invokestatic index, 3)) (hb : cells + k9 ≤ R.cells ∧ slots + 6 * k9 ≤ R.slots)
    (kk : ∀ (u : S) (H1 : Heap) (locs1 : List Loc), post u → va_P D vwCl (wr ++ w' u) H1 → va_D A0 (wr ++ w' u) → va_S A0 s.heap H1 locs1 → W p l e R s m args below meth c H1 locs1 (cells + k9) (slots + 6 * k9) Q (F0 m (pc + 3) ls ((rv u).toList ++ rest))) : W p l e R s m args below meth c H locs cells slots Q (F0 m pc ls st0) :=
  z_run2 (vx_runSW (As := As) (rest := rest) (g := F0 m pc ls st0) Fx hM cw ⟨zPc.blind, z_pre hG hK hP hD hS isC hnC hC⟩ rfl hlen hsize hst (lv_room (rest := st0) hW) hdg hb) hP hD hS isC isR hC hR hnC hnR hdis hf kk
theorem z_callS2 {S : Type} {post : S → Prop} {rv : S → Option Value} {w' : S → va_W} {wr : va_W} (Fx : CallFix p m c cc nL s args Ts own) (hG : zG A0 s s.heap) (hK : va_K D vwCl [(cI, .int), (cJ, .long)] s) (hP : va_P D vwCl ws H) (hD : va_D A0 ws) (hS : va_S A0 s.heap H locs)
    (hM : zML l y wy Ly k9 D cI cJ As wc post rv w') (cw : CallB R s args own index y bytes maxL ret wy (zRm Ly k9 (6 * k9)) k9 (6 * k9) n ∧ (Cond.static y).before args s = true) (isC isR : List Nat) (hC : isC.map (fun i => ws[i]?) = wc.map some) (hR : isR.map (fun i => ws[i]?) = wr.map some) (hnC : va_nd isC = true) (hnR : va_nd isR = true) (hdis : ∀ i ∈ isR, i ∉ isC) (hf : ∀ u, (w' u).map Prod.fst = wc.map Prod.fst)
    (hlen : As.length = n) (hsize : ls.size = nL) (hst : st0 = As.reverse ++ rest) (hW : (rest.map fun v => v.category).sum ≤ 8) (hdg : decode cc pc = .ok (.invokestatic index, 3)) (hb : cells + k9 ≤ R.cells ∧ slots + 6 * k9 ≤ R.slots)
    (kk : ∀ (u : S) (H1 : Heap) (locs1 : List Loc), post u → va_P D vwCl (wr ++ w' u) H1 → va_D A0 (wr ++ w' u) → va_S A0 s.heap H1 locs1 → W p l e R s m args below meth c H1 locs1 (cells + k9) (slots + 6 * k9) Q (F0 m (pc + 3) ls ((rv u).toList ++ rest))) : W p l e R s m args below meth c H locs cells slots Q (F0 m pc ls st0) :=
  z_run2 (va_runS (As := As) (rest := rest) (g := F0 m pc ls st0) Fx hM cw ⟨zPc.blind, z_pre hG hK hP hD hS isC hnC hC⟩ rfl hlen hsize hst (lv_room (rest := st0) hW) hdg hb) hP hD hS isC isR hC hR hnC hnR hdis hf kk
end ZLAW
section ZFRAME
variable {l : Launch} {y : MethodName} {wds : List Cond} {L k : Nat} {D : va_G} {cI cJ : ClassId} {av : List Value} {ws wc wr : va_W} {S S2 : Type} {post : S → Prop} {rv : S → Option Value} {w' : S → va_W} {post2 : S2 → Prop} {rv2 : S2 → Option Value} {w2 : S2 → va_W}
/-- a contract over more cells: what is not the method's stays as it is -/
theorem z_frame2 (hM : zML l y wds L k D cI cJ av wc post rv w') (isC isR : List Nat) (hC : isC.map (fun i => ws[i]?) = wc.map some) (hR : isR.map (fun i => ws[i]?) = wr.map some) (hnC : va_nd isC = true) (hnR : va_nd isR = true) (hdis : ∀ i ∈ isR, i ∉ isC) (hf : ∀ u, (w' u).map Prod.fst = wc.map Prod.fst)
    (perm : List Nat) (hu : ∀ u, post u → ∃ u2, post2 u2 ∧ rv u = rv2 u2 ∧ perm.filterMap (fun i => (wr ++ w' u)[i]?) = w2 u2) : zML l y wds L k D cI cJ av ws post2 rv2 w2 := by
  intro p e ha hfc hcl s m args below hfr hSp hPc _
  obtain ⟨h0, hG, hP, hK, hD⟩ := hPc
  have hD0 : va_D (zA ws) ws := ⟨hD.1, fun k q hk => ⟨k, q.2, hk⟩⟩
  have hin := za_in hD0 isC hC
  have pre := (z_pre hG hK hP hD0 va_S.rf isC hnC hC (av := av) s rfl (State.WarmedH.refl s))
  rw [← h0] at pre
  obtain ⟨n, o, h1, h2, h3, ⟨⟨u, ho, hp, hb, hF⟩, Lc, hFe, hLc⟩⟩ := hM p e ha hfc hcl s m args below hfr hSp pre trivial
  obtain ⟨u2, hp2, hr2, hw2⟩ := hu u hp
  obtain ⟨g1, g2⟩ := za_join2 hP hD0 isC isR hC hR hnC hnR hdis (hf u) hF.2 hb
  exact ⟨n, o, h1, h2, h3, ⟨⟨u2, by rw [ho, hr2], hp2, g1.sub perm hw2, ⟨hF.1, fun q hq hz => hF.2 q hq (fun z => hz (hin q z))⟩⟩, Lc, hFe, fun q hq => hin _ (hLc q hq)⟩⟩
end ZFRAME
section ZAPP
variable {p : Program} {l : Launch} {e : Env} {R : Room} {s : State} {m : MethodId} {args : Array Value} {below : List Frame} {meth : Method} {c : Code} {H : Heap} {locs : List Loc} {cells slots : Nat} {Q : State → Prop}
variable {pc : Nat} {ls : Array Slot} {rest st0 : List Value} {A0 : Nat → Prop} {D : va_G} {cI cJ : ClassId} {w1 wc : va_W}
variable {y : MethodName} {bytes cc : ByteArray} {maxL nL n index : Nat} {ret : Option FieldType} {wy : List Cond} {Ly k9 : Nat} {Ts : List Cond} {own : String} {hh : List (Nat × Nat × Nat × Nat)} {As : List Value}
theorem za_idx1 (w1 wc : va_W) (k : Nat) (q : Nat × va_E) (h : w1[k]? = some q) : (w1 ++ wc)[k]? = some q := by
  rw [List.getElem?_append_left (List.getElem?_eq_some_iff.mp h).1]; exact h
theorem za_idx2 (w1 wc : va_W) (k : Nat) : (w1 ++ wc)[w1.length + k]? = wc[k]? := by
  rw [List.getElem?_append_right (Nat.le_add_right _ _), Nat.add_sub_cancel_left]
theorem za_Pl {H : Heap} (h : va_P D vwCl (w1 ++ wc) H) : va_P D vwCl w1 H := fun k q hk => h k q (za_idx1 w1 wc k q hk)
theorem za_Pr {H : Heap} (h : va_P D vwCl (w1 ++ wc) H) : va_P D vwCl wc H := fun k q hk => h (w1.length + k) q (by rw [za_idx2]; exact hk)
theorem za_Dl (h : va_D A0 (w1 ++ wc)) : va_D A0 w1 := ⟨fun i j p q hi hj e => h.1 i j p q (za_idx1 _ _ _ _ hi) (za_idx1 _ _ _ _ hj) e, fun k q hk => h.2 k q (za_idx1 _ _ _ _ hk)⟩
theorem za_Dr (h : va_D A0 (w1 ++ wc)) : va_D A0 wc := ⟨fun i j p q hi hj e => by
  have := h.1 (w1.length + i) (w1.length + j) p q (by rw [za_idx2]; exact hi) (by rw [za_idx2]; exact hj) e
  omega, fun k q hk => h.2 (w1.length + k) q (by rw [za_idx2]; exact hk)⟩
theorem za_Dx (h : va_D A0 (w1 ++ wc)) (i j : Nat) (p q : Nat × va_E) (hi : w1[i]? = some p) (hj : wc[j]? = some q) : p.1 ≠ q.1 := fun e => by
  have h1 := h.1 i (w1.length + j) p q (za_idx1 _ _ _ _ hi) (by rw [za_idx2]; exact hj) e
  have h2 := (List.getElem?_eq_some_iff.mp hi).1
  omega
theorem za_Pc {H : Heap} (h : va_P D vwCl (w1 ++ wc) H) : va_P D vwCl (wc ++ w1) H := va_P.app (za_Pr h) (za_Pl h)
theorem za_Dc (h : va_D A0 (w1 ++ wc)) : va_D A0 (wc ++ w1) := va_D.app (za_Dr h) (za_Dl h) (fun i j p q hi hj e => za_Dx h j i q p hj hi e.symm)
/-- the callee's cells stand last -/
theorem za_joinA {w2 : va_W} {H1 : Heap} (hP : va_P D vwCl (w1 ++ wc) H) (hD : va_D A0 (w1 ++ wc)) (ha : w2.map Prod.fst = wc.map Prod.fst) (hk : ∀ q : Nat, q < H.size → ¬ zA wc q → H1[q]? = H[q]?) (hP1 : va_P D vwCl w2 H1) : va_P D vwCl (w1 ++ w2) H1 ∧ va_D A0 (w1 ++ w2) := by
  have hx : ∀ (i j : Nat) (p q : Nat × va_E), w1[i]? = some p → wc[j]? = some q → p.1 ≠ q.1 := za_Dx hD
  refine ⟨va_P.app (fun k q hq => (za_Pl hP k q hq).kept (hk q.1 (za_Pl hP k q hq).lt (fun z => ?_))) hP1, va_D.app (za_Dl hD) (za_D_fst ha (za_Dr hD)) (fun i j p q hi hj e => ?_)⟩
  · obtain ⟨j, e, hj⟩ := z
    exact hx k j q (q.1, e) hq hj rfl
  · have h1 : (w2.map Prod.fst)[j]? = some q.1 := by rw [List.getElem?_map, hj]; rfl
    rw [ha, List.getElem?_map] at h1
    cases hw : wc[j]? with
    | none => rw [hw] at h1; cases h1
    | some q0 =>
      rw [hw] at h1
      have h2 : q0.1 = q.1 := Option.some.inj h1
      exact hx i j p q0 hi hw (e.trans h2.symm)
theorem z_runA {mc ms : Nat} {a : Array Value} {S : Type} {post : S → Prop} {rv : S → Option Value} {w' : S → va_W} (hr : va_Run p l e R s m args below meth c H locs cells slots mc ms (F0 m pc ls st0) rest (zQ D wc post rv w' a) (zA wc)) (hP : va_P D vwCl (w1 ++ wc) H) (hD : va_D A0 (w1 ++ wc)) (hS : va_S A0 s.heap H locs) (hf : ∀ u, (w' u).map Prod.fst = wc.map Prod.fst)
    (kk : ∀ (u : S) (H1 : Heap) (locs1 : List Loc), post u → va_P D vwCl (w1 ++ w' u) H1 → va_D A0 (w1 ++ w' u) → va_S A0 s.heap H1 locs1 → W p l e R s m args below meth c H1 locs1 (cells + mc) (slots + ms) Q (F0 m (pc + 3) ls ((rv u).toList ++ rest))) : W p l e R s m args below meth c H locs cells slots Q (F0 m pc ls st0) := by
  intro T hT X
  obtain ⟨v, st₀, t, T', L, h0, X', hL, e1, e2, ⟨u, hv, hp, hb, hz, hk⟩, st⟩ := hr T hT X
  have hv : v = rv u := by cases hv; rfl
  subst hv
  rw [h0] at hz hk
  have hA : ∀ q, zA wc q → A0 q := fun q ⟨k, x, hq⟩ => (za_Dr hD).2 k (q, x) hq
  obtain ⟨g1, g2⟩ := za_joinA hP hD (hf u) hk hb
  rw [← e1] at g1
  obtain ⟨t2, a1, b1⟩ := kk u T'.heap (locs ++ L) hp g1 g2
    ⟨Nat.le_trans hS.1 (by rw [e1]; exact hz), fun q h1 h2 => by rw [e1, hk q (Nat.lt_of_lt_of_le h1 hS.1) (fun z => h2 (hA q z))]; exact hS.2.1 q h1 h2, fun q hq => by
      rcases List.mem_append.mp hq with h | h
      · exact hS.2.2 q h
      · exact hA _ (hL q h)⟩ T' rfl X'
  exact ⟨t2, st t2 a1, b1⟩
theorem z_preA {av : List Value} (hG : zG A0 s s.heap) (hK : va_K D vwCl [(cI, .int), (cJ, .long)] s) (hP : va_P D vwCl (w1 ++ wc) H) (hD : va_D A0 (w1 ++ wc)) (hS : va_S A0 s.heap H locs) : ∀ U : State, U.heap = H → s.WarmedH U.vm → zPc D cI cJ wc av av.toArray U := by
  intro U hU hW
  refine ⟨rfl, hG.to hS hU hW (fun q ⟨k, x, hq⟩ => (za_Dr hD).2 k (q, x) hq), ?_, va_K.moved hW.alike hK, (za_Dr hD).weaken (fun _ _ _ _ => trivial)⟩
  rw [hU]
  exact za_Pr hP
/-- a call of one of the law's own, its cells the last ones; it catches what is thrown -/
theorem z_callAX {S : Type} {post : S → Prop} {rv : S → Option Value} {w' : S → va_W} (Fx : CallFix p m c cc nL s args Ts own) (hG : zG A0 s s.heap) (hK : va_K D vwCl [(cI, .int), (cJ, .long)] s) (hP : va_P D vwCl (w1 ++ wc) H) (hD : va_D A0 (w1 ++ wc)) (hS : va_S A0 s.heap H locs)
    (hM : zML l y wy Ly k9 D cI cJ As wc post rv w') (cw : vx_CSW R s args own index y bytes maxL ret hh wy (zRm Ly k9 (6 * k9)) k9 (6 * k9) n) (hf : ∀ u, (w' u).map Prod.fst = wc.map Prod.fst)
    (hlen : As.length = n) (hsize : ls.size = nL) (hst : st0 = As.reverse ++ rest) (hW : (rest.map fun v => v.category).sum ≤ 8) (hdg : decode cc pc = .ok (.invokestatic index, 3)) (hb : cells + k9 ≤ R.cells ∧ slots + 6 * k9 ≤ R.slots)
    (kk : ∀ (u : S) (H1 : Heap) (locs1 : List Loc), post u → va_P D vwCl (w1 ++ w' u) H1 → va_D A0 (w1 ++ w' u) → va_S A0 s.heap H1 locs1 → W p l e R s m args below meth c H1 locs1 (cells + k9) (slots + 6 * k9) Q (F0 m (pc + 3) ls ((rv u).toList ++ rest))) : W p l e R s m args below meth c H locs cells slots Q (F0 m pc ls st0) :=
  z_runA (vx_runSW (As := As) (rest := rest) (g := F0 m pc ls st0) Fx hM cw ⟨zPc.blind, z_preA hG hK hP hD hS⟩ rfl hlen hsize hst (lv_room (rest := st0) hW) hdg hb) hP hD hS hf kk
/-- the same, of one that catches nothing -/
theorem z_callA {S : Type} {post : S → Prop} {rv : S → Option Value} {w' : S → va_W} (Fx : CallFix p m c cc nL s args Ts own) (hG : zG A0 s s.heap) (hK : va_K D vwCl [(cI, .int), (cJ, .long)] s) (hP : va_P D vwCl (w1 ++ wc) H) (hD : va_D A0 (w1 ++ wc)) (hS : va_S A0 s.heap H locs)
    (hM : zML l y wy Ly k9 D cI cJ As wc post rv w') (cw : CallB R s args own index y bytes maxL ret wy (zRm Ly k9 (6 * k9)) k9 (6 * k9) n ∧ (Cond.static y).before args s = true) (hf : ∀ u, (w' u).map Prod.fst = wc.map Prod.fst)
    (hlen : As.length = n) (hsize : ls.size = nL) (hst : st0 = As.reverse ++ rest) (hW : (rest.map fun v => v.category).sum ≤ 8) (hdg : decode cc pc = .ok (.invokestatic index, 3)) (hb : cells + k9 ≤ R.cells ∧ slots + 6 * k9 ≤ R.slots)
    (kk : ∀ (u : S) (H1 : Heap) (locs1 : List Loc), post u → va_P D vwCl (w1 ++ w' u) H1 → va_D A0 (w1 ++ w' u) → va_S A0 s.heap H1 locs1 → W p l e R s m args below meth c H1 locs1 (cells + k9) (slots + 6 * k9) Q (F0 m (pc + 3) ls ((rv u).toList ++ rest))) : W p l e R s m args below meth c H locs cells slots Q (F0 m pc ls st0) :=
  z_runA (va_runS (As := As) (rest := rest) (g := F0 m pc ls st0) Fx hM cw ⟨zPc.blind, z_preA hG hK hP hD hS⟩ rfl hlen hsize hst (lv_room (rest := st0) hW) hdg hb) hP hD hS hf kk
/-- the callee's cells stand first -/
theorem z_callF {S : Type} {post : S → Prop} {rv : S → Option Value} {w' : S → va_W} (Fx : CallFix p m c cc nL s args Ts own) (hG : zG A0 s s.heap) (hK : va_K D vwCl [(cI, .int), (cJ, .long)] s) (hP : va_P D vwCl (wc ++ w1) H) (hD : va_D A0 (wc ++ w1)) (hS : va_S A0 s.heap H locs)
    (hM : zML l y wy Ly k9 D cI cJ As wc post rv w') (cw : CallB R s args own index y bytes maxL ret wy (zRm Ly k9 (6 * k9)) k9 (6 * k9) n ∧ (Cond.static y).before args s = true) (hf : ∀ u, (w' u).map Prod.fst = wc.map Prod.fst)
    (hlen : As.length = n) (hsize : ls.size = nL) (hst : st0 = As.reverse ++ rest) (hW : (rest.map fun v => v.category).sum ≤ 8) (hdg : decode cc pc = .ok (.invokestatic index, 3)) (hb : cells + k9 ≤ R.cells ∧ slots + 6 * k9 ≤ R.slots)
    (kk : ∀ (u : S) (H1 : Heap) (locs1 : List Loc), post u → va_P D vwCl (w' u ++ w1) H1 → va_D A0 (w' u ++ w1) → va_S A0 s.heap H1 locs1 → W p l e R s m args below meth c H1 locs1 (cells + k9) (slots + 6 * k9) Q (F0 m (pc + 3) ls ((rv u).toList ++ rest))) : W p l e R s m args below meth c H locs cells slots Q (F0 m pc ls st0) :=
  z_callA Fx hG hK (za_Pc hP) (za_Dc hD) hS hM cw hf hlen hsize hst hW hdg hb (fun u H1 locs1 h1 h2 h3 h4 => kk u H1 locs1 h1 (za_Pc h2) (za_Dc h3) h4)
/-- no cell at all -/
theorem z_call0 {S : Type} {post : S → Prop} {rv : S → Option Value} {w' : S → va_W} (Fx : CallFix p m c cc nL s args Ts own) (hG : zG A0 s s.heap) (hK : va_K D vwCl [(cI, .int), (cJ, .long)] s) (hP : va_P D vwCl w1 H) (hD : va_D A0 w1) (hS : va_S A0 s.heap H locs)
    (hM : zML l y wy Ly k9 D cI cJ As [] post rv w') (cw : CallB R s args own index y bytes maxL ret wy (zRm Ly k9 (6 * k9)) k9 (6 * k9) n ∧ (Cond.static y).before args s = true) (hf : ∀ u, (w' u).map Prod.fst = List.map Prod.fst ([] : va_W))
    (hlen : As.length = n) (hsize : ls.size = nL) (hst : st0 = As.reverse ++ rest) (hW : (rest.map fun v => v.category).sum ≤ 8) (hdg : decode cc pc = .ok (.invokestatic index, 3)) (hb : cells + k9 ≤ R.cells ∧ slots + 6 * k9 ≤ R.slots)
    (kk : ∀ (u : S) (H1 : Heap) (locs1 : List Loc), post u → va_P D vwCl w1 H1 → va_D A0 w1 → va_S A0 s.heap H1 locs1 → W p l e R s m args below meth c H1 locs1 (cells + k9) (slots + 6 * k9) Q (F0 m (pc + 3) ls ((rv u).toList ++ rest))) : W p l e R s m args below meth c H locs cells slots Q (F0 m pc ls st0) :=
  z_callA (w1 := w1) (wc := []) Fx hG hK (by rw [List.append_nil]; exact hP) (by rw [List.append_nil]; exact hD) hS hM cw hf hlen hsize hst hW hdg hb (fun u H1 locs1 h1 h2 h3 h4 => kk u H1 locs1 h1 (za_Pl h2) (za_Dl h3) h4)
/-- a call of the class's own method, its cells the last ones -/
theorem z_callAV {C : String} {b : Addr} {S : Type} {post : S → Prop} {rv : S → Option Value} {w' : S → va_W} (Fx : CallFix p m c cc nL s args Ts own) (hG : zG A0 s s.heap) (hK : va_K D vwCl [(cI, .int), (cJ, .long)] s) (hP : va_P D vwCl (w1 ++ wc) H) (hD : va_D A0 (w1 ++ wc)) (hS : va_S A0 s.heap H locs)
    (hM : zML l y wy Ly k9 D cI cJ (.ref b :: As) wc post rv w') (cw : CallW R s args own C index y bytes maxL ret wy (zRm Ly k9 (6 * k9)) k9 (6 * k9) n) (hf : ∀ u, (w' u).map Prod.fst = wc.map Prod.fst)
    (k : Nat) {fs : List Value} {ci : Nat} {q : vw_C} (hk : wc[k]? = some (b, .inr (ci, fs))) (hc : vwCl[ci]? = some q) (hq : q.1 = C) (hlen : As.length = n) (hsize : ls.size = nL) (hst : st0 = As.reverse ++ .ref b :: rest) (hW : (rest.map fun v => v.category).sum ≤ 8) (hdg : decode cc pc = .ok (.invokevirtual index, 3)) (hb : cells + k9 ≤ R.cells ∧ slots + 6 * k9 ≤ R.slots)
    (kk : ∀ (u : S) (H1 : Heap) (locs1 : List Loc), post u → va_P D vwCl (w1 ++ w' u) H1 → va_D A0 (w1 ++ w' u) → va_S A0 s.heap H1 locs1 → W p l e R s m args below meth c H1 locs1 (cells + k9) (slots + 6 * k9) Q (F0 m (pc + 3) ls ((rv u).toList ++ rest))) : W p l e R s m args below meth c H locs cells slots Q (F0 m pc ls st0) := by
  subst hq
  exact z_runA (va_runV (As := As) (rest := rest) (g := F0 m pc ls st0) Fx hM cw ⟨zPc.blind, va_recv hK (za_Pr hP) hc hk, z_preA hG hK hP hD hS⟩ rfl hlen hsize hst (lv_room (rest := st0) hW) hdg hb) hP hD hS hf kk
end ZAPP
