/-! base: contracts whose world is a list of cells, each changed in its place; what every method takes as given (globals) -/
abbrev zRm (L mc ms : Nat) : Room := { frames := 8 * L + 8, cells := mc, slots := ms, locals := 500 * L + 500 }
def zSinL : List Int32 := [0, 98, 195, 290, 383, 471, 556, 634, 707, 773, 831, 882, 924, 957, 981, 995, 1000]
def zSin (j : Nat) : Int32 := zSinL.getD j 0
def zNm : List (String × Nat × MethodName × String) := [("ArmRoom", 9, yX0_init, "ArmRoom"), ("ArmRoom", 18, yX1_init, "ArmRoom"), ("ArmRoom", 25, yX4_init, "ArmRoom"), ("ArmRoom", 35, yX3_init, "ArmRoom"), ("ArmRoom$Search", 11, yX2_init, "ArmRoom"), ("ArmRoom", 90, yX4_follow, "ArmRoom"), ("ArmRoom$Tip", 44, yX0_turnOf, "ArmRoom"), ("ArmRoom$Tip", 48, yX0_distanceOf, "ArmRoom"), ("ArmRoom$Tip", 21, yX5_cosine, "ArmRoom"), ("ArmRoom$Tip", 25, yX5_sine, "ArmRoom"), ("ArmRoom", 101, yX4_followWith, "ArmRoom"), ("ArmRoom", 187, yX1_farFrom, "ArmRoom"), ("ArmRoom", 58, yX0_isFull, "ArmRoom"), ("ArmRoom", 67, yX0_add, "ArmRoom"), ("ArmRoom", 94, yX4_told, "ArmRoom"), ("ArmRoom", 98, yX4_followBack, "ArmRoom"), ("ArmRoom$Tip", 55, yX0_headingAt, "ArmRoom"), ("ArmRoom", 190, yX0_held, "ArmRoom"), ("ArmRoom", 151, yX0_countPoses, "ArmRoom"), ("ArmRoom", 158, yX3_run, "ArmRoom"), ("ArmRoom$Search", 37, yX2_clear, "ArmRoom"), ("ArmRoom$Search", 62, yX0_distanceOf, "ArmRoom"), ("ArmRoom$Search", 66, yX1_isWithin, "ArmRoom"), ("ArmRoom$Search", 103, yX1_farFrom, "ArmRoom"), ("ArmRoom$Search", 107, yX0_headingAt, "ArmRoom"), ("ArmRoom$Search", 74, yX2_add, "ArmRoom"), ("ArmRoom$Search", 85, yX0_turnOf, "ArmRoom"), ("ArmRoom$Search", 88, yX5_cosine, "ArmRoom"), ("ArmRoom$Search", 92, yX5_sine, "ArmRoom"), ("ArmRoom", 174, yX2_valueOf, "ArmRoom")]
def zNf : List (String × Nat × String × String × String × String) := [("ArmRoom", 75, "ArmRoom$Arm", "lows", "[I", "ArmRoom"), ("ArmRoom$Search", 78, "ArmRoom$Arm", "lows", "[I", "ArmRoom"), ("ArmRoom", 78, "ArmRoom$Arm", "highs", "[I", "ArmRoom"), ("ArmRoom$Search", 59, "ArmRoom$Arm", "highs", "[I", "ArmRoom"), ("ArmRoom", 83, "ArmRoom$Arm", "values", "[I", "ArmRoom"), ("ArmRoom$Tip", 40, "ArmRoom$Arm", "values", "[I", "ArmRoom"), ("ArmRoom$Search", 95, "ArmRoom$Arm", "values", "[I", "ArmRoom"), ("ArmRoom$Search", 44, "ArmRoom$Arm", "count", "I", "ArmRoom"), ("ArmRoom$Tip", 35, "ArmRoom$Arm", "count", "I", "ArmRoom"), ("ArmRoom", 108, "ArmRoom$Arm", "count", "I", "ArmRoom"), ("ArmRoom", 126, "ArmRoom$Goal", "x", "I", "ArmRoom"), ("ArmRoom", 129, "ArmRoom$Goal", "y", "I", "ArmRoom"), ("ArmRoom$Search", 54, "ArmRoom$Goal", "slack", "I", "ArmRoom"), ("ArmRoom", 149, "ArmRoom$Goal", "slack", "I", "ArmRoom"), ("ArmRoom", 185, "ArmRoom$Tip", "x", "I", "ArmRoom"), ("ArmRoom", 186, "ArmRoom$Tip", "y", "I", "ArmRoom"), ("ArmRoom", 166, "ArmRoom$Ranking", "found", "I", "ArmRoom"), ("ArmRoom", 162, "ArmRoom$Search", "ranking", "LArmRoom$Ranking;", "ArmRoom")]
def zSt : List (String × Nat × String) := [("ArmRoom", 49, "no such kind"), ("ArmRoom", 54, "length"), ("ArmRoom", 56, "limits"), ("ArmRoom", 64, "no more joints"), ("ArmRoom", 180, "no such joint"), ("ArmRoom", 81, "beyond the limits"), ("ArmRoom", 183, "what is told"), ("ArmRoom", 124, "too far out"), ("ArmRoom", 136, "how many steps"), ("ArmRoom", 147, "slack"), ("ArmRoom", 156, "too many poses"), ("ArmRoom", 193, "no such rank"), ("ArmRoom", 195, "no such branch"), ("ArmRoom", 197, "ranked by what")]
def zNcs : List (String × String) := [("java/lang/IllegalArgumentException", "java/lang/IndexOutOfBoundsException"), ("java/lang/IllegalStateException", "java/lang/IndexOutOfBoundsException"), ("java/lang/IllegalStateException", "java/lang/IllegalArgumentException")]
def zXs : List String := ["java/lang/IllegalArgumentException", "java/lang/IllegalStateException", "java/lang/IndexOutOfBoundsException"]
def zYs : List String := ["java/lang/RuntimeException", "java/lang/Exception", "java/lang/Throwable"]
def zBad : List Cond := (zXs.map fun X => .castable X X) ++ ((zYs.map fun X => .declares (Bundle.initS X)) ++ [.superclass "java/lang/Throwable" "java/lang/Object"])
def zNb (U : State) : Prop := (∀ X ∈ zXs, va_Nw (.castable X X) U) ∧ (∀ X ∈ zYs, va_Nw (.declares (Bundle.initS X)) U) ∧ va_Nw (.superclass "java/lang/Throwable" "java/lang/Object") U
theorem zsup_setVm {s : State} {vm' : Vm} (h : s.vm.Alike vm') (args : Array Value) (C T : String) : (Cond.superclass C T).before args (s.setVm vm') = (Cond.superclass C T).before args s := by
  simp only [Cond.before, Cond.holds, Cond.value, State.vm_setVm, h.findClass]
  cases hc : s.vm.findClass C with
  | none => rfl
  | some c =>
    cases hp : s.vm.findClass T with
    | none => rfl
    | some p =>
      cases hk : s.vm.classes[c]? with
      | none => simp [h.none hk, hk]
      | some k =>
        obtain ⟨k', hk', he⟩ := h.2.2 _ _ hk
        cases hq : s.vm.classes[p]? with
        | none => simp [h.none hq, hq, hk, hk']
        | some kp =>
          obtain ⟨kq, hkq, hf⟩ := h.2.2 _ _ hq
          simp only [Option.bind_some, hk, hk', hq, hkq, Option.map_some]
          rw [he, hf]
          rfl
theorem zNb.warm {s U : State} (hW : s.WarmedH U.vm) (h : zNb s) : zNb U :=
  ⟨fun X hX => va_Nw.warmC hW (h.1 X hX), fun X hX => va_Nw.warmD hW (h.2.1 X hX), va_tabs rfl (rfl : (s.setVm U.vm).vm = U.vm) (by rw [zsup_setVm hW.alike]; exact h.2.2)⟩
theorem zNb.bad {U : State} {args : Array Value} (h : zNb U) : ∀ w ∈ zBad, w.before args U = true := by
  intro w hw
  rcases List.mem_append.mp hw with h1 | h1
  · obtain ⟨X, hX, rfl⟩ := List.mem_map.mp h1
    exact va_Nw.use rfl (h.1 X hX)
  · rcases List.mem_append.mp h1 with h2 | h2
    · obtain ⟨X, hX, rfl⟩ := List.mem_map.mp h2
      exact va_Nw.use rfl (h.2.1 X hX)
    · rw [List.mem_singleton.mp h2]
      exact va_Nw.use rfl h.2.2
def zN (U : State) : Prop := (∀ q ∈ zNm, va_Nw (.methodLinkNest q.1 q.2.1 q.2.2.1 q.2.2.2) U) ∧ (∀ q ∈ zNf, va_Nw (.fieldLinkNest q.1 q.2.1 q.2.2.1 q.2.2.2.1 q.2.2.2.2.1 q.2.2.2.2.2) U) ∧ (∀ q ∈ zSt, ∃ sa, vk_R q.1 q.2.1 q.2.2 sa U) ∧ (∀ q ∈ zNcs, va_Nc q.1 q.2 U) ∧ zNb U
def zG (A : Nat → Prop) (U : State) (H : Heap) : Prop := zN U ∧ (∃ t, va_Z "ArmRoom" "SINES" "[I" (.ref t) A U H ∧ va_T .int t 17 (fun j => .int (zSin j)) A U H) ∧ vx_Zq Bundle.tN "UNASSIGNED_STACK" Bundle.steD A U H ∧ vx_Zq Bundle.tN "SUPPRESSED_SENTINEL" Bundle.listD A U H
theorem va_Nc_moved {C T : String} {u U : State} (hvm : u.vm.Alike U.vm) (h : va_Nc C T u) : va_Nc C T U := by
  obtain ⟨c, t, h1, h2, h3⟩ := h
  first
  | exact va_Nc.moved hvm ⟨c, t, h1, h2, h3⟩
  | exact ⟨c, t, by rw [hvm.findClass]; exact h1, by rw [hvm.findClass]; exact h2, by rw [hvm.assignable]; exact h3⟩
theorem zN.warm {s U : State} (hW : s.WarmedH U.vm) (h : zN s) : zN U :=
  ⟨fun q hq => va_Nw.warmM hW (h.1 q hq), fun q hq => va_Nw.warmF hW (h.2.1 q hq), fun q hq => (h.2.2.1 q hq).elim fun sa hs => ⟨sa, vk_R.warm hW hs⟩, fun q hq => va_Nc_moved hW.alike (h.2.2.2.1 q hq), h.2.2.2.2.warm hW⟩
/-- the globals, seen from a callee's start -/
theorem zG.to {A A' : Nat → Prop} {s U : State} {H : Heap} {locs : List Loc} (h : zG A s s.heap) (hS : va_S A s.heap H locs) (hU : U.heap = H) (hW : s.WarmedH U.vm) (hA : ∀ q, A' q → A q) : zG A' U U.heap := by
  obtain ⟨h1, ⟨t, h2, h3⟩, h4, h5⟩ := h
  rw [hU]
  exact ⟨h1.warm hW, ⟨t, va_Z.moved hW.alike ((h2.kept hS.2.1).narrow hA), va_T.moved hW.alike ((h3.kept hS.2.1).narrow hA)⟩, vx_Zq.moved hW.alike ((h4.kept hS.2.1).narrow hA), vx_Zq.moved hW.alike ((h5.kept hS.2.1).narrow hA)⟩
def zA (ws : va_W) : Nat → Prop := fun q => ∃ (k : Nat) (e : va_E), ws[k]? = some (q, e)
def zPc (D : va_G) (cI cJ : ClassId) (ws : va_W) (av : List Value) : Array Value → State → Prop := va_Pc av (fun U => zG (zA ws) U U.heap ∧ va_P D vwCl ws U.heap ∧ va_K D vwCl [(cI, .int), (cJ, .long)] U ∧ va_D (fun _ => True) ws)
theorem zPc.blind {D : va_G} {cI cJ : ClassId} {ws : va_W} {av : List Value} : FrameBlind (zPc D cI cJ ws av) := by
  intro a U g mk h
  obtain ⟨h0, h1, h2, h3, h4⟩ := h
  exact ⟨h0, h1.to (U := U.calling g mk a) va_S.rf rfl (State.WarmedH.refl U) (fun _ h => h), h2, va_K.moved (u := U) (U := U.calling g mk a) (Vm.Alike.refl U.vm) h3, h4⟩
def zQ (D : va_G) (ws : va_W) {S : Type} (post : S → Prop) (rv : S → Option Value) (ws' : S → va_W) : Array Value → State → Outcome → State → Prop := fun _ st o t => ∃ u : S, o = .returned (rv u) ∧ post u ∧ va_P D vwCl (ws' u) t.heap ∧ va_F (zA ws) st t
def zM (l : Launch) (y : MethodName) (wds : List Cond) (L : Nat) (D : va_G) (cI cJ : ClassId) (av : List Value) (ws : va_W) {S : Type} (post : S → Prop) (rv : S → Option Value) (ws' : S → va_W) : Prop := Met l y wds (zRm L 0 0) (zPc D cI cJ ws av) (zQ D ws post rv ws') 0 0 (zA ws)
def za_set : va_W → List Nat → va_W → va_W
  | ws, i :: is, q :: qs => za_set (ws.set i q) is qs
  | ws, _, _ => ws
theorem za_set_get : ∀ (is : List Nat) (ws w1 : va_W) (k : Nat) (q : Nat × va_E), (za_set ws is w1)[k]? = some q → (∃ j : Nat, is[j]? = some k ∧ w1[j]? = some q) ∨ ((is.length = w1.length → k ∉ is) ∧ ws[k]? = some q)
  | [], ws, w1, k, q, h => Or.inr ⟨fun _ => List.not_mem_nil, by simpa [za_set] using h⟩
  | i :: is, ws, [], k, q, h => Or.inr ⟨fun e => by simp at e, by simpa [za_set] using h⟩
  | i :: is, ws, x :: xs, k, q, h => by
    rcases za_set_get is (ws.set i x) xs k q h with ⟨j, h1, h2⟩ | ⟨h1, h2⟩
    · exact Or.inl ⟨j + 1, by simpa using h1, by simpa using h2⟩
    · by_cases hki : k = i
      · subst hki
        have hl : k < ws.length := by
          have := (List.getElem?_eq_some_iff.mp h2).1
          simpa using this
        rw [List.getElem?_set_self hl] at h2
        exact Or.inl ⟨0, rfl, h2⟩
      · rw [List.getElem?_set_ne (Ne.symm hki)] at h2
        refine Or.inr ⟨fun e => ?_, h2⟩
        intro hm
        rcases List.mem_cons.mp hm with e2 | e2
        · exact hki e2
        · exact h1 (by simpa using e) e2
theorem za_map_set {ws : va_W} {i : Nat} {x : Nat × va_E} (h : (ws.map Prod.fst)[i]? = some x.1) : (ws.set i x).map Prod.fst = ws.map Prod.fst := by
  rw [List.map_set]
  refine List.ext_getElem? fun k => ?_
  by_cases hk : i = k
  · subst hk
    rw [List.getElem?_set_self (List.getElem?_eq_some_iff.mp h).1, h]
  · rw [List.getElem?_set_ne hk]
theorem za_set_fst : ∀ (is : List Nat) (ws w1 : va_W), is.map (fun i => (ws.map Prod.fst)[i]?) = w1.map (fun q => some q.1) → (za_set ws is w1).map Prod.fst = ws.map Prod.fst
  | [], ws, w1, _ => by simp [za_set]
  | i :: is, ws, [], h => by simp at h
  | i :: is, ws, x :: xs, h => by
    simp only [List.map_cons, List.cons.injEq] at h
    have h1 := za_map_set (ws := ws) (i := i) (x := x) h.1
    show (za_set (ws.set i x) is xs).map Prod.fst = _
    rw [za_set_fst is (ws.set i x) xs (by rw [h1]; exact h.2), h1]
theorem za_D_fst {A : Nat → Prop} {ws ws' : va_W} (h : ws'.map Prod.fst = ws.map Prod.fst) (hD : va_D A ws) : va_D A ws' := by
  have key : ∀ (k : Nat) (q : Nat × va_E), ws'[k]? = some q → ∃ q0, ws[k]? = some q0 ∧ q0.1 = q.1 := by
    intro k q hk
    have h1 : (ws.map Prod.fst)[k]? = some q.1 := by rw [← h, List.getElem?_map, hk]; rfl
    rw [List.getElem?_map] at h1
    cases hw : ws[k]? with
    | none => rw [hw] at h1; cases h1
    | some q0 => rw [hw] at h1; exact ⟨q0, rfl, Option.some.inj h1⟩
  refine ⟨fun i j x y hi hj hxy => ?_, fun k q hk => ?_⟩
  · obtain ⟨x0, h1, h2⟩ := key i x hi
    obtain ⟨y0, h3, h4⟩ := key j y hj
    exact hD.1 i j x0 y0 h1 h3 (h2.trans (hxy.trans h4.symm))
  · obtain ⟨q0, h1, h2⟩ := key k q hk
    rw [← h2]
    exact hD.2 k q0 h1
theorem za_sub {A0 : Nat → Prop} {ws wc : va_W} (hD : va_D A0 ws) (is : List Nat) (hC : is.map (fun i => ws[i]?) = wc.map some) : ∀ (k : Nat) (q : Nat × va_E), wc[k]? = some q → ∃ i, is[k]? = some i ∧ ws[i]? = some q := by
  intro k q hk
  have h1 : (is.map (fun i => ws[i]?))[k]? = some (some q) := by rw [hC, List.getElem?_map, hk]; rfl
  rw [List.getElem?_map] at h1
  cases hi : is[k]? with
  | none => rw [hi] at h1; cases h1
  | some i => rw [hi] at h1; exact ⟨i, rfl, Option.some.inj h1⟩
theorem za_in {A0 : Nat → Prop} {ws wc : va_W} (hD : va_D A0 ws) (is : List Nat) (hC : is.map (fun i => ws[i]?) = wc.map some) : ∀ q, zA wc q → A0 q := by
  intro q h
  obtain ⟨k, e, h⟩ := h
  obtain ⟨i, -, h2⟩ := za_sub hD is hC k _ h
  exact hD.2 i _ h2
/-- behind a call: the callee's cells as they are now, each in its place -/
theorem za_join {A0 : Nat → Prop} {D : va_G} {ws wc w1 : va_W} {H H1 : Heap} (hP : va_P D vwCl ws H) (hD : va_D A0 ws) (is : List Nat) (hC : is.map (fun i => ws[i]?) = wc.map some) (ha : w1.map Prod.fst = wc.map Prod.fst)
    (hk : ∀ q : Nat, q < H.size → ¬ zA wc q → H1[q]? = H[q]?) (hP1 : va_P D vwCl w1 H1) : va_P D vwCl (za_set ws is w1) H1 ∧ va_D A0 (za_set ws is w1) := by
  have hlen : is.length = w1.length := by
    have h1 := congrArg List.length hC
    have h2 := congrArg List.length ha
    simp only [List.length_map] at h1 h2
    omega
  refine ⟨fun k q h => ?_, za_D_fst (za_set_fst is ws w1 ?_) hD⟩
  · rcases za_set_get is ws w1 k q h with ⟨j, h1, h2⟩ | ⟨h1, h2⟩
    · exact hP1 j q h2
    · refine (hP k q h2).kept (hk q.1 (hP k q h2).lt ?_)
      rintro ⟨j, e, h3⟩
      obtain ⟨i, h4, h5⟩ := za_sub hD is hC j _ h3
      have hki := hD.1 k i q (q.1, e) h2 h5 rfl
      subst hki
      exact h1 hlen (List.mem_of_getElem? h4)
  · have h3 : w1.map (fun q => some q.1) = (w1.map Prod.fst).map some := by rw [List.map_map]; rfl
    have h4 : wc.map (fun q => some q.1) = (wc.map Prod.fst).map some := by rw [List.map_map]; rfl
    rw [h3, ha, ← h4]
    have h5 := congrArg (List.map (Option.map Prod.fst)) hC
    simp only [List.map_map] at h5
    have h6 : (List.map (fun i => (ws.map Prod.fst)[i]?) is) = List.map ((Option.map Prod.fst) ∘ (fun i => ws[i]?)) is := List.map_congr_left fun i _ => by rw [List.getElem?_map]; rfl
    rw [h6, h5]
    rfl
section ZCALL
variable {p : Program} {l : Launch} {e : Env} {R : Room} {s : State} {m : MethodId} {args : Array Value} {below : List Frame} {meth : Method} {c : Code} {H : Heap} {locs : List Loc} {cells slots : Nat} {Q : State → Prop}
variable {pc : Nat} {ls : Array Slot} {rest st0 : List Value} {A0 : Nat → Prop} {H0 : Heap} {D : va_G} {cI cJ : ClassId} {ws wc : va_W}
theorem z_run {a : Array Value} {S : Type} {post : S → Prop} {rv : S → Option Value} {w' : S → va_W} (hr : va_Run p l e R s m args below meth c H locs cells slots 0 0 (F0 m pc ls st0) rest (zQ D wc post rv w' a) (zA wc)) (hP : va_P D vwCl ws H) (hD : va_D A0 ws) (hS : va_S A0 H0 H locs) (is : List Nat) (hC : is.map (fun i => ws[i]?) = wc.map some) (hf : ∀ u, (w' u).map Prod.fst = wc.map Prod.fst)
    (kk : ∀ (u : S) (H1 : Heap) (locs1 : List Loc), post u → va_P D vwCl (za_set ws is (w' u)) H1 → va_D A0 (za_set ws is (w' u)) → va_S A0 H0 H1 locs1 → W p l e R s m args below meth c H1 locs1 cells slots Q (F0 m (pc + 3) ls ((rv u).toList ++ rest))) : W p l e R s m args below meth c H locs cells slots Q (F0 m pc ls st0) := by
  intro T hT X
  obtain ⟨v, st₀, t, T', L, h0, X', hL, e1, e2, ⟨u, hv, hp, hb, hz, hk⟩, st⟩ := hr T hT X
  have hv : v = rv u := by cases hv; rfl
  subst hv
  rw [h0] at hz hk
  have hA : ∀ q, zA wc q → A0 q := za_in hD is hC
  obtain ⟨g1, g2⟩ := za_join hP hD is hC (hf u) hk hb
  rw [← e1] at g1
  obtain ⟨t2, a1, b1⟩ := kk u T'.heap (locs ++ L) hp g1 g2 
    ⟨Nat.le_trans hS.1 (by rw [e1]; exact hz), fun q h1 h2 => by rw [e1, hk q (Nat.lt_of_lt_of_le h1 hS.1) (fun z => h2 (hA q z))]; exact hS.2.1 q h1 h2, fun q hq => by
      rcases List.mem_append.mp hq with h | h
      · exact hS.2.2 q h
      · exact hA _ (hL q h)⟩ T' rfl X'
  exact ⟨t2, st t2 a1, b1⟩
theorem z_pre {locs : List Loc} {av : List Value} (hG : zG A0 s s.heap) (hK : va_K D vwCl [(cI, .int), (cJ, .long)] s) (hP : va_P D vwCl ws H) (hD : va_D A0 ws) (hS : va_S A0 s.heap H locs) (is : List Nat) (hn : va_nd is = true) (hC : is.map (fun i => ws[i]?) = wc.map some) : ∀ U : State, U.heap = H → s.WarmedH U.vm → zPc D cI cJ wc av av.toArray U := by
  intro U hU hW
  refine ⟨rfl, hG.to hS hU hW (za_in hD is hC), ?_, va_K.moved hW.alike hK, (hD.sub is hn hC).weaken (fun _ _ _ _ => trivial)⟩
  rw [hU]
  intro k q hk
  obtain ⟨i, -, h2⟩ := za_sub hD is hC k q hk
  exact hP i q h2
variable {y : MethodName} {bytes cc : ByteArray} {maxL nL n index : Nat} {ret : Option FieldType} {wy : List Cond} {Ly : Nat} {Ts : List Cond} {own C : String} {b : Addr} {As : List Value}
/-- a private or public method of the receiver's class -/
theorem z_callV {S : Type} {post : S → Prop} {rv : S → Option Value} {w' : S → va_W} (Fx : CallFix p m c cc nL s args Ts own) (hG : zG A0 s s.heap) (hK : va_K D vwCl [(cI, .int), (cJ, .long)] s) (hP : va_P D vwCl ws H) (hD : va_D A0 ws) (hS : va_S A0 s.heap H locs)
    (hM : zM l y wy Ly D cI cJ (.ref b :: As) wc post rv w') (cw : CallW R s args own C index y bytes maxL ret wy (zRm Ly 0 0) 0 0 n) (is : List Nat) (hn : va_nd is = true) (hC : is.map (fun i => ws[i]?) = wc.map some) (hf : ∀ u, (w' u).map Prod.fst = wc.map Prod.fst)
    (k : Nat) {fs : List Value} {ci : Nat} {q : vw_C} (hk : ws[k]? = some (b, .inr (ci, fs))) (hc : vwCl[ci]? = some q) (hq : q.1 = C) (hlen : As.length = n) (hsize : ls.size = nL) (hst : st0 = As.reverse ++ .ref b :: rest) (hW : (rest.map fun v => v.category).sum ≤ 8) (hdg : decode cc pc = .ok (.invokevirtual index, 3)) (hb : cells ≤ R.cells ∧ slots ≤ R.slots)
    (kk : ∀ (u : S) (H1 : Heap) (locs1 : List Loc), post u → va_P D vwCl (za_set ws is (w' u)) H1 → va_D A0 (za_set ws is (w' u)) → va_S A0 s.heap H1 locs1 → W p l e R s m args below meth c H1 locs1 cells slots Q (F0 m (pc + 3) ls ((rv u).toList ++ rest))) : W p l e R s m args below meth c H locs cells slots Q (F0 m pc ls st0) := by
  subst hq
  exact z_run (va_runV (As := As) (rest := rest) (g := F0 m pc ls st0) Fx hM cw ⟨zPc.blind, va_recv hK hP hc hk, z_pre hG hK hP hD hS is hn hC⟩ rfl hlen hsize hst (lv_room (rest := st0) hW) hdg hb) hP hD hS is hC hf kk
theorem z_callVN {host : String} {S : Type} {post : S → Prop} {rv : S → Option Value} {w' : S → va_W} (Fx : CallFix p m c cc nL s args Ts own) (hG : zG A0 s s.heap) (hK : va_K D vwCl [(cI, .int), (cJ, .long)] s) (hP : va_P D vwCl ws H) (hD : va_D A0 ws) (hS : va_S A0 s.heap H locs)
    (hM : zM l y wy Ly D cI cJ (.ref b :: As) wc post rv w') (cw : va_CN R s args own index y host bytes maxL ret wy (zRm Ly 0 0) 0 0 n ∧ (Cond.instanceMethod y).before args s = true ∧ (Cond.selects C y y).before args s = true) (is : List Nat) (hn : va_nd is = true) (hC : is.map (fun i => ws[i]?) = wc.map some) (hf : ∀ u, (w' u).map Prod.fst = wc.map Prod.fst)
    (k : Nat) {fs : List Value} {ci : Nat} {q : vw_C} (hk : ws[k]? = some (b, .inr (ci, fs))) (hc : vwCl[ci]? = some q) (hq : q.1 = C) (hlen : As.length = n) (hsize : ls.size = nL) (hst : st0 = As.reverse ++ .ref b :: rest) (hW : (rest.map fun v => v.category).sum ≤ 8) (hdg : decode cc pc = .ok (.invokevirtual index, 3)) (hb : cells ≤ R.cells ∧ slots ≤ R.slots)
    (kk : ∀ (u : S) (H1 : Heap) (locs1 : List Loc), post u → va_P D vwCl (za_set ws is (w' u)) H1 → va_D A0 (za_set ws is (w' u)) → va_S A0 s.heap H1 locs1 → W p l e R s m args below meth c H1 locs1 cells slots Q (F0 m (pc + 3) ls ((rv u).toList ++ rest))) : W p l e R s m args below meth c H locs cells slots Q (F0 m pc ls st0) := by
  subst hq
  exact z_run (va_runVN (As := As) (rest := rest) (g := F0 m pc ls st0) Fx hM cw ⟨zPc.blind, va_recv hK hP hc hk, z_pre hG hK hP hD hS is hn hC⟩ rfl hlen hsize hst (lv_room (rest := st0) hW) hdg hb) hP hD hS is hC hf kk
theorem z_callS {S : Type} {post : S → Prop} {rv : S → Option Value} {w' : S → va_W} (Fx : CallFix p m c cc nL s args Ts own) (hG : zG A0 s s.heap) (hK : va_K D vwCl [(cI, .int), (cJ, .long)] s) (hP : va_P D vwCl ws H) (hD : va_D A0 ws) (hS : va_S A0 s.heap H locs)
    (hM : zM l y wy Ly D cI cJ As wc post rv w') (cw : CallB R s args own index y bytes maxL ret wy (zRm Ly 0 0) 0 0 n ∧ (Cond.static y).before args s = true) (is : List Nat) (hn : va_nd is = true) (hC : is.map (fun i => ws[i]?) = wc.map some) (hf : ∀ u, (w' u).map Prod.fst = wc.map Prod.fst)
    (hlen : As.length = n) (hsize : ls.size = nL) (hst : st0 = As.reverse ++ rest) (hW : (rest.map fun v => v.category).sum ≤ 8) (hdg : decode cc pc = .ok (.invokestatic index, 3)) (hb : cells ≤ R.cells ∧ slots ≤ R.slots)
    (kk : ∀ (u : S) (H1 : Heap) (locs1 : List Loc), post u → va_P D vwCl (za_set ws is (w' u)) H1 → va_D A0 (za_set ws is (w' u)) → va_S A0 s.heap H1 locs1 → W p l e R s m args below meth c H1 locs1 cells slots Q (F0 m (pc + 3) ls ((rv u).toList ++ rest))) : W p l e R s m args below meth c H locs cells slots Q (F0 m pc ls st0) := by
  exact z_run (va_runS (As := As) (rest := rest) (g := F0 m pc ls st0) Fx hM cw ⟨zPc.blind, z_pre hG hK hP hD hS is hn hC⟩ rfl hlen hsize hst (lv_room (rest := st0) hW) hdg hb) hP hD hS is hC hf kk
theorem z_callSN {host : String} {S : Type} {post : S → Prop} {rv : S → Option Value} {w' : S → va_W} (Fx : CallFix p m c cc nL s args Ts own) (hG : zG A0 s s.heap) (hK : va_K D vwCl [(cI, .int), (cJ, .long)] s) (hP : va_P D vwCl ws H) (hD : va_D A0 ws) (hS : va_S A0 s.heap H locs)
    (hM : zM l y wy Ly D cI cJ As wc post rv w') (cw : va_CN R s args own index y host bytes maxL ret wy (zRm Ly 0 0) 0 0 n ∧ (Cond.static y).before args s = true ∧ True) (is : List Nat) (hn : va_nd is = true) (hC : is.map (fun i => ws[i]?) = wc.map some) (hf : ∀ u, (w' u).map Prod.fst = wc.map Prod.fst)
    (hlen : As.length = n) (hsize : ls.size = nL) (hst : st0 = As.reverse ++ rest) (hW : (rest.map fun v => v.category).sum ≤ 8) (hdg : decode cc pc = .ok (.invokestatic index, 3)) (hb : cells ≤ R.cells ∧ slots ≤ R.slots)
    (kk : ∀ (u : S) (H1 : Heap) (locs1 : List Loc), post u → va_P D vwCl (za_set ws is (w' u)) H1 → va_D A0 (za_set ws is (w' u)) → va_S A0 s.heap H1 locs1 → W p l e R s m args below meth c H1 locs1 cells slots Q (F0 m (pc + 3) ls ((rv u).toList ++ rest))) : W p l e R s m args below meth c H locs cells slots Q (F0 m pc ls st0) := by
  exact z_run (va_runSN (As := As) (rest := rest) (g := F0 m pc ls st0) Fx hM cw ⟨zPc.blind, z_pre hG hK hP hD hS is hn hC⟩ rfl hlen hsize hst (lv_room (rest := st0) hW) hdg hb) hP hD hS is hC hf kk
/-- the stack's top under another name -/
theorem z_topi {x y : Int32} (h : x = y) (k : W p l e R s m args below meth c H locs cells slots Q (F0 m pc ls (.int y :: rest))) : W p l e R s m args below meth c H locs cells slots Q (F0 m pc ls (.int x :: rest)) := h ▸ k
theorem z_topl {x y : Int64} (h : x = y) (k : W p l e R s m args below meth c H locs cells slots Q (F0 m pc ls (.long y :: rest))) : W p l e R s m args below meth c H locs cells slots Q (F0 m pc ls (.long x :: rest)) := h ▸ k
/-- an element by a place that is a number -/
theorem z_iald (hexec : p.tables.exec = Jvm.exec) (hb : c.code = cc) (hK : va_K D vwCl [(cI, .int), (cJ, .long)] s) (hP : va_P D vwCl ws H) (q0 : Nat) {a n : Nat} {f : Nat → Int32} (ha : ws[q0]? = some (a, .inl (cI, n, .inl f))) {j : Nat} (hj : j < n) (hn : n < 1000) (hdg : decode cc pc = .ok (.iaload, 1))
    (k : W p l e R s m args below meth c H locs cells slots Q (F0 m (pc + 1) ls (.int (f j) :: rest))) : W p l e R s m args below meth c H locs cells slots Q (F0 m pc ls (.int (nI j) :: .ref a :: rest)) := by
  have h1 : j < 2 ^ 31 := Nat.lt_trans hj (Nat.lt_trans hn (by decide))
  exact va_iald hexec hb hK hP q0 0 ha rfl (vp_in_nI hj (Nat.lt_trans hn (by decide))) hdg (by rw [nI_clamp h1]; exact k)
theorem z_lald (hexec : p.tables.exec = Jvm.exec) (hb : c.code = cc) (hK : va_K D vwCl [(cI, .int), (cJ, .long)] s) (hP : va_P D vwCl ws H) (q0 : Nat) {a n : Nat} {f : Nat → Int64} (ha : ws[q0]? = some (a, .inl (cJ, n, .inr (.inl f)))) {j : Nat} (hj : j < n) (hn : n < 1000) (hdg : decode cc pc = .ok (.laload, 1))
    (k : W p l e R s m args below meth c H locs cells slots Q (F0 m (pc + 1) ls (.long (f j) :: rest))) : W p l e R s m args below meth c H locs cells slots Q (F0 m pc ls (.int (nI j) :: .ref a :: rest)) := by
  have h1 : j < 2 ^ 31 := Nat.lt_trans hj (Nat.lt_trans hn (by decide))
  exact va_lald hexec hb hK hP q0 1 ha rfl (vp_in_nI hj (Nat.lt_trans hn (by decide))) hdg (by rw [nI_clamp h1]; exact k)
theorem z_iast (hexec : p.tables.exec = Jvm.exec) (hb : c.code = cc) (hK : va_K D vwCl [(cI, .int), (cJ, .long)] s) (hP : va_P D vwCl ws H) (hD : va_D A0 ws) (hS : va_S A0 H0 H locs) (q0 : Nat) {a n : Nat} {f : Nat → Int32} (ha : ws[q0]? = some (a, .inl (cI, n, .inl f))) {j : Nat} {x : Int32} (hj : j < n) (hn : n < 1000) (hdg : decode cc pc = .ok (.iastore, 1))
    (k : ∀ (H1 : Heap) (locs1 : List Loc), va_P D vwCl (ws.set q0 (a, .inl (cI, n, .inl (upd f j x)))) H1 → va_D A0 (ws.set q0 (a, .inl (cI, n, .inl (upd f j x)))) → va_S A0 H0 H1 locs1 → W p l e R s m args below meth c H1 locs1 cells slots Q (F0 m (pc + 1) ls rest)) : W p l e R s m args below meth c H locs cells slots Q (F0 m pc ls (.int x :: .int (nI j) :: .ref a :: rest)) := by
  have h1 : j < 2 ^ 31 := Nat.lt_trans hj (Nat.lt_trans hn (by decide))
  exact va_iast hexec hb hK hP hD hS q0 0 ha rfl (vp_in_nI hj (Nat.lt_trans hn (by decide))) hdg (by rw [nI_clamp h1]; exact k)
theorem z_last (hexec : p.tables.exec = Jvm.exec) (hb : c.code = cc) (hK : va_K D vwCl [(cI, .int), (cJ, .long)] s) (hP : va_P D vwCl ws H) (hD : va_D A0 ws) (hS : va_S A0 H0 H locs) (q0 : Nat) {a n : Nat} {f : Nat → Int64} (ha : ws[q0]? = some (a, .inl (cJ, n, .inr (.inl f)))) {j : Nat} {x : Int64} (hj : j < n) (hn : n < 1000) (hdg : decode cc pc = .ok (.lastore, 1))
    (k : ∀ (H1 : Heap) (locs1 : List Loc), va_P D vwCl (ws.set q0 (a, .inl (cJ, n, .inr (.inl (vp_updL f j x))))) H1 → va_D A0 (ws.set q0 (a, .inl (cJ, n, .inr (.inl (vp_updL f j x))))) → va_S A0 H0 H1 locs1 → W p l e R s m args below meth c H1 locs1 cells slots Q (F0 m (pc + 1) ls rest)) : W p l e R s m args below meth c H locs cells slots Q (F0 m pc ls (.long x :: .int (nI j) :: .ref a :: rest)) := by
  have h1 : j < 2 ^ 31 := Nat.lt_trans hj (Nat.lt_trans hn (by decide))
  exact va_last hexec hb hK hP hD hS q0 1 ha rfl (vp_in_nI hj (Nat.lt_trans hn (by decide))) hdg (by rw [nI_clamp h1]; exact k)
end ZCALL
/-- what a body knows at its start -/
def zC (p : Program) (m : MethodId) (c : Code) (meth : Method) (cc : ByteArray) (nL : Nat) (s : State) (args : Array Value) (Ts : List Cond) (own : String) (D : va_G) (cI cJ : ClassId) (A0 : Nat → Prop) (ws : va_W) : Prop :=
  CallFix p m c cc nL s args Ts own ∧ zG A0 s s.heap ∧ va_K D vwCl [(cI, .int), (cJ, .long)] s ∧ va_D A0 ws ∧ meth.locks = false
section ZBODY
variable {l : Launch} {y : MethodName} {wds wds' : List Cond} {L : Nat} {D : va_G} {cI cJ : ClassId} {av : List Value} {ws : va_W} {S : Type} {post : S → Prop} {ws' : S → va_W} {cc : ByteArray} {maxL : Nat}
theorem zM_of {ret : Option FieldType} {rv : S → Option Value} (hy : plainName y.cls = true) (hw : wds = Cond.code y cc maxL ret :: wds') (hlen : (lg_sl av).length ≤ maxL)
    (body : ∀ (p : Program) (e : Env) (s : State) (m : MethodId) (args : Array Value) (below : List Frame) (meth : Method) (c : Code) (ls : Array Slot), zC p m c meth cc maxL s args wds y.cls D cI cJ (zA ws) ws → meth.sig.returnType = ret → lv_has ls maxL (lv_args 0 av) → va_P D vwCl ws s.heap → va_S (zA ws) s.heap s.heap [] → W p l e (zRm L 0 0) s m args below meth c s.heap [] 0 0 (MQ below (zQ D ws post rv ws') args s 0 0 (zA ws)) (F0 m 0 ls [])) : zM l y wds L D cI cJ av ws post rv ws' := by
  refine Met.ofW (cc := cc) (maxL := maxL) (ret := ret) hy hw ?_
  intro p e s m args below meth c s₁ B hml hv
  obtain ⟨rfl, hG, hP, hK, hD⟩ := hv
  have hl := lv_entry av (n := maxL) hlen
  rw [lg_entry_eq]
  exact body p e s m _ below meth c _ ⟨⟨B.exec, B.bytes, hml, findClass_of_methodNamed B.named, atoms_spec (ws := wds) B.pre⟩, hG, hK, ⟨hD.1, fun k q hk => ⟨k, q.2, hk⟩⟩, B.notSynchronized⟩ B.returns hl hP va_S.rf
theorem zM_i {r : S → Int32} (hy : plainName y.cls = true) (hw : wds = Cond.code y cc maxL (some .int) :: wds') (hlen : (lg_sl av).length ≤ maxL)
    (body : ∀ (p : Program) (e : Env) (s : State) (m : MethodId) (args : Array Value) (below : List Frame) (meth : Method) (c : Code) (ls : Array Slot) (A0 : Nat → Prop) (Q : State → Prop), zC p m c meth cc maxL s args wds y.cls D cI cJ A0 ws → lv_has ls maxL (lv_args 0 av) → va_P D vwCl ws s.heap → va_S A0 s.heap s.heap [] →
      (∀ (pc : Nat) (u : S) (H : Heap) (locs : List Loc) (ls : Array Slot), post u → va_P D vwCl (ws' u) H → va_S A0 s.heap H locs → decode cc pc = .ok (.ireturn, 1) → W p l e (zRm L 0 0) s m args below meth c H locs 0 0 Q (F0 m pc ls [.int (r u)])) → W p l e (zRm L 0 0) s m args below meth c s.heap [] 0 0 Q (F0 m 0 ls [])) : zM l y wds L D cI cJ av ws post (fun u => some (.int (r u))) ws' := by
  refine zM_of hy hw hlen ?_
  intro p e s m args below meth c ls C hr hl hP hS
  exact body p e s m args below meth c ls _ _ C hl hP hS (fun pc u H locs ls hu hP hS hd => W.iret C.1.1 C.1.2.1 hr (fun t ht hW => ⟨u, rfl, hu, by rw [ht]; exact hP, hS.F ht⟩) hS.2.2 hd C.2.2.2.2)
theorem zM_z {r : S → Int32} (hr9 : ∀ u, post u → r u = 0 ∨ r u = 1) (hy : plainName y.cls = true) (hw : wds = Cond.code y cc maxL (some .boolean) :: wds') (hlen : (lg_sl av).length ≤ maxL)
    (body : ∀ (p : Program) (e : Env) (s : State) (m : MethodId) (args : Array Value) (below : List Frame) (meth : Method) (c : Code) (ls : Array Slot) (A0 : Nat → Prop) (Q : State → Prop), zC p m c meth cc maxL s args wds y.cls D cI cJ A0 ws → lv_has ls maxL (lv_args 0 av) → va_P D vwCl ws s.heap → va_S A0 s.heap s.heap [] →
      (∀ (pc : Nat) (u : S) (H : Heap) (locs : List Loc) (ls : Array Slot), post u → va_P D vwCl (ws' u) H → va_S A0 s.heap H locs → decode cc pc = .ok (.ireturn, 1) → W p l e (zRm L 0 0) s m args below meth c H locs 0 0 Q (F0 m pc ls [.int (r u)])) → W p l e (zRm L 0 0) s m args below meth c s.heap [] 0 0 Q (F0 m 0 ls [])) : zM l y wds L D cI cJ av ws post (fun u => some (.int (r u))) ws' := by
  refine zM_of hy hw hlen ?_
  intro p e s m args below meth c ls C hr hl hP hS
  exact body p e s m args below meth c ls _ _ C hl hP hS (fun pc u H locs ls hu hP hS hd => W.zret C.1.1 C.1.2.1 hr (by rcases hr9 u hu with h | h <;> rw [h] <;> decide) (fun t ht hW => ⟨u, rfl, hu, by rw [ht]; exact hP, hS.F ht⟩) hS.2.2 hd C.2.2.2.2)
theorem zM_l {r : S → Int64} (hy : plainName y.cls = true) (hw : wds = Cond.code y cc maxL (some .long) :: wds') (hlen : (lg_sl av).length ≤ maxL)
    (body : ∀ (p : Program) (e : Env) (s : State) (m : MethodId) (args : Array Value) (below : List Frame) (meth : Method) (c : Code) (ls : Array Slot) (A0 : Nat → Prop) (Q : State → Prop), zC p m c meth cc maxL s args wds y.cls D cI cJ A0 ws → lv_has ls maxL (lv_args 0 av) → va_P D vwCl ws s.heap → va_S A0 s.heap s.heap [] →
      (∀ (pc : Nat) (u : S) (H : Heap) (locs : List Loc) (ls : Array Slot), post u → va_P D vwCl (ws' u) H → va_S A0 s.heap H locs → decode cc pc = .ok (.lreturn, 1) → W p l e (zRm L 0 0) s m args below meth c H locs 0 0 Q (F0 m pc ls [.long (r u)])) → W p l e (zRm L 0 0) s m args below meth c s.heap [] 0 0 Q (F0 m 0 ls [])) : zM l y wds L D cI cJ av ws post (fun u => some (.long (r u))) ws' := by
  refine zM_of hy hw hlen ?_
  intro p e s m args below meth c ls C hr hl hP hS
  exact body p e s m args below meth c ls _ _ C hl hP hS (fun pc u H locs ls hu hP hS hd => W.lret C.1.1 C.1.2.1 hr (fun t ht hW => ⟨u, rfl, hu, by rw [ht]; exact hP, hS.F ht⟩) hS.2.2 hd C.2.2.2.2)
theorem zM_v (hy : plainName y.cls = true) (hw : wds = Cond.code y cc maxL none :: wds') (hlen : (lg_sl av).length ≤ maxL)
    (body : ∀ (p : Program) (e : Env) (s : State) (m : MethodId) (args : Array Value) (below : List Frame) (meth : Method) (c : Code) (ls : Array Slot) (A0 : Nat → Prop) (Q : State → Prop), zC p m c meth cc maxL s args wds y.cls D cI cJ A0 ws → lv_has ls maxL (lv_args 0 av) → va_P D vwCl ws s.heap → va_S A0 s.heap s.heap [] →
      (∀ (pc : Nat) (u : S) (H : Heap) (locs : List Loc) (ls : Array Slot), post u → va_P D vwCl (ws' u) H → va_S A0 s.heap H locs → decode cc pc = .ok (.return_, 1) → W p l e (zRm L 0 0) s m args below meth c H locs 0 0 Q (F0 m pc ls [])) → W p l e (zRm L 0 0) s m args below meth c s.heap [] 0 0 Q (F0 m 0 ls [])) : zM l y wds L D cI cJ av ws post (fun _ => none) ws' := by
  refine zM_of hy hw hlen ?_
  intro p e s m args below meth c ls C hr hl hP hS
  exact body p e s m args below meth c ls _ _ C hl hP hS (fun pc u H locs ls hu hP hS hd => W.vret C.1.1 C.1.2.1 hr (fun t ht hW => ⟨u, rfl, hu, by rw [ht]; exact hP, hS.F ht⟩) hS.2.2 hd C.2.2.2.2)
end ZBODY
