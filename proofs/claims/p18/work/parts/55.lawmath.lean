/-! the law's cases: the numbers -/
theorem zOk_add {n : Nat} {kd ln lo hi vl : Nat → Int32} {p0 p1 p2 p3 : Int32} (h : zOk n kd ln lo hi vl) (hg : zGd p0 p1 p2 p3) (hn : n < 5) : zOk (n + 1) (upd kd n p0) (upd ln n p1) (upd lo n p2) (upd hi n p3) (upd vl n (zHeldC p2 p3 0)) := by
  obtain ⟨hk, ⟨l1, l2⟩, h1, h2, h3⟩ := hg
  refine ⟨hn, fun j hj => ?_⟩
  by_cases e : j = n
  · subst e
    rw [pk_us, pk_us, pk_us, pk_us, pk_us]
    obtain ⟨g1, g2⟩ := zHeld_in (v := 0) h3
    rw [zle] at l1 l2 h3 g1 g2
    have z0 : (0 : Int32).toInt = 0 := by decide
    have z2 : (200 : Int32).toInt = 200 := by decide
    have z3 : (-32 : Int32).toInt = -32 := by decide
    have z4 : (32 : Int32).toInt = 32 := by decide
    have z5 : (100 : Int32).toInt = 100 := by decide
    rcases hk with hk | hk
    · rw [if_pos hk] at h1 h2
      rw [zle] at h1 h2
      exact ⟨by omega, by omega, fun h => absurd hk h⟩
    · have hk0 : ¬ p0 = 0 := by rw [hk]; decide
      rw [if_neg hk0] at h1 h2
      rw [zle] at h1 h2
      exact ⟨by omega, by omega, fun _ => by omega⟩
  · rw [pk_un e, pk_un e, pk_un e, pk_un e, pk_un e]
    exact h.2 j (by omega)
theorem zSl_b {p0 : Int32} (h : 0 ≤ p0 ∧ p0 ≤ 100000) : 0 ≤ p0.toInt ∧ p0.toInt ≤ 100000 := by
  obtain ⟨h1, h2⟩ := h
  rw [zle] at h1 h2
  have z0 : (0 : Int32).toInt = 0 := by decide
  have z2 : (100000 : Int32).toInt = 100000 := by decide
  omega
theorem zOk.tk {n : Nat} {kd ln lo hi vl : Nat → Int32} (h : zOk n kd ln lo hi vl) (k : Nat) : zOk n kd ln lo hi (zTk vl n (zPk lo hi n k)) := by
  refine ⟨h.1, fun j hj => ?_⟩
  obtain ⟨a, ⟨h1, h2, h3, h4⟩, c⟩ := h.2 j hj
  have h5 := zPk_in h k hj
  refine ⟨a, ?_, c⟩
  unfold zTk
  rw [if_pos hj]
  omega

theorem zlow_le (v : Int32) {m : Nat} (h : 0 < m) (h2 : m ≤ 2 ^ 30) : (nI (zLw v m)).toInt = (zLw v m : Int) ∧ zLw v m < m := by
  have g := zLw_lt (v := v) h
  exact ⟨nI_toInt (by omega), g⟩
theorem zlow2 (v : Int32) : nI (zLw v 2) = 0 ∨ nI (zLw v 2) = 1 := by
  have g := zLw_lt (v := v) (m := 2) (by decide)
  rcases (show zLw v 2 = 0 ∨ zLw v 2 = 1 by omega) with e | e <;> rw [e]
  · exact Or.inl rfl
  · exact Or.inr rfl
theorem zlow3 (v : Int32) : zB3 (nI (zLw v 3)) := by
  have g := zLw_lt (v := v) (m := 3) (by decide)
  rcases (show zLw v 3 = 0 ∨ zLw v 3 = 1 ∨ zLw v 3 = 2 by omega) with e | e | e <;> rw [e]
  · exact Or.inl rfl
  · exact Or.inr (Or.inl rfl)
  · exact Or.inr (Or.inr rfl)
theorem zB3_b {b : Int32} (h : zB3 b) : 0 ≤ b ∧ b ≤ 2 := by
  rcases h with rfl | rfl | rfl <;> decide
theorem zslk (v : Int32) {m : Nat} (h : 0 < m) (h2 : m ≤ 100001) : 0 ≤ nI (zLw v m) ∧ nI (zLw v m) ≤ 100000 := by
  obtain ⟨g1, g2⟩ := zlow_le v (m := m) h (by omega)
  have z0 : (0 : Int32).toInt = 0 := by decide
  have z5 : (100000 : Int32).toInt = 100000 := by decide
  rw [zle, zle, g1, z0, z5]
  omega
theorem zmos (v : Int32) {m : Nat} (h : 0 < m) (h2 : m ≤ 200) : ∃ mm : Nat, nI 1 + nI (zLw v m) = nI mm ∧ 1 ≤ mm ∧ mm ≤ 200 := by
  obtain ⟨g1, g2⟩ := zlow_le v (m := m) h (by omega)
  exact ⟨1 + zLw v m, nI_add 1 _, by omega, by omega⟩
theorem zmost_of {mm : Nat} (h : 1 ≤ mm) (h2 : mm ≤ 200) : 1 ≤ nI mm ∧ nI mm ≤ 200 := ⟨(nI_leI (a := 1) (by omega) (by omega)).mpr h, (nI_leI (b := 200) (by omega) (by omega)).mpr h2⟩
def zLs (p0 lst : Int32) : Prop := (p0 = 0 → -32 ≤ lst.toInt ∧ lst.toInt ≤ 32) ∧ (¬ p0 = 0 → 0 ≤ lst.toInt ∧ lst.toInt ≤ 100)
theorem zLs_t {p0 : Int32} (h : p0 = 0) (v : Int32) : zLs p0 (nI (zLw v 65) - 32) := by
  obtain ⟨g1, g2⟩ := zlow_le v (m := 65) (by decide) (by decide)
  have z : (32 : Int32).toInt = 32 := by decide
  refine ⟨fun _ => ?_, fun q => absurd h q⟩
  rw [zsub (by omega) (by omega)]
  omega
theorem zLs_s {p0 : Int32} (h : ¬ p0 = 0) (v : Int32) : zLs p0 (nI (zLw v 101)) := by
  obtain ⟨g1, g2⟩ := zlow_le v (m := 101) (by decide) (by decide)
  refine ⟨fun q => absurd q h, fun _ => ?_⟩
  rw [g1]
  omega
def zTo (p0 : Int32) : Int32 := if p0 = 0 then 32 else 100
theorem zTo_t {p0 : Int32} (h : p0 = 0) : (32 : Int32) = zTo p0 := by unfold zTo; rw [if_pos h]
theorem zTo_s {p0 : Int32} (h : ¬ p0 = 0) : (100 : Int32) = zTo p0 := by unfold zTo; rw [if_neg h]
theorem zTo_b {p0 lst : Int32} (h : zLs p0 lst) : lst.toInt ≤ (zTo p0).toInt ∧ -32 ≤ lst.toInt ∧ (zTo p0).toInt ≤ 100 := by
  unfold zTo
  by_cases c : p0 = 0
  · rw [if_pos c]
    have g := h.1 c
    have z : (32 : Int32).toInt = 32 := by decide
    omega
  · rw [if_neg c]
    have g := h.2 c
    have z : (100 : Int32).toInt = 100 := by decide
    omega
theorem zGr_1 {p0 lst v : Int32} {m : Nat} (h : zLs p0 lst) (hm : 0 < m) (hm2 : m ≤ 140) (c : lst + nI (zLw v m) ≤ zTo p0) : lst.toInt ≤ (lst + nI (zLw v m)).toInt ∧ (lst + nI (zLw v m)).toInt ≤ (zTo p0).toInt := by
  obtain ⟨g1, g2⟩ := zlow_le v (m := m) hm (by omega)
  have g3 := zTo_b h
  rw [zle] at c
  rw [zadd (by omega) (by omega)] at c ⊢
  omega
theorem zGr_2 {p0 lst : Int32} (h : zLs p0 lst) : lst.toInt ≤ (zTo p0).toInt ∧ (zTo p0).toInt ≤ (zTo p0).toInt := ⟨(zTo_b h).1, Int.le_refl _⟩
theorem zGd_of {p0 lst gr : Int32} (hk : p0 = 0 ∨ p0 = 1) (h : zLs p0 lst) (hg : lst.toInt ≤ gr.toInt ∧ gr.toInt ≤ (zTo p0).toInt) (v : Int32) : zGd p0 (nI (zLw v 201)) lst gr := by
  obtain ⟨g1, g2⟩ := zlow_le v (m := 201) (by decide) (by decide)
  have z0 : (0 : Int32).toInt = 0 := by decide
  have z2 : (200 : Int32).toInt = 200 := by decide
  have z3 : (-32 : Int32).toInt = -32 := by decide
  have z4 : (32 : Int32).toInt = 32 := by decide
  have z5 : (100 : Int32).toInt = 100 := by decide
  refine ⟨hk, ⟨by rw [zle, z0, g1]; omega, by rw [zle, z2, g1]; omega⟩, ?_⟩
  unfold zTo at hg
  by_cases c : p0 = 0
  · rw [if_pos c] at hg ⊢
    have g := h.1 c
    rw [if_pos c]
    simp only [zle]
    omega
  · rw [if_neg c] at hg ⊢
    have g := h.2 c
    rw [if_neg c]
    simp only [zle]
    omega
theorem zHc_a {lst gr : Int32} (h : lst.toInt ≤ gr.toInt) (c : ¬ lst ≤ 0) : lst = zHeldC lst gr 0 := by
  rw [← zHeld_eq (by rw [zle]; exact h)]
  unfold zHeldR
  rw [if_pos (Int32.not_le.mp c)]
theorem zHc_b {lst gr : Int32} (h : lst.toInt ≤ gr.toInt) (c : lst ≤ 0) (c2 : ¬ 0 ≤ gr) : gr = zHeldC lst gr 0 := by
  rw [← zHeld_eq (by rw [zle]; exact h)]
  unfold zHeldR
  rw [if_neg (Int32.not_lt.mpr c), if_pos (Int32.not_le.mp c2)]
theorem zHc_c {lst gr : Int32} (h : lst.toInt ≤ gr.toInt) (c : lst ≤ 0) (c2 : 0 ≤ gr) : 0 = zHeldC lst gr 0 := by
  rw [← zHeld_eq (by rw [zle]; exact h)]
  unfold zHeldR
  rw [if_neg (Int32.not_lt.mpr c), if_neg (Int32.not_lt.mpr c2)]
theorem zAr_add {n : Nat} {A kd ln lo hi vl : Nat → Int32} {p0 p1 p2 p3 x : Int32} (h : zAr n A kd ln lo hi vl) : zAr (n + 1) (upd (upd (upd (upd (upd A (5 * n) p0) (5 * n + 1) p1) (5 * n + 2) p2) (5 * n + 3) p3) (5 * n + 4) x) (upd kd n p0) (upd ln n p1) (upd lo n p2) (upd hi n p3) (upd vl n x) := fun k hk => by
  by_cases e : k = n
  · subst e
    unfold upd
    simp
  · obtain ⟨h1, h2, h3, h4, h5⟩ := h k (by omega)
    rw [pk_un e, pk_un e, pk_un e, pk_un e, pk_un e]
    have key : ∀ j, j < 5 * n → upd (upd (upd (upd (upd A (5 * n) p0) (5 * n + 1) p1) (5 * n + 2) p2) (5 * n + 3) p3) (5 * n + 4) x j = A j := fun j hj => by
      rw [pk_un (by omega), pk_un (by omega), pk_un (by omega), pk_un (by omega), pk_un (by omega)]
    rw [key _ (by omega), key _ (by omega), key _ (by omega), key _ (by omega), key _ (by omega)]
    exact ⟨h1, h2, h3, h4, h5⟩
theorem zKd_add {n : Nat} {kd : Nat → Int32} {p0 : Int32} (h : zKd n kd) (hk : p0 = 0 ∨ p0 = 1) : zKd (n + 1) (upd kd n p0) := fun k hk2 => by
  by_cases e : k = n
  · subst e; rw [pk_us]; exact hk
  · rw [pk_un e]; exact h k (by omega)
section
variable {G : Nat → Int32} {n : Nat} {gx gy sl x : Int32}
theorem zGs_n (h : zGs G n gx gy sl) : zGs (upd G 0 (nI (n + 1))) (n + 1) gx gy sl := ⟨pk_us, (pk_un (by decide)).trans h.2.1, (pk_un (by decide)).trans h.2.2.1, (pk_un (by decide)).trans h.2.2.2⟩
theorem zGs_1 (h : zGs G n gx gy sl) : zGs (upd G 1 x) n x gy sl := ⟨(pk_un (by decide)).trans h.1, pk_us, (pk_un (by decide)).trans h.2.2.1, (pk_un (by decide)).trans h.2.2.2⟩
theorem zGs_2 (h : zGs G n gx gy sl) : zGs (upd G 2 x) n gx x sl := ⟨(pk_un (by decide)).trans h.1, (pk_un (by decide)).trans h.2.1, pk_us, (pk_un (by decide)).trans h.2.2.2⟩
theorem zGs_3 (h : zGs G n gx gy sl) : zGs (upd G 3 x) n gx gy x := ⟨(pk_un (by decide)).trans h.1, (pk_un (by decide)).trans h.2.1, (pk_un (by decide)).trans h.2.2.1, pk_us⟩
end
section
variable {n : Nat} {A kd ln lo hi vl : Nat → Int32} {gx gy sl bq : Int32} {FF FF2 : Nat → Nat → Int32}
theorem zRo_add {p0 p1 p2 p3 : Int32} (h : zRo n kd ln lo hi vl gx gy sl FF) (h0 : zL0 (FF2 3) (FF2 4) (FF2 5) (FF2 6)) (hg : zGd p0 p1 p2 p3) (hn : n < 5) : zRo (n + 1) (upd kd n p0) (upd ln n p1) (upd lo n p2) (upd hi n p3) (upd vl n (zHeldC p2 p3 0)) gx gy sl FF2 := ⟨zOk_add h.1 hg hn, h.2.1, h.2.2.1, h.2.2.2.1, h0⟩
theorem zRo_v {vx : Nat → Int32} (h : zRo n kd ln lo hi vl gx gy sl FF) (h0 : zL0 (FF2 3) (FF2 4) (FF2 5) (FF2 6)) (hv : zOk n kd ln lo hi vx) : zRo n kd ln lo hi vx gx gy sl FF2 := ⟨hv, h.2.1, h.2.2.1, h.2.2.2.1, h0⟩
theorem zRo_g {y1 y2 : Int32} (h : zRo n kd ln lo hi vl gx gy sl FF) (h0 : zL0 (FF2 3) (FF2 4) (FF2 5) (FF2 6)) (hg : zGl y1 y2) : zRo n kd ln lo hi vl y1 y2 sl FF2 := ⟨h.1, (zGl_b hg).1, (zGl_b hg).2, h.2.2.2.1, h0⟩
theorem zRo_s {p0 : Int32} (h : zRo n kd ln lo hi vl gx gy sl FF) (h0 : zL0 (FF2 3) (FF2 4) (FF2 5) (FF2 6)) (hg : 0 ≤ p0 ∧ p0 ≤ 100000) : zRo n kd ln lo hi vl gx gy p0 FF2 := ⟨h.1, h.2.1, h.2.2.1, zSl_b hg, h0⟩
/-- a value within the limits, made out of a number -/
theorem zAdj (h : zOk n kd ln lo hi vl) {j : Nat} (hj : j < n) (v : Int32) : lo j ≤ lo j + nI (zLw v (zWd lo hi j)) ∧ lo j + nI (zLw v (zWd lo hi j)) ≤ hi j := by
  obtain ⟨e, w1, w2⟩ := zWd_eq h hj
  obtain ⟨g1, g2⟩ := zlow_le v (m := zWd lo hi j) (by omega) (by omega)
  obtain ⟨-, ⟨h1, h2, h3, h4⟩, -⟩ := h.2 j hj
  rw [zle, zle, zadd (by omega) (by omega)]
  omega
theorem zWd_ok (h : zOk n kd ln lo hi vl) {j : Nat} (hj : j < n) : 0 < zWd lo hi j ∧ zWd lo hi j < 2 ^ 31 := by
  obtain ⟨e, w1, w2⟩ := zWd_eq h hj
  omega
theorem zAr_same (h : zAr n A kd ln lo hi vl) {j : Nat} (hj : j < n) : zAr n (upd A (5 * j + 4) (vl j)) kd ln lo hi vl := zAr_congr (zAr_v h hj) (fun k hk => by
  by_cases e : k = j
  · subst e; rw [pk_us]
  · rw [pk_un e])
theorem zAll_cn (hn : ¬ n = 0) (b b2 : Int32) : (zAll kd ln lo hi vl n gx gy sl b).1 = (zAll kd ln lo hi vl n gx gy sl b2).1 := by
  rw [← zCn_all (bq := b) hn, ← zCn_all (bq := b2) hn]
theorem zTk_j (vl p : Nat → Int32) {j : Nat} (hj : j < n) : p j = zTk vl n p j := by unfold zTk; rw [if_pos hj]
theorem zm1_ne {t : Nat} (h : t < 2 ^ 31) : ¬ nI t = -1 := fun e => by
  have g : (nI t).toInt = t := nI_toInt h
  have z : (-1 : Int32).toInt = -1 := by decide
  rw [e, z] at g
  omega
end

/-! a step, as the law looks for it: from the last joint back -/
def zSt4 (s : Int32) : Prop := s = 8 ∨ s = 4 ∨ s = 2 ∨ s = 1
theorem zSt4_i {s : Int32} (h : zSt4 s) : 1 ≤ s.toInt ∧ s.toInt ≤ 8 ∧ 1 * s = s ∧ (-1 * s).toInt = -s.toInt := by
  rcases h with rfl | rfl | rfl | rfl <;> decide
def zSfx (ss : List Int32) : Prop := ss = [8, 4, 2, 1] ∨ ss = [4, 2, 1] ∨ ss = [2, 1] ∨ ss = [1] ∨ ss = []
theorem zSfx_nil {ss : List Int32} (h : zSfx ss) (c : ss.headD 0 ≤ 0) : ss = [] := by
  rcases h with rfl | rfl | rfl | rfl | rfl
  · exact absurd c (by decide)
  · exact absurd c (by decide)
  · exact absurd c (by decide)
  · exact absurd c (by decide)
  · rfl
theorem zSfx_cons {ss : List Int32} (h : zSfx ss) (c : ¬ ss.headD 0 ≤ 0) : ∃ (sd : Int32) (st : List Int32), ss = sd :: st ∧ zSt4 sd ∧ zSfx st ∧ sd / 2 = st.headD 0 := by
  rcases h with rfl | rfl | rfl | rfl | rfl
  · exact ⟨8, [4, 2, 1], rfl, Or.inl rfl, Or.inr (Or.inl rfl), by decide⟩
  · exact ⟨4, [2, 1], rfl, Or.inr (Or.inl rfl), Or.inr (Or.inr (Or.inl rfl)), by decide⟩
  · exact ⟨2, [1], rfl, Or.inr (Or.inr (Or.inl rfl)), Or.inr (Or.inr (Or.inr (Or.inl rfl))), by decide⟩
  · exact ⟨1, [], rfl, Or.inr (Or.inr (Or.inr rfl)), Or.inr (Or.inr (Or.inr (Or.inr rfl))), by decide⟩
  · exact absurd (by decide) c
theorem zUp_1 {lo hi v s : Int32} (hb : -32 ≤ lo.toInt ∧ lo.toInt ≤ v.toInt ∧ v.toInt ≤ hi.toInt ∧ hi.toInt ≤ 100) (hs : zSt4 s) (c : ¬ s ≤ hi - v) : v + (hi - v) = zHeldC lo hi (v + 1 * s) := by
  obtain ⟨a1, a2, a3, a4⟩ := zSt4_i hs
  rw [← zHeld_eq (by rw [zle]; omega), a3]
  unfold zHeldR
  have e1 : (hi - v).toInt = hi.toInt - v.toInt := zsub (by omega) (by omega)
  have e2 : (v + s).toInt = v.toInt + s.toInt := zadd (by omega) (by omega)
  have e3 : v + (hi - v) = hi := zext (by rw [zadd (by omega) (by omega)]; omega)
  rw [zle, e1] at c
  rw [if_neg (by rw [zlt, e2]; omega), if_pos (by rw [zlt, e2]; omega), e3]
theorem zUp_2 {lo hi v s : Int32} (hb : -32 ≤ lo.toInt ∧ lo.toInt ≤ v.toInt ∧ v.toInt ≤ hi.toInt ∧ hi.toInt ≤ 100) (hs : zSt4 s) (c : s ≤ hi - v) : v + s = zHeldC lo hi (v + 1 * s) := by
  obtain ⟨a1, a2, a3, a4⟩ := zSt4_i hs
  rw [← zHeld_eq (by rw [zle]; omega), a3]
  unfold zHeldR
  have e1 : (hi - v).toInt = hi.toInt - v.toInt := zsub (by omega) (by omega)
  have e2 : (v + s).toInt = v.toInt + s.toInt := zadd (by omega) (by omega)
  rw [zle, e1] at c
  rw [if_neg (by rw [zlt, e2]; omega), if_neg (by rw [zlt, e2]; omega)]
theorem zDn_1 {lo hi v s : Int32} (hb : -32 ≤ lo.toInt ∧ lo.toInt ≤ v.toInt ∧ v.toInt ≤ hi.toInt ∧ hi.toInt ≤ 100) (hs : zSt4 s) (c : ¬ s ≤ v - lo) : v + -(v - lo) = zHeldC lo hi (v + -1 * s) := by
  obtain ⟨a1, a2, a3, a4⟩ := zSt4_i hs
  rw [← zHeld_eq (by rw [zle]; omega)]
  unfold zHeldR
  have e1 : (v - lo).toInt = v.toInt - lo.toInt := zsub (by omega) (by omega)
  have e2 : (v + -1 * s).toInt = v.toInt - s.toInt := by rw [zadd (by omega) (by omega)]; omega
  have e4 : (-(v - lo)).toInt = -(v - lo).toInt := zneg (by omega)
  have e3 : v + -(v - lo) = lo := zext (by rw [zadd (by omega) (by omega)]; omega)
  rw [zle, e1] at c
  rw [if_pos (by rw [zlt, e2]; omega), e3]
theorem zDn_2 {lo hi v s : Int32} (hb : -32 ≤ lo.toInt ∧ lo.toInt ≤ v.toInt ∧ v.toInt ≤ hi.toInt ∧ hi.toInt ≤ 100) (hs : zSt4 s) (c : s ≤ v - lo) : v + -s = zHeldC lo hi (v + -1 * s) := by
  obtain ⟨a1, a2, a3, a4⟩ := zSt4_i hs
  rw [← zHeld_eq (by rw [zle]; omega)]
  unfold zHeldR
  have e1 : (v - lo).toInt = v.toInt - lo.toInt := zsub (by omega) (by omega)
  have e2 : (v + -1 * s).toInt = v.toInt - s.toInt := by rw [zadd (by omega) (by omega)]; omega
  have e5 : (-s).toInt = -s.toInt := zneg (by omega)
  rw [zle, e1] at c
  rw [if_neg (by rw [zlt, e2]; omega), if_neg (by rw [zlt, e2]; omega)]
  exact zext (by rw [e2, zadd (by omega) (by omega)]; omega)
/-- what a try leads to: joint c / 2, less (c even) or more -/
def zTv (lo hi vx : Nat → Int32) (s : Int32) (c : Nat) : Int32 := zHeldC (lo (c / 2)) (hi (c / 2)) (vx (c / 2) + (if c % 2 = 0 then -1 else 1) * s)
def zTf (kd ln lo hi vx : Nat → Int32) (n : Nat) (gx gy s : Int32) (c : Nat) : Int64 := zFw kd ln vx n gx gy (nI (c / 2)) (zTv lo hi vx s c)
section
variable {kd ln lo hi vx : Nat → Int32} {n : Nat} {gx gy s : Int32}
def zFp (kd ln lo hi vx : Nat → Int32) (n : Nat) (gx gy s : Int32) (m : Nat) (f : Int64 × Int32 × Int32) : Prop :=
  (f.2.1 = -1 ∧ f.1 = zFn kd ln vx n gx gy ∧ ∀ c, c < m → ¬ (zTf kd ln lo hi vx n gx gy s c).toInt < (zFn kd ln vx n gx gy).toInt) ∨
  (∃ c, c < m ∧ f.2.1 = nI (c / 2) ∧ f.2.2 = zTv lo hi vx s c ∧ f.1 = zTf kd ln lo hi vx n gx gy s c ∧ (zTf kd ln lo hi vx n gx gy s c).toInt < (zFn kd ln vx n gx gy).toInt ∧ (∀ d, d < m → (zTf kd ln lo hi vx n gx gy s c).toInt ≤ (zTf kd ln lo hi vx n gx gy s d).toInt) ∧ ∀ d, d < c → (zTf kd ln lo hi vx n gx gy s c).toInt < (zTf kd ln lo hi vx n gx gy s d).toInt)
def zSg (kd ln lo hi vx : Nat → Int32) (n : Nat) (gx gy s : Int32) (m : Nat) (f : Int64 × Int32 × Int32) : Int64 × Int32 × Int32 := if zTf kd ln lo hi vx n gx gy s m < f.1 then (zTf kd ln lo hi vx n gx gy s m, nI (m / 2), zTv lo hi vx s m) else f
theorem zTv_0 (lo hi vx : Nat → Int32) (s : Int32) (j : Nat) : zTv lo hi vx s (2 * j) = zHeldC (lo j) (hi j) (vx j + -1 * s) := by
  unfold zTv
  rw [show 2 * j / 2 = j by omega, if_pos (by omega)]
theorem zTv_1 (lo hi vx : Nat → Int32) (s : Int32) (j : Nat) : zTv lo hi vx s (2 * j + 1) = zHeldC (lo j) (hi j) (vx j + 1 * s) := by
  unfold zTv
  rw [show (2 * j + 1) / 2 = j by omega, if_neg (by omega)]
theorem zTry_0 (f : Int64 × Int32 × Int32) (j : Nat) : zTry kd ln lo hi vx n gx gy s f j (-1) = zSg kd ln lo hi vx n gx gy s (2 * j) f := by
  unfold zTry zSg zTf
  rw [zTv_0, show 2 * j / 2 = j by omega]
theorem zTry_1 (f : Int64 × Int32 × Int32) (j : Nat) : zTry kd ln lo hi vx n gx gy s f j 1 = zSg kd ln lo hi vx n gx gy s (2 * j + 1) f := by
  unfold zTry zSg zTf
  rw [zTv_1, show (2 * j + 1) / 2 = j by omega]
theorem zFp_s {m : Nat} {f : Int64 × Int32 × Int32} (h : zFp kd ln lo hi vx n gx gy s m f) : zFp kd ln lo hi vx n gx gy s (m + 1) (zSg kd ln lo hi vx n gx gy s m f) := by
  unfold zSg
  by_cases c : zTf kd ln lo hi vx n gx gy s m < f.1
  · rw [if_pos c]
    rw [Int64.lt_iff_toInt_lt] at c
    right
    rcases h with ⟨h1, h2, h3⟩ | ⟨d, h1, h2, h3, h4, h5, h6, h7⟩
    · rw [h2] at c
      refine ⟨m, by omega, rfl, rfl, rfl, c, fun d hd => ?_, fun d hd => ?_⟩
      · by_cases e : d = m
        · rw [e]; exact Int.le_refl _
        · have := h3 d (by omega); omega
      · have := h3 d hd; omega
    · rw [h4] at c
      refine ⟨m, by omega, rfl, rfl, rfl, by omega, fun d' hd => ?_, fun d' hd => ?_⟩
      · by_cases e : d' = m
        · rw [e]; exact Int.le_refl _
        · have := h6 d' (by omega); omega
      · have := h6 d' hd; omega
  · rw [if_neg c]
    rw [Int64.lt_iff_toInt_lt] at c
    rcases h with ⟨h1, h2, h3⟩ | ⟨d, h1, h2, h3, h4, h5, h6, h7⟩
    · rw [h2] at c
      refine Or.inl ⟨h1, h2, fun d hd => ?_⟩
      by_cases e : d = m
      · rw [e]; exact c
      · exact h3 d (by omega)
    · rw [h4] at c
      refine Or.inr ⟨d, by omega, h2, h3, h4, h5, fun d' hd => ?_, h7⟩
      by_cases e : d' = m
      · rw [e]; omega
      · exact h6 d' (by omega)
theorem zFp_bst : ∀ k, zFp kd ln lo hi vx n gx gy s (2 * k) (zBst kd ln lo hi vx n gx gy s k)
  | 0 => Or.inl ⟨rfl, rfl, fun c hc => absurd hc (Nat.not_lt_zero c)⟩
  | k + 1 => by
    show zFp kd ln lo hi vx n gx gy s (2 * (k + 1)) (zTry kd ln lo hi vx n gx gy s (zTry kd ln lo hi vx n gx gy s (zBst kd ln lo hi vx n gx gy s k) k (-1)) k 1)
    rw [zTry_0, zTry_1]
    exact zFp_s (zFp_s (zFp_bst k))
/-- the law's own: the tries from m on -/
def zBk (kd ln lo hi vx : Nat → Int32) (n : Nat) (gx gy s : Int32) (m : Nat) (bs : Int64) (wh mo : Int32) : Prop :=
  (wh = -1 ∧ bs = zFn kd ln vx n gx gy ∧ ∀ c, m ≤ c → c < 2 * n → ¬ (zTf kd ln lo hi vx n gx gy s c).toInt < (zFn kd ln vx n gx gy).toInt) ∨
  (∃ c, m ≤ c ∧ c < 2 * n ∧ wh = nI (c / 2) ∧ vx (c / 2) + mo = zTv lo hi vx s c ∧ bs = zTf kd ln lo hi vx n gx gy s c ∧ (zTf kd ln lo hi vx n gx gy s c).toInt < (zFn kd ln vx n gx gy).toInt ∧ (∀ d, m ≤ d → d < 2 * n → (zTf kd ln lo hi vx n gx gy s c).toInt ≤ (zTf kd ln lo hi vx n gx gy s d).toInt) ∧ ∀ d, m ≤ d → d < c → (zTf kd ln lo hi vx n gx gy s c).toInt < (zTf kd ln lo hi vx n gx gy s d).toInt)
variable {m : Nat} {bs : Int64} {wh mo mo2 : Int32}
theorem zBk_0 : zBk kd ln lo hi vx n gx gy s (2 * n) (zFn kd ln vx n gx gy) (-1) mo := Or.inl ⟨rfl, rfl, fun c h1 h2 => absurd h1 (Nat.not_le.mpr h2)⟩
theorem zBk_up (h : zBk kd ln lo hi vx n gx gy s (m + 1) bs wh mo) (hm : m < 2 * n) (hn : n ≤ 5) (hv : vx (m / 2) + mo2 = zTv lo hi vx s m) (c : zTf kd ln lo hi vx n gx gy s m < bs ∨ (zTf kd ln lo hi vx n gx gy s m = bs ∧ ¬ wh = -1)) : zBk kd ln lo hi vx n gx gy s m (zTf kd ln lo hi vx n gx gy s m) (nI (m / 2)) mo2 := by
  right
  rcases h with ⟨h1, h2, h3⟩ | ⟨d, h0, h1, h2, h3, h4, h5, h6, h7⟩
  · have c : (zTf kd ln lo hi vx n gx gy s m).toInt < (zFn kd ln vx n gx gy).toInt := by
      rcases c with c | c
      · rw [h2, Int64.lt_iff_toInt_lt] at c; exact c
      · exact absurd h1 c.2
    refine ⟨m, Nat.le_refl m, hm, rfl, hv, rfl, c, fun d a b => ?_, fun d a b => by omega⟩
    by_cases e : d = m
    · rw [e]; exact Int.le_refl _
    · have := h3 d (by omega) b; omega
  · have c : (zTf kd ln lo hi vx n gx gy s m).toInt ≤ (zTf kd ln lo hi vx n gx gy s d).toInt := by
      rcases c with c | c
      · rw [h4, Int64.lt_iff_toInt_lt] at c; omega
      · rw [c.1, h4]; exact Int.le_refl _
    refine ⟨m, Nat.le_refl m, hm, rfl, hv, rfl, by omega, fun d' a b => ?_, fun d' a b => by omega⟩
    by_cases e : d' = m
    · rw [e]; exact Int.le_refl _
    · have := h6 d' (by omega) b; omega
theorem zBk_no (h : zBk kd ln lo hi vx n gx gy s (m + 1) bs wh mo) (hn : n ≤ 5) (c : ¬ zTf kd ln lo hi vx n gx gy s m < bs) (c2 : ¬ zTf kd ln lo hi vx n gx gy s m = bs ∨ wh = -1) : zBk kd ln lo hi vx n gx gy s m bs wh mo := by
  rw [Int64.lt_iff_toInt_lt] at c
  rcases h with ⟨h1, h2, h3⟩ | ⟨d, h0, h1, h2, h3, h4, h5, h6, h7⟩
  · refine Or.inl ⟨h1, h2, fun d a b => ?_⟩
    by_cases e : d = m
    · rw [e, ← h2]; exact c
    · exact h3 d (by omega) b
  · rw [h4] at c
    have hne : ¬ (zTf kd ln lo hi vx n gx gy s m).toInt = (zTf kd ln lo hi vx n gx gy s d).toInt := by
      rcases c2 with c2 | c2
      · exact fun e => c2 (by rw [h4]; exact Int64.toInt_inj.mp e)
      · exact absurd (h2.symm.trans c2) (zm1_ne (by omega))
    refine Or.inr ⟨d, by omega, h1, h2, h3, h4, h5, fun d' a b => ?_, fun d' a b => ?_⟩
    · by_cases e : d' = m
      · rw [e]; omega
      · exact h6 d' (by omega) b
    · by_cases e : d' = m
      · rw [e]; omega
      · exact h7 d' (by omega) b
theorem zBk_up1 {k : Nat} (h : zBk kd ln lo hi vx n gx gy s (2 * (k + 1)) bs wh mo) (hk : k < n) (hn : n ≤ 5) (hv : vx k + mo2 = zHeldC (lo k) (hi k) (vx k + 1 * s)) (c : zTf kd ln lo hi vx n gx gy s (2 * k + 1) < bs ∨ (zTf kd ln lo hi vx n gx gy s (2 * k + 1) = bs ∧ ¬ wh = -1)) : zBk kd ln lo hi vx n gx gy s (2 * k + 1) (zTf kd ln lo hi vx n gx gy s (2 * k + 1)) (nI k) mo2 := by
  have e : (2 * k + 1) / 2 = k := by omega
  have g := zBk_up (m := 2 * k + 1) (mo2 := mo2) h (by omega) hn (by rw [e, zTv_1]; exact hv) c
  rw [e] at g
  exact g
theorem zBk_no1 {k : Nat} (h : zBk kd ln lo hi vx n gx gy s (2 * (k + 1)) bs wh mo) (hn : n ≤ 5) (c : ¬ zTf kd ln lo hi vx n gx gy s (2 * k + 1) < bs) (c2 : ¬ zTf kd ln lo hi vx n gx gy s (2 * k + 1) = bs ∨ wh = -1) : zBk kd ln lo hi vx n gx gy s (2 * k + 1) bs wh mo := zBk_no (m := 2 * k + 1) h hn c c2
theorem zBk_up0 {k : Nat} (h : zBk kd ln lo hi vx n gx gy s (2 * k + 1) bs wh mo) (hk : k < n) (hn : n ≤ 5) (hv : vx k + mo2 = zHeldC (lo k) (hi k) (vx k + -1 * s)) (c : zTf kd ln lo hi vx n gx gy s (2 * k) < bs ∨ (zTf kd ln lo hi vx n gx gy s (2 * k) = bs ∧ ¬ wh = -1)) : zBk kd ln lo hi vx n gx gy s (2 * k) (zTf kd ln lo hi vx n gx gy s (2 * k)) (nI k) mo2 := by
  have e : (2 * k) / 2 = k := by omega
  have g := zBk_up (m := 2 * k) (mo2 := mo2) h (by omega) hn (by rw [e, zTv_0]; exact hv) c
  rw [e] at g
  exact g
theorem zBk_end (hn : n ≤ 5) (h : zBk kd ln lo hi vx n gx gy s 0 bs wh mo) : (wh = -1 ∧ (zBst kd ln lo hi vx n gx gy s n).2.1 = -1) ∨ (¬ wh = -1 ∧ ¬ (zBst kd ln lo hi vx n gx gy s n).2.1 = -1 ∧ ∃ jw, jw < n ∧ wh = nI jw ∧ zNx kd ln lo hi vx n gx gy s = upd vx jw (vx jw + mo)) := by
  have g := zFp_bst (kd := kd) (ln := ln) (lo := lo) (hi := hi) (vx := vx) (n := n) (gx := gx) (gy := gy) (s := s) n
  rcases h with ⟨h1, h2, h3⟩ | ⟨d, h0, h1, h2, h3, h4, h5, h6, h7⟩
  · rcases g with ⟨g1, g2, g3⟩ | ⟨c, g1, g2, g3, g4, g5, g6, g7⟩
    · exact Or.inl ⟨h1, g1⟩
    · exact absurd g5 (h3 c (Nat.zero_le c) g1)
  · rcases g with ⟨g1, g2, g3⟩ | ⟨c, g1, g2, g3, g4, g5, g6, g7⟩
    · exact absurd h5 (g3 d h1)
    · have e : c = d := by
        have a1 := g6 d h1
        have a2 := h6 c (Nat.zero_le c) g1
        refine Classical.byContradiction fun z => ?_
        rcases Nat.lt_or_gt_of_ne z with q | q
        · have := h7 c (Nat.zero_le c) q; omega
        · have := g7 d q; omega
      subst e
      have hj : c / 2 < n := by omega
      refine Or.inr ⟨by rw [h2]; exact zm1_ne (by omega), by rw [g2]; exact zm1_ne (by omega), c / 2, hj, h2, ?_⟩
      unfold zNx
      rw [g2, g3, nI_clamp (by omega), h3]
end
/-- what stands ahead of each turn of the law -/
def zLv (D : va_G) (cI cJ : ClassId) (A0 : Nat → Prop) (H0 H : Heap) (locs : List Loc) (ad : Nat → Nat) (la lg lt nm : Nat) : Prop :=
  ∃ (n : Nat) (kd ln lo hi vl : Nat → Int32) (gx gy sl : Int32) (si : Nat → Int32) (kc : Nat → Int64) (FF : Nat → Nat → Int32) (fa fg ft : Nat → Int32), nm ≤ n ∧ zRo n kd ln lo hi vl gx gy sl FF ∧ zAr n fa kd ln lo hi vl ∧ zGs fg n gx gy sl ∧ zTt ft ∧ zKd n kd ∧ va_P D vwCl ([(la, .inl (cI, 25, .inl fa)), (lg, .inl (cI, 4, .inl fg)), (lt, .inl (cI, 17, .inl ft))] ++ zWR cI cJ ad n kd ln lo hi vl gx gy sl si kc FF) H ∧ va_D A0 ([(la, .inl (cI, 25, .inl fa)), (lg, .inl (cI, 4, .inl fg)), (lt, .inl (cI, 17, .inl ft))] ++ zWR cI cJ ad n kd ln lo hi vl gx gy sl si kc FF) ∧ va_S A0 H0 H locs
