/-! the ranks: which number stands at which place, and how the law finds it again -/
abbrev zLx (ky : Nat → Int64) (a b : Nat) : Prop := (ky a).toInt < (ky b).toInt ∨ ((ky a).toInt = (ky b).toInt ∧ a < b)
/-- the ranks with one place free, at a: those behind it are above the new one -/
def zHole (ps : Nat → Bool) (ky : Nat → Int64) (B f : Nat) (its : Int64) (a : Nat) (K : Nat → Int64) (T : Nat → Nat) : Prop :=
  (∀ r, r < f + 1 → r < 10 → r ≠ a → T r < B ∧ ps (T r) = true ∧ K r = ky (T r)) ∧
  (∀ r r', r < r' → r' < f + 1 → r' < 10 → r ≠ a → r' ≠ a → zLx ky (T r) (T r')) ∧
  (∀ r, a < r → r < f + 1 → r < 10 → its.toInt < (K r).toInt) ∧
  (∀ k, k < B → ps k = true → (∃ r, r < f + 1 ∧ r < 10 ∧ r ≠ a ∧ T r = k) ∨ ((∀ r, r < f + 1 → r < 10 → r ≠ a → zLx ky (T r) k) ∧ (a < 10 → its.toInt < (ky k).toInt) ∧ 10 ≤ f))
def zSrt (ps : Nat → Bool) (ky : Nat → Int64) (B f : Nat) (K : Nat → Int64) (T : Nat → Nat) : Prop :=
  (∀ r, r < f → r < 10 → T r < B ∧ ps (T r) = true ∧ K r = ky (T r)) ∧
  (∀ r r', r < r' → r' < f → r' < 10 → zLx ky (T r) (T r')) ∧
  (∀ k, k < B → ps k = true → (∃ r, r < f ∧ r < 10 ∧ T r = k) ∨ (10 ≤ f ∧ ∀ r, r < 10 → zLx ky (T r) k))
section
variable {ps : Nat → Bool} {ky : Nat → Int64} {B f : Nat} {its : Int64} {K : Nat → Int64} {T : Nat → Nat}
theorem zSrt_hole (h : zSrt ps ky B f K T) : zHole ps ky B f its (if f < 10 then f else 10) K T := by
  obtain ⟨h1, h2, h3⟩ := h
  have e : ∀ r, r < f + 1 → r < 10 → r ≠ (if f < 10 then f else 10) → r < f := by
    intro r a1 a2 a3
    split at a3 <;> omega
  refine ⟨fun r a1 a2 a3 => h1 r (e r a1 a2 a3) a2, fun r r' a1 a2 a3 a4 a5 => h2 r r' a1 (e r' a2 a3 a5) a3, fun r a1 a2 a3 => ?_, fun k a1 a2 => ?_⟩
  · split at a1 <;> omega
  · rcases h3 k a1 a2 with ⟨r, b1, b2, b3⟩ | ⟨b1, b2⟩
    · refine Or.inl ⟨r, by omega, b2, ?_, b3⟩
      split <;> omega
    · refine Or.inr ⟨fun r _ c _ => b2 r c, fun c => ?_, b1⟩
      rw [if_neg (by omega)] at c
      omega
theorem zHole_mv {a : Nat} (ha : a < f) (ha2 : a < 10) (hl : its.toInt < (K a).toInt) (h : zHole ps ky B f its (a + 1) K T) : zHole ps ky B f its a (zMvK a K) (zMvT a T) := by
  obtain ⟨h1, h2, h3, h4⟩ := h
  by_cases c : a + 1 < 10
  · have eK1 : zMvK a K (a + 1) = K a := by unfold zMvK; rw [if_pos c, pk_uLs]
    have eK : ∀ r, r ≠ a + 1 → zMvK a K r = K r := fun r hr => by unfold zMvK; rw [if_pos c, pk_uLn hr]
    have eT1 : zMvT a T (a + 1) = T a := by unfold zMvT va_up; rw [if_pos c, if_pos rfl]
    have eT : ∀ r, r ≠ a + 1 → zMvT a T r = T r := fun r hr => by unfold zMvT va_up; rw [if_pos c, if_neg hr]
    refine ⟨fun r b1 b2 b3 => ?_, fun r r' b1 b2 b3 b4 b5 => ?_, fun r b1 b2 b3 => ?_, fun k b1 b2 => ?_⟩
    · by_cases e : r = a + 1
      · subst e
        rw [eK1, eT1]
        exact h1 a (by omega) (by omega) (by omega)
      · rw [eK r e, eT r e]
        exact h1 r b1 b2 e
    · by_cases e : r = a + 1
      · subst e
        rw [eT1, eT r' (by omega)]
        exact h2 a r' (by omega) b2 b3 (by omega) (by omega)
      · rw [eT r e]
        by_cases e2 : r' = a + 1
        · subst e2
          rw [eT1]
          exact h2 r a (by omega) (by omega) (by omega) e (by omega)
        · rw [eT r' e2]
          exact h2 r r' b1 b2 b3 e e2
    · by_cases e : r = a + 1
      · subst e
        rw [eK1]
        exact hl
      · rw [eK r e]
        exact h3 r (by omega) b2 b3
    · rcases h4 k b1 b2 with ⟨r, d1, d2, d3, d4⟩ | ⟨d1, d2, d3⟩
      · by_cases e : r = a
        · exact Or.inl ⟨a + 1, by omega, c, by omega, by rw [eT1, ← e]; exact d4⟩
        · exact Or.inl ⟨r, d1, d2, e, by rw [eT r d3]; exact d4⟩
      · refine Or.inr ⟨fun r e1 e2 e3 => ?_, fun _ => d2 c, d3⟩
        by_cases e : r = a + 1
        · subst e
          rw [eT1]
          exact d1 a (by omega) (by omega) (by omega)
        · rw [eT r e]
          exact d1 r e1 e2 e
  · have eK : zMvK a K = K := by unfold zMvK; rw [if_neg c]
    have eT : zMvT a T = T := by unfold zMvT; rw [if_neg c]
    rw [eK, eT]
    refine ⟨fun r b1 b2 b3 => h1 r b1 b2 (by omega), fun r r' b1 b2 b3 b4 b5 => h2 r r' b1 b2 b3 (by omega) (by omega), fun r b1 b2 b3 => by omega, fun k b1 b2 => ?_⟩
    have h9 := h1 a (by omega) (by omega) (by omega)
    rcases h4 k b1 b2 with ⟨r, d1, d2, d3, d4⟩ | ⟨d1, d2, d3⟩
    · by_cases e : r = a
      · refine Or.inr ⟨fun r' e1 e2 e3 => ?_, fun _ => ?_, by omega⟩
        · rw [← d4, e]
          exact h2 r' a (by omega) (by omega) (by omega) (by omega) (by omega)
        · rw [← d4, e, ← h9.2.2]
          exact hl
      · exact Or.inl ⟨r, d1, d2, e, d4⟩
    · refine Or.inr ⟨fun r e1 e2 _ => d1 r e1 e2 (by omega), fun _ => ?_, d3⟩
      have g := d1 a (by omega) (by omega) (by omega)
      rw [h9.2.2] at hl
      rcases g with g | g <;> omega
theorem zDn_hole : ∀ {a : Nat} {K : Nat → Int64} {T : Nat → Nat}, a ≤ f → a ≤ 10 → zHole ps ky B f its a K T → zHole ps ky B f its (zDn its a K T).1 (zDn its a K T).2.1 (zDn its a K T).2.2 ∧ ((zDn its a K T).1 = 0 ∨ ∃ b, (zDn its a K T).1 = b + 1 ∧ ¬ its < (zDn its a K T).2.1 b)
  | 0, _, _, _, _, h => ⟨h, Or.inl rfl⟩
  | a + 1, K, T, h1, h2, h => by
    by_cases c : its < K a
    · rw [zDn_go c]
      exact zDn_hole (a := a) (by omega) (by omega) (zHole_mv (by omega) (by omega) (Int64.lt_iff_toInt_lt.mp c) h)
    · rw [zDn_no c]
      exact ⟨h, Or.inr ⟨a, rfl, c⟩⟩
theorem zHole_low {a : Nat} (hf : a ≤ f) (h10 : a ≤ 10) (h : zHole ps ky B f its a K T) (hs : a = 0 ∨ ∃ b, a = b + 1 ∧ ¬ its < K b) (r : Nat) (hr : r < a) : (ky (T r)).toInt ≤ its.toInt := by
  obtain ⟨h1, h2, h3, h4⟩ := h
  rcases hs with rfl | ⟨b, rfl, hb⟩
  · exact absurd hr (Nat.not_lt_zero r)
  · have hb : ¬ its.toInt < (K b).toInt := fun z => hb (Int64.lt_iff_toInt_lt.mpr z)
    have e := (h1 b (by omega) (by omega) (by omega)).2.2
    rw [e] at hb
    by_cases c : r = b
    · subst c; omega
    · have g := h2 r b (by omega) (by omega) (by omega) (by omega) (by omega)
      rcases g with g | g <;> omega
theorem zSrt_ins (hps : ps B = true) (h : zSrt ps ky B f K T) : zSrt ps ky (B + 1) (zIns (ky B) B (f, K, T)).1 (zIns (ky B) B (f, K, T)).2.1 (zIns (ky B) B (f, K, T)).2.2 := by
  have hm : (if f < 10 then f else 10) ≤ f ∧ (if f < 10 then f else 10) ≤ 10 := by split <;> omega
  obtain ⟨h5, h6⟩ := zDn_hole (its := ky B) hm.1 hm.2 (zSrt_hole h)
  have hle := zDn_le (its := ky B) (a := if f < 10 then f else 10) (K := K) (T := T)
  unfold zIns
  show zSrt ps ky (B + 1) (f + 1) (if (zDm f (ky B) K T).1 < 10 then _ else _ : (Nat → Int64) × (Nat → Nat)).1 (if (zDm f (ky B) K T).1 < 10 then _ else _ : (Nat → Int64) × (Nat → Nat)).2
  unfold zDm
  generalize zDn (ky B) (if f < 10 then f else 10) K T = z at *
  obtain ⟨a, K', T'⟩ := z
  dsimp only at h5 h6 hle ⊢
  have haf : a ≤ f := by omega
  have ha10 : a ≤ 10 := by omega
  have hlow := zHole_low haf ha10 h5 h6
  obtain ⟨h1, h2, h3, h4⟩ := h5
  by_cases c : a < 10
  · rw [if_pos c]
    show zSrt ps ky (B + 1) (f + 1) (vp_updL K' a (ky B)) (va_up T' a B)
    have eT : ∀ r, r ≠ a → va_up T' a B r = T' r := fun r hr => by unfold va_up; rw [if_neg hr]
    have eT1 : va_up T' a B a = B := by unfold va_up; rw [if_pos rfl]
    refine ⟨fun r b1 b2 => ?_, fun r r' b1 b2 b3 => ?_, fun k b1 b2 => ?_⟩
    · by_cases e : r = a
      · subst e
        rw [eT1, pk_uLs]
        exact ⟨by omega, hps, rfl⟩
      · rw [eT r e, pk_uLn e]
        obtain ⟨g1, g2, g3⟩ := h1 r b1 b2 e
        exact ⟨by omega, g2, g3⟩
    · by_cases e : r = a
      · subst e
        rw [eT1, eT r' (by omega)]
        have g := h3 r' b1 b2 b3
        rw [(h1 r' b2 b3 (by omega)).2.2] at g
        exact Or.inl g
      · rw [eT r e]
        by_cases e2 : r' = a
        · subst e2
          rw [eT1]
          have g := hlow r b1
          have g2 := (h1 r (by omega) (by omega) e).1
          by_cases g3 : (ky (T' r)).toInt = (ky B).toInt
          · exact Or.inr ⟨g3, g2⟩
          · exact Or.inl (by omega)
        · rw [eT r' e2]
          exact h2 r r' b1 b2 b3 e e2
    · by_cases e : k = B
      · exact Or.inl ⟨a, by omega, c, by rw [eT1, e]⟩
      · rcases h4 k (by omega) b2 with ⟨r, d1, d2, d3, d4⟩ | ⟨d1, d2, d3⟩
        · exact Or.inl ⟨r, d1, d2, by rw [eT r d3]; exact d4⟩
        · refine Or.inr ⟨by omega, fun r hr => ?_⟩
          by_cases e3 : r = a
          · subst e3
            rw [eT1]
            exact Or.inl (d2 c)
          · rw [eT r e3]
            exact d1 r (by omega) hr e3
  · rw [if_neg c]
    show zSrt ps ky (B + 1) (f + 1) K' T'
    refine ⟨fun r b1 b2 => ?_, fun r r' b1 b2 b3 => h2 r r' b1 b2 b3 (by omega) (by omega), fun k b1 b2 => ?_⟩
    · obtain ⟨g1, g2, g3⟩ := h1 r b1 b2 (by omega)
      exact ⟨by omega, g2, g3⟩
    · by_cases e : k = B
      · subst e
        refine Or.inr ⟨by omega, fun r hr => ?_⟩
        have g := hlow r (by omega)
        have g2 := (h1 r (by omega) hr (by omega)).1
        by_cases g3 : (ky (T' r)).toInt = (ky k).toInt
        · exact Or.inr ⟨g3, g2⟩
        · exact Or.inl (by omega)
      · rcases h4 k (by omega) b2 with ⟨r, d1, d2, d3, d4⟩ | ⟨d1, d2, d3⟩
        · exact Or.inl ⟨r, d1, d2, d4⟩
        · exact Or.inr ⟨by omega, fun r hr => d1 r (by omega) hr (by omega)⟩
theorem zSrt_stp {st : zRs} (h : zSrt ps ky B st.1 st.2.1 st.2.2) : zSrt ps ky (B + 1) (zStp ps ky B st).1 (zStp ps ky B st).2.1 (zStp ps ky B st).2.2 := by
  obtain ⟨f, K, T⟩ := st
  unfold zStp
  by_cases c : ps B = true
  · rw [if_pos c]
    exact zSrt_ins c h
  · rw [if_neg c]
    obtain ⟨h1, h2, h3⟩ := h
    refine ⟨fun r b1 b2 => ?_, h2, fun k b1 b2 => h3 k ?_ b2⟩
    · obtain ⟨g1, g2, g3⟩ := h1 r b1 b2
      exact ⟨Nat.lt_succ_of_lt g1, g2, g3⟩
    · rcases Nat.lt_succ_iff_lt_or_eq.mp b1 with g | g
      · exact g
      · rw [g] at b2; exact absurd b2 c
theorem zSrt_fo : ∀ {c a : Nat} {st : zRs}, zSrt ps ky a st.1 st.2.1 st.2.2 → zSrt ps ky (a + c) (zFo ps ky a c st).1 (zFo ps ky a c st).2.1 (zFo ps ky a c st).2.2
  | 0, _, _, h => h
  | c + 1, a, st, h => by
    have g := zSrt_fo (c := c) (a := a + 1) (st := zStp ps ky a st) (zSrt_stp h)
    rw [show a + 1 + c = a + (c + 1) by omega] at g
    exact g
theorem zSrt_0 {K0 : Nat → Int64} {T0 : Nat → Nat} : zSrt ps ky 0 0 K0 T0 :=
  ⟨fun r h => absurd h (Nat.not_lt_zero r), fun _ r' _ h => absurd h (Nat.not_lt_zero r'), fun k h => absurd h (Nat.not_lt_zero k)⟩
/-- behind that of the rank ahead -/
def zGtr (had : Int64) (last : Int32) (ky : Nat → Int64) (k : Nat) : Prop := had.toInt < (ky k).toInt ∨ (had.toInt = (ky k).toInt ∧ last.toInt < (k : Int))
def zPik (ps : Nat → Bool) (ky : Nat → Int64) (had : Int64) (last : Int32) (i : Nat) (best : Int64) (which : Int32) : Prop :=
  (which = -1 ∧ ∀ k, k < i → ps k = true → ¬ zGtr had last ky k) ∨ (∃ w, w < i ∧ which = nI w ∧ best = ky w ∧ ps w = true ∧ zGtr had last ky w ∧ ∀ k, k < i → ps k = true → zGtr had last ky k → k = w ∨ zLx ky w k)
def zSel (ky : Nat → Int64) (f : Nat) (T : Nat → Nat) (q : Nat) (had : Int64) (last : Int32) : Prop := (q = 0 ∧ had = -1 ∧ last = -1) ∨ (∃ q', q = q' + 1 ∧ q' < f ∧ q' < 10 ∧ had = ky (T q') ∧ last = nI (T q'))
variable {had best : Int64} {last which : Int32} {i N q : Nat}
theorem zPik_0 : zPik ps ky had last 0 (-1) (-1) := Or.inl ⟨rfl, fun k h => absurd h (Nat.not_lt_zero k)⟩
theorem zPik_no (h : zPik ps ky had last i best which) (hn : ps i = true → ¬ zGtr had last ky i) : zPik ps ky had last (i + 1) best which := by
  rcases h with ⟨h1, h2⟩ | ⟨w, h1, h2, h3, h4, h5, h6⟩
  · refine Or.inl ⟨h1, fun k hk hp => ?_⟩
    rcases Nat.lt_succ_iff_lt_or_eq.mp hk with g | g
    · exact h2 k g hp
    · rw [g] at hp ⊢; exact hn hp
  · refine Or.inr ⟨w, by omega, h2, h3, h4, h5, fun k hk hp hg => ?_⟩
    rcases Nat.lt_succ_iff_lt_or_eq.mp hk with g | g
    · exact h6 k g hp hg
    · rw [g] at hp hg; exact absurd hg (hn hp)
theorem zPik_new (h : zPik ps ky had last i best which) (hp : ps i = true) (hg : zGtr had last ky i) (hc : which = -1 ∨ (ky i).toInt < best.toInt) (hi : i < 2 ^ 31) : zPik ps ky had last (i + 1) (ky i) (nI i) := by
  refine Or.inr ⟨i, by omega, rfl, rfl, hp, hg, fun k hk hp2 hg2 => ?_⟩
  rcases Nat.lt_succ_iff_lt_or_eq.mp hk with g | g
  · rcases h with ⟨h1, h2⟩ | ⟨w, h1, h2, h3, h4, h5, h6⟩
    · exact absurd hg2 (h2 k g hp2)
    · have hw : (ky i).toInt < (ky w).toInt := by
        rcases hc with c | c
        · rw [h2] at c
          have e : (nI w).toInt = w := nI_toInt (by omega)
          have e1 : (-1 : Int32).toInt = -1 := by decide
          rw [c, e1] at e
          omega
        · rw [← h3]; exact c
      rcases h6 k g hp2 hg2 with e | e
      · rw [e]; exact Or.inr (Or.inl hw)
      · refine Or.inr (Or.inl ?_)
        rcases e with e | e <;> omega
  · exact Or.inl g
theorem zPik_old (h : zPik ps ky had last i best which) (hw : ¬ which = -1) (hc : ¬ (ky i).toInt < best.toInt) : zPik ps ky had last (i + 1) best which := by
  rcases h with ⟨h1, h2⟩ | ⟨w, h1, h2, h3, h4, h5, h6⟩
  · exact absurd h1 hw
  · refine Or.inr ⟨w, by omega, h2, h3, h4, h5, fun k hk hp hg => ?_⟩
    rcases Nat.lt_succ_iff_lt_or_eq.mp hk with g | g
    · exact h6 k g hp hg
    · rw [g]
      rw [h3] at hc
      refine Or.inr ?_
      by_cases e : (ky w).toInt = (ky i).toInt
      · exact Or.inr ⟨e, h1⟩
      · exact Or.inl (by omega)
theorem zPik_end {f : Nat} (hs : zSrt ps ky N f K T) (hN : N < 2 ^ 31) (hnn : ∀ k, k < N → ps k = true → 0 ≤ (ky k).toInt) (hq : q < 10) (hq2 : zSel ky f T q had last) (h : zPik ps ky had last N best which) : (which = -1 ∧ ¬ q < f) ∨ (¬ which = -1 ∧ q < f ∧ which = nI (T q) ∧ best = ky (T q)) := by
  obtain ⟨s1, s2, s3⟩ := hs
  have m1 : (-1 : Int64).toInt = -1 := by decide
  have m2 : (-1 : Int32).toInt = -1 := by decide
  have hgt : q < f → zGtr had last ky (T q) := by
    intro c
    obtain ⟨a1, a2, a3⟩ := s1 q c hq
    rcases hq2 with ⟨-, e1, e2⟩ | ⟨q', e0, e1, e2, e3, e4⟩
    · left
      rw [e1, m1]
      have := hnn _ a1 a2
      omega
    · have g := s2 q' q (by omega) c hq
      have hT := (s1 q' e1 e2).1
      unfold zGtr
      rw [e3, e4, nI_toInt (by omega)]
      rcases g with g | g
      · exact Or.inl g
      · exact Or.inr ⟨g.1, by omega⟩
  have hno : ∀ r, r < f → r < 10 → zGtr had last ky (T r) → q ≤ r := by
    intro r c1 c2 g
    rcases hq2 with ⟨e0, -, -⟩ | ⟨q', e0, e1, e2, e3, e4⟩
    · omega
    · refine Classical.byContradiction fun z => ?_
      have hT := (s1 q' e1 e2).1
      unfold zGtr at g
      rw [e3, e4, nI_toInt (by omega)] at g
      by_cases e : r = q'
      · subst e
        rcases g with g | g <;> omega
      · have g2 := s2 r q' (by omega) e1 e2
        rcases g with g | g <;> rcases g2 with g2 | g2 <;> omega
  by_cases c : q < f
  · right
    obtain ⟨a1, a2, a3⟩ := s1 q c hq
    rcases h with ⟨h1, h2⟩ | ⟨w, h1, h2, h3, h4, h5, h6⟩
    · exact absurd (hgt c) (h2 _ a1 a2)
    · have hw : w = T q := by
        rcases h6 _ a1 a2 (hgt c) with e | e
        · exact e.symm
        · exfalso
          rcases s3 w h1 h4 with ⟨r, r1, r2, r3⟩ | ⟨r1, r2⟩
          · have g := hno r r1 r2 (by rw [r3]; exact h5)
            rw [← r3] at e
            by_cases e2 : r = q
            · subst e2
              rcases e with e | e <;> omega
            · have g2 := s2 q r (by omega) r1 r2
              rcases e with e | e <;> rcases g2 with g2 | g2 <;> omega
          · have g2 := r2 q hq
            rcases e with e | e <;> rcases g2 with g2 | g2 <;> omega
      subst hw
      refine ⟨fun z => ?_, c, h2, h3⟩
      rw [h2] at z
      have e : (nI (T q)).toInt = T q := nI_toInt (by omega)
      rw [z, m2] at e
      omega
  · left
    refine ⟨?_, c⟩
    rcases h with ⟨h1, h2⟩ | ⟨w, h1, h2, h3, h4, h5, h6⟩
    · exact h1
    · exfalso
      rcases s3 w h1 h4 with ⟨r, r1, r2, r3⟩ | ⟨r1, r2⟩
      · have g := hno r r1 r2 (by rw [r3]; exact h5)
        omega
      · omega
end
section
variable {n : Nat} {kd ln lo hi vl : Nat → Int32} {gx gy sl bq : Int32}
theorem zAll_y (h : ¬ n = 0) : zAll kd ln lo hi vl n gx gy sl bq = zGt kd ln lo hi vl n gx gy sl bq 0 (zPw lo hi n) (0, zK0, zT0) := if_neg h
theorem zAll_srt (h : zOk n kd ln lo hi vl) (hn : ¬ n = 0) : zSrt (zPss kd ln lo hi n gx gy sl) (zKyy kd ln lo hi vl n gx gy bq) (zPw lo hi n) (zAll kd ln lo hi vl n gx gy sl bq).1 (zAll kd ln lo hi vl n gx gy sl bq).2.1 (zAll kd ln lo hi vl n gx gy sl bq).2.2 := by
  rw [zAll_y hn]
  have g := zSrt_fo (ps := zPss kd ln lo hi n gx gy sl) (ky := zKyy kd ln lo hi vl n gx gy bq) (c := zPw lo hi n) (a := 0) (st := (0, zK0, zT0)) zSrt_0
  rw [Nat.zero_add] at g
  exact g
theorem zWy_bd {p : Nat → Int32} : ∀ {m : Nat}, m ≤ 5 → zPok m p → zPok m vl → 0 ≤ (zWy vl p m).toInt ∧ (zWy vl p m).toInt ≤ 202 * (m : Int)
  | 0, _, _, _ => by
    show 0 ≤ (0 : Int32).toInt ∧ (0 : Int32).toInt ≤ 202 * ((0 : Nat) : Int)
    decide
  | m + 1, hm, hp, hv => by
    obtain ⟨a1, a2⟩ := zWy_bd (m := m) (by omega) (fun j hj => hp j (by omega)) (fun j hj => hv j (by omega))
    obtain ⟨p1, p2⟩ := hp m (by omega)
    obtain ⟨v1, v2⟩ := hv m (by omega)
    have z0 : (0 : Int32).toInt = 0 := by decide
    have e : (p m - vl m).toInt = (p m).toInt - (vl m).toInt := zsub (by omega) (by omega)
    have hb : 0 ≤ (zAbs (p m - vl m)).toInt ∧ (zAbs (p m - vl m)).toInt ≤ 202 := by
      unfold zAbs
      by_cases c : (0 : Int32) ≤ p m - vl m
      · rw [if_pos c]
        rw [zle, z0] at c
        omega
      · rw [if_neg c]
        rw [zle, z0] at c
        rw [zsub (by omega) (by omega)]
        omega
    show 0 ≤ (zWy vl p m + _).toInt ∧ (zWy vl p m + _).toInt ≤ _
    rw [zadd (by omega) (by omega)]
    omega
theorem zHk_nn {k : Nat} (h : k < 64) : 0 ≤ (zHk (nI k)).toInt := by
  have h2 : ∀ k < 64, 0 ≤ (zHk (nI k)).toInt := by decide +kernel
  exact h2 k h
theorem zSq_nn {a : Int64} (h1 : -3000000 ≤ a.toInt) (h2 : a.toInt ≤ 3000000) : (a * a).toInt = a.toInt * a.toInt ∧ 0 ≤ a.toInt * a.toInt ∧ a.toInt * a.toInt ≤ 9000000000000 := by
  have g := zprod_bd (a := a.toInt) (b := a.toInt) (A := 3000000) (B := 3000000) (by omega) (by omega) (by omega) (by omega)
  have g2 : 0 ≤ a.toInt * a.toInt := by
    rcases Int.le_total 0 a.toInt with c | c
    · exact Int.mul_nonneg c c
    · exact Int.mul_nonneg_of_nonpos_of_nonpos c c
  refine ⟨?_, g2, by omega⟩
  rw [Int64.toInt_mul]
  exact Int.bmod_eq_of_le_mul_two (by omega) (by omega)
theorem zFar_nn {x y : Int32} (hx : zB 2000000 x) (hy : zB 2000000 y) (hgx : zB 1000000 gx) (hgy : zB 1000000 gy) : 0 ≤ (zFar gx gy x y).toInt ∧ (zFar gx gy x y).toInt ≤ 18000000000000 := by
  have key : ∀ {x g : Int32}, zB 2000000 x → zB 1000000 g → -3000000 ≤ (x.toInt64 - g.toInt64).toInt ∧ (x.toInt64 - g.toInt64).toInt ≤ 3000000 := by
    intro x g ⟨a1, a2⟩ ⟨a3, a4⟩
    rw [Int64.toInt_sub, Int32.toInt_toInt64, Int32.toInt_toInt64]
    rw [Int.bmod_eq_of_le_mul_two (by omega) (by omega)]
    omega
  obtain ⟨a1, a2⟩ := key hx hgx
  obtain ⟨b1, b2⟩ := key hy hgy
  obtain ⟨c1, c2, c3⟩ := zSq_nn a1 a2
  obtain ⟨d1, d2, d3⟩ := zSq_nn b1 b2
  unfold zFar
  rw [Int64.toInt_add, c1, d1, Int.bmod_eq_of_le_mul_two (by omega) (by omega)]
  omega
theorem zKy_nn (h : zOk n kd ln lo hi vl) (hgx : zB 1000000 gx) (hgy : zB 1000000 gy) {p : Nat → Int32} (hp : zPok n p) : 0 ≤ (zKy kd ln vl n gx gy bq p).toInt := by
  unfold zKy
  split
  · exact (zFar_nn (zXb h.1 h.l hp) (zYb h.1 h.l hp) hgx hgy).1
  · split
    · rw [Int32.toInt_toInt64]
      exact (zWy_bd h.1 hp h.p).1
    · rw [Int32.toInt_toInt64]
      obtain ⟨k, hk, e⟩ := z63 (zH kd p n - zH kd vl n)
      rw [e]
      exact zHk_nn hk
theorem zKey_0 (h : zOk n kd ln lo hi vl) (hgx : zB 1000000 gx) (hgy : zB 1000000 gy) (k : Nat) : 0 ≤ (zKyy kd ln lo hi vl n gx gy bq k).toInt := zKy_nn h hgx hgy (zPk_p h k)
/-- the key as the law has it: below 0 where the pose doesn't reach -/
def zKl (kd ln lo hi vl : Nat → Int32) (n : Nat) (gx gy sl bq : Int32) (k : Nat) : Int64 := if zPss kd ln lo hi n gx gy sl k = true then zKyy kd ln lo hi vl n gx gy bq k else -1
theorem zKl_of {k : Nat} : (if zIn sl gx gy (zX kd ln (zPk lo hi n k) n) (zY kd ln (zPk lo hi n k) n) = 1 then zKy kd ln vl n gx gy bq (zPk lo hi n k) else -1) = zKl kd ln lo hi vl n gx gy sl bq k := by
  unfold zKl zPss zKyy
  simp only [decide_eq_true_eq]
theorem zKl_lt (h : zOk n kd ln lo hi vl) (hgx : zB 1000000 gx) (hgy : zB 1000000 gy) {k : Nat} : zKl kd ln lo hi vl n gx gy sl bq k < 0 ↔ ¬ zPss kd ln lo hi n gx gy sl k = true := by
  have z0 : (0 : Int64).toInt = 0 := by decide
  have g := zKey_0 h hgx hgy (bq := bq) k
  unfold zKl
  by_cases c : zPss kd ln lo hi n gx gy sl k = true
  · rw [if_pos c, Int64.lt_iff_toInt_lt, z0]
    exact ⟨fun z => by omega, fun z => absurd c z⟩
  · rw [if_neg c]
    exact ⟨fun _ => c, fun _ => by decide⟩
theorem zKl_t {k : Nat} (c : zPss kd ln lo hi n gx gy sl k = true) : zKl kd ln lo hi vl n gx gy sl bq k = zKyy kd ln lo hi vl n gx gy bq k := if_pos c
/-- how many of the first poses reach -/
def zCn (kd ln lo hi vl : Nat → Int32) (n : Nat) (gx gy sl bq : Int32) (k : Nat) : Nat := (zGt kd ln lo hi vl n gx gy sl bq 0 k (0, zK0, zT0)).1
theorem zCn_s (k : Nat) : zCn kd ln lo hi vl n gx gy sl bq (k + 1) = zCn kd ln lo hi vl n gx gy sl bq k + (if zPss kd ln lo hi n gx gy sl k = true then 1 else 0) := by
  unfold zCn
  show (zFo _ _ 0 (k + 1) _).1 = _
  rw [zFo_last, Nat.zero_add]
  unfold zStp
  split
  · rfl
  · rfl
theorem zCn_all (hn : ¬ n = 0) : zCn kd ln lo hi vl n gx gy sl 0 (zPw lo hi n) = (zAll kd ln lo hi vl n gx gy sl bq).1 := by
  rw [zAll_y hn]
  unfold zCn
  exact zFo_cnt rfl
theorem zCn_t {k : Nat} (h : zOk n kd ln lo hi vl) (hgx : zB 1000000 gx) (hgy : zB 1000000 gy) (c : 0 ≤ zKl kd ln lo hi vl n gx gy sl bq k) : nI (zCn kd ln lo hi vl n gx gy sl bq k) + 1 = nI (zCn kd ln lo hi vl n gx gy sl bq (k + 1)) := by
  have e : zPss kd ln lo hi n gx gy sl k = true := Classical.byContradiction (fun z => absurd ((zKl_lt h hgx hgy).mpr z) (Int64.not_lt.mpr c))
  rw [zCn_s, if_pos e, nI_succ]
theorem zCn_f {k : Nat} (h : zOk n kd ln lo hi vl) (hgx : zB 1000000 gx) (hgy : zB 1000000 gy) (c : ¬ 0 ≤ zKl kd ln lo hi vl n gx gy sl bq k) : nI (zCn kd ln lo hi vl n gx gy sl bq k) + 0 = nI (zCn kd ln lo hi vl n gx gy sl bq (k + 1)) := by
  have e : ¬ zPss kd ln lo hi n gx gy sl k = true := (zKl_lt h hgx hgy).mp (Int64.not_le.mp c)
  rw [zCn_s, if_neg e, Int32.add_zero, Nat.add_zero]
end
theorem zAr_copy {n : Nat} {A B kd ln lo hi vl : Nat → Int32} (h : zAr n A kd ln lo hi vl) (hn : n ≤ 5) (e : ∀ k, k < 25 → B k = A k) : zAr n B kd ln lo hi vl := fun k hk => by
  rw [e _ (show 5 * k < 25 by omega), e _ (show 5 * k + 1 < 25 by omega), e _ (show 5 * k + 2 < 25 by omega), e _ (show 5 * k + 3 < 25 by omega), e _ (show 5 * k + 4 < 25 by omega)]
  exact h k hk
section
variable {ky : Nat → Int64} {hd its bs : Int64} {lst wh : Int32} {i f q rk : Nat} {T : Nat → Nat}
theorem zGtr_1 (e : its = ky i) (c : its < hd) (g : zGtr hd lst ky i) : False := by
  rw [e, Int64.lt_iff_toInt_lt] at c
  rcases g with g | g <;> omega
theorem zGtr_2 (e : its = ky i) (c : its = hd) (c2 : ¬ lst < nI i) (hi : i < 2 ^ 31) (g : zGtr hd lst ky i) : False := by
  rw [zlt, nI_toInt hi] at c2
  have c : (ky i).toInt = hd.toInt := by rw [← e, c]
  rcases g with g | g <;> omega
theorem zGtr_a (e : its = ky i) (c1 : ¬ its < hd) (c2 : ¬ its = hd) : zGtr hd lst ky i := by
  rw [e, Int64.lt_iff_toInt_lt] at c1
  have c3 : ¬ (ky i).toInt = hd.toInt := fun z => c2 (e.trans (Int64.toInt_inj.mp z))
  exact Or.inl (by omega)
theorem zGtr_b (e : its = ky i) (c2 : its = hd) (c3 : lst < nI i) (hi : i < 2 ^ 31) : zGtr hd lst ky i := by
  rw [zlt, nI_toInt hi] at c3
  exact Or.inr ⟨by rw [← c2, e], c3⟩
theorem zGtr_3 (e : its = ky i) (c : bs ≤ its) : ¬ (ky i).toInt < bs.toInt := by
  rw [e, Int64.le_iff_toInt_le] at c
  omega
theorem zGtr_4 (e : its = ky i) (c : ¬ bs ≤ its) : (ky i).toInt < bs.toInt := by
  rw [e, Int64.le_iff_toInt_le] at c
  omega
theorem zSel_end (h : zSel ky f T (rk + 1) hd lst) : (if rk < f then nI (T rk) else -1) = lst := by
  rcases h with ⟨h1, -, -⟩ | ⟨q', h1, h2, h3, h4, h5⟩
  · omega
  · obtain rfl : rk = q' := by omega
    rw [if_pos h2, h5]
end
