/-! how far; moves; freedom; a step -/
def zFn (kd ln vl : Nat → Int32) (n : Nat) (gx gy : Int32) : Int64 := zFar gx gy (zX kd ln vl n) (zY kd ln vl n)
def zFw (kd ln vl : Nat → Int32) (n : Nat) (gx gy o ov : Int32) : Int64 := zFar gx gy (zX kd ln (zPo vl o ov) n) (zY kd ln (zPo vl o ov) n)
def zMx (kd ln vl : Nat → Int32) (n j : Nat) : Int32 := zX kd ln (zPo vl (nI j) (vl j + 1)) n - zX kd ln vl n
def zMy (kd ln vl : Nat → Int32) (n j : Nat) : Int32 := zY kd ln (zPo vl (nI j) (vl j + 1)) n - zY kd ln vl n
theorem zupd_ok {f g : Nat → Int32} {i : Nat} {x : Int32} (h : ∀ j, j < i → f j = g j) (hx : x = g i) : ∀ j, j < i + 1 → upd f i x j = g j := by
  intro j hj
  unfold upd
  split
  · next e => rw [e, hx]
  · exact h j (by omega)
/-- the move of x by one joint times that of y by the other, and so on, without its sign -/
def zCr (mx my : Nat → Int32) (i j : Nat) : Int64 := if 0 < (mx i).toInt64 * (my j).toInt64 - (my i).toInt64 * (mx j).toInt64 then (mx i).toInt64 * (my j).toInt64 - (my i).toInt64 * (mx j).toInt64 else -((mx i).toInt64 * (my j).toInt64 - (my i).toInt64 * (mx j).toInt64)
def zFr (P : Nat → Nat → Prop) (mx my : Nat → Int32) (g : Int64) : Prop := 0 ≤ g.toInt ∧ (∀ i j, P i j → (zCr mx my i j).toInt ≤ g.toInt) ∧ (g = 0 ∨ ∃ i j, P i j ∧ g = zCr mx my i j)
theorem zFr_0 {P : Nat → Nat → Prop} {mx my : Nat → Int32} (h : ∀ i j, ¬ P i j) : zFr P mx my 0 := ⟨by decide, fun i j hp => absurd hp (h i j), Or.inl rfl⟩
theorem zFr_iff {P P' : Nat → Nat → Prop} {mx my : Nat → Int32} {g : Int64} (h : ∀ i j, P i j ↔ P' i j) (hf : zFr P mx my g) : zFr P' mx my g := by
  obtain ⟨h1, h2, h3⟩ := hf
  refine ⟨h1, fun i j hp => h2 i j ((h i j).mpr hp), ?_⟩
  rcases h3 with h3 | ⟨i, j, h4, h5⟩
  · exact Or.inl h3
  · exact Or.inr ⟨i, j, (h i j).mp h4, h5⟩
theorem zFr_add {P P' : Nat → Nat → Prop} {mx my : Nat → Int32} {g x : Int64} {i j : Nat} (hf : zFr P mx my g) (hx : x = zCr mx my i j) (h : ∀ i' j', P' i' j' ↔ P i' j' ∨ (i' = i ∧ j' = j)) : zFr P' mx my (if x < g then g else x) := by
  obtain ⟨h1, h2, h3⟩ := hf
  by_cases hc : x < g
  · rw [if_pos hc]
    have hc2 : x.toInt < g.toInt := Int64.lt_iff_toInt_lt.mp hc
    refine ⟨h1, fun i' j' hp => ?_, ?_⟩
    · rcases (h i' j').mp hp with q | ⟨q1, q2⟩
      · exact h2 i' j' q
      · rw [q1, q2, ← hx]; omega
    · rcases h3 with h3 | ⟨i', j', h4, h5⟩
      · exact Or.inl h3
      · exact Or.inr ⟨i', j', (h i' j').mpr (Or.inl h4), h5⟩
  · rw [if_neg hc]
    have hc2 : ¬ x.toInt < g.toInt := fun q => hc (Int64.lt_iff_toInt_lt.mpr q)
    refine ⟨by omega, fun i' j' hp => ?_, Or.inr ⟨i, j, (h i j).mpr (Or.inr ⟨rfl, rfl⟩), hx⟩⟩
    rcases (h i' j').mp hp with q | ⟨q1, q2⟩
    · have := h2 i' j' q; omega
    · rw [q1, q2, ← hx]; omega
theorem zFr_one {P : Nat → Nat → Prop} {mx my : Nat → Int32} {g g' : Int64} (h : zFr P mx my g) (h' : zFr P mx my g') : g = g' := by
  obtain ⟨h1, h2, h3⟩ := h
  obtain ⟨h4, h5, h6⟩ := h'
  refine Int64.toInt_inj.mp ?_
  have z0 : (0 : Int64).toInt = 0 := by decide
  have a : g.toInt ≤ g'.toInt := by
    rcases h3 with e | ⟨i, j, hp, e⟩
    · rw [e, z0]; exact h4
    · rw [e]; exact h5 i j hp
  have b : g'.toInt ≤ g.toInt := by
    rcases h6 with e | ⟨i, j, hp, e⟩
    · rw [e, z0]; exact h1
    · rw [e]; exact h2 i j hp
  omega
theorem zFr_congr {P : Nat → Nat → Prop} {mx my mx' my' : Nat → Int32} {n : Nat} {g : Int64} (hx : ∀ j, j < n → mx j = mx' j) (hy : ∀ j, j < n → my j = my' j) (hP : ∀ i j, P i j → i < n ∧ j < n) (h : zFr P mx my g) : zFr P mx' my' g := by
  have e : ∀ i j, P i j → zCr mx my i j = zCr mx' my' i j := by
    intro i j hp
    obtain ⟨h1, h2⟩ := hP i j hp
    unfold zCr
    rw [hx i h1, hx j h2, hy i h1, hy j h2]
  obtain ⟨h1, h2, h3⟩ := h
  refine ⟨h1, fun i j hp => by rw [← e i j hp]; exact h2 i j hp, ?_⟩
  rcases h3 with h3 | ⟨i, j, h4, h5⟩
  · exact Or.inl h3
  · exact Or.inr ⟨i, j, h4, by rw [← e i j h4]; exact h5⟩
def zFree (kd ln vl : Nat → Int32) (n : Nat) (g : Int64) : Prop := zFr (fun i j => i < j ∧ j < n) (zMx kd ln vl n) (zMy kd ln vl n) g
/-- the same of the pair the other way round, as the reference takes it -/
theorem zCr_swap (mx my : Nat → Int32) (i j : Nat) : (if (mx i).toInt64 * (my j).toInt64 - (my i).toInt64 * (mx j).toInt64 < 0 then -((mx i).toInt64 * (my j).toInt64 - (my i).toInt64 * (mx j).toInt64) else (mx i).toInt64 * (my j).toInt64 - (my i).toInt64 * (mx j).toInt64) = zCr mx my j i := by
  unfold zCr
  have e : (mx i).toInt64 * (my j).toInt64 - (my i).toInt64 * (mx j).toInt64 = -((mx j).toInt64 * (my i).toInt64 - (my j).toInt64 * (mx i).toInt64) := by
    rw [Int64.neg_sub, Int64.mul_comm (my j).toInt64, Int64.mul_comm (mx j).toInt64]
  rw [e]
  generalize (mx j).toInt64 * (my i).toInt64 - (my j).toInt64 * (mx i).toInt64 = v
  have z0 : (0 : Int64).toInt = 0 := by decide
  simp only [Int64.lt_iff_toInt_lt, z0]
  by_cases hm : v.toInt = -9223372036854775808
  · have hv : v = -9223372036854775808 := Int64.toInt_inj.mp (by rw [hm]; decide)
    rw [hv]; decide
  · have h1 := Int64.le_toInt v
    have h2 := Int64.toInt_lt v
    have hn : (-v).toInt = -v.toInt := by
      rw [Int64.toInt_neg]; exact Int.bmod_eq_of_le_mul_two (by omega) (by omega)
    rw [hn, Int64.neg_neg]
    by_cases h3 : 0 < v.toInt
    · rw [if_pos h3, if_pos (by omega)]
    · rw [if_neg h3, if_neg (by omega)]
/-- one try of a step: a joint's value less (sd = -1) or more (sd = 1) by the stride -/
def zTry (kd ln lo hi vl : Nat → Int32) (n : Nat) (gx gy st : Int32) (f : Int64 × Int32 × Int32) (j : Nat) (sd : Int32) : Int64 × Int32 × Int32 :=
  if zFw kd ln vl n gx gy (nI j) (zHeldC (lo j) (hi j) (vl j + sd * st)) < f.1 then (zFw kd ln vl n gx gy (nI j) (zHeldC (lo j) (hi j) (vl j + sd * st)), nI j, zHeldC (lo j) (hi j) (vl j + sd * st)) else f
def zBst (kd ln lo hi vl : Nat → Int32) (n : Nat) (gx gy st : Int32) : Nat → Int64 × Int32 × Int32
  | 0 => (zFn kd ln vl n gx gy, -1, 0)
  | j + 1 => zTry kd ln lo hi vl n gx gy st (zTry kd ln lo hi vl n gx gy st (zBst kd ln lo hi vl n gx gy st j) j (-1)) j 1
def zGo (kd ln lo hi vl : Nat → Int32) (n : Nat) (gx gy st : Int32) : Prop := ¬ (zBst kd ln lo hi vl n gx gy st n).2.1 = -1
def zNx (kd ln lo hi vl : Nat → Int32) (n : Nat) (gx gy st : Int32) : Nat → Int32 := upd vl ((zBst kd ln lo hi vl n gx gy st n).2.1.toNatClampNeg) (zBst kd ln lo hi vl n gx gy st n).2.2
theorem zBst_ix (kd ln lo hi vl : Nat → Int32) (n : Nat) (gx gy st : Int32) : ∀ k, (zBst kd ln lo hi vl n gx gy st k).2.1 = -1 ∨ ∃ j, j < k ∧ (zBst kd ln lo hi vl n gx gy st k).2.1 = nI j ∧ ∃ v, (zBst kd ln lo hi vl n gx gy st k).2.2 = zHeldC (lo j) (hi j) v := by
  have key : ∀ (f : Int64 × Int32 × Int32) (k : Nat) (sd : Int32), (f.2.1 = -1 ∨ ∃ j, j < k + 1 ∧ f.2.1 = nI j ∧ ∃ v, f.2.2 = zHeldC (lo j) (hi j) v) → ((zTry kd ln lo hi vl n gx gy st f k sd).2.1 = -1 ∨ ∃ j, j < k + 1 ∧ (zTry kd ln lo hi vl n gx gy st f k sd).2.1 = nI j ∧ ∃ v, (zTry kd ln lo hi vl n gx gy st f k sd).2.2 = zHeldC (lo j) (hi j) v) := by
    intro f k sd h
    unfold zTry
    split
    · exact Or.inr ⟨k, by omega, rfl, _, rfl⟩
    · exact h
  intro k
  induction k with
  | zero => exact Or.inl rfl
  | succ k ih =>
    refine key _ k 1 (key _ k (-1) ?_)
    rcases ih with h | ⟨j, h1, h2⟩
    · exact Or.inl h
    · exact Or.inr ⟨j, by omega, h2⟩
def zHin (kd ln lo hi vl : Nat → Int32) (n : Nat) (gx gy : Int32) : Nat → Nat → Int32
  | 0, _ => -1
  | k + 1, i => if (vl i = hi i ∧ zFw kd ln vl n gx gy (nI i) (vl i + 1) < zFn kd ln vl n gx gy) ∨ (vl i = lo i ∧ zFw kd ln vl n gx gy (nI i) (vl i - 1) < zFn kd ln vl n gx gy) then nI i else zHin kd ln lo hi vl n gx gy k (i + 1)
theorem zHin_t {kd ln lo hi vl : Nat → Int32} {n : Nat} {gx gy : Int32} {i : Nat} (hi' : i < n) (h : (vl i = hi i ∧ zFw kd ln vl n gx gy (nI i) (vl i + 1) < zFn kd ln vl n gx gy) ∨ (vl i = lo i ∧ zFw kd ln vl n gx gy (nI i) (vl i - 1) < zFn kd ln vl n gx gy)) : zHin kd ln lo hi vl n gx gy (n - i) i = nI i := by
  have e : n - i = (n - (i + 1)) + 1 := by omega
  rw [e]
  show (if _ then _ else _) = _
  rw [if_pos h]
theorem zHin_f {kd ln lo hi vl : Nat → Int32} {n : Nat} {gx gy : Int32} {i : Nat} (hi' : i < n) (h : ¬ ((vl i = hi i ∧ zFw kd ln vl n gx gy (nI i) (vl i + 1) < zFn kd ln vl n gx gy) ∨ (vl i = lo i ∧ zFw kd ln vl n gx gy (nI i) (vl i - 1) < zFn kd ln vl n gx gy))) : zHin kd ln lo hi vl n gx gy (n - i) i = zHin kd ln lo hi vl n gx gy (n - (i + 1)) (i + 1) := by
  have e : n - i = (n - (i + 1)) + 1 := by omega
  rw [e]
  show (if _ then _ else _) = _
  rw [if_neg h]
