/-! the state of an arm, and what follows of it -/
def zOk (n : Nat) (kd ln lo hi vl : Nat → Int32) : Prop := n ≤ 5 ∧ ∀ j, j < n → (0 ≤ (ln j).toInt ∧ (ln j).toInt ≤ 200) ∧ (-32 ≤ (lo j).toInt ∧ (lo j).toInt ≤ (vl j).toInt ∧ (vl j).toInt ≤ (hi j).toInt ∧ (hi j).toInt ≤ 100) ∧ (¬ kd j = 0 → 0 ≤ (lo j).toInt)
section
variable {n : Nat} {kd ln lo hi vl : Nat → Int32}
theorem zOk.l (h : zOk n kd ln lo hi vl) : zLok n ln := fun j hj => (h.2 j hj).1
theorem zOk.p (h : zOk n kd ln lo hi vl) : zPok n vl := fun j hj => by
  obtain ⟨-, ⟨h1, h2, h3, h4⟩, -⟩ := h.2 j hj
  constructor <;> omega
theorem zOk.lh (h : zOk n kd ln lo hi vl) (j : Nat) (hj : j < n) : lo j ≤ hi j := by
  obtain ⟨-, ⟨h1, h2, h3, h4⟩, -⟩ := h.2 j hj
  rw [zle]; omega
theorem zOk.po (h : zOk n kd ln lo hi vl) {o ov : Int32} (h1 : -101 ≤ ov.toInt) (h2 : ov.toInt ≤ 101) : zPok n (zPo vl o ov) := fun j hj => by
  unfold zPo
  split
  · exact ⟨h1, h2⟩
  · exact h.p j hj
theorem zOk.inc (h : zOk n kd ln lo hi vl) {j : Nat} (hj : j < n) : -101 ≤ (vl j + 1).toInt ∧ (vl j + 1).toInt ≤ 101 := by
  obtain ⟨-, ⟨h1, h2, h3, h4⟩, -⟩ := h.2 j hj
  have z1 : (1 : Int32).toInt = 1 := by decide
  rw [zadd (by omega) (by omega)]; omega
theorem zOk.dec (h : zOk n kd ln lo hi vl) {j : Nat} (hj : j < n) : -101 ≤ (vl j - 1).toInt ∧ (vl j - 1).toInt ≤ 101 := by
  obtain ⟨-, ⟨h1, h2, h3, h4⟩, -⟩ := h.2 j hj
  have z1 : (1 : Int32).toInt = 1 := by decide
  rw [zsub (by omega) (by omega)]; omega
theorem zOk.held (h : zOk n kd ln lo hi vl) {j : Nat} (hj : j < n) (v : Int32) : -101 ≤ (zHeldC (lo j) (hi j) v).toInt ∧ (zHeldC (lo j) (hi j) v).toInt ≤ 101 := by
  obtain ⟨a, b⟩ := zHeld_in (v := v) (h.lh j hj)
  obtain ⟨-, ⟨h1, h2, h3, h4⟩, -⟩ := h.2 j hj
  rw [zle] at a b
  omega
theorem zOk.upd (h : zOk n kd ln lo hi vl) {j : Nat} {v : Int32} (h1 : lo j ≤ v) (h2 : v ≤ hi j) : zOk n kd ln lo hi (upd vl j v) := by
  refine ⟨h.1, fun i hi' => ?_⟩
  obtain ⟨a, ⟨b1, b2, b3, b4⟩, c⟩ := h.2 i hi'
  refine ⟨a, ?_, c⟩
  by_cases e : i = j
  · subst e
    rw [pk_us]
    rw [zle] at h1 h2
    exact ⟨b1, h1, h2, b4⟩
  · rw [pk_un e]; exact ⟨b1, b2, b3, b4⟩
theorem zOk.nx (h : zOk n kd ln lo hi vl) {gx gy st : Int32} (hb : ¬ (zBst kd ln lo hi vl n gx gy st n).2.1 = -1) : zOk n kd ln lo hi (zNx kd ln lo hi vl n gx gy st) := by
  obtain ⟨j, hj, e, v, ev⟩ := (zBst_ix kd ln lo hi vl n gx gy st n).resolve_left hb
  have hn := h.1
  unfold zNx
  rw [e, ev, nI_clamp (by omega)]
  exact h.upd (zHeld_in (h.lh j hj)).1 (zHeld_in (h.lh j hj)).2
theorem zOk.inn (h : zOk n kd ln lo hi vl) {gx gy st : Int32} : ∀ k, zOk n kd ln lo hi (zInn kd ln lo hi n gx gy st k vl).2 := by
  intro k
  induction k generalizing vl with
  | zero => exact h
  | succ k ih =>
    show zOk n kd ln lo hi (if _ then _ else _ : Nat × (Nat → Int32)).2
    split
    · exact h
    · next hb => exact ih (h.nx hb)
theorem zOk.rn (h : zOk n kd ln lo hi vl) {gx gy : Int32} : ∀ (ss : List Int32) k, zOk n kd ln lo hi (zRn kd ln lo hi n gx gy ss k vl).2 := by
  intro ss
  induction ss generalizing vl with
  | nil => exact fun _ => h
  | cons s ss ih => exact fun k => ih (h.inn k) _
end
theorem zJ_pred {n : Nat} (hn : n ≤ 5) (j : Int32) : (0 ≤ j ∧ j ≤ nI n - 1) ↔ zJ n j := by
  have h1 : (nI n).toInt = n := nI_toInt (by omega)
  have z1 : (1 : Int32).toInt = 1 := by decide
  have h2 : (nI n - 1).toInt = n - 1 := by rw [zsub (by omega) (by omega), h1, z1]
  have z0 : (0 : Int32).toInt = 0 := by decide
  simp only [zJ, zle, zlt, h1, h2, z0]
  omega
/-- the heading behind a joint that turns, and behind one that slides -/
theorem zHt {kd p : Nat → Int32} {i : Nat} (h : kd i = 0) : (zH kd p i + p i) &&& 63 = zH kd p (i + 1) := by
  show _ = (zH kd p i + zTurn kd i (p i)) &&& 63
  unfold zTurn
  rw [if_pos h]
theorem zHs1 {kd p : Nat → Int32} {i : Nat} (h : ¬ kd i = 0) : zH kd p i = zH kd p (i + 1) := by
  show _ = (zH kd p i + zTurn kd i (p i)) &&& 63
  unfold zTurn
  rw [if_neg h, Int32.add_zero, zH_63]
theorem zDt {kd ln : Nat → Int32} {i : Nat} {v : Int32} (h : kd i = 0) : ln i = zDist kd ln i v := by
  unfold zDist; rw [if_pos h]
theorem zDs {kd ln : Nat → Int32} {i : Nat} {v : Int32} (h : ¬ kd i = 0) : ln i + v = zDist kd ln i v := by
  unfold zDist; rw [if_neg h]
theorem zH_sm {kd p : Nat → Int32} {n i : Nat} (hp : zPok n p) (hi : i < n) : -200 ≤ (zH kd p i + p i).toInt ∧ (zH kd p i + p i).toInt < 200 := by
  obtain ⟨k, hk, e⟩ := zH_nI kd p i
  have h1 := hp i hi
  have h2 : (nI k).toInt = k := nI_toInt (by omega)
  rw [e, zadd (by omega) (by omega)]
  omega
theorem zpo_upd {vl pq : Nat → Int32} {n j : Nat} {v : Int32} (hn : n ≤ 5) (hj : j < n) (h : ∀ i, i < n → pq i = vl i) : ∀ i, i < n → upd pq j v i = zPo vl (nI j) v i := by
  intro i hi
  unfold zPo
  by_cases e : i = j
  · subst e; rw [pk_us, if_pos rfl]
  · rw [pk_un e, if_neg (fun q => e ((nI_eq (by omega) (by omega)).mp q)), h i hi]
theorem zif_iff {P Q : Prop} [Decidable P] [Decidable Q] (h : P ↔ Q) : (if P then (1 : Int32) else 0) = if Q then 1 else 0 := by
  by_cases hp : P
  · rw [if_pos hp, if_pos (h.mp hp)]
  · rw [if_neg hp, if_neg (fun q => hp (h.mpr q))]
theorem zGl_b {x y : Int32} (h : zGl x y) : zB 1000000 x ∧ zB 1000000 y := by
  obtain ⟨h1, h2, h3, h4⟩ := h
  rw [zle] at h1 h2 h3 h4
  have z1 : (-1000000 : Int32).toInt = -1000000 := by decide
  have z2 : (1000000 : Int32).toInt = 1000000 := by decide
  refine ⟨⟨?_, ?_⟩, ⟨?_, ?_⟩⟩ <;> omega
theorem zFr_max {P P' : Nat → Nat → Prop} {mx my : Nat → Int32} {g x g' : Int64} {i j : Nat} (hf : zFr P mx my g) (hx : x = zCr mx my i j) (h : ∀ i' j', P' i' j' ↔ P i' j' ∨ (i' = i ∧ j' = j)) (hg : (g' = g ∧ x ≤ g) ∨ (g' = x ∧ ¬ x ≤ g)) : zFr P' mx my g' := by
  have h1 := zFr_add hf hx h
  rcases hg with ⟨e, c⟩ | ⟨e, c⟩
  · by_cases hc : x < g
    · rw [if_pos hc] at h1; rw [e]; exact h1
    · rw [if_neg hc] at h1
      have : x = g := by
        refine Int64.toInt_inj.mp ?_
        rw [Int64.le_iff_toInt_le] at c
        rw [Int64.lt_iff_toInt_lt] at hc
        omega
      rw [e, ← this]; exact h1
  · have hc : ¬ x < g := by
      rw [Int64.le_iff_toInt_le] at c
      rw [Int64.lt_iff_toInt_lt]
      omega
    rw [if_neg hc] at h1; rw [e]; exact h1
theorem zRn_end {kd ln lo hi v : Nat → Int32} {n d mm : Nat} {gx gy : Int32} {ss : List Int32} {T : Nat × (Nat → Int32)} (hd : mm ≤ d) (hz : (d + (zRn kd ln lo hi n gx gy ss (mm - d) v).1, (zRn kd ln lo hi n gx gy ss (mm - d) v).2) = T) : (d, v) = T := by
  have e : mm - d = 0 := by omega
  rw [e, zRn_0] at hz; exact hz
theorem znm1 {i : Nat} (h : i < 6) : ¬ nI i = -1 := by
  have h2 : ∀ i < 6, ¬ nI i = -1 := by decide +kernel
  exact h2 i h
theorem zk01 {k : Int32} : (0 ≤ k ∧ k ≤ 1) ↔ (k = 0 ∨ k = 1) := by
  have z0 : (0 : Int32).toInt = 0 := by decide
  have z1 : (1 : Int32).toInt = 1 := by decide
  constructor
  · rintro ⟨h1, h2⟩
    rw [zle] at h1 h2
    rcases (show k.toInt = 0 ∨ k.toInt = 1 by omega) with h | h
    · exact Or.inl (zext (by rw [h, z0]))
    · exact Or.inr (zext (by rw [h, z1]))
  · rintro (h | h) <;> rw [h] <;> decide
