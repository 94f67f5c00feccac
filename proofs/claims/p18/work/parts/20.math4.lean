/-! what is asked of arguments; all steps -/
abbrev zJ (n : Nat) (j : Int32) : Prop := 0 ≤ j ∧ j < nI n
theorem zJ_of {n : Nat} {j : Int32} (hn : n ≤ 5) (h : zJ n j) : ∃ jj : Nat, jj < n ∧ j = nI jj := by
  obtain ⟨jj, h1, h2⟩ := nI_of (x := j) (Int32.not_lt.mpr h.1)
  have h3 := h.2
  rw [h2, nI_ltI h1 (by omega)] at h3
  exact ⟨jj, h3, h2⟩
def zTp (w x y h : Int32) : Int32 := if w = 0 then x else if w = 1 then y else h
def zGd (k len lo hi : Int32) : Prop := (k = 0 ∨ k = 1) ∧ (0 ≤ len ∧ len ≤ 200) ∧ ((if k = 0 then (-32) else 0) ≤ lo ∧ hi ≤ (if k = 0 then 32 else 100) ∧ lo ≤ hi)
def zGl (x y : Int32) : Prop := (-1000000) ≤ x ∧ x ≤ 1000000 ∧ (-1000000) ≤ y ∧ y ≤ 1000000
def zInn (kd ln lo hi : Nat → Int32) (n : Nat) (gx gy st : Int32) : Nat → (Nat → Int32) → Nat × (Nat → Int32)
  | 0, vl => (0, vl)
  | k + 1, vl => if (zBst kd ln lo hi vl n gx gy st n).2.1 = -1 then (0, vl) else ((zInn kd ln lo hi n gx gy st k (zNx kd ln lo hi vl n gx gy st)).1 + 1, (zInn kd ln lo hi n gx gy st k (zNx kd ln lo hi vl n gx gy st)).2)
/-- steps with the strides of a list, k at most: how many, and the pose -/
def zRn (kd ln lo hi : Nat → Int32) (n : Nat) (gx gy : Int32) : List Int32 → Nat → (Nat → Int32) → Nat × (Nat → Int32)
  | [], _, vl => (0, vl)
  | s :: ss, k, vl => ((zInn kd ln lo hi n gx gy s k vl).1 + (zRn kd ln lo hi n gx gy ss (k - (zInn kd ln lo hi n gx gy s k vl).1) (zInn kd ln lo hi n gx gy s k vl).2).1, (zRn kd ln lo hi n gx gy ss (k - (zInn kd ln lo hi n gx gy s k vl).1) (zInn kd ln lo hi n gx gy s k vl).2).2)
section
variable {kd ln lo hi vl : Nat → Int32} {n : Nat} {gx gy : Int32}
theorem zRn_0 (ss : List Int32) : zRn kd ln lo hi n gx gy ss 0 vl = (0, vl) := by
  induction ss with
  | nil => rfl
  | cons s ss ih =>
    show ((0 : Nat) + (zRn kd ln lo hi n gx gy ss (0 - 0) vl).1, (zRn kd ln lo hi n gx gy ss (0 - 0) vl).2) = _
    rw [Nat.sub_self, ih]
    rfl
theorem zRn_no {s : Int32} {ss : List Int32} {k : Nat} (h : (zBst kd ln lo hi vl n gx gy s n).2.1 = -1) : zRn kd ln lo hi n gx gy (s :: ss) k vl = zRn kd ln lo hi n gx gy ss k vl := by
  have e : zInn kd ln lo hi n gx gy s k vl = (0, vl) := by
    cases k with
    | zero => rfl
    | succ k => show (if _ then _ else _) = _; rw [if_pos h]
  show ((zInn kd ln lo hi n gx gy s k vl).1 + _, _) = _
  rw [e]
  show ((0 : Nat) + (zRn kd ln lo hi n gx gy ss (k - 0) vl).1, (zRn kd ln lo hi n gx gy ss (k - 0) vl).2) = _
  rw [Nat.sub_zero, Nat.zero_add]
theorem zRn_go {s : Int32} {ss : List Int32} {k : Nat} (h : ¬ (zBst kd ln lo hi vl n gx gy s n).2.1 = -1) : zRn kd ln lo hi n gx gy (s :: ss) (k + 1) vl = ((zRn kd ln lo hi n gx gy (s :: ss) k (zNx kd ln lo hi vl n gx gy s)).1 + 1, (zRn kd ln lo hi n gx gy (s :: ss) k (zNx kd ln lo hi vl n gx gy s)).2) := by
  have e : zInn kd ln lo hi n gx gy s (k + 1) vl = ((zInn kd ln lo hi n gx gy s k (zNx kd ln lo hi vl n gx gy s)).1 + 1, (zInn kd ln lo hi n gx gy s k (zNx kd ln lo hi vl n gx gy s)).2) := by
    show (if _ then _ else _) = _; rw [if_neg h]
  show ((zInn kd ln lo hi n gx gy s (k + 1) vl).1 + _, _) = _
  rw [e]
  show (_ + 1 + (zRn kd ln lo hi n gx gy ss (k + 1 - (_ + 1)) _).1, (zRn kd ln lo hi n gx gy ss (k + 1 - (_ + 1)) _).2) = (_ + (zRn kd ln lo hi n gx gy ss (k - _) _).1 + 1, _)
  rw [Nat.add_sub_add_right, Nat.add_right_comm]
  rfl
end
/-- the strides -/
def zStr : List Int32 := [8, 4, 2, 1]
def zRun (kd ln lo hi vl : Nat → Int32) (n : Nat) (gx gy : Int32) (k : Nat) : Nat × (Nat → Int32) := zRn kd ln lo hi n gx gy zStr k vl
theorem zMv_eq {w x y h x' y' h' : Int32} (hw : 0 ≤ w ∧ w ≤ 1) : (if w = 0 then x' else if w = 1 then y' else h') - (if w = 0 then x else if w = 1 then y else h) = if w = 0 then x' - x else y' - y := by
  by_cases h0 : w = 0
  · rw [if_pos h0, if_pos h0, if_pos h0]
  · have h1 : w = 1 := by
      obtain ⟨a, b⟩ := hw
      rw [zle] at a b
      refine zext ?_
      have z0 : (0 : Int32).toInt = 0 := by decide
      have z1 : (1 : Int32).toInt = 1 := by decide
      have : ¬ w.toInt = 0 := fun e => h0 (zext (by rw [e, z0]))
      omega
    rw [if_neg h0, if_neg h0, if_neg h0, if_pos h1, if_pos h1]
theorem zif_t {P : Prop} [Decidable P] (h : (if P then (0 : Int32) else 1) = 0) : P := by
  by_cases hp : P
  · exact hp
  · rw [if_neg hp] at h; exact absurd h (by decide)
theorem zif_f {P : Prop} [Decidable P] (h : ¬ (if P then (0 : Int32) else 1) = 0) : ¬ P := fun hp => h (if_pos hp)
theorem zif_0 {P : Prop} [Decidable P] (h : (if P then (1 : Int32) else 0) = 0) : ¬ P := by
  intro hp
  rw [if_pos hp] at h; exact absurd h (by decide)
theorem zif_1 {P : Prop} [Decidable P] (h : ¬ (if P then (1 : Int32) else 0) = 0) : P := by
  by_cases hp : P
  · exact hp
  · exact absurd (if_neg hp) h
theorem zmost {x : Int32} (h : 1 ≤ x ∧ x ≤ 200) : ∃ k : Nat, 1 ≤ k ∧ k ≤ 200 ∧ x = nI k := by
  obtain ⟨h1, h2⟩ := h
  rw [zle] at h1 h2
  have z1 : (1 : Int32).toInt = 1 := by decide
  have z2 : (200 : Int32).toInt = 200 := by decide
  have h0 : ¬ x < 0 := by
    rw [zlt]; have z0 : (0 : Int32).toInt = 0 := by decide
    omega
  obtain ⟨k, h3, h4⟩ := nI_of h0
  have h5 : (nI k).toInt = k := nI_toInt h3
  rw [h4, h5] at h1 h2
  exact ⟨k, by omega, by omega, h4⟩
section
variable {kd ln lo hi v : Nat → Int32} {n d mm : Nat} {gx gy s : Int32} {ss : List Int32} {T : Nat × (Nat → Int32)}
theorem zRn_step (hd : d < mm) (hb : ¬ (zBst kd ln lo hi v n gx gy s n).2.1 = -1) (hz : (d + (zRn kd ln lo hi n gx gy (s :: ss) (mm - d) v).1, (zRn kd ln lo hi n gx gy (s :: ss) (mm - d) v).2) = T) : (d + 1 + (zRn kd ln lo hi n gx gy (s :: ss) (mm - (d + 1)) (zNx kd ln lo hi v n gx gy s)).1, (zRn kd ln lo hi n gx gy (s :: ss) (mm - (d + 1)) (zNx kd ln lo hi v n gx gy s)).2) = T := by
  have e : mm - d = mm - (d + 1) + 1 := by omega
  rw [e, zRn_go hb] at hz
  rw [← hz]
  refine Prod.ext ?_ rfl
  show d + 1 + _ = d + (_ + 1)
  omega
theorem zRn_skip (hb : (zBst kd ln lo hi v n gx gy s n).2.1 = -1) (hz : (d + (zRn kd ln lo hi n gx gy (s :: ss) (mm - d) v).1, (zRn kd ln lo hi n gx gy (s :: ss) (mm - d) v).2) = T) : (d + (zRn kd ln lo hi n gx gy ss (mm - d) v).1, (zRn kd ln lo hi n gx gy ss (mm - d) v).2) = T := by
  rw [zRn_no hb] at hz; exact hz
theorem zRn_full (hd : mm ≤ d) (hz : (d + (zRn kd ln lo hi n gx gy (s :: ss) (mm - d) v).1, (zRn kd ln lo hi n gx gy (s :: ss) (mm - d) v).2) = T) : (d + (zRn kd ln lo hi n gx gy ss (mm - d) v).1, (zRn kd ln lo hi n gx gy ss (mm - d) v).2) = T := by
  have e : mm - d = 0 := by omega
  rw [e, zRn_0] at hz ⊢; exact hz
end
