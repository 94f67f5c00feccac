/-! what is asked of arguments; all steps -/
def zJ (n : Nat) (j : Int32) : Prop := 0 ≤ j ∧ j < nI n
theorem zJ_of {n : Nat} {j : Int32} (hn : n ≤ 5) (h : zJ n j) : ∃ jj : Nat, jj < n ∧ j = nI jj := by
  obtain ⟨jj, h1, h2⟩ := nI_of (x := j) (Int32.not_lt.mpr h.1)
  have h3 := h.2
  rw [h2, nI_ltI h1 (by omega)] at h3
  exact ⟨jj, h3, h2⟩
def zTp (w x y h : Int32) : Int32 := if w = 0 then x else if w = 1 then y else h
def zGd (k len lo hi : Int32) : Prop := (k = 0 ∨ k = 1) ∧ (0 ≤ len ∧ len ≤ 200) ∧ ((if k = 0 then (-32) else 0) ≤ lo ∧ hi ≤ (if k = 0 then 32 else 100) ∧ lo ≤ hi)
def zGl (x y : Int32) : Prop := (-1000000) ≤ x ∧ x ≤ 1000000 ∧ (-1000000) ≤ y ∧ y ≤ 1000000
def zInn (kd ln lo hi : Nat → Int32) (n : Nat) (gx gy st : Int32) : Nat → (Nat → Int32) → Nat × (Nat → Int32)
  | 0, vl => (0, vl)
  | k + 1, vl => if (zBst kd ln lo hi vl n gx gy st n).2.1 = -1 then (0, vl) else ((zInn kd ln lo hi n gx gy st k (zNx kd ln lo hi vl n gx gy st)).1 + 1, (zInn kd ln lo hi n gx gy st k (zNx kd ln lo hi vl n gx gy st)).2)
/-- steps with the strides of a list, k at most: how many, and the pose -/
def zRn (kd ln lo hi : Nat → Int32) (n : Nat) (gx gy : Int32) : List Int32 → Nat → (Nat → Int32) → Nat × (Nat → Int32)
  | [], _, vl => (0, vl)
  | s :: ss, k, vl => ((zInn kd ln lo hi n gx gy s k vl).1 + (zRn kd ln lo hi n gx gy ss (k - (zInn kd ln lo hi n gx gy s k vl).1) (zInn kd ln lo hi n gx gy s k vl).2).1, (zRn kd ln lo hi n gx gy ss (k - (zInn kd ln lo hi n gx gy s k vl).1) (zInn kd ln lo hi n gx gy s k vl).2).2)
section
variable {kd ln lo hi vl : Nat → Int32} {n : Nat} {gx gy : Int32}
theorem zRn_0 (ss : List Int32) : zRn kd ln lo hi n gx gy ss 0 vl = (0, vl) := by
  induction ss with
  | nil => rfl
  | cons s ss ih =>
    show ((0 : Nat) + (zRn kd ln lo hi n gx gy ss (0 - 0) vl).1, (zRn kd ln lo hi n gx gy ss (0 - 0) vl).2) = _
    rw [Nat.sub_self, ih]
    rfl
theorem zRn_no {s : Int32} {ss : List Int32} {k : Nat} (h : (zBst kd ln lo hi vl n gx gy s n).2.1 = -1) : zRn kd ln lo hi n gx gy (s :: ss) k vl = zRn kd ln lo hi n gx gy ss k vl := by
  have e : zInn kd ln lo hi n gx gy s k vl = (0, vl) := by
    cases k with
    | zero => rfl
    | succ k => show (if _ then _ else _) = _; rw [if_pos h]
  show ((zInn kd ln lo hi n gx gy s k vl).1 + _, _) = _
  rw [e]
  show ((0 : Nat) + (zRn kd ln lo hi n gx gy ss (k - 0) vl).1, (zRn kd ln lo hi n gx gy ss (k - 0) vl).2) = _
  rw [Nat.sub_zero, Nat.zero_add]
theorem zRn_go {s : Int32} {ss : List Int32} {k : Nat} (h : ¬ (zBst kd ln lo hi vl n gx gy s n).2.1 = -1) : zRn kd ln lo hi n gx gy (s :: ss) (k + 1) vl = ((zRn kd ln lo hi n gx gy (s :: ss) k (zNx kd ln lo hi vl n gx gy s)).1 + 1, (zRn kd ln lo hi n gx gy (s :: ss) k (zNx kd ln lo hi vl n gx gy s)).2) := by
  have e : zInn kd ln lo hi n gx gy s (k + 1) vl = ((zInn kd ln lo hi n gx gy s k (zNx kd ln lo hi vl n gx gy s)).1 + 1, (zInn kd ln lo hi n gx gy s k (zNx kd ln lo hi vl n gx gy s)).2) := by
    show (if _ then _ else _) = _; rw [if_neg h]
  show ((zInn kd ln lo hi n gx gy s (k + 1) vl).1 + _, _) = _
  rw [e]
  show (_ + 1 + (zRn kd ln lo hi n gx gy ss (k + 1 - (_ + 1)) _).1, (zRn kd ln lo hi n gx gy ss (k + 1 - (_ + 1)) _).2) = (_ + (zRn kd ln lo hi n gx gy ss (k - _) _).1 + 1, _)
  rw [Nat.add_sub_add_right, Nat.add_right_comm]
  rfl
end
/-- the strides -/
def zStr : List Int32 := [8, 4, 2, 1]
def zRun (kd ln lo hi vl : Nat → Int32) (n : Nat) (gx gy : Int32) (k : Nat) : Nat × (Nat → Int32) := zRn kd ln lo hi n gx gy zStr k vl
theorem zMv_eq {w x y h x' y' h' : Int32} (hw : 0 ≤ w ∧ w ≤ 1) : (if w = 0 then x' else if w = 1 then y' else h') - (if w = 0 then x else if w = 1 then y else h) = if w = 0 then x' - x else y' - y := by
  by_cases h0 : w = 0
  · rw [if_pos h0, if_pos h0, if_pos h0]
  · have h1 : w = 1 := by
      obtain ⟨a, b⟩ := hw
      rw [zle] at a b
      refine zext ?_
      have z0 : (0 : Int32).toInt = 0 := by decide
      have z1 : (1 : Int32).toInt = 1 := by decide
      have : ¬ w.toInt = 0 := fun e => h0 (zext (by rw [e, z0]))
      omega
    rw [if_neg h0, if_neg h0, if_neg h0, if_pos h1, if_pos h1]
