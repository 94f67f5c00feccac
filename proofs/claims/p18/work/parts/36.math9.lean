/-! all branches, ranked -/
def zK0 : Nat → Int64 := fun _ => 0
def zT0 : Nat → Nat := fun _ => 0
def zAll (kd ln lo hi vl : Nat → Int32) (n : Nat) (gx gy sl bq : Int32) : zRs := if n = 0 then (0, zK0, zT0) else zGt kd ln lo hi vl n gx gy sl bq 0 (zPw lo hi n) (0, zK0, zT0)
def zL0 (xf yf hf wf : Nat → Int32) : Prop := xf 0 = 0 ∧ yf 0 = 0 ∧ hf 0 = 0 ∧ wf 0 = 0
section
variable {n : Nat} {kd ln lo hi vl po xf yf hf wf : Nat → Int32} {sl gx gy bq : Int32}
theorem zLd_0 (h : zL0 xf yf hf wf) : zLd kd ln vl po xf yf hf wf 0 := h
theorem zAll_z : zAll kd ln lo hi vl 0 gx gy sl bq = (0, zK0, zT0) := rfl
theorem zAll_s (h : ¬ n = 0) : zGt kd ln lo hi vl n gx gy sl bq (0 * zMs lo hi (n - 0) 0) (zMs lo hi (n - 0) 0) (0, zK0, zT0) = zAll kd ln lo hi vl n gx gy sl bq := by
  unfold zAll
  rw [if_neg h, Nat.zero_mul, Nat.sub_zero, zMs_0]
theorem zAll_n (h : ¬ n = 0) : zGt kd ln lo hi vl n gx gy sl bq 0 (zPw lo hi n) (0, zK0, zT0) = zAll kd ln lo hi vl n gx gy sl bq := by
  unfold zAll
  rw [if_neg h]
theorem zAll_le : (zAll kd ln lo hi vl n gx gy sl bq).1 ≤ zPw lo hi n := by
  unfold zAll
  split
  · exact Nat.zero_le _
  · have h : (zGt kd ln lo hi vl n gx gy sl bq 0 (zPw lo hi n) (0, zK0, zT0)).1 ≤ 0 + zPw lo hi n := zFo_le
    omega
theorem zAll_cnt (bq' : Int32) : (zAll kd ln lo hi vl n gx gy sl bq).1 = (zAll kd ln lo hi vl n gx gy sl bq').1 := by
  unfold zAll
  split
  · rfl
  · exact zFo_cnt rfl
theorem zPw_le (h : zOk n kd ln lo hi vl) : ∀ j, j ≤ n → zPw lo hi j ≤ 133 ^ j
  | 0, _ => Nat.le_refl 1
  | j + 1, hj => by
    have h1 := zPw_le h j (by omega)
    have h2 := (zWd_eq h (j := j) (by omega)).2.2
    rw [Nat.pow_succ]
    exact Nat.mul_le_mul h1 h2
theorem zPw_bd (h : zOk n kd ln lo hi vl) : zPw lo hi n < 2 ^ 40 := by
  have h1 := zPw_le h n (Nat.le_refl n)
  have h2 : 133 ^ n ≤ 133 ^ 5 := Nat.pow_le_pow_right (by decide) h.1
  have h3 : (133 : Nat) ^ 5 < 2 ^ 40 := by decide
  omega
theorem zPoses_eq (h : zOk n kd ln lo hi vl) : ∀ j, j ≤ n → zPoses lo hi j = lN (zPw lo hi j)
  | 0, _ => rfl
  | j + 1, hj => by
    show zPoses lo hi j * (hi j - lo j + 1).toInt64 = lN (zPw lo hi j * zWd lo hi j)
    have h2 := zWd_eq h (j := j) (by omega)
    rw [zPoses_eq h j (by omega), zWd_nI h (by omega), nI_l (by omega), lN_mul]
theorem zPoses_few (h : zOk n kd ln lo hi vl) : zPoses lo hi n ≤ 40000 ↔ zPw lo hi n ≤ 40000 := by
  have h1 := zPw_bd h
  rw [zPoses_eq h n (Nat.le_refl n)]
  exact pk_lLE (b := 40000) (by omega) (by decide)
end
def zTk (vl : Nat → Int32) (n : Nat) (p : Nat → Int32) (j : Nat) : Int32 := if j < n then p j else vl j
theorem zTk_0 (vl p : Nat → Int32) : vl = zTk vl 0 p := by
  funext j
  unfold zTk
  rw [if_neg (Nat.not_lt_zero j)]
theorem zTk_s {vl p q : Nat → Int32} {i : Nat} {x : Int32} (h : q = zTk vl i p) (hx : x = p i) : upd q i x = zTk vl (i + 1) p := by
  funext j
  rw [h, hx]
  unfold upd zTk
  by_cases e : j = i
  · subst e
    rw [if_pos rfl, if_pos (by omega)]
  · rw [if_neg e]
    by_cases c : j < i
    · rw [if_pos c, if_pos (by omega)]
    · rw [if_neg c, if_neg (by omega)]
theorem zR10_of {p : Int32} (h : 0 ≤ p ∧ p < 10) : ∃ q : Nat, q < 10 ∧ p = nI q := by
  obtain ⟨q, h1, h2⟩ := nI_of (Int32.not_lt.mpr h.1)
  have h3 := h.2
  rw [h2] at h3
  exact ⟨q, (nI_ltI h1 (b := 10) (by decide)).mp h3, h2⟩
