/-! the law's own rows of numbers, and what it finds with them -/
def zAr (n : Nat) (A kd ln lo hi vl : Nat → Int32) : Prop := ∀ k, k < n → A (5 * k) = kd k ∧ A (5 * k + 1) = ln k ∧ A (5 * k + 2) = lo k ∧ A (5 * k + 3) = hi k ∧ A (5 * k + 4) = vl k
def zKd (n : Nat) (kd : Nat → Int32) : Prop := ∀ k, k < n → kd k = 0 ∨ kd k = 1
def zGs (G : Nat → Int32) (n : Nat) (gx gy sl : Int32) : Prop := G 0 = nI n ∧ G 1 = gx ∧ G 2 = gy ∧ G 3 = sl
def zTt (T : Nat → Int32) : Prop := ∀ k, k < 17 → T k = zSin k
/-- a pose with one value more by something -/
def zPm (vl : Nat → Int32) (j m : Int32) (k : Nat) : Int32 := vl k + (if nI k = j then m else 0)
def zXY (bx : Int32) (kd ln p : Nat → Int32) (i : Nat) : Int32 := if bx = 0 then zY kd ln p i else zX kd ln p i
theorem zXY_0 (bx : Int32) (kd ln p : Nat → Int32) : zXY bx kd ln p 0 = 0 := by
  unfold zXY
  split <;> rfl
theorem zXY_s (bx : Int32) (kd ln p : Nat → Int32) (i : Nat) : zXY bx kd ln p (i + 1) = zXY bx kd ln p i + zDist kd ln i (p i) * zsn (zH kd p (i + 1) + (if bx = 0 then 0 else 16)) := by
  unfold zXY
  by_cases h : bx = 0
  · rw [if_pos h, if_pos h, if_pos h, Int32.add_zero]; rfl
  · rw [if_neg h, if_neg h, if_neg h]; rfl
theorem zPm_m1 {vl : Nat → Int32} {n : Nat} (hn : n ≤ 5) (m : Int32) (j : Nat) (hj : j < n) : zPm vl (-1) m j = vl j := by
  have h : ∀ j < 6, ¬ nI j = -1 := by decide +kernel
  unfold zPm
  rw [if_neg (h j (by omega)), Int32.add_zero]
theorem zPm_po {vl : Nat → Int32} {n i : Nat} (hn : n ≤ 5) (hi : i < n) (m : Int32) (j : Nat) (hj : j < n) : zPm vl (nI i) m j = zPo vl (nI i) (vl i + m) j := by
  unfold zPm zPo
  by_cases e : nI j = nI i
  · have e2 : j = i := (nI_eq (by omega) (by omega)).mp e
    rw [if_pos e, if_pos e, e2]
  · rw [if_neg e, if_neg e, Int32.add_zero]
theorem zsn_63 (d : Int32) : zsn (d &&& 63) = zsn d := by
  have e1 : (d &&& 63) &&& 32 = d &&& 32 := by rw [Int32.and_assoc]; rfl
  have e2 : (d &&& 63) &&& 31 = d &&& 31 := by rw [Int32.and_assoc]; rfl
  unfold zsn zS
  rw [e1, e2]
theorem zsnL (k : Nat) (h : k < 64) : zsn (nI k) = if 32 < k then -(zSin (if 16 < 64 - k then 32 - (64 - k) else 64 - k)) else zSin (if 16 < k then 32 - k else k) := by
  have h2 : ∀ k < 64, zsn (nI k) = if 32 < k then -(zSin (if 16 < 64 - k then 32 - (64 - k) else 64 - k)) else zSin (if 16 < k then 32 - k else k) := by decide +kernel
  exact h2 k h
/-- the heading's part of a joint, of its kind -/
theorem zHs_t {kd p : Nat → Int32} {i : Nat} (h : kd i = 0) : zHs kd p i + p i = zHs kd p (i + 1) := by
  show _ = zHs kd p i + zTurn kd i (p i)
  unfold zTurn
  rw [if_pos h]
theorem zHs_s {kd p : Nat → Int32} {i : Nat} (h : ¬ kd i = 0) : zHs kd p i = zHs kd p (i + 1) := by
  show _ = zHs kd p i + zTurn kd i (p i)
  unfold zTurn
  rw [if_neg h, Int32.add_zero]
theorem zPm_t {vl : Nat → Int32} {j m : Int32} {k : Nat} (h : nI k = j) : vl k + m = zPm vl j m k := by unfold zPm; rw [if_pos h]
theorem zPm_f {vl : Nat → Int32} {j m : Int32} {k : Nat} (h : ¬ nI k = j) : vl k + 0 = zPm vl j m k := by unfold zPm; rw [if_neg h]
theorem zKd_s {n : Nat} {kd : Nat → Int32} (h : zKd n kd) {k : Nat} (hk : k < n) : kd k = 1 ↔ ¬ kd k = 0 := by
  rcases h k hk with e | e <;> rw [e] <;> decide
theorem zlast (n m : Nat) (h1 : m ≤ n) (h2 : n ≤ 5) : (nI m - 1 < nI n) ↔ m ≤ n := ⟨fun _ => h1, fun _ => (zlt_pred (by omega) h2).mpr h1⟩
/-- how many poses, a million at most -/
def zMil (lo hi : Nat → Int32) (n : Nat) : Nat := if zPw lo hi n ≤ 1000000 then zPw lo hi n else 1000000
theorem zMil_few {lo hi : Nat → Int32} {n : Nat} : zMil lo hi n ≤ 40000 ↔ zPw lo hi n ≤ 40000 := by
  unfold zMil
  split <;> omega
theorem zMil_le (lo hi : Nat → Int32) (n : Nat) : zMil lo hi n ≤ 1000000 := by
  unfold zMil
  split <;> omega
theorem zMil_eq {lo hi : Nat → Int32} {n : Nat} (h : zMil lo hi n ≤ 40000) : zMil lo hi n = zPw lo hi n := by
  unfold zMil at *
  by_cases c : zPw lo hi n ≤ 1000000
  · rw [if_pos c]
  · rw [if_neg c] at h; omega
theorem zMil_of {n : Nat} {kd ln lo hi vl : Nat → Int32} (h : zOk n kd ln lo hi vl) : (if 1000000 < zPoses lo hi n then (1000000 : Int32) else (zPoses lo hi n).toInt32) = nI (zMil lo hi n) := by
  have h1 := zPw_bd h
  rw [zPoses_eq h n (Nat.le_refl n)]
  unfold zMil
  by_cases c : zPw lo hi n ≤ 1000000
  · have g : ¬ (1000000 : Int64) < lN (zPw lo hi n) := fun z => absurd ((pk_lLT (a := 1000000) (b := zPw lo hi n) (by decide) (by omega)).mp z) (by omega)
    rw [if_neg g, if_pos c]
    refine zext ?_
    rw [nI_toInt (by omega), Int64.toInt_toInt32, pk_lT (by omega)]
    exact Int.bmod_eq_of_le_mul_two (by omega) (by omega)
  · have g : (1000000 : Int64) < lN (zPw lo hi n) := (pk_lLT (a := 1000000) (b := zPw lo hi n) (by decide) (by omega)).mpr (by omega)
    rw [if_pos g, if_neg c]
    rfl
/-- what reaches, as the law asks it -/
theorem zIn_law {sl gx gy x y : Int32} (hsl : 0 ≤ sl.toInt ∧ sl.toInt ≤ 100000) (hx : zB 2000000 x) (hy : zB 2000000 y) (hgx : zB 1000000 gx) (hgy : zB 1000000 gy) : zIn sl gx gy x y = 1 ↔ ¬ (sl < x - gx ∨ x - gx < -sl ∨ sl < y - gy ∨ y - gy < -sl) := by
  have key : ∀ {d : Int32}, -3000000 ≤ d.toInt → d.toInt ≤ 3000000 → (zAbs d ≤ sl ↔ ¬ (sl < d ∨ d < -sl)) := by
    intro d h1 h2
    have z0 : (0 : Int32).toInt = 0 := by decide
    unfold zAbs
    simp only [zle, zlt, zneg (a := sl) (by omega)]
    by_cases c : (0 : Int32).toInt ≤ d.toInt
    · rw [if_pos c]; omega
    · rw [if_neg c, zsub (by omega) (by omega)]; omega
  obtain ⟨x1, x2⟩ := hx
  obtain ⟨y1, y2⟩ := hy
  obtain ⟨g1, g2⟩ := hgx
  obtain ⟨g3, g4⟩ := hgy
  unfold zIn
  rw [zif_e, key (by rw [zsub (by omega) (by omega)]; omega) (by rw [zsub (by omega) (by omega)]; omega), key (by rw [zsub (by omega) (by omega)]; omega) (by rw [zsub (by omega) (by omega)]; omega)]
  constructor
  · rintro ⟨a, b⟩ (c | c | c | c)
    · exact a (Or.inl c)
    · exact a (Or.inr c)
    · exact b (Or.inl c)
    · exact b (Or.inr c)
  · intro h
    exact ⟨fun z => h (z.elim Or.inl (fun q => Or.inr (Or.inl q))), fun z => h (z.elim (fun q => Or.inr (Or.inr (Or.inl q))) (fun q => Or.inr (Or.inr (Or.inr q))))⟩
theorem zHk_L {k : Nat} (h : k < 64) : (if 32 < k then 64 - nI k else nI k) = zHk (nI k) := by
  have h2 : ∀ k < 64, (if 32 < k then 64 - nI k else nI k) = zHk (nI k) := by decide +kernel
  exact h2 k h
theorem zWy_L {p v : Int32} (hp : -101 ≤ p.toInt ∧ p.toInt ≤ 101) (hv : -101 ≤ v.toInt ∧ v.toInt ≤ 101) : (if v < p then p - v else v - p) = zAbs (p - v) := by
  have z0 : (0 : Int32).toInt = 0 := by decide
  have e : (p - v).toInt = p.toInt - v.toInt := zsub (by omega) (by omega)
  unfold zAbs
  by_cases c : v < p
  · rw [if_pos c, if_pos (by rw [zle, z0, e]; rw [zlt] at c; omega)]
  · rw [if_neg c]
    rw [zlt] at c
    by_cases d : (0 : Int32) ≤ p - v
    · rw [if_pos d]
      rw [zle, z0, e] at d
      refine zext ?_
      rw [e, zsub (by omega) (by omega)]
      omega
    · rw [if_neg d]
      refine zext ?_
      rw [zsub (by omega) (by omega), zsub (by omega) (by omega), e, z0]
      omega
def zLw (v : Int32) (m : Nat) : Nat := v.toBitVec.toNat / 2 % m
theorem zLw_lt {v : Int32} {m : Nat} (h : 0 < m) : zLw v m < m := Nat.mod_lt _ h
theorem zUsh_lt (v : Int32) : v.toBitVec.toNat / 2 < 2 ^ 31 := by
  have h := v.toBitVec.isLt
  omega
theorem zUsh (v : Int32) : (v.toUInt32 >>> ((1 : Int32).toUInt32 &&& Int32.toUInt32 31)).toInt32 = nI (v.toBitVec.toNat / 2) := by
  refine Int32.toBitVec_inj.mp (BitVec.eq_of_toNat_eq ?_)
  have h := v.toBitVec.isLt
  rw [pk_ushr v 1 1 (by decide), pk_tn (by omega)]
theorem zXY_x (kd ln p : Nat → Int32) (i : Nat) : zXY 1 kd ln p i = zX kd ln p i := if_neg (by decide)
theorem zXY_y (kd ln p : Nat → Int32) (i : Nat) : zXY 0 kd ln p i = zY kd ln p i := if_pos rfl
theorem zAr_congr {n : Nat} {A kd ln lo hi p q : Nat → Int32} (h : zAr n A kd ln lo hi p) (e : ∀ j, j < n → p j = q j) : zAr n A kd ln lo hi q := fun k hk => by
  obtain ⟨h1, h2, h3, h4, h5⟩ := h k hk
  exact ⟨h1, h2, h3, h4, h5.trans (e k hk)⟩
theorem zAr_v {n : Nat} {A kd ln lo hi p : Nat → Int32} {k : Nat} {x : Int32} (h : zAr n A kd ln lo hi p) (_ : k < n) : zAr n (upd A (5 * k + 4) x) kd ln lo hi (upd p k x) := fun j hj => by
  obtain ⟨h1, h2, h3, h4, h5⟩ := h j hj
  rw [pk_un (show 5 * j ≠ 5 * k + 4 by omega), pk_un (show 5 * j + 1 ≠ 5 * k + 4 by omega), pk_un (show 5 * j + 2 ≠ 5 * k + 4 by omega), pk_un (show 5 * j + 3 ≠ 5 * k + 4 by omega)]
  refine ⟨h1, h2, h3, h4, ?_⟩
  by_cases e : j = k
  · subst e
    rw [pk_us, pk_us]
  · rw [pk_un (show 5 * j + 4 ≠ 5 * k + 4 by omega), pk_un e]
    exact h5
theorem zWd_nz {n : Nat} {kd ln lo hi vl : Nat → Int32} (h : zOk n kd ln lo hi vl) {j : Nat} (hj : j < n) : ¬ nI (zWd lo hi j) = 0 := by
  have h1 := (zWd_eq h hj).2
  exact nI_ne0 (by omega) (by omega)
