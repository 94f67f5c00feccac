/-! bounds: no sum or product here leaves its range -/
theorem zadd {a b : Int32} (h1 : -2147483648 ≤ a.toInt + b.toInt) (h2 : a.toInt + b.toInt < 2147483648) : (a + b).toInt = a.toInt + b.toInt := by
  rw [Int32.toInt_add]; exact Int.bmod_eq_of_le_mul_two (by omega) (by omega)
theorem zsub {a b : Int32} (h1 : -2147483648 ≤ a.toInt - b.toInt) (h2 : a.toInt - b.toInt < 2147483648) : (a - b).toInt = a.toInt - b.toInt := by
  rw [Int32.toInt_sub]; exact Int.bmod_eq_of_le_mul_two (by omega) (by omega)
theorem zmul {a b : Int32} (h1 : -2147483648 ≤ a.toInt * b.toInt) (h2 : a.toInt * b.toInt < 2147483648) : (a * b).toInt = a.toInt * b.toInt := by
  rw [Int32.toInt_mul]; exact Int.bmod_eq_of_le_mul_two (by omega) (by omega)
theorem zneg {a : Int32} (h1 : -2147483648 < a.toInt) : (-a).toInt = -a.toInt := by
  have := Int32.toInt_lt a
  rw [Int32.toInt_neg]; exact Int.bmod_eq_of_le_mul_two (by omega) (by omega)
theorem zlt {a b : Int32} : a < b ↔ a.toInt < b.toInt := Int32.lt_iff_toInt_lt
theorem zle {a b : Int32} : a ≤ b ↔ a.toInt ≤ b.toInt := Int32.le_iff_toInt_le
theorem zext {a b : Int32} (h : a.toInt = b.toInt) : a = b := Int32.toInt_inj.mp h
theorem zSin_bd (k : Nat) : 0 ≤ (zSin k).toInt ∧ (zSin k).toInt ≤ 1000 := by
  have h : ∀ k < 17, 0 ≤ (zSin k).toInt ∧ (zSin k).toInt ≤ 1000 := by decide +kernel
  by_cases hk : k < 17
  · exact h k hk
  · have e : zSin k = 0 := by
      unfold zSin
      rw [List.getD_eq_getElem?_getD, List.getElem?_eq_none (Nat.not_lt.mp hk)]
      rfl
    rw [e]; decide
theorem zsn_bd (d : Int32) : -1000 ≤ (zsn d).toInt ∧ (zsn d).toInt ≤ 1000 := by
  unfold zsn zS
  obtain ⟨h1, h2⟩ := zSin_bd (if 16 < d &&& 31 then 32 - (d &&& 31) else d &&& 31).toNatClampNeg
  split
  · omega
  · rw [zneg (by omega)]; omega
theorem zcs_bd (d : Int32) : -1000 ≤ (zcs d).toInt ∧ (zcs d).toInt ≤ 1000 := zsn_bd _
/-- lengths, and a pose, in their ranges -/
def zLok (n : Nat) (ln : Nat → Int32) : Prop := ∀ j, j < n → 0 ≤ (ln j).toInt ∧ (ln j).toInt ≤ 200
def zPok (n : Nat) (p : Nat → Int32) : Prop := ∀ j, j < n → -101 ≤ (p j).toInt ∧ (p j).toInt ≤ 101
theorem zDist_bd {kd ln p : Nat → Int32} {n j : Nat} (hl : zLok n ln) (hp : zPok n p) (hj : j < n) : -101 ≤ (zDist kd ln j (p j)).toInt ∧ (zDist kd ln j (p j)).toInt ≤ 301 := by
  have h1 := hl j hj
  have h2 := hp j hj
  unfold zDist
  split
  · omega
  · rw [zadd (by omega) (by omega)]; omega
theorem zprod_bd {a b : Int} {A B : Int} (ha : -A ≤ a ∧ a ≤ A) (hb : -B ≤ b ∧ b ≤ B) (hA : 0 ≤ A) (hB : 0 ≤ B) : -(A * B) ≤ a * b ∧ a * b ≤ A * B := by
  have h1 : a.natAbs ≤ A.natAbs := by omega
  have h2 : b.natAbs ≤ B.natAbs := by omega
  have h3 : (a * b).natAbs ≤ (A * B).natAbs := by
    rw [Int.natAbs_mul, Int.natAbs_mul]; exact Nat.mul_le_mul h1 h2
  have h4 : 0 ≤ A * B := Int.mul_nonneg hA hB
  omega
theorem zterm_bd {d c : Int32} (hd : -101 ≤ d.toInt ∧ d.toInt ≤ 301) (hc : -1000 ≤ c.toInt ∧ c.toInt ≤ 1000) : (d * c).toInt = d.toInt * c.toInt ∧ -301000 ≤ (d * c).toInt ∧ (d * c).toInt ≤ 301000 := by
  have h := zprod_bd (a := d.toInt) (b := c.toInt) (A := 301) (B := 1000) (by omega) (by omega) (by omega) (by omega)
  have e := zmul (a := d) (b := c) (by omega) (by omega)
  rw [e]; omega
theorem zX_bd {kd ln p : Nat → Int32} : ∀ {n : Nat}, n ≤ 5 → zLok n ln → zPok n p → -(301000 * (n : Int)) ≤ (zX kd ln p n).toInt ∧ (zX kd ln p n).toInt ≤ 301000 * (n : Int)
  | 0, _, _, _ => by
    show -(301000 * ((0 : Nat) : Int)) ≤ (0 : Int32).toInt ∧ (0 : Int32).toInt ≤ 301000 * ((0 : Nat) : Int)
    decide
  | n + 1, hn, hl, hp => by
    have ih := zX_bd (kd := kd) (n := n) (by omega) (fun j hj => hl j (by omega)) (fun j hj => hp j (by omega))
    have h := zterm_bd (zDist_bd (kd := kd) hl hp (Nat.lt_succ_self n)) (zcs_bd (zH kd p (n + 1)))
    show _ ≤ (zX kd ln p n + _).toInt ∧ (zX kd ln p n + _).toInt ≤ _
    rw [zadd (by omega) (by omega)]
    omega
theorem zY_bd {kd ln p : Nat → Int32} : ∀ {n : Nat}, n ≤ 5 → zLok n ln → zPok n p → -(301000 * (n : Int)) ≤ (zY kd ln p n).toInt ∧ (zY kd ln p n).toInt ≤ 301000 * (n : Int)
  | 0, _, _, _ => by
    show -(301000 * ((0 : Nat) : Int)) ≤ (0 : Int32).toInt ∧ (0 : Int32).toInt ≤ 301000 * ((0 : Nat) : Int)
    decide
  | n + 1, hn, hl, hp => by
    have ih := zY_bd (kd := kd) (n := n) (by omega) (fun j hj => hl j (by omega)) (fun j hj => hp j (by omega))
    have h := zterm_bd (zDist_bd (kd := kd) hl hp (Nat.lt_succ_self n)) (zsn_bd (zH kd p (n + 1)))
    show _ ≤ (zY kd ln p n + _).toInt ∧ (zY kd ln p n + _).toInt ≤ _
    rw [zadd (by omega) (by omega)]
    omega
/-- the reference's farness: the difference is taken before it is made long -/
def zFarM (gx gy x y : Int32) : Int64 := (x - gx).toInt64 * (x - gx).toInt64 + (y - gy).toInt64 * (y - gy).toInt64
def zB (M : Int) (x : Int32) : Prop := -M ≤ x.toInt ∧ x.toInt ≤ M
theorem zsub64 {x g : Int32} (hx : zB 2000000 x) (hg : zB 1000000 g) : (x - g).toInt64 = x.toInt64 - g.toInt64 := by
  obtain ⟨h1, h2⟩ := hx
  obtain ⟨h3, h4⟩ := hg
  refine Int64.toInt_inj.mp ?_
  rw [Int32.toInt_toInt64, zsub (by omega) (by omega), Int64.toInt_sub, Int32.toInt_toInt64, Int32.toInt_toInt64]
  exact (Int.bmod_eq_of_le_mul_two (by omega) (by omega)).symm
theorem zFar_eq {gx gy x y : Int32} (hx : zB 2000000 x) (hy : zB 2000000 y) (hgx : zB 1000000 gx) (hgy : zB 1000000 gy) : zFarM gx gy x y = zFar gx gy x y := by
  unfold zFarM zFar
  rw [zsub64 hx hgx, zsub64 hy hgy]
theorem zXb {kd ln p : Nat → Int32} {n : Nat} (hn : n ≤ 5) (hl : zLok n ln) (hp : zPok n p) : zB 2000000 (zX kd ln p n) := by
  have := zX_bd (kd := kd) hn hl hp
  constructor <;> omega
theorem zYb {kd ln p : Nat → Int32} {n : Nat} (hn : n ≤ 5) (hl : zLok n ln) (hp : zPok n p) : zB 2000000 (zY kd ln p n) := by
  have := zY_bd (kd := kd) hn hl hp
  constructor <;> omega
/-- a direction as 0 to 63, of one that is not far from there -/
def zToldM (d : Int32) : Int32 := (d - d / 64 * 64 + 64) - (d - d / 64 * 64 + 64) / 64 * 64
theorem zTold_eq {d : Int32} (h1 : -200 ≤ d.toInt) (h2 : d.toInt < 200) : zToldM d = d &&& 63 := by
  have h : ∀ k < 400, zToldM (nI k - 200) = (nI k - 200) &&& 63 := by decide +kernel
  obtain ⟨k, hk⟩ : ∃ k : Nat, (k : Int) = d.toInt + 200 := ⟨(d.toInt + 200).toNat, by omega⟩
  have e : d = nI k - 200 := by
    refine zext ?_
    have e1 : (nI k).toInt = k := nI_toInt (by omega)
    have e2 : (200 : Int32).toInt = 200 := by decide
    rw [zsub (by omega) (by omega)]
    omega
  rw [e]
  exact h k (by omega)
theorem zH_nI (kd p : Nat → Int32) : ∀ j, ∃ k : Nat, k < 64 ∧ zH kd p j = nI k
  | 0 => ⟨0, by omega, rfl⟩
  | j + 1 => z63 _
theorem zsnM (k : Nat) (h : k < 80) : zsn (nI k) = if k % 64 < 32 then zSin (if k % 64 % 32 ≤ 16 then k % 64 % 32 else 32 - k % 64 % 32) else -(zSin (if k % 64 % 32 ≤ 16 then k % 64 % 32 else 32 - k % 64 % 32)) := by
  have h2 : ∀ k < 80, zsn (nI k) = if k % 64 < 32 then zSin (if k % 64 % 32 ≤ 16 then k % 64 % 32 else 32 - k % 64 % 32) else -(zSin (if k % 64 % 32 ≤ 16 then k % 64 % 32 else 32 - k % 64 % 32)) := by decide +kernel
  exact h2 k h
theorem z63id {k : Nat} (h : k < 64) : nI k &&& 63 = nI k := by
  have h2 : ∀ k < 64, nI k &&& 63 = nI k := by decide +kernel
  exact h2 k h
theorem zH_63 (kd p : Nat → Int32) (j : Nat) : zH kd p j &&& 63 = zH kd p j := by
  obtain ⟨k, hk, e⟩ := zH_nI kd p j
  rw [e]; exact z63id hk
/-- a value in its limits, as the reference says it -/
def zHeldR (lo hi v : Int32) : Int32 := if v < lo then lo else if hi < v then hi else v
theorem zHeld_eq {lo hi v : Int32} (h : lo ≤ hi) : zHeldR lo hi v = zHeldC lo hi v := by
  rw [zle] at h
  unfold zHeldR zHeldC
  simp only [zlt]
  by_cases h1 : v.toInt < lo.toInt
  · have h2 : v.toInt < hi.toInt := by omega
    rw [if_pos h1, if_pos h2, if_neg (by omega)]
  · by_cases h2 : hi.toInt < v.toInt
    · have h3 : ¬ v.toInt < hi.toInt := by omega
      rw [if_neg h1, if_pos h2, if_neg h3]
      by_cases h4 : lo.toInt < hi.toInt
      · rw [if_pos h4]
      · rw [if_neg h4]; exact (zext (by omega))
    · rw [if_neg h1, if_neg h2]
      by_cases h3 : v.toInt < hi.toInt
      · rw [if_pos h3]
        by_cases h4 : lo.toInt < v.toInt
        · rw [if_pos h4]
        · rw [if_neg h4]; exact (zext (by omega))
      · rw [if_neg h3]
        by_cases h4 : lo.toInt < hi.toInt
        · rw [if_pos h4]; exact (zext (by omega))
        · rw [if_neg h4]; exact (zext (by omega))
theorem zHeld_in {lo hi v : Int32} (h : lo ≤ hi) : lo ≤ zHeldC lo hi v ∧ zHeldC lo hi v ≤ hi := by
  rw [← zHeld_eq h]
  rw [zle] at h
  unfold zHeldR
  simp only [zlt, zle]
  split
  · omega
  · split <;> omega
