/-! the values in the document's words, over whole numbers of 32 and 64 bits -/
def zS (d : Int32) : Int32 := zSin (if 16 < d &&& 31 then 32 - (d &&& 31) else d &&& 31).toNatClampNeg
def zsn (d : Int32) : Int32 := if d &&& 32 = 0 then zS d else -(zS d)
def zcs (d : Int32) : Int32 := zsn (d + 16)
def zTurn (kd : Nat → Int32) (j : Nat) (v : Int32) : Int32 := if kd j = 0 then v else 0
def zDist (kd ln : Nat → Int32) (j : Nat) (v : Int32) : Int32 := if kd j = 0 then ln j else ln j + v
def zHeldC (lo hi v : Int32) : Int32 := if lo < (if v < hi then v else hi) then (if v < hi then v else hi) else lo
/-- the heading behind the first j joints, of a pose -/
def zH (kd p : Nat → Int32) : Nat → Int32
  | 0 => 0
  | j + 1 => (zH kd p j + zTurn kd j (p j)) &&& 63
def zX (kd ln p : Nat → Int32) : Nat → Int32
  | 0 => 0
  | j + 1 => zX kd ln p j + zDist kd ln j (p j) * zcs (zH kd p (j + 1))
def zY (kd ln p : Nat → Int32) : Nat → Int32
  | 0 => 0
  | j + 1 => zY kd ln p j + zDist kd ln j (p j) * zsn (zH kd p (j + 1))
/-- the sum of the turns, not yet within a full turn -/
def zHs (kd p : Nat → Int32) : Nat → Int32
  | 0 => 0
  | j + 1 => zHs kd p j + zTurn kd j (p j)
/-- a pose with another value of one joint -/
def zPo (vl : Nat → Int32) (o ov : Int32) (j : Nat) : Int32 := if nI j = o then ov else vl j
def zFar (gx gy x y : Int32) : Int64 := (x.toInt64 - gx.toInt64) * (x.toInt64 - gx.toInt64) + (y.toInt64 - gy.toInt64) * (y.toInt64 - gy.toInt64)
def zAbs (x : Int32) : Int32 := if 0 ≤ x then x else 0 - x
def zIn (most gx gy x y : Int32) : Int32 := if zAbs (x - gx) ≤ most ∧ zAbs (y - gy) ≤ most then 1 else 0
def zPoses (lo hi : Nat → Int32) : Nat → Int64
  | 0 => 1
  | j + 1 => zPoses lo hi j * (hi j - lo j + 1).toInt64
theorem zin1 {d : Int32} (h : ¬ 16 < d &&& 31) : vp_in (d &&& 31) 17 := by
  obtain ⟨j, hj, e⟩ := pk_andE d (m := 31) 5 (by decide)
  rw [e] at h ⊢
  have hj : j < 32 := hj
  have h2 : ¬ nI 16 < nI j := h
  rw [nI_ltI (by omega) (by omega)] at h2
  exact vp_in_nI (by omega) (by omega)
theorem zin2 {d : Int32} (h : 16 < d &&& 31) : vp_in (32 - (d &&& 31)) 17 := by
  obtain ⟨j, hj, e⟩ := pk_andE d (m := 31) 5 (by decide)
  rw [e] at h ⊢
  have hj : j < 32 := hj
  have h2 : nI 16 < nI j := h
  rw [nI_ltI (by omega) (by omega)] at h2
  have h3 : (32 : Int32) - nI j = nI (32 - j) := pk_sub (a := 32) (b := j) (by omega)
  rw [h3]
  exact vp_in_nI (by omega) (by omega)
theorem z63 (x : Int32) : ∃ j : Nat, j < 64 ∧ x &&& 63 = nI j := pk_andE x (m := 63) 6 (by decide)
theorem zdec (x : Int32) : x + Int32.ofInt (-1) = x - 1 := by
  rw [Int32.sub_eq_add_neg]; rfl
theorem zlt_pred {m i : Nat} (hm : m ≤ 5) (hi : i ≤ 5) : (nI m - 1 < nI i) ↔ m ≤ i := by
  have h : ∀ m < 6, ∀ i < 6, (nI m - 1 < nI i) ↔ m ≤ i := by decide +kernel
  exact h m (by omega) i (by omega)
theorem zlt0_pred {m : Nat} (hm : m ≤ 5) : (nI m - 1 < 0) ↔ m = 0 := by
  have h : ∀ m < 6, (nI m - 1 < 0) ↔ m = 0 := by decide +kernel
  exact h m (by omega)
theorem zand63 (x t : Int32) : ((x &&& 63) + t) &&& 63 = (x + t) &&& 63 := by
  rw [pk_and ((x &&& 63) + t) (m := 63) 6 (by decide), pk_and (x + t) (m := 63) 6 (by decide), pk_and x (m := 63) 6 (by decide)]
  congr 1
  have h1 : (nI (x.toBitVec.toNat % 2 ^ 6) + t).toBitVec.toNat = (x.toBitVec.toNat % 64 + t.toBitVec.toNat) % 2 ^ 32 := by
    rw [Int32.toBitVec_add, BitVec.toNat_add, pk_tn (Nat.lt_of_lt_of_le (Nat.mod_lt _ (by decide)) (by decide))]
  have h2 : (x + t).toBitVec.toNat = (x.toBitVec.toNat + t.toBitVec.toNat) % 2 ^ 32 := by
    rw [Int32.toBitVec_add, BitVec.toNat_add]
  rw [h1, h2]
  omega
theorem zHs_H (kd p : Nat → Int32) : ∀ j, zHs kd p j &&& 63 = zH kd p j
  | 0 => by simp [zHs, zH]
  | j + 1 => by
    show (zHs kd p j + zTurn kd j (p j)) &&& 63 = (zH kd p j + zTurn kd j (p j)) &&& 63
    rw [← zHs_H kd p j, zand63]
theorem zH_congr {kd p q : Nat → Int32} : ∀ {n : Nat}, (∀ j, j < n → p j = q j) → zH kd p n = zH kd q n
  | 0, _ => rfl
  | n + 1, h => by
    show (zH kd p n + _) &&& 63 = (zH kd q n + _) &&& 63
    rw [zH_congr (n := n) (fun j hj => h j (by omega)), h n (by omega)]
theorem zX_congr {kd ln p q : Nat → Int32} : ∀ {n : Nat}, (∀ j, j < n → p j = q j) → zX kd ln p n = zX kd ln q n
  | 0, _ => rfl
  | n + 1, h => by
    show zX kd ln p n + _ = zX kd ln q n + _
    rw [zX_congr (n := n) (fun j hj => h j (by omega)), h n (by omega), zH_congr (n := n + 1) h]
theorem zY_congr {kd ln p q : Nat → Int32} : ∀ {n : Nat}, (∀ j, j < n → p j = q j) → zY kd ln p n = zY kd ln q n
  | 0, _ => rfl
  | n + 1, h => by
    show zY kd ln p n + _ = zY kd ln q n + _
    rw [zY_congr (n := n) (fun j hj => h j (by omega)), h n (by omega), zH_congr (n := n + 1) h]
theorem zPo_m1 {vl : Nat → Int32} {n : Nat} (hn : n ≤ 5) (j : Nat) (hj : j < n) : zPo vl (-1) 0 j = vl j := by
  have h : ∀ j < 6, ¬ nI j = -1 := by decide +kernel
  simp [zPo, h j (by omega)]
theorem zback (x y z w : Int32) (h : x + (y + z) = w) : (x + z) + y = w := by
  rw [← h, Int32.add_assoc, Int32.add_comm z y]
