/-! the reference's way through all poses -/
theorem zMvK_n {k : Nat} {K : Nat → Int64} (h : ¬ k + 1 < 10) : zMvK k K = K := if_neg h
theorem zMvK_p {k : Nat} {K : Nat → Int64} (h : k + 1 < 10) : zMvK k K = vp_updL K (k + 1) (K k) := if_pos h
theorem zMvW_n {k : Nat} {K : Nat → Int32} (h : ¬ k + 1 < 10) : zMvW k K = K := if_neg h
theorem zMvW_p {k : Nat} {K : Nat → Int32} (h : k + 1 < 10) : zMvW k K = upd K (k + 1) (K k) := if_pos h
theorem zAbs_neg (v : Int32) (h : ¬ 0 ≤ v) : -v = zAbs v := by
  unfold zAbs
  rw [if_neg h, Int32.zero_sub]
theorem zAbs_pos (v : Int32) (h : 0 ≤ v) : v = zAbs v := by
  unfold zAbs
  rw [if_pos h]
theorem zHk_m {x : Int32} : (if x &&& 63 < 64 - (x &&& 63) then x &&& 63 else 64 - (x &&& 63)) = zHk (x &&& 63) := by
  have h : ∀ k < 64, (if nI k < 64 - nI k then nI k else 64 - nI k) = zHk (nI k) := by decide +kernel
  obtain ⟨k, hk, e⟩ := z63 x
  rw [e]
  exact h k hk
theorem zHsub_sm (kd kd' p p' : Nat → Int32) (n n' : Nat) : -200 ≤ (zH kd p n - zH kd' p' n').toInt ∧ (zH kd p n - zH kd' p' n').toInt < 200 := by
  obtain ⟨a, ha, ea⟩ := zH_nI kd p n
  obtain ⟨b, hb, eb⟩ := zH_nI kd' p' n'
  have h1 : (nI a).toInt = a := nI_toInt (by omega)
  have h2 : (nI b).toInt = b := nI_toInt (by omega)
  rw [ea, eb, zsub (by omega) (by omega)]
  omega
section
variable {n : Nat} {kd ln lo hi vl : Nat → Int32} {sl gx gy bq : Int32}
theorem zPw_s (h : zOk n kd ln lo hi vl) {i : Nat} (hi' : i < n) (hb : zPw lo hi i ≤ 40000) : zPw lo hi (i + 1) < 10000000 := by
  have h1 := (zWd_eq h hi').2.2
  have h2 : zPw lo hi i * zWd lo hi i ≤ 40000 * 133 := Nat.mul_le_mul hb h1
  show zPw lo hi i * zWd lo hi i < 10000000
  omega
theorem zMk_div (h : zOk n kd ln lo hi vl) {m k : Nat} (hm : m < n) (hk : k ≤ 40000) : nI (k / zMs lo hi (n - (m + 1)) (m + 1)) / nI (zWd lo hi m) = nI (k / zMs lo hi (n - m) m) := by
  obtain ⟨-, h1, h2⟩ := zWd_eq h hm
  have h3 : k / zMs lo hi (n - (m + 1)) (m + 1) ≤ k := Nat.div_le_self _ _
  rw [pk_div (by omega) (by omega) (by omega), Nat.div_div_eq_div_mul, Nat.mul_comm, ← zMs_step lo hi hm]
theorem zMk_rem (h : zOk n kd ln lo hi vl) {m k : Nat} (hm : m < n) (hk : k ≤ 40000) : nI (k / zMs lo hi (n - (m + 1)) (m + 1)) - nI (k / zMs lo hi (n - (m + 1)) (m + 1)) / nI (zWd lo hi m) * nI (zWd lo hi m) = nI (k / zMs lo hi (n - (m + 1)) (m + 1) % zWd lo hi m) := by
  obtain ⟨-, h1, h2⟩ := zWd_eq h hm
  have h3 : k / zMs lo hi (n - (m + 1)) (m + 1) ≤ k := Nat.div_le_self _ _
  exact pk_rem (by omega) (by omega) (by omega)
theorem zMk_0 (lo hi : Nat → Int32) (n k : Nat) : nI k = nI (k / zMs lo hi (n - n) n) := by
  rw [Nat.sub_self]
  show nI k = nI (k / 1)
  rw [Nat.div_one]
theorem zpk_up {psx : Nat → Int32} {m k : Nat} {x : Int32} (h : ∀ j, m + 1 ≤ j → j < n → psx j = zPk lo hi n k j) (hx : x = zPk lo hi n k m) : ∀ j, m ≤ j → j < n → upd psx m x j = zPk lo hi n k j := by
  intro j h1 h2
  by_cases e : j = m
  · subst e; rw [pk_us, hx]
  · rw [pk_un e]; exact h j (by omega) h2
/-- the key as the reference finds it -/
def zKm (vl ps : Nat → Int32) (n : Nat) (gx gy x y h w bq : Int32) : Int64 := if bq = 0 then zFarM gx gy x y else if bq = 1 then (zWy vl ps n).toInt64 else (zHk ((h - w) &&& 63)).toInt64
def zB3 (bq : Int32) : Prop := bq = 0 ∨ bq = 1 ∨ bq = 2
theorem zKm_eq (h : zOk n kd ln lo hi vl) (hgx : zB 1000000 gx) (hgy : zB 1000000 gy) {p : Nat → Int32} (hp : zPok n p) : zKm vl p n gx gy (zX kd ln p n) (zY kd ln p n) (zH kd p n) (zH kd vl n) bq = zKy kd ln vl n gx gy bq p := by
  unfold zKm zKy
  rw [zFar_eq (zXb h.1 h.l hp) (zYb h.1 h.l hp) hgx hgy]
theorem zGl_f {k : Nat} {st : zRs} {psx : Nat → Int32} (hps : ∀ j, j < n → psx j = zPk lo hi n k j) (hc : sl < zAbs (zX kd ln psx n - gx) ∨ sl < zAbs (zY kd ln psx n - gy)) : zGt kd ln lo hi vl n gx gy sl bq 0 (k + 1) st = zGt kd ln lo hi vl n gx gy sl bq 0 k st := by
  show zFo _ _ 0 (k + 1) st = _
  rw [zFo_last, Nat.zero_add]
  unfold zStp
  refine if_neg ?_
  unfold zPss
  rw [decide_eq_true_iff, ← zX_congr hps, ← zY_congr hps]
  unfold zIn
  rw [if_neg (fun h => hc.elim (fun q => absurd q (Int32.not_lt.mpr h.1)) (fun q => absurd q (Int32.not_lt.mpr h.2)))]
  decide
theorem zGl_t {k : Nat} {st : zRs} {psx : Nat → Int32} (h : zOk n kd ln lo hi vl) (hgx : zB 1000000 gx) (hgy : zB 1000000 gy) (hps : ∀ j, j < n → psx j = zPk lo hi n k j) (h1 : ¬ sl < zAbs (zX kd ln psx n - gx)) (h2 : ¬ sl < zAbs (zY kd ln psx n - gy)) : zGt kd ln lo hi vl n gx gy sl bq 0 (k + 1) st = zIns (zKm vl psx n gx gy (zX kd ln psx n) (zY kd ln psx n) (zH kd psx n) (zH kd vl n) bq) k (zGt kd ln lo hi vl n gx gy sl bq 0 k st) := by
  have hpp : zPok n psx := fun j hj => by rw [hps j hj]; exact zPk_p h k j hj
  show zFo _ _ 0 (k + 1) st = _
  rw [zFo_last, Nat.zero_add, zKm_eq h hgx hgy hpp, zKy_congr hps]
  unfold zStp
  refine if_pos ?_
  unfold zPss
  rw [decide_eq_true_iff, ← zX_congr hps, ← zY_congr hps]
  unfold zIn
  rw [if_pos ⟨Int32.not_lt.mp h1, Int32.not_lt.mp h2⟩]
end
