/-! the reference's way through all poses -/
theorem zMvK_n {k : Nat} {K : Nat → Int64} (h : ¬ k + 1 < 10) : zMvK k K = K := if_neg h
theorem zMvK_p {k : Nat} {K : Nat → Int64} (h : k + 1 < 10) : zMvK k K = vp_updL K (k + 1) (K k) := if_pos h
theorem zMvW_n {k : Nat} {K : Nat → Int32} (h : ¬ k + 1 < 10) : zMvW k K = K := if_neg h
theorem zMvW_p {k : Nat} {K : Nat → Int32} (h : k + 1 < 10) : zMvW k K = upd K (k + 1) (K k) := if_pos h
theorem zAbs_neg (v : Int32) (h : ¬ 0 ≤ v) : -v = zAbs v := by
  unfold zAbs
  rw [if_neg h, Int32.zero_sub]
theorem zAbs_pos (v : Int32) (h : 0 ≤ v) : v = zAbs v := by
  unfold zAbs
  rw [if_pos h]
theorem zHk_m {x : Int32} : (if x &&& 63 < 64 - (x &&& 63) then x &&& 63 else 64 - (x &&& 63)) = zHk (x &&& 63) := by
  have h : ∀ k < 64, (if nI k < 64 - nI k then nI k else 64 - nI k) = zHk (nI k) := by decide +kernel
  obtain ⟨k, hk, e⟩ := z63 x
  rw [e]
  exact h k hk
theorem zHsub_sm (kd kd' p p' : Nat → Int32) (n n' : Nat) : -200 ≤ (zH kd p n - zH kd' p' n').toInt ∧ (zH kd p n - zH kd' p' n').toInt < 200 := by
  obtain ⟨a, ha, ea⟩ := zH_nI kd p n
  obtain ⟨b, hb, eb⟩ := zH_nI kd' p' n'
  have h1 : (nI a).toInt = a := nI_toInt (by omega)
  have h2 : (nI b).toInt = b := nI_toInt (by omega)
  rw [ea, eb, zsub (by omega) (by omega)]
  omega
section
variable {n : Nat} {kd ln lo hi vl : Nat → Int32} {sl gx gy bq : Int32}
theorem zPw_s (h : zOk n kd ln lo hi vl) {i : Nat} (hi' : i < n) (hb : zPw lo hi i ≤ 40000) : zPw lo hi (i + 1) < 10000000 := by
  have h1 := (zWd_eq h hi').2.2
  have h2 : zPw lo hi i * zWd lo hi i ≤ 40000 * 133 := Nat.mul_le_mul hb h1
  show zPw lo hi i * zWd lo hi i < 10000000
  omega
theorem zMk_div (h : zOk n kd ln lo hi vl) {m k : Nat} (hm : m < n) (hk : k ≤ 40000) : nI (k / zMs lo hi (n - (m + 1)) (m + 1)) / nI (zWd lo hi m) = nI (k / zMs lo hi (n - m) m) := by
  obtain ⟨-, h1, h2⟩ := zWd_eq h hm
  have h3 : k / zMs lo hi (n - (m + 1)) (m + 1) ≤ k := Nat.div_le_self _ _
  rw [pk_div (by omega) (by omega) (by omega), Nat.div_div_eq_div_mul, Nat.mul_comm, ← zMs_step lo hi hm]
theorem zMk_rem (h : zOk n kd ln lo hi vl) {m k : Nat} (hm : m < n) (hk : k ≤ 40000) : nI (k / zMs lo hi (n - (m + 1)) (m + 1)) - nI (k / zMs lo hi (n - (m + 1)) (m + 1)) / nI (zWd lo hi m) * nI (zWd lo hi m) = nI (k / zMs lo hi (n - (m + 1)) (m + 1) % zWd lo hi m) := by
  obtain ⟨-, h1, h2⟩ := zWd_eq h hm
  have h3 : k / zMs lo hi (n - (m + 1)) (m + 1) ≤ k := Nat.div_le_self _ _
  exact pk_rem (by omega) (by omega) (by omega)
theorem zMk_0 (lo hi : Nat → Int32) (n k : Nat) : nI k = nI (k / zMs lo hi (n - n) n) := by
  rw [Nat.sub_self]
  show nI k = nI (k / 1)
  rw [Nat.div_one]
theorem zpk_up {psx : Nat → Int32} {m k : Nat} {x : Int32} (h : ∀ j, m + 1 ≤ j → j < n → psx j = zPk lo hi n k j) (hx : x = zPk lo hi n k m) : ∀ j, m ≤ j → j < n → upd psx m x j = zPk lo hi n k j := by
  intro j h1 h2
  by_cases e : j = m
  · subst e; rw [pk_us, hx]
  · rw [pk_un e]; exact h j (by omega) h2
/-- the key as the reference finds it -/
def zKm (vl ps : Nat → Int32) (n : Nat) (gx gy x y h w bq : Int32) : Int64 := if bq = 0 then zFarM gx gy x y else if bq = 1 then (zWy vl ps n).toInt64 else (zHk ((h - w) &&& 63)).toInt64
def zB3 (bq : Int32) : Prop := bq = 0 ∨ bq = 1 ∨ bq = 2
theorem zKm_eq (h : zOk n kd ln lo hi vl) (hgx : zB 1000000 gx) (hgy : zB 1000000 gy) {p : Nat → Int32} (hp : zPok n p) : zKm vl p n gx gy (zX kd ln p n) (zY kd ln p n) (zH kd p n) (zH kd vl n) bq = zKy kd ln vl n gx gy bq p := by
  unfold zKm zKy
  rw [zFar_eq (zXb h.1 h.l hp) (zYb h.1 h.l hp) hgx hgy]
theorem zGl_f {k : Nat} {st : zRs} {psx : Nat → Int32} (hps : ∀ j, j < n → psx j = zPk lo hi n k j) (hc : sl < zAbs (zX kd ln psx n - gx) ∨ sl < zAbs (zY kd ln psx n - gy)) : zGt kd ln lo hi vl n gx gy sl bq 0 (k + 1) st = zGt kd ln lo hi vl n gx gy sl bq 0 k st := by
  show zFo _ _ 0 (k + 1) st = _
  rw [zFo_last, Nat.zero_add]
  unfold zStp
  refine if_neg ?_
  unfold zPss
  rw [decide_eq_true_iff, ← zX_congr hps, ← zY_congr hps]
  unfold zIn
  rw [if_neg (fun h => hc.elim (fun q => absurd q (Int32.not_lt.mpr h.1)) (fun q => absurd q (Int32.not_lt.mpr h.2)))]
  decide
theorem zGl_t {k : Nat} {st : zRs} {psx : Nat → Int32} (h : zOk n kd ln lo hi vl) (hgx : zB 1000000 gx) (hgy : zB 1000000 gy) (hps : ∀ j, j < n → psx j = zPk lo hi n k j) (h1 : ¬ sl < zAbs (zX kd ln psx n - gx)) (h2 : ¬ sl < zAbs (zY kd ln psx n - gy)) : zGt kd ln lo hi vl n gx gy sl bq 0 (k + 1) st = zIns (zKm vl psx n gx gy (zX kd ln psx n) (zY kd ln psx n) (zH kd psx n) (zH kd vl n) bq) k (zGt kd ln lo hi vl n gx gy sl bq 0 k st) := by
  have hpp : zPok n psx := fun j hj => by rw [hps j hj]; exact zPk_p h k j hj
  show zFo _ _ 0 (k + 1) st = _
  rw [zFo_last, Nat.zero_add, zKm_eq h hgx hgy hpp, zKy_congr hps]
  unfold zStp
  refine if_pos ?_
  unfold zPss
  rw [decide_eq_true_iff, ← zX_congr hps, ← zY_congr hps]
  unfold zIn
  rw [if_pos ⟨Int32.not_lt.mp h1, Int32.not_lt.mp h2⟩]
end
theorem z09 (p : Int32) : (0 ≤ p ∧ p ≤ 9) ↔ (0 ≤ p ∧ p < 10) := by
  have z9 : (9 : Int32).toInt = 9 := by decide
  have z10 : (10 : Int32).toInt = 10 := by decide
  simp only [zle, zlt, z9, z10]
  omega
theorem z3_of {p : Int32} (h : 0 ≤ p ∧ p ≤ 2) : zB3 p := by
  have z0 : (0 : Int32).toInt = 0 := by decide
  have z1 : (1 : Int32).toInt = 1 := by decide
  have z2 : (2 : Int32).toInt = 2 := by decide
  obtain ⟨a, b⟩ := h
  rw [zle] at a b
  rcases (show p.toInt = 0 ∨ p.toInt = 1 ∨ p.toInt = 2 by omega) with e | e | e
  · exact Or.inl (zext (by rw [e, z0]))
  · exact Or.inr (Or.inl (zext (by rw [e, z1])))
  · exact Or.inr (Or.inr (zext (by rw [e, z2])))
theorem zif_e {P : Prop} [Decidable P] : (if P then (1 : Int32) else 0) = 1 ↔ P := by
  by_cases h : P
  · rw [if_pos h]; exact ⟨fun _ => h, fun _ => rfl⟩
  · rw [if_neg h]; exact ⟨fun q => absurd q (by decide), fun q => absurd q h⟩
/-- the numbers in the ranks are below the bound of those gone through -/
def zTg (B : Nat) (f : Nat) (T : Nat → Nat) : Prop := ∀ r, r < f → r < 10 → T r < B
theorem zDn_tg {B : Nat} {its : Int64} {f : Nat} : ∀ {a : Nat} {K : Nat → Int64} {T : Nat → Nat}, a ≤ f → a ≤ 10 → (∀ r, r < f + 1 → r < 10 → r ≠ a → T r < B) → ∀ r, r < f + 1 → r < 10 → r ≠ (zDn its a K T).1 → (zDn its a K T).2.2 r < B
  | 0, K, T, _, _, h => h
  | a + 1, K, T, h1, h2, h => by
    by_cases c : its < K a
    · rw [zDn_go c]
      refine zDn_tg (a := a) (by omega) (by omega) ?_
      intro r h3 h4 h5
      unfold zMvT
      by_cases h10 : a + 1 < 10
      · rw [if_pos h10]
        unfold va_up
        by_cases e : r = a + 1
        · rw [if_pos e]; exact h a (by omega) (by omega) (by omega)
        · rw [if_neg e]; exact h r h3 h4 e
      · rw [if_neg h10]
        exact h r h3 h4 (by omega)
    · rw [zDn_no c]
      exact h
theorem zDn_le {its : Int64} : ∀ {a : Nat} {K : Nat → Int64} {T : Nat → Nat}, (zDn its a K T).1 ≤ a
  | 0, _, _ => Nat.le_refl 0
  | a + 1, K, T => by
    by_cases c : its < K a
    · rw [zDn_go c]
      exact Nat.le_succ_of_le zDn_le
    · rw [zDn_no c]
      exact Nat.le_refl _
theorem zIns_tg {B tag : Nat} {its : Int64} {st : zRs} (ht : tag < B) (h : zTg B st.1 st.2.2) : zTg B (zIns its tag st).1 (zIns its tag st).2.2 := by
  have h1 := zDn_tg (B := B) (its := its) (f := st.1) (a := if st.1 < 10 then st.1 else 10) (K := st.2.1) (T := st.2.2) (by split <;> omega) (by split <;> omega) (fun r h3 h4 h5 => h r (by split at h5 <;> omega) h4)
  intro r h3 h4
  have h3 : r < st.1 + 1 := h3
  unfold zIns
  show (if (zDm st.1 its st.2.1 st.2.2).1 < 10 then _ else _ : (Nat → Int64) × (Nat → Nat)).2 r < B
  by_cases c : (zDm st.1 its st.2.1 st.2.2).1 < 10
  · rw [if_pos c]
    show va_up _ _ _ r < B
    unfold va_up
    by_cases e : r = (zDm st.1 its st.2.1 st.2.2).1
    · rw [if_pos e]; exact ht
    · rw [if_neg e]; exact h1 r h3 h4 e
  · rw [if_neg c]
    exact h1 r h3 h4 (fun e => c (by rw [show (zDm st.1 its st.2.1 st.2.2).1 = r from e.symm]; exact h4))
theorem zFo_tg {B : Nat} {ps : Nat → Bool} {ky : Nat → Int64} : ∀ {c a : Nat} {st : zRs}, a + c ≤ B → zTg B st.1 st.2.2 → zTg B (zFo ps ky a c st).1 (zFo ps ky a c st).2.2
  | 0, _, _, _, h => h
  | c + 1, a, st, hB, h => by
    refine zFo_tg (c := c) (a := a + 1) (by omega) ?_
    unfold zStp
    split
    · exact zIns_tg (by omega) h
    · exact h
theorem zAll_tag {n : Nat} {kd ln lo hi vl : Nat → Int32} {sl gx gy bq : Int32} (r : Nat) (h1 : r < (zAll kd ln lo hi vl n gx gy sl bq).1) (h2 : r < 10) : (zAll kd ln lo hi vl n gx gy sl bq).2.2 r < zPw lo hi n := by
  by_cases e : n = 0
  · subst e; exact absurd h1 (Nat.not_lt_zero r)
  · rw [← zAll_n e] at h1 ⊢
    have h := zFo_tg (B := zPw lo hi n) (ps := zPss kd ln lo hi n gx gy sl) (ky := zKyy kd ln lo hi vl n gx gy bq) (c := zPw lo hi n) (a := 0) (st := (0, zK0, zT0)) (by omega) (fun r h9 => absurd h9 (Nat.not_lt_zero r))
    exact h r h1 h2
