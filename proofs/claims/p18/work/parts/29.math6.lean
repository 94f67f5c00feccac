/-! poses as numbers, branches, and their ranks -/
def zWd (lo hi : Nat → Int32) (j : Nat) : Nat := (hi j - lo j + 1).toInt.toNat
/-- how many poses the first j joints have -/
def zPw (lo hi : Nat → Int32) : Nat → Nat
  | 0 => 1
  | j + 1 => zPw lo hi j * zWd lo hi j
/-- how many poses c joints have from j on -/
def zMs (lo hi : Nat → Int32) : Nat → Nat → Nat
  | 0, _ => 1
  | c + 1, j => zWd lo hi j * zMs lo hi c (j + 1)
/-- the pose of a number -/
def zPk (lo hi : Nat → Int32) (n k j : Nat) : Int32 := lo j + nI (k / zMs lo hi (n - (j + 1)) (j + 1) % zWd lo hi j)
theorem zMs_tot (lo hi : Nat → Int32) : ∀ c j, zPw lo hi j * zMs lo hi c j = zPw lo hi (j + c)
  | 0, j => Nat.mul_one _
  | c + 1, j => by
    show zPw lo hi j * (zWd lo hi j * zMs lo hi c (j + 1)) = zPw lo hi (j + (c + 1))
    rw [← Nat.mul_assoc]
    have h := zMs_tot lo hi c (j + 1)
    rw [show j + (c + 1) = j + 1 + c by omega, ← h]
    rfl
theorem zMs_step (lo hi : Nat → Int32) {n j : Nat} (h : j < n) : zMs lo hi (n - j) j = zWd lo hi j * zMs lo hi (n - (j + 1)) (j + 1) := by
  rw [show n - j = (n - (j + 1)) + 1 by omega]
  rfl
section
variable {n : Nat} {kd ln lo hi vl : Nat → Int32}
theorem zWd_eq (h : zOk n kd ln lo hi vl) {j : Nat} (hj : j < n) : (zWd lo hi j : Int) = (hi j).toInt - (lo j).toInt + 1 ∧ 1 ≤ zWd lo hi j ∧ zWd lo hi j ≤ 133 := by
  obtain ⟨-, ⟨h1, h2, h3, h4⟩, -⟩ := h.2 j hj
  have z1 : (1 : Int32).toInt = 1 := by decide
  have e1 : (hi j - lo j).toInt = (hi j).toInt - (lo j).toInt := zsub (by omega) (by omega)
  have e2 : (hi j - lo j + 1).toInt = (hi j).toInt - (lo j).toInt + 1 := by rw [zadd (by omega) (by omega)]; omega
  unfold zWd
  rw [e2]
  omega
theorem zWd_nI (h : zOk n kd ln lo hi vl) {j : Nat} (hj : j < n) : hi j - lo j + 1 = nI (zWd lo hi j) := by
  obtain ⟨e, h1, h2⟩ := zWd_eq h hj
  obtain ⟨-, ⟨h3, h4, h5, h6⟩, -⟩ := h.2 j hj
  have z1 : (1 : Int32).toInt = 1 := by decide
  refine zext ?_
  rw [nI_toInt (by omega), zadd (by rw [zsub (by omega) (by omega)]; omega) (by rw [zsub (by omega) (by omega)]; omega), zsub (by omega) (by omega)]
  omega
theorem zMs_pos (h : zOk n kd ln lo hi vl) : ∀ c j, j + c ≤ n → 1 ≤ zMs lo hi c j
  | 0, _, _ => Nat.le_refl 1
  | c + 1, j, hc => by
    have h1 := (zWd_eq h (j := j) (by omega)).2.1
    have h2 := zMs_pos h c (j + 1) (by omega)
    exact Nat.mul_le_mul h1 h2
theorem zPw_pos (h : zOk n kd ln lo hi vl) : ∀ j, j ≤ n → 1 ≤ zPw lo hi j
  | 0, _ => Nat.le_refl 1
  | j + 1, hj => Nat.mul_le_mul (zPw_pos h j (by omega)) (zWd_eq h (j := j) (by omega)).2.1
theorem zPw_mono (h : zOk n kd ln lo hi vl) {i j : Nat} (hij : i ≤ j) (hj : j ≤ n) : zPw lo hi i ≤ zPw lo hi j := by
  have e := zMs_tot lo hi (j - i) i
  rw [show i + (j - i) = j by omega] at e
  rw [← e]
  exact Nat.le_mul_of_pos_right _ (zMs_pos h _ _ (by omega))
theorem zMs_0 (lo hi : Nat → Int32) (n : Nat) : zMs lo hi n 0 = zPw lo hi n := by
  have h := zMs_tot lo hi n 0
  rw [Nat.zero_add] at h
  rw [← h]
  exact (Nat.one_mul _).symm
theorem zMs_le (h : zOk n kd ln lo hi vl) {j : Nat} (hj : j ≤ n) : zMs lo hi (n - j) j ≤ zPw lo hi n := by
  have e := zMs_tot lo hi (n - j) j
  rw [show j + (n - j) = n by omega] at e
  rw [← e]
  exact Nat.le_mul_of_pos_left _ (zPw_pos h j hj)
/-- a value of a joint by how far it is above the lower limit -/
theorem zval (h : zOk n kd ln lo hi vl) {j d : Nat} (hj : j < n) (hd : d ≤ 133) : (lo j + nI d).toInt = (lo j).toInt + d := by
  obtain ⟨-, ⟨h1, h2, h3, h4⟩, -⟩ := h.2 j hj
  have e : (nI d).toInt = d := nI_toInt (by omega)
  rw [zadd (by omega) (by omega), e]
theorem zval_gt (h : zOk n kd ln lo hi vl) {j d : Nat} (hj : j < n) (hd : d ≤ zWd lo hi j) : (hi j < lo j + nI d) ↔ zWd lo hi j ≤ d := by
  obtain ⟨e, h1, h2⟩ := zWd_eq h hj
  rw [zlt, zval h hj (by omega)]
  omega
theorem zPk_in (h : zOk n kd ln lo hi vl) (k : Nat) {j : Nat} (hj : j < n) : (lo j).toInt ≤ (zPk lo hi n k j).toInt ∧ (zPk lo hi n k j).toInt ≤ (hi j).toInt := by
  obtain ⟨e, h1, h2⟩ := zWd_eq h hj
  unfold zPk
  generalize k / zMs lo hi (n - (j + 1)) (j + 1) = q
  have hm : q % zWd lo hi j < zWd lo hi j := Nat.mod_lt _ (by omega)
  rw [zval h hj (by omega)]
  omega
theorem zPk_p (h : zOk n kd ln lo hi vl) (k : Nat) : zPok n (zPk lo hi n k) := fun j hj => by
  obtain ⟨-, ⟨h1, h2, h3, h4⟩, -⟩ := h.2 j hj
  have := zPk_in h k hj
  constructor <;> omega
/-- within the part of the poses that a prefix has, the next joint's value is that of the part's part -/
theorem zPk_at {q d k j : Nat} (h : zOk n kd ln lo hi vl) (hj : j < n) (hd : d < zWd lo hi j) (h1 : (q * zWd lo hi j + d) * zMs lo hi (n - (j + 1)) (j + 1) ≤ k) (h2 : k < (q * zWd lo hi j + d + 1) * zMs lo hi (n - (j + 1)) (j + 1)) : zPk lo hi n k j = lo j + nI d := by
  have hM := zMs_pos h (n - (j + 1)) (j + 1) (by omega)
  unfold zPk
  generalize zMs lo hi (n - (j + 1)) (j + 1) = M at *
  have e : k / M = q * zWd lo hi j + d := by
    rw [Nat.div_eq_iff (by omega)]
    constructor
    · rw [Nat.mul_comm]; rw [Nat.mul_comm] at h1; omega
    · rw [Nat.add_mul] at h2; rw [Nat.mul_comm] at *; omega
  rw [e, Nat.add_comm, Nat.add_mul_mod_self_right, Nat.mod_eq_of_lt hd]
end
/-- how far the values are from those of now, added up -/
def zWy (vl p : Nat → Int32) : Nat → Int32
  | 0 => 0
  | j + 1 => zWy vl p j + zAbs (p j - vl j)
def zHk (a : Int32) : Int32 := if 64 - a < a then 64 - a else a
def zKy (kd ln vl : Nat → Int32) (n : Nat) (gx gy bq : Int32) (p : Nat → Int32) : Int64 := if bq = 0 then zFar gx gy (zX kd ln p n) (zY kd ln p n) else if bq = 1 then (zWy vl p n).toInt64 else (zHk ((zH kd p n - zH kd vl n) &&& 63)).toInt64
theorem zWy_congr {vl p q : Nat → Int32} : ∀ {n : Nat}, (∀ j, j < n → p j = q j) → zWy vl p n = zWy vl q n
  | 0, _ => rfl
  | n + 1, h => by
    show zWy vl p n + _ = zWy vl q n + _
    rw [zWy_congr (n := n) (fun j hj => h j (by omega)), h n (by omega)]
theorem zKy_congr {kd ln vl p q : Nat → Int32} {n : Nat} {gx gy bq : Int32} (h : ∀ j, j < n → p j = q j) : zKy kd ln vl n gx gy bq p = zKy kd ln vl n gx gy bq q := by
  unfold zKy
  rw [zX_congr h, zY_congr h, zH_congr h, zWy_congr h]
abbrev zRs : Type := Nat × (Nat → Int64) × (Nat → Nat)
/-- a place for a key, those above it one down -/
def zDn (its : Int64) : Nat → (Nat → Int64) → (Nat → Nat) → Nat × (Nat → Int64) × (Nat → Nat)
  | 0, K, T => (0, K, T)
  | a + 1, K, T => if its < K a then zDn its a (if a + 1 < 10 then vp_updL K (a + 1) (K a) else K) (if a + 1 < 10 then va_up T (a + 1) (T a) else T) else (a + 1, K, T)
def zDm (f : Nat) (its : Int64) (K : Nat → Int64) (T : Nat → Nat) : Nat × (Nat → Int64) × (Nat → Nat) := zDn its (if f < 10 then f else 10) K T
def zIns (its : Int64) (tag : Nat) (st : zRs) : zRs := (st.1 + 1, if (zDm st.1 its st.2.1 st.2.2).1 < 10 then (vp_updL (zDm st.1 its st.2.1 st.2.2).2.1 (zDm st.1 its st.2.1 st.2.2).1 its, va_up (zDm st.1 its st.2.1 st.2.2).2.2 (zDm st.1 its st.2.1 st.2.2).1 tag) else (zDm st.1 its st.2.1 st.2.2).2)
def zStp (ps : Nat → Bool) (ky : Nat → Int64) (k : Nat) (st : zRs) : zRs := if ps k then zIns (ky k) k st else st
/-- the numbers from a on, c of them, each that passes put in its place -/
def zFo (ps : Nat → Bool) (ky : Nat → Int64) : Nat → Nat → zRs → zRs
  | _, 0, st => st
  | a, c + 1, st => zFo ps ky (a + 1) c (zStp ps ky a st)
theorem zFo_add (ps : Nat → Bool) (ky : Nat → Int64) : ∀ (c d a : Nat) (st : zRs), zFo ps ky a (c + d) st = zFo ps ky (a + c) d (zFo ps ky a c st)
  | 0, d, a, st => by rw [Nat.zero_add]; rfl
  | c + 1, d, a, st => by
    rw [show c + 1 + d = (c + d) + 1 by omega]
    show zFo ps ky (a + 1) (c + d) _ = zFo ps ky (a + (c + 1)) d (zFo ps ky (a + 1) c _)
    rw [zFo_add ps ky c d (a + 1), show a + 1 + c = a + (c + 1) by omega]
theorem zFo_last (ps : Nat → Bool) (ky : Nat → Int64) (a c : Nat) (st : zRs) : zFo ps ky a (c + 1) st = zStp ps ky (a + c) (zFo ps ky a c st) := by
  rw [zFo_add ps ky c 1 a]; rfl
theorem zFo_none {ps : Nat → Bool} {ky : Nat → Int64} : ∀ {c a : Nat} {st : zRs}, (∀ k, a ≤ k → k < a + c → ps k = false) → zFo ps ky a c st = st
  | 0, _, _, _ => rfl
  | c + 1, a, st, h => by
    show zFo ps ky (a + 1) c (zStp ps ky a st) = st
    have e : zStp ps ky a st = st := by
      unfold zStp
      rw [if_neg (by rw [h a (Nat.le_refl a) (by omega)]; decide)]
    rw [e]
    exact zFo_none (fun k h1 h2 => h k (by omega) (by omega))
theorem zFo_cnt {ps : Nat → Bool} {ky ky' : Nat → Int64} : ∀ {c a : Nat} {st st' : zRs}, st.1 = st'.1 → (zFo ps ky a c st).1 = (zFo ps ky' a c st').1
  | 0, _, _, _, h => h
  | c + 1, a, st, st', h => by
    refine zFo_cnt (c := c) ?_
    unfold zStp
    split
    · show st.1 + 1 = st'.1 + 1
      rw [h]
    · exact h
theorem zFo_le {ps : Nat → Bool} {ky : Nat → Int64} : ∀ {c a : Nat} {st : zRs}, (zFo ps ky a c st).1 ≤ st.1 + c
  | 0, _, _ => Nat.le_refl _
  | c + 1, a, st => by
    have h : (zStp ps ky a st).1 ≤ st.1 + 1 := by
      unfold zStp
      split
      · exact Nat.le_refl _
      · omega
    have h2 := zFo_le (ps := ps) (ky := ky) (c := c) (a := a + 1) (st := zStp ps ky a st)
    show (zFo ps ky (a + 1) c (zStp ps ky a st)).1 ≤ _
    omega
/-- the class's rows: row r, five places each, holds the pose of the number -/
def zRK (n : Nat) (P : Nat → Nat → Int32) (f : Nat) (K : Nat → Int64) (T : Nat → Nat) (Kc : Nat → Int64) (R : Nat → Int32) : Prop := ∀ r, r < f → r < 10 → Kc r = K r ∧ ∀ j, j < n → R (r * 5 + j) = P (T r) j
/-- the same but for a place that is free -/
def zRKh (n : Nat) (P : Nat → Nat → Int32) (f a : Nat) (K : Nat → Int64) (T : Nat → Nat) (Kc : Nat → Int64) (R : Nat → Int32) : Prop := ∀ r, r < f → r < 10 → r ≠ a → Kc r = K r ∧ ∀ j, j < n → R (r * 5 + j) = P (T r) j
/-- the reference's row of numbers -/
def zRW (f : Nat) (K : Nat → Int64) (T : Nat → Nat) (Kc : Nat → Int64) (wh : Nat → Int32) : Prop := ∀ r, r < f → r < 10 → Kc r = K r ∧ wh r = nI (T r)
def zRWh (f a : Nat) (K : Nat → Int64) (T : Nat → Nat) (Kc : Nat → Int64) (wh : Nat → Int32) : Prop := ∀ r, r < f → r < 10 → r ≠ a → Kc r = K r ∧ wh r = nI (T r)
theorem zRKh_0 {n : Nat} {P : Nat → Nat → Int32} {f : Nat} {K : Nat → Int64} {T : Nat → Nat} {Kc : Nat → Int64} {R : Nat → Int32} (h : zRK n P f K T Kc R) : zRKh n P (f + 1) (if f < 10 then f else 10) K T Kc R := by
  intro r h1 h2 h3
  refine h r ?_ h2
  split at h3 <;> omega
theorem zRWh_0 {f : Nat} {K : Nat → Int64} {T : Nat → Nat} {Kc : Nat → Int64} {wh : Nat → Int32} (h : zRW f K T Kc wh) : zRWh (f + 1) (if f < 10 then f else 10) K T Kc wh := by
  intro r h1 h2 h3
  refine h r ?_ h2
  split at h3 <;> omega
def zMvK (a : Nat) (K : Nat → Int64) : Nat → Int64 := if a + 1 < 10 then vp_updL K (a + 1) (K a) else K
def zMvT (a : Nat) (T : Nat → Nat) : Nat → Nat := if a + 1 < 10 then va_up T (a + 1) (T a) else T
def zMvR (a : Nat) (R : Nat → Int32) : Nat → Int32 := if a + 1 < 10 then va_cpy R R (a * 5) ((a + 1) * 5) 5 else R
def zMvW (a : Nat) (wh : Nat → Int32) : Nat → Int32 := if a + 1 < 10 then upd wh (a + 1) (wh a) else wh
theorem zRKh_mv {n : Nat} {P : Nat → Nat → Int32} {f a : Nat} {K : Nat → Int64} {T : Nat → Nat} {Kc : Nat → Int64} {R : Nat → Int32} (hn : n ≤ 5) (ha : a < f) (ha2 : a < 10) (h : zRKh n P f (a + 1) K T Kc R) : zRKh n P f a (zMvK a K) (zMvT a T) (zMvK a Kc) (zMvR a R) := by
  intro r h1 h2 h3
  unfold zMvK zMvT zMvR
  by_cases hr : r = a + 1
  · subst hr
    obtain ⟨e1, e2⟩ := h a ha ha2 (by omega)
    rw [if_pos h2, if_pos h2, if_pos h2, if_pos h2, pk_uLs, pk_uLs]
    refine ⟨e1, fun j hj => ?_⟩
    rw [pk_cpy_in (by omega) (by omega)]
    rw [show a * 5 + ((a + 1) * 5 + j - (a + 1) * 5) = a * 5 + j by omega, e2 j hj]
    show _ = P (va_up T (a + 1) (T a) (a + 1)) j
    unfold va_up
    rw [if_pos rfl]
  · obtain ⟨e1, e2⟩ := h r h1 h2 hr
    by_cases hc : a + 1 < 10
    · rw [if_pos hc, if_pos hc, if_pos hc, if_pos hc, pk_uLn hr, pk_uLn hr]
      refine ⟨e1, fun j hj => ?_⟩
      rw [pk_cpy_out (by omega), e2 j hj]
      unfold va_up
      rw [if_neg hr]
    · rw [if_neg hc, if_neg hc, if_neg hc, if_neg hc]
      exact ⟨e1, e2⟩
theorem zRWh_mv {f a : Nat} {K : Nat → Int64} {T : Nat → Nat} {Kc : Nat → Int64} {wh : Nat → Int32} (ha : a < f) (ha2 : a < 10) (h : zRWh f (a + 1) K T Kc wh) : zRWh f a (zMvK a K) (zMvT a T) (zMvK a Kc) (zMvW a wh) := by
  intro r h1 h2 h3
  unfold zMvK zMvT zMvW
  by_cases hr : r = a + 1
  · subst hr
    obtain ⟨e1, e2⟩ := h a ha ha2 (by omega)
    rw [if_pos h2, if_pos h2, if_pos h2, if_pos h2, pk_uLs, pk_uLs, pk_us]
    refine ⟨e1, ?_⟩
    rw [e2]
    unfold va_up
    rw [if_pos rfl]
  · obtain ⟨e1, e2⟩ := h r h1 h2 hr
    by_cases hc : a + 1 < 10
    · rw [if_pos hc, if_pos hc, if_pos hc, if_pos hc, pk_uLn hr, pk_uLn hr, pk_un hr]
      refine ⟨e1, ?_⟩
      rw [e2]
      unfold va_up
      rw [if_neg hr]
    · rw [if_neg hc, if_neg hc, if_neg hc, if_neg hc]
      exact ⟨e1, e2⟩
theorem zDn_go {its : Int64} {a : Nat} {K : Nat → Int64} {T : Nat → Nat} (h : its < K a) : zDn its (a + 1) K T = zDn its a (zMvK a K) (zMvT a T) := by
  show (if _ then _ else _) = _
  rw [if_pos h]
  rfl
theorem zDn_no {its : Int64} {a : Nat} {K : Nat → Int64} {T : Nat → Nat} (h : ¬ its < K a) : zDn its (a + 1) K T = (a + 1, K, T) := by
  show (if _ then _ else _) = _
  rw [if_neg h]
theorem zRK_end {n : Nat} {P : Nat → Nat → Int32} {f a tag : Nat} {its : Int64} {K K' : Nat → Int64} {T T' : Nat → Nat} {Kc : Nat → Int64} {R po : Nat → Int32} (hn : n ≤ 5) (ha : a < 10) (hz : zDm f its K T = (a, K', T')) (h : zRKh n P (f + 1) a K' T' Kc R) (hp : ∀ j, j < n → po j = P tag j) : zRK n P (zIns its tag (f, K, T)).1 (zIns its tag (f, K, T)).2.1 (zIns its tag (f, K, T)).2.2 (vp_updL Kc a its) (va_cpy po R 0 (a * 5) 5) := by
  unfold zIns
  simp only [hz]
  rw [if_pos ha]
  show zRK n P (f + 1) (vp_updL K' a its) (va_up T' a tag) _ _
  intro r h1 h2
  by_cases hr : r = a
  · subst hr
    rw [pk_uLs, pk_uLs]
    refine ⟨rfl, fun j hj => ?_⟩
    rw [pk_cpy_in (by omega) (by omega), show 0 + (r * 5 + j - r * 5) = j by omega, hp j hj]
    show _ = P (va_up T' r tag r) j
    unfold va_up
    rw [if_pos rfl]
  · obtain ⟨e1, e2⟩ := h r h1 h2 hr
    rw [pk_uLn hr, pk_uLn hr]
    refine ⟨e1, fun j hj => ?_⟩
    rw [pk_cpy_out (by omega), e2 j hj]
    show _ = P (va_up T' a tag r) j
    unfold va_up
    rw [if_neg hr]
theorem zRK_end2 {n : Nat} {P : Nat → Nat → Int32} {f a tag : Nat} {its : Int64} {K K' : Nat → Int64} {T T' : Nat → Nat} {Kc : Nat → Int64} {R : Nat → Int32} (ha : ¬ a < 10) (hz : zDm f its K T = (a, K', T')) (h : zRKh n P (f + 1) a K' T' Kc R) : zRK n P (zIns its tag (f, K, T)).1 (zIns its tag (f, K, T)).2.1 (zIns its tag (f, K, T)).2.2 Kc R := by
  unfold zIns
  simp only [hz]
  rw [if_neg ha]
  exact fun r h1 h2 => h r h1 h2 (by omega)
theorem zRW_end {f a tag : Nat} {its : Int64} {K K' : Nat → Int64} {T T' : Nat → Nat} {Kc : Nat → Int64} {wh : Nat → Int32} (ha : a < 10) (hz : zDm f its K T = (a, K', T')) (h : zRWh (f + 1) a K' T' Kc wh) : zRW (zIns its tag (f, K, T)).1 (zIns its tag (f, K, T)).2.1 (zIns its tag (f, K, T)).2.2 (vp_updL Kc a its) (upd wh a (nI tag)) := by
  unfold zIns
  simp only [hz]
  rw [if_pos ha]
  show zRW (f + 1) (vp_updL K' a its) (va_up T' a tag) _ _
  intro r h1 h2
  by_cases hr : r = a
  · subst hr
    rw [pk_uLs, pk_uLs, pk_us]
    refine ⟨rfl, ?_⟩
    show _ = nI (va_up T' r tag r)
    unfold va_up
    rw [if_pos rfl]
  · obtain ⟨e1, e2⟩ := h r h1 h2 hr
    rw [pk_uLn hr, pk_uLn hr, pk_un hr]
    refine ⟨e1, ?_⟩
    rw [e2]
    show _ = nI (va_up T' a tag r)
    unfold va_up
    rw [if_neg hr]
theorem zRW_end2 {f a tag : Nat} {its : Int64} {K K' : Nat → Int64} {T T' : Nat → Nat} {Kc : Nat → Int64} {wh : Nat → Int32} (ha : ¬ a < 10) (hz : zDm f its K T = (a, K', T')) (h : zRWh (f + 1) a K' T' Kc wh) : zRW (zIns its tag (f, K, T)).1 (zIns its tag (f, K, T)).2.1 (zIns its tag (f, K, T)).2.2 Kc wh := by
  unfold zIns
  simp only [hz]
  rw [if_neg ha]
  exact fun r h1 h2 => h r h1 h2 (by omega)
theorem zle0 {a : Nat} (h : a < 2147483648) : nI a ≤ 0 ↔ a = 0 := by
  have e : (nI a).toInt = a := nI_toInt h
  have z0 : (0 : Int32).toInt = 0 := by decide
  rw [zle, e, z0]
  omega
