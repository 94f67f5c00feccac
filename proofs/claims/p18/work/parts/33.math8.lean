section
variable {n : Nat} {kd ln lo hi vl po xf yf hf wf rc : Nat → Int32} {sl gx gy bq : Int32} {st : zRs} {q j t : Nat}
theorem zrec_q (hj : j < n) (ht : t < zWd lo hi j) (hq : (q + 1) * zMs lo hi (n - j) j ≤ zPw lo hi n) : (q * zWd lo hi j + t + 1) * zMs lo hi (n - (j + 1)) (j + 1) ≤ zPw lo hi n := by
  rw [zMs_step lo hi hj, ← Nat.mul_assoc] at hq
  refine Nat.le_trans (Nat.mul_le_mul_right _ ?_) hq
  rw [Nat.add_mul, Nat.one_mul]
  omega
theorem zrec_s (hj : j < n) : q * zMs lo hi (n - j) j + t * zMs lo hi (n - (j + 1)) (j + 1) = (q * zWd lo hi j + t) * zMs lo hi (n - (j + 1)) (j + 1) := by
  rw [zMs_step lo hi hj, ← Nat.mul_assoc, ← Nat.add_mul]
theorem zrec_f {f f1 : Nat} (hj : j < n) (hfs : f = st.1) (hfq : f ≤ q * zMs lo hi (n - j) j) (hf1 : f1 = (zGt kd ln lo hi vl n gx gy sl bq (q * zMs lo hi (n - j) j) (t * zMs lo hi (n - (j + 1)) (j + 1)) st).1) : f1 ≤ (q * zWd lo hi j + t) * zMs lo hi (n - (j + 1)) (j + 1) := by
  rw [← zrec_s hj, hf1]
  have h : (zGt kd ln lo hi vl n gx gy sl bq (q * zMs lo hi (n - j) j) (t * zMs lo hi (n - (j + 1)) (j + 1)) st).1 ≤ st.1 + t * zMs lo hi (n - (j + 1)) (j + 1) := zFo_le
  omega
theorem zrec_fo (hj : j < n) : zGt kd ln lo hi vl n gx gy sl bq ((q * zWd lo hi j + t) * zMs lo hi (n - (j + 1)) (j + 1)) (zMs lo hi (n - (j + 1)) (j + 1)) (zGt kd ln lo hi vl n gx gy sl bq (q * zMs lo hi (n - j) j) (t * zMs lo hi (n - (j + 1)) (j + 1)) st) = zGt kd ln lo hi vl n gx gy sl bq (q * zMs lo hi (n - j) j) ((t + 1) * zMs lo hi (n - (j + 1)) (j + 1)) st := by
  rw [← zrec_s hj, Nat.add_mul t 1, Nat.one_mul]
  exact (zFo_add _ _ _ _ _ _).symm
theorem zrec_pre {po1 : Nat → Int32} (hok : zOk n kd ln lo hi vl) (hj : j < n) (ht : t < zWd lo hi j) (hpre : ∀ k, q * zMs lo hi (n - j) j ≤ k → k < (q + 1) * zMs lo hi (n - j) j → ∀ i, i < j → po i = zPk lo hi n k i) (hk : ∀ i, i < j → po1 i = po i) : ∀ k, (q * zWd lo hi j + t) * zMs lo hi (n - (j + 1)) (j + 1) ≤ k → k < (q * zWd lo hi j + t + 1) * zMs lo hi (n - (j + 1)) (j + 1) → ∀ i, i < j + 1 → upd po1 j (lo j + nI t) i = zPk lo hi n k i := by
  intro k h1 h2 i hi'
  by_cases e : i = j
  · subst e
    rw [pk_us]
    exact (zPk_at hok hj ht h1 h2).symm
  · rw [pk_un e, hk i (by omega)]
    refine hpre k ?_ ?_ i (by omega)
    · refine Nat.le_trans ?_ h1
      rw [← zrec_s hj]
      exact Nat.le_add_right _ _
    · refine Nat.lt_of_lt_of_le h2 ?_
      rw [zMs_step lo hi hj, ← Nat.mul_assoc]
      refine Nat.mul_le_mul_right _ ?_
      rw [Nat.add_mul, Nat.one_mul]
      omega
/-- the key as the class finds it -/
def zKc (vl kd xf yf hf wf : Nat → Int32) (n : Nat) (gx gy bq : Int32) : Int64 := if bq = 0 then zFar gx gy (xf n) (yf n) else if bq = 1 then (wf n).toInt64 else (zHk ((hf n - zH kd vl n) &&& 63)).toInt64
theorem zKc_eq (hld : zLd kd ln vl po xf yf hf wf n) : zKc vl kd xf yf hf wf n gx gy bq = zKy kd ln vl n gx gy bq po := by
  obtain ⟨h1, h2, h3, h4⟩ := hld
  unfold zKc zKy
  rw [h1, h2, h3, h4]
theorem zleaf_t (hrc : ∀ i, i ≤ n → rc i = zRe kd ln hi sl (n - i) i) (hld : zLd kd ln vl po xf yf hf wf n) (hpre : ∀ k, q * zMs lo hi (n - n) n ≤ k → k < (q + 1) * zMs lo hi (n - n) n → ∀ i, i < n → po i = zPk lo hi n k i) (hin : ¬ zIn (rc n) gx gy (xf n) (yf n) = 0) : zGt kd ln lo hi vl n gx gy sl bq (q * zMs lo hi (n - n) n) (zMs lo hi (n - n) n) st = zIns (zKc vl kd xf yf hf wf n gx gy bq) q st := by
  have e := zpre_1 hpre
  rw [zGt_1, zKc_eq hld, zKy_congr e]
  unfold zStp
  refine if_pos ?_
  unfold zPss
  refine decide_eq_true ?_
  have h1 := (zIn_01 (rc n) gx gy (xf n) (yf n)).resolve_left hin
  rw [hld.1, hld.2.1, hrc n (Nat.le_refl n), Nat.sub_self, zX_congr e, zY_congr e] at h1
  exact h1
theorem zleaf_f (hok : zOk n kd ln lo hi vl) (hs : 0 ≤ sl.toInt ∧ sl.toInt ≤ 100000) (hgx : zB 1000000 gx) (hgy : zB 1000000 gy) (hj : j ≤ n) (hrc : ∀ i, i ≤ n → rc i = zRe kd ln hi sl (n - i) i) (hld : zLd kd ln vl po xf yf hf wf j) (hpre : ∀ k, q * zMs lo hi (n - j) j ≤ k → k < (q + 1) * zMs lo hi (n - j) j → ∀ i, i < j → po i = zPk lo hi n k i) (hin : zIn (rc j) gx gy (xf j) (yf j) = 0) : zGt kd ln lo hi vl n gx gy sl bq (q * zMs lo hi (n - j) j) (zMs lo hi (n - j) j) st = st := by
  refine zGt_none hok hs hgx hgy hj hpre ?_
  rw [← hrc j hj, ← hld.1, ← hld.2.1, hin]
  decide
end
