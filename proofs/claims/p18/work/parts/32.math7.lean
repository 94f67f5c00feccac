/-! the way through all poses: what can't come within the slack any more is left out -/
theorem zroom {a b x y x' y' : Nat} (h : a < b) : (zRm a x y).frames + 1 ≤ (zRm b x' y').frames := by
  show 8 * a + 8 + 1 ≤ 8 * b + 8
  omega
theorem zrooml {a b x y x' y' k : Nat} (h : a < b) (hk : k ≤ 400) : 8 + (k + 11) + (zRm a x y).locals ≤ (zRm b x' y').locals := by
  show 8 + (k + 11) + (500 * a + 500) ≤ 500 * b + 500
  omega
/-- how far off x or y may be ahead of joint j, c joints being left -/
def zRe (kd ln hi : Nat → Int32) (sl : Int32) : Nat → Nat → Int32
  | 0, _ => sl
  | c + 1, j => zRe kd ln hi sl c (j + 1) + 1000 * zDist kd ln j (hi j)
theorem zRe_up {kd ln hi rc : Nat → Int32} {sl : Int32} {n k : Nat} (hk : k < n) (h : ∀ j, k + 1 ≤ j → j ≤ n → rc j = zRe kd ln hi sl (n - j) j) : ∀ j, k ≤ j → j ≤ n → upd rc k (rc (k + 1) + 1000 * zDist kd ln k (hi k)) j = zRe kd ln hi sl (n - j) j := by
  intro j h1 h2
  by_cases e : j = k
  · subst e
    rw [pk_us, h (j + 1) (by omega) (by omega), show n - j = (n - (j + 1)) + 1 by omega]
    rfl
  · rw [pk_un e]
    exact h j (by omega) h2
theorem zAbs_i {x : Int32} (h : -2147483648 < x.toInt) : ((zAbs x).toInt = x.toInt ∧ 0 ≤ x.toInt) ∨ ((zAbs x).toInt = -x.toInt ∧ x.toInt < 0) := by
  have h2 := Int32.toInt_lt x
  have z0 : (0 : Int32).toInt = 0 := by decide
  unfold zAbs
  by_cases c : (0 : Int32) ≤ x
  · rw [if_pos c]
    rw [zle, z0] at c
    exact Or.inl ⟨rfl, c⟩
  · rw [if_neg c]
    rw [zle, z0] at c
    refine Or.inr ⟨?_, by omega⟩
    rw [zsub (by omega) (by omega), z0]
    omega
theorem zIn_1 {ms gx gy x y : Int32} (hx : zB 2000000 x) (hy : zB 2000000 y) (hgx : zB 1000000 gx) (hgy : zB 1000000 gy) : zIn ms gx gy x y = 1 ↔ (-ms.toInt ≤ x.toInt - gx.toInt ∧ x.toInt - gx.toInt ≤ ms.toInt) ∧ (-ms.toInt ≤ y.toInt - gy.toInt ∧ y.toInt - gy.toInt ≤ ms.toInt) := by
  obtain ⟨a1, a2⟩ := hx
  obtain ⟨b1, b2⟩ := hy
  obtain ⟨c1, c2⟩ := hgx
  obtain ⟨d1, d2⟩ := hgy
  have e1 : (x - gx).toInt = x.toInt - gx.toInt := zsub (by omega) (by omega)
  have e2 : (y - gy).toInt = y.toInt - gy.toInt := zsub (by omega) (by omega)
  have f1 := zAbs_i (x := x - gx) (by omega)
  have f2 := zAbs_i (x := y - gy) (by omega)
  have key : (zAbs (x - gx) ≤ ms ∧ zAbs (y - gy) ≤ ms) ↔ (-ms.toInt ≤ x.toInt - gx.toInt ∧ x.toInt - gx.toInt ≤ ms.toInt) ∧ (-ms.toInt ≤ y.toInt - gy.toInt ∧ y.toInt - gy.toInt ≤ ms.toInt) := by
    rw [zle, zle]
    omega
  unfold zIn
  rw [← key]
  by_cases h : zAbs (x - gx) ≤ ms ∧ zAbs (y - gy) ≤ ms
  · rw [if_pos h]
    exact ⟨fun _ => h, fun _ => rfl⟩
  · rw [if_neg h]
    exact ⟨fun q => absurd q (by decide), fun q => absurd q h⟩
theorem zIn_01 (ms gx gy x y : Int32) : zIn ms gx gy x y = 0 ∨ zIn ms gx gy x y = 1 := by
  unfold zIn
  split
  · exact Or.inr rfl
  · exact Or.inl rfl
section
variable {n : Nat} {kd ln lo hi vl p : Nat → Int32} {sl gx gy : Int32}
theorem zDist_hi (h : zOk n kd ln lo hi vl) (hp : ∀ j, j < n → (lo j).toInt ≤ (p j).toInt ∧ (p j).toInt ≤ (hi j).toInt) {j : Nat} (hj : j < n) : 0 ≤ (zDist kd ln j (p j)).toInt ∧ (zDist kd ln j (p j)).toInt ≤ (zDist kd ln j (hi j)).toInt ∧ (zDist kd ln j (hi j)).toInt ≤ 300 := by
  obtain ⟨⟨a1, a2⟩, ⟨h1, h2, h3, h4⟩, h5⟩ := h.2 j hj
  have h6 := hp j hj
  unfold zDist
  by_cases c : kd j = 0
  · rw [if_pos c, if_pos c]; omega
  · rw [if_neg c, if_neg c]
    have h7 := h5 c
    rw [zadd (by omega) (by omega), zadd (by omega) (by omega)]
    omega
theorem zRe_bd (h : zOk n kd ln lo hi vl) (hs : 0 ≤ sl.toInt ∧ sl.toInt ≤ 100000) : ∀ c j, j + c = n → 0 ≤ (zRe kd ln hi sl c j).toInt ∧ (zRe kd ln hi sl c j).toInt ≤ 100000 + 300000 * c
  | 0, _, _ => by
    show 0 ≤ sl.toInt ∧ sl.toInt ≤ _
    omega
  | c + 1, j, e => by
    have hn := h.1
    have ih := zRe_bd h hs c (j + 1) (by omega)
    have hd := zDist_hi (p := hi) h (fun i hi' => by
      obtain ⟨-, ⟨h1, h2, h3, h4⟩, -⟩ := h.2 i hi'
      omega) (j := j) (by omega)
    have z : (1000 : Int32).toInt = 1000 := by decide
    have e1 : (1000 * zDist kd ln j (hi j)).toInt = 1000 * (zDist kd ln j (hi j)).toInt := by
      rw [zmul (by rw [z]; omega) (by rw [z]; omega), z]
    show 0 ≤ (zRe kd ln hi sl c (j + 1) + 1000 * zDist kd ln j (hi j)).toInt ∧ (zRe kd ln hi sl c (j + 1) + 1000 * zDist kd ln j (hi j)).toInt ≤ _
    rw [zadd (by omega) (by omega), e1]
    omega
theorem zRe_i (h : zOk n kd ln lo hi vl) (hs : 0 ≤ sl.toInt ∧ sl.toInt ≤ 100000) {c j : Nat} (e : j + (c + 1) = n) : (zRe kd ln hi sl (c + 1) j).toInt = (zRe kd ln hi sl c (j + 1)).toInt + 1000 * (zDist kd ln j (hi j)).toInt := by
  have hn := h.1
  have ih := zRe_bd h hs c (j + 1) (by omega)
  have hd := zDist_hi (p := hi) h (fun i hi' => by
    obtain ⟨-, ⟨h1, h2, h3, h4⟩, -⟩ := h.2 i hi'
    omega) (j := j) (by omega)
  have z : (1000 : Int32).toInt = 1000 := by decide
  have e1 : (1000 * zDist kd ln j (hi j)).toInt = 1000 * (zDist kd ln j (hi j)).toInt := by
    rw [zmul (by rw [z]; omega) (by rw [z]; omega), z]
  show (zRe kd ln hi sl c (j + 1) + 1000 * zDist kd ln j (hi j)).toInt = _
  rw [zadd (by omega) (by omega), e1]
theorem zpr {d c : Int} (hd : 0 ≤ d) (hc : -1000 ≤ c ∧ c ≤ 1000) : -(1000 * d) ≤ d * c ∧ d * c ≤ 1000 * d := by
  have h := zprod_bd (a := d) (b := c) (A := d) (B := 1000) (by omega) (by omega) hd (by omega)
  rw [Int.mul_comm d 1000] at h
  exact h
/-- where the whole comes within the slack, each part comes within its reach -/
theorem zprune (h : zOk n kd ln lo hi vl) (hs : 0 ≤ sl.toInt ∧ sl.toInt ≤ 100000) (hgx : zB 1000000 gx) (hgy : zB 1000000 gy) (hp : ∀ j, j < n → (lo j).toInt ≤ (p j).toInt ∧ (p j).toInt ≤ (hi j).toInt) (hin : zIn sl gx gy (zX kd ln p n) (zY kd ln p n) = 1) : ∀ c j, j + c = n → zIn (zRe kd ln hi sl c j) gx gy (zX kd ln p j) (zY kd ln p j) = 1
  | 0, j, e => by
    have e : j = n := by omega
    subst e
    exact hin
  | c + 1, j, e => by
    have hn := h.1
    have hpk : zPok n p := fun i hi' => by
      obtain ⟨-, ⟨h1, h2, h3, h4⟩, -⟩ := h.2 i hi'
      have := hp i hi'
      constructor <;> omega
    have hl' : ∀ m, m ≤ n → zLok m ln := fun m hm i hi' => h.l i (by omega)
    have hp' : ∀ m, m ≤ n → zPok m p := fun m hm i hi' => hpk i (by omega)
    have ih := zprune h hs hgx hgy hp hin c (j + 1) (by omega)
    have bx1 := zXb (kd := kd) (n := j + 1) (by omega) (hl' _ (by omega)) (hp' _ (by omega))
    have by1 := zYb (kd := kd) (n := j + 1) (by omega) (hl' _ (by omega)) (hp' _ (by omega))
    have bx0 := zXb (kd := kd) (n := j) (by omega) (hl' _ (by omega)) (hp' _ (by omega))
    have by0 := zYb (kd := kd) (n := j) (by omega) (hl' _ (by omega)) (hp' _ (by omega))
    rw [zIn_1 bx1 by1 hgx hgy] at ih
    rw [zIn_1 bx0 by0 hgx hgy, zRe_i h hs e]
    have hd := zDist_hi h hp (j := j) (by omega)
    have t1 := zterm_bd (d := zDist kd ln j (p j)) (c := zcs (zH kd p (j + 1))) (by omega) (zcs_bd _)
    have t2 := zterm_bd (d := zDist kd ln j (p j)) (c := zsn (zH kd p (j + 1))) (by omega) (zsn_bd _)
    have u1 := zpr (d := (zDist kd ln j (p j)).toInt) (c := (zcs (zH kd p (j + 1))).toInt) hd.1 (zcs_bd _)
    have u2 := zpr (d := (zDist kd ln j (p j)).toInt) (c := (zsn (zH kd p (j + 1))).toInt) hd.1 (zsn_bd _)
    obtain ⟨q1, q2⟩ := bx0
    obtain ⟨q3, q4⟩ := by0
    have x1 : (zX kd ln p (j + 1)).toInt = (zX kd ln p j).toInt + (zDist kd ln j (p j) * zcs (zH kd p (j + 1))).toInt := by
      show (zX kd ln p j + _).toInt = _
      exact zadd (by omega) (by omega)
    have y1 : (zY kd ln p (j + 1)).toInt = (zY kd ln p j).toInt + (zDist kd ln j (p j) * zsn (zH kd p (j + 1))).toInt := by
      show (zY kd ln p j + _).toInt = _
      exact zadd (by omega) (by omega)
    rw [x1, y1, t1.1, t2.1] at ih
    omega
end
/-- which numbers pass; their keys -/
def zPss (kd ln lo hi : Nat → Int32) (n : Nat) (gx gy sl : Int32) (k : Nat) : Bool := decide (zIn sl gx gy (zX kd ln (zPk lo hi n k) n) (zY kd ln (zPk lo hi n k) n) = 1)
def zKyy (kd ln lo hi vl : Nat → Int32) (n : Nat) (gx gy bq : Int32) (k : Nat) : Int64 := zKy kd ln vl n gx gy bq (zPk lo hi n k)
/-- the ranks behind the numbers from a on, c of them -/
abbrev zGt (kd ln lo hi vl : Nat → Int32) (n : Nat) (gx gy sl bq : Int32) (a c : Nat) (st : zRs) : zRs := zFo (zPss kd ln lo hi n gx gy sl) (zKyy kd ln lo hi vl n gx gy bq) a c st
section
variable {n : Nat} {kd ln lo hi vl po : Nat → Int32} {sl gx gy bq : Int32}
theorem zpre_1 {q : Nat} (hpre : ∀ k, q * zMs lo hi (n - n) n ≤ k → k < (q + 1) * zMs lo hi (n - n) n → ∀ i, i < n → po i = zPk lo hi n k i) : ∀ i, i < n → po i = zPk lo hi n q i := by
  have e : zMs lo hi (n - n) n = 1 := by rw [Nat.sub_self]; rfl
  rw [e] at hpre
  exact hpre q (by omega) (by omega)
theorem zGt_1 {q : Nat} {st : zRs} : zGt kd ln lo hi vl n gx gy sl bq (q * zMs lo hi (n - n) n) (zMs lo hi (n - n) n) st = zStp (zPss kd ln lo hi n gx gy sl) (zKyy kd ln lo hi vl n gx gy bq) q st := by
  have e : zMs lo hi (n - n) n = 1 := by rw [Nat.sub_self]; rfl
  rw [e, Nat.mul_one]
  rfl
/-- a part that is out of reach holds no branch -/
theorem zGt_none (h : zOk n kd ln lo hi vl) (hs : 0 ≤ sl.toInt ∧ sl.toInt ≤ 100000) (hgx : zB 1000000 gx) (hgy : zB 1000000 gy) {q j : Nat} {st : zRs} (hj : j ≤ n) (hpre : ∀ k, q * zMs lo hi (n - j) j ≤ k → k < (q + 1) * zMs lo hi (n - j) j → ∀ i, i < j → po i = zPk lo hi n k i) (hin : ¬ zIn (zRe kd ln hi sl (n - j) j) gx gy (zX kd ln po j) (zY kd ln po j) = 1) : zGt kd ln lo hi vl n gx gy sl bq (q * zMs lo hi (n - j) j) (zMs lo hi (n - j) j) st = st := by
  refine zFo_none fun k h1 h2 => ?_
  unfold zPss
  refine decide_eq_false fun hc => hin ?_
  have h3 := zprune h hs hgx hgy (fun i hi' => zPk_in h k hi') hc (n - j) j (by omega)
  have e : ∀ i, i < j → po i = zPk lo hi n k i := hpre k h1 (by rw [Nat.add_mul, Nat.one_mul]; exact h2)
  rw [zX_congr e, zY_congr e]
  exact h3
/-- what holds at a joint of the arrays that lead there -/
def zLd (kd ln vl po xf yf hf wf : Nat → Int32) (j : Nat) : Prop := xf j = zX kd ln po j ∧ yf j = zY kd ln po j ∧ hf j = zH kd po j ∧ wf j = zWy vl po j
theorem zLd_step {xf yf hf wf : Nat → Int32} {j : Nat} {v : Int32} (h : zLd kd ln vl po xf yf hf wf j) : zLd kd ln vl (upd po j v) (upd xf (j + 1) (xf j + zDist kd ln j v * zcs ((hf j + zTurn kd j v) &&& 63))) (upd yf (j + 1) (yf j + zDist kd ln j v * zsn ((hf j + zTurn kd j v) &&& 63))) (upd hf (j + 1) ((hf j + zTurn kd j v) &&& 63)) (upd wf (j + 1) (wf j + zAbs (v - vl j))) (j + 1) := by
  obtain ⟨h1, h2, h3, h4⟩ := h
  have e : ∀ i, i < j → po i = upd po j v i := fun i hi' => (pk_un (by omega)).symm
  have ej : upd po j v j = v := pk_us
  have eh : zH kd (upd po j v) (j + 1) = (hf j + zTurn kd j v) &&& 63 := by
    show (zH kd (upd po j v) j + zTurn kd j (upd po j v j)) &&& 63 = _
    rw [ej, ← zH_congr e, h3]
  refine ⟨?_, ?_, ?_, ?_⟩
  · rw [pk_us]
    show _ = zX kd ln (upd po j v) j + zDist kd ln j (upd po j v j) * zcs (zH kd (upd po j v) (j + 1))
    rw [ej, eh, ← zX_congr e, h1]
  · rw [pk_us]
    show _ = zY kd ln (upd po j v) j + zDist kd ln j (upd po j v j) * zsn (zH kd (upd po j v) (j + 1))
    rw [ej, eh, ← zY_congr e, h2]
  · rw [pk_us, eh]
  · rw [pk_us]
    show _ = zWy vl (upd po j v) j + zAbs (upd po j v j - vl j)
    rw [ej, ← zWy_congr e, h4]
/-- the rows ahead of j stay, and what leads to j -/
def zKp (po xf yf hf wf po2 xf2 yf2 hf2 wf2 : Nat → Int32) (j : Nat) : Prop := (∀ i, i < j → po2 i = po i) ∧ ∀ i, i ≤ j → xf2 i = xf i ∧ yf2 i = yf i ∧ hf2 i = hf i ∧ wf2 i = wf i
theorem zKp_rf {po xf yf hf wf : Nat → Int32} {j : Nat} : zKp po xf yf hf wf po xf yf hf wf j := ⟨fun _ _ => rfl, fun _ _ => ⟨rfl, rfl, rfl, rfl⟩⟩
theorem zKp_up {po xf yf hf wf po2 xf2 yf2 hf2 wf2 po3 xf3 yf3 hf3 wf3 : Nat → Int32} {j : Nat} {v x y h w : Int32} (h1 : zKp po xf yf hf wf po2 xf2 yf2 hf2 wf2 j) (h2 : zKp (upd po2 j v) (upd xf2 (j + 1) x) (upd yf2 (j + 1) y) (upd hf2 (j + 1) h) (upd wf2 (j + 1) w) po3 xf3 yf3 hf3 wf3 (j + 1)) : zKp po xf yf hf wf po3 xf3 yf3 hf3 wf3 j := by
  refine ⟨fun i hi' => ?_, fun i hi' => ?_⟩
  · rw [h2.1 i (by omega), pk_un (by omega), h1.1 i hi']
  · obtain ⟨a1, a2, a3, a4⟩ := h2.2 i (by omega)
    obtain ⟨b1, b2, b3, b4⟩ := h1.2 i hi'
    rw [pk_un (by omega)] at a1 a2 a3 a4
    exact ⟨a1.trans b1, a2.trans b2, a3.trans b3, a4.trans b4⟩
theorem zLd_keep {xf yf hf wf po2 xf2 yf2 hf2 wf2 : Nat → Int32} {j : Nat} (h : zLd kd ln vl po xf yf hf wf j) (k : zKp po xf yf hf wf po2 xf2 yf2 hf2 wf2 j) : zLd kd ln vl po2 xf2 yf2 hf2 wf2 j := by
  obtain ⟨h1, h2, h3, h4⟩ := h
  obtain ⟨b1, b2, b3, b4⟩ := k.2 j (Nat.le_refl j)
  exact ⟨by rw [b1, h1, zX_congr k.1], by rw [b2, h2, zY_congr k.1], by rw [b3, h3, zH_congr k.1], by rw [b4, h4, zWy_congr k.1]⟩
end
