theorem cd_gcd : ∀ (k a b f : Nat), b < 2 ^ k → 2 * k + 1 ≤ f → a < 2 ^ 63 → b < 2 ^ 63 → cd_F f (lN a) (lN b) = lN (Nat.gcd a b) := by
  intro k
  induction k with
  | zero =>
    intro a b f hb hf ha _
    have hb0 : b = 0 := by have : (2 : Nat) ^ 0 = 1 := rfl; omega
    subst hb0
    obtain ⟨f, rfl⟩ : ∃ g, f = g + 1 := ⟨f - 1, by omega⟩
    show (if lN 0 = 0 then lN a else _) = _
    rw [if_pos (show lN 0 = 0 from rfl), Nat.gcd_zero_right]
  | succ k ih =>
    intro a b f hb hf ha hb63
    obtain ⟨f, rfl⟩ : ∃ g, f = g + 2 := ⟨f - 2, by omega⟩
    have z : ∀ x, x < 2 ^ 63 → (lN x = 0 ↔ x = 0) := fun x hx => pk_lEQ (b := 0) hx (by omega)
    show (if lN b = 0 then lN a else cd_F (f + 1) (lN b) (lN a - lN a / lN b * lN b)) = _
    by_cases b0 : b = 0
    · rw [if_pos ((z b hb63).mpr b0), b0, Nat.gcd_zero_right]
    · rw [if_neg (fun q => b0 ((z b hb63).mp q)), pk_lRem ha (by omega) hb63]
      have hr : a % b < b := Nat.mod_lt _ (by omega)
      have hg : Nat.gcd a b = Nat.gcd b (a % b) := by rw [Nat.gcd_comm a b, Nat.gcd_rec b a, Nat.gcd_comm]
      rw [hg]
      generalize a % b = r at hr
      show (if lN r = 0 then lN b else cd_F f (lN r) (lN b - lN b / lN r * lN r)) = _
      by_cases r0 : r = 0
      · rw [if_pos ((z r (by omega)).mpr r0), r0, Nat.gcd_zero_right]
      · rw [if_neg (fun q => r0 ((z r (by omega)).mp q)), pk_lRem hb63 (by omega) (by omega)]
        have hs : b % r < r := Nat.mod_lt _ (by omega)
        have hg2 : Nat.gcd b r = Nat.gcd r (b % r) := by rw [Nat.gcd_comm b r, Nat.gcd_rec r b, Nat.gcd_comm]
        rw [hg2]
        have hd := Nat.div_add_mod b r
        have hq : 1 ≤ b / r := Nat.div_pos (by omega) (by omega)
        have hm : r ≤ r * (b / r) := Nat.le_mul_of_pos_right r hq
        have hp : 2 ^ (k + 1) = 2 * 2 ^ k := by rw [Nat.pow_succ]; omega
        exact ih r (b % r) f (by omega) (by omega) (by omega) (by omega)
/-- parts in lowest terms, of numbers that are not too large -/
theorem po_N {a b : Nat} (ha : a < 2 ^ 63) (hb : b < 2 ^ 40) (h0 : 0 < b) (w : Int32) : po_F (lN a) (lN b) w = lN ((if w = 0 then a else b) / Nat.gcd a b) := by
  have hg : 0 < Nat.gcd a b := Nat.gcd_pos_of_pos_right a h0
  have hgb : Nat.gcd a b ≤ b := Nat.gcd_le_right a h0
  have hcd := cd_gcd 40 a b 100 hb (by omega) ha (by omega)
  unfold po_F
  rw [hcd, if_neg (fun q => by have := (pk_lEQ (b := 0) (show Nat.gcd a b < 2 ^ 63 by omega) (by omega)).mp q; omega)]
  by_cases w0 : w = 0
  · rw [if_pos w0, if_pos w0, pk_lDiv ha hg (by omega)]
  · rw [if_neg w0, if_neg w0, pk_lDiv (by omega) hg (by omega)]
theorem pw_N (q : Nat) (hq : q < 2 ^ 31) : ∀ (k x : Nat), pw_F (nI q) k (lN x) = lN (x * q ^ k) := by
  intro k
  induction k with
  | zero => intro x; show lN x = _; rw [Nat.pow_zero, Nat.mul_one]
  | succ k ih =>
    intro x
    show pw_F (nI q) k (lN x * (nI q).toInt64) = _
    rw [nI_l hq, lN_mul, ih, Nat.mul_assoc, ← Nat.pow_succ']
theorem ab_N {x y : Nat} (hx : x < 2 ^ 62) (hy : y < 2 ^ 62) : (if 0 < lN x - lN y then lN x - lN y else -(lN x - lN y)) = lN (if y ≤ x then x - y else y - x) := by
  by_cases h : y ≤ x
  · rw [if_pos h, lN_sub h]
    by_cases e : x - y = 0
    · rw [e, if_neg (by decide)]; rfl
    · rw [if_pos (show (0 : Int64) < lN (x - y) from (pk_lLT (a := 0) (b := x - y) (by omega) (by omega)).mpr (by omega))]
  · rw [if_neg h]
    have e : lN x - lN y = -lN (y - x) := by
      rw [← lN_sub (show x ≤ y by omega), Int64.neg_sub]
    rw [e, Int64.neg_neg, if_neg]
    intro q
    have hbm : ∀ z : Int, -4611686018427387904 ≤ z → z ≤ 0 → z.bmod (2 ^ 64) = z := by
      intro z h1 h2
      unfold Int.bmod
      dsimp only
      split <;> omega
    have h1 : (-lN (y - x)).toInt = -((y - x : Nat) : Int) := by
      rw [Int64.toInt_neg, pk_lT (by omega)]
      exact hbm _ (by omega) (by omega)
    rw [Int64.lt_iff_toInt_lt, h1] at q
    have : (0 : Int64).toInt = 0 := rfl
    omega
