/-! NUMBERS: longs as whole numbers, Euclid's steps, the order of two fractions -/
theorem bm64 {n : Int} (h1 : -(2 ^ 63) ≤ n) (h2 : n < 2 ^ 63) : n.bmod (2 ^ 64) = n := Int.bmod_eq_of_le_mul_two (by omega) (by omega)
theorem l_add {a b : Int64} (h1 : -(2 ^ 63) ≤ a.toInt + b.toInt) (h2 : a.toInt + b.toInt < 2 ^ 63) : (a + b).toInt = a.toInt + b.toInt := by rw [Int64.toInt_add, bm64 h1 h2]
theorem l_sub {a b : Int64} (h1 : -(2 ^ 63) ≤ a.toInt - b.toInt) (h2 : a.toInt - b.toInt < 2 ^ 63) : (a - b).toInt = a.toInt - b.toInt := by rw [Int64.toInt_sub, bm64 h1 h2]
theorem l_mul {a b : Int64} (h1 : -(2 ^ 63) ≤ a.toInt * b.toInt) (h2 : a.toInt * b.toInt < 2 ^ 63) : (a * b).toInt = a.toInt * b.toInt := by rw [Int64.toInt_mul, bm64 h1 h2]
theorem l_neg {a : Int64} (h1 : -(2 ^ 63) < a.toInt) : (-a).toInt = -a.toInt := by
  have := a.toInt_lt
  rw [Int64.toInt_neg, bm64 (by omega) (by omega)]
theorem l_div {a b : Int64} (hb : 0 < b.toInt) : (a / b).toInt = a.toInt.tdiv b.toInt := by
  refine Int64.toInt_div_of_ne_right a b (fun e => ?_)
  rw [e] at hb
  exact absurd hb (by decide)
theorem l_neg_iff (x : Int64) : x < 0 ↔ x.toInt < 0 := Int64.lt_iff_toInt_lt
theorem l_xor_neg {a b : Int64} (hb : 0 < b.toInt) : a ^^^ b < 0 ↔ a.toInt < 0 := by
  rw [l_neg_iff]
  have e : (a ^^^ b).toBitVec.msb = (a.toBitVec.msb ^^ b.toBitVec.msb) := BitVec.msb_xor
  rw [BitVec.msb_eq_toInt, BitVec.msb_eq_toInt, BitVec.msb_eq_toInt] at e
  have eb : decide (b.toBitVec.toInt < 0) = false := decide_eq_false (by have : b.toBitVec.toInt = b.toInt := rfl; omega)
  rw [eb, Bool.xor_false] at e
  constructor
  · intro h
    exact of_decide_eq_true (e ▸ decide_eq_true h)
  · intro h
    exact of_decide_eq_true (e.symm ▸ decide_eq_true h)
/-- floorDiv is the whole part -/
theorem fdiv_toInt {a b : Int64} (hb : 0 < b.toInt) : (fdiv a b).toInt = a.toInt / b.toInt := by
  have h1 := a.toInt_lt
  have h2 := a.le_toInt
  have hd := l_div (a := a) hb
  unfold fdiv
  rcases Int.lt_or_le a.toInt 0 with q | q
  · have hx := (l_xor_neg (a := a) hb).mpr q
    obtain ⟨n, hn⟩ : ∃ n : Int, a.toInt = -n := ⟨-a.toInt, by omega⟩
    rw [hn, Int.neg_tdiv, Int.tdiv_eq_ediv_of_nonneg (by omega)] at hd
    have e := Int.emod_add_mul_ediv n b.toInt
    have r1 := Int.emod_nonneg n (b := b.toInt) (by omega)
    have r2 := Int.emod_lt_of_pos n hb
    have q0 : 0 ≤ n / b.toInt := Int.ediv_nonneg (by omega) (by omega)
    have q1 : 0 ≤ b.toInt * (n / b.toInt) := Int.mul_nonneg (by omega) q0
    have q2 : n / b.toInt ≤ n := Int.ediv_le_self _ (by omega)
    have hm : (a / b * b).toInt = -(b.toInt * (n / b.toInt)) := by
      have e2 : -(n / b.toInt) * b.toInt = -(b.toInt * (n / b.toInt)) := by rw [Int.neg_mul, Int.mul_comm]
      rw [l_mul (by rw [hd, e2]; omega) (by rw [hd, e2]; omega), hd, e2]
    by_cases hz : n % b.toInt = 0
    · have heq : a / b * b = a := Int64.toInt_inj.mp (by rw [hm, hn]; omega)
      rw [if_neg (fun h => h.2 heq), hd, hn]
      refine ((Int.ediv_emod_unique hb (r := 0)).mpr ⟨?_, Int.le_refl _, hb⟩).1.symm
      rw [Int.mul_neg]
      omega
    · have hne : ¬ a / b * b = a := fun h => by
        rw [h, hn] at hm
        omega
      have hb2 : 2 * (n / b.toInt) ≤ b.toInt * (n / b.toInt) := Int.mul_le_mul_of_nonneg_right (by omega) q0
      rw [if_pos ⟨hx, hne⟩, l_sub (by rw [hd]; show _ ≤ -(n / b.toInt) - 1; omega) (by rw [hd]; show -(n / b.toInt) - 1 < _; omega), hd, hn]
      show -(n / b.toInt) - 1 = _
      refine ((Int.ediv_emod_unique hb (r := b.toInt - n % b.toInt)).mpr ⟨?_, by omega, by omega⟩).1.symm
      rw [Int.mul_sub, Int.mul_neg, Int.mul_one]
      omega
  · rw [if_neg (fun h => absurd ((l_xor_neg (a := a) hb).mp h.1) (by omega)), hd, Int.tdiv_eq_ediv_of_nonneg q]
theorem rest_toInt {a b : Int64} (hb : 0 < b.toInt) : (a - fdiv a b * b).toInt = a.toInt % b.toInt := by
  have h1 := a.toInt_lt
  have h2 := a.le_toInt
  have h3 := b.toInt_lt
  have hq := fdiv_toInt (a := a) hb
  have e := Int.emod_add_mul_ediv a.toInt b.toInt
  have r1 := Int.emod_nonneg a.toInt (b := b.toInt) (by omega)
  have r2 := Int.emod_lt_of_pos a.toInt hb
  have hz := Int64.toInt_sub a (fdiv a b * b)
  rw [Int64.toInt_mul, hq, Int.sub_bmod_bmod] at hz
  rw [hz, Int.mul_comm, show a.toInt - b.toInt * (a.toInt / b.toInt) = a.toInt % b.toInt by omega]
  exact bm64 (by omega) (by omega)
/-- Euclid's pairs: the product of the two falls by half -/
theorem euc_half {a b : Nat} (hb : 0 < b) (h : b ≤ a) : 2 * (b * (a % b)) ≤ a * b := by
  have h1 := Nat.mod_lt a hb
  have h2 := Nat.mod_add_div a b
  have h3 : 1 ≤ a / b := Nat.div_pos h hb
  have h4 : b * 1 ≤ b * (a / b) := Nat.mul_le_mul_left b h3
  have h5 : 2 * (a % b) ≤ a := by omega
  calc 2 * (b * (a % b)) = b * (2 * (a % b)) := by rw [Nat.mul_left_comm]
    _ ≤ b * a := Nat.mul_le_mul_left b h5
    _ = a * b := Nat.mul_comm b a
/-- the order of two fractions, by whole parts and rests -/
def ordR : Nat → Int → Int → Int → Int → Int32 → Int32
  | 0, _, _, _, _, _ => 0
  | f + 1, a, b, c, d, s => if a / b = c / d then (if a % b = 0 ∨ c % d = 0 then (if a % b = c % d then 0 else if a % b = 0 then -s else s) else ordR f b (a % b) d (c % d) (-s)) else (if a / b < c / d then -s else s)
theorem pow_half {x y i : Nat} (h : 2 * y ≤ x) (hx : x * 2 ^ i ≤ 2 ^ 126) : y * 2 ^ (i + 1) ≤ 2 ^ 126 := by
  refine Nat.le_trans ?_ hx
  rw [Nat.pow_succ, show y * (2 ^ i * 2) = (2 * y) * 2 ^ i by rw [Nat.mul_comm (2 ^ i) 2, ← Nat.mul_assoc, Nat.mul_comm y 2]]
  exact Nat.mul_le_mul_right _ h
theorem pow_end {x i : Nat} (hi : 127 ≤ i) (hx : x * 2 ^ i ≤ 2 ^ 126) : x = 0 := by
  rcases Nat.eq_zero_or_pos x with e | e
  · exact e
  · have h1 : 2 ^ 127 ≤ 2 ^ i := Nat.pow_le_pow_right (by decide) hi
    have h2 : 1 * 2 ^ i ≤ x * 2 ^ i := Nat.mul_le_mul_right _ e
    have h3 : (2 : Nat) ^ 127 = 2 ^ 126 * 2 := Nat.pow_succ 2 126
    have h4 : 0 < (2 : Nat) ^ 126 := Nat.pow_pos (by decide)
    omega
