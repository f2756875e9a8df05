/-! THE FACTS OF NUMBERS: the same fractions, the bounds -/
theorem ws_sm {m : Nat} {sl : Int64} {M : Gr} (k : Nat) : wsF m sl M k = smA (wF m sl M) k := by
  induction k with
  | zero => rfl
  | succ k ih =>
    show wsF m sl M k + wF m sl M k = smA (wF m sl M) k + wF m sl M k
    rw [ih]
theorem smN_le {w : Nat → Nat} {A k : Nat} (h : ∀ p, p < k → w p ≤ A) : smN w k ≤ k * A := by
  induction k with
  | zero => exact Nat.zero_le _
  | succ k ih =>
    show smN w k + w k ≤ (k + 1) * A
    have := ih (fun p hp => h p (by omega))
    have := h k (by omega)
    rw [Nat.add_mul, Nat.one_mul]
    omega
theorem saF_cong {f f' G G' : Nat → Int64} {k : Nat} (h : ∀ p, p < k → f p = f' p ∧ G p = G' p) : saF f G k = saF f' G' k := by
  induction k with
  | zero => rfl
  | succ k ih =>
    show saF f G k + f k * G k = saF f' G' k + f' k * G' k
    rw [ih (fun p hp => h p (by omega)), (h k (by omega)).1, (h k (by omega)).2]
/-- a fraction and the same with its common part left out are one when reduced -/
theorem red_same {x y : Int64} {X : Int} {d D : Nat} (hd : 0 < d) (hD : 0 < D) (hx : x.toInt = (d : Int) * X) (hy : y.toInt = X) (hdD : d * D < 2 ^ 63) : (y / lN (Nat.gcd y.toInt.natAbs D), D / Nat.gcd y.toInt.natAbs D) = (x / lN (Nat.gcd x.toInt.natAbs (d * D)), d * D / Nat.gcd x.toInt.natAbs (d * D)) := by
  have eg : Nat.gcd x.toInt.natAbs (d * D) = d * Nat.gcd y.toInt.natAbs D := by
    rw [hx, hy, Int.natAbs_mul, Int.natAbs_natCast, Nat.gcd_mul_left]
  have g0 : 0 < Nat.gcd y.toInt.natAbs D := Nat.gcd_pos_of_pos_right _ hD
  have g1 : Nat.gcd y.toInt.natAbs D ≤ D := Nat.gcd_le_right _ hD
  have hdg : d * Nat.gcd y.toInt.natAbs D ≤ d * D := Nat.mul_le_mul_left d g1
  have hdg0 : 0 < d * Nat.gcd y.toInt.natAbs D := Nat.mul_pos hd g0
  have hDD : D ≤ d * D := Nat.le_mul_of_pos_left D hd
  rw [eg, Nat.mul_div_mul_left _ _ hd]
  congr 1
  generalize Nat.gcd y.toInt.natAbs D = q at *
  apply Int64.toInt_inj.mp
  have t1 : (lN q).toInt = (q : Int) := pk_lT (by omega)
  have t2 : (lN (d * q)).toInt = ((d * q : Nat) : Int) := pk_lT (by omega)
  rw [l_div (by rw [t1]; omega), l_div (by rw [t2]; omega), t1, t2, hx, hy, Int.natCast_mul, Int.mul_tdiv_mul_of_pos _ _ (by omega)]
