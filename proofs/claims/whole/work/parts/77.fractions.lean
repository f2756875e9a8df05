/-! THE FACTS OF NUMBERS: sums, a common part, fractions -/
def gN (w : Nat → Nat) : Nat → Nat
  | 0 => 0
  | k + 1 => Nat.gcd (w k) (gN w k)
theorem gdF_N {f : Nat → Int64} {w : Nat → Nat} {k : Nat} (h : ∀ p, p < k → f p = lN (w p) ∧ w p < 2 ^ 63) : gdF f k = gN w k := by
  induction k with
  | zero => rfl
  | succ k ih =>
    show Nat.gcd (f k).toInt.natAbs (gdF f k) = Nat.gcd (w k) (gN w k)
    rw [ih (fun p hp => h p (by omega)), (h k (by omega)).1, pk_lT (h k (by omega)).2]
    rfl
theorem gN_dvd {w : Nat → Nat} {k p : Nat} (hp : p < k) : gN w k ∣ w p := by
  induction k with
  | zero => omega
  | succ k ih =>
    show Nat.gcd (w k) (gN w k) ∣ w p
    by_cases e : p = k
    · subst e
      exact Nat.gcd_dvd_left _ _
    · exact Nat.dvd_trans (Nat.gcd_dvd_right _ _) (ih (by omega))
theorem gN_pos {w : Nat → Nat} {k p : Nat} (hp : p < k) (h : 0 < w p) : 0 < gN w k := Nat.pos_of_ne_zero fun e => by
  have := gN_dvd (w := w) hp
  rw [e] at this
  have := Nat.eq_zero_of_zero_dvd this
  omega
theorem smN_div {w : Nat → Nat} {d k : Nat} (h : ∀ p, p < k → d ∣ w p) : smN w k = d * smN (fun p => w p / d) k := by
  induction k with
  | zero => rfl
  | succ k ih =>
    show smN w k + w k = d * (smN (fun p => w p / d) k + w k / d)
    rw [Nat.mul_add, ← ih (fun p hp => h p (by omega)), Nat.mul_div_cancel' (h k (by omega))]
theorem smA_N {f : Nat → Int64} {w : Nat → Nat} {k : Nat} (h : ∀ p, p < k → f p = lN (w p)) : smA f k = lN (smN w k) := by
  induction k with
  | zero => rfl
  | succ k ih =>
    show smA f k + f k = lN (smN w k + w k)
    rw [ih (fun p hp => h p (by omega)), h k (by omega), lN_add]
def SI (w : Nat → Nat) (G : Nat → Int64) : Nat → Int
  | 0 => 0
  | k + 1 => SI w G k + (w k : Int) * (G k).toInt
theorem SI_div {w : Nat → Nat} {G : Nat → Int64} {d k : Nat} (h : ∀ p, p < k → d ∣ w p) : SI w G k = (d : Int) * SI (fun p => w p / d) G k := by
  induction k with
  | zero => exact (Int.mul_zero _).symm
  | succ k ih =>
    show SI w G k + (w k : Int) * (G k).toInt = (d : Int) * (SI (fun p => w p / d) G k + ((w k / d : Nat) : Int) * (G k).toInt)
    rw [Int.mul_add, ← ih (fun p hp => h p (by omega)), ← Int.mul_assoc, ← Int.natCast_mul, Nat.mul_div_cancel' (h k (by omega))]
theorem mul_bd {a b A C : Int} (h0 : 0 ≤ a) (h1 : a ≤ A) (h2 : -C ≤ b) (h3 : b ≤ C) (hC : 0 ≤ C) : -(A * C) ≤ a * b ∧ a * b ≤ A * C := by
  have t1 : a * C ≤ A * C := Int.mul_le_mul_of_nonneg_right h1 hC
  have t2 : a * b ≤ a * C := Int.mul_le_mul_of_nonneg_left h3 h0
  have t3 : a * -C ≤ a * b := Int.mul_le_mul_of_nonneg_left h2 h0
  rw [Int.mul_neg] at t3
  exact ⟨by omega, by omega⟩
theorem saF_int {f : Nat → Int64} {w : Nat → Nat} {G : Nat → Int64} {k : Nat} (hk : k ≤ 4) (h : ∀ p, p < k → f p = lN (w p) ∧ w p ≤ 16000000000000) (hG : ∀ p, p < k → -40000 ≤ (G p).toInt ∧ (G p).toInt ≤ 40000) : (saF f G k).toInt = SI w G k ∧ -(k * 640000000000000000 : Int) ≤ SI w G k ∧ SI w G k ≤ (k * 640000000000000000 : Int) := by
  induction k with
  | zero => exact ⟨rfl, (by decide : -(((0 : Nat) : Int) * 640000000000000000) ≤ 0), (by decide : (0 : Int) ≤ (((0 : Nat) : Int) * 640000000000000000))⟩
  | succ k ih =>
    obtain ⟨i1, i2, i3⟩ := ih (by omega) (fun p hp => h p (by omega)) (fun p hp => hG p (by omega))
    obtain ⟨j1, j2⟩ := h k (by omega)
    obtain ⟨g1, g2⟩ := hG k (by omega)
    have b := mul_bd (a := (w k : Int)) (A := 16000000000000) (C := 40000) (by omega) (by omega) g1 g2 (by decide)
    have tw : (lN (w k)).toInt = (w k : Int) := pk_lT (by omega)
    show (saF f G k + f k * G k).toInt = SI w G k + (w k : Int) * (G k).toInt ∧ _
    have e1 : (f k * G k).toInt = (w k : Int) * (G k).toInt := by rw [j1, l_mul (by rw [tw]; omega) (by rw [tw]; omega), tw]
    show (saF f G k + f k * G k).toInt = SI w G k + (w k : Int) * (G k).toInt ∧ -(((k + 1 : Nat) : Int) * 640000000000000000) ≤ SI w G k + (w k : Int) * (G k).toInt ∧ SI w G k + (w k : Int) * (G k).toInt ≤ (((k + 1 : Nat) : Int) * 640000000000000000)
    generalize (w k : Int) * (G k).toInt = z at *
    refine ⟨?_, by omega, by omega⟩
    rw [l_add (by omega) (by omega), i1, e1]
