/-! THE FACTS OF NUMBERS: four positions' signs -/
def rcQ (A : Nat → Bool) (k z : Nat) : Nat := cond (Nat.beq (z / 2 ^ (k / 4) % 2) 1) (cond (A k) (Nat.lor z (2 ^ (k % 4))) z) z
def rcR (A : Nat → Bool) (z : Nat) : Nat := rcQ A 14 (rcQ A 13 (rcQ A 12 (rcQ A 11 (rcQ A 9 (rcQ A 8 (rcQ A 7 (rcQ A 6 (rcQ A 4 (rcQ A 3 (rcQ A 2 (rcQ A 1 z)))))))))))
theorem wb_or : ∀ z, z < 16 → ∀ i, i < 4 → wbit z i true = Nat.lor z (2 ^ i) := by decide +kernel
theorem bN_raw (z i : Nat) : bitN z i = z / 2 ^ i % 2 := rfl
theorem rcBS_Q {A : Nat → Bool} {k z : Nat} (hz : z < 16) (j : Nat) (hk : k < 16) (hj : j % 16 = k) : rcBS 4 A j z = rcQ A k z := by
  have h1 : j / 4 % 4 = k / 4 := by omega
  have h2 : j % 4 = k % 4 := by omega
  unfold rcBS rcQ
  rw [h1, h2, bN_raw, show 4 * (k / 4) + k % 4 = k by omega, wb_or z hz _ (Nat.mod_lt _ (by decide))]
  by_cases c1 : z / 2 ^ (k / 4) % 2 = 1
  · rw [show Nat.beq (z / 2 ^ (k / 4) % 2) 1 = true from Nat.beq_eq.mpr c1]
    cases c2 : A k
    · rw [if_neg (fun h => absurd h.2.2.2 (by decide))]
      rfl
    · rw [if_pos ⟨by omega, by omega, c1, rfl⟩]
      rfl
  · rw [if_neg (fun h => c1 h.2.2.1), show Nat.beq (z / 2 ^ (k / 4) % 2) 1 = false from Bool.eq_false_iff.mpr (fun h => c1 (Nat.beq_eq.mp h))]
    rfl
theorem rcBS_diag {A : Nat → Bool} {z : Nat} (hz : z < 16) (j : Nat) (hj : j / 4 % 4 = j % 4) : rcBS 4 A j z = z := by
  unfold rcBS
  split
  · next c => exact wb_same z hz _ (Nat.mod_lt _ (by decide)) (hj ▸ c.2.2.1)
  · rfl
theorem rcB_R {A : Nat → Bool} {b : Nat} (hb : b < 4) (n : Nat) : rcB 4 A b (16 * n + 16) = rcR A (rcB 4 A b (16 * n)) := by
  have st : ∀ j, rcB 4 A b (j + 1) = rcBS 4 A j (rcB 4 A b j) := fun j => rfl
  have lt := fun j => rcB_lt (m := 4) (A := A) hb j
  have q : ∀ k, k < 16 → rcB 4 A b (16 * n + k + 1) = rcQ A k (rcB 4 A b (16 * n + k)) := fun k hk => (st _).trans (rcBS_Q (lt _) _ hk (by omega))
  have d : ∀ k, k < 16 ∧ k / 4 = k % 4 → rcB 4 A b (16 * n + k + 1) = rcB 4 A b (16 * n + k) := fun k hk => (st _).trans (rcBS_diag (lt _) _ (by
    have u1 : (16 * n + k) / 4 = 4 * n + k / 4 := by omega
    have u2 : (16 * n + k) % 4 = k % 4 := by omega
    rw [u1, u2]
    omega))
  unfold rcR
  rw [d 15 (by decide), q 14 (by decide), q 13 (by decide), q 12 (by decide), q 11 (by decide), d 10 (by decide), q 9 (by decide), q 8 (by decide), q 7 (by decide), q 6 (by decide), d 5 (by decide), q 4 (by decide), q 3 (by decide), q 2 (by decide), q 1 (by decide), d 0 (by decide)]
  rfl
def rc4 (A : Nat → Bool) (b : Nat) : Nat := rcR A (rcR A (rcR A (rcR A (2 ^ b))))
theorem rcB_4 {A : Nat → Bool} {b : Nat} (hb : b < 4) : rcB 4 A b 64 = rc4 A b := by
  have r0 := rcB_R (A := A) hb 0
  have r1 := rcB_R (A := A) hb 1
  have r2 := rcB_R (A := A) hb 2
  have r3 := rcB_R (A := A) hb 3
  rw [show rcB 4 A b 64 = rcB 4 A b (16 * 3 + 16) from rfl, r3, show rcB 4 A b (16 * 3) = rcB 4 A b (16 * 2 + 16) from rfl, r2, show rcB 4 A b (16 * 2) = rcB 4 A b (16 * 1 + 16) from rfl, r1, show rcB 4 A b (16 * 1) = rcB 4 A b (16 * 0 + 16) from rfl, r0]
  rfl
def kA (a1 a2 a3 a4 a6 a7 a8 a9 a11 a12 a13 a14 : Bool) (c : Nat) : Bool := cond (Nat.ble c 4) (cond (Nat.beq c 1) a1 (cond (Nat.beq c 2) a2 (cond (Nat.beq c 3) a3 (cond (Nat.beq c 4) a4 false)))) (cond (Nat.ble c 9) (cond (Nat.beq c 6) a6 (cond (Nat.beq c 7) a7 (cond (Nat.beq c 8) a8 (cond (Nat.beq c 9) a9 false)))) (cond (Nat.beq c 11) a11 (cond (Nat.beq c 12) a12 (cond (Nat.beq c 13) a13 (cond (Nat.beq c 14) a14 false)))))
def FactK (A : Nat → Bool) : Bool := Nat.beq (mcF 4 (rc4 A) 4) (clsF 4 (reachB 4 A) 4) && (Nat.ble 1 (mcF 4 (rc4 A) 4) && (!(Nat.beq (mcF 4 (rc4 A) 4) 1) || (tb40 A || tb41 A || tb42 A || tb43 A)))
theorem fact4_0 : ∀ a6 a7 a8 a9 a11 a12 a13 a14 : Bool, FactK (kA false false false false a6 a7 a8 a9 a11 a12 a13 a14) = true := by decide +kernel
theorem fact4_1 : ∀ a6 a7 a8 a9 a11 a12 a13 a14 : Bool, FactK (kA true false false false a6 a7 a8 a9 a11 a12 a13 a14) = true := by decide +kernel
theorem fact4_2 : ∀ a6 a7 a8 a9 a11 a12 a13 a14 : Bool, FactK (kA false true false false a6 a7 a8 a9 a11 a12 a13 a14) = true := by decide +kernel
theorem fact4_3 : ∀ a6 a7 a8 a9 a11 a12 a13 a14 : Bool, FactK (kA true true false false a6 a7 a8 a9 a11 a12 a13 a14) = true := by decide +kernel
theorem fact4_4 : ∀ a6 a7 a8 a9 a11 a12 a13 a14 : Bool, FactK (kA false false true false a6 a7 a8 a9 a11 a12 a13 a14) = true := by decide +kernel
theorem fact4_5 : ∀ a6 a7 a8 a9 a11 a12 a13 a14 : Bool, FactK (kA true false true false a6 a7 a8 a9 a11 a12 a13 a14) = true := by decide +kernel
theorem fact4_6 : ∀ a6 a7 a8 a9 a11 a12 a13 a14 : Bool, FactK (kA false true true false a6 a7 a8 a9 a11 a12 a13 a14) = true := by decide +kernel
theorem fact4_7 : ∀ a6 a7 a8 a9 a11 a12 a13 a14 : Bool, FactK (kA true true true false a6 a7 a8 a9 a11 a12 a13 a14) = true := by decide +kernel
theorem fact4_8 : ∀ a6 a7 a8 a9 a11 a12 a13 a14 : Bool, FactK (kA false false false true a6 a7 a8 a9 a11 a12 a13 a14) = true := by decide +kernel
theorem fact4_9 : ∀ a6 a7 a8 a9 a11 a12 a13 a14 : Bool, FactK (kA true false false true a6 a7 a8 a9 a11 a12 a13 a14) = true := by decide +kernel
theorem fact4_10 : ∀ a6 a7 a8 a9 a11 a12 a13 a14 : Bool, FactK (kA false true false true a6 a7 a8 a9 a11 a12 a13 a14) = true := by decide +kernel
theorem fact4_11 : ∀ a6 a7 a8 a9 a11 a12 a13 a14 : Bool, FactK (kA true true false true a6 a7 a8 a9 a11 a12 a13 a14) = true := by decide +kernel
theorem fact4_12 : ∀ a6 a7 a8 a9 a11 a12 a13 a14 : Bool, FactK (kA false false true true a6 a7 a8 a9 a11 a12 a13 a14) = true := by decide +kernel
theorem fact4_13 : ∀ a6 a7 a8 a9 a11 a12 a13 a14 : Bool, FactK (kA true false true true a6 a7 a8 a9 a11 a12 a13 a14) = true := by decide +kernel
theorem fact4_14 : ∀ a6 a7 a8 a9 a11 a12 a13 a14 : Bool, FactK (kA false true true true a6 a7 a8 a9 a11 a12 a13 a14) = true := by decide +kernel
theorem fact4_15 : ∀ a6 a7 a8 a9 a11 a12 a13 a14 : Bool, FactK (kA true true true true a6 a7 a8 a9 a11 a12 a13 a14) = true := by decide +kernel
theorem fact4 (a1 a2 a3 a4 a6 a7 a8 a9 a11 a12 a13 a14 : Bool) : FactK (kA a1 a2 a3 a4 a6 a7 a8 a9 a11 a12 a13 a14) = true := by
  match a1, a2, a3, a4 with
  | false, false, false, false => exact fact4_0 a6 a7 a8 a9 a11 a12 a13 a14
  | true, false, false, false => exact fact4_1 a6 a7 a8 a9 a11 a12 a13 a14
  | false, true, false, false => exact fact4_2 a6 a7 a8 a9 a11 a12 a13 a14
  | true, true, false, false => exact fact4_3 a6 a7 a8 a9 a11 a12 a13 a14
  | false, false, true, false => exact fact4_4 a6 a7 a8 a9 a11 a12 a13 a14
  | true, false, true, false => exact fact4_5 a6 a7 a8 a9 a11 a12 a13 a14
  | false, true, true, false => exact fact4_6 a6 a7 a8 a9 a11 a12 a13 a14
  | true, true, true, false => exact fact4_7 a6 a7 a8 a9 a11 a12 a13 a14
  | false, false, false, true => exact fact4_8 a6 a7 a8 a9 a11 a12 a13 a14
  | true, false, false, true => exact fact4_9 a6 a7 a8 a9 a11 a12 a13 a14
  | false, true, false, true => exact fact4_10 a6 a7 a8 a9 a11 a12 a13 a14
  | true, true, false, true => exact fact4_11 a6 a7 a8 a9 a11 a12 a13 a14
  | false, false, true, true => exact fact4_12 a6 a7 a8 a9 a11 a12 a13 a14
  | true, false, true, true => exact fact4_13 a6 a7 a8 a9 a11 a12 a13 a14
  | false, true, true, true => exact fact4_14 a6 a7 a8 a9 a11 a12 a13 a14
  | true, true, true, true => exact fact4_15 a6 a7 a8 a9 a11 a12 a13 a14
