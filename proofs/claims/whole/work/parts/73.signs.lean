/-! THE FACTS OF NUMBERS: what is reached, told twice, over signs alone -/
def rcBS (m : Nat) (A : Nat → Bool) (k z : Nat) : Nat := if k / 4 % 4 < m ∧ k % 4 < m ∧ bitN z (k / 4 % 4) = 1 ∧ A (4 * (k / 4 % 4) + k % 4) = true then wbit z (k % 4) true else z
def rcB (m : Nat) (A : Nat → Bool) (b : Nat) : Nat → Nat
  | 0 => 2 ^ b
  | k + 1 => rcBS m A k (rcB m A b k)
theorem rcF_B {m b : Nat} {ro : Nat → Int64} (k : Nat) : rcF m ro b k = rcB m (fun c => decide (0 < ro c)) b k := by
  induction k with
  | zero => rfl
  | succ k ih =>
    show rcS m ro k (rcF m ro b k) = rcBS m _ k (rcB m _ b k)
    rw [ih]
    unfold rcS rcBS
    simp only [decide_eq_true_eq]
def rmkB (A : Nat → Bool) (a : Nat) : Nat → Nat
  | 0 => 2 ^ a
  | k + 1 => wbit (rmkB A a k) k (decide (bitN (rmkB A a k) k = 1) || A (4 * a + k))
theorem rmk_B {M : Gr} {a : Nat} (k : Nat) (hk : k ≤ 4) : rmk M a k = rmkB (fun c => decide (0 < grd M c)) a k := by
  induction k with
  | zero => rfl
  | succ k ih =>
    show wbit (rmk M a k) k _ = wbit (rmkB _ a k) k _
    rw [ih (by omega)]
    congr 1
    have e : grd M (4 * a + k) = M a k := by
      show M ((4 * a + k) / 4) ((4 * a + k) % 4) = M a k
      rw [show (4 * a + k) / 4 = a by omega, show (4 * a + k) % 4 = k by omega]
    simp only [e]
    by_cases h1 : bitN (rmkB (fun c => decide (0 < grd M c)) a k) k = 1 <;> by_cases h2 : 0 < M a k <;> simp [h1, h2]
def reachB (m : Nat) (A : Nat → Bool) : Nat → Nat := waO m (fun a => if a < m then rmkB A a m else 0) m
theorem reachF_B {m : Nat} {M : Gr} (hm : m ≤ 4) : reachF m M = reachB m (fun c => decide (0 < grd M c)) := by
  unfold reachF reachB
  congr 1
  funext a
  rw [rmk_B m hm]
theorem wb_same : ∀ z, z < 16 → ∀ i, i < 4 → bitN z i = 1 → wbit z i true = z := by decide +kernel
theorem wb_keep : ∀ z, z < 16 → ∀ k, k < 4 → ∀ b : Bool, ∀ a, a < 4 → k ≠ a → bitN (wbit z k b) a = bitN z a := by decide +kernel
theorem pw_bit : ∀ a, a < 4 → 2 ^ a < 16 ∧ bitN (2 ^ a) a = 1 := by decide
def OffEq (m : Nat) (A A' : Nat → Bool) : Prop := ∀ i j, i < m → j < m → i ≠ j → A (4 * i + j) = A' (4 * i + j)
theorem rcB_lt {m b : Nat} {A : Nat → Bool} (hb : b < 4) (k : Nat) : rcB m A b k < 16 := by
  induction k with
  | zero => exact (pw_bit b hb).1
  | succ k ih =>
    show rcBS m A k (rcB m A b k) < 16
    unfold rcBS
    split
    · exact wbit_lt _ ih _ (Nat.mod_lt _ (by decide)) true
    · exact ih
theorem rcB_off {m b : Nat} {A A' : Nat → Bool} (hb : b < 4) (h : OffEq m A A') (k : Nat) : rcB m A b k = rcB m A' b k := by
  induction k with
  | zero => rfl
  | succ k ih =>
    show rcBS m A k (rcB m A b k) = rcBS m A' k (rcB m A' b k)
    rw [ih]
    have hz := rcB_lt (m := m) (A := A') hb k
    generalize rcB m A' b k = z at *
    unfold rcBS
    by_cases h1 : k / 4 % 4 < m ∧ k % 4 < m ∧ bitN z (k / 4 % 4) = 1
    · by_cases e : k / 4 % 4 = k % 4
      · have hw : wbit z (k % 4) true = z := wb_same z hz _ (Nat.mod_lt _ (by decide)) (e ▸ h1.2.2)
        rw [hw]
        simp
      · rw [h _ _ h1.1 h1.2.1 e]
    · rw [if_neg (fun c => h1 ⟨c.1, c.2.1, c.2.2.1⟩), if_neg (fun c => h1 ⟨c.1, c.2.1, c.2.2.1⟩)]
theorem rmkB_lt {A : Nat → Bool} {a : Nat} (ha : a < 4) (k : Nat) (hk : k ≤ 4) : rmkB A a k < 16 := by
  induction k with
  | zero => exact (pw_bit a ha).1
  | succ k ih => exact wbit_lt _ (ih (by omega)) k (by omega) _
theorem rmkB_bit {A : Nat → Bool} {a : Nat} (ha : a < 4) (k : Nat) (hk : k ≤ a) : bitN (rmkB A a k) a = 1 := by
  induction k with
  | zero => exact (pw_bit a ha).2
  | succ k ih => exact (wb_keep _ (rmkB_lt ha k (by omega)) k (by omega) _ a ha (by omega)).trans (ih (by omega))
theorem rmkB_off {m a : Nat} {A A' : Nat → Bool} (hm : m ≤ 4) (ha : a < m) (h : OffEq m A A') (k : Nat) (hk : k ≤ m) : rmkB A a k = rmkB A' a k := by
  induction k with
  | zero => rfl
  | succ k ih =>
    show wbit (rmkB A a k) k _ = wbit (rmkB A' a k) k _
    rw [ih (by omega)]
    by_cases e : k = a
    · subst e
      rw [rmkB_bit (by omega) k (Nat.le_refl k)]
      rfl
    · rw [h a k ha (by omega) (fun c => e c.symm)]
theorem reachB_off {m : Nat} {A A' : Nat → Bool} (hm : m ≤ 4) (h : OffEq m A A') : reachB m A = reachB m A' := by
  unfold reachB
  congr 1
  funext a
  by_cases ha : a < m
  · rw [if_pos ha, if_pos ha, rmkB_off hm ha h m (Nat.le_refl m)]
  · rw [if_neg ha, if_neg ha]
def mcB (m : Nat) (A : Nat → Bool) : Nat := mcF m (fun q => rcB m A q 64) m
def FactB (m : Nat) (A : Nat → Bool) : Bool := mcB m A == clsF m (reachB m A) m && decide (1 ≤ mcB m A) && (!(mcB m A == 1) || (List.range m).any (fun p => tbN m A p))
def mkA (a1 a2 a3 a4 a6 a7 a8 a9 a11 a12 a13 a14 : Bool) (c : Nat) : Bool := if c = 1 then a1 else if c = 2 then a2 else if c = 3 then a3 else if c = 4 then a4 else if c = 6 then a6 else if c = 7 then a7 else if c = 8 then a8 else if c = 9 then a9 else if c = 11 then a11 else if c = 12 then a12 else if c = 13 then a13 else if c = 14 then a14 else false
theorem fact2 : ∀ a1 a4 : Bool, FactB 2 (mkA a1 false false a4 false false false false false false false false) = true := by decide +kernel
theorem fact3 : ∀ a1 a2 a4 a6 a8 a9 : Bool, FactB 3 (mkA a1 a2 false a4 a6 false a8 a9 false false false false) = true := by decide +kernel
