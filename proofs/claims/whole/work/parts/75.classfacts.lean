/-! THE FACTS OF NUMBERS: classes, told twice; one class has a tree -/
theorem clB_eq {m p n : Nat} {Q Q' : Nat → Nat} (hp : Q p = Q' p) (h : ∀ q, q < n → Q q = Q' q) : clB m Q p n = clB m Q' p n := by
  induction n with
  | zero => rfl
  | succ n ih =>
    show (clB m Q p n && (decide (bitN (Q p) n = 0) || decide (Q n = Q p))) = (clB m Q' p n && (decide (bitN (Q' p) n = 0) || decide (Q' n = Q' p)))
    rw [ih (fun q hq => h q (by omega)), hp, h n (by omega)]
theorem mcF_cong {m n : Nat} {Q Q' : Nat → Nat} (hn : n ≤ m) (h : ∀ q, q < m → Q q = Q' q) : mcF m Q n = mcF m Q' n := by
  induction n with
  | zero => rfl
  | succ n ih =>
    show mcF m Q n + (if clB m Q n m = true ∧ Q n % 2 ^ n = 0 then 1 else 0) = mcF m Q' n + (if clB m Q' n m = true ∧ Q' n % 2 ^ n = 0 then 1 else 0)
    rw [ih (by omega), clB_eq (h n (by omega)) h, h n (by omega)]
theorem mcB_off {m : Nat} {A A' : Nat → Bool} (hm : m ≤ 4) (h : OffEq m A A') : mcB m A = mcB m A' := mcF_cong (Nat.le_refl m) (fun q hq => rcB_off (by omega) h 64)

theorem off2 (A : Nat → Bool) : OffEq 2 A (mkA (A 1) false false (A 4) false false false false false false false false) := by
  intro i j hi hj hij
  match i, j, hi, hj with
  | 0, 0, _, _ => exact absurd rfl hij
  | 0, 1, _, _ => rfl
  | 1, 0, _, _ => rfl
  | 1, 1, _, _ => exact absurd rfl hij

theorem off3 (A : Nat → Bool) : OffEq 3 A (mkA (A 1) (A 2) false (A 4) (A 6) false (A 8) (A 9) false false false false) := by
  intro i j hi hj hij
  match i, j, hi, hj with
  | 0, 0, _, _ => exact absurd rfl hij
  | 0, 1, _, _ => rfl
  | 0, 2, _, _ => rfl
  | 1, 0, _, _ => rfl
  | 1, 1, _, _ => exact absurd rfl hij
  | 1, 2, _, _ => rfl
  | 2, 0, _, _ => rfl
  | 2, 1, _, _ => rfl
  | 2, 2, _, _ => exact absurd rfl hij

theorem off4 (A : Nat → Bool) : OffEq 4 A (kA (A 1) (A 2) (A 3) (A 4) (A 6) (A 7) (A 8) (A 9) (A 11) (A 12) (A 13) (A 14)) := by
  intro i j hi hj hij
  match i, j, hi, hj with
  | 0, 0, _, _ => exact absurd rfl hij
  | 0, 1, _, _ => rfl
  | 0, 2, _, _ => rfl
  | 0, 3, _, _ => rfl
  | 1, 0, _, _ => rfl
  | 1, 1, _, _ => exact absurd rfl hij
  | 1, 2, _, _ => rfl
  | 1, 3, _, _ => rfl
  | 2, 0, _, _ => rfl
  | 2, 1, _, _ => rfl
  | 2, 2, _, _ => exact absurd rfl hij
  | 2, 3, _, _ => rfl
  | 3, 0, _, _ => rfl
  | 3, 1, _, _ => rfl
  | 3, 2, _, _ => rfl
  | 3, 3, _, _ => exact absurd rfl hij

def SignOK (m : Nat) (A : Nat → Bool) : Prop := mcB m A = clsF m (reachB m A) m ∧ 1 ≤ mcB m A ∧ (mcB m A = 1 → ∃ p, p < m ∧ tbN m A p = true)
theorem FactB_ok {m : Nat} {A : Nat → Bool} (h : FactB m A = true) : SignOK m A := by
  unfold FactB at h
  simp only [Bool.and_eq_true, Bool.or_eq_true, beq_iff_eq, decide_eq_true_eq, Bool.not_eq_true'] at h
  refine ⟨h.1.1, h.1.2, fun e => ?_⟩
  rcases h.2 with h2 | h2
  · rw [e] at h2
    exact absurd h2 (by decide)
  · obtain ⟨p, hp, h3⟩ := List.any_eq_true.mp h2
    exact ⟨p, List.mem_range.mp hp, h3⟩
theorem SignOK_off {m : Nat} {A A' : Nat → Bool} (hm : m ≤ 4) (h : OffEq m A A') (ht : ∀ p, p < m → tbN m A p = tbN m A' p) (h' : SignOK m A') : SignOK m A := by
  obtain ⟨h1, h2, h3⟩ := h'
  unfold SignOK
  rw [mcB_off hm h, reachB_off hm h]
  refine ⟨h1, h2, fun e => ?_⟩
  obtain ⟨p, hp, h4⟩ := h3 e
  exact ⟨p, hp, (ht p hp).trans h4⟩
theorem FactK_ok {A : Nat → Bool} (h : FactK A = true) : SignOK 4 A := by
  have e : mcB 4 A = mcF 4 (rc4 A) 4 := mcF_cong (Nat.le_refl 4) (fun q hq => rcB_4 hq)
  unfold FactK at h
  obtain ⟨h1, h2⟩ := Bool.and_eq_true_iff.mp h
  obtain ⟨h2, h3⟩ := Bool.and_eq_true_iff.mp h2
  unfold SignOK
  rw [e]
  refine ⟨Nat.beq_eq.mp h1, Nat.ble_eq.mp h2, fun e1 => ?_⟩
  rcases Bool.or_eq_true_iff.mp h3 with h4 | h4
  · rw [e1] at h4
    exact absurd h4 (by decide)
  · rcases Bool.or_eq_true_iff.mp h4 with h4 | h4
    · rcases Bool.or_eq_true_iff.mp h4 with h4 | h4
      · rcases Bool.or_eq_true_iff.mp h4 with h4 | h4
        · exact ⟨0, by decide, h4⟩
        · exact ⟨1, by decide, h4⟩
      · exact ⟨2, by decide, h4⟩
    · exact ⟨3, by decide, h4⟩
theorem sign_ok {m : Nat} (hm : 2 ≤ m ∧ m ≤ 4) (A : Nat → Bool) : SignOK m A := by
  match m, hm with
  | 2, _ => exact SignOK_off (by decide) (off2 A) (fun p hp => by match p, hp with | 0, _ => rfl | 1, _ => rfl) (FactB_ok (fact2 _ _))
  | 3, _ => exact SignOK_off (by decide) (off3 A) (fun p hp => by match p, hp with | 0, _ => rfl | 1, _ => rfl | 2, _ => rfl) (FactB_ok (fact3 _ _ _ _ _ _))
  | 4, _ => exact SignOK_off (by decide) (off4 A) (fun p hp => by match p, hp with | 0, _ => rfl | 1, _ => rfl | 2, _ => rfl | 3, _ => rfl) (FactK_ok (fact4 _ _ _ _ _ _ _ _ _ _ _ _))
