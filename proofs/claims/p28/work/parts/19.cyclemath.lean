/-! SEQUENCES THAT COME ROUND -/
theorem php : ∀ (n : Nat) (f : Nat → Nat), (∀ i, i ≤ n → f i < n) → ∃ i j, i < j ∧ j ≤ n ∧ f i = f j := by
  intro n
  induction n with
  | zero => intro f h; exact absurd (h 0 (Nat.le_refl 0)) (Nat.not_lt_zero _)
  | succ n ih =>
    intro f h
    by_cases hx : ∃ i, i ≤ n ∧ f i = f (n + 1)
    · obtain ⟨i, hi, e⟩ := hx
      exact ⟨i, n + 1, by omega, Nat.le_refl _, e⟩
    · have hne : ∀ i, i ≤ n → f i ≠ f (n + 1) := fun i hi e => hx ⟨i, hi, e⟩
      obtain ⟨i, j, h1, h2, h3⟩ := ih (fun i => if f i = n then f (n + 1) else f i) (fun i hi => by
        have h1 := h i (by omega)
        have h2 := h (n + 1) (Nat.le_refl _)
        have h3 := hne i hi
        split <;> omega)
      refine ⟨i, j, h1, by omega, ?_⟩
      have h4 := hne i (by omega)
      have h5 := hne j (by omega)
      split at h3 <;> split at h3 <;> omega
/-- the first time that a thing comes again, and when it was there first -/
def Comes (c : Nat → Nat) (t0 T : Nat) : Prop := t0 < T ∧ c t0 = c T ∧ ∀ i j, i < j → j < T → c i ≠ c j
theorem least_ex (P : Nat → Prop) (h : ∃ k, P k) : ∃ k, P k ∧ ∀ j, j < k → ¬ P j := pk_least P h
theorem comes_ex {c : Nat → Nat} {N : Nat} (h : ∀ k, c k < N) : ∃ t0 T, Comes c t0 T ∧ T ≤ N := by
  obtain ⟨i, j, h1, h2, h3⟩ := php N c (fun i _ => h i)
  obtain ⟨T, ⟨t0, h4, h5⟩, h6⟩ := least_ex (fun T => ∃ t0, t0 < T ∧ c t0 = c T) ⟨j, i, h1, h3⟩
  refine ⟨t0, T, ⟨h4, h5, fun a b hab hb e => h6 b hb ⟨a, hab, e⟩⟩, ?_⟩
  rcases Nat.lt_or_ge j T with g | g
  · exact absurd ⟨i, h1, h3⟩ (h6 j g)
  · omega
section
variable {c : Nat → Nat} {t0 T : Nat}
/-- what follows a thing depends on the thing alone -/
def Det (c : Nat → Nat) : Prop := ∀ i j, c i = c j → c (i + 1) = c (j + 1)
theorem det_add (hd : Det c) {i j : Nat} (h : c i = c j) (k : Nat) : c (i + k) = c (j + k) := by
  induction k with
  | zero => exact h
  | succ k ih => exact hd _ _ ih
theorem per_add (hd : Det c) (h : Comes c t0 T) {a : Nat} (ha : t0 ≤ a) : c (a + (T - t0)) = c a := by
  obtain ⟨h1, h2, -⟩ := h
  obtain ⟨d, rfl⟩ := Nat.exists_eq_add_of_le ha
  have := det_add hd h2 d
  rw [show t0 + d + (T - t0) = T + d by omega]
  exact this.symm
/-- every later thing is one of the cycle's -/
theorem per_back (hd : Det c) (h : Comes c t0 T) (a : Nat) (ha : t0 ≤ a) : ∃ b, t0 ≤ b ∧ b < T ∧ c b = c a ∧ ∃ q, a = b + q * (T - t0) := by
  have h1 := h.1
  induction a using Nat.strongRecOn with
  | ind a ih =>
    rcases Nat.lt_or_ge a T with g | g
    · exact ⟨a, ha, g, rfl, 0, by omega⟩
    · obtain ⟨b, hb1, hb2, hb3, q, hq⟩ := ih (a - (T - t0)) (by omega) (by omega)
      refine ⟨b, hb1, hb2, ?_, q + 1, ?_⟩
      · rw [hb3]
        have := per_add hd h (a := a - (T - t0)) (by omega)
        rw [show a - (T - t0) + (T - t0) = a by omega] at this
        exact this.symm
      · rw [Nat.add_mul]
        omega
theorem per_iff (hd : Det c) (h : Comes c t0 T) {a d : Nat} (hd0 : 0 < d) (he : c a = c (a + d)) : t0 ≤ a ∧ T - t0 ≤ d := by
  have h1 := h.1
  have ha : t0 ≤ a := by
    refine Classical.byContradiction fun hn => ?_
    have hat : a < t0 := by omega
    rcases Nat.lt_or_ge (a + d) T with g | g
    · exact h.2.2 a (a + d) (by omega) g he
    · obtain ⟨b, hb1, hb2, hb3, -⟩ := per_back hd h (a + d) (by omega)
      exact h.2.2 a b (by omega) hb2 (by rw [hb3]; exact he)
  refine ⟨ha, ?_⟩
  refine Classical.byContradiction fun hn => ?_
  obtain ⟨b, hb1, hb2, hb3, q, hq⟩ := per_back hd h a ha
  have hbd : c (b + d) = c b := by
    have e1 : c (b + d) = c (a + d) := det_add hd hb3 d
    rw [e1, ← he, hb3]
  rcases Nat.lt_or_ge (b + d) T with g | g
  · exact h.2.2 b (b + d) (by omega) g hbd.symm
  · have e2 := per_add hd h (a := b + d - (T - t0)) (by omega)
    rw [show b + d - (T - t0) + (T - t0) = b + d by omega] at e2
    have e3 : c (b + d - (T - t0)) = c b := by rw [← e2]; exact hbd
    exact h.2.2 (b + d - (T - t0)) b (by omega) hb2 e3
/-- sums of what depends on the thing alone, over one way round -/
theorem gain_round (hd : Det c) (h : Comes c t0 T) {G : Nat → Int32} {D : Nat → Int32} (hG : ∀ k, G (k + 1) = G k + D (c k)) {a : Nat} (ha : t0 ≤ a) : G (a + (T - t0)) - G a = G T - G t0 := by
  obtain ⟨d, rfl⟩ := Nat.exists_eq_add_of_le ha
  have h1 := h.1
  induction d with
  | zero =>
    show G (t0 + (T - t0)) - G t0 = _
    rw [show t0 + (T - t0) = T by omega]
  | succ d ih =>
    have e1 := ih (by omega)
    have e2 := per_add hd h (a := t0 + d) (by omega)
    have e3 := hG (t0 + d)
    have e4 := hG (t0 + d + (T - t0))
    rw [e2] at e4
    rw [show t0 + (d + 1) + (T - t0) = t0 + d + (T - t0) + 1 by omega, show t0 + (d + 1) = t0 + d + 1 by omega, e3, e4]
    grind
end
