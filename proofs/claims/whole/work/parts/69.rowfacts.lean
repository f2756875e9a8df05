/-! THE FACTS OF NUMBERS: the rows of a round, told twice -/
theorem mid_w : ∀ x, x < 11 → ∀ y, y < 11 → x + y ≤ 10 → lN (10 - x - y) = 10 - lN x - lN y := by decide +kernel
theorem mid_g : ∀ x, x < 11 → ∀ y, y < 11 → (nI x - nI y).toInt64 = lN x - lN y := by decide +kernel
theorem ro_mid {h : Int64} {x y : Nat} (hx : x + y ≤ 10) : h * lN (10 - x - y) = 10 * h - h * lN x - h * lN y := by
  rw [mid_w x (by omega) y (by omega) hx]
  grind
theorem ro_gain {h : Int64} {x y : Nat} (hx : x + y ≤ 10) : h * (nI y - nI x).toInt64 = h * lN y - h * lN x := by
  rw [mid_g y (by omega) x (by omega)]
  grind
theorem up2_same {M : Gr} {a q : Nat} {x : Int64} : up2 M a q x a = vp_updL (M a) q x := if_pos rfl
theorem up2_other {M : Gr} {a i q : Nat} {x : Int64} (h : i ≠ a) : up2 M a q x i = M i := if_neg h
theorem roI_row {m : Nat} {tb tf : Nat → Nat} {M : Gr} {a : Nat} {s : Ro2} (h0 : s.1 a = fun _ => 0) (ht : ∀ k, tb k + tf k ≤ 10) (k : Nat) : (roI m tb tf M a s k).1 a = (pvF m tb tf (M a) k).1 ∧ (roI m tb tf M a s k).2 a = 10 * s.2 a + (pvF m tb tf (M a) k).2 := by
  induction k with
  | zero =>
    refine ⟨h0, ?_⟩
    show vp_updL s.2 a (10 * s.2 a) a = 10 * s.2 a + 0
    rw [updL_same]
    grind
  | succ k ih =>
    obtain ⟨i1, i2⟩ := ih
    show (roS m tb tf M a k (roI m tb tf M a s k)).1 a = (pvS m tb tf (M a) k (pvF m tb tf (M a) k)).1 ∧ (roS m tb tf M a k (roI m tb tf M a s k)).2 a = 10 * s.2 a + (pvS m tb tf (M a) k (pvF m tb tf (M a) k)).2
    generalize roI m tb tf M a s k = u at *
    generalize pvF m tb tf (M a) k = v at *
    unfold roS pvS
    dsimp only
    refine ⟨?_, ?_⟩
    · simp only [up2_same]
      rw [i1, ro_mid (ht k)]
    · rw [updL_same, i2, ro_gain (ht k)]
      grind
theorem roI_other {m : Nat} {tb tf : Nat → Nat} {M : Gr} {a i : Nat} {s : Ro2} (h : i ≠ a) (k : Nat) : (roI m tb tf M a s k).1 i = s.1 i ∧ (roI m tb tf M a s k).2 i = s.2 i := by
  induction k with
  | zero => exact ⟨rfl, if_neg h⟩
  | succ k ih =>
    obtain ⟨i1, i2⟩ := ih
    show (roS m tb tf M a k (roI m tb tf M a s k)).1 i = s.1 i ∧ (roS m tb tf M a k (roI m tb tf M a s k)).2 i = s.2 i
    generalize roI m tb tf M a s k = u at *
    unfold roS
    dsimp only
    refine ⟨?_, ?_⟩
    · simp only [up2_other h]
      exact i1
    · rw [show vp_updL u.2 a _ i = u.2 i from if_neg h]
      exact i2
theorem roO_row {m : Nat} {tb tf : Nat → Nat} {M : Gr} {G : Nat → Int64} (ht : ∀ k, tb k + tf k ≤ 10) (n : Nat) : ∀ a, (a < n → (roO m tb tf M G n).1 a = (pvF m tb tf (M a) m).1 ∧ (roO m tb tf M G n).2 a = 10 * G a + (pvF m tb tf (M a) m).2) ∧ (n ≤ a → (roO m tb tf M G n).1 a = (fun _ => 0) ∧ (roO m tb tf M G n).2 a = G a) := by
  induction n with
  | zero => exact fun a => ⟨fun h => absurd h (Nat.not_lt_zero _), fun _ => ⟨rfl, rfl⟩⟩
  | succ n ih =>
    intro a
    show (a < n + 1 → (roI m tb tf M n (roO m tb tf M G n) m).1 a = _ ∧ (roI m tb tf M n (roO m tb tf M G n) m).2 a = _) ∧ (n + 1 ≤ a → (roI m tb tf M n (roO m tb tf M G n) m).1 a = _ ∧ (roI m tb tf M n (roO m tb tf M G n) m).2 a = _)
    by_cases e : a = n
    · subst e
      obtain ⟨j1, j2⟩ := (ih a).2 (Nat.le_refl a)
      obtain ⟨k1, k2⟩ := roI_row (m := m) (M := M) j1 ht m
      rw [j2] at k2
      exact ⟨fun _ => ⟨k1, k2⟩, fun h => absurd h (by omega)⟩
    · obtain ⟨k1, k2⟩ := roI_other (m := m) (tb := tb) (tf := tf) (M := M) (s := roO m tb tf M G n) e m
      rw [k1, k2]
      exact ⟨fun h => (ih a).1 (by omega), fun h => (ih a).2 (by omega)⟩
theorem idG_row (n : Nat) : ∀ a, (a < n → idG n a = unF a) ∧ (n ≤ a → idG n a = fun _ => 0) := by
  induction n with
  | zero => exact fun a => ⟨fun h => absurd h (Nat.not_lt_zero _), fun _ => rfl⟩
  | succ n ih =>
    intro a
    show (a < n + 1 → up2 (idG n) n n 1 a = _) ∧ (n + 1 ≤ a → up2 (idG n) n n 1 a = _)
    by_cases e : a = n
    · subst e
      rw [up2_same, (ih a).2 (Nat.le_refl a)]
      exact ⟨fun _ => rfl, fun h => absurd h (by omega)⟩
    · rw [up2_other e]
      exact ⟨fun h => (ih a).1 (by omega), fun h => (ih a).2 (by omega)⟩
theorem tBF_10 {g w l : Nat} {B F : Nat → Nat} (h : ∀ j, B j + F j ≤ 10) (k : Nat) : tB g w B l k + tF g F l k ≤ 10 := tBF_le h
theorem roN_rv {m g w q : Nat} {B F : Nat → Nat} (hBF : ∀ j, B j + F j ≤ 10) (k : Nat) : ∀ a, a < m → (roN m g w B F q k).1 a = (rvF m g w B F q a k).1 ∧ (roN m g w B F q k).2 a = (rvF m g w B F q a k).2 := by
  induction k with
  | zero => exact fun a ha => ⟨(idG_row m a).1 ha, rfl⟩
  | succ k ih =>
    intro a ha
    obtain ⟨i1, i2⟩ := ih a ha
    have := (roO_row (m := m) (M := (roN m g w B F q k).1) (G := (roN m g w B F q k).2) (tBF_10 (g := g) (w := w) (l := plev q k) hBF) m a).1 ha
    rw [i1, i2] at this
    exact this
