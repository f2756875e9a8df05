/-! THE FACTS OF NUMBERS: the rows are naturals, their sums, the gains' bound -/
def smN (f : Nat → Nat) : Nat → Nat
  | 0 => 0
  | k + 1 => smN f k + f k
theorem smN_eq {f f' : Nat → Nat} {k : Nat} (h : ∀ j, j < k → f j = f' j) : smN f k = smN f' k := by
  induction k with
  | zero => rfl
  | succ k ih =>
    show smN f k + f k = smN f' k + f' k
    rw [ih (fun j hj => h j (by omega)), h k (by omega)]
theorem smN_up {f : Nat → Nat} {i x : Nat} (m : Nat) (h : i < m) : smN (va_up f i (f i + x)) m = smN f m + x := by
  induction m with
  | zero => omega
  | succ m ih =>
    show smN (va_up f i (f i + x)) m + va_up f i (f i + x) m = smN f m + f m + x
    by_cases e : i = m
    · subst e
      rw [smN_eq (f := va_up f i (f i + x)) (f' := f) (k := i) (fun j hj => if_neg (by omega)), show va_up f i (f i + x) i = f i + x from if_pos rfl]
      omega
    · rw [ih (by omega), show va_up f i (f i + x) m = f m from if_neg (fun h => e h.symm)]
      omega
theorem smN_ge {f : Nat → Nat} {i : Nat} (m : Nat) (h : i < m) : f i ≤ smN f m := by
  induction m with
  | zero => omega
  | succ m ih =>
    show f i ≤ smN f m + f m
    by_cases e : i = m
    · subst e; omega
    · have := ih (by omega)
      omega
def pvNS (m : Nat) (tb tf h : Nat → Nat) (k : Nat) (v : Nat → Nat) : Nat → Nat :=
  let T1 := va_up v (pB m k) (v (pB m k) + h k * tb k)
  let T2 := va_up T1 k (T1 k + h k * (10 - tb k - tf k))
  va_up T2 (pA m k) (T2 (pA m k) + h k * tf k)
def pvN (m : Nat) (tb tf h : Nat → Nat) : Nat → Nat → Nat
  | 0 => fun _ => 0
  | k + 1 => pvNS m tb tf h k (pvN m tb tf h k)
theorem pvF_N {m : Nat} {tb tf h : Nat → Nat} (k : Nat) : (pvF m tb tf (fun j => lN (h j)) k).1 = fun j => lN (pvN m tb tf h k j) := by
  induction k with
  | zero => rfl
  | succ k ih =>
    show (pvS m tb tf (fun j => lN (h j)) k (pvF m tb tf (fun j => lN (h j)) k)).1 = fun j => lN (pvNS m tb tf h k (pvN m tb tf h k) j)
    unfold pvS pvNS
    dsimp only
    rw [ih]
    dsimp only
    rw [lN_mul, lN_mul, lN_mul, lN_add, updL_lN]
    dsimp only
    rw [lN_add, updL_lN]
    dsimp only
    rw [lN_add, updL_lN]
theorem pvN_sum {m : Nat} {tb tf h : Nat → Nat} (hm : 0 < m) (ht : ∀ k, tb k + tf k ≤ 10) (k : Nat) (hk : k ≤ m) : smN (pvN m tb tf h k) m = 10 * smN h k := by
  induction k with
  | zero =>
    show smN (fun _ => 0) m = 10 * 0
    clear hk
    have : ∀ n, smN (fun _ => 0) n = 0 := by
      intro n
      induction n with
      | zero => rfl
      | succ n ih => exact ih
    rw [this]
  | succ k ih =>
    show smN (pvNS m tb tf h k (pvN m tb tf h k)) m = 10 * (smN h k + h k)
    unfold pvNS
    dsimp only
    rw [smN_up m (pA_lt hm), smN_up m (show k < m by omega), smN_up m (pB_lt hm (by omega)), ih (by omega)]
    have e : h k * tb k + h k * (10 - tb k - tf k) + h k * tf k = h k * 10 := by
      rw [← Nat.mul_add, ← Nat.mul_add]
      congr 1
      have := ht k
      omega
    omega
theorem pvG_bd {m : Nat} {tb tf h : Nat → Nat} (ht : ∀ k, tb k + tf k ≤ 10) (hb : smN h m ≤ 1000000) (k : Nat) (hk : k ≤ m) : -(10 * (smN h k : Int)) ≤ (pvF m tb tf (fun j => lN (h j)) k).2.toInt ∧ (pvF m tb tf (fun j => lN (h j)) k).2.toInt ≤ 10 * (smN h k : Int) := by
  have mono : ∀ j, j ≤ m → smN h j ≤ 1000000 := by
    intro j hj
    obtain ⟨d, rfl⟩ : ∃ d, m = j + d := ⟨m - j, by omega⟩
    clear hk hj
    induction d with
    | zero => exact hb
    | succ d ih =>
      have : smN h (j + d + 1) = smN h (j + d) + h (j + d) := rfl
      exact ih (by have : smN h (j + (d + 1)) = smN h (j + d) + h (j + d) := rfl; omega)
  induction k with
  | zero => exact ⟨Int.le_refl _, Int.le_refl _⟩
  | succ k ih =>
    obtain ⟨i1, i2⟩ := ih (by omega)
    have hm1 := mono (k + 1) hk
    have hs : smN h (k + 1) = smN h k + h k := rfl
    show -(10 * (smN h (k + 1) : Int)) ≤ ((pvF m tb tf (fun j => lN (h j)) k).2 + lN (h k) * (nI (tf k) - nI (tb k)).toInt64).toInt ∧ ((pvF m tb tf (fun j => lN (h j)) k).2 + lN (h k) * (nI (tf k) - nI (tb k)).toInt64).toInt ≤ 10 * (smN h (k + 1) : Int)
    generalize (pvF m tb tf (fun j => lN (h j)) k).2 = y at *
    have t1 := ht k
    have p1 : h k * tf k ≤ h k * 10 := Nat.mul_le_mul_left _ (by omega)
    have p2 : h k * tb k ≤ h k * 10 := Nat.mul_le_mul_left _ (by omega)
    rw [ro_gain (ht k), lN_mul, lN_mul]
    have e1 : (lN (h k * tf k)).toInt = (h k * tf k : Nat) := pk_lT (by omega)
    have e2 : (lN (h k * tb k)).toInt = (h k * tb k : Nat) := pk_lT (by omega)
    generalize h k * tf k = u1 at *
    generalize h k * tb k = u2 at *
    have e3 : (lN u1 - lN u2).toInt = (u1 : Int) - u2 := by rw [l_sub (by omega) (by omega), e1, e2]
    rw [l_add (by omega) (by omega), e3, hs]
    omega
def rvN (m g w : Nat) (B F : Nat → Nat) (r a : Nat) : Nat → Nat → Nat
  | 0 => fun p => if p = a then 1 else 0
  | k + 1 => pvN m (tB g w B (plev r k)) (tF g F (plev r k)) (rvN m g w B F r a k) m
theorem rvF_N {m g w r a : Nat} {B F : Nat → Nat} (k : Nat) : (rvF m g w B F r a k).1 = fun j => lN (rvN m g w B F r a k j) := by
  induction k with
  | zero =>
    funext j
    show (if j = a then (1 : Int64) else 0) = lN (if j = a then 1 else 0)
    split <;> rfl
  | succ k ih =>
    show (pvF m (tB g w B (plev r k)) (tF g F (plev r k)) (rvF m g w B F r a k).1 m).1 = _
    rw [ih]
    exact pvF_N m
theorem rvN_sum {m g w r a : Nat} {B F : Nat → Nat} (hm : 0 < m) (hBF : ∀ j, B j + F j ≤ 10) (ha : a < m) (k : Nat) : smN (rvN m g w B F r a k) m = 10 ^ k := by
  induction k with
  | zero =>
    have z : ∀ n, n ≤ a → smN (fun p => if p = a then 1 else 0) n = 0 := by
      intro n
      induction n with
      | zero => exact fun _ => rfl
      | succ n ih =>
        intro hn
        show smN (fun p => if p = a then 1 else 0) n + (if n = a then 1 else 0) = 0
        rw [ih (by omega), if_neg (by omega)]
    have o : ∀ n, a < n → smN (fun p => if p = a then 1 else 0) n = 1 := by
      intro n
      induction n with
      | zero => exact fun h => absurd h (Nat.not_lt_zero _)
      | succ n ih =>
        intro hn
        show smN (fun p => if p = a then 1 else 0) n + (if n = a then 1 else 0) = 1
        by_cases e : n = a
        · rw [z n (by omega), if_pos e]
        · rw [ih (by omega), if_neg e]
    exact o m ha
  | succ k ih =>
    show smN (pvN m (tB g w B (plev r k)) (tF g F (plev r k)) (rvN m g w B F r a k) m) m = 10 ^ (k + 1)
    rw [pvN_sum hm (tBF_10 hBF) m (Nat.le_refl m), ih, Nat.pow_succ, Nat.mul_comm]
theorem rvG_bd {m g w r a : Nat} {B F : Nat → Nat} (hm : 0 < m) (hBF : ∀ j, B j + F j ≤ 10) (ha : a < m) (k : Nat) (hk : k ≤ 4) : -((k * 10 ^ k : Nat) : Int) ≤ (rvF m g w B F r a k).2.toInt ∧ (rvF m g w B F r a k).2.toInt ≤ ((k * 10 ^ k : Nat) : Int) := by
  induction k with
  | zero => exact ⟨Int.le_refl _, Int.le_refl _⟩
  | succ k ih =>
    obtain ⟨i1, i2⟩ := ih (by omega)
    have hs := rvN_sum (g := g) (w := w) (r := r) hm hBF ha k
    have hp : 10 ^ k ≤ 10 ^ 4 := Nat.pow_le_pow_right (by decide) (by omega)
    have hpk : k * 10 ^ k ≤ 4 * 10 ^ 4 := Nat.mul_le_mul (by omega) hp
    obtain ⟨j1, j2⟩ := pvG_bd (m := m) (tb := tB g w B (plev r k)) (tf := tF g F (plev r k)) (h := rvN m g w B F r a k) (tBF_10 hBF) (by omega) m (Nat.le_refl m)
    rw [hs, ← rvF_N] at j1 j2
    show -(((k + 1) * 10 ^ (k + 1) : Nat) : Int) ≤ (10 * (rvF m g w B F r a k).2 + (pvF m (tB g w B (plev r k)) (tF g F (plev r k)) (rvF m g w B F r a k).1 m).2).toInt ∧ (10 * (rvF m g w B F r a k).2 + (pvF m (tB g w B (plev r k)) (tF g F (plev r k)) (rvF m g w B F r a k).1 m).2).toInt ≤ (((k + 1) * 10 ^ (k + 1) : Nat) : Int)
    generalize (pvF m (tB g w B (plev r k)) (tF g F (plev r k)) (rvF m g w B F r a k).1 m).2 = y at *
    generalize (rvF m g w B F r a k).2 = x at *
    have e : (k + 1) * 10 ^ (k + 1) = 10 * (k * 10 ^ k) + 10 * 10 ^ k := by
      rw [Nat.pow_succ, Nat.add_mul, Nat.one_mul, Nat.mul_comm (10 ^ k) 10, Nat.mul_left_comm]
    rw [e]
    generalize 10 ^ k = u at *
    generalize k * u = z at *
    have t10 : (10 : Int64).toInt = 10 := rfl
    have e1 : (10 * x).toInt = 10 * x.toInt := by rw [l_mul (by rw [t10]; omega) (by rw [t10]; omega), t10]
    rw [l_add (by omega) (by omega), e1]
    omega
