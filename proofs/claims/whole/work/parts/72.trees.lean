/-! THE FACTS OF NUMBERS: a minor is the sum over the trees towards its position -/

def tr20 (n : Nat → Nat) : Nat := n 4
theorem mnL_20 {sl : Int64} {ro : Nat → Int64} (h1 : sl - ro 5 = ro 4) : mnM 2 sl ro 0 = ro 4 := by
  simp [mnM, enM]
  simp only [h1]
  try grind
theorem mnT_20 {s : Nat} {n : Nat → Nat} (h : ∀ i, i < 2 → s = n (4 * i + 0) + n (4 * i + 1)) : mnM 2 (lN s) (fun c => lN (n c)) 0 = lN (tr20 n) := by
  refine (mnL_20 ?_).trans ?_
  · try dsimp only
    rw [h 1 (by decide)]
    simp only [← lN_add]
    grind
  · try simp only [lN_mul, lN_add]
    rfl

def tr21 (n : Nat → Nat) : Nat := n 1
theorem mnL_21 {sl : Int64} {ro : Nat → Int64} (h0 : sl - ro 0 = ro 1) : mnM 2 sl ro 1 = ro 1 := by
  simp [mnM, enM]
  simp only [h0]
  try grind
theorem mnT_21 {s : Nat} {n : Nat → Nat} (h : ∀ i, i < 2 → s = n (4 * i + 0) + n (4 * i + 1)) : mnM 2 (lN s) (fun c => lN (n c)) 1 = lN (tr21 n) := by
  refine (mnL_21 ?_).trans ?_
  · try dsimp only
    rw [h 0 (by decide)]
    simp only [← lN_add]
    grind
  · try simp only [lN_mul, lN_add]
    rfl

def tr30 (n : Nat → Nat) : Nat := n 4 * n 8 + n 4 * n 9 + n 6 * n 8
theorem mnL_30 {sl : Int64} {ro : Nat → Int64} (h1 : sl - ro 5 = ro 4 + ro 6) (h2 : sl - ro 10 = ro 8 + ro 9) : mnM 3 sl ro 0 = ro 4 * ro 8 + ro 4 * ro 9 + ro 6 * ro 8 := by
  simp [mnM, enM]
  simp only [h1, h2]
  try grind
theorem mnT_30 {s : Nat} {n : Nat → Nat} (h : ∀ i, i < 3 → s = n (4 * i + 0) + n (4 * i + 1) + n (4 * i + 2)) : mnM 3 (lN s) (fun c => lN (n c)) 0 = lN (tr30 n) := by
  refine (mnL_30 ?_ ?_).trans ?_
  · try dsimp only
    rw [h 1 (by decide)]
    simp only [← lN_add]
    grind
  · try dsimp only
    rw [h 2 (by decide)]
    simp only [← lN_add]
    grind
  · try simp only [lN_mul, lN_add]
    rfl

def tr31 (n : Nat → Nat) : Nat := n 1 * n 8 + n 1 * n 9 + n 2 * n 9
theorem mnL_31 {sl : Int64} {ro : Nat → Int64} (h0 : sl - ro 0 = ro 1 + ro 2) (h2 : sl - ro 10 = ro 8 + ro 9) : mnM 3 sl ro 1 = ro 1 * ro 8 + ro 1 * ro 9 + ro 2 * ro 9 := by
  simp [mnM, enM]
  simp only [h0, h2]
  try grind
theorem mnT_31 {s : Nat} {n : Nat → Nat} (h : ∀ i, i < 3 → s = n (4 * i + 0) + n (4 * i + 1) + n (4 * i + 2)) : mnM 3 (lN s) (fun c => lN (n c)) 1 = lN (tr31 n) := by
  refine (mnL_31 ?_ ?_).trans ?_
  · try dsimp only
    rw [h 0 (by decide)]
    simp only [← lN_add]
    grind
  · try dsimp only
    rw [h 2 (by decide)]
    simp only [← lN_add]
    grind
  · try simp only [lN_mul, lN_add]
    rfl

def tr32 (n : Nat → Nat) : Nat := n 1 * n 6 + n 2 * n 4 + n 2 * n 6
theorem mnL_32 {sl : Int64} {ro : Nat → Int64} (h0 : sl - ro 0 = ro 1 + ro 2) (h1 : sl - ro 5 = ro 4 + ro 6) : mnM 3 sl ro 2 = ro 1 * ro 6 + ro 2 * ro 4 + ro 2 * ro 6 := by
  simp [mnM, enM]
  simp only [h0, h1]
  try grind
theorem mnT_32 {s : Nat} {n : Nat → Nat} (h : ∀ i, i < 3 → s = n (4 * i + 0) + n (4 * i + 1) + n (4 * i + 2)) : mnM 3 (lN s) (fun c => lN (n c)) 2 = lN (tr32 n) := by
  refine (mnL_32 ?_ ?_).trans ?_
  · try dsimp only
    rw [h 0 (by decide)]
    simp only [← lN_add]
    grind
  · try dsimp only
    rw [h 1 (by decide)]
    simp only [← lN_add]
    grind
  · try simp only [lN_mul, lN_add]
    rfl

def tr40 (n : Nat → Nat) : Nat := n 4 * n 8 * n 12 + n 4 * n 8 * n 13 + n 4 * n 8 * n 14 + n 4 * n 9 * n 12 + n 4 * n 9 * n 13 + n 4 * n 9 * n 14 + n 4 * n 11 * n 12 + n 4 * n 11 * n 13 + n 6 * n 8 * n 12 + n 6 * n 8 * n 13 + n 6 * n 8 * n 14 + n 6 * n 11 * n 12 + n 7 * n 8 * n 12 + n 7 * n 8 * n 14 + n 7 * n 9 * n 12 + n 7 * n 11 * n 12
theorem mnL_40 {sl : Int64} {ro : Nat → Int64} (h1 : sl - ro 5 = ro 4 + ro 6 + ro 7) (h2 : sl - ro 10 = ro 8 + ro 9 + ro 11) (h3 : sl - ro 15 = ro 12 + ro 13 + ro 14) : mnM 4 sl ro 0 = ro 4 * ro 8 * ro 12 + ro 4 * ro 8 * ro 13 + ro 4 * ro 8 * ro 14 + ro 4 * ro 9 * ro 12 + ro 4 * ro 9 * ro 13 + ro 4 * ro 9 * ro 14 + ro 4 * ro 11 * ro 12 + ro 4 * ro 11 * ro 13 + ro 6 * ro 8 * ro 12 + ro 6 * ro 8 * ro 13 + ro 6 * ro 8 * ro 14 + ro 6 * ro 11 * ro 12 + ro 7 * ro 8 * ro 12 + ro 7 * ro 8 * ro 14 + ro 7 * ro 9 * ro 12 + ro 7 * ro 11 * ro 12 := by
  simp [mnM, enM]
  simp only [h1, h2, h3]
  try grind
theorem mnT_40 {s : Nat} {n : Nat → Nat} (h : ∀ i, i < 4 → s = n (4 * i + 0) + n (4 * i + 1) + n (4 * i + 2) + n (4 * i + 3)) : mnM 4 (lN s) (fun c => lN (n c)) 0 = lN (tr40 n) := by
  refine (mnL_40 ?_ ?_ ?_).trans ?_
  · try dsimp only
    rw [h 1 (by decide)]
    simp only [← lN_add]
    grind
  · try dsimp only
    rw [h 2 (by decide)]
    simp only [← lN_add]
    grind
  · try dsimp only
    rw [h 3 (by decide)]
    simp only [← lN_add]
    grind
  · try simp only [lN_mul, lN_add]
    rfl

def tr41 (n : Nat → Nat) : Nat := n 1 * n 8 * n 12 + n 1 * n 8 * n 13 + n 1 * n 8 * n 14 + n 1 * n 9 * n 12 + n 1 * n 9 * n 13 + n 1 * n 9 * n 14 + n 1 * n 11 * n 12 + n 1 * n 11 * n 13 + n 2 * n 9 * n 12 + n 2 * n 9 * n 13 + n 2 * n 9 * n 14 + n 2 * n 11 * n 13 + n 3 * n 8 * n 13 + n 3 * n 9 * n 13 + n 3 * n 9 * n 14 + n 3 * n 11 * n 13
theorem mnL_41 {sl : Int64} {ro : Nat → Int64} (h0 : sl - ro 0 = ro 1 + ro 2 + ro 3) (h2 : sl - ro 10 = ro 8 + ro 9 + ro 11) (h3 : sl - ro 15 = ro 12 + ro 13 + ro 14) : mnM 4 sl ro 1 = ro 1 * ro 8 * ro 12 + ro 1 * ro 8 * ro 13 + ro 1 * ro 8 * ro 14 + ro 1 * ro 9 * ro 12 + ro 1 * ro 9 * ro 13 + ro 1 * ro 9 * ro 14 + ro 1 * ro 11 * ro 12 + ro 1 * ro 11 * ro 13 + ro 2 * ro 9 * ro 12 + ro 2 * ro 9 * ro 13 + ro 2 * ro 9 * ro 14 + ro 2 * ro 11 * ro 13 + ro 3 * ro 8 * ro 13 + ro 3 * ro 9 * ro 13 + ro 3 * ro 9 * ro 14 + ro 3 * ro 11 * ro 13 := by
  simp [mnM, enM]
  simp only [h0, h2, h3]
  try grind
theorem mnT_41 {s : Nat} {n : Nat → Nat} (h : ∀ i, i < 4 → s = n (4 * i + 0) + n (4 * i + 1) + n (4 * i + 2) + n (4 * i + 3)) : mnM 4 (lN s) (fun c => lN (n c)) 1 = lN (tr41 n) := by
  refine (mnL_41 ?_ ?_ ?_).trans ?_
  · try dsimp only
    rw [h 0 (by decide)]
    simp only [← lN_add]
    grind
  · try dsimp only
    rw [h 2 (by decide)]
    simp only [← lN_add]
    grind
  · try dsimp only
    rw [h 3 (by decide)]
    simp only [← lN_add]
    grind
  · try simp only [lN_mul, lN_add]
    rfl

def tr42 (n : Nat → Nat) : Nat := n 1 * n 6 * n 12 + n 1 * n 6 * n 13 + n 1 * n 6 * n 14 + n 1 * n 7 * n 14 + n 2 * n 4 * n 12 + n 2 * n 4 * n 13 + n 2 * n 4 * n 14 + n 2 * n 6 * n 12 + n 2 * n 6 * n 13 + n 2 * n 6 * n 14 + n 2 * n 7 * n 12 + n 2 * n 7 * n 14 + n 3 * n 4 * n 14 + n 3 * n 6 * n 13 + n 3 * n 6 * n 14 + n 3 * n 7 * n 14
theorem mnL_42 {sl : Int64} {ro : Nat → Int64} (h0 : sl - ro 0 = ro 1 + ro 2 + ro 3) (h1 : sl - ro 5 = ro 4 + ro 6 + ro 7) (h3 : sl - ro 15 = ro 12 + ro 13 + ro 14) : mnM 4 sl ro 2 = ro 1 * ro 6 * ro 12 + ro 1 * ro 6 * ro 13 + ro 1 * ro 6 * ro 14 + ro 1 * ro 7 * ro 14 + ro 2 * ro 4 * ro 12 + ro 2 * ro 4 * ro 13 + ro 2 * ro 4 * ro 14 + ro 2 * ro 6 * ro 12 + ro 2 * ro 6 * ro 13 + ro 2 * ro 6 * ro 14 + ro 2 * ro 7 * ro 12 + ro 2 * ro 7 * ro 14 + ro 3 * ro 4 * ro 14 + ro 3 * ro 6 * ro 13 + ro 3 * ro 6 * ro 14 + ro 3 * ro 7 * ro 14 := by
  simp [mnM, enM]
  simp only [h0, h1, h3]
  try grind
theorem mnT_42 {s : Nat} {n : Nat → Nat} (h : ∀ i, i < 4 → s = n (4 * i + 0) + n (4 * i + 1) + n (4 * i + 2) + n (4 * i + 3)) : mnM 4 (lN s) (fun c => lN (n c)) 2 = lN (tr42 n) := by
  refine (mnL_42 ?_ ?_ ?_).trans ?_
  · try dsimp only
    rw [h 0 (by decide)]
    simp only [← lN_add]
    grind
  · try dsimp only
    rw [h 1 (by decide)]
    simp only [← lN_add]
    grind
  · try dsimp only
    rw [h 3 (by decide)]
    simp only [← lN_add]
    grind
  · try simp only [lN_mul, lN_add]
    rfl

def tr43 (n : Nat → Nat) : Nat := n 1 * n 6 * n 11 + n 1 * n 7 * n 8 + n 1 * n 7 * n 9 + n 1 * n 7 * n 11 + n 2 * n 4 * n 11 + n 2 * n 6 * n 11 + n 2 * n 7 * n 9 + n 2 * n 7 * n 11 + n 3 * n 4 * n 8 + n 3 * n 4 * n 9 + n 3 * n 4 * n 11 + n 3 * n 6 * n 8 + n 3 * n 6 * n 11 + n 3 * n 7 * n 8 + n 3 * n 7 * n 9 + n 3 * n 7 * n 11
theorem mnL_43 {sl : Int64} {ro : Nat → Int64} (h0 : sl - ro 0 = ro 1 + ro 2 + ro 3) (h1 : sl - ro 5 = ro 4 + ro 6 + ro 7) (h2 : sl - ro 10 = ro 8 + ro 9 + ro 11) : mnM 4 sl ro 3 = ro 1 * ro 6 * ro 11 + ro 1 * ro 7 * ro 8 + ro 1 * ro 7 * ro 9 + ro 1 * ro 7 * ro 11 + ro 2 * ro 4 * ro 11 + ro 2 * ro 6 * ro 11 + ro 2 * ro 7 * ro 9 + ro 2 * ro 7 * ro 11 + ro 3 * ro 4 * ro 8 + ro 3 * ro 4 * ro 9 + ro 3 * ro 4 * ro 11 + ro 3 * ro 6 * ro 8 + ro 3 * ro 6 * ro 11 + ro 3 * ro 7 * ro 8 + ro 3 * ro 7 * ro 9 + ro 3 * ro 7 * ro 11 := by
  simp [mnM, enM]
  simp only [h0, h1, h2]
  try grind
theorem mnT_43 {s : Nat} {n : Nat → Nat} (h : ∀ i, i < 4 → s = n (4 * i + 0) + n (4 * i + 1) + n (4 * i + 2) + n (4 * i + 3)) : mnM 4 (lN s) (fun c => lN (n c)) 3 = lN (tr43 n) := by
  refine (mnL_43 ?_ ?_ ?_).trans ?_
  · try dsimp only
    rw [h 0 (by decide)]
    simp only [← lN_add]
    grind
  · try dsimp only
    rw [h 1 (by decide)]
    simp only [← lN_add]
    grind
  · try dsimp only
    rw [h 2 (by decide)]
    simp only [← lN_add]
    grind
  · try simp only [lN_mul, lN_add]
    rfl

theorem pr3_le {x y z : Nat} (hx : x ≤ 10000) (hy : y ≤ 10000) (hz : z ≤ 10000) : x * y * z ≤ 1000000000000 := Nat.mul_le_mul (Nat.mul_le_mul hx hy) hz
theorem pr2_le {x y : Nat} (hx : x ≤ 10000) (hy : y ≤ 10000) : x * y ≤ 100000000 := Nat.mul_le_mul hx hy

def tb20 (A : Nat → Bool) : Bool := (A 4)
theorem tr20_le {n : Nat → Nat} (h : ∀ c, n c ≤ 10000) : tr20 n ≤ 16000000000000 := by
  unfold tr20
  have u0 := h 4
  omega
theorem tr20_pos {n : Nat → Nat} (h : tb20 (fun c => decide (0 < n c)) = true) : 0 < tr20 n := by
  unfold tb20 at h
  unfold tr20
  simp only [Bool.or_eq_true, Bool.and_eq_true, decide_eq_true_eq] at h
  omega

def tb21 (A : Nat → Bool) : Bool := (A 1)
theorem tr21_le {n : Nat → Nat} (h : ∀ c, n c ≤ 10000) : tr21 n ≤ 16000000000000 := by
  unfold tr21
  have u0 := h 1
  omega
theorem tr21_pos {n : Nat → Nat} (h : tb21 (fun c => decide (0 < n c)) = true) : 0 < tr21 n := by
  unfold tb21 at h
  unfold tr21
  simp only [Bool.or_eq_true, Bool.and_eq_true, decide_eq_true_eq] at h
  omega

def tb30 (A : Nat → Bool) : Bool := (A 4 && A 8) || (A 4 && A 9) || (A 6 && A 8)
theorem tr30_le {n : Nat → Nat} (h : ∀ c, n c ≤ 10000) : tr30 n ≤ 16000000000000 := by
  unfold tr30
  have u0 := pr2_le (h 4) (h 8)
  have u1 := pr2_le (h 4) (h 9)
  have u2 := pr2_le (h 6) (h 8)
  omega
theorem tr30_pos {n : Nat → Nat} (h : tb30 (fun c => decide (0 < n c)) = true) : 0 < tr30 n := by
  unfold tb30 at h
  unfold tr30
  simp only [Bool.or_eq_true, Bool.and_eq_true, decide_eq_true_eq] at h
  rcases h with (h | h) | h
  all_goals
    have := Nat.mul_pos h.1 h.2
    omega

def tb31 (A : Nat → Bool) : Bool := (A 1 && A 8) || (A 1 && A 9) || (A 2 && A 9)
theorem tr31_le {n : Nat → Nat} (h : ∀ c, n c ≤ 10000) : tr31 n ≤ 16000000000000 := by
  unfold tr31
  have u0 := pr2_le (h 1) (h 8)
  have u1 := pr2_le (h 1) (h 9)
  have u2 := pr2_le (h 2) (h 9)
  omega
theorem tr31_pos {n : Nat → Nat} (h : tb31 (fun c => decide (0 < n c)) = true) : 0 < tr31 n := by
  unfold tb31 at h
  unfold tr31
  simp only [Bool.or_eq_true, Bool.and_eq_true, decide_eq_true_eq] at h
  rcases h with (h | h) | h
  all_goals
    have := Nat.mul_pos h.1 h.2
    omega

def tb32 (A : Nat → Bool) : Bool := (A 1 && A 6) || (A 2 && A 4) || (A 2 && A 6)
theorem tr32_le {n : Nat → Nat} (h : ∀ c, n c ≤ 10000) : tr32 n ≤ 16000000000000 := by
  unfold tr32
  have u0 := pr2_le (h 1) (h 6)
  have u1 := pr2_le (h 2) (h 4)
  have u2 := pr2_le (h 2) (h 6)
  omega
theorem tr32_pos {n : Nat → Nat} (h : tb32 (fun c => decide (0 < n c)) = true) : 0 < tr32 n := by
  unfold tb32 at h
  unfold tr32
  simp only [Bool.or_eq_true, Bool.and_eq_true, decide_eq_true_eq] at h
  rcases h with (h | h) | h
  all_goals
    have := Nat.mul_pos h.1 h.2
    omega

def tb40 (A : Nat → Bool) : Bool := (A 4 && A 8 && A 12) || (A 4 && A 8 && A 13) || (A 4 && A 8 && A 14) || (A 4 && A 9 && A 12) || (A 4 && A 9 && A 13) || (A 4 && A 9 && A 14) || (A 4 && A 11 && A 12) || (A 4 && A 11 && A 13) || (A 6 && A 8 && A 12) || (A 6 && A 8 && A 13) || (A 6 && A 8 && A 14) || (A 6 && A 11 && A 12) || (A 7 && A 8 && A 12) || (A 7 && A 8 && A 14) || (A 7 && A 9 && A 12) || (A 7 && A 11 && A 12)
theorem tr40_le {n : Nat → Nat} (h : ∀ c, n c ≤ 10000) : tr40 n ≤ 16000000000000 := by
  unfold tr40
  have u0 := pr3_le (h 4) (h 8) (h 12)
  have u1 := pr3_le (h 4) (h 8) (h 13)
  have u2 := pr3_le (h 4) (h 8) (h 14)
  have u3 := pr3_le (h 4) (h 9) (h 12)
  have u4 := pr3_le (h 4) (h 9) (h 13)
  have u5 := pr3_le (h 4) (h 9) (h 14)
  have u6 := pr3_le (h 4) (h 11) (h 12)
  have u7 := pr3_le (h 4) (h 11) (h 13)
  have u8 := pr3_le (h 6) (h 8) (h 12)
  have u9 := pr3_le (h 6) (h 8) (h 13)
  have u10 := pr3_le (h 6) (h 8) (h 14)
  have u11 := pr3_le (h 6) (h 11) (h 12)
  have u12 := pr3_le (h 7) (h 8) (h 12)
  have u13 := pr3_le (h 7) (h 8) (h 14)
  have u14 := pr3_le (h 7) (h 9) (h 12)
  have u15 := pr3_le (h 7) (h 11) (h 12)
  omega
theorem tr40_pos {n : Nat → Nat} (h : tb40 (fun c => decide (0 < n c)) = true) : 0 < tr40 n := by
  unfold tb40 at h
  unfold tr40
  simp only [Bool.or_eq_true, Bool.and_eq_true, decide_eq_true_eq] at h
  rcases h with ((((((((((((((h | h) | h) | h) | h) | h) | h) | h) | h) | h) | h) | h) | h) | h) | h) | h
  all_goals
    have := Nat.mul_pos (Nat.mul_pos h.1.1 h.1.2) h.2
    omega

def tb41 (A : Nat → Bool) : Bool := (A 1 && A 8 && A 12) || (A 1 && A 8 && A 13) || (A 1 && A 8 && A 14) || (A 1 && A 9 && A 12) || (A 1 && A 9 && A 13) || (A 1 && A 9 && A 14) || (A 1 && A 11 && A 12) || (A 1 && A 11 && A 13) || (A 2 && A 9 && A 12) || (A 2 && A 9 && A 13) || (A 2 && A 9 && A 14) || (A 2 && A 11 && A 13) || (A 3 && A 8 && A 13) || (A 3 && A 9 && A 13) || (A 3 && A 9 && A 14) || (A 3 && A 11 && A 13)
theorem tr41_le {n : Nat → Nat} (h : ∀ c, n c ≤ 10000) : tr41 n ≤ 16000000000000 := by
  unfold tr41
  have u0 := pr3_le (h 1) (h 8) (h 12)
  have u1 := pr3_le (h 1) (h 8) (h 13)
  have u2 := pr3_le (h 1) (h 8) (h 14)
  have u3 := pr3_le (h 1) (h 9) (h 12)
  have u4 := pr3_le (h 1) (h 9) (h 13)
  have u5 := pr3_le (h 1) (h 9) (h 14)
  have u6 := pr3_le (h 1) (h 11) (h 12)
  have u7 := pr3_le (h 1) (h 11) (h 13)
  have u8 := pr3_le (h 2) (h 9) (h 12)
  have u9 := pr3_le (h 2) (h 9) (h 13)
  have u10 := pr3_le (h 2) (h 9) (h 14)
  have u11 := pr3_le (h 2) (h 11) (h 13)
  have u12 := pr3_le (h 3) (h 8) (h 13)
  have u13 := pr3_le (h 3) (h 9) (h 13)
  have u14 := pr3_le (h 3) (h 9) (h 14)
  have u15 := pr3_le (h 3) (h 11) (h 13)
  omega
theorem tr41_pos {n : Nat → Nat} (h : tb41 (fun c => decide (0 < n c)) = true) : 0 < tr41 n := by
  unfold tb41 at h
  unfold tr41
  simp only [Bool.or_eq_true, Bool.and_eq_true, decide_eq_true_eq] at h
  rcases h with ((((((((((((((h | h) | h) | h) | h) | h) | h) | h) | h) | h) | h) | h) | h) | h) | h) | h
  all_goals
    have := Nat.mul_pos (Nat.mul_pos h.1.1 h.1.2) h.2
    omega

def tb42 (A : Nat → Bool) : Bool := (A 1 && A 6 && A 12) || (A 1 && A 6 && A 13) || (A 1 && A 6 && A 14) || (A 1 && A 7 && A 14) || (A 2 && A 4 && A 12) || (A 2 && A 4 && A 13) || (A 2 && A 4 && A 14) || (A 2 && A 6 && A 12) || (A 2 && A 6 && A 13) || (A 2 && A 6 && A 14) || (A 2 && A 7 && A 12) || (A 2 && A 7 && A 14) || (A 3 && A 4 && A 14) || (A 3 && A 6 && A 13) || (A 3 && A 6 && A 14) || (A 3 && A 7 && A 14)
theorem tr42_le {n : Nat → Nat} (h : ∀ c, n c ≤ 10000) : tr42 n ≤ 16000000000000 := by
  unfold tr42
  have u0 := pr3_le (h 1) (h 6) (h 12)
  have u1 := pr3_le (h 1) (h 6) (h 13)
  have u2 := pr3_le (h 1) (h 6) (h 14)
  have u3 := pr3_le (h 1) (h 7) (h 14)
  have u4 := pr3_le (h 2) (h 4) (h 12)
  have u5 := pr3_le (h 2) (h 4) (h 13)
  have u6 := pr3_le (h 2) (h 4) (h 14)
  have u7 := pr3_le (h 2) (h 6) (h 12)
  have u8 := pr3_le (h 2) (h 6) (h 13)
  have u9 := pr3_le (h 2) (h 6) (h 14)
  have u10 := pr3_le (h 2) (h 7) (h 12)
  have u11 := pr3_le (h 2) (h 7) (h 14)
  have u12 := pr3_le (h 3) (h 4) (h 14)
  have u13 := pr3_le (h 3) (h 6) (h 13)
  have u14 := pr3_le (h 3) (h 6) (h 14)
  have u15 := pr3_le (h 3) (h 7) (h 14)
  omega
theorem tr42_pos {n : Nat → Nat} (h : tb42 (fun c => decide (0 < n c)) = true) : 0 < tr42 n := by
  unfold tb42 at h
  unfold tr42
  simp only [Bool.or_eq_true, Bool.and_eq_true, decide_eq_true_eq] at h
  rcases h with ((((((((((((((h | h) | h) | h) | h) | h) | h) | h) | h) | h) | h) | h) | h) | h) | h) | h
  all_goals
    have := Nat.mul_pos (Nat.mul_pos h.1.1 h.1.2) h.2
    omega

def tb43 (A : Nat → Bool) : Bool := (A 1 && A 6 && A 11) || (A 1 && A 7 && A 8) || (A 1 && A 7 && A 9) || (A 1 && A 7 && A 11) || (A 2 && A 4 && A 11) || (A 2 && A 6 && A 11) || (A 2 && A 7 && A 9) || (A 2 && A 7 && A 11) || (A 3 && A 4 && A 8) || (A 3 && A 4 && A 9) || (A 3 && A 4 && A 11) || (A 3 && A 6 && A 8) || (A 3 && A 6 && A 11) || (A 3 && A 7 && A 8) || (A 3 && A 7 && A 9) || (A 3 && A 7 && A 11)
theorem tr43_le {n : Nat → Nat} (h : ∀ c, n c ≤ 10000) : tr43 n ≤ 16000000000000 := by
  unfold tr43
  have u0 := pr3_le (h 1) (h 6) (h 11)
  have u1 := pr3_le (h 1) (h 7) (h 8)
  have u2 := pr3_le (h 1) (h 7) (h 9)
  have u3 := pr3_le (h 1) (h 7) (h 11)
  have u4 := pr3_le (h 2) (h 4) (h 11)
  have u5 := pr3_le (h 2) (h 6) (h 11)
  have u6 := pr3_le (h 2) (h 7) (h 9)
  have u7 := pr3_le (h 2) (h 7) (h 11)
  have u8 := pr3_le (h 3) (h 4) (h 8)
  have u9 := pr3_le (h 3) (h 4) (h 9)
  have u10 := pr3_le (h 3) (h 4) (h 11)
  have u11 := pr3_le (h 3) (h 6) (h 8)
  have u12 := pr3_le (h 3) (h 6) (h 11)
  have u13 := pr3_le (h 3) (h 7) (h 8)
  have u14 := pr3_le (h 3) (h 7) (h 9)
  have u15 := pr3_le (h 3) (h 7) (h 11)
  omega
theorem tr43_pos {n : Nat → Nat} (h : tb43 (fun c => decide (0 < n c)) = true) : 0 < tr43 n := by
  unfold tb43 at h
  unfold tr43
  simp only [Bool.or_eq_true, Bool.and_eq_true, decide_eq_true_eq] at h
  rcases h with ((((((((((((((h | h) | h) | h) | h) | h) | h) | h) | h) | h) | h) | h) | h) | h) | h) | h
  all_goals
    have := Nat.mul_pos (Nat.mul_pos h.1.1 h.1.2) h.2
    omega

def trN : Nat → (Nat → Nat) → Nat → Nat
  | 2, n, 0 => tr20 n
  | 2, n, 1 => tr21 n
  | 3, n, 0 => tr30 n
  | 3, n, 1 => tr31 n
  | 3, n, 2 => tr32 n
  | 4, n, 0 => tr40 n
  | 4, n, 1 => tr41 n
  | 4, n, 2 => tr42 n
  | 4, n, 3 => tr43 n
  | _, _, _ => 0
def tbN : Nat → (Nat → Bool) → Nat → Bool
  | 2, A, 0 => tb20 A
  | 2, A, 1 => tb21 A
  | 3, A, 0 => tb30 A
  | 3, A, 1 => tb31 A
  | 3, A, 2 => tb32 A
  | 4, A, 0 => tb40 A
  | 4, A, 1 => tb41 A
  | 4, A, 2 => tb42 A
  | 4, A, 3 => tb43 A
  | _, _, _ => false
theorem trN_le {m p : Nat} {n : Nat → Nat} (hm : 2 ≤ m ∧ m ≤ 4) (hp : p < m) (h : ∀ c, n c ≤ 10000) : trN m n p ≤ 16000000000000 := by
  match m, p, hm, hp with
  | 2, 0, _, _ => exact tr20_le h
  | 2, 1, _, _ => exact tr21_le h
  | 3, 0, _, _ => exact tr30_le h
  | 3, 1, _, _ => exact tr31_le h
  | 3, 2, _, _ => exact tr32_le h
  | 4, 0, _, _ => exact tr40_le h
  | 4, 1, _, _ => exact tr41_le h
  | 4, 2, _, _ => exact tr42_le h
  | 4, 3, _, _ => exact tr43_le h

theorem trN_pos {m p : Nat} {n : Nat → Nat} (hm : 2 ≤ m ∧ m ≤ 4) (hp : p < m) (h : tbN m (fun c => decide (0 < n c)) p = true) : 0 < trN m n p := by
  match m, p, hm, hp with
  | 2, 0, _, _ => exact tr20_pos h
  | 2, 1, _, _ => exact tr21_pos h
  | 3, 0, _, _ => exact tr30_pos h
  | 3, 1, _, _ => exact tr31_pos h
  | 3, 2, _, _ => exact tr32_pos h
  | 4, 0, _, _ => exact tr40_pos h
  | 4, 1, _, _ => exact tr41_pos h
  | 4, 2, _, _ => exact tr42_pos h
  | 4, 3, _, _ => exact tr43_pos h

theorem mn_trN {m p s : Nat} {n : Nat → Nat} (hm : 2 ≤ m ∧ m ≤ 4) (hp : p < m) (h : ∀ i, i < m → s = smN (fun j => n (4 * i + j)) m) : mnM m (lN s) (fun c => lN (n c)) p = lN (trN m n p) := by
  match m, p, hm, hp with
  | 2, 0, _, _ => exact mnT_20 (fun i hi => (h i hi).trans (by simp [smN]))
  | 2, 1, _, _ => exact mnT_21 (fun i hi => (h i hi).trans (by simp [smN]))
  | 3, 0, _, _ => exact mnT_30 (fun i hi => (h i hi).trans (by simp [smN]))
  | 3, 1, _, _ => exact mnT_31 (fun i hi => (h i hi).trans (by simp [smN]))
  | 3, 2, _, _ => exact mnT_32 (fun i hi => (h i hi).trans (by simp [smN]))
  | 4, 0, _, _ => exact mnT_40 (fun i hi => (h i hi).trans (by simp [smN]))
  | 4, 1, _, _ => exact mnT_41 (fun i hi => (h i hi).trans (by simp [smN]))
  | 4, 2, _, _ => exact mnT_42 (fun i hi => (h i hi).trans (by simp [smN]))
  | 4, 3, _, _ => exact mnT_43 (fun i hi => (h i hi).trans (by simp [smN]))
