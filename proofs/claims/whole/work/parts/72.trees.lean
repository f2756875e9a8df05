/-! THE FACTS OF NUMBERS: a minor is the sum over the trees towards its position -/

def tr20 (n : Nat → Nat) : Nat := n 4
theorem mnL_20 {sl : Int64} {ro : Nat → Int64} (h1 : sl - ro 5 = ro 4) : mnM 2 sl ro 0 = ro 4 := by
  simp [mnM, enM]
  simp only [h1]
  try grind
theorem mnT_20 {s : Nat} {n : Nat → Nat} (h : ∀ i, i < 2 → s = n (4 * i + 0) + n (4 * i + 1)) : mnM 2 (lN s) (fun c => lN (n c)) 0 = lN (tr20 n) := by
  refine (mnL_20 ?_).trans ?_
  · try dsimp only
    rw [h 1 (by decide)]
    simp only [← lN_add]
    grind
  · try simp only [lN_mul, lN_add]
    rfl

def tr21 (n : Nat → Nat) : Nat := n 1
theorem mnL_21 {sl : Int64} {ro : Nat → Int64} (h0 : sl - ro 0 = ro 1) : mnM 2 sl ro 1 = ro 1 := by
  simp [mnM, enM]
  simp only [h0]
  try grind
theorem mnT_21 {s : Nat} {n : Nat → Nat} (h : ∀ i, i < 2 → s = n (4 * i + 0) + n (4 * i + 1)) : mnM 2 (lN s) (fun c => lN (n c)) 1 = lN (tr21 n) := by
  refine (mnL_21 ?_).trans ?_
  · try dsimp only
    rw [h 0 (by decide)]
    simp only [← lN_add]
    grind
  · try simp only [lN_mul, lN_add]
    rfl

def tr30 (n : Nat → Nat) : Nat := n 4 * n 8 + n 4 * n 9 + n 6 * n 8
theorem mnL_30 {sl : Int64} {ro : Nat → Int64} (h1 : sl - ro 5 = ro 4 + ro 6) (h2 : sl - ro 10 = ro 8 + ro 9) : mnM 3 sl ro 0 = ro 4 * ro 8 + ro 4 * ro 9 + ro 6 * ro 8 := by
  simp [mnM, enM]
  simp only [h1, h2]
  try grind
theorem mnT_30 {s : Nat} {n : Nat → Nat} (h : ∀ i, i < 3 → s = n (4 * i + 0) + n (4 * i + 1) + n (4 * i + 2)) : mnM 3 (lN s) (fun c => lN (n c)) 0 = lN (tr30 n) := by
  refine (mnL_30 ?_ ?_).trans ?_
  · try dsimp only
    rw [h 1 (by decide)]
    simp only [← lN_add]
    grind
  · try dsimp only
    rw [h 2 (by decide)]
    simp only [← lN_add]
    grind
  · try simp only [lN_mul, lN_add]
    rfl

def tr31 (n : Nat → Nat) : Nat := n 1 * n 8 + n 1 * n 9 + n 2 * n 9
theorem mnL_31 {sl : Int64} {ro : Nat → Int64} (h0 : sl - ro 0 = ro 1 + ro 2) (h2 : sl - ro 10 = ro 8 + ro 9) : mnM 3 sl ro 1 = ro 1 * ro 8 + ro 1 * ro 9 + ro 2 * ro 9 := by
  simp [mnM, enM]
  simp only [h0, h2]
  try grind
theorem mnT_31 {s : Nat} {n : Nat → Nat} (h : ∀ i, i < 3 → s = n (4 * i + 0) + n (4 * i + 1) + n (4 * i + 2)) : mnM 3 (lN s) (fun c => lN (n c)) 1 = lN (tr31 n) := by
  refine (mnL_31 ?_ ?_).trans ?_
  · try dsimp only
    rw [h 0 (by decide)]
    simp only [← lN_add]
    grind
  · try dsimp only
    rw [h 2 (by decide)]
    simp only [← lN_add]
    grind
  · try simp only [lN_mul, lN_add]
    rfl

def tr32 (n : Nat → Nat) : Nat := n 1 * n 6 + n 2 * n 4 + n 2 * n 6
theorem mnL_32 {sl : Int64} {ro : Nat → Int64} (h0 : sl - ro 0 = ro 1 + ro 2) (h1 : sl - ro 5 = ro 4 + ro 6) : mnM 3 sl ro 2 = ro 1 * ro 6 + ro 2 * ro 4 + ro 2 * ro 6 := by
  simp [mnM, enM]
  simp only [h0, h1]
  try grind
theorem mnT_32 {s : Nat} {n : Nat → Nat} (h : ∀ i, i < 3 → s = n (4 * i + 0) + n (4 * i + 1) + n (4 * i + 2)) : mnM 3 (lN s) (fun c => lN (n c)) 2 = lN (tr32 n) := by
  refine (mnL_32 ?_ ?_).trans ?_
  · try dsimp only
    rw [h 0 (by decide)]
    simp only [← lN_add]
    grind
  · try dsimp only
    rw [h 1 (by decide)]
    simp only [← lN_add]
    grind
  · try simp only [lN_mul, lN_add]
    rfl

def tr40 (n : Nat → Nat) : Nat := n 4 * n 8 * n 12 + n 4 * n 8 * n 13 + n 4 * n 8 * n 14 + n 4 * n 9 * n 12 + n 4 * n 9 * n 13 + n 4 * n 9 * n 14 + n 4 * n 11 * n 12 + n 4 * n 11 * n 13 + n 6 * n 8 * n 12 + n 6 * n 8 * n 13 + n 6 * n 8 * n 14 + n 6 * n 11 * n 12 + n 7 * n 8 * n 12 + n 7 * n 8 * n 14 + n 7 * n 9 * n 12 + n 7 * n 11 * n 12
theorem mnL_40 {sl : Int64} {ro : Nat → Int64} (h1 : sl - ro 5 = ro 4 + ro 6 + ro 7) (h2 : sl - ro 10 = ro 8 + ro 9 + ro 11) (h3 : sl - ro 15 = ro 12 + ro 13 + ro 14) : mnM 4 sl ro 0 = ro 4 * ro 8 * ro 12 + ro 4 * ro 8 * ro 13 + ro 4 * ro 8 * ro 14 + ro 4 * ro 9 * ro 12 + ro 4 * ro 9 * ro 13 + ro 4 * ro 9 * ro 14 + ro 4 * ro 11 * ro 12 + ro 4 * ro 11 * ro 13 + ro 6 * ro 8 * ro 12 + ro 6 * ro 8 * ro 13 + ro 6 * ro 8 * ro 14 + ro 6 * ro 11 * ro 12 + ro 7 * ro 8 * ro 12 + ro 7 * ro 8 * ro 14 + ro 7 * ro 9 * ro 12 + ro 7 * ro 11 * ro 12 := by
  simp [mnM, enM]
  simp only [h1, h2, h3]
  try grind
theorem mnT_40 {s : Nat} {n : Nat → Nat} (h : ∀ i, i < 4 → s = n (4 * i + 0) + n (4 * i + 1) + n (4 * i + 2) + n (4 * i + 3)) : mnM 4 (lN s) (fun c => lN (n c)) 0 = lN (tr40 n) := by
  refine (mnL_40 ?_ ?_ ?_).trans ?_
  · try dsimp only
    rw [h 1 (by decide)]
    simp only [← lN_add]
    grind
  · try dsimp only
    rw [h 2 (by decide)]
    simp only [← lN_add]
    grind
  · try dsimp only
    rw [h 3 (by decide)]
    simp only [← lN_add]
    grind
  · try simp only [lN_mul, lN_add]
    rfl

def tr41 (n : Nat → Nat) : Nat := n 1 * n 8 * n 12 + n 1 * n 8 * n 13 + n 1 * n 8 * n 14 + n 1 * n 9 * n 12 + n 1 * n 9 * n 13 + n 1 * n 9 * n 14 + n 1 * n 11 * n 12 + n 1 * n 11 * n 13 + n 2 * n 9 * n 12 + n 2 * n 9 * n 13 + n 2 * n 9 * n 14 + n 2 * n 11 * n 13 + n 3 * n 8 * n 13 + n 3 * n 9 * n 13 + n 3 * n 9 * n 14 + n 3 * n 11 * n 13
theorem mnL_41 {sl : Int64} {ro : Nat → Int64} (h0 : sl - ro 0 = ro 1 + ro 2 + ro 3) (h2 : sl - ro 10 = ro 8 + ro 9 + ro 11) (h3 : sl - ro 15 = ro 12 + ro 13 + ro 14) : mnM 4 sl ro 1 = ro 1 * ro 8 * ro 12 + ro 1 * ro 8 * ro 13 + ro 1 * ro 8 * ro 14 + ro 1 * ro 9 * ro 12 + ro 1 * ro 9 * ro 13 + ro 1 * ro 9 * ro 14 + ro 1 * ro 11 * ro 12 + ro 1 * ro 11 * ro 13 + ro 2 * ro 9 * ro 12 + ro 2 * ro 9 * ro 13 + ro 2 * ro 9 * ro 14 + ro 2 * ro 11 * ro 13 + ro 3 * ro 8 * ro 13 + ro 3 * ro 9 * ro 13 + ro 3 * ro 9 * ro 14 + ro 3 * ro 11 * ro 13 := by
  simp [mnM, enM]
  simp only [h0, h2, h3]
  try grind
theorem mnT_41 {s : Nat} {n : Nat → Nat} (h : ∀ i, i < 4 → s = n (4 * i + 0) + n (4 * i + 1) + n (4 * i + 2) + n (4 * i + 3)) : mnM 4 (lN s) (fun c => lN (n c)) 1 = lN (tr41 n) := by
  refine (mnL_41 ?_ ?_ ?_).trans ?_
  · try dsimp only
    rw [h 0 (by decide)]
    simp only [← lN_add]
    grind
  · try dsimp only
    rw [h 2 (by decide)]
    simp only [← lN_add]
    grind
  · try dsimp only
    rw [h 3 (by decide)]
    simp only [← lN_add]
    grind
  · try simp only [lN_mul, lN_add]
    rfl

def tr42 (n : Nat → Nat) : Nat := n 1 * n 6 * n 12 + n 1 * n 6 * n 13 + n 1 * n 6 * n 14 + n 1 * n 7 * n 14 + n 2 * n 4 * n 12 + n 2 * n 4 * n 13 + n 2 * n 4 * n 14 + n 2 * n 6 * n 12 + n 2 * n 6 * n 13 + n 2 * n 6 * n 14 + n 2 * n 7 * n 12 + n 2 * n 7 * n 14 + n 3 * n 4 * n 14 + n 3 * n 6 * n 13 + n 3 * n 6 * n 14 + n 3 * n 7 * n 14
theorem mnL_42 {sl : Int64} {ro : Nat → Int64} (h0 : sl - ro 0 = ro 1 + ro 2 + ro 3) (h1 : sl - ro 5 = ro 4 + ro 6 + ro 7) (h3 : sl - ro 15 = ro 12 + ro 13 + ro 14) : mnM 4 sl ro 2 = ro 1 * ro 6 * ro 12 + ro 1 * ro 6 * ro 13 + ro 1 * ro 6 * ro 14 + ro 1 * ro 7 * ro 14 + ro 2 * ro 4 * ro 12 + ro 2 * ro 4 * ro 13 + ro 2 * ro 4 * ro 14 + ro 2 * ro 6 * ro 12 + ro 2 * ro 6 * ro 13 + ro 2 * ro 6 * ro 14 + ro 2 * ro 7 * ro 12 + ro 2 * ro 7 * ro 14 + ro 3 * ro 4 * ro 14 + ro 3 * ro 6 * ro 13 + ro 3 * ro 6 * ro 14 + ro 3 * ro 7 * ro 14 := by
  simp [mnM, enM]
  simp only [h0, h1, h3]
  try grind
theorem mnT_42 {s : Nat} {n : Nat → Nat} (h : ∀ i, i < 4 → s = n (4 * i + 0) + n (4 * i + 1) + n (4 * i + 2) + n (4 * i + 3)) : mnM 4 (lN s) (fun c => lN (n c)) 2 = lN (tr42 n) := by
  refine (mnL_42 ?_ ?_ ?_).trans ?_
  · try dsimp only
    rw [h 0 (by decide)]
    simp only [← lN_add]
    grind
  · try dsimp only
    rw [h 1 (by decide)]
    simp only [← lN_add]
    grind
  · try dsimp only
    rw [h 3 (by decide)]
    simp only [← lN_add]
    grind
  · try simp only [lN_mul, lN_add]
    rfl

def tr43 (n : Nat → Nat) : Nat := n 1 * n 6 * n 11 + n 1 * n 7 * n 8 + n 1 * n 7 * n 9 + n 1 * n 7 * n 11 + n 2 * n 4 * n 11 + n 2 * n 6 * n 11 + n 2 * n 7 * n 9 + n 2 * n 7 * n 11 + n 3 * n 4 * n 8 + n 3 * n 4 * n 9 + n 3 * n 4 * n 11 + n 3 * n 6 * n 8 + n 3 * n 6 * n 11 + n 3 * n 7 * n 8 + n 3 * n 7 * n 9 + n 3 * n 7 * n 11
theorem mnL_43 {sl : Int64} {ro : Nat → Int64} (h0 : sl - ro 0 = ro 1 + ro 2 + ro 3) (h1 : sl - ro 5 = ro 4 + ro 6 + ro 7) (h2 : sl - ro 10 = ro 8 + ro 9 + ro 11) : mnM 4 sl ro 3 = ro 1 * ro 6 * ro 11 + ro 1 * ro 7 * ro 8 + ro 1 * ro 7 * ro 9 + ro 1 * ro 7 * ro 11 + ro 2 * ro 4 * ro 11 + ro 2 * ro 6 * ro 11 + ro 2 * ro 7 * ro 9 + ro 2 * ro 7 * ro 11 + ro 3 * ro 4 * ro 8 + ro 3 * ro 4 * ro 9 + ro 3 * ro 4 * ro 11 + ro 3 * ro 6 * ro 8 + ro 3 * ro 6 * ro 11 + ro 3 * ro 7 * ro 8 + ro 3 * ro 7 * ro 9 + ro 3 * ro 7 * ro 11 := by
  simp [mnM, enM]
  simp only [h0, h1, h2]
  try grind
theorem mnT_43 {s : Nat} {n : Nat → Nat} (h : ∀ i, i < 4 → s = n (4 * i + 0) + n (4 * i + 1) + n (4 * i + 2) + n (4 * i + 3)) : mnM 4 (lN s) (fun c => lN (n c)) 3 = lN (tr43 n) := by
  refine (mnL_43 ?_ ?_ ?_).trans ?_
  · try dsimp only
    rw [h 0 (by decide)]
    simp only [← lN_add]
    grind
  · try dsimp only
    rw [h 1 (by decide)]
    simp only [← lN_add]
    grind
  · try dsimp only
    rw [h 2 (by decide)]
    simp only [← lN_add]
    grind
  · try simp only [lN_mul, lN_add]
    rfl
