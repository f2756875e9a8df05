/-! ROWS OF DRAWS, as the law goes through them -/
theorem gI_mv {g w : Nat} {B F : Nat → Nat} {l p dr r : Nat} (h : 1 ≤ r) : gI r + mvD g w B F l p dr = gI (mvR g w B F l p dr r) := by
  unfold mvD mvR gI
  split
  · rw [show nI (r - 1) = nI r - 1 from (pk_sub (a := r) (b := 1) h).symm]
    grind
  · split
    · rw [show nI (r + 1) = nI r + 1 from (nI_1 r).symm]
      grind
    · grind
theorem gI_16 : gI 16 = 0 := by decide
theorem gI_eqn {r mo : Nat} (hr : r ≤ 64) (hm : mo ≤ 16) : gI r = (-nI mo) ↔ r + mo = 16 := by
  rw [← Int32.toInt_inj, gI_toInt (by omega), neg_toInt (by omega)]
  omega
theorem gI_eqp {r go : Nat} (hr : r ≤ 64) (hm : go ≤ 16) : gI r = nI go ↔ r = go + 16 := by
  rw [← Int32.toInt_inj, gI_toInt (by omega), nI_toInt (by omega)]
  omega
theorem ixF_mod {P i : Nat} (hi : i < plen P) (k : Nat) : ixF P i k = (i + k) % plen P := by
  have h1 := plen_pos P
  have h4 := plen_le P
  induction k with
  | zero => exact (Nat.mod_eq_of_lt hi).symm
  | succ k ih =>
    show pnx P (ixF P i k) = _
    rw [ih]
    unfold pnx
    generalize plen P = L at *
    have h : L = 1 ∨ L = 2 ∨ L = 3 ∨ L = 4 := by omega
    rcases h with rfl | rfl | rfl | rfl <;> split <;> omega
theorem mvR_near {g w : Nat} {B F : Nat → Nat} {l p dr r : Nat} : r ≤ mvR g w B F l p dr r + 1 ∧ mvR g w B F l p dr r ≤ r + 1 := by
  unfold mvR
  split
  · omega
  · split <;> omega
theorem roF_ok {m mo go g w P i : Nat} {B F : Nat → Nat} (hm : 0 < m) (n : Nat) : ∀ (k a r rest : Nat), a < m → (roF m mo go g w B F P i n k a r rest).1 < m ∧ r ≤ (roF m mo go g w B F P i n k a r rest).2 + n ∧ (roF m mo go g w B F P i n k a r rest).2 ≤ r + n ∧ (16 < r + mo → 16 ≤ (roF m mo go g w B F P i n k a r rest).2 + mo) ∧ (r < go + 16 → (roF m mo go g w B F P i n k a r rest).2 ≤ go + 16) := by
  induction n with
  | zero =>
    intro k a r rest ha
    exact ⟨ha, Nat.le_refl _, Nat.le_refl _, fun h => Nat.le_of_lt h, fun h => Nat.le_of_lt h⟩
  | succ n ih =>
    intro k a r rest ha
    obtain ⟨h1, h2⟩ := mvR_near (g := g) (w := w) (B := B) (F := F) (l := plev P (ixF P i k)) (p := a) (dr := rest % 10) (r := r)
    have h3 := mvP_lt (g := g) (w := w) (B := B) (F := F) (l := plev P (ixF P i k)) (dr := rest % 10) hm ha
    unfold roF
    split
    · exact ⟨h3, by dsimp only; omega, by dsimp only; omega, fun h => by dsimp only; omega, fun h => by dsimp only; omega⟩
    · obtain ⟨g1, g2, g3, g4, g5⟩ := ih (k + 1) _ (mvR g w B F (plev P (ixF P i k)) a (rest % 10) r) (rest / 10) h3
      exact ⟨g1, by omega, by omega, fun h => g4 (by omega), fun h => g5 (by omega)⟩
theorem smP_sum {nw : Nat → Int64} {p : Nat} (hp : p < 4) (k : Nat) : sumC (fun c => nw c * (if c % 4 = p then 1 else 0)) (4 * k) = smP nw p k := by
  induction k with
  | zero => rfl
  | succ k ih =>
    have e : ∀ j, j < 4 → (4 * k + j) % 4 = j := fun j hj => by omega
    show (((sumC (fun c => nw c * (if c % 4 = p then 1 else 0)) (4 * k) + nw (4 * k + 0) * (if (4 * k + 0) % 4 = p then 1 else 0)) + nw (4 * k + 1) * (if (4 * k + 1) % 4 = p then 1 else 0)) + nw (4 * k + 2) * (if (4 * k + 2) % 4 = p then 1 else 0)) + nw (4 * k + 3) * (if (4 * k + 3) % 4 = p then 1 else 0) = smP nw p k + nw (4 * k + p)
    rw [ih, e 0 (by decide), e 1 (by decide), e 2 (by decide), e 3 (by decide)]
    have h : p = 0 ∨ p = 1 ∨ p = 2 ∨ p = 3 := by omega
    rcases h with rfl | rfl | rfl | rfl
    · rw [if_pos rfl, if_neg (by decide), if_neg (by decide), if_neg (by decide)]
      grind
    · rw [if_neg (by decide), if_pos rfl, if_neg (by decide), if_neg (by decide)]
      grind
    · rw [if_neg (by decide), if_neg (by decide), if_pos rfl, if_neg (by decide)]
      grind
    · rw [if_neg (by decide), if_neg (by decide), if_neg (by decide), if_pos rfl]
      grind
theorem smG_sum {nw : Nat → Int64} {lo : Nat} (k : Nat) : sumC (fun c => nw c * (if lo ≤ c / 4 then 1 else 0)) k = smG nw lo k := by
  induction k with
  | zero => rfl
  | succ k ih =>
    show sumC (fun c => nw c * (if lo ≤ c / 4 then 1 else 0)) k + nw k * (if lo ≤ k / 4 then 1 else 0) = smG nw lo k + (if lo ≤ k / 4 then nw k else 0)
    rw [ih]
    split <;> grind
def fP (p : Nat) : Nat → Int64 := fun c => if c % 4 = p then 1 else 0
def fG (lo : Nat) : Nat → Int64 := fun c => if lo ≤ c / 4 then 1 else 0
/-- what the law counts -/
def w0F (m g w : Nat) (B F : Nat → Nat) (P i p v n : Nat) : Nat → Int64 := fun row => if (roF m 16 16 g w B F P i n 0 p 16 row).1 = v then 1 else 0
def w1F (m g w : Nat) (B F : Nat → Nat) (P i p n : Nat) (x : Int32) : Nat → Int64 := fun row => if x ≤ gI (roF m 16 16 g w B F P i n 0 p 16 row).2 then 1 else 0
def w2F (m mo go g w : Nat) (B F : Nat → Nat) (P i p n : Nat) : Nat → Int64 := fun row => if (roF m mo go g w B F P i n 0 p 16 row).2 + mo = 16 then 1 else 0
def w3F (m mo go g w : Nat) (B F : Nat → Nat) (P i p n : Nat) : Nat → Int64 := fun row => if (roF m mo go g w B F P i n 0 p 16 row).2 = go + 16 then 1 else 0
section
variable {m g w P i p n mo go : Nat} {B F : Nat → Nat}
theorem ways_0 (hm : 0 < m ∧ m ≤ 4) (hBF : ∀ j, B j + F j ≤ 10) (hp : p < m) (hn : n ≤ 3) {v : Nat} (hv : v < m) : sumC (w0F m g w B F P i p v n) (10 ^ n) = smP (spF m 16 16 g w B F P p i n).1 v 31 := by
  have h := ro_va (m := m) (mo := 16) (go := 16) (g := g) (w := w) (P := P) (i := i) (f := fP v) (fl := 0) (fw := 0) hm (by decide) (by decide) hBF n 0 p 16 hp (by decide) (by decide)
  rw [show 4 * (16 - 1) + p = 60 + p from rfl, va_sp hm (by decide) (by decide) (by omega)] at h
  have e : phF (fP v) 0 0 (spF m 16 16 g w B F P p i n) = smP (spF m 16 16 g w B F P p i n).1 v 31 := by
    rw [← smP_sum (by omega) 31]
    unfold phF fP
    show (sumC (fun c => (spF m 16 16 g w B F P p i n).1 c * (if c % 4 = v then 1 else 0)) 124 + _) + _ = sumC (fun c => (spF m 16 16 g w B F P p i n).1 c * (if c % 4 = v then 1 else 0)) 124
    grind
  rw [← e, ← h]
  refine sumC_ext _ (fun row _ => ?_)
  obtain ⟨h1, h2, h3, -⟩ := roF_ok (m := m) (mo := 16) (go := 16) (g := g) (w := w) (B := B) (F := F) (P := P) (i := i) hm.1 n 0 p 16 row hp
  rw [ts_in (by omega) (by omega)]
  unfold w0F fP
  rw [show (4 * ((roF m 16 16 g w B F P i n 0 p 16 row).2 - 1) + (roF m 16 16 g w B F P i n 0 p 16 row).1) % 4 = (roF m 16 16 g w B F P i n 0 p 16 row).1 from by omega]
theorem ways_1 (hm : 0 < m ∧ m ≤ 4) (hBF : ∀ j, B j + F j ≤ 10) (hp : p < m) (hn : n ≤ 3) (x : Int32) : sumC (w1F m g w B F P i p n x) (10 ^ n) = smG (spF m 16 16 g w B F P p i n).1 (loR n x) 124 := by
  have h := ro_va (m := m) (mo := 16) (go := 16) (g := g) (w := w) (P := P) (i := i) (f := fG (loR n x)) (fl := 0) (fw := 0) hm (by decide) (by decide) hBF n 0 p 16 hp (by decide) (by decide)
  rw [show 4 * (16 - 1) + p = 60 + p from rfl, va_sp hm (by decide) (by decide) (by omega)] at h
  have e : phF (fG (loR n x)) 0 0 (spF m 16 16 g w B F P p i n) = smG (spF m 16 16 g w B F P p i n).1 (loR n x) 124 := by
    rw [← smG_sum 124]
    unfold phF fG
    grind
  rw [← e, ← h]
  refine sumC_ext _ (fun row _ => ?_)
  obtain ⟨h1, h2, h3, -⟩ := roF_ok (m := m) (mo := 16) (go := 16) (g := g) (w := w) (B := B) (F := F) (P := P) (i := i) hm.1 n 0 p 16 row hp
  rw [ts_in (by omega) (by omega)]
  unfold w1F fG
  have e2 : x ≤ gI (roF m 16 16 g w B F P i n 0 p 16 row).2 ↔ loR n x ≤ (4 * ((roF m 16 16 g w B F P i n 0 p 16 row).2 - 1) + (roF m 16 16 g w B F P i n 0 p 16 row).1) / 4 := by
    rw [Int32.le_iff_toInt_le, gI_toInt (by omega)]
    unfold loR
    split
    · omega
    · split <;> omega
  by_cases c : x ≤ gI (roF m 16 16 g w B F P i n 0 p 16 row).2
  · rw [if_pos c, if_pos (e2.mp c)]
  · rw [if_neg c, if_neg (fun d => c (e2.mpr d))]
theorem ways_2 (hm : 0 < m ∧ m ≤ 4) (hBF : ∀ j, B j + F j ≤ 10) (hp : p < m) (h1 : 1 ≤ mo) (h2 : 1 ≤ go) (h3 : mo ≤ 16) (h4 : go ≤ 16) : sumC (w2F m mo go g w B F P i p n) (10 ^ n) = (spF m mo go g w B F P p i n).2.1 := by
  have h := ro_va (m := m) (mo := mo) (go := go) (g := g) (w := w) (P := P) (i := i) (f := fun _ => 0) (fl := 1) (fw := 0) hm h3 h4 hBF n 0 p 16 hp (by omega) (by omega)
  rw [show 4 * (16 - 1) + p = 60 + p from rfl, va_sp hm h3 h4 (by omega)] at h
  have e : phF (fun _ => 0) 1 0 (spF m mo go g w B F P p i n) = (spF m mo go g w B F P p i n).2.1 := by
    unfold phF
    rw [sumC_ext (h' := fun _ => 0) 124 (fun j _ => by grind), sumC_const]
    grind
  rw [← e, ← h]
  refine sumC_ext _ (fun row _ => ?_)
  obtain ⟨-, -, -, g4, g5⟩ := roF_ok (m := m) (mo := mo) (go := go) (g := g) (w := w) (B := B) (F := F) (P := P) (i := i) hm.1 n 0 p 16 row hp
  have g4 := g4 (by omega)
  unfold w2F tsF
  by_cases c : (roF m mo go g w B F P i n 0 p 16 row).2 + mo = 16
  · rw [if_pos c, if_pos (by omega)]
  · rw [if_neg c, if_neg (by omega)]
    split <;> rfl
theorem ways_3 (hm : 0 < m ∧ m ≤ 4) (hBF : ∀ j, B j + F j ≤ 10) (hp : p < m) (h1 : 1 ≤ mo) (h2 : 1 ≤ go) (h3 : mo ≤ 16) (h4 : go ≤ 16) : sumC (w3F m mo go g w B F P i p n) (10 ^ n) = (spF m mo go g w B F P p i n).2.2 := by
  have h := ro_va (m := m) (mo := mo) (go := go) (g := g) (w := w) (P := P) (i := i) (f := fun _ => 0) (fl := 0) (fw := 1) hm h3 h4 hBF n 0 p 16 hp (by omega) (by omega)
  rw [show 4 * (16 - 1) + p = 60 + p from rfl, va_sp hm h3 h4 (by omega)] at h
  have e : phF (fun _ => 0) 0 1 (spF m mo go g w B F P p i n) = (spF m mo go g w B F P p i n).2.2 := by
    unfold phF
    rw [sumC_ext (h' := fun _ => 0) 124 (fun j _ => by grind), sumC_const]
    grind
  rw [← e, ← h]
  refine sumC_ext _ (fun row _ => ?_)
  obtain ⟨-, -, -, g4, g5⟩ := roF_ok (m := m) (mo := mo) (go := go) (g := g) (w := w) (B := B) (F := F) (P := P) (i := i) hm.1 n 0 p 16 row hp
  have g5 := g5 (by omega)
  unfold w3F tsF
  by_cases c : (roF m mo go g w B F P i n 0 p 16 row).2 = go + 16
  · rw [if_pos c, if_neg (by omega), if_pos (by omega)]
  · rw [if_neg c]
    split
    · rfl
    · rw [if_neg (by omega)]
theorem ways_4 (hm : 0 < m ∧ m ≤ 4) (hBF : ∀ j, B j + F j ≤ 10) (hp : p < m) (hn : n ≤ 3) (h1 : 1 ≤ mo) (h2 : 1 ≤ go) (h3 : mo ≤ 16) (h4 : go ≤ 16) : (lN (10 ^ n) - (spF m mo go g w B F P p i n).2.1) - (spF m mo go g w B F P p i n).2.2 = smG (spF m mo go g w B F P p i n).1 (loR n (-nI n)) 124 := by
  have h := ro_va (m := m) (mo := mo) (go := go) (g := g) (w := w) (P := P) (i := i) (f := fG (loR n (-nI n))) (fl := 1) (fw := 1) hm h3 h4 hBF n 0 p 16 hp (by omega) (by omega)
  rw [show 4 * (16 - 1) + p = 60 + p from rfl, va_sp hm h3 h4 (by omega)] at h
  have hlo : loR n (-nI n) = 15 - n := by
    unfold loR
    rw [neg_toInt (by omega), if_pos (Int.le_refl _)]
  have e : phF (fG (loR n (-nI n))) 1 1 (spF m mo go g w B F P p i n) = (smG (spF m mo go g w B F P p i n).1 (loR n (-nI n)) 124 + (spF m mo go g w B F P p i n).2.1) + (spF m mo go g w B F P p i n).2.2 := by
    rw [← smG_sum 124]
    unfold phF fG
    grind
  rw [e] at h
  rw [sumC_ext (h' := fun _ => 1) _ (fun row _ => ?_), sumC_const] at h
  · grind
  · obtain ⟨g1, g2, g3, g4, g5⟩ := roF_ok (m := m) (mo := mo) (go := go) (g := g) (w := w) (B := B) (F := F) (P := P) (i := i) hm.1 n 0 p 16 row hp
    unfold tsF fG
    split
    · rfl
    · split
      · rfl
      · rw [if_pos (by rw [hlo]; omega)]
end
