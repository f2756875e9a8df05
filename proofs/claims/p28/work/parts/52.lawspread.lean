/-! CHANCES: what spreads forward is what all rows of draws say -/
def sumC (h : Nat → Int64) : Nat → Int64
  | 0 => 0
  | n + 1 => sumC h n + h n
theorem sumC_ext {h h' : Nat → Int64} (n : Nat) (e : ∀ j, j < n → h j = h' j) : sumC h n = sumC h' n := by
  induction n with
  | zero => rfl
  | succ n ih =>
    show sumC h n + h n = sumC h' n + h' n
    rw [ih (fun j hj => e j (by omega)), e n (by omega)]
theorem sumC_add (h h' : Nat → Int64) (n : Nat) : sumC (fun j => h j + h' j) n = sumC h n + sumC h' n := by
  induction n with
  | zero => rfl
  | succ n ih =>
    show sumC (fun j => h j + h' j) n + (h n + h' n) = (sumC h n + h n) + (sumC h' n + h' n)
    rw [ih]
    grind
theorem lN_s (n : Nat) : lN (n + 1) = lN n + 1 := (lN_1 n).symm
theorem lN_z : lN 0 = 0 := by decide
theorem sumC_const (c : Int64) (n : Nat) : sumC (fun _ => c) n = lN n * c := by
  induction n with
  | zero =>
    show (0 : Int64) = lN 0 * c
    rw [lN_z]
    grind
  | succ n ih =>
    show sumC (fun _ => c) n + c = lN (n + 1) * c
    rw [ih, lN_s]
    grind
theorem sumC_up (nw f : Nat → Int64) (j : Nat) (x : Int64) (n : Nat) : sumC (fun c => vp_updL nw j (nw j + x) c * f c) n = sumC (fun c => nw c * f c) n + (if j < n then x * f j else 0) := by
  induction n with
  | zero =>
    show (0 : Int64) = 0 + (if j < 0 then x * f j else 0)
    rw [if_neg (Nat.not_lt_zero _)]
    rfl
  | succ n ih =>
    show sumC (fun c => vp_updL nw j (nw j + x) c * f c) n + vp_updL nw j (nw j + x) n * f n = (sumC (fun c => nw c * f c) n + nw n * f n) + _
    rw [ih]
    by_cases h : n = j
    · subst h
      rw [if_neg (Nat.lt_irrefl _), if_pos (Nat.lt_succ_self _), pk_uLs]
      grind
    · rw [pk_uLn h]
      by_cases h2 : j < n
      · rw [if_pos h2, if_pos (by omega)]
        grind
      · rw [if_neg h2, if_neg (by omega)]
        grind
theorem sumC_swap (h : Nat → Nat → Int64) (a b : Nat) : sumC (fun x => sumC (fun y => h y x) b) a = sumC (fun y => sumC (fun x => h y x) a) b := by
  induction a with
  | zero =>
    show (0 : Int64) = sumC (fun _ => 0) b
    rw [sumC_const]
    grind
  | succ a ih =>
    show sumC (fun x => sumC (fun y => h y x) b) a + sumC (fun y => h y a) b = sumC (fun y => sumC (fun x => h y x) a + h y a) b
    rw [ih, sumC_add]
theorem sumC_app (h : Nat → Int64) (a b : Nat) : sumC h (a + b) = sumC h a + sumC (fun j => h (a + j)) b := by
  induction b with
  | zero =>
    show sumC h a = sumC h a + 0
    grind
  | succ b ih =>
    show sumC h (a + b) + h (a + b) = sumC h a + (sumC (fun j => h (a + j)) b + h (a + b))
    rw [ih]
    grind
/-- rows of draws: the first one, and the rest -/
theorem sumC_ten (h : Nat → Int64) (n : Nat) : sumC h (10 * n) = sumC (fun d => sumC (fun q => h (d + 10 * q)) n) 10 := by
  rw [← sumC_swap (fun d q => h (d + 10 * q)) n 10]
  induction n with
  | zero => rfl
  | succ n ih =>
    rw [show 10 * (n + 1) = 10 * n + 10 from by omega, sumC_app, ih]
    show _ = sumC (fun q => sumC (fun d => h (d + 10 * q)) 10) n + sumC (fun d => h (d + 10 * n)) 10
    rw [sumC_ext (h := fun j => h (10 * n + j)) (h' := fun d => h (d + 10 * n)) 10 (fun j _ => by rw [Nat.add_comm])]
/-- ten draws: back, stay, forward -/
theorem sumC_thr (a b c : Int64) (t u : Nat) (h : t ≤ u) (n : Nat) : sumC (fun d => if d < t then a else if u ≤ d then c else b) n = lN (min n t) * a + lN (min n u - min n t) * b + lN (n - min n u) * c := by
  induction n with
  | zero =>
    show (0 : Int64) = lN (min 0 t) * a + lN (min 0 u - min 0 t) * b + lN (0 - min 0 u) * c
    rw [Nat.zero_min, Nat.zero_min, lN_z]
    grind
  | succ n ih =>
    show sumC (fun d => if d < t then a else if u ≤ d then c else b) n + (if n < t then a else if u ≤ n then c else b) = _
    rw [ih]
    by_cases h1 : n < t
    · rw [if_pos h1, show min (n + 1) t = n + 1 from by omega, show min n t = n from by omega, show min n u = n from by omega, show min (n + 1) u = n + 1 from by omega, Nat.sub_self, Nat.sub_self, lN_s, lN_z]
      grind
    · rw [if_neg h1, show min (n + 1) t = t from by omega, show min n t = t from by omega]
      by_cases h2 : u ≤ n
      · rw [if_pos h2, show min n u = u from by omega, show min (n + 1) u = u from by omega, show n + 1 - u = (n - u) + 1 from by omega, lN_s]
        grind
      · rw [if_neg h2, show min n u = n from by omega, show min (n + 1) u = n + 1 from by omega, Nat.sub_self, Nat.sub_self, show n + 1 - t = (n - t) + 1 from by omega, lN_s]
        grind
/-- what a place is worth -/
def tsF (mo go : Nat) (f : Nat → Int64) (fl fw : Int64) (r p : Nat) : Int64 := if r + mo ≤ 16 then fl else if go + 16 ≤ r then fw else f (4 * (r - 1) + p)
def phF (f : Nat → Int64) (fl fw : Int64) (s : Sp3) : Int64 := (sumC (fun c => s.1 c * f c) 124 + s.2.1 * fl) + s.2.2 * fw
theorem ph_ar {mo go : Nat} {f : Nat → Int64} {fl fw : Int64} {r p : Nat} {x : Int64} {s : Sp3} (hp : p < 4) (hr : r ≤ 32) (hmo : mo ≤ 16) (hgo : go ≤ 16) : phF f fl fw (arF mo go r p x s) = phF f fl fw s + x * tsF mo go f fl fw r p := by
  unfold arF tsF phF
  by_cases h1 : r + mo ≤ 16
  · rw [if_pos h1, if_pos h1]
    grind
  · rw [if_neg h1, if_neg h1]
    by_cases h2 : go + 16 ≤ r
    · rw [if_pos h2, if_pos h2]
      grind
    · rw [if_neg h2, if_neg h2]
      dsimp only
      rw [sumC_up, if_pos (by omega)]
      grind
/-- what a place is worth ahead of a tick -/
def gtF (m mo go : Nat) (tb tf : Nat → Nat) (f : Nat → Int64) (fl fw : Int64) (j : Nat) : Int64 :=
  (lN (tb (j % 4)) * tsF mo go f fl fw (j / 4) (pB m (j % 4)) + lN (10 - tb (j % 4) - tf (j % 4)) * tsF mo go f fl fw (j / 4 + 1) (j % 4)) + lN (tf (j % 4)) * tsF mo go f fl fw (j / 4 + 2) (pA m (j % 4))
theorem sh_at (nw : Nat → Int64) {j : Nat} (hj : j < 124) : sh nw ((j / 4 + 1) * 4 + j % 4) = nw j := by
  unfold sh
  rw [show (j / 4 + 1) * 4 + j % 4 = j + 4 from by omega, if_pos ⟨by omega, by omega⟩, show j + 4 - 4 = j from by omega]
theorem ph_ac {m mo go : Nat} {f : Nat → Int64} {fl fw : Int64} {tb tf : Nat → Nat} {nw : Nat → Int64} {s0 : Sp3} (hm : 0 < m ∧ m ≤ 4) (hmo : mo ≤ 16) (hgo : go ≤ 16) (n : Nat) (hn : n ≤ 124) : phF f fl fw (acF m mo go tb tf nw s0 n) = phF f fl fw s0 + sumC (fun j => nw j * gtF m mo go tb tf f fl fw j) n := by
  induction n with
  | zero =>
    show phF f fl fw s0 = phF f fl fw s0 + 0
    grind
  | succ n ih =>
    have h4 : n % 4 < 4 := Nat.mod_lt _ (by decide)
    have hb : pB m (n % 4) < 4 := by unfold pB; split <;> omega
    have ha : pA m (n % 4) < 4 := by unfold pA; split <;> omega
    show phF f fl fw (srF m mo go tb tf nw (n / 4 + 1) (n % 4) (acF m mo go tb tf nw s0 n)) = phF f fl fw s0 + (sumC (fun j => nw j * gtF m mo go tb tf f fl fw j) n + nw n * gtF m mo go tb tf f fl fw n)
    unfold srF
    rw [ph_ar ha (by omega) hmo hgo, ph_ar h4 (by omega) hmo hgo, ph_ar hb (by omega) hmo hgo, ih (by omega), sh_at nw (j := n) (by omega), show n / 4 + 1 - 1 = n / 4 from by omega, show n / 4 + 1 + 1 = n / 4 + 2 from rfl]
    unfold gtF
    grind
theorem ph_tk {m mo go : Nat} {f : Nat → Int64} {fl fw : Int64} {tb tf : Nat → Nat} {s : Sp3} (hm : 0 < m ∧ m ≤ 4) (hmo : mo ≤ 16) (hgo : go ≤ 16) : phF f fl fw (tkF m mo go tb tf s) = phF (gtF m mo go tb tf f fl fw) (fl * 10) (fw * 10) s := by
  unfold tkF
  rw [ph_ac hm hmo hgo 124 (Nat.le_refl _)]
  unfold phF
  dsimp only
  rw [sumC_ext (h := fun c => (0 : Int64) * f c) (h' := fun _ => 0) 124 (fun j _ => by grind), sumC_const]
  grind
/-- what a place is worth, n ticks ahead of the end, k ticks behind the beginning -/
def vaF (m mo go g w : Nat) (B F : Nat → Nat) (P i : Nat) (f : Nat → Int64) (fl fw : Int64) : Nat → Nat → Nat → Int64
  | 0, _ => f
  | n + 1, k => gtF m mo go (tB g w B (plev P (ixF P i k))) (tF g F (plev P (ixF P i k))) (vaF m mo go g w B F P i f fl fw n (k + 1)) (fl * lN (10 ^ n)) (fw * lN (10 ^ n))
theorem ph_sp {m mo go g w P i : Nat} {B F : Nat → Nat} {f : Nat → Int64} {fl fw : Int64} {p : Nat} (hm : 0 < m ∧ m ≤ 4) (hmo : mo ≤ 16) (hgo : go ≤ 16) (n : Nat) : ∀ k, phF (vaF m mo go g w B F P i f fl fw n k) (fl * lN (10 ^ n)) (fw * lN (10 ^ n)) (spF m mo go g w B F P p i k) = phF f fl fw (spF m mo go g w B F P p i (k + n)) := by
  induction n with
  | zero =>
    intro k
    have e : ∀ x : Int64, x * lN (10 ^ 0) = x := fun x => by
      rw [show lN (10 ^ 0) = 1 from by decide]
      grind
    rw [e, e]
    rfl
  | succ n ih =>
    intro k
    have e : ∀ x : Int64, x * lN (10 ^ (n + 1)) = (x * lN (10 ^ n)) * 10 := fun x => by
      rw [Nat.pow_succ, ← lN_mul, show lN 10 = 10 from by decide]
      grind
    rw [e, e, show k + (n + 1) = k + 1 + n from by omega, ← ih (k + 1)]
    show _ = phF _ _ _ (tkF m mo go _ _ (spF m mo go g w B F P p i k))
    rw [ph_tk hm hmo hgo]
    rfl
theorem ph_one {h : Nat → Int64} {a b : Int64} {p : Nat} (hp : p < 4) : phF h a b (one p, 0, 0) = h (60 + p) := by
  unfold phF one
  dsimp only
  have := sumC_up (fun _ => 0) h (60 + p) 1 124
  rw [if_pos (by omega)] at this
  rw [show ((0 : Int64) + 1) = 1 from rfl] at this
  rw [this, sumC_ext (h := fun c => (0 : Int64) * h c) (h' := fun _ => 0) 124 (fun j _ => by grind), sumC_const]
  grind
theorem va_sp {m mo go g w P i : Nat} {B F : Nat → Nat} {f : Nat → Int64} {fl fw : Int64} {p : Nat} (hm : 0 < m ∧ m ≤ 4) (hmo : mo ≤ 16) (hgo : go ≤ 16) (hp : p < 4) (T : Nat) : vaF m mo go g w B F P i f fl fw T 0 (60 + p) = phF f fl fw (spF m mo go g w B F P p i T) := by
  have h := ph_sp (m := m) (g := g) (w := w) (B := B) (F := F) (P := P) (i := i) (f := f) (fl := fl) (fw := fw) (p := p) hm hmo hgo T 0
  rw [Nat.zero_add] at h
  rw [← h]
  exact (ph_one hp).symm
/-- the row behind a draw -/
def mvR (g w : Nat) (B F : Nat → Nat) (l p dr r : Nat) : Nat := if dr < tB g w B l p then r - 1 else if 10 - tF g F l p ≤ dr then r + 1 else r
/-- a row of draws -/
def roF (m mo go g w : Nat) (B F : Nat → Nat) (P i : Nat) : Nat → Nat → Nat → Nat → Nat → Nat × Nat
  | 0, _, at_, r, _ => (at_, r)
  | n + 1, k, at_, r, rest =>
    if mvR g w B F (plev P (ixF P i k)) at_ (rest % 10) r + mo ≤ 16 ∨ go + 16 ≤ mvR g w B F (plev P (ixF P i k)) at_ (rest % 10) r then (mvP m g w B F (plev P (ixF P i k)) at_ (rest % 10), mvR g w B F (plev P (ixF P i k)) at_ (rest % 10) r)
    else roF m mo go g w B F P i n (k + 1) (mvP m g w B F (plev P (ixF P i k)) at_ (rest % 10)) (mvR g w B F (plev P (ixF P i k)) at_ (rest % 10) r) (rest / 10)
theorem ts_in {mo go : Nat} {f : Nat → Int64} {fl fw : Int64} {r p : Nat} (h1 : 16 < r + mo) (h2 : r < go + 16) : tsF mo go f fl fw r p = f (4 * (r - 1) + p) := by
  unfold tsF
  rw [if_neg (by omega), if_neg (by omega)]
theorem lo_draw (n : Nat) (d q : Nat) (hd : d < 10) : (d + 10 * q) % 10 = d ∧ (d + 10 * q) / 10 = q := by omega
/-- all rows of n draws are worth what the place is -/
theorem ro_va {m mo go g w P i : Nat} {B F : Nat → Nat} {f : Nat → Int64} {fl fw : Int64} (hm : 0 < m ∧ m ≤ 4) (hmo : mo ≤ 16) (hgo : go ≤ 16) (hBF : ∀ j, B j + F j ≤ 10) (n : Nat) : ∀ (k at_ r : Nat), at_ < m → 16 < r + mo → r < go + 16 → sumC (fun row => tsF mo go f fl fw (roF m mo go g w B F P i n k at_ r row).2 (roF m mo go g w B F P i n k at_ r row).1) (10 ^ n) = vaF m mo go g w B F P i f fl fw n k (4 * (r - 1) + at_) := by
  induction n with
  | zero =>
    intro k at_ r ha h1 h2
    show (0 : Int64) + tsF mo go f fl fw r at_ = f (4 * (r - 1) + at_)
    rw [ts_in h1 h2]
    grind
  | succ n ih =>
    intro k at_ r ha h1 h2
    have hval : ∀ (a' r' : Nat), a' < m → sumC (fun q => tsF mo go f fl fw (if r' + mo ≤ 16 ∨ go + 16 ≤ r' then (a', r') else roF m mo go g w B F P i n (k + 1) a' r' q).2 (if r' + mo ≤ 16 ∨ go + 16 ≤ r' then (a', r') else roF m mo go g w B F P i n (k + 1) a' r' q).1) (10 ^ n) = tsF mo go (vaF m mo go g w B F P i f fl fw n (k + 1)) (fl * lN (10 ^ n)) (fw * lN (10 ^ n)) r' a' := by
      intro a' r' ha'
      by_cases g1 : r' + mo ≤ 16
      · simp only [if_pos (Or.inl g1 : r' + mo ≤ 16 ∨ go + 16 ≤ r')]
        rw [sumC_const]
        unfold tsF
        rw [if_pos g1, if_pos g1]
        grind
      · by_cases g2 : go + 16 ≤ r'
        · simp only [if_pos (Or.inr g2 : r' + mo ≤ 16 ∨ go + 16 ≤ r')]
          rw [sumC_const]
          unfold tsF
          rw [if_neg g1, if_pos g2, if_neg g1, if_pos g2]
          grind
        · simp only [if_neg (show ¬ (r' + mo ≤ 16 ∨ go + 16 ≤ r') from fun c => c.elim g1 g2)]
          rw [ih (k + 1) a' r' ha' (by omega) (by omega), ts_in (by omega) (by omega)]
    generalize hl : plev P (ixF P i k) = l at *
    have hb := hBF (l * 4 + at_)
    have hbt : tB g w B l at_ + tF g F l at_ ≤ 10 := by
      have h3 : tB g w B l at_ ≤ B (l * 4 + at_) := by unfold tB; split <;> omega
      have h4 : tF g F l at_ ≤ F (l * 4 + at_) := by unfold tF; split <;> omega
      omega
    rw [show 10 ^ (n + 1) = 10 * 10 ^ n from by rw [Nat.pow_succ, Nat.mul_comm], sumC_ten]
    rw [sumC_ext (h' := fun d => if d < tB g w B l at_ then tsF mo go (vaF m mo go g w B F P i f fl fw n (k + 1)) (fl * lN (10 ^ n)) (fw * lN (10 ^ n)) (r - 1) (pB m at_) else if 10 - tF g F l at_ ≤ d then tsF mo go (vaF m mo go g w B F P i f fl fw n (k + 1)) (fl * lN (10 ^ n)) (fw * lN (10 ^ n)) (r + 1) (pA m at_) else tsF mo go (vaF m mo go g w B F P i f fl fw n (k + 1)) (fl * lN (10 ^ n)) (fw * lN (10 ^ n)) r at_) 10 (fun d hd => ?_)]
    · rw [sumC_thr _ _ _ _ _ (by omega)]
      show _ = gtF m mo go (tB g w B (plev P (ixF P i k))) (tF g F (plev P (ixF P i k))) (vaF m mo go g w B F P i f fl fw n (k + 1)) (fl * lN (10 ^ n)) (fw * lN (10 ^ n)) (4 * (r - 1) + at_)
      rw [hl]
      unfold gtF
      rw [show (4 * (r - 1) + at_) % 4 = at_ from by omega, show (4 * (r - 1) + at_) / 4 = r - 1 from by omega, show r - 1 + 1 = r from by omega, show r - 1 + 2 = r + 1 from by omega, show min 10 (tB g w B l at_) = tB g w B l at_ from by omega, show min 10 (10 - tF g F l at_) = 10 - tF g F l at_ from by omega, show 10 - (10 - tF g F l at_) = tF g F l at_ from by omega, show 10 - tF g F l at_ - tB g w B l at_ = 10 - tB g w B l at_ - tF g F l at_ from by omega]
    · have e1 : ∀ q : Nat, (d + 10 * q) % 10 = d := fun q => by omega
      have e2 : ∀ q : Nat, (d + 10 * q) / 10 = q := fun q => by omega
      show sumC (fun q => tsF mo go f fl fw (roF m mo go g w B F P i (n + 1) k at_ r (d + 10 * q)).2 (roF m mo go g w B F P i (n + 1) k at_ r (d + 10 * q)).1) (10 ^ n) = _
      unfold roF
      simp only [e1, e2, hl]
      unfold mvR mvP
      by_cases h3 : d < tB g w B l at_
      · simp only [if_pos h3]
        exact hval _ _ (pB_lt hm.1 ha)
      · simp only [if_neg h3]
        by_cases h4 : 10 - tF g F l at_ ≤ d
        · simp only [if_pos h4]
          exact hval _ _ (pA_lt hm.1)
        · simp only [if_neg h4]
          exact hval _ _ ha
