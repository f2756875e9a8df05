/-! THE FACTS OF NUMBERS: a program's numbers as naturals -/
def nM (m g w : Nat) (B F : Nat → Nat) (r : Nat) : Nat → Nat := fun c => if c / 4 < m ∧ c % 4 < m then rvN m g w B F r (c / 4) (plen r) (c % 4) else 0
theorem nM_in {m g w r i j : Nat} {B F : Nat → Nat} (hm : m ≤ 4) (hi : i < m) (hj : j < m) : nM m g w B F r (4 * i + j) = rvN m g w B F r i (plen r) j := by
  have h1 : (4 * i + j) / 4 = i := by omega
  have h2 : (4 * i + j) % 4 = j := by omega
  show (if (4 * i + j) / 4 < m ∧ (4 * i + j) % 4 < m then rvN m g w B F r ((4 * i + j) / 4) (plen r) ((4 * i + j) % 4) else 0) = _
  rw [h1, h2, if_pos ⟨hi, hj⟩]
theorem roM_in {m g w r i j : Nat} {B F : Nat → Nat} (hm : m ≤ 4) (hi : i < m) (hj : j < m) : roM m g w B F r (4 * i + j) = lN (nM m g w B F r (4 * i + j)) := by
  have h1 : (4 * i + j) / 4 = i := by omega
  have h2 : (4 * i + j) % 4 = j := by omega
  rw [nM_in hm hi hj]
  show (rvF m g w B F r ((4 * i + j) / 4) (plen r)).1 ((4 * i + j) % 4) = _
  rw [h1, h2, rvF_N]
theorem sc_pow (k : Nat) : scF k = lN (10 ^ k) := by
  induction k with
  | zero => rfl
  | succ k ih =>
    show scF k * 10 = lN (10 ^ (k + 1))
    rw [ih]
    exact lN_mul (10 ^ k) 10
theorem nM_row {m g w r i : Nat} {B F : Nat → Nat} (hm : 0 < m ∧ m ≤ 4) (hBF : ∀ j, B j + F j ≤ 10) (hi : i < m) : 10 ^ plen r = smN (fun j => nM m g w B F r (4 * i + j)) m := by
  rw [← rvN_sum (g := g) (w := w) (r := r) hm.1 hBF hi (plen r)]
  exact smN_eq (fun j hj => (nM_in hm.2 hi hj).symm)
theorem nM_le {m g w r : Nat} {B F : Nat → Nat} (hm : 0 < m ∧ m ≤ 4) (hBF : ∀ j, B j + F j ≤ 10) (c : Nat) : nM m g w B F r c ≤ 10000 := by
  have h4 := plen_le r
  unfold nM
  split
  · next h =>
    have := smN_ge (f := rvN m g w B F r (c / 4) (plen r)) m h.2
    rw [rvN_sum hm.1 hBF h.1] at this
    exact Nat.le_trans this (Nat.pow_le_pow_right (by decide) h4)
  · exact Nat.zero_le _
def wN (m g w : Nat) (B F : Nat → Nat) (r p : Nat) : Nat := trN m (nM m g w B F r) p
theorem wv_N {m g w r p : Nat} {B F : Nat → Nat} (hm : 2 ≤ m ∧ m ≤ 4) (hBF : ∀ j, B j + F j ≤ 10) (hp : p < m) : wvM m g w B F r p = lN (wN m g w B F r p) := by
  show mnM m (scF (plen r)) (roM m g w B F r) p = _
  rw [sc_pow, mnM_eq hm hp (r2 := fun c => lN (nM m g w B F r c)) (fun i j hi hj => roM_in hm.2 hi hj)]
  exact mn_trN hm hp (fun i hi => nM_row ⟨by omega, hm.2⟩ hBF hi)
theorem wN_le {m g w r p : Nat} {B F : Nat → Nat} (hm : 2 ≤ m ∧ m ≤ 4) (hBF : ∀ j, B j + F j ≤ 10) (hp : p < m) : wN m g w B F r p ≤ 16000000000000 := trN_le hm hp (nM_le ⟨by omega, hm.2⟩ hBF)
theorem lN_posN {x : Nat} (h : x < 2 ^ 63) : 0 < lN x ↔ 0 < x := pk_lLT (a := 0) (b := x) (by decide) h
theorem cl_facts {m g w r : Nat} {B F : Nat → Nat} (hm : 2 ≤ m ∧ m ≤ 4) (hBF : ∀ j, B j + F j ≤ 10) : clM m g w B F r = clQ m g w B F r ∧ 1 ≤ clM m g w B F r ∧ (clM m g w B F r = 1 → ∃ p, p < m ∧ 0 < wN m g w B F r p) := by
  have hm0 : 0 < m ∧ m ≤ 4 := ⟨by omega, hm.2⟩
  have hs : (fun c => decide (0 < lN (nM m g w B F r c))) = fun c => decide (0 < nM m g w B F r c) := by
    funext c
    have := nM_le (g := g) (w := w) (r := r) hm0 hBF c
    exact decide_eq_decide.mpr (lN_posN (by omega))
  obtain ⟨k1, k2, k3⟩ := sign_ok hm (fun c => decide (0 < nM m g w B F r c))
  have e1 : clM m g w B F r = mcB m (fun c => decide (0 < nM m g w B F r c)) := by
    refine mcF_cong (Nat.le_refl m) (fun q hq => ?_)
    rw [rcF_eq (r2 := fun c => lN (nM m g w B F r c)) (fun i j hi hj => roM_in hm.2 hi hj) 64, rcF_B, hs]
  have e2 : clQ m g w B F r = clsF m (reachB m (fun c => decide (0 < nM m g w B F r c))) m := by
    unfold clQ
    rw [reachF_B hm.2, reachB_off hm.2 (A' := fun c => decide (0 < nM m g w B F r c)) (fun i j hi hj _ => ?_)]
    rw [← hs]
    show decide (0 < (roN m g w B F r (plen r)).1 ((4 * i + j) / 4) ((4 * i + j) % 4)) = decide (0 < lN (nM m g w B F r (4 * i + j)))
    rw [← roM_in hm.2 hi hj, ((roN_rv hBF (plen r)) ((4 * i + j) / 4) (by omega)).1]
    rfl
  rw [e1, e2]
  refine ⟨k1, k2, fun e => ?_⟩
  obtain ⟨p, hp, h⟩ := k3 e
  exact ⟨p, hp, trN_pos hm hp h⟩
