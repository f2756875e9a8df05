/-! THE FACTS OF NUMBERS: RefOK, RefOS, AvQ, ShQ of every program -/
theorem plen_pos1 : ∀ r, r < 256 → isPr r = true → 1 ≤ plen r := by decide +kernel
theorem avg_facts {m g w r : Nat} {B F : Nat → Nat} (hm : 2 ≤ m ∧ m ≤ 4) (hBF : ∀ j, B j + F j ≤ 10) (hP : isPr r = true) (h1 : clM m g w B F r = 1) :
    ∃ (d D : Nat) (x y : Int64) (X : Int), 0 < d ∧ 0 < D ∧ d * D < 2 ^ 62 ∧ gdF (wvM m g w B F r) m = d ∧ x.toInt = (d : Int) * X ∧ y.toInt = X ∧ -(2 ^ 62) < x.toInt ∧ x.toInt < 2 ^ 62 ∧ -(2 ^ 62) < y.toInt ∧ y.toInt < 2 ^ 62 ∧
    saF (wdM m g w B F r) (gaM m g w B F r) m = y ∧ saF (weQ m g w B F r) (roN m g w B F r (plen r)).2 m = x ∧ alM m g w B F r * scF (plen r) * lN (plen r) = lN D ∧ wsQ m g w B F r * scF (plen r) * lN (plen r) = lN (d * D) := by
  have hm0 : 0 < m ∧ m ≤ 4 := ⟨by omega, hm.2⟩
  obtain ⟨p, hp, hp0⟩ := (cl_facts hm hBF).2.2 h1
  have h4 := plen_le r
  have h41 := plen_pos1 r (isPr_bd hP).2 hP
  have hs : 10 ^ plen r ≤ 10000 := Nat.pow_le_pow_right (by decide) h4
  have hs0 : 0 < 10 ^ plen r := Nat.pow_pos (by decide)
  have hwv : ∀ p, p < m → wvM m g w B F r p = lN (wN m g w B F r p) := fun p hp => wv_N hm hBF hp
  have hwl : ∀ p, p < m → wN m g w B F r p ≤ 16000000000000 := fun p hp => wN_le hm hBF hp
  have hd0 : 0 < gN (wN m g w B F r) m := gN_pos hp hp0
  have hdv : ∀ p, p < m → gN (wN m g w B F r) m ∣ wN m g w B F r p := fun p hp => gN_dvd hp
  have hgd : gdF (wvM m g w B F r) m = gN (wN m g w B F r) m := gdF_N (fun p hp => ⟨hwv p hp, by have := hwl p hp; omega⟩)
  have hG : ∀ p, p < m → -40000 ≤ (gaM m g w B F r p).toInt ∧ (gaM m g w B F r p).toInt ≤ 40000 := by
    intro p hp
    obtain ⟨g1, g2⟩ := rvG_bd (g := g) (w := w) (r := r) hm0.1 hBF hp (plen r) h4
    have hb : plen r * 10 ^ plen r ≤ 4 * 10000 := Nat.mul_le_mul h4 hs
    generalize plen r * 10 ^ plen r = u at *
    show -40000 ≤ (rvF m g w B F r p (plen r)).2.toInt ∧ (rvF m g w B F r p (plen r)).2.toInt ≤ 40000
    omega
  have hdl : gN (wN m g w B F r) m ≤ 16000000000000 := Nat.le_trans (Nat.le_of_dvd hp0 (hdv p hp)) (hwl p hp)
  generalize hd : gN (wN m g w B F r) m = d at *
  have hwd : ∀ p, p < m → wdM m g w B F r p = lN (wN m g w B F r p / d) ∧ wN m g w B F r p / d ≤ 16000000000000 := by
    intro p hp
    have h1 := hwl p hp
    have h2 := Nat.div_le_self (wN m g w B F r p) d
    refine ⟨?_, by omega⟩
    show wvM m g w B F r p / lN (gdF (wvM m g w B F r) m) = _
    rw [hgd, hwv p hp]
    exact pk_lDiv (by omega) (by omega) (by omega)
  have hsum := smN_div hdv
  have hsl : smN (wN m g w B F r) m ≤ 4 * 16000000000000 := Nat.le_trans (smN_le hwl) (Nat.mul_le_mul_right _ hm.2)
  have hsp : 0 < smN (wN m g w B F r) m := Nat.lt_of_lt_of_le hp0 (smN_ge m hp)
  have hal : alM m g w B F r = lN (smN (fun p => wN m g w B F r p / d) m) := smA_N (fun p hp => (hwd p hp).1)
  have hws : wsQ m g w B F r = lN (smN (wN m g w B F r) m) := (ws_sm m).trans (smA_N (fun p hp => (weQ_wv hm hBF hp).trans (hwv p hp)))
  obtain ⟨y1, y2, y3⟩ := saF_int (G := gaM m g w B F r) hm.2 hwd hG
  obtain ⟨x1, x2, x3⟩ := saF_int (G := gaM m g w B F r) hm.2 (fun p hp => ⟨hwv p hp, hwl p hp⟩) hG
  have hxx : saF (weQ m g w B F r) (roN m g w B F r (plen r)).2 m = saF (wvM m g w B F r) (gaM m g w B F r) m := saF_cong (fun p hp => ⟨weQ_wv hm hBF hp, gaQ_ga hBF hp⟩)
  have hsd := SI_div (G := gaM m g w B F r) hdv
  have hDt : d * (smN (fun p => wN m g w B F r p / d) m * 10 ^ plen r * plen r) = smN (wN m g w B F r) m * 10 ^ plen r * plen r := by
    rw [hsum, Nat.mul_assoc, Nat.mul_assoc, ← Nat.mul_assoc d]
  have hDl : smN (wN m g w B F r) m * 10 ^ plen r * plen r ≤ 4 * 16000000000000 * 10000 * 4 := Nat.mul_le_mul (Nat.mul_le_mul hsl hs) h4
  have hD0 : 0 < smN (wN m g w B F r) m * 10 ^ plen r * plen r := Nat.mul_pos (Nat.mul_pos hsp hs0) h41
  have hD1 : 0 < smN (fun p => wN m g w B F r p / d) m * 10 ^ plen r * plen r := Nat.pos_of_ne_zero fun e => by rw [e, Nat.mul_zero] at hDt; omega
  refine ⟨d, smN (fun p => wN m g w B F r p / d) m * 10 ^ plen r * plen r, saF (wvM m g w B F r) (gaM m g w B F r) m, saF (wdM m g w B F r) (gaM m g w B F r) m, SI (fun p => wN m g w B F r p / d) (gaM m g w B F r) m, hd0, hD1, by rw [hDt]; omega, hgd, by rw [x1, hsd], y1, by omega, by omega, by omega, by omega, rfl, hxx, ?_, ?_⟩
  · rw [hal, sc_pow, lN_mul, lN_mul]
  · rw [hws, sc_pow, lN_mul, lN_mul, hDt]
theorem avM_Q {m g w r : Nat} {B F : Nat → Nat} (hm : 2 ≤ m ∧ m ≤ 4) (hBF : ∀ j, B j + F j ≤ 10) (hP : isPr r = true) : AvM m g w B F r ∧ AvQ m g w B F r ∧ avM m g w B F r = avQ m g w B F r ∧ ((avQ m g w B F r).2 ≠ 0 → FrB (avQ m g w B F r).1 (lN (avQ m g w B F r).2)) := by
  obtain ⟨c1, c2, c3⟩ := cl_facts (g := g) (w := w) (r := r) hm hBF
  by_cases h1 : clM m g w B F r = 1
  · obtain ⟨d, D, x, y, X, d0, D0, dD, hgd, hx, hy, x1, x2, y1, y2, ey, ex, eM, eQ⟩ := avg_facts hm hBF hP h1
    have hDD : D ≤ d * D := Nat.le_mul_of_pos_left D d0
    have tM : (alM m g w B F r * scF (plen r) * lN (plen r)).toInt = (D : Int) := by rw [eM]; exact pk_lT (by omega)
    have tQ : (wsQ m g w B F r * scF (plen r) * lN (plen r)).toInt = ((d * D : Nat) : Int) := by rw [eQ]; exact pk_lT (by omega)
    have aM : avD (plen r) (scF (plen r)) (alM m g w B F r) = D := by unfold avD; rw [tM]; rfl
    have aQ : avD (plen r) (scF (plen r)) (wsQ m g w B F r) = d * D := by unfold avD; rw [tQ]; rfl
    have vM : avM m g w B F r = (y / lN (Nat.gcd y.toInt.natAbs D), D / Nat.gcd y.toInt.natAbs D) := by
      unfold avM avP
      rw [if_pos h1, ey, aM]
    have vQ : avQ m g w B F r = (x / lN (Nat.gcd x.toInt.natAbs (d * D)), d * D / Nat.gcd x.toInt.natAbs (d * D)) := by
      have : avQ m g w B F r = avP m (plen r) (clQ m g w B F r) (scF (plen r)) (wsQ m g w B F r) (roN m g w B F r (plen r)).2 (weQ m g w B F r) := rfl
      rw [this]
      unfold avP
      rw [if_pos (by omega), ex, aQ]
    have same : avM m g w B F r = avQ m g w B F r := by rw [vM, vQ]; exact red_same d0 D0 hx hy (by omega)
    refine ⟨⟨c2, fun _ => ⟨fun p hp => ?_, by omega⟩, fun _ => ⟨by rw [ey]; omega, by rw [tM]; omega⟩⟩, fun _ => ?_, same, fun _ => ?_⟩
    · rw [wv_N hm hBF hp]
      have := wN_le (g := g) (w := w) (r := r) hm hBF hp
      rw [pk_lT (by omega)]
      omega
    · show -(2 ^ 63) < (saF (weQ m g w B F r) (roN m g w B F r (plen r)).2 m).toInt ∧ 0 < (wsQ m g w B F r * scF (plen r) * lN (plen r)).toInt
      rw [ex, tQ]
      have := Nat.mul_pos d0 D0
      exact ⟨by omega, by omega⟩
    · rw [← same, vM]
      have g0 : 0 < Nat.gcd y.toInt.natAbs D := Nat.gcd_pos_of_pos_right _ D0
      have g1 : Nat.gcd y.toInt.natAbs D ≤ D := Nat.gcd_le_right _ D0
      have q1 := Nat.div_pos g1 g0
      have q2 := Nat.div_le_self D (Nat.gcd y.toInt.natAbs D)
      have tq : (lN (D / Nat.gcd y.toInt.natAbs D)).toInt = ((D / Nat.gcd y.toInt.natAbs D : Nat) : Int) := pk_lT (by omega)
      have tg : (lN (Nat.gcd y.toInt.natAbs D)).toInt = ((Nat.gcd y.toInt.natAbs D : Nat) : Int) := pk_lT (by omega)
      refine ⟨?_, ?_, ?_⟩
      · show -(2 ^ 62) < (y / lN (Nat.gcd y.toInt.natAbs D)).toInt
        rw [l_div (by rw [tg]; omega), tg]
        have hb : (y.toInt.tdiv ((Nat.gcd y.toInt.natAbs D : Nat) : Int)).natAbs ≤ y.toInt.natAbs := by
          rw [Int.natAbs_tdiv]
          exact Nat.div_le_self _ _
        omega
      · show 0 < (lN (D / Nat.gcd y.toInt.natAbs D)).toInt
        rw [tq]
        omega
      · show (lN (D / Nat.gcd y.toInt.natAbs D)).toInt < 2 ^ 62
        rw [tq]
        omega
  · have vM : avM m g w B F r = (0, 0) := if_neg h1
    have vQ : avQ m g w B F r = (0, 0) := if_neg (fun h => h1 (c1.trans h))
    refine ⟨⟨c2, fun h => absurd h h1, fun h => absurd h h1⟩, fun h => absurd (c1.trans h) h1, vM.trans vQ.symm, fun h => absurd (by rw [vQ]) h⟩
theorem ref_ok {m g w : Nat} {B F : Nat → Nat} (hm : 2 ≤ m ∧ m ≤ 4) (hBF : ∀ j, B j + F j ≤ 10) : RefOK m g w B F := fun r hP => ⟨(avM_Q hm hBF hP).1, (avM_Q hm hBF hP).2.2⟩
theorem avQ_ok {m g w : Nat} {B F : Nat → Nat} (hm : 2 ≤ m ∧ m ≤ 4) (hBF : ∀ j, B j + F j ≤ 10) : ∀ r, isPr r = true → AvQ m g w B F r := fun r hP => (avM_Q hm hBF hP).2.1
