/-! THE FACTS OF NUMBERS: shares -/
theorem shM_Q {m g w r q : Nat} {B F : Nat → Nat} (hm : 2 ≤ m ∧ m ≤ 4) (hBF : ∀ j, B j + F j ≤ 10) (hq : q < m) : ShM m g w B F r q ∧ ShQ m g w B F r q ∧ shM m g w B F r q = shQ m g w B F r q := by
  obtain ⟨c1, c2, c3⟩ := cl_facts (g := g) (w := w) (r := r) hm hBF
  by_cases h1 : clM m g w B F r = 1
  · obtain ⟨p, hp, hp0⟩ := c3 h1
    have hwv : ∀ p, p < m → wvM m g w B F r p = lN (wN m g w B F r p) := fun p hp => wv_N hm hBF hp
    have hwl : ∀ p, p < m → wN m g w B F r p ≤ 16000000000000 := fun p hp => wN_le hm hBF hp
    have hd0 : 0 < gN (wN m g w B F r) m := gN_pos hp hp0
    have hdv : ∀ p, p < m → gN (wN m g w B F r) m ∣ wN m g w B F r p := fun p hp => gN_dvd hp
    have hgd : gdF (wvM m g w B F r) m = gN (wN m g w B F r) m := gdF_N (fun p hp => ⟨hwv p hp, by have := hwl p hp; omega⟩)
    have hdl : gN (wN m g w B F r) m ≤ 16000000000000 := Nat.le_trans (Nat.le_of_dvd hp0 (hdv p hp)) (hwl p hp)
    generalize gN (wN m g w B F r) m = d at *
    have hwd : ∀ p, p < m → wdM m g w B F r p = lN (wN m g w B F r p / d) := by
      intro p hp
      have h1 := hwl p hp
      have h2 := Nat.div_le_self (wN m g w B F r p) d
      show wvM m g w B F r p / lN (gdF (wvM m g w B F r) m) = _
      rw [hgd, hwv p hp]
      exact pk_lDiv (by omega) (by omega) (by omega)
    have hsum := smN_div hdv
    have hsl : smN (wN m g w B F r) m ≤ 4 * 16000000000000 := Nat.le_trans (smN_le hwl) (Nat.mul_le_mul_right _ hm.2)
    have hsp : 0 < smN (wN m g w B F r) m := Nat.lt_of_lt_of_le hp0 (smN_ge m hp)
    have hal : alM m g w B F r = lN (smN (fun p => wN m g w B F r p / d) m) := smA_N (fun p hp => hwd p hp)
    have hws : wsQ m g w B F r = lN (smN (wN m g w B F r) m) := (ws_sm m).trans (smA_N (fun p hp => (weQ_wv hm hBF hp).trans (hwv p hp)))
    have hwe : weQ m g w B F r q = lN (wN m g w B F r q) := (weQ_wv hm hBF hq).trans (hwv q hq)
    have hql := hwl q hq
    have hqd := Nat.div_le_self (wN m g w B F r q) d
    have hD0 : 0 < smN (fun p => wN m g w B F r p / d) m := Nat.pos_of_ne_zero fun e => by rw [e, Nat.mul_zero] at hsum; omega
    have hDD : smN (fun p => wN m g w B F r p / d) m ≤ d * smN (fun p => wN m g w B F r p / d) m := Nat.le_mul_of_pos_left _ hd0
    have tx : (lN (wN m g w B F r q)).toInt = ((wN m g w B F r q : Nat) : Int) := pk_lT (by omega)
    have ty : (lN (wN m g w B F r q / d)).toInt = ((wN m g w B F r q / d : Nat) : Int) := pk_lT (by omega)
    have ta : (alM m g w B F r).toInt = ((smN (fun p => wN m g w B F r p / d) m : Nat) : Int) := by rw [hal]; exact pk_lT (by omega)
    have ts : (wsQ m g w B F r).toInt = ((d * smN (fun p => wN m g w B F r p / d) m : Nat) : Int) := by rw [hws, ← hsum]; exact pk_lT (by omega)
    refine ⟨fun _ => ⟨?_, ?_⟩, fun _ => ⟨?_, ?_⟩, ?_⟩
    · rw [hwd q hq, ty]
      generalize wN m g w B F r q / d = u
      omega
    · rw [ta]; omega
    · rw [hwe, tx]; omega
    · rw [ts, ← hsum]; omega
    · have vM : shM m g w B F r q = (lN (wN m g w B F r q / d) / lN (Nat.gcd (lN (wN m g w B F r q / d)).toInt.natAbs (smN (fun p => wN m g w B F r p / d) m)), smN (fun p => wN m g w B F r p / d) m / Nat.gcd (lN (wN m g w B F r q / d)).toInt.natAbs (smN (fun p => wN m g w B F r p / d) m)) := by
        unfold shM shP
        rw [if_pos h1, hwd q hq, ta]
        rfl
      have vQ : shQ m g w B F r q = (lN (wN m g w B F r q) / lN (Nat.gcd (lN (wN m g w B F r q)).toInt.natAbs (d * smN (fun p => wN m g w B F r p / d) m)), d * smN (fun p => wN m g w B F r p / d) m / Nat.gcd (lN (wN m g w B F r q)).toInt.natAbs (d * smN (fun p => wN m g w B F r p / d) m)) := by
        unfold shQ shP
        rw [if_pos (by omega), hwe, ts]
        rfl
      rw [vM, vQ]
      exact red_same (X := ((wN m g w B F r q / d : Nat) : Int)) hd0 hD0 (by rw [tx, ← Int.natCast_mul, Nat.mul_div_cancel' (hdv q hq)]) ty (by omega)
  · have vM : shM m g w B F r q = (0, 0) := if_neg h1
    have vQ : shQ m g w B F r q = (0, 0) := if_neg (fun h => h1 (c1.trans h))
    exact ⟨fun h => absurd h h1, fun h => absurd (c1.trans h) h1, vM.trans vQ.symm⟩
theorem refS_ok {m g w : Nat} {B F : Nat → Nat} (hm : 2 ≤ m ∧ m ≤ 4) (hBF : ∀ j, B j + F j ≤ 10) : RefOS m g w B F := fun r _ => ⟨(cl_facts hm hBF).1, fun _ hq => ⟨(shM_Q hm hBF hq).1, (shM_Q hm hBF hq).2.2⟩⟩
theorem shQ_ok {m g w : Nat} {B F : Nat → Nat} (hm : 2 ≤ m ∧ m ≤ 4) (hBF : ∀ j, B j + F j ≤ 10) (r q : Nat) (hq : q < m) : ShQ m g w B F r q := (shM_Q hm hBF hq).2.1
