/-! TEXTS THAT GO ON: a buffer that is read to its end, a character more -/
/-- the buffer's n characters are read to the end: the reader r, what load would carry out: s out of s0 -/
def Rdy (m : Nat) (T : Nat → Nat) (n : Nat) (r : Rd) (s0 s : Ld) : Prop := feF m T n 0 rd0 = (n, r) ∧ ldF m T n 0 rd0 s0 = (r, s)
theorem feF_ext {m : Nat} {T U : Nat → Nat} (n k : Nat) (r : Rd) (h : ∀ j, j < k + n → T j = U j) : feF m T n k r = feF m U n k r := by
  induction n generalizing k r with
  | zero => rfl
  | succ n ih =>
    unfold feF
    rw [h k (by omega)]
    split
    · rfl
    · exact ih (k + 1) _ (fun j hj => h j (by omega))
theorem ldF_ext {m : Nat} {T U : Nat → Nat} (n k : Nat) (r : Rd) (s : Ld) (h : ∀ j, j < k + n → T j = U j) : ldF m T n k r s = ldF m U n k r s := by
  induction n generalizing k r s with
  | zero => rfl
  | succ n ih =>
    unfold ldF
    rw [h k (by omega)]
    split
    · rfl
    · exact ih (k + 1) _ _ (fun j hj => h j (by omega))
theorem feF_snoc {m : Nat} {T : Nat → Nat} (n k : Nat) {r0 r r' : Rd} (h : feF m T n k r0 = (k + n, r)) (h2 : rdT m (T (k + n)) r = some r') : feF m T (n + 1) k r0 = (k + n + 1, r') := by
  induction n generalizing k r0 with
  | zero =>
    have e : r0 = r := congrArg Prod.snd h
    subst e
    exact feF_full h2
  | succ n ih =>
    cases h3 : rdT m (T k) r0 with
    | none =>
      rw [feF_none h3] at h
      have := congrArg Prod.fst h
      dsimp only at this
      omega
    | some r1 =>
      rw [feF_full h3] at h
      rw [feF_full h3]
      have := ih (k + 1) (r0 := r1) (by rw [h, show k + 1 + n = k + (n + 1) from by omega]) (by rw [show k + 1 + n = k + (n + 1) from by omega]; exact h2)
      rw [this, show k + 1 + n + 1 = k + (n + 1) + 1 from by omega]
theorem feF_stop {m : Nat} {T : Nat → Nat} (n k : Nat) {r0 r : Rd} (h : feF m T n k r0 = (k + n, r)) (h2 : rdT m (T (k + n)) r = none) : feF m T (n + 1) k r0 = (k + n, r) := by
  induction n generalizing k r0 with
  | zero =>
    have e : r0 = r := congrArg Prod.snd h
    subst e
    exact feF_none h2
  | succ n ih =>
    cases h3 : rdT m (T k) r0 with
    | none =>
      rw [feF_none h3] at h
      have := congrArg Prod.fst h
      dsimp only at this
      omega
    | some r1 =>
      rw [feF_full h3] at h
      rw [feF_full h3]
      have := ih (k + 1) (r0 := r1) (by rw [h, show k + 1 + n = k + (n + 1) from by omega]) (by rw [show k + 1 + n = k + (n + 1) from by omega]; exact h2)
      rw [this, show k + 1 + n = k + (n + 1) from by omega]
theorem ldF_snoc {m : Nat} {T : Nat → Nat} (n k : Nat) {r0 r r' : Rd} {s0 s : Ld} (hf : feF m T n k r0 = (k + n, r)) (h : ldF m T n k r0 s0 = (r, s)) (h2 : rdT m (T (k + n)) r = some r') : ldF m T (n + 1) k r0 s0 = (r', ldS r' s) := by
  induction n generalizing k r0 s0 with
  | zero =>
    have e : r0 = r := congrArg Prod.fst h
    have e2 : s0 = s := congrArg Prod.snd h
    subst e
    subst e2
    exact ldF_some h2
  | succ n ih =>
    cases h3 : rdT m (T k) r0 with
    | none =>
      rw [feF_none h3] at hf
      have := congrArg Prod.fst hf
      dsimp only at this
      omega
    | some r1 =>
      rw [feF_full h3] at hf
      rw [ldF_some h3] at h
      rw [ldF_some h3]
      exact ih (k + 1) (by rw [hf, show k + 1 + n = k + (n + 1) from by omega]) h (by rw [show k + 1 + n = k + (n + 1) from by omega]; exact h2)
theorem up_old {T : Nat → Nat} {n c j : Nat} (h : j < n) : T j = va_up T n c j := (if_neg (show ¬ j = n from by omega)).symm
theorem Rdy.zero (m : Nat) (T : Nat → Nat) (s : Ld) : Rdy m T 0 rd0 s s := ⟨rfl, rfl⟩
theorem Rdy.go {m : Nat} {T : Nat → Nat} {n : Nat} {r : Rd} {s0 s : Ld} (h : Rdy m T n r s0 s) (c : Nat) (r' : Rd) (s' : Ld) (h2 : rdT m c r = some r') (hs : ldS r' s = s') : Rdy m (va_up T n c) (n + 1) r' s0 s' := by
  subst hs
  have e : va_up T n c (0 + n) = c := by rw [Nat.zero_add]; exact up_self T n c
  have hf : feF m (va_up T n c) n 0 rd0 = (0 + n, r) := by
    rw [← feF_ext (T := T) n 0 rd0 (fun j hj => up_old (by omega)), h.1, Nat.zero_add]
  have hl : ldF m (va_up T n c) n 0 rd0 s0 = (r, s) := by rw [← ldF_ext (T := T) n 0 rd0 s0 (fun j hj => up_old (by omega)), h.2]
  have h3 : rdT m (va_up T n c (0 + n)) r = some r' := by rw [e]; exact h2
  refine ⟨?_, ldF_snoc n 0 hf hl h3⟩
  have := feF_snoc n 0 hf h3
  rw [Nat.zero_add] at this
  exact this
theorem Rdy.bad {m : Nat} {T : Nat → Nat} {n : Nat} {r : Rd} {s0 s : Ld} (h : Rdy m T n r s0 s) (c : Nat) (h2 : rdT m c r = none) : (feF m (va_up T n c) (n + 1) 0 rd0).1 = n := by
  have e : va_up T n c (0 + n) = c := by rw [Nat.zero_add]; exact up_self T n c
  have hf : feF m (va_up T n c) n 0 rd0 = (0 + n, r) := by
    rw [← feF_ext (T := T) n 0 rd0 (fun j hj => up_old (by omega)), h.1, Nat.zero_add]
  have := feF_stop n 0 hf (by rw [e]; exact h2)
  rw [this]
  exact Nat.zero_add n
theorem Rdy.fe {m : Nat} {T : Nat → Nat} {n : Nat} {r : Rd} {s0 s : Ld} (h : Rdy m T n r s0 s) : (feF m T n 0 rd0).1 = n := by rw [h.1]
theorem Rdy.okT {m : Nat} {T : Nat → Nat} {n : Nat} {r : Rd} {s0 s : Ld} (h : Rdy m T n r s0 s) (he : rdEnd m r) : okT m T n = true := okT_iff.mpr ⟨h.fe, by rw [h.1]; exact he⟩
theorem Rdy.ld {m : Nat} {T : Nat → Nat} {n : Nat} {r : Rd} {s0 s : Ld} (h : Rdy m T n r s0 s) : ldR m T n s0 = (r, s) := h.2
/-- the characters of the law's texts -/
theorem rd_name (m l : Nat) (hl : l < 3) (it le pa ba pr fo : Nat) : rdT m (65 + l) (0, it, le, pa, ba, pr, fo) = some (1, it + 1, l, 0, ba, 0, fo) := by
  rw [rdT_0, if_neg (by omega), if_pos (by omega), show 65 + l - 65 = l from by omega]
theorem rd_colon (m it le pa ba pr fo : Nat) : rdT m 58 (1, it, le, pa, ba, pr, fo) = some (2, it, le, pa, ba, pr, fo) := rfl
theorem rd_back (m b : Nat) (hb : b < 10) (it le pa ba pr fo : Nat) : rdT m (48 + b) (2, it, le, pa, ba, pr, fo) = some (3, it, le, pa, b, pr, fo) := by
  rw [rdT_2, if_pos (by omega), show 48 + b - 48 = b from by omega]
theorem rd_forward (m f : Nat) (hf : f < 10) (it le pa ba pr fo : Nat) (h : ba + f ≤ 10) : rdT m (48 + f) (3, it, le, pa, ba, pr, fo) = some (4, it, le, pa + 1, ba, pr, f) := by
  rw [rdT_3, show 48 + f - 48 = f from by omega, if_pos (by omega)]
theorem rd_bad (m : Nat) (it le pa ba pr fo : Nat) (h : 1 < ba) (h2 : ba < 10) : rdT m (59 - ba) (3, it, le, pa, ba, pr, fo) = none := by
  rw [rdT_3, if_neg (by omega)]
theorem rd_comma (m it le pa ba pr fo : Nat) (h : pa < m) : rdT m 44 (4, it, le, pa, ba, pr, fo) = some (2, it, le, pa, ba, pr, fo) := by
  rw [rdT_4, if_pos h]
  rfl
theorem rd_semi (m it le pa ba pr fo : Nat) (h : ¬ pa < m) : rdT m 59 (4, it, le, pa, ba, pr, fo) = some (0, it, le, pa, ba, pr, fo) := by
  rw [rdT_4, if_neg h]
  rfl
theorem rd_P (m it le pa ba pr fo : Nat) : rdT m 80 (0, it, le, pa, ba, pr, fo) = some (5, it + 1, 3, 0, ba, 0, fo) := rfl
theorem rd_colon2 (m it le pa ba pr fo : Nat) : rdT m 58 (5, it, le, pa, ba, pr, fo) = some (6, it, le, pa, ba, pr, fo) := rfl
theorem rd_first (m l : Nat) (hl : l < 3) (it le pa ba pr fo : Nat) : rdT m (65 + l) (6, it, le, pa, ba, pr, fo) = some (7, it, le, pa, ba, l + 1, fo) := by
  rw [rdT_6, if_pos (by omega), show 65 + l - 64 = l + 1 from by omega]
theorem rd_next (m l : Nat) (hl : l < 3) (it le pa ba pr fo : Nat) (hp : pr < 64) : rdT m (65 + l) (7, it, le, pa, ba, pr, fo) = some (7, it, le, pa, ba, 4 * pr + (l + 1), fo) := by
  rw [rdT_7, if_pos (by omega), show 65 + l - 64 = l + 1 from by omega]
/-- a program's first levers as a number -/
def pqF (P : Nat) : Nat → Nat
  | 0 => 0
  | k + 1 => 4 * pqF P k + (plev P k + 1)
theorem pqF_all : ∀ P, P < 256 → isPr P = true → pqF P (plen P) = P ∧ pqF P (plen P - 1) < 64 ∧ pqF P (plen P - 2) < 64 ∧ pqF P (plen P - 3) < 64 := by decide +kernel
theorem pqF_P {P : Nat} (h : isPr P = true) : pqF P (plen P) = P := (pqF_all P (isPr_bd h).2 h).1
theorem pqF_lt {P k : Nat} (h : isPr P = true) (h1 : 1 ≤ k) (hk : k < plen P) : pqF P k < 64 := by
  have h4 := plen_le P
  obtain ⟨-, g1, g2, g3⟩ := pqF_all P (isPr_bd h).2 h
  have e : k = plen P - 1 ∨ k = plen P - 2 ∨ k = plen P - 3 := by omega
  rcases e with e | e | e <;> rw [e] <;> assumption
