/-! READING a text: the pure reader, and what Reader.take does -/
abbrev Rd : Type := Nat × Nat × Nat × Nat × Nat × Nat × Nat
def rdT (m c : Nat) : Rd → Option Rd
  | (0, it, le, pa, ba, pr, fo) => if c = 80 then some (5, it + 1, 3, 0, ba, 0, fo) else if 65 ≤ c ∧ c < 68 then some (1, it + 1, c - 65, 0, ba, 0, fo) else none
  | (1, it, le, pa, ba, pr, fo) => if c = 58 then some (2, it, le, pa, ba, pr, fo) else none
  | (2, it, le, pa, ba, pr, fo) => if 48 ≤ c ∧ c ≤ 57 then some (3, it, le, pa, c - 48, pr, fo) else none
  | (3, it, le, pa, ba, pr, fo) => if (48 ≤ c ∧ c ≤ 57) ∧ ba + (c - 48) ≤ 10 then some (4, it, le, pa + 1, ba, pr, c - 48) else none
  | (4, it, le, pa, ba, pr, fo) => if pa < m then (if c = 44 then some (2, it, le, pa, ba, pr, fo) else none) else if c = 59 then some (0, it, le, pa, ba, pr, fo) else none
  | (5, it, le, pa, ba, pr, fo) => if c = 58 then some (6, it, le, pa, ba, pr, fo) else none
  | (6, it, le, pa, ba, pr, fo) => if 65 ≤ c ∧ c < 68 then some (7, it, le, pa, ba, c - 64, fo) else none
  | (_, it, le, pa, ba, pr, fo) => if (65 ≤ c ∧ c < 68) ∧ pr < 64 then some (7, it, le, pa, ba, 4 * pr + (c - 64), fo) else if c = 59 then some (0, it, le, pa, ba, pr, fo) else none
theorem rdT_0 {m c it le pa ba pr fo : Nat} : rdT m c (0, it, le, pa, ba, pr, fo) = (if c = 80 then some (5, it + 1, 3, 0, ba, 0, fo) else if 65 ≤ c ∧ c < 68 then some (1, it + 1, c - 65, 0, ba, 0, fo) else none) := rfl
theorem rdT_1 {m c it le pa ba pr fo : Nat} : rdT m c (1, it, le, pa, ba, pr, fo) = (if c = 58 then some (2, it, le, pa, ba, pr, fo) else none) := rfl
theorem rdT_2 {m c it le pa ba pr fo : Nat} : rdT m c (2, it, le, pa, ba, pr, fo) = (if 48 ≤ c ∧ c ≤ 57 then some (3, it, le, pa, c - 48, pr, fo) else none) := rfl
theorem rdT_3 {m c it le pa ba pr fo : Nat} : rdT m c (3, it, le, pa, ba, pr, fo) = (if (48 ≤ c ∧ c ≤ 57) ∧ ba + (c - 48) ≤ 10 then some (4, it, le, pa + 1, ba, pr, c - 48) else none) := rfl
theorem rdT_4 {m c it le pa ba pr fo : Nat} : rdT m c (4, it, le, pa, ba, pr, fo) = (if pa < m then (if c = 44 then some (2, it, le, pa, ba, pr, fo) else none) else if c = 59 then some (0, it, le, pa, ba, pr, fo) else none) := rfl
theorem rdT_5 {m c it le pa ba pr fo : Nat} : rdT m c (5, it, le, pa, ba, pr, fo) = (if c = 58 then some (6, it, le, pa, ba, pr, fo) else none) := rfl
theorem rdT_6 {m c it le pa ba pr fo : Nat} : rdT m c (6, it, le, pa, ba, pr, fo) = (if 65 ≤ c ∧ c < 68 then some (7, it, le, pa, ba, c - 64, fo) else none) := rfl
theorem rdT_7 {m c it le pa ba pr fo : Nat} : rdT m c (7, it, le, pa, ba, pr, fo) = (if (65 ≤ c ∧ c < 68) ∧ pr < 64 then some (7, it, le, pa, ba, 4 * pr + (c - 64), fo) else if c = 59 then some (0, it, le, pa, ba, pr, fo) else none) := rfl
/-- what holds of the reader -/
def RdI (m : Nat) : Rd → Prop
  | (0, it, le, pa, ba, pr, fo) => True
  | (1, it, le, pa, ba, pr, fo) => le < 3 ∧ pa = 0
  | (2, it, le, pa, ba, pr, fo) => le < 3 ∧ pa < m
  | (3, it, le, pa, ba, pr, fo) => le < 3 ∧ pa < m ∧ ba < 10
  | (4, it, le, pa, ba, pr, fo) => le < 3 ∧ 1 ≤ pa ∧ pa ≤ m ∧ ba < 10 ∧ fo < 10 ∧ ba + fo ≤ 10
  | (5, it, le, pa, ba, pr, fo) => pr = 0
  | (6, it, le, pa, ba, pr, fo) => pr = 0
  | (7, it, le, pa, ba, pr, fo) => isPr pr = true
  | _ => False
theorem pr4 : ∀ p, p < 64 → isPr p = true → ∀ d, d < 3 → isPr (4 * p + (d + 65 - 64)) = true := by decide +kernel
theorem pr1 : ∀ d, d < 3 → isPr (d + 65 - 64) = true := by decide
theorem RdI_T {m c : Nat} {r r' : Rd} (hm : 0 < m) (h : rdT m c r = some r') (hI : RdI m r) : RdI m r' := by
  obtain ⟨md, it, le, pa, ba, pr, fo⟩ := r
  match md, h, hI with
  | 0, h, hI =>
    rw [rdT_0] at h
    split at h
    · cases h; exact rfl
    · split at h
      · cases h; exact ⟨by omega, rfl⟩
      · cases h
  | 1, h, hI =>
    rw [rdT_1] at h
    split at h
    · cases h; exact ⟨hI.1, by have := hI.2; omega⟩
    · cases h
  | 2, h, hI =>
    rw [rdT_2] at h
    split at h
    · cases h; exact ⟨hI.1, hI.2, by omega⟩
    · cases h
  | 3, h, hI =>
    rw [rdT_3] at h
    obtain ⟨h1, h2, h3⟩ := hI
    split at h
    · cases h; exact ⟨h1, by omega, by omega, h3, by omega, by omega⟩
    · cases h
  | 4, h, hI =>
    rw [rdT_4] at h
    obtain ⟨h1, h2, h3, h4⟩ := hI
    split at h
    · split at h
      · cases h; exact ⟨h1, by assumption⟩
      · cases h
    · split at h
      · cases h; exact trivial
      · cases h
  | 5, h, hI =>
    rw [rdT_5] at h
    split at h
    · cases h; exact hI
    · cases h
  | 6, h, hI =>
    rw [rdT_6] at h
    split at h
    · cases h
      obtain ⟨d, rfl⟩ : ∃ d, c = d + 65 := ⟨c - 65, by omega⟩
      exact pr1 d (by omega)
    · cases h
  | 7, h, hI =>
    rw [rdT_7] at h
    split at h
    · cases h
      obtain ⟨d, rfl⟩ : ∃ d, c = d + 65 := ⟨c - 65, by omega⟩
      exact pr4 pr (by omega) hI d (by omega)
    · split at h
      · cases h; exact trivial
      · cases h
abbrev RF : Type := Int32 × Int32 × Int32 × Int32 × Int32 × Int32 × Int32 × Int32
/-- the class's reader, at a pure one's place: stage, isOfProgram, items, lever, pairs, back, forward, program -/
def rdC : Rd → RF → Prop
  | (0, it, le, pa, ba, pr, fo), x => x.1 = 0 ∧ x.2.2.1 = nI it
  | (1, it, le, pa, ba, pr, fo), x => x.1 = 1 ∧ x.2.2.1 = nI it ∧ x.2.1 = 0 ∧ x.2.2.2.1 = nI le ∧ x.2.2.2.2.1 = nI pa
  | (2, it, le, pa, ba, pr, fo), x => x.1 = 2 ∧ x.2.2.1 = nI it ∧ x.2.2.2.1 = nI le ∧ x.2.2.2.2.1 = nI pa
  | (3, it, le, pa, ba, pr, fo), x => x.1 = 3 ∧ x.2.2.1 = nI it ∧ x.2.2.2.1 = nI le ∧ x.2.2.2.2.1 = nI pa ∧ x.2.2.2.2.2.1 = nI ba
  | (4, it, le, pa, ba, pr, fo), x => x.1 = 4 ∧ x.2.2.1 = nI it ∧ x.2.2.2.1 = nI le ∧ x.2.2.2.2.1 = nI pa ∧ x.2.2.2.2.2.1 = nI ba ∧ x.2.2.2.2.2.2.1 = nI fo
  | (5, it, le, pa, ba, pr, fo), x => x.1 = 1 ∧ x.2.2.1 = nI it ∧ ¬ x.2.1 = 0 ∧ x.2.2.2.2.2.2.2 = 0
  | (6, it, le, pa, ba, pr, fo), x => x.1 = 5 ∧ x.2.2.1 = nI it ∧ x.2.2.2.2.2.2.2 = 0
  | (7, it, le, pa, ba, pr, fo), x => x.1 = 6 ∧ x.2.2.1 = nI it ∧ x.2.2.2.2.2.2.2 = nI pr
  | _, _ => False
theorem ch_eq (k : Nat) (hk : k < 128) {c : Nat} (hc : c < 128) : nI c = nI k ↔ c = k := nI_eq (a := c) (b := k) (by omega) (by omega)
theorem ch_let : ∀ c, c < 128 → ((0 ≤ nI c - 65 ∧ nI c - 65 < 3) ↔ (65 ≤ c ∧ c < 68)) := by decide +kernel
theorem ch_sub : ∀ c, c < 128 → 65 ≤ c → nI c - 65 = nI (c - 65) := by decide +kernel
theorem ch_dig : ∀ c, c < 128 → ((48 ≤ nI c ∧ nI c ≤ 57) ↔ (48 ≤ c ∧ c ≤ 57)) := by decide +kernel
theorem ch_dsub : ∀ c, c < 128 → 48 ≤ c → nI c - 48 = nI (c - 48) := by decide +kernel
theorem ch_sum : ∀ b, b < 10 → ∀ d, d < 10 → (nI b + nI d ≤ 10 ↔ b + d ≤ 10) := by decide +kernel
theorem ch_pr : ∀ p, p < 256 → ∀ d, d < 3 → 4 * nI p + nI d + 1 = nI (4 * p + (d + 1)) := by decide +kernel
set_option maxRecDepth 100000 in
set_option maxHeartbeats 2000000 in
theorem c_Re_take {e0 e1 e2 e3 e4 e5 e6 e7 e8 e10 e11 e12 e13 e14 e15 e16 e17 e18 e19 e20 e21 e22 e23 e24 e25 e26 e27 e28 e29 e30 e31 e32 e33 e34 e35 e36 : va_E} {m c : Nat} {r : Rd} {x : RF} (hm : 0 < m ∧ m ≤ 4) (hc : c < 128) (hI : RdI m r) (hx : rdC r x) :
    (∀ r', rdT m c r = some r' → ∃ y, rdC r' y ∧ JE M_Re_take [.ref 9, .int (nI c)] (HP e0 e1 e2 e3 e4 e5 e6 e7 e8 (.inr (2, [.int (nI m), .int x.1, .int x.2.1, .int x.2.2.1, .int x.2.2.2.1, .int x.2.2.2.2.1, .int x.2.2.2.2.2.1, .int x.2.2.2.2.2.2.1, .int x.2.2.2.2.2.2.2])) e10 e11 e12 e13 e14 e15 e16 e17 e18 e19 e20 e21 e22 e23 e24 e25 e26 e27 e28 e29 e30 e31 e32 e33 e34 e35 e36) (some (.int 1)) (HP e0 e1 e2 e3 e4 e5 e6 e7 e8 (.inr (2, [.int (nI m), .int y.1, .int y.2.1, .int y.2.2.1, .int y.2.2.2.1, .int y.2.2.2.2.1, .int y.2.2.2.2.2.1, .int y.2.2.2.2.2.2.1, .int y.2.2.2.2.2.2.2])) e10 e11 e12 e13 e14 e15 e16 e17 e18 e19 e20 e21 e22 e23 e24 e25 e26 e27 e28 e29 e30 e31 e32 e33 e34 e35 e36)) ∧ (rdT m c r = none → JE M_Re_take [.ref 9, .int (nI c)] (HP e0 e1 e2 e3 e4 e5 e6 e7 e8 (.inr (2, [.int (nI m), .int x.1, .int x.2.1, .int x.2.2.1, .int x.2.2.2.1, .int x.2.2.2.2.1, .int x.2.2.2.2.2.1, .int x.2.2.2.2.2.2.1, .int x.2.2.2.2.2.2.2])) e10 e11 e12 e13 e14 e15 e16 e17 e18 e19 e20 e21 e22 e23 e24 e25 e26 e27 e28 e29 e30 e31 e32 e33 e34 e35 e36) (some (.int 0)) (HP e0 e1 e2 e3 e4 e5 e6 e7 e8 (.inr (2, [.int (nI m), .int x.1, .int x.2.1, .int x.2.2.1, .int x.2.2.2.1, .int x.2.2.2.2.1, .int x.2.2.2.2.2.1, .int x.2.2.2.2.2.2.1, .int x.2.2.2.2.2.2.2])) e10 e11 e12 e13 e14 e15 e16 e17 e18 e19 e20 e21 e22 e23 e24 e25 e26 e27 e28 e29 e30 e31 e32 e33 e34 e35 e36)) := by
  obtain ⟨md, it, le, pa, ba, pr, fo⟩ := r
  obtain ⟨st, zz, it', le', pa', ba', fo', pr'⟩ := x
  match md, hI, hx with
  | 0, hI, hx =>
    obtain ⟨h0, h1⟩ := hx
    dsimp only at h0 h1
    subst h0; subst h1
    rw [rdT_0]
    by_cases c1 : c = 80
    · rw [if_pos c1]
      subst c1
      exact ⟨fun r' h => by
        cases h
        exact ⟨(1, 1, nI it + 1, nI 80 - 65, 0, ba', fo', 0), ⟨rfl, nI_add it 1, (show ¬ (1 : Int32) = 0 by decide), rfl⟩, c_Re_take_0 (Or.inr rfl) (c_Re_takeName_p rfl)⟩, fun h => nomatch h⟩
    · rw [if_neg c1]
      have e1 : ¬ nI c = 80 := fun e => c1 ((ch_eq 80 (by decide) hc).mp e)
      by_cases c2 : 65 ≤ c ∧ c < 68
      · rw [if_pos c2]
        have h2 := (ch_let c hc).mpr c2
        exact ⟨fun r' h => by
          cases h
          exact ⟨(1, 0, nI it + 1, nI c - 65, 0, ba', fo', 0), ⟨rfl, nI_add it 1, rfl, ch_sub c hc c2.1, rfl⟩, c_Re_take_0 (Or.inr rfl) (c_Re_takeName_l e1 h2.1 h2.2)⟩, fun h => nomatch h⟩
      · rw [if_neg c2]
        exact ⟨fun r' h => (nomatch h), fun _ => c_Re_take_0 (Or.inl rfl) (c_Re_takeName_f e1 (fun h => c2 ((ch_let c hc).mp h)))⟩
  | 1, hI, hx =>
    obtain ⟨h0, h1, h2, h3⟩ := hx
    dsimp only at h0 h1 h2 h3
    subst h0; subst h2
    rw [rdT_1]
    by_cases c1 : c = 58
    · rw [if_pos c1]
      subst c1
      exact ⟨fun r' h => by
        cases h
        exact ⟨(2, 0, it', le', pa', ba', fo', pr'), ⟨rfl, h1, h3⟩, c_Re_take_1 (Or.inr rfl) (c_Re_takeColon_0 rfl rfl)⟩, fun h => nomatch h⟩
    · rw [if_neg c1]
      exact ⟨fun r' h => (nomatch h), fun _ => c_Re_take_1 (Or.inl rfl) (c_Re_takeColon_f (fun e => c1 ((ch_eq 58 (by decide) hc).mp e)))⟩
  | 2, hI, hx =>
    obtain ⟨h0, h1, h2, h3⟩ := hx
    dsimp only at h0 h1 h2 h3
    subst h0
    rw [rdT_2]
    by_cases c1 : 48 ≤ c ∧ c ≤ 57
    · rw [if_pos c1]
      have h4 := (ch_dig c hc).mpr c1
      exact ⟨fun r' h => by
        cases h
        exact ⟨(3, zz, it', le', pa', nI c - 48, fo', pr'), ⟨rfl, h1, h2, h3, ch_dsub c hc c1.1⟩, c_Re_take_2 (Or.inr rfl) (c_Re_takeBack_t h4.1 h4.2)⟩, fun h => nomatch h⟩
    · rw [if_neg c1]
      exact ⟨fun r' h => (nomatch h), fun _ => c_Re_take_2 (Or.inl rfl) (c_Re_takeBack_f (fun h => c1 ((ch_dig c hc).mp h)))⟩
  | 3, hI, hx =>
    obtain ⟨h0, h1, h2, h3, h4⟩ := hx
    dsimp only at h0 h1 h2 h3 h4
    subst h0; subst h4; subst h3
    rw [rdT_3]
    by_cases c1 : 48 ≤ c ∧ c ≤ 57
    · have h5 := (ch_dig c hc).mpr c1
      have h6 := ch_sum ba hI.2.2 (c - 48) (by omega)
      rw [← ch_dsub c hc c1.1] at h6
      by_cases c2 : ba + (c - 48) ≤ 10
      · rw [if_pos ⟨c1, c2⟩]
        exact ⟨fun r' h => by
          cases h
          exact ⟨(4, zz, it', le', nI pa + 1, nI ba, nI c - 48, pr'), ⟨rfl, h1, h2, nI_add pa 1, rfl, ch_dsub c hc c1.1⟩, c_Re_take_3 (Or.inr rfl) (c_Re_takeForward_t h5.1 h5.2 (h6.mpr c2))⟩, fun h => nomatch h⟩
      · rw [if_neg (fun h => c2 h.2)]
        exact ⟨fun r' h => (nomatch h), fun _ => c_Re_take_3 (Or.inl rfl) (c_Re_takeForward_f2 h5.1 h5.2 (fun h => c2 (h6.mp h)))⟩
    · rw [if_neg (fun h => c1 h.1)]
      exact ⟨fun r' h => (nomatch h), fun _ => c_Re_take_3 (Or.inl rfl) (c_Re_takeForward_f (fun h => c1 ((ch_dig c hc).mp h)))⟩
  | 4, hI, hx =>
    obtain ⟨h0, h1, h2, h3, h4, h5⟩ := hx
    dsimp only at h0 h1 h2 h3 h4 h5
    subst h0; subst h3
    rw [rdT_4]
    obtain ⟨i1, i2, i3, i4⟩ := hI
    by_cases c0 : pa < m
    · rw [if_pos c0]
      have g0 : nI pa < nI m := (nI_ltI (a := pa) (b := m) (by omega) (by omega)).mpr c0
      by_cases c1 : c = 44
      · rw [if_pos c1]
        subst c1
        exact ⟨fun r' h => by
          cases h
          exact ⟨(2, zz, it', le', nI pa, ba', fo', pr'), ⟨rfl, h1, h2, rfl⟩, c_Re_take_4c g0 (Or.inr rfl) (c_Re_takeComma_t rfl)⟩, fun h => nomatch h⟩
      · rw [if_neg c1]
        exact ⟨fun r' h => (nomatch h), fun _ => c_Re_take_4c g0 (Or.inl rfl) (c_Re_takeComma_f (fun e => c1 ((ch_eq 44 (by decide) hc).mp e)))⟩
    · rw [if_neg c0]
      have g0 : nI m ≤ nI pa := (nI_leI (a := m) (b := pa) (by omega) (by omega)).mpr (by omega)
      by_cases c1 : c = 59
      · rw [if_pos c1]
        subst c1
        exact ⟨fun r' h => by
          cases h
          exact ⟨(0, zz, it', le', nI pa, ba', fo', pr'), ⟨rfl, h1⟩, c_Re_take_4s g0 (Or.inr rfl) (c_Re_takeSemicolon_t rfl)⟩, fun h => nomatch h⟩
      · rw [if_neg c1]
        exact ⟨fun r' h => (nomatch h), fun _ => c_Re_take_4s g0 (Or.inl rfl) (c_Re_takeSemicolon_f (fun e => c1 ((ch_eq 59 (by decide) hc).mp e)))⟩
  | 5, hI, hx =>
    obtain ⟨h0, h1, h2, h3⟩ := hx
    dsimp only at h0 h1 h2 h3
    subst h0
    rw [rdT_5]
    by_cases c1 : c = 58
    · rw [if_pos c1]
      subst c1
      exact ⟨fun r' h => by
        cases h
        exact ⟨(5, zz, it', le', pa', ba', fo', pr'), ⟨rfl, h1, h3⟩, c_Re_take_1 (Or.inr rfl) (c_Re_takeColon_1 rfl h2)⟩, fun h => nomatch h⟩
    · rw [if_neg c1]
      exact ⟨fun r' h => (nomatch h), fun _ => c_Re_take_1 (Or.inl rfl) (c_Re_takeColon_f (fun e => c1 ((ch_eq 58 (by decide) hc).mp e)))⟩
  | 6, hI, hx =>
    obtain ⟨h0, h1, h2⟩ := hx
    dsimp only at h0 h1 h2
    subst h0; subst h2
    rw [rdT_6]
    by_cases c2 : 65 ≤ c ∧ c < 68
    · rw [if_pos c2]
      have h2 := (ch_let c hc).mpr c2
      have h3 := ch_pr 0 (by decide) (c - 65) (by omega)
      rw [← ch_sub c hc c2.1, show 4 * 0 + (c - 65 + 1) = c - 64 by omega] at h3
      have h4 : isPr (c - 64) = true := by
        obtain ⟨d, rfl⟩ : ∃ d, c = d + 65 := ⟨c - 65, by omega⟩
        exact pr1 d (by omega)
      exact ⟨fun r' h => by
        cases h
        exact ⟨(6, zz, it', le', pa', ba', fo', nI (c - 64)), ⟨rfl, h1, rfl⟩, c_Re_take_5 (Or.inr rfl) (c_Re_takeLetter_t h2.1 h2.2 h4 h3)⟩, fun h => nomatch h⟩
    · rw [if_neg c2]
      exact ⟨fun r' h => (nomatch h), fun _ => c_Re_take_5 (Or.inl rfl) (c_Re_takeLetter_f (fun h => c2 ((ch_let c hc).mp h)))⟩
  | 7, hI, hx =>
    obtain ⟨h0, h1, h2⟩ := hx
    dsimp only at h0 h1 h2
    subst h0; subst h2
    rw [rdT_7]
    have hp := isPr_bd hI
    by_cases c2 : 65 ≤ c ∧ c < 68
    · have h2 := (ch_let c hc).mpr c2
      have h3 := ch_pr pr hp.2 (c - 65) (by omega)
      rw [← ch_sub c hc c2.1, show c - 65 + 1 = c - 64 by omega] at h3
      by_cases c3 : pr < 64
      · rw [if_pos ⟨c2, c3⟩]
        have h4 : isPr (4 * pr + (c - 64)) = true := by
          obtain ⟨d, rfl⟩ : ∃ d, c = d + 65 := ⟨c - 65, by omega⟩
          exact pr4 pr c3 hI d (by omega)
        exact ⟨fun r' h => by
          cases h
          exact ⟨(6, zz, it', le', pa', ba', fo', nI (4 * pr + (c - 64))), ⟨rfl, h1, rfl⟩, c_Re_take_6t (c_Re_takeLetter_t h2.1 h2.2 h4 h3)⟩, fun h => nomatch h⟩
      · rw [if_neg (fun h => c3 h.2), if_neg (show ¬ c = 59 by omega)]
        refine ⟨fun r' h => (nomatch h), fun _ => c_Re_take_6f (c_Re_takeLetter_f2 h2.1 h2.2 (fun p hp2 e => ?_)) (c_Re_takeSemicolon_f (fun e => absurd ((ch_eq 59 (by decide) hc).mp e) (by omega)))⟩
        rw [h3] at e
        have e2 := (nI_eq (a := 4 * pr + (c - 64)) (b := p) (by omega) (by have := isPr_bd hp2; omega)).mp e
        have := isPr_bd hp2
        omega
    · rw [if_neg (fun h => c2 h.1)]
      have g := c_Re_takeLetter_f (x := nI c) (ps := nI m) (st := 6) (zz := zz) (it := it') (le := le') (pa := pa') (ba := ba') (fo := fo') (pr := nI pr) (e0 := e0) (e1 := e1) (e2 := e2) (e3 := e3) (e4 := e4) (e5 := e5) (e6 := e6) (e7 := e7) (e8 := e8) (e10 := e10) (e11 := e11) (e12 := e12) (e13 := e13) (e14 := e14) (e15 := e15) (e16 := e16) (e17 := e17) (e18 := e18) (e19 := e19) (e20 := e20) (e21 := e21) (e22 := e22) (e23 := e23) (e24 := e24) (e25 := e25) (e26 := e26) (e27 := e27) (e28 := e28) (e29 := e29) (e30 := e30) (e31 := e31) (e32 := e32) (e33 := e33) (e34 := e34) (e35 := e35) (e36 := e36) (fun h => c2 ((ch_let c hc).mp h))
      by_cases c1 : c = 59
      · rw [if_pos c1]
        subst c1
        exact ⟨fun r' h => by
          cases h
          exact ⟨(0, zz, it', le', pa', ba', fo', nI pr), ⟨rfl, h1⟩, c_Re_take_6s g (c_Re_takeSemicolon_t rfl)⟩, fun h => nomatch h⟩
      · rw [if_neg c1]
        exact ⟨fun r' h => (nomatch h), fun _ => c_Re_take_6f g (c_Re_takeSemicolon_f (fun e => c1 ((ch_eq 59 (by decide) hc).mp e)))⟩
