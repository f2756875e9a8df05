/-! ONE CALL on both sides: refused, or done; what keeps a state -/

theorem JH.mono {M : aM} {hh : aHh} {av : List Value} {hp : aH} {mc ms : Nat} {O O' : Option Value → aH → Prop} (h : JH M hh av hp mc ms O) (hO : ∀ v q, O v q → O' v q) : JH M hh av hp mc ms O' := by
  intro l hl D ca ad sz
  refine MetFree.mono (h l hl D ca ad sz) (fun _ _ q => q) (fun _ _ _ _ _ q => q) ?_
  rintro a st o t - ⟨⟨⟨v, e1, w, hp', ad', e2, h1, h2⟩, hF⟩, hL⟩
  exact ⟨⟨⟨v, e1, w, hp', ad', e2, hO _ _ h1, h2⟩, hF⟩, hL⟩
theorem ox_inj {f g : Nat → Int64} (h : ox f = ox g) : f = g := by
  unfold ox at h
  cases h
  rfl
theorem ceMo.mk {th : Int32} {m g w p P i s : Nat} {gn : Int32} {t bl : Nat} {m13 m14 m15 m16 m17 m18 m31 m36 : Int32} {m24 m25 m30 m33 m34 m35 m37 m38 m39 : Int64} : ceMo th m g w p P i s gn t bl (MOb th (nI m) (nI g) (nI w) (nI p) (nI P) (nI i) (nI s) gn (nI t) (nI bl) m13 m14 m15 m16 m17 m18 m24 m25 m30 m31 m33 m34 m35 m36 m37 m38 m39) := ⟨m13, m14, m15, m16, m17, m18, m31, m36, m24, m25, m30, m33, m34, m35, m37, m38, m39, rfl⟩
theorem LH.mk2 {th : Int32} {f : Nat → Int64} {m g w P p i s t bl : Nat} {gn : Int32} {B F T : Nat → Nat} {f3 f5 : Nat → Int64} {f36 : Nat → Int32} {e9 e10 e11 e12 e13 e15 e17 e18 e20 e22 e24 e26 e28 e30 e31 e32 e33 e34 e35 e38 e39 e40 e41 e42 e43 e44 e45 e46 e47 : va_E} (ho : Ok m g w P p i s t bl B F T) (h3 : f3 = fun j => lN (B j)) (h5 : f5 = fun j => lN (F j)) (h36 : f36 = fun j => nI ((tbF B F) j)) (hl : Lf e9 e10 e11 e12 e13 e15 e17 e18 e20 e22 e24 e26 e28 e30 e31 e32 e33 e34) (hm : Lm th m g w p P i s gn t bl e35 e38 e39 e40 e41 e42 e43 e44 e45 e46 e47) : LH th f (HP (.inr (9, [.ref 1, .ref 6, .int (nI P), .ref 7, .int (nI bl), .ref 9, .ref 10, .ref 13, .ref 18, .ref 32, .ref 33])) (.inr (8, [.ref 2, .ref 4, .int (nI m), .int (nI g), .int (nI w)])) (.inr (4, [.ref 3])) (.inl (1, 12, .inr (.inl f3))) (.inr (4, [.ref 5])) (.inl (1, 12, .inr (.inl f5))) (.inr (7, [.int (nI p), .int (nI i), .int (nI s), .int gn, .int (nI t)])) (.inr (4, [.ref 8])) (.inl (1, 60, .inr (.inl (fun j => lN (T j))))) e9 e10 e11 e12 e13 (.inr (4, [.ref 15])) e15 (.inr (4, [.ref 17])) e17 e18 (.inr (4, [.ref 20])) e20 (.inr (4, [.ref 22])) e22 (.inr (4, [.ref 24])) e24 (.inr (4, [.ref 26])) e26 (.inr (4, [.ref 28])) e28 (.inr (4, [.ref 30])) e30 e31 e32 e33 e34 e35 (.inl (0, 24, .inl f36)) (.inl (0, 60, .inl (fun j => nI (T j)))) e38 e39 e40 e41 e42 e43 e44 e45 e46 e47 (.inl (1, 1, .inr (.inl f)))) := by
  subst h3
  subst h5
  subst h36
  exact ⟨m, g, w, P, p, i, s, t, bl, gn, B, F, T, e9, e10, e11, e12, e13, e15, e17, e18, e20, e22, e24, e26, e28, e30, e31, e32, e33, e34, e35, e38, e39, e40, e41, e42, e43, e44, e45, e46, e47, ho, hl, hm, rfl⟩
theorem Wd.HP {fs gs : List Value} {e1 e2 e3 e4 e5 e6 e7 e8 e9 e10 e11 e12 e13 e14 e15 e16 e17 e18 e19 e20 e21 e22 e23 e24 e25 e26 e27 e28 e29 e30 e31 e32 e33 e34 e36 e37 e38 e39 e40 e41 e42 e43 e44 e45 e46 e47 e48 : va_E} : Wd (HP (.inr (9, fs)) e1 e2 e3 e4 e5 e6 e7 e8 e9 e10 e11 e12 e13 e14 e15 e16 e17 e18 e19 e20 e21 e22 e23 e24 e25 e26 e27 e28 e29 e30 e31 e32 e33 e34 (.inr (10, gs)) e36 e37 e38 e39 e40 e41 e42 e43 e44 e45 e46 e47 e48) := ⟨rfl, ⟨_, rfl⟩, _, rfl⟩
theorem LH.wd {th : Int32} {f : Nat → Int64} {q : aH} (h : LH th f q) : Wd q := by
  obtain ⟨m, g, w, P, p, i, s, t, bl, gn, B, F, T, e9, e10, e11, e12, e13, e15, e17, e18, e20, e22, e24, e26, e28, e30, e31, e32, e33, e34, e35, e38, e39, e40, e41, e42, e43, e44, e45, e46, e47, -, -, ⟨⟨m13, m14, m15, m16, m17, m18, m31, m36, m24, m25, m30, m33, m34, m35, m37, m38, m39, rfl⟩, -⟩, rfl⟩ := h
  exact Wd.HP
theorem up_sum {B F : Nat → Nat} {k b f : Nat} (h : ∀ j, B j + F j ≤ 10) (hs : b + f ≤ 10) (j : Nat) : va_up B k b j + va_up F k f j ≤ 10 := by
  unfold va_up
  split
  · exact hs
  · exact h j
theorem up_lt {T : Nat → Nat} {k c N : Nat} (h : ∀ j, T j < N) (hc : c < N) (j : Nat) : va_up T k c j < N := by
  unfold va_up
  split
  · exact hc
  · exact h j
theorem tb_0 : (fun _ : Nat => (0 : Int32)) = fun j => nI (tbF (fun _ => 0) (fun _ => 0) j) := by
  funext j
  unfold tbF
  split <;> rfl
theorem lt3_2 {x : Int32} : ¬ (0 ≤ x ∧ x < 3) ↔ ¬ (0 ≤ x ∧ x ≤ 2) := by
  have h : x < 3 ↔ x ≤ 2 := by
    rw [Int32.lt_iff_toInt_lt, Int32.le_iff_toInt_le, show (3 : Int32).toInt = 3 from rfl, show (2 : Int32).toInt = 2 from rfl]
    omega
  rw [h]
theorem ltm_1 {x : Int32} {m : Nat} (hm : 2 ≤ m ∧ m ≤ 4) : ¬ (0 ≤ x ∧ x < nI m) ↔ ¬ (0 ≤ x ∧ x ≤ nI m - 1) := by
  have h : x < nI m ↔ x ≤ nI m - 1 := by
    rw [show nI m - 1 = nI (m - 1) from pk_sub (a := m) (b := 1) (by omega), Int32.lt_iff_toInt_lt, Int32.le_iff_toInt_le, nI_toInt (by omega), nI_toInt (by omega)]
    omega
  rw [h]
theorem i32_in {x : Int32} (n : Nat) (hn : n < 2 ^ 31) (h0 : 0 ≤ x) (h1 : x ≤ nI n) : ∃ j : Nat, j ≤ n ∧ x = nI j := nI_of2 (nI_toInt hn) (Int32.not_lt.mpr h0) h1
theorem i32_ge1 {x : Int32} (h : 1 ≤ x) : 0 ≤ x := Int32.le_trans (by decide) h
theorem i32_in1 {x : Int32} (a n : Nat) (hn : n < 2 ^ 31) (han : a ≤ n) (h0 : nI a ≤ x) (h1 : x ≤ nI n) : ∃ j : Nat, a ≤ j ∧ j ≤ n ∧ x = nI j := by
  obtain ⟨j, hj, rfl⟩ := i32_in n hn (Int32.le_trans (nI_pos' (by omega)) h0) h1
  exact ⟨j, (nI_leI (a := a) (b := j) (by omega) (by omega)).mp h0, hj, rfl⟩
theorem i32_lever {x : Int32} (h : 0 ≤ x ∧ x < 3) : ∃ l : Nat, l < 3 ∧ x = nI l := by
  obtain ⟨l, hl, rfl⟩ := nI_of (Int32.not_lt.mpr h.1)
  exact ⟨l, (nI_ltI (a := l) (b := 3) hl (by omega)).mp h.2, rfl⟩
theorem i32_pos {x : Int32} {m : Nat} (hm : 2 ≤ m ∧ m ≤ 4) (h : 0 ≤ x ∧ x < nI m) : ∃ q : Nat, q < m ∧ x = nI q := by
  obtain ⟨q, hq, rfl⟩ := nI_of (Int32.not_lt.mpr h.1)
  exact ⟨q, (nI_ltI (a := q) (b := m) hq (by omega)).mp h.2, rfl⟩
theorem pr_or (x : Int32) : (∃ r, isPr r = true ∧ x = nI r) ∨ ∀ p, isPr p = true → x ≠ nI p := by
  by_cases h : ∃ r, isPr r = true ∧ x = nI r
  · exact Or.inl h
  · exact Or.inr (fun p hp e => h ⟨p, hp, e⟩)
theorem ld_ok {m : Nat} {T : Nat → Nat} (hm : 0 < m) (n : Nat) : ∀ (k : Nat) (r : Rd) (s : Ld), RdI m r → (∀ j, s.1 j + s.2.1 j ≤ 10) → isPr s.2.2.1 = true → s.2.2.2 < plen s.2.2.1 → (∀ j, (ldF m T n k r s).2.1 j + (ldF m T n k r s).2.2.1 j ≤ 10) ∧ isPr (ldF m T n k r s).2.2.2.1 = true ∧ (ldF m T n k r s).2.2.2.2 < plen (ldF m T n k r s).2.2.2.1 := by
  induction n with
  | zero => exact fun k r s _ h1 h2 h3 => ⟨h1, h2, h3⟩
  | succ n ih =>
    intro k r s hI h1 h2 h3
    cases hr : rdT m (T k) r with
    | none =>
      rw [show ldF m T (n + 1) k r s = (r, s) by unfold ldF; rw [hr]]
      exact ⟨h1, h2, h3⟩
    | some r' =>
      rw [ldF_some hr]
      have hI' := RdI_T hm hr hI
      obtain ⟨md, it, le, pa, ba, pr, fo⟩ := r'
      have hs : (∀ j, (ldS (md, it, le, pa, ba, pr, fo) s).1 j + (ldS (md, it, le, pa, ba, pr, fo) s).2.1 j ≤ 10) ∧ isPr (ldS (md, it, le, pa, ba, pr, fo) s).2.2.1 = true ∧ (ldS (md, it, le, pa, ba, pr, fo) s).2.2.2 < plen (ldS (md, it, le, pa, ba, pr, fo) s).2.2.1 := by
        unfold ldS
        dsimp only
        by_cases h4 : md = 4
        · subst h4
          rw [if_pos rfl]
          obtain ⟨-, -, -, -, -, h6⟩ := hI'
          exact ⟨fun j => up_sum h1 h6 j, h2, h3⟩
        · rw [if_neg h4]
          by_cases h7 : md = 7
          · subst h7
            rw [if_pos rfl]
            exact ⟨h1, hI', plen_pos _⟩
          · rw [if_neg h7]
            exact ⟨h1, h2, h3⟩
      exact ih (k + 1) _ _ hI' hs.1 hs.2.1 hs.2.2
theorem CaseI.ref {La Mo : aM} {hh : aHh} {lav mav : List Value} {hp q2 : aH} {k b : Int32} (hJ : JH La hh lav hp 1 6 (OE (some (.int k)) hp)) (hw : Wd hp) (hk : k ≠ 0) (hM : JE Mo mav hp (some (.int b)) q2) (hL : ∃ f, LH k f q2) : CaseI La Mo hh lav mav hp := by
  refine ⟨_, hJ, fun v q h => ?_⟩
  obtain ⟨rfl, rfl⟩ := h
  refine ⟨hw, k, rfl, _, hM, fun v2 q2 h2 => ?_⟩
  obtain ⟨rfl, rfl⟩ := h2
  obtain ⟨f, hL⟩ := hL
  exact ⟨b, rfl, f, hL, fun c => absurd c hk⟩
theorem CaseL.ref {La Mo : aM} {hh : aHh} {lav mav : List Value} {hp q2 : aH} {k : Int32} {b : Int64} (hJ : JH La hh lav hp 1 6 (OE (some (.int k)) hp)) (hw : Wd hp) (hk : k ≠ 0) (hM : JE Mo mav hp (some (.long b)) q2) (hL : ∃ f, LH k f q2) : CaseL La Mo hh lav mav hp := by
  refine ⟨_, hJ, fun v q h => ?_⟩
  obtain ⟨rfl, rfl⟩ := h
  refine ⟨hw, k, rfl, _, hM, fun v2 q2 h2 => ?_⟩
  obtain ⟨rfl, rfl⟩ := h2
  obtain ⟨f, hL⟩ := hL
  exact ⟨b, rfl, f, hL, fun c => absurd c hk⟩
def OkOI (O : Option Value → aH → Prop) : Option Value → aH → Prop := fun v q => ∃ (y0 : Int32) (q1 : aH) (f : Nat → Int64), O (some (.int y0)) q1 ∧ hg q1 48 = some (ox f) ∧ v = some (.int 0) ∧ q = q1.set 48 (ox (vp_updL f 0 y0.toInt64))
def OkOL (O : Option Value → aH → Prop) : Option Value → aH → Prop := fun v q => ∃ (y0 : Int64) (q1 : aH) (f : Nat → Int64), O (some (.long y0)) q1 ∧ hg q1 48 = some (ox f) ∧ v = some (.int 0) ∧ q = q1.set 48 (ox (vp_updL f 0 y0))
theorem CaseI.ok {La Mo : aM} {hh : aHh} {lav mav : List Value} {hp : aH} {O : Option Value → aH → Prop} (hJ : JH La hh lav hp 1 6 (OkOI O)) (hA : ∀ (y0 : Int32) (q1 : aH) (f : Nat → Int64), O (some (.int y0)) q1 → hg q1 48 = some (ox f) → Wd (q1.set 48 (ox (vp_updL f 0 y0.toInt64))) ∧ ∃ O2, JM Mo mav (q1.set 48 (ox (vp_updL f 0 y0.toInt64))) 0 0 O2 ∧ ∀ v2 q2, O2 v2 q2 → v2 = some (.int y0) ∧ LH 0 (vp_updL f 0 y0.toInt64) q2) : CaseI La Mo hh lav mav hp := by
  refine ⟨_, hJ, fun v q h => ?_⟩
  obtain ⟨y0, q1, f, h1, h2, rfl, rfl⟩ := h
  obtain ⟨hw, O2, hM, hB⟩ := hA y0 q1 f h1 h2
  refine ⟨hw, 0, rfl, O2, hM, fun v2 q2 h2 => ?_⟩
  obtain ⟨rfl, hL⟩ := hB v2 q2 h2
  exact ⟨y0, rfl, _, hL, fun _ => updL_0 _ _⟩
theorem CaseL.ok {La Mo : aM} {hh : aHh} {lav mav : List Value} {hp : aH} {O : Option Value → aH → Prop} (hJ : JH La hh lav hp 1 6 (OkOL O)) (hA : ∀ (y0 : Int64) (q1 : aH) (f : Nat → Int64), O (some (.long y0)) q1 → hg q1 48 = some (ox f) → Wd (q1.set 48 (ox (vp_updL f 0 y0))) ∧ ∃ O2, JM Mo mav (q1.set 48 (ox (vp_updL f 0 y0))) 0 0 O2 ∧ ∀ v2 q2, O2 v2 q2 → v2 = some (.long y0) ∧ LH 0 (vp_updL f 0 y0) q2) : CaseL La Mo hh lav mav hp := by
  refine ⟨_, hJ, fun v q h => ?_⟩
  obtain ⟨y0, q1, f, h1, h2, rfl, rfl⟩ := h
  obtain ⟨hw, O2, hM, hB⟩ := hA y0 q1 f h1 h2
  refine ⟨hw, 0, rfl, O2, hM, fun v2 q2 h2 => ?_⟩
  obtain ⟨rfl, hL⟩ := hB v2 q2 h2
  exact ⟨y0, rfl, _, hL, fun _ => updL_0 _ _⟩

theorem okh_begin {hp : aH} {x : Int32} {fs : List Value} {O : Option Value → aH → Prop} (hrc : hp[0]? = some (.inr (9, fs))) (hM : JM M_F_begin [.ref 0, .int x] hp 0 0 O) (hO : ∀ v q, O v q → q.length = hp.length ∧ ∃ (y0 : Int32) (f : Nat → Int64), v = some (.int y0) ∧ hg q 48 = some (ox f)) : JH M_La_begin [(0, 9, 12, 13)] [.ref 0, .int x, .ref 48] hp 1 6 (OkOI O) := by
  refine JH.mono (hL_begin hrc (JMX.ofM (X := fun _ _ => False) hM) (Nat.zero_le _) (Nat.zero_le _) hO (fun _ _ h => h.elim)) (fun v q h => ?_)
  rcases h with h | ⟨E, h, -⟩
  · exact h
  · exact h.elim

theorem rf_begin_IAE {hp : aH} {x : Int32} {fs : List Value} (hrc : hp[0]? = some (.inr (9, fs))) (hM : JMX M_F_begin [.ref 0, .int x] hp 1 6 NO (XE "java/lang/IllegalArgumentException" hp)) : JH M_La_begin [(0, 9, 12, 13)] [.ref 0, .int x, .ref 48] hp 1 6 (OE (some (.int 1)) hp) := by
  refine JH.mono (hL_begin hrc hM (Nat.le_refl _) (Nat.le_refl _) (fun _ _ h => h.elim) (fun _ _ h => h.1)) (fun v q h => ?_)
  rcases h with ⟨y0, q1, f, h, -⟩ | ⟨E, h, h2⟩
  · exact h.elim
  · obtain ⟨rfl, rfl⟩ := h
    obtain ⟨-, rfl⟩ := h2
    exact ⟨rfl, rfl⟩

theorem okh_setTable {hp : aH} {x y u z : Int32} {fs : List Value} {O : Option Value → aH → Prop} (hrc : hp[0]? = some (.inr (9, fs))) (hM : JM M_F_setTable [.ref 0, .int x, .int y, .int u, .int z] hp 0 0 O) (hO : ∀ v q, O v q → q.length = hp.length ∧ ∃ (y0 : Int32) (f : Nat → Int64), v = some (.int y0) ∧ hg q 48 = some (ox f)) : JH M_La_setTable [(0, 14, 17, 19), (0, 14, 21, 13)] [.ref 0, .int x, .int y, .int u, .int z, .ref 48] hp 1 6 (OkOI O) := by
  refine JH.mono (hL_setTable hrc (JMX.ofM (X := fun _ _ => False) hM) (Nat.zero_le _) (Nat.zero_le _) hO (fun _ _ h => h.elim)) (fun v q h => ?_)
  rcases h with h | ⟨E, h, -⟩
  · exact h
  · exact h.elim

theorem rf_setTable_IOE {hp : aH} {x y u z : Int32} {fs : List Value} (hrc : hp[0]? = some (.inr (9, fs))) (hM : JMX M_F_setTable [.ref 0, .int x, .int y, .int u, .int z] hp 1 6 NO (XE "java/lang/IndexOutOfBoundsException" hp)) : JH M_La_setTable [(0, 14, 17, 19), (0, 14, 21, 13)] [.ref 0, .int x, .int y, .int u, .int z, .ref 48] hp 1 6 (OE (some (.int 1)) hp) := by
  refine JH.mono (hL_setTable hrc hM (Nat.le_refl _) (Nat.le_refl _) (fun _ _ h => h.elim) (fun _ _ h => Or.inl h.1)) (fun v q h => ?_)
  rcases h with ⟨y0, q1, f, h, -⟩ | ⟨E, h, h2⟩
  · exact h.elim
  · obtain ⟨rfl, rfl⟩ := h
    rcases h2 with h2 | h2
    · obtain ⟨-, rfl⟩ := h2
      exact ⟨rfl, rfl⟩
    · exact absurd h2.1 (by decide)

theorem rf_setTable_IAE {hp : aH} {x y u z : Int32} {fs : List Value} (hrc : hp[0]? = some (.inr (9, fs))) (hM : JMX M_F_setTable [.ref 0, .int x, .int y, .int u, .int z] hp 1 6 NO (XE "java/lang/IllegalArgumentException" hp)) : JH M_La_setTable [(0, 14, 17, 19), (0, 14, 21, 13)] [.ref 0, .int x, .int y, .int u, .int z, .ref 48] hp 1 6 (OE (some (.int 2)) hp) := by
  refine JH.mono (hL_setTable hrc hM (Nat.le_refl _) (Nat.le_refl _) (fun _ _ h => h.elim) (fun _ _ h => Or.inr h.1)) (fun v q h => ?_)
  rcases h with ⟨y0, q1, f, h, -⟩ | ⟨E, h, h2⟩
  · exact h.elim
  · obtain ⟨rfl, rfl⟩ := h
    rcases h2 with h2 | h2
    · exact absurd h2.1 (by decide)
    · obtain ⟨-, rfl⟩ := h2
      exact ⟨rfl, rfl⟩

theorem okh_gear {hp : aH} {x y : Int32} {fs : List Value} {O : Option Value → aH → Prop} (hrc : hp[0]? = some (.inr (9, fs))) (hM : JM M_F_gear [.ref 0, .int x, .int y] hp 0 0 O) (hO : ∀ v q, O v q → q.length = hp.length ∧ ∃ (y0 : Int32) (f : Nat → Int64), v = some (.int y0) ∧ hg q 48 = some (ox f)) : JH M_La_gear [(0, 10, 13, 19)] [.ref 0, .int x, .int y, .ref 48] hp 1 6 (OkOI O) := by
  refine JH.mono (hL_gear hrc (JMX.ofM (X := fun _ _ => False) hM) (Nat.zero_le _) (Nat.zero_le _) hO (fun _ _ h => h.elim)) (fun v q h => ?_)
  rcases h with h | ⟨E, h, -⟩
  · exact h
  · exact h.elim

theorem rf_gear_IOE {hp : aH} {x y : Int32} {fs : List Value} (hrc : hp[0]? = some (.inr (9, fs))) (hM : JMX M_F_gear [.ref 0, .int x, .int y] hp 1 6 NO (XE "java/lang/IndexOutOfBoundsException" hp)) : JH M_La_gear [(0, 10, 13, 19)] [.ref 0, .int x, .int y, .ref 48] hp 1 6 (OE (some (.int 1)) hp) := by
  refine JH.mono (hL_gear hrc hM (Nat.le_refl _) (Nat.le_refl _) (fun _ _ h => h.elim) (fun _ _ h => h.1)) (fun v q h => ?_)
  rcases h with ⟨y0, q1, f, h, -⟩ | ⟨E, h, h2⟩
  · exact h.elim
  · obtain ⟨rfl, rfl⟩ := h
    obtain ⟨-, rfl⟩ := h2
    exact ⟨rfl, rfl⟩

theorem okh_pawl {hp : aH} {x y : Int32} {fs : List Value} {O : Option Value → aH → Prop} (hrc : hp[0]? = some (.inr (9, fs))) (hM : JM M_F_pawl [.ref 0, .int x, .int y] hp 0 0 O) (hO : ∀ v q, O v q → q.length = hp.length ∧ ∃ (y0 : Int32) (f : Nat → Int64), v = some (.int y0) ∧ hg q 48 = some (ox f)) : JH M_La_pawl [(0, 10, 13, 19)] [.ref 0, .int x, .int y, .ref 48] hp 1 6 (OkOI O) := by
  refine JH.mono (hL_pawl hrc (JMX.ofM (X := fun _ _ => False) hM) (Nat.zero_le _) (Nat.zero_le _) hO (fun _ _ h => h.elim)) (fun v q h => ?_)
  rcases h with h | ⟨E, h, -⟩
  · exact h
  · exact h.elim

theorem rf_pawl_IOE {hp : aH} {x y : Int32} {fs : List Value} (hrc : hp[0]? = some (.inr (9, fs))) (hM : JMX M_F_pawl [.ref 0, .int x, .int y] hp 1 6 NO (XE "java/lang/IndexOutOfBoundsException" hp)) : JH M_La_pawl [(0, 10, 13, 19)] [.ref 0, .int x, .int y, .ref 48] hp 1 6 (OE (some (.int 1)) hp) := by
  refine JH.mono (hL_pawl hrc hM (Nat.le_refl _) (Nat.le_refl _) (fun _ _ h => h.elim) (fun _ _ h => h.1)) (fun v q h => ?_)
  rcases h with ⟨y0, q1, f, h, -⟩ | ⟨E, h, h2⟩
  · exact h.elim
  · obtain ⟨rfl, rfl⟩ := h
    obtain ⟨-, rfl⟩ := h2
    exact ⟨rfl, rfl⟩

theorem okh_setProgram {hp : aH} {x : Int32} {fs : List Value} {O : Option Value → aH → Prop} (hrc : hp[0]? = some (.inr (9, fs))) (hM : JM M_F_setProgram [.ref 0, .int x] hp 0 0 O) (hO : ∀ v q, O v q → q.length = hp.length ∧ ∃ (y0 : Int32) (f : Nat → Int64), v = some (.int y0) ∧ hg q 48 = some (ox f)) : JH M_La_setProgram [(0, 9, 12, 13)] [.ref 0, .int x, .ref 48] hp 1 6 (OkOI O) := by
  refine JH.mono (hL_setProgram hrc (JMX.ofM (X := fun _ _ => False) hM) (Nat.zero_le _) (Nat.zero_le _) hO (fun _ _ h => h.elim)) (fun v q h => ?_)
  rcases h with h | ⟨E, h, -⟩
  · exact h
  · exact h.elim

theorem rf_setProgram_IAE {hp : aH} {x : Int32} {fs : List Value} (hrc : hp[0]? = some (.inr (9, fs))) (hM : JMX M_F_setProgram [.ref 0, .int x] hp 1 6 NO (XE "java/lang/IllegalArgumentException" hp)) : JH M_La_setProgram [(0, 9, 12, 13)] [.ref 0, .int x, .ref 48] hp 1 6 (OE (some (.int 1)) hp) := by
  refine JH.mono (hL_setProgram hrc hM (Nat.le_refl _) (Nat.le_refl _) (fun _ _ h => h.elim) (fun _ _ h => h.1)) (fun v q h => ?_)
  rcases h with ⟨y0, q1, f, h, -⟩ | ⟨E, h, h2⟩
  · exact h.elim
  · obtain ⟨rfl, rfl⟩ := h
    obtain ⟨-, rfl⟩ := h2
    exact ⟨rfl, rfl⟩

theorem okh_restart {hp : aH} {x y : Int32} {fs : List Value} {O : Option Value → aH → Prop} (hrc : hp[0]? = some (.inr (9, fs))) (hM : JM M_F_restart [.ref 0, .int x, .int y] hp 0 0 O) (hO : ∀ v q, O v q → q.length = hp.length ∧ ∃ (y0 : Int32) (f : Nat → Int64), v = some (.int y0) ∧ hg q 48 = some (ox f)) : JH M_La_restart [(0, 10, 13, 19), (0, 10, 17, 13)] [.ref 0, .int x, .int y, .ref 48] hp 1 6 (OkOI O) := by
  refine JH.mono (hL_restart hrc (JMX.ofM (X := fun _ _ => False) hM) (Nat.zero_le _) (Nat.zero_le _) hO (fun _ _ h => h.elim)) (fun v q h => ?_)
  rcases h with h | ⟨E, h, -⟩
  · exact h
  · exact h.elim

theorem rf_restart_IOE {hp : aH} {x y : Int32} {fs : List Value} (hrc : hp[0]? = some (.inr (9, fs))) (hM : JMX M_F_restart [.ref 0, .int x, .int y] hp 1 6 NO (XE "java/lang/IndexOutOfBoundsException" hp)) : JH M_La_restart [(0, 10, 13, 19), (0, 10, 17, 13)] [.ref 0, .int x, .int y, .ref 48] hp 1 6 (OE (some (.int 1)) hp) := by
  refine JH.mono (hL_restart hrc hM (Nat.le_refl _) (Nat.le_refl _) (fun _ _ h => h.elim) (fun _ _ h => Or.inl h.1)) (fun v q h => ?_)
  rcases h with ⟨y0, q1, f, h, -⟩ | ⟨E, h, h2⟩
  · exact h.elim
  · obtain ⟨rfl, rfl⟩ := h
    rcases h2 with h2 | h2
    · obtain ⟨-, rfl⟩ := h2
      exact ⟨rfl, rfl⟩
    · exact absurd h2.1 (by decide)

theorem rf_restart_IAE {hp : aH} {x y : Int32} {fs : List Value} (hrc : hp[0]? = some (.inr (9, fs))) (hM : JMX M_F_restart [.ref 0, .int x, .int y] hp 1 6 NO (XE "java/lang/IllegalArgumentException" hp)) : JH M_La_restart [(0, 10, 13, 19), (0, 10, 17, 13)] [.ref 0, .int x, .int y, .ref 48] hp 1 6 (OE (some (.int 2)) hp) := by
  refine JH.mono (hL_restart hrc hM (Nat.le_refl _) (Nat.le_refl _) (fun _ _ h => h.elim) (fun _ _ h => Or.inr h.1)) (fun v q h => ?_)
  rcases h with ⟨y0, q1, f, h, -⟩ | ⟨E, h, h2⟩
  · exact h.elim
  · obtain ⟨rfl, rfl⟩ := h
    rcases h2 with h2 | h2
    · exact absurd h2.1 (by decide)
    · obtain ⟨-, rfl⟩ := h2
      exact ⟨rfl, rfl⟩

theorem okh_run {hp : aH} {x : Int32} {fs : List Value} {O : Option Value → aH → Prop} (hrc : hp[0]? = some (.inr (9, fs))) (hM : JM M_F_run [.ref 0, .int x] hp 0 0 O) (hO : ∀ v q, O v q → q.length = hp.length ∧ ∃ (y0 : Int32) (f : Nat → Int64), v = some (.int y0) ∧ hg q 48 = some (ox f)) : JH M_La_run [(0, 9, 12, 13), (0, 9, 15, 38)] [.ref 0, .int x, .ref 48] hp 1 6 (OkOI O) := by
  refine JH.mono (hL_run hrc (JMX.ofM (X := fun _ _ => False) hM) (Nat.zero_le _) (Nat.zero_le _) hO (fun _ _ h => h.elim)) (fun v q h => ?_)
  rcases h with h | ⟨E, h, -⟩
  · exact h
  · exact h.elim

theorem rf_run_IAE {hp : aH} {x : Int32} {fs : List Value} (hrc : hp[0]? = some (.inr (9, fs))) (hM : JMX M_F_run [.ref 0, .int x] hp 1 6 NO (XE "java/lang/IllegalArgumentException" hp)) : JH M_La_run [(0, 9, 12, 13), (0, 9, 15, 38)] [.ref 0, .int x, .ref 48] hp 1 6 (OE (some (.int 1)) hp) := by
  refine JH.mono (hL_run hrc hM (Nat.le_refl _) (Nat.le_refl _) (fun _ _ h => h.elim) (fun _ _ h => Or.inl h.1)) (fun v q h => ?_)
  rcases h with ⟨y0, q1, f, h, -⟩ | ⟨E, h, h2⟩
  · exact h.elim
  · obtain ⟨rfl, rfl⟩ := h
    rcases h2 with h2 | h2
    · obtain ⟨-, rfl⟩ := h2
      exact ⟨rfl, rfl⟩
    · exact absurd h2.1 (by decide)

theorem rf_run_ISE {hp : aH} {x : Int32} {fs : List Value} (hrc : hp[0]? = some (.inr (9, fs))) (hM : JMX M_F_run [.ref 0, .int x] hp 1 6 NO (XE "java/lang/IllegalStateException" hp)) : JH M_La_run [(0, 9, 12, 13), (0, 9, 15, 38)] [.ref 0, .int x, .ref 48] hp 1 6 (OE (some (.int 2)) hp) := by
  refine JH.mono (hL_run hrc hM (Nat.le_refl _) (Nat.le_refl _) (fun _ _ h => h.elim) (fun _ _ h => Or.inr h.1)) (fun v q h => ?_)
  rcases h with ⟨y0, q1, f, h, -⟩ | ⟨E, h, h2⟩
  · exact h.elim
  · obtain ⟨rfl, rfl⟩ := h
    rcases h2 with h2 | h2
    · exact absurd h2.1 (by decide)
    · obtain ⟨-, rfl⟩ := h2
      exact ⟨rfl, rfl⟩

theorem okh_append {hp : aH} {x : Int32} {fs : List Value} {O : Option Value → aH → Prop} (hrc : hp[0]? = some (.inr (9, fs))) (hM : JM M_F_append [.ref 0, .int x] hp 0 0 O) (hO : ∀ v q, O v q → q.length = hp.length ∧ ∃ (y0 : Int32) (f : Nat → Int64), v = some (.int y0) ∧ hg q 48 = some (ox f)) : JH M_La_append [(0, 9, 12, 13), (0, 9, 15, 38)] [.ref 0, .int x, .ref 48] hp 1 6 (OkOI O) := by
  refine JH.mono (hL_append hrc (JMX.ofM (X := fun _ _ => False) hM) (Nat.zero_le _) (Nat.zero_le _) hO (fun _ _ h => h.elim)) (fun v q h => ?_)
  rcases h with h | ⟨E, h, -⟩
  · exact h
  · exact h.elim

theorem rf_append_IAE {hp : aH} {x : Int32} {fs : List Value} (hrc : hp[0]? = some (.inr (9, fs))) (hM : JMX M_F_append [.ref 0, .int x] hp 1 6 NO (XE "java/lang/IllegalArgumentException" hp)) : JH M_La_append [(0, 9, 12, 13), (0, 9, 15, 38)] [.ref 0, .int x, .ref 48] hp 1 6 (OE (some (.int 1)) hp) := by
  refine JH.mono (hL_append hrc hM (Nat.le_refl _) (Nat.le_refl _) (fun _ _ h => h.elim) (fun _ _ h => Or.inl h.1)) (fun v q h => ?_)
  rcases h with ⟨y0, q1, f, h, -⟩ | ⟨E, h, h2⟩
  · exact h.elim
  · obtain ⟨rfl, rfl⟩ := h
    rcases h2 with h2 | h2
    · obtain ⟨-, rfl⟩ := h2
      exact ⟨rfl, rfl⟩
    · exact absurd h2.1 (by decide)

theorem rf_append_ISE {hp : aH} {x : Int32} {fs : List Value} (hrc : hp[0]? = some (.inr (9, fs))) (hM : JMX M_F_append [.ref 0, .int x] hp 1 6 NO (XE "java/lang/IllegalStateException" hp)) : JH M_La_append [(0, 9, 12, 13), (0, 9, 15, 38)] [.ref 0, .int x, .ref 48] hp 1 6 (OE (some (.int 2)) hp) := by
  refine JH.mono (hL_append hrc hM (Nat.le_refl _) (Nat.le_refl _) (fun _ _ h => h.elim) (fun _ _ h => Or.inr h.1)) (fun v q h => ?_)
  rcases h with ⟨y0, q1, f, h, -⟩ | ⟨E, h, h2⟩
  · exact h.elim
  · obtain ⟨rfl, rfl⟩ := h
    rcases h2 with h2 | h2
    · exact absurd h2.1 (by decide)
    · obtain ⟨-, rfl⟩ := h2
      exact ⟨rfl, rfl⟩

theorem okh_load {hp : aH} {fs : List Value} {O : Option Value → aH → Prop} (hrc : hp[0]? = some (.inr (9, fs))) (hM : JM M_F_load [.ref 0] hp 0 0 O) (hO : ∀ v q, O v q → q.length = hp.length ∧ ∃ (y0 : Int32) (f : Nat → Int64), v = some (.int y0) ∧ hg q 48 = some (ox f)) : JH M_La_load [(0, 8, 11, 13)] [.ref 0, .ref 48] hp 1 6 (OkOI O) := by
  refine JH.mono (hL_load hrc (JMX.ofM (X := fun _ _ => False) hM) (Nat.zero_le _) (Nat.zero_le _) hO (fun _ _ h => h.elim)) (fun v q h => ?_)
  rcases h with h | ⟨E, h, -⟩
  · exact h
  · exact h.elim

theorem rf_load_IAE {hp : aH} {fs : List Value} (hrc : hp[0]? = some (.inr (9, fs))) (hM : JMX M_F_load [.ref 0] hp 1 6 NO (XE "java/lang/IllegalArgumentException" hp)) : JH M_La_load [(0, 8, 11, 13)] [.ref 0, .ref 48] hp 1 6 (OE (some (.int 1)) hp) := by
  refine JH.mono (hL_load hrc hM (Nat.le_refl _) (Nat.le_refl _) (fun _ _ h => h.elim) (fun _ _ h => h.1)) (fun v q h => ?_)
  rcases h with ⟨y0, q1, f, h, -⟩ | ⟨E, h, h2⟩
  · exact h.elim
  · obtain ⟨rfl, rfl⟩ := h
    obtain ⟨-, rfl⟩ := h2
    exact ⟨rfl, rfl⟩

theorem okh_cycle {hp : aH} {x : Int32} {fs : List Value} {O : Option Value → aH → Prop} (hrc : hp[0]? = some (.inr (9, fs))) (hM : JM M_F_cycle [.ref 0, .int x] hp 0 0 O) (hO : ∀ v q, O v q → q.length = hp.length ∧ ∃ (y0 : Int32) (f : Nat → Int64), v = some (.int y0) ∧ hg q 48 = some (ox f)) : JH M_La_cycle [(0, 9, 12, 13)] [.ref 0, .int x, .ref 48] hp 1 6 (OkOI O) := by
  refine JH.mono (hL_cycle hrc (JMX.ofM (X := fun _ _ => False) hM) (Nat.zero_le _) (Nat.zero_le _) hO (fun _ _ h => h.elim)) (fun v q h => ?_)
  rcases h with h | ⟨E, h, -⟩
  · exact h
  · exact h.elim

theorem rf_cycle_IAE {hp : aH} {x : Int32} {fs : List Value} (hrc : hp[0]? = some (.inr (9, fs))) (hM : JMX M_F_cycle [.ref 0, .int x] hp 1 6 NO (XE "java/lang/IllegalArgumentException" hp)) : JH M_La_cycle [(0, 9, 12, 13)] [.ref 0, .int x, .ref 48] hp 1 6 (OE (some (.int 1)) hp) := by
  refine JH.mono (hL_cycle hrc hM (Nat.le_refl _) (Nat.le_refl _) (fun _ _ h => h.elim) (fun _ _ h => h.1)) (fun v q h => ?_)
  rcases h with ⟨y0, q1, f, h, -⟩ | ⟨E, h, h2⟩
  · exact h.elim
  · obtain ⟨rfl, rfl⟩ := h
    obtain ⟨-, rfl⟩ := h2
    exact ⟨rfl, rfl⟩

theorem okh_chance {hp : aH} {x y : Int32} {fs : List Value} {O : Option Value → aH → Prop} (hrc : hp[0]? = some (.inr (9, fs))) (hM : JM M_F_chance [.ref 0, .int x, .int y] hp 0 0 O) (hO : ∀ v q, O v q → q.length = hp.length ∧ ∃ (y0 : Int64) (f : Nat → Int64), v = some (.long y0) ∧ hg q 48 = some (ox f)) : JH M_La_chance [(0, 9, 12, 13), (0, 9, 16, 19)] [.ref 0, .int x, .int y, .ref 48] hp 1 6 (OkOL O) := by
  refine JH.mono (hL_chance hrc (JMX.ofM (X := fun _ _ => False) hM) (Nat.zero_le _) (Nat.zero_le _) hO (fun _ _ h => h.elim)) (fun v q h => ?_)
  rcases h with h | ⟨E, h, -⟩
  · exact h
  · exact h.elim

theorem rf_chance_IAE {hp : aH} {x y : Int32} {fs : List Value} (hrc : hp[0]? = some (.inr (9, fs))) (hM : JMX M_F_chance [.ref 0, .int x, .int y] hp 1 6 NO (XE "java/lang/IllegalArgumentException" hp)) : JH M_La_chance [(0, 9, 12, 13), (0, 9, 16, 19)] [.ref 0, .int x, .int y, .ref 48] hp 1 6 (OE (some (.int 1)) hp) := by
  refine JH.mono (hL_chance hrc hM (Nat.le_refl _) (Nat.le_refl _) (fun _ _ h => h.elim) (fun _ _ h => Or.inl h.1)) (fun v q h => ?_)
  rcases h with ⟨y0, q1, f, h, -⟩ | ⟨E, h, h2⟩
  · exact h.elim
  · obtain ⟨rfl, rfl⟩ := h
    rcases h2 with h2 | h2
    · obtain ⟨-, rfl⟩ := h2
      exact ⟨rfl, rfl⟩
    · exact absurd h2.1 (by decide)

theorem rf_chance_IOE {hp : aH} {x y : Int32} {fs : List Value} (hrc : hp[0]? = some (.inr (9, fs))) (hM : JMX M_F_chance [.ref 0, .int x, .int y] hp 1 6 NO (XE "java/lang/IndexOutOfBoundsException" hp)) : JH M_La_chance [(0, 9, 12, 13), (0, 9, 16, 19)] [.ref 0, .int x, .int y, .ref 48] hp 1 6 (OE (some (.int 2)) hp) := by
  refine JH.mono (hL_chance hrc hM (Nat.le_refl _) (Nat.le_refl _) (fun _ _ h => h.elim) (fun _ _ h => Or.inr h.1)) (fun v q h => ?_)
  rcases h with ⟨y0, q1, f, h, -⟩ | ⟨E, h, h2⟩
  · exact h.elim
  · obtain ⟨rfl, rfl⟩ := h
    rcases h2 with h2 | h2
    · exact absurd h2.1 (by decide)
    · obtain ⟨-, rfl⟩ := h2
      exact ⟨rfl, rfl⟩

theorem okh_chanceOfGain {hp : aH} {x y : Int32} {fs : List Value} {O : Option Value → aH → Prop} (hrc : hp[0]? = some (.inr (9, fs))) (hM : JM M_F_chanceOfGain [.ref 0, .int x, .int y] hp 0 0 O) (hO : ∀ v q, O v q → q.length = hp.length ∧ ∃ (y0 : Int64) (f : Nat → Int64), v = some (.long y0) ∧ hg q 48 = some (ox f)) : JH M_La_chanceOfGain [(0, 9, 12, 13)] [.ref 0, .int x, .int y, .ref 48] hp 1 6 (OkOL O) := by
  refine JH.mono (hL_chanceOfGain hrc (JMX.ofM (X := fun _ _ => False) hM) (Nat.zero_le _) (Nat.zero_le _) hO (fun _ _ h => h.elim)) (fun v q h => ?_)
  rcases h with h | ⟨E, h, -⟩
  · exact h
  · exact h.elim

theorem rf_chanceOfGain_IAE {hp : aH} {x y : Int32} {fs : List Value} (hrc : hp[0]? = some (.inr (9, fs))) (hM : JMX M_F_chanceOfGain [.ref 0, .int x, .int y] hp 1 6 NO (XE "java/lang/IllegalArgumentException" hp)) : JH M_La_chanceOfGain [(0, 9, 12, 13)] [.ref 0, .int x, .int y, .ref 48] hp 1 6 (OE (some (.int 1)) hp) := by
  refine JH.mono (hL_chanceOfGain hrc hM (Nat.le_refl _) (Nat.le_refl _) (fun _ _ h => h.elim) (fun _ _ h => h.1)) (fun v q h => ?_)
  rcases h with ⟨y0, q1, f, h, -⟩ | ⟨E, h, h2⟩
  · exact h.elim
  · obtain ⟨rfl, rfl⟩ := h
    obtain ⟨-, rfl⟩ := h2
    exact ⟨rfl, rfl⟩

theorem okh_game {hp : aH} {x y u z : Int32} {fs : List Value} {O : Option Value → aH → Prop} (hrc : hp[0]? = some (.inr (9, fs))) (hM : JM M_F_game [.ref 0, .int x, .int y, .int u, .int z] hp 0 0 O) (hO : ∀ v q, O v q → q.length = hp.length ∧ ∃ (y0 : Int64) (f : Nat → Int64), v = some (.long y0) ∧ hg q 48 = some (ox f)) : JH M_La_game [(0, 13, 16, 13)] [.ref 0, .int x, .int y, .int u, .int z, .ref 48] hp 1 6 (OkOL O) := by
  refine JH.mono (hL_game hrc (JMX.ofM (X := fun _ _ => False) hM) (Nat.zero_le _) (Nat.zero_le _) hO (fun _ _ h => h.elim)) (fun v q h => ?_)
  rcases h with h | ⟨E, h, -⟩
  · exact h
  · exact h.elim

theorem rf_game_IAE {hp : aH} {x y u z : Int32} {fs : List Value} (hrc : hp[0]? = some (.inr (9, fs))) (hM : JMX M_F_game [.ref 0, .int x, .int y, .int u, .int z] hp 1 6 NO (XE "java/lang/IllegalArgumentException" hp)) : JH M_La_game [(0, 13, 16, 13)] [.ref 0, .int x, .int y, .int u, .int z, .ref 48] hp 1 6 (OE (some (.int 1)) hp) := by
  refine JH.mono (hL_game hrc hM (Nat.le_refl _) (Nat.le_refl _) (fun _ _ h => h.elim) (fun _ _ h => h.1)) (fun v q h => ?_)
  rcases h with ⟨y0, q1, f, h, -⟩ | ⟨E, h, h2⟩
  · exact h.elim
  · obtain ⟨rfl, rfl⟩ := h
    obtain ⟨-, rfl⟩ := h2
    exact ⟨rfl, rfl⟩

theorem okh_average {hp : aH} {x y : Int32} {fs : List Value} {O : Option Value → aH → Prop} (hrc : hp[0]? = some (.inr (9, fs))) (hM : JM M_F_average [.ref 0, .int x, .int y] hp 0 0 O) (hO : ∀ v q, O v q → q.length = hp.length ∧ ∃ (y0 : Int64) (f : Nat → Int64), v = some (.long y0) ∧ hg q 48 = some (ox f)) : JH M_La_average [(0, 9, 12, 13)] [.ref 0, .int x, .int y, .ref 48] hp 1 6 (OkOL O) := by
  refine JH.mono (hL_average hrc (JMX.ofM (X := fun _ _ => False) hM) (Nat.zero_le _) (Nat.zero_le _) hO (fun _ _ h => h.elim)) (fun v q h => ?_)
  rcases h with h | ⟨E, h, -⟩
  · exact h
  · exact h.elim

theorem rf_average_IAE {hp : aH} {x y : Int32} {fs : List Value} (hrc : hp[0]? = some (.inr (9, fs))) (hM : JMX M_F_average [.ref 0, .int x, .int y] hp 1 6 NO (XE "java/lang/IllegalArgumentException" hp)) : JH M_La_average [(0, 9, 12, 13)] [.ref 0, .int x, .int y, .ref 48] hp 1 6 (OE (some (.int 1)) hp) := by
  refine JH.mono (hL_average hrc hM (Nat.le_refl _) (Nat.le_refl _) (fun _ _ h => h.elim) (fun _ _ h => h.1)) (fun v q h => ?_)
  rcases h with ⟨y0, q1, f, h, -⟩ | ⟨E, h, h2⟩
  · exact h.elim
  · obtain ⟨rfl, rfl⟩ := h
    obtain ⟨-, rfl⟩ := h2
    exact ⟨rfl, rfl⟩

theorem okh_share {hp : aH} {x y u : Int32} {fs : List Value} {O : Option Value → aH → Prop} (hrc : hp[0]? = some (.inr (9, fs))) (hM : JM M_F_share [.ref 0, .int x, .int y, .int u] hp 0 0 O) (hO : ∀ v q, O v q → q.length = hp.length ∧ ∃ (y0 : Int64) (f : Nat → Int64), v = some (.long y0) ∧ hg q 48 = some (ox f)) : JH M_La_share [(0, 11, 14, 19), (0, 11, 18, 13)] [.ref 0, .int x, .int y, .int u, .ref 48] hp 1 6 (OkOL O) := by
  refine JH.mono (hL_share hrc (JMX.ofM (X := fun _ _ => False) hM) (Nat.zero_le _) (Nat.zero_le _) hO (fun _ _ h => h.elim)) (fun v q h => ?_)
  rcases h with h | ⟨E, h, -⟩
  · exact h
  · exact h.elim

theorem rf_share_IOE {hp : aH} {x y u : Int32} {fs : List Value} (hrc : hp[0]? = some (.inr (9, fs))) (hM : JMX M_F_share [.ref 0, .int x, .int y, .int u] hp 1 6 NO (XE "java/lang/IndexOutOfBoundsException" hp)) : JH M_La_share [(0, 11, 14, 19), (0, 11, 18, 13)] [.ref 0, .int x, .int y, .int u, .ref 48] hp 1 6 (OE (some (.int 1)) hp) := by
  refine JH.mono (hL_share hrc hM (Nat.le_refl _) (Nat.le_refl _) (fun _ _ h => h.elim) (fun _ _ h => Or.inl h.1)) (fun v q h => ?_)
  rcases h with ⟨y0, q1, f, h, -⟩ | ⟨E, h, h2⟩
  · exact h.elim
  · obtain ⟨rfl, rfl⟩ := h
    rcases h2 with h2 | h2
    · obtain ⟨-, rfl⟩ := h2
      exact ⟨rfl, rfl⟩
    · exact absurd h2.1 (by decide)

theorem rf_share_IAE {hp : aH} {x y u : Int32} {fs : List Value} (hrc : hp[0]? = some (.inr (9, fs))) (hM : JMX M_F_share [.ref 0, .int x, .int y, .int u] hp 1 6 NO (XE "java/lang/IllegalArgumentException" hp)) : JH M_La_share [(0, 11, 14, 19), (0, 11, 18, 13)] [.ref 0, .int x, .int y, .int u, .ref 48] hp 1 6 (OE (some (.int 2)) hp) := by
  refine JH.mono (hL_share hrc hM (Nat.le_refl _) (Nat.le_refl _) (fun _ _ h => h.elim) (fun _ _ h => Or.inr h.1)) (fun v q h => ?_)
  rcases h with ⟨y0, q1, f, h, -⟩ | ⟨E, h, h2⟩
  · exact h.elim
  · obtain ⟨rfl, rfl⟩ := h
    rcases h2 with h2 | h2
    · exact absurd h2.1 (by decide)
    · obtain ⟨-, rfl⟩ := h2
      exact ⟨rfl, rfl⟩

theorem okh_classes {hp : aH} {x : Int32} {fs : List Value} {O : Option Value → aH → Prop} (hrc : hp[0]? = some (.inr (9, fs))) (hM : JM M_F_classes [.ref 0, .int x] hp 0 0 O) (hO : ∀ v q, O v q → q.length = hp.length ∧ ∃ (y0 : Int32) (f : Nat → Int64), v = some (.int y0) ∧ hg q 48 = some (ox f)) : JH M_La_classes [(0, 9, 12, 13)] [.ref 0, .int x, .ref 48] hp 1 6 (OkOI O) := by
  refine JH.mono (hL_classes hrc (JMX.ofM (X := fun _ _ => False) hM) (Nat.zero_le _) (Nat.zero_le _) hO (fun _ _ h => h.elim)) (fun v q h => ?_)
  rcases h with h | ⟨E, h, -⟩
  · exact h
  · exact h.elim

theorem rf_classes_IAE {hp : aH} {x : Int32} {fs : List Value} (hrc : hp[0]? = some (.inr (9, fs))) (hM : JMX M_F_classes [.ref 0, .int x] hp 1 6 NO (XE "java/lang/IllegalArgumentException" hp)) : JH M_La_classes [(0, 9, 12, 13)] [.ref 0, .int x, .ref 48] hp 1 6 (OE (some (.int 1)) hp) := by
  refine JH.mono (hL_classes hrc hM (Nat.le_refl _) (Nat.le_refl _) (fun _ _ h => h.elim) (fun _ _ h => h.1)) (fun v q h => ?_)
  rcases h with ⟨y0, q1, f, h, -⟩ | ⟨E, h, h2⟩
  · exact h.elim
  · obtain ⟨rfl, rfl⟩ := h
    obtain ⟨-, rfl⟩ := h2
    exact ⟨rfl, rfl⟩

theorem okh_compare {hp : aH} {x y : Int32} {fs : List Value} {O : Option Value → aH → Prop} (hrc : hp[0]? = some (.inr (9, fs))) (hM : JM M_F_compare [.ref 0, .int x, .int y] hp 0 0 O) (hO : ∀ v q, O v q → q.length = hp.length ∧ ∃ (y0 : Int32) (f : Nat → Int64), v = some (.int y0) ∧ hg q 48 = some (ox f)) : JH M_La_compare [(0, 10, 13, 13), (0, 10, 17, 38)] [.ref 0, .int x, .int y, .ref 48] hp 1 6 (OkOI O) := by
  refine JH.mono (hL_compare hrc (JMX.ofM (X := fun _ _ => False) hM) (Nat.zero_le _) (Nat.zero_le _) hO (fun _ _ h => h.elim)) (fun v q h => ?_)
  rcases h with h | ⟨E, h, -⟩
  · exact h
  · exact h.elim

theorem rf_compare_IAE {hp : aH} {x y : Int32} {fs : List Value} (hrc : hp[0]? = some (.inr (9, fs))) (hM : JMX M_F_compare [.ref 0, .int x, .int y] hp 1 6 NO (XE "java/lang/IllegalArgumentException" hp)) : JH M_La_compare [(0, 10, 13, 13), (0, 10, 17, 38)] [.ref 0, .int x, .int y, .ref 48] hp 1 6 (OE (some (.int 1)) hp) := by
  refine JH.mono (hL_compare hrc hM (Nat.le_refl _) (Nat.le_refl _) (fun _ _ h => h.elim) (fun _ _ h => Or.inl h.1)) (fun v q h => ?_)
  rcases h with ⟨y0, q1, f, h, -⟩ | ⟨E, h, h2⟩
  · exact h.elim
  · obtain ⟨rfl, rfl⟩ := h
    rcases h2 with h2 | h2
    · obtain ⟨-, rfl⟩ := h2
      exact ⟨rfl, rfl⟩
    · exact absurd h2.1 (by decide)

theorem rf_compare_ISE {hp : aH} {x y : Int32} {fs : List Value} (hrc : hp[0]? = some (.inr (9, fs))) (hM : JMX M_F_compare [.ref 0, .int x, .int y] hp 1 6 NO (XE "java/lang/IllegalStateException" hp)) : JH M_La_compare [(0, 10, 13, 13), (0, 10, 17, 38)] [.ref 0, .int x, .int y, .ref 48] hp 1 6 (OE (some (.int 2)) hp) := by
  refine JH.mono (hL_compare hrc hM (Nat.le_refl _) (Nat.le_refl _) (fun _ _ h => h.elim) (fun _ _ h => Or.inr h.1)) (fun v q h => ?_)
  rcases h with ⟨y0, q1, f, h, -⟩ | ⟨E, h, h2⟩
  · exact h.elim
  · obtain ⟨rfl, rfl⟩ := h
    rcases h2 with h2 | h2
    · exact absurd h2.1 (by decide)
    · obtain ⟨-, rfl⟩ := h2
      exact ⟨rfl, rfl⟩

theorem okh_best {hp : aH} {x y : Int32} {fs : List Value} {O : Option Value → aH → Prop} (hrc : hp[0]? = some (.inr (9, fs))) (hM : JM M_F_best [.ref 0, .int x, .int y] hp 0 0 O) (hO : ∀ v q, O v q → q.length = hp.length ∧ ∃ (y0 : Int64) (f : Nat → Int64), v = some (.long y0) ∧ hg q 48 = some (ox f)) : JH M_La_best [(0, 9, 12, 13)] [.ref 0, .int x, .int y, .ref 48] hp 1 6 (OkOL O) := by
  refine JH.mono (hL_best hrc (JMX.ofM (X := fun _ _ => False) hM) (Nat.zero_le _) (Nat.zero_le _) hO (fun _ _ h => h.elim)) (fun v q h => ?_)
  rcases h with h | ⟨E, h, -⟩
  · exact h
  · exact h.elim

theorem rf_best_IAE {hp : aH} {x y : Int32} {fs : List Value} (hrc : hp[0]? = some (.inr (9, fs))) (hM : JMX M_F_best [.ref 0, .int x, .int y] hp 1 6 NO (XE "java/lang/IllegalArgumentException" hp)) : JH M_La_best [(0, 9, 12, 13)] [.ref 0, .int x, .int y, .ref 48] hp 1 6 (OE (some (.int 1)) hp) := by
  refine JH.mono (hL_best hrc hM (Nat.le_refl _) (Nat.le_refl _) (fun _ _ h => h.elim) (fun _ _ h => h.1)) (fun v q h => ?_)
  rcases h with ⟨y0, q1, f, h, -⟩ | ⟨E, h, h2⟩
  · exact h.elim
  · obtain ⟨rfl, rfl⟩ := h
    obtain ⟨-, rfl⟩ := h2
    exact ⟨rfl, rfl⟩

theorem okh_count {hp : aH} {x : Int32} {fs : List Value} {O : Option Value → aH → Prop} (hrc : hp[0]? = some (.inr (9, fs))) (hM : JM M_F_count [.ref 0, .int x] hp 0 0 O) (hO : ∀ v q, O v q → q.length = hp.length ∧ ∃ (y0 : Int32) (f : Nat → Int64), v = some (.int y0) ∧ hg q 48 = some (ox f)) : JH M_La_count [(0, 9, 12, 13)] [.ref 0, .int x, .ref 48] hp 1 6 (OkOI O) := by
  refine JH.mono (hL_count hrc (JMX.ofM (X := fun _ _ => False) hM) (Nat.zero_le _) (Nat.zero_le _) hO (fun _ _ h => h.elim)) (fun v q h => ?_)
  rcases h with h | ⟨E, h, -⟩
  · exact h
  · exact h.elim

theorem rf_count_IAE {hp : aH} {x : Int32} {fs : List Value} (hrc : hp[0]? = some (.inr (9, fs))) (hM : JMX M_F_count [.ref 0, .int x] hp 1 6 NO (XE "java/lang/IllegalArgumentException" hp)) : JH M_La_count [(0, 9, 12, 13)] [.ref 0, .int x, .ref 48] hp 1 6 (OE (some (.int 1)) hp) := by
  refine JH.mono (hL_count hrc hM (Nat.le_refl _) (Nat.le_refl _) (fun _ _ h => h.elim) (fun _ _ h => h.1)) (fun v q h => ?_)
  rcases h with ⟨y0, q1, f, h, -⟩ | ⟨E, h, h2⟩
  · exact h.elim
  · obtain ⟨rfl, rfl⟩ := h
    obtain ⟨-, rfl⟩ := h2
    exact ⟨rfl, rfl⟩

theorem okh_table {hp : aH} {x y : Int32} {fs : List Value} {O : Option Value → aH → Prop} (hrc : hp[0]? = some (.inr (9, fs))) (hM : JM M_F_table [.ref 0, .int x, .int y] hp 0 0 O) (hO : ∀ v q, O v q → q.length = hp.length ∧ ∃ (y0 : Int32) (f : Nat → Int64), v = some (.int y0) ∧ hg q 48 = some (ox f)) : JH M_La_table [(0, 10, 13, 19)] [.ref 0, .int x, .int y, .ref 48] hp 1 6 (OkOI O) := by
  refine JH.mono (hL_table hrc (JMX.ofM (X := fun _ _ => False) hM) (Nat.zero_le _) (Nat.zero_le _) hO (fun _ _ h => h.elim)) (fun v q h => ?_)
  rcases h with h | ⟨E, h, -⟩
  · exact h
  · exact h.elim

theorem rf_table_IOE {hp : aH} {x y : Int32} {fs : List Value} (hrc : hp[0]? = some (.inr (9, fs))) (hM : JMX M_F_table [.ref 0, .int x, .int y] hp 1 6 NO (XE "java/lang/IndexOutOfBoundsException" hp)) : JH M_La_table [(0, 10, 13, 19)] [.ref 0, .int x, .int y, .ref 48] hp 1 6 (OE (some (.int 1)) hp) := by
  refine JH.mono (hL_table hrc hM (Nat.le_refl _) (Nat.le_refl _) (fun _ _ h => h.elim) (fun _ _ h => h.1)) (fun v q h => ?_)
  rcases h with ⟨y0, q1, f, h, -⟩ | ⟨E, h, h2⟩
  · exact h.elim
  · obtain ⟨rfl, rfl⟩ := h
    obtain ⟨-, rfl⟩ := h2
    exact ⟨rfl, rfl⟩
