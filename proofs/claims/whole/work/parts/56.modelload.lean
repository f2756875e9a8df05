/-! THE REFERENCE: readText, load -/
def rdAf (m : Nat) (T : Nat → Nat) : Nat → Nat → Rd → (Nat → Nat) → (Nat → Nat)
  | 0, _, _, R => R
  | n + 1, k, r, R => match rdT m (T k) r with
    | none => R
    | some r' => rdAf m T n (k + 1) r' (rdA m (T k) r R)
theorem rdAf_some {m : Nat} {T : Nat → Nat} {n k : Nat} {r r' : Rd} {R : Nat → Nat} (h : rdT m (T k) r = some r') : rdAf m T (n + 1) k r R = rdAf m T n (k + 1) r' (rdA m (T k) r R) := by
  show (match rdT m (T k) r with | none => R | some r' => rdAf m T n (k + 1) r' (rdA m (T k) r R)) = _
  rw [h]
theorem rdAf_none {m : Nat} {T : Nat → Nat} {n k : Nat} {r : Rd} {R : Nat → Nat} (h : rdT m (T k) r = none) : rdAf m T (n + 1) k r R = R := by
  show (match rdT m (T k) r with | none => R | some r' => rdAf m T n (k + 1) r' (rdA m (T k) r R)) = _
  rw [h]
/-- the first q pairs of item n, for lever l -/
def apI (l : Nat) (R : Nat → Nat) (n : Nat) : Nat → Ld → Ld
  | 0, s => s
  | q + 1, s => (va_up (apI l R n q s).1 (l * 4 + q) (R (10 * n + 1 + 2 * q)), va_up (apI l R n q s).2.1 (l * 4 + q) (R (10 * n + 2 + 2 * q)), (apI l R n q s).2.2)
def apS (m : Nat) (R : Nat → Nat) (n : Nat) (s : Ld) : Ld := if R (10 * n) = 3 then (s.1, s.2.1, R (10 * n + 1), 0) else apI (R (10 * n)) R n m s
def apF (m : Nat) (R : Nat → Nat) : Nat → Ld → Ld
  | 0, s => s
  | n + 1, s => apS m R n (apF m R n s)
theorem apI_congr {l n q : Nat} {R R' : Nat → Nat} {s : Ld} (hq : q ≤ 4) (h : ∀ j, j < 2 * q → R (10 * n + 1 + j) = R' (10 * n + 1 + j)) : apI l R n q s = apI l R' n q s := by
  induction q with
  | zero => rfl
  | succ q ih =>
    have e1 : R (10 * n + 1 + 2 * q) = R' (10 * n + 1 + 2 * q) := h (2 * q) (by omega)
    have e2 : R (10 * n + 2 + 2 * q) = R' (10 * n + 2 + 2 * q) := by
      have := h (2 * q + 1) (by omega)
      rw [show 10 * n + 2 + 2 * q = 10 * n + 1 + (2 * q + 1) by omega]
      exact this
    unfold apI
    rw [ih (by omega) (fun j hj => h j (by omega)), e1, e2]
theorem apF_congr {m n : Nat} {R R' : Nat → Nat} {s : Ld} (hm : m ≤ 4) (h : ∀ j, j < 10 * n → R j = R' j) : apF m R n s = apF m R' n s := by
  induction n with
  | zero => rfl
  | succ n ih =>
    show apS m R n (apF m R n s) = apS m R' n (apF m R' n s)
    rw [ih (fun j hj => h j (by omega))]
    unfold apS
    rw [h (10 * n) (by omega), h (10 * n + 1) (by omega), apI_congr hm (fun j hj => h (10 * n + 1 + j) (by omega))]
/-- what the items so far come to, the begun one with them -/
def paF (m : Nat) (R : Nat → Nat) (s0 : Ld) : Rd → Ld
  | (0, it, le, pa, ba, pr, fo) => apF m R it s0
  | (5, it, le, pa, ba, pr, fo) => apF m R (it - 1) s0
  | (6, it, le, pa, ba, pr, fo) => apF m R (it - 1) s0
  | (7, it, le, pa, ba, pr, fo) => ((apF m R (it - 1) s0).1, (apF m R (it - 1) s0).2.1, pr, 0)
  | (_, it, le, pa, ba, pr, fo) => apI le R (it - 1) pa (apF m R (it - 1) s0)
theorem up_ne {f : Nat → Nat} {i x j : Nat} (h : j ≠ i) : va_up f i x j = f j := if_neg h
theorem up_at {f : Nat → Nat} {i x : Nat} : va_up f i x i = x := if_pos rfl
/-- a lever's item ends -/
theorem paF_endL {m n le : Nat} {R : Nat → Nat} {s0 : Ld} (hm : m ≤ 4) (hl : le < 3) : apF m (va_up R (10 * n) le) (n + 1) s0 = apI le R n m (apF m R n s0) := by
  show apS m (va_up R (10 * n) le) n (apF m (va_up R (10 * n) le) n s0) = _
  unfold apS
  rw [up_at, if_neg (by omega), apF_congr (R' := R) hm (fun j hj => up_ne (by omega)), apI_congr (R' := R) hm (fun j hj => up_ne (by omega))]
theorem paF_endP {m n pr : Nat} {R : Nat → Nat} {s0 : Ld} (hm : m ≤ 4) : apF m (va_up (va_up R (10 * n) 3) (10 * n + 1) pr) (n + 1) s0 = ((apF m R n s0).1, (apF m R n s0).2.1, pr, 0) := by
  show apS m (va_up (va_up R (10 * n) 3) (10 * n + 1) pr) n (apF m (va_up (va_up R (10 * n) 3) (10 * n + 1) pr) n s0) = _
  unfold apS
  rw [up_ne (show 10 * n ≠ 10 * n + 1 by omega), up_at, if_pos rfl, up_at, apF_congr (R' := R) hm (fun j hj => by rw [up_ne (by omega), up_ne (by omega)])]
theorem paF_T {m c k : Nat} {r r' : Rd} {R : Nat → Nat} {s0 : Ld} (hm : m ≤ 4) (h : rdT m c r = some r') (hI : RdI m r) (hK : RdK k r) : ldS r' (paF m R s0 r) = paF m (rdA m c r R) s0 r' := by
  obtain ⟨md, it, le, pa, ba, pr, fo⟩ := r
  unfold RdK at hK
  dsimp only at hK
  match md, h, hI, hK with
  | 0, h, _, hK =>
    rw [rdT_0] at h
    split at h
    · cases h; rfl
    · split at h
      · cases h; rfl
      · cases h
  | 1, h, _, hK =>
    rw [rdT_1] at h
    split at h
    · cases h; rfl
    · cases h
  | 2, h, _, hK =>
    rw [rdT_2] at h
    split at h
    · cases h; rfl
    · cases h
  | 3, h, hI, hK =>
    rw [rdT_3] at h
    obtain ⟨i1, i2, i3⟩ := hI
    split at h
    · cases h
      have e1 : apF m (va_up (va_up R (10 * (it - 1) + 1 + 2 * pa) ba) (10 * (it - 1) + 2 + 2 * pa) (c - 48)) (it - 1) s0 = apF m R (it - 1) s0 := apF_congr hm (fun j hj => by rw [up_ne (by omega), up_ne (by omega)])
      have e2 : apI le (va_up (va_up R (10 * (it - 1) + 1 + 2 * pa) ba) (10 * (it - 1) + 2 + 2 * pa) (c - 48)) (it - 1) pa (apF m R (it - 1) s0) = apI le R (it - 1) pa (apF m R (it - 1) s0) := apI_congr (by omega) (fun j hj => by rw [up_ne (by omega), up_ne (by omega)])
      show ldS _ (apI le R (it - 1) pa (apF m R (it - 1) s0)) = apI le (va_up (va_up R (10 * (it - 1) + 1 + 2 * pa) ba) (10 * (it - 1) + 2 + 2 * pa) (c - 48)) (it - 1) (pa + 1) (apF m (va_up (va_up R (10 * (it - 1) + 1 + 2 * pa) ba) (10 * (it - 1) + 2 + 2 * pa) (c - 48)) (it - 1) s0)
      rw [e1]
      have e3 : ∀ (Q : Nat → Nat) (s : Ld), apI le Q (it - 1) (pa + 1) s = (va_up (apI le Q (it - 1) pa s).1 (le * 4 + pa) (Q (10 * (it - 1) + 1 + 2 * pa)), va_up (apI le Q (it - 1) pa s).2.1 (le * 4 + pa) (Q (10 * (it - 1) + 2 + 2 * pa)), (apI le Q (it - 1) pa s).2.2) := fun _ _ => rfl
      rw [e3, e2, up_ne (show 10 * (it - 1) + 1 + 2 * pa ≠ 10 * (it - 1) + 2 + 2 * pa by omega), up_at, up_at]
      unfold ldS
      rw [if_pos rfl]
      rfl
    · cases h
  | 4, h, hI, hK =>
    rw [rdT_4] at h
    obtain ⟨i1, i2, i3, i4⟩ := hI
    split at h
    · rename_i hp
      split at h
      · cases h
        rw [show rdA m c (4, it, le, pa, ba, pr, fo) R = R from if_pos hp]
        rfl
      · cases h
    · rename_i hp
      split at h
      · cases h
        rw [show rdA m c (4, it, le, pa, ba, pr, fo) R = va_up R (10 * (it - 1)) le from if_neg hp]
        obtain rfl : pa = m := by omega
        obtain ⟨n, rfl⟩ : ∃ n, it = n + 1 := ⟨it - 1, by omega⟩
        show apI le R n pa (apF pa R n s0) = apF pa (va_up R (10 * n) le) (n + 1) s0
        exact (paF_endL hm i1).symm
      · cases h
  | 5, h, _, hK =>
    rw [rdT_5] at h
    split at h
    · cases h; rfl
    · cases h
  | 6, h, _, hK =>
    rw [rdT_6] at h
    split at h
    · cases h; rfl
    · cases h
  | 7, h, _, hK =>
    rw [rdT_7] at h
    split at h
    · rename_i hc
      cases h
      rw [show rdA m c (7, it, le, pa, ba, pr, fo) R = R from if_neg (by omega)]
      rfl
    · split at h
      · rename_i hc
        cases h
        rw [show rdA m c (7, it, le, pa, ba, pr, fo) R = va_up (va_up R (10 * (it - 1)) 3) (10 * (it - 1) + 1) pr from if_pos hc]
        obtain ⟨n, rfl⟩ : ∃ n, it = n + 1 := ⟨it - 1, by omega⟩
        show ((apF m R n s0).1, (apF m R n s0).2.1, pr, 0) = apF m (va_up (va_up R (10 * n) 3) (10 * n + 1) pr) (n + 1) s0
        exact (paF_endP hm).symm
      · cases h
/-- a whole text: what load does at once, and what the items come to -/
theorem ldF_paF {m : Nat} {T : Nat → Nat} {s0 : Ld} (hm : 0 < m ∧ m ≤ 4) (n : Nat) : ∀ (k : Nat) (r : Rd) (R : Nat → Nat), RdI m r → RdK k r → (feF m T n k r).1 = k + n → (ldF m T n k r (paF m R s0 r)).1 = (feF m T n k r).2 ∧ (ldF m T n k r (paF m R s0 r)).2 = paF m (rdAf m T n k r R) s0 (feF m T n k r).2 ∧ RdI m (feF m T n k r).2 ∧ RdK (k + n) (feF m T n k r).2 := by
  induction n with
  | zero =>
    intro k r R hI hK _
    exact ⟨rfl, rfl, hI, hK⟩
  | succ n ih =>
    intro k r R hI hK hf
    cases h : rdT m (T k) r with
    | none =>
      rw [feF_none h] at hf
      dsimp only at hf
      omega
    | some r' =>
      rw [feF_full h] at hf ⊢
      rw [ldF_some h, rdAf_some h, paF_T hm.2 h hI hK]
      have := ih (k + 1) r' (rdA m (T k) r R) (RdI_T hm.1 h hI) (RdK_T h hI hK) (by omega)
      rw [show k + 1 + n = k + (n + 1) by omega] at this
      exact this

set_option maxRecDepth 100000 in
set_option maxHeartbeats 400000 in
theorem g_Mo_rt0 {sc : aScr} {e0 e1 e2 e3 e4 e5 e6 e7 e8 e9 e10 e11 e12 e13 e14 e15 e16 e17 e18 e19 e20 e21 e22 e23 e24 e25 e26 e27 e28 e29 e30 e31 e32 e33 e34 e36 e39 e40 e41 e42 e43 e44 e45 e46 e47 e48 : va_E} {m31 m36 th gn : Int32} {m24 m25 m30 m33 m34 m35 m37 m38 m39 : Int64} {m g w p P i s t bl : Nat} {R T : Nat → Nat} {y : M6} {kc kn : Nat} {O : Option Value → aH → Prop}  (K1 : JR M_Mo_readText sc (12, [(0, .ref 35), (1, .int 0)], [], (HP e0 e1 e2 e3 e4 e5 e6 e7 e8 e9 e10 e11 e12 e13 e14 e15 e16 e17 e18 e19 e20 e21 e22 e23 e24 e25 e26 e27 e28 e29 e30 e31 e32 e33 e34 (MOb th (nI m) (nI g) (nI w) (nI p) (nI P) (nI i) (nI s) gn (nI t) (nI bl) 0 y.2.1 y.2.2.1 y.2.2.2.1 y.2.2.2.2.1 0 m24 m25 m30 m31 m33 m34 m35 m36 m37 m38 m39) e36 (.inl (0, 60, .inl (fun j => nI (T j)))) (.inl (0, 300, .inl (fun j => nI (R j)))) e39 e40 e41 e42 e43 e44 e45 e46 e47 e48), kc, kn) O) : JR M_Mo_readText sc (0, [(0, .ref 35)], [], (HP e0 e1 e2 e3 e4 e5 e6 e7 e8 e9 e10 e11 e12 e13 e14 e15 e16 e17 e18 e19 e20 e21 e22 e23 e24 e25 e26 e27 e28 e29 e30 e31 e32 e33 e34 (MOb th (nI m) (nI g) (nI w) (nI p) (nI P) (nI i) (nI s) gn (nI t) (nI bl) y.1 y.2.1 y.2.2.1 y.2.2.2.1 y.2.2.2.2.1 y.2.2.2.2.2 m24 m25 m30 m31 m33 m34 m35 m36 m37 m38 m39) e36 (.inl (0, 60, .inl (fun j => nI (T j)))) (.inl (0, 300, .inl (fun j => nI (R j)))) e39 e40 e41 e42 e43 e44 e45 e46 e47 e48), kc, kn) O := by
  refine J.gp ok_Mo_readText 3 (5, [(0, .ref 35)], [], (HP e0 e1 e2 e3 e4 e5 e6 e7 e8 e9 e10 e11 e12 e13 e14 e15 e16 e17 e18 e19 e20 e21 e22 e23 e24 e25 e26 e27 e28 e29 e30 e31 e32 e33 e34 (MOb th (nI m) (nI g) (nI w) (nI p) (nI P) (nI i) (nI s) gn (nI t) (nI bl) 0 y.2.1 y.2.2.1 y.2.2.2.1 y.2.2.2.2.1 y.2.2.2.2.2 m24 m25 m30 m31 m33 m34 m35 m36 m37 m38 m39) e36 (.inl (0, 60, .inl (fun j => nI (T j)))) (.inl (0, 300, .inl (fun j => nI (R j)))) e39 e40 e41 e42 e43 e44 e45 e46 e47 e48), _, _) rfl ?_
  refine J.gp ok_Mo_readText 3 (10, [(0, .ref 35)], [], (HP e0 e1 e2 e3 e4 e5 e6 e7 e8 e9 e10 e11 e12 e13 e14 e15 e16 e17 e18 e19 e20 e21 e22 e23 e24 e25 e26 e27 e28 e29 e30 e31 e32 e33 e34 (MOb th (nI m) (nI g) (nI w) (nI p) (nI P) (nI i) (nI s) gn (nI t) (nI bl) 0 y.2.1 y.2.2.1 y.2.2.2.1 y.2.2.2.2.1 0 m24 m25 m30 m31 m33 m34 m35 m36 m37 m38 m39) e36 (.inl (0, 60, .inl (fun j => nI (T j)))) (.inl (0, 300, .inl (fun j => nI (R j)))) e39 e40 e41 e42 e43 e44 e45 e46 e47 e48), _, _) rfl ?_
  refine J.gp ok_Mo_readText 2 (12, [(0, .ref 35), (1, .int 0)], [], _, _, _) rfl ?_
  exact K1

set_option maxRecDepth 100000 in
set_option maxHeartbeats 400000 in
theorem g_Mo_rt1 {sc : aScr} {e0 e1 e2 e3 e4 e5 e6 e7 e8 e9 e10 e11 e12 e13 e14 e15 e16 e17 e18 e19 e20 e21 e22 e23 e24 e25 e26 e27 e28 e29 e30 e31 e32 e33 e34 e36 e39 e40 e41 e42 e43 e44 e45 e46 e47 e48 : va_E} {m31 m36 th gn : Int32} {m24 m25 m30 m33 m34 m35 m37 m38 m39 : Int64} {m g w p P i s t bl : Nat} {R T : Nat → Nat} {y : M6} {R2 : Nat → Nat} {z : M6} {k : Nat} {kc kn : Nat} {O : Option Value → aH → Prop} (hbl : bl ≤ 60) (hk : k < bl) (K9 : JE M_Mo_takes [.ref 35, .int (nI (T k))] (HP e0 e1 e2 e3 e4 e5 e6 e7 e8 e9 e10 e11 e12 e13 e14 e15 e16 e17 e18 e19 e20 e21 e22 e23 e24 e25 e26 e27 e28 e29 e30 e31 e32 e33 e34 (MOb th (nI m) (nI g) (nI w) (nI p) (nI P) (nI i) (nI s) gn (nI t) (nI bl) y.1 y.2.1 y.2.2.1 y.2.2.2.1 y.2.2.2.2.1 y.2.2.2.2.2 m24 m25 m30 m31 m33 m34 m35 m36 m37 m38 m39) e36 (.inl (0, 60, .inl (fun j => nI (T j)))) (.inl (0, 300, .inl (fun j => nI (R j)))) e39 e40 e41 e42 e43 e44 e45 e46 e47 e48) (some (.int 1)) (HP e0 e1 e2 e3 e4 e5 e6 e7 e8 e9 e10 e11 e12 e13 e14 e15 e16 e17 e18 e19 e20 e21 e22 e23 e24 e25 e26 e27 e28 e29 e30 e31 e32 e33 e34 (MOb th (nI m) (nI g) (nI w) (nI p) (nI P) (nI i) (nI s) gn (nI t) (nI bl) z.1 z.2.1 z.2.2.1 z.2.2.2.1 z.2.2.2.2.1 z.2.2.2.2.2 m24 m25 m30 m31 m33 m34 m35 m36 m37 m38 m39) e36 (.inl (0, 60, .inl (fun j => nI (T j)))) (.inl (0, 300, .inl (fun j => nI (R2 j)))) e39 e40 e41 e42 e43 e44 e45 e46 e47 e48)) (K1 : JR M_Mo_readText sc (12, [(0, .ref 35), (1, .int (nI (k + 1)))], [], (HP e0 e1 e2 e3 e4 e5 e6 e7 e8 e9 e10 e11 e12 e13 e14 e15 e16 e17 e18 e19 e20 e21 e22 e23 e24 e25 e26 e27 e28 e29 e30 e31 e32 e33 e34 (MOb th (nI m) (nI g) (nI w) (nI p) (nI P) (nI i) (nI s) gn (nI t) (nI bl) z.1 z.2.1 z.2.2.1 z.2.2.2.1 z.2.2.2.2.1 z.2.2.2.2.2 m24 m25 m30 m31 m33 m34 m35 m36 m37 m38 m39) e36 (.inl (0, 60, .inl (fun j => nI (T j)))) (.inl (0, 300, .inl (fun j => nI (R2 j)))) e39 e40 e41 e42 e43 e44 e45 e46 e47 e48), kc, kn) O) : JR M_Mo_readText sc (12, [(0, .ref 35), (1, .int (nI k))], [], (HP e0 e1 e2 e3 e4 e5 e6 e7 e8 e9 e10 e11 e12 e13 e14 e15 e16 e17 e18 e19 e20 e21 e22 e23 e24 e25 e26 e27 e28 e29 e30 e31 e32 e33 e34 (MOb th (nI m) (nI g) (nI w) (nI p) (nI P) (nI i) (nI s) gn (nI t) (nI bl) y.1 y.2.1 y.2.2.1 y.2.2.2.1 y.2.2.2.2.1 y.2.2.2.2.2 m24 m25 m30 m31 m33 m34 m35 m36 m37 m38 m39) e36 (.inl (0, 60, .inl (fun j => nI (T j)))) (.inl (0, 300, .inl (fun j => nI (R j)))) e39 e40 e41 e42 e43 e44 e45 e46 e47 e48), kc, kn) O := by
  refine J.gp ok_Mo_readText 3 (17, [(0, .ref 35), (1, .int (nI k))], [.int (nI bl), .int (nI k)], _, _, _) rfl ?_
  refine J.icF ok_Mo_readText (fun x y => y ≤ x) 39 20 rfl (fun h9 => absurd ((nI_leI (a := bl) (b := k) (by omega) (by omega)).mp h9) (by omega)) ?_
  refine J.gp ok_Mo_readText 4 (26, [(0, .ref 35), (1, .int (nI k))], [.int (nI k), .ref 37, .ref 35], _, _, _) rfl ?_
  refine J.ialdB ok_Mo_readText 27 k rfl rfl (rfl) (by omega) (by decide) ?_
  refine J.gp ok_Mo_readText 0 (27, [(0, .ref 35), (1, .int (nI k))], [.int (nI (T k)), .ref 35], (HP e0 e1 e2 e3 e4 e5 e6 e7 e8 e9 e10 e11 e12 e13 e14 e15 e16 e17 e18 e19 e20 e21 e22 e23 e24 e25 e26 e27 e28 e29 e30 e31 e32 e33 e34 (MOb th (nI m) (nI g) (nI w) (nI p) (nI P) (nI i) (nI s) gn (nI t) (nI bl) y.1 y.2.1 y.2.2.1 y.2.2.2.1 y.2.2.2.2.1 y.2.2.2.2.2 m24 m25 m30 m31 m33 m34 m35 m36 m37 m38 m39) e36 (.inl (0, 60, .inl (fun j => nI (T j)))) (.inl (0, 300, .inl (fun j => nI (R j)))) e39 e40 e41 e42 e43 e44 e45 e46 e47 e48), kc, kn) rfl ?_
  refine J.callVE s_Mo_readText_27 30 35 [.int (nI (T k))] 10 (K9) rfl rfl rfl rfl rfl (Nat.le_of_ble_eq_true rfl) rfl ?_
  refine J.gp ok_Mo_readText 0 (30, [(0, .ref 35), (1, .int (nI k))], [.int 1], (HP e0 e1 e2 e3 e4 e5 e6 e7 e8 e9 e10 e11 e12 e13 e14 e15 e16 e17 e18 e19 e20 e21 e22 e23 e24 e25 e26 e27 e28 e29 e30 e31 e32 e33 e34 (MOb th (nI m) (nI g) (nI w) (nI p) (nI P) (nI i) (nI s) gn (nI t) (nI bl) z.1 z.2.1 z.2.2.1 z.2.2.2.1 z.2.2.2.2.1 z.2.2.2.2.2 m24 m25 m30 m31 m33 m34 m35 m36 m37 m38 m39) e36 (.inl (0, 60, .inl (fun j => nI (T j)))) (.inl (0, 300, .inl (fun j => nI (R2 j)))) e39 e40 e41 e42 e43 e44 e45 e46 e47 e48), kc, kn) rfl ?_
  refine J.ifF ok_Mo_readText (fun x => x = 0) 39 33 rfl (by decide) ?_
  refine J.gp ok_Mo_readText 1 (36, [(0, .ref 35), (1, .int (nI k + 1))], [], _, _, _) rfl ?_
  rw [show ((nI k + 1) : Int32) = nI (k + 1) from nI_add k 1]
  refine J.gp ok_Mo_readText 1 (12, [(0, .ref 35), (1, .int (nI (k + 1)))], [], _, _, _) rfl ?_
  exact K1

set_option maxRecDepth 100000 in
set_option maxHeartbeats 400000 in
theorem g_Mo_rt2 {sc : aScr} {e0 e1 e2 e3 e4 e5 e6 e7 e8 e9 e10 e11 e12 e13 e14 e15 e16 e17 e18 e19 e20 e21 e22 e23 e24 e25 e26 e27 e28 e29 e30 e31 e32 e33 e34 e36 e39 e40 e41 e42 e43 e44 e45 e46 e47 e48 : va_E} {m31 m36 th gn : Int32} {m24 m25 m30 m33 m34 m35 m37 m38 m39 : Int64} {m g w p P i s t bl : Nat} {R T : Nat → Nat} {y : M6} {R2 : Nat → Nat} {z : M6} {k : Nat} {kc kn : Nat} {O : Option Value → aH → Prop} (hbl : bl ≤ 60) (hk : k < bl) (K9 : JE M_Mo_takes [.ref 35, .int (nI (T k))] (HP e0 e1 e2 e3 e4 e5 e6 e7 e8 e9 e10 e11 e12 e13 e14 e15 e16 e17 e18 e19 e20 e21 e22 e23 e24 e25 e26 e27 e28 e29 e30 e31 e32 e33 e34 (MOb th (nI m) (nI g) (nI w) (nI p) (nI P) (nI i) (nI s) gn (nI t) (nI bl) y.1 y.2.1 y.2.2.1 y.2.2.2.1 y.2.2.2.2.1 y.2.2.2.2.2 m24 m25 m30 m31 m33 m34 m35 m36 m37 m38 m39) e36 (.inl (0, 60, .inl (fun j => nI (T j)))) (.inl (0, 300, .inl (fun j => nI (R j)))) e39 e40 e41 e42 e43 e44 e45 e46 e47 e48) (some (.int 0)) (HP e0 e1 e2 e3 e4 e5 e6 e7 e8 e9 e10 e11 e12 e13 e14 e15 e16 e17 e18 e19 e20 e21 e22 e23 e24 e25 e26 e27 e28 e29 e30 e31 e32 e33 e34 (MOb th (nI m) (nI g) (nI w) (nI p) (nI P) (nI i) (nI s) gn (nI t) (nI bl) z.1 z.2.1 z.2.2.1 z.2.2.2.1 z.2.2.2.2.1 z.2.2.2.2.2 m24 m25 m30 m31 m33 m34 m35 m36 m37 m38 m39) e36 (.inl (0, 60, .inl (fun j => nI (T j)))) (.inl (0, 300, .inl (fun j => nI (R2 j)))) e39 e40 e41 e42 e43 e44 e45 e46 e47 e48)) (K1 : O (some (.int (nI k))) (HP e0 e1 e2 e3 e4 e5 e6 e7 e8 e9 e10 e11 e12 e13 e14 e15 e16 e17 e18 e19 e20 e21 e22 e23 e24 e25 e26 e27 e28 e29 e30 e31 e32 e33 e34 (MOb th (nI m) (nI g) (nI w) (nI p) (nI P) (nI i) (nI s) gn (nI t) (nI bl) z.1 z.2.1 z.2.2.1 z.2.2.2.1 z.2.2.2.2.1 z.2.2.2.2.2 m24 m25 m30 m31 m33 m34 m35 m36 m37 m38 m39) e36 (.inl (0, 60, .inl (fun j => nI (T j)))) (.inl (0, 300, .inl (fun j => nI (R2 j)))) e39 e40 e41 e42 e43 e44 e45 e46 e47 e48)) : JR M_Mo_readText sc (12, [(0, .ref 35), (1, .int (nI k))], [], (HP e0 e1 e2 e3 e4 e5 e6 e7 e8 e9 e10 e11 e12 e13 e14 e15 e16 e17 e18 e19 e20 e21 e22 e23 e24 e25 e26 e27 e28 e29 e30 e31 e32 e33 e34 (MOb th (nI m) (nI g) (nI w) (nI p) (nI P) (nI i) (nI s) gn (nI t) (nI bl) y.1 y.2.1 y.2.2.1 y.2.2.2.1 y.2.2.2.2.1 y.2.2.2.2.2 m24 m25 m30 m31 m33 m34 m35 m36 m37 m38 m39) e36 (.inl (0, 60, .inl (fun j => nI (T j)))) (.inl (0, 300, .inl (fun j => nI (R j)))) e39 e40 e41 e42 e43 e44 e45 e46 e47 e48), kc, kn) O := by
  refine J.gp ok_Mo_readText 3 (17, [(0, .ref 35), (1, .int (nI k))], [.int (nI bl), .int (nI k)], _, _, _) rfl ?_
  refine J.icF ok_Mo_readText (fun x y => y ≤ x) 39 20 rfl (fun h9 => absurd ((nI_leI (a := bl) (b := k) (by omega) (by omega)).mp h9) (by omega)) ?_
  refine J.gp ok_Mo_readText 4 (26, [(0, .ref 35), (1, .int (nI k))], [.int (nI k), .ref 37, .ref 35], _, _, _) rfl ?_
  refine J.ialdB ok_Mo_readText 27 k rfl rfl (rfl) (by omega) (by decide) ?_
  refine J.gp ok_Mo_readText 0 (27, [(0, .ref 35), (1, .int (nI k))], [.int (nI (T k)), .ref 35], (HP e0 e1 e2 e3 e4 e5 e6 e7 e8 e9 e10 e11 e12 e13 e14 e15 e16 e17 e18 e19 e20 e21 e22 e23 e24 e25 e26 e27 e28 e29 e30 e31 e32 e33 e34 (MOb th (nI m) (nI g) (nI w) (nI p) (nI P) (nI i) (nI s) gn (nI t) (nI bl) y.1 y.2.1 y.2.2.1 y.2.2.2.1 y.2.2.2.2.1 y.2.2.2.2.2 m24 m25 m30 m31 m33 m34 m35 m36 m37 m38 m39) e36 (.inl (0, 60, .inl (fun j => nI (T j)))) (.inl (0, 300, .inl (fun j => nI (R j)))) e39 e40 e41 e42 e43 e44 e45 e46 e47 e48), kc, kn) rfl ?_
  refine J.callVE s_Mo_readText_27 30 35 [.int (nI (T k))] 10 (K9) rfl rfl rfl rfl rfl (Nat.le_of_ble_eq_true rfl) rfl ?_
  refine J.gp ok_Mo_readText 0 (30, [(0, .ref 35), (1, .int (nI k))], [.int 0], (HP e0 e1 e2 e3 e4 e5 e6 e7 e8 e9 e10 e11 e12 e13 e14 e15 e16 e17 e18 e19 e20 e21 e22 e23 e24 e25 e26 e27 e28 e29 e30 e31 e32 e33 e34 (MOb th (nI m) (nI g) (nI w) (nI p) (nI P) (nI i) (nI s) gn (nI t) (nI bl) z.1 z.2.1 z.2.2.1 z.2.2.2.1 z.2.2.2.2.1 z.2.2.2.2.2 m24 m25 m30 m31 m33 m34 m35 m36 m37 m38 m39) e36 (.inl (0, 60, .inl (fun j => nI (T j)))) (.inl (0, 300, .inl (fun j => nI (R2 j)))) e39 e40 e41 e42 e43 e44 e45 e46 e47 e48), kc, kn) rfl ?_
  refine J.ifT ok_Mo_readText (fun x => x = 0) 39 33 rfl (by decide) ?_
  refine J.gp ok_Mo_readText 1 (40, [(0, .ref 35), (1, .int (nI k))], [.int (nI k)], _, _, _) rfl ?_
  refine JR.iret .int (by decide +kernel) rfl (rfl) ?_
  exact K1

set_option maxRecDepth 100000 in
set_option maxHeartbeats 400000 in
theorem g_Mo_rt3 {sc : aScr} {e0 e1 e2 e3 e4 e5 e6 e7 e8 e9 e10 e11 e12 e13 e14 e15 e16 e17 e18 e19 e20 e21 e22 e23 e24 e25 e26 e27 e28 e29 e30 e31 e32 e33 e34 e36 e39 e40 e41 e42 e43 e44 e45 e46 e47 e48 : va_E} {m31 m36 th gn : Int32} {m24 m25 m30 m33 m34 m35 m37 m38 m39 : Int64} {m g w p P i s t bl : Nat} {R T : Nat → Nat} {y : M6} {kc kn : Nat} {O : Option Value → aH → Prop} (hbl : bl ≤ 60) (K1 : O (some (.int (nI bl))) (HP e0 e1 e2 e3 e4 e5 e6 e7 e8 e9 e10 e11 e12 e13 e14 e15 e16 e17 e18 e19 e20 e21 e22 e23 e24 e25 e26 e27 e28 e29 e30 e31 e32 e33 e34 (MOb th (nI m) (nI g) (nI w) (nI p) (nI P) (nI i) (nI s) gn (nI t) (nI bl) y.1 y.2.1 y.2.2.1 y.2.2.2.1 y.2.2.2.2.1 y.2.2.2.2.2 m24 m25 m30 m31 m33 m34 m35 m36 m37 m38 m39) e36 (.inl (0, 60, .inl (fun j => nI (T j)))) (.inl (0, 300, .inl (fun j => nI (R j)))) e39 e40 e41 e42 e43 e44 e45 e46 e47 e48)) : JR M_Mo_readText sc (12, [(0, .ref 35), (1, .int (nI bl))], [], (HP e0 e1 e2 e3 e4 e5 e6 e7 e8 e9 e10 e11 e12 e13 e14 e15 e16 e17 e18 e19 e20 e21 e22 e23 e24 e25 e26 e27 e28 e29 e30 e31 e32 e33 e34 (MOb th (nI m) (nI g) (nI w) (nI p) (nI P) (nI i) (nI s) gn (nI t) (nI bl) y.1 y.2.1 y.2.2.1 y.2.2.2.1 y.2.2.2.2.1 y.2.2.2.2.2 m24 m25 m30 m31 m33 m34 m35 m36 m37 m38 m39) e36 (.inl (0, 60, .inl (fun j => nI (T j)))) (.inl (0, 300, .inl (fun j => nI (R j)))) e39 e40 e41 e42 e43 e44 e45 e46 e47 e48), kc, kn) O := by
  refine J.gp ok_Mo_readText 3 (17, [(0, .ref 35), (1, .int (nI bl))], [.int (nI bl), .int (nI bl)], _, _, _) rfl ?_
  refine J.icT ok_Mo_readText (fun x y => y ≤ x) 39 20 rfl ((nI_leI (a := bl) (b := bl) (by omega) (by omega)).mpr (by omega)) ?_
  refine J.gp ok_Mo_readText 1 (40, [(0, .ref 35), (1, .int (nI bl))], [.int (nI bl)], _, _, _) rfl ?_
  refine JR.iret .int (by decide +kernel) rfl (rfl) ?_
  exact K1

set_option maxRecDepth 100000 in
set_option maxHeartbeats 1000000 in
theorem Mo_rt {e0 e1 e2 e3 e4 e5 e6 e7 e8 e9 e10 e11 e12 e13 e14 e15 e16 e17 e18 e19 e20 e21 e22 e23 e24 e25 e26 e27 e28 e29 e30 e31 e32 e33 e34 e36 e39 e40 e41 e42 e43 e44 e45 e46 e47 e48 : va_E} {m31 m36 th gn : Int32} {m24 m25 m30 m33 m34 m35 m37 m38 m39 : Int64} {m g w p P i s t bl : Nat} {T : Nat → Nat} (hm : 0 < m ∧ m ≤ 4) (hbl : bl ≤ 60) (hT : ∀ j, T j < 128) (n : Nat) : ∀ (k : Nat) (r : Rd) (y : M6) (R : Nat → Nat), k + n = bl → RdI m r → RdK k r → rdMo r y → JR M_Mo_readText none (12, [(0, .ref 35), (1, .int (nI k))], [], (HP e0 e1 e2 e3 e4 e5 e6 e7 e8 e9 e10 e11 e12 e13 e14 e15 e16 e17 e18 e19 e20 e21 e22 e23 e24 e25 e26 e27 e28 e29 e30 e31 e32 e33 e34 (MOb th (nI m) (nI g) (nI w) (nI p) (nI P) (nI i) (nI s) gn (nI t) (nI bl) y.1 y.2.1 y.2.2.1 y.2.2.2.1 y.2.2.2.2.1 y.2.2.2.2.2 m24 m25 m30 m31 m33 m34 m35 m36 m37 m38 m39) e36 (.inl (0, 60, .inl (fun j => nI (T j)))) (.inl (0, 300, .inl (fun j => nI (R j)))) e39 e40 e41 e42 e43 e44 e45 e46 e47 e48), 0, 0) (fun v9 q9 => v9 = some (.int (nI (feF m T n k r).1)) ∧ ∃ z : M6, ((feF m T n k r).1 = bl → rdMo (feF m T n k r).2 z) ∧ q9 = (HP e0 e1 e2 e3 e4 e5 e6 e7 e8 e9 e10 e11 e12 e13 e14 e15 e16 e17 e18 e19 e20 e21 e22 e23 e24 e25 e26 e27 e28 e29 e30 e31 e32 e33 e34 (MOb th (nI m) (nI g) (nI w) (nI p) (nI P) (nI i) (nI s) gn (nI t) (nI bl) z.1 z.2.1 z.2.2.1 z.2.2.2.1 z.2.2.2.2.1 z.2.2.2.2.2 m24 m25 m30 m31 m33 m34 m35 m36 m37 m38 m39) e36 (.inl (0, 60, .inl (fun j => nI (T j)))) (.inl (0, 300, .inl (fun j => nI ((rdAf m T n k r R) j)))) e39 e40 e41 e42 e43 e44 e45 e46 e47 e48)) := by
  induction n with
  | zero =>
    intro k r y R hk hI hK hy
    obtain rfl : k = bl := by omega
    exact g_Mo_rt3 hbl ⟨rfl, y, fun _ => hy, rfl⟩
  | succ n ih =>
    intro k r y R hk hI hK hy
    have ht := c_Mo_takes (c := T k) (e0 := e0) (e1 := e1) (e2 := e2) (e3 := e3) (e4 := e4) (e5 := e5) (e6 := e6) (e7 := e7) (e8 := e8) (e9 := e9) (e10 := e10) (e11 := e11) (e12 := e12) (e13 := e13) (e14 := e14) (e15 := e15) (e16 := e16) (e17 := e17) (e18 := e18) (e19 := e19) (e20 := e20) (e21 := e21) (e22 := e22) (e23 := e23) (e24 := e24) (e25 := e25) (e26 := e26) (e27 := e27) (e28 := e28) (e29 := e29) (e30 := e30) (e31 := e31) (e32 := e32) (e33 := e33) (e34 := e34) (e36 := e36) (e37 := (.inl (0, 60, .inl (fun j => nI (T j))))) (e39 := e39) (e40 := e40) (e41 := e41) (e42 := e42) (e43 := e43) (e44 := e44) (e45 := e45) (e46 := e46) (e47 := e47) (e48 := e48) (R := R) (bl := bl) (m := m) (th := th) (gn := gn) (m31 := m31) (m36 := m36) (m24 := m24) (m25 := m25) (m30 := m30) (m33 := m33) (m34 := m34) (m35 := m35) (m37 := m37) (m38 := m38) (m39 := m39) (g := g) (w := w) (p := p) (P := P) (i := i) (s := s) (t := t) hm (hT k) hI hK (by omega) hy
    cases h : rdT m (T k) r with
    | none =>
      rw [feF_none h, rdAf_none h]
      obtain ⟨z, hK9⟩ := ht.2 h
      exact g_Mo_rt2 hbl (by omega) hK9 ⟨rfl, z, fun e => absurd e (by dsimp only; omega), rfl⟩
    | some r' =>
      rw [feF_full h, rdAf_some h]
      obtain ⟨z, hz, hK9⟩ := ht.1 r' h
      exact g_Mo_rt1 hbl (by omega) hK9 (ih (k + 1) r' z (rdA m (T k) r R) (by omega) (RdI_T hm.1 h hI) (RdK_T h hI hK) hz)
set_option maxRecDepth 100000 in
theorem c_Mo_readText {e0 e1 e2 e3 e4 e5 e6 e7 e8 e9 e10 e11 e12 e13 e14 e15 e16 e17 e18 e19 e20 e21 e22 e23 e24 e25 e26 e27 e28 e29 e30 e31 e32 e33 e34 e36 e39 e40 e41 e42 e43 e44 e45 e46 e47 e48 : va_E} {m31 m36 th gn : Int32} {m24 m25 m30 m33 m34 m35 m37 m38 m39 : Int64} {m g w p P i s t bl : Nat} {R T : Nat → Nat} {y : M6} (hm : 0 < m ∧ m ≤ 4) (hbl : bl ≤ 60) (hT : ∀ j, T j < 128) : JM M_Mo_readText [.ref 35] (HP e0 e1 e2 e3 e4 e5 e6 e7 e8 e9 e10 e11 e12 e13 e14 e15 e16 e17 e18 e19 e20 e21 e22 e23 e24 e25 e26 e27 e28 e29 e30 e31 e32 e33 e34 (MOb th (nI m) (nI g) (nI w) (nI p) (nI P) (nI i) (nI s) gn (nI t) (nI bl) y.1 y.2.1 y.2.2.1 y.2.2.2.1 y.2.2.2.2.1 y.2.2.2.2.2 m24 m25 m30 m31 m33 m34 m35 m36 m37 m38 m39) e36 (.inl (0, 60, .inl (fun j => nI (T j)))) (.inl (0, 300, .inl (fun j => nI (R j)))) e39 e40 e41 e42 e43 e44 e45 e46 e47 e48) 0 0 (fun v9 q9 => v9 = some (.int (nI (feF m T bl 0 rd0).1)) ∧ ∃ z : M6, ((feF m T bl 0 rd0).1 = bl → rdMo (feF m T bl 0 rd0).2 z) ∧ q9 = (HP e0 e1 e2 e3 e4 e5 e6 e7 e8 e9 e10 e11 e12 e13 e14 e15 e16 e17 e18 e19 e20 e21 e22 e23 e24 e25 e26 e27 e28 e29 e30 e31 e32 e33 e34 (MOb th (nI m) (nI g) (nI w) (nI p) (nI P) (nI i) (nI s) gn (nI t) (nI bl) z.1 z.2.1 z.2.2.1 z.2.2.2.1 z.2.2.2.2.1 z.2.2.2.2.2 m24 m25 m30 m31 m33 m34 m35 m36 m37 m38 m39) e36 (.inl (0, 60, .inl (fun j => nI (T j)))) (.inl (0, 300, .inl (fun j => nI ((rdAf m T bl 0 rd0 R) j)))) e39 e40 e41 e42 e43 e44 e45 e46 e47 e48)) :=
  JM.of (by decide +kernel) rfl (Nat.le_of_ble_eq_true rfl) (g_Mo_rt0 (Mo_rt hm hbl hT bl 0 rd0 (0, y.2.1, y.2.2.1, y.2.2.2.1, y.2.2.2.2.1, 0) R (by omega) rdI_0 (Or.inl ⟨rfl, Nat.le_refl _⟩) ⟨rfl, rfl⟩))

set_option maxRecDepth 100000 in
set_option maxHeartbeats 400000 in
theorem g_Mo_firstError {sc : aScr} {e0 e1 e2 e3 e4 e5 e6 e7 e8 e9 e10 e11 e12 e13 e14 e15 e16 e17 e18 e19 e20 e21 e22 e23 e24 e25 e26 e27 e28 e29 e30 e31 e32 e33 e34 e36 e39 e40 e41 e42 e43 e44 e45 e46 e47 e48 : va_E} {m31 m36 th gn : Int32} {m24 m25 m30 m33 m34 m35 m37 m38 m39 : Int64} {m g w p P i s t bl : Nat} {R T : Nat → Nat} {y : M6} {kc kn : Nat} {O : Option Value → aH → Prop} (hm : 0 < m ∧ m ≤ 4) (hbl : bl ≤ 60) (hT : ∀ j, T j < 128) (K1 : ∀ z : M6, ((feF m T bl 0 rd0).1 = bl → rdMo (feF m T bl 0 rd0).2 z) → O (some (.int (nI ((feF m T bl 0 rd0).1)))) (HP e0 e1 e2 e3 e4 e5 e6 e7 e8 e9 e10 e11 e12 e13 e14 e15 e16 e17 e18 e19 e20 e21 e22 e23 e24 e25 e26 e27 e28 e29 e30 e31 e32 e33 e34 (MOb 0 (nI m) (nI g) (nI w) (nI p) (nI P) (nI i) (nI s) gn (nI t) (nI bl) z.1 z.2.1 z.2.2.1 z.2.2.2.1 z.2.2.2.2.1 z.2.2.2.2.2 m24 m25 m30 m31 m33 m34 m35 m36 m37 m38 m39) e36 (.inl (0, 60, .inl (fun j => nI (T j)))) (.inl (0, 300, .inl (fun j => nI ((rdAf m T bl 0 rd0 R) j)))) e39 e40 e41 e42 e43 e44 e45 e46 e47 e48)) : JR M_Mo_firstError sc (0, [(0, .ref 35)], [], (HP e0 e1 e2 e3 e4 e5 e6 e7 e8 e9 e10 e11 e12 e13 e14 e15 e16 e17 e18 e19 e20 e21 e22 e23 e24 e25 e26 e27 e28 e29 e30 e31 e32 e33 e34 (MOb th (nI m) (nI g) (nI w) (nI p) (nI P) (nI i) (nI s) gn (nI t) (nI bl) y.1 y.2.1 y.2.2.1 y.2.2.2.1 y.2.2.2.2.1 y.2.2.2.2.2 m24 m25 m30 m31 m33 m34 m35 m36 m37 m38 m39) e36 (.inl (0, 60, .inl (fun j => nI (T j)))) (.inl (0, 300, .inl (fun j => nI (R j)))) e39 e40 e41 e42 e43 e44 e45 e46 e47 e48), kc, kn) O := by
  refine J.gp ok_Mo_firstError 3 (5, [(0, .ref 35)], [], (HP e0 e1 e2 e3 e4 e5 e6 e7 e8 e9 e10 e11 e12 e13 e14 e15 e16 e17 e18 e19 e20 e21 e22 e23 e24 e25 e26 e27 e28 e29 e30 e31 e32 e33 e34 (MOb 0 (nI m) (nI g) (nI w) (nI p) (nI P) (nI i) (nI s) gn (nI t) (nI bl) y.1 y.2.1 y.2.2.1 y.2.2.2.1 y.2.2.2.2.1 y.2.2.2.2.2 m24 m25 m30 m31 m33 m34 m35 m36 m37 m38 m39) e36 (.inl (0, 60, .inl (fun j => nI (T j)))) (.inl (0, 300, .inl (fun j => nI (R j)))) e39 e40 e41 e42 e43 e44 e45 e46 e47 e48), _, _) rfl ?_
  refine J.gp ok_Mo_firstError 1 (6, [(0, .ref 35)], [.ref 35], _, _, _) rfl ?_
  refine J.callVO s_Mo_firstError_6 9 35 [] 10 (c_Mo_readText hm hbl hT) rfl rfl rfl rfl rfl (Nat.le_of_ble_eq_true rfl) (by rintro v q ⟨rfl, z, hz, rfl⟩; rfl) (fun v q h => ?_)
  obtain ⟨rfl, z, hz, rfl⟩ := h
  refine J.gp ok_Mo_firstError 0 (9, [(0, .ref 35)], [.int (nI ((feF m T bl 0 rd0).1))], (HP e0 e1 e2 e3 e4 e5 e6 e7 e8 e9 e10 e11 e12 e13 e14 e15 e16 e17 e18 e19 e20 e21 e22 e23 e24 e25 e26 e27 e28 e29 e30 e31 e32 e33 e34 (MOb 0 (nI m) (nI g) (nI w) (nI p) (nI P) (nI i) (nI s) gn (nI t) (nI bl) z.1 z.2.1 z.2.2.1 z.2.2.2.1 z.2.2.2.2.1 z.2.2.2.2.2 m24 m25 m30 m31 m33 m34 m35 m36 m37 m38 m39) e36 (.inl (0, 60, .inl (fun j => nI (T j)))) (.inl (0, 300, .inl (fun j => nI ((rdAf m T bl 0 rd0 R) j)))) e39 e40 e41 e42 e43 e44 e45 e46 e47 e48), kc, kn) rfl ?_
  refine JR.iret .int (by decide +kernel) rfl (rfl) ?_
  exact K1 z hz

theorem c_Mo_firstError {e0 e1 e2 e3 e4 e5 e6 e7 e8 e9 e10 e11 e12 e13 e14 e15 e16 e17 e18 e19 e20 e21 e22 e23 e24 e25 e26 e27 e28 e29 e30 e31 e32 e33 e34 e36 e39 e40 e41 e42 e43 e44 e45 e46 e47 e48 : va_E} {m31 m36 th gn : Int32} {m24 m25 m30 m33 m34 m35 m37 m38 m39 : Int64} {m g w p P i s t bl : Nat} {R T : Nat → Nat} {y : M6} (hm : 0 < m ∧ m ≤ 4) (hbl : bl ≤ 60) (hT : ∀ j, T j < 128) : JM M_Mo_firstError [.ref 35] (HP e0 e1 e2 e3 e4 e5 e6 e7 e8 e9 e10 e11 e12 e13 e14 e15 e16 e17 e18 e19 e20 e21 e22 e23 e24 e25 e26 e27 e28 e29 e30 e31 e32 e33 e34 (MOb th (nI m) (nI g) (nI w) (nI p) (nI P) (nI i) (nI s) gn (nI t) (nI bl) y.1 y.2.1 y.2.2.1 y.2.2.2.1 y.2.2.2.2.1 y.2.2.2.2.2 m24 m25 m30 m31 m33 m34 m35 m36 m37 m38 m39) e36 (.inl (0, 60, .inl (fun j => nI (T j)))) (.inl (0, 300, .inl (fun j => nI (R j)))) e39 e40 e41 e42 e43 e44 e45 e46 e47 e48) 0 0 (fun v9 q9 => v9 = some (.int (nI (feF m T bl 0 rd0).1)) ∧ ∃ (z : M6) (R2 : Nat → Nat), q9 = (HP e0 e1 e2 e3 e4 e5 e6 e7 e8 e9 e10 e11 e12 e13 e14 e15 e16 e17 e18 e19 e20 e21 e22 e23 e24 e25 e26 e27 e28 e29 e30 e31 e32 e33 e34 (MOb 0 (nI m) (nI g) (nI w) (nI p) (nI P) (nI i) (nI s) gn (nI t) (nI bl) z.1 z.2.1 z.2.2.1 z.2.2.2.1 z.2.2.2.2.1 z.2.2.2.2.2 m24 m25 m30 m31 m33 m34 m35 m36 m37 m38 m39) e36 (.inl (0, 60, .inl (fun j => nI (T j)))) (.inl (0, 300, .inl (fun j => nI (R2 j)))) e39 e40 e41 e42 e43 e44 e45 e46 e47 e48)) :=
  JM.of (by decide +kernel) rfl (Nat.le_of_ble_eq_true rfl) (g_Mo_firstError hm hbl hT (fun z _ => ⟨rfl, z, _, rfl⟩))

set_option maxRecDepth 100000 in
set_option maxHeartbeats 400000 in
theorem g_Mo_ml0 {sc : aScr} {e0 e1 e2 e3 e4 e5 e6 e7 e8 e9 e10 e11 e12 e13 e14 e15 e16 e17 e18 e19 e20 e21 e22 e23 e24 e25 e26 e27 e28 e29 e30 e31 e32 e33 e34 e39 e40 e41 e42 e43 e44 e45 e46 e47 e48 : va_E} {m31 m36 th gn : Int32} {m24 m25 m30 m33 m34 m35 m37 m38 m39 : Int64} {m g w p P i s t bl : Nat} {R T : Nat → Nat} {y : M6} {B F : Nat → Nat} {kc kn : Nat} {O : Option Value → aH → Prop} (hm : 0 < m ∧ m ≤ 4) (hbl : bl ≤ 60) (hT : ∀ j, T j < 128) (hle : (feF m T bl 0 rd0).1 ≤ 60) (K1 : ∀ z : M6, ((feF m T bl 0 rd0).1 = bl → rdMo (feF m T bl 0 rd0).2 z) → (¬ ((feF m T bl 0 rd0).1) = bl) → O (some (.int 0)) (HP e0 e1 e2 e3 e4 e5 e6 e7 e8 e9 e10 e11 e12 e13 e14 e15 e16 e17 e18 e19 e20 e21 e22 e23 e24 e25 e26 e27 e28 e29 e30 e31 e32 e33 e34 (MOb 1 (nI m) (nI g) (nI w) (nI p) (nI P) (nI i) (nI s) gn (nI t) (nI bl) z.1 z.2.1 z.2.2.1 z.2.2.2.1 z.2.2.2.2.1 z.2.2.2.2.2 m24 m25 m30 m31 m33 m34 m35 m36 m37 m38 m39) (.inl (0, 24, .inl (fun j => nI ((tbF B F) j)))) (.inl (0, 60, .inl (fun j => nI (T j)))) (.inl (0, 300, .inl (fun j => nI ((rdAf m T bl 0 rd0 R) j)))) e39 e40 e41 e42 e43 e44 e45 e46 e47 e48)) (K2 : ∀ z : M6, ((feF m T bl 0 rd0).1 = bl → rdMo (feF m T bl 0 rd0).2 z) → (((feF m T bl 0 rd0).1) = bl) → JR M_Mo_load sc (12, [(0, .ref 35)], [.ref 35], (HP e0 e1 e2 e3 e4 e5 e6 e7 e8 e9 e10 e11 e12 e13 e14 e15 e16 e17 e18 e19 e20 e21 e22 e23 e24 e25 e26 e27 e28 e29 e30 e31 e32 e33 e34 (MOb th (nI m) (nI g) (nI w) (nI p) (nI P) (nI i) (nI s) gn (nI t) (nI bl) z.1 z.2.1 z.2.2.1 z.2.2.2.1 z.2.2.2.2.1 z.2.2.2.2.2 m24 m25 m30 m31 m33 m34 m35 m36 m37 m38 m39) (.inl (0, 24, .inl (fun j => nI ((tbF B F) j)))) (.inl (0, 60, .inl (fun j => nI (T j)))) (.inl (0, 300, .inl (fun j => nI ((rdAf m T bl 0 rd0 R) j)))) e39 e40 e41 e42 e43 e44 e45 e46 e47 e48), kc, kn) O) : JR M_Mo_load sc (0, [(0, .ref 35)], [], (HP e0 e1 e2 e3 e4 e5 e6 e7 e8 e9 e10 e11 e12 e13 e14 e15 e16 e17 e18 e19 e20 e21 e22 e23 e24 e25 e26 e27 e28 e29 e30 e31 e32 e33 e34 (MOb th (nI m) (nI g) (nI w) (nI p) (nI P) (nI i) (nI s) gn (nI t) (nI bl) y.1 y.2.1 y.2.2.1 y.2.2.2.1 y.2.2.2.2.1 y.2.2.2.2.2 m24 m25 m30 m31 m33 m34 m35 m36 m37 m38 m39) (.inl (0, 24, .inl (fun j => nI ((tbF B F) j)))) (.inl (0, 60, .inl (fun j => nI (T j)))) (.inl (0, 300, .inl (fun j => nI (R j)))) e39 e40 e41 e42 e43 e44 e45 e46 e47 e48), kc, kn) O := by
  refine J.gp ok_Mo_load 2 (2, [(0, .ref 35)], [.ref 35, .ref 35], _, _, _) rfl ?_
  refine J.callVO s_Mo_load_2 5 35 [] 10 (c_Mo_readText hm hbl hT) rfl rfl rfl rfl rfl (Nat.le_of_ble_eq_true rfl) (by rintro v q ⟨rfl, z, hz, rfl⟩; rfl) (fun v q h => ?_)
  obtain ⟨rfl, z, hz, rfl⟩ := h
  refine J.gp ok_Mo_load 0 (5, [(0, .ref 35)], [.int (nI ((feF m T bl 0 rd0).1)), .ref 35], (HP e0 e1 e2 e3 e4 e5 e6 e7 e8 e9 e10 e11 e12 e13 e14 e15 e16 e17 e18 e19 e20 e21 e22 e23 e24 e25 e26 e27 e28 e29 e30 e31 e32 e33 e34 (MOb th (nI m) (nI g) (nI w) (nI p) (nI P) (nI i) (nI s) gn (nI t) (nI bl) z.1 z.2.1 z.2.2.1 z.2.2.2.1 z.2.2.2.2.1 z.2.2.2.2.2 m24 m25 m30 m31 m33 m34 m35 m36 m37 m38 m39) (.inl (0, 24, .inl (fun j => nI ((tbF B F) j)))) (.inl (0, 60, .inl (fun j => nI (T j)))) (.inl (0, 300, .inl (fun j => nI ((rdAf m T bl 0 rd0 R) j)))) e39 e40 e41 e42 e43 e44 e45 e46 e47 e48), kc, kn) rfl ?_
  refine J.gp ok_Mo_load 2 (9, [(0, .ref 35)], [.int (nI bl), .int (nI ((feF m T bl 0 rd0).1)), .ref 35], _, _, _) rfl ?_
  refine J.icB ok_Mo_load (fun x y => ¬ x = y) 23 12 rfl (fun (h0 : ¬ nI ((feF m T bl 0 rd0).1) = nI bl) => ?_) (fun (h0 : ¬ (¬ nI ((feF m T bl 0 rd0).1) = nI bl)) => ?_)
  · have c9 : ¬ ((feF m T bl 0 rd0).1) = bl := fun h9 => h0 ((nI_eq (a := (feF m T bl 0 rd0).1) (b := bl) (by omega) (by omega)).mpr h9)
    refine J.gp ok_Mo_load 2 (27, [(0, .ref 35)], [], (HP e0 e1 e2 e3 e4 e5 e6 e7 e8 e9 e10 e11 e12 e13 e14 e15 e16 e17 e18 e19 e20 e21 e22 e23 e24 e25 e26 e27 e28 e29 e30 e31 e32 e33 e34 (MOb 1 (nI m) (nI g) (nI w) (nI p) (nI P) (nI i) (nI s) gn (nI t) (nI bl) z.1 z.2.1 z.2.2.1 z.2.2.2.1 z.2.2.2.2.1 z.2.2.2.2.2 m24 m25 m30 m31 m33 m34 m35 m36 m37 m38 m39) (.inl (0, 24, .inl (fun j => nI ((tbF B F) j)))) (.inl (0, 60, .inl (fun j => nI (T j)))) (.inl (0, 300, .inl (fun j => nI ((rdAf m T bl 0 rd0 R) j)))) e39 e40 e41 e42 e43 e44 e45 e46 e47 e48), _, _) rfl ?_
    refine J.gp ok_Mo_load 2 (31, [(0, .ref 35)], [.int 1], _, _, _) rfl ?_
    refine J.ifF ok_Mo_load (fun x => x ≤ 0) 36 34 rfl (by decide) ?_
    refine J.gp ok_Mo_load 1 (35, [(0, .ref 35)], [.int 0], _, _, _) rfl ?_
    refine JR.iret .int (by decide +kernel) rfl (rfl) ?_
    exact K1 z hz c9
  · have c9 : ((feF m T bl 0 rd0).1) = bl := (nI_eq (a := (feF m T bl 0 rd0).1) (b := bl) (by omega) (by omega)).mp (Classical.byContradiction h0)
    exact K2 z hz c9

set_option maxRecDepth 100000 in
set_option maxHeartbeats 400000 in
theorem g_Mo_ml1 {sc : aScr} {e0 e1 e2 e3 e4 e5 e6 e7 e8 e9 e10 e11 e12 e13 e14 e15 e16 e17 e18 e19 e20 e21 e22 e23 e24 e25 e26 e27 e28 e29 e30 e31 e32 e33 e34 e39 e40 e41 e42 e43 e44 e45 e46 e47 e48 : va_E} {m31 m36 th gn : Int32} {m24 m25 m30 m33 m34 m35 m37 m38 m39 : Int64} {m g w p P i s t bl : Nat} {R T : Nat → Nat} {y : M6} {B F : Nat → Nat} {kc kn : Nat} {O : Option Value → aH → Prop} (K9 : JE M_Mo_canEnd [.ref 35] (HP e0 e1 e2 e3 e4 e5 e6 e7 e8 e9 e10 e11 e12 e13 e14 e15 e16 e17 e18 e19 e20 e21 e22 e23 e24 e25 e26 e27 e28 e29 e30 e31 e32 e33 e34 (MOb th (nI m) (nI g) (nI w) (nI p) (nI P) (nI i) (nI s) gn (nI t) (nI bl) y.1 y.2.1 y.2.2.1 y.2.2.2.1 y.2.2.2.2.1 y.2.2.2.2.2 m24 m25 m30 m31 m33 m34 m35 m36 m37 m38 m39) (.inl (0, 24, .inl (fun j => nI ((tbF B F) j)))) (.inl (0, 60, .inl (fun j => nI (T j)))) (.inl (0, 300, .inl (fun j => nI (R j)))) e39 e40 e41 e42 e43 e44 e45 e46 e47 e48) (some (.int 0)) (HP e0 e1 e2 e3 e4 e5 e6 e7 e8 e9 e10 e11 e12 e13 e14 e15 e16 e17 e18 e19 e20 e21 e22 e23 e24 e25 e26 e27 e28 e29 e30 e31 e32 e33 e34 (MOb th (nI m) (nI g) (nI w) (nI p) (nI P) (nI i) (nI s) gn (nI t) (nI bl) y.1 y.2.1 y.2.2.1 y.2.2.2.1 y.2.2.2.2.1 y.2.2.2.2.2 m24 m25 m30 m31 m33 m34 m35 m36 m37 m38 m39) (.inl (0, 24, .inl (fun j => nI ((tbF B F) j)))) (.inl (0, 60, .inl (fun j => nI (T j)))) (.inl (0, 300, .inl (fun j => nI (R j)))) e39 e40 e41 e42 e43 e44 e45 e46 e47 e48)) (K1 : O (some (.int 0)) (HP e0 e1 e2 e3 e4 e5 e6 e7 e8 e9 e10 e11 e12 e13 e14 e15 e16 e17 e18 e19 e20 e21 e22 e23 e24 e25 e26 e27 e28 e29 e30 e31 e32 e33 e34 (MOb 1 (nI m) (nI g) (nI w) (nI p) (nI P) (nI i) (nI s) gn (nI t) (nI bl) y.1 y.2.1 y.2.2.1 y.2.2.2.1 y.2.2.2.2.1 y.2.2.2.2.2 m24 m25 m30 m31 m33 m34 m35 m36 m37 m38 m39) (.inl (0, 24, .inl (fun j => nI ((tbF B F) j)))) (.inl (0, 60, .inl (fun j => nI (T j)))) (.inl (0, 300, .inl (fun j => nI (R j)))) e39 e40 e41 e42 e43 e44 e45 e46 e47 e48)) : JR M_Mo_load sc (12, [(0, .ref 35)], [.ref 35], (HP e0 e1 e2 e3 e4 e5 e6 e7 e8 e9 e10 e11 e12 e13 e14 e15 e16 e17 e18 e19 e20 e21 e22 e23 e24 e25 e26 e27 e28 e29 e30 e31 e32 e33 e34 (MOb th (nI m) (nI g) (nI w) (nI p) (nI P) (nI i) (nI s) gn (nI t) (nI bl) y.1 y.2.1 y.2.2.1 y.2.2.2.1 y.2.2.2.2.1 y.2.2.2.2.2 m24 m25 m30 m31 m33 m34 m35 m36 m37 m38 m39) (.inl (0, 24, .inl (fun j => nI ((tbF B F) j)))) (.inl (0, 60, .inl (fun j => nI (T j)))) (.inl (0, 300, .inl (fun j => nI (R j)))) e39 e40 e41 e42 e43 e44 e45 e46 e47 e48), kc, kn) O := by
  refine J.gp ok_Mo_load 1 (13, [(0, .ref 35)], [.ref 35, .ref 35], _, _, _) rfl ?_
  refine J.callVE s_Mo_load_13 16 35 [] 10 (K9) rfl rfl rfl rfl rfl (Nat.le_of_ble_eq_true rfl) rfl ?_
  refine J.gp ok_Mo_load 0 (16, [(0, .ref 35)], [.int 0, .ref 35], (HP e0 e1 e2 e3 e4 e5 e6 e7 e8 e9 e10 e11 e12 e13 e14 e15 e16 e17 e18 e19 e20 e21 e22 e23 e24 e25 e26 e27 e28 e29 e30 e31 e32 e33 e34 (MOb th (nI m) (nI g) (nI w) (nI p) (nI P) (nI i) (nI s) gn (nI t) (nI bl) y.1 y.2.1 y.2.2.1 y.2.2.2.1 y.2.2.2.2.1 y.2.2.2.2.2 m24 m25 m30 m31 m33 m34 m35 m36 m37 m38 m39) (.inl (0, 24, .inl (fun j => nI ((tbF B F) j)))) (.inl (0, 60, .inl (fun j => nI (T j)))) (.inl (0, 300, .inl (fun j => nI (R j)))) e39 e40 e41 e42 e43 e44 e45 e46 e47 e48), kc, kn) rfl ?_
  refine J.ifT ok_Mo_load (fun x => x = 0) 23 19 rfl (by decide) ?_
  refine J.gp ok_Mo_load 2 (27, [(0, .ref 35)], [], (HP e0 e1 e2 e3 e4 e5 e6 e7 e8 e9 e10 e11 e12 e13 e14 e15 e16 e17 e18 e19 e20 e21 e22 e23 e24 e25 e26 e27 e28 e29 e30 e31 e32 e33 e34 (MOb 1 (nI m) (nI g) (nI w) (nI p) (nI P) (nI i) (nI s) gn (nI t) (nI bl) y.1 y.2.1 y.2.2.1 y.2.2.2.1 y.2.2.2.2.1 y.2.2.2.2.2 m24 m25 m30 m31 m33 m34 m35 m36 m37 m38 m39) (.inl (0, 24, .inl (fun j => nI ((tbF B F) j)))) (.inl (0, 60, .inl (fun j => nI (T j)))) (.inl (0, 300, .inl (fun j => nI (R j)))) e39 e40 e41 e42 e43 e44 e45 e46 e47 e48), _, _) rfl ?_
  refine J.gp ok_Mo_load 2 (31, [(0, .ref 35)], [.int 1], _, _, _) rfl ?_
  refine J.ifF ok_Mo_load (fun x => x ≤ 0) 36 34 rfl (by decide) ?_
  refine J.gp ok_Mo_load 1 (35, [(0, .ref 35)], [.int 0], _, _, _) rfl ?_
  refine JR.iret .int (by decide +kernel) rfl (rfl) ?_
  exact K1

set_option maxRecDepth 100000 in
set_option maxHeartbeats 400000 in
theorem g_Mo_ml2 {sc : aScr} {e0 e1 e2 e3 e4 e5 e6 e7 e8 e9 e10 e11 e12 e13 e14 e15 e16 e17 e18 e19 e20 e21 e22 e23 e24 e25 e26 e27 e28 e29 e30 e31 e32 e33 e34 e39 e40 e41 e42 e43 e44 e45 e46 e47 e48 : va_E} {m31 m36 th gn : Int32} {m24 m25 m30 m33 m34 m35 m37 m38 m39 : Int64} {m g w p P i s t bl : Nat} {R T : Nat → Nat} {y : M6} {B F : Nat → Nat} {z : M6} {R2 : Nat → Nat} {n : Nat} {kc kn : Nat} {O : Option Value → aH → Prop} (K9 : JE M_Mo_canEnd [.ref 35] (HP e0 e1 e2 e3 e4 e5 e6 e7 e8 e9 e10 e11 e12 e13 e14 e15 e16 e17 e18 e19 e20 e21 e22 e23 e24 e25 e26 e27 e28 e29 e30 e31 e32 e33 e34 (MOb th (nI m) (nI g) (nI w) (nI p) (nI P) (nI i) (nI s) gn (nI t) (nI bl) y.1 y.2.1 y.2.2.1 y.2.2.2.1 y.2.2.2.2.1 y.2.2.2.2.2 m24 m25 m30 m31 m33 m34 m35 m36 m37 m38 m39) (.inl (0, 24, .inl (fun j => nI ((tbF B F) j)))) (.inl (0, 60, .inl (fun j => nI (T j)))) (.inl (0, 300, .inl (fun j => nI (R j)))) e39 e40 e41 e42 e43 e44 e45 e46 e47 e48) (some (.int 1)) (HP e0 e1 e2 e3 e4 e5 e6 e7 e8 e9 e10 e11 e12 e13 e14 e15 e16 e17 e18 e19 e20 e21 e22 e23 e24 e25 e26 e27 e28 e29 e30 e31 e32 e33 e34 (MOb th (nI m) (nI g) (nI w) (nI p) (nI P) (nI i) (nI s) gn (nI t) (nI bl) y.1 y.2.1 y.2.2.1 y.2.2.2.1 y.2.2.2.2.1 y.2.2.2.2.2 m24 m25 m30 m31 m33 m34 m35 m36 m37 m38 m39) (.inl (0, 24, .inl (fun j => nI ((tbF B F) j)))) (.inl (0, 60, .inl (fun j => nI (T j)))) (.inl (0, 300, .inl (fun j => nI (R j)))) e39 e40 e41 e42 e43 e44 e45 e46 e47 e48)) (K8 : JE M_Mo_endItem [.ref 35] (HP e0 e1 e2 e3 e4 e5 e6 e7 e8 e9 e10 e11 e12 e13 e14 e15 e16 e17 e18 e19 e20 e21 e22 e23 e24 e25 e26 e27 e28 e29 e30 e31 e32 e33 e34 (MOb 0 (nI m) (nI g) (nI w) (nI p) (nI P) (nI i) (nI s) gn (nI t) (nI bl) y.1 y.2.1 y.2.2.1 y.2.2.2.1 y.2.2.2.2.1 y.2.2.2.2.2 m24 m25 m30 m31 m33 m34 m35 m36 m37 m38 m39) (.inl (0, 24, .inl (fun j => nI ((tbF B F) j)))) (.inl (0, 60, .inl (fun j => nI (T j)))) (.inl (0, 300, .inl (fun j => nI (R j)))) e39 e40 e41 e42 e43 e44 e45 e46 e47 e48) none (HP e0 e1 e2 e3 e4 e5 e6 e7 e8 e9 e10 e11 e12 e13 e14 e15 e16 e17 e18 e19 e20 e21 e22 e23 e24 e25 e26 e27 e28 e29 e30 e31 e32 e33 e34 (MOb 0 (nI m) (nI g) (nI w) (nI p) (nI P) (nI i) (nI s) gn (nI t) (nI bl) z.1 z.2.1 z.2.2.1 z.2.2.2.1 z.2.2.2.2.1 (nI n) m24 m25 m30 m31 m33 m34 m35 m36 m37 m38 m39) (.inl (0, 24, .inl (fun j => nI ((tbF B F) j)))) (.inl (0, 60, .inl (fun j => nI (T j)))) (.inl (0, 300, .inl (fun j => nI (R2 j)))) e39 e40 e41 e42 e43 e44 e45 e46 e47 e48)) (K1 : JR M_Mo_load sc (42, [(0, .ref 35), (1, .int 0)], [], (HP e0 e1 e2 e3 e4 e5 e6 e7 e8 e9 e10 e11 e12 e13 e14 e15 e16 e17 e18 e19 e20 e21 e22 e23 e24 e25 e26 e27 e28 e29 e30 e31 e32 e33 e34 (MOb 0 (nI m) (nI g) (nI w) (nI p) (nI P) (nI i) (nI s) gn (nI t) (nI bl) z.1 z.2.1 z.2.2.1 z.2.2.2.1 z.2.2.2.2.1 (nI n) m24 m25 m30 m31 m33 m34 m35 m36 m37 m38 m39) (.inl (0, 24, .inl (fun j => nI ((tbF B F) j)))) (.inl (0, 60, .inl (fun j => nI (T j)))) (.inl (0, 300, .inl (fun j => nI (R2 j)))) e39 e40 e41 e42 e43 e44 e45 e46 e47 e48), kc, kn) O) : JR M_Mo_load sc (12, [(0, .ref 35)], [.ref 35], (HP e0 e1 e2 e3 e4 e5 e6 e7 e8 e9 e10 e11 e12 e13 e14 e15 e16 e17 e18 e19 e20 e21 e22 e23 e24 e25 e26 e27 e28 e29 e30 e31 e32 e33 e34 (MOb th (nI m) (nI g) (nI w) (nI p) (nI P) (nI i) (nI s) gn (nI t) (nI bl) y.1 y.2.1 y.2.2.1 y.2.2.2.1 y.2.2.2.2.1 y.2.2.2.2.2 m24 m25 m30 m31 m33 m34 m35 m36 m37 m38 m39) (.inl (0, 24, .inl (fun j => nI ((tbF B F) j)))) (.inl (0, 60, .inl (fun j => nI (T j)))) (.inl (0, 300, .inl (fun j => nI (R j)))) e39 e40 e41 e42 e43 e44 e45 e46 e47 e48), kc, kn) O := by
  refine J.gp ok_Mo_load 1 (13, [(0, .ref 35)], [.ref 35, .ref 35], _, _, _) rfl ?_
  refine J.callVE s_Mo_load_13 16 35 [] 10 (K9) rfl rfl rfl rfl rfl (Nat.le_of_ble_eq_true rfl) rfl ?_
  refine J.gp ok_Mo_load 0 (16, [(0, .ref 35)], [.int 1, .ref 35], (HP e0 e1 e2 e3 e4 e5 e6 e7 e8 e9 e10 e11 e12 e13 e14 e15 e16 e17 e18 e19 e20 e21 e22 e23 e24 e25 e26 e27 e28 e29 e30 e31 e32 e33 e34 (MOb th (nI m) (nI g) (nI w) (nI p) (nI P) (nI i) (nI s) gn (nI t) (nI bl) y.1 y.2.1 y.2.2.1 y.2.2.2.1 y.2.2.2.2.1 y.2.2.2.2.2 m24 m25 m30 m31 m33 m34 m35 m36 m37 m38 m39) (.inl (0, 24, .inl (fun j => nI ((tbF B F) j)))) (.inl (0, 60, .inl (fun j => nI (T j)))) (.inl (0, 300, .inl (fun j => nI (R j)))) e39 e40 e41 e42 e43 e44 e45 e46 e47 e48), kc, kn) rfl ?_
  refine J.ifF ok_Mo_load (fun x => x = 0) 23 19 rfl (by decide) ?_
  refine J.gp ok_Mo_load 3 (27, [(0, .ref 35)], [], (HP e0 e1 e2 e3 e4 e5 e6 e7 e8 e9 e10 e11 e12 e13 e14 e15 e16 e17 e18 e19 e20 e21 e22 e23 e24 e25 e26 e27 e28 e29 e30 e31 e32 e33 e34 (MOb 0 (nI m) (nI g) (nI w) (nI p) (nI P) (nI i) (nI s) gn (nI t) (nI bl) y.1 y.2.1 y.2.2.1 y.2.2.2.1 y.2.2.2.2.1 y.2.2.2.2.2 m24 m25 m30 m31 m33 m34 m35 m36 m37 m38 m39) (.inl (0, 24, .inl (fun j => nI ((tbF B F) j)))) (.inl (0, 60, .inl (fun j => nI (T j)))) (.inl (0, 300, .inl (fun j => nI (R j)))) e39 e40 e41 e42 e43 e44 e45 e46 e47 e48), _, _) rfl ?_
  refine J.gp ok_Mo_load 2 (31, [(0, .ref 35)], [.int 0], _, _, _) rfl ?_
  refine J.ifT ok_Mo_load (fun x => x ≤ 0) 36 34 rfl (by decide) ?_
  refine J.gp ok_Mo_load 1 (37, [(0, .ref 35)], [.ref 35], _, _, _) rfl ?_
  refine J.callVE s_Mo_load_37 40 35 [] 10 (K8) rfl rfl rfl rfl rfl (Nat.le_of_ble_eq_true rfl) rfl ?_
  refine J.gp ok_Mo_load 0 (40, [(0, .ref 35)], [], (HP e0 e1 e2 e3 e4 e5 e6 e7 e8 e9 e10 e11 e12 e13 e14 e15 e16 e17 e18 e19 e20 e21 e22 e23 e24 e25 e26 e27 e28 e29 e30 e31 e32 e33 e34 (MOb 0 (nI m) (nI g) (nI w) (nI p) (nI P) (nI i) (nI s) gn (nI t) (nI bl) z.1 z.2.1 z.2.2.1 z.2.2.2.1 z.2.2.2.2.1 (nI n) m24 m25 m30 m31 m33 m34 m35 m36 m37 m38 m39) (.inl (0, 24, .inl (fun j => nI ((tbF B F) j)))) (.inl (0, 60, .inl (fun j => nI (T j)))) (.inl (0, 300, .inl (fun j => nI (R2 j)))) e39 e40 e41 e42 e43 e44 e45 e46 e47 e48), kc, kn) rfl ?_
  refine J.gp ok_Mo_load 2 (42, [(0, .ref 35), (1, .int 0)], [], _, _, _) rfl ?_
  exact K1

set_option maxRecDepth 100000 in
set_option maxHeartbeats 400000 in
theorem g_Mo_ml3 {sc : aScr} {e0 e1 e2 e3 e4 e5 e6 e7 e8 e9 e10 e11 e12 e13 e14 e15 e16 e17 e18 e19 e20 e21 e22 e23 e24 e25 e26 e27 e28 e29 e30 e31 e32 e33 e34 e37 e39 e40 e41 e42 e43 e44 e45 e46 e47 e48 : va_E} {m31 m36 th gn : Int32} {m24 m25 m30 m33 m34 m35 m37 m38 m39 : Int64} {m g w p P i s t bl : Nat} {R : Nat → Nat} {y : M6} {n : Nat} {B F : Nat → Nat} {k : Nat} {kc kn : Nat} {O : Option Value → aH → Prop} (hn : n ≤ 29) (hk : k < n) (h3 : R (10 * k) = 3) (K1 : JR M_Mo_load sc (42, [(0, .ref 35), (1, .int (nI (k + 1)))], [], (HP e0 e1 e2 e3 e4 e5 e6 e7 e8 e9 e10 e11 e12 e13 e14 e15 e16 e17 e18 e19 e20 e21 e22 e23 e24 e25 e26 e27 e28 e29 e30 e31 e32 e33 e34 (MOb th (nI m) (nI g) (nI w) (nI p) (nI (R ((10 * k) + 1))) 0 (nI s) gn (nI t) (nI bl) y.1 y.2.1 y.2.2.1 y.2.2.2.1 y.2.2.2.2.1 (nI n) m24 m25 m30 m31 m33 m34 m35 m36 m37 m38 m39) (.inl (0, 24, .inl (fun j => nI ((tbF B F) j)))) e37 (.inl (0, 300, .inl (fun j => nI (R j)))) e39 e40 e41 e42 e43 e44 e45 e46 e47 e48), kc, kn) O) : JR M_Mo_load sc (42, [(0, .ref 35), (1, .int (nI k))], [], (HP e0 e1 e2 e3 e4 e5 e6 e7 e8 e9 e10 e11 e12 e13 e14 e15 e16 e17 e18 e19 e20 e21 e22 e23 e24 e25 e26 e27 e28 e29 e30 e31 e32 e33 e34 (MOb th (nI m) (nI g) (nI w) (nI p) (nI P) (nI i) (nI s) gn (nI t) (nI bl) y.1 y.2.1 y.2.2.1 y.2.2.2.1 y.2.2.2.2.1 (nI n) m24 m25 m30 m31 m33 m34 m35 m36 m37 m38 m39) (.inl (0, 24, .inl (fun j => nI ((tbF B F) j)))) e37 (.inl (0, 300, .inl (fun j => nI (R j)))) e39 e40 e41 e42 e43 e44 e45 e46 e47 e48), kc, kn) O := by
  refine J.gp ok_Mo_load 3 (47, [(0, .ref 35), (1, .int (nI k))], [.int (nI n), .int (nI k)], _, _, _) rfl ?_
  refine J.icF ok_Mo_load (fun x y => y ≤ x) 152 50 rfl (fun h9 => absurd ((nI_leI (a := n) (b := k) (by omega) (by omega)).mp h9) (by omega)) ?_
  refine J.gp ok_Mo_load 5 (58, [(0, .ref 35), (1, .int (nI k))], [.int (10 * nI k), .ref 38], _, _, _) rfl ?_
  rw [show ((10 * nI k) : Int32) = nI (10 * k) from pk_mul 10 k]
  refine J.ialdB ok_Mo_load 59 (10 * k) rfl rfl (rfl) (by omega) (by decide) ?_
  refine J.gp ok_Mo_load 0 (59, [(0, .ref 35), (1, .int (nI k))], [.int (nI (R (10 * k)))], (HP e0 e1 e2 e3 e4 e5 e6 e7 e8 e9 e10 e11 e12 e13 e14 e15 e16 e17 e18 e19 e20 e21 e22 e23 e24 e25 e26 e27 e28 e29 e30 e31 e32 e33 e34 (MOb th (nI m) (nI g) (nI w) (nI p) (nI P) (nI i) (nI s) gn (nI t) (nI bl) y.1 y.2.1 y.2.2.1 y.2.2.2.1 y.2.2.2.2.1 (nI n) m24 m25 m30 m31 m33 m34 m35 m36 m37 m38 m39) (.inl (0, 24, .inl (fun j => nI ((tbF B F) j)))) e37 (.inl (0, 300, .inl (fun j => nI (R j)))) e39 e40 e41 e42 e43 e44 e45 e46 e47 e48), kc, kn) rfl ?_
  refine J.gp ok_Mo_load 1 (60, [(0, .ref 35), (1, .int (nI k))], [.int 3, .int (nI (R (10 * k)))], _, _, _) rfl ?_
  refine J.icF ok_Mo_load (fun x y => ¬ x = y) 86 63 rfl (fun e => e (by rw [h3]; rfl)) ?_
  refine J.gp ok_Mo_load 6 (72, [(0, .ref 35), (1, .int (nI k))], [.int (10 * nI k), .ref 38, .ref 35], _, _, _) rfl ?_
  rw [show ((10 * nI k) : Int32) = nI (10 * k) from pk_mul 10 k]
  refine J.gp ok_Mo_load 2 (74, [(0, .ref 35), (1, .int (nI k))], [.int (nI (10 * k) + 1), .ref 38, .ref 35], _, _, _) rfl ?_
  rw [show ((nI (10 * k) + 1) : Int32) = nI ((10 * k) + 1) from nI_add (10 * k) 1]
  refine J.ialdB ok_Mo_load 75 ((10 * k) + 1) rfl rfl (rfl) (by omega) (by decide) ?_
  refine J.gp ok_Mo_load 0 (75, [(0, .ref 35), (1, .int (nI k))], [.int (nI (R ((10 * k) + 1))), .ref 35], (HP e0 e1 e2 e3 e4 e5 e6 e7 e8 e9 e10 e11 e12 e13 e14 e15 e16 e17 e18 e19 e20 e21 e22 e23 e24 e25 e26 e27 e28 e29 e30 e31 e32 e33 e34 (MOb th (nI m) (nI g) (nI w) (nI p) (nI P) (nI i) (nI s) gn (nI t) (nI bl) y.1 y.2.1 y.2.2.1 y.2.2.2.1 y.2.2.2.2.1 (nI n) m24 m25 m30 m31 m33 m34 m35 m36 m37 m38 m39) (.inl (0, 24, .inl (fun j => nI ((tbF B F) j)))) e37 (.inl (0, 300, .inl (fun j => nI (R j)))) e39 e40 e41 e42 e43 e44 e45 e46 e47 e48), kc, kn) rfl ?_
  refine J.gp ok_Mo_load 1 (78, [(0, .ref 35), (1, .int (nI k))], [], (HP e0 e1 e2 e3 e4 e5 e6 e7 e8 e9 e10 e11 e12 e13 e14 e15 e16 e17 e18 e19 e20 e21 e22 e23 e24 e25 e26 e27 e28 e29 e30 e31 e32 e33 e34 (MOb th (nI m) (nI g) (nI w) (nI p) (nI (R ((10 * k) + 1))) (nI i) (nI s) gn (nI t) (nI bl) y.1 y.2.1 y.2.2.1 y.2.2.2.1 y.2.2.2.2.1 (nI n) m24 m25 m30 m31 m33 m34 m35 m36 m37 m38 m39) (.inl (0, 24, .inl (fun j => nI ((tbF B F) j)))) e37 (.inl (0, 300, .inl (fun j => nI (R j)))) e39 e40 e41 e42 e43 e44 e45 e46 e47 e48), _, _) rfl ?_
  refine J.gp ok_Mo_load 3 (83, [(0, .ref 35), (1, .int (nI k))], [], (HP e0 e1 e2 e3 e4 e5 e6 e7 e8 e9 e10 e11 e12 e13 e14 e15 e16 e17 e18 e19 e20 e21 e22 e23 e24 e25 e26 e27 e28 e29 e30 e31 e32 e33 e34 (MOb th (nI m) (nI g) (nI w) (nI p) (nI (R ((10 * k) + 1))) 0 (nI s) gn (nI t) (nI bl) y.1 y.2.1 y.2.2.1 y.2.2.2.1 y.2.2.2.2.1 (nI n) m24 m25 m30 m31 m33 m34 m35 m36 m37 m38 m39) (.inl (0, 24, .inl (fun j => nI ((tbF B F) j)))) e37 (.inl (0, 300, .inl (fun j => nI (R j)))) e39 e40 e41 e42 e43 e44 e45 e46 e47 e48), _, _) rfl ?_
  refine J.gp ok_Mo_load 2 (149, [(0, .ref 35), (1, .int (nI k + 1))], [], _, _, _) rfl ?_
  rw [show ((nI k + 1) : Int32) = nI (k + 1) from nI_add k 1]
  refine J.gp ok_Mo_load 1 (42, [(0, .ref 35), (1, .int (nI (k + 1)))], [], _, _, _) rfl ?_
  exact K1

set_option maxRecDepth 100000 in
set_option maxHeartbeats 400000 in
theorem g_Mo_ml4 {sc : aScr} {e0 e1 e2 e3 e4 e5 e6 e7 e8 e9 e10 e11 e12 e13 e14 e15 e16 e17 e18 e19 e20 e21 e22 e23 e24 e25 e26 e27 e28 e29 e30 e31 e32 e33 e34 e37 e39 e40 e41 e42 e43 e44 e45 e46 e47 e48 : va_E} {m31 m36 th gn : Int32} {m24 m25 m30 m33 m34 m35 m37 m38 m39 : Int64} {m g w p P i s t bl : Nat} {R : Nat → Nat} {y : M6} {n : Nat} {B F : Nat → Nat} {k : Nat} {kc kn : Nat} {O : Option Value → aH → Prop} (hn : n ≤ 29) (hk : k < n) (h3 : R (10 * k) < 3) (K1 : JR M_Mo_load sc (88, [(0, .ref 35), (1, .int (nI k)), (2, .int 0)], [], (HP e0 e1 e2 e3 e4 e5 e6 e7 e8 e9 e10 e11 e12 e13 e14 e15 e16 e17 e18 e19 e20 e21 e22 e23 e24 e25 e26 e27 e28 e29 e30 e31 e32 e33 e34 (MOb th (nI m) (nI g) (nI w) (nI p) (nI P) (nI i) (nI s) gn (nI t) (nI bl) y.1 y.2.1 y.2.2.1 y.2.2.2.1 y.2.2.2.2.1 (nI n) m24 m25 m30 m31 m33 m34 m35 m36 m37 m38 m39) (.inl (0, 24, .inl (fun j => nI ((tbF B F) j)))) e37 (.inl (0, 300, .inl (fun j => nI (R j)))) e39 e40 e41 e42 e43 e44 e45 e46 e47 e48), kc, kn) O) : JR M_Mo_load sc (42, [(0, .ref 35), (1, .int (nI k))], [], (HP e0 e1 e2 e3 e4 e5 e6 e7 e8 e9 e10 e11 e12 e13 e14 e15 e16 e17 e18 e19 e20 e21 e22 e23 e24 e25 e26 e27 e28 e29 e30 e31 e32 e33 e34 (MOb th (nI m) (nI g) (nI w) (nI p) (nI P) (nI i) (nI s) gn (nI t) (nI bl) y.1 y.2.1 y.2.2.1 y.2.2.2.1 y.2.2.2.2.1 (nI n) m24 m25 m30 m31 m33 m34 m35 m36 m37 m38 m39) (.inl (0, 24, .inl (fun j => nI ((tbF B F) j)))) e37 (.inl (0, 300, .inl (fun j => nI (R j)))) e39 e40 e41 e42 e43 e44 e45 e46 e47 e48), kc, kn) O := by
  refine J.gp ok_Mo_load 3 (47, [(0, .ref 35), (1, .int (nI k))], [.int (nI n), .int (nI k)], _, _, _) rfl ?_
  refine J.icF ok_Mo_load (fun x y => y ≤ x) 152 50 rfl (fun h9 => absurd ((nI_leI (a := n) (b := k) (by omega) (by omega)).mp h9) (by omega)) ?_
  refine J.gp ok_Mo_load 5 (58, [(0, .ref 35), (1, .int (nI k))], [.int (10 * nI k), .ref 38], _, _, _) rfl ?_
  rw [show ((10 * nI k) : Int32) = nI (10 * k) from pk_mul 10 k]
  refine J.ialdB ok_Mo_load 59 (10 * k) rfl rfl (rfl) (by omega) (by decide) ?_
  refine J.gp ok_Mo_load 0 (59, [(0, .ref 35), (1, .int (nI k))], [.int (nI (R (10 * k)))], (HP e0 e1 e2 e3 e4 e5 e6 e7 e8 e9 e10 e11 e12 e13 e14 e15 e16 e17 e18 e19 e20 e21 e22 e23 e24 e25 e26 e27 e28 e29 e30 e31 e32 e33 e34 (MOb th (nI m) (nI g) (nI w) (nI p) (nI P) (nI i) (nI s) gn (nI t) (nI bl) y.1 y.2.1 y.2.2.1 y.2.2.2.1 y.2.2.2.2.1 (nI n) m24 m25 m30 m31 m33 m34 m35 m36 m37 m38 m39) (.inl (0, 24, .inl (fun j => nI ((tbF B F) j)))) e37 (.inl (0, 300, .inl (fun j => nI (R j)))) e39 e40 e41 e42 e43 e44 e45 e46 e47 e48), kc, kn) rfl ?_
  refine J.gp ok_Mo_load 1 (60, [(0, .ref 35), (1, .int (nI k))], [.int 3, .int (nI (R (10 * k)))], _, _, _) rfl ?_
  refine J.icT ok_Mo_load (fun x y => ¬ x = y) 86 63 rfl (fun h9 => absurd ((nI_eq (a := R (10 * k)) (b := 3) (by omega) (by omega)).mp h9) (by omega)) ?_
  refine J.gp ok_Mo_load 2 (88, [(0, .ref 35), (1, .int (nI k)), (2, .int 0)], [], _, _, _) rfl ?_
  exact K1

set_option maxRecDepth 100000 in
set_option maxHeartbeats 400000 in
theorem g_Mo_ml5 {sc : aScr} {e0 e1 e2 e3 e4 e5 e6 e7 e8 e9 e10 e11 e12 e13 e14 e15 e16 e17 e18 e19 e20 e21 e22 e23 e24 e25 e26 e27 e28 e29 e30 e31 e32 e33 e34 e37 e39 e40 e41 e42 e43 e44 e45 e46 e47 e48 : va_E} {m31 m36 th gn : Int32} {m24 m25 m30 m33 m34 m35 m37 m38 m39 : Int64} {m g w p P i s t bl : Nat} {R : Nat → Nat} {y : M6} {n : Nat} {B F : Nat → Nat} {k q : Nat} {kc kn : Nat} {O : Option Value → aH → Prop} (hm : m ≤ 4) (hn : n ≤ 29) (hk : k < n) (hq : q < m) (h3 : R (10 * k) < 3) (K1 : JR M_Mo_load sc (88, [(0, .ref 35), (1, .int (nI k)), (2, .int (nI (q + 1)))], [], (HP e0 e1 e2 e3 e4 e5 e6 e7 e8 e9 e10 e11 e12 e13 e14 e15 e16 e17 e18 e19 e20 e21 e22 e23 e24 e25 e26 e27 e28 e29 e30 e31 e32 e33 e34 (MOb th (nI m) (nI g) (nI w) (nI p) (nI P) (nI i) (nI s) gn (nI t) (nI bl) y.1 y.2.1 y.2.2.1 y.2.2.2.1 y.2.2.2.2.1 (nI n) m24 m25 m30 m31 m33 m34 m35 m36 m37 m38 m39) (.inl (0, 24, .inl (fun j => nI ((tbF (va_up B (R (10 * k) * 4 + q) (R (((10 * k) + 1) + (2 * q)))) (va_up F (R (10 * k) * 4 + q) (R (((10 * k) + 2) + (2 * q))))) j)))) e37 (.inl (0, 300, .inl (fun j => nI (R j)))) e39 e40 e41 e42 e43 e44 e45 e46 e47 e48), kc, kn) O) : JR M_Mo_load sc (88, [(0, .ref 35), (1, .int (nI k)), (2, .int (nI q))], [], (HP e0 e1 e2 e3 e4 e5 e6 e7 e8 e9 e10 e11 e12 e13 e14 e15 e16 e17 e18 e19 e20 e21 e22 e23 e24 e25 e26 e27 e28 e29 e30 e31 e32 e33 e34 (MOb th (nI m) (nI g) (nI w) (nI p) (nI P) (nI i) (nI s) gn (nI t) (nI bl) y.1 y.2.1 y.2.2.1 y.2.2.2.1 y.2.2.2.2.1 (nI n) m24 m25 m30 m31 m33 m34 m35 m36 m37 m38 m39) (.inl (0, 24, .inl (fun j => nI ((tbF B F) j)))) e37 (.inl (0, 300, .inl (fun j => nI (R j)))) e39 e40 e41 e42 e43 e44 e45 e46 e47 e48), kc, kn) O := by
  refine J.gp ok_Mo_load 3 (93, [(0, .ref 35), (1, .int (nI k)), (2, .int (nI q))], [.int (nI m), .int (nI q)], _, _, _) rfl ?_
  refine J.icF ok_Mo_load (fun x y => y ≤ x) 146 96 rfl (fun h9 => absurd ((nI_leI (a := m) (b := q) (by omega) (by omega)).mp h9) (by omega)) ?_
  refine J.gp ok_Mo_load 6 (105, [(0, .ref 35), (1, .int (nI k)), (2, .int (nI q))], [.int (10 * nI k), .ref 38, .ref 35], _, _, _) rfl ?_
  rw [show ((10 * nI k) : Int32) = nI (10 * k) from pk_mul 10 k]
  refine J.ialdB ok_Mo_load 106 (10 * k) rfl rfl (rfl) (by omega) (by decide) ?_
  refine J.gp ok_Mo_load 0 (106, [(0, .ref 35), (1, .int (nI k)), (2, .int (nI q))], [.int (nI (R (10 * k))), .ref 35], (HP e0 e1 e2 e3 e4 e5 e6 e7 e8 e9 e10 e11 e12 e13 e14 e15 e16 e17 e18 e19 e20 e21 e22 e23 e24 e25 e26 e27 e28 e29 e30 e31 e32 e33 e34 (MOb th (nI m) (nI g) (nI w) (nI p) (nI P) (nI i) (nI s) gn (nI t) (nI bl) y.1 y.2.1 y.2.2.1 y.2.2.2.1 y.2.2.2.2.1 (nI n) m24 m25 m30 m31 m33 m34 m35 m36 m37 m38 m39) (.inl (0, 24, .inl (fun j => nI ((tbF B F) j)))) e37 (.inl (0, 300, .inl (fun j => nI (R j)))) e39 e40 e41 e42 e43 e44 e45 e46 e47 e48), kc, kn) rfl ?_
  refine J.gp ok_Mo_load 6 (115, [(0, .ref 35), (1, .int (nI k)), (2, .int (nI q))], [.int (10 * nI k), .ref 38, .int (nI q), .int (nI (R (10 * k))), .ref 35], _, _, _) rfl ?_
  rw [show ((10 * nI k) : Int32) = nI (10 * k) from pk_mul 10 k]
  refine J.gp ok_Mo_load 2 (117, [(0, .ref 35), (1, .int (nI k)), (2, .int (nI q))], [.int (nI (10 * k) + 1), .ref 38, .int (nI q), .int (nI (R (10 * k))), .ref 35], _, _, _) rfl ?_
  rw [show ((nI (10 * k) + 1) : Int32) = nI ((10 * k) + 1) from nI_add (10 * k) 1]
  refine J.gp ok_Mo_load 3 (120, [(0, .ref 35), (1, .int (nI k)), (2, .int (nI q))], [.int (2 * nI q), .int (nI ((10 * k) + 1)), .ref 38, .int (nI q), .int (nI (R (10 * k))), .ref 35], _, _, _) rfl ?_
  rw [show ((2 * nI q) : Int32) = nI (2 * q) from pk_mul 2 q]
  refine J.gp ok_Mo_load 1 (121, [(0, .ref 35), (1, .int (nI k)), (2, .int (nI q))], [.int (nI ((10 * k) + 1) + nI (2 * q)), .ref 38, .int (nI q), .int (nI (R (10 * k))), .ref 35], _, _, _) rfl ?_
  rw [show ((nI ((10 * k) + 1) + nI (2 * q)) : Int32) = nI (((10 * k) + 1) + (2 * q)) from nI_add ((10 * k) + 1) (2 * q)]
  refine J.ialdB ok_Mo_load 122 (((10 * k) + 1) + (2 * q)) rfl rfl (rfl) (by omega) (by decide) ?_
  refine J.gp ok_Mo_load 0 (122, [(0, .ref 35), (1, .int (nI k)), (2, .int (nI q))], [.int (nI (R (((10 * k) + 1) + (2 * q)))), .int (nI q), .int (nI (R (10 * k))), .ref 35], (HP e0 e1 e2 e3 e4 e5 e6 e7 e8 e9 e10 e11 e12 e13 e14 e15 e16 e17 e18 e19 e20 e21 e22 e23 e24 e25 e26 e27 e28 e29 e30 e31 e32 e33 e34 (MOb th (nI m) (nI g) (nI w) (nI p) (nI P) (nI i) (nI s) gn (nI t) (nI bl) y.1 y.2.1 y.2.2.1 y.2.2.2.1 y.2.2.2.2.1 (nI n) m24 m25 m30 m31 m33 m34 m35 m36 m37 m38 m39) (.inl (0, 24, .inl (fun j => nI ((tbF B F) j)))) e37 (.inl (0, 300, .inl (fun j => nI (R j)))) e39 e40 e41 e42 e43 e44 e45 e46 e47 e48), kc, kn) rfl ?_
  refine J.gp ok_Mo_load 5 (130, [(0, .ref 35), (1, .int (nI k)), (2, .int (nI q))], [.int (10 * nI k), .ref 38, .int (nI (R (((10 * k) + 1) + (2 * q)))), .int (nI q), .int (nI (R (10 * k))), .ref 35], _, _, _) rfl ?_
  rw [show ((10 * nI k) : Int32) = nI (10 * k) from pk_mul 10 k]
  refine J.gp ok_Mo_load 2 (132, [(0, .ref 35), (1, .int (nI k)), (2, .int (nI q))], [.int (nI (10 * k) + 2), .ref 38, .int (nI (R (((10 * k) + 1) + (2 * q)))), .int (nI q), .int (nI (R (10 * k))), .ref 35], _, _, _) rfl ?_
  rw [show ((nI (10 * k) + 2) : Int32) = nI ((10 * k) + 2) from nI_add (10 * k) 2]
  refine J.gp ok_Mo_load 3 (135, [(0, .ref 35), (1, .int (nI k)), (2, .int (nI q))], [.int (2 * nI q), .int (nI ((10 * k) + 2)), .ref 38, .int (nI (R (((10 * k) + 1) + (2 * q)))), .int (nI q), .int (nI (R (10 * k))), .ref 35], _, _, _) rfl ?_
  rw [show ((2 * nI q) : Int32) = nI (2 * q) from pk_mul 2 q]
  refine J.gp ok_Mo_load 1 (136, [(0, .ref 35), (1, .int (nI k)), (2, .int (nI q))], [.int (nI ((10 * k) + 2) + nI (2 * q)), .ref 38, .int (nI (R (((10 * k) + 1) + (2 * q)))), .int (nI q), .int (nI (R (10 * k))), .ref 35], _, _, _) rfl ?_
  rw [show ((nI ((10 * k) + 2) + nI (2 * q)) : Int32) = nI (((10 * k) + 2) + (2 * q)) from nI_add ((10 * k) + 2) (2 * q)]
  refine J.ialdB ok_Mo_load 137 (((10 * k) + 2) + (2 * q)) rfl rfl (rfl) (by omega) (by decide) ?_
  refine J.gp ok_Mo_load 0 (137, [(0, .ref 35), (1, .int (nI k)), (2, .int (nI q))], [.int (nI (R (((10 * k) + 2) + (2 * q)))), .int (nI (R (((10 * k) + 1) + (2 * q)))), .int (nI q), .int (nI (R (10 * k))), .ref 35], (HP e0 e1 e2 e3 e4 e5 e6 e7 e8 e9 e10 e11 e12 e13 e14 e15 e16 e17 e18 e19 e20 e21 e22 e23 e24 e25 e26 e27 e28 e29 e30 e31 e32 e33 e34 (MOb th (nI m) (nI g) (nI w) (nI p) (nI P) (nI i) (nI s) gn (nI t) (nI bl) y.1 y.2.1 y.2.2.1 y.2.2.2.1 y.2.2.2.2.1 (nI n) m24 m25 m30 m31 m33 m34 m35 m36 m37 m38 m39) (.inl (0, 24, .inl (fun j => nI ((tbF B F) j)))) e37 (.inl (0, 300, .inl (fun j => nI (R j)))) e39 e40 e41 e42 e43 e44 e45 e46 e47 e48), kc, kn) rfl ?_
  refine J.callVE s_Mo_load_137 140 35 [.int (nI (R (10 * k))), .int (nI q), .int (nI (R (((10 * k) + 1) + (2 * q)))), .int (nI (R (((10 * k) + 2) + (2 * q))))] 10 (c_Mo_put h3 (by omega)) rfl rfl rfl rfl rfl (Nat.le_of_ble_eq_true rfl) rfl ?_
  refine J.gp ok_Mo_load 0 (140, [(0, .ref 35), (1, .int (nI k)), (2, .int (nI q))], [], (HP e0 e1 e2 e3 e4 e5 e6 e7 e8 e9 e10 e11 e12 e13 e14 e15 e16 e17 e18 e19 e20 e21 e22 e23 e24 e25 e26 e27 e28 e29 e30 e31 e32 e33 e34 (MOb th (nI m) (nI g) (nI w) (nI p) (nI P) (nI i) (nI s) gn (nI t) (nI bl) y.1 y.2.1 y.2.2.1 y.2.2.2.1 y.2.2.2.2.1 (nI n) m24 m25 m30 m31 m33 m34 m35 m36 m37 m38 m39) (.inl (0, 24, .inl (fun j => nI ((tbF (va_up B (R (10 * k) * 4 + q) (R (((10 * k) + 1) + (2 * q)))) (va_up F (R (10 * k) * 4 + q) (R (((10 * k) + 2) + (2 * q))))) j)))) e37 (.inl (0, 300, .inl (fun j => nI (R j)))) e39 e40 e41 e42 e43 e44 e45 e46 e47 e48), kc, kn) rfl ?_
  refine J.gp ok_Mo_load 1 (143, [(0, .ref 35), (1, .int (nI k)), (2, .int (nI q + 1))], [], _, _, _) rfl ?_
  rw [show ((nI q + 1) : Int32) = nI (q + 1) from nI_add q 1]
  refine J.gp ok_Mo_load 1 (88, [(0, .ref 35), (1, .int (nI k)), (2, .int (nI (q + 1)))], [], _, _, _) rfl ?_
  exact K1

set_option maxRecDepth 100000 in
set_option maxHeartbeats 400000 in
theorem g_Mo_ml6 {sc : aScr} {e0 e1 e2 e3 e4 e5 e6 e7 e8 e9 e10 e11 e12 e13 e14 e15 e16 e17 e18 e19 e20 e21 e22 e23 e24 e25 e26 e27 e28 e29 e30 e31 e32 e33 e34 e37 e39 e40 e41 e42 e43 e44 e45 e46 e47 e48 : va_E} {m31 m36 th gn : Int32} {m24 m25 m30 m33 m34 m35 m37 m38 m39 : Int64} {m g w p P i s t bl : Nat} {R : Nat → Nat} {y : M6} {n : Nat} {B F : Nat → Nat} {k : Nat} {kc kn : Nat} {O : Option Value → aH → Prop} (hm : m ≤ 4) (K1 : JR M_Mo_load sc (42, [(0, .ref 35), (1, .int (nI (k + 1)))], [], (HP e0 e1 e2 e3 e4 e5 e6 e7 e8 e9 e10 e11 e12 e13 e14 e15 e16 e17 e18 e19 e20 e21 e22 e23 e24 e25 e26 e27 e28 e29 e30 e31 e32 e33 e34 (MOb th (nI m) (nI g) (nI w) (nI p) (nI P) (nI i) (nI s) gn (nI t) (nI bl) y.1 y.2.1 y.2.2.1 y.2.2.2.1 y.2.2.2.2.1 (nI n) m24 m25 m30 m31 m33 m34 m35 m36 m37 m38 m39) (.inl (0, 24, .inl (fun j => nI ((tbF B F) j)))) e37 (.inl (0, 300, .inl (fun j => nI (R j)))) e39 e40 e41 e42 e43 e44 e45 e46 e47 e48), kc, kn) O) : JR M_Mo_load sc (88, [(0, .ref 35), (1, .int (nI k)), (2, .int (nI m))], [], (HP e0 e1 e2 e3 e4 e5 e6 e7 e8 e9 e10 e11 e12 e13 e14 e15 e16 e17 e18 e19 e20 e21 e22 e23 e24 e25 e26 e27 e28 e29 e30 e31 e32 e33 e34 (MOb th (nI m) (nI g) (nI w) (nI p) (nI P) (nI i) (nI s) gn (nI t) (nI bl) y.1 y.2.1 y.2.2.1 y.2.2.2.1 y.2.2.2.2.1 (nI n) m24 m25 m30 m31 m33 m34 m35 m36 m37 m38 m39) (.inl (0, 24, .inl (fun j => nI ((tbF B F) j)))) e37 (.inl (0, 300, .inl (fun j => nI (R j)))) e39 e40 e41 e42 e43 e44 e45 e46 e47 e48), kc, kn) O := by
  refine J.gp ok_Mo_load 3 (93, [(0, .ref 35), (1, .int (nI k)), (2, .int (nI m))], [.int (nI m), .int (nI m)], _, _, _) rfl ?_
  refine J.icT ok_Mo_load (fun x y => y ≤ x) 146 96 rfl ((nI_leI (a := m) (b := m) (by omega) (by omega)).mpr (by omega)) ?_
  refine J.gp ok_Mo_load 1 (149, [(0, .ref 35), (1, .int (nI k + 1)), (2, .int (nI m))], [], _, _, _) rfl ?_
  rw [show ((nI k + 1) : Int32) = nI (k + 1) from nI_add k 1]
  refine J.gp ok_Mo_load 1 (42, [(0, .ref 35), (1, .int (nI (k + 1))), (2, .int (nI m))], [], _, _, _) rfl ?_
  refine J.lv [0, 1] [(0, .ref 35), (1, .int (nI (k + 1)))] rfl ?_
  exact K1

set_option maxRecDepth 100000 in
set_option maxHeartbeats 400000 in
theorem g_Mo_ml7 {sc : aScr} {e0 e1 e2 e3 e4 e5 e6 e7 e8 e9 e10 e11 e12 e13 e14 e15 e16 e17 e18 e19 e20 e21 e22 e23 e24 e25 e26 e27 e28 e29 e30 e31 e32 e33 e34 e37 e39 e40 e41 e42 e43 e44 e45 e46 e47 e48 : va_E} {m31 m36 th gn : Int32} {m24 m25 m30 m33 m34 m35 m37 m38 m39 : Int64} {m g w p P i s t bl : Nat} {R : Nat → Nat} {y : M6} {n : Nat} {B F : Nat → Nat} {kc kn : Nat} {O : Option Value → aH → Prop} (hn : n ≤ 29) (K1 : O (some (.int (nI n))) (HP e0 e1 e2 e3 e4 e5 e6 e7 e8 e9 e10 e11 e12 e13 e14 e15 e16 e17 e18 e19 e20 e21 e22 e23 e24 e25 e26 e27 e28 e29 e30 e31 e32 e33 e34 (MOb th (nI m) (nI g) (nI w) (nI p) (nI P) (nI i) (nI s) gn (nI t) 0 y.1 y.2.1 y.2.2.1 y.2.2.2.1 y.2.2.2.2.1 (nI n) m24 m25 m30 m31 m33 m34 m35 m36 m37 m38 m39) (.inl (0, 24, .inl (fun j => nI ((tbF B F) j)))) e37 (.inl (0, 300, .inl (fun j => nI (R j)))) e39 e40 e41 e42 e43 e44 e45 e46 e47 e48)) : JR M_Mo_load sc (42, [(0, .ref 35), (1, .int (nI n))], [], (HP e0 e1 e2 e3 e4 e5 e6 e7 e8 e9 e10 e11 e12 e13 e14 e15 e16 e17 e18 e19 e20 e21 e22 e23 e24 e25 e26 e27 e28 e29 e30 e31 e32 e33 e34 (MOb th (nI m) (nI g) (nI w) (nI p) (nI P) (nI i) (nI s) gn (nI t) (nI bl) y.1 y.2.1 y.2.2.1 y.2.2.2.1 y.2.2.2.2.1 (nI n) m24 m25 m30 m31 m33 m34 m35 m36 m37 m38 m39) (.inl (0, 24, .inl (fun j => nI ((tbF B F) j)))) e37 (.inl (0, 300, .inl (fun j => nI (R j)))) e39 e40 e41 e42 e43 e44 e45 e46 e47 e48), kc, kn) O := by
  refine J.gp ok_Mo_load 3 (47, [(0, .ref 35), (1, .int (nI n))], [.int (nI n), .int (nI n)], _, _, _) rfl ?_
  refine J.icT ok_Mo_load (fun x y => y ≤ x) 152 50 rfl ((nI_leI (a := n) (b := n) (by omega) (by omega)).mpr (by omega)) ?_
  refine J.gp ok_Mo_load 3 (157, [(0, .ref 35), (1, .int (nI n))], [], (HP e0 e1 e2 e3 e4 e5 e6 e7 e8 e9 e10 e11 e12 e13 e14 e15 e16 e17 e18 e19 e20 e21 e22 e23 e24 e25 e26 e27 e28 e29 e30 e31 e32 e33 e34 (MOb th (nI m) (nI g) (nI w) (nI p) (nI P) (nI i) (nI s) gn (nI t) 0 y.1 y.2.1 y.2.2.1 y.2.2.2.1 y.2.2.2.2.1 (nI n) m24 m25 m30 m31 m33 m34 m35 m36 m37 m38 m39) (.inl (0, 24, .inl (fun j => nI ((tbF B F) j)))) e37 (.inl (0, 300, .inl (fun j => nI (R j)))) e39 e40 e41 e42 e43 e44 e45 e46 e47 e48), _, _) rfl ?_
  refine J.gp ok_Mo_load 2 (161, [(0, .ref 35), (1, .int (nI n))], [.int (nI n)], _, _, _) rfl ?_
  refine JR.iret .int (by decide +kernel) rfl (rfl) ?_
  exact K1

set_option maxRecDepth 100000 in
set_option maxHeartbeats 1000000 in
/-- the items carried out, one by one -/
theorem Mo_items {e0 e1 e2 e3 e4 e5 e6 e7 e8 e9 e10 e11 e12 e13 e14 e15 e16 e17 e18 e19 e20 e21 e22 e23 e24 e25 e26 e27 e28 e29 e30 e31 e32 e33 e34 e37 e39 e40 e41 e42 e43 e44 e45 e46 e47 e48 : va_E} {m31 m36 th gn : Int32} {m24 m25 m30 m33 m34 m35 m37 m38 m39 : Int64} {m g w p P i s t bl : Nat} {R : Nat → Nat} {y : M6} {n : Nat} {B F : Nat → Nat} (hm : m ≤ 4) (hn : n ≤ 29) (hR : ∀ k, k < n → R (10 * k) ≤ 3) : JR M_Mo_load none (42, [(0, .ref 35), (1, .int (nI 0))], [], (HP e0 e1 e2 e3 e4 e5 e6 e7 e8 e9 e10 e11 e12 e13 e14 e15 e16 e17 e18 e19 e20 e21 e22 e23 e24 e25 e26 e27 e28 e29 e30 e31 e32 e33 e34 (MOb th (nI m) (nI g) (nI w) (nI p) (nI P) (nI i) (nI s) gn (nI t) (nI bl) y.1 y.2.1 y.2.2.1 y.2.2.2.1 y.2.2.2.2.1 (nI n) m24 m25 m30 m31 m33 m34 m35 m36 m37 m38 m39) (.inl (0, 24, .inl (fun j => nI ((tbF B F) j)))) e37 (.inl (0, 300, .inl (fun j => nI (R j)))) e39 e40 e41 e42 e43 e44 e45 e46 e47 e48), 0, 0) (OE (some (.int (nI n))) (HP e0 e1 e2 e3 e4 e5 e6 e7 e8 e9 e10 e11 e12 e13 e14 e15 e16 e17 e18 e19 e20 e21 e22 e23 e24 e25 e26 e27 e28 e29 e30 e31 e32 e33 e34 (MOb th (nI m) (nI g) (nI w) (nI p) (nI ((apF m R n (B, F, P, i)).2.2.1)) (nI ((apF m R n (B, F, P, i)).2.2.2)) (nI s) gn (nI t) 0 y.1 y.2.1 y.2.2.1 y.2.2.2.1 y.2.2.2.2.1 (nI n) m24 m25 m30 m31 m33 m34 m35 m36 m37 m38 m39) (.inl (0, 24, .inl (fun j => nI ((tbF (apF m R n (B, F, P, i)).1 (apF m R n (B, F, P, i)).2.1) j)))) e37 (.inl (0, 300, .inl (fun j => nI (R j)))) e39 e40 e41 e42 e43 e44 e45 e46 e47 e48)) := by
  have K := loopN (P := fun k => JR M_Mo_load none (42, [(0, .ref 35), (1, .int (nI k))], [], (HP e0 e1 e2 e3 e4 e5 e6 e7 e8 e9 e10 e11 e12 e13 e14 e15 e16 e17 e18 e19 e20 e21 e22 e23 e24 e25 e26 e27 e28 e29 e30 e31 e32 e33 e34 (MOb th (nI m) (nI g) (nI w) (nI p) (nI ((apF m R k (B, F, P, i)).2.2.1)) (nI ((apF m R k (B, F, P, i)).2.2.2)) (nI s) gn (nI t) (nI bl) y.1 y.2.1 y.2.2.1 y.2.2.2.1 y.2.2.2.2.1 (nI n) m24 m25 m30 m31 m33 m34 m35 m36 m37 m38 m39) (.inl (0, 24, .inl (fun j => nI ((tbF (apF m R k (B, F, P, i)).1 (apF m R k (B, F, P, i)).2.1) j)))) e37 (.inl (0, 300, .inl (fun j => nI (R j)))) e39 e40 e41 e42 e43 e44 e45 e46 e47 e48), 0, 0) (OE (some (.int (nI n))) (HP e0 e1 e2 e3 e4 e5 e6 e7 e8 e9 e10 e11 e12 e13 e14 e15 e16 e17 e18 e19 e20 e21 e22 e23 e24 e25 e26 e27 e28 e29 e30 e31 e32 e33 e34 (MOb th (nI m) (nI g) (nI w) (nI p) (nI ((apF m R n (B, F, P, i)).2.2.1)) (nI ((apF m R n (B, F, P, i)).2.2.2)) (nI s) gn (nI t) 0 y.1 y.2.1 y.2.2.1 y.2.2.2.1 y.2.2.2.2.1 (nI n) m24 m25 m30 m31 m33 m34 m35 m36 m37 m38 m39) (.inl (0, 24, .inl (fun j => nI ((tbF (apF m R n (B, F, P, i)).1 (apF m R n (B, F, P, i)).2.1) j)))) e37 (.inl (0, 300, .inl (fun j => nI (R j)))) e39 e40 e41 e42 e43 e44 e45 e46 e47 e48))) (b := n) ?_ (fun k hk ih => ?_) 0 (Nat.zero_le _)
  · exact K
  · exact g_Mo_ml7 (P := (apF m R n (B, F, P, i)).2.2.1) (i := (apF m R n (B, F, P, i)).2.2.2) (B := (apF m R n (B, F, P, i)).1) (F := (apF m R n (B, F, P, i)).2.1) hn ⟨rfl, rfl⟩
  · have e : (apF m R (k + 1) (B, F, P, i)) = apS m R k (apF m R k (B, F, P, i)) := rfl
    rw [e] at ih
    unfold apS at ih
    by_cases h3 : R (10 * k) = 3
    · rw [if_pos h3] at ih
      exact g_Mo_ml3 (P := (apF m R k (B, F, P, i)).2.2.1) (i := (apF m R k (B, F, P, i)).2.2.2) (B := (apF m R k (B, F, P, i)).1) (F := (apF m R k (B, F, P, i)).2.1) hn hk h3 ih
    · rw [if_neg h3] at ih
      have h4 : R (10 * k) < 3 := by have := hR k hk; omega
      refine g_Mo_ml4 (P := (apF m R k (B, F, P, i)).2.2.1) (i := (apF m R k (B, F, P, i)).2.2.2) (B := (apF m R k (B, F, P, i)).1) (F := (apF m R k (B, F, P, i)).2.1) hn hk h4 ?_
      have K2 := loopN (P := fun q => JR M_Mo_load none (88, [(0, .ref 35), (1, .int (nI k)), (2, .int (nI q))], [], (HP e0 e1 e2 e3 e4 e5 e6 e7 e8 e9 e10 e11 e12 e13 e14 e15 e16 e17 e18 e19 e20 e21 e22 e23 e24 e25 e26 e27 e28 e29 e30 e31 e32 e33 e34 (MOb th (nI m) (nI g) (nI w) (nI p) (nI ((apI (R (10 * k)) R k q (apF m R k (B, F, P, i))).2.2.1)) (nI ((apI (R (10 * k)) R k q (apF m R k (B, F, P, i))).2.2.2)) (nI s) gn (nI t) (nI bl) y.1 y.2.1 y.2.2.1 y.2.2.2.1 y.2.2.2.2.1 (nI n) m24 m25 m30 m31 m33 m34 m35 m36 m37 m38 m39) (.inl (0, 24, .inl (fun j => nI ((tbF (apI (R (10 * k)) R k q (apF m R k (B, F, P, i))).1 (apI (R (10 * k)) R k q (apF m R k (B, F, P, i))).2.1) j)))) e37 (.inl (0, 300, .inl (fun j => nI (R j)))) e39 e40 e41 e42 e43 e44 e45 e46 e47 e48), 0, 0) (OE (some (.int (nI n))) (HP e0 e1 e2 e3 e4 e5 e6 e7 e8 e9 e10 e11 e12 e13 e14 e15 e16 e17 e18 e19 e20 e21 e22 e23 e24 e25 e26 e27 e28 e29 e30 e31 e32 e33 e34 (MOb th (nI m) (nI g) (nI w) (nI p) (nI ((apF m R n (B, F, P, i)).2.2.1)) (nI ((apF m R n (B, F, P, i)).2.2.2)) (nI s) gn (nI t) 0 y.1 y.2.1 y.2.2.1 y.2.2.2.1 y.2.2.2.2.1 (nI n) m24 m25 m30 m31 m33 m34 m35 m36 m37 m38 m39) (.inl (0, 24, .inl (fun j => nI ((tbF (apF m R n (B, F, P, i)).1 (apF m R n (B, F, P, i)).2.1) j)))) e37 (.inl (0, 300, .inl (fun j => nI (R j)))) e39 e40 e41 e42 e43 e44 e45 e46 e47 e48))) (b := m) ?_ (fun q hq ihq => ?_) 0 (Nat.zero_le _)
      · exact K2
      · exact g_Mo_ml6 (P := (apI (R (10 * k)) R k m (apF m R k (B, F, P, i))).2.2.1) (i := (apI (R (10 * k)) R k m (apF m R k (B, F, P, i))).2.2.2) (B := (apI (R (10 * k)) R k m (apF m R k (B, F, P, i))).1) (F := (apI (R (10 * k)) R k m (apF m R k (B, F, P, i))).2.1) hm ih
      · exact g_Mo_ml5 (P := (apI (R (10 * k)) R k q (apF m R k (B, F, P, i))).2.2.1) (i := (apI (R (10 * k)) R k q (apF m R k (B, F, P, i))).2.2.2) (B := (apI (R (10 * k)) R k q (apF m R k (B, F, P, i))).1) (F := (apI (R (10 * k)) R k q (apF m R k (B, F, P, i))).2.1) hm hn hk hq h4 ihq
