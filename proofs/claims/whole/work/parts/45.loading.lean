/-! THE FACE: firstError, load -/
/-- n characters from place k on, as far as they are read: the place, the reader -/
def feF (m : Nat) (T : Nat → Nat) : Nat → Nat → Rd → Nat × Rd
  | 0, k, r => (k, r)
  | n + 1, k, r => match rdT m (T k) r with
    | none => (k, r)
    | some r' => feF m T n (k + 1) r'
def rd0 : Rd := (0, 0, 0, 0, 0, 0, 0)
abbrev Ld : Type := (Nat → Nat) × (Nat → Nat) × Nat × Nat
/-- what is carried out behind a character -/
def ldS (r : Rd) (s : Ld) : Ld :=
  if r.1 = 4 then (va_up s.1 (r.2.2.1 * 4 + (r.2.2.2.1 - 1)) r.2.2.2.2.1, va_up s.2.1 (r.2.2.1 * 4 + (r.2.2.2.1 - 1)) r.2.2.2.2.2.2, s.2.2) else if r.1 = 7 then (s.1, s.2.1, r.2.2.2.2.2.1, 0) else s
def ldF (m : Nat) (T : Nat → Nat) : Nat → Nat → Rd → Ld → Rd × Ld
  | 0, _, r, s => (r, s)
  | n + 1, k, r, s => match rdT m (T k) r with
    | none => (r, s)
    | some r' => ldF m T n (k + 1) r' (ldS r' s)
def rdEnd (m : Nat) (r : Rd) : Prop := r.1 = 7 ∨ (r.1 = 4 ∧ r.2.2.2.1 = m)
theorem feF_le (m : Nat) (T : Nat → Nat) (n k : Nat) (r : Rd) : (feF m T n k r).1 ≤ k + n := by
  induction n generalizing k r with
  | zero => exact Nat.le_refl _
  | succ n ih =>
    unfold feF
    split
    · exact Nat.le_add_right _ _
    · have := ih (k + 1) (by assumption)
      omega
theorem feF_I {m : Nat} {T : Nat → Nat} (hm : 0 < m) (n k : Nat) {r : Rd} (h : RdI m r) : RdI m (feF m T n k r).2 := by
  induction n generalizing k r with
  | zero => exact h
  | succ n ih =>
    unfold feF
    split
    · exact h
    · exact ih (k + 1) (RdI_T hm (by assumption) h)
theorem feF_full {m : Nat} {T : Nat → Nat} {n k : Nat} {r r' : Rd} (h : rdT m (T k) r = some r') : feF m T (n + 1) k r = feF m T n (k + 1) r' := by
  unfold feF
  rw [h]
  cases n <;> rfl
theorem feF_none {m : Nat} {T : Nat → Nat} {n k : Nat} {r : Rd} (h : rdT m (T k) r = none) : feF m T (n + 1) k r = (k, r) := by
  unfold feF
  rw [h]
theorem ldF_some {m : Nat} {T : Nat → Nat} {n k : Nat} {r r' : Rd} {s : Ld} (h : rdT m (T k) r = some r') : ldF m T (n + 1) k r s = ldF m T n (k + 1) r' (ldS r' s) := by
  unfold ldF
  rw [h]
  cases n <;> rfl
theorem rdI_0 {m it le pa ba pr fo : Nat} : RdI m (0, it, le, pa, ba, pr, fo) := trivial

set_option maxRecDepth 100000 in
set_option maxHeartbeats 400000 in
theorem g_F_codeAtP {sc : aScr} {e1 e2 e3 e4 e5 e6 e9 e10 e11 e12 e13 e14 e15 e16 e17 e18 e19 e20 e21 e22 e23 e24 e25 e26 e27 e28 e29 e30 e31 e32 e33 e34 e35 e36 e37 e38 e39 e40 e41 e42 e43 e44 e45 e46 e47 e48 : va_E} {P : Int32} {bl j : Nat} {T : Nat → Nat} {kc kn : Nat} {O : Option Value → aH → Prop} (hj : j < 60) (K1 : O (some (.int (nI (T j)))) (HP (.inr (9, [.ref 1, .ref 6, .int P, .ref 7, .int (nI bl), .ref 9, .ref 10, .ref 13, .ref 18, .ref 32, .ref 33])) e1 e2 e3 e4 e5 e6 (.inr (4, [.ref 8])) (.inl (1, 60, .inr (.inl (fun j => lN (T j))))) e9 e10 e11 e12 e13 e14 e15 e16 e17 e18 e19 e20 e21 e22 e23 e24 e25 e26 e27 e28 e29 e30 e31 e32 e33 e34 e35 e36 e37 e38 e39 e40 e41 e42 e43 e44 e45 e46 e47 e48)) : JR M_F_codeAt sc (0, [(0, .ref 0), (1, .int (nI j))], [], (HP (.inr (9, [.ref 1, .ref 6, .int P, .ref 7, .int (nI bl), .ref 9, .ref 10, .ref 13, .ref 18, .ref 32, .ref 33])) e1 e2 e3 e4 e5 e6 (.inr (4, [.ref 8])) (.inl (1, 60, .inr (.inl (fun j => lN (T j))))) e9 e10 e11 e12 e13 e14 e15 e16 e17 e18 e19 e20 e21 e22 e23 e24 e25 e26 e27 e28 e29 e30 e31 e32 e33 e34 e35 e36 e37 e38 e39 e40 e41 e42 e43 e44 e45 e46 e47 e48), kc, kn) O := by
  refine J.gp ok_F_codeAt 3 (5, [(0, .ref 0), (1, .int (nI j))], [.int (nI j), .ref 7], _, _, _) rfl ?_
  refine J.callVE s_F_codeAt_5 8 7 [.int (nI j)] 4 (c_Rw_get_7 (j := j) (by omega)) rfl rfl rfl rfl rfl (Nat.le_of_ble_eq_true rfl) rfl ?_
  refine J.gp ok_F_codeAt 0 (8, [(0, .ref 0), (1, .int (nI j))], [.long (lN (T j))], (HP (.inr (9, [.ref 1, .ref 6, .int P, .ref 7, .int (nI bl), .ref 9, .ref 10, .ref 13, .ref 18, .ref 32, .ref 33])) e1 e2 e3 e4 e5 e6 (.inr (4, [.ref 8])) (.inl (1, 60, .inr (.inl (fun j => lN (T j))))) e9 e10 e11 e12 e13 e14 e15 e16 e17 e18 e19 e20 e21 e22 e23 e24 e25 e26 e27 e28 e29 e30 e31 e32 e33 e34 e35 e36 e37 e38 e39 e40 e41 e42 e43 e44 e45 e46 e47 e48), kc, kn) rfl ?_
  refine J.gp ok_F_codeAt 1 (9, [(0, .ref 0), (1, .int (nI j))], [.int ((lN (T j)).toInt32)], _, _, _) rfl ?_
  rw [show (((lN (T j)).toInt32) : Int32) = nI (T j) from lN_i (T j)]
  refine JR.iret .int (by decide +kernel) rfl (rfl) ?_
  exact K1

theorem c_F_codeAtN {e1 e2 e3 e4 e5 e6 e9 e10 e11 e12 e13 e14 e15 e16 e17 e18 e19 e20 e21 e22 e23 e24 e25 e26 e27 e28 e29 e30 e31 e32 e33 e34 e35 e36 e37 e38 e39 e40 e41 e42 e43 e44 e45 e46 e47 e48 : va_E} {P : Int32} {bl j : Nat} {T : Nat → Nat} (hj : j < 60) : JE M_F_codeAt [.ref 0, .int (nI j)] (HP (.inr (9, [.ref 1, .ref 6, .int P, .ref 7, .int (nI bl), .ref 9, .ref 10, .ref 13, .ref 18, .ref 32, .ref 33])) e1 e2 e3 e4 e5 e6 (.inr (4, [.ref 8])) (.inl (1, 60, .inr (.inl (fun j => lN (T j))))) e9 e10 e11 e12 e13 e14 e15 e16 e17 e18 e19 e20 e21 e22 e23 e24 e25 e26 e27 e28 e29 e30 e31 e32 e33 e34 e35 e36 e37 e38 e39 e40 e41 e42 e43 e44 e45 e46 e47 e48) (some (.int (nI (T j)))) (HP (.inr (9, [.ref 1, .ref 6, .int P, .ref 7, .int (nI bl), .ref 9, .ref 10, .ref 13, .ref 18, .ref 32, .ref 33])) e1 e2 e3 e4 e5 e6 (.inr (4, [.ref 8])) (.inl (1, 60, .inr (.inl (fun j => lN (T j))))) e9 e10 e11 e12 e13 e14 e15 e16 e17 e18 e19 e20 e21 e22 e23 e24 e25 e26 e27 e28 e29 e30 e31 e32 e33 e34 e35 e36 e37 e38 e39 e40 e41 e42 e43 e44 e45 e46 e47 e48) := JM.of (by decide +kernel) rfl (Nat.le_of_ble_eq_true rfl) (g_F_codeAtP hj ⟨rfl, rfl⟩)

set_option maxRecDepth 100000 in
set_option maxHeartbeats 400000 in
theorem g_F_fe0 {sc : aScr} {e6 e10 e11 e12 e13 e14 e15 e16 e17 e18 e19 e20 e21 e22 e23 e24 e25 e26 e27 e28 e29 e30 e31 e32 e33 e34 e35 e36 e37 e38 e39 e40 e41 e42 e43 e44 e45 e46 e47 e48 : va_E} {q0 : Int32} {P : Int32} {bl m g w : Nat} {B F T : Nat → Nat} {x : RF} {kc kn : Nat} {O : Option Value → aH → Prop}  (K1 : JR M_F_firstError sc (16, [(0, .ref 0), (1, .int 0)], [], (HP (.inr (9, [.ref 1, .ref 6, .int P, .ref 7, .int (nI bl), .ref 9, .ref 10, .ref 13, .ref 18, .ref 32, .ref 33])) (.inr (8, [.ref 2, .ref 4, .int (nI m), .int (nI g), .int (nI w)])) (.inr (4, [.ref 3])) (.inl (1, 12, .inr (.inl (fun j => lN (B j))))) (.inr (4, [.ref 5])) (.inl (1, 12, .inr (.inl (fun j => lN (F j))))) e6 (.inr (4, [.ref 8])) (.inl (1, 60, .inr (.inl (fun j => lN (T j))))) (.inr (2, [.int (nI m), .int 0, .int x.2.1, .int 0, .int x.2.2.2.1, .int x.2.2.2.2.1, .int x.2.2.2.2.2.1, .int x.2.2.2.2.2.2.1, .int x.2.2.2.2.2.2.2])) e10 e11 e12 e13 e14 e15 e16 e17 e18 e19 e20 e21 e22 e23 e24 e25 e26 e27 e28 e29 e30 e31 e32 e33 e34 e35 e36 e37 e38 e39 e40 e41 e42 e43 e44 e45 e46 e47 e48), kc, kn) O) : JR M_F_firstError sc (0, [(0, .ref 0)], [], (HP (.inr (9, [.ref 1, .ref 6, .int P, .ref 7, .int (nI bl), .ref 9, .ref 10, .ref 13, .ref 18, .ref 32, .ref 33])) (.inr (8, [.ref 2, .ref 4, .int (nI m), .int (nI g), .int (nI w)])) (.inr (4, [.ref 3])) (.inl (1, 12, .inr (.inl (fun j => lN (B j))))) (.inr (4, [.ref 5])) (.inl (1, 12, .inr (.inl (fun j => lN (F j))))) e6 (.inr (4, [.ref 8])) (.inl (1, 60, .inr (.inl (fun j => lN (T j))))) (.inr (2, [.int q0, .int x.1, .int x.2.1, .int x.2.2.1, .int x.2.2.2.1, .int x.2.2.2.2.1, .int x.2.2.2.2.2.1, .int x.2.2.2.2.2.2.1, .int x.2.2.2.2.2.2.2])) e10 e11 e12 e13 e14 e15 e16 e17 e18 e19 e20 e21 e22 e23 e24 e25 e26 e27 e28 e29 e30 e31 e32 e33 e34 e35 e36 e37 e38 e39 e40 e41 e42 e43 e44 e45 e46 e47 e48), kc, kn) O := by
  refine J.gp ok_F_firstError 5 (11, [(0, .ref 0)], [.int (nI m), .ref 9], _, _, _) rfl ?_
  refine J.callVE s_F_firstError_11 14 9 [.int (nI m)] 2 (c_Re_open) rfl rfl rfl rfl rfl (Nat.le_of_ble_eq_true rfl) rfl ?_
  refine J.gp ok_F_firstError 0 (14, [(0, .ref 0)], [], (HP (.inr (9, [.ref 1, .ref 6, .int P, .ref 7, .int (nI bl), .ref 9, .ref 10, .ref 13, .ref 18, .ref 32, .ref 33])) (.inr (8, [.ref 2, .ref 4, .int (nI m), .int (nI g), .int (nI w)])) (.inr (4, [.ref 3])) (.inl (1, 12, .inr (.inl (fun j => lN (B j))))) (.inr (4, [.ref 5])) (.inl (1, 12, .inr (.inl (fun j => lN (F j))))) e6 (.inr (4, [.ref 8])) (.inl (1, 60, .inr (.inl (fun j => lN (T j))))) (.inr (2, [.int (nI m), .int 0, .int x.2.1, .int 0, .int x.2.2.2.1, .int x.2.2.2.2.1, .int x.2.2.2.2.2.1, .int x.2.2.2.2.2.2.1, .int x.2.2.2.2.2.2.2])) e10 e11 e12 e13 e14 e15 e16 e17 e18 e19 e20 e21 e22 e23 e24 e25 e26 e27 e28 e29 e30 e31 e32 e33 e34 e35 e36 e37 e38 e39 e40 e41 e42 e43 e44 e45 e46 e47 e48), kc, kn) rfl ?_
  refine J.gp ok_F_firstError 2 (16, [(0, .ref 0), (1, .int 0)], [], _, _, _) rfl ?_
  exact K1

set_option maxRecDepth 100000 in
set_option maxHeartbeats 400000 in
theorem g_F_fe1 {sc : aScr} {e6 e10 e11 e12 e13 e14 e15 e16 e17 e18 e19 e20 e21 e22 e23 e24 e25 e26 e27 e28 e29 e30 e31 e32 e33 e34 e35 e36 e37 e38 e39 e40 e41 e42 e43 e44 e45 e46 e47 e48 : va_E} {P : Int32} {bl m g w : Nat} {B F T : Nat → Nat} {x : RF} {y : RF} {k : Nat} {kc kn : Nat} {O : Option Value → aH → Prop} (hbl : bl ≤ 60) (hk : k < bl) (K9 : JE M_Re_take [.ref 9, .int (nI (T k))] (HP (.inr (9, [.ref 1, .ref 6, .int P, .ref 7, .int (nI bl), .ref 9, .ref 10, .ref 13, .ref 18, .ref 32, .ref 33])) (.inr (8, [.ref 2, .ref 4, .int (nI m), .int (nI g), .int (nI w)])) (.inr (4, [.ref 3])) (.inl (1, 12, .inr (.inl (fun j => lN (B j))))) (.inr (4, [.ref 5])) (.inl (1, 12, .inr (.inl (fun j => lN (F j))))) e6 (.inr (4, [.ref 8])) (.inl (1, 60, .inr (.inl (fun j => lN (T j))))) (.inr (2, [.int (nI m), .int x.1, .int x.2.1, .int x.2.2.1, .int x.2.2.2.1, .int x.2.2.2.2.1, .int x.2.2.2.2.2.1, .int x.2.2.2.2.2.2.1, .int x.2.2.2.2.2.2.2])) e10 e11 e12 e13 e14 e15 e16 e17 e18 e19 e20 e21 e22 e23 e24 e25 e26 e27 e28 e29 e30 e31 e32 e33 e34 e35 e36 e37 e38 e39 e40 e41 e42 e43 e44 e45 e46 e47 e48) (some (.int 1)) (HP (.inr (9, [.ref 1, .ref 6, .int P, .ref 7, .int (nI bl), .ref 9, .ref 10, .ref 13, .ref 18, .ref 32, .ref 33])) (.inr (8, [.ref 2, .ref 4, .int (nI m), .int (nI g), .int (nI w)])) (.inr (4, [.ref 3])) (.inl (1, 12, .inr (.inl (fun j => lN (B j))))) (.inr (4, [.ref 5])) (.inl (1, 12, .inr (.inl (fun j => lN (F j))))) e6 (.inr (4, [.ref 8])) (.inl (1, 60, .inr (.inl (fun j => lN (T j))))) (.inr (2, [.int (nI m), .int y.1, .int y.2.1, .int y.2.2.1, .int y.2.2.2.1, .int y.2.2.2.2.1, .int y.2.2.2.2.2.1, .int y.2.2.2.2.2.2.1, .int y.2.2.2.2.2.2.2])) e10 e11 e12 e13 e14 e15 e16 e17 e18 e19 e20 e21 e22 e23 e24 e25 e26 e27 e28 e29 e30 e31 e32 e33 e34 e35 e36 e37 e38 e39 e40 e41 e42 e43 e44 e45 e46 e47 e48)) (K1 : JR M_F_firstError sc (16, [(0, .ref 0), (1, .int (nI (k + 1)))], [], (HP (.inr (9, [.ref 1, .ref 6, .int P, .ref 7, .int (nI bl), .ref 9, .ref 10, .ref 13, .ref 18, .ref 32, .ref 33])) (.inr (8, [.ref 2, .ref 4, .int (nI m), .int (nI g), .int (nI w)])) (.inr (4, [.ref 3])) (.inl (1, 12, .inr (.inl (fun j => lN (B j))))) (.inr (4, [.ref 5])) (.inl (1, 12, .inr (.inl (fun j => lN (F j))))) e6 (.inr (4, [.ref 8])) (.inl (1, 60, .inr (.inl (fun j => lN (T j))))) (.inr (2, [.int (nI m), .int y.1, .int y.2.1, .int y.2.2.1, .int y.2.2.2.1, .int y.2.2.2.2.1, .int y.2.2.2.2.2.1, .int y.2.2.2.2.2.2.1, .int y.2.2.2.2.2.2.2])) e10 e11 e12 e13 e14 e15 e16 e17 e18 e19 e20 e21 e22 e23 e24 e25 e26 e27 e28 e29 e30 e31 e32 e33 e34 e35 e36 e37 e38 e39 e40 e41 e42 e43 e44 e45 e46 e47 e48), kc, kn) O) : JR M_F_firstError sc (16, [(0, .ref 0), (1, .int (nI k))], [], (HP (.inr (9, [.ref 1, .ref 6, .int P, .ref 7, .int (nI bl), .ref 9, .ref 10, .ref 13, .ref 18, .ref 32, .ref 33])) (.inr (8, [.ref 2, .ref 4, .int (nI m), .int (nI g), .int (nI w)])) (.inr (4, [.ref 3])) (.inl (1, 12, .inr (.inl (fun j => lN (B j))))) (.inr (4, [.ref 5])) (.inl (1, 12, .inr (.inl (fun j => lN (F j))))) e6 (.inr (4, [.ref 8])) (.inl (1, 60, .inr (.inl (fun j => lN (T j))))) (.inr (2, [.int (nI m), .int x.1, .int x.2.1, .int x.2.2.1, .int x.2.2.2.1, .int x.2.2.2.2.1, .int x.2.2.2.2.2.1, .int x.2.2.2.2.2.2.1, .int x.2.2.2.2.2.2.2])) e10 e11 e12 e13 e14 e15 e16 e17 e18 e19 e20 e21 e22 e23 e24 e25 e26 e27 e28 e29 e30 e31 e32 e33 e34 e35 e36 e37 e38 e39 e40 e41 e42 e43 e44 e45 e46 e47 e48), kc, kn) O := by
  refine J.gp ok_F_firstError 3 (21, [(0, .ref 0), (1, .int (nI k))], [.int (nI bl), .int (nI k)], _, _, _) rfl ?_
  refine J.icF ok_F_firstError (fun x y => y ≤ x) 47 24 rfl (fun h9 => absurd ((nI_leI (a := bl) (b := k) (by omega) (by omega)).mp h9) (by omega)) ?_
  refine J.gp ok_F_firstError 4 (30, [(0, .ref 0), (1, .int (nI k))], [.int (nI k), .ref 0, .ref 9], _, _, _) rfl ?_
  refine J.callVE s_F_firstError_30 33 0 [.int (nI k)] 9 (c_F_codeAtN (by omega)) rfl rfl rfl rfl rfl (Nat.le_of_ble_eq_true rfl) rfl ?_
  refine J.gp ok_F_firstError 0 (33, [(0, .ref 0), (1, .int (nI k))], [.int (nI (T k)), .ref 9], (HP (.inr (9, [.ref 1, .ref 6, .int P, .ref 7, .int (nI bl), .ref 9, .ref 10, .ref 13, .ref 18, .ref 32, .ref 33])) (.inr (8, [.ref 2, .ref 4, .int (nI m), .int (nI g), .int (nI w)])) (.inr (4, [.ref 3])) (.inl (1, 12, .inr (.inl (fun j => lN (B j))))) (.inr (4, [.ref 5])) (.inl (1, 12, .inr (.inl (fun j => lN (F j))))) e6 (.inr (4, [.ref 8])) (.inl (1, 60, .inr (.inl (fun j => lN (T j))))) (.inr (2, [.int (nI m), .int x.1, .int x.2.1, .int x.2.2.1, .int x.2.2.2.1, .int x.2.2.2.2.1, .int x.2.2.2.2.2.1, .int x.2.2.2.2.2.2.1, .int x.2.2.2.2.2.2.2])) e10 e11 e12 e13 e14 e15 e16 e17 e18 e19 e20 e21 e22 e23 e24 e25 e26 e27 e28 e29 e30 e31 e32 e33 e34 e35 e36 e37 e38 e39 e40 e41 e42 e43 e44 e45 e46 e47 e48), kc, kn) rfl ?_
  refine J.callVE s_F_firstError_33 36 9 [.int (nI (T k))] 2 (K9) rfl rfl rfl rfl rfl (Nat.le_of_ble_eq_true rfl) rfl ?_
  refine J.gp ok_F_firstError 0 (36, [(0, .ref 0), (1, .int (nI k))], [.int 1], (HP (.inr (9, [.ref 1, .ref 6, .int P, .ref 7, .int (nI bl), .ref 9, .ref 10, .ref 13, .ref 18, .ref 32, .ref 33])) (.inr (8, [.ref 2, .ref 4, .int (nI m), .int (nI g), .int (nI w)])) (.inr (4, [.ref 3])) (.inl (1, 12, .inr (.inl (fun j => lN (B j))))) (.inr (4, [.ref 5])) (.inl (1, 12, .inr (.inl (fun j => lN (F j))))) e6 (.inr (4, [.ref 8])) (.inl (1, 60, .inr (.inl (fun j => lN (T j))))) (.inr (2, [.int (nI m), .int y.1, .int y.2.1, .int y.2.2.1, .int y.2.2.2.1, .int y.2.2.2.2.1, .int y.2.2.2.2.2.1, .int y.2.2.2.2.2.2.1, .int y.2.2.2.2.2.2.2])) e10 e11 e12 e13 e14 e15 e16 e17 e18 e19 e20 e21 e22 e23 e24 e25 e26 e27 e28 e29 e30 e31 e32 e33 e34 e35 e36 e37 e38 e39 e40 e41 e42 e43 e44 e45 e46 e47 e48), kc, kn) rfl ?_
  refine J.ifT ok_F_firstError (fun x => ¬ x = 0) 41 39 rfl (by decide) ?_
  refine J.gp ok_F_firstError 1 (44, [(0, .ref 0), (1, .int (nI k + 1))], [], _, _, _) rfl ?_
  rw [show ((nI k + 1) : Int32) = nI (k + 1) from nI_add k 1]
  refine J.gp ok_F_firstError 1 (16, [(0, .ref 0), (1, .int (nI (k + 1)))], [], _, _, _) rfl ?_
  exact K1

set_option maxRecDepth 100000 in
set_option maxHeartbeats 400000 in
theorem g_F_fe2 {sc : aScr} {e6 e10 e11 e12 e13 e14 e15 e16 e17 e18 e19 e20 e21 e22 e23 e24 e25 e26 e27 e28 e29 e30 e31 e32 e33 e34 e35 e36 e37 e38 e39 e40 e41 e42 e43 e44 e45 e46 e47 e48 : va_E} {P : Int32} {bl m g w : Nat} {B F T : Nat → Nat} {x : RF} {k : Nat} {kc kn : Nat} {O : Option Value → aH → Prop} (hbl : bl ≤ 60) (hk : k < bl) (K9 : JE M_Re_take [.ref 9, .int (nI (T k))] (HP (.inr (9, [.ref 1, .ref 6, .int P, .ref 7, .int (nI bl), .ref 9, .ref 10, .ref 13, .ref 18, .ref 32, .ref 33])) (.inr (8, [.ref 2, .ref 4, .int (nI m), .int (nI g), .int (nI w)])) (.inr (4, [.ref 3])) (.inl (1, 12, .inr (.inl (fun j => lN (B j))))) (.inr (4, [.ref 5])) (.inl (1, 12, .inr (.inl (fun j => lN (F j))))) e6 (.inr (4, [.ref 8])) (.inl (1, 60, .inr (.inl (fun j => lN (T j))))) (.inr (2, [.int (nI m), .int x.1, .int x.2.1, .int x.2.2.1, .int x.2.2.2.1, .int x.2.2.2.2.1, .int x.2.2.2.2.2.1, .int x.2.2.2.2.2.2.1, .int x.2.2.2.2.2.2.2])) e10 e11 e12 e13 e14 e15 e16 e17 e18 e19 e20 e21 e22 e23 e24 e25 e26 e27 e28 e29 e30 e31 e32 e33 e34 e35 e36 e37 e38 e39 e40 e41 e42 e43 e44 e45 e46 e47 e48) (some (.int 0)) (HP (.inr (9, [.ref 1, .ref 6, .int P, .ref 7, .int (nI bl), .ref 9, .ref 10, .ref 13, .ref 18, .ref 32, .ref 33])) (.inr (8, [.ref 2, .ref 4, .int (nI m), .int (nI g), .int (nI w)])) (.inr (4, [.ref 3])) (.inl (1, 12, .inr (.inl (fun j => lN (B j))))) (.inr (4, [.ref 5])) (.inl (1, 12, .inr (.inl (fun j => lN (F j))))) e6 (.inr (4, [.ref 8])) (.inl (1, 60, .inr (.inl (fun j => lN (T j))))) (.inr (2, [.int (nI m), .int x.1, .int x.2.1, .int x.2.2.1, .int x.2.2.2.1, .int x.2.2.2.2.1, .int x.2.2.2.2.2.1, .int x.2.2.2.2.2.2.1, .int x.2.2.2.2.2.2.2])) e10 e11 e12 e13 e14 e15 e16 e17 e18 e19 e20 e21 e22 e23 e24 e25 e26 e27 e28 e29 e30 e31 e32 e33 e34 e35 e36 e37 e38 e39 e40 e41 e42 e43 e44 e45 e46 e47 e48)) (K1 : O (some (.int (nI k))) (HP (.inr (9, [.ref 1, .ref 6, .int P, .ref 7, .int (nI bl), .ref 9, .ref 10, .ref 13, .ref 18, .ref 32, .ref 33])) (.inr (8, [.ref 2, .ref 4, .int (nI m), .int (nI g), .int (nI w)])) (.inr (4, [.ref 3])) (.inl (1, 12, .inr (.inl (fun j => lN (B j))))) (.inr (4, [.ref 5])) (.inl (1, 12, .inr (.inl (fun j => lN (F j))))) e6 (.inr (4, [.ref 8])) (.inl (1, 60, .inr (.inl (fun j => lN (T j))))) (.inr (2, [.int (nI m), .int x.1, .int x.2.1, .int x.2.2.1, .int x.2.2.2.1, .int x.2.2.2.2.1, .int x.2.2.2.2.2.1, .int x.2.2.2.2.2.2.1, .int x.2.2.2.2.2.2.2])) e10 e11 e12 e13 e14 e15 e16 e17 e18 e19 e20 e21 e22 e23 e24 e25 e26 e27 e28 e29 e30 e31 e32 e33 e34 e35 e36 e37 e38 e39 e40 e41 e42 e43 e44 e45 e46 e47 e48)) : JR M_F_firstError sc (16, [(0, .ref 0), (1, .int (nI k))], [], (HP (.inr (9, [.ref 1, .ref 6, .int P, .ref 7, .int (nI bl), .ref 9, .ref 10, .ref 13, .ref 18, .ref 32, .ref 33])) (.inr (8, [.ref 2, .ref 4, .int (nI m), .int (nI g), .int (nI w)])) (.inr (4, [.ref 3])) (.inl (1, 12, .inr (.inl (fun j => lN (B j))))) (.inr (4, [.ref 5])) (.inl (1, 12, .inr (.inl (fun j => lN (F j))))) e6 (.inr (4, [.ref 8])) (.inl (1, 60, .inr (.inl (fun j => lN (T j))))) (.inr (2, [.int (nI m), .int x.1, .int x.2.1, .int x.2.2.1, .int x.2.2.2.1, .int x.2.2.2.2.1, .int x.2.2.2.2.2.1, .int x.2.2.2.2.2.2.1, .int x.2.2.2.2.2.2.2])) e10 e11 e12 e13 e14 e15 e16 e17 e18 e19 e20 e21 e22 e23 e24 e25 e26 e27 e28 e29 e30 e31 e32 e33 e34 e35 e36 e37 e38 e39 e40 e41 e42 e43 e44 e45 e46 e47 e48), kc, kn) O := by
  refine J.gp ok_F_firstError 3 (21, [(0, .ref 0), (1, .int (nI k))], [.int (nI bl), .int (nI k)], _, _, _) rfl ?_
  refine J.icF ok_F_firstError (fun x y => y ≤ x) 47 24 rfl (fun h9 => absurd ((nI_leI (a := bl) (b := k) (by omega) (by omega)).mp h9) (by omega)) ?_
  refine J.gp ok_F_firstError 4 (30, [(0, .ref 0), (1, .int (nI k))], [.int (nI k), .ref 0, .ref 9], _, _, _) rfl ?_
  refine J.callVE s_F_firstError_30 33 0 [.int (nI k)] 9 (c_F_codeAtN (by omega)) rfl rfl rfl rfl rfl (Nat.le_of_ble_eq_true rfl) rfl ?_
  refine J.gp ok_F_firstError 0 (33, [(0, .ref 0), (1, .int (nI k))], [.int (nI (T k)), .ref 9], (HP (.inr (9, [.ref 1, .ref 6, .int P, .ref 7, .int (nI bl), .ref 9, .ref 10, .ref 13, .ref 18, .ref 32, .ref 33])) (.inr (8, [.ref 2, .ref 4, .int (nI m), .int (nI g), .int (nI w)])) (.inr (4, [.ref 3])) (.inl (1, 12, .inr (.inl (fun j => lN (B j))))) (.inr (4, [.ref 5])) (.inl (1, 12, .inr (.inl (fun j => lN (F j))))) e6 (.inr (4, [.ref 8])) (.inl (1, 60, .inr (.inl (fun j => lN (T j))))) (.inr (2, [.int (nI m), .int x.1, .int x.2.1, .int x.2.2.1, .int x.2.2.2.1, .int x.2.2.2.2.1, .int x.2.2.2.2.2.1, .int x.2.2.2.2.2.2.1, .int x.2.2.2.2.2.2.2])) e10 e11 e12 e13 e14 e15 e16 e17 e18 e19 e20 e21 e22 e23 e24 e25 e26 e27 e28 e29 e30 e31 e32 e33 e34 e35 e36 e37 e38 e39 e40 e41 e42 e43 e44 e45 e46 e47 e48), kc, kn) rfl ?_
  refine J.callVE s_F_firstError_33 36 9 [.int (nI (T k))] 2 (K9) rfl rfl rfl rfl rfl (Nat.le_of_ble_eq_true rfl) rfl ?_
  refine J.gp ok_F_firstError 0 (36, [(0, .ref 0), (1, .int (nI k))], [.int 0], (HP (.inr (9, [.ref 1, .ref 6, .int P, .ref 7, .int (nI bl), .ref 9, .ref 10, .ref 13, .ref 18, .ref 32, .ref 33])) (.inr (8, [.ref 2, .ref 4, .int (nI m), .int (nI g), .int (nI w)])) (.inr (4, [.ref 3])) (.inl (1, 12, .inr (.inl (fun j => lN (B j))))) (.inr (4, [.ref 5])) (.inl (1, 12, .inr (.inl (fun j => lN (F j))))) e6 (.inr (4, [.ref 8])) (.inl (1, 60, .inr (.inl (fun j => lN (T j))))) (.inr (2, [.int (nI m), .int x.1, .int x.2.1, .int x.2.2.1, .int x.2.2.2.1, .int x.2.2.2.2.1, .int x.2.2.2.2.2.1, .int x.2.2.2.2.2.2.1, .int x.2.2.2.2.2.2.2])) e10 e11 e12 e13 e14 e15 e16 e17 e18 e19 e20 e21 e22 e23 e24 e25 e26 e27 e28 e29 e30 e31 e32 e33 e34 e35 e36 e37 e38 e39 e40 e41 e42 e43 e44 e45 e46 e47 e48), kc, kn) rfl ?_
  refine J.ifF ok_F_firstError (fun x => ¬ x = 0) 41 39 rfl (by decide) ?_
  refine J.gp ok_F_firstError 1 (40, [(0, .ref 0), (1, .int (nI k))], [.int (nI k)], _, _, _) rfl ?_
  refine JR.iret .int (by decide +kernel) rfl (rfl) ?_
  exact K1

set_option maxRecDepth 100000 in
set_option maxHeartbeats 400000 in
theorem g_F_fe3 {sc : aScr} {e6 e10 e11 e12 e13 e14 e15 e16 e17 e18 e19 e20 e21 e22 e23 e24 e25 e26 e27 e28 e29 e30 e31 e32 e33 e34 e35 e36 e37 e38 e39 e40 e41 e42 e43 e44 e45 e46 e47 e48 : va_E} {P : Int32} {bl m g w : Nat} {B F T : Nat → Nat} {x : RF} {kc kn : Nat} {O : Option Value → aH → Prop} (hbl : bl ≤ 60) (K1 : O (some (.int (nI bl))) (HP (.inr (9, [.ref 1, .ref 6, .int P, .ref 7, .int (nI bl), .ref 9, .ref 10, .ref 13, .ref 18, .ref 32, .ref 33])) (.inr (8, [.ref 2, .ref 4, .int (nI m), .int (nI g), .int (nI w)])) (.inr (4, [.ref 3])) (.inl (1, 12, .inr (.inl (fun j => lN (B j))))) (.inr (4, [.ref 5])) (.inl (1, 12, .inr (.inl (fun j => lN (F j))))) e6 (.inr (4, [.ref 8])) (.inl (1, 60, .inr (.inl (fun j => lN (T j))))) (.inr (2, [.int (nI m), .int x.1, .int x.2.1, .int x.2.2.1, .int x.2.2.2.1, .int x.2.2.2.2.1, .int x.2.2.2.2.2.1, .int x.2.2.2.2.2.2.1, .int x.2.2.2.2.2.2.2])) e10 e11 e12 e13 e14 e15 e16 e17 e18 e19 e20 e21 e22 e23 e24 e25 e26 e27 e28 e29 e30 e31 e32 e33 e34 e35 e36 e37 e38 e39 e40 e41 e42 e43 e44 e45 e46 e47 e48)) : JR M_F_firstError sc (16, [(0, .ref 0), (1, .int (nI bl))], [], (HP (.inr (9, [.ref 1, .ref 6, .int P, .ref 7, .int (nI bl), .ref 9, .ref 10, .ref 13, .ref 18, .ref 32, .ref 33])) (.inr (8, [.ref 2, .ref 4, .int (nI m), .int (nI g), .int (nI w)])) (.inr (4, [.ref 3])) (.inl (1, 12, .inr (.inl (fun j => lN (B j))))) (.inr (4, [.ref 5])) (.inl (1, 12, .inr (.inl (fun j => lN (F j))))) e6 (.inr (4, [.ref 8])) (.inl (1, 60, .inr (.inl (fun j => lN (T j))))) (.inr (2, [.int (nI m), .int x.1, .int x.2.1, .int x.2.2.1, .int x.2.2.2.1, .int x.2.2.2.2.1, .int x.2.2.2.2.2.1, .int x.2.2.2.2.2.2.1, .int x.2.2.2.2.2.2.2])) e10 e11 e12 e13 e14 e15 e16 e17 e18 e19 e20 e21 e22 e23 e24 e25 e26 e27 e28 e29 e30 e31 e32 e33 e34 e35 e36 e37 e38 e39 e40 e41 e42 e43 e44 e45 e46 e47 e48), kc, kn) O := by
  refine J.gp ok_F_firstError 3 (21, [(0, .ref 0), (1, .int (nI bl))], [.int (nI bl), .int (nI bl)], _, _, _) rfl ?_
  refine J.icT ok_F_firstError (fun x y => y ≤ x) 47 24 rfl ((nI_leI (a := bl) (b := bl) (by omega) (by omega)).mpr (by omega)) ?_
  refine J.gp ok_F_firstError 2 (51, [(0, .ref 0), (1, .int (nI bl))], [.int (nI bl)], _, _, _) rfl ?_
  refine JR.iret .int (by decide +kernel) rfl (rfl) ?_
  exact K1

set_option maxRecDepth 100000 in
set_option maxHeartbeats 1000000 in
theorem F_fe {e6 e10 e11 e12 e13 e14 e15 e16 e17 e18 e19 e20 e21 e22 e23 e24 e25 e26 e27 e28 e29 e30 e31 e32 e33 e34 e35 e36 e37 e38 e39 e40 e41 e42 e43 e44 e45 e46 e47 e48 : va_E} {P : Int32} {bl m g w : Nat} {B F T : Nat → Nat} (hm : 0 < m ∧ m ≤ 4) (hbl : bl ≤ 60) (hT : ∀ j, T j < 128) (n : Nat) : ∀ (k : Nat) (r : Rd) (x : RF), k + n = bl → RdI m r → rdC r x → JR M_F_firstError none (16, [(0, .ref 0), (1, .int (nI k))], [], (HP (.inr (9, [.ref 1, .ref 6, .int P, .ref 7, .int (nI bl), .ref 9, .ref 10, .ref 13, .ref 18, .ref 32, .ref 33])) (.inr (8, [.ref 2, .ref 4, .int (nI m), .int (nI g), .int (nI w)])) (.inr (4, [.ref 3])) (.inl (1, 12, .inr (.inl (fun j => lN (B j))))) (.inr (4, [.ref 5])) (.inl (1, 12, .inr (.inl (fun j => lN (F j))))) e6 (.inr (4, [.ref 8])) (.inl (1, 60, .inr (.inl (fun j => lN (T j))))) (.inr (2, [.int (nI m), .int x.1, .int x.2.1, .int x.2.2.1, .int x.2.2.2.1, .int x.2.2.2.2.1, .int x.2.2.2.2.2.1, .int x.2.2.2.2.2.2.1, .int x.2.2.2.2.2.2.2])) e10 e11 e12 e13 e14 e15 e16 e17 e18 e19 e20 e21 e22 e23 e24 e25 e26 e27 e28 e29 e30 e31 e32 e33 e34 e35 e36 e37 e38 e39 e40 e41 e42 e43 e44 e45 e46 e47 e48), 0, 0) (fun v9 q9 => v9 = some (.int (nI (feF m T n k r).1)) ∧ ∃ y : RF, rdC (feF m T n k r).2 y ∧ q9 = (HP (.inr (9, [.ref 1, .ref 6, .int P, .ref 7, .int (nI bl), .ref 9, .ref 10, .ref 13, .ref 18, .ref 32, .ref 33])) (.inr (8, [.ref 2, .ref 4, .int (nI m), .int (nI g), .int (nI w)])) (.inr (4, [.ref 3])) (.inl (1, 12, .inr (.inl (fun j => lN (B j))))) (.inr (4, [.ref 5])) (.inl (1, 12, .inr (.inl (fun j => lN (F j))))) e6 (.inr (4, [.ref 8])) (.inl (1, 60, .inr (.inl (fun j => lN (T j))))) (.inr (2, [.int (nI m), .int y.1, .int y.2.1, .int y.2.2.1, .int y.2.2.2.1, .int y.2.2.2.2.1, .int y.2.2.2.2.2.1, .int y.2.2.2.2.2.2.1, .int y.2.2.2.2.2.2.2])) e10 e11 e12 e13 e14 e15 e16 e17 e18 e19 e20 e21 e22 e23 e24 e25 e26 e27 e28 e29 e30 e31 e32 e33 e34 e35 e36 e37 e38 e39 e40 e41 e42 e43 e44 e45 e46 e47 e48)) := by
  induction n with
  | zero =>
    intro k r x hk hI hx
    obtain rfl : k = bl := by omega
    exact g_F_fe3 hbl ⟨rfl, x, hx, rfl⟩
  | succ n ih =>
    intro k r x hk hI hx
    have ht := c_Re_take (c := T k) (e0 := (.inr (9, [.ref 1, .ref 6, .int P, .ref 7, .int (nI bl), .ref 9, .ref 10, .ref 13, .ref 18, .ref 32, .ref 33]))) (e1 := (.inr (8, [.ref 2, .ref 4, .int (nI m), .int (nI g), .int (nI w)]))) (e2 := (.inr (4, [.ref 3]))) (e3 := (.inl (1, 12, .inr (.inl (fun j => lN (B j)))))) (e4 := (.inr (4, [.ref 5]))) (e5 := (.inl (1, 12, .inr (.inl (fun j => lN (F j)))))) (e6 := e6) (e7 := (.inr (4, [.ref 8]))) (e8 := (.inl (1, 60, .inr (.inl (fun j => lN (T j)))))) (e10 := e10) (e11 := e11) (e12 := e12) (e13 := e13) (e14 := e14) (e15 := e15) (e16 := e16) (e17 := e17) (e18 := e18) (e19 := e19) (e20 := e20) (e21 := e21) (e22 := e22) (e23 := e23) (e24 := e24) (e25 := e25) (e26 := e26) (e27 := e27) (e28 := e28) (e29 := e29) (e30 := e30) (e31 := e31) (e32 := e32) (e33 := e33) (e34 := e34) (e35 := e35) (e36 := e36) (e37 := e37) (e38 := e38) (e39 := e39) (e40 := e40) (e41 := e41) (e42 := e42) (e43 := e43) (e44 := e44) (e45 := e45) (e46 := e46) (e47 := e47) (e48 := e48) hm (hT k) hI hx
    cases h : rdT m (T k) r with
    | none =>
      rw [feF_none h]
      exact g_F_fe2 hbl (by omega) (ht.2 h) ⟨rfl, x, hx, rfl⟩
    | some r' =>
      rw [feF_full h]
      obtain ⟨y, hy, hK⟩ := ht.1 r' h
      exact g_F_fe1 hbl (by omega) hK (ih (k + 1) r' y (by omega) (RdI_T hm.1 h hI) hy)
set_option maxRecDepth 100000 in
theorem c_F_firstError {e6 e10 e11 e12 e13 e14 e15 e16 e17 e18 e19 e20 e21 e22 e23 e24 e25 e26 e27 e28 e29 e30 e31 e32 e33 e34 e35 e36 e37 e38 e39 e40 e41 e42 e43 e44 e45 e46 e47 e48 : va_E} {q0 : Int32} {P : Int32} {bl m g w : Nat} {B F T : Nat → Nat} {x : RF} (hm : 0 < m ∧ m ≤ 4) (hbl : bl ≤ 60) (hT : ∀ j, T j < 128) : JM M_F_firstError [.ref 0] (HP (.inr (9, [.ref 1, .ref 6, .int P, .ref 7, .int (nI bl), .ref 9, .ref 10, .ref 13, .ref 18, .ref 32, .ref 33])) (.inr (8, [.ref 2, .ref 4, .int (nI m), .int (nI g), .int (nI w)])) (.inr (4, [.ref 3])) (.inl (1, 12, .inr (.inl (fun j => lN (B j))))) (.inr (4, [.ref 5])) (.inl (1, 12, .inr (.inl (fun j => lN (F j))))) e6 (.inr (4, [.ref 8])) (.inl (1, 60, .inr (.inl (fun j => lN (T j))))) (.inr (2, [.int q0, .int x.1, .int x.2.1, .int x.2.2.1, .int x.2.2.2.1, .int x.2.2.2.2.1, .int x.2.2.2.2.2.1, .int x.2.2.2.2.2.2.1, .int x.2.2.2.2.2.2.2])) e10 e11 e12 e13 e14 e15 e16 e17 e18 e19 e20 e21 e22 e23 e24 e25 e26 e27 e28 e29 e30 e31 e32 e33 e34 e35 e36 e37 e38 e39 e40 e41 e42 e43 e44 e45 e46 e47 e48) 0 0 (fun v9 q9 => v9 = some (.int (nI (feF m T bl 0 rd0).1)) ∧ ∃ y : RF, rdC (feF m T bl 0 rd0).2 y ∧ q9 = (HP (.inr (9, [.ref 1, .ref 6, .int P, .ref 7, .int (nI bl), .ref 9, .ref 10, .ref 13, .ref 18, .ref 32, .ref 33])) (.inr (8, [.ref 2, .ref 4, .int (nI m), .int (nI g), .int (nI w)])) (.inr (4, [.ref 3])) (.inl (1, 12, .inr (.inl (fun j => lN (B j))))) (.inr (4, [.ref 5])) (.inl (1, 12, .inr (.inl (fun j => lN (F j))))) e6 (.inr (4, [.ref 8])) (.inl (1, 60, .inr (.inl (fun j => lN (T j))))) (.inr (2, [.int (nI m), .int y.1, .int y.2.1, .int y.2.2.1, .int y.2.2.2.1, .int y.2.2.2.2.1, .int y.2.2.2.2.2.1, .int y.2.2.2.2.2.2.1, .int y.2.2.2.2.2.2.2])) e10 e11 e12 e13 e14 e15 e16 e17 e18 e19 e20 e21 e22 e23 e24 e25 e26 e27 e28 e29 e30 e31 e32 e33 e34 e35 e36 e37 e38 e39 e40 e41 e42 e43 e44 e45 e46 e47 e48)) :=
  JM.of (by decide +kernel) rfl (Nat.le_of_ble_eq_true rfl) (g_F_fe0 (F_fe hm hbl hT bl 0 rd0 (0, x.2.1, 0, x.2.2.2.1, x.2.2.2.2.1, x.2.2.2.2.2.1, x.2.2.2.2.2.2.1, x.2.2.2.2.2.2.2) (by omega) rdI_0 ⟨rfl, rfl⟩))

set_option maxRecDepth 100000 in
set_option maxHeartbeats 400000 in
theorem g_F_ict {sc : aScr} {e6 e10 e11 e12 e13 e14 e15 e16 e17 e18 e19 e20 e21 e22 e23 e24 e25 e26 e27 e28 e29 e30 e31 e32 e33 e34 e35 e36 e37 e38 e39 e40 e41 e42 e43 e44 e45 e46 e47 e48 : va_E} {P : Int32} {bl m g w : Nat} {B F T : Nat → Nat} {x : RF} {q0 : Int32} {kc kn : Nat} {O : Option Value → aH → Prop} (hm : 0 < m ∧ m ≤ 4) (hbl : bl ≤ 60) (hT : ∀ j, T j < 128) (hle : (feF m T bl 0 rd0).1 ≤ 60) (K1 : ∀ y : RF, rdC (feF m T bl 0 rd0).2 y → (¬ ((feF m T bl 0 rd0).1) = bl) → O (some (.int 0)) (HP (.inr (9, [.ref 1, .ref 6, .int P, .ref 7, .int (nI bl), .ref 9, .ref 10, .ref 13, .ref 18, .ref 32, .ref 33])) (.inr (8, [.ref 2, .ref 4, .int (nI m), .int (nI g), .int (nI w)])) (.inr (4, [.ref 3])) (.inl (1, 12, .inr (.inl (fun j => lN (B j))))) (.inr (4, [.ref 5])) (.inl (1, 12, .inr (.inl (fun j => lN (F j))))) e6 (.inr (4, [.ref 8])) (.inl (1, 60, .inr (.inl (fun j => lN (T j))))) (.inr (2, [.int (nI m), .int y.1, .int y.2.1, .int y.2.2.1, .int y.2.2.2.1, .int y.2.2.2.2.1, .int y.2.2.2.2.2.1, .int y.2.2.2.2.2.2.1, .int y.2.2.2.2.2.2.2])) e10 e11 e12 e13 e14 e15 e16 e17 e18 e19 e20 e21 e22 e23 e24 e25 e26 e27 e28 e29 e30 e31 e32 e33 e34 e35 e36 e37 e38 e39 e40 e41 e42 e43 e44 e45 e46 e47 e48)) (K2 : ∀ y : RF, rdC (feF m T bl 0 rd0).2 y → (((feF m T bl 0 rd0).1) = bl) → ((if y.1 = 6 ∨ (y.1 = 4 ∧ y.2.2.2.2.1 = nI m) then (1 : Int32) else 0) = 0) → O (some (.int 0)) (HP (.inr (9, [.ref 1, .ref 6, .int P, .ref 7, .int (nI bl), .ref 9, .ref 10, .ref 13, .ref 18, .ref 32, .ref 33])) (.inr (8, [.ref 2, .ref 4, .int (nI m), .int (nI g), .int (nI w)])) (.inr (4, [.ref 3])) (.inl (1, 12, .inr (.inl (fun j => lN (B j))))) (.inr (4, [.ref 5])) (.inl (1, 12, .inr (.inl (fun j => lN (F j))))) e6 (.inr (4, [.ref 8])) (.inl (1, 60, .inr (.inl (fun j => lN (T j))))) (.inr (2, [.int (nI m), .int y.1, .int y.2.1, .int y.2.2.1, .int y.2.2.2.1, .int y.2.2.2.2.1, .int y.2.2.2.2.2.1, .int y.2.2.2.2.2.2.1, .int y.2.2.2.2.2.2.2])) e10 e11 e12 e13 e14 e15 e16 e17 e18 e19 e20 e21 e22 e23 e24 e25 e26 e27 e28 e29 e30 e31 e32 e33 e34 e35 e36 e37 e38 e39 e40 e41 e42 e43 e44 e45 e46 e47 e48)) (K3 : ∀ y : RF, rdC (feF m T bl 0 rd0).2 y → (((feF m T bl 0 rd0).1) = bl) → (¬ ((if y.1 = 6 ∨ (y.1 = 4 ∧ y.2.2.2.2.1 = nI m) then (1 : Int32) else 0) = 0)) → O (some (.int 1)) (HP (.inr (9, [.ref 1, .ref 6, .int P, .ref 7, .int (nI bl), .ref 9, .ref 10, .ref 13, .ref 18, .ref 32, .ref 33])) (.inr (8, [.ref 2, .ref 4, .int (nI m), .int (nI g), .int (nI w)])) (.inr (4, [.ref 3])) (.inl (1, 12, .inr (.inl (fun j => lN (B j))))) (.inr (4, [.ref 5])) (.inl (1, 12, .inr (.inl (fun j => lN (F j))))) e6 (.inr (4, [.ref 8])) (.inl (1, 60, .inr (.inl (fun j => lN (T j))))) (.inr (2, [.int (nI m), .int y.1, .int y.2.1, .int y.2.2.1, .int y.2.2.2.1, .int y.2.2.2.2.1, .int y.2.2.2.2.2.1, .int y.2.2.2.2.2.2.1, .int y.2.2.2.2.2.2.2])) e10 e11 e12 e13 e14 e15 e16 e17 e18 e19 e20 e21 e22 e23 e24 e25 e26 e27 e28 e29 e30 e31 e32 e33 e34 e35 e36 e37 e38 e39 e40 e41 e42 e43 e44 e45 e46 e47 e48)) : JR M_F_isCompleteText sc (0, [(0, .ref 0)], [], (HP (.inr (9, [.ref 1, .ref 6, .int P, .ref 7, .int (nI bl), .ref 9, .ref 10, .ref 13, .ref 18, .ref 32, .ref 33])) (.inr (8, [.ref 2, .ref 4, .int (nI m), .int (nI g), .int (nI w)])) (.inr (4, [.ref 3])) (.inl (1, 12, .inr (.inl (fun j => lN (B j))))) (.inr (4, [.ref 5])) (.inl (1, 12, .inr (.inl (fun j => lN (F j))))) e6 (.inr (4, [.ref 8])) (.inl (1, 60, .inr (.inl (fun j => lN (T j))))) (.inr (2, [.int q0, .int x.1, .int x.2.1, .int x.2.2.1, .int x.2.2.2.1, .int x.2.2.2.2.1, .int x.2.2.2.2.2.1, .int x.2.2.2.2.2.2.1, .int x.2.2.2.2.2.2.2])) e10 e11 e12 e13 e14 e15 e16 e17 e18 e19 e20 e21 e22 e23 e24 e25 e26 e27 e28 e29 e30 e31 e32 e33 e34 e35 e36 e37 e38 e39 e40 e41 e42 e43 e44 e45 e46 e47 e48), kc, kn) O := by
  refine J.gp ok_F_isCompleteText 1 (1, [(0, .ref 0)], [.ref 0], _, _, _) rfl ?_
  refine J.callVO s_F_isCompleteText_1 4 0 [] 9 (c_F_firstError hm hbl hT) rfl rfl rfl rfl rfl (Nat.le_of_ble_eq_true rfl) (by rintro v q ⟨rfl, y, hy, rfl⟩; rfl) (fun v q h => ?_)
  obtain ⟨rfl, y, hy, rfl⟩ := h
  refine J.gp ok_F_isCompleteText 0 (4, [(0, .ref 0)], [.int (nI ((feF m T bl 0 rd0).1))], (HP (.inr (9, [.ref 1, .ref 6, .int P, .ref 7, .int (nI bl), .ref 9, .ref 10, .ref 13, .ref 18, .ref 32, .ref 33])) (.inr (8, [.ref 2, .ref 4, .int (nI m), .int (nI g), .int (nI w)])) (.inr (4, [.ref 3])) (.inl (1, 12, .inr (.inl (fun j => lN (B j))))) (.inr (4, [.ref 5])) (.inl (1, 12, .inr (.inl (fun j => lN (F j))))) e6 (.inr (4, [.ref 8])) (.inl (1, 60, .inr (.inl (fun j => lN (T j))))) (.inr (2, [.int (nI m), .int y.1, .int y.2.1, .int y.2.2.1, .int y.2.2.2.1, .int y.2.2.2.2.1, .int y.2.2.2.2.2.1, .int y.2.2.2.2.2.2.1, .int y.2.2.2.2.2.2.2])) e10 e11 e12 e13 e14 e15 e16 e17 e18 e19 e20 e21 e22 e23 e24 e25 e26 e27 e28 e29 e30 e31 e32 e33 e34 e35 e36 e37 e38 e39 e40 e41 e42 e43 e44 e45 e46 e47 e48), kc, kn) rfl ?_
  refine J.gp ok_F_isCompleteText 2 (8, [(0, .ref 0)], [.int (nI bl), .int (nI ((feF m T bl 0 rd0).1))], _, _, _) rfl ?_
  refine J.icB ok_F_isCompleteText (fun x y => ¬ x = y) 25 11 rfl (fun (h0 : ¬ nI ((feF m T bl 0 rd0).1) = nI bl) => ?_) (fun (h0 : ¬ (¬ nI ((feF m T bl 0 rd0).1) = nI bl)) => ?_)
  · have c8 : ¬ ((feF m T bl 0 rd0).1) = bl := fun h9 => h0 ((nI_eq (a := (feF m T bl 0 rd0).1) (b := bl) (by omega) (by omega)).mpr h9)
    refine J.gp ok_F_isCompleteText 1 (26, [(0, .ref 0)], [.int 0], _, _, _) rfl ?_
    refine JR.iret .boolean (by decide +kernel) rfl (by decide) ?_
    exact K1 y hy c8
  · have c8 : ((feF m T bl 0 rd0).1) = bl := (nI_eq (a := (feF m T bl 0 rd0).1) (b := bl) (by omega) (by omega)).mp (Classical.byContradiction h0)
    refine J.gp ok_F_isCompleteText 2 (15, [(0, .ref 0)], [.ref 9], _, _, _) rfl ?_
    refine J.callVE s_F_isCompleteText_15 18 9 [] 2 (c_Re_isAtEnd) rfl rfl rfl rfl rfl (Nat.le_of_ble_eq_true rfl) rfl ?_
    refine J.gp ok_F_isCompleteText 0 (18, [(0, .ref 0)], [.int (if y.1 = 6 ∨ (y.1 = 4 ∧ y.2.2.2.2.1 = nI m) then (1 : Int32) else 0)], (HP (.inr (9, [.ref 1, .ref 6, .int P, .ref 7, .int (nI bl), .ref 9, .ref 10, .ref 13, .ref 18, .ref 32, .ref 33])) (.inr (8, [.ref 2, .ref 4, .int (nI m), .int (nI g), .int (nI w)])) (.inr (4, [.ref 3])) (.inl (1, 12, .inr (.inl (fun j => lN (B j))))) (.inr (4, [.ref 5])) (.inl (1, 12, .inr (.inl (fun j => lN (F j))))) e6 (.inr (4, [.ref 8])) (.inl (1, 60, .inr (.inl (fun j => lN (T j))))) (.inr (2, [.int (nI m), .int y.1, .int y.2.1, .int y.2.2.1, .int y.2.2.2.1, .int y.2.2.2.2.1, .int y.2.2.2.2.2.1, .int y.2.2.2.2.2.2.1, .int y.2.2.2.2.2.2.2])) e10 e11 e12 e13 e14 e15 e16 e17 e18 e19 e20 e21 e22 e23 e24 e25 e26 e27 e28 e29 e30 e31 e32 e33 e34 e35 e36 e37 e38 e39 e40 e41 e42 e43 e44 e45 e46 e47 e48), kc, kn) rfl ?_
    refine J.ifB ok_F_isCompleteText (fun x => x = 0) 25 21 rfl (fun (c18 : (if y.1 = 6 ∨ (y.1 = 4 ∧ y.2.2.2.2.1 = nI m) then (1 : Int32) else 0) = 0) => ?_) (fun (c18 : ¬ ((if y.1 = 6 ∨ (y.1 = 4 ∧ y.2.2.2.2.1 = nI m) then (1 : Int32) else 0) = 0)) => ?_)
    · refine J.gp ok_F_isCompleteText 1 (26, [(0, .ref 0)], [.int 0], _, _, _) rfl ?_
      refine JR.iret .boolean (by decide +kernel) rfl (by decide) ?_
      exact K2 y hy c8 c18
    · refine J.gp ok_F_isCompleteText 2 (26, [(0, .ref 0)], [.int 1], _, _, _) rfl ?_
      refine JR.iret .boolean (by decide +kernel) rfl (by decide) ?_
      exact K3 y hy c8 c18

theorem rdC_end {m : Nat} {r : Rd} {y : RF} (hm : m ≤ 4) (hI : RdI m r) (h : rdC r y) : (y.1 = 6 ∨ (y.1 = 4 ∧ y.2.2.2.2.1 = nI m)) ↔ rdEnd m r := by
  obtain ⟨md, it, le, pa, ba, pr, fo⟩ := r
  obtain ⟨st, zz, it', le', pa', ba', fo', pr'⟩ := y
  unfold rdEnd
  dsimp only
  match md, hI, h with
  | 0, hI, h =>
    have h0 : st = 0 := h.1
    subst h0
    exact ⟨fun h => h.elim (fun e => absurd e (by decide)) (fun e => absurd e.1 (by decide)), fun h => h.elim (fun e => absurd e (by decide)) (fun e => absurd e.1 (by decide))⟩
  | 1, hI, h =>
    have h0 : st = 1 := h.1
    subst h0
    exact ⟨fun h => h.elim (fun e => absurd e (by decide)) (fun e => absurd e.1 (by decide)), fun h => h.elim (fun e => absurd e (by decide)) (fun e => absurd e.1 (by decide))⟩
  | 2, hI, h =>
    have h0 : st = 2 := h.1
    subst h0
    exact ⟨fun h => h.elim (fun e => absurd e (by decide)) (fun e => absurd e.1 (by decide)), fun h => h.elim (fun e => absurd e (by decide)) (fun e => absurd e.1 (by decide))⟩
  | 3, hI, h =>
    have h0 : st = 3 := h.1
    subst h0
    exact ⟨fun h => h.elim (fun e => absurd e (by decide)) (fun e => absurd e.1 (by decide)), fun h => h.elim (fun e => absurd e (by decide)) (fun e => absurd e.1 (by decide))⟩
  | 4, hI, h =>
    obtain ⟨h0, h1, h2, h3, h4⟩ := h
    dsimp only at h0 h3
    subst h0; subst h3
    have e := nI_eq (a := pa) (b := m) (by have := hI.2.2.1; omega) (by omega)
    exact ⟨fun h => h.elim (fun e => absurd e (by decide)) (fun z => Or.inr ⟨rfl, e.mp z.2⟩), fun h => h.elim (fun e => absurd e (by decide)) (fun z => Or.inr ⟨rfl, e.mpr z.2⟩)⟩
  | 5, hI, h =>
    have h0 : st = 1 := h.1
    subst h0
    exact ⟨fun h => h.elim (fun e => absurd e (by decide)) (fun e => absurd e.1 (by decide)), fun h => h.elim (fun e => absurd e (by decide)) (fun e => absurd e.1 (by decide))⟩
  | 6, hI, h =>
    have h0 : st = 5 := h.1
    subst h0
    exact ⟨fun h => h.elim (fun e => absurd e (by decide)) (fun e => absurd e.1 (by decide)), fun h => h.elim (fun e => absurd e (by decide)) (fun e => absurd e.1 (by decide))⟩
  | 7, hI, h =>
    have h0 : st = 6 := h.1
    subst h0
    exact ⟨fun _ => Or.inl rfl, fun _ => Or.inl rfl⟩
set_option maxRecDepth 100000 in
theorem c_F_isCompleteText {e6 e10 e11 e12 e13 e14 e15 e16 e17 e18 e19 e20 e21 e22 e23 e24 e25 e26 e27 e28 e29 e30 e31 e32 e33 e34 e35 e36 e37 e38 e39 e40 e41 e42 e43 e44 e45 e46 e47 e48 : va_E} {P : Int32} {bl m g w : Nat} {B F T : Nat → Nat} {x : RF} {q0 : Int32} (hm : 0 < m ∧ m ≤ 4) (hbl : bl ≤ 60) (hT : ∀ j, T j < 128) [Decidable ((feF m T bl 0 rd0).1 = bl ∧ rdEnd m (feF m T bl 0 rd0).2)] : JM M_F_isCompleteText [.ref 0] (HP (.inr (9, [.ref 1, .ref 6, .int P, .ref 7, .int (nI bl), .ref 9, .ref 10, .ref 13, .ref 18, .ref 32, .ref 33])) (.inr (8, [.ref 2, .ref 4, .int (nI m), .int (nI g), .int (nI w)])) (.inr (4, [.ref 3])) (.inl (1, 12, .inr (.inl (fun j => lN (B j))))) (.inr (4, [.ref 5])) (.inl (1, 12, .inr (.inl (fun j => lN (F j))))) e6 (.inr (4, [.ref 8])) (.inl (1, 60, .inr (.inl (fun j => lN (T j))))) (.inr (2, [.int q0, .int x.1, .int x.2.1, .int x.2.2.1, .int x.2.2.2.1, .int x.2.2.2.2.1, .int x.2.2.2.2.2.1, .int x.2.2.2.2.2.2.1, .int x.2.2.2.2.2.2.2])) e10 e11 e12 e13 e14 e15 e16 e17 e18 e19 e20 e21 e22 e23 e24 e25 e26 e27 e28 e29 e30 e31 e32 e33 e34 e35 e36 e37 e38 e39 e40 e41 e42 e43 e44 e45 e46 e47 e48) 0 0 (fun v9 q9 => v9 = some (.int (if (feF m T bl 0 rd0).1 = bl ∧ rdEnd m (feF m T bl 0 rd0).2 then 1 else 0)) ∧ ∃ y : RF, q9 = (HP (.inr (9, [.ref 1, .ref 6, .int P, .ref 7, .int (nI bl), .ref 9, .ref 10, .ref 13, .ref 18, .ref 32, .ref 33])) (.inr (8, [.ref 2, .ref 4, .int (nI m), .int (nI g), .int (nI w)])) (.inr (4, [.ref 3])) (.inl (1, 12, .inr (.inl (fun j => lN (B j))))) (.inr (4, [.ref 5])) (.inl (1, 12, .inr (.inl (fun j => lN (F j))))) e6 (.inr (4, [.ref 8])) (.inl (1, 60, .inr (.inl (fun j => lN (T j))))) (.inr (2, [.int (nI m), .int y.1, .int y.2.1, .int y.2.2.1, .int y.2.2.2.1, .int y.2.2.2.2.1, .int y.2.2.2.2.2.1, .int y.2.2.2.2.2.2.1, .int y.2.2.2.2.2.2.2])) e10 e11 e12 e13 e14 e15 e16 e17 e18 e19 e20 e21 e22 e23 e24 e25 e26 e27 e28 e29 e30 e31 e32 e33 e34 e35 e36 e37 e38 e39 e40 e41 e42 e43 e44 e45 e46 e47 e48)) := by
  have hle := feF_le m T bl 0 rd0
  have hI := feF_I (T := T) hm.1 bl 0 (rdI_0 (m := m) (it := 0) (le := 0) (pa := 0) (ba := 0) (pr := 0) (fo := 0))
  sorry
