/-! SEARCH -/
def avD (t : Nat) (sl ws : Int64) : Nat := (ws * sl * lN t).toInt.toNat
def avP (m t cl : Nat) (sl ws : Int64) (G we : Nat → Int64) : Int64 × Nat :=
  if cl = 1 then (saF we G m / lN (Nat.gcd (saF we G m).toInt.natAbs (avD t sl ws)), avD t sl ws / Nat.gcd (saF we G m).toInt.natAbs (avD t sl ws)) else (0, 0)
def AvOK (m t cl : Nat) (sl ws : Int64) (G we : Nat → Int64) : Prop := cl = 1 → -(2 ^ 63) < (saF we G m).toInt ∧ 0 < (ws * sl * lN t).toInt
theorem lN_back {x : Int64} (h : 0 ≤ x.toInt) : x = lN x.toInt.toNat := by
  have h1 := x.toInt_lt
  apply Int64.toInt_inj.mp
  rw [pk_lT (by omega)]
  omega

theorem c_Ro_takeAverage_if {e0 e1 e2 e3 e4 e5 e6 e7 e8 e9 e10 e11 e12 e13 e14 e15 e16 e17 e19 e20 e23 e24 e27 e28 e29 e30 e32 e33 e34 e35 e36 e37 e38 e39 e40 e41 e42 e43 e44 e45 e46 e47 e48 : va_E} {m t cl : Nat} {sl ws p q : Int64} {G we : Nat → Int64} (hm : m ≤ 4) (ht : t < 1000) (hc : cl < 100) (h : AvOK m t cl sl ws G we) : JE M_Ro_takeAverage [.ref 18] (HP e0 e1 e2 e3 e4 e5 e6 e7 e8 e9 e10 e11 e12 e13 e14 e15 e16 e17 (.inr (3, [.ref 19, .ref 21, .ref 23, .ref 25, .ref 27, .ref 29, .ref 31, .int (nI m), .int (nI t), .long sl, .long ws, .int (nI cl)])) e19 e20 (.inr (4, [.ref 22])) (.inl (1, 4, .inr (.inl G))) e23 e24 (.inr (4, [.ref 26])) (.inl (1, 4, .inr (.inl we))) e27 e28 e29 e30 (.inr (1, [.long p, .long q])) e32 e33 e34 e35 e36 e37 e38 e39 e40 e41 e42 e43 e44 e45 e46 e47 e48) none (HP e0 e1 e2 e3 e4 e5 e6 e7 e8 e9 e10 e11 e12 e13 e14 e15 e16 e17 (.inr (3, [.ref 19, .ref 21, .ref 23, .ref 25, .ref 27, .ref 29, .ref 31, .int (nI m), .int (nI t), .long sl, .long ws, .int (nI cl)])) e19 e20 (.inr (4, [.ref 22])) (.inl (1, 4, .inr (.inl G))) e23 e24 (.inr (4, [.ref 26])) (.inl (1, 4, .inr (.inl we))) e27 e28 e29 e30 (.inr (1, [.long ((avP m t cl sl ws G we).1), .long (lN ((avP m t cl sl ws G we).2))])) e32 e33 e34 e35 e36 e37 e38 e39 e40 e41 e42 e43 e44 e45 e46 e47 e48) := by
  unfold avP
  by_cases h1 : cl = 1
  · subst h1
    obtain ⟨hx, hd⟩ := h rfl
    have h2 := (ws * sl * lN t).toInt_lt
    rw [if_pos rfl]
    exact c_Ro_takeAverage hm ht hx (by unfold avD; omega) (by unfold avD; omega) (lN_back (by omega))
  · rw [if_neg h1]
    exact c_Ro_takeAverage_n hc h1

set_option maxRecDepth 100000 in
set_option maxHeartbeats 400000 in
theorem g_Sp_limit {sc : aScr} {e0 e1 e2 e3 e4 e5 e6 e7 e8 e9 e10 e11 e12 e14 e15 e16 e17 e18 e19 e20 e21 e22 e23 e24 e25 e26 e27 e28 e29 e30 e31 e32 e33 e34 e35 e36 e37 e38 e39 e40 e41 e42 e43 e44 e45 e46 e47 e48 : va_E} {mo go tt mm u v : Int32} {lst wn : Int64} {kc kn : Nat} {O : Option Value → aH → Prop}  (K1 : O none (HP e0 e1 e2 e3 e4 e5 e6 e7 e8 e9 e10 e11 e12 (.inr (6, [.ref 14, .ref 16, .int u, .int v, .int tt, .int mm, .long lst, .long wn])) e14 e15 e16 e17 e18 e19 e20 e21 e22 e23 e24 e25 e26 e27 e28 e29 e30 e31 e32 e33 e34 e35 e36 e37 e38 e39 e40 e41 e42 e43 e44 e45 e46 e47 e48)) : JR M_Sp_limit sc (0, [(0, .ref 13), (1, .int u), (2, .int v)], [], (HP e0 e1 e2 e3 e4 e5 e6 e7 e8 e9 e10 e11 e12 (.inr (6, [.ref 14, .ref 16, .int mo, .int go, .int tt, .int mm, .long lst, .long wn])) e14 e15 e16 e17 e18 e19 e20 e21 e22 e23 e24 e25 e26 e27 e28 e29 e30 e31 e32 e33 e34 e35 e36 e37 e38 e39 e40 e41 e42 e43 e44 e45 e46 e47 e48), kc, kn) O := by
  refine J.gp ok_Sp_limit 3 (5, [(0, .ref 13), (1, .int u), (2, .int v)], [], (HP e0 e1 e2 e3 e4 e5 e6 e7 e8 e9 e10 e11 e12 (.inr (6, [.ref 14, .ref 16, .int u, .int go, .int tt, .int mm, .long lst, .long wn])) e14 e15 e16 e17 e18 e19 e20 e21 e22 e23 e24 e25 e26 e27 e28 e29 e30 e31 e32 e33 e34 e35 e36 e37 e38 e39 e40 e41 e42 e43 e44 e45 e46 e47 e48), _, _) rfl ?_
  refine J.gp ok_Sp_limit 3 (10, [(0, .ref 13), (1, .int u), (2, .int v)], [], (HP e0 e1 e2 e3 e4 e5 e6 e7 e8 e9 e10 e11 e12 (.inr (6, [.ref 14, .ref 16, .int u, .int v, .int tt, .int mm, .long lst, .long wn])) e14 e15 e16 e17 e18 e19 e20 e21 e22 e23 e24 e25 e26 e27 e28 e29 e30 e31 e32 e33 e34 e35 e36 e37 e38 e39 e40 e41 e42 e43 e44 e45 e46 e47 e48), _, _) rfl ?_
  refine JR.vret (by decide +kernel) rfl ?_
  exact K1

theorem c_Sp_limit {e0 e1 e2 e3 e4 e5 e6 e7 e8 e9 e10 e11 e12 e14 e15 e16 e17 e18 e19 e20 e21 e22 e23 e24 e25 e26 e27 e28 e29 e30 e31 e32 e33 e34 e35 e36 e37 e38 e39 e40 e41 e42 e43 e44 e45 e46 e47 e48 : va_E} {mo go tt mm u v : Int32} {lst wn : Int64}  : JE M_Sp_limit [.ref 13, .int u, .int v] (HP e0 e1 e2 e3 e4 e5 e6 e7 e8 e9 e10 e11 e12 (.inr (6, [.ref 14, .ref 16, .int mo, .int go, .int tt, .int mm, .long lst, .long wn])) e14 e15 e16 e17 e18 e19 e20 e21 e22 e23 e24 e25 e26 e27 e28 e29 e30 e31 e32 e33 e34 e35 e36 e37 e38 e39 e40 e41 e42 e43 e44 e45 e46 e47 e48) none (HP e0 e1 e2 e3 e4 e5 e6 e7 e8 e9 e10 e11 e12 (.inr (6, [.ref 14, .ref 16, .int u, .int v, .int tt, .int mm, .long lst, .long wn])) e14 e15 e16 e17 e18 e19 e20 e21 e22 e23 e24 e25 e26 e27 e28 e29 e30 e31 e32 e33 e34 e35 e36 e37 e38 e39 e40 e41 e42 e43 e44 e45 e46 e47 e48) := JM.of (by decide +kernel) rfl (Nat.le_of_ble_eq_true rfl) (g_Sp_limit ⟨rfl, rfl⟩)

set_option maxRecDepth 100000 in
set_option maxHeartbeats 400000 in
theorem g_Sp_oo0 {sc : aScr} {e0 e1 e2 e3 e4 e5 e6 e7 e8 e9 e10 e11 e12 e16 e17 e18 e19 e20 e21 e22 e23 e24 e25 e26 e27 e28 e29 e30 e31 e32 e33 e34 e35 e36 e37 e38 e39 e40 e41 e42 e43 e44 e45 e46 e47 e48 : va_E} {m t : Nat} {mo go : Int32} {lst wn : Int64} {nw : Nat → Int64} {kc kn : Nat} {O : Option Value → aH → Prop}  (K1 : O (some (.long lst)) (HP e0 e1 e2 e3 e4 e5 e6 e7 e8 e9 e10 e11 e12 (.inr (6, [.ref 14, .ref 16, .int mo, .int go, .int (nI t), .int (nI m), .long lst, .long wn])) (.inr (4, [.ref 15])) (.inl (1, 132, .inr (.inl (sh nw)))) e16 e17 e18 e19 e20 e21 e22 e23 e24 e25 e26 e27 e28 e29 e30 e31 e32 e33 e34 e35 e36 e37 e38 e39 e40 e41 e42 e43 e44 e45 e46 e47 e48)) : JR M_Sp_ofOutcome sc (0, [(0, .ref 13), (1, .int 0)], [], (HP e0 e1 e2 e3 e4 e5 e6 e7 e8 e9 e10 e11 e12 (.inr (6, [.ref 14, .ref 16, .int mo, .int go, .int (nI t), .int (nI m), .long lst, .long wn])) (.inr (4, [.ref 15])) (.inl (1, 132, .inr (.inl (sh nw)))) e16 e17 e18 e19 e20 e21 e22 e23 e24 e25 e26 e27 e28 e29 e30 e31 e32 e33 e34 e35 e36 e37 e38 e39 e40 e41 e42 e43 e44 e45 e46 e47 e48), kc, kn) O := by
  refine J.gp ok_Sp_ofOutcome 1 (1, [(0, .ref 13), (1, .int 0)], [.int 0], _, _, _) rfl ?_
  refine J.ifF ok_Sp_ofOutcome (fun x => ¬ x = 0) 9 4 rfl (by decide) ?_
  refine J.gp ok_Sp_ofOutcome 2 (8, [(0, .ref 13), (1, .int 0)], [.long lst], _, _, _) rfl ?_
  refine JR.lret (by decide +kernel) rfl ?_
  exact K1

theorem c_Sp_ofOutcome_0 {e0 e1 e2 e3 e4 e5 e6 e7 e8 e9 e10 e11 e12 e16 e17 e18 e19 e20 e21 e22 e23 e24 e25 e26 e27 e28 e29 e30 e31 e32 e33 e34 e35 e36 e37 e38 e39 e40 e41 e42 e43 e44 e45 e46 e47 e48 : va_E} {m t : Nat} {mo go : Int32} {lst wn : Int64} {nw : Nat → Int64}  : JE M_Sp_ofOutcome [.ref 13, .int 0] (HP e0 e1 e2 e3 e4 e5 e6 e7 e8 e9 e10 e11 e12 (.inr (6, [.ref 14, .ref 16, .int mo, .int go, .int (nI t), .int (nI m), .long lst, .long wn])) (.inr (4, [.ref 15])) (.inl (1, 132, .inr (.inl (sh nw)))) e16 e17 e18 e19 e20 e21 e22 e23 e24 e25 e26 e27 e28 e29 e30 e31 e32 e33 e34 e35 e36 e37 e38 e39 e40 e41 e42 e43 e44 e45 e46 e47 e48) (some (.long lst)) (HP e0 e1 e2 e3 e4 e5 e6 e7 e8 e9 e10 e11 e12 (.inr (6, [.ref 14, .ref 16, .int mo, .int go, .int (nI t), .int (nI m), .long lst, .long wn])) (.inr (4, [.ref 15])) (.inl (1, 132, .inr (.inl (sh nw)))) e16 e17 e18 e19 e20 e21 e22 e23 e24 e25 e26 e27 e28 e29 e30 e31 e32 e33 e34 e35 e36 e37 e38 e39 e40 e41 e42 e43 e44 e45 e46 e47 e48) := JM.of (by decide +kernel) rfl (Nat.le_of_ble_eq_true rfl) (g_Sp_oo0 ⟨rfl, rfl⟩)

set_option maxRecDepth 100000 in
set_option maxHeartbeats 400000 in
theorem g_Sp_oo1 {sc : aScr} {e0 e1 e2 e3 e4 e5 e6 e7 e8 e9 e10 e11 e12 e16 e17 e18 e19 e20 e21 e22 e23 e24 e25 e26 e27 e28 e29 e30 e31 e32 e33 e34 e35 e36 e37 e38 e39 e40 e41 e42 e43 e44 e45 e46 e47 e48 : va_E} {m t : Nat} {mo go : Int32} {lst wn : Int64} {nw : Nat → Int64} {kc kn : Nat} {O : Option Value → aH → Prop}  (K1 : O (some (.long wn)) (HP e0 e1 e2 e3 e4 e5 e6 e7 e8 e9 e10 e11 e12 (.inr (6, [.ref 14, .ref 16, .int mo, .int go, .int (nI t), .int (nI m), .long lst, .long wn])) (.inr (4, [.ref 15])) (.inl (1, 132, .inr (.inl (sh nw)))) e16 e17 e18 e19 e20 e21 e22 e23 e24 e25 e26 e27 e28 e29 e30 e31 e32 e33 e34 e35 e36 e37 e38 e39 e40 e41 e42 e43 e44 e45 e46 e47 e48)) : JR M_Sp_ofOutcome sc (0, [(0, .ref 13), (1, .int 1)], [], (HP e0 e1 e2 e3 e4 e5 e6 e7 e8 e9 e10 e11 e12 (.inr (6, [.ref 14, .ref 16, .int mo, .int go, .int (nI t), .int (nI m), .long lst, .long wn])) (.inr (4, [.ref 15])) (.inl (1, 132, .inr (.inl (sh nw)))) e16 e17 e18 e19 e20 e21 e22 e23 e24 e25 e26 e27 e28 e29 e30 e31 e32 e33 e34 e35 e36 e37 e38 e39 e40 e41 e42 e43 e44 e45 e46 e47 e48), kc, kn) O := by
  refine J.gp ok_Sp_ofOutcome 1 (1, [(0, .ref 13), (1, .int 1)], [.int 1], _, _, _) rfl ?_
  refine J.ifT ok_Sp_ofOutcome (fun x => ¬ x = 0) 9 4 rfl (by decide) ?_
  refine J.gp ok_Sp_ofOutcome 2 (11, [(0, .ref 13), (1, .int 1)], [.int 1, .int 1], _, _, _) rfl ?_
  refine J.icF ok_Sp_ofOutcome (fun x y => ¬ x = y) 21 14 rfl (by decide) ?_
  refine J.gp ok_Sp_ofOutcome 3 (30, [(0, .ref 13), (1, .int 1)], [.long wn], _, _, _) rfl ?_
  refine JR.lret (by decide +kernel) rfl ?_
  exact K1

theorem c_Sp_ofOutcome_1 {e0 e1 e2 e3 e4 e5 e6 e7 e8 e9 e10 e11 e12 e16 e17 e18 e19 e20 e21 e22 e23 e24 e25 e26 e27 e28 e29 e30 e31 e32 e33 e34 e35 e36 e37 e38 e39 e40 e41 e42 e43 e44 e45 e46 e47 e48 : va_E} {m t : Nat} {mo go : Int32} {lst wn : Int64} {nw : Nat → Int64}  : JE M_Sp_ofOutcome [.ref 13, .int 1] (HP e0 e1 e2 e3 e4 e5 e6 e7 e8 e9 e10 e11 e12 (.inr (6, [.ref 14, .ref 16, .int mo, .int go, .int (nI t), .int (nI m), .long lst, .long wn])) (.inr (4, [.ref 15])) (.inl (1, 132, .inr (.inl (sh nw)))) e16 e17 e18 e19 e20 e21 e22 e23 e24 e25 e26 e27 e28 e29 e30 e31 e32 e33 e34 e35 e36 e37 e38 e39 e40 e41 e42 e43 e44 e45 e46 e47 e48) (some (.long wn)) (HP e0 e1 e2 e3 e4 e5 e6 e7 e8 e9 e10 e11 e12 (.inr (6, [.ref 14, .ref 16, .int mo, .int go, .int (nI t), .int (nI m), .long lst, .long wn])) (.inr (4, [.ref 15])) (.inl (1, 132, .inr (.inl (sh nw)))) e16 e17 e18 e19 e20 e21 e22 e23 e24 e25 e26 e27 e28 e29 e30 e31 e32 e33 e34 e35 e36 e37 e38 e39 e40 e41 e42 e43 e44 e45 e46 e47 e48) := JM.of (by decide +kernel) rfl (Nat.le_of_ble_eq_true rfl) (g_Sp_oo1 ⟨rfl, rfl⟩)

set_option maxRecDepth 100000 in
set_option maxHeartbeats 400000 in
theorem g_Sp_oo2 {sc : aScr} {e0 e1 e2 e3 e4 e5 e6 e7 e8 e9 e10 e11 e12 e16 e17 e18 e19 e20 e21 e22 e23 e24 e25 e26 e27 e28 e29 e30 e31 e32 e33 e34 e35 e36 e37 e38 e39 e40 e41 e42 e43 e44 e45 e46 e47 e48 : va_E} {m t : Nat} {mo go : Int32} {lst wn : Int64} {nw : Nat → Int64} {kc kn : Nat} {O : Option Value → aH → Prop} (ht : t ≤ 15) (hm : 0 < m ∧ m ≤ 4) (hs : supp m t nw) (K1 : O (some (.long (smG nw (loR t (-nI t)) 124))) (HP e0 e1 e2 e3 e4 e5 e6 e7 e8 e9 e10 e11 e12 (.inr (6, [.ref 14, .ref 16, .int mo, .int go, .int (nI t), .int (nI m), .long lst, .long wn])) (.inr (4, [.ref 15])) (.inl (1, 132, .inr (.inl (sh nw)))) e16 e17 e18 e19 e20 e21 e22 e23 e24 e25 e26 e27 e28 e29 e30 e31 e32 e33 e34 e35 e36 e37 e38 e39 e40 e41 e42 e43 e44 e45 e46 e47 e48)) : JR M_Sp_ofOutcome sc (0, [(0, .ref 13), (1, .int 2)], [], (HP e0 e1 e2 e3 e4 e5 e6 e7 e8 e9 e10 e11 e12 (.inr (6, [.ref 14, .ref 16, .int mo, .int go, .int (nI t), .int (nI m), .long lst, .long wn])) (.inr (4, [.ref 15])) (.inl (1, 132, .inr (.inl (sh nw)))) e16 e17 e18 e19 e20 e21 e22 e23 e24 e25 e26 e27 e28 e29 e30 e31 e32 e33 e34 e35 e36 e37 e38 e39 e40 e41 e42 e43 e44 e45 e46 e47 e48), kc, kn) O := by
  refine J.gp ok_Sp_ofOutcome 1 (1, [(0, .ref 13), (1, .int 2)], [.int 2], _, _, _) rfl ?_
  refine J.ifT ok_Sp_ofOutcome (fun x => ¬ x = 0) 9 4 rfl (by decide) ?_
  refine J.gp ok_Sp_ofOutcome 2 (11, [(0, .ref 13), (1, .int 2)], [.int 1, .int 2], _, _, _) rfl ?_
  refine J.icT ok_Sp_ofOutcome (fun x y => ¬ x = y) 21 14 rfl (by decide) ?_
  refine J.gp ok_Sp_ofOutcome 4 (27, [(0, .ref 13), (1, .int 2)], [.int (-nI t), .ref 13], _, _, _) rfl ?_
  refine J.callVE s_Sp_ofOutcome_27 30 13 [.int (-nI t)] 6 (c_Sp_ofGain ht hm hs) rfl rfl rfl rfl rfl (Nat.le_of_ble_eq_true rfl) rfl ?_
  refine J.gp ok_Sp_ofOutcome 0 (30, [(0, .ref 13), (1, .int 2)], [.long (smG nw (loR t (-nI t)) 124)], (HP e0 e1 e2 e3 e4 e5 e6 e7 e8 e9 e10 e11 e12 (.inr (6, [.ref 14, .ref 16, .int mo, .int go, .int (nI t), .int (nI m), .long lst, .long wn])) (.inr (4, [.ref 15])) (.inl (1, 132, .inr (.inl (sh nw)))) e16 e17 e18 e19 e20 e21 e22 e23 e24 e25 e26 e27 e28 e29 e30 e31 e32 e33 e34 e35 e36 e37 e38 e39 e40 e41 e42 e43 e44 e45 e46 e47 e48), kc, kn) rfl ?_
  refine JR.lret (by decide +kernel) rfl ?_
  exact K1

theorem c_Sp_ofOutcome_2 {e0 e1 e2 e3 e4 e5 e6 e7 e8 e9 e10 e11 e12 e16 e17 e18 e19 e20 e21 e22 e23 e24 e25 e26 e27 e28 e29 e30 e31 e32 e33 e34 e35 e36 e37 e38 e39 e40 e41 e42 e43 e44 e45 e46 e47 e48 : va_E} {m t : Nat} {mo go : Int32} {lst wn : Int64} {nw : Nat → Int64} (ht : t ≤ 15) (hm : 0 < m ∧ m ≤ 4) (hs : supp m t nw) : JE M_Sp_ofOutcome [.ref 13, .int 2] (HP e0 e1 e2 e3 e4 e5 e6 e7 e8 e9 e10 e11 e12 (.inr (6, [.ref 14, .ref 16, .int mo, .int go, .int (nI t), .int (nI m), .long lst, .long wn])) (.inr (4, [.ref 15])) (.inl (1, 132, .inr (.inl (sh nw)))) e16 e17 e18 e19 e20 e21 e22 e23 e24 e25 e26 e27 e28 e29 e30 e31 e32 e33 e34 e35 e36 e37 e38 e39 e40 e41 e42 e43 e44 e45 e46 e47 e48) (some (.long (smG nw (loR t (-nI t)) 124))) (HP e0 e1 e2 e3 e4 e5 e6 e7 e8 e9 e10 e11 e12 (.inr (6, [.ref 14, .ref 16, .int mo, .int go, .int (nI t), .int (nI m), .long lst, .long wn])) (.inr (4, [.ref 15])) (.inl (1, 132, .inr (.inl (sh nw)))) e16 e17 e18 e19 e20 e21 e22 e23 e24 e25 e26 e27 e28 e29 e30 e31 e32 e33 e34 e35 e36 e37 e38 e39 e40 e41 e42 e43 e44 e45 e46 e47 e48) := JM.of (by decide +kernel) rfl (Nat.le_of_ble_eq_true rfl) (g_Sp_oo2 ht hm hs ⟨rfl, rfl⟩)

set_option maxRecDepth 100000 in
set_option maxHeartbeats 400000 in
theorem g_Se_part1 {sc : aScr} {e0 e1 e2 e3 e4 e5 e6 e7 e8 e9 e10 e11 e12 e13 e14 e15 e16 e17 e18 e19 e20 e21 e22 e23 e24 e25 e26 e27 e28 e29 e30 e31 e32 e35 e36 e37 e38 e39 e40 e41 e42 e43 e44 e45 e46 e47 e48 : va_E} {fo : Int32} {x y : Int64} {kc kn : Nat} {O : Option Value → aH → Prop}  (K1 : (¬ fo = (-1)) → O (some (.long x)) (HP e0 e1 e2 e3 e4 e5 e6 e7 e8 e9 e10 e11 e12 e13 e14 e15 e16 e17 e18 e19 e20 e21 e22 e23 e24 e25 e26 e27 e28 e29 e30 e31 e32 (.inr (5, [.ref 34, .int fo])) (.inr (1, [.long x, .long y])) e35 e36 e37 e38 e39 e40 e41 e42 e43 e44 e45 e46 e47 e48)) (K2 : (¬ (¬ fo = (-1))) → O (some (.long (-1))) (HP e0 e1 e2 e3 e4 e5 e6 e7 e8 e9 e10 e11 e12 e13 e14 e15 e16 e17 e18 e19 e20 e21 e22 e23 e24 e25 e26 e27 e28 e29 e30 e31 e32 (.inr (5, [.ref 34, .int fo])) (.inr (1, [.long x, .long y])) e35 e36 e37 e38 e39 e40 e41 e42 e43 e44 e45 e46 e47 e48)) : JR M_Se_part sc (0, [(0, .ref 33), (1, .int 1)], [], (HP e0 e1 e2 e3 e4 e5 e6 e7 e8 e9 e10 e11 e12 e13 e14 e15 e16 e17 e18 e19 e20 e21 e22 e23 e24 e25 e26 e27 e28 e29 e30 e31 e32 (.inr (5, [.ref 34, .int fo])) (.inr (1, [.long x, .long y])) e35 e36 e37 e38 e39 e40 e41 e42 e43 e44 e45 e46 e47 e48), kc, kn) O := by
  refine J.gp ok_Se_part 3 (5, [(0, .ref 33), (1, .int 1)], [.int (-1), .int fo], _, _, _) rfl ?_
  refine J.icB ok_Se_part (fun x y => ¬ x = y) 12 8 rfl (fun (c5 : ¬ fo = (-1)) => ?_) (fun (c5 : ¬ (¬ fo = (-1))) => ?_)
  · refine J.gp ok_Se_part 1 (13, [(0, .ref 33), (1, .int 1)], [.int 1], _, _, _) rfl ?_
    refine J.ifT ok_Se_part (fun x => ¬ x = 0) 24 16 rfl (by decide) ?_
    refine J.gp ok_Se_part 5 (31, [(0, .ref 33), (1, .int 1)], [.int (1 - 1), .ref 34], _, _, _) rfl ?_
    refine J.callVE s_Se_part_31 34 34 [.int (1 - 1)] 1 (c_Fr_part0_34) rfl rfl rfl rfl rfl (Nat.le_of_ble_eq_true rfl) rfl ?_
    refine J.gp ok_Se_part 0 (34, [(0, .ref 33), (1, .int 1)], [.long x], (HP e0 e1 e2 e3 e4 e5 e6 e7 e8 e9 e10 e11 e12 e13 e14 e15 e16 e17 e18 e19 e20 e21 e22 e23 e24 e25 e26 e27 e28 e29 e30 e31 e32 (.inr (5, [.ref 34, .int fo])) (.inr (1, [.long x, .long y])) e35 e36 e37 e38 e39 e40 e41 e42 e43 e44 e45 e46 e47 e48), kc, kn) rfl ?_
    refine JR.lret (by decide +kernel) rfl ?_
    exact K1 c5
  · refine J.gp ok_Se_part 1 (11, [(0, .ref 33), (1, .int 1)], [.long (-1)], _, _, _) rfl ?_
    refine JR.lret (by decide +kernel) rfl ?_
    exact K2 c5

set_option maxRecDepth 100000 in
set_option maxHeartbeats 400000 in
theorem g_Se_part2 {sc : aScr} {e0 e1 e2 e3 e4 e5 e6 e7 e8 e9 e10 e11 e12 e13 e14 e15 e16 e17 e18 e19 e20 e21 e22 e23 e24 e25 e26 e27 e28 e29 e30 e31 e32 e35 e36 e37 e38 e39 e40 e41 e42 e43 e44 e45 e46 e47 e48 : va_E} {fo : Int32} {x y : Int64} {kc kn : Nat} {O : Option Value → aH → Prop}  (K1 : (¬ fo = (-1)) → O (some (.long y)) (HP e0 e1 e2 e3 e4 e5 e6 e7 e8 e9 e10 e11 e12 e13 e14 e15 e16 e17 e18 e19 e20 e21 e22 e23 e24 e25 e26 e27 e28 e29 e30 e31 e32 (.inr (5, [.ref 34, .int fo])) (.inr (1, [.long x, .long y])) e35 e36 e37 e38 e39 e40 e41 e42 e43 e44 e45 e46 e47 e48)) (K2 : (¬ (¬ fo = (-1))) → O (some (.long (-1))) (HP e0 e1 e2 e3 e4 e5 e6 e7 e8 e9 e10 e11 e12 e13 e14 e15 e16 e17 e18 e19 e20 e21 e22 e23 e24 e25 e26 e27 e28 e29 e30 e31 e32 (.inr (5, [.ref 34, .int fo])) (.inr (1, [.long x, .long y])) e35 e36 e37 e38 e39 e40 e41 e42 e43 e44 e45 e46 e47 e48)) : JR M_Se_part sc (0, [(0, .ref 33), (1, .int 2)], [], (HP e0 e1 e2 e3 e4 e5 e6 e7 e8 e9 e10 e11 e12 e13 e14 e15 e16 e17 e18 e19 e20 e21 e22 e23 e24 e25 e26 e27 e28 e29 e30 e31 e32 (.inr (5, [.ref 34, .int fo])) (.inr (1, [.long x, .long y])) e35 e36 e37 e38 e39 e40 e41 e42 e43 e44 e45 e46 e47 e48), kc, kn) O := by
  refine J.gp ok_Se_part 3 (5, [(0, .ref 33), (1, .int 2)], [.int (-1), .int fo], _, _, _) rfl ?_
  refine J.icB ok_Se_part (fun x y => ¬ x = y) 12 8 rfl (fun (c5 : ¬ fo = (-1)) => ?_) (fun (c5 : ¬ (¬ fo = (-1))) => ?_)
  · refine J.gp ok_Se_part 1 (13, [(0, .ref 33), (1, .int 2)], [.int 2], _, _, _) rfl ?_
    refine J.ifT ok_Se_part (fun x => ¬ x = 0) 24 16 rfl (by decide) ?_
    refine J.gp ok_Se_part 5 (31, [(0, .ref 33), (1, .int 2)], [.int (2 - 1), .ref 34], _, _, _) rfl ?_
    refine J.callVE s_Se_part_31 34 34 [.int (2 - 1)] 1 (c_Fr_part1_34) rfl rfl rfl rfl rfl (Nat.le_of_ble_eq_true rfl) rfl ?_
    refine J.gp ok_Se_part 0 (34, [(0, .ref 33), (1, .int 2)], [.long y], (HP e0 e1 e2 e3 e4 e5 e6 e7 e8 e9 e10 e11 e12 e13 e14 e15 e16 e17 e18 e19 e20 e21 e22 e23 e24 e25 e26 e27 e28 e29 e30 e31 e32 (.inr (5, [.ref 34, .int fo])) (.inr (1, [.long x, .long y])) e35 e36 e37 e38 e39 e40 e41 e42 e43 e44 e45 e46 e47 e48), kc, kn) rfl ?_
    refine JR.lret (by decide +kernel) rfl ?_
    exact K1 c5
  · refine J.gp ok_Se_part 1 (11, [(0, .ref 33), (1, .int 2)], [.long (-1)], _, _, _) rfl ?_
    refine JR.lret (by decide +kernel) rfl ?_
    exact K2 c5

set_option maxRecDepth 100000 in
set_option maxHeartbeats 400000 in
theorem g_Se_part0 {sc : aScr} {e0 e1 e2 e3 e4 e5 e6 e7 e8 e9 e10 e11 e12 e13 e14 e15 e16 e17 e18 e19 e20 e21 e22 e23 e24 e25 e26 e27 e28 e29 e30 e31 e32 e35 e36 e37 e38 e39 e40 e41 e42 e43 e44 e45 e46 e47 e48 : va_E} {fo : Int32} {x y : Int64} {kc kn : Nat} {O : Option Value → aH → Prop}  (K1 : (¬ fo = (-1)) → O (some (.long (fo.toInt64))) (HP e0 e1 e2 e3 e4 e5 e6 e7 e8 e9 e10 e11 e12 e13 e14 e15 e16 e17 e18 e19 e20 e21 e22 e23 e24 e25 e26 e27 e28 e29 e30 e31 e32 (.inr (5, [.ref 34, .int fo])) (.inr (1, [.long x, .long y])) e35 e36 e37 e38 e39 e40 e41 e42 e43 e44 e45 e46 e47 e48)) (K2 : (¬ (¬ fo = (-1))) → O (some (.long (-1))) (HP e0 e1 e2 e3 e4 e5 e6 e7 e8 e9 e10 e11 e12 e13 e14 e15 e16 e17 e18 e19 e20 e21 e22 e23 e24 e25 e26 e27 e28 e29 e30 e31 e32 (.inr (5, [.ref 34, .int fo])) (.inr (1, [.long x, .long y])) e35 e36 e37 e38 e39 e40 e41 e42 e43 e44 e45 e46 e47 e48)) : JR M_Se_part sc (0, [(0, .ref 33), (1, .int 0)], [], (HP e0 e1 e2 e3 e4 e5 e6 e7 e8 e9 e10 e11 e12 e13 e14 e15 e16 e17 e18 e19 e20 e21 e22 e23 e24 e25 e26 e27 e28 e29 e30 e31 e32 (.inr (5, [.ref 34, .int fo])) (.inr (1, [.long x, .long y])) e35 e36 e37 e38 e39 e40 e41 e42 e43 e44 e45 e46 e47 e48), kc, kn) O := by
  refine J.gp ok_Se_part 3 (5, [(0, .ref 33), (1, .int 0)], [.int (-1), .int fo], _, _, _) rfl ?_
  refine J.icB ok_Se_part (fun x y => ¬ x = y) 12 8 rfl (fun (c5 : ¬ fo = (-1)) => ?_) (fun (c5 : ¬ (¬ fo = (-1))) => ?_)
  · refine J.gp ok_Se_part 1 (13, [(0, .ref 33), (1, .int 0)], [.int 0], _, _, _) rfl ?_
    refine J.ifF ok_Se_part (fun x => ¬ x = 0) 24 16 rfl (by decide) ?_
    refine J.gp ok_Se_part 4 (34, [(0, .ref 33), (1, .int 0)], [.long (fo.toInt64)], _, _, _) rfl ?_
    refine JR.lret (by decide +kernel) rfl ?_
    exact K1 c5
  · refine J.gp ok_Se_part 1 (11, [(0, .ref 33), (1, .int 0)], [.long (-1)], _, _, _) rfl ?_
    refine JR.lret (by decide +kernel) rfl ?_
    exact K2 c5

set_option maxRecDepth 100000 in
set_option maxHeartbeats 400000 in
theorem g_Se_consider {sc : aScr} {e0 e1 e2 e3 e4 e5 e6 e7 e8 e9 e10 e11 e12 e13 e14 e15 e16 e17 e18 e19 e20 e21 e22 e23 e24 e25 e26 e27 e28 e29 e30 e32 e35 e36 e37 e38 e39 e40 e41 e42 e43 e44 e45 e46 e47 e48 : va_E} {q b y : Nat} {fo : Int32} {a x : Int64} {kc kn : Nat} {O : Option Value → aH → Prop} (hb : b < 2 ^ 63) (hy : y < 2 ^ 63) (hb1 : (¬ (¬ (if b = 0 then (1 : Int32) else 0) = 0)) → 0 < (lN b).toInt) (hy1 : ¬ (fo = (-1)) → 0 < (lN y).toInt) (K1 : (¬ (if b = 0 then (1 : Int32) else 0) = 0) → O none (HP e0 e1 e2 e3 e4 e5 e6 e7 e8 e9 e10 e11 e12 e13 e14 e15 e16 e17 e18 e19 e20 e21 e22 e23 e24 e25 e26 e27 e28 e29 e30 (.inr (1, [.long a, .long (lN b)])) e32 (.inr (5, [.ref 34, .int fo])) (.inr (1, [.long x, .long (lN y)])) e35 e36 e37 e38 e39 e40 e41 e42 e43 e44 e45 e46 e47 e48)) (K2 : (¬ (¬ (if b = 0 then (1 : Int32) else 0) = 0)) → (fo = (-1)) → O none (HP e0 e1 e2 e3 e4 e5 e6 e7 e8 e9 e10 e11 e12 e13 e14 e15 e16 e17 e18 e19 e20 e21 e22 e23 e24 e25 e26 e27 e28 e29 e30 (.inr (1, [.long a, .long (lN b)])) e32 (.inr (5, [.ref 34, .int (nI q)])) (.inr (1, [.long a, .long (lN b)])) e35 e36 e37 e38 e39 e40 e41 e42 e43 e44 e45 e46 e47 e48)) (K3 : (¬ (¬ (if b = 0 then (1 : Int32) else 0) = 0)) → (¬ (fo = (-1))) → ((ordF a (lN b) x (lN y)) ≤ 0) → O none (HP e0 e1 e2 e3 e4 e5 e6 e7 e8 e9 e10 e11 e12 e13 e14 e15 e16 e17 e18 e19 e20 e21 e22 e23 e24 e25 e26 e27 e28 e29 e30 (.inr (1, [.long a, .long (lN b)])) e32 (.inr (5, [.ref 34, .int fo])) (.inr (1, [.long x, .long (lN y)])) e35 e36 e37 e38 e39 e40 e41 e42 e43 e44 e45 e46 e47 e48)) (K4 : (¬ (¬ (if b = 0 then (1 : Int32) else 0) = 0)) → (¬ (fo = (-1))) → (¬ ((ordF a (lN b) x (lN y)) ≤ 0)) → O none (HP e0 e1 e2 e3 e4 e5 e6 e7 e8 e9 e10 e11 e12 e13 e14 e15 e16 e17 e18 e19 e20 e21 e22 e23 e24 e25 e26 e27 e28 e29 e30 (.inr (1, [.long a, .long (lN b)])) e32 (.inr (5, [.ref 34, .int (nI q)])) (.inr (1, [.long a, .long (lN b)])) e35 e36 e37 e38 e39 e40 e41 e42 e43 e44 e45 e46 e47 e48)) : JR M_Se_consider sc (0, [(0, .ref 33), (1, .int (nI q)), (2, .ref 31)], [], (HP e0 e1 e2 e3 e4 e5 e6 e7 e8 e9 e10 e11 e12 e13 e14 e15 e16 e17 e18 e19 e20 e21 e22 e23 e24 e25 e26 e27 e28 e29 e30 (.inr (1, [.long a, .long (lN b)])) e32 (.inr (5, [.ref 34, .int fo])) (.inr (1, [.long x, .long (lN y)])) e35 e36 e37 e38 e39 e40 e41 e42 e43 e44 e45 e46 e47 e48), kc, kn) O := by
  refine J.gp ok_Se_consider 1 (1, [(0, .ref 33), (1, .int (nI q)), (2, .ref 31)], [.ref 31], _, _, _) rfl ?_
  refine J.callVE s_Se_consider_1 4 31 [] 1 (c_Fr_isNone_31 (by omega)) rfl rfl rfl rfl rfl (Nat.le_of_ble_eq_true rfl) rfl ?_
  refine J.gp ok_Se_consider 0 (4, [(0, .ref 33), (1, .int (nI q)), (2, .ref 31)], [.int (if b = 0 then (1 : Int32) else 0)], (HP e0 e1 e2 e3 e4 e5 e6 e7 e8 e9 e10 e11 e12 e13 e14 e15 e16 e17 e18 e19 e20 e21 e22 e23 e24 e25 e26 e27 e28 e29 e30 (.inr (1, [.long a, .long (lN b)])) e32 (.inr (5, [.ref 34, .int fo])) (.inr (1, [.long x, .long (lN y)])) e35 e36 e37 e38 e39 e40 e41 e42 e43 e44 e45 e46 e47 e48), kc, kn) rfl ?_
  refine J.ifB ok_Se_consider (fun x => ¬ x = 0) 39 7 rfl (fun (c4 : ¬ (if b = 0 then (1 : Int32) else 0) = 0) => ?_) (fun (c4 : ¬ (¬ (if b = 0 then (1 : Int32) else 0) = 0)) => ?_)
  · refine JR.vret (by decide +kernel) rfl ?_
    exact K1 c4
  · refine J.gp ok_Se_consider 3 (12, [(0, .ref 33), (1, .int (nI q)), (2, .ref 31)], [.int (-1), .int fo], _, _, _) rfl ?_
    refine J.icB ok_Se_consider (fun x y => x = y) 26 15 rfl (fun (c12 : fo = (-1)) => ?_) (fun (c12 : ¬ (fo = (-1))) => ?_)
    · refine J.gp ok_Se_consider 3 (31, [(0, .ref 33), (1, .int (nI q)), (2, .ref 31)], [], (HP e0 e1 e2 e3 e4 e5 e6 e7 e8 e9 e10 e11 e12 e13 e14 e15 e16 e17 e18 e19 e20 e21 e22 e23 e24 e25 e26 e27 e28 e29 e30 (.inr (1, [.long a, .long (lN b)])) e32 (.inr (5, [.ref 34, .int (nI q)])) (.inr (1, [.long x, .long (lN y)])) e35 e36 e37 e38 e39 e40 e41 e42 e43 e44 e45 e46 e47 e48), _, _) rfl ?_
      refine J.gp ok_Se_consider 3 (36, [(0, .ref 33), (1, .int (nI q)), (2, .ref 31)], [.ref 31, .ref 34], _, _, _) rfl ?_
      refine J.callVE s_Se_consider_36 39 34 [.ref 31] 1 (c_Fr_copy_34_31) rfl rfl rfl rfl rfl (Nat.le_of_ble_eq_true rfl) rfl ?_
      refine J.gp ok_Se_consider 0 (39, [(0, .ref 33), (1, .int (nI q)), (2, .ref 31)], [], (HP e0 e1 e2 e3 e4 e5 e6 e7 e8 e9 e10 e11 e12 e13 e14 e15 e16 e17 e18 e19 e20 e21 e22 e23 e24 e25 e26 e27 e28 e29 e30 (.inr (1, [.long a, .long (lN b)])) e32 (.inr (5, [.ref 34, .int (nI q)])) (.inr (1, [.long a, .long (lN b)])) e35 e36 e37 e38 e39 e40 e41 e42 e43 e44 e45 e46 e47 e48), kc, kn) rfl ?_
      refine JR.vret (by decide +kernel) rfl ?_
      exact K2 c4 c12
    · refine J.gp ok_Se_consider 3 (20, [(0, .ref 33), (1, .int (nI q)), (2, .ref 31)], [.ref 34, .ref 31], _, _, _) rfl ?_
      refine J.callVE s_Se_consider_20 23 31 [.ref 34] 1 (c_Fr_order_31_34 (hb1 c4) (hy1 c12)) rfl rfl rfl rfl rfl (Nat.le_of_ble_eq_true rfl) rfl ?_
      refine J.gp ok_Se_consider 0 (23, [(0, .ref 33), (1, .int (nI q)), (2, .ref 31)], [.int (ordF a (lN b) x (lN y))], (HP e0 e1 e2 e3 e4 e5 e6 e7 e8 e9 e10 e11 e12 e13 e14 e15 e16 e17 e18 e19 e20 e21 e22 e23 e24 e25 e26 e27 e28 e29 e30 (.inr (1, [.long a, .long (lN b)])) e32 (.inr (5, [.ref 34, .int fo])) (.inr (1, [.long x, .long (lN y)])) e35 e36 e37 e38 e39 e40 e41 e42 e43 e44 e45 e46 e47 e48), kc, kn) rfl ?_
      refine J.ifB ok_Se_consider (fun x => x ≤ 0) 39 26 rfl (fun (c23 : (ordF a (lN b) x (lN y)) ≤ 0) => ?_) (fun (c23 : ¬ ((ordF a (lN b) x (lN y)) ≤ 0)) => ?_)
      · refine JR.vret (by decide +kernel) rfl ?_
        exact K3 c4 c12 c23
      · refine J.gp ok_Se_consider 3 (31, [(0, .ref 33), (1, .int (nI q)), (2, .ref 31)], [], (HP e0 e1 e2 e3 e4 e5 e6 e7 e8 e9 e10 e11 e12 e13 e14 e15 e16 e17 e18 e19 e20 e21 e22 e23 e24 e25 e26 e27 e28 e29 e30 (.inr (1, [.long a, .long (lN b)])) e32 (.inr (5, [.ref 34, .int (nI q)])) (.inr (1, [.long x, .long (lN y)])) e35 e36 e37 e38 e39 e40 e41 e42 e43 e44 e45 e46 e47 e48), _, _) rfl ?_
        refine J.gp ok_Se_consider 3 (36, [(0, .ref 33), (1, .int (nI q)), (2, .ref 31)], [.ref 31, .ref 34], _, _, _) rfl ?_
        refine J.callVE s_Se_consider_36 39 34 [.ref 31] 1 (c_Fr_copy_34_31) rfl rfl rfl rfl rfl (Nat.le_of_ble_eq_true rfl) rfl ?_
        refine J.gp ok_Se_consider 0 (39, [(0, .ref 33), (1, .int (nI q)), (2, .ref 31)], [], (HP e0 e1 e2 e3 e4 e5 e6 e7 e8 e9 e10 e11 e12 e13 e14 e15 e16 e17 e18 e19 e20 e21 e22 e23 e24 e25 e26 e27 e28 e29 e30 (.inr (1, [.long a, .long (lN b)])) e32 (.inr (5, [.ref 34, .int (nI q)])) (.inr (1, [.long a, .long (lN b)])) e35 e36 e37 e38 e39 e40 e41 e42 e43 e44 e45 e46 e47 e48), kc, kn) rfl ?_
        refine JR.vret (by decide +kernel) rfl ?_
        exact K4 c4 c12 c23

abbrev Se3 : Type := Int32 × Int64 × Nat
def seC (q : Nat) (c : Int64 × Nat) (s : Se3) : Se3 :=
  if c.2 = 0 then s else if s.1 = -1 ∨ 0 < ordF c.1 (lN c.2) s.2.1 (lN s.2.2) then (nI q, c.1, c.2) else s
theorem lN_pos {n : Nat} (h : 0 < n) (h2 : n < 2 ^ 63) : 0 < (lN n).toInt := by rw [pk_lT h2]; omega

theorem c_Se_consider {e0 e1 e2 e3 e4 e5 e6 e7 e8 e9 e10 e11 e12 e13 e14 e15 e16 e17 e18 e19 e20 e21 e22 e23 e24 e25 e26 e27 e28 e29 e30 e32 e35 e36 e37 e38 e39 e40 e41 e42 e43 e44 e45 e46 e47 e48 : va_E} {q : Nat} {c : Int64 × Nat} {s : Se3} (hb : c.2 < 2 ^ 63) (hy : s.2.2 < 2 ^ 63) (hs : ¬ s.1 = -1 → 0 < s.2.2) : JE M_Se_consider [.ref 33, .int (nI q), .ref 31] (HP e0 e1 e2 e3 e4 e5 e6 e7 e8 e9 e10 e11 e12 e13 e14 e15 e16 e17 e18 e19 e20 e21 e22 e23 e24 e25 e26 e27 e28 e29 e30 (.inr (1, [.long c.1, .long (lN c.2)])) e32 (.inr (5, [.ref 34, .int s.1])) (.inr (1, [.long s.2.1, .long (lN s.2.2)])) e35 e36 e37 e38 e39 e40 e41 e42 e43 e44 e45 e46 e47 e48) none (HP e0 e1 e2 e3 e4 e5 e6 e7 e8 e9 e10 e11 e12 e13 e14 e15 e16 e17 e18 e19 e20 e21 e22 e23 e24 e25 e26 e27 e28 e29 e30 (.inr (1, [.long c.1, .long (lN c.2)])) e32 (.inr (5, [.ref 34, .int ((seC q c s).1)])) (.inr (1, [.long ((seC q c s).2.1), .long (lN ((seC q c s).2.2))])) e35 e36 e37 e38 e39 e40 e41 e42 e43 e44 e45 e46 e47 e48) := by
  unfold seC
  refine JM.of (by decide +kernel) rfl (Nat.le_of_ble_eq_true rfl) (g_Se_consider hb hy (fun h => ?_) (fun h => lN_pos (hs h) hy) (fun h => ?_) (fun h h2 => ?_) (fun h h2 h3 => ?_) (fun h h2 h3 => ?_))
  · refine lN_pos (Nat.pos_of_ne_zero fun e => ?_) hb
    rw [if_pos e] at h
    exact h (by decide)
  · rw [if_pos (Classical.byContradiction fun e => h (if_neg e))]
    exact ⟨rfl, rfl⟩
  · rw [if_neg (fun e => h (by rw [if_pos e]; decide)), if_pos (Or.inl h2)]
    exact ⟨rfl, rfl⟩
  · rw [if_neg (fun e => h (by rw [if_pos e]; decide)), if_neg (fun e => e.elim h2 (fun e => absurd e (Int32.not_lt.mpr h3)))]
    exact ⟨rfl, rfl⟩
  · rw [if_neg (fun e => h (by rw [if_pos e]; decide)), if_pos (Or.inr (Int32.not_le.mp h3))]
    exact ⟨rfl, rfl⟩
