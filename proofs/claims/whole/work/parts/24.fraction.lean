/-! FRACTIONS -/
theorem JR.gp {M : aM} {sc : aScr} (h : aTb M sc) (k : Nat) {S : aS} (T : aS) {O : Option Value → aH → Prop} (hk : mv M k S = some T) (kk : JR M sc T O) : JR M sc S O := J.gp h k T hk kk
theorem lN_ne0 {n : Nat} (h : 0 < n) (h2 : n < 2 ^ 63) : ¬ lN n = 0 := by
  intro e
  have := (pk_lEQ (a := n) (b := 0) h2 (by decide)).mp e
  omega
theorem c_absN {hh : aH} {x : Int64} (hx : -(2 ^ 63) < x.toInt) : JE M_Jm_abs [.long x] hh (some (.long (lN x.toInt.natAbs))) hh := by
  have h1 := x.toInt_lt
  have e : (if x < 0 then -x else x) = lN x.toInt.natAbs := by
    apply Int64.toInt_inj.mp
    rw [pk_lT (by omega)]
    by_cases h : x < 0
    · rw [if_pos h, l_neg hx]
      have := (l_neg_iff x).mp h
      omega
    · rw [if_neg h]
      have : ¬ x.toInt < 0 := fun h9 => h ((l_neg_iff x).mpr h9)
      omega
  rw [← e]
  exact c_Jm_abs

set_option maxRecDepth 100000 in
set_option maxHeartbeats 400000 in
theorem g_Fr_setNone_31 {sc : aScr} {e0 e1 e2 e3 e4 e5 e6 e7 e8 e9 e10 e11 e12 e13 e14 e15 e16 e17 e18 e19 e20 e21 e22 e23 e24 e25 e26 e27 e28 e29 e30 e32 e33 e34 e35 e36 e37 e38 e39 e40 e41 e42 e43 e44 e45 e46 e47 e48 : va_E} {x y : Int64} {kc kn : Nat} {O : Option Value → aH → Prop}  (K1 : O none (HP e0 e1 e2 e3 e4 e5 e6 e7 e8 e9 e10 e11 e12 e13 e14 e15 e16 e17 e18 e19 e20 e21 e22 e23 e24 e25 e26 e27 e28 e29 e30 (.inr (1, [.long 0, .long 0])) e32 e33 e34 e35 e36 e37 e38 e39 e40 e41 e42 e43 e44 e45 e46 e47 e48)) : JR M_Fr_setNone sc (0, [(0, .ref 31)], [], (HP e0 e1 e2 e3 e4 e5 e6 e7 e8 e9 e10 e11 e12 e13 e14 e15 e16 e17 e18 e19 e20 e21 e22 e23 e24 e25 e26 e27 e28 e29 e30 (.inr (1, [.long x, .long y])) e32 e33 e34 e35 e36 e37 e38 e39 e40 e41 e42 e43 e44 e45 e46 e47 e48), kc, kn) O := by
  refine J.gp ok_Fr_setNone 3 (5, [(0, .ref 31)], [], (HP e0 e1 e2 e3 e4 e5 e6 e7 e8 e9 e10 e11 e12 e13 e14 e15 e16 e17 e18 e19 e20 e21 e22 e23 e24 e25 e26 e27 e28 e29 e30 (.inr (1, [.long 0, .long y])) e32 e33 e34 e35 e36 e37 e38 e39 e40 e41 e42 e43 e44 e45 e46 e47 e48), _, _) rfl ?_
  refine J.gp ok_Fr_setNone 3 (10, [(0, .ref 31)], [], (HP e0 e1 e2 e3 e4 e5 e6 e7 e8 e9 e10 e11 e12 e13 e14 e15 e16 e17 e18 e19 e20 e21 e22 e23 e24 e25 e26 e27 e28 e29 e30 (.inr (1, [.long 0, .long 0])) e32 e33 e34 e35 e36 e37 e38 e39 e40 e41 e42 e43 e44 e45 e46 e47 e48), _, _) rfl ?_
  refine JR.vret (by decide +kernel) rfl ?_
  exact K1

theorem c_Fr_setNone_31 {e0 e1 e2 e3 e4 e5 e6 e7 e8 e9 e10 e11 e12 e13 e14 e15 e16 e17 e18 e19 e20 e21 e22 e23 e24 e25 e26 e27 e28 e29 e30 e32 e33 e34 e35 e36 e37 e38 e39 e40 e41 e42 e43 e44 e45 e46 e47 e48 : va_E} {x y : Int64}  : JE M_Fr_setNone [.ref 31] (HP e0 e1 e2 e3 e4 e5 e6 e7 e8 e9 e10 e11 e12 e13 e14 e15 e16 e17 e18 e19 e20 e21 e22 e23 e24 e25 e26 e27 e28 e29 e30 (.inr (1, [.long x, .long y])) e32 e33 e34 e35 e36 e37 e38 e39 e40 e41 e42 e43 e44 e45 e46 e47 e48) none (HP e0 e1 e2 e3 e4 e5 e6 e7 e8 e9 e10 e11 e12 e13 e14 e15 e16 e17 e18 e19 e20 e21 e22 e23 e24 e25 e26 e27 e28 e29 e30 (.inr (1, [.long 0, .long 0])) e32 e33 e34 e35 e36 e37 e38 e39 e40 e41 e42 e43 e44 e45 e46 e47 e48) := JM.of (by decide +kernel) rfl (Nat.le_of_ble_eq_true rfl) (g_Fr_setNone_31 ⟨rfl, rfl⟩)

set_option maxRecDepth 100000 in
set_option maxHeartbeats 400000 in
theorem g_Fr_part0_31 {sc : aScr} {e0 e1 e2 e3 e4 e5 e6 e7 e8 e9 e10 e11 e12 e13 e14 e15 e16 e17 e18 e19 e20 e21 e22 e23 e24 e25 e26 e27 e28 e29 e30 e32 e33 e34 e35 e36 e37 e38 e39 e40 e41 e42 e43 e44 e45 e46 e47 e48 : va_E} {x y : Int64} {kc kn : Nat} {O : Option Value → aH → Prop}  (K1 : O (some (.long x)) (HP e0 e1 e2 e3 e4 e5 e6 e7 e8 e9 e10 e11 e12 e13 e14 e15 e16 e17 e18 e19 e20 e21 e22 e23 e24 e25 e26 e27 e28 e29 e30 (.inr (1, [.long x, .long y])) e32 e33 e34 e35 e36 e37 e38 e39 e40 e41 e42 e43 e44 e45 e46 e47 e48)) : JR M_Fr_part sc (0, [(0, .ref 31), (1, .int 0)], [], (HP e0 e1 e2 e3 e4 e5 e6 e7 e8 e9 e10 e11 e12 e13 e14 e15 e16 e17 e18 e19 e20 e21 e22 e23 e24 e25 e26 e27 e28 e29 e30 (.inr (1, [.long x, .long y])) e32 e33 e34 e35 e36 e37 e38 e39 e40 e41 e42 e43 e44 e45 e46 e47 e48), kc, kn) O := by
  refine J.gp ok_Fr_part 1 (1, [(0, .ref 31), (1, .int 0)], [.int 0], _, _, _) rfl ?_
  refine J.ifF ok_Fr_part (fun x => ¬ x = 0) 11 4 rfl (by decide) ?_
  refine J.gp ok_Fr_part 3 (15, [(0, .ref 31), (1, .int 0)], [.long x], _, _, _) rfl ?_
  refine JR.lret (by decide +kernel) rfl ?_
  exact K1

theorem c_Fr_part0_31 {e0 e1 e2 e3 e4 e5 e6 e7 e8 e9 e10 e11 e12 e13 e14 e15 e16 e17 e18 e19 e20 e21 e22 e23 e24 e25 e26 e27 e28 e29 e30 e32 e33 e34 e35 e36 e37 e38 e39 e40 e41 e42 e43 e44 e45 e46 e47 e48 : va_E} {x y : Int64}  : JE M_Fr_part [.ref 31, .int 0] (HP e0 e1 e2 e3 e4 e5 e6 e7 e8 e9 e10 e11 e12 e13 e14 e15 e16 e17 e18 e19 e20 e21 e22 e23 e24 e25 e26 e27 e28 e29 e30 (.inr (1, [.long x, .long y])) e32 e33 e34 e35 e36 e37 e38 e39 e40 e41 e42 e43 e44 e45 e46 e47 e48) (some (.long x)) (HP e0 e1 e2 e3 e4 e5 e6 e7 e8 e9 e10 e11 e12 e13 e14 e15 e16 e17 e18 e19 e20 e21 e22 e23 e24 e25 e26 e27 e28 e29 e30 (.inr (1, [.long x, .long y])) e32 e33 e34 e35 e36 e37 e38 e39 e40 e41 e42 e43 e44 e45 e46 e47 e48) := JM.of (by decide +kernel) rfl (Nat.le_of_ble_eq_true rfl) (g_Fr_part0_31 ⟨rfl, rfl⟩)

set_option maxRecDepth 100000 in
set_option maxHeartbeats 400000 in
theorem g_Fr_part1_31 {sc : aScr} {e0 e1 e2 e3 e4 e5 e6 e7 e8 e9 e10 e11 e12 e13 e14 e15 e16 e17 e18 e19 e20 e21 e22 e23 e24 e25 e26 e27 e28 e29 e30 e32 e33 e34 e35 e36 e37 e38 e39 e40 e41 e42 e43 e44 e45 e46 e47 e48 : va_E} {x y : Int64} {kc kn : Nat} {O : Option Value → aH → Prop}  (K1 : O (some (.long y)) (HP e0 e1 e2 e3 e4 e5 e6 e7 e8 e9 e10 e11 e12 e13 e14 e15 e16 e17 e18 e19 e20 e21 e22 e23 e24 e25 e26 e27 e28 e29 e30 (.inr (1, [.long x, .long y])) e32 e33 e34 e35 e36 e37 e38 e39 e40 e41 e42 e43 e44 e45 e46 e47 e48)) : JR M_Fr_part sc (0, [(0, .ref 31), (1, .int 1)], [], (HP e0 e1 e2 e3 e4 e5 e6 e7 e8 e9 e10 e11 e12 e13 e14 e15 e16 e17 e18 e19 e20 e21 e22 e23 e24 e25 e26 e27 e28 e29 e30 (.inr (1, [.long x, .long y])) e32 e33 e34 e35 e36 e37 e38 e39 e40 e41 e42 e43 e44 e45 e46 e47 e48), kc, kn) O := by
  refine J.gp ok_Fr_part 1 (1, [(0, .ref 31), (1, .int 1)], [.int 1], _, _, _) rfl ?_
  refine J.ifT ok_Fr_part (fun x => ¬ x = 0) 11 4 rfl (by decide) ?_
  refine J.gp ok_Fr_part 2 (15, [(0, .ref 31), (1, .int 1)], [.long y], _, _, _) rfl ?_
  refine JR.lret (by decide +kernel) rfl ?_
  exact K1

theorem c_Fr_part1_31 {e0 e1 e2 e3 e4 e5 e6 e7 e8 e9 e10 e11 e12 e13 e14 e15 e16 e17 e18 e19 e20 e21 e22 e23 e24 e25 e26 e27 e28 e29 e30 e32 e33 e34 e35 e36 e37 e38 e39 e40 e41 e42 e43 e44 e45 e46 e47 e48 : va_E} {x y : Int64}  : JE M_Fr_part [.ref 31, .int 1] (HP e0 e1 e2 e3 e4 e5 e6 e7 e8 e9 e10 e11 e12 e13 e14 e15 e16 e17 e18 e19 e20 e21 e22 e23 e24 e25 e26 e27 e28 e29 e30 (.inr (1, [.long x, .long y])) e32 e33 e34 e35 e36 e37 e38 e39 e40 e41 e42 e43 e44 e45 e46 e47 e48) (some (.long y)) (HP e0 e1 e2 e3 e4 e5 e6 e7 e8 e9 e10 e11 e12 e13 e14 e15 e16 e17 e18 e19 e20 e21 e22 e23 e24 e25 e26 e27 e28 e29 e30 (.inr (1, [.long x, .long y])) e32 e33 e34 e35 e36 e37 e38 e39 e40 e41 e42 e43 e44 e45 e46 e47 e48) := JM.of (by decide +kernel) rfl (Nat.le_of_ble_eq_true rfl) (g_Fr_part1_31 ⟨rfl, rfl⟩)

set_option maxRecDepth 100000 in
set_option maxHeartbeats 400000 in
theorem g_Fr_setNone_34 {sc : aScr} {e0 e1 e2 e3 e4 e5 e6 e7 e8 e9 e10 e11 e12 e13 e14 e15 e16 e17 e18 e19 e20 e21 e22 e23 e24 e25 e26 e27 e28 e29 e30 e31 e32 e33 e35 e36 e37 e38 e39 e40 e41 e42 e43 e44 e45 e46 e47 e48 : va_E} {x y : Int64} {kc kn : Nat} {O : Option Value → aH → Prop}  (K1 : O none (HP e0 e1 e2 e3 e4 e5 e6 e7 e8 e9 e10 e11 e12 e13 e14 e15 e16 e17 e18 e19 e20 e21 e22 e23 e24 e25 e26 e27 e28 e29 e30 e31 e32 e33 (.inr (1, [.long 0, .long 0])) e35 e36 e37 e38 e39 e40 e41 e42 e43 e44 e45 e46 e47 e48)) : JR M_Fr_setNone sc (0, [(0, .ref 34)], [], (HP e0 e1 e2 e3 e4 e5 e6 e7 e8 e9 e10 e11 e12 e13 e14 e15 e16 e17 e18 e19 e20 e21 e22 e23 e24 e25 e26 e27 e28 e29 e30 e31 e32 e33 (.inr (1, [.long x, .long y])) e35 e36 e37 e38 e39 e40 e41 e42 e43 e44 e45 e46 e47 e48), kc, kn) O := by
  refine J.gp ok_Fr_setNone 3 (5, [(0, .ref 34)], [], (HP e0 e1 e2 e3 e4 e5 e6 e7 e8 e9 e10 e11 e12 e13 e14 e15 e16 e17 e18 e19 e20 e21 e22 e23 e24 e25 e26 e27 e28 e29 e30 e31 e32 e33 (.inr (1, [.long 0, .long y])) e35 e36 e37 e38 e39 e40 e41 e42 e43 e44 e45 e46 e47 e48), _, _) rfl ?_
  refine J.gp ok_Fr_setNone 3 (10, [(0, .ref 34)], [], (HP e0 e1 e2 e3 e4 e5 e6 e7 e8 e9 e10 e11 e12 e13 e14 e15 e16 e17 e18 e19 e20 e21 e22 e23 e24 e25 e26 e27 e28 e29 e30 e31 e32 e33 (.inr (1, [.long 0, .long 0])) e35 e36 e37 e38 e39 e40 e41 e42 e43 e44 e45 e46 e47 e48), _, _) rfl ?_
  refine JR.vret (by decide +kernel) rfl ?_
  exact K1

theorem c_Fr_setNone_34 {e0 e1 e2 e3 e4 e5 e6 e7 e8 e9 e10 e11 e12 e13 e14 e15 e16 e17 e18 e19 e20 e21 e22 e23 e24 e25 e26 e27 e28 e29 e30 e31 e32 e33 e35 e36 e37 e38 e39 e40 e41 e42 e43 e44 e45 e46 e47 e48 : va_E} {x y : Int64}  : JE M_Fr_setNone [.ref 34] (HP e0 e1 e2 e3 e4 e5 e6 e7 e8 e9 e10 e11 e12 e13 e14 e15 e16 e17 e18 e19 e20 e21 e22 e23 e24 e25 e26 e27 e28 e29 e30 e31 e32 e33 (.inr (1, [.long x, .long y])) e35 e36 e37 e38 e39 e40 e41 e42 e43 e44 e45 e46 e47 e48) none (HP e0 e1 e2 e3 e4 e5 e6 e7 e8 e9 e10 e11 e12 e13 e14 e15 e16 e17 e18 e19 e20 e21 e22 e23 e24 e25 e26 e27 e28 e29 e30 e31 e32 e33 (.inr (1, [.long 0, .long 0])) e35 e36 e37 e38 e39 e40 e41 e42 e43 e44 e45 e46 e47 e48) := JM.of (by decide +kernel) rfl (Nat.le_of_ble_eq_true rfl) (g_Fr_setNone_34 ⟨rfl, rfl⟩)

set_option maxRecDepth 100000 in
set_option maxHeartbeats 400000 in
theorem g_Fr_part0_34 {sc : aScr} {e0 e1 e2 e3 e4 e5 e6 e7 e8 e9 e10 e11 e12 e13 e14 e15 e16 e17 e18 e19 e20 e21 e22 e23 e24 e25 e26 e27 e28 e29 e30 e31 e32 e33 e35 e36 e37 e38 e39 e40 e41 e42 e43 e44 e45 e46 e47 e48 : va_E} {x y : Int64} {kc kn : Nat} {O : Option Value → aH → Prop}  (K1 : O (some (.long x)) (HP e0 e1 e2 e3 e4 e5 e6 e7 e8 e9 e10 e11 e12 e13 e14 e15 e16 e17 e18 e19 e20 e21 e22 e23 e24 e25 e26 e27 e28 e29 e30 e31 e32 e33 (.inr (1, [.long x, .long y])) e35 e36 e37 e38 e39 e40 e41 e42 e43 e44 e45 e46 e47 e48)) : JR M_Fr_part sc (0, [(0, .ref 34), (1, .int 0)], [], (HP e0 e1 e2 e3 e4 e5 e6 e7 e8 e9 e10 e11 e12 e13 e14 e15 e16 e17 e18 e19 e20 e21 e22 e23 e24 e25 e26 e27 e28 e29 e30 e31 e32 e33 (.inr (1, [.long x, .long y])) e35 e36 e37 e38 e39 e40 e41 e42 e43 e44 e45 e46 e47 e48), kc, kn) O := by
  refine J.gp ok_Fr_part 1 (1, [(0, .ref 34), (1, .int 0)], [.int 0], _, _, _) rfl ?_
  refine J.ifF ok_Fr_part (fun x => ¬ x = 0) 11 4 rfl (by decide) ?_
  refine J.gp ok_Fr_part 3 (15, [(0, .ref 34), (1, .int 0)], [.long x], _, _, _) rfl ?_
  refine JR.lret (by decide +kernel) rfl ?_
  exact K1

theorem c_Fr_part0_34 {e0 e1 e2 e3 e4 e5 e6 e7 e8 e9 e10 e11 e12 e13 e14 e15 e16 e17 e18 e19 e20 e21 e22 e23 e24 e25 e26 e27 e28 e29 e30 e31 e32 e33 e35 e36 e37 e38 e39 e40 e41 e42 e43 e44 e45 e46 e47 e48 : va_E} {x y : Int64}  : JE M_Fr_part [.ref 34, .int 0] (HP e0 e1 e2 e3 e4 e5 e6 e7 e8 e9 e10 e11 e12 e13 e14 e15 e16 e17 e18 e19 e20 e21 e22 e23 e24 e25 e26 e27 e28 e29 e30 e31 e32 e33 (.inr (1, [.long x, .long y])) e35 e36 e37 e38 e39 e40 e41 e42 e43 e44 e45 e46 e47 e48) (some (.long x)) (HP e0 e1 e2 e3 e4 e5 e6 e7 e8 e9 e10 e11 e12 e13 e14 e15 e16 e17 e18 e19 e20 e21 e22 e23 e24 e25 e26 e27 e28 e29 e30 e31 e32 e33 (.inr (1, [.long x, .long y])) e35 e36 e37 e38 e39 e40 e41 e42 e43 e44 e45 e46 e47 e48) := JM.of (by decide +kernel) rfl (Nat.le_of_ble_eq_true rfl) (g_Fr_part0_34 ⟨rfl, rfl⟩)

set_option maxRecDepth 100000 in
set_option maxHeartbeats 400000 in
theorem g_Fr_part1_34 {sc : aScr} {e0 e1 e2 e3 e4 e5 e6 e7 e8 e9 e10 e11 e12 e13 e14 e15 e16 e17 e18 e19 e20 e21 e22 e23 e24 e25 e26 e27 e28 e29 e30 e31 e32 e33 e35 e36 e37 e38 e39 e40 e41 e42 e43 e44 e45 e46 e47 e48 : va_E} {x y : Int64} {kc kn : Nat} {O : Option Value → aH → Prop}  (K1 : O (some (.long y)) (HP e0 e1 e2 e3 e4 e5 e6 e7 e8 e9 e10 e11 e12 e13 e14 e15 e16 e17 e18 e19 e20 e21 e22 e23 e24 e25 e26 e27 e28 e29 e30 e31 e32 e33 (.inr (1, [.long x, .long y])) e35 e36 e37 e38 e39 e40 e41 e42 e43 e44 e45 e46 e47 e48)) : JR M_Fr_part sc (0, [(0, .ref 34), (1, .int 1)], [], (HP e0 e1 e2 e3 e4 e5 e6 e7 e8 e9 e10 e11 e12 e13 e14 e15 e16 e17 e18 e19 e20 e21 e22 e23 e24 e25 e26 e27 e28 e29 e30 e31 e32 e33 (.inr (1, [.long x, .long y])) e35 e36 e37 e38 e39 e40 e41 e42 e43 e44 e45 e46 e47 e48), kc, kn) O := by
  refine J.gp ok_Fr_part 1 (1, [(0, .ref 34), (1, .int 1)], [.int 1], _, _, _) rfl ?_
  refine J.ifT ok_Fr_part (fun x => ¬ x = 0) 11 4 rfl (by decide) ?_
  refine J.gp ok_Fr_part 2 (15, [(0, .ref 34), (1, .int 1)], [.long y], _, _, _) rfl ?_
  refine JR.lret (by decide +kernel) rfl ?_
  exact K1

theorem c_Fr_part1_34 {e0 e1 e2 e3 e4 e5 e6 e7 e8 e9 e10 e11 e12 e13 e14 e15 e16 e17 e18 e19 e20 e21 e22 e23 e24 e25 e26 e27 e28 e29 e30 e31 e32 e33 e35 e36 e37 e38 e39 e40 e41 e42 e43 e44 e45 e46 e47 e48 : va_E} {x y : Int64}  : JE M_Fr_part [.ref 34, .int 1] (HP e0 e1 e2 e3 e4 e5 e6 e7 e8 e9 e10 e11 e12 e13 e14 e15 e16 e17 e18 e19 e20 e21 e22 e23 e24 e25 e26 e27 e28 e29 e30 e31 e32 e33 (.inr (1, [.long x, .long y])) e35 e36 e37 e38 e39 e40 e41 e42 e43 e44 e45 e46 e47 e48) (some (.long y)) (HP e0 e1 e2 e3 e4 e5 e6 e7 e8 e9 e10 e11 e12 e13 e14 e15 e16 e17 e18 e19 e20 e21 e22 e23 e24 e25 e26 e27 e28 e29 e30 e31 e32 e33 (.inr (1, [.long x, .long y])) e35 e36 e37 e38 e39 e40 e41 e42 e43 e44 e45 e46 e47 e48) := JM.of (by decide +kernel) rfl (Nat.le_of_ble_eq_true rfl) (g_Fr_part1_34 ⟨rfl, rfl⟩)

set_option maxRecDepth 100000 in
set_option maxHeartbeats 400000 in
theorem g_Fr_isNone_31 {sc : aScr} {e0 e1 e2 e3 e4 e5 e6 e7 e8 e9 e10 e11 e12 e13 e14 e15 e16 e17 e18 e19 e20 e21 e22 e23 e24 e25 e26 e27 e28 e29 e30 e32 e33 e34 e35 e36 e37 e38 e39 e40 e41 e42 e43 e44 e45 e46 e47 e48 : va_E} {x : Int64} {y : Nat} {kc kn : Nat} {O : Option Value → aH → Prop} (hy : y < 2 ^ 63) (K1 : (0 < y) → O (some (.int 0)) (HP e0 e1 e2 e3 e4 e5 e6 e7 e8 e9 e10 e11 e12 e13 e14 e15 e16 e17 e18 e19 e20 e21 e22 e23 e24 e25 e26 e27 e28 e29 e30 (.inr (1, [.long x, .long (lN y)])) e32 e33 e34 e35 e36 e37 e38 e39 e40 e41 e42 e43 e44 e45 e46 e47 e48)) (K2 : (y ≤ 0) → O (some (.int 1)) (HP e0 e1 e2 e3 e4 e5 e6 e7 e8 e9 e10 e11 e12 e13 e14 e15 e16 e17 e18 e19 e20 e21 e22 e23 e24 e25 e26 e27 e28 e29 e30 (.inr (1, [.long x, .long (lN y)])) e32 e33 e34 e35 e36 e37 e38 e39 e40 e41 e42 e43 e44 e45 e46 e47 e48)) : JR M_Fr_isNone sc (0, [(0, .ref 31)], [], (HP e0 e1 e2 e3 e4 e5 e6 e7 e8 e9 e10 e11 e12 e13 e14 e15 e16 e17 e18 e19 e20 e21 e22 e23 e24 e25 e26 e27 e28 e29 e30 (.inr (1, [.long x, .long (lN y)])) e32 e33 e34 e35 e36 e37 e38 e39 e40 e41 e42 e43 e44 e45 e46 e47 e48), kc, kn) O := by
  refine J.gp ok_Fr_isNone 4 (6, [(0, .ref 31)], [.int (lg_cmp (lN y) 0)], _, _, _) rfl ?_
  refine J.ifB ok_Fr_isNone (fun x => 0 < x) 13 9 rfl (fun (h0 : 0 < (lg_cmp (lN y) 0)) => ?_) (fun (h0 : ¬ (0 < (lg_cmp (lN y) 0))) => ?_)
  · have c6 : 0 < y := (cmp_gtN (a := y) (b := 0) (by omega) (by omega)).mp h0
    refine J.gp ok_Fr_isNone 1 (14, [(0, .ref 31)], [.int 0], _, _, _) rfl ?_
    refine JR.iret .boolean (by decide +kernel) rfl (by decide) ?_
    exact K1 c6
  · have c6 : y ≤ 0 := (cmp_gtN_n (a := y) (b := 0) (by omega) (by omega)).mp h0
    refine J.gp ok_Fr_isNone 2 (14, [(0, .ref 31)], [.int 1], _, _, _) rfl ?_
    refine JR.iret .boolean (by decide +kernel) rfl (by decide) ?_
    exact K2 c6

theorem c_Fr_isNone_31 {e0 e1 e2 e3 e4 e5 e6 e7 e8 e9 e10 e11 e12 e13 e14 e15 e16 e17 e18 e19 e20 e21 e22 e23 e24 e25 e26 e27 e28 e29 e30 e32 e33 e34 e35 e36 e37 e38 e39 e40 e41 e42 e43 e44 e45 e46 e47 e48 : va_E} {x : Int64} {y : Nat} (hy : y < 2 ^ 63) : JE M_Fr_isNone [.ref 31] (HP e0 e1 e2 e3 e4 e5 e6 e7 e8 e9 e10 e11 e12 e13 e14 e15 e16 e17 e18 e19 e20 e21 e22 e23 e24 e25 e26 e27 e28 e29 e30 (.inr (1, [.long x, .long (lN y)])) e32 e33 e34 e35 e36 e37 e38 e39 e40 e41 e42 e43 e44 e45 e46 e47 e48) (some (.int (if y = 0 then (1 : Int32) else 0))) (HP e0 e1 e2 e3 e4 e5 e6 e7 e8 e9 e10 e11 e12 e13 e14 e15 e16 e17 e18 e19 e20 e21 e22 e23 e24 e25 e26 e27 e28 e29 e30 (.inr (1, [.long x, .long (lN y)])) e32 e33 e34 e35 e36 e37 e38 e39 e40 e41 e42 e43 e44 e45 e46 e47 e48) := by
  refine JM.of (by decide +kernel) rfl (Nat.le_of_ble_eq_true rfl) (g_Fr_isNone_31 hy (fun c => ⟨?_, rfl⟩) (fun c => ⟨?_, rfl⟩))
  · rw [if_neg (by omega)]
  · rw [if_pos (by omega)]

set_option maxRecDepth 100000 in
set_option maxHeartbeats 400000 in
theorem g_Fr_isNone_32 {sc : aScr} {e0 e1 e2 e3 e4 e5 e6 e7 e8 e9 e10 e11 e12 e13 e14 e15 e16 e17 e18 e19 e20 e21 e22 e23 e24 e25 e26 e27 e28 e29 e30 e31 e33 e34 e35 e36 e37 e38 e39 e40 e41 e42 e43 e44 e45 e46 e47 e48 : va_E} {x : Int64} {y : Nat} {kc kn : Nat} {O : Option Value → aH → Prop} (hy : y < 2 ^ 63) (K1 : (0 < y) → O (some (.int 0)) (HP e0 e1 e2 e3 e4 e5 e6 e7 e8 e9 e10 e11 e12 e13 e14 e15 e16 e17 e18 e19 e20 e21 e22 e23 e24 e25 e26 e27 e28 e29 e30 e31 (.inr (1, [.long x, .long (lN y)])) e33 e34 e35 e36 e37 e38 e39 e40 e41 e42 e43 e44 e45 e46 e47 e48)) (K2 : (y ≤ 0) → O (some (.int 1)) (HP e0 e1 e2 e3 e4 e5 e6 e7 e8 e9 e10 e11 e12 e13 e14 e15 e16 e17 e18 e19 e20 e21 e22 e23 e24 e25 e26 e27 e28 e29 e30 e31 (.inr (1, [.long x, .long (lN y)])) e33 e34 e35 e36 e37 e38 e39 e40 e41 e42 e43 e44 e45 e46 e47 e48)) : JR M_Fr_isNone sc (0, [(0, .ref 32)], [], (HP e0 e1 e2 e3 e4 e5 e6 e7 e8 e9 e10 e11 e12 e13 e14 e15 e16 e17 e18 e19 e20 e21 e22 e23 e24 e25 e26 e27 e28 e29 e30 e31 (.inr (1, [.long x, .long (lN y)])) e33 e34 e35 e36 e37 e38 e39 e40 e41 e42 e43 e44 e45 e46 e47 e48), kc, kn) O := by
  refine J.gp ok_Fr_isNone 4 (6, [(0, .ref 32)], [.int (lg_cmp (lN y) 0)], _, _, _) rfl ?_
  refine J.ifB ok_Fr_isNone (fun x => 0 < x) 13 9 rfl (fun (h0 : 0 < (lg_cmp (lN y) 0)) => ?_) (fun (h0 : ¬ (0 < (lg_cmp (lN y) 0))) => ?_)
  · have c6 : 0 < y := (cmp_gtN (a := y) (b := 0) (by omega) (by omega)).mp h0
    refine J.gp ok_Fr_isNone 1 (14, [(0, .ref 32)], [.int 0], _, _, _) rfl ?_
    refine JR.iret .boolean (by decide +kernel) rfl (by decide) ?_
    exact K1 c6
  · have c6 : y ≤ 0 := (cmp_gtN_n (a := y) (b := 0) (by omega) (by omega)).mp h0
    refine J.gp ok_Fr_isNone 2 (14, [(0, .ref 32)], [.int 1], _, _, _) rfl ?_
    refine JR.iret .boolean (by decide +kernel) rfl (by decide) ?_
    exact K2 c6

theorem c_Fr_isNone_32 {e0 e1 e2 e3 e4 e5 e6 e7 e8 e9 e10 e11 e12 e13 e14 e15 e16 e17 e18 e19 e20 e21 e22 e23 e24 e25 e26 e27 e28 e29 e30 e31 e33 e34 e35 e36 e37 e38 e39 e40 e41 e42 e43 e44 e45 e46 e47 e48 : va_E} {x : Int64} {y : Nat} (hy : y < 2 ^ 63) : JE M_Fr_isNone [.ref 32] (HP e0 e1 e2 e3 e4 e5 e6 e7 e8 e9 e10 e11 e12 e13 e14 e15 e16 e17 e18 e19 e20 e21 e22 e23 e24 e25 e26 e27 e28 e29 e30 e31 (.inr (1, [.long x, .long (lN y)])) e33 e34 e35 e36 e37 e38 e39 e40 e41 e42 e43 e44 e45 e46 e47 e48) (some (.int (if y = 0 then (1 : Int32) else 0))) (HP e0 e1 e2 e3 e4 e5 e6 e7 e8 e9 e10 e11 e12 e13 e14 e15 e16 e17 e18 e19 e20 e21 e22 e23 e24 e25 e26 e27 e28 e29 e30 e31 (.inr (1, [.long x, .long (lN y)])) e33 e34 e35 e36 e37 e38 e39 e40 e41 e42 e43 e44 e45 e46 e47 e48) := by
  refine JM.of (by decide +kernel) rfl (Nat.le_of_ble_eq_true rfl) (g_Fr_isNone_32 hy (fun c => ⟨?_, rfl⟩) (fun c => ⟨?_, rfl⟩))
  · rw [if_neg (by omega)]
  · rw [if_pos (by omega)]

set_option maxRecDepth 100000 in
set_option maxHeartbeats 400000 in
theorem g_Fr_copy_32_31 {sc : aScr} {e0 e1 e2 e3 e4 e5 e6 e7 e8 e9 e10 e11 e12 e13 e14 e15 e16 e17 e18 e19 e20 e21 e22 e23 e24 e25 e26 e27 e28 e29 e30 e33 e34 e35 e36 e37 e38 e39 e40 e41 e42 e43 e44 e45 e46 e47 e48 : va_E} {x y u v : Int64} {kc kn : Nat} {O : Option Value → aH → Prop}  (K1 : O none (HP e0 e1 e2 e3 e4 e5 e6 e7 e8 e9 e10 e11 e12 e13 e14 e15 e16 e17 e18 e19 e20 e21 e22 e23 e24 e25 e26 e27 e28 e29 e30 (.inr (1, [.long u, .long v])) (.inr (1, [.long u, .long v])) e33 e34 e35 e36 e37 e38 e39 e40 e41 e42 e43 e44 e45 e46 e47 e48)) : JR M_Fr_copy sc (0, [(0, .ref 32), (1, .ref 31)], [], (HP e0 e1 e2 e3 e4 e5 e6 e7 e8 e9 e10 e11 e12 e13 e14 e15 e16 e17 e18 e19 e20 e21 e22 e23 e24 e25 e26 e27 e28 e29 e30 (.inr (1, [.long u, .long v])) (.inr (1, [.long x, .long y])) e33 e34 e35 e36 e37 e38 e39 e40 e41 e42 e43 e44 e45 e46 e47 e48), kc, kn) O := by
  refine J.gp ok_Fr_copy 4 (8, [(0, .ref 32), (1, .ref 31)], [], (HP e0 e1 e2 e3 e4 e5 e6 e7 e8 e9 e10 e11 e12 e13 e14 e15 e16 e17 e18 e19 e20 e21 e22 e23 e24 e25 e26 e27 e28 e29 e30 (.inr (1, [.long u, .long v])) (.inr (1, [.long u, .long y])) e33 e34 e35 e36 e37 e38 e39 e40 e41 e42 e43 e44 e45 e46 e47 e48), _, _) rfl ?_
  refine J.gp ok_Fr_copy 4 (16, [(0, .ref 32), (1, .ref 31)], [], (HP e0 e1 e2 e3 e4 e5 e6 e7 e8 e9 e10 e11 e12 e13 e14 e15 e16 e17 e18 e19 e20 e21 e22 e23 e24 e25 e26 e27 e28 e29 e30 (.inr (1, [.long u, .long v])) (.inr (1, [.long u, .long v])) e33 e34 e35 e36 e37 e38 e39 e40 e41 e42 e43 e44 e45 e46 e47 e48), _, _) rfl ?_
  refine JR.vret (by decide +kernel) rfl ?_
  exact K1

theorem c_Fr_copy_32_31 {e0 e1 e2 e3 e4 e5 e6 e7 e8 e9 e10 e11 e12 e13 e14 e15 e16 e17 e18 e19 e20 e21 e22 e23 e24 e25 e26 e27 e28 e29 e30 e33 e34 e35 e36 e37 e38 e39 e40 e41 e42 e43 e44 e45 e46 e47 e48 : va_E} {x y u v : Int64}  : JE M_Fr_copy [.ref 32, .ref 31] (HP e0 e1 e2 e3 e4 e5 e6 e7 e8 e9 e10 e11 e12 e13 e14 e15 e16 e17 e18 e19 e20 e21 e22 e23 e24 e25 e26 e27 e28 e29 e30 (.inr (1, [.long u, .long v])) (.inr (1, [.long x, .long y])) e33 e34 e35 e36 e37 e38 e39 e40 e41 e42 e43 e44 e45 e46 e47 e48) none (HP e0 e1 e2 e3 e4 e5 e6 e7 e8 e9 e10 e11 e12 e13 e14 e15 e16 e17 e18 e19 e20 e21 e22 e23 e24 e25 e26 e27 e28 e29 e30 (.inr (1, [.long u, .long v])) (.inr (1, [.long u, .long v])) e33 e34 e35 e36 e37 e38 e39 e40 e41 e42 e43 e44 e45 e46 e47 e48) := JM.of (by decide +kernel) rfl (Nat.le_of_ble_eq_true rfl) (g_Fr_copy_32_31 ⟨rfl, rfl⟩)

set_option maxRecDepth 100000 in
set_option maxHeartbeats 400000 in
theorem g_Fr_copy_34_31 {sc : aScr} {e0 e1 e2 e3 e4 e5 e6 e7 e8 e9 e10 e11 e12 e13 e14 e15 e16 e17 e18 e19 e20 e21 e22 e23 e24 e25 e26 e27 e28 e29 e30 e32 e33 e35 e36 e37 e38 e39 e40 e41 e42 e43 e44 e45 e46 e47 e48 : va_E} {x y u v : Int64} {kc kn : Nat} {O : Option Value → aH → Prop}  (K1 : O none (HP e0 e1 e2 e3 e4 e5 e6 e7 e8 e9 e10 e11 e12 e13 e14 e15 e16 e17 e18 e19 e20 e21 e22 e23 e24 e25 e26 e27 e28 e29 e30 (.inr (1, [.long u, .long v])) e32 e33 (.inr (1, [.long u, .long v])) e35 e36 e37 e38 e39 e40 e41 e42 e43 e44 e45 e46 e47 e48)) : JR M_Fr_copy sc (0, [(0, .ref 34), (1, .ref 31)], [], (HP e0 e1 e2 e3 e4 e5 e6 e7 e8 e9 e10 e11 e12 e13 e14 e15 e16 e17 e18 e19 e20 e21 e22 e23 e24 e25 e26 e27 e28 e29 e30 (.inr (1, [.long u, .long v])) e32 e33 (.inr (1, [.long x, .long y])) e35 e36 e37 e38 e39 e40 e41 e42 e43 e44 e45 e46 e47 e48), kc, kn) O := by
  refine J.gp ok_Fr_copy 4 (8, [(0, .ref 34), (1, .ref 31)], [], (HP e0 e1 e2 e3 e4 e5 e6 e7 e8 e9 e10 e11 e12 e13 e14 e15 e16 e17 e18 e19 e20 e21 e22 e23 e24 e25 e26 e27 e28 e29 e30 (.inr (1, [.long u, .long v])) e32 e33 (.inr (1, [.long u, .long y])) e35 e36 e37 e38 e39 e40 e41 e42 e43 e44 e45 e46 e47 e48), _, _) rfl ?_
  refine J.gp ok_Fr_copy 4 (16, [(0, .ref 34), (1, .ref 31)], [], (HP e0 e1 e2 e3 e4 e5 e6 e7 e8 e9 e10 e11 e12 e13 e14 e15 e16 e17 e18 e19 e20 e21 e22 e23 e24 e25 e26 e27 e28 e29 e30 (.inr (1, [.long u, .long v])) e32 e33 (.inr (1, [.long u, .long v])) e35 e36 e37 e38 e39 e40 e41 e42 e43 e44 e45 e46 e47 e48), _, _) rfl ?_
  refine JR.vret (by decide +kernel) rfl ?_
  exact K1

theorem c_Fr_copy_34_31 {e0 e1 e2 e3 e4 e5 e6 e7 e8 e9 e10 e11 e12 e13 e14 e15 e16 e17 e18 e19 e20 e21 e22 e23 e24 e25 e26 e27 e28 e29 e30 e32 e33 e35 e36 e37 e38 e39 e40 e41 e42 e43 e44 e45 e46 e47 e48 : va_E} {x y u v : Int64}  : JE M_Fr_copy [.ref 34, .ref 31] (HP e0 e1 e2 e3 e4 e5 e6 e7 e8 e9 e10 e11 e12 e13 e14 e15 e16 e17 e18 e19 e20 e21 e22 e23 e24 e25 e26 e27 e28 e29 e30 (.inr (1, [.long u, .long v])) e32 e33 (.inr (1, [.long x, .long y])) e35 e36 e37 e38 e39 e40 e41 e42 e43 e44 e45 e46 e47 e48) none (HP e0 e1 e2 e3 e4 e5 e6 e7 e8 e9 e10 e11 e12 e13 e14 e15 e16 e17 e18 e19 e20 e21 e22 e23 e24 e25 e26 e27 e28 e29 e30 (.inr (1, [.long u, .long v])) e32 e33 (.inr (1, [.long u, .long v])) e35 e36 e37 e38 e39 e40 e41 e42 e43 e44 e45 e46 e47 e48) := JM.of (by decide +kernel) rfl (Nat.le_of_ble_eq_true rfl) (g_Fr_copy_34_31 ⟨rfl, rfl⟩)

set_option maxRecDepth 100000 in
set_option maxHeartbeats 400000 in
theorem g_Fr_cd {sc : aScr} {hh : aH} {u v : Int64} {x y i : Nat} {kc kn : Nat} {O : Option Value → aH → Prop} (hx : x < 2 ^ 63) (hy : y < 2 ^ 63) (hi : i ≤ 200) (hm : 0 < y → x % y < 2 ^ 63) (K1 : (200 ≤ i) → O (some (.long (lN x))) hh) (K2 : (i < 200) → (y ≤ 0) → O (some (.long (lN x))) hh) (K3 : (i < 200) → (0 < y) → JR M_Fr_commonDivisor sc (9, [(0, .long u), (2, .long v), (4, .long (lN y)), (6, .long (lN (x % y))), (8, .int (nI (i + 1)))], [], hh, kc, kn) O) : JR M_Fr_commonDivisor sc (9, [(0, .long u), (2, .long v), (4, .long (lN x)), (6, .long (lN y)), (8, .int (nI i))], [], hh, kc, kn) O := by
  refine J.gp ok_Fr_commonDivisor 2 (14, [(0, .long u), (2, .long v), (4, .long (lN x)), (6, .long (lN y)), (8, .int (nI i))], [.int 200, .int (nI i)], _, _, _) rfl ?_
  refine J.icB ok_Fr_commonDivisor (fun x y => y ≤ x) 45 17 rfl (fun (h0 : 200 ≤ nI i) => ?_) (fun (h0 : ¬ (200 ≤ nI i)) => ?_)
  · have c14 : 200 ≤ i := (nI_leI (a := 200) (b := i) (by omega) (by omega)).mp h0
    refine J.gp ok_Fr_commonDivisor 1 (47, [(0, .long u), (2, .long v), (4, .long (lN x)), (6, .long (lN y)), (8, .int (nI i))], [.long (lN x)], _, _, _) rfl ?_
    refine JR.lret (by decide +kernel) rfl ?_
    exact K1 c14
  · have c14 : i < 200 := Nat.not_le.mp (fun h9 => h0 ((nI_leI (a := 200) (b := i) (by omega) (by omega)).mpr h9))
    refine J.gp ok_Fr_commonDivisor 3 (21, [(0, .long u), (2, .long v), (4, .long (lN x)), (6, .long (lN y)), (8, .int (nI i))], [.int (lg_cmp (lN y) 0)], _, _, _) rfl ?_
    refine J.ifB ok_Fr_commonDivisor (fun x => x ≤ 0) 45 24 rfl (fun (h0 : (lg_cmp (lN y) 0) ≤ 0) => ?_) (fun (h0 : ¬ ((lg_cmp (lN y) 0) ≤ 0)) => ?_)
    · have c21 : y ≤ 0 := (cmp_leN (a := y) (b := 0) (by omega) (by omega)).mp h0
      refine J.gp ok_Fr_commonDivisor 1 (47, [(0, .long u), (2, .long v), (4, .long (lN x)), (6, .long (lN y)), (8, .int (nI i))], [.long (lN x)], _, _, _) rfl ?_
      refine JR.lret (by decide +kernel) rfl ?_
      exact K2 c14 c21
    · have c21 : 0 < y := (cmp_leN_n (a := y) (b := 0) (by omega) (by omega)).mp h0
      refine J.gp ok_Fr_commonDivisor 2 (28, [(0, .long u), (2, .long v), (4, .long (lN x)), (6, .long (lN y)), (8, .int (nI i))], [.long (lN y), .long (lN x)], _, _, _) rfl ?_
      refine J.lremB ok_Fr_commonDivisor 29 rfl (lN_ne0 (by omega) (by omega)) ?_
      rw [show ((lN x - lN x / lN y * lN y) : Int64) = lN (x % y) from pk_lRem (a := x) (b := y) (by omega) (by omega) (by omega)]
      refine J.gp ok_Fr_commonDivisor 6 (42, [(0, .long u), (2, .long v), (4, .long (lN y)), (6, .long (lN (x % y))), (8, .int (nI i + 1)), (9, .long (lN (x % y)))], [], _, _, _) rfl ?_
      rw [show ((nI i + 1) : Int32) = nI (i + 1) from nI_add i 1]
      refine J.gp ok_Fr_commonDivisor 1 (9, [(0, .long u), (2, .long v), (4, .long (lN y)), (6, .long (lN (x % y))), (8, .int (nI (i + 1))), (9, .long (lN (x % y)))], [], _, _, _) rfl ?_
      refine J.lv [0, 1, 2, 3, 4] [(0, .long u), (2, .long v), (4, .long (lN y)), (6, .long (lN (x % y))), (8, .int (nI (i + 1)))] rfl ?_
      exact K3 c14 c21

theorem Fr_cd {hh : aH} {u v : Int64} (N : Nat) : ∀ i x y : Nat, i + N = 150 → y ≤ x → x * y * 2 ^ i ≤ 2 ^ 126 → x < 2 ^ 63 → JR M_Fr_commonDivisor none (9, [(0, .long u), (2, .long v), (4, .long (lN (x))), (6, .long (lN (y))), (8, .int (nI (i + 1)))], [], hh, 0, 0) (OE (some (.long (lN (Nat.gcd x y)))) hh) := by
  induction N with
  | zero =>
    intro i x y hi hyx hp hx
    have e := pow_end (by omega) hp
    have hy : y = 0 := by
      rcases Nat.mul_eq_zero.mp e with q | q <;> omega
    subst hy
    exact g_Fr_cd hx (by decide) (by omega) (fun h => absurd h (by decide)) (fun c => absurd c (by omega)) (fun _ _ => ⟨by rw [Nat.gcd_zero_right], rfl⟩) (fun _ c => absurd c (by decide))
  | succ N ih =>
    intro i x y hi hyx hp hx
    refine g_Fr_cd hx (by omega) (by omega) (fun h => by have := Nat.mod_lt x h; omega) (fun c => absurd c (by omega)) (fun _ c => ⟨?_, rfl⟩) (fun _ c => ?_)
    · rw [show y = 0 by omega, Nat.gcd_zero_right]
    · have h1 := Nat.mod_lt x c
      have e : Nat.gcd x y = Nat.gcd y (x % y) := by rw [Nat.gcd_comm, Nat.gcd_rec, Nat.gcd_comm]
      rw [e]
      exact ih (i + 1) y (x % y) (by omega) (Nat.le_of_lt h1) (pow_half (euc_half c hyx) hp) (by omega)
theorem c_Fr_commonDivisor {hh : aH} {a b : Nat} (ha : a < 2 ^ 63) (hb : b < 2 ^ 63) : JE M_Fr_commonDivisor [.long (lN a), .long (lN b)] hh (some (.long (lN (Nat.gcd a b)))) hh := by
  refine JM.of (by decide +kernel) rfl (Nat.le_of_ble_eq_true rfl) ?_
  refine JR.gp ok_Fr_commonDivisor 6 (9, [(0, .long (lN a)), (2, .long (lN b)), (4, .long (lN a)), (6, .long (lN b)), (8, .int (nI 0))], [], hh, 0, 0) rfl ?_
  refine g_Fr_cd (x := a) (y := b) (i := 0) ha hb (by decide) (fun h => by have := Nat.mod_lt a h; omega) (fun c => absurd c (by decide)) (fun _ c => ⟨?_, rfl⟩) (fun _ c => ?_)
  · rw [show b = 0 by omega, Nat.gcd_zero_right]
  · have h1 := Nat.mod_lt a c
    have e : Nat.gcd a b = Nat.gcd b (a % b) := by rw [Nat.gcd_comm, Nat.gcd_rec, Nat.gcd_comm]
    rw [e]
    refine Fr_cd 150 0 b (a % b) rfl (Nat.le_of_lt h1) ?_ hb
    rw [Nat.pow_zero, Nat.mul_one]
    calc b * (a % b) ≤ 2 ^ 63 * 2 ^ 63 := Nat.mul_le_mul (Nat.le_of_lt hb) (by omega)
      _ = 2 ^ 126 := by rw [← Nat.pow_add]

set_option maxRecDepth 100000 in
set_option maxHeartbeats 400000 in
theorem g_Fr_set {sc : aScr} {e0 e1 e2 e3 e4 e5 e6 e7 e8 e9 e10 e11 e12 e13 e14 e15 e16 e17 e18 e19 e20 e21 e22 e23 e24 e25 e26 e27 e28 e29 e30 e32 e33 e34 e35 e36 e37 e38 e39 e40 e41 e42 e43 e44 e45 e46 e47 e48 : va_E} {p q x : Int64} {D : Nat} {kc kn : Nat} {O : Option Value → aH → Prop} (hx : -(2 ^ 63) < x.toInt) (hx2 : x.toInt.natAbs < 2 ^ 63) (hD : D < 2 ^ 63) (h0 : 0 < Nat.gcd (x.toInt.natAbs) D) (hg : Nat.gcd (x.toInt.natAbs) D < 2 ^ 63) (K1 : O none (HP e0 e1 e2 e3 e4 e5 e6 e7 e8 e9 e10 e11 e12 e13 e14 e15 e16 e17 e18 e19 e20 e21 e22 e23 e24 e25 e26 e27 e28 e29 e30 (.inr (1, [.long (x / lN (Nat.gcd x.toInt.natAbs D)), .long (lN (D / (Nat.gcd x.toInt.natAbs D)))])) e32 e33 e34 e35 e36 e37 e38 e39 e40 e41 e42 e43 e44 e45 e46 e47 e48)) : JR M_Fr_set sc (0, [(0, .ref 31), (1, .long x), (3, .long (lN D))], [], (HP e0 e1 e2 e3 e4 e5 e6 e7 e8 e9 e10 e11 e12 e13 e14 e15 e16 e17 e18 e19 e20 e21 e22 e23 e24 e25 e26 e27 e28 e29 e30 (.inr (1, [.long p, .long q])) e32 e33 e34 e35 e36 e37 e38 e39 e40 e41 e42 e43 e44 e45 e46 e47 e48), kc, kn) O := by
  refine J.gp ok_Fr_set 1 (1, [(0, .ref 31), (1, .long x), (3, .long (lN D))], [.long x], _, _, _) rfl ?_
  refine J.callSE s_Fr_set_1 4 [.long x] (c_absN hx) rfl rfl (Nat.le_of_ble_eq_true rfl) rfl ?_
  refine J.gp ok_Fr_set 0 (4, [(0, .ref 31), (1, .long x), (3, .long (lN D))], [.long (lN x.toInt.natAbs)], (HP e0 e1 e2 e3 e4 e5 e6 e7 e8 e9 e10 e11 e12 e13 e14 e15 e16 e17 e18 e19 e20 e21 e22 e23 e24 e25 e26 e27 e28 e29 e30 (.inr (1, [.long p, .long q])) e32 e33 e34 e35 e36 e37 e38 e39 e40 e41 e42 e43 e44 e45 e46 e47 e48), kc, kn) rfl ?_
  refine J.gp ok_Fr_set 1 (5, [(0, .ref 31), (1, .long x), (3, .long (lN D))], [.long (lN D), .long (lN x.toInt.natAbs)], _, _, _) rfl ?_
  refine J.callSE s_Fr_set_5 8 [.long (lN x.toInt.natAbs), .long (lN D)] (c_Fr_commonDivisor (by omega) (by omega)) rfl rfl (Nat.le_of_ble_eq_true rfl) rfl ?_
  refine J.gp ok_Fr_set 0 (8, [(0, .ref 31), (1, .long x), (3, .long (lN D))], [.long (lN (Nat.gcd x.toInt.natAbs D))], (HP e0 e1 e2 e3 e4 e5 e6 e7 e8 e9 e10 e11 e12 e13 e14 e15 e16 e17 e18 e19 e20 e21 e22 e23 e24 e25 e26 e27 e28 e29 e30 (.inr (1, [.long p, .long q])) e32 e33 e34 e35 e36 e37 e38 e39 e40 e41 e42 e43 e44 e45 e46 e47 e48), kc, kn) rfl ?_
  refine J.gp ok_Fr_set 4 (14, [(0, .ref 31), (1, .long x), (3, .long (lN D)), (5, .long (lN (Nat.gcd x.toInt.natAbs D)))], [.int (lg_cmp (lN (Nat.gcd x.toInt.natAbs D)) 0)], _, _, _) rfl ?_
  refine J.ifT ok_Fr_set (fun x => 0 < x) 24 17 rfl ((cmp_gtN (a := Nat.gcd x.toInt.natAbs D) (b := 0) (by omega) (by omega)).mpr (by omega)) ?_
  refine J.gp ok_Fr_set 3 (28, [(0, .ref 31), (1, .long x), (3, .long (lN D)), (5, .long (lN (Nat.gcd x.toInt.natAbs D)))], [.long (lN (Nat.gcd x.toInt.natAbs D)), .long x, .ref 31], _, _, _) rfl ?_
  refine J.ldivB ok_Fr_set 29 rfl (lN_ne0 (by omega) (by omega)) ?_
  refine J.gp ok_Fr_set 1 (32, [(0, .ref 31), (1, .long x), (3, .long (lN D)), (5, .long (lN (Nat.gcd x.toInt.natAbs D)))], [], (HP e0 e1 e2 e3 e4 e5 e6 e7 e8 e9 e10 e11 e12 e13 e14 e15 e16 e17 e18 e19 e20 e21 e22 e23 e24 e25 e26 e27 e28 e29 e30 (.inr (1, [.long (x / lN (Nat.gcd x.toInt.natAbs D)), .long q])) e32 e33 e34 e35 e36 e37 e38 e39 e40 e41 e42 e43 e44 e45 e46 e47 e48), _, _) rfl ?_
  refine J.gp ok_Fr_set 3 (36, [(0, .ref 31), (1, .long x), (3, .long (lN D)), (5, .long (lN (Nat.gcd x.toInt.natAbs D)))], [.long (lN (Nat.gcd x.toInt.natAbs D)), .long (lN D), .ref 31], _, _, _) rfl ?_
  refine J.ldivB ok_Fr_set 37 rfl (lN_ne0 (by omega) (by omega)) ?_
  rw [show ((lN D / lN (Nat.gcd x.toInt.natAbs D)) : Int64) = lN (D / (Nat.gcd x.toInt.natAbs D)) from pk_lDiv (a := D) (b := Nat.gcd x.toInt.natAbs D) (by omega) (by omega) (by omega)]
  refine J.gp ok_Fr_set 1 (40, [(0, .ref 31), (1, .long x), (3, .long (lN D)), (5, .long (lN (Nat.gcd x.toInt.natAbs D)))], [], (HP e0 e1 e2 e3 e4 e5 e6 e7 e8 e9 e10 e11 e12 e13 e14 e15 e16 e17 e18 e19 e20 e21 e22 e23 e24 e25 e26 e27 e28 e29 e30 (.inr (1, [.long (x / lN (Nat.gcd x.toInt.natAbs D)), .long (lN (D / (Nat.gcd x.toInt.natAbs D)))])) e32 e33 e34 e35 e36 e37 e38 e39 e40 e41 e42 e43 e44 e45 e46 e47 e48), _, _) rfl ?_
  refine JR.vret (by decide +kernel) rfl ?_
  exact K1

theorem c_Fr_set {e0 e1 e2 e3 e4 e5 e6 e7 e8 e9 e10 e11 e12 e13 e14 e15 e16 e17 e18 e19 e20 e21 e22 e23 e24 e25 e26 e27 e28 e29 e30 e32 e33 e34 e35 e36 e37 e38 e39 e40 e41 e42 e43 e44 e45 e46 e47 e48 : va_E} {p q x : Int64} {D : Nat} (hx : -(2 ^ 63) < x.toInt) (hD : D < 2 ^ 63) (h0 : 0 < D) : JE M_Fr_set [.ref 31, .long x, .long (lN D)] (HP e0 e1 e2 e3 e4 e5 e6 e7 e8 e9 e10 e11 e12 e13 e14 e15 e16 e17 e18 e19 e20 e21 e22 e23 e24 e25 e26 e27 e28 e29 e30 (.inr (1, [.long p, .long q])) e32 e33 e34 e35 e36 e37 e38 e39 e40 e41 e42 e43 e44 e45 e46 e47 e48) none (HP e0 e1 e2 e3 e4 e5 e6 e7 e8 e9 e10 e11 e12 e13 e14 e15 e16 e17 e18 e19 e20 e21 e22 e23 e24 e25 e26 e27 e28 e29 e30 (.inr (1, [.long (x / lN (Nat.gcd (x.toInt.natAbs) D)), .long (lN (D / Nat.gcd (x.toInt.natAbs) D))])) e32 e33 e34 e35 e36 e37 e38 e39 e40 e41 e42 e43 e44 e45 e46 e47 e48) := by
  have h1 := x.toInt_lt
  have h2 : Nat.gcd (x.toInt.natAbs) D ≤ D := Nat.gcd_le_right _ h0
  exact JM.of (by decide +kernel) rfl (Nat.le_of_ble_eq_true rfl) (g_Fr_set hx (by omega) hD (Nat.gcd_pos_of_pos_right _ h0) (by omega) ⟨rfl, rfl⟩)
