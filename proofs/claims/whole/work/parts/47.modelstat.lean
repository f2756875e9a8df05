/-- the reference, an object of 40 fields -/
def MOb (x0 : Int32) (x1 : Int32) (x2 : Int32) (x3 : Int32) (x5 : Int32) (x6 : Int32) (x7 : Int32) (x8 : Int32) (x9 : Int32) (x10 : Int32) (x11 : Int32) (x13 : Int32) (x14 : Int32) (x15 : Int32) (x16 : Int32) (x17 : Int32) (x18 : Int32) (x24 : Int64) (x25 : Int64) (x30 : Int64) (x31 : Int32) (x33 : Int64) (x34 : Int64) (x35 : Int64) (x36 : Int32) (x37 : Int64) (x38 : Int64) (x39 : Int64) : va_E := .inr (10, [.int x0, .int x1, .int x2, .int x3, .ref 36, .int x5, .int x6, .int x7, .int x8, .int x9, .int x10, .int x11, .ref 37, .int x13, .int x14, .int x15, .int x16, .int x17, .int x18, .ref 38, .ref 39, .ref 40, .ref 41, .ref 42, .long x24, .long x25, .ref 43, .ref 44, .ref 45, .ref 46, .long x30, .int x31, .ref 47, .long x33, .long x34, .long x35, .int x36, .long x37, .long x38, .long x39])

/-! THE REFERENCE: its static methods, its helpers, a tick -/
def tbF (B F : Nat → Nat) : Nat → Nat := fun k => if k % 2 = 0 then B (k / 2) else F (k / 2)
theorem nI_dn {k : Nat} (h : 1 ≤ k) : nI k + (-1) = nI (k - 1) := by
  rw [← i32_sub1]
  exact pk_sub (a := k) (b := 1) h
theorem tb_b {B F : Nat → Nat} {l p : Nat} : tbF B F (8 * l + 2 * p) = B (l * 4 + p) := by
  unfold tbF
  rw [if_pos (by omega), show (8 * l + 2 * p) / 2 = l * 4 + p by omega]
theorem tb_f {B F : Nat → Nat} {l p : Nat} : tbF B F (8 * l + 2 * p + 1) = F (l * 4 + p) := by
  unfold tbF
  rw [if_neg (by omega), show (8 * l + 2 * p + 1) / 2 = l * 4 + p by omega]
theorem tb_ub {B F : Nat → Nat} {l p b : Nat} : va_up (tbF B F) (8 * l + 2 * p) b = tbF (va_up B (l * 4 + p) b) F := by
  funext k
  unfold va_up tbF
  dsimp only
  by_cases h : k = 8 * l + 2 * p
  · rw [if_pos h, if_pos (by omega), if_pos (by omega)]
  · rw [if_neg h]
    by_cases h2 : k % 2 = 0
    · rw [if_pos h2, if_pos h2, if_neg (by omega)]
    · rw [if_neg h2, if_neg h2]
theorem tb_uf {B F : Nat → Nat} {l p f : Nat} : va_up (tbF B F) (8 * l + 2 * p + 1) f = tbF B (va_up F (l * 4 + p) f) := by
  funext k
  unfold va_up tbF
  dsimp only
  by_cases h : k = 8 * l + 2 * p + 1
  · rw [if_pos h, if_neg (by omega), if_pos (by omega)]
  · rw [if_neg h]
    by_cases h2 : k % 2 = 0
    · rw [if_pos h2, if_pos h2]
    · rw [if_neg h2, if_neg h2, if_neg (by omega)]

set_option maxRecDepth 100000 in
set_option maxHeartbeats 400000 in
theorem g_Mo_within {sc : aScr} {hh : aH} {a b c : Int32} {kc kn : Nat} {O : Option Value → aH → Prop}  (K1 : (a < b) → O (some (.int 0)) hh) (K2 : (¬ (a < b)) → (c < a) → O (some (.int 0)) hh) (K3 : (¬ (a < b)) → (¬ (c < a)) → O (some (.int 1)) hh) : JR M_Mo_within sc (0, [(0, .int a), (1, .int b), (2, .int c)], [], hh, kc, kn) O := by
  refine J.gp ok_Mo_within 2 (2, [(0, .int a), (1, .int b), (2, .int c)], [.int b, .int a], _, _, _) rfl ?_
  refine J.icB ok_Mo_within (fun x y => x < y) 14 5 rfl (fun (c2 : a < b) => ?_) (fun (c2 : ¬ (a < b)) => ?_)
  · refine J.gp ok_Mo_within 1 (15, [(0, .int a), (1, .int b), (2, .int c)], [.int 0], _, _, _) rfl ?_
    refine JR.iret .boolean (by decide +kernel) rfl (by decide) ?_
    exact K1 c2
  · refine J.gp ok_Mo_within 2 (7, [(0, .int a), (1, .int b), (2, .int c)], [.int c, .int a], _, _, _) rfl ?_
    refine J.icB ok_Mo_within (fun x y => y < x) 14 10 rfl (fun (c7 : c < a) => ?_) (fun (c7 : ¬ (c < a)) => ?_)
    · refine J.gp ok_Mo_within 1 (15, [(0, .int a), (1, .int b), (2, .int c)], [.int 0], _, _, _) rfl ?_
      refine JR.iret .boolean (by decide +kernel) rfl (by decide) ?_
      exact K2 c2 c7
    · refine J.gp ok_Mo_within 2 (15, [(0, .int a), (1, .int b), (2, .int c)], [.int 1], _, _, _) rfl ?_
      refine JR.iret .boolean (by decide +kernel) rfl (by decide) ?_
      exact K3 c2 c7

theorem c_Mo_within_t {hh : aH} {a b c : Int32} (h1 : b ≤ a) (h2 : a ≤ c) : JE M_Mo_within [.int a, .int b, .int c] hh (some (.int 1)) hh :=
  JM.of (by decide +kernel) rfl (Nat.le_of_ble_eq_true rfl) (g_Mo_within (fun d => absurd h1 (Int32.not_le.mpr d)) (fun _ d => absurd h2 (Int32.not_le.mpr d)) (fun _ _ => ⟨rfl, rfl⟩))
theorem c_Mo_within_f {hh : aH} {a b c : Int32} (h : ¬ (b ≤ a ∧ a ≤ c)) : JE M_Mo_within [.int a, .int b, .int c] hh (some (.int 0)) hh :=
  JM.of (by decide +kernel) rfl (Nat.le_of_ble_eq_true rfl) (g_Mo_within (fun _ => ⟨rfl, rfl⟩) (fun _ _ => ⟨rfl, rfl⟩) (fun c d => absurd ⟨Int32.not_lt.mp c, Int32.not_lt.mp d⟩ h))

set_option maxRecDepth 100000 in
set_option maxHeartbeats 400000 in
theorem g_Mo_isLever_t {sc : aScr} {hh : aH} {a : Int32} {kc kn : Nat} {O : Option Value → aH → Prop} (h1 : 0 ≤ a) (h2 : a ≤ 2) (K1 : O (some (.int 1)) hh) : JR M_Mo_isLever sc (0, [(0, .int a)], [], hh, kc, kn) O := by
  refine J.gp ok_Mo_isLever 3 (3, [(0, .int a)], [.int 2, .int 0, .int a], _, _, _) rfl ?_
  refine J.callSE s_Mo_isLever_3 6 [.int a, .int 0, .int 2] (c_Mo_within_t h1 h2) rfl rfl (Nat.le_of_ble_eq_true rfl) rfl ?_
  refine J.gp ok_Mo_isLever 0 (6, [(0, .int a)], [.int 1], hh, kc, kn) rfl ?_
  refine JR.iret .boolean (by decide +kernel) rfl (by decide) ?_
  exact K1

theorem c_Mo_isLever_t {hh : aH} {a : Int32} (h1 : 0 ≤ a) (h2 : a ≤ 2) : JE M_Mo_isLever [.int a] hh (some (.int 1)) hh := JM.of (by decide +kernel) rfl (Nat.le_of_ble_eq_true rfl) (g_Mo_isLever_t h1 h2 ⟨rfl, rfl⟩)

set_option maxRecDepth 100000 in
set_option maxHeartbeats 400000 in
theorem g_Mo_isLever_f {sc : aScr} {hh : aH} {a : Int32} {kc kn : Nat} {O : Option Value → aH → Prop} (h : ¬ (0 ≤ a ∧ a ≤ 2)) (K1 : O (some (.int 0)) hh) : JR M_Mo_isLever sc (0, [(0, .int a)], [], hh, kc, kn) O := by
  refine J.gp ok_Mo_isLever 3 (3, [(0, .int a)], [.int 2, .int 0, .int a], _, _, _) rfl ?_
  refine J.callSE s_Mo_isLever_3 6 [.int a, .int 0, .int 2] (c_Mo_within_f h) rfl rfl (Nat.le_of_ble_eq_true rfl) rfl ?_
  refine J.gp ok_Mo_isLever 0 (6, [(0, .int a)], [.int 0], hh, kc, kn) rfl ?_
  refine JR.iret .boolean (by decide +kernel) rfl (by decide) ?_
  exact K1

theorem c_Mo_isLever_f {hh : aH} {a : Int32} (h : ¬ (0 ≤ a ∧ a ≤ 2)) : JE M_Mo_isLever [.int a] hh (some (.int 0)) hh := JM.of (by decide +kernel) rfl (Nat.le_of_ble_eq_true rfl) (g_Mo_isLever_f h ⟨rfl, rfl⟩)

set_option maxRecDepth 100000 in
set_option maxHeartbeats 400000 in
theorem g_Mo_isPosition_t {sc : aScr} {e0 e1 e2 e3 e4 e5 e6 e7 e8 e9 e10 e11 e12 e13 e14 e15 e16 e17 e18 e19 e20 e21 e22 e23 e24 e25 e26 e27 e28 e29 e30 e31 e32 e33 e34 e36 e37 e38 e39 e40 e41 e42 e43 e44 e45 e46 e47 e48 : va_E} {m13 m14 m15 m16 m17 m18 m31 m36 th gn : Int32} {m24 m25 m30 m33 m34 m35 m37 m38 m39 : Int64} {m g w p P i s t bl : Nat} {a : Int32} {kc kn : Nat} {O : Option Value → aH → Prop} (h1 : 0 ≤ a) (h2 : a ≤ (nI m - 1)) (K1 : O (some (.int 1)) (HP e0 e1 e2 e3 e4 e5 e6 e7 e8 e9 e10 e11 e12 e13 e14 e15 e16 e17 e18 e19 e20 e21 e22 e23 e24 e25 e26 e27 e28 e29 e30 e31 e32 e33 e34 (MOb th (nI m) (nI g) (nI w) (nI p) (nI P) (nI i) (nI s) gn (nI t) (nI bl) m13 m14 m15 m16 m17 m18 m24 m25 m30 m31 m33 m34 m35 m36 m37 m38 m39) e36 e37 e38 e39 e40 e41 e42 e43 e44 e45 e46 e47 e48)) : JR M_Mo_isPosition sc (0, [(0, .ref 35), (1, .int a)], [], (HP e0 e1 e2 e3 e4 e5 e6 e7 e8 e9 e10 e11 e12 e13 e14 e15 e16 e17 e18 e19 e20 e21 e22 e23 e24 e25 e26 e27 e28 e29 e30 e31 e32 e33 e34 (MOb th (nI m) (nI g) (nI w) (nI p) (nI P) (nI i) (nI s) gn (nI t) (nI bl) m13 m14 m15 m16 m17 m18 m24 m25 m30 m31 m33 m34 m35 m36 m37 m38 m39) e36 e37 e38 e39 e40 e41 e42 e43 e44 e45 e46 e47 e48), kc, kn) O := by
  refine J.gp ok_Mo_isPosition 6 (8, [(0, .ref 35), (1, .int a)], [.int (nI m - 1), .int 0, .int a], _, _, _) rfl ?_
  refine J.callSE s_Mo_isPosition_8 11 [.int a, .int 0, .int (nI m - 1)] (c_Mo_within_t h1 h2) rfl rfl (Nat.le_of_ble_eq_true rfl) rfl ?_
  refine J.gp ok_Mo_isPosition 0 (11, [(0, .ref 35), (1, .int a)], [.int 1], (HP e0 e1 e2 e3 e4 e5 e6 e7 e8 e9 e10 e11 e12 e13 e14 e15 e16 e17 e18 e19 e20 e21 e22 e23 e24 e25 e26 e27 e28 e29 e30 e31 e32 e33 e34 (MOb th (nI m) (nI g) (nI w) (nI p) (nI P) (nI i) (nI s) gn (nI t) (nI bl) m13 m14 m15 m16 m17 m18 m24 m25 m30 m31 m33 m34 m35 m36 m37 m38 m39) e36 e37 e38 e39 e40 e41 e42 e43 e44 e45 e46 e47 e48), kc, kn) rfl ?_
  refine JR.iret .boolean (by decide +kernel) rfl (by decide) ?_
  exact K1

theorem c_Mo_isPosition_t {e0 e1 e2 e3 e4 e5 e6 e7 e8 e9 e10 e11 e12 e13 e14 e15 e16 e17 e18 e19 e20 e21 e22 e23 e24 e25 e26 e27 e28 e29 e30 e31 e32 e33 e34 e36 e37 e38 e39 e40 e41 e42 e43 e44 e45 e46 e47 e48 : va_E} {m13 m14 m15 m16 m17 m18 m31 m36 th gn : Int32} {m24 m25 m30 m33 m34 m35 m37 m38 m39 : Int64} {m g w p P i s t bl : Nat} {a : Int32} (h1 : 0 ≤ a) (h2 : a ≤ (nI m - 1)) : JE M_Mo_isPosition [.ref 35, .int a] (HP e0 e1 e2 e3 e4 e5 e6 e7 e8 e9 e10 e11 e12 e13 e14 e15 e16 e17 e18 e19 e20 e21 e22 e23 e24 e25 e26 e27 e28 e29 e30 e31 e32 e33 e34 (MOb th (nI m) (nI g) (nI w) (nI p) (nI P) (nI i) (nI s) gn (nI t) (nI bl) m13 m14 m15 m16 m17 m18 m24 m25 m30 m31 m33 m34 m35 m36 m37 m38 m39) e36 e37 e38 e39 e40 e41 e42 e43 e44 e45 e46 e47 e48) (some (.int 1)) (HP e0 e1 e2 e3 e4 e5 e6 e7 e8 e9 e10 e11 e12 e13 e14 e15 e16 e17 e18 e19 e20 e21 e22 e23 e24 e25 e26 e27 e28 e29 e30 e31 e32 e33 e34 (MOb th (nI m) (nI g) (nI w) (nI p) (nI P) (nI i) (nI s) gn (nI t) (nI bl) m13 m14 m15 m16 m17 m18 m24 m25 m30 m31 m33 m34 m35 m36 m37 m38 m39) e36 e37 e38 e39 e40 e41 e42 e43 e44 e45 e46 e47 e48) := JM.of (by decide +kernel) rfl (Nat.le_of_ble_eq_true rfl) (g_Mo_isPosition_t h1 h2 ⟨rfl, rfl⟩)

set_option maxRecDepth 100000 in
set_option maxHeartbeats 400000 in
theorem g_Mo_isPosition_f {sc : aScr} {e0 e1 e2 e3 e4 e5 e6 e7 e8 e9 e10 e11 e12 e13 e14 e15 e16 e17 e18 e19 e20 e21 e22 e23 e24 e25 e26 e27 e28 e29 e30 e31 e32 e33 e34 e36 e37 e38 e39 e40 e41 e42 e43 e44 e45 e46 e47 e48 : va_E} {m13 m14 m15 m16 m17 m18 m31 m36 th gn : Int32} {m24 m25 m30 m33 m34 m35 m37 m38 m39 : Int64} {m g w p P i s t bl : Nat} {a : Int32} {kc kn : Nat} {O : Option Value → aH → Prop} (h : ¬ (0 ≤ a ∧ a ≤ (nI m - 1))) (K1 : O (some (.int 0)) (HP e0 e1 e2 e3 e4 e5 e6 e7 e8 e9 e10 e11 e12 e13 e14 e15 e16 e17 e18 e19 e20 e21 e22 e23 e24 e25 e26 e27 e28 e29 e30 e31 e32 e33 e34 (MOb th (nI m) (nI g) (nI w) (nI p) (nI P) (nI i) (nI s) gn (nI t) (nI bl) m13 m14 m15 m16 m17 m18 m24 m25 m30 m31 m33 m34 m35 m36 m37 m38 m39) e36 e37 e38 e39 e40 e41 e42 e43 e44 e45 e46 e47 e48)) : JR M_Mo_isPosition sc (0, [(0, .ref 35), (1, .int a)], [], (HP e0 e1 e2 e3 e4 e5 e6 e7 e8 e9 e10 e11 e12 e13 e14 e15 e16 e17 e18 e19 e20 e21 e22 e23 e24 e25 e26 e27 e28 e29 e30 e31 e32 e33 e34 (MOb th (nI m) (nI g) (nI w) (nI p) (nI P) (nI i) (nI s) gn (nI t) (nI bl) m13 m14 m15 m16 m17 m18 m24 m25 m30 m31 m33 m34 m35 m36 m37 m38 m39) e36 e37 e38 e39 e40 e41 e42 e43 e44 e45 e46 e47 e48), kc, kn) O := by
  refine J.gp ok_Mo_isPosition 6 (8, [(0, .ref 35), (1, .int a)], [.int (nI m - 1), .int 0, .int a], _, _, _) rfl ?_
  refine J.callSE s_Mo_isPosition_8 11 [.int a, .int 0, .int (nI m - 1)] (c_Mo_within_f h) rfl rfl (Nat.le_of_ble_eq_true rfl) rfl ?_
  refine J.gp ok_Mo_isPosition 0 (11, [(0, .ref 35), (1, .int a)], [.int 0], (HP e0 e1 e2 e3 e4 e5 e6 e7 e8 e9 e10 e11 e12 e13 e14 e15 e16 e17 e18 e19 e20 e21 e22 e23 e24 e25 e26 e27 e28 e29 e30 e31 e32 e33 e34 (MOb th (nI m) (nI g) (nI w) (nI p) (nI P) (nI i) (nI s) gn (nI t) (nI bl) m13 m14 m15 m16 m17 m18 m24 m25 m30 m31 m33 m34 m35 m36 m37 m38 m39) e36 e37 e38 e39 e40 e41 e42 e43 e44 e45 e46 e47 e48), kc, kn) rfl ?_
  refine JR.iret .boolean (by decide +kernel) rfl (by decide) ?_
  exact K1

theorem c_Mo_isPosition_f {e0 e1 e2 e3 e4 e5 e6 e7 e8 e9 e10 e11 e12 e13 e14 e15 e16 e17 e18 e19 e20 e21 e22 e23 e24 e25 e26 e27 e28 e29 e30 e31 e32 e33 e34 e36 e37 e38 e39 e40 e41 e42 e43 e44 e45 e46 e47 e48 : va_E} {m13 m14 m15 m16 m17 m18 m31 m36 th gn : Int32} {m24 m25 m30 m33 m34 m35 m37 m38 m39 : Int64} {m g w p P i s t bl : Nat} {a : Int32} (h : ¬ (0 ≤ a ∧ a ≤ (nI m - 1))) : JE M_Mo_isPosition [.ref 35, .int a] (HP e0 e1 e2 e3 e4 e5 e6 e7 e8 e9 e10 e11 e12 e13 e14 e15 e16 e17 e18 e19 e20 e21 e22 e23 e24 e25 e26 e27 e28 e29 e30 e31 e32 e33 e34 (MOb th (nI m) (nI g) (nI w) (nI p) (nI P) (nI i) (nI s) gn (nI t) (nI bl) m13 m14 m15 m16 m17 m18 m24 m25 m30 m31 m33 m34 m35 m36 m37 m38 m39) e36 e37 e38 e39 e40 e41 e42 e43 e44 e45 e46 e47 e48) (some (.int 0)) (HP e0 e1 e2 e3 e4 e5 e6 e7 e8 e9 e10 e11 e12 e13 e14 e15 e16 e17 e18 e19 e20 e21 e22 e23 e24 e25 e26 e27 e28 e29 e30 e31 e32 e33 e34 (MOb th (nI m) (nI g) (nI w) (nI p) (nI P) (nI i) (nI s) gn (nI t) (nI bl) m13 m14 m15 m16 m17 m18 m24 m25 m30 m31 m33 m34 m35 m36 m37 m38 m39) e36 e37 e38 e39 e40 e41 e42 e43 e44 e45 e46 e47 e48) := JM.of (by decide +kernel) rfl (Nat.le_of_ble_eq_true rfl) (g_Mo_isPosition_f h ⟨rfl, rfl⟩)

set_option maxRecDepth 100000 in
set_option maxHeartbeats 400000 in
theorem g_Mo_isProgram_o {sc : aScr} {hh : aH} {a : Int32} {kc kn : Nat} {O : Option Value → aH → Prop} (h : ¬ (1 ≤ a ∧ a ≤ 255)) (K1 : O (some (.int 0)) hh) : JR M_Mo_isProgram sc (0, [(0, .int a)], [], hh, kc, kn) O := by
  refine J.gp ok_Mo_isProgram 3 (5, [(0, .int a)], [.int 255, .int 1, .int a], _, _, _) rfl ?_
  refine J.callSE s_Mo_isProgram_5 8 [.int a, .int 1, .int 255] (c_Mo_within_f h) rfl rfl (Nat.le_of_ble_eq_true rfl) rfl ?_
  refine J.gp ok_Mo_isProgram 0 (8, [(0, .int a)], [.int 0], hh, kc, kn) rfl ?_
  refine J.ifF ok_Mo_isProgram (fun x => ¬ x = 0) 13 11 rfl (by decide) ?_
  refine J.gp ok_Mo_isProgram 1 (12, [(0, .int a)], [.int 0], _, _, _) rfl ?_
  refine JR.iret .boolean (by decide +kernel) rfl (by decide) ?_
  exact K1

theorem c_Mo_isProgram_o {hh : aH} {a : Int32} (h : ¬ (1 ≤ a ∧ a ≤ 255)) : JE M_Mo_isProgram [.int a] hh (some (.int 0)) hh := JM.of (by decide +kernel) rfl (Nat.le_of_ble_eq_true rfl) (g_Mo_isProgram_o h ⟨rfl, rfl⟩)

set_option maxRecDepth 100000 in
set_option maxHeartbeats 400000 in
theorem g_Mo_isProgram0 {sc : aScr} {hh : aH} {p : Nat} {kc kn : Nat} {O : Option Value → aH → Prop} (h1 : 1 ≤ nI p) (h2 : nI p ≤ 255) (K1 : JR M_Mo_isProgram sc (17, [(1, .int 1), (2, .int (nI p))], [], hh, kc, kn) O) : JR M_Mo_isProgram sc (0, [(0, .int (nI p))], [], hh, kc, kn) O := by
  refine J.gp ok_Mo_isProgram 3 (5, [(0, .int (nI p))], [.int 255, .int 1, .int (nI p)], _, _, _) rfl ?_
  refine J.callSE s_Mo_isProgram_5 8 [.int (nI p), .int 1, .int 255] (c_Mo_within_t h1 h2) rfl rfl (Nat.le_of_ble_eq_true rfl) rfl ?_
  refine J.gp ok_Mo_isProgram 0 (8, [(0, .int (nI p))], [.int 1], hh, kc, kn) rfl ?_
  refine J.ifT ok_Mo_isProgram (fun x => ¬ x = 0) 13 11 rfl (by decide) ?_
  refine J.gp ok_Mo_isProgram 4 (17, [(0, .int (nI p)), (1, .int 1), (2, .int (nI p))], [], _, _, _) rfl ?_
  refine J.lv [1, 2] [(1, .int 1), (2, .int (nI p))] rfl ?_
  exact K1

theorem zz01 : ∀ z, z < 2 → narrow .boolean (.int (nI z)) = .int (nI z) := by decide +kernel
set_option maxRecDepth 100000 in
set_option maxHeartbeats 400000 in
theorem g_Mo_isProgram1 {sc : aScr} {hh : aH} {r z : Nat} {kc kn : Nat} {O : Option Value → aH → Prop} (hr : r < 256) (hz : z < 2) (K1 : (r ≤ 0) → O (some (.int (nI z))) hh) (K2 : (0 < r) → (z = 0) → JR M_Mo_isProgram sc (17, [(1, .int 0), (2, .int (nI (r / 4)))], [], hh, kc, kn) O) (K3 : (0 < r) → (¬ z = 0) → ((r % 4) ≤ 0) → JR M_Mo_isProgram sc (17, [(1, .int 0), (2, .int (nI (r / 4)))], [], hh, kc, kn) O) (K4 : (0 < r) → (¬ z = 0) → (0 < (r % 4)) → JR M_Mo_isProgram sc (17, [(1, .int 1), (2, .int (nI (r / 4)))], [], hh, kc, kn) O) : JR M_Mo_isProgram sc (17, [(1, .int (nI z)), (2, .int (nI r))], [], hh, kc, kn) O := by
  refine J.gp ok_Mo_isProgram 1 (18, [(1, .int (nI z)), (2, .int (nI r))], [.int (nI r)], _, _, _) rfl ?_
  refine J.ifB ok_Mo_isProgram (fun x => x ≤ 0) 44 21 rfl (fun (h0 : nI r ≤ 0) => ?_) (fun (h0 : ¬ (nI r ≤ 0)) => ?_)
  · have c18 : r ≤ 0 := (nI_leI (a := r) (b := 0) (by omega) (by omega)).mp h0
    refine J.gp ok_Mo_isProgram 1 (45, [(1, .int (nI z)), (2, .int (nI r))], [.int (nI z)], _, _, _) rfl ?_
    refine JR.iret .boolean (by decide +kernel) rfl (zz01 z hz) ?_
    exact K1 c18
  · have c18 : 0 < r := Nat.not_le.mp (fun h9 => h0 ((nI_leI (a := r) (b := 0) (by omega) (by omega)).mpr h9))
    refine J.gp ok_Mo_isProgram 1 (22, [(1, .int (nI z)), (2, .int (nI r))], [.int (nI z)], _, _, _) rfl ?_
    refine J.ifB ok_Mo_isProgram (fun x => x = 0) 35 25 rfl (fun (h0 : nI z = 0) => ?_) (fun (h0 : ¬ (nI z = 0)) => ?_)
    · have c22 : z = 0 := (nI_eq (a := z) (b := 0) (by omega) (by omega)).mp h0
      refine J.gp ok_Mo_isProgram 4 (39, [(1, .int 0), (2, .int (nI r))], [.int 4, .int (nI r)], _, _, _) rfl ?_
      refine J.idivB ok_Mo_isProgram 40 rfl (by decide) ?_
      rw [show ((nI r / 4) : Int32) = nI (r / 4) from pk_div (a := r) (d := 4) (by omega) (by omega) (by omega)]
      refine J.gp ok_Mo_isProgram 2 (17, [(1, .int 0), (2, .int (nI (r / 4)))], [], _, _, _) rfl ?_
      exact K2 c18 c22
    · have c22 : ¬ z = 0 := fun h9 => h0 ((nI_eq (a := z) (b := 0) (by omega) (by omega)).mpr h9)
      refine J.gp ok_Mo_isProgram 2 (27, [(1, .int (nI z)), (2, .int (nI r))], [.int 4, .int (nI r)], _, _, _) rfl ?_
      refine J.iremB ok_Mo_isProgram 28 rfl (by decide) ?_
      rw [show ((nI r - nI r / 4 * 4) : Int32) = nI (r % 4) from pk_rem (a := r) (d := 4) (by omega) (by omega) (by omega)]
      refine J.ifB ok_Mo_isProgram (fun x => x ≤ 0) 35 31 rfl (fun (h0 : nI (r % 4) ≤ 0) => ?_) (fun (h0 : ¬ (nI (r % 4) ≤ 0)) => ?_)
      · have c28 : (r % 4) ≤ 0 := (nI_leI (a := r % 4) (b := 0) (by omega) (by omega)).mp h0
        refine J.gp ok_Mo_isProgram 4 (39, [(1, .int 0), (2, .int (nI r))], [.int 4, .int (nI r)], _, _, _) rfl ?_
        refine J.idivB ok_Mo_isProgram 40 rfl (by decide) ?_
        rw [show ((nI r / 4) : Int32) = nI (r / 4) from pk_div (a := r) (d := 4) (by omega) (by omega) (by omega)]
        refine J.gp ok_Mo_isProgram 2 (17, [(1, .int 0), (2, .int (nI (r / 4)))], [], _, _, _) rfl ?_
        exact K3 c18 c22 c28
      · have c28 : 0 < (r % 4) := Nat.not_le.mp (fun h9 => h0 ((nI_leI (a := r % 4) (b := 0) (by omega) (by omega)).mpr h9))
        refine J.gp ok_Mo_isProgram 5 (39, [(1, .int 1), (2, .int (nI r))], [.int 4, .int (nI r)], _, _, _) rfl ?_
        refine J.idivB ok_Mo_isProgram 40 rfl (by decide) ?_
        rw [show ((nI r / 4) : Int32) = nI (r / 4) from pk_div (a := r) (d := 4) (by omega) (by omega) (by omega)]
        refine J.gp ok_Mo_isProgram 2 (17, [(1, .int 1), (2, .int (nI (r / 4)))], [], _, _, _) rfl ?_
        exact K4 c18 c22 c28

set_option maxRecDepth 100000 in
set_option maxHeartbeats 400000 in
theorem g_Mo_size0 {sc : aScr} {hh : aH} {p : Nat} {kc kn : Nat} {O : Option Value → aH → Prop}  (K1 : JR M_Mo_size sc (4, [(1, .int 0), (2, .int (nI p))], [], hh, kc, kn) O) : JR M_Mo_size sc (0, [(0, .int (nI p))], [], hh, kc, kn) O := by
  refine J.gp ok_Mo_size 4 (4, [(0, .int (nI p)), (1, .int 0), (2, .int (nI p))], [], _, _, _) rfl ?_
  refine J.lv [1, 2] [(1, .int 0), (2, .int (nI p))] rfl ?_
  exact K1

set_option maxRecDepth 100000 in
set_option maxHeartbeats 400000 in
theorem g_Mo_size1 {sc : aScr} {hh : aH} {n r : Nat} {kc kn : Nat} {O : Option Value → aH → Prop} (hr : r < 256) (K1 : (r ≤ 0) → O (some (.int (nI n))) hh) (K2 : (0 < r) → JR M_Mo_size sc (4, [(1, .int (nI (n + 1))), (2, .int (nI (r / 4)))], [], hh, kc, kn) O) : JR M_Mo_size sc (4, [(1, .int (nI n)), (2, .int (nI r))], [], hh, kc, kn) O := by
  refine J.gp ok_Mo_size 1 (5, [(1, .int (nI n)), (2, .int (nI r))], [.int (nI r)], _, _, _) rfl ?_
  refine J.ifB ok_Mo_size (fun x => x ≤ 0) 18 8 rfl (fun (h0 : nI r ≤ 0) => ?_) (fun (h0 : ¬ (nI r ≤ 0)) => ?_)
  · have c5 : r ≤ 0 := (nI_leI (a := r) (b := 0) (by omega) (by omega)).mp h0
    refine J.gp ok_Mo_size 1 (19, [(1, .int (nI n)), (2, .int (nI r))], [.int (nI n)], _, _, _) rfl ?_
    refine JR.iret .int (by decide +kernel) rfl (rfl) ?_
    exact K1 c5
  · have c5 : 0 < r := Nat.not_le.mp (fun h9 => h0 ((nI_leI (a := r) (b := 0) (by omega) (by omega)).mpr h9))
    refine J.gp ok_Mo_size 1 (11, [(1, .int (nI n + 1)), (2, .int (nI r))], [], _, _, _) rfl ?_
    rw [show ((nI n + 1) : Int32) = nI (n + 1) from nI_add n 1]
    refine J.gp ok_Mo_size 2 (13, [(1, .int (nI (n + 1))), (2, .int (nI r))], [.int 4, .int (nI r)], _, _, _) rfl ?_
    refine J.idivB ok_Mo_size 14 rfl (by decide) ?_
    rw [show ((nI r / 4) : Int32) = nI (r / 4) from pk_div (a := r) (d := 4) (by omega) (by omega) (by omega)]
    refine J.gp ok_Mo_size 2 (4, [(1, .int (nI (n + 1))), (2, .int (nI (r / 4)))], [], _, _, _) rfl ?_
    exact K2 c5

def ipF : Nat → Nat → Nat → Nat
  | 0, _, z => z
  | k + 1, r, z => if r = 0 then z else ipF k (r / 4) (if z = 0 then 0 else if r % 4 = 0 then 0 else 1)
theorem ipF_all : ∀ p, p < 256 → ipF 4 p 1 = if isPr p = true then 1 else if p = 0 then 1 else 0 := by decide +kernel
def szF : Nat → Nat → Nat → Nat
  | 0, n, _ => n
  | k + 1, n, r => if r = 0 then n else szF k (n + 1) (r / 4)
theorem szF_all : ∀ p, p < 256 → 0 < p → szF 4 0 p = plen p := by decide +kernel
theorem Mo_ip {hh : aH} (k : Nat) : ∀ r z, r < 4 ^ k → r < 256 → z < 2 → JR M_Mo_isProgram none (17, [(1, .int (nI z)), (2, .int (nI r))], [], hh, 0, 0) (OE (some (.int (nI (ipF k r z)))) hh) := by
  induction k with
  | zero =>
    intro r z hr _ hz
    obtain rfl : r = 0 := by omega
    exact g_Mo_isProgram1 (by decide) hz (fun _ => ⟨rfl, rfl⟩) (fun c => absurd c (by omega)) (fun c => absurd c (by omega)) (fun c => absurd c (by omega))
  | succ k ih =>
    intro r z hr hr2 hz
    have h4 : r / 4 < 4 ^ k := by rw [Nat.pow_succ] at hr; omega
    unfold ipF
    refine g_Mo_isProgram1 hr2 hz (fun c => ?_) (fun c d => ?_) (fun c d e => ?_) (fun c d e => ?_)
    · rw [if_pos (by omega)]; exact ⟨rfl, rfl⟩
    · rw [if_neg (by omega), if_pos d]; exact ih (r / 4) 0 h4 (by omega) (by decide)
    · rw [if_neg (by omega), if_neg d, if_pos (by omega)]; exact ih (r / 4) 0 h4 (by omega) (by decide)
    · rw [if_neg (by omega), if_neg d, if_neg (by omega)]; exact ih (r / 4) 1 h4 (by omega) (by decide)
theorem c_Mo_isProgram_n {hh : aH} {p : Nat} (h1 : 0 < p) (h2 : p < 256) : JE M_Mo_isProgram [.int (nI p)] hh (some (.int (if isPr p = true then 1 else 0))) hh := by
  refine JM.of (by decide +kernel) rfl (Nat.le_of_ble_eq_true rfl) (g_Mo_isProgram0 (nI_gek (p := p) 1 h1 (by omega)) (nI_le10 (p := p) 255 (by omega) (by decide)) ?_)
  have K := Mo_ip (hh := hh) 4 p 1 (by omega) h2 (by decide)
  rw [ipF_all p h2] at K
  by_cases h : isPr p = true
  · rw [if_pos h] at K ⊢; exact K
  · rw [if_neg h, if_neg (by omega)] at K
    rw [if_neg h]; exact K
theorem c_Mo_isProgram_t {hh : aH} {p : Nat} (h : isPr p = true) : JE M_Mo_isProgram [.int (nI p)] hh (some (.int 1)) hh := by
  have := c_Mo_isProgram_n (hh := hh) (isPr_bd h).1 (isPr_bd h).2
  rw [if_pos h] at this
  exact this
theorem c_Mo_isProgram_f {hh : aH} {a : Int32} (h : ∀ p, isPr p = true → a ≠ nI p) : JE M_Mo_isProgram [.int a] hh (some (.int 0)) hh := by
  by_cases hc : 1 ≤ a ∧ a ≤ 255
  · obtain ⟨p, hp, rfl⟩ := nI_of (show ¬ a < 0 from fun e => absurd (Int32.lt_of_lt_of_le e (Int32.le_trans (show (0 : Int32) ≤ 1 by decide) hc.1)) Int32.lt_irrefl)
    have h2 : p < 256 := by
      have := (nI_leI (a := p) (b := 255) hp (by decide)).mp hc.2
      omega
    have h1 : 0 < p := (nI_leI (a := 1) (b := p) (by decide) hp).mp hc.1
    have := c_Mo_isProgram_n (hh := hh) h1 h2
    rw [if_neg (fun e => h p e rfl)] at this
    exact this
  · exact c_Mo_isProgram_o hc
theorem Mo_sz {hh : aH} (k : Nat) : ∀ n r, r < 4 ^ k → r < 256 → JR M_Mo_size none (4, [(1, .int (nI n)), (2, .int (nI r))], [], hh, 0, 0) (OE (some (.int (nI (szF k n r)))) hh) := by
  induction k with
  | zero =>
    intro n r hr _
    obtain rfl : r = 0 := by omega
    exact g_Mo_size1 (by decide) (fun _ => ⟨rfl, rfl⟩) (fun c => absurd c (by omega))
  | succ k ih =>
    intro n r hr hr2
    have h4 : r / 4 < 4 ^ k := by rw [Nat.pow_succ] at hr; omega
    unfold szF
    refine g_Mo_size1 hr2 (fun c => ?_) (fun c => ?_)
    · rw [if_pos (by omega)]; exact ⟨rfl, rfl⟩
    · rw [if_neg (by omega)]; exact ih (n + 1) (r / 4) h4 (by omega)
theorem c_Mo_size {hh : aH} {p : Nat} (h : isPr p = true) : JE M_Mo_size [.int (nI p)] hh (some (.int (nI (plen p)))) hh := by
  have hp := isPr_bd h
  refine JM.of (by decide +kernel) rfl (Nat.le_of_ble_eq_true rfl) (g_Mo_size0 ?_)
  have K := Mo_sz (hh := hh) 4 0 p (by omega) hp.2
  rw [szF_all p hp.2 hp.1] at K
  exact K

set_option maxRecDepth 100000 in
set_option maxHeartbeats 400000 in
theorem g_Mo_leverAt0 {sc : aScr} {hh : aH} {p x : Nat} {kc kn : Nat} {O : Option Value → aH → Prop} (hP : isPr p = true) (hn : 1 ≤ plen p) (K1 : JR M_Mo_leverAt sc (9, [(1, .int (nI x)), (2, .int (nI p)), (3, .int (nI ((plen p) - 1)))], [], hh, kc, kn) O) : JR M_Mo_leverAt sc (0, [(0, .int (nI p)), (1, .int (nI x))], [], hh, kc, kn) O := by
  refine J.gp ok_Mo_leverAt 3 (3, [(0, .int (nI p)), (1, .int (nI x)), (2, .int (nI p))], [.int (nI p)], _, _, _) rfl ?_
  refine J.callSE s_Mo_leverAt_3 6 [.int (nI p)] (c_Mo_size (by assumption)) rfl rfl (Nat.le_of_ble_eq_true rfl) rfl ?_
  refine J.gp ok_Mo_leverAt 0 (6, [(0, .int (nI p)), (1, .int (nI x)), (2, .int (nI p))], [.int (nI (plen p))], hh, kc, kn) rfl ?_
  refine J.gp ok_Mo_leverAt 2 (8, [(0, .int (nI p)), (1, .int (nI x)), (2, .int (nI p))], [.int (nI (plen p) - 1)], _, _, _) rfl ?_
  rw [show ((nI (plen p) - 1) : Int32) = nI ((plen p) - 1) from pk_sub (a := plen p) (b := 1) (by omega)]
  refine J.gp ok_Mo_leverAt 1 (9, [(0, .int (nI p)), (1, .int (nI x)), (2, .int (nI p)), (3, .int (nI ((plen p) - 1)))], [], _, _, _) rfl ?_
  refine J.lv [1, 2, 3] [(1, .int (nI x)), (2, .int (nI p)), (3, .int (nI ((plen p) - 1)))] rfl ?_
  exact K1

set_option maxRecDepth 100000 in
set_option maxHeartbeats 400000 in
theorem g_Mo_leverAt1 {sc : aScr} {hh : aH} {x r k : Nat} {kc kn : Nat} {O : Option Value → aH → Prop} (hr : r < 256) (hk : k < 4) (hx : x < 4) (hd : x = k → 1 ≤ r % 4) (hxk : x ≤ k) (K1 : (k ≤ x) → O (some (.int (nI ((r % 4) - 1)))) hh) (K2 : (x < k) → JR M_Mo_leverAt sc (9, [(1, .int (nI x)), (2, .int (nI (r / 4))), (3, .int (nI (k - 1)))], [], hh, kc, kn) O) : JR M_Mo_leverAt sc (9, [(1, .int (nI x)), (2, .int (nI r)), (3, .int (nI k))], [], hh, kc, kn) O := by
  refine J.gp ok_Mo_leverAt 2 (11, [(1, .int (nI x)), (2, .int (nI r)), (3, .int (nI k))], [.int (nI x), .int (nI k)], _, _, _) rfl ?_
  refine J.icB ok_Mo_leverAt (fun x y => x ≤ y) 24 14 rfl (fun (h0 : nI k ≤ nI x) => ?_) (fun (h0 : ¬ (nI k ≤ nI x)) => ?_)
  · have c11 : k ≤ x := (nI_leI (a := k) (b := x) (by omega) (by omega)).mp h0
    refine J.gp ok_Mo_leverAt 2 (26, [(1, .int (nI x)), (2, .int (nI r)), (3, .int (nI k))], [.int 4, .int (nI r)], _, _, _) rfl ?_
    refine J.iremB ok_Mo_leverAt 27 rfl (by decide) ?_
    rw [show ((nI r - nI r / 4 * 4) : Int32) = nI (r % 4) from pk_rem (a := r) (d := 4) (by omega) (by omega) (by omega)]
    refine J.gp ok_Mo_leverAt 2 (29, [(1, .int (nI x)), (2, .int (nI r)), (3, .int (nI k))], [.int (nI (r % 4) - 1)], _, _, _) rfl ?_
    rw [show ((nI (r % 4) - 1) : Int32) = nI ((r % 4) - 1) from pk_sub (a := r % 4) (b := 1) (by omega)]
    refine JR.iret .int (by decide +kernel) rfl (rfl) ?_
    exact K1 c11
  · have c11 : x < k := Nat.not_le.mp (fun h9 => h0 ((nI_leI (a := k) (b := x) (by omega) (by omega)).mpr h9))
    refine J.gp ok_Mo_leverAt 2 (16, [(1, .int (nI x)), (2, .int (nI r)), (3, .int (nI k))], [.int 4, .int (nI r)], _, _, _) rfl ?_
    refine J.idivB ok_Mo_leverAt 17 rfl (by decide) ?_
    rw [show ((nI r / 4) : Int32) = nI (r / 4) from pk_div (a := r) (d := 4) (by omega) (by omega) (by omega)]
    refine J.gp ok_Mo_leverAt 2 (21, [(1, .int (nI x)), (2, .int (nI (r / 4))), (3, .int (nI k + (-1)))], [], _, _, _) rfl ?_
    rw [show ((nI k + (-1))) = nI (k - 1) from nI_dn (by omega)]
    refine J.gp ok_Mo_leverAt 1 (9, [(1, .int (nI x)), (2, .int (nI (r / 4))), (3, .int (nI (k - 1)))], [], _, _, _) rfl ?_
    exact K2 c11

theorem plevN : ∀ p, p < 256 → isPr p = true → ∀ x, x < 4 → x < plen p → plev p x = p / 4 ^ (plen p - 1 - x) % 4 - 1 ∧ 1 ≤ p / 4 ^ (plen p - 1 - x) % 4 := by decide +kernel
theorem Mo_la {hh : aH} (d : Nat) : ∀ r k x, k = x + d → k < 4 → r < 256 → 1 ≤ r / 4 ^ d % 4 → JR M_Mo_leverAt none (9, [(1, .int (nI x)), (2, .int (nI r)), (3, .int (nI k))], [], hh, 0, 0) (OE (some (.int (nI (r / 4 ^ d % 4 - 1)))) hh) := by
  induction d with
  | zero =>
    intro r k x hk hk4 hr h1
    rw [Nat.pow_zero, Nat.div_one] at h1 ⊢
    obtain rfl : k = x := by omega
    exact g_Mo_leverAt1 hr hk4 hk4 (fun _ => h1) (Nat.le_refl _) (fun _ => ⟨rfl, rfl⟩) (fun c => absurd c (by omega))
  | succ d ih =>
    intro r k x hk hk4 hr h1
    have e : r / 4 ^ (d + 1) = r / 4 / 4 ^ d := by rw [Nat.pow_succ, Nat.mul_comm, Nat.div_div_eq_div_mul]
    rw [e] at h1 ⊢
    refine g_Mo_leverAt1 hr hk4 (by omega) (fun h => absurd h (by omega)) (by omega) (fun c => absurd c (by omega)) (fun _ => ?_)
    exact ih (r / 4) (k - 1) x (by omega) (by omega) (by omega) h1
theorem c_Mo_leverAt {hh : aH} {p x : Nat} (hP : isPr p = true) (hx : x < plen p) : JE M_Mo_leverAt [.int (nI p), .int (nI x)] hh (some (.int (nI (plev p x)))) hh := by
  have hn := plen_le p
  have h := plevN p (isPr_bd hP).2 hP x (by omega) hx
  rw [h.1]
  exact JM.of (by decide +kernel) rfl (Nat.le_of_ble_eq_true rfl) (g_Mo_leverAt0 hP (plen_pos p) (Mo_la (plen p - 1 - x) p (plen p - 1) x (by omega) (by omega) (isPr_bd hP).2 h.2))
