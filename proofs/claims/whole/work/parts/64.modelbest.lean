/-! THE REFERENCE: the best program -/
theorem cut_fact : ∀ k, k < 4 → 1 ≤ k → ∀ r, r < 64 → isPr r = true → (plen r ≤ k ↔ r ≤ 4 ^ k - 1) := by decide +kernel
theorem seF_none {m g w : Nat} {B F : Nat → Nat} (k : Nat) (h : (seF m g w B F k).1 = -1) : (seF m g w B F k).2.1 = 0 := by
  have nq : ∀ q, q < 256 → nI q ≠ -1 := by decide +kernel
  induction k with
  | zero => rfl
  | succ k ih =>
    unfold seF at h ⊢
    split
    · next c =>
      rw [if_pos c] at h
      unfold seC at h ⊢
      split
      · next c2 =>
        rw [if_pos c2] at h
        exact ih h
      · next c2 =>
        rw [if_neg c2] at h
        split
        · next c3 =>
          rw [if_pos c3] at h
          exact absurd h (nq _ (isPr_bd c.1).2)
        · next c3 =>
          rw [if_neg c3] at h
          exact ih h
    · next c =>
      rw [if_neg c] at h
      exact ih h
theorem seF_frb {m g w : Nat} {B F : Nat → Nat} (hR : RefOK m g w B F) (k : Nat) (h : ¬ (seF m g w B F k).1 = -1) : FrB (seF m g w B F k).2.1 (lN (seF m g w B F k).2.2) := by
  induction k with
  | zero => exact absurd rfl h
  | succ k ih =>
    unfold seF at h ⊢
    split
    · next c =>
      rw [if_pos c] at h
      unfold seC at h ⊢
      split
      · next c2 =>
        rw [if_pos c2] at h
        exact ih h
      · next c2 =>
        rw [if_neg c2] at h
        split
        · exact (hR _ c.1).2.2 c2
        · next c3 =>
          rw [if_neg c3] at h
          exact ih h
    · next c =>
      rw [if_neg c] at h
      exact ih h

set_option maxRecDepth 100000 in
set_option maxHeartbeats 400000 in
theorem g_Mo_lb0 {sc : aScr} {e0 e1 e2 e3 e4 e5 e6 e7 e8 e9 e10 e11 e12 e13 e14 e15 e16 e17 e18 e19 e20 e21 e22 e23 e24 e25 e26 e27 e28 e29 e30 e31 e32 e33 e34 e36 e37 e38 e39 e40 e41 e42 e43 e44 e45 e46 e47 e48 : va_E} {m13 m14 m15 m16 m17 m18 m31 m36 th gn : Int32} {m24 m25 m30 m33 m34 m35 m37 m38 m39 : Int64} {m g w p P i s t bl : Nat} {k : Nat} {kc kn : Nat} {O : Option Value → aH → Prop}  (K1 : JR M_Mo_layBest sc (21, [(0, .ref 35), (1, .int (nI k)), (2, .int 1)], [], (HP e0 e1 e2 e3 e4 e5 e6 e7 e8 e9 e10 e11 e12 e13 e14 e15 e16 e17 e18 e19 e20 e21 e22 e23 e24 e25 e26 e27 e28 e29 e30 e31 e32 e33 e34 (MOb th (nI m) (nI g) (nI w) (nI p) (nI P) (nI i) (nI s) gn (nI t) (nI bl) m13 m14 m15 m16 m17 m18 m24 m25 m30 m31 m33 m34 m35 (-1) (-1) (-1) m39) e36 e37 e38 e39 e40 e41 e42 e43 e44 e45 e46 e47 e48), kc, kn) O) : JR M_Mo_layBest sc (0, [(0, .ref 35), (1, .int (nI k))], [], (HP e0 e1 e2 e3 e4 e5 e6 e7 e8 e9 e10 e11 e12 e13 e14 e15 e16 e17 e18 e19 e20 e21 e22 e23 e24 e25 e26 e27 e28 e29 e30 e31 e32 e33 e34 (MOb th (nI m) (nI g) (nI w) (nI p) (nI P) (nI i) (nI s) gn (nI t) (nI bl) m13 m14 m15 m16 m17 m18 m24 m25 m30 m31 m33 m34 m35 m36 m37 m38 m39) e36 e37 e38 e39 e40 e41 e42 e43 e44 e45 e46 e47 e48), kc, kn) O := by
  refine J.gp ok_Mo_layBest 3 (5, [(0, .ref 35), (1, .int (nI k))], [], (HP e0 e1 e2 e3 e4 e5 e6 e7 e8 e9 e10 e11 e12 e13 e14 e15 e16 e17 e18 e19 e20 e21 e22 e23 e24 e25 e26 e27 e28 e29 e30 e31 e32 e33 e34 (MOb th (nI m) (nI g) (nI w) (nI p) (nI P) (nI i) (nI s) gn (nI t) (nI bl) m13 m14 m15 m16 m17 m18 m24 m25 m30 m31 m33 m34 m35 (-1) m37 m38 m39) e36 e37 e38 e39 e40 e41 e42 e43 e44 e45 e46 e47 e48), _, _) rfl ?_
  refine J.gp ok_Mo_layBest 3 (12, [(0, .ref 35), (1, .int (nI k))], [], (HP e0 e1 e2 e3 e4 e5 e6 e7 e8 e9 e10 e11 e12 e13 e14 e15 e16 e17 e18 e19 e20 e21 e22 e23 e24 e25 e26 e27 e28 e29 e30 e31 e32 e33 e34 (MOb th (nI m) (nI g) (nI w) (nI p) (nI P) (nI i) (nI s) gn (nI t) (nI bl) m13 m14 m15 m16 m17 m18 m24 m25 m30 m31 m33 m34 m35 (-1) (-1) m38 m39) e36 e37 e38 e39 e40 e41 e42 e43 e44 e45 e46 e47 e48), _, _) rfl ?_
  refine J.gp ok_Mo_layBest 3 (19, [(0, .ref 35), (1, .int (nI k))], [], (HP e0 e1 e2 e3 e4 e5 e6 e7 e8 e9 e10 e11 e12 e13 e14 e15 e16 e17 e18 e19 e20 e21 e22 e23 e24 e25 e26 e27 e28 e29 e30 e31 e32 e33 e34 (MOb th (nI m) (nI g) (nI w) (nI p) (nI P) (nI i) (nI s) gn (nI t) (nI bl) m13 m14 m15 m16 m17 m18 m24 m25 m30 m31 m33 m34 m35 (-1) (-1) (-1) m39) e36 e37 e38 e39 e40 e41 e42 e43 e44 e45 e46 e47 e48), _, _) rfl ?_
  refine J.gp ok_Mo_layBest 2 (21, [(0, .ref 35), (1, .int (nI k)), (2, .int 1)], [], _, _, _) rfl ?_
  exact K1

set_option maxRecDepth 100000 in
set_option maxHeartbeats 400000 in
theorem g_Mo_lb1 {sc : aScr} {e0 e1 e2 e3 e4 e5 e6 e7 e8 e9 e10 e11 e12 e13 e14 e15 e16 e17 e18 e19 e20 e21 e22 e23 e24 e25 e26 e27 e28 e29 e30 e31 e32 e33 e34 e36 e37 e38 e39 e40 e41 e42 e43 e44 e45 e46 e47 e48 : va_E} {m13 m14 m15 m16 m17 m18 m31 m36 th gn : Int32} {m24 m25 m30 m33 m34 m35 m37 m38 m39 : Int64} {m g w p P i s t bl : Nat} {k r : Nat} {kc kn : Nat} {O : Option Value → aH → Prop} (hr : r < 64) (hN : ∀ p, isPr p = true → nI r ≠ nI p) (K1 : JR M_Mo_layBest sc (21, [(0, .ref 35), (1, .int (nI k)), (2, .int (nI (r + 1)))], [], (HP e0 e1 e2 e3 e4 e5 e6 e7 e8 e9 e10 e11 e12 e13 e14 e15 e16 e17 e18 e19 e20 e21 e22 e23 e24 e25 e26 e27 e28 e29 e30 e31 e32 e33 e34 (MOb th (nI m) (nI g) (nI w) (nI p) (nI P) (nI i) (nI s) gn (nI t) (nI bl) m13 m14 m15 m16 m17 m18 m24 m25 m30 m31 m33 m34 m35 m36 m37 m38 m39) e36 e37 e38 e39 e40 e41 e42 e43 e44 e45 e46 e47 e48), kc, kn) O) : JR M_Mo_layBest sc (21, [(0, .ref 35), (1, .int (nI k)), (2, .int (nI r))], [], (HP e0 e1 e2 e3 e4 e5 e6 e7 e8 e9 e10 e11 e12 e13 e14 e15 e16 e17 e18 e19 e20 e21 e22 e23 e24 e25 e26 e27 e28 e29 e30 e31 e32 e33 e34 (MOb th (nI m) (nI g) (nI w) (nI p) (nI P) (nI i) (nI s) gn (nI t) (nI bl) m13 m14 m15 m16 m17 m18 m24 m25 m30 m31 m33 m34 m35 m36 m37 m38 m39) e36 e37 e38 e39 e40 e41 e42 e43 e44 e45 e46 e47 e48), kc, kn) O := by
  refine J.gp ok_Mo_layBest 2 (24, [(0, .ref 35), (1, .int (nI k)), (2, .int (nI r))], [.int 64, .int (nI r)], _, _, _) rfl ?_
  refine J.icF ok_Mo_layBest (fun x y => y ≤ x) 160 27 rfl (fun h9 => absurd ((nI_leI (a := 64) (b := r) (by omega) (by omega)).mp h9) (by omega)) ?_
  refine J.gp ok_Mo_layBest 1 (28, [(0, .ref 35), (1, .int (nI k)), (2, .int (nI r))], [.int (nI r)], _, _, _) rfl ?_
  refine J.callSE s_Mo_layBest_28 31 [.int (nI r)] (c_Mo_isProgram_f hN) rfl rfl (Nat.le_of_ble_eq_true rfl) rfl ?_
  refine J.gp ok_Mo_layBest 0 (31, [(0, .ref 35), (1, .int (nI k)), (2, .int (nI r))], [.int 0], (HP e0 e1 e2 e3 e4 e5 e6 e7 e8 e9 e10 e11 e12 e13 e14 e15 e16 e17 e18 e19 e20 e21 e22 e23 e24 e25 e26 e27 e28 e29 e30 e31 e32 e33 e34 (MOb th (nI m) (nI g) (nI w) (nI p) (nI P) (nI i) (nI s) gn (nI t) (nI bl) m13 m14 m15 m16 m17 m18 m24 m25 m30 m31 m33 m34 m35 m36 m37 m38 m39) e36 e37 e38 e39 e40 e41 e42 e43 e44 e45 e46 e47 e48), kc, kn) rfl ?_
  refine J.ifT ok_Mo_layBest (fun x => x = 0) 154 34 rfl (by decide) ?_
  refine J.gp ok_Mo_layBest 1 (157, [(0, .ref 35), (1, .int (nI k)), (2, .int (nI r + 1))], [], _, _, _) rfl ?_
  rw [show ((nI r + 1) : Int32) = nI (r + 1) from nI_add r 1]
  refine J.gp ok_Mo_layBest 1 (21, [(0, .ref 35), (1, .int (nI k)), (2, .int (nI (r + 1)))], [], _, _, _) rfl ?_
  exact K1

set_option maxRecDepth 100000 in
set_option maxHeartbeats 400000 in
theorem g_Mo_lb2 {sc : aScr} {e0 e1 e2 e3 e4 e5 e6 e7 e8 e9 e10 e11 e12 e13 e14 e15 e16 e17 e18 e19 e20 e21 e22 e23 e24 e25 e26 e27 e28 e29 e30 e31 e32 e33 e34 e36 e37 e38 e39 e40 e41 e42 e43 e44 e45 e46 e47 e48 : va_E} {m13 m14 m15 m16 m17 m18 m31 m36 th gn : Int32} {m24 m25 m30 m33 m34 m35 m37 m38 m39 : Int64} {m g w p P i s t bl : Nat} {k r : Nat} {kc kn : Nat} {O : Option Value → aH → Prop} (hk : k ≤ 3) (h4 : plen r ≤ 4) (hr : r < 64) (hP : isPr r = true) (h : k < plen r) (K1 : JR M_Mo_layBest sc (21, [(0, .ref 35), (1, .int (nI k)), (2, .int (nI (r + 1)))], [], (HP e0 e1 e2 e3 e4 e5 e6 e7 e8 e9 e10 e11 e12 e13 e14 e15 e16 e17 e18 e19 e20 e21 e22 e23 e24 e25 e26 e27 e28 e29 e30 e31 e32 e33 e34 (MOb th (nI m) (nI g) (nI w) (nI p) (nI P) (nI i) (nI s) gn (nI t) (nI bl) m13 m14 m15 m16 m17 m18 m24 m25 m30 m31 m33 m34 m35 m36 m37 m38 m39) e36 e37 e38 e39 e40 e41 e42 e43 e44 e45 e46 e47 e48), kc, kn) O) : JR M_Mo_layBest sc (21, [(0, .ref 35), (1, .int (nI k)), (2, .int (nI r))], [], (HP e0 e1 e2 e3 e4 e5 e6 e7 e8 e9 e10 e11 e12 e13 e14 e15 e16 e17 e18 e19 e20 e21 e22 e23 e24 e25 e26 e27 e28 e29 e30 e31 e32 e33 e34 (MOb th (nI m) (nI g) (nI w) (nI p) (nI P) (nI i) (nI s) gn (nI t) (nI bl) m13 m14 m15 m16 m17 m18 m24 m25 m30 m31 m33 m34 m35 m36 m37 m38 m39) e36 e37 e38 e39 e40 e41 e42 e43 e44 e45 e46 e47 e48), kc, kn) O := by
  refine J.gp ok_Mo_layBest 2 (24, [(0, .ref 35), (1, .int (nI k)), (2, .int (nI r))], [.int 64, .int (nI r)], _, _, _) rfl ?_
  refine J.icF ok_Mo_layBest (fun x y => y ≤ x) 160 27 rfl (fun h9 => absurd ((nI_leI (a := 64) (b := r) (by omega) (by omega)).mp h9) (by omega)) ?_
  refine J.gp ok_Mo_layBest 1 (28, [(0, .ref 35), (1, .int (nI k)), (2, .int (nI r))], [.int (nI r)], _, _, _) rfl ?_
  refine J.callSE s_Mo_layBest_28 31 [.int (nI r)] (c_Mo_isProgram_t hP) rfl rfl (Nat.le_of_ble_eq_true rfl) rfl ?_
  refine J.gp ok_Mo_layBest 0 (31, [(0, .ref 35), (1, .int (nI k)), (2, .int (nI r))], [.int 1], (HP e0 e1 e2 e3 e4 e5 e6 e7 e8 e9 e10 e11 e12 e13 e14 e15 e16 e17 e18 e19 e20 e21 e22 e23 e24 e25 e26 e27 e28 e29 e30 e31 e32 e33 e34 (MOb th (nI m) (nI g) (nI w) (nI p) (nI P) (nI i) (nI s) gn (nI t) (nI bl) m13 m14 m15 m16 m17 m18 m24 m25 m30 m31 m33 m34 m35 m36 m37 m38 m39) e36 e37 e38 e39 e40 e41 e42 e43 e44 e45 e46 e47 e48), kc, kn) rfl ?_
  refine J.ifF ok_Mo_layBest (fun x => x = 0) 154 34 rfl (by decide) ?_
  refine J.gp ok_Mo_layBest 1 (35, [(0, .ref 35), (1, .int (nI k)), (2, .int (nI r))], [.int (nI r)], _, _, _) rfl ?_
  refine J.callSE s_Mo_layBest_35 38 [.int (nI r)] (c_Mo_size (by assumption)) rfl rfl (Nat.le_of_ble_eq_true rfl) rfl ?_
  refine J.gp ok_Mo_layBest 0 (38, [(0, .ref 35), (1, .int (nI k)), (2, .int (nI r))], [.int (nI (plen r))], (HP e0 e1 e2 e3 e4 e5 e6 e7 e8 e9 e10 e11 e12 e13 e14 e15 e16 e17 e18 e19 e20 e21 e22 e23 e24 e25 e26 e27 e28 e29 e30 e31 e32 e33 e34 (MOb th (nI m) (nI g) (nI w) (nI p) (nI P) (nI i) (nI s) gn (nI t) (nI bl) m13 m14 m15 m16 m17 m18 m24 m25 m30 m31 m33 m34 m35 m36 m37 m38 m39) e36 e37 e38 e39 e40 e41 e42 e43 e44 e45 e46 e47 e48), kc, kn) rfl ?_
  refine J.gp ok_Mo_layBest 1 (39, [(0, .ref 35), (1, .int (nI k)), (2, .int (nI r))], [.int (nI k), .int (nI (plen r))], _, _, _) rfl ?_
  refine J.icT ok_Mo_layBest (fun x y => y < x) 154 42 rfl ((nI_ltI (a := k) (b := plen r) (by omega) (by omega)).mpr (by omega)) ?_
  refine J.gp ok_Mo_layBest 1 (157, [(0, .ref 35), (1, .int (nI k)), (2, .int (nI r + 1))], [], _, _, _) rfl ?_
  rw [show ((nI r + 1) : Int32) = nI (r + 1) from nI_add r 1]
  refine J.gp ok_Mo_layBest 1 (21, [(0, .ref 35), (1, .int (nI k)), (2, .int (nI (r + 1)))], [], _, _, _) rfl ?_
  exact K1

set_option maxRecDepth 100000 in
set_option maxHeartbeats 400000 in
theorem g_Mo_lb3 {sc : aScr} {e0 e1 e2 e3 e4 e5 e6 e7 e8 e9 e10 e11 e12 e13 e14 e15 e16 e17 e18 e19 e20 e21 e22 e23 e24 e25 e26 e27 e28 e29 e30 e31 e32 e33 e34 e36 e37 e38 e39 e40 e41 e42 e43 e44 e45 e46 e47 e48 : va_E} {m13 m14 m15 m16 m17 m18 m31 m36 th gn : Int32} {m24 m25 m30 m33 m34 m35 m37 m38 m39 : Int64} {m g w p P i s t bl : Nat} {k r : Nat} {kc kn : Nat} {O : Option Value → aH → Prop} (hk : k ≤ 3) (hg : g < 8) (h4 : plen r ≤ 4) (hr : r < 64) (hP : isPr r = true) (h : plen r ≤ k) (hu : ¬ prIn g r = true) (K1 : JR M_Mo_layBest sc (21, [(0, .ref 35), (1, .int (nI k)), (2, .int (nI (r + 1)))], [], (HP e0 e1 e2 e3 e4 e5 e6 e7 e8 e9 e10 e11 e12 e13 e14 e15 e16 e17 e18 e19 e20 e21 e22 e23 e24 e25 e26 e27 e28 e29 e30 e31 e32 e33 e34 (MOb th (nI m) (nI g) (nI w) (nI p) (nI P) (nI i) (nI s) gn (nI t) (nI bl) m13 m14 m15 m16 m17 m18 m24 m25 m30 m31 m33 m34 m35 m36 m37 m38 m39) e36 e37 e38 e39 e40 e41 e42 e43 e44 e45 e46 e47 e48), kc, kn) O) : JR M_Mo_layBest sc (21, [(0, .ref 35), (1, .int (nI k)), (2, .int (nI r))], [], (HP e0 e1 e2 e3 e4 e5 e6 e7 e8 e9 e10 e11 e12 e13 e14 e15 e16 e17 e18 e19 e20 e21 e22 e23 e24 e25 e26 e27 e28 e29 e30 e31 e32 e33 e34 (MOb th (nI m) (nI g) (nI w) (nI p) (nI P) (nI i) (nI s) gn (nI t) (nI bl) m13 m14 m15 m16 m17 m18 m24 m25 m30 m31 m33 m34 m35 m36 m37 m38 m39) e36 e37 e38 e39 e40 e41 e42 e43 e44 e45 e46 e47 e48), kc, kn) O := by
  refine J.gp ok_Mo_layBest 2 (24, [(0, .ref 35), (1, .int (nI k)), (2, .int (nI r))], [.int 64, .int (nI r)], _, _, _) rfl ?_
  refine J.icF ok_Mo_layBest (fun x y => y ≤ x) 160 27 rfl (fun h9 => absurd ((nI_leI (a := 64) (b := r) (by omega) (by omega)).mp h9) (by omega)) ?_
  refine J.gp ok_Mo_layBest 1 (28, [(0, .ref 35), (1, .int (nI k)), (2, .int (nI r))], [.int (nI r)], _, _, _) rfl ?_
  refine J.callSE s_Mo_layBest_28 31 [.int (nI r)] (c_Mo_isProgram_t hP) rfl rfl (Nat.le_of_ble_eq_true rfl) rfl ?_
  refine J.gp ok_Mo_layBest 0 (31, [(0, .ref 35), (1, .int (nI k)), (2, .int (nI r))], [.int 1], (HP e0 e1 e2 e3 e4 e5 e6 e7 e8 e9 e10 e11 e12 e13 e14 e15 e16 e17 e18 e19 e20 e21 e22 e23 e24 e25 e26 e27 e28 e29 e30 e31 e32 e33 e34 (MOb th (nI m) (nI g) (nI w) (nI p) (nI P) (nI i) (nI s) gn (nI t) (nI bl) m13 m14 m15 m16 m17 m18 m24 m25 m30 m31 m33 m34 m35 m36 m37 m38 m39) e36 e37 e38 e39 e40 e41 e42 e43 e44 e45 e46 e47 e48), kc, kn) rfl ?_
  refine J.ifF ok_Mo_layBest (fun x => x = 0) 154 34 rfl (by decide) ?_
  refine J.gp ok_Mo_layBest 1 (35, [(0, .ref 35), (1, .int (nI k)), (2, .int (nI r))], [.int (nI r)], _, _, _) rfl ?_
  refine J.callSE s_Mo_layBest_35 38 [.int (nI r)] (c_Mo_size (by assumption)) rfl rfl (Nat.le_of_ble_eq_true rfl) rfl ?_
  refine J.gp ok_Mo_layBest 0 (38, [(0, .ref 35), (1, .int (nI k)), (2, .int (nI r))], [.int (nI (plen r))], (HP e0 e1 e2 e3 e4 e5 e6 e7 e8 e9 e10 e11 e12 e13 e14 e15 e16 e17 e18 e19 e20 e21 e22 e23 e24 e25 e26 e27 e28 e29 e30 e31 e32 e33 e34 (MOb th (nI m) (nI g) (nI w) (nI p) (nI P) (nI i) (nI s) gn (nI t) (nI bl) m13 m14 m15 m16 m17 m18 m24 m25 m30 m31 m33 m34 m35 m36 m37 m38 m39) e36 e37 e38 e39 e40 e41 e42 e43 e44 e45 e46 e47 e48), kc, kn) rfl ?_
  refine J.gp ok_Mo_layBest 1 (39, [(0, .ref 35), (1, .int (nI k)), (2, .int (nI r))], [.int (nI k), .int (nI (plen r))], _, _, _) rfl ?_
  refine J.icF ok_Mo_layBest (fun x y => y < x) 154 42 rfl (fun h9 => absurd ((nI_ltI (a := k) (b := plen r) (by omega) (by omega)).mp h9) (by omega)) ?_
  refine J.gp ok_Mo_layBest 2 (44, [(0, .ref 35), (1, .int (nI k)), (2, .int (nI r))], [.int (nI r), .ref 35], _, _, _) rfl ?_
  refine J.callVE s_Mo_layBest_44 47 35 [.int (nI r)] 10 (c_Mo_usesGeared hg hP) rfl rfl rfl rfl rfl (Nat.le_of_ble_eq_true rfl) rfl ?_
  refine J.gp ok_Mo_layBest 0 (47, [(0, .ref 35), (1, .int (nI k)), (2, .int (nI r))], [.int (if prIn g r = true then (1 : Int32) else 0)], (HP e0 e1 e2 e3 e4 e5 e6 e7 e8 e9 e10 e11 e12 e13 e14 e15 e16 e17 e18 e19 e20 e21 e22 e23 e24 e25 e26 e27 e28 e29 e30 e31 e32 e33 e34 (MOb th (nI m) (nI g) (nI w) (nI p) (nI P) (nI i) (nI s) gn (nI t) (nI bl) m13 m14 m15 m16 m17 m18 m24 m25 m30 m31 m33 m34 m35 m36 m37 m38 m39) e36 e37 e38 e39 e40 e41 e42 e43 e44 e45 e46 e47 e48), kc, kn) rfl ?_
  refine J.ifT ok_Mo_layBest (fun x => x = 0) 154 50 rfl (if_neg hu) ?_
  refine J.gp ok_Mo_layBest 1 (157, [(0, .ref 35), (1, .int (nI k)), (2, .int (nI r + 1))], [], _, _, _) rfl ?_
  rw [show ((nI r + 1) : Int32) = nI (r + 1) from nI_add r 1]
  refine J.gp ok_Mo_layBest 1 (21, [(0, .ref 35), (1, .int (nI k)), (2, .int (nI (r + 1)))], [], _, _, _) rfl ?_
  exact K1

set_option maxRecDepth 100000 in
set_option maxHeartbeats 400000 in
theorem g_Mo_lb4 {sc : aScr} {e0 e1 e2 e3 e4 e5 e6 e7 e8 e9 e10 e11 e12 e13 e14 e15 e16 e17 e18 e19 e20 e21 e22 e23 e24 e25 e26 e27 e28 e29 e30 e31 e32 e33 e34 e37 e38 e39 e40 e41 e42 e48 : va_E} {m13 m14 m15 m16 m17 m18 m31 m36 th gn : Int32} {m24 m25 m30 m33 m34 m35 m37 m38 m39 : Int64} {m g w p P i s t bl : Nat} {k r : Nat} {ro gs h q9 we : Nat → Int64} {B F : Nat → Nat} {kc kn : Nat} {O : Option Value → aH → Prop} (hm : 2 ≤ m ∧ m ≤ 4) (hg : g < 8) (hw : w < 16) (hBF : ∀ j, B j + F j ≤ 10) (hk : k ≤ 3) (h4 : plen r ≤ 4) (hr : r < 64) (hP : isPr r = true) (hle : plen r ≤ k) (hu : prIn g r = true) (hav : AvM m g w B F r) (he : avM m g w B F r = avQ m g w B F r) (K1 : ∀ (ro2 gs2 h2 q2 we2 : Nat → Int64) (al2 : Int64), JR M_Mo_layBest sc (55, [(0, .ref 35), (1, .int (nI k)), (2, .int (nI r))], [], (HP e0 e1 e2 e3 e4 e5 e6 e7 e8 e9 e10 e11 e12 e13 e14 e15 e16 e17 e18 e19 e20 e21 e22 e23 e24 e25 e26 e27 e28 e29 e30 e31 e32 e33 e34 (MOb th (nI m) (nI g) (nI w) (nI p) (nI P) (nI i) (nI s) gn (nI t) (nI bl) m13 m14 m15 m16 m17 m18 m24 m25 (scF (plen r)) (nI (clM m g w B F r)) al2 ((avQ m g w B F r).1) (lN ((avQ m g w B F r).2)) m36 m37 m38 m39) (.inl (0, 24, .inl (fun j => nI ((tbF B F) j)))) e37 e38 e39 e40 e41 e42 (.inl (1, 16, .inr (.inl ro2))) (.inl (1, 4, .inr (.inl gs2))) (.inl (1, 4, .inr (.inl h2))) (.inl (1, 4, .inr (.inl q2))) (.inl (1, 4, .inr (.inl we2))) e48), kc, kn) O) : JR M_Mo_layBest sc (21, [(0, .ref 35), (1, .int (nI k)), (2, .int (nI r))], [], (HP e0 e1 e2 e3 e4 e5 e6 e7 e8 e9 e10 e11 e12 e13 e14 e15 e16 e17 e18 e19 e20 e21 e22 e23 e24 e25 e26 e27 e28 e29 e30 e31 e32 e33 e34 (MOb th (nI m) (nI g) (nI w) (nI p) (nI P) (nI i) (nI s) gn (nI t) (nI bl) m13 m14 m15 m16 m17 m18 m24 m25 m30 m31 m33 m34 m35 m36 m37 m38 m39) (.inl (0, 24, .inl (fun j => nI ((tbF B F) j)))) e37 e38 e39 e40 e41 e42 (.inl (1, 16, .inr (.inl ro))) (.inl (1, 4, .inr (.inl gs))) (.inl (1, 4, .inr (.inl h))) (.inl (1, 4, .inr (.inl q9))) (.inl (1, 4, .inr (.inl we))) e48), kc, kn) O := by
  refine J.gp ok_Mo_layBest 2 (24, [(0, .ref 35), (1, .int (nI k)), (2, .int (nI r))], [.int 64, .int (nI r)], _, _, _) rfl ?_
  refine J.icF ok_Mo_layBest (fun x y => y ≤ x) 160 27 rfl (fun h9 => absurd ((nI_leI (a := 64) (b := r) (by omega) (by omega)).mp h9) (by omega)) ?_
  refine J.gp ok_Mo_layBest 1 (28, [(0, .ref 35), (1, .int (nI k)), (2, .int (nI r))], [.int (nI r)], _, _, _) rfl ?_
  refine J.callSE s_Mo_layBest_28 31 [.int (nI r)] (c_Mo_isProgram_t hP) rfl rfl (Nat.le_of_ble_eq_true rfl) rfl ?_
  refine J.gp ok_Mo_layBest 0 (31, [(0, .ref 35), (1, .int (nI k)), (2, .int (nI r))], [.int 1], (HP e0 e1 e2 e3 e4 e5 e6 e7 e8 e9 e10 e11 e12 e13 e14 e15 e16 e17 e18 e19 e20 e21 e22 e23 e24 e25 e26 e27 e28 e29 e30 e31 e32 e33 e34 (MOb th (nI m) (nI g) (nI w) (nI p) (nI P) (nI i) (nI s) gn (nI t) (nI bl) m13 m14 m15 m16 m17 m18 m24 m25 m30 m31 m33 m34 m35 m36 m37 m38 m39) (.inl (0, 24, .inl (fun j => nI ((tbF B F) j)))) e37 e38 e39 e40 e41 e42 (.inl (1, 16, .inr (.inl ro))) (.inl (1, 4, .inr (.inl gs))) (.inl (1, 4, .inr (.inl h))) (.inl (1, 4, .inr (.inl q9))) (.inl (1, 4, .inr (.inl we))) e48), kc, kn) rfl ?_
  refine J.ifF ok_Mo_layBest (fun x => x = 0) 154 34 rfl (by decide) ?_
  refine J.gp ok_Mo_layBest 1 (35, [(0, .ref 35), (1, .int (nI k)), (2, .int (nI r))], [.int (nI r)], _, _, _) rfl ?_
  refine J.callSE s_Mo_layBest_35 38 [.int (nI r)] (c_Mo_size (by assumption)) rfl rfl (Nat.le_of_ble_eq_true rfl) rfl ?_
  refine J.gp ok_Mo_layBest 0 (38, [(0, .ref 35), (1, .int (nI k)), (2, .int (nI r))], [.int (nI (plen r))], (HP e0 e1 e2 e3 e4 e5 e6 e7 e8 e9 e10 e11 e12 e13 e14 e15 e16 e17 e18 e19 e20 e21 e22 e23 e24 e25 e26 e27 e28 e29 e30 e31 e32 e33 e34 (MOb th (nI m) (nI g) (nI w) (nI p) (nI P) (nI i) (nI s) gn (nI t) (nI bl) m13 m14 m15 m16 m17 m18 m24 m25 m30 m31 m33 m34 m35 m36 m37 m38 m39) (.inl (0, 24, .inl (fun j => nI ((tbF B F) j)))) e37 e38 e39 e40 e41 e42 (.inl (1, 16, .inr (.inl ro))) (.inl (1, 4, .inr (.inl gs))) (.inl (1, 4, .inr (.inl h))) (.inl (1, 4, .inr (.inl q9))) (.inl (1, 4, .inr (.inl we))) e48), kc, kn) rfl ?_
  refine J.gp ok_Mo_layBest 1 (39, [(0, .ref 35), (1, .int (nI k)), (2, .int (nI r))], [.int (nI k), .int (nI (plen r))], _, _, _) rfl ?_
  refine J.icF ok_Mo_layBest (fun x y => y < x) 154 42 rfl (fun h9 => absurd ((nI_ltI (a := k) (b := plen r) (by omega) (by omega)).mp h9) (by omega)) ?_
  refine J.gp ok_Mo_layBest 2 (44, [(0, .ref 35), (1, .int (nI k)), (2, .int (nI r))], [.int (nI r), .ref 35], _, _, _) rfl ?_
  refine J.callVE s_Mo_layBest_44 47 35 [.int (nI r)] 10 (c_Mo_usesGeared hg hP) rfl rfl rfl rfl rfl (Nat.le_of_ble_eq_true rfl) rfl ?_
  refine J.gp ok_Mo_layBest 0 (47, [(0, .ref 35), (1, .int (nI k)), (2, .int (nI r))], [.int (if prIn g r = true then (1 : Int32) else 0)], (HP e0 e1 e2 e3 e4 e5 e6 e7 e8 e9 e10 e11 e12 e13 e14 e15 e16 e17 e18 e19 e20 e21 e22 e23 e24 e25 e26 e27 e28 e29 e30 e31 e32 e33 e34 (MOb th (nI m) (nI g) (nI w) (nI p) (nI P) (nI i) (nI s) gn (nI t) (nI bl) m13 m14 m15 m16 m17 m18 m24 m25 m30 m31 m33 m34 m35 m36 m37 m38 m39) (.inl (0, 24, .inl (fun j => nI ((tbF B F) j)))) e37 e38 e39 e40 e41 e42 (.inl (1, 16, .inr (.inl ro))) (.inl (1, 4, .inr (.inl gs))) (.inl (1, 4, .inr (.inl h))) (.inl (1, 4, .inr (.inl q9))) (.inl (1, 4, .inr (.inl we))) e48), kc, kn) rfl ?_
  refine J.ifF ok_Mo_layBest (fun x => x = 0) 154 50 rfl (fun e => absurd ((if_pos hu).symm.trans e) (by decide)) ?_
  refine J.gp ok_Mo_layBest 2 (52, [(0, .ref 35), (1, .int (nI k)), (2, .int (nI r))], [.int (nI r), .ref 35], _, _, _) rfl ?_
  refine J.callVO s_Mo_layBest_52 55 35 [.int (nI r)] 10 (c_Mo_layAverage hm hg hw hBF hP hav) rfl rfl rfl rfl rfl (Nat.le_of_ble_eq_true rfl) (by rintro v q ⟨rfl, ro2, gs2, h2, q2, we2, al2, hwk, rfl⟩; rfl) (fun v q h => ?_)
  obtain ⟨rfl, ro2, gs2, h2, q2, we2, al2, hwk, rfl⟩ := h
  refine J.gp ok_Mo_layBest 0 (55, [(0, .ref 35), (1, .int (nI k)), (2, .int (nI r))], [], (HP e0 e1 e2 e3 e4 e5 e6 e7 e8 e9 e10 e11 e12 e13 e14 e15 e16 e17 e18 e19 e20 e21 e22 e23 e24 e25 e26 e27 e28 e29 e30 e31 e32 e33 e34 (MOb th (nI m) (nI g) (nI w) (nI p) (nI P) (nI i) (nI s) gn (nI t) (nI bl) m13 m14 m15 m16 m17 m18 m24 m25 (scF (plen r)) (nI (clM m g w B F r)) al2 ((avM m g w B F r).1) (lN ((avM m g w B F r).2)) m36 m37 m38 m39) (.inl (0, 24, .inl (fun j => nI ((tbF B F) j)))) e37 e38 e39 e40 e41 e42 (.inl (1, 16, .inr (.inl ro2))) (.inl (1, 4, .inr (.inl gs2))) (.inl (1, 4, .inr (.inl h2))) (.inl (1, 4, .inr (.inl q2))) (.inl (1, 4, .inr (.inl we2))) e48), kc, kn) rfl ?_
  rw [he]
  exact K1 ro2 gs2 h2 q2 we2 al2

set_option maxRecDepth 100000 in
set_option maxHeartbeats 400000 in
theorem g_Mo_lb5 {sc : aScr} {e0 e1 e2 e3 e4 e5 e6 e7 e8 e9 e10 e11 e12 e13 e14 e15 e16 e17 e18 e19 e20 e21 e22 e23 e24 e25 e26 e27 e28 e29 e30 e31 e32 e33 e34 e36 e37 e38 e39 e40 e41 e42 e43 e44 e45 e46 e47 e48 : va_E} {m13 m14 m15 m16 m17 m18 m31 m36 th gn : Int32} {m24 m25 m30 m33 m37 m38 m39 : Int64} {m g w p P i s t bl : Nat} {k r y : Nat} {x : Int64} {kc kn : Nat} {O : Option Value → aH → Prop} (hr : r < 64) (hy : y < 2 ^ 63) (h : y = 0) (K1 : JR M_Mo_layBest sc (21, [(0, .ref 35), (1, .int (nI k)), (2, .int (nI (r + 1)))], [], (HP e0 e1 e2 e3 e4 e5 e6 e7 e8 e9 e10 e11 e12 e13 e14 e15 e16 e17 e18 e19 e20 e21 e22 e23 e24 e25 e26 e27 e28 e29 e30 e31 e32 e33 e34 (MOb th (nI m) (nI g) (nI w) (nI p) (nI P) (nI i) (nI s) gn (nI t) (nI bl) m13 m14 m15 m16 m17 m18 m24 m25 m30 m31 m33 x (lN y) m36 m37 m38 m39) e36 e37 e38 e39 e40 e41 e42 e43 e44 e45 e46 e47 e48), kc, kn) O) : JR M_Mo_layBest sc (55, [(0, .ref 35), (1, .int (nI k)), (2, .int (nI r))], [], (HP e0 e1 e2 e3 e4 e5 e6 e7 e8 e9 e10 e11 e12 e13 e14 e15 e16 e17 e18 e19 e20 e21 e22 e23 e24 e25 e26 e27 e28 e29 e30 e31 e32 e33 e34 (MOb th (nI m) (nI g) (nI w) (nI p) (nI P) (nI i) (nI s) gn (nI t) (nI bl) m13 m14 m15 m16 m17 m18 m24 m25 m30 m31 m33 x (lN y) m36 m37 m38 m39) e36 e37 e38 e39 e40 e41 e42 e43 e44 e45 e46 e47 e48), kc, kn) O := by
  refine J.gp ok_Mo_layBest 4 (61, [(0, .ref 35), (1, .int (nI k)), (2, .int (nI r))], [.int (lg_cmp (lN y) 0)], _, _, _) rfl ?_
  refine J.ifT ok_Mo_layBest (fun x => x ≤ 0) 98 64 rfl ((cmp_leN (a := y) (b := 0) hy (by decide)).mpr (by omega)) ?_
  refine J.gp ok_Mo_layBest 4 (102, [(0, .ref 35), (1, .int (nI k)), (2, .int (nI r)), (3, .int 0)], [.int 0, .ref 35], _, _, _) rfl ?_
  refine J.ifT ok_Mo_layBest (fun x => x = 0) 109 105 rfl (by decide) ?_
  refine J.gp ok_Mo_layBest 3 (116, [(0, .ref 35), (1, .int (nI k)), (2, .int (nI r)), (3, .int 0)], [], (HP e0 e1 e2 e3 e4 e5 e6 e7 e8 e9 e10 e11 e12 e13 e14 e15 e16 e17 e18 e19 e20 e21 e22 e23 e24 e25 e26 e27 e28 e29 e30 e31 e32 e33 e34 (MOb th (nI m) (nI g) (nI w) (nI p) (nI P) (nI i) (nI s) gn (nI t) (nI bl) m13 m14 m15 m16 m17 m18 m24 m25 m30 m31 m33 x (lN y) m36 m37 m38 m39) e36 e37 e38 e39 e40 e41 e42 e43 e44 e45 e46 e47 e48), _, _) rfl ?_
  refine J.gp ok_Mo_layBest 2 (118, [(0, .ref 35), (1, .int (nI k)), (2, .int (nI r)), (3, .int 0)], [.int 0, .ref 35], _, _, _) rfl ?_
  refine J.ifT ok_Mo_layBest (fun x => x = 0) 128 121 rfl (by decide) ?_
  refine J.gp ok_Mo_layBest 3 (135, [(0, .ref 35), (1, .int (nI k)), (2, .int (nI r)), (3, .int 0)], [], (HP e0 e1 e2 e3 e4 e5 e6 e7 e8 e9 e10 e11 e12 e13 e14 e15 e16 e17 e18 e19 e20 e21 e22 e23 e24 e25 e26 e27 e28 e29 e30 e31 e32 e33 e34 (MOb th (nI m) (nI g) (nI w) (nI p) (nI P) (nI i) (nI s) gn (nI t) (nI bl) m13 m14 m15 m16 m17 m18 m24 m25 m30 m31 m33 x (lN y) m36 m37 m38 m39) e36 e37 e38 e39 e40 e41 e42 e43 e44 e45 e46 e47 e48), _, _) rfl ?_
  refine J.gp ok_Mo_layBest 2 (137, [(0, .ref 35), (1, .int (nI k)), (2, .int (nI r)), (3, .int 0)], [.int 0, .ref 35], _, _, _) rfl ?_
  refine J.ifT ok_Mo_layBest (fun x => x = 0) 147 140 rfl (by decide) ?_
  refine J.gp ok_Mo_layBest 3 (154, [(0, .ref 35), (1, .int (nI k)), (2, .int (nI r)), (3, .int 0)], [], (HP e0 e1 e2 e3 e4 e5 e6 e7 e8 e9 e10 e11 e12 e13 e14 e15 e16 e17 e18 e19 e20 e21 e22 e23 e24 e25 e26 e27 e28 e29 e30 e31 e32 e33 e34 (MOb th (nI m) (nI g) (nI w) (nI p) (nI P) (nI i) (nI s) gn (nI t) (nI bl) m13 m14 m15 m16 m17 m18 m24 m25 m30 m31 m33 x (lN y) m36 m37 m38 m39) e36 e37 e38 e39 e40 e41 e42 e43 e44 e45 e46 e47 e48), _, _) rfl ?_
  refine J.gp ok_Mo_layBest 1 (157, [(0, .ref 35), (1, .int (nI k)), (2, .int (nI r + 1)), (3, .int 0)], [], _, _, _) rfl ?_
  rw [show ((nI r + 1) : Int32) = nI (r + 1) from nI_add r 1]
  refine J.gp ok_Mo_layBest 1 (21, [(0, .ref 35), (1, .int (nI k)), (2, .int (nI (r + 1))), (3, .int 0)], [], _, _, _) rfl ?_
  refine J.lv [0, 1, 2] [(0, .ref 35), (1, .int (nI k)), (2, .int (nI (r + 1)))] rfl ?_
  exact K1

set_option maxRecDepth 100000 in
set_option maxHeartbeats 400000 in
theorem g_Mo_lb6 {sc : aScr} {e0 e1 e2 e3 e4 e5 e6 e7 e8 e9 e10 e11 e12 e13 e14 e15 e16 e17 e18 e19 e20 e21 e22 e23 e24 e25 e26 e27 e28 e29 e30 e31 e32 e33 e34 e36 e37 e38 e39 e40 e41 e42 e43 e44 e45 e46 e47 e48 : va_E} {m13 m14 m15 m16 m17 m18 m31 m36 th gn : Int32} {m24 m25 m30 m33 m37 m38 m39 : Int64} {m g w p P i s t bl : Nat} {k r y : Nat} {x : Int64} {kc kn : Nat} {O : Option Value → aH → Prop} (hr : r < 64) (hy : y < 2 ^ 63) (h : 0 < y) (hf : m36 = -1) (K1 : JR M_Mo_layBest sc (21, [(0, .ref 35), (1, .int (nI k)), (2, .int (nI (r + 1)))], [], (HP e0 e1 e2 e3 e4 e5 e6 e7 e8 e9 e10 e11 e12 e13 e14 e15 e16 e17 e18 e19 e20 e21 e22 e23 e24 e25 e26 e27 e28 e29 e30 e31 e32 e33 e34 (MOb th (nI m) (nI g) (nI w) (nI p) (nI P) (nI i) (nI s) gn (nI t) (nI bl) m13 m14 m15 m16 m17 m18 m24 m25 m30 m31 m33 x (lN y) (nI r) x (lN y) m39) e36 e37 e38 e39 e40 e41 e42 e43 e44 e45 e46 e47 e48), kc, kn) O) : JR M_Mo_layBest sc (55, [(0, .ref 35), (1, .int (nI k)), (2, .int (nI r))], [], (HP e0 e1 e2 e3 e4 e5 e6 e7 e8 e9 e10 e11 e12 e13 e14 e15 e16 e17 e18 e19 e20 e21 e22 e23 e24 e25 e26 e27 e28 e29 e30 e31 e32 e33 e34 (MOb th (nI m) (nI g) (nI w) (nI p) (nI P) (nI i) (nI s) gn (nI t) (nI bl) m13 m14 m15 m16 m17 m18 m24 m25 m30 m31 m33 x (lN y) m36 m37 m38 m39) e36 e37 e38 e39 e40 e41 e42 e43 e44 e45 e46 e47 e48), kc, kn) O := by
  refine J.gp ok_Mo_layBest 4 (61, [(0, .ref 35), (1, .int (nI k)), (2, .int (nI r))], [.int (lg_cmp (lN y) 0)], _, _, _) rfl ?_
  refine J.ifF ok_Mo_layBest (fun x => x ≤ 0) 98 64 rfl (fun e => absurd ((cmp_leN (a := y) (b := 0) hy (by decide)).mp e) (by omega)) ?_
  refine J.gp ok_Mo_layBest 3 (69, [(0, .ref 35), (1, .int (nI k)), (2, .int (nI r))], [.int (-1), .int m36], _, _, _) rfl ?_
  refine J.icT ok_Mo_layBest (fun x y => x = y) 94 72 rfl (hf) ?_
  refine J.gp ok_Mo_layBest 5 (102, [(0, .ref 35), (1, .int (nI k)), (2, .int (nI r)), (3, .int 1)], [.int 1, .ref 35], _, _, _) rfl ?_
  refine J.ifF ok_Mo_layBest (fun x => x = 0) 109 105 rfl (by decide) ?_
  refine J.gp ok_Mo_layBest 3 (116, [(0, .ref 35), (1, .int (nI k)), (2, .int (nI r)), (3, .int 1)], [], (HP e0 e1 e2 e3 e4 e5 e6 e7 e8 e9 e10 e11 e12 e13 e14 e15 e16 e17 e18 e19 e20 e21 e22 e23 e24 e25 e26 e27 e28 e29 e30 e31 e32 e33 e34 (MOb th (nI m) (nI g) (nI w) (nI p) (nI P) (nI i) (nI s) gn (nI t) (nI bl) m13 m14 m15 m16 m17 m18 m24 m25 m30 m31 m33 x (lN y) (nI r) m37 m38 m39) e36 e37 e38 e39 e40 e41 e42 e43 e44 e45 e46 e47 e48), _, _) rfl ?_
  refine J.gp ok_Mo_layBest 2 (118, [(0, .ref 35), (1, .int (nI k)), (2, .int (nI r)), (3, .int 1)], [.int 1, .ref 35], _, _, _) rfl ?_
  refine J.ifF ok_Mo_layBest (fun x => x = 0) 128 121 rfl (by decide) ?_
  refine J.gp ok_Mo_layBest 4 (135, [(0, .ref 35), (1, .int (nI k)), (2, .int (nI r)), (3, .int 1)], [], (HP e0 e1 e2 e3 e4 e5 e6 e7 e8 e9 e10 e11 e12 e13 e14 e15 e16 e17 e18 e19 e20 e21 e22 e23 e24 e25 e26 e27 e28 e29 e30 e31 e32 e33 e34 (MOb th (nI m) (nI g) (nI w) (nI p) (nI P) (nI i) (nI s) gn (nI t) (nI bl) m13 m14 m15 m16 m17 m18 m24 m25 m30 m31 m33 x (lN y) (nI r) x m38 m39) e36 e37 e38 e39 e40 e41 e42 e43 e44 e45 e46 e47 e48), _, _) rfl ?_
  refine J.gp ok_Mo_layBest 2 (137, [(0, .ref 35), (1, .int (nI k)), (2, .int (nI r)), (3, .int 1)], [.int 1, .ref 35], _, _, _) rfl ?_
  refine J.ifF ok_Mo_layBest (fun x => x = 0) 147 140 rfl (by decide) ?_
  refine J.gp ok_Mo_layBest 4 (154, [(0, .ref 35), (1, .int (nI k)), (2, .int (nI r)), (3, .int 1)], [], (HP e0 e1 e2 e3 e4 e5 e6 e7 e8 e9 e10 e11 e12 e13 e14 e15 e16 e17 e18 e19 e20 e21 e22 e23 e24 e25 e26 e27 e28 e29 e30 e31 e32 e33 e34 (MOb th (nI m) (nI g) (nI w) (nI p) (nI P) (nI i) (nI s) gn (nI t) (nI bl) m13 m14 m15 m16 m17 m18 m24 m25 m30 m31 m33 x (lN y) (nI r) x (lN y) m39) e36 e37 e38 e39 e40 e41 e42 e43 e44 e45 e46 e47 e48), _, _) rfl ?_
  refine J.gp ok_Mo_layBest 1 (157, [(0, .ref 35), (1, .int (nI k)), (2, .int (nI r + 1)), (3, .int 1)], [], _, _, _) rfl ?_
  rw [show ((nI r + 1) : Int32) = nI (r + 1) from nI_add r 1]
  refine J.gp ok_Mo_layBest 1 (21, [(0, .ref 35), (1, .int (nI k)), (2, .int (nI (r + 1))), (3, .int 1)], [], _, _, _) rfl ?_
  refine J.lv [0, 1, 2] [(0, .ref 35), (1, .int (nI k)), (2, .int (nI (r + 1)))] rfl ?_
  exact K1

set_option maxRecDepth 100000 in
set_option maxHeartbeats 400000 in
theorem g_Mo_lb7 {sc : aScr} {e0 e1 e2 e3 e4 e5 e6 e7 e8 e9 e10 e11 e12 e13 e14 e15 e16 e17 e18 e19 e20 e21 e22 e23 e24 e25 e26 e27 e28 e29 e30 e31 e32 e33 e34 e36 e37 e38 e39 e40 e41 e42 e43 e44 e45 e46 e47 e48 : va_E} {m13 m14 m15 m16 m17 m18 m31 m36 th gn : Int32} {m24 m25 m30 m33 m37 m38 m39 : Int64} {m g w p P i s t bl : Nat} {k r y : Nat} {x : Int64} {kc kn : Nat} {O : Option Value → aH → Prop} (hr : r < 64) (hy : y < 2 ^ 63) (h : 0 < y) (hf : ¬ m36 = -1) (f1 : FrB x (lN y)) (f2 : FrB m37 m38) (ho : ¬ 0 < ordF x (lN y) m37 m38) (K1 : JR M_Mo_layBest sc (21, [(0, .ref 35), (1, .int (nI k)), (2, .int (nI (r + 1)))], [], (HP e0 e1 e2 e3 e4 e5 e6 e7 e8 e9 e10 e11 e12 e13 e14 e15 e16 e17 e18 e19 e20 e21 e22 e23 e24 e25 e26 e27 e28 e29 e30 e31 e32 e33 e34 (MOb th (nI m) (nI g) (nI w) (nI p) (nI P) (nI i) (nI s) gn (nI t) (nI bl) m13 m14 m15 m16 m17 m18 m24 m25 m30 m31 m33 x (lN y) m36 m37 m38 m39) e36 e37 e38 e39 e40 e41 e42 e43 e44 e45 e46 e47 e48), kc, kn) O) : JR M_Mo_layBest sc (55, [(0, .ref 35), (1, .int (nI k)), (2, .int (nI r))], [], (HP e0 e1 e2 e3 e4 e5 e6 e7 e8 e9 e10 e11 e12 e13 e14 e15 e16 e17 e18 e19 e20 e21 e22 e23 e24 e25 e26 e27 e28 e29 e30 e31 e32 e33 e34 (MOb th (nI m) (nI g) (nI w) (nI p) (nI P) (nI i) (nI s) gn (nI t) (nI bl) m13 m14 m15 m16 m17 m18 m24 m25 m30 m31 m33 x (lN y) m36 m37 m38 m39) e36 e37 e38 e39 e40 e41 e42 e43 e44 e45 e46 e47 e48), kc, kn) O := by
  refine J.gp ok_Mo_layBest 4 (61, [(0, .ref 35), (1, .int (nI k)), (2, .int (nI r))], [.int (lg_cmp (lN y) 0)], _, _, _) rfl ?_
  refine J.ifF ok_Mo_layBest (fun x => x ≤ 0) 98 64 rfl (fun e => absurd ((cmp_leN (a := y) (b := 0) hy (by decide)).mp e) (by omega)) ?_
  refine J.gp ok_Mo_layBest 3 (69, [(0, .ref 35), (1, .int (nI k)), (2, .int (nI r))], [.int (-1), .int m36], _, _, _) rfl ?_
  refine J.icF ok_Mo_layBest (fun x y => x = y) 94 72 rfl (hf) ?_
  refine J.gp ok_Mo_layBest 8 (88, [(0, .ref 35), (1, .int (nI k)), (2, .int (nI r))], [.long m38, .long m37, .long (lN y), .long x], _, _, _) rfl ?_
  refine J.callSE s_Mo_layBest_88 91 [.long x, .long (lN y), .long m37, .long m38] (c_Mo_sign f1 f2) rfl rfl (Nat.le_of_ble_eq_true rfl) rfl ?_
  refine J.gp ok_Mo_layBest 0 (91, [(0, .ref 35), (1, .int (nI k)), (2, .int (nI r))], [.int (ordF x (lN y) m37 m38)], (HP e0 e1 e2 e3 e4 e5 e6 e7 e8 e9 e10 e11 e12 e13 e14 e15 e16 e17 e18 e19 e20 e21 e22 e23 e24 e25 e26 e27 e28 e29 e30 e31 e32 e33 e34 (MOb th (nI m) (nI g) (nI w) (nI p) (nI P) (nI i) (nI s) gn (nI t) (nI bl) m13 m14 m15 m16 m17 m18 m24 m25 m30 m31 m33 x (lN y) m36 m37 m38 m39) e36 e37 e38 e39 e40 e41 e42 e43 e44 e45 e46 e47 e48), kc, kn) rfl ?_
  refine J.ifT ok_Mo_layBest (fun x => x ≤ 0) 98 94 rfl (Int32.not_lt.mp ho) ?_
  refine J.gp ok_Mo_layBest 4 (102, [(0, .ref 35), (1, .int (nI k)), (2, .int (nI r)), (3, .int 0)], [.int 0, .ref 35], _, _, _) rfl ?_
  refine J.ifT ok_Mo_layBest (fun x => x = 0) 109 105 rfl (by decide) ?_
  refine J.gp ok_Mo_layBest 3 (116, [(0, .ref 35), (1, .int (nI k)), (2, .int (nI r)), (3, .int 0)], [], (HP e0 e1 e2 e3 e4 e5 e6 e7 e8 e9 e10 e11 e12 e13 e14 e15 e16 e17 e18 e19 e20 e21 e22 e23 e24 e25 e26 e27 e28 e29 e30 e31 e32 e33 e34 (MOb th (nI m) (nI g) (nI w) (nI p) (nI P) (nI i) (nI s) gn (nI t) (nI bl) m13 m14 m15 m16 m17 m18 m24 m25 m30 m31 m33 x (lN y) m36 m37 m38 m39) e36 e37 e38 e39 e40 e41 e42 e43 e44 e45 e46 e47 e48), _, _) rfl ?_
  refine J.gp ok_Mo_layBest 2 (118, [(0, .ref 35), (1, .int (nI k)), (2, .int (nI r)), (3, .int 0)], [.int 0, .ref 35], _, _, _) rfl ?_
  refine J.ifT ok_Mo_layBest (fun x => x = 0) 128 121 rfl (by decide) ?_
  refine J.gp ok_Mo_layBest 3 (135, [(0, .ref 35), (1, .int (nI k)), (2, .int (nI r)), (3, .int 0)], [], (HP e0 e1 e2 e3 e4 e5 e6 e7 e8 e9 e10 e11 e12 e13 e14 e15 e16 e17 e18 e19 e20 e21 e22 e23 e24 e25 e26 e27 e28 e29 e30 e31 e32 e33 e34 (MOb th (nI m) (nI g) (nI w) (nI p) (nI P) (nI i) (nI s) gn (nI t) (nI bl) m13 m14 m15 m16 m17 m18 m24 m25 m30 m31 m33 x (lN y) m36 m37 m38 m39) e36 e37 e38 e39 e40 e41 e42 e43 e44 e45 e46 e47 e48), _, _) rfl ?_
  refine J.gp ok_Mo_layBest 2 (137, [(0, .ref 35), (1, .int (nI k)), (2, .int (nI r)), (3, .int 0)], [.int 0, .ref 35], _, _, _) rfl ?_
  refine J.ifT ok_Mo_layBest (fun x => x = 0) 147 140 rfl (by decide) ?_
  refine J.gp ok_Mo_layBest 3 (154, [(0, .ref 35), (1, .int (nI k)), (2, .int (nI r)), (3, .int 0)], [], (HP e0 e1 e2 e3 e4 e5 e6 e7 e8 e9 e10 e11 e12 e13 e14 e15 e16 e17 e18 e19 e20 e21 e22 e23 e24 e25 e26 e27 e28 e29 e30 e31 e32 e33 e34 (MOb th (nI m) (nI g) (nI w) (nI p) (nI P) (nI i) (nI s) gn (nI t) (nI bl) m13 m14 m15 m16 m17 m18 m24 m25 m30 m31 m33 x (lN y) m36 m37 m38 m39) e36 e37 e38 e39 e40 e41 e42 e43 e44 e45 e46 e47 e48), _, _) rfl ?_
  refine J.gp ok_Mo_layBest 1 (157, [(0, .ref 35), (1, .int (nI k)), (2, .int (nI r + 1)), (3, .int 0)], [], _, _, _) rfl ?_
  rw [show ((nI r + 1) : Int32) = nI (r + 1) from nI_add r 1]
  refine J.gp ok_Mo_layBest 1 (21, [(0, .ref 35), (1, .int (nI k)), (2, .int (nI (r + 1))), (3, .int 0)], [], _, _, _) rfl ?_
  refine J.lv [0, 1, 2] [(0, .ref 35), (1, .int (nI k)), (2, .int (nI (r + 1)))] rfl ?_
  exact K1

set_option maxRecDepth 100000 in
set_option maxHeartbeats 400000 in
theorem g_Mo_lb8 {sc : aScr} {e0 e1 e2 e3 e4 e5 e6 e7 e8 e9 e10 e11 e12 e13 e14 e15 e16 e17 e18 e19 e20 e21 e22 e23 e24 e25 e26 e27 e28 e29 e30 e31 e32 e33 e34 e36 e37 e38 e39 e40 e41 e42 e43 e44 e45 e46 e47 e48 : va_E} {m13 m14 m15 m16 m17 m18 m31 m36 th gn : Int32} {m24 m25 m30 m33 m37 m38 m39 : Int64} {m g w p P i s t bl : Nat} {k r y : Nat} {x : Int64} {kc kn : Nat} {O : Option Value → aH → Prop} (hr : r < 64) (hy : y < 2 ^ 63) (h : 0 < y) (hf : ¬ m36 = -1) (f1 : FrB x (lN y)) (f2 : FrB m37 m38) (ho : 0 < ordF x (lN y) m37 m38) (K1 : JR M_Mo_layBest sc (21, [(0, .ref 35), (1, .int (nI k)), (2, .int (nI (r + 1)))], [], (HP e0 e1 e2 e3 e4 e5 e6 e7 e8 e9 e10 e11 e12 e13 e14 e15 e16 e17 e18 e19 e20 e21 e22 e23 e24 e25 e26 e27 e28 e29 e30 e31 e32 e33 e34 (MOb th (nI m) (nI g) (nI w) (nI p) (nI P) (nI i) (nI s) gn (nI t) (nI bl) m13 m14 m15 m16 m17 m18 m24 m25 m30 m31 m33 x (lN y) (nI r) x (lN y) m39) e36 e37 e38 e39 e40 e41 e42 e43 e44 e45 e46 e47 e48), kc, kn) O) : JR M_Mo_layBest sc (55, [(0, .ref 35), (1, .int (nI k)), (2, .int (nI r))], [], (HP e0 e1 e2 e3 e4 e5 e6 e7 e8 e9 e10 e11 e12 e13 e14 e15 e16 e17 e18 e19 e20 e21 e22 e23 e24 e25 e26 e27 e28 e29 e30 e31 e32 e33 e34 (MOb th (nI m) (nI g) (nI w) (nI p) (nI P) (nI i) (nI s) gn (nI t) (nI bl) m13 m14 m15 m16 m17 m18 m24 m25 m30 m31 m33 x (lN y) m36 m37 m38 m39) e36 e37 e38 e39 e40 e41 e42 e43 e44 e45 e46 e47 e48), kc, kn) O := by
  refine J.gp ok_Mo_layBest 4 (61, [(0, .ref 35), (1, .int (nI k)), (2, .int (nI r))], [.int (lg_cmp (lN y) 0)], _, _, _) rfl ?_
  refine J.ifF ok_Mo_layBest (fun x => x ≤ 0) 98 64 rfl (fun e => absurd ((cmp_leN (a := y) (b := 0) hy (by decide)).mp e) (by omega)) ?_
  refine J.gp ok_Mo_layBest 3 (69, [(0, .ref 35), (1, .int (nI k)), (2, .int (nI r))], [.int (-1), .int m36], _, _, _) rfl ?_
  refine J.icF ok_Mo_layBest (fun x y => x = y) 94 72 rfl (hf) ?_
  refine J.gp ok_Mo_layBest 8 (88, [(0, .ref 35), (1, .int (nI k)), (2, .int (nI r))], [.long m38, .long m37, .long (lN y), .long x], _, _, _) rfl ?_
  refine J.callSE s_Mo_layBest_88 91 [.long x, .long (lN y), .long m37, .long m38] (c_Mo_sign f1 f2) rfl rfl (Nat.le_of_ble_eq_true rfl) rfl ?_
  refine J.gp ok_Mo_layBest 0 (91, [(0, .ref 35), (1, .int (nI k)), (2, .int (nI r))], [.int (ordF x (lN y) m37 m38)], (HP e0 e1 e2 e3 e4 e5 e6 e7 e8 e9 e10 e11 e12 e13 e14 e15 e16 e17 e18 e19 e20 e21 e22 e23 e24 e25 e26 e27 e28 e29 e30 e31 e32 e33 e34 (MOb th (nI m) (nI g) (nI w) (nI p) (nI P) (nI i) (nI s) gn (nI t) (nI bl) m13 m14 m15 m16 m17 m18 m24 m25 m30 m31 m33 x (lN y) m36 m37 m38 m39) e36 e37 e38 e39 e40 e41 e42 e43 e44 e45 e46 e47 e48), kc, kn) rfl ?_
  refine J.ifF ok_Mo_layBest (fun x => x ≤ 0) 98 94 rfl (fun e => absurd ho (Int32.not_lt.mpr e)) ?_
  refine J.gp ok_Mo_layBest 5 (102, [(0, .ref 35), (1, .int (nI k)), (2, .int (nI r)), (3, .int 1)], [.int 1, .ref 35], _, _, _) rfl ?_
  refine J.ifF ok_Mo_layBest (fun x => x = 0) 109 105 rfl (by decide) ?_
  refine J.gp ok_Mo_layBest 3 (116, [(0, .ref 35), (1, .int (nI k)), (2, .int (nI r)), (3, .int 1)], [], (HP e0 e1 e2 e3 e4 e5 e6 e7 e8 e9 e10 e11 e12 e13 e14 e15 e16 e17 e18 e19 e20 e21 e22 e23 e24 e25 e26 e27 e28 e29 e30 e31 e32 e33 e34 (MOb th (nI m) (nI g) (nI w) (nI p) (nI P) (nI i) (nI s) gn (nI t) (nI bl) m13 m14 m15 m16 m17 m18 m24 m25 m30 m31 m33 x (lN y) (nI r) m37 m38 m39) e36 e37 e38 e39 e40 e41 e42 e43 e44 e45 e46 e47 e48), _, _) rfl ?_
  refine J.gp ok_Mo_layBest 2 (118, [(0, .ref 35), (1, .int (nI k)), (2, .int (nI r)), (3, .int 1)], [.int 1, .ref 35], _, _, _) rfl ?_
  refine J.ifF ok_Mo_layBest (fun x => x = 0) 128 121 rfl (by decide) ?_
  refine J.gp ok_Mo_layBest 4 (135, [(0, .ref 35), (1, .int (nI k)), (2, .int (nI r)), (3, .int 1)], [], (HP e0 e1 e2 e3 e4 e5 e6 e7 e8 e9 e10 e11 e12 e13 e14 e15 e16 e17 e18 e19 e20 e21 e22 e23 e24 e25 e26 e27 e28 e29 e30 e31 e32 e33 e34 (MOb th (nI m) (nI g) (nI w) (nI p) (nI P) (nI i) (nI s) gn (nI t) (nI bl) m13 m14 m15 m16 m17 m18 m24 m25 m30 m31 m33 x (lN y) (nI r) x m38 m39) e36 e37 e38 e39 e40 e41 e42 e43 e44 e45 e46 e47 e48), _, _) rfl ?_
  refine J.gp ok_Mo_layBest 2 (137, [(0, .ref 35), (1, .int (nI k)), (2, .int (nI r)), (3, .int 1)], [.int 1, .ref 35], _, _, _) rfl ?_
  refine J.ifF ok_Mo_layBest (fun x => x = 0) 147 140 rfl (by decide) ?_
  refine J.gp ok_Mo_layBest 4 (154, [(0, .ref 35), (1, .int (nI k)), (2, .int (nI r)), (3, .int 1)], [], (HP e0 e1 e2 e3 e4 e5 e6 e7 e8 e9 e10 e11 e12 e13 e14 e15 e16 e17 e18 e19 e20 e21 e22 e23 e24 e25 e26 e27 e28 e29 e30 e31 e32 e33 e34 (MOb th (nI m) (nI g) (nI w) (nI p) (nI P) (nI i) (nI s) gn (nI t) (nI bl) m13 m14 m15 m16 m17 m18 m24 m25 m30 m31 m33 x (lN y) (nI r) x (lN y) m39) e36 e37 e38 e39 e40 e41 e42 e43 e44 e45 e46 e47 e48), _, _) rfl ?_
  refine J.gp ok_Mo_layBest 1 (157, [(0, .ref 35), (1, .int (nI k)), (2, .int (nI r + 1)), (3, .int 1)], [], _, _, _) rfl ?_
  rw [show ((nI r + 1) : Int32) = nI (r + 1) from nI_add r 1]
  refine J.gp ok_Mo_layBest 1 (21, [(0, .ref 35), (1, .int (nI k)), (2, .int (nI (r + 1))), (3, .int 1)], [], _, _, _) rfl ?_
  refine J.lv [0, 1, 2] [(0, .ref 35), (1, .int (nI k)), (2, .int (nI (r + 1)))] rfl ?_
  exact K1

set_option maxRecDepth 100000 in
set_option maxHeartbeats 400000 in
theorem g_Mo_lb9 {sc : aScr} {e0 e1 e2 e3 e4 e5 e6 e7 e8 e9 e10 e11 e12 e13 e14 e15 e16 e17 e18 e19 e20 e21 e22 e23 e24 e25 e26 e27 e28 e29 e30 e31 e32 e33 e34 e36 e37 e38 e39 e40 e41 e42 e43 e44 e45 e46 e47 e48 : va_E} {m13 m14 m15 m16 m17 m18 m31 m36 th gn : Int32} {m24 m25 m30 m33 m34 m35 m37 m38 m39 : Int64} {m g w p P i s t bl : Nat} {k : Nat} {kc kn : Nat} {O : Option Value → aH → Prop}  (K1 : O none (HP e0 e1 e2 e3 e4 e5 e6 e7 e8 e9 e10 e11 e12 e13 e14 e15 e16 e17 e18 e19 e20 e21 e22 e23 e24 e25 e26 e27 e28 e29 e30 e31 e32 e33 e34 (MOb th (nI m) (nI g) (nI w) (nI p) (nI P) (nI i) (nI s) gn (nI t) (nI bl) m13 m14 m15 m16 m17 m18 m24 m25 m30 m31 m33 m34 m35 m36 m37 m38 m39) e36 e37 e38 e39 e40 e41 e42 e43 e44 e45 e46 e47 e48)) : JR M_Mo_layBest sc (21, [(0, .ref 35), (1, .int (nI k)), (2, .int (nI 64))], [], (HP e0 e1 e2 e3 e4 e5 e6 e7 e8 e9 e10 e11 e12 e13 e14 e15 e16 e17 e18 e19 e20 e21 e22 e23 e24 e25 e26 e27 e28 e29 e30 e31 e32 e33 e34 (MOb th (nI m) (nI g) (nI w) (nI p) (nI P) (nI i) (nI s) gn (nI t) (nI bl) m13 m14 m15 m16 m17 m18 m24 m25 m30 m31 m33 m34 m35 m36 m37 m38 m39) e36 e37 e38 e39 e40 e41 e42 e43 e44 e45 e46 e47 e48), kc, kn) O := by
  refine J.gp ok_Mo_layBest 2 (24, [(0, .ref 35), (1, .int (nI k)), (2, .int (nI 64))], [.int 64, .int (nI 64)], _, _, _) rfl ?_
  refine J.icT ok_Mo_layBest (fun x y => y ≤ x) 160 27 rfl ((nI_leI (a := 64) (b := 64) (by omega) (by omega)).mpr (by omega)) ?_
  refine JR.vret (by decide +kernel) rfl ?_
  exact K1

theorem seP_n {s : Se3} (j : Nat) (h : s.1 = -1) : seP s j = -1 := if_pos h
theorem seP_1 {s : Se3} (h : ¬ s.1 = -1) : seP s 1 = s.2.1 := if_neg h
theorem seP_2 {s : Se3} (h : ¬ s.1 = -1) : seP s 2 = lN s.2.2 := if_neg h
theorem nI_nn : ∀ q, q < 256 → nI q ≠ -1 := by decide +kernel
set_option maxHeartbeats 2000000 in
theorem c_Mo_layBest {e0 e1 e2 e3 e4 e5 e6 e7 e8 e9 e10 e11 e12 e13 e14 e15 e16 e17 e18 e19 e20 e21 e22 e23 e24 e25 e26 e27 e28 e29 e30 e31 e32 e33 e34 e37 e38 e39 e40 e41 e42 e48 : va_E} {m13 m14 m15 m16 m17 m18 m31 m36 th gn : Int32} {m24 m25 m30 m33 m34 m35 m37 m38 m39 : Int64} {m g w p P i s t bl : Nat} {k : Nat} {ro gs h q9 we : Nat → Int64} {B F : Nat → Nat} (hm : 2 ≤ m ∧ m ≤ 4) (hg : g < 8) (hw : w < 16) (hBF : ∀ j, B j + F j ≤ 10) (hR : RefOK m g w B F) (hk1 : 1 ≤ k) (hk : k ≤ 3) : JM M_Mo_layBest [.ref 35, .int (nI k)] (HP e0 e1 e2 e3 e4 e5 e6 e7 e8 e9 e10 e11 e12 e13 e14 e15 e16 e17 e18 e19 e20 e21 e22 e23 e24 e25 e26 e27 e28 e29 e30 e31 e32 e33 e34 (MOb th (nI m) (nI g) (nI w) (nI p) (nI P) (nI i) (nI s) gn (nI t) (nI bl) m13 m14 m15 m16 m17 m18 m24 m25 m30 m31 m33 m34 m35 m36 m37 m38 m39) (.inl (0, 24, .inl (fun j => nI ((tbF B F) j)))) e37 e38 e39 e40 e41 e42 (.inl (1, 16, .inr (.inl ro))) (.inl (1, 4, .inr (.inl gs))) (.inl (1, 4, .inr (.inl h))) (.inl (1, 4, .inr (.inl q9))) (.inl (1, 4, .inr (.inl we))) e48) 0 0 (fun v9 q9 => v9 = none ∧ ∃ (ro2 gs2 h2 q2 we2 : Nat → Int64) (y30 y33 y34 y35 : Int64) (y31 : Int32), q9 = (HP e0 e1 e2 e3 e4 e5 e6 e7 e8 e9 e10 e11 e12 e13 e14 e15 e16 e17 e18 e19 e20 e21 e22 e23 e24 e25 e26 e27 e28 e29 e30 e31 e32 e33 e34 (MOb th (nI m) (nI g) (nI w) (nI p) (nI P) (nI i) (nI s) gn (nI t) (nI bl) m13 m14 m15 m16 m17 m18 m24 m25 y30 y31 y33 y34 y35 ((seF m g w B F (4 ^ k - 1)).1) (seP (seF m g w B F (4 ^ k - 1)) 1) (seP (seF m g w B F (4 ^ k - 1)) 2) m39) (.inl (0, 24, .inl (fun j => nI ((tbF B F) j)))) e37 e38 e39 e40 e41 e42 (.inl (1, 16, .inr (.inl ro2))) (.inl (1, 4, .inr (.inl gs2))) (.inl (1, 4, .inr (.inl h2))) (.inl (1, 4, .inr (.inl q2))) (.inl (1, 4, .inr (.inl we2))) e48)) := by
  have hE : 4 ^ k - 1 ≤ 63 := (show ∀ k, k < 4 → 4 ^ k - 1 ≤ 63 by decide) k (by omega)
  have K := loopN (P := fun j => ∀ (ro2 gs2 h2 q2 we2 : Nat → Int64) (y30 y33 y34 y35 : Int64) (y31 : Int32), JR M_Mo_layBest none (21, [(0, .ref 35), (1, .int (nI k)), (2, .int (nI (j + 1)))], [], (HP e0 e1 e2 e3 e4 e5 e6 e7 e8 e9 e10 e11 e12 e13 e14 e15 e16 e17 e18 e19 e20 e21 e22 e23 e24 e25 e26 e27 e28 e29 e30 e31 e32 e33 e34 (MOb th (nI m) (nI g) (nI w) (nI p) (nI P) (nI i) (nI s) gn (nI t) (nI bl) m13 m14 m15 m16 m17 m18 m24 m25 y30 y31 y33 y34 y35 ((seF m g w B F (min j (4 ^ k - 1))).1) (seP (seF m g w B F (min j (4 ^ k - 1))) 1) (seP (seF m g w B F (min j (4 ^ k - 1))) 2) m39) (.inl (0, 24, .inl (fun j => nI ((tbF B F) j)))) e37 e38 e39 e40 e41 e42 (.inl (1, 16, .inr (.inl ro2))) (.inl (1, 4, .inr (.inl gs2))) (.inl (1, 4, .inr (.inl h2))) (.inl (1, 4, .inr (.inl q2))) (.inl (1, 4, .inr (.inl we2))) e48), 0, 0) (fun v9 q9 => v9 = none ∧ ∃ (ro2 gs2 h2 q2 we2 : Nat → Int64) (y30 y33 y34 y35 : Int64) (y31 : Int32), q9 = (HP e0 e1 e2 e3 e4 e5 e6 e7 e8 e9 e10 e11 e12 e13 e14 e15 e16 e17 e18 e19 e20 e21 e22 e23 e24 e25 e26 e27 e28 e29 e30 e31 e32 e33 e34 (MOb th (nI m) (nI g) (nI w) (nI p) (nI P) (nI i) (nI s) gn (nI t) (nI bl) m13 m14 m15 m16 m17 m18 m24 m25 y30 y31 y33 y34 y35 ((seF m g w B F (4 ^ k - 1)).1) (seP (seF m g w B F (4 ^ k - 1)) 1) (seP (seF m g w B F (4 ^ k - 1)) 2) m39) (.inl (0, 24, .inl (fun j => nI ((tbF B F) j)))) e37 e38 e39 e40 e41 e42 (.inl (1, 16, .inr (.inl ro2))) (.inl (1, 4, .inr (.inl gs2))) (.inl (1, 4, .inr (.inl h2))) (.inl (1, 4, .inr (.inl q2))) (.inl (1, 4, .inr (.inl we2))) e48))) (b := 63) (fun ro2 gs2 h2 q2 we2 y30 y33 y34 y35 y31 => ?_) (fun j hj ih ro2 gs2 h2 q2 we2 y30 y33 y34 y35 y31 => ?_) 0 (Nat.zero_le _)
  · rw [Nat.zero_min] at K
    exact JM.of (by decide +kernel) rfl (Nat.le_of_ble_eq_true rfl) (g_Mo_lb0 (K ro gs h q9 we m30 m33 m34 m35 m31))
  · rw [Nat.min_eq_right hE]
    exact g_Mo_lb9 (m30 := y30) (m33 := y33) (m34 := y34) (m35 := y35) (m31 := y31) (m36 := (seF m g w B F (4 ^ k - 1)).1) (m37 := seP (seF m g w B F (4 ^ k - 1)) 1) (m38 := seP (seF m g w B F (4 ^ k - 1)) 2) ⟨rfl, ro2, gs2, h2, q2, we2, y30, y33, y34, y35, y31, rfl⟩
  · have hcut := fun h => cut_fact k (by omega) hk1 (j + 1) (by omega) h
    have h4 := plen_le (j + 1)
    by_cases hP : isPr (j + 1) = true
    · by_cases hle : plen (j + 1) ≤ k
      · have h1 := (hcut hP).mp hle
        rw [Nat.min_eq_left (show j + 1 ≤ 4 ^ k - 1 by omega)] at ih
        rw [Nat.min_eq_left (show j ≤ 4 ^ k - 1 by omega)]
        by_cases hu : prIn g (j + 1) = true
        · obtain ⟨a1, a2, a3⟩ := hR (j + 1) hP
          refine g_Mo_lb4 (ro := ro2) (gs := gs2) (h := h2) (q9 := q2) (we := we2) (m30 := y30) (m33 := y33) (m34 := y34) (m35 := y35) (m31 := y31) (m36 := (seF m g w B F j).1) (m37 := seP (seF m g w B F j) 1) (m38 := seP (seF m g w B F j) 2) hm hg hw hBF hk h4 (by omega) hP hle hu a1 a2 (fun ro2 gs2 h2 q2 we2 al2 => ?_)
          have la : (avQ m g w B F (j + 1)).2 < 2 ^ 63 := avP_lt
          have e : (seF m g w B F (j + 1)) = seC (j + 1) (avQ m g w B F (j + 1)) (seF m g w B F j) := if_pos ⟨hP, hu⟩
          by_cases h2 : (avQ m g w B F (j + 1)).2 = 0
          · rw [e, show seC (j + 1) (avQ m g w B F (j + 1)) (seF m g w B F j) = (seF m g w B F j) from if_pos h2] at ih
            exact g_Mo_lb5 (by omega) la h2 (ih _ _ _ _ _ _ _ _ _ _)
          · have nn := nI_nn (j + 1) (by omega)
            by_cases hf : (seF m g w B F j).1 = -1
            · rw [e, show seC (j + 1) (avQ m g w B F (j + 1)) (seF m g w B F j) = (nI (j + 1), (avQ m g w B F (j + 1)).1, (avQ m g w B F (j + 1)).2) from (if_neg h2).trans (if_pos (Or.inl hf))] at ih
              rw [seP_1 nn, seP_2 nn] at ih
              exact g_Mo_lb6 (by omega) la (by omega) hf (ih _ _ _ _ _ _ _ _ _ _)
            · have fb := seF_frb hR j hf
              rw [seP_1 hf, seP_2 hf]
              by_cases ho : 0 < ordF (avQ m g w B F (j + 1)).1 (lN (avQ m g w B F (j + 1)).2) (seF m g w B F j).2.1 (lN (seF m g w B F j).2.2)
              · rw [e, show seC (j + 1) (avQ m g w B F (j + 1)) (seF m g w B F j) = (nI (j + 1), (avQ m g w B F (j + 1)).1, (avQ m g w B F (j + 1)).2) from (if_neg h2).trans (if_pos (Or.inr ho))] at ih
                rw [seP_1 nn, seP_2 nn] at ih
                exact g_Mo_lb8 (by omega) la (by omega) hf (a3 h2) fb ho (ih _ _ _ _ _ _ _ _ _ _)
              · rw [e, show seC (j + 1) (avQ m g w B F (j + 1)) (seF m g w B F j) = (seF m g w B F j) from (if_neg h2).trans (if_neg (fun h => h.elim hf ho))] at ih
                rw [seP_1 hf, seP_2 hf] at ih
                exact g_Mo_lb7 (by omega) la (by omega) hf (a3 h2) fb ho (ih _ _ _ _ _ _ _ _ _ _)
        · rw [show (seF m g w B F (j + 1)) = (seF m g w B F j) from if_neg (fun h => hu h.2)] at ih
          exact g_Mo_lb3 (m30 := y30) (m33 := y33) (m34 := y34) (m35 := y35) (m31 := y31) (m36 := (seF m g w B F j).1) (m37 := seP (seF m g w B F j) 1) (m38 := seP (seF m g w B F j) 2) hk hg h4 (by omega) hP hle hu (ih _ _ _ _ _ _ _ _ _ _)
      · have h1 : ¬ j + 1 ≤ 4 ^ k - 1 := fun h => hle ((hcut hP).mpr h)
        rw [Nat.min_eq_right (show 4 ^ k - 1 ≤ j + 1 by omega)] at ih
        rw [Nat.min_eq_right (show 4 ^ k - 1 ≤ j by omega)]
        exact g_Mo_lb2 (m30 := y30) (m33 := y33) (m34 := y34) (m35 := y35) (m31 := y31) (m36 := (seF m g w B F (4 ^ k - 1)).1) (m37 := seP (seF m g w B F (4 ^ k - 1)) 1) (m38 := seP (seF m g w B F (4 ^ k - 1)) 2) hk h4 (by omega) hP (by omega) (ih _ _ _ _ _ _ _ _ _ _)
    · have e : (seF m g w B F (min (j + 1) (4 ^ k - 1))) = (seF m g w B F (min j (4 ^ k - 1))) := by
        by_cases h1 : j + 1 ≤ 4 ^ k - 1
        · rw [Nat.min_eq_left h1, Nat.min_eq_left (show j ≤ 4 ^ k - 1 by omega)]
          exact if_neg (fun h => hP h.1)
        · rw [Nat.min_eq_right (show 4 ^ k - 1 ≤ j + 1 by omega), Nat.min_eq_right (show 4 ^ k - 1 ≤ j by omega)]
      rw [e] at ih
      refine g_Mo_lb1 (m30 := y30) (m33 := y33) (m34 := y34) (m35 := y35) (m31 := y31) (m36 := (seF m g w B F (min j (4 ^ k - 1))).1) (m37 := seP (seF m g w B F (min j (4 ^ k - 1))) 1) (m38 := seP (seF m g w B F (min j (4 ^ k - 1))) 2) (by omega) (fun p hp he => ?_) (ih _ _ _ _ _ _ _ _ _ _)
      have := isPr_bd hp
      have hq : j + 1 = p := (nI_eq (by omega) (by omega)).mp he
      rw [hq] at hP
      exact hP hp
