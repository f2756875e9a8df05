theorem isPr_one : ∀ l, l < 3 → isPr (l + 1) = true := by decide

set_option maxRecDepth 100000 in
set_option maxHeartbeats 400000 in
theorem g_F_meanGain {sc : aScr} {e1 e2 e3 e4 e5 e7 e8 e9 e10 e11 e12 e13 e14 e15 e16 e17 e18 e19 e20 e21 e22 e23 e24 e25 e26 e27 e28 e29 e30 e31 e32 e33 e34 e35 e36 : va_E} {P bl t : Nat} {p i s gn : Int32} {kc kn : Nat} {O : Option Value → aH → Prop} (ht : t ≤ 1000000) (hn : 0 < t → vf_n64 (FP.ddiv (FP.i2d gn) (FP.i2d (nI t)))) (K1 : (t ≤ 0) → O (some (.double FP.dconst0)) (HP (.inr (9, [.ref 1, .ref 6, .int (nI P), .ref 7, .int (nI bl), .ref 9, .ref 10, .ref 13, .ref 18, .ref 32, .ref 33])) e1 e2 e3 e4 e5 (.inr (7, [.int p, .int i, .int s, .int gn, .int (nI t)])) e7 e8 e9 e10 e11 e12 e13 e14 e15 e16 e17 e18 e19 e20 e21 e22 e23 e24 e25 e26 e27 e28 e29 e30 e31 e32 e33 e34 e35 e36)) (K2 : (0 < t) → O (some (.double (FP.ddiv (FP.i2d gn) (FP.i2d (nI t))))) (HP (.inr (9, [.ref 1, .ref 6, .int (nI P), .ref 7, .int (nI bl), .ref 9, .ref 10, .ref 13, .ref 18, .ref 32, .ref 33])) e1 e2 e3 e4 e5 (.inr (7, [.int p, .int i, .int s, .int gn, .int (nI t)])) e7 e8 e9 e10 e11 e12 e13 e14 e15 e16 e17 e18 e19 e20 e21 e22 e23 e24 e25 e26 e27 e28 e29 e30 e31 e32 e33 e34 e35 e36)) : JR M_F_meanGain sc (0, [(0, .ref 0)], [], (HP (.inr (9, [.ref 1, .ref 6, .int (nI P), .ref 7, .int (nI bl), .ref 9, .ref 10, .ref 13, .ref 18, .ref 32, .ref 33])) e1 e2 e3 e4 e5 (.inr (7, [.int p, .int i, .int s, .int gn, .int (nI t)])) e7 e8 e9 e10 e11 e12 e13 e14 e15 e16 e17 e18 e19 e20 e21 e22 e23 e24 e25 e26 e27 e28 e29 e30 e31 e32 e33 e34 e35 e36), kc, kn) O := by
  refine J.gp ok_F_meanGain 3 (7, [(0, .ref 0)], [.int (nI t)], _, _, _) rfl ?_
  refine J.ifB ok_F_meanGain (fun x => x ≤ 0) 30 10 rfl (fun (h0 : nI t ≤ 0) => ?_) (fun (h0 : ¬ (nI t ≤ 0)) => ?_)
  · have c7 : t ≤ 0 := (nI_leI (a := t) (b := 0) (by omega) (by omega)).mp h0
    refine J.gp ok_F_meanGain 1 (31, [(0, .ref 0)], [.double FP.dconst0], _, _, _) rfl ?_
    refine JR.dret (by decide +kernel) rfl ?_
    exact K1 c7
  · have c7 : 0 < t := Nat.not_le.mp (fun h9 => h0 ((nI_leI (a := t) (b := 0) (by omega) (by omega)).mpr h9))
    refine J.gp ok_F_meanGain 8 (26, [(0, .ref 0)], [.double (FP.i2d (nI t)), .double (FP.i2d gn)], _, _, _) rfl ?_
    refine J.ddivB ok_F_meanGain 27 rfl (hn (by omega)) ?_
    refine J.gp ok_F_meanGain 1 (31, [(0, .ref 0)], [.double (FP.ddiv (FP.i2d gn) (FP.i2d (nI t)))], _, _, _) rfl ?_
    refine JR.dret (by decide +kernel) rfl ?_
    exact K2 c7

theorem c_F_meanGain {e1 e2 e3 e4 e5 e7 e8 e9 e10 e11 e12 e13 e14 e15 e16 e17 e18 e19 e20 e21 e22 e23 e24 e25 e26 e27 e28 e29 e30 e31 e32 e33 e34 e35 e36 : va_E} {P bl t : Nat} {p i s gn : Int32} (ht : t ≤ 1000000) (hn : 0 < t → vf_n64 (FP.ddiv (FP.i2d gn) (FP.i2d (nI t)))) : JE M_F_meanGain [.ref 0] (HP (.inr (9, [.ref 1, .ref 6, .int (nI P), .ref 7, .int (nI bl), .ref 9, .ref 10, .ref 13, .ref 18, .ref 32, .ref 33])) e1 e2 e3 e4 e5 (.inr (7, [.int p, .int i, .int s, .int gn, .int (nI t)])) e7 e8 e9 e10 e11 e12 e13 e14 e15 e16 e17 e18 e19 e20 e21 e22 e23 e24 e25 e26 e27 e28 e29 e30 e31 e32 e33 e34 e35 e36) (some (.double (mgF gn t))) (HP (.inr (9, [.ref 1, .ref 6, .int (nI P), .ref 7, .int (nI bl), .ref 9, .ref 10, .ref 13, .ref 18, .ref 32, .ref 33])) e1 e2 e3 e4 e5 (.inr (7, [.int p, .int i, .int s, .int gn, .int (nI t)])) e7 e8 e9 e10 e11 e12 e13 e14 e15 e16 e17 e18 e19 e20 e21 e22 e23 e24 e25 e26 e27 e28 e29 e30 e31 e32 e33 e34 e35 e36) := by
  unfold mgF
  refine JM.of (by decide +kernel) rfl (Nat.le_of_ble_eq_true rfl) (g_F_meanGain ht hn (fun c => ?_) (fun c => ?_))
  · rw [if_pos (by omega)]
    exact ⟨rfl, rfl⟩
  · rw [if_neg (by omega)]
    exact ⟨rfl, rfl⟩
