/-! THE LAW'S BODY -/

set_option maxRecDepth 100000 in
set_option maxHeartbeats 400000 in
theorem g_lw_0 {sc : aScr}  {O : Option Value → aH → Prop}  (K1 : ∀ kc kn : Nat, 2 ≤ kc → 18 ≤ kn → JR M_La_law sc (18, [(0, .ref 1000), (1, .ref 0), (2, .ref 35), (3, .ref 36)], [], (HP (.inr (9, [.ref 1, .ref 6, .int 1, .ref 7, .int 0, .ref 9, .ref 10, .ref 13, .ref 18, .ref 32, .ref 33])) (.inr (8, [.ref 2, .ref 4, .int 3, .int 7, .int 0])) (.inr (4, [.ref 3])) (.inl (1, 12, .inr (.inl (fun _ => 0)))) (.inr (4, [.ref 5])) (.inl (1, 12, .inr (.inl (fun _ => 0)))) (.inr (7, [.int 0, .int 0, .int 0, .int 0, .int 0])) (.inr (4, [.ref 8])) (.inl (1, 60, .inr (.inl (fun _ => 0)))) (.inr (2, [.int 0, .int 0, .int 0, .int 0, .int 0, .int 0, .int 0, .int 0, .int 0])) (.inr (0, [.ref 11, .ref 12, .int 0, .int 0, .int 0])) (.inr (7, [.int 0, .int 0, .int 0, .int 0, .int 0])) (.inr (7, [.int 0, .int 0, .int 0, .int 0, .int 0])) (.inr (6, [.ref 14, .ref 16, .int 0, .int 0, .int 0, .int 0, .long 0, .long 0])) (.inr (4, [.ref 15])) (.inl (1, 132, .inr (.inl (fun _ => 0)))) (.inr (4, [.ref 17])) (.inl (1, 132, .inr (.inl (fun _ => 0)))) (.inr (3, [.ref 19, .ref 21, .ref 23, .ref 25, .ref 27, .ref 29, .ref 31, .int 0, .int 0, .long 0, .long 0, .int 0])) (.inr (4, [.ref 20])) (.inl (1, 16, .inr (.inl (fun _ => 0)))) (.inr (4, [.ref 22])) (.inl (1, 4, .inr (.inl (fun _ => 0)))) (.inr (4, [.ref 24])) (.inl (1, 4, .inr (.inl (fun _ => 0)))) (.inr (4, [.ref 26])) (.inl (1, 4, .inr (.inl (fun _ => 0)))) (.inr (4, [.ref 28])) (.inl (1, 9, .inr (.inl (fun _ => 0)))) (.inr (4, [.ref 30])) (.inl (1, 16, .inr (.inl (fun _ => 0)))) (.inr (1, [.long 0, .long 0])) (.inr (1, [.long 0, .long 0])) (.inr (5, [.ref 34, .int (-1)])) (.inr (1, [.long 0, .long 0])) (.inl (0, 9, .inl (fun _ => 0))) (.inl (0, 12, .inl (fun _ => 0)))), kc, kn) O) : JR M_La_law sc (0, [(0, .ref 1000)], [], [], 60, 600) O := by
  refine J.newB ok_La_law 3 9 11 [.null, .null, .int 0, .null, .int 0, .null, .null, .null, .null, .null, .null] rfl ⟨rfl, Nat.le_of_ble_eq_true rfl, Nat.le_of_ble_eq_true rfl⟩ ?_
  refine J.gp ok_La_law 0 (3, [(0, .ref 1000)], [.ref 0], [(.inr (9, [.null, .null, .int 0, .null, .int 0, .null, .null, .null, .null, .null, .null]))], _, _) rfl ?_
  refine J.gp ok_La_law 1 (4, [(0, .ref 1000)], [.ref 0, .ref 0], _, _, _) rfl ?_
  refine J.callI s_La_law_4 0 [] rfl (Nat.le_of_ble_eq_true rfl) (c_F_init_1) (Nat.le_of_ble_eq_true rfl) (Nat.le_of_ble_eq_true rfl) (Or.inr rfl) (fun v q h => ?_)
  obtain ⟨rfl, rfl⟩ := h
  refine J.gp ok_La_law 0 (7, [(0, .ref 1000)], [.ref 0], [(.inr (9, [.ref 1, .ref 6, .int 1, .ref 7, .int 0, .ref 9, .ref 10, .ref 13, .ref 18, .ref 32, .ref 33])), (.inr (8, [.ref 2, .ref 4, .int 3, .int 7, .int 0])), (.inr (4, [.ref 3])), (.inl (1, 12, .inr (.inl (fun _ => 0)))), (.inr (4, [.ref 5])), (.inl (1, 12, .inr (.inl (fun _ => 0)))), (.inr (7, [.int 0, .int 0, .int 0, .int 0, .int 0])), (.inr (4, [.ref 8])), (.inl (1, 60, .inr (.inl (fun _ => 0)))), (.inr (2, [.int 0, .int 0, .int 0, .int 0, .int 0, .int 0, .int 0, .int 0, .int 0])), (.inr (0, [.ref 11, .ref 12, .int 0, .int 0, .int 0])), (.inr (7, [.int 0, .int 0, .int 0, .int 0, .int 0])), (.inr (7, [.int 0, .int 0, .int 0, .int 0, .int 0])), (.inr (6, [.ref 14, .ref 16, .int 0, .int 0, .int 0, .int 0, .long 0, .long 0])), (.inr (4, [.ref 15])), (.inl (1, 132, .inr (.inl (fun _ => 0)))), (.inr (4, [.ref 17])), (.inl (1, 132, .inr (.inl (fun _ => 0)))), (.inr (3, [.ref 19, .ref 21, .ref 23, .ref 25, .ref 27, .ref 29, .ref 31, .int 0, .int 0, .long 0, .long 0, .int 0])), (.inr (4, [.ref 20])), (.inl (1, 16, .inr (.inl (fun _ => 0)))), (.inr (4, [.ref 22])), (.inl (1, 4, .inr (.inl (fun _ => 0)))), (.inr (4, [.ref 24])), (.inl (1, 4, .inr (.inl (fun _ => 0)))), (.inr (4, [.ref 26])), (.inl (1, 4, .inr (.inl (fun _ => 0)))), (.inr (4, [.ref 28])), (.inl (1, 9, .inr (.inl (fun _ => 0)))), (.inr (4, [.ref 30])), (.inl (1, 16, .inr (.inl (fun _ => 0)))), (.inr (1, [.long 0, .long 0])), (.inr (1, [.long 0, .long 0])), (.inr (5, [.ref 34, .int (-1)])), (.inr (1, [.long 0, .long 0]))], _, _) rfl ?_
  refine J.gp ok_La_law 2 (10, [(0, .ref 1000), (1, .ref 0)], [.int 9], _, _, _) rfl ?_
  refine J.newaB ok_La_law 12 0 9 rfl (by first | rfl | decide) (Nat.le_of_ble_eq_true rfl) ⟨rfl, Nat.le_of_ble_eq_true rfl, Nat.le_of_ble_eq_true rfl⟩ ?_
  refine J.gp ok_La_law 0 (12, [(0, .ref 1000), (1, .ref 0)], [.ref 35], [(.inr (9, [.ref 1, .ref 6, .int 1, .ref 7, .int 0, .ref 9, .ref 10, .ref 13, .ref 18, .ref 32, .ref 33])), (.inr (8, [.ref 2, .ref 4, .int 3, .int 7, .int 0])), (.inr (4, [.ref 3])), (.inl (1, 12, .inr (.inl (fun _ => 0)))), (.inr (4, [.ref 5])), (.inl (1, 12, .inr (.inl (fun _ => 0)))), (.inr (7, [.int 0, .int 0, .int 0, .int 0, .int 0])), (.inr (4, [.ref 8])), (.inl (1, 60, .inr (.inl (fun _ => 0)))), (.inr (2, [.int 0, .int 0, .int 0, .int 0, .int 0, .int 0, .int 0, .int 0, .int 0])), (.inr (0, [.ref 11, .ref 12, .int 0, .int 0, .int 0])), (.inr (7, [.int 0, .int 0, .int 0, .int 0, .int 0])), (.inr (7, [.int 0, .int 0, .int 0, .int 0, .int 0])), (.inr (6, [.ref 14, .ref 16, .int 0, .int 0, .int 0, .int 0, .long 0, .long 0])), (.inr (4, [.ref 15])), (.inl (1, 132, .inr (.inl (fun _ => 0)))), (.inr (4, [.ref 17])), (.inl (1, 132, .inr (.inl (fun _ => 0)))), (.inr (3, [.ref 19, .ref 21, .ref 23, .ref 25, .ref 27, .ref 29, .ref 31, .int 0, .int 0, .long 0, .long 0, .int 0])), (.inr (4, [.ref 20])), (.inl (1, 16, .inr (.inl (fun _ => 0)))), (.inr (4, [.ref 22])), (.inl (1, 4, .inr (.inl (fun _ => 0)))), (.inr (4, [.ref 24])), (.inl (1, 4, .inr (.inl (fun _ => 0)))), (.inr (4, [.ref 26])), (.inl (1, 4, .inr (.inl (fun _ => 0)))), (.inr (4, [.ref 28])), (.inl (1, 9, .inr (.inl (fun _ => 0)))), (.inr (4, [.ref 30])), (.inl (1, 16, .inr (.inl (fun _ => 0)))), (.inr (1, [.long 0, .long 0])), (.inr (1, [.long 0, .long 0])), (.inr (5, [.ref 34, .int (-1)])), (.inr (1, [.long 0, .long 0])), (.inl (0, 9, .inl (fun _ => 0)))], _, _) rfl ?_
  refine J.gp ok_La_law 2 (15, [(0, .ref 1000), (1, .ref 0), (2, .ref 35)], [.int 12], _, _, _) rfl ?_
  refine J.newaB ok_La_law 17 0 12 rfl (by first | rfl | decide) (Nat.le_of_ble_eq_true rfl) ⟨rfl, Nat.le_of_ble_eq_true rfl, Nat.le_of_ble_eq_true rfl⟩ ?_
  refine J.gp ok_La_law 0 (17, [(0, .ref 1000), (1, .ref 0), (2, .ref 35)], [.ref 36], (HP (.inr (9, [.ref 1, .ref 6, .int 1, .ref 7, .int 0, .ref 9, .ref 10, .ref 13, .ref 18, .ref 32, .ref 33])) (.inr (8, [.ref 2, .ref 4, .int 3, .int 7, .int 0])) (.inr (4, [.ref 3])) (.inl (1, 12, .inr (.inl (fun _ => 0)))) (.inr (4, [.ref 5])) (.inl (1, 12, .inr (.inl (fun _ => 0)))) (.inr (7, [.int 0, .int 0, .int 0, .int 0, .int 0])) (.inr (4, [.ref 8])) (.inl (1, 60, .inr (.inl (fun _ => 0)))) (.inr (2, [.int 0, .int 0, .int 0, .int 0, .int 0, .int 0, .int 0, .int 0, .int 0])) (.inr (0, [.ref 11, .ref 12, .int 0, .int 0, .int 0])) (.inr (7, [.int 0, .int 0, .int 0, .int 0, .int 0])) (.inr (7, [.int 0, .int 0, .int 0, .int 0, .int 0])) (.inr (6, [.ref 14, .ref 16, .int 0, .int 0, .int 0, .int 0, .long 0, .long 0])) (.inr (4, [.ref 15])) (.inl (1, 132, .inr (.inl (fun _ => 0)))) (.inr (4, [.ref 17])) (.inl (1, 132, .inr (.inl (fun _ => 0)))) (.inr (3, [.ref 19, .ref 21, .ref 23, .ref 25, .ref 27, .ref 29, .ref 31, .int 0, .int 0, .long 0, .long 0, .int 0])) (.inr (4, [.ref 20])) (.inl (1, 16, .inr (.inl (fun _ => 0)))) (.inr (4, [.ref 22])) (.inl (1, 4, .inr (.inl (fun _ => 0)))) (.inr (4, [.ref 24])) (.inl (1, 4, .inr (.inl (fun _ => 0)))) (.inr (4, [.ref 26])) (.inl (1, 4, .inr (.inl (fun _ => 0)))) (.inr (4, [.ref 28])) (.inl (1, 9, .inr (.inl (fun _ => 0)))) (.inr (4, [.ref 30])) (.inl (1, 16, .inr (.inl (fun _ => 0)))) (.inr (1, [.long 0, .long 0])) (.inr (1, [.long 0, .long 0])) (.inr (5, [.ref 34, .int (-1)])) (.inr (1, [.long 0, .long 0])) (.inl (0, 9, .inl (fun _ => 0))) (.inl (0, 12, .inl (fun _ => 0)))), _, _) rfl ?_
  refine J.gp ok_La_law 1 (18, [(0, .ref 1000), (1, .ref 0), (2, .ref 35), (3, .ref 36)], [], _, _, _) rfl ?_
  exact K1 _ _ (Nat.le_of_ble_eq_true rfl) (Nat.le_of_ble_eq_true rfl)

set_option maxRecDepth 100000 in
set_option maxHeartbeats 400000 in
theorem g_lw_1 {sc : aScr} {e0 e1 e2 e3 e4 e5 e6 e7 e8 e9 e10 e11 e12 e13 e14 e15 e16 e17 e18 e19 e20 e21 e22 e23 e24 e25 e26 e27 e28 e29 e30 e31 e32 e33 e34 : va_E} {f35 f36 : Nat → Int32} {kc kn : Nat} {O : Option Value → aH → Prop}  (K1 : JR M_La_law sc (27, [(0, .ref 1000), (1, .ref 0), (2, .ref 35), (3, .ref 36)], [.ref 36, .ref 35, .ref 0], (HP e0 e1 e2 e3 e4 e5 e6 e7 e8 e9 e10 e11 e12 e13 e14 e15 e16 e17 e18 e19 e20 e21 e22 e23 e24 e25 e26 e27 e28 e29 e30 e31 e32 e33 e34 (.inl (0, 9, .inl (dL [nI 3, 0, 1, 0, 0, 0, 0, 7, 0]))) (.inl (0, 12, .inl (fun j => nI ((nuF (fun _ => 0) (fun _ => 0)) j))))), kc, kn) O) : JR M_La_law sc (18, [(0, .ref 1000), (1, .ref 0), (2, .ref 35), (3, .ref 36)], [], (HP e0 e1 e2 e3 e4 e5 e6 e7 e8 e9 e10 e11 e12 e13 e14 e15 e16 e17 e18 e19 e20 e21 e22 e23 e24 e25 e26 e27 e28 e29 e30 e31 e32 e33 e34 (.inl (0, 9, .inl f35)) (.inl (0, 12, .inl f36))), kc, kn) O := by
  refine J.gp ok_La_law 3 (21, [(0, .ref 1000), (1, .ref 0), (2, .ref 35), (3, .ref 36)], [.ref 36, .ref 35, .int 3], _, _, _) rfl ?_
  refine J.callSE s_La_law_21 24 [.int 3, .ref 35, .ref 36] (c_La_fresh (q := 3)) rfl rfl (Nat.le_of_ble_eq_true rfl) rfl ?_
  refine J.gp ok_La_law 0 (24, [(0, .ref 1000), (1, .ref 0), (2, .ref 35), (3, .ref 36)], [], (HP e0 e1 e2 e3 e4 e5 e6 e7 e8 e9 e10 e11 e12 e13 e14 e15 e16 e17 e18 e19 e20 e21 e22 e23 e24 e25 e26 e27 e28 e29 e30 e31 e32 e33 e34 (.inl (0, 9, .inl (dL [nI 3, 0, 1, 0, 0, 0, 0, 7, 0]))) (.inl (0, 12, .inl (fun j => nI ((nuF (fun _ => 0) (fun _ => 0)) j))))), kc, kn) rfl ?_
  refine J.gp ok_La_law 3 (27, [(0, .ref 1000), (1, .ref 0), (2, .ref 35), (3, .ref 36)], [.ref 36, .ref 35, .ref 0], _, _, _) rfl ?_
  exact K1

set_option maxRecDepth 100000 in
set_option maxHeartbeats 400000 in
theorem g_lw_2 {sc : aScr} {hh : aH}  {kc kn : Nat} {O : Option Value → aH → Prop}  (K1 : JR M_La_law sc (35, [(0, .ref 1000), (1, .ref 0), (2, .ref 35), (3, .ref 36)], [.int 0, .ref 0], hh, kc, kn) O) : JR M_La_law sc (30, [(0, .ref 1000), (1, .ref 0), (2, .ref 35), (3, .ref 36)], [.int 1], hh, kc, kn) O := by
  refine J.ifF ok_La_law (fun x => x = 0) 60 33 rfl (by decide) ?_
  refine J.gp ok_La_law 2 (35, [(0, .ref 1000), (1, .ref 0), (2, .ref 35), (3, .ref 36)], [.int 0, .ref 0], _, _, _) rfl ?_
  exact K1

set_option maxRecDepth 100000 in
set_option maxHeartbeats 400000 in
theorem g_lw_3 {sc : aScr} {hh : aH}  {kc kn : Nat} {O : Option Value → aH → Prop}  (K1 : JR M_La_law sc (43, [(0, .ref 1000), (1, .ref 0), (2, .ref 35), (3, .ref 36)], [.int 1, .ref 0], hh, kc, kn) O) : JR M_La_law sc (38, [(0, .ref 1000), (1, .ref 0), (2, .ref 35), (3, .ref 36)], [.int 0], hh, kc, kn) O := by
  refine J.ifF ok_La_law (fun x => ¬ x = 0) 60 41 rfl (by decide) ?_
  refine J.gp ok_La_law 2 (43, [(0, .ref 1000), (1, .ref 0), (2, .ref 35), (3, .ref 36)], [.int 1, .ref 0], _, _, _) rfl ?_
  exact K1

set_option maxRecDepth 100000 in
set_option maxHeartbeats 400000 in
theorem g_lw_4 {sc : aScr} {hh : aH}  {kc kn : Nat} {O : Option Value → aH → Prop}  (K1 : JR M_La_law sc (54, [(0, .ref 1000), (1, .ref 0), (2, .ref 35), (3, .ref 36)], [.int 2, .ref 0], hh, kc, kn) O) : JR M_La_law sc (46, [(0, .ref 1000), (1, .ref 0), (2, .ref 35), (3, .ref 36)], [.int 1000], hh, kc, kn) O := by
  refine J.gp ok_La_law 1 (49, [(0, .ref 1000), (1, .ref 0), (2, .ref 35), (3, .ref 36)], [.int 1000, .int 1000], _, _, _) rfl ?_
  refine J.icF ok_La_law (fun x y => ¬ x = y) 60 52 rfl (by decide) ?_
  refine J.gp ok_La_law 2 (54, [(0, .ref 1000), (1, .ref 0), (2, .ref 35), (3, .ref 36)], [.int 2, .ref 0], _, _, _) rfl ?_
  exact K1

set_option maxRecDepth 100000 in
set_option maxHeartbeats 400000 in
theorem g_lw_5 {sc : aScr} {hh : aH}  {kc kn : Nat} {O : Option Value → aH → Prop}  (K1 : JR M_La_law sc (65, [(0, .ref 1000), (1, .ref 0), (2, .ref 35), (3, .ref 36)], [.int 0, .ref 1000, .int 2], hh, kc, kn) O) : JR M_La_law sc (57, [(0, .ref 1000), (1, .ref 0), (2, .ref 35), (3, .ref 36)], [.int 0], hh, kc, kn) O := by
  refine J.ifT ok_La_law (fun x => x = 0) 62 60 rfl (by decide) ?_
  refine J.gp ok_La_law 3 (65, [(0, .ref 1000), (1, .ref 0), (2, .ref 35), (3, .ref 36)], [.int 0, .ref 1000, .int 2], _, _, _) rfl ?_
  exact K1

set_option maxRecDepth 100000 in
set_option maxHeartbeats 400000 in
theorem g_lw_6 {sc : aScr} {e0 e1 e2 e3 e4 e5 e6 e7 e8 e9 e10 e11 e12 e13 e14 e15 e16 e17 e18 e19 e20 e21 e22 e23 e24 e25 e26 e27 e28 e29 e30 e31 e32 e33 e34 : va_E} {f35 f36 : Nat → Int32} {c : Nat} {kc kn : Nat} {O : Option Value → aH → Prop} (hc : c < 2 ^ 31) (K1 : JR M_La_law sc (80, [(0, .ref 1000), (1, .ref 0), (2, .ref 35), (3, .ref 36)], [.int (nI (2 + (c % 3))), .ref 0], (HP e0 e1 e2 e3 e4 e5 e6 e7 e8 e9 e10 e11 e12 e13 e14 e15 e16 e17 e18 e19 e20 e21 e22 e23 e24 e25 e26 e27 e28 e29 e30 e31 e32 e33 e34 (.inl (0, 9, .inl (dL [nI (2 + (c % 3)), 0, 1, 0, 0, 0, 0, 7, 0]))) (.inl (0, 12, .inl (fun j => nI ((nuF (fun _ => 0) (fun _ => 0)) j))))), kc, kn) O) : JR M_La_law sc (68, [(0, .ref 1000), (1, .ref 0), (2, .ref 35), (3, .ref 36)], [.int (nI c), .int 2], (HP e0 e1 e2 e3 e4 e5 e6 e7 e8 e9 e10 e11 e12 e13 e14 e15 e16 e17 e18 e19 e20 e21 e22 e23 e24 e25 e26 e27 e28 e29 e30 e31 e32 e33 e34 (.inl (0, 9, .inl f35)) (.inl (0, 12, .inl f36))), kc, kn) O := by
  refine J.gp ok_La_law 1 (69, [(0, .ref 1000), (1, .ref 0), (2, .ref 35), (3, .ref 36)], [.int 3, .int (nI c), .int 2], _, _, _) rfl ?_
  refine J.iremB ok_La_law 70 rfl (by decide) ?_
  rw [show ((nI c - nI c / 3 * 3) : Int32) = nI (c % 3) from pk_rem (a := c) (d := 3) (by omega) (by omega) (by omega)]
  refine J.gp ok_La_law 1 (71, [(0, .ref 1000), (1, .ref 0), (2, .ref 35), (3, .ref 36)], [.int (2 + nI (c % 3))], _, _, _) rfl ?_
  rw [show ((2 + nI (c % 3)) : Int32) = nI (2 + (c % 3)) from nI_add 2 (c % 3)]
  refine J.gp ok_La_law 2 (73, [(0, .ref 1000), (1, .ref 0), (2, .ref 35), (3, .ref 36)], [.ref 36, .ref 35, .int (nI (2 + (c % 3)))], _, _, _) rfl ?_
  refine J.callSE s_La_law_73 76 [.int (nI (2 + (c % 3))), .ref 35, .ref 36] (c_La_fresh (q := 2 + (c % 3))) rfl rfl (Nat.le_of_ble_eq_true rfl) rfl ?_
  refine J.gp ok_La_law 0 (76, [(0, .ref 1000), (1, .ref 0), (2, .ref 35), (3, .ref 36)], [], (HP e0 e1 e2 e3 e4 e5 e6 e7 e8 e9 e10 e11 e12 e13 e14 e15 e16 e17 e18 e19 e20 e21 e22 e23 e24 e25 e26 e27 e28 e29 e30 e31 e32 e33 e34 (.inl (0, 9, .inl (dL [nI (2 + (c % 3)), 0, 1, 0, 0, 0, 0, 7, 0]))) (.inl (0, 12, .inl (fun j => nI ((nuF (fun _ => 0) (fun _ => 0)) j))))), kc, kn) rfl ?_
  refine J.gp ok_La_law 3 (79, [(0, .ref 1000), (1, .ref 0), (2, .ref 35), (3, .ref 36)], [.int 0, .ref 35, .ref 0], _, _, _) rfl ?_
  refine J.ialdB ok_La_law 80 0 rfl rfl (rfl) (by omega) (by decide) ?_
  refine J.gp ok_La_law 0 (80, [(0, .ref 1000), (1, .ref 0), (2, .ref 35), (3, .ref 36)], [.int (nI (2 + (c % 3))), .ref 0], (HP e0 e1 e2 e3 e4 e5 e6 e7 e8 e9 e10 e11 e12 e13 e14 e15 e16 e17 e18 e19 e20 e21 e22 e23 e24 e25 e26 e27 e28 e29 e30 e31 e32 e33 e34 (.inl (0, 9, .inl (dL [nI (2 + (c % 3)), 0, 1, 0, 0, 0, 0, 7, 0]))) (.inl (0, 12, .inl (fun j => nI ((nuF (fun _ => 0) (fun _ => 0)) j))))), kc, kn) rfl ?_
  exact K1

set_option maxRecDepth 100000 in
set_option maxHeartbeats 400000 in
theorem g_lw_7 {sc : aScr} {hh : aH}  {kc kn : Nat} {O : Option Value → aH → Prop}  (K1 : JR M_La_law sc (92, [(0, .ref 1000), (1, .ref 0), (2, .ref 35), (3, .ref 36), (4, .int 0)], [], hh, kc, kn) O) : JR M_La_law sc (83, [(0, .ref 1000), (1, .ref 0), (2, .ref 35), (3, .ref 36)], [.int 3], hh, kc, kn) O := by
  refine J.gp ok_La_law 1 (84, [(0, .ref 1000), (1, .ref 0), (2, .ref 35), (3, .ref 36)], [.int 3, .int 3], _, _, _) rfl ?_
  refine J.icT ok_La_law (fun x y => x = y) 89 87 rfl (by decide) ?_
  refine J.gp ok_La_law 2 (92, [(0, .ref 1000), (1, .ref 0), (2, .ref 35), (3, .ref 36), (4, .int 0)], [], _, _, _) rfl ?_
  exact K1

set_option maxRecDepth 100000 in
set_option maxHeartbeats 400000 in
theorem g_lw_8 {sc : aScr} {hh : aH} {k : Nat} {kc kn : Nat} {O : Option Value → aH → Prop} (hk : k < 8) (K1 : JR M_La_law sc (107, [(0, .ref 1000), (1, .ref 0), (2, .ref 35), (3, .ref 36), (4, .int (nI k))], [.int (nI (1 + (2 * k))), .ref 1000, .ref 0], hh, kc, kn) O) : JR M_La_law sc (92, [(0, .ref 1000), (1, .ref 0), (2, .ref 35), (3, .ref 36), (4, .int (nI k))], [], hh, kc, kn) O := by
  refine J.gp ok_La_law 2 (96, [(0, .ref 1000), (1, .ref 0), (2, .ref 35), (3, .ref 36), (4, .int (nI k))], [.int 8, .int (nI k)], _, _, _) rfl ?_
  refine J.icF ok_La_law (fun x y => y ≤ x) 136 99 rfl (fun h9 => absurd ((nI_leI (a := 8) (b := k) (by omega) (by omega)).mp h9) (by omega)) ?_
  refine J.gp ok_La_law 6 (106, [(0, .ref 1000), (1, .ref 0), (2, .ref 35), (3, .ref 36), (4, .int (nI k))], [.int (2 * nI k), .int 1, .ref 1000, .ref 0], _, _, _) rfl ?_
  rw [show ((2 * nI k) : Int32) = nI (2 * k) from pk_mul 2 k]
  refine J.gp ok_La_law 1 (107, [(0, .ref 1000), (1, .ref 0), (2, .ref 35), (3, .ref 36), (4, .int (nI k))], [.int (1 + nI (2 * k)), .ref 1000, .ref 0], _, _, _) rfl ?_
  rw [show ((1 + nI (2 * k)) : Int32) = nI (1 + (2 * k)) from nI_add 1 (2 * k)]
  exact K1

set_option maxRecDepth 100000 in
set_option maxHeartbeats 400000 in
theorem g_lw_9 {sc : aScr} {hh : aH} {k c1 : Nat} {kc kn : Nat} {O : Option Value → aH → Prop}  (K1 : JR M_La_law sc (117, [(0, .ref 1000), (1, .ref 0), (2, .ref 35), (3, .ref 36), (4, .int (nI k))], [.int (nI (2 + (2 * k))), .ref 1000, .int (nI c1), .ref 0], hh, kc, kn) O) : JR M_La_law sc (110, [(0, .ref 1000), (1, .ref 0), (2, .ref 35), (3, .ref 36), (4, .int (nI k))], [.int (nI c1), .ref 0], hh, kc, kn) O := by
  refine J.gp ok_La_law 5 (116, [(0, .ref 1000), (1, .ref 0), (2, .ref 35), (3, .ref 36), (4, .int (nI k))], [.int (2 * nI k), .int 2, .ref 1000, .int (nI c1), .ref 0], _, _, _) rfl ?_
  rw [show ((2 * nI k) : Int32) = nI (2 * k) from pk_mul 2 k]
  refine J.gp ok_La_law 1 (117, [(0, .ref 1000), (1, .ref 0), (2, .ref 35), (3, .ref 36), (4, .int (nI k))], [.int (2 + nI (2 * k)), .ref 1000, .int (nI c1), .ref 0], _, _, _) rfl ?_
  rw [show ((2 + nI (2 * k)) : Int32) = nI (2 + (2 * k)) from nI_add 2 (2 * k)]
  exact K1

set_option maxRecDepth 100000 in
set_option maxHeartbeats 400000 in
theorem g_lw_10 {sc : aScr} {hh : aH} {k c1 c2 : Nat} {kc kn : Nat} {O : Option Value → aH → Prop}  (K1 : JR M_La_law sc (122, [(0, .ref 1000), (1, .ref 0), (2, .ref 35), (3, .ref 36), (4, .int (nI k))], [.ref 36, .ref 35, .int (nI c2), .int (nI c1), .ref 0], hh, kc, kn) O) : JR M_La_law sc (120, [(0, .ref 1000), (1, .ref 0), (2, .ref 35), (3, .ref 36), (4, .int (nI k))], [.int (nI c2), .int (nI c1), .ref 0], hh, kc, kn) O := by
  refine J.gp ok_La_law 2 (122, [(0, .ref 1000), (1, .ref 0), (2, .ref 35), (3, .ref 36), (4, .int (nI k))], [.ref 36, .ref 35, .int (nI c2), .int (nI c1), .ref 0], _, _, _) rfl ?_
  exact K1

set_option maxRecDepth 100000 in
set_option maxHeartbeats 400000 in
theorem g_lw_11 {sc : aScr} {hh : aH} {k : Nat} {kc kn : Nat} {O : Option Value → aH → Prop}  (K1 : JR M_La_law sc (92, [(0, .ref 1000), (1, .ref 0), (2, .ref 35), (3, .ref 36), (4, .int (nI (k + 1)))], [], hh, kc, kn) O) : JR M_La_law sc (125, [(0, .ref 1000), (1, .ref 0), (2, .ref 35), (3, .ref 36), (4, .int (nI k))], [.int 1], hh, kc, kn) O := by
  refine J.ifT ok_La_law (fun x => ¬ x = 0) 130 128 rfl (by decide) ?_
  refine J.gp ok_La_law 1 (133, [(0, .ref 1000), (1, .ref 0), (2, .ref 35), (3, .ref 36), (4, .int (nI k + 1))], [], _, _, _) rfl ?_
  rw [show ((nI k + 1) : Int32) = nI (k + 1) from nI_add k 1]
  refine J.gp ok_La_law 1 (92, [(0, .ref 1000), (1, .ref 0), (2, .ref 35), (3, .ref 36), (4, .int (nI (k + 1)))], [], _, _, _) rfl ?_
  exact K1

set_option maxRecDepth 100000 in
set_option maxHeartbeats 400000 in
theorem g_lw_12 {sc : aScr} {hh : aH}  {kc kn : Nat} {O : Option Value → aH → Prop}  (K1 : JR M_La_law sc (139, [(0, .ref 1000), (1, .ref 0), (2, .ref 35), (3, .ref 36), (4, .int 0)], [], hh, kc, kn) O) : JR M_La_law sc (92, [(0, .ref 1000), (1, .ref 0), (2, .ref 35), (3, .ref 36), (4, .int 8)], [], hh, kc, kn) O := by
  refine J.gp ok_La_law 2 (96, [(0, .ref 1000), (1, .ref 0), (2, .ref 35), (3, .ref 36), (4, .int 8)], [.int 8, .int 8], _, _, _) rfl ?_
  refine J.icT ok_La_law (fun x y => y ≤ x) 136 99 rfl (by decide) ?_
  refine J.gp ok_La_law 2 (139, [(0, .ref 1000), (1, .ref 0), (2, .ref 35), (3, .ref 36), (4, .int 0)], [], _, _, _) rfl ?_
  exact K1

set_option maxRecDepth 100000 in
set_option maxHeartbeats 400000 in
theorem g_lw_13 {sc : aScr} {hh : aH} {k : Nat} {kc kn : Nat} {O : Option Value → aH → Prop} (hk : k < 20) (K1 : JR M_La_law sc (155, [(0, .ref 1000), (1, .ref 0), (2, .ref 35), (3, .ref 36), (4, .int (nI k))], [.int (nI (20 + (2 * k))), .ref 1000, .ref 0], hh, kc, kn) O) : JR M_La_law sc (139, [(0, .ref 1000), (1, .ref 0), (2, .ref 35), (3, .ref 36), (4, .int (nI k))], [], hh, kc, kn) O := by
  refine J.gp ok_La_law 2 (143, [(0, .ref 1000), (1, .ref 0), (2, .ref 35), (3, .ref 36), (4, .int (nI k))], [.int 20, .int (nI k)], _, _, _) rfl ?_
  refine J.icF ok_La_law (fun x y => y ≤ x) 212 146 rfl (fun h9 => absurd ((nI_leI (a := 20) (b := k) (by omega) (by omega)).mp h9) (by omega)) ?_
  refine J.gp ok_La_law 6 (154, [(0, .ref 1000), (1, .ref 0), (2, .ref 35), (3, .ref 36), (4, .int (nI k))], [.int (2 * nI k), .int 20, .ref 1000, .ref 0], _, _, _) rfl ?_
  rw [show ((2 * nI k) : Int32) = nI (2 * k) from pk_mul 2 k]
  refine J.gp ok_La_law 1 (155, [(0, .ref 1000), (1, .ref 0), (2, .ref 35), (3, .ref 36), (4, .int (nI k))], [.int (20 + nI (2 * k)), .ref 1000, .ref 0], _, _, _) rfl ?_
  rw [show ((20 + nI (2 * k)) : Int32) = nI (20 + (2 * k)) from nI_add 20 (2 * k)]
  exact K1

set_option maxRecDepth 100000 in
set_option maxHeartbeats 400000 in
theorem g_lw_14 {sc : aScr} {hh : aH} {k c1 : Nat} {kc kn : Nat} {O : Option Value → aH → Prop}  (K1 : JR M_La_law sc (166, [(0, .ref 1000), (1, .ref 0), (2, .ref 35), (3, .ref 36), (4, .int (nI k))], [.int (nI (21 + (2 * k))), .ref 1000, .int (nI c1), .ref 0], hh, kc, kn) O) : JR M_La_law sc (158, [(0, .ref 1000), (1, .ref 0), (2, .ref 35), (3, .ref 36), (4, .int (nI k))], [.int (nI c1), .ref 0], hh, kc, kn) O := by
  refine J.gp ok_La_law 5 (165, [(0, .ref 1000), (1, .ref 0), (2, .ref 35), (3, .ref 36), (4, .int (nI k))], [.int (2 * nI k), .int 21, .ref 1000, .int (nI c1), .ref 0], _, _, _) rfl ?_
  rw [show ((2 * nI k) : Int32) = nI (2 * k) from pk_mul 2 k]
  refine J.gp ok_La_law 1 (166, [(0, .ref 1000), (1, .ref 0), (2, .ref 35), (3, .ref 36), (4, .int (nI k))], [.int (21 + nI (2 * k)), .ref 1000, .int (nI c1), .ref 0], _, _, _) rfl ?_
  rw [show ((21 + nI (2 * k)) : Int32) = nI (21 + (2 * k)) from nI_add 21 (2 * k)]
  exact K1

set_option maxRecDepth 100000 in
set_option maxHeartbeats 400000 in
theorem g_lw_15 {sc : aScr} {hh : aH} {k c1 c2 : Nat} {kc kn : Nat} {O : Option Value → aH → Prop}  (K1 : JR M_La_law sc (171, [(0, .ref 1000), (1, .ref 0), (2, .ref 35), (3, .ref 36), (4, .int (nI k))], [.ref 36, .ref 35, .int (nI c2), .int (nI c1), .ref 0], hh, kc, kn) O) : JR M_La_law sc (169, [(0, .ref 1000), (1, .ref 0), (2, .ref 35), (3, .ref 36), (4, .int (nI k))], [.int (nI c2), .int (nI c1), .ref 0], hh, kc, kn) O := by
  refine J.gp ok_La_law 2 (171, [(0, .ref 1000), (1, .ref 0), (2, .ref 35), (3, .ref 36), (4, .int (nI k))], [.ref 36, .ref 35, .int (nI c2), .int (nI c1), .ref 0], _, _, _) rfl ?_
  exact K1

set_option maxRecDepth 100000 in
set_option maxHeartbeats 400000 in
theorem g_lw_16 {sc : aScr} {hh : aH} {k : Nat} {kc kn : Nat} {O : Option Value → aH → Prop}  (K1 : JR M_La_law sc (180, [(0, .ref 1000), (1, .ref 0), (2, .ref 35), (3, .ref 36), (4, .int (nI k))], [.ref 36, .ref 35, .ref 0], hh, kc, kn) O) : JR M_La_law sc (174, [(0, .ref 1000), (1, .ref 0), (2, .ref 35), (3, .ref 36), (4, .int (nI k))], [.int 1], hh, kc, kn) O := by
  refine J.ifF ok_La_law (fun x => x = 0) 204 177 rfl (by decide) ?_
  refine J.gp ok_La_law 3 (180, [(0, .ref 1000), (1, .ref 0), (2, .ref 35), (3, .ref 36), (4, .int (nI k))], [.ref 36, .ref 35, .ref 0], _, _, _) rfl ?_
  exact K1

set_option maxRecDepth 100000 in
set_option maxHeartbeats 400000 in
theorem g_lw_17 {sc : aScr} {hh : aH} {k : Nat} {kc kn : Nat} {O : Option Value → aH → Prop}  (K1 : JR M_La_law sc (193, [(0, .ref 1000), (1, .ref 0), (2, .ref 35), (3, .ref 36), (4, .int (nI k))], [.int (nI (61 + k)), .ref 1000, .ref 0], hh, kc, kn) O) : JR M_La_law sc (183, [(0, .ref 1000), (1, .ref 0), (2, .ref 35), (3, .ref 36), (4, .int (nI k))], [.int 1], hh, kc, kn) O := by
  refine J.ifF ok_La_law (fun x => x = 0) 204 186 rfl (by decide) ?_
  refine J.gp ok_La_law 5 (193, [(0, .ref 1000), (1, .ref 0), (2, .ref 35), (3, .ref 36), (4, .int (nI k))], [.int (61 + nI k), .ref 1000, .ref 0], _, _, _) rfl ?_
  rw [show ((61 + nI k) : Int32) = nI (61 + k) from nI_add 61 k]
  exact K1

set_option maxRecDepth 100000 in
set_option maxHeartbeats 400000 in
theorem g_lw_18 {sc : aScr} {hh : aH} {k c1 : Nat} {kc kn : Nat} {O : Option Value → aH → Prop}  (K1 : JR M_La_law sc (198, [(0, .ref 1000), (1, .ref 0), (2, .ref 35), (3, .ref 36), (4, .int (nI k))], [.ref 36, .ref 35, .int (nI c1), .ref 0], hh, kc, kn) O) : JR M_La_law sc (196, [(0, .ref 1000), (1, .ref 0), (2, .ref 35), (3, .ref 36), (4, .int (nI k))], [.int (nI c1), .ref 0], hh, kc, kn) O := by
  refine J.gp ok_La_law 2 (198, [(0, .ref 1000), (1, .ref 0), (2, .ref 35), (3, .ref 36), (4, .int (nI k))], [.ref 36, .ref 35, .int (nI c1), .ref 0], _, _, _) rfl ?_
  exact K1

set_option maxRecDepth 100000 in
set_option maxHeartbeats 400000 in
theorem g_lw_19 {sc : aScr} {hh : aH} {k : Nat} {kc kn : Nat} {O : Option Value → aH → Prop}  (K1 : JR M_La_law sc (139, [(0, .ref 1000), (1, .ref 0), (2, .ref 35), (3, .ref 36), (4, .int (nI (k + 1)))], [], hh, kc, kn) O) : JR M_La_law sc (201, [(0, .ref 1000), (1, .ref 0), (2, .ref 35), (3, .ref 36), (4, .int (nI k))], [.int 1], hh, kc, kn) O := by
  refine J.ifT ok_La_law (fun x => ¬ x = 0) 206 204 rfl (by decide) ?_
  refine J.gp ok_La_law 1 (209, [(0, .ref 1000), (1, .ref 0), (2, .ref 35), (3, .ref 36), (4, .int (nI k + 1))], [], _, _, _) rfl ?_
  rw [show ((nI k + 1) : Int32) = nI (k + 1) from nI_add k 1]
  refine J.gp ok_La_law 1 (139, [(0, .ref 1000), (1, .ref 0), (2, .ref 35), (3, .ref 36), (4, .int (nI (k + 1)))], [], _, _, _) rfl ?_
  exact K1

set_option maxRecDepth 100000 in
set_option maxHeartbeats 400000 in
theorem g_lw_20 {sc : aScr} {hh : aH}  {kc kn : Nat} {O : Option Value → aH → Prop}  (K1 : JR M_La_law sc (215, [], [.ref 36, .ref 35, .ref 0], hh, kc, kn) O) : JR M_La_law sc (139, [(0, .ref 1000), (1, .ref 0), (2, .ref 35), (3, .ref 36), (4, .int 20)], [], hh, kc, kn) O := by
  refine J.gp ok_La_law 2 (143, [(0, .ref 1000), (1, .ref 0), (2, .ref 35), (3, .ref 36), (4, .int 20)], [.int 20, .int 20], _, _, _) rfl ?_
  refine J.icT ok_La_law (fun x y => y ≤ x) 212 146 rfl (by decide) ?_
  refine J.gp ok_La_law 3 (215, [(0, .ref 1000), (1, .ref 0), (2, .ref 35), (3, .ref 36), (4, .int 20)], [.ref 36, .ref 35, .ref 0], _, _, _) rfl ?_
  refine J.lv [] [] rfl ?_
  exact K1

set_option maxRecDepth 100000 in
set_option maxHeartbeats 400000 in
theorem g_lw_21 {sc : aScr} {hh : aH}  {kc kn : Nat} {O : Option Value → aH → Prop}  (K1 : O (some (.int 1)) hh) : JR M_La_law sc (218, [], [.int 1], hh, kc, kn) O := by
  refine JR.iret .boolean (by decide +kernel) rfl (by decide) ?_
  exact K1

theorem told_LH (hd : DF) {k : Nat} {q : aH} (h : LH k q) (hk : k ≤ 1000) : JE M_La_told [.ref 0, .ref 35, .ref 36] q (some (.int 1)) q := by
  obtain ⟨m, g, w, P, p, i, s, t, gn, B, F, T, e9, e10, e11, e12, e13, e15, e17, e18, e20, e22, e24, e26, e28, e30, e31, e32, e33, e34, ⟨hm, hg, hw, hP, hp, hi, hs, ht, hBF, hT⟩, hl, rfl⟩ := h
  exact c_La_told hd hm (isPr_bd hP).2 (by omega)
theorem table_LH {k x y : Nat} {q : aH} (h : LH k q) (hx : x < 2 ^ 31) (hy : y < 2 ^ 31) : JM M_La_table [.ref 0, .int (nI x), .int (nI y), .ref 35, .ref 36] q 0 0 (fun v q' => v = some (.int 1) ∧ LH k q') := by
  obtain ⟨m, g, w, P, p, i, s, t, gn, B, F, T, e9, e10, e11, e12, e13, e15, e17, e18, e20, e22, e24, e26, e28, e30, e31, e32, e33, e34, ⟨hm, hg, hw, hP, hp, hi, hs, ht, hBF, hT⟩, hl, rfl⟩ := h
  refine JM.mono (c_La_table hm hg hw hBF hx hy) (fun v q hv => ?_)
  obtain ⟨rfl, a, b, f, hbf, rfl⟩ := hv
  exact ⟨rfl, LH.mk ⟨hm, hg, hw, hP, hp, hi, hs, ht, up_sum hBF hbf, hT⟩ hl⟩
theorem LH_start : LH 0 (HP (.inr (9, [.ref 1, .ref 6, .int 1, .ref 7, .int 0, .ref 9, .ref 10, .ref 13, .ref 18, .ref 32, .ref 33])) (.inr (8, [.ref 2, .ref 4, .int 3, .int 7, .int 0])) (.inr (4, [.ref 3])) (.inl (1, 12, .inr (.inl (fun _ => 0)))) (.inr (4, [.ref 5])) (.inl (1, 12, .inr (.inl (fun _ => 0)))) (.inr (7, [.int 0, .int 0, .int 0, .int 0, .int 0])) (.inr (4, [.ref 8])) (.inl (1, 60, .inr (.inl (fun _ => 0)))) (.inr (2, [.int 0, .int 0, .int 0, .int 0, .int 0, .int 0, .int 0, .int 0, .int 0])) (.inr (0, [.ref 11, .ref 12, .int 0, .int 0, .int 0])) (.inr (7, [.int 0, .int 0, .int 0, .int 0, .int 0])) (.inr (7, [.int 0, .int 0, .int 0, .int 0, .int 0])) (.inr (6, [.ref 14, .ref 16, .int 0, .int 0, .int 0, .int 0, .long 0, .long 0])) (.inr (4, [.ref 15])) (.inl (1, 132, .inr (.inl (fun _ => 0)))) (.inr (4, [.ref 17])) (.inl (1, 132, .inr (.inl (fun _ => 0)))) (.inr (3, [.ref 19, .ref 21, .ref 23, .ref 25, .ref 27, .ref 29, .ref 31, .int 0, .int 0, .long 0, .long 0, .int 0])) (.inr (4, [.ref 20])) (.inl (1, 16, .inr (.inl (fun _ => 0)))) (.inr (4, [.ref 22])) (.inl (1, 4, .inr (.inl (fun _ => 0)))) (.inr (4, [.ref 24])) (.inl (1, 4, .inr (.inl (fun _ => 0)))) (.inr (4, [.ref 26])) (.inl (1, 4, .inr (.inl (fun _ => 0)))) (.inr (4, [.ref 28])) (.inl (1, 9, .inr (.inl (fun _ => 0)))) (.inr (4, [.ref 30])) (.inl (1, 16, .inr (.inl (fun _ => 0)))) (.inr (1, [.long 0, .long 0])) (.inr (1, [.long 0, .long 0])) (.inr (5, [.ref 34, .int (-1)])) (.inr (1, [.long 0, .long 0])) (.inl (0, 9, .inl (dL [nI 3, 0, 1, 0, 0, 0, 0, 7, 0]))) (.inl (0, 12, .inl (fun j => nI ((nuF (fun _ => 0) (fun _ => 0)) j))))) :=
  ⟨3, 7, 0, 1, 0, 0, 0, 0, 0, fun _ => 0, fun _ => 0, fun _ => 0, (.inr (2, [.int 0, .int 0, .int 0, .int 0, .int 0, .int 0, .int 0, .int 0, .int 0])), (.inr (0, [.ref 11, .ref 12, .int 0, .int 0, .int 0])), (.inr (7, [.int 0, .int 0, .int 0, .int 0, .int 0])), (.inr (7, [.int 0, .int 0, .int 0, .int 0, .int 0])), (.inr (6, [.ref 14, .ref 16, .int 0, .int 0, .int 0, .int 0, .long 0, .long 0])), (.inl (1, 132, .inr (.inl (fun _ => 0)))), (.inl (1, 132, .inr (.inl (fun _ => 0)))), (.inr (3, [.ref 19, .ref 21, .ref 23, .ref 25, .ref 27, .ref 29, .ref 31, .int 0, .int 0, .long 0, .long 0, .int 0])), (.inl (1, 16, .inr (.inl (fun _ => 0)))), (.inl (1, 4, .inr (.inl (fun _ => 0)))), (.inl (1, 4, .inr (.inl (fun _ => 0)))), (.inl (1, 4, .inr (.inl (fun _ => 0)))), (.inl (1, 9, .inr (.inl (fun _ => 0)))), (.inl (1, 16, .inr (.inl (fun _ => 0)))), (.inr (1, [.long 0, .long 0])), (.inr (1, [.long 0, .long 0])), (.inr (5, [.ref 34, .int (-1)])), (.inr (1, [.long 0, .long 0])),
    ⟨by decide, by decide, by decide, by decide, by decide, by decide, by decide, by decide, fun _ => (by decide : 0 + 0 ≤ 10), fun _ => (by decide : 0 < 128)⟩,
    ⟨⟨0, (0, 0, 0, 0, 0, 0, 0, 0), rfl⟩, ⟨_, _, _, rfl⟩, ⟨_, _, _, _, _, rfl⟩, ⟨_, _, _, _, _, rfl⟩, ⟨_, _, _, _, _, _, rfl⟩, ⟨_, rfl⟩, ⟨_, rfl⟩, ⟨_, _, _, _, _, rfl⟩, ⟨_, rfl⟩, ⟨_, rfl⟩, ⟨_, rfl⟩, ⟨_, rfl⟩, ⟨_, rfl⟩, ⟨_, rfl⟩, ⟨_, _, rfl⟩, ⟨_, _, rfl⟩, ⟨_, rfl⟩, ⟨_, _, rfl⟩⟩, rfl⟩

def sqF : Nat → Nat
  | 0 => 0
  | k + 1 => tkS (sqF k)
def sqC : Nat → Nat → Bool
  | 0, s => decide (s = 0)
  | n + 1, s => decide (s ≠ 0) && sqC n (tkS s)
theorem sqC_ok : sqC 999 (tkS 0) = true := by decide +kernel
theorem sqC_at (n : Nat) : ∀ k, sqC n (sqF k) = true → (∀ j, j < n → sqF (k + j) ≠ 0) ∧ sqF (k + n) = 0 := by
  induction n with
  | zero =>
    intro k h
    exact ⟨fun j hj => absurd hj (Nat.not_lt_zero _), of_decide_eq_true h⟩
  | succ n ih =>
    intro k h
    obtain ⟨h1, h2⟩ := Bool.and_eq_true_iff.mp h
    obtain ⟨g1, g2⟩ := ih (k + 1) h2
    refine ⟨fun j hj => ?_, ?_⟩
    · cases j with
      | zero => exact of_decide_eq_true h1
      | succ j =>
        have := g1 j (by omega)
        rw [show k + 1 + j = k + (j + 1) from by omega] at this
        exact this
    · rw [show k + (n + 1) = k + 1 + n from by omega]
      exact g2
theorem sq_inv : ∀ a, a < 1000 → (461 * (tkS a + 813)) % 1000 = a := by decide +kernel
theorem sqF_lt (k : Nat) : sqF k < 1000 := by
  cases k with
  | zero => decide
  | succ k => exact tkS_lt _
theorem sqF_back (i d : Nat) (h : sqF i = sqF (i + d)) : sqF d = 0 := by
  induction i with
  | zero =>
    rw [Nat.zero_add] at h
    exact h.symm
  | succ i ih =>
    apply ih
    have h1 : tkS (sqF i) = tkS (sqF (i + d)) := by
      rw [show i + 1 + d = i + d + 1 from by omega] at h
      exact h
    have h2 := sq_inv _ (sqF_lt i)
    have h3 := sq_inv _ (sqF_lt (i + d))
    rw [h1] at h2
    exact h2.symm.trans h3
theorem sqF_comes : Comes sqF 0 1000 := by
  obtain ⟨h1, h2⟩ := sqC_at 999 1 sqC_ok
  refine ⟨by decide, h2.symm, fun i j hij hj e => ?_⟩
  obtain ⟨d, rfl⟩ := Nat.exists_eq_add_of_lt hij
  have := sqF_back i (d + 1) e
  have g := h1 d (by omega)
  rw [Nat.add_comm 1 d] at g
  exact g this
theorem wk_fresh (k : Nat) : wkN 3 7 0 (fun _ => 0) (fun _ => 0) 1 (0, 0, 0, 0) k = (0, 0, sqF k, 0) := by
  induction k with
  | zero => rfl
  | succ k ih =>
    show wkS 3 7 0 (fun _ => 0) (fun _ => 0) 1 (wkN 3 7 0 (fun _ => 0) (fun _ => 0) 1 (0, 0, 0, 0) k) = _
    rw [ih]
    have h := tkS_lt (sqF k)
    have h1 : tkP 3 7 0 (fun _ => 0) (fun _ => 0) 1 0 0 (sqF k) = 0 := by
      unfold tkP tB tF
      rw [if_neg (by split <;> first | omega | (dsimp only; omega)), if_neg (by split <;> first | omega | (dsimp only; omega))]
    have h2 : tkD 7 0 (fun _ => 0) (fun _ => 0) 1 0 0 (sqF k) = 0 := by
      unfold tkD tB tF
      rw [if_neg (by split <;> first | omega | (dsimp only; omega)), if_neg (by split <;> first | omega | (dsimp only; omega))]
    unfold wkS
    dsimp only
    rw [h1, h2]
    rfl

theorem fresh_comes : Comes (fun k => 4000 * (wkN 3 7 0 (fun _ => 0) (fun _ => 0) 1 (0, 0, 0, 0) k).1 + 1000 * (wkN 3 7 0 (fun _ => 0) (fun _ => 0) 1 (0, 0, 0, 0) k).2.1 + (wkN 3 7 0 (fun _ => 0) (fun _ => 0) 1 (0, 0, 0, 0) k).2.2.1) 0 1000 := by
  have e : (fun k => 4000 * (wkN 3 7 0 (fun _ => 0) (fun _ => 0) 1 (0, 0, 0, 0) k).1 + 1000 * (wkN 3 7 0 (fun _ => 0) (fun _ => 0) 1 (0, 0, 0, 0) k).2.1 + (wkN 3 7 0 (fun _ => 0) (fun _ => 0) 1 (0, 0, 0, 0) k).2.2.1) = sqF := by
    funext k
    rw [wk_fresh]
    dsimp only
    omega
  rw [e]
  exact sqF_comes

theorem lw_cy0 {e9 e13 e15 e17 e18 e20 e22 e24 e26 e28 e30 e31 e32 e33 e34 : va_E} {m p P i s t g w : Nat} {gn : Int32} {B F : Nat → Nat} {Tb : Nat → Nat} {a1 a2 a3 b1 b2 b3 b4 b5 d1 d2 d3 d4 d5 : Int32} {t0 T kc kn : Nat} {sc : aScr} {O : Option Value → aH → Prop} {lv : List (Nat × Value)} (hm : 0 < m ∧ m ≤ 4) (hg : g < 8) (hw : w < 16) (hBF : ∀ j, B j + F j ≤ 10) (hP : isPr P = true) (hp : p < m) (hi : i < plen P) (hs : s < 1000) (ht : t ≤ 100000) (hc : Comes (fun k => 4000 * (wkN m g w B F P (p, i, s, gn) k).1 + 1000 * (wkN m g w B F P (p, i, s, gn) k).2.1 + (wkN m g w B F P (p, i, s, gn) k).2.2.1) t0 T) (hT : T ≤ 16000) (K : ∀ (a1 a2 a3 b1 b2 b3 b4 b5 d1 d2 d3 d4 d5 : Int32), JR M_La_law sc (38, lv, [.int (nI t0)], (HP (.inr (9, [.ref 1, .ref 6, .int (nI P), .ref 7, .int (nI 0), .ref 9, .ref 10, .ref 13, .ref 18, .ref 32, .ref 33])) (.inr (8, [.ref 2, .ref 4, .int (nI m), .int (nI g), .int (nI w)])) (.inr (4, [.ref 3])) (.inl (1, 12, .inr (.inl (fun j => lN (B j))))) (.inr (4, [.ref 5])) (.inl (1, 12, .inr (.inl (fun j => lN (F j))))) (.inr (7, [.int (nI p), .int (nI i), .int (nI s), .int gn, .int (nI t)])) (.inr (4, [.ref 8])) (.inl (1, 60, .inr (.inl (fun j => lN (Tb j))))) e9 (.inr (0, [.ref 11, .ref 12, .int a1, .int a2, .int a3])) (.inr (7, [.int b1, .int b2, .int b3, .int b4, .int b5])) (.inr (7, [.int d1, .int d2, .int d3, .int d4, .int d5])) e13 (.inr (4, [.ref 15])) e15 (.inr (4, [.ref 17])) e17 e18 (.inr (4, [.ref 20])) e20 (.inr (4, [.ref 22])) e22 (.inr (4, [.ref 24])) e24 (.inr (4, [.ref 26])) e26 (.inr (4, [.ref 28])) e28 (.inr (4, [.ref 30])) e30 e31 e32 e33 e34 (.inl (0, 9, .inl (dL [nI m, nI p, nI P, nI i, nI s, gn, nI t, nI g, nI w]))) (.inl (0, 12, .inl (fun j => nI ((nuF B F) j))))), kc, kn) O) : JR M_La_law sc (35, lv, [.int 0, .ref 0], (HP (.inr (9, [.ref 1, .ref 6, .int (nI P), .ref 7, .int (nI 0), .ref 9, .ref 10, .ref 13, .ref 18, .ref 32, .ref 33])) (.inr (8, [.ref 2, .ref 4, .int (nI m), .int (nI g), .int (nI w)])) (.inr (4, [.ref 3])) (.inl (1, 12, .inr (.inl (fun j => lN (B j))))) (.inr (4, [.ref 5])) (.inl (1, 12, .inr (.inl (fun j => lN (F j))))) (.inr (7, [.int (nI p), .int (nI i), .int (nI s), .int gn, .int (nI t)])) (.inr (4, [.ref 8])) (.inl (1, 60, .inr (.inl (fun j => lN (Tb j))))) e9 (.inr (0, [.ref 11, .ref 12, .int a1, .int a2, .int a3])) (.inr (7, [.int b1, .int b2, .int b3, .int b4, .int b5])) (.inr (7, [.int d1, .int d2, .int d3, .int d4, .int d5])) e13 (.inr (4, [.ref 15])) e15 (.inr (4, [.ref 17])) e17 e18 (.inr (4, [.ref 20])) e20 (.inr (4, [.ref 22])) e22 (.inr (4, [.ref 24])) e24 (.inr (4, [.ref 26])) e26 (.inr (4, [.ref 28])) e28 (.inr (4, [.ref 30])) e30 e31 e32 e33 e34 (.inl (0, 9, .inl (dL [nI m, nI p, nI P, nI i, nI s, gn, nI t, nI g, nI w]))) (.inl (0, 12, .inl (fun j => nI ((nuF B F) j))))), kc, kn) O := by
  have hkk := wkN_ok (m := m) (g := g) (w := w) (B := B) (F := F) (P := P) (x := (p, i, s, gn)) hm.1 hp hi hs
  refine J.callVO (rest := []) s_La_law_35 38 0 [.int 0] 9 (c_F_cycle_0 (X := fun k => ((wkN m g w B F P (p, i, s, gn) k)).1) (Y := fun k => ((wkN m g w B F P (p, i, s, gn) k)).2.1) (S := fun k => ((wkN m g w B F P (p, i, s, gn) k)).2.2.1) (G := fun k => ((wkN m g w B F P (p, i, s, gn) k)).2.2.2) hm hg hw hP (plen_le P) (fun j => by have := hBF j; omega) (fun j => by have := hBF j; omega) (by omega) (fun _ => rfl) (fun _ => rfl) (fun _ => rfl) (fun _ => rfl) (fun k => (hkk k).1) (fun k => (hkk k).2.1) (fun k => (hkk k).2.2) hc hT) rfl rfl rfl rfl rfl (Nat.le_of_ble_eq_true rfl) (by rintro v q ⟨rfl, x0, x1, x2, x3, x4, y0, y1, y2, y3, y4, rfl⟩; rfl) (fun v q h => ?_)
  obtain ⟨rfl, x0, x1, x2, x3, x4, y0, y1, y2, y3, y4, rfl⟩ := h
  exact K _ _ _ _ _ _ _ _ _ _ _ _ _

theorem lw_cy1 {e9 e13 e15 e17 e18 e20 e22 e24 e26 e28 e30 e31 e32 e33 e34 : va_E} {m p P i s t g w : Nat} {gn : Int32} {B F : Nat → Nat} {Tb : Nat → Nat} {a1 a2 a3 b1 b2 b3 b4 b5 d1 d2 d3 d4 d5 : Int32} {t0 T kc kn : Nat} {sc : aScr} {O : Option Value → aH → Prop} {lv : List (Nat × Value)} (hm : 0 < m ∧ m ≤ 4) (hg : g < 8) (hw : w < 16) (hBF : ∀ j, B j + F j ≤ 10) (hP : isPr P = true) (hp : p < m) (hi : i < plen P) (hs : s < 1000) (ht : t ≤ 100000) (hc : Comes (fun k => 4000 * (wkN m g w B F P (p, i, s, gn) k).1 + 1000 * (wkN m g w B F P (p, i, s, gn) k).2.1 + (wkN m g w B F P (p, i, s, gn) k).2.2.1) t0 T) (hT : T ≤ 16000) (K : ∀ (a1 a2 a3 b1 b2 b3 b4 b5 d1 d2 d3 d4 d5 : Int32), JR M_La_law sc (46, lv, [.int (nI (T - t0))], (HP (.inr (9, [.ref 1, .ref 6, .int (nI P), .ref 7, .int (nI 0), .ref 9, .ref 10, .ref 13, .ref 18, .ref 32, .ref 33])) (.inr (8, [.ref 2, .ref 4, .int (nI m), .int (nI g), .int (nI w)])) (.inr (4, [.ref 3])) (.inl (1, 12, .inr (.inl (fun j => lN (B j))))) (.inr (4, [.ref 5])) (.inl (1, 12, .inr (.inl (fun j => lN (F j))))) (.inr (7, [.int (nI p), .int (nI i), .int (nI s), .int gn, .int (nI t)])) (.inr (4, [.ref 8])) (.inl (1, 60, .inr (.inl (fun j => lN (Tb j))))) e9 (.inr (0, [.ref 11, .ref 12, .int a1, .int a2, .int a3])) (.inr (7, [.int b1, .int b2, .int b3, .int b4, .int b5])) (.inr (7, [.int d1, .int d2, .int d3, .int d4, .int d5])) e13 (.inr (4, [.ref 15])) e15 (.inr (4, [.ref 17])) e17 e18 (.inr (4, [.ref 20])) e20 (.inr (4, [.ref 22])) e22 (.inr (4, [.ref 24])) e24 (.inr (4, [.ref 26])) e26 (.inr (4, [.ref 28])) e28 (.inr (4, [.ref 30])) e30 e31 e32 e33 e34 (.inl (0, 9, .inl (dL [nI m, nI p, nI P, nI i, nI s, gn, nI t, nI g, nI w]))) (.inl (0, 12, .inl (fun j => nI ((nuF B F) j))))), kc, kn) O) : JR M_La_law sc (43, lv, [.int 1, .ref 0], (HP (.inr (9, [.ref 1, .ref 6, .int (nI P), .ref 7, .int (nI 0), .ref 9, .ref 10, .ref 13, .ref 18, .ref 32, .ref 33])) (.inr (8, [.ref 2, .ref 4, .int (nI m), .int (nI g), .int (nI w)])) (.inr (4, [.ref 3])) (.inl (1, 12, .inr (.inl (fun j => lN (B j))))) (.inr (4, [.ref 5])) (.inl (1, 12, .inr (.inl (fun j => lN (F j))))) (.inr (7, [.int (nI p), .int (nI i), .int (nI s), .int gn, .int (nI t)])) (.inr (4, [.ref 8])) (.inl (1, 60, .inr (.inl (fun j => lN (Tb j))))) e9 (.inr (0, [.ref 11, .ref 12, .int a1, .int a2, .int a3])) (.inr (7, [.int b1, .int b2, .int b3, .int b4, .int b5])) (.inr (7, [.int d1, .int d2, .int d3, .int d4, .int d5])) e13 (.inr (4, [.ref 15])) e15 (.inr (4, [.ref 17])) e17 e18 (.inr (4, [.ref 20])) e20 (.inr (4, [.ref 22])) e22 (.inr (4, [.ref 24])) e24 (.inr (4, [.ref 26])) e26 (.inr (4, [.ref 28])) e28 (.inr (4, [.ref 30])) e30 e31 e32 e33 e34 (.inl (0, 9, .inl (dL [nI m, nI p, nI P, nI i, nI s, gn, nI t, nI g, nI w]))) (.inl (0, 12, .inl (fun j => nI ((nuF B F) j))))), kc, kn) O := by
  have hkk := wkN_ok (m := m) (g := g) (w := w) (B := B) (F := F) (P := P) (x := (p, i, s, gn)) hm.1 hp hi hs
  refine J.callVO (rest := []) s_La_law_43 46 0 [.int 1] 9 (c_F_cycle_1 (X := fun k => ((wkN m g w B F P (p, i, s, gn) k)).1) (Y := fun k => ((wkN m g w B F P (p, i, s, gn) k)).2.1) (S := fun k => ((wkN m g w B F P (p, i, s, gn) k)).2.2.1) (G := fun k => ((wkN m g w B F P (p, i, s, gn) k)).2.2.2) hm hg hw hP (plen_le P) (fun j => by have := hBF j; omega) (fun j => by have := hBF j; omega) (by omega) (fun _ => rfl) (fun _ => rfl) (fun _ => rfl) (fun _ => rfl) (fun k => (hkk k).1) (fun k => (hkk k).2.1) (fun k => (hkk k).2.2) hc hT) rfl rfl rfl rfl rfl (Nat.le_of_ble_eq_true rfl) (by rintro v q ⟨rfl, x0, x1, x2, x3, x4, y0, y1, y2, y3, y4, rfl⟩; rfl) (fun v q h => ?_)
  obtain ⟨rfl, x0, x1, x2, x3, x4, y0, y1, y2, y3, y4, rfl⟩ := h
  exact K _ _ _ _ _ _ _ _ _ _ _ _ _

theorem lw_cy2 {e9 e13 e15 e17 e18 e20 e22 e24 e26 e28 e30 e31 e32 e33 e34 : va_E} {m p P i s t g w : Nat} {gn : Int32} {B F : Nat → Nat} {Tb : Nat → Nat} {a1 a2 a3 b1 b2 b3 b4 b5 d1 d2 d3 d4 d5 : Int32} {t0 T kc kn : Nat} {sc : aScr} {O : Option Value → aH → Prop} {lv : List (Nat × Value)} (hm : 0 < m ∧ m ≤ 4) (hg : g < 8) (hw : w < 16) (hBF : ∀ j, B j + F j ≤ 10) (hP : isPr P = true) (hp : p < m) (hi : i < plen P) (hs : s < 1000) (ht : t ≤ 100000) (hc : Comes (fun k => 4000 * (wkN m g w B F P (p, i, s, gn) k).1 + 1000 * (wkN m g w B F P (p, i, s, gn) k).2.1 + (wkN m g w B F P (p, i, s, gn) k).2.2.1) t0 T) (hT : T ≤ 16000) (K : ∀ (a1 a2 a3 b1 b2 b3 b4 b5 d1 d2 d3 d4 d5 : Int32), JR M_La_law sc (57, lv, [.int ((wkN m g w B F P (p, i, s, gn) T).2.2.2 - (wkN m g w B F P (p, i, s, gn) t0).2.2.2)], (HP (.inr (9, [.ref 1, .ref 6, .int (nI P), .ref 7, .int (nI 0), .ref 9, .ref 10, .ref 13, .ref 18, .ref 32, .ref 33])) (.inr (8, [.ref 2, .ref 4, .int (nI m), .int (nI g), .int (nI w)])) (.inr (4, [.ref 3])) (.inl (1, 12, .inr (.inl (fun j => lN (B j))))) (.inr (4, [.ref 5])) (.inl (1, 12, .inr (.inl (fun j => lN (F j))))) (.inr (7, [.int (nI p), .int (nI i), .int (nI s), .int gn, .int (nI t)])) (.inr (4, [.ref 8])) (.inl (1, 60, .inr (.inl (fun j => lN (Tb j))))) e9 (.inr (0, [.ref 11, .ref 12, .int a1, .int a2, .int a3])) (.inr (7, [.int b1, .int b2, .int b3, .int b4, .int b5])) (.inr (7, [.int d1, .int d2, .int d3, .int d4, .int d5])) e13 (.inr (4, [.ref 15])) e15 (.inr (4, [.ref 17])) e17 e18 (.inr (4, [.ref 20])) e20 (.inr (4, [.ref 22])) e22 (.inr (4, [.ref 24])) e24 (.inr (4, [.ref 26])) e26 (.inr (4, [.ref 28])) e28 (.inr (4, [.ref 30])) e30 e31 e32 e33 e34 (.inl (0, 9, .inl (dL [nI m, nI p, nI P, nI i, nI s, gn, nI t, nI g, nI w]))) (.inl (0, 12, .inl (fun j => nI ((nuF B F) j))))), kc, kn) O) : JR M_La_law sc (54, lv, [.int 2, .ref 0], (HP (.inr (9, [.ref 1, .ref 6, .int (nI P), .ref 7, .int (nI 0), .ref 9, .ref 10, .ref 13, .ref 18, .ref 32, .ref 33])) (.inr (8, [.ref 2, .ref 4, .int (nI m), .int (nI g), .int (nI w)])) (.inr (4, [.ref 3])) (.inl (1, 12, .inr (.inl (fun j => lN (B j))))) (.inr (4, [.ref 5])) (.inl (1, 12, .inr (.inl (fun j => lN (F j))))) (.inr (7, [.int (nI p), .int (nI i), .int (nI s), .int gn, .int (nI t)])) (.inr (4, [.ref 8])) (.inl (1, 60, .inr (.inl (fun j => lN (Tb j))))) e9 (.inr (0, [.ref 11, .ref 12, .int a1, .int a2, .int a3])) (.inr (7, [.int b1, .int b2, .int b3, .int b4, .int b5])) (.inr (7, [.int d1, .int d2, .int d3, .int d4, .int d5])) e13 (.inr (4, [.ref 15])) e15 (.inr (4, [.ref 17])) e17 e18 (.inr (4, [.ref 20])) e20 (.inr (4, [.ref 22])) e22 (.inr (4, [.ref 24])) e24 (.inr (4, [.ref 26])) e26 (.inr (4, [.ref 28])) e28 (.inr (4, [.ref 30])) e30 e31 e32 e33 e34 (.inl (0, 9, .inl (dL [nI m, nI p, nI P, nI i, nI s, gn, nI t, nI g, nI w]))) (.inl (0, 12, .inl (fun j => nI ((nuF B F) j))))), kc, kn) O := by
  have hkk := wkN_ok (m := m) (g := g) (w := w) (B := B) (F := F) (P := P) (x := (p, i, s, gn)) hm.1 hp hi hs
  refine J.callVO (rest := []) s_La_law_54 57 0 [.int 2] 9 (c_F_cycle_2 (X := fun k => ((wkN m g w B F P (p, i, s, gn) k)).1) (Y := fun k => ((wkN m g w B F P (p, i, s, gn) k)).2.1) (S := fun k => ((wkN m g w B F P (p, i, s, gn) k)).2.2.1) (G := fun k => ((wkN m g w B F P (p, i, s, gn) k)).2.2.2) hm hg hw hP (plen_le P) (fun j => by have := hBF j; omega) (fun j => by have := hBF j; omega) (by omega) (fun _ => rfl) (fun _ => rfl) (fun _ => rfl) (fun _ => rfl) (fun k => (hkk k).1) (fun k => (hkk k).2.1) (fun k => (hkk k).2.2) hc hT) rfl rfl rfl rfl rfl (Nat.le_of_ble_eq_true rfl) (by rintro v q ⟨rfl, x0, x1, x2, x3, x4, y0, y1, y2, y3, y4, rfl⟩; rfl) (fun v q h => ?_)
  obtain ⟨rfl, x0, x1, x2, x3, x4, y0, y1, y2, y3, y4, rfl⟩ := h
  exact K _ _ _ _ _ _ _ _ _ _ _ _ _
