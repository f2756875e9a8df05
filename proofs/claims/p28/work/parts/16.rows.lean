/-! ROWS and the WHEEL -/
theorem JR.hqs {M : aM} {sc : aScr} {pc : Nat} {lv : List (Nat × Value)} {st : List Value} {hp : aH} {k n : Nat} {O : Option Value → aH → Prop} (c : Nat) (e e' : va_E) (hc : hg hp c = some e) (he : eqE e e') (kk : JR M sc (pc, lv, st, hp.set c e', k, n) O) : JR M sc (pc, lv, st, hp, k, n) O := by
  refine J.hq (hp.set c e') (by rw [List.length_set]) (fun i e1 e2 h1 h2 => ?_) kk
  rw [hg_eq] at hc
  rw [List.getElem?_set] at h2
  split at h2
  · rename_i hci
    subst hci
    split at h2
    · cases h2
      cases hc.symm.trans h1
      exact he
    · cases h2
  · cases h1.symm.trans h2
    exact Or.inl rfl
theorem eqL {c n : Nat} {f f' : Nat → Int64} (h : ∀ j, j < n → f j = f' j) : eqE (.inl (c, n, .inr (.inl f))) (.inl (c, n, .inr (.inl f'))) := Or.inr (Or.inl ⟨c, n, f, f', rfl, rfl, h⟩)
theorem eqI {c n : Nat} {f f' : Nat → Int32} (h : ∀ j, j < n → f j = f' j) : eqE (.inl (c, n, .inl f)) (.inl (c, n, .inl f')) := Or.inr (Or.inr ⟨c, n, f, f', rfl, rfl, h⟩)
/-- the first i cells are g's -/
def cpf (f g : Nat → Int64) (i : Nat) : Nat → Int64 := fun j => if j < i then g j else f j
theorem cpf_up (f g : Nat → Int64) (i : Nat) : vp_updL (cpf f g i) i (g i) = cpf f g (i + 1) := by
  funext j
  unfold vp_updL cpf
  by_cases h : j = i
  · subst h
    rw [if_pos rfl, if_pos (by omega)]
  · rw [if_neg h]
    by_cases h2 : j < i
    · rw [if_pos h2, if_pos (by omega)]
    · rw [if_neg h2, if_neg (by omega)]
theorem cpf_0 (f g : Nat → Int64) : cpf f g 0 = f := by
  funext j
  exact if_neg (Nat.not_lt_zero j)

set_option maxRecDepth 100000 in
set_option maxHeartbeats 4000000 in
theorem g_Rw_get_2 {sc : aScr} {e0 e1 e4 e5 e6 e7 e8 e9 e10 e11 e12 e13 e14 e15 e16 e17 e18 e19 e20 e21 e22 e23 e24 e25 e26 e27 e28 e29 e30 e31 e32 e33 e34 e35 e36 : va_E} {f : Nat → Int64} {j : Nat} {kc kn : Nat} {O : Option Value → aH → Prop} (hj : j < 12) (K1 : O (some (.long (f j))) (HP e0 e1 (.inr (4, [.ref 3])) (.inl (1, 12, .inr (.inl f))) e4 e5 e6 e7 e8 e9 e10 e11 e12 e13 e14 e15 e16 e17 e18 e19 e20 e21 e22 e23 e24 e25 e26 e27 e28 e29 e30 e31 e32 e33 e34 e35 e36)) : JR M_Rw_get sc (0, [(0, .ref 2), (1, .int (nI j))], [], (HP e0 e1 (.inr (4, [.ref 3])) (.inl (1, 12, .inr (.inl f))) e4 e5 e6 e7 e8 e9 e10 e11 e12 e13 e14 e15 e16 e17 e18 e19 e20 e21 e22 e23 e24 e25 e26 e27 e28 e29 e30 e31 e32 e33 e34 e35 e36), kc, kn) O := by
  refine J.gp ok_Rw_get 1 (1, [(0, .ref 2), (1, .int (nI j))], [.int (nI j)], _, _, _) rfl ?_
  refine J.ifF ok_Rw_get (fun x => x < 0) 22 4 rfl (nI_pos (by omega)) ?_
  refine J.gp ok_Rw_get 4 (10, [(0, .ref 2), (1, .int (nI j))], [.int 12, .int (nI j)], _, _, _) rfl ?_
  refine J.icF ok_Rw_get (fun x y => y ≤ x) 22 13 rfl (fun h9 => absurd ((nI_leI (a := 12) (b := j) (by omega) (by omega)).mp h9) (by omega)) ?_
  refine J.gp ok_Rw_get 3 (18, [(0, .ref 2), (1, .int (nI j))], [.int (nI j), .ref 3], _, _, _) rfl ?_
  refine J.laldB ok_Rw_get 19 j rfl rfl (rfl) (by omega) (by decide) ?_
  refine J.gp ok_Rw_get 1 (23, [(0, .ref 2), (1, .int (nI j))], [.long (f j)], _, _, _) rfl ?_
  refine JR.lret (by decide +kernel) rfl ?_
  exact K1

theorem c_Rw_get_2 {e0 e1 e4 e5 e6 e7 e8 e9 e10 e11 e12 e13 e14 e15 e16 e17 e18 e19 e20 e21 e22 e23 e24 e25 e26 e27 e28 e29 e30 e31 e32 e33 e34 e35 e36 : va_E} {f : Nat → Int64} {j : Nat} (hj : j < 12) : JE M_Rw_get [.ref 2, .int (nI j)] (HP e0 e1 (.inr (4, [.ref 3])) (.inl (1, 12, .inr (.inl f))) e4 e5 e6 e7 e8 e9 e10 e11 e12 e13 e14 e15 e16 e17 e18 e19 e20 e21 e22 e23 e24 e25 e26 e27 e28 e29 e30 e31 e32 e33 e34 e35 e36) (some (.long (f j))) (HP e0 e1 (.inr (4, [.ref 3])) (.inl (1, 12, .inr (.inl f))) e4 e5 e6 e7 e8 e9 e10 e11 e12 e13 e14 e15 e16 e17 e18 e19 e20 e21 e22 e23 e24 e25 e26 e27 e28 e29 e30 e31 e32 e33 e34 e35 e36) := JM.of (by decide +kernel) rfl (Nat.le_of_ble_eq_true rfl) (g_Rw_get_2 hj ⟨rfl, rfl⟩)

set_option maxRecDepth 100000 in
set_option maxHeartbeats 4000000 in
theorem g_Rw_set_2 {sc : aScr} {e0 e1 e4 e5 e6 e7 e8 e9 e10 e11 e12 e13 e14 e15 e16 e17 e18 e19 e20 e21 e22 e23 e24 e25 e26 e27 e28 e29 e30 e31 e32 e33 e34 e35 e36 : va_E} {f : Nat → Int64} {j : Nat} {x : Int64} {kc kn : Nat} {O : Option Value → aH → Prop} (hj : j < 12) (K1 : O none (HP e0 e1 (.inr (4, [.ref 3])) (.inl (1, 12, .inr (.inl (vp_updL f j x)))) e4 e5 e6 e7 e8 e9 e10 e11 e12 e13 e14 e15 e16 e17 e18 e19 e20 e21 e22 e23 e24 e25 e26 e27 e28 e29 e30 e31 e32 e33 e34 e35 e36)) : JR M_Rw_set sc (0, [(0, .ref 2), (1, .int (nI j)), (2, .long x)], [], (HP e0 e1 (.inr (4, [.ref 3])) (.inl (1, 12, .inr (.inl f))) e4 e5 e6 e7 e8 e9 e10 e11 e12 e13 e14 e15 e16 e17 e18 e19 e20 e21 e22 e23 e24 e25 e26 e27 e28 e29 e30 e31 e32 e33 e34 e35 e36), kc, kn) O := by
  refine J.gp ok_Rw_set 1 (1, [(0, .ref 2), (1, .int (nI j)), (2, .long x)], [.int (nI j)], _, _, _) rfl ?_
  refine J.ifF ok_Rw_set (fun x => x < 0) 20 4 rfl (nI_pos (by omega)) ?_
  refine J.gp ok_Rw_set 4 (10, [(0, .ref 2), (1, .int (nI j)), (2, .long x)], [.int 12, .int (nI j)], _, _, _) rfl ?_
  refine J.icF ok_Rw_set (fun x y => y ≤ x) 20 13 rfl (fun h9 => absurd ((nI_leI (a := 12) (b := j) (by omega) (by omega)).mp h9) (by omega)) ?_
  refine J.gp ok_Rw_set 4 (19, [(0, .ref 2), (1, .int (nI j)), (2, .long x)], [.long x, .int (nI j), .ref 3], _, _, _) rfl ?_
  refine J.lastB ok_Rw_set 20 j rfl rfl (rfl) (by omega) (by decide) ?_
  refine J.gp ok_Rw_set 0 (20, [(0, .ref 2), (1, .int (nI j)), (2, .long x)], [], (HP e0 e1 (.inr (4, [.ref 3])) (.inl (1, 12, .inr (.inl (vp_updL f j x)))) e4 e5 e6 e7 e8 e9 e10 e11 e12 e13 e14 e15 e16 e17 e18 e19 e20 e21 e22 e23 e24 e25 e26 e27 e28 e29 e30 e31 e32 e33 e34 e35 e36), kc, kn) rfl ?_
  refine JR.vret (by decide +kernel) rfl ?_
  exact K1

theorem c_Rw_set_2 {e0 e1 e4 e5 e6 e7 e8 e9 e10 e11 e12 e13 e14 e15 e16 e17 e18 e19 e20 e21 e22 e23 e24 e25 e26 e27 e28 e29 e30 e31 e32 e33 e34 e35 e36 : va_E} {f : Nat → Int64} {j : Nat} {x : Int64} (hj : j < 12) : JE M_Rw_set [.ref 2, .int (nI j), .long x] (HP e0 e1 (.inr (4, [.ref 3])) (.inl (1, 12, .inr (.inl f))) e4 e5 e6 e7 e8 e9 e10 e11 e12 e13 e14 e15 e16 e17 e18 e19 e20 e21 e22 e23 e24 e25 e26 e27 e28 e29 e30 e31 e32 e33 e34 e35 e36) none (HP e0 e1 (.inr (4, [.ref 3])) (.inl (1, 12, .inr (.inl (vp_updL f j x)))) e4 e5 e6 e7 e8 e9 e10 e11 e12 e13 e14 e15 e16 e17 e18 e19 e20 e21 e22 e23 e24 e25 e26 e27 e28 e29 e30 e31 e32 e33 e34 e35 e36) := JM.of (by decide +kernel) rfl (Nat.le_of_ble_eq_true rfl) (g_Rw_set_2 hj ⟨rfl, rfl⟩)

set_option maxRecDepth 100000 in
set_option maxHeartbeats 4000000 in
theorem g_Rw_clear_2 {sc : aScr} {e0 e1 e4 e5 e6 e7 e8 e9 e10 e11 e12 e13 e14 e15 e16 e17 e18 e19 e20 e21 e22 e23 e24 e25 e26 e27 e28 e29 e30 e31 e32 e33 e34 e35 e36 : va_E} {f : Nat → Int64} {i : Nat} {kc kn : Nat} {O : Option Value → aH → Prop} (hi : i ≤ 12) (K1 : (12 ≤ i) → O none (HP e0 e1 (.inr (4, [.ref 3])) (.inl (1, 12, .inr (.inl f))) e4 e5 e6 e7 e8 e9 e10 e11 e12 e13 e14 e15 e16 e17 e18 e19 e20 e21 e22 e23 e24 e25 e26 e27 e28 e29 e30 e31 e32 e33 e34 e35 e36)) (K2 : (i < 12) → JR M_Rw_clear sc (2, [(0, .ref 2), (1, .int (nI (i + 1)))], [], (HP e0 e1 (.inr (4, [.ref 3])) (.inl (1, 12, .inr (.inl (vp_updL f i 0)))) e4 e5 e6 e7 e8 e9 e10 e11 e12 e13 e14 e15 e16 e17 e18 e19 e20 e21 e22 e23 e24 e25 e26 e27 e28 e29 e30 e31 e32 e33 e34 e35 e36), kc, kn) O) : JR M_Rw_clear sc (2, [(0, .ref 2), (1, .int (nI i))], [], (HP e0 e1 (.inr (4, [.ref 3])) (.inl (1, 12, .inr (.inl f))) e4 e5 e6 e7 e8 e9 e10 e11 e12 e13 e14 e15 e16 e17 e18 e19 e20 e21 e22 e23 e24 e25 e26 e27 e28 e29 e30 e31 e32 e33 e34 e35 e36), kc, kn) O := by
  refine J.gp ok_Rw_clear 4 (8, [(0, .ref 2), (1, .int (nI i))], [.int 12, .int (nI i)], _, _, _) rfl ?_
  refine J.icB ok_Rw_clear (fun x y => y ≤ x) 24 11 rfl (fun (h0 : 12 ≤ nI i) => ?_) (fun (h0 : ¬ (12 ≤ nI i)) => ?_)
  · have c8 : 12 ≤ i := (nI_leI (a := 12) (b := i) (by omega) (by omega)).mp h0
    refine JR.vret (by decide +kernel) rfl ?_
    exact K1 c8
  · have c8 : i < 12 := Nat.not_le.mp (fun h9 => h0 ((nI_leI (a := 12) (b := i) (by omega) (by omega)).mpr h9))
    refine J.gp ok_Rw_clear 4 (17, [(0, .ref 2), (1, .int (nI i))], [.long 0, .int (nI i), .ref 3], _, _, _) rfl ?_
    refine J.lastB ok_Rw_clear 18 i rfl rfl (rfl) (by omega) (by decide) ?_
    refine J.gp ok_Rw_clear 0 (18, [(0, .ref 2), (1, .int (nI i))], [], (HP e0 e1 (.inr (4, [.ref 3])) (.inl (1, 12, .inr (.inl (vp_updL f i 0)))) e4 e5 e6 e7 e8 e9 e10 e11 e12 e13 e14 e15 e16 e17 e18 e19 e20 e21 e22 e23 e24 e25 e26 e27 e28 e29 e30 e31 e32 e33 e34 e35 e36), kc, kn) rfl ?_
    refine J.gp ok_Rw_clear 1 (21, [(0, .ref 2), (1, .int (nI i + 1))], [], _, _, _) rfl ?_
    rw [show ((nI i + 1) : Int32) = nI (i + 1) from nI_add i 1]
    refine J.gp ok_Rw_clear 1 (2, [(0, .ref 2), (1, .int (nI (i + 1)))], [], _, _, _) rfl ?_
    exact K2 c8

theorem c_Rw_clear_2 {e0 e1 e4 e5 e6 e7 e8 e9 e10 e11 e12 e13 e14 e15 e16 e17 e18 e19 e20 e21 e22 e23 e24 e25 e26 e27 e28 e29 e30 e31 e32 e33 e34 e35 e36 : va_E} {f : Nat → Int64} : JE M_Rw_clear [.ref 2] (HP e0 e1 (.inr (4, [.ref 3])) (.inl (1, 12, .inr (.inl f))) e4 e5 e6 e7 e8 e9 e10 e11 e12 e13 e14 e15 e16 e17 e18 e19 e20 e21 e22 e23 e24 e25 e26 e27 e28 e29 e30 e31 e32 e33 e34 e35 e36) none (HP e0 e1 (.inr (4, [.ref 3])) (.inl (1, 12, .inr (.inl (fun _ => 0)))) e4 e5 e6 e7 e8 e9 e10 e11 e12 e13 e14 e15 e16 e17 e18 e19 e20 e21 e22 e23 e24 e25 e26 e27 e28 e29 e30 e31 e32 e33 e34 e35 e36) := by
  refine JM.of (by decide +kernel) rfl (Nat.le_of_ble_eq_true rfl) ?_
  refine J.gp ok_Rw_clear 2 (2, [(0, .ref 2), (1, .int (nI 0))], [], (HP e0 e1 (.inr (4, [.ref 3])) (.inl (1, 12, .inr (.inl f))) e4 e5 e6 e7 e8 e9 e10 e11 e12 e13 e14 e15 e16 e17 e18 e19 e20 e21 e22 e23 e24 e25 e26 e27 e28 e29 e30 e31 e32 e33 e34 e35 e36), 0, 0) rfl ?_
  have K := loopN (P := fun i => JR M_Rw_clear none (2, [(0, .ref 2), (1, .int (nI i))], [], (HP e0 e1 (.inr (4, [.ref 3])) (.inl (1, 12, .inr (.inl (cpf f (fun _ => 0) i)))) e4 e5 e6 e7 e8 e9 e10 e11 e12 e13 e14 e15 e16 e17 e18 e19 e20 e21 e22 e23 e24 e25 e26 e27 e28 e29 e30 e31 e32 e33 e34 e35 e36), 0, 0) (OE none (HP e0 e1 (.inr (4, [.ref 3])) (.inl (1, 12, .inr (.inl (fun _ => 0)))) e4 e5 e6 e7 e8 e9 e10 e11 e12 e13 e14 e15 e16 e17 e18 e19 e20 e21 e22 e23 e24 e25 e26 e27 e28 e29 e30 e31 e32 e33 e34 e35 e36))) (b := 12) ?_ (fun i hi ih => ?_) 0 (Nat.zero_le _)
  · rw [cpf_0] at K
    exact K
  · refine JR.hqs 3 _ (.inl (1, 12, .inr (.inl (fun _ => 0)))) rfl (eqL (fun j hj => if_pos hj)) ?_
    exact g_Rw_clear_2 (i := 12) (f := fun _ => 0) (Nat.le_refl _) (fun _ => ⟨rfl, rfl⟩) (fun c => absurd c (by omega))
  · exact g_Rw_clear_2 (i := i) (f := cpf f (fun _ => 0) i) (by omega) (fun c => absurd c (by omega)) (fun _ => by rw [cpf_up f (fun _ => 0) i]; exact ih)

set_option maxRecDepth 100000 in
set_option maxHeartbeats 4000000 in
theorem g_Rw_get_4 {sc : aScr} {e0 e1 e2 e3 e6 e7 e8 e9 e10 e11 e12 e13 e14 e15 e16 e17 e18 e19 e20 e21 e22 e23 e24 e25 e26 e27 e28 e29 e30 e31 e32 e33 e34 e35 e36 : va_E} {f : Nat → Int64} {j : Nat} {kc kn : Nat} {O : Option Value → aH → Prop} (hj : j < 12) (K1 : O (some (.long (f j))) (HP e0 e1 e2 e3 (.inr (4, [.ref 5])) (.inl (1, 12, .inr (.inl f))) e6 e7 e8 e9 e10 e11 e12 e13 e14 e15 e16 e17 e18 e19 e20 e21 e22 e23 e24 e25 e26 e27 e28 e29 e30 e31 e32 e33 e34 e35 e36)) : JR M_Rw_get sc (0, [(0, .ref 4), (1, .int (nI j))], [], (HP e0 e1 e2 e3 (.inr (4, [.ref 5])) (.inl (1, 12, .inr (.inl f))) e6 e7 e8 e9 e10 e11 e12 e13 e14 e15 e16 e17 e18 e19 e20 e21 e22 e23 e24 e25 e26 e27 e28 e29 e30 e31 e32 e33 e34 e35 e36), kc, kn) O := by
  refine J.gp ok_Rw_get 1 (1, [(0, .ref 4), (1, .int (nI j))], [.int (nI j)], _, _, _) rfl ?_
  refine J.ifF ok_Rw_get (fun x => x < 0) 22 4 rfl (nI_pos (by omega)) ?_
  refine J.gp ok_Rw_get 4 (10, [(0, .ref 4), (1, .int (nI j))], [.int 12, .int (nI j)], _, _, _) rfl ?_
  refine J.icF ok_Rw_get (fun x y => y ≤ x) 22 13 rfl (fun h9 => absurd ((nI_leI (a := 12) (b := j) (by omega) (by omega)).mp h9) (by omega)) ?_
  refine J.gp ok_Rw_get 3 (18, [(0, .ref 4), (1, .int (nI j))], [.int (nI j), .ref 5], _, _, _) rfl ?_
  refine J.laldB ok_Rw_get 19 j rfl rfl (rfl) (by omega) (by decide) ?_
  refine J.gp ok_Rw_get 1 (23, [(0, .ref 4), (1, .int (nI j))], [.long (f j)], _, _, _) rfl ?_
  refine JR.lret (by decide +kernel) rfl ?_
  exact K1

theorem c_Rw_get_4 {e0 e1 e2 e3 e6 e7 e8 e9 e10 e11 e12 e13 e14 e15 e16 e17 e18 e19 e20 e21 e22 e23 e24 e25 e26 e27 e28 e29 e30 e31 e32 e33 e34 e35 e36 : va_E} {f : Nat → Int64} {j : Nat} (hj : j < 12) : JE M_Rw_get [.ref 4, .int (nI j)] (HP e0 e1 e2 e3 (.inr (4, [.ref 5])) (.inl (1, 12, .inr (.inl f))) e6 e7 e8 e9 e10 e11 e12 e13 e14 e15 e16 e17 e18 e19 e20 e21 e22 e23 e24 e25 e26 e27 e28 e29 e30 e31 e32 e33 e34 e35 e36) (some (.long (f j))) (HP e0 e1 e2 e3 (.inr (4, [.ref 5])) (.inl (1, 12, .inr (.inl f))) e6 e7 e8 e9 e10 e11 e12 e13 e14 e15 e16 e17 e18 e19 e20 e21 e22 e23 e24 e25 e26 e27 e28 e29 e30 e31 e32 e33 e34 e35 e36) := JM.of (by decide +kernel) rfl (Nat.le_of_ble_eq_true rfl) (g_Rw_get_4 hj ⟨rfl, rfl⟩)

set_option maxRecDepth 100000 in
set_option maxHeartbeats 4000000 in
theorem g_Rw_set_4 {sc : aScr} {e0 e1 e2 e3 e6 e7 e8 e9 e10 e11 e12 e13 e14 e15 e16 e17 e18 e19 e20 e21 e22 e23 e24 e25 e26 e27 e28 e29 e30 e31 e32 e33 e34 e35 e36 : va_E} {f : Nat → Int64} {j : Nat} {x : Int64} {kc kn : Nat} {O : Option Value → aH → Prop} (hj : j < 12) (K1 : O none (HP e0 e1 e2 e3 (.inr (4, [.ref 5])) (.inl (1, 12, .inr (.inl (vp_updL f j x)))) e6 e7 e8 e9 e10 e11 e12 e13 e14 e15 e16 e17 e18 e19 e20 e21 e22 e23 e24 e25 e26 e27 e28 e29 e30 e31 e32 e33 e34 e35 e36)) : JR M_Rw_set sc (0, [(0, .ref 4), (1, .int (nI j)), (2, .long x)], [], (HP e0 e1 e2 e3 (.inr (4, [.ref 5])) (.inl (1, 12, .inr (.inl f))) e6 e7 e8 e9 e10 e11 e12 e13 e14 e15 e16 e17 e18 e19 e20 e21 e22 e23 e24 e25 e26 e27 e28 e29 e30 e31 e32 e33 e34 e35 e36), kc, kn) O := by
  refine J.gp ok_Rw_set 1 (1, [(0, .ref 4), (1, .int (nI j)), (2, .long x)], [.int (nI j)], _, _, _) rfl ?_
  refine J.ifF ok_Rw_set (fun x => x < 0) 20 4 rfl (nI_pos (by omega)) ?_
  refine J.gp ok_Rw_set 4 (10, [(0, .ref 4), (1, .int (nI j)), (2, .long x)], [.int 12, .int (nI j)], _, _, _) rfl ?_
  refine J.icF ok_Rw_set (fun x y => y ≤ x) 20 13 rfl (fun h9 => absurd ((nI_leI (a := 12) (b := j) (by omega) (by omega)).mp h9) (by omega)) ?_
  refine J.gp ok_Rw_set 4 (19, [(0, .ref 4), (1, .int (nI j)), (2, .long x)], [.long x, .int (nI j), .ref 5], _, _, _) rfl ?_
  refine J.lastB ok_Rw_set 20 j rfl rfl (rfl) (by omega) (by decide) ?_
  refine J.gp ok_Rw_set 0 (20, [(0, .ref 4), (1, .int (nI j)), (2, .long x)], [], (HP e0 e1 e2 e3 (.inr (4, [.ref 5])) (.inl (1, 12, .inr (.inl (vp_updL f j x)))) e6 e7 e8 e9 e10 e11 e12 e13 e14 e15 e16 e17 e18 e19 e20 e21 e22 e23 e24 e25 e26 e27 e28 e29 e30 e31 e32 e33 e34 e35 e36), kc, kn) rfl ?_
  refine JR.vret (by decide +kernel) rfl ?_
  exact K1

theorem c_Rw_set_4 {e0 e1 e2 e3 e6 e7 e8 e9 e10 e11 e12 e13 e14 e15 e16 e17 e18 e19 e20 e21 e22 e23 e24 e25 e26 e27 e28 e29 e30 e31 e32 e33 e34 e35 e36 : va_E} {f : Nat → Int64} {j : Nat} {x : Int64} (hj : j < 12) : JE M_Rw_set [.ref 4, .int (nI j), .long x] (HP e0 e1 e2 e3 (.inr (4, [.ref 5])) (.inl (1, 12, .inr (.inl f))) e6 e7 e8 e9 e10 e11 e12 e13 e14 e15 e16 e17 e18 e19 e20 e21 e22 e23 e24 e25 e26 e27 e28 e29 e30 e31 e32 e33 e34 e35 e36) none (HP e0 e1 e2 e3 (.inr (4, [.ref 5])) (.inl (1, 12, .inr (.inl (vp_updL f j x)))) e6 e7 e8 e9 e10 e11 e12 e13 e14 e15 e16 e17 e18 e19 e20 e21 e22 e23 e24 e25 e26 e27 e28 e29 e30 e31 e32 e33 e34 e35 e36) := JM.of (by decide +kernel) rfl (Nat.le_of_ble_eq_true rfl) (g_Rw_set_4 hj ⟨rfl, rfl⟩)

set_option maxRecDepth 100000 in
set_option maxHeartbeats 4000000 in
theorem g_Rw_clear_4 {sc : aScr} {e0 e1 e2 e3 e6 e7 e8 e9 e10 e11 e12 e13 e14 e15 e16 e17 e18 e19 e20 e21 e22 e23 e24 e25 e26 e27 e28 e29 e30 e31 e32 e33 e34 e35 e36 : va_E} {f : Nat → Int64} {i : Nat} {kc kn : Nat} {O : Option Value → aH → Prop} (hi : i ≤ 12) (K1 : (12 ≤ i) → O none (HP e0 e1 e2 e3 (.inr (4, [.ref 5])) (.inl (1, 12, .inr (.inl f))) e6 e7 e8 e9 e10 e11 e12 e13 e14 e15 e16 e17 e18 e19 e20 e21 e22 e23 e24 e25 e26 e27 e28 e29 e30 e31 e32 e33 e34 e35 e36)) (K2 : (i < 12) → JR M_Rw_clear sc (2, [(0, .ref 4), (1, .int (nI (i + 1)))], [], (HP e0 e1 e2 e3 (.inr (4, [.ref 5])) (.inl (1, 12, .inr (.inl (vp_updL f i 0)))) e6 e7 e8 e9 e10 e11 e12 e13 e14 e15 e16 e17 e18 e19 e20 e21 e22 e23 e24 e25 e26 e27 e28 e29 e30 e31 e32 e33 e34 e35 e36), kc, kn) O) : JR M_Rw_clear sc (2, [(0, .ref 4), (1, .int (nI i))], [], (HP e0 e1 e2 e3 (.inr (4, [.ref 5])) (.inl (1, 12, .inr (.inl f))) e6 e7 e8 e9 e10 e11 e12 e13 e14 e15 e16 e17 e18 e19 e20 e21 e22 e23 e24 e25 e26 e27 e28 e29 e30 e31 e32 e33 e34 e35 e36), kc, kn) O := by
  refine J.gp ok_Rw_clear 4 (8, [(0, .ref 4), (1, .int (nI i))], [.int 12, .int (nI i)], _, _, _) rfl ?_
  refine J.icB ok_Rw_clear (fun x y => y ≤ x) 24 11 rfl (fun (h0 : 12 ≤ nI i) => ?_) (fun (h0 : ¬ (12 ≤ nI i)) => ?_)
  · have c8 : 12 ≤ i := (nI_leI (a := 12) (b := i) (by omega) (by omega)).mp h0
    refine JR.vret (by decide +kernel) rfl ?_
    exact K1 c8
  · have c8 : i < 12 := Nat.not_le.mp (fun h9 => h0 ((nI_leI (a := 12) (b := i) (by omega) (by omega)).mpr h9))
    refine J.gp ok_Rw_clear 4 (17, [(0, .ref 4), (1, .int (nI i))], [.long 0, .int (nI i), .ref 5], _, _, _) rfl ?_
    refine J.lastB ok_Rw_clear 18 i rfl rfl (rfl) (by omega) (by decide) ?_
    refine J.gp ok_Rw_clear 0 (18, [(0, .ref 4), (1, .int (nI i))], [], (HP e0 e1 e2 e3 (.inr (4, [.ref 5])) (.inl (1, 12, .inr (.inl (vp_updL f i 0)))) e6 e7 e8 e9 e10 e11 e12 e13 e14 e15 e16 e17 e18 e19 e20 e21 e22 e23 e24 e25 e26 e27 e28 e29 e30 e31 e32 e33 e34 e35 e36), kc, kn) rfl ?_
    refine J.gp ok_Rw_clear 1 (21, [(0, .ref 4), (1, .int (nI i + 1))], [], _, _, _) rfl ?_
    rw [show ((nI i + 1) : Int32) = nI (i + 1) from nI_add i 1]
    refine J.gp ok_Rw_clear 1 (2, [(0, .ref 4), (1, .int (nI (i + 1)))], [], _, _, _) rfl ?_
    exact K2 c8

theorem c_Rw_clear_4 {e0 e1 e2 e3 e6 e7 e8 e9 e10 e11 e12 e13 e14 e15 e16 e17 e18 e19 e20 e21 e22 e23 e24 e25 e26 e27 e28 e29 e30 e31 e32 e33 e34 e35 e36 : va_E} {f : Nat → Int64} : JE M_Rw_clear [.ref 4] (HP e0 e1 e2 e3 (.inr (4, [.ref 5])) (.inl (1, 12, .inr (.inl f))) e6 e7 e8 e9 e10 e11 e12 e13 e14 e15 e16 e17 e18 e19 e20 e21 e22 e23 e24 e25 e26 e27 e28 e29 e30 e31 e32 e33 e34 e35 e36) none (HP e0 e1 e2 e3 (.inr (4, [.ref 5])) (.inl (1, 12, .inr (.inl (fun _ => 0)))) e6 e7 e8 e9 e10 e11 e12 e13 e14 e15 e16 e17 e18 e19 e20 e21 e22 e23 e24 e25 e26 e27 e28 e29 e30 e31 e32 e33 e34 e35 e36) := by
  refine JM.of (by decide +kernel) rfl (Nat.le_of_ble_eq_true rfl) ?_
  refine J.gp ok_Rw_clear 2 (2, [(0, .ref 4), (1, .int (nI 0))], [], (HP e0 e1 e2 e3 (.inr (4, [.ref 5])) (.inl (1, 12, .inr (.inl f))) e6 e7 e8 e9 e10 e11 e12 e13 e14 e15 e16 e17 e18 e19 e20 e21 e22 e23 e24 e25 e26 e27 e28 e29 e30 e31 e32 e33 e34 e35 e36), 0, 0) rfl ?_
  have K := loopN (P := fun i => JR M_Rw_clear none (2, [(0, .ref 4), (1, .int (nI i))], [], (HP e0 e1 e2 e3 (.inr (4, [.ref 5])) (.inl (1, 12, .inr (.inl (cpf f (fun _ => 0) i)))) e6 e7 e8 e9 e10 e11 e12 e13 e14 e15 e16 e17 e18 e19 e20 e21 e22 e23 e24 e25 e26 e27 e28 e29 e30 e31 e32 e33 e34 e35 e36), 0, 0) (OE none (HP e0 e1 e2 e3 (.inr (4, [.ref 5])) (.inl (1, 12, .inr (.inl (fun _ => 0)))) e6 e7 e8 e9 e10 e11 e12 e13 e14 e15 e16 e17 e18 e19 e20 e21 e22 e23 e24 e25 e26 e27 e28 e29 e30 e31 e32 e33 e34 e35 e36))) (b := 12) ?_ (fun i hi ih => ?_) 0 (Nat.zero_le _)
  · rw [cpf_0] at K
    exact K
  · refine JR.hqs 5 _ (.inl (1, 12, .inr (.inl (fun _ => 0)))) rfl (eqL (fun j hj => if_pos hj)) ?_
    exact g_Rw_clear_4 (i := 12) (f := fun _ => 0) (Nat.le_refl _) (fun _ => ⟨rfl, rfl⟩) (fun c => absurd c (by omega))
  · exact g_Rw_clear_4 (i := i) (f := cpf f (fun _ => 0) i) (by omega) (fun c => absurd c (by omega)) (fun _ => by rw [cpf_up f (fun _ => 0) i]; exact ih)

set_option maxRecDepth 100000 in
set_option maxHeartbeats 4000000 in
theorem g_Rw_get_7 {sc : aScr} {e0 e1 e2 e3 e4 e5 e6 e9 e10 e11 e12 e13 e14 e15 e16 e17 e18 e19 e20 e21 e22 e23 e24 e25 e26 e27 e28 e29 e30 e31 e32 e33 e34 e35 e36 : va_E} {f : Nat → Int64} {j : Nat} {kc kn : Nat} {O : Option Value → aH → Prop} (hj : j < 60) (K1 : O (some (.long (f j))) (HP e0 e1 e2 e3 e4 e5 e6 (.inr (4, [.ref 8])) (.inl (1, 60, .inr (.inl f))) e9 e10 e11 e12 e13 e14 e15 e16 e17 e18 e19 e20 e21 e22 e23 e24 e25 e26 e27 e28 e29 e30 e31 e32 e33 e34 e35 e36)) : JR M_Rw_get sc (0, [(0, .ref 7), (1, .int (nI j))], [], (HP e0 e1 e2 e3 e4 e5 e6 (.inr (4, [.ref 8])) (.inl (1, 60, .inr (.inl f))) e9 e10 e11 e12 e13 e14 e15 e16 e17 e18 e19 e20 e21 e22 e23 e24 e25 e26 e27 e28 e29 e30 e31 e32 e33 e34 e35 e36), kc, kn) O := by
  refine J.gp ok_Rw_get 1 (1, [(0, .ref 7), (1, .int (nI j))], [.int (nI j)], _, _, _) rfl ?_
  refine J.ifF ok_Rw_get (fun x => x < 0) 22 4 rfl (nI_pos (by omega)) ?_
  refine J.gp ok_Rw_get 4 (10, [(0, .ref 7), (1, .int (nI j))], [.int 60, .int (nI j)], _, _, _) rfl ?_
  refine J.icF ok_Rw_get (fun x y => y ≤ x) 22 13 rfl (fun h9 => absurd ((nI_leI (a := 60) (b := j) (by omega) (by omega)).mp h9) (by omega)) ?_
  refine J.gp ok_Rw_get 3 (18, [(0, .ref 7), (1, .int (nI j))], [.int (nI j), .ref 8], _, _, _) rfl ?_
  refine J.laldB ok_Rw_get 19 j rfl rfl (rfl) (by omega) (by decide) ?_
  refine J.gp ok_Rw_get 1 (23, [(0, .ref 7), (1, .int (nI j))], [.long (f j)], _, _, _) rfl ?_
  refine JR.lret (by decide +kernel) rfl ?_
  exact K1

theorem c_Rw_get_7 {e0 e1 e2 e3 e4 e5 e6 e9 e10 e11 e12 e13 e14 e15 e16 e17 e18 e19 e20 e21 e22 e23 e24 e25 e26 e27 e28 e29 e30 e31 e32 e33 e34 e35 e36 : va_E} {f : Nat → Int64} {j : Nat} (hj : j < 60) : JE M_Rw_get [.ref 7, .int (nI j)] (HP e0 e1 e2 e3 e4 e5 e6 (.inr (4, [.ref 8])) (.inl (1, 60, .inr (.inl f))) e9 e10 e11 e12 e13 e14 e15 e16 e17 e18 e19 e20 e21 e22 e23 e24 e25 e26 e27 e28 e29 e30 e31 e32 e33 e34 e35 e36) (some (.long (f j))) (HP e0 e1 e2 e3 e4 e5 e6 (.inr (4, [.ref 8])) (.inl (1, 60, .inr (.inl f))) e9 e10 e11 e12 e13 e14 e15 e16 e17 e18 e19 e20 e21 e22 e23 e24 e25 e26 e27 e28 e29 e30 e31 e32 e33 e34 e35 e36) := JM.of (by decide +kernel) rfl (Nat.le_of_ble_eq_true rfl) (g_Rw_get_7 hj ⟨rfl, rfl⟩)

set_option maxRecDepth 100000 in
set_option maxHeartbeats 4000000 in
theorem g_Rw_set_7 {sc : aScr} {e0 e1 e2 e3 e4 e5 e6 e9 e10 e11 e12 e13 e14 e15 e16 e17 e18 e19 e20 e21 e22 e23 e24 e25 e26 e27 e28 e29 e30 e31 e32 e33 e34 e35 e36 : va_E} {f : Nat → Int64} {j : Nat} {x : Int64} {kc kn : Nat} {O : Option Value → aH → Prop} (hj : j < 60) (K1 : O none (HP e0 e1 e2 e3 e4 e5 e6 (.inr (4, [.ref 8])) (.inl (1, 60, .inr (.inl (vp_updL f j x)))) e9 e10 e11 e12 e13 e14 e15 e16 e17 e18 e19 e20 e21 e22 e23 e24 e25 e26 e27 e28 e29 e30 e31 e32 e33 e34 e35 e36)) : JR M_Rw_set sc (0, [(0, .ref 7), (1, .int (nI j)), (2, .long x)], [], (HP e0 e1 e2 e3 e4 e5 e6 (.inr (4, [.ref 8])) (.inl (1, 60, .inr (.inl f))) e9 e10 e11 e12 e13 e14 e15 e16 e17 e18 e19 e20 e21 e22 e23 e24 e25 e26 e27 e28 e29 e30 e31 e32 e33 e34 e35 e36), kc, kn) O := by
  refine J.gp ok_Rw_set 1 (1, [(0, .ref 7), (1, .int (nI j)), (2, .long x)], [.int (nI j)], _, _, _) rfl ?_
  refine J.ifF ok_Rw_set (fun x => x < 0) 20 4 rfl (nI_pos (by omega)) ?_
  refine J.gp ok_Rw_set 4 (10, [(0, .ref 7), (1, .int (nI j)), (2, .long x)], [.int 60, .int (nI j)], _, _, _) rfl ?_
  refine J.icF ok_Rw_set (fun x y => y ≤ x) 20 13 rfl (fun h9 => absurd ((nI_leI (a := 60) (b := j) (by omega) (by omega)).mp h9) (by omega)) ?_
  refine J.gp ok_Rw_set 4 (19, [(0, .ref 7), (1, .int (nI j)), (2, .long x)], [.long x, .int (nI j), .ref 8], _, _, _) rfl ?_
  refine J.lastB ok_Rw_set 20 j rfl rfl (rfl) (by omega) (by decide) ?_
  refine J.gp ok_Rw_set 0 (20, [(0, .ref 7), (1, .int (nI j)), (2, .long x)], [], (HP e0 e1 e2 e3 e4 e5 e6 (.inr (4, [.ref 8])) (.inl (1, 60, .inr (.inl (vp_updL f j x)))) e9 e10 e11 e12 e13 e14 e15 e16 e17 e18 e19 e20 e21 e22 e23 e24 e25 e26 e27 e28 e29 e30 e31 e32 e33 e34 e35 e36), kc, kn) rfl ?_
  refine JR.vret (by decide +kernel) rfl ?_
  exact K1

theorem c_Rw_set_7 {e0 e1 e2 e3 e4 e5 e6 e9 e10 e11 e12 e13 e14 e15 e16 e17 e18 e19 e20 e21 e22 e23 e24 e25 e26 e27 e28 e29 e30 e31 e32 e33 e34 e35 e36 : va_E} {f : Nat → Int64} {j : Nat} {x : Int64} (hj : j < 60) : JE M_Rw_set [.ref 7, .int (nI j), .long x] (HP e0 e1 e2 e3 e4 e5 e6 (.inr (4, [.ref 8])) (.inl (1, 60, .inr (.inl f))) e9 e10 e11 e12 e13 e14 e15 e16 e17 e18 e19 e20 e21 e22 e23 e24 e25 e26 e27 e28 e29 e30 e31 e32 e33 e34 e35 e36) none (HP e0 e1 e2 e3 e4 e5 e6 (.inr (4, [.ref 8])) (.inl (1, 60, .inr (.inl (vp_updL f j x)))) e9 e10 e11 e12 e13 e14 e15 e16 e17 e18 e19 e20 e21 e22 e23 e24 e25 e26 e27 e28 e29 e30 e31 e32 e33 e34 e35 e36) := JM.of (by decide +kernel) rfl (Nat.le_of_ble_eq_true rfl) (g_Rw_set_7 hj ⟨rfl, rfl⟩)

set_option maxRecDepth 100000 in
set_option maxHeartbeats 4000000 in
theorem g_Rw_get_14 {sc : aScr} {e0 e1 e2 e3 e4 e5 e6 e7 e8 e9 e10 e11 e12 e13 e16 e17 e18 e19 e20 e21 e22 e23 e24 e25 e26 e27 e28 e29 e30 e31 e32 e33 e34 e35 e36 : va_E} {f : Nat → Int64} {j : Nat} {kc kn : Nat} {O : Option Value → aH → Prop} (hj : j < 132) (K1 : O (some (.long (f j))) (HP e0 e1 e2 e3 e4 e5 e6 e7 e8 e9 e10 e11 e12 e13 (.inr (4, [.ref 15])) (.inl (1, 132, .inr (.inl f))) e16 e17 e18 e19 e20 e21 e22 e23 e24 e25 e26 e27 e28 e29 e30 e31 e32 e33 e34 e35 e36)) : JR M_Rw_get sc (0, [(0, .ref 14), (1, .int (nI j))], [], (HP e0 e1 e2 e3 e4 e5 e6 e7 e8 e9 e10 e11 e12 e13 (.inr (4, [.ref 15])) (.inl (1, 132, .inr (.inl f))) e16 e17 e18 e19 e20 e21 e22 e23 e24 e25 e26 e27 e28 e29 e30 e31 e32 e33 e34 e35 e36), kc, kn) O := by
  refine J.gp ok_Rw_get 1 (1, [(0, .ref 14), (1, .int (nI j))], [.int (nI j)], _, _, _) rfl ?_
  refine J.ifF ok_Rw_get (fun x => x < 0) 22 4 rfl (nI_pos (by omega)) ?_
  refine J.gp ok_Rw_get 4 (10, [(0, .ref 14), (1, .int (nI j))], [.int 132, .int (nI j)], _, _, _) rfl ?_
  refine J.icF ok_Rw_get (fun x y => y ≤ x) 22 13 rfl (fun h9 => absurd ((nI_leI (a := 132) (b := j) (by omega) (by omega)).mp h9) (by omega)) ?_
  refine J.gp ok_Rw_get 3 (18, [(0, .ref 14), (1, .int (nI j))], [.int (nI j), .ref 15], _, _, _) rfl ?_
  refine J.laldB ok_Rw_get 19 j rfl rfl (rfl) (by omega) (by decide) ?_
  refine J.gp ok_Rw_get 1 (23, [(0, .ref 14), (1, .int (nI j))], [.long (f j)], _, _, _) rfl ?_
  refine JR.lret (by decide +kernel) rfl ?_
  exact K1

theorem c_Rw_get_14 {e0 e1 e2 e3 e4 e5 e6 e7 e8 e9 e10 e11 e12 e13 e16 e17 e18 e19 e20 e21 e22 e23 e24 e25 e26 e27 e28 e29 e30 e31 e32 e33 e34 e35 e36 : va_E} {f : Nat → Int64} {j : Nat} (hj : j < 132) : JE M_Rw_get [.ref 14, .int (nI j)] (HP e0 e1 e2 e3 e4 e5 e6 e7 e8 e9 e10 e11 e12 e13 (.inr (4, [.ref 15])) (.inl (1, 132, .inr (.inl f))) e16 e17 e18 e19 e20 e21 e22 e23 e24 e25 e26 e27 e28 e29 e30 e31 e32 e33 e34 e35 e36) (some (.long (f j))) (HP e0 e1 e2 e3 e4 e5 e6 e7 e8 e9 e10 e11 e12 e13 (.inr (4, [.ref 15])) (.inl (1, 132, .inr (.inl f))) e16 e17 e18 e19 e20 e21 e22 e23 e24 e25 e26 e27 e28 e29 e30 e31 e32 e33 e34 e35 e36) := JM.of (by decide +kernel) rfl (Nat.le_of_ble_eq_true rfl) (g_Rw_get_14 hj ⟨rfl, rfl⟩)

set_option maxRecDepth 100000 in
set_option maxHeartbeats 4000000 in
theorem g_Rw_set_14 {sc : aScr} {e0 e1 e2 e3 e4 e5 e6 e7 e8 e9 e10 e11 e12 e13 e16 e17 e18 e19 e20 e21 e22 e23 e24 e25 e26 e27 e28 e29 e30 e31 e32 e33 e34 e35 e36 : va_E} {f : Nat → Int64} {j : Nat} {x : Int64} {kc kn : Nat} {O : Option Value → aH → Prop} (hj : j < 132) (K1 : O none (HP e0 e1 e2 e3 e4 e5 e6 e7 e8 e9 e10 e11 e12 e13 (.inr (4, [.ref 15])) (.inl (1, 132, .inr (.inl (vp_updL f j x)))) e16 e17 e18 e19 e20 e21 e22 e23 e24 e25 e26 e27 e28 e29 e30 e31 e32 e33 e34 e35 e36)) : JR M_Rw_set sc (0, [(0, .ref 14), (1, .int (nI j)), (2, .long x)], [], (HP e0 e1 e2 e3 e4 e5 e6 e7 e8 e9 e10 e11 e12 e13 (.inr (4, [.ref 15])) (.inl (1, 132, .inr (.inl f))) e16 e17 e18 e19 e20 e21 e22 e23 e24 e25 e26 e27 e28 e29 e30 e31 e32 e33 e34 e35 e36), kc, kn) O := by
  refine J.gp ok_Rw_set 1 (1, [(0, .ref 14), (1, .int (nI j)), (2, .long x)], [.int (nI j)], _, _, _) rfl ?_
  refine J.ifF ok_Rw_set (fun x => x < 0) 20 4 rfl (nI_pos (by omega)) ?_
  refine J.gp ok_Rw_set 4 (10, [(0, .ref 14), (1, .int (nI j)), (2, .long x)], [.int 132, .int (nI j)], _, _, _) rfl ?_
  refine J.icF ok_Rw_set (fun x y => y ≤ x) 20 13 rfl (fun h9 => absurd ((nI_leI (a := 132) (b := j) (by omega) (by omega)).mp h9) (by omega)) ?_
  refine J.gp ok_Rw_set 4 (19, [(0, .ref 14), (1, .int (nI j)), (2, .long x)], [.long x, .int (nI j), .ref 15], _, _, _) rfl ?_
  refine J.lastB ok_Rw_set 20 j rfl rfl (rfl) (by omega) (by decide) ?_
  refine J.gp ok_Rw_set 0 (20, [(0, .ref 14), (1, .int (nI j)), (2, .long x)], [], (HP e0 e1 e2 e3 e4 e5 e6 e7 e8 e9 e10 e11 e12 e13 (.inr (4, [.ref 15])) (.inl (1, 132, .inr (.inl (vp_updL f j x)))) e16 e17 e18 e19 e20 e21 e22 e23 e24 e25 e26 e27 e28 e29 e30 e31 e32 e33 e34 e35 e36), kc, kn) rfl ?_
  refine JR.vret (by decide +kernel) rfl ?_
  exact K1

theorem c_Rw_set_14 {e0 e1 e2 e3 e4 e5 e6 e7 e8 e9 e10 e11 e12 e13 e16 e17 e18 e19 e20 e21 e22 e23 e24 e25 e26 e27 e28 e29 e30 e31 e32 e33 e34 e35 e36 : va_E} {f : Nat → Int64} {j : Nat} {x : Int64} (hj : j < 132) : JE M_Rw_set [.ref 14, .int (nI j), .long x] (HP e0 e1 e2 e3 e4 e5 e6 e7 e8 e9 e10 e11 e12 e13 (.inr (4, [.ref 15])) (.inl (1, 132, .inr (.inl f))) e16 e17 e18 e19 e20 e21 e22 e23 e24 e25 e26 e27 e28 e29 e30 e31 e32 e33 e34 e35 e36) none (HP e0 e1 e2 e3 e4 e5 e6 e7 e8 e9 e10 e11 e12 e13 (.inr (4, [.ref 15])) (.inl (1, 132, .inr (.inl (vp_updL f j x)))) e16 e17 e18 e19 e20 e21 e22 e23 e24 e25 e26 e27 e28 e29 e30 e31 e32 e33 e34 e35 e36) := JM.of (by decide +kernel) rfl (Nat.le_of_ble_eq_true rfl) (g_Rw_set_14 hj ⟨rfl, rfl⟩)

set_option maxRecDepth 100000 in
set_option maxHeartbeats 4000000 in
theorem g_Rw_clear_14 {sc : aScr} {e0 e1 e2 e3 e4 e5 e6 e7 e8 e9 e10 e11 e12 e13 e16 e17 e18 e19 e20 e21 e22 e23 e24 e25 e26 e27 e28 e29 e30 e31 e32 e33 e34 e35 e36 : va_E} {f : Nat → Int64} {i : Nat} {kc kn : Nat} {O : Option Value → aH → Prop} (hi : i ≤ 132) (K1 : (132 ≤ i) → O none (HP e0 e1 e2 e3 e4 e5 e6 e7 e8 e9 e10 e11 e12 e13 (.inr (4, [.ref 15])) (.inl (1, 132, .inr (.inl f))) e16 e17 e18 e19 e20 e21 e22 e23 e24 e25 e26 e27 e28 e29 e30 e31 e32 e33 e34 e35 e36)) (K2 : (i < 132) → JR M_Rw_clear sc (2, [(0, .ref 14), (1, .int (nI (i + 1)))], [], (HP e0 e1 e2 e3 e4 e5 e6 e7 e8 e9 e10 e11 e12 e13 (.inr (4, [.ref 15])) (.inl (1, 132, .inr (.inl (vp_updL f i 0)))) e16 e17 e18 e19 e20 e21 e22 e23 e24 e25 e26 e27 e28 e29 e30 e31 e32 e33 e34 e35 e36), kc, kn) O) : JR M_Rw_clear sc (2, [(0, .ref 14), (1, .int (nI i))], [], (HP e0 e1 e2 e3 e4 e5 e6 e7 e8 e9 e10 e11 e12 e13 (.inr (4, [.ref 15])) (.inl (1, 132, .inr (.inl f))) e16 e17 e18 e19 e20 e21 e22 e23 e24 e25 e26 e27 e28 e29 e30 e31 e32 e33 e34 e35 e36), kc, kn) O := by
  refine J.gp ok_Rw_clear 4 (8, [(0, .ref 14), (1, .int (nI i))], [.int 132, .int (nI i)], _, _, _) rfl ?_
  refine J.icB ok_Rw_clear (fun x y => y ≤ x) 24 11 rfl (fun (h0 : 132 ≤ nI i) => ?_) (fun (h0 : ¬ (132 ≤ nI i)) => ?_)
  · have c8 : 132 ≤ i := (nI_leI (a := 132) (b := i) (by omega) (by omega)).mp h0
    refine JR.vret (by decide +kernel) rfl ?_
    exact K1 c8
  · have c8 : i < 132 := Nat.not_le.mp (fun h9 => h0 ((nI_leI (a := 132) (b := i) (by omega) (by omega)).mpr h9))
    refine J.gp ok_Rw_clear 4 (17, [(0, .ref 14), (1, .int (nI i))], [.long 0, .int (nI i), .ref 15], _, _, _) rfl ?_
    refine J.lastB ok_Rw_clear 18 i rfl rfl (rfl) (by omega) (by decide) ?_
    refine J.gp ok_Rw_clear 0 (18, [(0, .ref 14), (1, .int (nI i))], [], (HP e0 e1 e2 e3 e4 e5 e6 e7 e8 e9 e10 e11 e12 e13 (.inr (4, [.ref 15])) (.inl (1, 132, .inr (.inl (vp_updL f i 0)))) e16 e17 e18 e19 e20 e21 e22 e23 e24 e25 e26 e27 e28 e29 e30 e31 e32 e33 e34 e35 e36), kc, kn) rfl ?_
    refine J.gp ok_Rw_clear 1 (21, [(0, .ref 14), (1, .int (nI i + 1))], [], _, _, _) rfl ?_
    rw [show ((nI i + 1) : Int32) = nI (i + 1) from nI_add i 1]
    refine J.gp ok_Rw_clear 1 (2, [(0, .ref 14), (1, .int (nI (i + 1)))], [], _, _, _) rfl ?_
    exact K2 c8

theorem c_Rw_clear_14 {e0 e1 e2 e3 e4 e5 e6 e7 e8 e9 e10 e11 e12 e13 e16 e17 e18 e19 e20 e21 e22 e23 e24 e25 e26 e27 e28 e29 e30 e31 e32 e33 e34 e35 e36 : va_E} {f : Nat → Int64} : JE M_Rw_clear [.ref 14] (HP e0 e1 e2 e3 e4 e5 e6 e7 e8 e9 e10 e11 e12 e13 (.inr (4, [.ref 15])) (.inl (1, 132, .inr (.inl f))) e16 e17 e18 e19 e20 e21 e22 e23 e24 e25 e26 e27 e28 e29 e30 e31 e32 e33 e34 e35 e36) none (HP e0 e1 e2 e3 e4 e5 e6 e7 e8 e9 e10 e11 e12 e13 (.inr (4, [.ref 15])) (.inl (1, 132, .inr (.inl (fun _ => 0)))) e16 e17 e18 e19 e20 e21 e22 e23 e24 e25 e26 e27 e28 e29 e30 e31 e32 e33 e34 e35 e36) := by
  refine JM.of (by decide +kernel) rfl (Nat.le_of_ble_eq_true rfl) ?_
  refine J.gp ok_Rw_clear 2 (2, [(0, .ref 14), (1, .int (nI 0))], [], (HP e0 e1 e2 e3 e4 e5 e6 e7 e8 e9 e10 e11 e12 e13 (.inr (4, [.ref 15])) (.inl (1, 132, .inr (.inl f))) e16 e17 e18 e19 e20 e21 e22 e23 e24 e25 e26 e27 e28 e29 e30 e31 e32 e33 e34 e35 e36), 0, 0) rfl ?_
  have K := loopN (P := fun i => JR M_Rw_clear none (2, [(0, .ref 14), (1, .int (nI i))], [], (HP e0 e1 e2 e3 e4 e5 e6 e7 e8 e9 e10 e11 e12 e13 (.inr (4, [.ref 15])) (.inl (1, 132, .inr (.inl (cpf f (fun _ => 0) i)))) e16 e17 e18 e19 e20 e21 e22 e23 e24 e25 e26 e27 e28 e29 e30 e31 e32 e33 e34 e35 e36), 0, 0) (OE none (HP e0 e1 e2 e3 e4 e5 e6 e7 e8 e9 e10 e11 e12 e13 (.inr (4, [.ref 15])) (.inl (1, 132, .inr (.inl (fun _ => 0)))) e16 e17 e18 e19 e20 e21 e22 e23 e24 e25 e26 e27 e28 e29 e30 e31 e32 e33 e34 e35 e36))) (b := 132) ?_ (fun i hi ih => ?_) 0 (Nat.zero_le _)
  · rw [cpf_0] at K
    exact K
  · refine JR.hqs 15 _ (.inl (1, 132, .inr (.inl (fun _ => 0)))) rfl (eqL (fun j hj => if_pos hj)) ?_
    exact g_Rw_clear_14 (i := 132) (f := fun _ => 0) (Nat.le_refl _) (fun _ => ⟨rfl, rfl⟩) (fun c => absurd c (by omega))
  · exact g_Rw_clear_14 (i := i) (f := cpf f (fun _ => 0) i) (by omega) (fun c => absurd c (by omega)) (fun _ => by rw [cpf_up f (fun _ => 0) i]; exact ih)

set_option maxRecDepth 100000 in
set_option maxHeartbeats 4000000 in
theorem g_Rw_get_16 {sc : aScr} {e0 e1 e2 e3 e4 e5 e6 e7 e8 e9 e10 e11 e12 e13 e14 e15 e18 e19 e20 e21 e22 e23 e24 e25 e26 e27 e28 e29 e30 e31 e32 e33 e34 e35 e36 : va_E} {f : Nat → Int64} {j : Nat} {kc kn : Nat} {O : Option Value → aH → Prop} (hj : j < 132) (K1 : O (some (.long (f j))) (HP e0 e1 e2 e3 e4 e5 e6 e7 e8 e9 e10 e11 e12 e13 e14 e15 (.inr (4, [.ref 17])) (.inl (1, 132, .inr (.inl f))) e18 e19 e20 e21 e22 e23 e24 e25 e26 e27 e28 e29 e30 e31 e32 e33 e34 e35 e36)) : JR M_Rw_get sc (0, [(0, .ref 16), (1, .int (nI j))], [], (HP e0 e1 e2 e3 e4 e5 e6 e7 e8 e9 e10 e11 e12 e13 e14 e15 (.inr (4, [.ref 17])) (.inl (1, 132, .inr (.inl f))) e18 e19 e20 e21 e22 e23 e24 e25 e26 e27 e28 e29 e30 e31 e32 e33 e34 e35 e36), kc, kn) O := by
  refine J.gp ok_Rw_get 1 (1, [(0, .ref 16), (1, .int (nI j))], [.int (nI j)], _, _, _) rfl ?_
  refine J.ifF ok_Rw_get (fun x => x < 0) 22 4 rfl (nI_pos (by omega)) ?_
  refine J.gp ok_Rw_get 4 (10, [(0, .ref 16), (1, .int (nI j))], [.int 132, .int (nI j)], _, _, _) rfl ?_
  refine J.icF ok_Rw_get (fun x y => y ≤ x) 22 13 rfl (fun h9 => absurd ((nI_leI (a := 132) (b := j) (by omega) (by omega)).mp h9) (by omega)) ?_
  refine J.gp ok_Rw_get 3 (18, [(0, .ref 16), (1, .int (nI j))], [.int (nI j), .ref 17], _, _, _) rfl ?_
  refine J.laldB ok_Rw_get 19 j rfl rfl (rfl) (by omega) (by decide) ?_
  refine J.gp ok_Rw_get 1 (23, [(0, .ref 16), (1, .int (nI j))], [.long (f j)], _, _, _) rfl ?_
  refine JR.lret (by decide +kernel) rfl ?_
  exact K1

theorem c_Rw_get_16 {e0 e1 e2 e3 e4 e5 e6 e7 e8 e9 e10 e11 e12 e13 e14 e15 e18 e19 e20 e21 e22 e23 e24 e25 e26 e27 e28 e29 e30 e31 e32 e33 e34 e35 e36 : va_E} {f : Nat → Int64} {j : Nat} (hj : j < 132) : JE M_Rw_get [.ref 16, .int (nI j)] (HP e0 e1 e2 e3 e4 e5 e6 e7 e8 e9 e10 e11 e12 e13 e14 e15 (.inr (4, [.ref 17])) (.inl (1, 132, .inr (.inl f))) e18 e19 e20 e21 e22 e23 e24 e25 e26 e27 e28 e29 e30 e31 e32 e33 e34 e35 e36) (some (.long (f j))) (HP e0 e1 e2 e3 e4 e5 e6 e7 e8 e9 e10 e11 e12 e13 e14 e15 (.inr (4, [.ref 17])) (.inl (1, 132, .inr (.inl f))) e18 e19 e20 e21 e22 e23 e24 e25 e26 e27 e28 e29 e30 e31 e32 e33 e34 e35 e36) := JM.of (by decide +kernel) rfl (Nat.le_of_ble_eq_true rfl) (g_Rw_get_16 hj ⟨rfl, rfl⟩)

set_option maxRecDepth 100000 in
set_option maxHeartbeats 4000000 in
theorem g_Rw_set_16 {sc : aScr} {e0 e1 e2 e3 e4 e5 e6 e7 e8 e9 e10 e11 e12 e13 e14 e15 e18 e19 e20 e21 e22 e23 e24 e25 e26 e27 e28 e29 e30 e31 e32 e33 e34 e35 e36 : va_E} {f : Nat → Int64} {j : Nat} {x : Int64} {kc kn : Nat} {O : Option Value → aH → Prop} (hj : j < 132) (K1 : O none (HP e0 e1 e2 e3 e4 e5 e6 e7 e8 e9 e10 e11 e12 e13 e14 e15 (.inr (4, [.ref 17])) (.inl (1, 132, .inr (.inl (vp_updL f j x)))) e18 e19 e20 e21 e22 e23 e24 e25 e26 e27 e28 e29 e30 e31 e32 e33 e34 e35 e36)) : JR M_Rw_set sc (0, [(0, .ref 16), (1, .int (nI j)), (2, .long x)], [], (HP e0 e1 e2 e3 e4 e5 e6 e7 e8 e9 e10 e11 e12 e13 e14 e15 (.inr (4, [.ref 17])) (.inl (1, 132, .inr (.inl f))) e18 e19 e20 e21 e22 e23 e24 e25 e26 e27 e28 e29 e30 e31 e32 e33 e34 e35 e36), kc, kn) O := by
  refine J.gp ok_Rw_set 1 (1, [(0, .ref 16), (1, .int (nI j)), (2, .long x)], [.int (nI j)], _, _, _) rfl ?_
  refine J.ifF ok_Rw_set (fun x => x < 0) 20 4 rfl (nI_pos (by omega)) ?_
  refine J.gp ok_Rw_set 4 (10, [(0, .ref 16), (1, .int (nI j)), (2, .long x)], [.int 132, .int (nI j)], _, _, _) rfl ?_
  refine J.icF ok_Rw_set (fun x y => y ≤ x) 20 13 rfl (fun h9 => absurd ((nI_leI (a := 132) (b := j) (by omega) (by omega)).mp h9) (by omega)) ?_
  refine J.gp ok_Rw_set 4 (19, [(0, .ref 16), (1, .int (nI j)), (2, .long x)], [.long x, .int (nI j), .ref 17], _, _, _) rfl ?_
  refine J.lastB ok_Rw_set 20 j rfl rfl (rfl) (by omega) (by decide) ?_
  refine J.gp ok_Rw_set 0 (20, [(0, .ref 16), (1, .int (nI j)), (2, .long x)], [], (HP e0 e1 e2 e3 e4 e5 e6 e7 e8 e9 e10 e11 e12 e13 e14 e15 (.inr (4, [.ref 17])) (.inl (1, 132, .inr (.inl (vp_updL f j x)))) e18 e19 e20 e21 e22 e23 e24 e25 e26 e27 e28 e29 e30 e31 e32 e33 e34 e35 e36), kc, kn) rfl ?_
  refine JR.vret (by decide +kernel) rfl ?_
  exact K1

theorem c_Rw_set_16 {e0 e1 e2 e3 e4 e5 e6 e7 e8 e9 e10 e11 e12 e13 e14 e15 e18 e19 e20 e21 e22 e23 e24 e25 e26 e27 e28 e29 e30 e31 e32 e33 e34 e35 e36 : va_E} {f : Nat → Int64} {j : Nat} {x : Int64} (hj : j < 132) : JE M_Rw_set [.ref 16, .int (nI j), .long x] (HP e0 e1 e2 e3 e4 e5 e6 e7 e8 e9 e10 e11 e12 e13 e14 e15 (.inr (4, [.ref 17])) (.inl (1, 132, .inr (.inl f))) e18 e19 e20 e21 e22 e23 e24 e25 e26 e27 e28 e29 e30 e31 e32 e33 e34 e35 e36) none (HP e0 e1 e2 e3 e4 e5 e6 e7 e8 e9 e10 e11 e12 e13 e14 e15 (.inr (4, [.ref 17])) (.inl (1, 132, .inr (.inl (vp_updL f j x)))) e18 e19 e20 e21 e22 e23 e24 e25 e26 e27 e28 e29 e30 e31 e32 e33 e34 e35 e36) := JM.of (by decide +kernel) rfl (Nat.le_of_ble_eq_true rfl) (g_Rw_set_16 hj ⟨rfl, rfl⟩)

set_option maxRecDepth 100000 in
set_option maxHeartbeats 4000000 in
theorem g_Rw_add_16 {sc : aScr} {e0 e1 e2 e3 e4 e5 e6 e7 e8 e9 e10 e11 e12 e13 e14 e15 e18 e19 e20 e21 e22 e23 e24 e25 e26 e27 e28 e29 e30 e31 e32 e33 e34 e35 e36 : va_E} {f : Nat → Int64} {j : Nat} {x : Int64} {kc kn : Nat} {O : Option Value → aH → Prop} (hj : j < 132) (K1 : O none (HP e0 e1 e2 e3 e4 e5 e6 e7 e8 e9 e10 e11 e12 e13 e14 e15 (.inr (4, [.ref 17])) (.inl (1, 132, .inr (.inl (vp_updL f j ((f j) + x))))) e18 e19 e20 e21 e22 e23 e24 e25 e26 e27 e28 e29 e30 e31 e32 e33 e34 e35 e36)) : JR M_Rw_add sc (0, [(0, .ref 16), (1, .int (nI j)), (2, .long x)], [], (HP e0 e1 e2 e3 e4 e5 e6 e7 e8 e9 e10 e11 e12 e13 e14 e15 (.inr (4, [.ref 17])) (.inl (1, 132, .inr (.inl f))) e18 e19 e20 e21 e22 e23 e24 e25 e26 e27 e28 e29 e30 e31 e32 e33 e34 e35 e36), kc, kn) O := by
  refine J.gp ok_Rw_add 1 (1, [(0, .ref 16), (1, .int (nI j)), (2, .long x)], [.int (nI j)], _, _, _) rfl ?_
  refine J.ifF ok_Rw_add (fun x => x < 0) 23 4 rfl (nI_pos (by omega)) ?_
  refine J.gp ok_Rw_add 4 (10, [(0, .ref 16), (1, .int (nI j)), (2, .long x)], [.int 132, .int (nI j)], _, _, _) rfl ?_
  refine J.icF ok_Rw_add (fun x y => y ≤ x) 23 13 rfl (fun h9 => absurd ((nI_leI (a := 132) (b := j) (by omega) (by omega)).mp h9) (by omega)) ?_
  refine J.gp ok_Rw_add 4 (19, [(0, .ref 16), (1, .int (nI j)), (2, .long x)], [.int (nI j), .ref 17, .int (nI j), .ref 17], _, _, _) rfl ?_
  refine J.laldB ok_Rw_add 20 j rfl rfl (rfl) (by omega) (by decide) ?_
  refine J.gp ok_Rw_add 2 (22, [(0, .ref 16), (1, .int (nI j)), (2, .long x)], [.long ((f j) + x), .int (nI j), .ref 17], _, _, _) rfl ?_
  refine J.lastB ok_Rw_add 23 j rfl rfl (rfl) (by omega) (by decide) ?_
  refine J.gp ok_Rw_add 0 (23, [(0, .ref 16), (1, .int (nI j)), (2, .long x)], [], (HP e0 e1 e2 e3 e4 e5 e6 e7 e8 e9 e10 e11 e12 e13 e14 e15 (.inr (4, [.ref 17])) (.inl (1, 132, .inr (.inl (vp_updL f j ((f j) + x))))) e18 e19 e20 e21 e22 e23 e24 e25 e26 e27 e28 e29 e30 e31 e32 e33 e34 e35 e36), kc, kn) rfl ?_
  refine JR.vret (by decide +kernel) rfl ?_
  exact K1

theorem c_Rw_add_16 {e0 e1 e2 e3 e4 e5 e6 e7 e8 e9 e10 e11 e12 e13 e14 e15 e18 e19 e20 e21 e22 e23 e24 e25 e26 e27 e28 e29 e30 e31 e32 e33 e34 e35 e36 : va_E} {f : Nat → Int64} {j : Nat} {x : Int64} (hj : j < 132) : JE M_Rw_add [.ref 16, .int (nI j), .long x] (HP e0 e1 e2 e3 e4 e5 e6 e7 e8 e9 e10 e11 e12 e13 e14 e15 (.inr (4, [.ref 17])) (.inl (1, 132, .inr (.inl f))) e18 e19 e20 e21 e22 e23 e24 e25 e26 e27 e28 e29 e30 e31 e32 e33 e34 e35 e36) none (HP e0 e1 e2 e3 e4 e5 e6 e7 e8 e9 e10 e11 e12 e13 e14 e15 (.inr (4, [.ref 17])) (.inl (1, 132, .inr (.inl (vp_updL f j (f j + x))))) e18 e19 e20 e21 e22 e23 e24 e25 e26 e27 e28 e29 e30 e31 e32 e33 e34 e35 e36) := JM.of (by decide +kernel) rfl (Nat.le_of_ble_eq_true rfl) (g_Rw_add_16 hj ⟨rfl, rfl⟩)

set_option maxRecDepth 100000 in
set_option maxHeartbeats 4000000 in
theorem g_Rw_clear_16 {sc : aScr} {e0 e1 e2 e3 e4 e5 e6 e7 e8 e9 e10 e11 e12 e13 e14 e15 e18 e19 e20 e21 e22 e23 e24 e25 e26 e27 e28 e29 e30 e31 e32 e33 e34 e35 e36 : va_E} {f : Nat → Int64} {i : Nat} {kc kn : Nat} {O : Option Value → aH → Prop} (hi : i ≤ 132) (K1 : (132 ≤ i) → O none (HP e0 e1 e2 e3 e4 e5 e6 e7 e8 e9 e10 e11 e12 e13 e14 e15 (.inr (4, [.ref 17])) (.inl (1, 132, .inr (.inl f))) e18 e19 e20 e21 e22 e23 e24 e25 e26 e27 e28 e29 e30 e31 e32 e33 e34 e35 e36)) (K2 : (i < 132) → JR M_Rw_clear sc (2, [(0, .ref 16), (1, .int (nI (i + 1)))], [], (HP e0 e1 e2 e3 e4 e5 e6 e7 e8 e9 e10 e11 e12 e13 e14 e15 (.inr (4, [.ref 17])) (.inl (1, 132, .inr (.inl (vp_updL f i 0)))) e18 e19 e20 e21 e22 e23 e24 e25 e26 e27 e28 e29 e30 e31 e32 e33 e34 e35 e36), kc, kn) O) : JR M_Rw_clear sc (2, [(0, .ref 16), (1, .int (nI i))], [], (HP e0 e1 e2 e3 e4 e5 e6 e7 e8 e9 e10 e11 e12 e13 e14 e15 (.inr (4, [.ref 17])) (.inl (1, 132, .inr (.inl f))) e18 e19 e20 e21 e22 e23 e24 e25 e26 e27 e28 e29 e30 e31 e32 e33 e34 e35 e36), kc, kn) O := by
  refine J.gp ok_Rw_clear 4 (8, [(0, .ref 16), (1, .int (nI i))], [.int 132, .int (nI i)], _, _, _) rfl ?_
  refine J.icB ok_Rw_clear (fun x y => y ≤ x) 24 11 rfl (fun (h0 : 132 ≤ nI i) => ?_) (fun (h0 : ¬ (132 ≤ nI i)) => ?_)
  · have c8 : 132 ≤ i := (nI_leI (a := 132) (b := i) (by omega) (by omega)).mp h0
    refine JR.vret (by decide +kernel) rfl ?_
    exact K1 c8
  · have c8 : i < 132 := Nat.not_le.mp (fun h9 => h0 ((nI_leI (a := 132) (b := i) (by omega) (by omega)).mpr h9))
    refine J.gp ok_Rw_clear 4 (17, [(0, .ref 16), (1, .int (nI i))], [.long 0, .int (nI i), .ref 17], _, _, _) rfl ?_
    refine J.lastB ok_Rw_clear 18 i rfl rfl (rfl) (by omega) (by decide) ?_
    refine J.gp ok_Rw_clear 0 (18, [(0, .ref 16), (1, .int (nI i))], [], (HP e0 e1 e2 e3 e4 e5 e6 e7 e8 e9 e10 e11 e12 e13 e14 e15 (.inr (4, [.ref 17])) (.inl (1, 132, .inr (.inl (vp_updL f i 0)))) e18 e19 e20 e21 e22 e23 e24 e25 e26 e27 e28 e29 e30 e31 e32 e33 e34 e35 e36), kc, kn) rfl ?_
    refine J.gp ok_Rw_clear 1 (21, [(0, .ref 16), (1, .int (nI i + 1))], [], _, _, _) rfl ?_
    rw [show ((nI i + 1) : Int32) = nI (i + 1) from nI_add i 1]
    refine J.gp ok_Rw_clear 1 (2, [(0, .ref 16), (1, .int (nI (i + 1)))], [], _, _, _) rfl ?_
    exact K2 c8

theorem c_Rw_clear_16 {e0 e1 e2 e3 e4 e5 e6 e7 e8 e9 e10 e11 e12 e13 e14 e15 e18 e19 e20 e21 e22 e23 e24 e25 e26 e27 e28 e29 e30 e31 e32 e33 e34 e35 e36 : va_E} {f : Nat → Int64} : JE M_Rw_clear [.ref 16] (HP e0 e1 e2 e3 e4 e5 e6 e7 e8 e9 e10 e11 e12 e13 e14 e15 (.inr (4, [.ref 17])) (.inl (1, 132, .inr (.inl f))) e18 e19 e20 e21 e22 e23 e24 e25 e26 e27 e28 e29 e30 e31 e32 e33 e34 e35 e36) none (HP e0 e1 e2 e3 e4 e5 e6 e7 e8 e9 e10 e11 e12 e13 e14 e15 (.inr (4, [.ref 17])) (.inl (1, 132, .inr (.inl (fun _ => 0)))) e18 e19 e20 e21 e22 e23 e24 e25 e26 e27 e28 e29 e30 e31 e32 e33 e34 e35 e36) := by
  refine JM.of (by decide +kernel) rfl (Nat.le_of_ble_eq_true rfl) ?_
  refine J.gp ok_Rw_clear 2 (2, [(0, .ref 16), (1, .int (nI 0))], [], (HP e0 e1 e2 e3 e4 e5 e6 e7 e8 e9 e10 e11 e12 e13 e14 e15 (.inr (4, [.ref 17])) (.inl (1, 132, .inr (.inl f))) e18 e19 e20 e21 e22 e23 e24 e25 e26 e27 e28 e29 e30 e31 e32 e33 e34 e35 e36), 0, 0) rfl ?_
  have K := loopN (P := fun i => JR M_Rw_clear none (2, [(0, .ref 16), (1, .int (nI i))], [], (HP e0 e1 e2 e3 e4 e5 e6 e7 e8 e9 e10 e11 e12 e13 e14 e15 (.inr (4, [.ref 17])) (.inl (1, 132, .inr (.inl (cpf f (fun _ => 0) i)))) e18 e19 e20 e21 e22 e23 e24 e25 e26 e27 e28 e29 e30 e31 e32 e33 e34 e35 e36), 0, 0) (OE none (HP e0 e1 e2 e3 e4 e5 e6 e7 e8 e9 e10 e11 e12 e13 e14 e15 (.inr (4, [.ref 17])) (.inl (1, 132, .inr (.inl (fun _ => 0)))) e18 e19 e20 e21 e22 e23 e24 e25 e26 e27 e28 e29 e30 e31 e32 e33 e34 e35 e36))) (b := 132) ?_ (fun i hi ih => ?_) 0 (Nat.zero_le _)
  · rw [cpf_0] at K
    exact K
  · refine JR.hqs 17 _ (.inl (1, 132, .inr (.inl (fun _ => 0)))) rfl (eqL (fun j hj => if_pos hj)) ?_
    exact g_Rw_clear_16 (i := 132) (f := fun _ => 0) (Nat.le_refl _) (fun _ => ⟨rfl, rfl⟩) (fun c => absurd c (by omega))
  · exact g_Rw_clear_16 (i := i) (f := cpf f (fun _ => 0) i) (by omega) (fun c => absurd c (by omega)) (fun _ => by rw [cpf_up f (fun _ => 0) i]; exact ih)

set_option maxRecDepth 100000 in
set_option maxHeartbeats 4000000 in
theorem g_Rw_get_19 {sc : aScr} {e0 e1 e2 e3 e4 e5 e6 e7 e8 e9 e10 e11 e12 e13 e14 e15 e16 e17 e18 e21 e22 e23 e24 e25 e26 e27 e28 e29 e30 e31 e32 e33 e34 e35 e36 : va_E} {f : Nat → Int64} {j : Nat} {kc kn : Nat} {O : Option Value → aH → Prop} (hj : j < 16) (K1 : O (some (.long (f j))) (HP e0 e1 e2 e3 e4 e5 e6 e7 e8 e9 e10 e11 e12 e13 e14 e15 e16 e17 e18 (.inr (4, [.ref 20])) (.inl (1, 16, .inr (.inl f))) e21 e22 e23 e24 e25 e26 e27 e28 e29 e30 e31 e32 e33 e34 e35 e36)) : JR M_Rw_get sc (0, [(0, .ref 19), (1, .int (nI j))], [], (HP e0 e1 e2 e3 e4 e5 e6 e7 e8 e9 e10 e11 e12 e13 e14 e15 e16 e17 e18 (.inr (4, [.ref 20])) (.inl (1, 16, .inr (.inl f))) e21 e22 e23 e24 e25 e26 e27 e28 e29 e30 e31 e32 e33 e34 e35 e36), kc, kn) O := by
  refine J.gp ok_Rw_get 1 (1, [(0, .ref 19), (1, .int (nI j))], [.int (nI j)], _, _, _) rfl ?_
  refine J.ifF ok_Rw_get (fun x => x < 0) 22 4 rfl (nI_pos (by omega)) ?_
  refine J.gp ok_Rw_get 4 (10, [(0, .ref 19), (1, .int (nI j))], [.int 16, .int (nI j)], _, _, _) rfl ?_
  refine J.icF ok_Rw_get (fun x y => y ≤ x) 22 13 rfl (fun h9 => absurd ((nI_leI (a := 16) (b := j) (by omega) (by omega)).mp h9) (by omega)) ?_
  refine J.gp ok_Rw_get 3 (18, [(0, .ref 19), (1, .int (nI j))], [.int (nI j), .ref 20], _, _, _) rfl ?_
  refine J.laldB ok_Rw_get 19 j rfl rfl (rfl) (by omega) (by decide) ?_
  refine J.gp ok_Rw_get 1 (23, [(0, .ref 19), (1, .int (nI j))], [.long (f j)], _, _, _) rfl ?_
  refine JR.lret (by decide +kernel) rfl ?_
  exact K1

theorem c_Rw_get_19 {e0 e1 e2 e3 e4 e5 e6 e7 e8 e9 e10 e11 e12 e13 e14 e15 e16 e17 e18 e21 e22 e23 e24 e25 e26 e27 e28 e29 e30 e31 e32 e33 e34 e35 e36 : va_E} {f : Nat → Int64} {j : Nat} (hj : j < 16) : JE M_Rw_get [.ref 19, .int (nI j)] (HP e0 e1 e2 e3 e4 e5 e6 e7 e8 e9 e10 e11 e12 e13 e14 e15 e16 e17 e18 (.inr (4, [.ref 20])) (.inl (1, 16, .inr (.inl f))) e21 e22 e23 e24 e25 e26 e27 e28 e29 e30 e31 e32 e33 e34 e35 e36) (some (.long (f j))) (HP e0 e1 e2 e3 e4 e5 e6 e7 e8 e9 e10 e11 e12 e13 e14 e15 e16 e17 e18 (.inr (4, [.ref 20])) (.inl (1, 16, .inr (.inl f))) e21 e22 e23 e24 e25 e26 e27 e28 e29 e30 e31 e32 e33 e34 e35 e36) := JM.of (by decide +kernel) rfl (Nat.le_of_ble_eq_true rfl) (g_Rw_get_19 hj ⟨rfl, rfl⟩)

set_option maxRecDepth 100000 in
set_option maxHeartbeats 4000000 in
theorem g_Rw_set_19 {sc : aScr} {e0 e1 e2 e3 e4 e5 e6 e7 e8 e9 e10 e11 e12 e13 e14 e15 e16 e17 e18 e21 e22 e23 e24 e25 e26 e27 e28 e29 e30 e31 e32 e33 e34 e35 e36 : va_E} {f : Nat → Int64} {j : Nat} {x : Int64} {kc kn : Nat} {O : Option Value → aH → Prop} (hj : j < 16) (K1 : O none (HP e0 e1 e2 e3 e4 e5 e6 e7 e8 e9 e10 e11 e12 e13 e14 e15 e16 e17 e18 (.inr (4, [.ref 20])) (.inl (1, 16, .inr (.inl (vp_updL f j x)))) e21 e22 e23 e24 e25 e26 e27 e28 e29 e30 e31 e32 e33 e34 e35 e36)) : JR M_Rw_set sc (0, [(0, .ref 19), (1, .int (nI j)), (2, .long x)], [], (HP e0 e1 e2 e3 e4 e5 e6 e7 e8 e9 e10 e11 e12 e13 e14 e15 e16 e17 e18 (.inr (4, [.ref 20])) (.inl (1, 16, .inr (.inl f))) e21 e22 e23 e24 e25 e26 e27 e28 e29 e30 e31 e32 e33 e34 e35 e36), kc, kn) O := by
  refine J.gp ok_Rw_set 1 (1, [(0, .ref 19), (1, .int (nI j)), (2, .long x)], [.int (nI j)], _, _, _) rfl ?_
  refine J.ifF ok_Rw_set (fun x => x < 0) 20 4 rfl (nI_pos (by omega)) ?_
  refine J.gp ok_Rw_set 4 (10, [(0, .ref 19), (1, .int (nI j)), (2, .long x)], [.int 16, .int (nI j)], _, _, _) rfl ?_
  refine J.icF ok_Rw_set (fun x y => y ≤ x) 20 13 rfl (fun h9 => absurd ((nI_leI (a := 16) (b := j) (by omega) (by omega)).mp h9) (by omega)) ?_
  refine J.gp ok_Rw_set 4 (19, [(0, .ref 19), (1, .int (nI j)), (2, .long x)], [.long x, .int (nI j), .ref 20], _, _, _) rfl ?_
  refine J.lastB ok_Rw_set 20 j rfl rfl (rfl) (by omega) (by decide) ?_
  refine J.gp ok_Rw_set 0 (20, [(0, .ref 19), (1, .int (nI j)), (2, .long x)], [], (HP e0 e1 e2 e3 e4 e5 e6 e7 e8 e9 e10 e11 e12 e13 e14 e15 e16 e17 e18 (.inr (4, [.ref 20])) (.inl (1, 16, .inr (.inl (vp_updL f j x)))) e21 e22 e23 e24 e25 e26 e27 e28 e29 e30 e31 e32 e33 e34 e35 e36), kc, kn) rfl ?_
  refine JR.vret (by decide +kernel) rfl ?_
  exact K1

theorem c_Rw_set_19 {e0 e1 e2 e3 e4 e5 e6 e7 e8 e9 e10 e11 e12 e13 e14 e15 e16 e17 e18 e21 e22 e23 e24 e25 e26 e27 e28 e29 e30 e31 e32 e33 e34 e35 e36 : va_E} {f : Nat → Int64} {j : Nat} {x : Int64} (hj : j < 16) : JE M_Rw_set [.ref 19, .int (nI j), .long x] (HP e0 e1 e2 e3 e4 e5 e6 e7 e8 e9 e10 e11 e12 e13 e14 e15 e16 e17 e18 (.inr (4, [.ref 20])) (.inl (1, 16, .inr (.inl f))) e21 e22 e23 e24 e25 e26 e27 e28 e29 e30 e31 e32 e33 e34 e35 e36) none (HP e0 e1 e2 e3 e4 e5 e6 e7 e8 e9 e10 e11 e12 e13 e14 e15 e16 e17 e18 (.inr (4, [.ref 20])) (.inl (1, 16, .inr (.inl (vp_updL f j x)))) e21 e22 e23 e24 e25 e26 e27 e28 e29 e30 e31 e32 e33 e34 e35 e36) := JM.of (by decide +kernel) rfl (Nat.le_of_ble_eq_true rfl) (g_Rw_set_19 hj ⟨rfl, rfl⟩)

set_option maxRecDepth 100000 in
set_option maxHeartbeats 4000000 in
theorem g_Rw_clear_19 {sc : aScr} {e0 e1 e2 e3 e4 e5 e6 e7 e8 e9 e10 e11 e12 e13 e14 e15 e16 e17 e18 e21 e22 e23 e24 e25 e26 e27 e28 e29 e30 e31 e32 e33 e34 e35 e36 : va_E} {f : Nat → Int64} {i : Nat} {kc kn : Nat} {O : Option Value → aH → Prop} (hi : i ≤ 16) (K1 : (16 ≤ i) → O none (HP e0 e1 e2 e3 e4 e5 e6 e7 e8 e9 e10 e11 e12 e13 e14 e15 e16 e17 e18 (.inr (4, [.ref 20])) (.inl (1, 16, .inr (.inl f))) e21 e22 e23 e24 e25 e26 e27 e28 e29 e30 e31 e32 e33 e34 e35 e36)) (K2 : (i < 16) → JR M_Rw_clear sc (2, [(0, .ref 19), (1, .int (nI (i + 1)))], [], (HP e0 e1 e2 e3 e4 e5 e6 e7 e8 e9 e10 e11 e12 e13 e14 e15 e16 e17 e18 (.inr (4, [.ref 20])) (.inl (1, 16, .inr (.inl (vp_updL f i 0)))) e21 e22 e23 e24 e25 e26 e27 e28 e29 e30 e31 e32 e33 e34 e35 e36), kc, kn) O) : JR M_Rw_clear sc (2, [(0, .ref 19), (1, .int (nI i))], [], (HP e0 e1 e2 e3 e4 e5 e6 e7 e8 e9 e10 e11 e12 e13 e14 e15 e16 e17 e18 (.inr (4, [.ref 20])) (.inl (1, 16, .inr (.inl f))) e21 e22 e23 e24 e25 e26 e27 e28 e29 e30 e31 e32 e33 e34 e35 e36), kc, kn) O := by
  refine J.gp ok_Rw_clear 4 (8, [(0, .ref 19), (1, .int (nI i))], [.int 16, .int (nI i)], _, _, _) rfl ?_
  refine J.icB ok_Rw_clear (fun x y => y ≤ x) 24 11 rfl (fun (h0 : 16 ≤ nI i) => ?_) (fun (h0 : ¬ (16 ≤ nI i)) => ?_)
  · have c8 : 16 ≤ i := (nI_leI (a := 16) (b := i) (by omega) (by omega)).mp h0
    refine JR.vret (by decide +kernel) rfl ?_
    exact K1 c8
  · have c8 : i < 16 := Nat.not_le.mp (fun h9 => h0 ((nI_leI (a := 16) (b := i) (by omega) (by omega)).mpr h9))
    refine J.gp ok_Rw_clear 4 (17, [(0, .ref 19), (1, .int (nI i))], [.long 0, .int (nI i), .ref 20], _, _, _) rfl ?_
    refine J.lastB ok_Rw_clear 18 i rfl rfl (rfl) (by omega) (by decide) ?_
    refine J.gp ok_Rw_clear 0 (18, [(0, .ref 19), (1, .int (nI i))], [], (HP e0 e1 e2 e3 e4 e5 e6 e7 e8 e9 e10 e11 e12 e13 e14 e15 e16 e17 e18 (.inr (4, [.ref 20])) (.inl (1, 16, .inr (.inl (vp_updL f i 0)))) e21 e22 e23 e24 e25 e26 e27 e28 e29 e30 e31 e32 e33 e34 e35 e36), kc, kn) rfl ?_
    refine J.gp ok_Rw_clear 1 (21, [(0, .ref 19), (1, .int (nI i + 1))], [], _, _, _) rfl ?_
    rw [show ((nI i + 1) : Int32) = nI (i + 1) from nI_add i 1]
    refine J.gp ok_Rw_clear 1 (2, [(0, .ref 19), (1, .int (nI (i + 1)))], [], _, _, _) rfl ?_
    exact K2 c8

theorem c_Rw_clear_19 {e0 e1 e2 e3 e4 e5 e6 e7 e8 e9 e10 e11 e12 e13 e14 e15 e16 e17 e18 e21 e22 e23 e24 e25 e26 e27 e28 e29 e30 e31 e32 e33 e34 e35 e36 : va_E} {f : Nat → Int64} : JE M_Rw_clear [.ref 19] (HP e0 e1 e2 e3 e4 e5 e6 e7 e8 e9 e10 e11 e12 e13 e14 e15 e16 e17 e18 (.inr (4, [.ref 20])) (.inl (1, 16, .inr (.inl f))) e21 e22 e23 e24 e25 e26 e27 e28 e29 e30 e31 e32 e33 e34 e35 e36) none (HP e0 e1 e2 e3 e4 e5 e6 e7 e8 e9 e10 e11 e12 e13 e14 e15 e16 e17 e18 (.inr (4, [.ref 20])) (.inl (1, 16, .inr (.inl (fun _ => 0)))) e21 e22 e23 e24 e25 e26 e27 e28 e29 e30 e31 e32 e33 e34 e35 e36) := by
  refine JM.of (by decide +kernel) rfl (Nat.le_of_ble_eq_true rfl) ?_
  refine J.gp ok_Rw_clear 2 (2, [(0, .ref 19), (1, .int (nI 0))], [], (HP e0 e1 e2 e3 e4 e5 e6 e7 e8 e9 e10 e11 e12 e13 e14 e15 e16 e17 e18 (.inr (4, [.ref 20])) (.inl (1, 16, .inr (.inl f))) e21 e22 e23 e24 e25 e26 e27 e28 e29 e30 e31 e32 e33 e34 e35 e36), 0, 0) rfl ?_
  have K := loopN (P := fun i => JR M_Rw_clear none (2, [(0, .ref 19), (1, .int (nI i))], [], (HP e0 e1 e2 e3 e4 e5 e6 e7 e8 e9 e10 e11 e12 e13 e14 e15 e16 e17 e18 (.inr (4, [.ref 20])) (.inl (1, 16, .inr (.inl (cpf f (fun _ => 0) i)))) e21 e22 e23 e24 e25 e26 e27 e28 e29 e30 e31 e32 e33 e34 e35 e36), 0, 0) (OE none (HP e0 e1 e2 e3 e4 e5 e6 e7 e8 e9 e10 e11 e12 e13 e14 e15 e16 e17 e18 (.inr (4, [.ref 20])) (.inl (1, 16, .inr (.inl (fun _ => 0)))) e21 e22 e23 e24 e25 e26 e27 e28 e29 e30 e31 e32 e33 e34 e35 e36))) (b := 16) ?_ (fun i hi ih => ?_) 0 (Nat.zero_le _)
  · rw [cpf_0] at K
    exact K
  · refine JR.hqs 20 _ (.inl (1, 16, .inr (.inl (fun _ => 0)))) rfl (eqL (fun j hj => if_pos hj)) ?_
    exact g_Rw_clear_19 (i := 16) (f := fun _ => 0) (Nat.le_refl _) (fun _ => ⟨rfl, rfl⟩) (fun c => absurd c (by omega))
  · exact g_Rw_clear_19 (i := i) (f := cpf f (fun _ => 0) i) (by omega) (fun c => absurd c (by omega)) (fun _ => by rw [cpf_up f (fun _ => 0) i]; exact ih)

set_option maxRecDepth 100000 in
set_option maxHeartbeats 4000000 in
theorem g_Rw_get_21 {sc : aScr} {e0 e1 e2 e3 e4 e5 e6 e7 e8 e9 e10 e11 e12 e13 e14 e15 e16 e17 e18 e19 e20 e23 e24 e25 e26 e27 e28 e29 e30 e31 e32 e33 e34 e35 e36 : va_E} {f : Nat → Int64} {j : Nat} {kc kn : Nat} {O : Option Value → aH → Prop} (hj : j < 4) (K1 : O (some (.long (f j))) (HP e0 e1 e2 e3 e4 e5 e6 e7 e8 e9 e10 e11 e12 e13 e14 e15 e16 e17 e18 e19 e20 (.inr (4, [.ref 22])) (.inl (1, 4, .inr (.inl f))) e23 e24 e25 e26 e27 e28 e29 e30 e31 e32 e33 e34 e35 e36)) : JR M_Rw_get sc (0, [(0, .ref 21), (1, .int (nI j))], [], (HP e0 e1 e2 e3 e4 e5 e6 e7 e8 e9 e10 e11 e12 e13 e14 e15 e16 e17 e18 e19 e20 (.inr (4, [.ref 22])) (.inl (1, 4, .inr (.inl f))) e23 e24 e25 e26 e27 e28 e29 e30 e31 e32 e33 e34 e35 e36), kc, kn) O := by
  refine J.gp ok_Rw_get 1 (1, [(0, .ref 21), (1, .int (nI j))], [.int (nI j)], _, _, _) rfl ?_
  refine J.ifF ok_Rw_get (fun x => x < 0) 22 4 rfl (nI_pos (by omega)) ?_
  refine J.gp ok_Rw_get 4 (10, [(0, .ref 21), (1, .int (nI j))], [.int 4, .int (nI j)], _, _, _) rfl ?_
  refine J.icF ok_Rw_get (fun x y => y ≤ x) 22 13 rfl (fun h9 => absurd ((nI_leI (a := 4) (b := j) (by omega) (by omega)).mp h9) (by omega)) ?_
  refine J.gp ok_Rw_get 3 (18, [(0, .ref 21), (1, .int (nI j))], [.int (nI j), .ref 22], _, _, _) rfl ?_
  refine J.laldB ok_Rw_get 19 j rfl rfl (rfl) (by omega) (by decide) ?_
  refine J.gp ok_Rw_get 1 (23, [(0, .ref 21), (1, .int (nI j))], [.long (f j)], _, _, _) rfl ?_
  refine JR.lret (by decide +kernel) rfl ?_
  exact K1

theorem c_Rw_get_21 {e0 e1 e2 e3 e4 e5 e6 e7 e8 e9 e10 e11 e12 e13 e14 e15 e16 e17 e18 e19 e20 e23 e24 e25 e26 e27 e28 e29 e30 e31 e32 e33 e34 e35 e36 : va_E} {f : Nat → Int64} {j : Nat} (hj : j < 4) : JE M_Rw_get [.ref 21, .int (nI j)] (HP e0 e1 e2 e3 e4 e5 e6 e7 e8 e9 e10 e11 e12 e13 e14 e15 e16 e17 e18 e19 e20 (.inr (4, [.ref 22])) (.inl (1, 4, .inr (.inl f))) e23 e24 e25 e26 e27 e28 e29 e30 e31 e32 e33 e34 e35 e36) (some (.long (f j))) (HP e0 e1 e2 e3 e4 e5 e6 e7 e8 e9 e10 e11 e12 e13 e14 e15 e16 e17 e18 e19 e20 (.inr (4, [.ref 22])) (.inl (1, 4, .inr (.inl f))) e23 e24 e25 e26 e27 e28 e29 e30 e31 e32 e33 e34 e35 e36) := JM.of (by decide +kernel) rfl (Nat.le_of_ble_eq_true rfl) (g_Rw_get_21 hj ⟨rfl, rfl⟩)

set_option maxRecDepth 100000 in
set_option maxHeartbeats 4000000 in
theorem g_Rw_set_21 {sc : aScr} {e0 e1 e2 e3 e4 e5 e6 e7 e8 e9 e10 e11 e12 e13 e14 e15 e16 e17 e18 e19 e20 e23 e24 e25 e26 e27 e28 e29 e30 e31 e32 e33 e34 e35 e36 : va_E} {f : Nat → Int64} {j : Nat} {x : Int64} {kc kn : Nat} {O : Option Value → aH → Prop} (hj : j < 4) (K1 : O none (HP e0 e1 e2 e3 e4 e5 e6 e7 e8 e9 e10 e11 e12 e13 e14 e15 e16 e17 e18 e19 e20 (.inr (4, [.ref 22])) (.inl (1, 4, .inr (.inl (vp_updL f j x)))) e23 e24 e25 e26 e27 e28 e29 e30 e31 e32 e33 e34 e35 e36)) : JR M_Rw_set sc (0, [(0, .ref 21), (1, .int (nI j)), (2, .long x)], [], (HP e0 e1 e2 e3 e4 e5 e6 e7 e8 e9 e10 e11 e12 e13 e14 e15 e16 e17 e18 e19 e20 (.inr (4, [.ref 22])) (.inl (1, 4, .inr (.inl f))) e23 e24 e25 e26 e27 e28 e29 e30 e31 e32 e33 e34 e35 e36), kc, kn) O := by
  refine J.gp ok_Rw_set 1 (1, [(0, .ref 21), (1, .int (nI j)), (2, .long x)], [.int (nI j)], _, _, _) rfl ?_
  refine J.ifF ok_Rw_set (fun x => x < 0) 20 4 rfl (nI_pos (by omega)) ?_
  refine J.gp ok_Rw_set 4 (10, [(0, .ref 21), (1, .int (nI j)), (2, .long x)], [.int 4, .int (nI j)], _, _, _) rfl ?_
  refine J.icF ok_Rw_set (fun x y => y ≤ x) 20 13 rfl (fun h9 => absurd ((nI_leI (a := 4) (b := j) (by omega) (by omega)).mp h9) (by omega)) ?_
  refine J.gp ok_Rw_set 4 (19, [(0, .ref 21), (1, .int (nI j)), (2, .long x)], [.long x, .int (nI j), .ref 22], _, _, _) rfl ?_
  refine J.lastB ok_Rw_set 20 j rfl rfl (rfl) (by omega) (by decide) ?_
  refine J.gp ok_Rw_set 0 (20, [(0, .ref 21), (1, .int (nI j)), (2, .long x)], [], (HP e0 e1 e2 e3 e4 e5 e6 e7 e8 e9 e10 e11 e12 e13 e14 e15 e16 e17 e18 e19 e20 (.inr (4, [.ref 22])) (.inl (1, 4, .inr (.inl (vp_updL f j x)))) e23 e24 e25 e26 e27 e28 e29 e30 e31 e32 e33 e34 e35 e36), kc, kn) rfl ?_
  refine JR.vret (by decide +kernel) rfl ?_
  exact K1

theorem c_Rw_set_21 {e0 e1 e2 e3 e4 e5 e6 e7 e8 e9 e10 e11 e12 e13 e14 e15 e16 e17 e18 e19 e20 e23 e24 e25 e26 e27 e28 e29 e30 e31 e32 e33 e34 e35 e36 : va_E} {f : Nat → Int64} {j : Nat} {x : Int64} (hj : j < 4) : JE M_Rw_set [.ref 21, .int (nI j), .long x] (HP e0 e1 e2 e3 e4 e5 e6 e7 e8 e9 e10 e11 e12 e13 e14 e15 e16 e17 e18 e19 e20 (.inr (4, [.ref 22])) (.inl (1, 4, .inr (.inl f))) e23 e24 e25 e26 e27 e28 e29 e30 e31 e32 e33 e34 e35 e36) none (HP e0 e1 e2 e3 e4 e5 e6 e7 e8 e9 e10 e11 e12 e13 e14 e15 e16 e17 e18 e19 e20 (.inr (4, [.ref 22])) (.inl (1, 4, .inr (.inl (vp_updL f j x)))) e23 e24 e25 e26 e27 e28 e29 e30 e31 e32 e33 e34 e35 e36) := JM.of (by decide +kernel) rfl (Nat.le_of_ble_eq_true rfl) (g_Rw_set_21 hj ⟨rfl, rfl⟩)

set_option maxRecDepth 100000 in
set_option maxHeartbeats 4000000 in
theorem g_Rw_add_21 {sc : aScr} {e0 e1 e2 e3 e4 e5 e6 e7 e8 e9 e10 e11 e12 e13 e14 e15 e16 e17 e18 e19 e20 e23 e24 e25 e26 e27 e28 e29 e30 e31 e32 e33 e34 e35 e36 : va_E} {f : Nat → Int64} {j : Nat} {x : Int64} {kc kn : Nat} {O : Option Value → aH → Prop} (hj : j < 4) (K1 : O none (HP e0 e1 e2 e3 e4 e5 e6 e7 e8 e9 e10 e11 e12 e13 e14 e15 e16 e17 e18 e19 e20 (.inr (4, [.ref 22])) (.inl (1, 4, .inr (.inl (vp_updL f j ((f j) + x))))) e23 e24 e25 e26 e27 e28 e29 e30 e31 e32 e33 e34 e35 e36)) : JR M_Rw_add sc (0, [(0, .ref 21), (1, .int (nI j)), (2, .long x)], [], (HP e0 e1 e2 e3 e4 e5 e6 e7 e8 e9 e10 e11 e12 e13 e14 e15 e16 e17 e18 e19 e20 (.inr (4, [.ref 22])) (.inl (1, 4, .inr (.inl f))) e23 e24 e25 e26 e27 e28 e29 e30 e31 e32 e33 e34 e35 e36), kc, kn) O := by
  refine J.gp ok_Rw_add 1 (1, [(0, .ref 21), (1, .int (nI j)), (2, .long x)], [.int (nI j)], _, _, _) rfl ?_
  refine J.ifF ok_Rw_add (fun x => x < 0) 23 4 rfl (nI_pos (by omega)) ?_
  refine J.gp ok_Rw_add 4 (10, [(0, .ref 21), (1, .int (nI j)), (2, .long x)], [.int 4, .int (nI j)], _, _, _) rfl ?_
  refine J.icF ok_Rw_add (fun x y => y ≤ x) 23 13 rfl (fun h9 => absurd ((nI_leI (a := 4) (b := j) (by omega) (by omega)).mp h9) (by omega)) ?_
  refine J.gp ok_Rw_add 4 (19, [(0, .ref 21), (1, .int (nI j)), (2, .long x)], [.int (nI j), .ref 22, .int (nI j), .ref 22], _, _, _) rfl ?_
  refine J.laldB ok_Rw_add 20 j rfl rfl (rfl) (by omega) (by decide) ?_
  refine J.gp ok_Rw_add 2 (22, [(0, .ref 21), (1, .int (nI j)), (2, .long x)], [.long ((f j) + x), .int (nI j), .ref 22], _, _, _) rfl ?_
  refine J.lastB ok_Rw_add 23 j rfl rfl (rfl) (by omega) (by decide) ?_
  refine J.gp ok_Rw_add 0 (23, [(0, .ref 21), (1, .int (nI j)), (2, .long x)], [], (HP e0 e1 e2 e3 e4 e5 e6 e7 e8 e9 e10 e11 e12 e13 e14 e15 e16 e17 e18 e19 e20 (.inr (4, [.ref 22])) (.inl (1, 4, .inr (.inl (vp_updL f j ((f j) + x))))) e23 e24 e25 e26 e27 e28 e29 e30 e31 e32 e33 e34 e35 e36), kc, kn) rfl ?_
  refine JR.vret (by decide +kernel) rfl ?_
  exact K1

theorem c_Rw_add_21 {e0 e1 e2 e3 e4 e5 e6 e7 e8 e9 e10 e11 e12 e13 e14 e15 e16 e17 e18 e19 e20 e23 e24 e25 e26 e27 e28 e29 e30 e31 e32 e33 e34 e35 e36 : va_E} {f : Nat → Int64} {j : Nat} {x : Int64} (hj : j < 4) : JE M_Rw_add [.ref 21, .int (nI j), .long x] (HP e0 e1 e2 e3 e4 e5 e6 e7 e8 e9 e10 e11 e12 e13 e14 e15 e16 e17 e18 e19 e20 (.inr (4, [.ref 22])) (.inl (1, 4, .inr (.inl f))) e23 e24 e25 e26 e27 e28 e29 e30 e31 e32 e33 e34 e35 e36) none (HP e0 e1 e2 e3 e4 e5 e6 e7 e8 e9 e10 e11 e12 e13 e14 e15 e16 e17 e18 e19 e20 (.inr (4, [.ref 22])) (.inl (1, 4, .inr (.inl (vp_updL f j (f j + x))))) e23 e24 e25 e26 e27 e28 e29 e30 e31 e32 e33 e34 e35 e36) := JM.of (by decide +kernel) rfl (Nat.le_of_ble_eq_true rfl) (g_Rw_add_21 hj ⟨rfl, rfl⟩)

set_option maxRecDepth 100000 in
set_option maxHeartbeats 4000000 in
theorem g_Rw_clear_21 {sc : aScr} {e0 e1 e2 e3 e4 e5 e6 e7 e8 e9 e10 e11 e12 e13 e14 e15 e16 e17 e18 e19 e20 e23 e24 e25 e26 e27 e28 e29 e30 e31 e32 e33 e34 e35 e36 : va_E} {f : Nat → Int64} {i : Nat} {kc kn : Nat} {O : Option Value → aH → Prop} (hi : i ≤ 4) (K1 : (4 ≤ i) → O none (HP e0 e1 e2 e3 e4 e5 e6 e7 e8 e9 e10 e11 e12 e13 e14 e15 e16 e17 e18 e19 e20 (.inr (4, [.ref 22])) (.inl (1, 4, .inr (.inl f))) e23 e24 e25 e26 e27 e28 e29 e30 e31 e32 e33 e34 e35 e36)) (K2 : (i < 4) → JR M_Rw_clear sc (2, [(0, .ref 21), (1, .int (nI (i + 1)))], [], (HP e0 e1 e2 e3 e4 e5 e6 e7 e8 e9 e10 e11 e12 e13 e14 e15 e16 e17 e18 e19 e20 (.inr (4, [.ref 22])) (.inl (1, 4, .inr (.inl (vp_updL f i 0)))) e23 e24 e25 e26 e27 e28 e29 e30 e31 e32 e33 e34 e35 e36), kc, kn) O) : JR M_Rw_clear sc (2, [(0, .ref 21), (1, .int (nI i))], [], (HP e0 e1 e2 e3 e4 e5 e6 e7 e8 e9 e10 e11 e12 e13 e14 e15 e16 e17 e18 e19 e20 (.inr (4, [.ref 22])) (.inl (1, 4, .inr (.inl f))) e23 e24 e25 e26 e27 e28 e29 e30 e31 e32 e33 e34 e35 e36), kc, kn) O := by
  refine J.gp ok_Rw_clear 4 (8, [(0, .ref 21), (1, .int (nI i))], [.int 4, .int (nI i)], _, _, _) rfl ?_
  refine J.icB ok_Rw_clear (fun x y => y ≤ x) 24 11 rfl (fun (h0 : 4 ≤ nI i) => ?_) (fun (h0 : ¬ (4 ≤ nI i)) => ?_)
  · have c8 : 4 ≤ i := (nI_leI (a := 4) (b := i) (by omega) (by omega)).mp h0
    refine JR.vret (by decide +kernel) rfl ?_
    exact K1 c8
  · have c8 : i < 4 := Nat.not_le.mp (fun h9 => h0 ((nI_leI (a := 4) (b := i) (by omega) (by omega)).mpr h9))
    refine J.gp ok_Rw_clear 4 (17, [(0, .ref 21), (1, .int (nI i))], [.long 0, .int (nI i), .ref 22], _, _, _) rfl ?_
    refine J.lastB ok_Rw_clear 18 i rfl rfl (rfl) (by omega) (by decide) ?_
    refine J.gp ok_Rw_clear 0 (18, [(0, .ref 21), (1, .int (nI i))], [], (HP e0 e1 e2 e3 e4 e5 e6 e7 e8 e9 e10 e11 e12 e13 e14 e15 e16 e17 e18 e19 e20 (.inr (4, [.ref 22])) (.inl (1, 4, .inr (.inl (vp_updL f i 0)))) e23 e24 e25 e26 e27 e28 e29 e30 e31 e32 e33 e34 e35 e36), kc, kn) rfl ?_
    refine J.gp ok_Rw_clear 1 (21, [(0, .ref 21), (1, .int (nI i + 1))], [], _, _, _) rfl ?_
    rw [show ((nI i + 1) : Int32) = nI (i + 1) from nI_add i 1]
    refine J.gp ok_Rw_clear 1 (2, [(0, .ref 21), (1, .int (nI (i + 1)))], [], _, _, _) rfl ?_
    exact K2 c8

theorem c_Rw_clear_21 {e0 e1 e2 e3 e4 e5 e6 e7 e8 e9 e10 e11 e12 e13 e14 e15 e16 e17 e18 e19 e20 e23 e24 e25 e26 e27 e28 e29 e30 e31 e32 e33 e34 e35 e36 : va_E} {f : Nat → Int64} : JE M_Rw_clear [.ref 21] (HP e0 e1 e2 e3 e4 e5 e6 e7 e8 e9 e10 e11 e12 e13 e14 e15 e16 e17 e18 e19 e20 (.inr (4, [.ref 22])) (.inl (1, 4, .inr (.inl f))) e23 e24 e25 e26 e27 e28 e29 e30 e31 e32 e33 e34 e35 e36) none (HP e0 e1 e2 e3 e4 e5 e6 e7 e8 e9 e10 e11 e12 e13 e14 e15 e16 e17 e18 e19 e20 (.inr (4, [.ref 22])) (.inl (1, 4, .inr (.inl (fun _ => 0)))) e23 e24 e25 e26 e27 e28 e29 e30 e31 e32 e33 e34 e35 e36) := by
  refine JM.of (by decide +kernel) rfl (Nat.le_of_ble_eq_true rfl) ?_
  refine J.gp ok_Rw_clear 2 (2, [(0, .ref 21), (1, .int (nI 0))], [], (HP e0 e1 e2 e3 e4 e5 e6 e7 e8 e9 e10 e11 e12 e13 e14 e15 e16 e17 e18 e19 e20 (.inr (4, [.ref 22])) (.inl (1, 4, .inr (.inl f))) e23 e24 e25 e26 e27 e28 e29 e30 e31 e32 e33 e34 e35 e36), 0, 0) rfl ?_
  have K := loopN (P := fun i => JR M_Rw_clear none (2, [(0, .ref 21), (1, .int (nI i))], [], (HP e0 e1 e2 e3 e4 e5 e6 e7 e8 e9 e10 e11 e12 e13 e14 e15 e16 e17 e18 e19 e20 (.inr (4, [.ref 22])) (.inl (1, 4, .inr (.inl (cpf f (fun _ => 0) i)))) e23 e24 e25 e26 e27 e28 e29 e30 e31 e32 e33 e34 e35 e36), 0, 0) (OE none (HP e0 e1 e2 e3 e4 e5 e6 e7 e8 e9 e10 e11 e12 e13 e14 e15 e16 e17 e18 e19 e20 (.inr (4, [.ref 22])) (.inl (1, 4, .inr (.inl (fun _ => 0)))) e23 e24 e25 e26 e27 e28 e29 e30 e31 e32 e33 e34 e35 e36))) (b := 4) ?_ (fun i hi ih => ?_) 0 (Nat.zero_le _)
  · rw [cpf_0] at K
    exact K
  · refine JR.hqs 22 _ (.inl (1, 4, .inr (.inl (fun _ => 0)))) rfl (eqL (fun j hj => if_pos hj)) ?_
    exact g_Rw_clear_21 (i := 4) (f := fun _ => 0) (Nat.le_refl _) (fun _ => ⟨rfl, rfl⟩) (fun c => absurd c (by omega))
  · exact g_Rw_clear_21 (i := i) (f := cpf f (fun _ => 0) i) (by omega) (fun c => absurd c (by omega)) (fun _ => by rw [cpf_up f (fun _ => 0) i]; exact ih)

set_option maxRecDepth 100000 in
set_option maxHeartbeats 4000000 in
theorem g_Rw_get_23 {sc : aScr} {e0 e1 e2 e3 e4 e5 e6 e7 e8 e9 e10 e11 e12 e13 e14 e15 e16 e17 e18 e19 e20 e21 e22 e25 e26 e27 e28 e29 e30 e31 e32 e33 e34 e35 e36 : va_E} {f : Nat → Int64} {j : Nat} {kc kn : Nat} {O : Option Value → aH → Prop} (hj : j < 4) (K1 : O (some (.long (f j))) (HP e0 e1 e2 e3 e4 e5 e6 e7 e8 e9 e10 e11 e12 e13 e14 e15 e16 e17 e18 e19 e20 e21 e22 (.inr (4, [.ref 24])) (.inl (1, 4, .inr (.inl f))) e25 e26 e27 e28 e29 e30 e31 e32 e33 e34 e35 e36)) : JR M_Rw_get sc (0, [(0, .ref 23), (1, .int (nI j))], [], (HP e0 e1 e2 e3 e4 e5 e6 e7 e8 e9 e10 e11 e12 e13 e14 e15 e16 e17 e18 e19 e20 e21 e22 (.inr (4, [.ref 24])) (.inl (1, 4, .inr (.inl f))) e25 e26 e27 e28 e29 e30 e31 e32 e33 e34 e35 e36), kc, kn) O := by
  refine J.gp ok_Rw_get 1 (1, [(0, .ref 23), (1, .int (nI j))], [.int (nI j)], _, _, _) rfl ?_
  refine J.ifF ok_Rw_get (fun x => x < 0) 22 4 rfl (nI_pos (by omega)) ?_
  refine J.gp ok_Rw_get 4 (10, [(0, .ref 23), (1, .int (nI j))], [.int 4, .int (nI j)], _, _, _) rfl ?_
  refine J.icF ok_Rw_get (fun x y => y ≤ x) 22 13 rfl (fun h9 => absurd ((nI_leI (a := 4) (b := j) (by omega) (by omega)).mp h9) (by omega)) ?_
  refine J.gp ok_Rw_get 3 (18, [(0, .ref 23), (1, .int (nI j))], [.int (nI j), .ref 24], _, _, _) rfl ?_
  refine J.laldB ok_Rw_get 19 j rfl rfl (rfl) (by omega) (by decide) ?_
  refine J.gp ok_Rw_get 1 (23, [(0, .ref 23), (1, .int (nI j))], [.long (f j)], _, _, _) rfl ?_
  refine JR.lret (by decide +kernel) rfl ?_
  exact K1

theorem c_Rw_get_23 {e0 e1 e2 e3 e4 e5 e6 e7 e8 e9 e10 e11 e12 e13 e14 e15 e16 e17 e18 e19 e20 e21 e22 e25 e26 e27 e28 e29 e30 e31 e32 e33 e34 e35 e36 : va_E} {f : Nat → Int64} {j : Nat} (hj : j < 4) : JE M_Rw_get [.ref 23, .int (nI j)] (HP e0 e1 e2 e3 e4 e5 e6 e7 e8 e9 e10 e11 e12 e13 e14 e15 e16 e17 e18 e19 e20 e21 e22 (.inr (4, [.ref 24])) (.inl (1, 4, .inr (.inl f))) e25 e26 e27 e28 e29 e30 e31 e32 e33 e34 e35 e36) (some (.long (f j))) (HP e0 e1 e2 e3 e4 e5 e6 e7 e8 e9 e10 e11 e12 e13 e14 e15 e16 e17 e18 e19 e20 e21 e22 (.inr (4, [.ref 24])) (.inl (1, 4, .inr (.inl f))) e25 e26 e27 e28 e29 e30 e31 e32 e33 e34 e35 e36) := JM.of (by decide +kernel) rfl (Nat.le_of_ble_eq_true rfl) (g_Rw_get_23 hj ⟨rfl, rfl⟩)

set_option maxRecDepth 100000 in
set_option maxHeartbeats 4000000 in
theorem g_Rw_set_23 {sc : aScr} {e0 e1 e2 e3 e4 e5 e6 e7 e8 e9 e10 e11 e12 e13 e14 e15 e16 e17 e18 e19 e20 e21 e22 e25 e26 e27 e28 e29 e30 e31 e32 e33 e34 e35 e36 : va_E} {f : Nat → Int64} {j : Nat} {x : Int64} {kc kn : Nat} {O : Option Value → aH → Prop} (hj : j < 4) (K1 : O none (HP e0 e1 e2 e3 e4 e5 e6 e7 e8 e9 e10 e11 e12 e13 e14 e15 e16 e17 e18 e19 e20 e21 e22 (.inr (4, [.ref 24])) (.inl (1, 4, .inr (.inl (vp_updL f j x)))) e25 e26 e27 e28 e29 e30 e31 e32 e33 e34 e35 e36)) : JR M_Rw_set sc (0, [(0, .ref 23), (1, .int (nI j)), (2, .long x)], [], (HP e0 e1 e2 e3 e4 e5 e6 e7 e8 e9 e10 e11 e12 e13 e14 e15 e16 e17 e18 e19 e20 e21 e22 (.inr (4, [.ref 24])) (.inl (1, 4, .inr (.inl f))) e25 e26 e27 e28 e29 e30 e31 e32 e33 e34 e35 e36), kc, kn) O := by
  refine J.gp ok_Rw_set 1 (1, [(0, .ref 23), (1, .int (nI j)), (2, .long x)], [.int (nI j)], _, _, _) rfl ?_
  refine J.ifF ok_Rw_set (fun x => x < 0) 20 4 rfl (nI_pos (by omega)) ?_
  refine J.gp ok_Rw_set 4 (10, [(0, .ref 23), (1, .int (nI j)), (2, .long x)], [.int 4, .int (nI j)], _, _, _) rfl ?_
  refine J.icF ok_Rw_set (fun x y => y ≤ x) 20 13 rfl (fun h9 => absurd ((nI_leI (a := 4) (b := j) (by omega) (by omega)).mp h9) (by omega)) ?_
  refine J.gp ok_Rw_set 4 (19, [(0, .ref 23), (1, .int (nI j)), (2, .long x)], [.long x, .int (nI j), .ref 24], _, _, _) rfl ?_
  refine J.lastB ok_Rw_set 20 j rfl rfl (rfl) (by omega) (by decide) ?_
  refine J.gp ok_Rw_set 0 (20, [(0, .ref 23), (1, .int (nI j)), (2, .long x)], [], (HP e0 e1 e2 e3 e4 e5 e6 e7 e8 e9 e10 e11 e12 e13 e14 e15 e16 e17 e18 e19 e20 e21 e22 (.inr (4, [.ref 24])) (.inl (1, 4, .inr (.inl (vp_updL f j x)))) e25 e26 e27 e28 e29 e30 e31 e32 e33 e34 e35 e36), kc, kn) rfl ?_
  refine JR.vret (by decide +kernel) rfl ?_
  exact K1

theorem c_Rw_set_23 {e0 e1 e2 e3 e4 e5 e6 e7 e8 e9 e10 e11 e12 e13 e14 e15 e16 e17 e18 e19 e20 e21 e22 e25 e26 e27 e28 e29 e30 e31 e32 e33 e34 e35 e36 : va_E} {f : Nat → Int64} {j : Nat} {x : Int64} (hj : j < 4) : JE M_Rw_set [.ref 23, .int (nI j), .long x] (HP e0 e1 e2 e3 e4 e5 e6 e7 e8 e9 e10 e11 e12 e13 e14 e15 e16 e17 e18 e19 e20 e21 e22 (.inr (4, [.ref 24])) (.inl (1, 4, .inr (.inl f))) e25 e26 e27 e28 e29 e30 e31 e32 e33 e34 e35 e36) none (HP e0 e1 e2 e3 e4 e5 e6 e7 e8 e9 e10 e11 e12 e13 e14 e15 e16 e17 e18 e19 e20 e21 e22 (.inr (4, [.ref 24])) (.inl (1, 4, .inr (.inl (vp_updL f j x)))) e25 e26 e27 e28 e29 e30 e31 e32 e33 e34 e35 e36) := JM.of (by decide +kernel) rfl (Nat.le_of_ble_eq_true rfl) (g_Rw_set_23 hj ⟨rfl, rfl⟩)

set_option maxRecDepth 100000 in
set_option maxHeartbeats 4000000 in
theorem g_Rw_get_25 {sc : aScr} {e0 e1 e2 e3 e4 e5 e6 e7 e8 e9 e10 e11 e12 e13 e14 e15 e16 e17 e18 e19 e20 e21 e22 e23 e24 e27 e28 e29 e30 e31 e32 e33 e34 e35 e36 : va_E} {f : Nat → Int64} {j : Nat} {kc kn : Nat} {O : Option Value → aH → Prop} (hj : j < 4) (K1 : O (some (.long (f j))) (HP e0 e1 e2 e3 e4 e5 e6 e7 e8 e9 e10 e11 e12 e13 e14 e15 e16 e17 e18 e19 e20 e21 e22 e23 e24 (.inr (4, [.ref 26])) (.inl (1, 4, .inr (.inl f))) e27 e28 e29 e30 e31 e32 e33 e34 e35 e36)) : JR M_Rw_get sc (0, [(0, .ref 25), (1, .int (nI j))], [], (HP e0 e1 e2 e3 e4 e5 e6 e7 e8 e9 e10 e11 e12 e13 e14 e15 e16 e17 e18 e19 e20 e21 e22 e23 e24 (.inr (4, [.ref 26])) (.inl (1, 4, .inr (.inl f))) e27 e28 e29 e30 e31 e32 e33 e34 e35 e36), kc, kn) O := by
  refine J.gp ok_Rw_get 1 (1, [(0, .ref 25), (1, .int (nI j))], [.int (nI j)], _, _, _) rfl ?_
  refine J.ifF ok_Rw_get (fun x => x < 0) 22 4 rfl (nI_pos (by omega)) ?_
  refine J.gp ok_Rw_get 4 (10, [(0, .ref 25), (1, .int (nI j))], [.int 4, .int (nI j)], _, _, _) rfl ?_
  refine J.icF ok_Rw_get (fun x y => y ≤ x) 22 13 rfl (fun h9 => absurd ((nI_leI (a := 4) (b := j) (by omega) (by omega)).mp h9) (by omega)) ?_
  refine J.gp ok_Rw_get 3 (18, [(0, .ref 25), (1, .int (nI j))], [.int (nI j), .ref 26], _, _, _) rfl ?_
  refine J.laldB ok_Rw_get 19 j rfl rfl (rfl) (by omega) (by decide) ?_
  refine J.gp ok_Rw_get 1 (23, [(0, .ref 25), (1, .int (nI j))], [.long (f j)], _, _, _) rfl ?_
  refine JR.lret (by decide +kernel) rfl ?_
  exact K1

theorem c_Rw_get_25 {e0 e1 e2 e3 e4 e5 e6 e7 e8 e9 e10 e11 e12 e13 e14 e15 e16 e17 e18 e19 e20 e21 e22 e23 e24 e27 e28 e29 e30 e31 e32 e33 e34 e35 e36 : va_E} {f : Nat → Int64} {j : Nat} (hj : j < 4) : JE M_Rw_get [.ref 25, .int (nI j)] (HP e0 e1 e2 e3 e4 e5 e6 e7 e8 e9 e10 e11 e12 e13 e14 e15 e16 e17 e18 e19 e20 e21 e22 e23 e24 (.inr (4, [.ref 26])) (.inl (1, 4, .inr (.inl f))) e27 e28 e29 e30 e31 e32 e33 e34 e35 e36) (some (.long (f j))) (HP e0 e1 e2 e3 e4 e5 e6 e7 e8 e9 e10 e11 e12 e13 e14 e15 e16 e17 e18 e19 e20 e21 e22 e23 e24 (.inr (4, [.ref 26])) (.inl (1, 4, .inr (.inl f))) e27 e28 e29 e30 e31 e32 e33 e34 e35 e36) := JM.of (by decide +kernel) rfl (Nat.le_of_ble_eq_true rfl) (g_Rw_get_25 hj ⟨rfl, rfl⟩)

set_option maxRecDepth 100000 in
set_option maxHeartbeats 4000000 in
theorem g_Rw_set_25 {sc : aScr} {e0 e1 e2 e3 e4 e5 e6 e7 e8 e9 e10 e11 e12 e13 e14 e15 e16 e17 e18 e19 e20 e21 e22 e23 e24 e27 e28 e29 e30 e31 e32 e33 e34 e35 e36 : va_E} {f : Nat → Int64} {j : Nat} {x : Int64} {kc kn : Nat} {O : Option Value → aH → Prop} (hj : j < 4) (K1 : O none (HP e0 e1 e2 e3 e4 e5 e6 e7 e8 e9 e10 e11 e12 e13 e14 e15 e16 e17 e18 e19 e20 e21 e22 e23 e24 (.inr (4, [.ref 26])) (.inl (1, 4, .inr (.inl (vp_updL f j x)))) e27 e28 e29 e30 e31 e32 e33 e34 e35 e36)) : JR M_Rw_set sc (0, [(0, .ref 25), (1, .int (nI j)), (2, .long x)], [], (HP e0 e1 e2 e3 e4 e5 e6 e7 e8 e9 e10 e11 e12 e13 e14 e15 e16 e17 e18 e19 e20 e21 e22 e23 e24 (.inr (4, [.ref 26])) (.inl (1, 4, .inr (.inl f))) e27 e28 e29 e30 e31 e32 e33 e34 e35 e36), kc, kn) O := by
  refine J.gp ok_Rw_set 1 (1, [(0, .ref 25), (1, .int (nI j)), (2, .long x)], [.int (nI j)], _, _, _) rfl ?_
  refine J.ifF ok_Rw_set (fun x => x < 0) 20 4 rfl (nI_pos (by omega)) ?_
  refine J.gp ok_Rw_set 4 (10, [(0, .ref 25), (1, .int (nI j)), (2, .long x)], [.int 4, .int (nI j)], _, _, _) rfl ?_
  refine J.icF ok_Rw_set (fun x y => y ≤ x) 20 13 rfl (fun h9 => absurd ((nI_leI (a := 4) (b := j) (by omega) (by omega)).mp h9) (by omega)) ?_
  refine J.gp ok_Rw_set 4 (19, [(0, .ref 25), (1, .int (nI j)), (2, .long x)], [.long x, .int (nI j), .ref 26], _, _, _) rfl ?_
  refine J.lastB ok_Rw_set 20 j rfl rfl (rfl) (by omega) (by decide) ?_
  refine J.gp ok_Rw_set 0 (20, [(0, .ref 25), (1, .int (nI j)), (2, .long x)], [], (HP e0 e1 e2 e3 e4 e5 e6 e7 e8 e9 e10 e11 e12 e13 e14 e15 e16 e17 e18 e19 e20 e21 e22 e23 e24 (.inr (4, [.ref 26])) (.inl (1, 4, .inr (.inl (vp_updL f j x)))) e27 e28 e29 e30 e31 e32 e33 e34 e35 e36), kc, kn) rfl ?_
  refine JR.vret (by decide +kernel) rfl ?_
  exact K1

theorem c_Rw_set_25 {e0 e1 e2 e3 e4 e5 e6 e7 e8 e9 e10 e11 e12 e13 e14 e15 e16 e17 e18 e19 e20 e21 e22 e23 e24 e27 e28 e29 e30 e31 e32 e33 e34 e35 e36 : va_E} {f : Nat → Int64} {j : Nat} {x : Int64} (hj : j < 4) : JE M_Rw_set [.ref 25, .int (nI j), .long x] (HP e0 e1 e2 e3 e4 e5 e6 e7 e8 e9 e10 e11 e12 e13 e14 e15 e16 e17 e18 e19 e20 e21 e22 e23 e24 (.inr (4, [.ref 26])) (.inl (1, 4, .inr (.inl f))) e27 e28 e29 e30 e31 e32 e33 e34 e35 e36) none (HP e0 e1 e2 e3 e4 e5 e6 e7 e8 e9 e10 e11 e12 e13 e14 e15 e16 e17 e18 e19 e20 e21 e22 e23 e24 (.inr (4, [.ref 26])) (.inl (1, 4, .inr (.inl (vp_updL f j x)))) e27 e28 e29 e30 e31 e32 e33 e34 e35 e36) := JM.of (by decide +kernel) rfl (Nat.le_of_ble_eq_true rfl) (g_Rw_set_25 hj ⟨rfl, rfl⟩)

set_option maxRecDepth 100000 in
set_option maxHeartbeats 4000000 in
theorem g_Rw_get_27 {sc : aScr} {e0 e1 e2 e3 e4 e5 e6 e7 e8 e9 e10 e11 e12 e13 e14 e15 e16 e17 e18 e19 e20 e21 e22 e23 e24 e25 e26 e29 e30 e31 e32 e33 e34 e35 e36 : va_E} {f : Nat → Int64} {j : Nat} {kc kn : Nat} {O : Option Value → aH → Prop} (hj : j < 9) (K1 : O (some (.long (f j))) (HP e0 e1 e2 e3 e4 e5 e6 e7 e8 e9 e10 e11 e12 e13 e14 e15 e16 e17 e18 e19 e20 e21 e22 e23 e24 e25 e26 (.inr (4, [.ref 28])) (.inl (1, 9, .inr (.inl f))) e29 e30 e31 e32 e33 e34 e35 e36)) : JR M_Rw_get sc (0, [(0, .ref 27), (1, .int (nI j))], [], (HP e0 e1 e2 e3 e4 e5 e6 e7 e8 e9 e10 e11 e12 e13 e14 e15 e16 e17 e18 e19 e20 e21 e22 e23 e24 e25 e26 (.inr (4, [.ref 28])) (.inl (1, 9, .inr (.inl f))) e29 e30 e31 e32 e33 e34 e35 e36), kc, kn) O := by
  refine J.gp ok_Rw_get 1 (1, [(0, .ref 27), (1, .int (nI j))], [.int (nI j)], _, _, _) rfl ?_
  refine J.ifF ok_Rw_get (fun x => x < 0) 22 4 rfl (nI_pos (by omega)) ?_
  refine J.gp ok_Rw_get 4 (10, [(0, .ref 27), (1, .int (nI j))], [.int 9, .int (nI j)], _, _, _) rfl ?_
  refine J.icF ok_Rw_get (fun x y => y ≤ x) 22 13 rfl (fun h9 => absurd ((nI_leI (a := 9) (b := j) (by omega) (by omega)).mp h9) (by omega)) ?_
  refine J.gp ok_Rw_get 3 (18, [(0, .ref 27), (1, .int (nI j))], [.int (nI j), .ref 28], _, _, _) rfl ?_
  refine J.laldB ok_Rw_get 19 j rfl rfl (rfl) (by omega) (by decide) ?_
  refine J.gp ok_Rw_get 1 (23, [(0, .ref 27), (1, .int (nI j))], [.long (f j)], _, _, _) rfl ?_
  refine JR.lret (by decide +kernel) rfl ?_
  exact K1

theorem c_Rw_get_27 {e0 e1 e2 e3 e4 e5 e6 e7 e8 e9 e10 e11 e12 e13 e14 e15 e16 e17 e18 e19 e20 e21 e22 e23 e24 e25 e26 e29 e30 e31 e32 e33 e34 e35 e36 : va_E} {f : Nat → Int64} {j : Nat} (hj : j < 9) : JE M_Rw_get [.ref 27, .int (nI j)] (HP e0 e1 e2 e3 e4 e5 e6 e7 e8 e9 e10 e11 e12 e13 e14 e15 e16 e17 e18 e19 e20 e21 e22 e23 e24 e25 e26 (.inr (4, [.ref 28])) (.inl (1, 9, .inr (.inl f))) e29 e30 e31 e32 e33 e34 e35 e36) (some (.long (f j))) (HP e0 e1 e2 e3 e4 e5 e6 e7 e8 e9 e10 e11 e12 e13 e14 e15 e16 e17 e18 e19 e20 e21 e22 e23 e24 e25 e26 (.inr (4, [.ref 28])) (.inl (1, 9, .inr (.inl f))) e29 e30 e31 e32 e33 e34 e35 e36) := JM.of (by decide +kernel) rfl (Nat.le_of_ble_eq_true rfl) (g_Rw_get_27 hj ⟨rfl, rfl⟩)

set_option maxRecDepth 100000 in
set_option maxHeartbeats 4000000 in
theorem g_Rw_set_27 {sc : aScr} {e0 e1 e2 e3 e4 e5 e6 e7 e8 e9 e10 e11 e12 e13 e14 e15 e16 e17 e18 e19 e20 e21 e22 e23 e24 e25 e26 e29 e30 e31 e32 e33 e34 e35 e36 : va_E} {f : Nat → Int64} {j : Nat} {x : Int64} {kc kn : Nat} {O : Option Value → aH → Prop} (hj : j < 9) (K1 : O none (HP e0 e1 e2 e3 e4 e5 e6 e7 e8 e9 e10 e11 e12 e13 e14 e15 e16 e17 e18 e19 e20 e21 e22 e23 e24 e25 e26 (.inr (4, [.ref 28])) (.inl (1, 9, .inr (.inl (vp_updL f j x)))) e29 e30 e31 e32 e33 e34 e35 e36)) : JR M_Rw_set sc (0, [(0, .ref 27), (1, .int (nI j)), (2, .long x)], [], (HP e0 e1 e2 e3 e4 e5 e6 e7 e8 e9 e10 e11 e12 e13 e14 e15 e16 e17 e18 e19 e20 e21 e22 e23 e24 e25 e26 (.inr (4, [.ref 28])) (.inl (1, 9, .inr (.inl f))) e29 e30 e31 e32 e33 e34 e35 e36), kc, kn) O := by
  refine J.gp ok_Rw_set 1 (1, [(0, .ref 27), (1, .int (nI j)), (2, .long x)], [.int (nI j)], _, _, _) rfl ?_
  refine J.ifF ok_Rw_set (fun x => x < 0) 20 4 rfl (nI_pos (by omega)) ?_
  refine J.gp ok_Rw_set 4 (10, [(0, .ref 27), (1, .int (nI j)), (2, .long x)], [.int 9, .int (nI j)], _, _, _) rfl ?_
  refine J.icF ok_Rw_set (fun x y => y ≤ x) 20 13 rfl (fun h9 => absurd ((nI_leI (a := 9) (b := j) (by omega) (by omega)).mp h9) (by omega)) ?_
  refine J.gp ok_Rw_set 4 (19, [(0, .ref 27), (1, .int (nI j)), (2, .long x)], [.long x, .int (nI j), .ref 28], _, _, _) rfl ?_
  refine J.lastB ok_Rw_set 20 j rfl rfl (rfl) (by omega) (by decide) ?_
  refine J.gp ok_Rw_set 0 (20, [(0, .ref 27), (1, .int (nI j)), (2, .long x)], [], (HP e0 e1 e2 e3 e4 e5 e6 e7 e8 e9 e10 e11 e12 e13 e14 e15 e16 e17 e18 e19 e20 e21 e22 e23 e24 e25 e26 (.inr (4, [.ref 28])) (.inl (1, 9, .inr (.inl (vp_updL f j x)))) e29 e30 e31 e32 e33 e34 e35 e36), kc, kn) rfl ?_
  refine JR.vret (by decide +kernel) rfl ?_
  exact K1

theorem c_Rw_set_27 {e0 e1 e2 e3 e4 e5 e6 e7 e8 e9 e10 e11 e12 e13 e14 e15 e16 e17 e18 e19 e20 e21 e22 e23 e24 e25 e26 e29 e30 e31 e32 e33 e34 e35 e36 : va_E} {f : Nat → Int64} {j : Nat} {x : Int64} (hj : j < 9) : JE M_Rw_set [.ref 27, .int (nI j), .long x] (HP e0 e1 e2 e3 e4 e5 e6 e7 e8 e9 e10 e11 e12 e13 e14 e15 e16 e17 e18 e19 e20 e21 e22 e23 e24 e25 e26 (.inr (4, [.ref 28])) (.inl (1, 9, .inr (.inl f))) e29 e30 e31 e32 e33 e34 e35 e36) none (HP e0 e1 e2 e3 e4 e5 e6 e7 e8 e9 e10 e11 e12 e13 e14 e15 e16 e17 e18 e19 e20 e21 e22 e23 e24 e25 e26 (.inr (4, [.ref 28])) (.inl (1, 9, .inr (.inl (vp_updL f j x)))) e29 e30 e31 e32 e33 e34 e35 e36) := JM.of (by decide +kernel) rfl (Nat.le_of_ble_eq_true rfl) (g_Rw_set_27 hj ⟨rfl, rfl⟩)

set_option maxRecDepth 100000 in
set_option maxHeartbeats 4000000 in
theorem g_Rw_get_29 {sc : aScr} {e0 e1 e2 e3 e4 e5 e6 e7 e8 e9 e10 e11 e12 e13 e14 e15 e16 e17 e18 e19 e20 e21 e22 e23 e24 e25 e26 e27 e28 e31 e32 e33 e34 e35 e36 : va_E} {f : Nat → Int64} {j : Nat} {kc kn : Nat} {O : Option Value → aH → Prop} (hj : j < 16) (K1 : O (some (.long (f j))) (HP e0 e1 e2 e3 e4 e5 e6 e7 e8 e9 e10 e11 e12 e13 e14 e15 e16 e17 e18 e19 e20 e21 e22 e23 e24 e25 e26 e27 e28 (.inr (4, [.ref 30])) (.inl (1, 16, .inr (.inl f))) e31 e32 e33 e34 e35 e36)) : JR M_Rw_get sc (0, [(0, .ref 29), (1, .int (nI j))], [], (HP e0 e1 e2 e3 e4 e5 e6 e7 e8 e9 e10 e11 e12 e13 e14 e15 e16 e17 e18 e19 e20 e21 e22 e23 e24 e25 e26 e27 e28 (.inr (4, [.ref 30])) (.inl (1, 16, .inr (.inl f))) e31 e32 e33 e34 e35 e36), kc, kn) O := by
  refine J.gp ok_Rw_get 1 (1, [(0, .ref 29), (1, .int (nI j))], [.int (nI j)], _, _, _) rfl ?_
  refine J.ifF ok_Rw_get (fun x => x < 0) 22 4 rfl (nI_pos (by omega)) ?_
  refine J.gp ok_Rw_get 4 (10, [(0, .ref 29), (1, .int (nI j))], [.int 16, .int (nI j)], _, _, _) rfl ?_
  refine J.icF ok_Rw_get (fun x y => y ≤ x) 22 13 rfl (fun h9 => absurd ((nI_leI (a := 16) (b := j) (by omega) (by omega)).mp h9) (by omega)) ?_
  refine J.gp ok_Rw_get 3 (18, [(0, .ref 29), (1, .int (nI j))], [.int (nI j), .ref 30], _, _, _) rfl ?_
  refine J.laldB ok_Rw_get 19 j rfl rfl (rfl) (by omega) (by decide) ?_
  refine J.gp ok_Rw_get 1 (23, [(0, .ref 29), (1, .int (nI j))], [.long (f j)], _, _, _) rfl ?_
  refine JR.lret (by decide +kernel) rfl ?_
  exact K1

theorem c_Rw_get_29 {e0 e1 e2 e3 e4 e5 e6 e7 e8 e9 e10 e11 e12 e13 e14 e15 e16 e17 e18 e19 e20 e21 e22 e23 e24 e25 e26 e27 e28 e31 e32 e33 e34 e35 e36 : va_E} {f : Nat → Int64} {j : Nat} (hj : j < 16) : JE M_Rw_get [.ref 29, .int (nI j)] (HP e0 e1 e2 e3 e4 e5 e6 e7 e8 e9 e10 e11 e12 e13 e14 e15 e16 e17 e18 e19 e20 e21 e22 e23 e24 e25 e26 e27 e28 (.inr (4, [.ref 30])) (.inl (1, 16, .inr (.inl f))) e31 e32 e33 e34 e35 e36) (some (.long (f j))) (HP e0 e1 e2 e3 e4 e5 e6 e7 e8 e9 e10 e11 e12 e13 e14 e15 e16 e17 e18 e19 e20 e21 e22 e23 e24 e25 e26 e27 e28 (.inr (4, [.ref 30])) (.inl (1, 16, .inr (.inl f))) e31 e32 e33 e34 e35 e36) := JM.of (by decide +kernel) rfl (Nat.le_of_ble_eq_true rfl) (g_Rw_get_29 hj ⟨rfl, rfl⟩)

set_option maxRecDepth 100000 in
set_option maxHeartbeats 4000000 in
theorem g_Rw_set_29 {sc : aScr} {e0 e1 e2 e3 e4 e5 e6 e7 e8 e9 e10 e11 e12 e13 e14 e15 e16 e17 e18 e19 e20 e21 e22 e23 e24 e25 e26 e27 e28 e31 e32 e33 e34 e35 e36 : va_E} {f : Nat → Int64} {j : Nat} {x : Int64} {kc kn : Nat} {O : Option Value → aH → Prop} (hj : j < 16) (K1 : O none (HP e0 e1 e2 e3 e4 e5 e6 e7 e8 e9 e10 e11 e12 e13 e14 e15 e16 e17 e18 e19 e20 e21 e22 e23 e24 e25 e26 e27 e28 (.inr (4, [.ref 30])) (.inl (1, 16, .inr (.inl (vp_updL f j x)))) e31 e32 e33 e34 e35 e36)) : JR M_Rw_set sc (0, [(0, .ref 29), (1, .int (nI j)), (2, .long x)], [], (HP e0 e1 e2 e3 e4 e5 e6 e7 e8 e9 e10 e11 e12 e13 e14 e15 e16 e17 e18 e19 e20 e21 e22 e23 e24 e25 e26 e27 e28 (.inr (4, [.ref 30])) (.inl (1, 16, .inr (.inl f))) e31 e32 e33 e34 e35 e36), kc, kn) O := by
  refine J.gp ok_Rw_set 1 (1, [(0, .ref 29), (1, .int (nI j)), (2, .long x)], [.int (nI j)], _, _, _) rfl ?_
  refine J.ifF ok_Rw_set (fun x => x < 0) 20 4 rfl (nI_pos (by omega)) ?_
  refine J.gp ok_Rw_set 4 (10, [(0, .ref 29), (1, .int (nI j)), (2, .long x)], [.int 16, .int (nI j)], _, _, _) rfl ?_
  refine J.icF ok_Rw_set (fun x y => y ≤ x) 20 13 rfl (fun h9 => absurd ((nI_leI (a := 16) (b := j) (by omega) (by omega)).mp h9) (by omega)) ?_
  refine J.gp ok_Rw_set 4 (19, [(0, .ref 29), (1, .int (nI j)), (2, .long x)], [.long x, .int (nI j), .ref 30], _, _, _) rfl ?_
  refine J.lastB ok_Rw_set 20 j rfl rfl (rfl) (by omega) (by decide) ?_
  refine J.gp ok_Rw_set 0 (20, [(0, .ref 29), (1, .int (nI j)), (2, .long x)], [], (HP e0 e1 e2 e3 e4 e5 e6 e7 e8 e9 e10 e11 e12 e13 e14 e15 e16 e17 e18 e19 e20 e21 e22 e23 e24 e25 e26 e27 e28 (.inr (4, [.ref 30])) (.inl (1, 16, .inr (.inl (vp_updL f j x)))) e31 e32 e33 e34 e35 e36), kc, kn) rfl ?_
  refine JR.vret (by decide +kernel) rfl ?_
  exact K1

theorem c_Rw_set_29 {e0 e1 e2 e3 e4 e5 e6 e7 e8 e9 e10 e11 e12 e13 e14 e15 e16 e17 e18 e19 e20 e21 e22 e23 e24 e25 e26 e27 e28 e31 e32 e33 e34 e35 e36 : va_E} {f : Nat → Int64} {j : Nat} {x : Int64} (hj : j < 16) : JE M_Rw_set [.ref 29, .int (nI j), .long x] (HP e0 e1 e2 e3 e4 e5 e6 e7 e8 e9 e10 e11 e12 e13 e14 e15 e16 e17 e18 e19 e20 e21 e22 e23 e24 e25 e26 e27 e28 (.inr (4, [.ref 30])) (.inl (1, 16, .inr (.inl f))) e31 e32 e33 e34 e35 e36) none (HP e0 e1 e2 e3 e4 e5 e6 e7 e8 e9 e10 e11 e12 e13 e14 e15 e16 e17 e18 e19 e20 e21 e22 e23 e24 e25 e26 e27 e28 (.inr (4, [.ref 30])) (.inl (1, 16, .inr (.inl (vp_updL f j x)))) e31 e32 e33 e34 e35 e36) := JM.of (by decide +kernel) rfl (Nat.le_of_ble_eq_true rfl) (g_Rw_set_29 hj ⟨rfl, rfl⟩)

set_option maxRecDepth 100000 in
set_option maxHeartbeats 4000000 in
theorem g_Rw_add_29 {sc : aScr} {e0 e1 e2 e3 e4 e5 e6 e7 e8 e9 e10 e11 e12 e13 e14 e15 e16 e17 e18 e19 e20 e21 e22 e23 e24 e25 e26 e27 e28 e31 e32 e33 e34 e35 e36 : va_E} {f : Nat → Int64} {j : Nat} {x : Int64} {kc kn : Nat} {O : Option Value → aH → Prop} (hj : j < 16) (K1 : O none (HP e0 e1 e2 e3 e4 e5 e6 e7 e8 e9 e10 e11 e12 e13 e14 e15 e16 e17 e18 e19 e20 e21 e22 e23 e24 e25 e26 e27 e28 (.inr (4, [.ref 30])) (.inl (1, 16, .inr (.inl (vp_updL f j ((f j) + x))))) e31 e32 e33 e34 e35 e36)) : JR M_Rw_add sc (0, [(0, .ref 29), (1, .int (nI j)), (2, .long x)], [], (HP e0 e1 e2 e3 e4 e5 e6 e7 e8 e9 e10 e11 e12 e13 e14 e15 e16 e17 e18 e19 e20 e21 e22 e23 e24 e25 e26 e27 e28 (.inr (4, [.ref 30])) (.inl (1, 16, .inr (.inl f))) e31 e32 e33 e34 e35 e36), kc, kn) O := by
  refine J.gp ok_Rw_add 1 (1, [(0, .ref 29), (1, .int (nI j)), (2, .long x)], [.int (nI j)], _, _, _) rfl ?_
  refine J.ifF ok_Rw_add (fun x => x < 0) 23 4 rfl (nI_pos (by omega)) ?_
  refine J.gp ok_Rw_add 4 (10, [(0, .ref 29), (1, .int (nI j)), (2, .long x)], [.int 16, .int (nI j)], _, _, _) rfl ?_
  refine J.icF ok_Rw_add (fun x y => y ≤ x) 23 13 rfl (fun h9 => absurd ((nI_leI (a := 16) (b := j) (by omega) (by omega)).mp h9) (by omega)) ?_
  refine J.gp ok_Rw_add 4 (19, [(0, .ref 29), (1, .int (nI j)), (2, .long x)], [.int (nI j), .ref 30, .int (nI j), .ref 30], _, _, _) rfl ?_
  refine J.laldB ok_Rw_add 20 j rfl rfl (rfl) (by omega) (by decide) ?_
  refine J.gp ok_Rw_add 2 (22, [(0, .ref 29), (1, .int (nI j)), (2, .long x)], [.long ((f j) + x), .int (nI j), .ref 30], _, _, _) rfl ?_
  refine J.lastB ok_Rw_add 23 j rfl rfl (rfl) (by omega) (by decide) ?_
  refine J.gp ok_Rw_add 0 (23, [(0, .ref 29), (1, .int (nI j)), (2, .long x)], [], (HP e0 e1 e2 e3 e4 e5 e6 e7 e8 e9 e10 e11 e12 e13 e14 e15 e16 e17 e18 e19 e20 e21 e22 e23 e24 e25 e26 e27 e28 (.inr (4, [.ref 30])) (.inl (1, 16, .inr (.inl (vp_updL f j ((f j) + x))))) e31 e32 e33 e34 e35 e36), kc, kn) rfl ?_
  refine JR.vret (by decide +kernel) rfl ?_
  exact K1

theorem c_Rw_add_29 {e0 e1 e2 e3 e4 e5 e6 e7 e8 e9 e10 e11 e12 e13 e14 e15 e16 e17 e18 e19 e20 e21 e22 e23 e24 e25 e26 e27 e28 e31 e32 e33 e34 e35 e36 : va_E} {f : Nat → Int64} {j : Nat} {x : Int64} (hj : j < 16) : JE M_Rw_add [.ref 29, .int (nI j), .long x] (HP e0 e1 e2 e3 e4 e5 e6 e7 e8 e9 e10 e11 e12 e13 e14 e15 e16 e17 e18 e19 e20 e21 e22 e23 e24 e25 e26 e27 e28 (.inr (4, [.ref 30])) (.inl (1, 16, .inr (.inl f))) e31 e32 e33 e34 e35 e36) none (HP e0 e1 e2 e3 e4 e5 e6 e7 e8 e9 e10 e11 e12 e13 e14 e15 e16 e17 e18 e19 e20 e21 e22 e23 e24 e25 e26 e27 e28 (.inr (4, [.ref 30])) (.inl (1, 16, .inr (.inl (vp_updL f j (f j + x))))) e31 e32 e33 e34 e35 e36) := JM.of (by decide +kernel) rfl (Nat.le_of_ble_eq_true rfl) (g_Rw_add_29 hj ⟨rfl, rfl⟩)

set_option maxRecDepth 100000 in
set_option maxHeartbeats 4000000 in
theorem g_Rw_clear_29 {sc : aScr} {e0 e1 e2 e3 e4 e5 e6 e7 e8 e9 e10 e11 e12 e13 e14 e15 e16 e17 e18 e19 e20 e21 e22 e23 e24 e25 e26 e27 e28 e31 e32 e33 e34 e35 e36 : va_E} {f : Nat → Int64} {i : Nat} {kc kn : Nat} {O : Option Value → aH → Prop} (hi : i ≤ 16) (K1 : (16 ≤ i) → O none (HP e0 e1 e2 e3 e4 e5 e6 e7 e8 e9 e10 e11 e12 e13 e14 e15 e16 e17 e18 e19 e20 e21 e22 e23 e24 e25 e26 e27 e28 (.inr (4, [.ref 30])) (.inl (1, 16, .inr (.inl f))) e31 e32 e33 e34 e35 e36)) (K2 : (i < 16) → JR M_Rw_clear sc (2, [(0, .ref 29), (1, .int (nI (i + 1)))], [], (HP e0 e1 e2 e3 e4 e5 e6 e7 e8 e9 e10 e11 e12 e13 e14 e15 e16 e17 e18 e19 e20 e21 e22 e23 e24 e25 e26 e27 e28 (.inr (4, [.ref 30])) (.inl (1, 16, .inr (.inl (vp_updL f i 0)))) e31 e32 e33 e34 e35 e36), kc, kn) O) : JR M_Rw_clear sc (2, [(0, .ref 29), (1, .int (nI i))], [], (HP e0 e1 e2 e3 e4 e5 e6 e7 e8 e9 e10 e11 e12 e13 e14 e15 e16 e17 e18 e19 e20 e21 e22 e23 e24 e25 e26 e27 e28 (.inr (4, [.ref 30])) (.inl (1, 16, .inr (.inl f))) e31 e32 e33 e34 e35 e36), kc, kn) O := by
  refine J.gp ok_Rw_clear 4 (8, [(0, .ref 29), (1, .int (nI i))], [.int 16, .int (nI i)], _, _, _) rfl ?_
  refine J.icB ok_Rw_clear (fun x y => y ≤ x) 24 11 rfl (fun (h0 : 16 ≤ nI i) => ?_) (fun (h0 : ¬ (16 ≤ nI i)) => ?_)
  · have c8 : 16 ≤ i := (nI_leI (a := 16) (b := i) (by omega) (by omega)).mp h0
    refine JR.vret (by decide +kernel) rfl ?_
    exact K1 c8
  · have c8 : i < 16 := Nat.not_le.mp (fun h9 => h0 ((nI_leI (a := 16) (b := i) (by omega) (by omega)).mpr h9))
    refine J.gp ok_Rw_clear 4 (17, [(0, .ref 29), (1, .int (nI i))], [.long 0, .int (nI i), .ref 30], _, _, _) rfl ?_
    refine J.lastB ok_Rw_clear 18 i rfl rfl (rfl) (by omega) (by decide) ?_
    refine J.gp ok_Rw_clear 0 (18, [(0, .ref 29), (1, .int (nI i))], [], (HP e0 e1 e2 e3 e4 e5 e6 e7 e8 e9 e10 e11 e12 e13 e14 e15 e16 e17 e18 e19 e20 e21 e22 e23 e24 e25 e26 e27 e28 (.inr (4, [.ref 30])) (.inl (1, 16, .inr (.inl (vp_updL f i 0)))) e31 e32 e33 e34 e35 e36), kc, kn) rfl ?_
    refine J.gp ok_Rw_clear 1 (21, [(0, .ref 29), (1, .int (nI i + 1))], [], _, _, _) rfl ?_
    rw [show ((nI i + 1) : Int32) = nI (i + 1) from nI_add i 1]
    refine J.gp ok_Rw_clear 1 (2, [(0, .ref 29), (1, .int (nI (i + 1)))], [], _, _, _) rfl ?_
    exact K2 c8

theorem c_Rw_clear_29 {e0 e1 e2 e3 e4 e5 e6 e7 e8 e9 e10 e11 e12 e13 e14 e15 e16 e17 e18 e19 e20 e21 e22 e23 e24 e25 e26 e27 e28 e31 e32 e33 e34 e35 e36 : va_E} {f : Nat → Int64} : JE M_Rw_clear [.ref 29] (HP e0 e1 e2 e3 e4 e5 e6 e7 e8 e9 e10 e11 e12 e13 e14 e15 e16 e17 e18 e19 e20 e21 e22 e23 e24 e25 e26 e27 e28 (.inr (4, [.ref 30])) (.inl (1, 16, .inr (.inl f))) e31 e32 e33 e34 e35 e36) none (HP e0 e1 e2 e3 e4 e5 e6 e7 e8 e9 e10 e11 e12 e13 e14 e15 e16 e17 e18 e19 e20 e21 e22 e23 e24 e25 e26 e27 e28 (.inr (4, [.ref 30])) (.inl (1, 16, .inr (.inl (fun _ => 0)))) e31 e32 e33 e34 e35 e36) := by
  refine JM.of (by decide +kernel) rfl (Nat.le_of_ble_eq_true rfl) ?_
  refine J.gp ok_Rw_clear 2 (2, [(0, .ref 29), (1, .int (nI 0))], [], (HP e0 e1 e2 e3 e4 e5 e6 e7 e8 e9 e10 e11 e12 e13 e14 e15 e16 e17 e18 e19 e20 e21 e22 e23 e24 e25 e26 e27 e28 (.inr (4, [.ref 30])) (.inl (1, 16, .inr (.inl f))) e31 e32 e33 e34 e35 e36), 0, 0) rfl ?_
  have K := loopN (P := fun i => JR M_Rw_clear none (2, [(0, .ref 29), (1, .int (nI i))], [], (HP e0 e1 e2 e3 e4 e5 e6 e7 e8 e9 e10 e11 e12 e13 e14 e15 e16 e17 e18 e19 e20 e21 e22 e23 e24 e25 e26 e27 e28 (.inr (4, [.ref 30])) (.inl (1, 16, .inr (.inl (cpf f (fun _ => 0) i)))) e31 e32 e33 e34 e35 e36), 0, 0) (OE none (HP e0 e1 e2 e3 e4 e5 e6 e7 e8 e9 e10 e11 e12 e13 e14 e15 e16 e17 e18 e19 e20 e21 e22 e23 e24 e25 e26 e27 e28 (.inr (4, [.ref 30])) (.inl (1, 16, .inr (.inl (fun _ => 0)))) e31 e32 e33 e34 e35 e36))) (b := 16) ?_ (fun i hi ih => ?_) 0 (Nat.zero_le _)
  · rw [cpf_0] at K
    exact K
  · refine JR.hqs 30 _ (.inl (1, 16, .inr (.inl (fun _ => 0)))) rfl (eqL (fun j hj => if_pos hj)) ?_
    exact g_Rw_clear_29 (i := 16) (f := fun _ => 0) (Nat.le_refl _) (fun _ => ⟨rfl, rfl⟩) (fun c => absurd c (by omega))
  · exact g_Rw_clear_29 (i := i) (f := cpf f (fun _ => 0) i) (by omega) (fun c => absurd c (by omega)) (fun _ => by rw [cpf_up f (fun _ => 0) i]; exact ih)

set_option maxRecDepth 100000 in
set_option maxHeartbeats 4000000 in
theorem g_Rw_copy_14_16 {sc : aScr} {e0 e1 e2 e3 e4 e5 e6 e7 e8 e9 e10 e11 e12 e13 e18 e19 e20 e21 e22 e23 e24 e25 e26 e27 e28 e29 e30 e31 e32 e33 e34 e35 e36 : va_E} {f g : Nat → Int64} {i : Nat} {kc kn : Nat} {O : Option Value → aH → Prop} (hi : i ≤ 132) (K1 : (132 ≤ i) → O none (HP e0 e1 e2 e3 e4 e5 e6 e7 e8 e9 e10 e11 e12 e13 (.inr (4, [.ref 15])) (.inl (1, 132, .inr (.inl f))) (.inr (4, [.ref 17])) (.inl (1, 132, .inr (.inl g))) e18 e19 e20 e21 e22 e23 e24 e25 e26 e27 e28 e29 e30 e31 e32 e33 e34 e35 e36)) (K2 : (i < 132) → JR M_Rw_copy sc (2, [(0, .ref 14), (1, .ref 16), (2, .int (nI (i + 1)))], [], (HP e0 e1 e2 e3 e4 e5 e6 e7 e8 e9 e10 e11 e12 e13 (.inr (4, [.ref 15])) (.inl (1, 132, .inr (.inl (vp_updL f i (g i))))) (.inr (4, [.ref 17])) (.inl (1, 132, .inr (.inl g))) e18 e19 e20 e21 e22 e23 e24 e25 e26 e27 e28 e29 e30 e31 e32 e33 e34 e35 e36), kc, kn) O) : JR M_Rw_copy sc (2, [(0, .ref 14), (1, .ref 16), (2, .int (nI i))], [], (HP e0 e1 e2 e3 e4 e5 e6 e7 e8 e9 e10 e11 e12 e13 (.inr (4, [.ref 15])) (.inl (1, 132, .inr (.inl f))) (.inr (4, [.ref 17])) (.inl (1, 132, .inr (.inl g))) e18 e19 e20 e21 e22 e23 e24 e25 e26 e27 e28 e29 e30 e31 e32 e33 e34 e35 e36), kc, kn) O := by
  refine J.gp ok_Rw_copy 4 (8, [(0, .ref 14), (1, .ref 16), (2, .int (nI i))], [.int 132, .int (nI i)], _, _, _) rfl ?_
  refine J.icB ok_Rw_copy (fun x y => y ≤ x) 28 11 rfl (fun (h0 : 132 ≤ nI i) => ?_) (fun (h0 : ¬ (132 ≤ nI i)) => ?_)
  · have c8 : 132 ≤ i := (nI_leI (a := 132) (b := i) (by omega) (by omega)).mp h0
    refine JR.vret (by decide +kernel) rfl ?_
    exact K1 c8
  · have c8 : i < 132 := Nat.not_le.mp (fun h9 => h0 ((nI_leI (a := 132) (b := i) (by omega) (by omega)).mpr h9))
    refine J.gp ok_Rw_copy 5 (18, [(0, .ref 14), (1, .ref 16), (2, .int (nI i))], [.int (nI i), .ref 16, .int (nI i), .ref 15], _, _, _) rfl ?_
    refine J.callVE s_Rw_copy_18 21 16 [.int (nI i)] 4 (c_Rw_get_16 (j := i) (by omega)) rfl rfl rfl rfl rfl (Nat.le_of_ble_eq_true rfl) rfl ?_
    refine J.gp ok_Rw_copy 0 (21, [(0, .ref 14), (1, .ref 16), (2, .int (nI i))], [.long (g i), .int (nI i), .ref 15], (HP e0 e1 e2 e3 e4 e5 e6 e7 e8 e9 e10 e11 e12 e13 (.inr (4, [.ref 15])) (.inl (1, 132, .inr (.inl f))) (.inr (4, [.ref 17])) (.inl (1, 132, .inr (.inl g))) e18 e19 e20 e21 e22 e23 e24 e25 e26 e27 e28 e29 e30 e31 e32 e33 e34 e35 e36), kc, kn) rfl ?_
    refine J.lastB ok_Rw_copy 22 i rfl rfl (rfl) (by omega) (by decide) ?_
    refine J.gp ok_Rw_copy 0 (22, [(0, .ref 14), (1, .ref 16), (2, .int (nI i))], [], (HP e0 e1 e2 e3 e4 e5 e6 e7 e8 e9 e10 e11 e12 e13 (.inr (4, [.ref 15])) (.inl (1, 132, .inr (.inl (vp_updL f i (g i))))) (.inr (4, [.ref 17])) (.inl (1, 132, .inr (.inl g))) e18 e19 e20 e21 e22 e23 e24 e25 e26 e27 e28 e29 e30 e31 e32 e33 e34 e35 e36), kc, kn) rfl ?_
    refine J.gp ok_Rw_copy 1 (25, [(0, .ref 14), (1, .ref 16), (2, .int (nI i + 1))], [], _, _, _) rfl ?_
    rw [show ((nI i + 1) : Int32) = nI (i + 1) from nI_add i 1]
    refine J.gp ok_Rw_copy 1 (2, [(0, .ref 14), (1, .ref 16), (2, .int (nI (i + 1)))], [], _, _, _) rfl ?_
    exact K2 c8

theorem c_Rw_copy_14_16 {e0 e1 e2 e3 e4 e5 e6 e7 e8 e9 e10 e11 e12 e13 e18 e19 e20 e21 e22 e23 e24 e25 e26 e27 e28 e29 e30 e31 e32 e33 e34 e35 e36 : va_E} {f g : Nat → Int64} : JE M_Rw_copy [.ref 14, .ref 16] (HP e0 e1 e2 e3 e4 e5 e6 e7 e8 e9 e10 e11 e12 e13 (.inr (4, [.ref 15])) (.inl (1, 132, .inr (.inl f))) (.inr (4, [.ref 17])) (.inl (1, 132, .inr (.inl g))) e18 e19 e20 e21 e22 e23 e24 e25 e26 e27 e28 e29 e30 e31 e32 e33 e34 e35 e36) none (HP e0 e1 e2 e3 e4 e5 e6 e7 e8 e9 e10 e11 e12 e13 (.inr (4, [.ref 15])) (.inl (1, 132, .inr (.inl g))) (.inr (4, [.ref 17])) (.inl (1, 132, .inr (.inl g))) e18 e19 e20 e21 e22 e23 e24 e25 e26 e27 e28 e29 e30 e31 e32 e33 e34 e35 e36) := by
  refine JM.of (by decide +kernel) rfl (Nat.le_of_ble_eq_true rfl) ?_
  refine J.gp ok_Rw_copy 2 (2, [(0, .ref 14), (1, .ref 16), (2, .int (nI 0))], [], (HP e0 e1 e2 e3 e4 e5 e6 e7 e8 e9 e10 e11 e12 e13 (.inr (4, [.ref 15])) (.inl (1, 132, .inr (.inl f))) (.inr (4, [.ref 17])) (.inl (1, 132, .inr (.inl g))) e18 e19 e20 e21 e22 e23 e24 e25 e26 e27 e28 e29 e30 e31 e32 e33 e34 e35 e36), 0, 0) rfl ?_
  have K := loopN (P := fun i => JR M_Rw_copy none (2, [(0, .ref 14), (1, .ref 16), (2, .int (nI i))], [], (HP e0 e1 e2 e3 e4 e5 e6 e7 e8 e9 e10 e11 e12 e13 (.inr (4, [.ref 15])) (.inl (1, 132, .inr (.inl (cpf f g i)))) (.inr (4, [.ref 17])) (.inl (1, 132, .inr (.inl g))) e18 e19 e20 e21 e22 e23 e24 e25 e26 e27 e28 e29 e30 e31 e32 e33 e34 e35 e36), 0, 0) (OE none (HP e0 e1 e2 e3 e4 e5 e6 e7 e8 e9 e10 e11 e12 e13 (.inr (4, [.ref 15])) (.inl (1, 132, .inr (.inl g))) (.inr (4, [.ref 17])) (.inl (1, 132, .inr (.inl g))) e18 e19 e20 e21 e22 e23 e24 e25 e26 e27 e28 e29 e30 e31 e32 e33 e34 e35 e36))) (b := 132) ?_ (fun i hi ih => ?_) 0 (Nat.zero_le _)
  · rw [cpf_0] at K
    exact K
  · refine JR.hqs 15 _ (.inl (1, 132, .inr (.inl g))) rfl (eqL (fun j hj => if_pos hj)) ?_
    exact g_Rw_copy_14_16 (i := 132) (f := g) (g := g) (Nat.le_refl _) (fun _ => ⟨rfl, rfl⟩) (fun c => absurd c (by omega))
  · exact g_Rw_copy_14_16 (i := i) (f := cpf f g i) (g := g) (by omega) (fun c => absurd c (by omega)) (fun _ => by rw [cpf_up f g i]; exact ih)

set_option maxRecDepth 100000 in
set_option maxHeartbeats 4000000 in
theorem g_Rw_copy_19_29 {sc : aScr} {e0 e1 e2 e3 e4 e5 e6 e7 e8 e9 e10 e11 e12 e13 e14 e15 e16 e17 e18 e21 e22 e23 e24 e25 e26 e27 e28 e31 e32 e33 e34 e35 e36 : va_E} {f g : Nat → Int64} {i : Nat} {kc kn : Nat} {O : Option Value → aH → Prop} (hi : i ≤ 16) (K1 : (16 ≤ i) → O none (HP e0 e1 e2 e3 e4 e5 e6 e7 e8 e9 e10 e11 e12 e13 e14 e15 e16 e17 e18 (.inr (4, [.ref 20])) (.inl (1, 16, .inr (.inl f))) e21 e22 e23 e24 e25 e26 e27 e28 (.inr (4, [.ref 30])) (.inl (1, 16, .inr (.inl g))) e31 e32 e33 e34 e35 e36)) (K2 : (i < 16) → JR M_Rw_copy sc (2, [(0, .ref 19), (1, .ref 29), (2, .int (nI (i + 1)))], [], (HP e0 e1 e2 e3 e4 e5 e6 e7 e8 e9 e10 e11 e12 e13 e14 e15 e16 e17 e18 (.inr (4, [.ref 20])) (.inl (1, 16, .inr (.inl (vp_updL f i (g i))))) e21 e22 e23 e24 e25 e26 e27 e28 (.inr (4, [.ref 30])) (.inl (1, 16, .inr (.inl g))) e31 e32 e33 e34 e35 e36), kc, kn) O) : JR M_Rw_copy sc (2, [(0, .ref 19), (1, .ref 29), (2, .int (nI i))], [], (HP e0 e1 e2 e3 e4 e5 e6 e7 e8 e9 e10 e11 e12 e13 e14 e15 e16 e17 e18 (.inr (4, [.ref 20])) (.inl (1, 16, .inr (.inl f))) e21 e22 e23 e24 e25 e26 e27 e28 (.inr (4, [.ref 30])) (.inl (1, 16, .inr (.inl g))) e31 e32 e33 e34 e35 e36), kc, kn) O := by
  refine J.gp ok_Rw_copy 4 (8, [(0, .ref 19), (1, .ref 29), (2, .int (nI i))], [.int 16, .int (nI i)], _, _, _) rfl ?_
  refine J.icB ok_Rw_copy (fun x y => y ≤ x) 28 11 rfl (fun (h0 : 16 ≤ nI i) => ?_) (fun (h0 : ¬ (16 ≤ nI i)) => ?_)
  · have c8 : 16 ≤ i := (nI_leI (a := 16) (b := i) (by omega) (by omega)).mp h0
    refine JR.vret (by decide +kernel) rfl ?_
    exact K1 c8
  · have c8 : i < 16 := Nat.not_le.mp (fun h9 => h0 ((nI_leI (a := 16) (b := i) (by omega) (by omega)).mpr h9))
    refine J.gp ok_Rw_copy 5 (18, [(0, .ref 19), (1, .ref 29), (2, .int (nI i))], [.int (nI i), .ref 29, .int (nI i), .ref 20], _, _, _) rfl ?_
    refine J.callVE s_Rw_copy_18 21 29 [.int (nI i)] 4 (c_Rw_get_29 (j := i) (by omega)) rfl rfl rfl rfl rfl (Nat.le_of_ble_eq_true rfl) rfl ?_
    refine J.gp ok_Rw_copy 0 (21, [(0, .ref 19), (1, .ref 29), (2, .int (nI i))], [.long (g i), .int (nI i), .ref 20], (HP e0 e1 e2 e3 e4 e5 e6 e7 e8 e9 e10 e11 e12 e13 e14 e15 e16 e17 e18 (.inr (4, [.ref 20])) (.inl (1, 16, .inr (.inl f))) e21 e22 e23 e24 e25 e26 e27 e28 (.inr (4, [.ref 30])) (.inl (1, 16, .inr (.inl g))) e31 e32 e33 e34 e35 e36), kc, kn) rfl ?_
    refine J.lastB ok_Rw_copy 22 i rfl rfl (rfl) (by omega) (by decide) ?_
    refine J.gp ok_Rw_copy 0 (22, [(0, .ref 19), (1, .ref 29), (2, .int (nI i))], [], (HP e0 e1 e2 e3 e4 e5 e6 e7 e8 e9 e10 e11 e12 e13 e14 e15 e16 e17 e18 (.inr (4, [.ref 20])) (.inl (1, 16, .inr (.inl (vp_updL f i (g i))))) e21 e22 e23 e24 e25 e26 e27 e28 (.inr (4, [.ref 30])) (.inl (1, 16, .inr (.inl g))) e31 e32 e33 e34 e35 e36), kc, kn) rfl ?_
    refine J.gp ok_Rw_copy 1 (25, [(0, .ref 19), (1, .ref 29), (2, .int (nI i + 1))], [], _, _, _) rfl ?_
    rw [show ((nI i + 1) : Int32) = nI (i + 1) from nI_add i 1]
    refine J.gp ok_Rw_copy 1 (2, [(0, .ref 19), (1, .ref 29), (2, .int (nI (i + 1)))], [], _, _, _) rfl ?_
    exact K2 c8

theorem c_Rw_copy_19_29 {e0 e1 e2 e3 e4 e5 e6 e7 e8 e9 e10 e11 e12 e13 e14 e15 e16 e17 e18 e21 e22 e23 e24 e25 e26 e27 e28 e31 e32 e33 e34 e35 e36 : va_E} {f g : Nat → Int64} : JE M_Rw_copy [.ref 19, .ref 29] (HP e0 e1 e2 e3 e4 e5 e6 e7 e8 e9 e10 e11 e12 e13 e14 e15 e16 e17 e18 (.inr (4, [.ref 20])) (.inl (1, 16, .inr (.inl f))) e21 e22 e23 e24 e25 e26 e27 e28 (.inr (4, [.ref 30])) (.inl (1, 16, .inr (.inl g))) e31 e32 e33 e34 e35 e36) none (HP e0 e1 e2 e3 e4 e5 e6 e7 e8 e9 e10 e11 e12 e13 e14 e15 e16 e17 e18 (.inr (4, [.ref 20])) (.inl (1, 16, .inr (.inl g))) e21 e22 e23 e24 e25 e26 e27 e28 (.inr (4, [.ref 30])) (.inl (1, 16, .inr (.inl g))) e31 e32 e33 e34 e35 e36) := by
  refine JM.of (by decide +kernel) rfl (Nat.le_of_ble_eq_true rfl) ?_
  refine J.gp ok_Rw_copy 2 (2, [(0, .ref 19), (1, .ref 29), (2, .int (nI 0))], [], (HP e0 e1 e2 e3 e4 e5 e6 e7 e8 e9 e10 e11 e12 e13 e14 e15 e16 e17 e18 (.inr (4, [.ref 20])) (.inl (1, 16, .inr (.inl f))) e21 e22 e23 e24 e25 e26 e27 e28 (.inr (4, [.ref 30])) (.inl (1, 16, .inr (.inl g))) e31 e32 e33 e34 e35 e36), 0, 0) rfl ?_
  have K := loopN (P := fun i => JR M_Rw_copy none (2, [(0, .ref 19), (1, .ref 29), (2, .int (nI i))], [], (HP e0 e1 e2 e3 e4 e5 e6 e7 e8 e9 e10 e11 e12 e13 e14 e15 e16 e17 e18 (.inr (4, [.ref 20])) (.inl (1, 16, .inr (.inl (cpf f g i)))) e21 e22 e23 e24 e25 e26 e27 e28 (.inr (4, [.ref 30])) (.inl (1, 16, .inr (.inl g))) e31 e32 e33 e34 e35 e36), 0, 0) (OE none (HP e0 e1 e2 e3 e4 e5 e6 e7 e8 e9 e10 e11 e12 e13 e14 e15 e16 e17 e18 (.inr (4, [.ref 20])) (.inl (1, 16, .inr (.inl g))) e21 e22 e23 e24 e25 e26 e27 e28 (.inr (4, [.ref 30])) (.inl (1, 16, .inr (.inl g))) e31 e32 e33 e34 e35 e36))) (b := 16) ?_ (fun i hi ih => ?_) 0 (Nat.zero_le _)
  · rw [cpf_0] at K
    exact K
  · refine JR.hqs 20 _ (.inl (1, 16, .inr (.inl g))) rfl (eqL (fun j hj => if_pos hj)) ?_
    exact g_Rw_copy_19_29 (i := 16) (f := g) (g := g) (Nat.le_refl _) (fun _ => ⟨rfl, rfl⟩) (fun c => absurd c (by omega))
  · exact g_Rw_copy_19_29 (i := i) (f := cpf f g i) (g := g) (by omega) (fun c => absurd c (by omega)) (fun _ => by rw [cpf_up f g i]; exact ih)
