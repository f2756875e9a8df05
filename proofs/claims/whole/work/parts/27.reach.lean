/-! ROUNDS: what can be reached, the classes -/
theorem shl1 : ∀ a, a < 4 → ((1 : Int32) <<< (nI a &&& 31)) = nI (2 ^ a) := by decide +kernel
theorem pow16 : ∀ a, a < 4 → 2 ^ a < 16 := by decide
theorem lor16 : ∀ x, x < 16 → ∀ y, y < 16 → lN x ||| lN y = lN (x ||| y) := by decide +kernel
theorem lor_lt : ∀ x, x < 16 → ∀ y, y < 16 → x ||| y < 16 := by decide +kernel
/-- the mask of what follows a position, after k candidates -/
def rmk (M : Gr) (a : Nat) : Nat → Nat
  | 0 => 2 ^ a
  | k + 1 => wbit (rmk M a k) k (decide (bitN (rmk M a k) k = 1 ∨ 0 < M a k))
theorem rmk_lt {M : Gr} {a : Nat} (ha : a < 4) (k : Nat) (hk : k ≤ 4) : rmk M a k < 16 := by
  induction k with
  | zero => exact pow16 a ha
  | succ k ih => exact wbit_lt _ (ih (by omega)) k (by omega) _
def reA (m : Nat) (R : Nat → Nat) (re : Nat → Int64) : Nat → Int64 := fun i => if i < m then lN (R i) else re i
theorem reA_get {m i : Nat} {R : Nat → Nat} {re : Nat → Int64} (h : i < m) : reA m R re i = lN (R i) := if_pos h
theorem reA_up {m i x : Nat} {R : Nat → Nat} {re : Nat → Int64} (h : i < m) : vp_updL (reA m R re) i (lN x) = reA m (va_up R i x) re := by
  funext j
  unfold vp_updL reA va_up
  by_cases e : j = i
  · rw [if_pos e, if_pos (by omega), if_pos e]
  · rw [if_neg e]
    by_cases h2 : j < m
    · rw [if_pos h2, if_pos h2, if_neg e]
    · rw [if_neg h2, if_neg h2]
theorem reA_next {i : Nat} {R : Nat → Nat} {re : Nat → Int64} : vp_updL (reA i R re) i (lN (R i)) = reA (i + 1) R re := by
  funext j
  unfold vp_updL reA
  by_cases e : j = i
  · rw [if_pos e, if_pos (by omega), e]
  · rw [if_neg e]
    by_cases h2 : j < i
    · rw [if_pos h2, if_pos (by omega)]
    · rw [if_neg h2, if_neg (by omega)]
theorem reA_0 {R : Nat → Nat} {re : Nat → Int64} : reA 0 R re = re := by
  funext j
  exact if_neg (Nat.not_lt_zero j)
def waI (R : Nat → Nat) (v : Nat) : Nat → Nat → Nat
  | 0 => R
  | k + 1 => if bitN (waI R v k k) v = 1 then va_up (waI R v k) k (waI R v k k ||| waI R v k v) else waI R v k
def waO (m : Nat) (R : Nat → Nat) : Nat → Nat → Nat
  | 0 => R
  | v + 1 => waI (waO m R v) v m
theorem waI_lt {R : Nat → Nat} {v : Nat} (h : ∀ i, i < 4 → R i < 16) (hv : v < 4) (k : Nat) (hk : k ≤ 4) : ∀ i, i < 4 → waI R v k i < 16 := by
  induction k with
  | zero => exact h
  | succ k ih =>
    intro i hi
    unfold waI
    split
    · unfold va_up
      split
      · exact lor_lt _ (ih (by omega) k (by omega)) _ (ih (by omega) v hv)
      · exact ih (by omega) i hi
    · exact ih (by omega) i hi
theorem waO_lt {m : Nat} {R : Nat → Nat} (hm : m ≤ 4) (h : ∀ i, i < 4 → R i < 16) (v : Nat) (hv : v ≤ 4) : ∀ i, i < 4 → waO m R v i < 16 := by
  induction v with
  | zero => exact h
  | succ v ih => exact waI_lt (ih (by omega)) (by omega) m hm
/-- the masks of all that can be reached -/
def reachF (m : Nat) (M : Gr) : Nat → Nat := waO m (fun a => if a < m then rmk M a m else 0) m
def firstF (m : Nat) (R : Nat → Nat) (p : Nat) : Bool := (List.range m).all (fun o => !(decide (bitN (R p) o = 1) && (decide (o < p) || decide (R o ≠ R p))))
def clsF (m : Nat) (R : Nat → Nat) : Nat → Nat
  | 0 => 0
  | p + 1 => clsF m R p + (if firstF m R p then 1 else 0)

set_option maxRecDepth 100000 in
set_option maxHeartbeats 400000 in
theorem g_Ro_fr1 {sc : aScr} {e0 e1 e2 e3 e4 e5 e6 e7 e8 e9 e10 e11 e12 e13 e14 e15 e16 e17 e21 e22 e25 e26 e27 e28 e29 e30 e31 e32 e33 e34 e35 e36 e37 e38 e39 e40 e41 e42 e43 e44 e45 e46 e47 e48 : va_E} {m t : Nat} {M : Gr} {sl ws : Int64} {cc : Int32} {re : Nat → Int64} {a : Nat} {kc kn : Nat} {O : Option Value → aH → Prop} (hm : m ≤ 4) (ha : a ≤ m) (K1 : (m ≤ a) → JR M_Ro_findReach sc (84, [(0, .ref 18), (1, .int 0)], [], (HP e0 e1 e2 e3 e4 e5 e6 e7 e8 e9 e10 e11 e12 e13 e14 e15 e16 e17 (.inr (3, [.ref 19, .ref 21, .ref 23, .ref 25, .ref 27, .ref 29, .ref 31, .int (nI m), .int (nI t), .long sl, .long ws, .int cc])) (.inr (4, [.ref 20])) (.inl (1, 16, .inr (.inl (grd M)))) e21 e22 (.inr (4, [.ref 24])) (.inl (1, 4, .inr (.inl re))) e25 e26 e27 e28 e29 e30 e31 e32 e33 e34 e35 e36 e37 e38 e39 e40 e41 e42 e43 e44 e45 e46 e47 e48), kc, kn) O) (K2 : (a < m) → JR M_Ro_findReach sc (16, [(0, .ref 18), (1, .int (nI a)), (2, .int (nI (2 ^ a))), (3, .int 0)], [], (HP e0 e1 e2 e3 e4 e5 e6 e7 e8 e9 e10 e11 e12 e13 e14 e15 e16 e17 (.inr (3, [.ref 19, .ref 21, .ref 23, .ref 25, .ref 27, .ref 29, .ref 31, .int (nI m), .int (nI t), .long sl, .long ws, .int cc])) (.inr (4, [.ref 20])) (.inl (1, 16, .inr (.inl (grd M)))) e21 e22 (.inr (4, [.ref 24])) (.inl (1, 4, .inr (.inl re))) e25 e26 e27 e28 e29 e30 e31 e32 e33 e34 e35 e36 e37 e38 e39 e40 e41 e42 e43 e44 e45 e46 e47 e48), kc, kn) O) : JR M_Ro_findReach sc (2, [(0, .ref 18), (1, .int (nI a))], [], (HP e0 e1 e2 e3 e4 e5 e6 e7 e8 e9 e10 e11 e12 e13 e14 e15 e16 e17 (.inr (3, [.ref 19, .ref 21, .ref 23, .ref 25, .ref 27, .ref 29, .ref 31, .int (nI m), .int (nI t), .long sl, .long ws, .int cc])) (.inr (4, [.ref 20])) (.inl (1, 16, .inr (.inl (grd M)))) e21 e22 (.inr (4, [.ref 24])) (.inl (1, 4, .inr (.inl re))) e25 e26 e27 e28 e29 e30 e31 e32 e33 e34 e35 e36 e37 e38 e39 e40 e41 e42 e43 e44 e45 e46 e47 e48), kc, kn) O := by
  refine J.gp ok_Ro_findReach 3 (7, [(0, .ref 18), (1, .int (nI a))], [.int (nI m), .int (nI a)], _, _, _) rfl ?_
  refine J.icB ok_Ro_findReach (fun x y => y ≤ x) 82 10 rfl (fun (h0 : nI m ≤ nI a) => ?_) (fun (h0 : ¬ (nI m ≤ nI a)) => ?_)
  · have c7 : m ≤ a := (nI_leI (a := m) (b := a) (by omega) (by omega)).mp h0
    refine J.gp ok_Ro_findReach 2 (84, [(0, .ref 18), (1, .int 0)], [], _, _, _) rfl ?_
    exact K1 c7
  · have c7 : a < m := Nat.not_le.mp (fun h9 => h0 ((nI_leI (a := m) (b := a) (by omega) (by omega)).mpr h9))
    refine J.gp ok_Ro_findReach 3 (13, [(0, .ref 18), (1, .int (nI a))], [.int (1 <<< (nI a &&& 31))], _, _, _) rfl ?_
    rw [show ((1 <<< (nI a &&& 31))) = nI (2 ^ a) from shl1 a (by omega)]
    refine J.gp ok_Ro_findReach 3 (16, [(0, .ref 18), (1, .int (nI a)), (2, .int (nI (2 ^ a))), (3, .int 0)], [], _, _, _) rfl ?_
    exact K2 c7

set_option maxRecDepth 100000 in
set_option maxHeartbeats 400000 in
theorem g_Ro_fr2 {sc : aScr} {e0 e1 e2 e3 e4 e5 e6 e7 e8 e9 e10 e11 e12 e13 e14 e15 e16 e17 e21 e22 e25 e26 e27 e28 e29 e30 e31 e32 e33 e34 e35 e36 e37 e38 e39 e40 e41 e42 e43 e44 e45 e46 e47 e48 : va_E} {m t : Nat} {M : Gr} {sl ws : Int64} {cc : Int32} {re : Nat → Int64} {a k q : Nat} {kc kn : Nat} {O : Option Value → aH → Prop} (hm : m ≤ 4) (ha : a < m) (hk : k ≤ m) (hq : q < 16) (hb : bitN q k < 2) (K1 : (m ≤ k) → JR M_Ro_findReach sc (2, [(0, .ref 18), (1, .int (nI (a + 1)))], [], (HP e0 e1 e2 e3 e4 e5 e6 e7 e8 e9 e10 e11 e12 e13 e14 e15 e16 e17 (.inr (3, [.ref 19, .ref 21, .ref 23, .ref 25, .ref 27, .ref 29, .ref 31, .int (nI m), .int (nI t), .long sl, .long ws, .int cc])) (.inr (4, [.ref 20])) (.inl (1, 16, .inr (.inl (grd M)))) e21 e22 (.inr (4, [.ref 24])) (.inl (1, 4, .inr (.inl (vp_updL re a (lN q))))) e25 e26 e27 e28 e29 e30 e31 e32 e33 e34 e35 e36 e37 e38 e39 e40 e41 e42 e43 e44 e45 e46 e47 e48), kc, kn) O) (K2 : (k < m) → (¬ (bitN q k) = 0) → JR M_Ro_findReach sc (16, [(0, .ref 18), (1, .int (nI a)), (2, .int (nI (wbit q k true))), (3, .int (nI (k + 1)))], [], (HP e0 e1 e2 e3 e4 e5 e6 e7 e8 e9 e10 e11 e12 e13 e14 e15 e16 e17 (.inr (3, [.ref 19, .ref 21, .ref 23, .ref 25, .ref 27, .ref 29, .ref 31, .int (nI m), .int (nI t), .long sl, .long ws, .int cc])) (.inr (4, [.ref 20])) (.inl (1, 16, .inr (.inl (grd M)))) e21 e22 (.inr (4, [.ref 24])) (.inl (1, 4, .inr (.inl re))) e25 e26 e27 e28 e29 e30 e31 e32 e33 e34 e35 e36 e37 e38 e39 e40 e41 e42 e43 e44 e45 e46 e47 e48), kc, kn) O) (K3 : (k < m) → ((bitN q k) = 0) → ((M a k) ≤ (0 : Int64)) → JR M_Ro_findReach sc (16, [(0, .ref 18), (1, .int (nI a)), (2, .int (nI (wbit q k false))), (3, .int (nI (k + 1)))], [], (HP e0 e1 e2 e3 e4 e5 e6 e7 e8 e9 e10 e11 e12 e13 e14 e15 e16 e17 (.inr (3, [.ref 19, .ref 21, .ref 23, .ref 25, .ref 27, .ref 29, .ref 31, .int (nI m), .int (nI t), .long sl, .long ws, .int cc])) (.inr (4, [.ref 20])) (.inl (1, 16, .inr (.inl (grd M)))) e21 e22 (.inr (4, [.ref 24])) (.inl (1, 4, .inr (.inl re))) e25 e26 e27 e28 e29 e30 e31 e32 e33 e34 e35 e36 e37 e38 e39 e40 e41 e42 e43 e44 e45 e46 e47 e48), kc, kn) O) (K4 : (k < m) → ((bitN q k) = 0) → ((0 : Int64) < (M a k)) → JR M_Ro_findReach sc (16, [(0, .ref 18), (1, .int (nI a)), (2, .int (nI (wbit q k true))), (3, .int (nI (k + 1)))], [], (HP e0 e1 e2 e3 e4 e5 e6 e7 e8 e9 e10 e11 e12 e13 e14 e15 e16 e17 (.inr (3, [.ref 19, .ref 21, .ref 23, .ref 25, .ref 27, .ref 29, .ref 31, .int (nI m), .int (nI t), .long sl, .long ws, .int cc])) (.inr (4, [.ref 20])) (.inl (1, 16, .inr (.inl (grd M)))) e21 e22 (.inr (4, [.ref 24])) (.inl (1, 4, .inr (.inl re))) e25 e26 e27 e28 e29 e30 e31 e32 e33 e34 e35 e36 e37 e38 e39 e40 e41 e42 e43 e44 e45 e46 e47 e48), kc, kn) O) : JR M_Ro_findReach sc (16, [(0, .ref 18), (1, .int (nI a)), (2, .int (nI q)), (3, .int (nI k))], [], (HP e0 e1 e2 e3 e4 e5 e6 e7 e8 e9 e10 e11 e12 e13 e14 e15 e16 e17 (.inr (3, [.ref 19, .ref 21, .ref 23, .ref 25, .ref 27, .ref 29, .ref 31, .int (nI m), .int (nI t), .long sl, .long ws, .int cc])) (.inr (4, [.ref 20])) (.inl (1, 16, .inr (.inl (grd M)))) e21 e22 (.inr (4, [.ref 24])) (.inl (1, 4, .inr (.inl re))) e25 e26 e27 e28 e29 e30 e31 e32 e33 e34 e35 e36 e37 e38 e39 e40 e41 e42 e43 e44 e45 e46 e47 e48), kc, kn) O := by
  refine J.gp ok_Ro_findReach 3 (21, [(0, .ref 18), (1, .int (nI a)), (2, .int (nI q)), (3, .int (nI k))], [.int (nI m), .int (nI k)], _, _, _) rfl ?_
  refine J.icB ok_Ro_findReach (fun x y => y ≤ x) 66 24 rfl (fun (h0 : nI m ≤ nI k) => ?_) (fun (h0 : ¬ (nI m ≤ nI k)) => ?_)
  · have c21 : m ≤ k := (nI_leI (a := m) (b := k) (by omega) (by omega)).mp h0
    refine J.gp ok_Ro_findReach 5 (73, [(0, .ref 18), (1, .int (nI a)), (2, .int (nI q)), (3, .int (nI k))], [.long ((nI q).toInt64), .int (nI a), .ref 23], _, _, _) rfl ?_
    rw [show (((nI q).toInt64) : Int64) = lN q from nI_l (n := q) (by omega)]
    refine J.callVE s_Ro_findReach_73 76 23 [.int (nI a), .long (lN q)] 4 (c_Rw_set_23 (j := a) (by omega)) rfl rfl rfl rfl rfl (Nat.le_of_ble_eq_true rfl) rfl ?_
    refine J.gp ok_Ro_findReach 0 (76, [(0, .ref 18), (1, .int (nI a)), (2, .int (nI q)), (3, .int (nI k))], [], (HP e0 e1 e2 e3 e4 e5 e6 e7 e8 e9 e10 e11 e12 e13 e14 e15 e16 e17 (.inr (3, [.ref 19, .ref 21, .ref 23, .ref 25, .ref 27, .ref 29, .ref 31, .int (nI m), .int (nI t), .long sl, .long ws, .int cc])) (.inr (4, [.ref 20])) (.inl (1, 16, .inr (.inl (grd M)))) e21 e22 (.inr (4, [.ref 24])) (.inl (1, 4, .inr (.inl (vp_updL re a (lN q))))) e25 e26 e27 e28 e29 e30 e31 e32 e33 e34 e35 e36 e37 e38 e39 e40 e41 e42 e43 e44 e45 e46 e47 e48), kc, kn) rfl ?_
    refine J.gp ok_Ro_findReach 1 (79, [(0, .ref 18), (1, .int (nI a + 1)), (2, .int (nI q)), (3, .int (nI k))], [], _, _, _) rfl ?_
    rw [show ((nI a + 1) : Int32) = nI (a + 1) from nI_add a 1]
    refine J.gp ok_Ro_findReach 1 (2, [(0, .ref 18), (1, .int (nI (a + 1))), (2, .int (nI q)), (3, .int (nI k))], [], _, _, _) rfl ?_
    refine J.lv [0, 1] [(0, .ref 18), (1, .int (nI (a + 1)))] rfl ?_
    exact K1 c21
  · have c21 : k < m := Nat.not_le.mp (fun h9 => h0 ((nI_leI (a := m) (b := k) (by omega) (by omega)).mpr h9))
    refine J.gp ok_Ro_findReach 4 (28, [(0, .ref 18), (1, .int (nI a)), (2, .int (nI q)), (3, .int (nI k))], [.int (nI k), .int (nI q), .int (nI k), .int (nI q)], _, _, _) rfl ?_
    refine J.callSNE s_Ro_findReach_28 31 [.int (nI q), .int (nI k)] (c_F_hasBit (by omega) (by omega)) rfl rfl (Nat.le_of_ble_eq_true rfl) rfl ?_
    refine J.gp ok_Ro_findReach 0 (31, [(0, .ref 18), (1, .int (nI a)), (2, .int (nI q)), (3, .int (nI k))], [.int (nI (bitN q k)), .int (nI k), .int (nI q)], (HP e0 e1 e2 e3 e4 e5 e6 e7 e8 e9 e10 e11 e12 e13 e14 e15 e16 e17 (.inr (3, [.ref 19, .ref 21, .ref 23, .ref 25, .ref 27, .ref 29, .ref 31, .int (nI m), .int (nI t), .long sl, .long ws, .int cc])) (.inr (4, [.ref 20])) (.inl (1, 16, .inr (.inl (grd M)))) e21 e22 (.inr (4, [.ref 24])) (.inl (1, 4, .inr (.inl re))) e25 e26 e27 e28 e29 e30 e31 e32 e33 e34 e35 e36 e37 e38 e39 e40 e41 e42 e43 e44 e45 e46 e47 e48), kc, kn) rfl ?_
    refine J.ifB ok_Ro_findReach (fun x => ¬ x = 0) 51 34 rfl (fun (h0 : ¬ nI (bitN q k) = 0) => ?_) (fun (h0 : ¬ (¬ nI (bitN q k) = 0)) => ?_)
    · have c31 : ¬ (bitN q k) = 0 := fun h9 => h0 ((nI_eq (a := bitN q k) (b := 0) (by omega) (by omega)).mpr h9)
      refine J.gp ok_Ro_findReach 2 (56, [(0, .ref 18), (1, .int (nI a)), (2, .int (nI q)), (3, .int (nI k))], [.int 1, .int (nI k), .int (nI q)], _, _, _) rfl ?_
      refine J.callSNE s_Ro_findReach_56 59 [.int (nI q), .int (nI k), .int 1] (c_F_withBit (s := true) (by omega) (by omega) (by decide)) rfl rfl (Nat.le_of_ble_eq_true rfl) rfl ?_
      refine J.gp ok_Ro_findReach 0 (59, [(0, .ref 18), (1, .int (nI a)), (2, .int (nI q)), (3, .int (nI k))], [.int (nI (wbit q k true))], (HP e0 e1 e2 e3 e4 e5 e6 e7 e8 e9 e10 e11 e12 e13 e14 e15 e16 e17 (.inr (3, [.ref 19, .ref 21, .ref 23, .ref 25, .ref 27, .ref 29, .ref 31, .int (nI m), .int (nI t), .long sl, .long ws, .int cc])) (.inr (4, [.ref 20])) (.inl (1, 16, .inr (.inl (grd M)))) e21 e22 (.inr (4, [.ref 24])) (.inl (1, 4, .inr (.inl re))) e25 e26 e27 e28 e29 e30 e31 e32 e33 e34 e35 e36 e37 e38 e39 e40 e41 e42 e43 e44 e45 e46 e47 e48), kc, kn) rfl ?_
      refine J.gp ok_Ro_findReach 2 (63, [(0, .ref 18), (1, .int (nI a)), (2, .int (nI (wbit q k true))), (3, .int (nI k + 1))], [], _, _, _) rfl ?_
      rw [show ((nI k + 1) : Int32) = nI (k + 1) from nI_add k 1]
      refine J.gp ok_Ro_findReach 1 (16, [(0, .ref 18), (1, .int (nI a)), (2, .int (nI (wbit q k true))), (3, .int (nI (k + 1)))], [], _, _, _) rfl ?_
      exact K2 c21 c31
    · have c31 : (bitN q k) = 0 := (nI_eq (a := bitN q k) (b := 0) (by omega) (by omega)).mp (Classical.byContradiction h0)
      refine J.gp ok_Ro_findReach 4 (40, [(0, .ref 18), (1, .int (nI a)), (2, .int (nI q)), (3, .int (nI k))], [.int (nI k), .int (nI a), .ref 19, .int (nI k), .int (nI q)], _, _, _) rfl ?_
      refine J.callSE s_Ro_findReach_40 43 [.int (nI a), .int (nI k)] (c_Ro_cell) rfl rfl (Nat.le_of_ble_eq_true rfl) rfl ?_
      refine J.gp ok_Ro_findReach 0 (43, [(0, .ref 18), (1, .int (nI a)), (2, .int (nI q)), (3, .int (nI k))], [.int (nI (a * 4 + k)), .ref 19, .int (nI k), .int (nI q)], (HP e0 e1 e2 e3 e4 e5 e6 e7 e8 e9 e10 e11 e12 e13 e14 e15 e16 e17 (.inr (3, [.ref 19, .ref 21, .ref 23, .ref 25, .ref 27, .ref 29, .ref 31, .int (nI m), .int (nI t), .long sl, .long ws, .int cc])) (.inr (4, [.ref 20])) (.inl (1, 16, .inr (.inl (grd M)))) e21 e22 (.inr (4, [.ref 24])) (.inl (1, 4, .inr (.inl re))) e25 e26 e27 e28 e29 e30 e31 e32 e33 e34 e35 e36 e37 e38 e39 e40 e41 e42 e43 e44 e45 e46 e47 e48), kc, kn) rfl ?_
      refine J.callVE s_Ro_findReach_43 46 19 [.int (nI (a * 4 + k))] 4 (c_Rw_get_19 (j := a * 4 + k) (by omega)) rfl rfl rfl rfl rfl (Nat.le_of_ble_eq_true rfl) rfl ?_
      refine J.gp ok_Ro_findReach 0 (46, [(0, .ref 18), (1, .int (nI a)), (2, .int (nI q)), (3, .int (nI k))], [.long ((grd M) (a * 4 + k)), .int (nI k), .int (nI q)], (HP e0 e1 e2 e3 e4 e5 e6 e7 e8 e9 e10 e11 e12 e13 e14 e15 e16 e17 (.inr (3, [.ref 19, .ref 21, .ref 23, .ref 25, .ref 27, .ref 29, .ref 31, .int (nI m), .int (nI t), .long sl, .long ws, .int cc])) (.inr (4, [.ref 20])) (.inl (1, 16, .inr (.inl (grd M)))) e21 e22 (.inr (4, [.ref 24])) (.inl (1, 4, .inr (.inl re))) e25 e26 e27 e28 e29 e30 e31 e32 e33 e34 e35 e36 e37 e38 e39 e40 e41 e42 e43 e44 e45 e46 e47 e48), kc, kn) rfl ?_
      rw [show (((grd M) (a * 4 + k))) = (M a k) from grd_get (by omega)]
      refine J.gp ok_Ro_findReach 2 (48, [(0, .ref 18), (1, .int (nI a)), (2, .int (nI q)), (3, .int (nI k))], [.int (lg_cmp (M a k) 0), .int (nI k), .int (nI q)], _, _, _) rfl ?_
      refine J.ifB ok_Ro_findReach (fun x => x ≤ 0) 55 51 rfl (fun (h0 : (lg_cmp (M a k) 0) ≤ 0) => ?_) (fun (h0 : ¬ ((lg_cmp (M a k) 0) ≤ 0)) => ?_)
      · have c48 : (M a k) ≤ (0 : Int64) := (cmp_le).mp h0
        refine J.gp ok_Ro_findReach 1 (56, [(0, .ref 18), (1, .int (nI a)), (2, .int (nI q)), (3, .int (nI k))], [.int 0, .int (nI k), .int (nI q)], _, _, _) rfl ?_
        refine J.callSNE s_Ro_findReach_56 59 [.int (nI q), .int (nI k), .int 0] (c_F_withBit (s := false) (by omega) (by omega) (by decide)) rfl rfl (Nat.le_of_ble_eq_true rfl) rfl ?_
        refine J.gp ok_Ro_findReach 0 (59, [(0, .ref 18), (1, .int (nI a)), (2, .int (nI q)), (3, .int (nI k))], [.int (nI (wbit q k false))], (HP e0 e1 e2 e3 e4 e5 e6 e7 e8 e9 e10 e11 e12 e13 e14 e15 e16 e17 (.inr (3, [.ref 19, .ref 21, .ref 23, .ref 25, .ref 27, .ref 29, .ref 31, .int (nI m), .int (nI t), .long sl, .long ws, .int cc])) (.inr (4, [.ref 20])) (.inl (1, 16, .inr (.inl (grd M)))) e21 e22 (.inr (4, [.ref 24])) (.inl (1, 4, .inr (.inl re))) e25 e26 e27 e28 e29 e30 e31 e32 e33 e34 e35 e36 e37 e38 e39 e40 e41 e42 e43 e44 e45 e46 e47 e48), kc, kn) rfl ?_
        refine J.gp ok_Ro_findReach 2 (63, [(0, .ref 18), (1, .int (nI a)), (2, .int (nI (wbit q k false))), (3, .int (nI k + 1))], [], _, _, _) rfl ?_
        rw [show ((nI k + 1) : Int32) = nI (k + 1) from nI_add k 1]
        refine J.gp ok_Ro_findReach 1 (16, [(0, .ref 18), (1, .int (nI a)), (2, .int (nI (wbit q k false))), (3, .int (nI (k + 1)))], [], _, _, _) rfl ?_
        exact K3 c21 c31 c48
      · have c48 : (0 : Int64) < (M a k) := (cmp_le_n).mp h0
        refine J.gp ok_Ro_findReach 2 (56, [(0, .ref 18), (1, .int (nI a)), (2, .int (nI q)), (3, .int (nI k))], [.int 1, .int (nI k), .int (nI q)], _, _, _) rfl ?_
        refine J.callSNE s_Ro_findReach_56 59 [.int (nI q), .int (nI k), .int 1] (c_F_withBit (s := true) (by omega) (by omega) (by decide)) rfl rfl (Nat.le_of_ble_eq_true rfl) rfl ?_
        refine J.gp ok_Ro_findReach 0 (59, [(0, .ref 18), (1, .int (nI a)), (2, .int (nI q)), (3, .int (nI k))], [.int (nI (wbit q k true))], (HP e0 e1 e2 e3 e4 e5 e6 e7 e8 e9 e10 e11 e12 e13 e14 e15 e16 e17 (.inr (3, [.ref 19, .ref 21, .ref 23, .ref 25, .ref 27, .ref 29, .ref 31, .int (nI m), .int (nI t), .long sl, .long ws, .int cc])) (.inr (4, [.ref 20])) (.inl (1, 16, .inr (.inl (grd M)))) e21 e22 (.inr (4, [.ref 24])) (.inl (1, 4, .inr (.inl re))) e25 e26 e27 e28 e29 e30 e31 e32 e33 e34 e35 e36 e37 e38 e39 e40 e41 e42 e43 e44 e45 e46 e47 e48), kc, kn) rfl ?_
        refine J.gp ok_Ro_findReach 2 (63, [(0, .ref 18), (1, .int (nI a)), (2, .int (nI (wbit q k true))), (3, .int (nI k + 1))], [], _, _, _) rfl ?_
        rw [show ((nI k + 1) : Int32) = nI (k + 1) from nI_add k 1]
        refine J.gp ok_Ro_findReach 1 (16, [(0, .ref 18), (1, .int (nI a)), (2, .int (nI (wbit q k true))), (3, .int (nI (k + 1)))], [], _, _, _) rfl ?_
        exact K4 c21 c31 c48

set_option maxRecDepth 100000 in
set_option maxHeartbeats 400000 in
theorem g_Ro_fr3 {sc : aScr} {e0 e1 e2 e3 e4 e5 e6 e7 e8 e9 e10 e11 e12 e13 e14 e15 e16 e17 e21 e22 e25 e26 e27 e28 e29 e30 e31 e32 e33 e34 e35 e36 e37 e38 e39 e40 e41 e42 e43 e44 e45 e46 e47 e48 : va_E} {m t : Nat} {M : Gr} {sl ws : Int64} {cc : Int32} {re : Nat → Int64} {v : Nat} {kc kn : Nat} {O : Option Value → aH → Prop} (hm : m ≤ 4) (hv : v ≤ m) (K1 : (m ≤ v) → O none (HP e0 e1 e2 e3 e4 e5 e6 e7 e8 e9 e10 e11 e12 e13 e14 e15 e16 e17 (.inr (3, [.ref 19, .ref 21, .ref 23, .ref 25, .ref 27, .ref 29, .ref 31, .int (nI m), .int (nI t), .long sl, .long ws, .int cc])) (.inr (4, [.ref 20])) (.inl (1, 16, .inr (.inl (grd M)))) e21 e22 (.inr (4, [.ref 24])) (.inl (1, 4, .inr (.inl re))) e25 e26 e27 e28 e29 e30 e31 e32 e33 e34 e35 e36 e37 e38 e39 e40 e41 e42 e43 e44 e45 e46 e47 e48)) (K2 : (v < m) → JR M_Ro_findReach sc (94, [(0, .ref 18), (1, .int (nI v)), (2, .int 0)], [], (HP e0 e1 e2 e3 e4 e5 e6 e7 e8 e9 e10 e11 e12 e13 e14 e15 e16 e17 (.inr (3, [.ref 19, .ref 21, .ref 23, .ref 25, .ref 27, .ref 29, .ref 31, .int (nI m), .int (nI t), .long sl, .long ws, .int cc])) (.inr (4, [.ref 20])) (.inl (1, 16, .inr (.inl (grd M)))) e21 e22 (.inr (4, [.ref 24])) (.inl (1, 4, .inr (.inl re))) e25 e26 e27 e28 e29 e30 e31 e32 e33 e34 e35 e36 e37 e38 e39 e40 e41 e42 e43 e44 e45 e46 e47 e48), kc, kn) O) : JR M_Ro_findReach sc (84, [(0, .ref 18), (1, .int (nI v))], [], (HP e0 e1 e2 e3 e4 e5 e6 e7 e8 e9 e10 e11 e12 e13 e14 e15 e16 e17 (.inr (3, [.ref 19, .ref 21, .ref 23, .ref 25, .ref 27, .ref 29, .ref 31, .int (nI m), .int (nI t), .long sl, .long ws, .int cc])) (.inr (4, [.ref 20])) (.inl (1, 16, .inr (.inl (grd M)))) e21 e22 (.inr (4, [.ref 24])) (.inl (1, 4, .inr (.inl re))) e25 e26 e27 e28 e29 e30 e31 e32 e33 e34 e35 e36 e37 e38 e39 e40 e41 e42 e43 e44 e45 e46 e47 e48), kc, kn) O := by
  refine J.gp ok_Ro_findReach 3 (89, [(0, .ref 18), (1, .int (nI v))], [.int (nI m), .int (nI v)], _, _, _) rfl ?_
  refine J.icB ok_Ro_findReach (fun x y => y ≤ x) 155 92 rfl (fun (h0 : nI m ≤ nI v) => ?_) (fun (h0 : ¬ (nI m ≤ nI v)) => ?_)
  · have c89 : m ≤ v := (nI_leI (a := m) (b := v) (by omega) (by omega)).mp h0
    refine JR.vret (by decide +kernel) rfl ?_
    exact K1 c89
  · have c89 : v < m := Nat.not_le.mp (fun h9 => h0 ((nI_leI (a := m) (b := v) (by omega) (by omega)).mpr h9))
    refine J.gp ok_Ro_findReach 2 (94, [(0, .ref 18), (1, .int (nI v)), (2, .int 0)], [], _, _, _) rfl ?_
    exact K2 c89

set_option maxRecDepth 100000 in
set_option maxHeartbeats 400000 in
theorem g_Ro_fr4 {sc : aScr} {e0 e1 e2 e3 e4 e5 e6 e7 e8 e9 e10 e11 e12 e13 e14 e15 e16 e17 e21 e22 e25 e26 e27 e28 e29 e30 e31 e32 e33 e34 e35 e36 e37 e38 e39 e40 e41 e42 e43 e44 e45 e46 e47 e48 : va_E} {m t : Nat} {M : Gr} {sl ws : Int64} {cc : Int32} {R : Nat → Nat} {re : Nat → Int64} {v k : Nat} {kc kn : Nat} {O : Option Value → aH → Prop} (hm : m ≤ 4) (hv : v < m) (hk : k ≤ m) (hR : ∀ i, i < 4 → R i < 16) (h1 : k < 4 → R k < 16) (h2 : R v < 16) (h3 : bitN (R k) v < 2) (K1 : (m ≤ k) → JR M_Ro_findReach sc (84, [(0, .ref 18), (1, .int (nI (v + 1)))], [], (HP e0 e1 e2 e3 e4 e5 e6 e7 e8 e9 e10 e11 e12 e13 e14 e15 e16 e17 (.inr (3, [.ref 19, .ref 21, .ref 23, .ref 25, .ref 27, .ref 29, .ref 31, .int (nI m), .int (nI t), .long sl, .long ws, .int cc])) (.inr (4, [.ref 20])) (.inl (1, 16, .inr (.inl (grd M)))) e21 e22 (.inr (4, [.ref 24])) (.inl (1, 4, .inr (.inl (reA m R re)))) e25 e26 e27 e28 e29 e30 e31 e32 e33 e34 e35 e36 e37 e38 e39 e40 e41 e42 e43 e44 e45 e46 e47 e48), kc, kn) O) (K2 : (k < m) → ((bitN (R k) v) = 0) → JR M_Ro_findReach sc (94, [(0, .ref 18), (1, .int (nI v)), (2, .int (nI (k + 1)))], [], (HP e0 e1 e2 e3 e4 e5 e6 e7 e8 e9 e10 e11 e12 e13 e14 e15 e16 e17 (.inr (3, [.ref 19, .ref 21, .ref 23, .ref 25, .ref 27, .ref 29, .ref 31, .int (nI m), .int (nI t), .long sl, .long ws, .int cc])) (.inr (4, [.ref 20])) (.inl (1, 16, .inr (.inl (grd M)))) e21 e22 (.inr (4, [.ref 24])) (.inl (1, 4, .inr (.inl (reA m R re)))) e25 e26 e27 e28 e29 e30 e31 e32 e33 e34 e35 e36 e37 e38 e39 e40 e41 e42 e43 e44 e45 e46 e47 e48), kc, kn) O) (K3 : (k < m) → (¬ (bitN (R k) v) = 0) → JR M_Ro_findReach sc (94, [(0, .ref 18), (1, .int (nI v)), (2, .int (nI (k + 1)))], [], (HP e0 e1 e2 e3 e4 e5 e6 e7 e8 e9 e10 e11 e12 e13 e14 e15 e16 e17 (.inr (3, [.ref 19, .ref 21, .ref 23, .ref 25, .ref 27, .ref 29, .ref 31, .int (nI m), .int (nI t), .long sl, .long ws, .int cc])) (.inr (4, [.ref 20])) (.inl (1, 16, .inr (.inl (grd M)))) e21 e22 (.inr (4, [.ref 24])) (.inl (1, 4, .inr (.inl (vp_updL (reA m R re) k (lN (R k ||| R v)))))) e25 e26 e27 e28 e29 e30 e31 e32 e33 e34 e35 e36 e37 e38 e39 e40 e41 e42 e43 e44 e45 e46 e47 e48), kc, kn) O) : JR M_Ro_findReach sc (94, [(0, .ref 18), (1, .int (nI v)), (2, .int (nI k))], [], (HP e0 e1 e2 e3 e4 e5 e6 e7 e8 e9 e10 e11 e12 e13 e14 e15 e16 e17 (.inr (3, [.ref 19, .ref 21, .ref 23, .ref 25, .ref 27, .ref 29, .ref 31, .int (nI m), .int (nI t), .long sl, .long ws, .int cc])) (.inr (4, [.ref 20])) (.inl (1, 16, .inr (.inl (grd M)))) e21 e22 (.inr (4, [.ref 24])) (.inl (1, 4, .inr (.inl (reA m R re)))) e25 e26 e27 e28 e29 e30 e31 e32 e33 e34 e35 e36 e37 e38 e39 e40 e41 e42 e43 e44 e45 e46 e47 e48), kc, kn) O := by
  refine J.gp ok_Ro_findReach 3 (99, [(0, .ref 18), (1, .int (nI v)), (2, .int (nI k))], [.int (nI m), .int (nI k)], _, _, _) rfl ?_
  refine J.icB ok_Ro_findReach (fun x y => y ≤ x) 149 102 rfl (fun (h0 : nI m ≤ nI k) => ?_) (fun (h0 : ¬ (nI m ≤ nI k)) => ?_)
  · have c99 : m ≤ k := (nI_leI (a := m) (b := k) (by omega) (by omega)).mp h0
    refine J.gp ok_Ro_findReach 1 (152, [(0, .ref 18), (1, .int (nI v + 1)), (2, .int (nI k))], [], _, _, _) rfl ?_
    rw [show ((nI v + 1) : Int32) = nI (v + 1) from nI_add v 1]
    refine J.gp ok_Ro_findReach 1 (84, [(0, .ref 18), (1, .int (nI (v + 1))), (2, .int (nI k))], [], _, _, _) rfl ?_
    refine J.lv [0, 1] [(0, .ref 18), (1, .int (nI (v + 1)))] rfl ?_
    exact K1 c99
  · have c99 : k < m := Nat.not_le.mp (fun h9 => h0 ((nI_leI (a := m) (b := k) (by omega) (by omega)).mpr h9))
    refine J.gp ok_Ro_findReach 3 (107, [(0, .ref 18), (1, .int (nI v)), (2, .int (nI k))], [.int (nI k), .ref 23], _, _, _) rfl ?_
    refine J.callVE s_Ro_findReach_107 110 23 [.int (nI k)] 4 (c_Rw_get_23 (j := k) (by omega)) rfl rfl rfl rfl rfl (Nat.le_of_ble_eq_true rfl) rfl ?_
    refine J.gp ok_Ro_findReach 0 (110, [(0, .ref 18), (1, .int (nI v)), (2, .int (nI k))], [.long ((reA m R re) k)], (HP e0 e1 e2 e3 e4 e5 e6 e7 e8 e9 e10 e11 e12 e13 e14 e15 e16 e17 (.inr (3, [.ref 19, .ref 21, .ref 23, .ref 25, .ref 27, .ref 29, .ref 31, .int (nI m), .int (nI t), .long sl, .long ws, .int cc])) (.inr (4, [.ref 20])) (.inl (1, 16, .inr (.inl (grd M)))) e21 e22 (.inr (4, [.ref 24])) (.inl (1, 4, .inr (.inl (reA m R re)))) e25 e26 e27 e28 e29 e30 e31 e32 e33 e34 e35 e36 e37 e38 e39 e40 e41 e42 e43 e44 e45 e46 e47 e48), kc, kn) rfl ?_
    rw [show (((reA m R re) k)) = lN (R k) from reA_get (by omega)]
    refine J.gp ok_Ro_findReach 1 (111, [(0, .ref 18), (1, .int (nI v)), (2, .int (nI k))], [.int ((lN (R k)).toInt32)], _, _, _) rfl ?_
    rw [show (((lN (R k)).toInt32) : Int32) = nI (R k) from lN_i (R k)]
    refine J.gp ok_Ro_findReach 1 (112, [(0, .ref 18), (1, .int (nI v)), (2, .int (nI k))], [.int (nI v), .int (nI (R k))], _, _, _) rfl ?_
    refine J.callSNE s_Ro_findReach_112 115 [.int (nI (R k)), .int (nI v)] (c_F_hasBit (by omega) (by omega)) rfl rfl (Nat.le_of_ble_eq_true rfl) rfl ?_
    refine J.gp ok_Ro_findReach 0 (115, [(0, .ref 18), (1, .int (nI v)), (2, .int (nI k))], [.int (nI (bitN (R k) v))], (HP e0 e1 e2 e3 e4 e5 e6 e7 e8 e9 e10 e11 e12 e13 e14 e15 e16 e17 (.inr (3, [.ref 19, .ref 21, .ref 23, .ref 25, .ref 27, .ref 29, .ref 31, .int (nI m), .int (nI t), .long sl, .long ws, .int cc])) (.inr (4, [.ref 20])) (.inl (1, 16, .inr (.inl (grd M)))) e21 e22 (.inr (4, [.ref 24])) (.inl (1, 4, .inr (.inl (reA m R re)))) e25 e26 e27 e28 e29 e30 e31 e32 e33 e34 e35 e36 e37 e38 e39 e40 e41 e42 e43 e44 e45 e46 e47 e48), kc, kn) rfl ?_
    refine J.ifB ok_Ro_findReach (fun x => x = 0) 143 118 rfl (fun (h0 : nI (bitN (R k) v) = 0) => ?_) (fun (h0 : ¬ (nI (bitN (R k) v) = 0)) => ?_)
    · have c115 : (bitN (R k) v) = 0 := (nI_eq (a := bitN (R k) v) (b := 0) (by omega) (by omega)).mp h0
      refine J.gp ok_Ro_findReach 1 (146, [(0, .ref 18), (1, .int (nI v)), (2, .int (nI k + 1))], [], _, _, _) rfl ?_
      rw [show ((nI k + 1) : Int32) = nI (k + 1) from nI_add k 1]
      refine J.gp ok_Ro_findReach 1 (94, [(0, .ref 18), (1, .int (nI v)), (2, .int (nI (k + 1)))], [], _, _, _) rfl ?_
      exact K2 c99 c115
    · have c115 : ¬ (bitN (R k) v) = 0 := fun h9 => h0 ((nI_eq (a := bitN (R k) v) (b := 0) (by omega) (by omega)).mpr h9)
      refine J.gp ok_Ro_findReach 6 (128, [(0, .ref 18), (1, .int (nI v)), (2, .int (nI k))], [.int (nI k), .ref 23, .int (nI k), .ref 23], _, _, _) rfl ?_
      refine J.callVE s_Ro_findReach_128 131 23 [.int (nI k)] 4 (c_Rw_get_23 (j := k) (by omega)) rfl rfl rfl rfl rfl (Nat.le_of_ble_eq_true rfl) rfl ?_
      refine J.gp ok_Ro_findReach 0 (131, [(0, .ref 18), (1, .int (nI v)), (2, .int (nI k))], [.long ((reA m R re) k), .int (nI k), .ref 23], (HP e0 e1 e2 e3 e4 e5 e6 e7 e8 e9 e10 e11 e12 e13 e14 e15 e16 e17 (.inr (3, [.ref 19, .ref 21, .ref 23, .ref 25, .ref 27, .ref 29, .ref 31, .int (nI m), .int (nI t), .long sl, .long ws, .int cc])) (.inr (4, [.ref 20])) (.inl (1, 16, .inr (.inl (grd M)))) e21 e22 (.inr (4, [.ref 24])) (.inl (1, 4, .inr (.inl (reA m R re)))) e25 e26 e27 e28 e29 e30 e31 e32 e33 e34 e35 e36 e37 e38 e39 e40 e41 e42 e43 e44 e45 e46 e47 e48), kc, kn) rfl ?_
      rw [show (((reA m R re) k)) = lN (R k) from reA_get (by omega)]
      refine J.gp ok_Ro_findReach 3 (136, [(0, .ref 18), (1, .int (nI v)), (2, .int (nI k))], [.int (nI v), .ref 23, .long (lN (R k)), .int (nI k), .ref 23], _, _, _) rfl ?_
      refine J.callVE s_Ro_findReach_136 139 23 [.int (nI v)] 4 (c_Rw_get_23 (j := v) (by omega)) rfl rfl rfl rfl rfl (Nat.le_of_ble_eq_true rfl) rfl ?_
      refine J.gp ok_Ro_findReach 0 (139, [(0, .ref 18), (1, .int (nI v)), (2, .int (nI k))], [.long ((reA m R re) v), .long (lN (R k)), .int (nI k), .ref 23], (HP e0 e1 e2 e3 e4 e5 e6 e7 e8 e9 e10 e11 e12 e13 e14 e15 e16 e17 (.inr (3, [.ref 19, .ref 21, .ref 23, .ref 25, .ref 27, .ref 29, .ref 31, .int (nI m), .int (nI t), .long sl, .long ws, .int cc])) (.inr (4, [.ref 20])) (.inl (1, 16, .inr (.inl (grd M)))) e21 e22 (.inr (4, [.ref 24])) (.inl (1, 4, .inr (.inl (reA m R re)))) e25 e26 e27 e28 e29 e30 e31 e32 e33 e34 e35 e36 e37 e38 e39 e40 e41 e42 e43 e44 e45 e46 e47 e48), kc, kn) rfl ?_
      rw [show (((reA m R re) v)) = lN (R v) from reA_get (by omega)]
      refine J.gp ok_Ro_findReach 1 (140, [(0, .ref 18), (1, .int (nI v)), (2, .int (nI k))], [.long (lN (R k) ||| lN (R v)), .int (nI k), .ref 23], _, _, _) rfl ?_
      rw [show ((lN (R k) ||| lN (R v))) = lN (R k ||| R v) from lor16 _ (by omega) _ h2]
      refine J.callVE s_Ro_findReach_140 143 23 [.int (nI k), .long (lN (R k ||| R v))] 4 (c_Rw_set_23 (j := k) (by omega)) rfl rfl rfl rfl rfl (Nat.le_of_ble_eq_true rfl) rfl ?_
      refine J.gp ok_Ro_findReach 0 (143, [(0, .ref 18), (1, .int (nI v)), (2, .int (nI k))], [], (HP e0 e1 e2 e3 e4 e5 e6 e7 e8 e9 e10 e11 e12 e13 e14 e15 e16 e17 (.inr (3, [.ref 19, .ref 21, .ref 23, .ref 25, .ref 27, .ref 29, .ref 31, .int (nI m), .int (nI t), .long sl, .long ws, .int cc])) (.inr (4, [.ref 20])) (.inl (1, 16, .inr (.inl (grd M)))) e21 e22 (.inr (4, [.ref 24])) (.inl (1, 4, .inr (.inl (vp_updL (reA m R re) k (lN (R k ||| R v)))))) e25 e26 e27 e28 e29 e30 e31 e32 e33 e34 e35 e36 e37 e38 e39 e40 e41 e42 e43 e44 e45 e46 e47 e48), kc, kn) rfl ?_
      refine J.gp ok_Ro_findReach 1 (146, [(0, .ref 18), (1, .int (nI v)), (2, .int (nI k + 1))], [], _, _, _) rfl ?_
      rw [show ((nI k + 1) : Int32) = nI (k + 1) from nI_add k 1]
      refine J.gp ok_Ro_findReach 1 (94, [(0, .ref 18), (1, .int (nI v)), (2, .int (nI (k + 1)))], [], _, _, _) rfl ?_
      exact K3 c99 c115

theorem reA_congr {m : Nat} {R R' : Nat → Nat} {re : Nat → Int64} (h : ∀ i, i < m → R i = R' i) : reA m R re = reA m R' re := by
  funext j
  unfold reA
  by_cases e : j < m
  · rw [if_pos e, if_pos e, h j e]
  · rw [if_neg e, if_neg e]
set_option maxRecDepth 100000 in
set_option maxHeartbeats 1000000 in
theorem c_Ro_findReach {e0 e1 e2 e3 e4 e5 e6 e7 e8 e9 e10 e11 e12 e13 e14 e15 e16 e17 e21 e22 e25 e26 e27 e28 e29 e30 e31 e32 e33 e34 e35 e36 e37 e38 e39 e40 e41 e42 e43 e44 e45 e46 e47 e48 : va_E} {m t : Nat} {M : Gr} {sl ws : Int64} {cc : Int32} {re : Nat → Int64} (hm : m ≤ 4) : JE M_Ro_findReach [.ref 18] (HP e0 e1 e2 e3 e4 e5 e6 e7 e8 e9 e10 e11 e12 e13 e14 e15 e16 e17 (.inr (3, [.ref 19, .ref 21, .ref 23, .ref 25, .ref 27, .ref 29, .ref 31, .int (nI m), .int (nI t), .long sl, .long ws, .int cc])) (.inr (4, [.ref 20])) (.inl (1, 16, .inr (.inl (grd M)))) e21 e22 (.inr (4, [.ref 24])) (.inl (1, 4, .inr (.inl re))) e25 e26 e27 e28 e29 e30 e31 e32 e33 e34 e35 e36 e37 e38 e39 e40 e41 e42 e43 e44 e45 e46 e47 e48) none (HP e0 e1 e2 e3 e4 e5 e6 e7 e8 e9 e10 e11 e12 e13 e14 e15 e16 e17 (.inr (3, [.ref 19, .ref 21, .ref 23, .ref 25, .ref 27, .ref 29, .ref 31, .int (nI m), .int (nI t), .long sl, .long ws, .int cc])) (.inr (4, [.ref 20])) (.inl (1, 16, .inr (.inl (grd M)))) e21 e22 (.inr (4, [.ref 24])) (.inl (1, 4, .inr (.inl (reA m (reachF m M) re)))) e25 e26 e27 e28 e29 e30 e31 e32 e33 e34 e35 e36 e37 e38 e39 e40 e41 e42 e43 e44 e45 e46 e47 e48) := by
  refine JM.of (by decide +kernel) rfl (Nat.le_of_ble_eq_true rfl) ?_
  refine JR.gp ok_Ro_findReach 2 (2, [(0, .ref 18), (1, .int (nI 0))], [], (HP e0 e1 e2 e3 e4 e5 e6 e7 e8 e9 e10 e11 e12 e13 e14 e15 e16 e17 (.inr (3, [.ref 19, .ref 21, .ref 23, .ref 25, .ref 27, .ref 29, .ref 31, .int (nI m), .int (nI t), .long sl, .long ws, .int cc])) (.inr (4, [.ref 20])) (.inl (1, 16, .inr (.inl (grd M)))) e21 e22 (.inr (4, [.ref 24])) (.inl (1, 4, .inr (.inl re))) e25 e26 e27 e28 e29 e30 e31 e32 e33 e34 e35 e36 e37 e38 e39 e40 e41 e42 e43 e44 e45 e46 e47 e48), 0, 0) rfl ?_
  have K := loopN (P := fun a => JR M_Ro_findReach none (2, [(0, .ref 18), (1, .int (nI a))], [], (HP e0 e1 e2 e3 e4 e5 e6 e7 e8 e9 e10 e11 e12 e13 e14 e15 e16 e17 (.inr (3, [.ref 19, .ref 21, .ref 23, .ref 25, .ref 27, .ref 29, .ref 31, .int (nI m), .int (nI t), .long sl, .long ws, .int cc])) (.inr (4, [.ref 20])) (.inl (1, 16, .inr (.inl (grd M)))) e21 e22 (.inr (4, [.ref 24])) (.inl (1, 4, .inr (.inl (reA a (fun a => rmk M a m) re)))) e25 e26 e27 e28 e29 e30 e31 e32 e33 e34 e35 e36 e37 e38 e39 e40 e41 e42 e43 e44 e45 e46 e47 e48), 0, 0) (OE none (HP e0 e1 e2 e3 e4 e5 e6 e7 e8 e9 e10 e11 e12 e13 e14 e15 e16 e17 (.inr (3, [.ref 19, .ref 21, .ref 23, .ref 25, .ref 27, .ref 29, .ref 31, .int (nI m), .int (nI t), .long sl, .long ws, .int cc])) (.inr (4, [.ref 20])) (.inl (1, 16, .inr (.inl (grd M)))) e21 e22 (.inr (4, [.ref 24])) (.inl (1, 4, .inr (.inl (reA m (reachF m M) re)))) e25 e26 e27 e28 e29 e30 e31 e32 e33 e34 e35 e36 e37 e38 e39 e40 e41 e42 e43 e44 e45 e46 e47 e48))) (b := m) ?_ (fun a ha ih => ?_) 0 (Nat.zero_le _)
  · rw [reA_0] at K
    exact K
  · refine g_Ro_fr1 (a := m) hm (Nat.le_refl _) (fun _ => ?_) (fun c => absurd c (Nat.lt_irrefl _))
    have hlt : ∀ v, v ≤ 4 → ∀ i, i < 4 → waO m (fun a => if a < m then rmk M a m else 0) v i < 16 := fun v hv => waO_lt hm (fun i hi => by
      split
      · exact rmk_lt hi m hm
      · decide) v hv
    have K2 := loopN (P := fun v => JR M_Ro_findReach none (84, [(0, .ref 18), (1, .int (nI v))], [], (HP e0 e1 e2 e3 e4 e5 e6 e7 e8 e9 e10 e11 e12 e13 e14 e15 e16 e17 (.inr (3, [.ref 19, .ref 21, .ref 23, .ref 25, .ref 27, .ref 29, .ref 31, .int (nI m), .int (nI t), .long sl, .long ws, .int cc])) (.inr (4, [.ref 20])) (.inl (1, 16, .inr (.inl (grd M)))) e21 e22 (.inr (4, [.ref 24])) (.inl (1, 4, .inr (.inl (reA m (waO m (fun a => if a < m then rmk M a m else 0) v) re)))) e25 e26 e27 e28 e29 e30 e31 e32 e33 e34 e35 e36 e37 e38 e39 e40 e41 e42 e43 e44 e45 e46 e47 e48), 0, 0) (OE none (HP e0 e1 e2 e3 e4 e5 e6 e7 e8 e9 e10 e11 e12 e13 e14 e15 e16 e17 (.inr (3, [.ref 19, .ref 21, .ref 23, .ref 25, .ref 27, .ref 29, .ref 31, .int (nI m), .int (nI t), .long sl, .long ws, .int cc])) (.inr (4, [.ref 20])) (.inl (1, 16, .inr (.inl (grd M)))) e21 e22 (.inr (4, [.ref 24])) (.inl (1, 4, .inr (.inl (reA m (reachF m M) re)))) e25 e26 e27 e28 e29 e30 e31 e32 e33 e34 e35 e36 e37 e38 e39 e40 e41 e42 e43 e44 e45 e46 e47 e48))) (b := m) ?_ (fun v hv ihv => ?_) 0 (Nat.zero_le _)
    · rw [reA_congr (R := (fun a => rmk M a m)) (R' := waO m (fun a => if a < m then rmk M a m else 0) 0) (fun i hi => (if_pos hi).symm)]
      exact K2
    · exact g_Ro_fr3 (v := m) hm (Nat.le_refl _) (fun _ => ⟨rfl, rfl⟩) (fun c => absurd c (Nat.lt_irrefl _))
    · refine g_Ro_fr3 (v := v) hm (Nat.le_of_lt hv) (fun c => absurd c (by omega)) (fun _ => ?_)
      have hl2 : ∀ k, k ≤ 4 → ∀ i, i < 4 → waI (waO m (fun a => if a < m then rmk M a m else 0) v) v k i < 16 := fun k hk => waI_lt (hlt v (by omega)) (by omega) k hk
      have K3 := loopN (P := fun k => JR M_Ro_findReach none (94, [(0, .ref 18), (1, .int (nI v)), (2, .int (nI k))], [], (HP e0 e1 e2 e3 e4 e5 e6 e7 e8 e9 e10 e11 e12 e13 e14 e15 e16 e17 (.inr (3, [.ref 19, .ref 21, .ref 23, .ref 25, .ref 27, .ref 29, .ref 31, .int (nI m), .int (nI t), .long sl, .long ws, .int cc])) (.inr (4, [.ref 20])) (.inl (1, 16, .inr (.inl (grd M)))) e21 e22 (.inr (4, [.ref 24])) (.inl (1, 4, .inr (.inl (reA m (waI (waO m (fun a => if a < m then rmk M a m else 0) v) v k) re)))) e25 e26 e27 e28 e29 e30 e31 e32 e33 e34 e35 e36 e37 e38 e39 e40 e41 e42 e43 e44 e45 e46 e47 e48), 0, 0) (OE none (HP e0 e1 e2 e3 e4 e5 e6 e7 e8 e9 e10 e11 e12 e13 e14 e15 e16 e17 (.inr (3, [.ref 19, .ref 21, .ref 23, .ref 25, .ref 27, .ref 29, .ref 31, .int (nI m), .int (nI t), .long sl, .long ws, .int cc])) (.inr (4, [.ref 20])) (.inl (1, 16, .inr (.inl (grd M)))) e21 e22 (.inr (4, [.ref 24])) (.inl (1, 4, .inr (.inl (reA m (reachF m M) re)))) e25 e26 e27 e28 e29 e30 e31 e32 e33 e34 e35 e36 e37 e38 e39 e40 e41 e42 e43 e44 e45 e46 e47 e48))) (b := m) ?_ (fun k hk ihk => ?_) 0 (Nat.zero_le _)
      · exact K3
      · exact g_Ro_fr4 (k := m) hm hv (Nat.le_refl _) (hl2 m hm) (fun h => hl2 m hm m h) (hl2 m hm v (by omega)) (bitN_lt _ _) (fun _ => ihv) (fun c => absurd c (Nat.lt_irrefl _)) (fun c => absurd c (Nat.lt_irrefl _))
      · have e : waI (waO m (fun a => if a < m then rmk M a m else 0) v) v (k + 1) = if bitN (waI (waO m (fun a => if a < m then rmk M a m else 0) v) v k k) v = 1 then va_up (waI (waO m (fun a => if a < m then rmk M a m else 0) v) v k) k (waI (waO m (fun a => if a < m then rmk M a m else 0) v) v k k ||| waI (waO m (fun a => if a < m then rmk M a m else 0) v) v k v) else waI (waO m (fun a => if a < m then rmk M a m else 0) v) v k := rfl
        have hb := bitN_lt (waI (waO m (fun a => if a < m then rmk M a m else 0) v) v k k) v
        refine g_Ro_fr4 (k := k) hm hv (Nat.le_of_lt hk) (hl2 k (by omega)) (fun h => hl2 k (by omega) k h) (hl2 k (by omega) v (by omega)) hb (fun c => absurd c (by omega)) (fun _ c => ?_) (fun _ c => ?_)
        · rw [e, if_neg (by omega)] at ihk
          exact ihk
        · rw [e, if_pos (by omega)] at ihk
          rw [reA_up hk]
          exact ihk
  · refine g_Ro_fr1 (a := a) hm (Nat.le_of_lt ha) (fun c => absurd c (by omega)) (fun _ => ?_)
    have K2 := loopN (P := fun k => JR M_Ro_findReach none (16, [(0, .ref 18), (1, .int (nI a)), (2, .int (nI (rmk M a k))), (3, .int (nI k))], [], (HP e0 e1 e2 e3 e4 e5 e6 e7 e8 e9 e10 e11 e12 e13 e14 e15 e16 e17 (.inr (3, [.ref 19, .ref 21, .ref 23, .ref 25, .ref 27, .ref 29, .ref 31, .int (nI m), .int (nI t), .long sl, .long ws, .int cc])) (.inr (4, [.ref 20])) (.inl (1, 16, .inr (.inl (grd M)))) e21 e22 (.inr (4, [.ref 24])) (.inl (1, 4, .inr (.inl (reA a (fun a => rmk M a m) re)))) e25 e26 e27 e28 e29 e30 e31 e32 e33 e34 e35 e36 e37 e38 e39 e40 e41 e42 e43 e44 e45 e46 e47 e48), 0, 0) (OE none (HP e0 e1 e2 e3 e4 e5 e6 e7 e8 e9 e10 e11 e12 e13 e14 e15 e16 e17 (.inr (3, [.ref 19, .ref 21, .ref 23, .ref 25, .ref 27, .ref 29, .ref 31, .int (nI m), .int (nI t), .long sl, .long ws, .int cc])) (.inr (4, [.ref 20])) (.inl (1, 16, .inr (.inl (grd M)))) e21 e22 (.inr (4, [.ref 24])) (.inl (1, 4, .inr (.inl (reA m (reachF m M) re)))) e25 e26 e27 e28 e29 e30 e31 e32 e33 e34 e35 e36 e37 e38 e39 e40 e41 e42 e43 e44 e45 e46 e47 e48))) (b := m) ?_ (fun k hk ihk => ?_) 0 (Nat.zero_le _)
    · exact K2
    · refine g_Ro_fr2 (k := m) (q := rmk M a m) hm ha (Nat.le_refl _) (rmk_lt (by omega) m hm) (bitN_lt _ _) (fun _ => ?_) (fun c => absurd c (Nat.lt_irrefl _)) (fun c => absurd c (Nat.lt_irrefl _)) (fun c => absurd c (Nat.lt_irrefl _))
      rw [show vp_updL (reA a (fun a => rmk M a m) re) a (lN (rmk M a m)) = reA (a + 1) (fun a => rmk M a m) re from reA_next (R := (fun a => rmk M a m))]
      exact ih
    · have hb := bitN_lt (rmk M a k) k
      have e : rmk M a (k + 1) = wbit (rmk M a k) k (decide (bitN (rmk M a k) k = 1 ∨ 0 < M a k)) := rfl
      refine g_Ro_fr2 (k := k) (q := rmk M a k) hm ha (Nat.le_of_lt hk) (rmk_lt (by omega) k (by omega)) hb (fun c => absurd c (by omega)) (fun _ c => ?_) (fun _ c d => ?_) (fun _ c d => ?_)
      · rw [e, decide_eq_true (Or.inl (by omega))] at ihk
        exact ihk
      · rw [e, decide_eq_false (fun h => h.elim (by omega) (fun h => absurd d (Int64.not_le.mpr h)))] at ihk
        exact ihk
      · rw [e, decide_eq_true (Or.inr d)] at ihk
        exact ihk

set_option maxRecDepth 100000 in
set_option maxHeartbeats 400000 in
theorem g_Ro_ic0 {sc : aScr} {e0 e1 e2 e3 e4 e5 e6 e7 e8 e9 e10 e11 e12 e13 e14 e15 e16 e17 e21 e22 e25 e26 e27 e28 e29 e30 e31 e32 e33 e34 e35 e36 e37 e38 e39 e40 e41 e42 e43 e44 e45 e46 e47 e48 : va_E} {m t : Nat} {M : Gr} {sl ws : Int64} {cc : Int32} {R : Nat → Nat} {re : Nat → Int64} {p : Nat} {kc kn : Nat} {O : Option Value → aH → Prop} (hm : m ≤ 4) (hp : p < m) (K1 : JR M_Ro_isFirstOfClass sc (12, [(0, .ref 18), (1, .int (nI p)), (2, .long (lN (R p))), (4, .int 0)], [], (HP e0 e1 e2 e3 e4 e5 e6 e7 e8 e9 e10 e11 e12 e13 e14 e15 e16 e17 (.inr (3, [.ref 19, .ref 21, .ref 23, .ref 25, .ref 27, .ref 29, .ref 31, .int (nI m), .int (nI t), .long sl, .long ws, .int cc])) (.inr (4, [.ref 20])) (.inl (1, 16, .inr (.inl (grd M)))) e21 e22 (.inr (4, [.ref 24])) (.inl (1, 4, .inr (.inl (reA m R re)))) e25 e26 e27 e28 e29 e30 e31 e32 e33 e34 e35 e36 e37 e38 e39 e40 e41 e42 e43 e44 e45 e46 e47 e48), kc, kn) O) : JR M_Ro_isFirstOfClass sc (0, [(0, .ref 18), (1, .int (nI p))], [], (HP e0 e1 e2 e3 e4 e5 e6 e7 e8 e9 e10 e11 e12 e13 e14 e15 e16 e17 (.inr (3, [.ref 19, .ref 21, .ref 23, .ref 25, .ref 27, .ref 29, .ref 31, .int (nI m), .int (nI t), .long sl, .long ws, .int cc])) (.inr (4, [.ref 20])) (.inl (1, 16, .inr (.inl (grd M)))) e21 e22 (.inr (4, [.ref 24])) (.inl (1, 4, .inr (.inl (reA m R re)))) e25 e26 e27 e28 e29 e30 e31 e32 e33 e34 e35 e36 e37 e38 e39 e40 e41 e42 e43 e44 e45 e46 e47 e48), kc, kn) O := by
  refine J.gp ok_Ro_isFirstOfClass 3 (5, [(0, .ref 18), (1, .int (nI p))], [.int (nI p), .ref 23], _, _, _) rfl ?_
  refine J.callVE s_Ro_isFirstOfClass_5 8 23 [.int (nI p)] 4 (c_Rw_get_23 (j := p) (by omega)) rfl rfl rfl rfl rfl (Nat.le_of_ble_eq_true rfl) rfl ?_
  refine J.gp ok_Ro_isFirstOfClass 0 (8, [(0, .ref 18), (1, .int (nI p))], [.long ((reA m R re) p)], (HP e0 e1 e2 e3 e4 e5 e6 e7 e8 e9 e10 e11 e12 e13 e14 e15 e16 e17 (.inr (3, [.ref 19, .ref 21, .ref 23, .ref 25, .ref 27, .ref 29, .ref 31, .int (nI m), .int (nI t), .long sl, .long ws, .int cc])) (.inr (4, [.ref 20])) (.inl (1, 16, .inr (.inl (grd M)))) e21 e22 (.inr (4, [.ref 24])) (.inl (1, 4, .inr (.inl (reA m R re)))) e25 e26 e27 e28 e29 e30 e31 e32 e33 e34 e35 e36 e37 e38 e39 e40 e41 e42 e43 e44 e45 e46 e47 e48), kc, kn) rfl ?_
  rw [show (((reA m R re) p)) = lN (R p) from reA_get (by omega)]
  refine J.gp ok_Ro_isFirstOfClass 3 (12, [(0, .ref 18), (1, .int (nI p)), (2, .long (lN (R p))), (4, .int 0)], [], _, _, _) rfl ?_
  exact K1

set_option maxRecDepth 100000 in
set_option maxHeartbeats 400000 in
theorem g_Ro_ic1 {sc : aScr} {e0 e1 e2 e3 e4 e5 e6 e7 e8 e9 e10 e11 e12 e13 e14 e15 e16 e17 e21 e22 e25 e26 e27 e28 e29 e30 e31 e32 e33 e34 e35 e36 e37 e38 e39 e40 e41 e42 e43 e44 e45 e46 e47 e48 : va_E} {m t : Nat} {M : Gr} {sl ws : Int64} {cc : Int32} {R : Nat → Nat} {re : Nat → Int64} {p o q : Nat} {kc kn : Nat} {O : Option Value → aH → Prop} (hm : m ≤ 4) (hp : p < m) (ho : o ≤ m) (hq : q < 16) (hb : bitN q o < 2) (h1 : o < m → R o < 16) (K1 : (m ≤ o) → O (some (.int 1)) (HP e0 e1 e2 e3 e4 e5 e6 e7 e8 e9 e10 e11 e12 e13 e14 e15 e16 e17 (.inr (3, [.ref 19, .ref 21, .ref 23, .ref 25, .ref 27, .ref 29, .ref 31, .int (nI m), .int (nI t), .long sl, .long ws, .int cc])) (.inr (4, [.ref 20])) (.inl (1, 16, .inr (.inl (grd M)))) e21 e22 (.inr (4, [.ref 24])) (.inl (1, 4, .inr (.inl (reA m R re)))) e25 e26 e27 e28 e29 e30 e31 e32 e33 e34 e35 e36 e37 e38 e39 e40 e41 e42 e43 e44 e45 e46 e47 e48)) (K2 : (o < m) → ((bitN q o) = 0) → JR M_Ro_isFirstOfClass sc (12, [(0, .ref 18), (1, .int (nI p)), (2, .long (lN q)), (4, .int (nI (o + 1)))], [], (HP e0 e1 e2 e3 e4 e5 e6 e7 e8 e9 e10 e11 e12 e13 e14 e15 e16 e17 (.inr (3, [.ref 19, .ref 21, .ref 23, .ref 25, .ref 27, .ref 29, .ref 31, .int (nI m), .int (nI t), .long sl, .long ws, .int cc])) (.inr (4, [.ref 20])) (.inl (1, 16, .inr (.inl (grd M)))) e21 e22 (.inr (4, [.ref 24])) (.inl (1, 4, .inr (.inl (reA m R re)))) e25 e26 e27 e28 e29 e30 e31 e32 e33 e34 e35 e36 e37 e38 e39 e40 e41 e42 e43 e44 e45 e46 e47 e48), kc, kn) O) (K3 : (o < m) → (¬ (bitN q o) = 0) → (o < p) → O (some (.int 0)) (HP e0 e1 e2 e3 e4 e5 e6 e7 e8 e9 e10 e11 e12 e13 e14 e15 e16 e17 (.inr (3, [.ref 19, .ref 21, .ref 23, .ref 25, .ref 27, .ref 29, .ref 31, .int (nI m), .int (nI t), .long sl, .long ws, .int cc])) (.inr (4, [.ref 20])) (.inl (1, 16, .inr (.inl (grd M)))) e21 e22 (.inr (4, [.ref 24])) (.inl (1, 4, .inr (.inl (reA m R re)))) e25 e26 e27 e28 e29 e30 e31 e32 e33 e34 e35 e36 e37 e38 e39 e40 e41 e42 e43 e44 e45 e46 e47 e48)) (K4 : (o < m) → (¬ (bitN q o) = 0) → (p ≤ o) → ((R o) = q) → JR M_Ro_isFirstOfClass sc (12, [(0, .ref 18), (1, .int (nI p)), (2, .long (lN q)), (4, .int (nI (o + 1)))], [], (HP e0 e1 e2 e3 e4 e5 e6 e7 e8 e9 e10 e11 e12 e13 e14 e15 e16 e17 (.inr (3, [.ref 19, .ref 21, .ref 23, .ref 25, .ref 27, .ref 29, .ref 31, .int (nI m), .int (nI t), .long sl, .long ws, .int cc])) (.inr (4, [.ref 20])) (.inl (1, 16, .inr (.inl (grd M)))) e21 e22 (.inr (4, [.ref 24])) (.inl (1, 4, .inr (.inl (reA m R re)))) e25 e26 e27 e28 e29 e30 e31 e32 e33 e34 e35 e36 e37 e38 e39 e40 e41 e42 e43 e44 e45 e46 e47 e48), kc, kn) O) (K5 : (o < m) → (¬ (bitN q o) = 0) → (p ≤ o) → (¬ (R o) = q) → O (some (.int 0)) (HP e0 e1 e2 e3 e4 e5 e6 e7 e8 e9 e10 e11 e12 e13 e14 e15 e16 e17 (.inr (3, [.ref 19, .ref 21, .ref 23, .ref 25, .ref 27, .ref 29, .ref 31, .int (nI m), .int (nI t), .long sl, .long ws, .int cc])) (.inr (4, [.ref 20])) (.inl (1, 16, .inr (.inl (grd M)))) e21 e22 (.inr (4, [.ref 24])) (.inl (1, 4, .inr (.inl (reA m R re)))) e25 e26 e27 e28 e29 e30 e31 e32 e33 e34 e35 e36 e37 e38 e39 e40 e41 e42 e43 e44 e45 e46 e47 e48)) : JR M_Ro_isFirstOfClass sc (12, [(0, .ref 18), (1, .int (nI p)), (2, .long (lN q)), (4, .int (nI o))], [], (HP e0 e1 e2 e3 e4 e5 e6 e7 e8 e9 e10 e11 e12 e13 e14 e15 e16 e17 (.inr (3, [.ref 19, .ref 21, .ref 23, .ref 25, .ref 27, .ref 29, .ref 31, .int (nI m), .int (nI t), .long sl, .long ws, .int cc])) (.inr (4, [.ref 20])) (.inl (1, 16, .inr (.inl (grd M)))) e21 e22 (.inr (4, [.ref 24])) (.inl (1, 4, .inr (.inl (reA m R re)))) e25 e26 e27 e28 e29 e30 e31 e32 e33 e34 e35 e36 e37 e38 e39 e40 e41 e42 e43 e44 e45 e46 e47 e48), kc, kn) O := by
  refine J.gp ok_Ro_isFirstOfClass 3 (18, [(0, .ref 18), (1, .int (nI p)), (2, .long (lN q)), (4, .int (nI o))], [.int (nI m), .int (nI o)], _, _, _) rfl ?_
  refine J.icB ok_Ro_isFirstOfClass (fun x y => y ≤ x) 59 21 rfl (fun (h0 : nI m ≤ nI o) => ?_) (fun (h0 : ¬ (nI m ≤ nI o)) => ?_)
  · have c18 : m ≤ o := (nI_leI (a := m) (b := o) (by omega) (by omega)).mp h0
    refine J.gp ok_Ro_isFirstOfClass 1 (60, [(0, .ref 18), (1, .int (nI p)), (2, .long (lN q)), (4, .int (nI o))], [.int 1], _, _, _) rfl ?_
    refine JR.iret .boolean (by decide +kernel) rfl (by decide) ?_
    exact K1 c18
  · have c18 : o < m := Nat.not_le.mp (fun h9 => h0 ((nI_leI (a := m) (b := o) (by omega) (by omega)).mpr h9))
    refine J.gp ok_Ro_isFirstOfClass 2 (23, [(0, .ref 18), (1, .int (nI p)), (2, .long (lN q)), (4, .int (nI o))], [.int ((lN q).toInt32)], _, _, _) rfl ?_
    rw [show (((lN q).toInt32) : Int32) = nI q from lN_i q]
    refine J.gp ok_Ro_isFirstOfClass 1 (25, [(0, .ref 18), (1, .int (nI p)), (2, .long (lN q)), (4, .int (nI o))], [.int (nI o), .int (nI q)], _, _, _) rfl ?_
    refine J.callSNE s_Ro_isFirstOfClass_25 28 [.int (nI q), .int (nI o)] (c_F_hasBit (by omega) (by omega)) rfl rfl (Nat.le_of_ble_eq_true rfl) rfl ?_
    refine J.gp ok_Ro_isFirstOfClass 0 (28, [(0, .ref 18), (1, .int (nI p)), (2, .long (lN q)), (4, .int (nI o))], [.int (nI (bitN q o))], (HP e0 e1 e2 e3 e4 e5 e6 e7 e8 e9 e10 e11 e12 e13 e14 e15 e16 e17 (.inr (3, [.ref 19, .ref 21, .ref 23, .ref 25, .ref 27, .ref 29, .ref 31, .int (nI m), .int (nI t), .long sl, .long ws, .int cc])) (.inr (4, [.ref 20])) (.inl (1, 16, .inr (.inl (grd M)))) e21 e22 (.inr (4, [.ref 24])) (.inl (1, 4, .inr (.inl (reA m R re)))) e25 e26 e27 e28 e29 e30 e31 e32 e33 e34 e35 e36 e37 e38 e39 e40 e41 e42 e43 e44 e45 e46 e47 e48), kc, kn) rfl ?_
    refine J.ifB ok_Ro_isFirstOfClass (fun x => x = 0) 53 31 rfl (fun (h0 : nI (bitN q o) = 0) => ?_) (fun (h0 : ¬ (nI (bitN q o) = 0)) => ?_)
    · have c28 : (bitN q o) = 0 := (nI_eq (a := bitN q o) (b := 0) (by omega) (by omega)).mp h0
      refine J.gp ok_Ro_isFirstOfClass 1 (56, [(0, .ref 18), (1, .int (nI p)), (2, .long (lN q)), (4, .int (nI o + 1))], [], _, _, _) rfl ?_
      rw [show ((nI o + 1) : Int32) = nI (o + 1) from nI_add o 1]
      refine J.gp ok_Ro_isFirstOfClass 1 (12, [(0, .ref 18), (1, .int (nI p)), (2, .long (lN q)), (4, .int (nI (o + 1)))], [], _, _, _) rfl ?_
      exact K2 c18 c28
    · have c28 : ¬ (bitN q o) = 0 := fun h9 => h0 ((nI_eq (a := bitN q o) (b := 0) (by omega) (by omega)).mpr h9)
      refine J.gp ok_Ro_isFirstOfClass 2 (34, [(0, .ref 18), (1, .int (nI p)), (2, .long (lN q)), (4, .int (nI o))], [.int (nI p), .int (nI o)], _, _, _) rfl ?_
      refine J.icB ok_Ro_isFirstOfClass (fun x y => x < y) 51 37 rfl (fun (h0 : nI o < nI p) => ?_) (fun (h0 : ¬ (nI o < nI p)) => ?_)
      · have c34 : o < p := (nI_ltI (a := o) (b := p) (by omega) (by omega)).mp h0
        refine J.gp ok_Ro_isFirstOfClass 1 (52, [(0, .ref 18), (1, .int (nI p)), (2, .long (lN q)), (4, .int (nI o))], [.int 0], _, _, _) rfl ?_
        refine JR.iret .boolean (by decide +kernel) rfl (by decide) ?_
        exact K3 c18 c28 c34
      · have c34 : p ≤ o := Nat.not_lt.mp (fun h9 => h0 ((nI_ltI (a := o) (b := p) (by omega) (by omega)).mpr h9))
        refine J.gp ok_Ro_isFirstOfClass 3 (43, [(0, .ref 18), (1, .int (nI p)), (2, .long (lN q)), (4, .int (nI o))], [.int (nI o), .ref 23], _, _, _) rfl ?_
        refine J.callVE s_Ro_isFirstOfClass_43 46 23 [.int (nI o)] 4 (c_Rw_get_23 (j := o) (by omega)) rfl rfl rfl rfl rfl (Nat.le_of_ble_eq_true rfl) rfl ?_
        refine J.gp ok_Ro_isFirstOfClass 0 (46, [(0, .ref 18), (1, .int (nI p)), (2, .long (lN q)), (4, .int (nI o))], [.long ((reA m R re) o)], (HP e0 e1 e2 e3 e4 e5 e6 e7 e8 e9 e10 e11 e12 e13 e14 e15 e16 e17 (.inr (3, [.ref 19, .ref 21, .ref 23, .ref 25, .ref 27, .ref 29, .ref 31, .int (nI m), .int (nI t), .long sl, .long ws, .int cc])) (.inr (4, [.ref 20])) (.inl (1, 16, .inr (.inl (grd M)))) e21 e22 (.inr (4, [.ref 24])) (.inl (1, 4, .inr (.inl (reA m R re)))) e25 e26 e27 e28 e29 e30 e31 e32 e33 e34 e35 e36 e37 e38 e39 e40 e41 e42 e43 e44 e45 e46 e47 e48), kc, kn) rfl ?_
        rw [show (((reA m R re) o)) = lN (R o) from reA_get (by omega)]
        refine J.gp ok_Ro_isFirstOfClass 2 (48, [(0, .ref 18), (1, .int (nI p)), (2, .long (lN q)), (4, .int (nI o))], [.int (lg_cmp (lN (R o)) (lN q))], _, _, _) rfl ?_
        refine J.ifB ok_Ro_isFirstOfClass (fun x => x = 0) 53 51 rfl (fun (h0 : (lg_cmp (lN (R o)) (lN q)) = 0) => ?_) (fun (h0 : ¬ ((lg_cmp (lN (R o)) (lN q)) = 0)) => ?_)
        · have c48 : (R o) = q := (cmp_eqN (a := (R o)) (b := q) (by omega) (by omega)).mp h0
          refine J.gp ok_Ro_isFirstOfClass 1 (56, [(0, .ref 18), (1, .int (nI p)), (2, .long (lN q)), (4, .int (nI o + 1))], [], _, _, _) rfl ?_
          rw [show ((nI o + 1) : Int32) = nI (o + 1) from nI_add o 1]
          refine J.gp ok_Ro_isFirstOfClass 1 (12, [(0, .ref 18), (1, .int (nI p)), (2, .long (lN q)), (4, .int (nI (o + 1)))], [], _, _, _) rfl ?_
          exact K4 c18 c28 c34 c48
        · have c48 : ¬ (R o) = q := (cmp_eqN_n (a := (R o)) (b := q) (by omega) (by omega)).mp h0
          refine J.gp ok_Ro_isFirstOfClass 1 (52, [(0, .ref 18), (1, .int (nI p)), (2, .long (lN q)), (4, .int (nI o))], [.int 0], _, _, _) rfl ?_
          refine JR.iret .boolean (by decide +kernel) rfl (by decide) ?_
          exact K5 c18 c28 c34 c48

set_option maxRecDepth 100000 in
theorem c_Ro_isFirstOfClass {e0 e1 e2 e3 e4 e5 e6 e7 e8 e9 e10 e11 e12 e13 e14 e15 e16 e17 e21 e22 e25 e26 e27 e28 e29 e30 e31 e32 e33 e34 e35 e36 e37 e38 e39 e40 e41 e42 e43 e44 e45 e46 e47 e48 : va_E} {m t : Nat} {M : Gr} {sl ws : Int64} {cc : Int32} {R : Nat → Nat} {re : Nat → Int64} {p : Nat} (hm : m ≤ 4) (hp : p < m) (hR : ∀ i, i < 4 → R i < 16) : JE M_Ro_isFirstOfClass [.ref 18, .int (nI p)] (HP e0 e1 e2 e3 e4 e5 e6 e7 e8 e9 e10 e11 e12 e13 e14 e15 e16 e17 (.inr (3, [.ref 19, .ref 21, .ref 23, .ref 25, .ref 27, .ref 29, .ref 31, .int (nI m), .int (nI t), .long sl, .long ws, .int cc])) (.inr (4, [.ref 20])) (.inl (1, 16, .inr (.inl (grd M)))) e21 e22 (.inr (4, [.ref 24])) (.inl (1, 4, .inr (.inl (reA m R re)))) e25 e26 e27 e28 e29 e30 e31 e32 e33 e34 e35 e36 e37 e38 e39 e40 e41 e42 e43 e44 e45 e46 e47 e48) (some (.int (if firstF m R p then 1 else 0))) (HP e0 e1 e2 e3 e4 e5 e6 e7 e8 e9 e10 e11 e12 e13 e14 e15 e16 e17 (.inr (3, [.ref 19, .ref 21, .ref 23, .ref 25, .ref 27, .ref 29, .ref 31, .int (nI m), .int (nI t), .long sl, .long ws, .int cc])) (.inr (4, [.ref 20])) (.inl (1, 16, .inr (.inl (grd M)))) e21 e22 (.inr (4, [.ref 24])) (.inl (1, 4, .inr (.inl (reA m R re)))) e25 e26 e27 e28 e29 e30 e31 e32 e33 e34 e35 e36 e37 e38 e39 e40 e41 e42 e43 e44 e45 e46 e47 e48) := by
  refine JM.of (by decide +kernel) rfl (Nat.le_of_ble_eq_true rfl) (g_Ro_ic0 hm hp ?_)
  cases hf : firstF m R p with
  | true =>
    have hall : ∀ o, o < m → ¬ (bitN (R p) o = 1 ∧ (o < p ∨ R o ≠ R p)) := by
      intro o ho h
      have := List.all_eq_true.mp hf o (List.mem_range.mpr ho)
      rw [decide_eq_true h.1] at this
      rcases h.2 with h2 | h2
      · rw [decide_eq_true h2] at this
        exact absurd this (by simp)
      · rw [decide_eq_true h2] at this
        exact absurd this (by simp)
    have K := loopN (P := fun o => JR M_Ro_isFirstOfClass none (12, [(0, .ref 18), (1, .int (nI p)), (2, .long (lN (R p))), (4, .int (nI o))], [], (HP e0 e1 e2 e3 e4 e5 e6 e7 e8 e9 e10 e11 e12 e13 e14 e15 e16 e17 (.inr (3, [.ref 19, .ref 21, .ref 23, .ref 25, .ref 27, .ref 29, .ref 31, .int (nI m), .int (nI t), .long sl, .long ws, .int cc])) (.inr (4, [.ref 20])) (.inl (1, 16, .inr (.inl (grd M)))) e21 e22 (.inr (4, [.ref 24])) (.inl (1, 4, .inr (.inl (reA m R re)))) e25 e26 e27 e28 e29 e30 e31 e32 e33 e34 e35 e36 e37 e38 e39 e40 e41 e42 e43 e44 e45 e46 e47 e48), 0, 0) (OE (some (.int 1)) (HP e0 e1 e2 e3 e4 e5 e6 e7 e8 e9 e10 e11 e12 e13 e14 e15 e16 e17 (.inr (3, [.ref 19, .ref 21, .ref 23, .ref 25, .ref 27, .ref 29, .ref 31, .int (nI m), .int (nI t), .long sl, .long ws, .int cc])) (.inr (4, [.ref 20])) (.inl (1, 16, .inr (.inl (grd M)))) e21 e22 (.inr (4, [.ref 24])) (.inl (1, 4, .inr (.inl (reA m R re)))) e25 e26 e27 e28 e29 e30 e31 e32 e33 e34 e35 e36 e37 e38 e39 e40 e41 e42 e43 e44 e45 e46 e47 e48))) (b := m) ?_ (fun o ho ih => ?_) 0 (Nat.zero_le _)
    · exact K
    · exact g_Ro_ic1 (o := m) hm hp (Nat.le_refl _) (hR p (by omega)) (bitN_lt _ _) (fun h => absurd h (Nat.lt_irrefl _)) (fun _ => ⟨rfl, rfl⟩) (fun c => absurd c (Nat.lt_irrefl _)) (fun c => absurd c (Nat.lt_irrefl _)) (fun c => absurd c (Nat.lt_irrefl _)) (fun c => absurd c (Nat.lt_irrefl _))
    · have hb := bitN_lt (R p) o
      have ha := hall o ho
      refine g_Ro_ic1 (o := o) hm hp (Nat.le_of_lt ho) (hR p (by omega)) hb (fun _ => hR o (by omega)) (fun c => absurd c (by omega)) (fun _ _ => ih) (fun _ c d => absurd ⟨by omega, Or.inl d⟩ ha) (fun _ _ _ _ => ih) (fun _ c d e => absurd ⟨by omega, Or.inr e⟩ ha)
  | false =>
    have hz : ∃ j, j < m ∧ bitN (R p) j = 1 ∧ (j < p ∨ R j ≠ R p) := by
      refine Classical.byContradiction fun hn => ?_
      have : firstF m R p = true := List.all_eq_true.mpr (fun o ho => by
        have ho := List.mem_range.mp ho
        by_cases h1 : bitN (R p) o = 1
        · have h2 : ¬ (o < p ∨ R o ≠ R p) := fun h => hn ⟨o, ho, h1, h⟩
          have h3 : ¬ o < p := fun h => h2 (Or.inl h)
          have h4 : ¬ R o ≠ R p := fun h => h2 (Or.inr h)
          rw [decide_eq_true h1, decide_eq_false h3, decide_eq_false h4]
          rfl
        · rw [decide_eq_false h1]
          rfl)
      rw [hf] at this
      cases this
    obtain ⟨j, hj, hj1, hj2⟩ := hz
    have K := loopN (P := fun o => JR M_Ro_isFirstOfClass none (12, [(0, .ref 18), (1, .int (nI p)), (2, .long (lN (R p))), (4, .int (nI o))], [], (HP e0 e1 e2 e3 e4 e5 e6 e7 e8 e9 e10 e11 e12 e13 e14 e15 e16 e17 (.inr (3, [.ref 19, .ref 21, .ref 23, .ref 25, .ref 27, .ref 29, .ref 31, .int (nI m), .int (nI t), .long sl, .long ws, .int cc])) (.inr (4, [.ref 20])) (.inl (1, 16, .inr (.inl (grd M)))) e21 e22 (.inr (4, [.ref 24])) (.inl (1, 4, .inr (.inl (reA m R re)))) e25 e26 e27 e28 e29 e30 e31 e32 e33 e34 e35 e36 e37 e38 e39 e40 e41 e42 e43 e44 e45 e46 e47 e48), 0, 0) (OE (some (.int 0)) (HP e0 e1 e2 e3 e4 e5 e6 e7 e8 e9 e10 e11 e12 e13 e14 e15 e16 e17 (.inr (3, [.ref 19, .ref 21, .ref 23, .ref 25, .ref 27, .ref 29, .ref 31, .int (nI m), .int (nI t), .long sl, .long ws, .int cc])) (.inr (4, [.ref 20])) (.inl (1, 16, .inr (.inl (grd M)))) e21 e22 (.inr (4, [.ref 24])) (.inl (1, 4, .inr (.inl (reA m R re)))) e25 e26 e27 e28 e29 e30 e31 e32 e33 e34 e35 e36 e37 e38 e39 e40 e41 e42 e43 e44 e45 e46 e47 e48))) (b := j) ?_ (fun o ho ih => ?_) 0 (Nat.zero_le _)
    · exact K
    · refine g_Ro_ic1 (o := j) hm hp (by omega) (hR p (by omega)) (bitN_lt _ _) (fun _ => hR j (by omega)) (fun c => absurd c (by omega)) (fun _ c => absurd hj1 (by omega)) (fun _ _ _ => ⟨rfl, rfl⟩) (fun _ _ c d => ?_) (fun _ _ _ _ => ⟨rfl, rfl⟩)
      exact absurd hj2 (fun h => h.elim (by omega) (fun h => h d))
    · exact g_Ro_ic1 (o := o) hm hp (by omega) (hR p (by omega)) (bitN_lt _ _) (fun _ => hR o (by omega)) (fun c => absurd c (by omega)) (fun _ _ => ih) (fun _ _ _ => ⟨rfl, rfl⟩) (fun _ _ _ _ => ih) (fun _ _ _ _ => ⟨rfl, rfl⟩)

set_option maxRecDepth 100000 in
set_option maxHeartbeats 400000 in
theorem g_Ro_cc0 {sc : aScr} {e0 e1 e2 e3 e4 e5 e6 e7 e8 e9 e10 e11 e12 e13 e14 e15 e16 e17 e21 e22 e25 e26 e27 e28 e29 e30 e31 e32 e33 e34 e35 e36 e37 e38 e39 e40 e41 e42 e43 e44 e45 e46 e47 e48 : va_E} {m t : Nat} {M : Gr} {sl ws : Int64} {cc : Int32} {R : Nat → Nat} {re : Nat → Int64} {kc kn : Nat} {O : Option Value → aH → Prop} (hm : m ≤ 4) (K1 : JR M_Ro_countClasses sc (7, [(0, .ref 18), (1, .int 0)], [], (HP e0 e1 e2 e3 e4 e5 e6 e7 e8 e9 e10 e11 e12 e13 e14 e15 e16 e17 (.inr (3, [.ref 19, .ref 21, .ref 23, .ref 25, .ref 27, .ref 29, .ref 31, .int (nI m), .int (nI t), .long sl, .long ws, .int 0])) (.inr (4, [.ref 20])) (.inl (1, 16, .inr (.inl (grd M)))) e21 e22 (.inr (4, [.ref 24])) (.inl (1, 4, .inr (.inl (reA m R re)))) e25 e26 e27 e28 e29 e30 e31 e32 e33 e34 e35 e36 e37 e38 e39 e40 e41 e42 e43 e44 e45 e46 e47 e48), kc, kn) O) : JR M_Ro_countClasses sc (0, [(0, .ref 18)], [], (HP e0 e1 e2 e3 e4 e5 e6 e7 e8 e9 e10 e11 e12 e13 e14 e15 e16 e17 (.inr (3, [.ref 19, .ref 21, .ref 23, .ref 25, .ref 27, .ref 29, .ref 31, .int (nI m), .int (nI t), .long sl, .long ws, .int cc])) (.inr (4, [.ref 20])) (.inl (1, 16, .inr (.inl (grd M)))) e21 e22 (.inr (4, [.ref 24])) (.inl (1, 4, .inr (.inl (reA m R re)))) e25 e26 e27 e28 e29 e30 e31 e32 e33 e34 e35 e36 e37 e38 e39 e40 e41 e42 e43 e44 e45 e46 e47 e48), kc, kn) O := by
  refine J.gp ok_Ro_countClasses 3 (5, [(0, .ref 18)], [], (HP e0 e1 e2 e3 e4 e5 e6 e7 e8 e9 e10 e11 e12 e13 e14 e15 e16 e17 (.inr (3, [.ref 19, .ref 21, .ref 23, .ref 25, .ref 27, .ref 29, .ref 31, .int (nI m), .int (nI t), .long sl, .long ws, .int 0])) (.inr (4, [.ref 20])) (.inl (1, 16, .inr (.inl (grd M)))) e21 e22 (.inr (4, [.ref 24])) (.inl (1, 4, .inr (.inl (reA m R re)))) e25 e26 e27 e28 e29 e30 e31 e32 e33 e34 e35 e36 e37 e38 e39 e40 e41 e42 e43 e44 e45 e46 e47 e48), _, _) rfl ?_
  refine J.gp ok_Ro_countClasses 2 (7, [(0, .ref 18), (1, .int 0)], [], _, _, _) rfl ?_
  exact K1

set_option maxRecDepth 100000 in
set_option maxHeartbeats 400000 in
theorem g_Ro_cc1 {sc : aScr} {e0 e1 e2 e3 e4 e5 e6 e7 e8 e9 e10 e11 e12 e13 e14 e15 e16 e17 e21 e22 e25 e26 e27 e28 e29 e30 e31 e32 e33 e34 e35 e36 e37 e38 e39 e40 e41 e42 e43 e44 e45 e46 e47 e48 : va_E} {m t : Nat} {M : Gr} {sl ws : Int64} {R : Nat → Nat} {re : Nat → Int64} {p q : Nat} {kc kn : Nat} {O : Option Value → aH → Prop} (hm : m ≤ 4) (hp : p ≤ m) (hR : ∀ i, i < 4 → R i < 16) (K1 : (m ≤ p) → O none (HP e0 e1 e2 e3 e4 e5 e6 e7 e8 e9 e10 e11 e12 e13 e14 e15 e16 e17 (.inr (3, [.ref 19, .ref 21, .ref 23, .ref 25, .ref 27, .ref 29, .ref 31, .int (nI m), .int (nI t), .long sl, .long ws, .int (nI q)])) (.inr (4, [.ref 20])) (.inl (1, 16, .inr (.inl (grd M)))) e21 e22 (.inr (4, [.ref 24])) (.inl (1, 4, .inr (.inl (reA m R re)))) e25 e26 e27 e28 e29 e30 e31 e32 e33 e34 e35 e36 e37 e38 e39 e40 e41 e42 e43 e44 e45 e46 e47 e48)) (K2 : (p < m) → ((if firstF m R p then (1 : Int32) else 0) = 0) → JR M_Ro_countClasses sc (7, [(0, .ref 18), (1, .int (nI (p + 1)))], [], (HP e0 e1 e2 e3 e4 e5 e6 e7 e8 e9 e10 e11 e12 e13 e14 e15 e16 e17 (.inr (3, [.ref 19, .ref 21, .ref 23, .ref 25, .ref 27, .ref 29, .ref 31, .int (nI m), .int (nI t), .long sl, .long ws, .int (nI q)])) (.inr (4, [.ref 20])) (.inl (1, 16, .inr (.inl (grd M)))) e21 e22 (.inr (4, [.ref 24])) (.inl (1, 4, .inr (.inl (reA m R re)))) e25 e26 e27 e28 e29 e30 e31 e32 e33 e34 e35 e36 e37 e38 e39 e40 e41 e42 e43 e44 e45 e46 e47 e48), kc, kn) O) (K3 : (p < m) → (¬ ((if firstF m R p then (1 : Int32) else 0) = 0)) → JR M_Ro_countClasses sc (7, [(0, .ref 18), (1, .int (nI (p + 1)))], [], (HP e0 e1 e2 e3 e4 e5 e6 e7 e8 e9 e10 e11 e12 e13 e14 e15 e16 e17 (.inr (3, [.ref 19, .ref 21, .ref 23, .ref 25, .ref 27, .ref 29, .ref 31, .int (nI m), .int (nI t), .long sl, .long ws, .int (nI (q + 1))])) (.inr (4, [.ref 20])) (.inl (1, 16, .inr (.inl (grd M)))) e21 e22 (.inr (4, [.ref 24])) (.inl (1, 4, .inr (.inl (reA m R re)))) e25 e26 e27 e28 e29 e30 e31 e32 e33 e34 e35 e36 e37 e38 e39 e40 e41 e42 e43 e44 e45 e46 e47 e48), kc, kn) O) : JR M_Ro_countClasses sc (7, [(0, .ref 18), (1, .int (nI p))], [], (HP e0 e1 e2 e3 e4 e5 e6 e7 e8 e9 e10 e11 e12 e13 e14 e15 e16 e17 (.inr (3, [.ref 19, .ref 21, .ref 23, .ref 25, .ref 27, .ref 29, .ref 31, .int (nI m), .int (nI t), .long sl, .long ws, .int (nI q)])) (.inr (4, [.ref 20])) (.inl (1, 16, .inr (.inl (grd M)))) e21 e22 (.inr (4, [.ref 24])) (.inl (1, 4, .inr (.inl (reA m R re)))) e25 e26 e27 e28 e29 e30 e31 e32 e33 e34 e35 e36 e37 e38 e39 e40 e41 e42 e43 e44 e45 e46 e47 e48), kc, kn) O := by
  refine J.gp ok_Ro_countClasses 3 (12, [(0, .ref 18), (1, .int (nI p))], [.int (nI m), .int (nI p)], _, _, _) rfl ?_
  refine J.icB ok_Ro_countClasses (fun x y => y ≤ x) 39 15 rfl (fun (h0 : nI m ≤ nI p) => ?_) (fun (h0 : ¬ (nI m ≤ nI p)) => ?_)
  · have c12 : m ≤ p := (nI_leI (a := m) (b := p) (by omega) (by omega)).mp h0
    refine JR.vret (by decide +kernel) rfl ?_
    exact K1 c12
  · have c12 : p < m := Nat.not_le.mp (fun h9 => h0 ((nI_leI (a := m) (b := p) (by omega) (by omega)).mpr h9))
    refine J.gp ok_Ro_countClasses 2 (17, [(0, .ref 18), (1, .int (nI p))], [.int (nI p), .ref 18], _, _, _) rfl ?_
    refine J.callVE s_Ro_countClasses_17 20 18 [.int (nI p)] 3 (c_Ro_isFirstOfClass (by omega) (by omega) (by assumption)) rfl rfl rfl rfl rfl (Nat.le_of_ble_eq_true rfl) rfl ?_
    refine J.gp ok_Ro_countClasses 0 (20, [(0, .ref 18), (1, .int (nI p))], [.int (if firstF m R p then (1 : Int32) else 0)], (HP e0 e1 e2 e3 e4 e5 e6 e7 e8 e9 e10 e11 e12 e13 e14 e15 e16 e17 (.inr (3, [.ref 19, .ref 21, .ref 23, .ref 25, .ref 27, .ref 29, .ref 31, .int (nI m), .int (nI t), .long sl, .long ws, .int (nI q)])) (.inr (4, [.ref 20])) (.inl (1, 16, .inr (.inl (grd M)))) e21 e22 (.inr (4, [.ref 24])) (.inl (1, 4, .inr (.inl (reA m R re)))) e25 e26 e27 e28 e29 e30 e31 e32 e33 e34 e35 e36 e37 e38 e39 e40 e41 e42 e43 e44 e45 e46 e47 e48), kc, kn) rfl ?_
    refine J.ifB ok_Ro_countClasses (fun x => x = 0) 33 23 rfl (fun (c20 : (if firstF m R p then (1 : Int32) else 0) = 0) => ?_) (fun (c20 : ¬ ((if firstF m R p then (1 : Int32) else 0) = 0)) => ?_)
    · refine J.gp ok_Ro_countClasses 1 (36, [(0, .ref 18), (1, .int (nI p + 1))], [], _, _, _) rfl ?_
      rw [show ((nI p + 1) : Int32) = nI (p + 1) from nI_add p 1]
      refine J.gp ok_Ro_countClasses 1 (7, [(0, .ref 18), (1, .int (nI (p + 1)))], [], _, _, _) rfl ?_
      exact K2 c12 c20
    · refine J.gp ok_Ro_countClasses 5 (30, [(0, .ref 18), (1, .int (nI p))], [.int (nI q + 1), .ref 18], _, _, _) rfl ?_
      rw [show ((nI q + 1) : Int32) = nI (q + 1) from nI_add q 1]
      refine J.gp ok_Ro_countClasses 1 (33, [(0, .ref 18), (1, .int (nI p))], [], (HP e0 e1 e2 e3 e4 e5 e6 e7 e8 e9 e10 e11 e12 e13 e14 e15 e16 e17 (.inr (3, [.ref 19, .ref 21, .ref 23, .ref 25, .ref 27, .ref 29, .ref 31, .int (nI m), .int (nI t), .long sl, .long ws, .int (nI (q + 1))])) (.inr (4, [.ref 20])) (.inl (1, 16, .inr (.inl (grd M)))) e21 e22 (.inr (4, [.ref 24])) (.inl (1, 4, .inr (.inl (reA m R re)))) e25 e26 e27 e28 e29 e30 e31 e32 e33 e34 e35 e36 e37 e38 e39 e40 e41 e42 e43 e44 e45 e46 e47 e48), _, _) rfl ?_
      refine J.gp ok_Ro_countClasses 1 (36, [(0, .ref 18), (1, .int (nI p + 1))], [], _, _, _) rfl ?_
      rw [show ((nI p + 1) : Int32) = nI (p + 1) from nI_add p 1]
      refine J.gp ok_Ro_countClasses 1 (7, [(0, .ref 18), (1, .int (nI (p + 1)))], [], _, _, _) rfl ?_
      exact K3 c12 c20

set_option maxRecDepth 100000 in
theorem c_Ro_countClasses {e0 e1 e2 e3 e4 e5 e6 e7 e8 e9 e10 e11 e12 e13 e14 e15 e16 e17 e21 e22 e25 e26 e27 e28 e29 e30 e31 e32 e33 e34 e35 e36 e37 e38 e39 e40 e41 e42 e43 e44 e45 e46 e47 e48 : va_E} {m t : Nat} {M : Gr} {sl ws : Int64} {cc : Int32} {R : Nat → Nat} {re : Nat → Int64} (hm : m ≤ 4) (hR : ∀ i, i < 4 → R i < 16) : JE M_Ro_countClasses [.ref 18] (HP e0 e1 e2 e3 e4 e5 e6 e7 e8 e9 e10 e11 e12 e13 e14 e15 e16 e17 (.inr (3, [.ref 19, .ref 21, .ref 23, .ref 25, .ref 27, .ref 29, .ref 31, .int (nI m), .int (nI t), .long sl, .long ws, .int cc])) (.inr (4, [.ref 20])) (.inl (1, 16, .inr (.inl (grd M)))) e21 e22 (.inr (4, [.ref 24])) (.inl (1, 4, .inr (.inl (reA m R re)))) e25 e26 e27 e28 e29 e30 e31 e32 e33 e34 e35 e36 e37 e38 e39 e40 e41 e42 e43 e44 e45 e46 e47 e48) none (HP e0 e1 e2 e3 e4 e5 e6 e7 e8 e9 e10 e11 e12 e13 e14 e15 e16 e17 (.inr (3, [.ref 19, .ref 21, .ref 23, .ref 25, .ref 27, .ref 29, .ref 31, .int (nI m), .int (nI t), .long sl, .long ws, .int (nI (clsF m R m))])) (.inr (4, [.ref 20])) (.inl (1, 16, .inr (.inl (grd M)))) e21 e22 (.inr (4, [.ref 24])) (.inl (1, 4, .inr (.inl (reA m R re)))) e25 e26 e27 e28 e29 e30 e31 e32 e33 e34 e35 e36 e37 e38 e39 e40 e41 e42 e43 e44 e45 e46 e47 e48) := by
  refine JM.of (by decide +kernel) rfl (Nat.le_of_ble_eq_true rfl) (g_Ro_cc0 hm ?_)
  have K := loopN (P := fun p => JR M_Ro_countClasses none (7, [(0, .ref 18), (1, .int (nI p))], [], (HP e0 e1 e2 e3 e4 e5 e6 e7 e8 e9 e10 e11 e12 e13 e14 e15 e16 e17 (.inr (3, [.ref 19, .ref 21, .ref 23, .ref 25, .ref 27, .ref 29, .ref 31, .int (nI m), .int (nI t), .long sl, .long ws, .int (nI (clsF m R p))])) (.inr (4, [.ref 20])) (.inl (1, 16, .inr (.inl (grd M)))) e21 e22 (.inr (4, [.ref 24])) (.inl (1, 4, .inr (.inl (reA m R re)))) e25 e26 e27 e28 e29 e30 e31 e32 e33 e34 e35 e36 e37 e38 e39 e40 e41 e42 e43 e44 e45 e46 e47 e48), 0, 0) (OE none (HP e0 e1 e2 e3 e4 e5 e6 e7 e8 e9 e10 e11 e12 e13 e14 e15 e16 e17 (.inr (3, [.ref 19, .ref 21, .ref 23, .ref 25, .ref 27, .ref 29, .ref 31, .int (nI m), .int (nI t), .long sl, .long ws, .int (nI (clsF m R m))])) (.inr (4, [.ref 20])) (.inl (1, 16, .inr (.inl (grd M)))) e21 e22 (.inr (4, [.ref 24])) (.inl (1, 4, .inr (.inl (reA m R re)))) e25 e26 e27 e28 e29 e30 e31 e32 e33 e34 e35 e36 e37 e38 e39 e40 e41 e42 e43 e44 e45 e46 e47 e48))) (b := m) ?_ (fun p hp ih => ?_) 0 (Nat.zero_le _)
  · exact K
  · exact g_Ro_cc1 (p := m) hm (Nat.le_refl _) hR (fun _ => ⟨rfl, rfl⟩) (fun c => absurd c (Nat.lt_irrefl _)) (fun c => absurd c (Nat.lt_irrefl _))
  · have e : clsF m R (p + 1) = clsF m R p + (if firstF m R p then 1 else 0) := rfl
    refine g_Ro_cc1 (p := p) hm (Nat.le_of_lt hp) hR (fun c => absurd c (by omega)) (fun _ c => ?_) (fun _ c => ?_)
    · rw [e, if_neg (ifI0.mp c)] at ih
      exact ih
    · rw [e, if_pos (Classical.byContradiction fun h => c (ifI0.mpr h))] at ih
      exact ih
