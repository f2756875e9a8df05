/-! ROUNDS: what can be reached, the classes -/
theorem shl1 : ∀ a, a < 4 → ((1 : Int32) <<< (nI a &&& 31)) = nI (2 ^ a) := by decide +kernel
theorem pow16 : ∀ a, a < 4 → 2 ^ a < 16 := by decide
theorem lor16 : ∀ x, x < 16 → ∀ y, y < 16 → lN x ||| lN y = lN (x ||| y) := by decide +kernel
theorem lor_lt : ∀ x, x < 16 → ∀ y, y < 16 → x ||| y < 16 := by decide +kernel
/-- the mask of what follows a position, after k candidates -/
def rmk (M : Gr) (a : Nat) : Nat → Nat
  | 0 => 2 ^ a
  | k + 1 => wbit (rmk M a k) k (decide (bitN (rmk M a k) k = 1 ∨ 0 < M a k))
theorem rmk_lt {M : Gr} {a : Nat} (ha : a < 4) (k : Nat) (hk : k ≤ 4) : rmk M a k < 16 := by
  induction k with
  | zero => exact pow16 a ha
  | succ k ih => exact wbit_lt _ (ih (by omega)) k (by omega) _
def reA (m : Nat) (R : Nat → Nat) (re : Nat → Int64) : Nat → Int64 := fun i => if i < m then lN (R i) else re i
theorem reA_get {m i : Nat} {R : Nat → Nat} {re : Nat → Int64} (h : i < m) : reA m R re i = lN (R i) := if_pos h
theorem reA_up {m i x : Nat} {R : Nat → Nat} {re : Nat → Int64} (h : i < m) : vp_updL (reA m R re) i (lN x) = reA m (va_up R i x) re := by
  funext j
  unfold vp_updL reA va_up
  by_cases e : j = i
  · rw [if_pos e, if_pos (by omega), if_pos e]
  · rw [if_neg e]
    by_cases h2 : j < m
    · rw [if_pos h2, if_pos h2, if_neg e]
    · rw [if_neg h2, if_neg h2]
theorem reA_next {i : Nat} {R : Nat → Nat} {re : Nat → Int64} : vp_updL (reA i R re) i (lN (R i)) = reA (i + 1) R re := by
  funext j
  unfold vp_updL reA
  by_cases e : j = i
  · rw [if_pos e, if_pos (by omega), e]
  · rw [if_neg e]
    by_cases h2 : j < i
    · rw [if_pos h2, if_pos (by omega)]
    · rw [if_neg h2, if_neg (by omega)]
theorem reA_0 {R : Nat → Nat} {re : Nat → Int64} : reA 0 R re = re := by
  funext j
  exact if_neg (Nat.not_lt_zero j)
def waI (R : Nat → Nat) (v : Nat) : Nat → Nat → Nat
  | 0 => R
  | k + 1 => if bitN (waI R v k k) v = 1 then va_up (waI R v k) k (waI R v k k ||| waI R v k v) else waI R v k
def waO (m : Nat) (R : Nat → Nat) : Nat → Nat → Nat
  | 0 => R
  | v + 1 => waI (waO m R v) v m
theorem waI_lt {R : Nat → Nat} {v : Nat} (h : ∀ i, i < 4 → R i < 16) (hv : v < 4) (k : Nat) (hk : k ≤ 4) : ∀ i, i < 4 → waI R v k i < 16 := by
  induction k with
  | zero => exact h
  | succ k ih =>
    intro i hi
    unfold waI
    split
    · unfold va_up
      split
      · exact lor_lt _ (ih (by omega) k (by omega)) _ (ih (by omega) v hv)
      · exact ih (by omega) i hi
    · exact ih (by omega) i hi
theorem waO_lt {m : Nat} {R : Nat → Nat} (hm : m ≤ 4) (h : ∀ i, i < 4 → R i < 16) (v : Nat) (hv : v ≤ 4) : ∀ i, i < 4 → waO m R v i < 16 := by
  induction v with
  | zero => exact h
  | succ v ih => exact waI_lt (ih (by omega)) (by omega) m hm
/-- the masks of all that can be reached -/
def reachF (m : Nat) (M : Gr) : Nat → Nat := waO m (fun a => if a < m then rmk M a m else 0) m
def firstF (m : Nat) (R : Nat → Nat) (p : Nat) : Bool := (List.range m).all (fun o => !(decide (bitN (R p) o = 1) && (decide (o < p) || decide (R o ≠ R p))))
def clsF (m : Nat) (R : Nat → Nat) : Nat → Nat
  | 0 => 0
  | p + 1 => clsF m R p + (if firstF m R p then 1 else 0)

set_option maxRecDepth 100000 in
set_option maxHeartbeats 400000 in
theorem g_Ro_fr1 {sc : aScr} {e0 e1 e2 e3 e4 e5 e6 e7 e8 e9 e10 e11 e12 e13 e14 e15 e16 e17 e21 e22 e25 e26 e27 e28 e29 e30 e31 e32 e33 e34 e35 e36 e37 e38 e39 e40 e41 e42 e43 e44 e45 e46 e47 e48 : va_E} {m t : Nat} {M : Gr} {sl ws : Int64} {cc : Int32} {re : Nat → Int64} {a : Nat} {kc kn : Nat} {O : Option Value → aH → Prop} (hm : m ≤ 4) (ha : a ≤ m) (K1 : (m ≤ a) → JR M_Ro_findReach sc (84, [(0, .ref 18), (1, .int 0)], [], (HP e0 e1 e2 e3 e4 e5 e6 e7 e8 e9 e10 e11 e12 e13 e14 e15 e16 e17 (.inr (3, [.ref 19, .ref 21, .ref 23, .ref 25, .ref 27, .ref 29, .ref 31, .int (nI m), .int (nI t), .long sl, .long ws, .int cc])) (.inr (4, [.ref 20])) (.inl (1, 16, .inr (.inl (grd M)))) e21 e22 (.inr (4, [.ref 24])) (.inl (1, 4, .inr (.inl re))) e25 e26 e27 e28 e29 e30 e31 e32 e33 e34 e35 e36 e37 e38 e39 e40 e41 e42 e43 e44 e45 e46 e47 e48), kc, kn) O) (K2 : (a < m) → JR M_Ro_findReach sc (16, [(0, .ref 18), (1, .int (nI a)), (2, .int (nI (2 ^ a))), (3, .int 0)], [], (HP e0 e1 e2 e3 e4 e5 e6 e7 e8 e9 e10 e11 e12 e13 e14 e15 e16 e17 (.inr (3, [.ref 19, .ref 21, .ref 23, .ref 25, .ref 27, .ref 29, .ref 31, .int (nI m), .int (nI t), .long sl, .long ws, .int cc])) (.inr (4, [.ref 20])) (.inl (1, 16, .inr (.inl (grd M)))) e21 e22 (.inr (4, [.ref 24])) (.inl (1, 4, .inr (.inl re))) e25 e26 e27 e28 e29 e30 e31 e32 e33 e34 e35 e36 e37 e38 e39 e40 e41 e42 e43 e44 e45 e46 e47 e48), kc, kn) O) : JR M_Ro_findReach sc (2, [(0, .ref 18), (1, .int (nI a))], [], (HP e0 e1 e2 e3 e4 e5 e6 e7 e8 e9 e10 e11 e12 e13 e14 e15 e16 e17 (.inr (3, [.ref 19, .ref 21, .ref 23, .ref 25, .ref 27, .ref 29, .ref 31, .int (nI m), .int (nI t), .long sl, .long ws, .int cc])) (.inr (4, [.ref 20])) (.inl (1, 16, .inr (.inl (grd M)))) e21 e22 (.inr (4, [.ref 24])) (.inl (1, 4, .inr (.inl re))) e25 e26 e27 e28 e29 e30 e31 e32 e33 e34 e35 e36 e37 e38 e39 e40 e41 e42 e43 e44 e45 e46 e47 e48), kc, kn) O := by
  refine J.gp ok_Ro_findReach 3 (7, [(0, .ref 18), (1, .int (nI a))], [.int (nI m), .int (nI a)], _, _, _) rfl ?_
  refine J.icB ok_Ro_findReach (fun x y => y ≤ x) 82 10 rfl (fun (h0 : nI m ≤ nI a) => ?_) (fun (h0 : ¬ (nI m ≤ nI a)) => ?_)
  · have c7 : m ≤ a := (nI_leI (a := m) (b := a) (by omega) (by omega)).mp h0
    refine J.gp ok_Ro_findReach 2 (84, [(0, .ref 18), (1, .int 0)], [], _, _, _) rfl ?_
    exact K1 c7
  · have c7 : a < m := Nat.not_le.mp (fun h9 => h0 ((nI_leI (a := m) (b := a) (by omega) (by omega)).mpr h9))
    refine J.gp ok_Ro_findReach 3 (13, [(0, .ref 18), (1, .int (nI a))], [.int (1 <<< (nI a &&& 31))], _, _, _) rfl ?_
    rw [show ((1 <<< (nI a &&& 31))) = nI (2 ^ a) from shl1 a (by omega)]
    refine J.gp ok_Ro_findReach 3 (16, [(0, .ref 18), (1, .int (nI a)), (2, .int (nI (2 ^ a))), (3, .int 0)], [], _, _, _) rfl ?_
    exact K2 c7

set_option maxRecDepth 100000 in
set_option maxHeartbeats 400000 in
theorem g_Ro_fr2 {sc : aScr} {e0 e1 e2 e3 e4 e5 e6 e7 e8 e9 e10 e11 e12 e13 e14 e15 e16 e17 e21 e22 e25 e26 e27 e28 e29 e30 e31 e32 e33 e34 e35 e36 e37 e38 e39 e40 e41 e42 e43 e44 e45 e46 e47 e48 : va_E} {m t : Nat} {M : Gr} {sl ws : Int64} {cc : Int32} {re : Nat → Int64} {a k q : Nat} {kc kn : Nat} {O : Option Value → aH → Prop} (hm : m ≤ 4) (ha : a < m) (hk : k ≤ m) (hq : q < 16) (hb : bitN q k < 2) (K1 : (m ≤ k) → JR M_Ro_findReach sc (2, [(0, .ref 18), (1, .int (nI (a + 1)))], [], (HP e0 e1 e2 e3 e4 e5 e6 e7 e8 e9 e10 e11 e12 e13 e14 e15 e16 e17 (.inr (3, [.ref 19, .ref 21, .ref 23, .ref 25, .ref 27, .ref 29, .ref 31, .int (nI m), .int (nI t), .long sl, .long ws, .int cc])) (.inr (4, [.ref 20])) (.inl (1, 16, .inr (.inl (grd M)))) e21 e22 (.inr (4, [.ref 24])) (.inl (1, 4, .inr (.inl (vp_updL re a (lN q))))) e25 e26 e27 e28 e29 e30 e31 e32 e33 e34 e35 e36 e37 e38 e39 e40 e41 e42 e43 e44 e45 e46 e47 e48), kc, kn) O) (K2 : (k < m) → (¬ (bitN q k) = 0) → JR M_Ro_findReach sc (16, [(0, .ref 18), (1, .int (nI a)), (2, .int (nI (wbit q k true))), (3, .int (nI (k + 1)))], [], (HP e0 e1 e2 e3 e4 e5 e6 e7 e8 e9 e10 e11 e12 e13 e14 e15 e16 e17 (.inr (3, [.ref 19, .ref 21, .ref 23, .ref 25, .ref 27, .ref 29, .ref 31, .int (nI m), .int (nI t), .long sl, .long ws, .int cc])) (.inr (4, [.ref 20])) (.inl (1, 16, .inr (.inl (grd M)))) e21 e22 (.inr (4, [.ref 24])) (.inl (1, 4, .inr (.inl re))) e25 e26 e27 e28 e29 e30 e31 e32 e33 e34 e35 e36 e37 e38 e39 e40 e41 e42 e43 e44 e45 e46 e47 e48), kc, kn) O) (K3 : (k < m) → ((bitN q k) = 0) → ((M a k) ≤ (0 : Int64)) → JR M_Ro_findReach sc (16, [(0, .ref 18), (1, .int (nI a)), (2, .int (nI (wbit q k false))), (3, .int (nI (k + 1)))], [], (HP e0 e1 e2 e3 e4 e5 e6 e7 e8 e9 e10 e11 e12 e13 e14 e15 e16 e17 (.inr (3, [.ref 19, .ref 21, .ref 23, .ref 25, .ref 27, .ref 29, .ref 31, .int (nI m), .int (nI t), .long sl, .long ws, .int cc])) (.inr (4, [.ref 20])) (.inl (1, 16, .inr (.inl (grd M)))) e21 e22 (.inr (4, [.ref 24])) (.inl (1, 4, .inr (.inl re))) e25 e26 e27 e28 e29 e30 e31 e32 e33 e34 e35 e36 e37 e38 e39 e40 e41 e42 e43 e44 e45 e46 e47 e48), kc, kn) O) (K4 : (k < m) → ((bitN q k) = 0) → ((0 : Int64) < (M a k)) → JR M_Ro_findReach sc (16, [(0, .ref 18), (1, .int (nI a)), (2, .int (nI (wbit q k true))), (3, .int (nI (k + 1)))], [], (HP e0 e1 e2 e3 e4 e5 e6 e7 e8 e9 e10 e11 e12 e13 e14 e15 e16 e17 (.inr (3, [.ref 19, .ref 21, .ref 23, .ref 25, .ref 27, .ref 29, .ref 31, .int (nI m), .int (nI t), .long sl, .long ws, .int cc])) (.inr (4, [.ref 20])) (.inl (1, 16, .inr (.inl (grd M)))) e21 e22 (.inr (4, [.ref 24])) (.inl (1, 4, .inr (.inl re))) e25 e26 e27 e28 e29 e30 e31 e32 e33 e34 e35 e36 e37 e38 e39 e40 e41 e42 e43 e44 e45 e46 e47 e48), kc, kn) O) : JR M_Ro_findReach sc (16, [(0, .ref 18), (1, .int (nI a)), (2, .int (nI q)), (3, .int (nI k))], [], (HP e0 e1 e2 e3 e4 e5 e6 e7 e8 e9 e10 e11 e12 e13 e14 e15 e16 e17 (.inr (3, [.ref 19, .ref 21, .ref 23, .ref 25, .ref 27, .ref 29, .ref 31, .int (nI m), .int (nI t), .long sl, .long ws, .int cc])) (.inr (4, [.ref 20])) (.inl (1, 16, .inr (.inl (grd M)))) e21 e22 (.inr (4, [.ref 24])) (.inl (1, 4, .inr (.inl re))) e25 e26 e27 e28 e29 e30 e31 e32 e33 e34 e35 e36 e37 e38 e39 e40 e41 e42 e43 e44 e45 e46 e47 e48), kc, kn) O := by
  refine J.gp ok_Ro_findReach 3 (21, [(0, .ref 18), (1, .int (nI a)), (2, .int (nI q)), (3, .int (nI k))], [.int (nI m), .int (nI k)], _, _, _) rfl ?_
  refine J.icB ok_Ro_findReach (fun x y => y ≤ x) 66 24 rfl (fun (h0 : nI m ≤ nI k) => ?_) (fun (h0 : ¬ (nI m ≤ nI k)) => ?_)
  · have c21 : m ≤ k := (nI_leI (a := m) (b := k) (by omega) (by omega)).mp h0
    refine J.gp ok_Ro_findReach 5 (73, [(0, .ref 18), (1, .int (nI a)), (2, .int (nI q)), (3, .int (nI k))], [.long ((nI q).toInt64), .int (nI a), .ref 23], _, _, _) rfl ?_
    rw [show (((nI q).toInt64) : Int64) = lN q from nI_l (n := q) (by omega)]
    refine J.callVE s_Ro_findReach_73 76 23 [.int (nI a), .long (lN q)] 4 (c_Rw_set_23 (j := a) (by omega)) rfl rfl rfl rfl rfl (Nat.le_of_ble_eq_true rfl) rfl ?_
    refine J.gp ok_Ro_findReach 0 (76, [(0, .ref 18), (1, .int (nI a)), (2, .int (nI q)), (3, .int (nI k))], [], (HP e0 e1 e2 e3 e4 e5 e6 e7 e8 e9 e10 e11 e12 e13 e14 e15 e16 e17 (.inr (3, [.ref 19, .ref 21, .ref 23, .ref 25, .ref 27, .ref 29, .ref 31, .int (nI m), .int (nI t), .long sl, .long ws, .int cc])) (.inr (4, [.ref 20])) (.inl (1, 16, .inr (.inl (grd M)))) e21 e22 (.inr (4, [.ref 24])) (.inl (1, 4, .inr (.inl (vp_updL re a (lN q))))) e25 e26 e27 e28 e29 e30 e31 e32 e33 e34 e35 e36 e37 e38 e39 e40 e41 e42 e43 e44 e45 e46 e47 e48), kc, kn) rfl ?_
    refine J.gp ok_Ro_findReach 1 (79, [(0, .ref 18), (1, .int (nI a + 1)), (2, .int (nI q)), (3, .int (nI k))], [], _, _, _) rfl ?_
    rw [show ((nI a + 1) : Int32) = nI (a + 1) from nI_add a 1]
    refine J.gp ok_Ro_findReach 1 (2, [(0, .ref 18), (1, .int (nI (a + 1))), (2, .int (nI q)), (3, .int (nI k))], [], _, _, _) rfl ?_
    refine J.lv [0, 1] [(0, .ref 18), (1, .int (nI (a + 1)))] rfl ?_
    exact K1 c21
  · have c21 : k < m := Nat.not_le.mp (fun h9 => h0 ((nI_leI (a := m) (b := k) (by omega) (by omega)).mpr h9))
    refine J.gp ok_Ro_findReach 4 (28, [(0, .ref 18), (1, .int (nI a)), (2, .int (nI q)), (3, .int (nI k))], [.int (nI k), .int (nI q), .int (nI k), .int (nI q)], _, _, _) rfl ?_
    refine J.callSNE s_Ro_findReach_28 31 [.int (nI q), .int (nI k)] (c_F_hasBit (by omega) (by omega)) rfl rfl (Nat.le_of_ble_eq_true rfl) rfl ?_
    refine J.gp ok_Ro_findReach 0 (31, [(0, .ref 18), (1, .int (nI a)), (2, .int (nI q)), (3, .int (nI k))], [.int (nI (bitN q k)), .int (nI k), .int (nI q)], (HP e0 e1 e2 e3 e4 e5 e6 e7 e8 e9 e10 e11 e12 e13 e14 e15 e16 e17 (.inr (3, [.ref 19, .ref 21, .ref 23, .ref 25, .ref 27, .ref 29, .ref 31, .int (nI m), .int (nI t), .long sl, .long ws, .int cc])) (.inr (4, [.ref 20])) (.inl (1, 16, .inr (.inl (grd M)))) e21 e22 (.inr (4, [.ref 24])) (.inl (1, 4, .inr (.inl re))) e25 e26 e27 e28 e29 e30 e31 e32 e33 e34 e35 e36 e37 e38 e39 e40 e41 e42 e43 e44 e45 e46 e47 e48), kc, kn) rfl ?_
    refine J.ifB ok_Ro_findReach (fun x => ¬ x = 0) 51 34 rfl (fun (h0 : ¬ nI (bitN q k) = 0) => ?_) (fun (h0 : ¬ (¬ nI (bitN q k) = 0)) => ?_)
    · have c31 : ¬ (bitN q k) = 0 := fun h9 => h0 ((nI_eq (a := bitN q k) (b := 0) (by omega) (by omega)).mpr h9)
      refine J.gp ok_Ro_findReach 2 (56, [(0, .ref 18), (1, .int (nI a)), (2, .int (nI q)), (3, .int (nI k))], [.int 1, .int (nI k), .int (nI q)], _, _, _) rfl ?_
      refine J.callSNE s_Ro_findReach_56 59 [.int (nI q), .int (nI k), .int 1] (c_F_withBit (s := true) (by omega) (by omega) (by decide)) rfl rfl (Nat.le_of_ble_eq_true rfl) rfl ?_
      refine J.gp ok_Ro_findReach 0 (59, [(0, .ref 18), (1, .int (nI a)), (2, .int (nI q)), (3, .int (nI k))], [.int (nI (wbit q k true))], (HP e0 e1 e2 e3 e4 e5 e6 e7 e8 e9 e10 e11 e12 e13 e14 e15 e16 e17 (.inr (3, [.ref 19, .ref 21, .ref 23, .ref 25, .ref 27, .ref 29, .ref 31, .int (nI m), .int (nI t), .long sl, .long ws, .int cc])) (.inr (4, [.ref 20])) (.inl (1, 16, .inr (.inl (grd M)))) e21 e22 (.inr (4, [.ref 24])) (.inl (1, 4, .inr (.inl re))) e25 e26 e27 e28 e29 e30 e31 e32 e33 e34 e35 e36 e37 e38 e39 e40 e41 e42 e43 e44 e45 e46 e47 e48), kc, kn) rfl ?_
      refine J.gp ok_Ro_findReach 2 (63, [(0, .ref 18), (1, .int (nI a)), (2, .int (nI (wbit q k true))), (3, .int (nI k + 1))], [], _, _, _) rfl ?_
      rw [show ((nI k + 1) : Int32) = nI (k + 1) from nI_add k 1]
      refine J.gp ok_Ro_findReach 1 (16, [(0, .ref 18), (1, .int (nI a)), (2, .int (nI (wbit q k true))), (3, .int (nI (k + 1)))], [], _, _, _) rfl ?_
      exact K2 c21 c31
    · have c31 : (bitN q k) = 0 := (nI_eq (a := bitN q k) (b := 0) (by omega) (by omega)).mp (Classical.byContradiction h0)
      refine J.gp ok_Ro_findReach 4 (40, [(0, .ref 18), (1, .int (nI a)), (2, .int (nI q)), (3, .int (nI k))], [.int (nI k), .int (nI a), .ref 19, .int (nI k), .int (nI q)], _, _, _) rfl ?_
      refine J.callSE s_Ro_findReach_40 43 [.int (nI a), .int (nI k)] (c_Ro_cell) rfl rfl (Nat.le_of_ble_eq_true rfl) rfl ?_
      refine J.gp ok_Ro_findReach 0 (43, [(0, .ref 18), (1, .int (nI a)), (2, .int (nI q)), (3, .int (nI k))], [.int (nI (a * 4 + k)), .ref 19, .int (nI k), .int (nI q)], (HP e0 e1 e2 e3 e4 e5 e6 e7 e8 e9 e10 e11 e12 e13 e14 e15 e16 e17 (.inr (3, [.ref 19, .ref 21, .ref 23, .ref 25, .ref 27, .ref 29, .ref 31, .int (nI m), .int (nI t), .long sl, .long ws, .int cc])) (.inr (4, [.ref 20])) (.inl (1, 16, .inr (.inl (grd M)))) e21 e22 (.inr (4, [.ref 24])) (.inl (1, 4, .inr (.inl re))) e25 e26 e27 e28 e29 e30 e31 e32 e33 e34 e35 e36 e37 e38 e39 e40 e41 e42 e43 e44 e45 e46 e47 e48), kc, kn) rfl ?_
      refine J.callVE s_Ro_findReach_43 46 19 [.int (nI (a * 4 + k))] 4 (c_Rw_get_19 (j := a * 4 + k) (by omega)) rfl rfl rfl rfl rfl (Nat.le_of_ble_eq_true rfl) rfl ?_
      refine J.gp ok_Ro_findReach 0 (46, [(0, .ref 18), (1, .int (nI a)), (2, .int (nI q)), (3, .int (nI k))], [.long ((grd M) (a * 4 + k)), .int (nI k), .int (nI q)], (HP e0 e1 e2 e3 e4 e5 e6 e7 e8 e9 e10 e11 e12 e13 e14 e15 e16 e17 (.inr (3, [.ref 19, .ref 21, .ref 23, .ref 25, .ref 27, .ref 29, .ref 31, .int (nI m), .int (nI t), .long sl, .long ws, .int cc])) (.inr (4, [.ref 20])) (.inl (1, 16, .inr (.inl (grd M)))) e21 e22 (.inr (4, [.ref 24])) (.inl (1, 4, .inr (.inl re))) e25 e26 e27 e28 e29 e30 e31 e32 e33 e34 e35 e36 e37 e38 e39 e40 e41 e42 e43 e44 e45 e46 e47 e48), kc, kn) rfl ?_
      rw [show (((grd M) (a * 4 + k))) = (M a k) from grd_get (by omega)]
      refine J.gp ok_Ro_findReach 2 (48, [(0, .ref 18), (1, .int (nI a)), (2, .int (nI q)), (3, .int (nI k))], [.int (lg_cmp (M a k) 0), .int (nI k), .int (nI q)], _, _, _) rfl ?_
      refine J.ifB ok_Ro_findReach (fun x => x ≤ 0) 55 51 rfl (fun (h0 : (lg_cmp (M a k) 0) ≤ 0) => ?_) (fun (h0 : ¬ ((lg_cmp (M a k) 0) ≤ 0)) => ?_)
      · have c48 : (M a k) ≤ (0 : Int64) := (cmp_le).mp h0
        refine J.gp ok_Ro_findReach 1 (56, [(0, .ref 18), (1, .int (nI a)), (2, .int (nI q)), (3, .int (nI k))], [.int 0, .int (nI k), .int (nI q)], _, _, _) rfl ?_
        refine J.callSNE s_Ro_findReach_56 59 [.int (nI q), .int (nI k), .int 0] (c_F_withBit (s := false) (by omega) (by omega) (by decide)) rfl rfl (Nat.le_of_ble_eq_true rfl) rfl ?_
        refine J.gp ok_Ro_findReach 0 (59, [(0, .ref 18), (1, .int (nI a)), (2, .int (nI q)), (3, .int (nI k))], [.int (nI (wbit q k false))], (HP e0 e1 e2 e3 e4 e5 e6 e7 e8 e9 e10 e11 e12 e13 e14 e15 e16 e17 (.inr (3, [.ref 19, .ref 21, .ref 23, .ref 25, .ref 27, .ref 29, .ref 31, .int (nI m), .int (nI t), .long sl, .long ws, .int cc])) (.inr (4, [.ref 20])) (.inl (1, 16, .inr (.inl (grd M)))) e21 e22 (.inr (4, [.ref 24])) (.inl (1, 4, .inr (.inl re))) e25 e26 e27 e28 e29 e30 e31 e32 e33 e34 e35 e36 e37 e38 e39 e40 e41 e42 e43 e44 e45 e46 e47 e48), kc, kn) rfl ?_
        refine J.gp ok_Ro_findReach 2 (63, [(0, .ref 18), (1, .int (nI a)), (2, .int (nI (wbit q k false))), (3, .int (nI k + 1))], [], _, _, _) rfl ?_
        rw [show ((nI k + 1) : Int32) = nI (k + 1) from nI_add k 1]
        refine J.gp ok_Ro_findReach 1 (16, [(0, .ref 18), (1, .int (nI a)), (2, .int (nI (wbit q k false))), (3, .int (nI (k + 1)))], [], _, _, _) rfl ?_
        exact K3 c21 c31 c48
      · have c48 : (0 : Int64) < (M a k) := (cmp_le_n).mp h0
        refine J.gp ok_Ro_findReach 2 (56, [(0, .ref 18), (1, .int (nI a)), (2, .int (nI q)), (3, .int (nI k))], [.int 1, .int (nI k), .int (nI q)], _, _, _) rfl ?_
        refine J.callSNE s_Ro_findReach_56 59 [.int (nI q), .int (nI k), .int 1] (c_F_withBit (s := true) (by omega) (by omega) (by decide)) rfl rfl (Nat.le_of_ble_eq_true rfl) rfl ?_
        refine J.gp ok_Ro_findReach 0 (59, [(0, .ref 18), (1, .int (nI a)), (2, .int (nI q)), (3, .int (nI k))], [.int (nI (wbit q k true))], (HP e0 e1 e2 e3 e4 e5 e6 e7 e8 e9 e10 e11 e12 e13 e14 e15 e16 e17 (.inr (3, [.ref 19, .ref 21, .ref 23, .ref 25, .ref 27, .ref 29, .ref 31, .int (nI m), .int (nI t), .long sl, .long ws, .int cc])) (.inr (4, [.ref 20])) (.inl (1, 16, .inr (.inl (grd M)))) e21 e22 (.inr (4, [.ref 24])) (.inl (1, 4, .inr (.inl re))) e25 e26 e27 e28 e29 e30 e31 e32 e33 e34 e35 e36 e37 e38 e39 e40 e41 e42 e43 e44 e45 e46 e47 e48), kc, kn) rfl ?_
        refine J.gp ok_Ro_findReach 2 (63, [(0, .ref 18), (1, .int (nI a)), (2, .int (nI (wbit q k true))), (3, .int (nI k + 1))], [], _, _, _) rfl ?_
        rw [show ((nI k + 1) : Int32) = nI (k + 1) from nI_add k 1]
        refine J.gp ok_Ro_findReach 1 (16, [(0, .ref 18), (1, .int (nI a)), (2, .int (nI (wbit q k true))), (3, .int (nI (k + 1)))], [], _, _, _) rfl ?_
        exact K4 c21 c31 c48

set_option maxRecDepth 100000 in
set_option maxHeartbeats 400000 in
theorem g_Ro_fr3 {sc : aScr} {e0 e1 e2 e3 e4 e5 e6 e7 e8 e9 e10 e11 e12 e13 e14 e15 e16 e17 e21 e22 e25 e26 e27 e28 e29 e30 e31 e32 e33 e34 e35 e36 e37 e38 e39 e40 e41 e42 e43 e44 e45 e46 e47 e48 : va_E} {m t : Nat} {M : Gr} {sl ws : Int64} {cc : Int32} {re : Nat → Int64} {v : Nat} {kc kn : Nat} {O : Option Value → aH → Prop} (hm : m ≤ 4) (hv : v ≤ m) (K1 : (m ≤ v) → O none (HP e0 e1 e2 e3 e4 e5 e6 e7 e8 e9 e10 e11 e12 e13 e14 e15 e16 e17 (.inr (3, [.ref 19, .ref 21, .ref 23, .ref 25, .ref 27, .ref 29, .ref 31, .int (nI m), .int (nI t), .long sl, .long ws, .int cc])) (.inr (4, [.ref 20])) (.inl (1, 16, .inr (.inl (grd M)))) e21 e22 (.inr (4, [.ref 24])) (.inl (1, 4, .inr (.inl re))) e25 e26 e27 e28 e29 e30 e31 e32 e33 e34 e35 e36 e37 e38 e39 e40 e41 e42 e43 e44 e45 e46 e47 e48)) (K2 : (v < m) → JR M_Ro_findReach sc (94, [(0, .ref 18), (1, .int (nI v)), (2, .int 0)], [], (HP e0 e1 e2 e3 e4 e5 e6 e7 e8 e9 e10 e11 e12 e13 e14 e15 e16 e17 (.inr (3, [.ref 19, .ref 21, .ref 23, .ref 25, .ref 27, .ref 29, .ref 31, .int (nI m), .int (nI t), .long sl, .long ws, .int cc])) (.inr (4, [.ref 20])) (.inl (1, 16, .inr (.inl (grd M)))) e21 e22 (.inr (4, [.ref 24])) (.inl (1, 4, .inr (.inl re))) e25 e26 e27 e28 e29 e30 e31 e32 e33 e34 e35 e36 e37 e38 e39 e40 e41 e42 e43 e44 e45 e46 e47 e48), kc, kn) O) : JR M_Ro_findReach sc (84, [(0, .ref 18), (1, .int (nI v))], [], (HP e0 e1 e2 e3 e4 e5 e6 e7 e8 e9 e10 e11 e12 e13 e14 e15 e16 e17 (.inr (3, [.ref 19, .ref 21, .ref 23, .ref 25, .ref 27, .ref 29, .ref 31, .int (nI m), .int (nI t), .long sl, .long ws, .int cc])) (.inr (4, [.ref 20])) (.inl (1, 16, .inr (.inl (grd M)))) e21 e22 (.inr (4, [.ref 24])) (.inl (1, 4, .inr (.inl re))) e25 e26 e27 e28 e29 e30 e31 e32 e33 e34 e35 e36 e37 e38 e39 e40 e41 e42 e43 e44 e45 e46 e47 e48), kc, kn) O := by
  refine J.gp ok_Ro_findReach 3 (89, [(0, .ref 18), (1, .int (nI v))], [.int (nI m), .int (nI v)], _, _, _) rfl ?_
  refine J.icB ok_Ro_findReach (fun x y => y ≤ x) 155 92 rfl (fun (h0 : nI m ≤ nI v) => ?_) (fun (h0 : ¬ (nI m ≤ nI v)) => ?_)
  · have c89 : m ≤ v := (nI_leI (a := m) (b := v) (by omega) (by omega)).mp h0
    refine JR.vret (by decide +kernel) rfl ?_
    exact K1 c89
  · have c89 : v < m := Nat.not_le.mp (fun h9 => h0 ((nI_leI (a := m) (b := v) (by omega) (by omega)).mpr h9))
    refine J.gp ok_Ro_findReach 2 (94, [(0, .ref 18), (1, .int (nI v)), (2, .int 0)], [], _, _, _) rfl ?_
    exact K2 c89

set_option maxRecDepth 100000 in
set_option maxHeartbeats 400000 in
theorem g_Ro_fr4 {sc : aScr} {e0 e1 e2 e3 e4 e5 e6 e7 e8 e9 e10 e11 e12 e13 e14 e15 e16 e17 e21 e22 e25 e26 e27 e28 e29 e30 e31 e32 e33 e34 e35 e36 e37 e38 e39 e40 e41 e42 e43 e44 e45 e46 e47 e48 : va_E} {m t : Nat} {M : Gr} {sl ws : Int64} {cc : Int32} {R : Nat → Nat} {re : Nat → Int64} {v k : Nat} {kc kn : Nat} {O : Option Value → aH → Prop} (hm : m ≤ 4) (hv : v < m) (hk : k ≤ m) (hR : ∀ i, i < 4 → R i < 16) (h1 : k < 4 → R k < 16) (h2 : R v < 16) (h3 : bitN (R k) v < 2) (K1 : (m ≤ k) → JR M_Ro_findReach sc (84, [(0, .ref 18), (1, .int (nI (v + 1)))], [], (HP e0 e1 e2 e3 e4 e5 e6 e7 e8 e9 e10 e11 e12 e13 e14 e15 e16 e17 (.inr (3, [.ref 19, .ref 21, .ref 23, .ref 25, .ref 27, .ref 29, .ref 31, .int (nI m), .int (nI t), .long sl, .long ws, .int cc])) (.inr (4, [.ref 20])) (.inl (1, 16, .inr (.inl (grd M)))) e21 e22 (.inr (4, [.ref 24])) (.inl (1, 4, .inr (.inl (reA m R re)))) e25 e26 e27 e28 e29 e30 e31 e32 e33 e34 e35 e36 e37 e38 e39 e40 e41 e42 e43 e44 e45 e46 e47 e48), kc, kn) O) (K2 : (k < m) → ((bitN (R k) v) = 0) → JR M_Ro_findReach sc (94, [(0, .ref 18), (1, .int (nI v)), (2, .int (nI (k + 1)))], [], (HP e0 e1 e2 e3 e4 e5 e6 e7 e8 e9 e10 e11 e12 e13 e14 e15 e16 e17 (.inr (3, [.ref 19, .ref 21, .ref 23, .ref 25, .ref 27, .ref 29, .ref 31, .int (nI m), .int (nI t), .long sl, .long ws, .int cc])) (.inr (4, [.ref 20])) (.inl (1, 16, .inr (.inl (grd M)))) e21 e22 (.inr (4, [.ref 24])) (.inl (1, 4, .inr (.inl (reA m R re)))) e25 e26 e27 e28 e29 e30 e31 e32 e33 e34 e35 e36 e37 e38 e39 e40 e41 e42 e43 e44 e45 e46 e47 e48), kc, kn) O) (K3 : (k < m) → (¬ (bitN (R k) v) = 0) → JR M_Ro_findReach sc (94, [(0, .ref 18), (1, .int (nI v)), (2, .int (nI (k + 1)))], [], (HP e0 e1 e2 e3 e4 e5 e6 e7 e8 e9 e10 e11 e12 e13 e14 e15 e16 e17 (.inr (3, [.ref 19, .ref 21, .ref 23, .ref 25, .ref 27, .ref 29, .ref 31, .int (nI m), .int (nI t), .long sl, .long ws, .int cc])) (.inr (4, [.ref 20])) (.inl (1, 16, .inr (.inl (grd M)))) e21 e22 (.inr (4, [.ref 24])) (.inl (1, 4, .inr (.inl (vp_updL (reA m R re) k (lN (R k ||| R v)))))) e25 e26 e27 e28 e29 e30 e31 e32 e33 e34 e35 e36 e37 e38 e39 e40 e41 e42 e43 e44 e45 e46 e47 e48), kc, kn) O) : JR M_Ro_findReach sc (94, [(0, .ref 18), (1, .int (nI v)), (2, .int (nI k))], [], (HP e0 e1 e2 e3 e4 e5 e6 e7 e8 e9 e10 e11 e12 e13 e14 e15 e16 e17 (.inr (3, [.ref 19, .ref 21, .ref 23, .ref 25, .ref 27, .ref 29, .ref 31, .int (nI m), .int (nI t), .long sl, .long ws, .int cc])) (.inr (4, [.ref 20])) (.inl (1, 16, .inr (.inl (grd M)))) e21 e22 (.inr (4, [.ref 24])) (.inl (1, 4, .inr (.inl (reA m R re)))) e25 e26 e27 e28 e29 e30 e31 e32 e33 e34 e35 e36 e37 e38 e39 e40 e41 e42 e43 e44 e45 e46 e47 e48), kc, kn) O := by
  refine J.gp ok_Ro_findReach 3 (99, [(0, .ref 18), (1, .int (nI v)), (2, .int (nI k))], [.int (nI m), .int (nI k)], _, _, _) rfl ?_
  refine J.icB ok_Ro_findReach (fun x y => y ≤ x) 149 102 rfl (fun (h0 : nI m ≤ nI k) => ?_) (fun (h0 : ¬ (nI m ≤ nI k)) => ?_)
  · have c99 : m ≤ k := (nI_leI (a := m) (b := k) (by omega) (by omega)).mp h0
    refine J.gp ok_Ro_findReach 1 (152, [(0, .ref 18), (1, .int (nI v + 1)), (2, .int (nI k))], [], _, _, _) rfl ?_
    rw [show ((nI v + 1) : Int32) = nI (v + 1) from nI_add v 1]
    refine J.gp ok_Ro_findReach 1 (84, [(0, .ref 18), (1, .int (nI (v + 1))), (2, .int (nI k))], [], _, _, _) rfl ?_
    refine J.lv [0, 1] [(0, .ref 18), (1, .int (nI (v + 1)))] rfl ?_
    exact K1 c99
  · have c99 : k < m := Nat.not_le.mp (fun h9 => h0 ((nI_leI (a := m) (b := k) (by omega) (by omega)).mpr h9))
    refine J.gp ok_Ro_findReach 3 (107, [(0, .ref 18), (1, .int (nI v)), (2, .int (nI k))], [.int (nI k), .ref 23], _, _, _) rfl ?_
    refine J.callVE s_Ro_findReach_107 110 23 [.int (nI k)] 4 (c_Rw_get_23 (j := k) (by omega)) rfl rfl rfl rfl rfl (Nat.le_of_ble_eq_true rfl) rfl ?_
    refine J.gp ok_Ro_findReach 0 (110, [(0, .ref 18), (1, .int (nI v)), (2, .int (nI k))], [.long ((reA m R re) k)], (HP e0 e1 e2 e3 e4 e5 e6 e7 e8 e9 e10 e11 e12 e13 e14 e15 e16 e17 (.inr (3, [.ref 19, .ref 21, .ref 23, .ref 25, .ref 27, .ref 29, .ref 31, .int (nI m), .int (nI t), .long sl, .long ws, .int cc])) (.inr (4, [.ref 20])) (.inl (1, 16, .inr (.inl (grd M)))) e21 e22 (.inr (4, [.ref 24])) (.inl (1, 4, .inr (.inl (reA m R re)))) e25 e26 e27 e28 e29 e30 e31 e32 e33 e34 e35 e36 e37 e38 e39 e40 e41 e42 e43 e44 e45 e46 e47 e48), kc, kn) rfl ?_
    rw [show (((reA m R re) k)) = lN (R k) from reA_get (by omega)]
    refine J.gp ok_Ro_findReach 1 (111, [(0, .ref 18), (1, .int (nI v)), (2, .int (nI k))], [.int ((lN (R k)).toInt32)], _, _, _) rfl ?_
    rw [show (((lN (R k)).toInt32) : Int32) = nI (R k) from lN_i (R k)]
    refine J.gp ok_Ro_findReach 1 (112, [(0, .ref 18), (1, .int (nI v)), (2, .int (nI k))], [.int (nI v), .int (nI (R k))], _, _, _) rfl ?_
    refine J.callSNE s_Ro_findReach_112 115 [.int (nI (R k)), .int (nI v)] (c_F_hasBit (by omega) (by omega)) rfl rfl (Nat.le_of_ble_eq_true rfl) rfl ?_
    refine J.gp ok_Ro_findReach 0 (115, [(0, .ref 18), (1, .int (nI v)), (2, .int (nI k))], [.int (nI (bitN (R k) v))], (HP e0 e1 e2 e3 e4 e5 e6 e7 e8 e9 e10 e11 e12 e13 e14 e15 e16 e17 (.inr (3, [.ref 19, .ref 21, .ref 23, .ref 25, .ref 27, .ref 29, .ref 31, .int (nI m), .int (nI t), .long sl, .long ws, .int cc])) (.inr (4, [.ref 20])) (.inl (1, 16, .inr (.inl (grd M)))) e21 e22 (.inr (4, [.ref 24])) (.inl (1, 4, .inr (.inl (reA m R re)))) e25 e26 e27 e28 e29 e30 e31 e32 e33 e34 e35 e36 e37 e38 e39 e40 e41 e42 e43 e44 e45 e46 e47 e48), kc, kn) rfl ?_
    refine J.ifB ok_Ro_findReach (fun x => x = 0) 143 118 rfl (fun (h0 : nI (bitN (R k) v) = 0) => ?_) (fun (h0 : ¬ (nI (bitN (R k) v) = 0)) => ?_)
    · have c115 : (bitN (R k) v) = 0 := (nI_eq (a := bitN (R k) v) (b := 0) (by omega) (by omega)).mp h0
      refine J.gp ok_Ro_findReach 1 (146, [(0, .ref 18), (1, .int (nI v)), (2, .int (nI k + 1))], [], _, _, _) rfl ?_
      rw [show ((nI k + 1) : Int32) = nI (k + 1) from nI_add k 1]
      refine J.gp ok_Ro_findReach 1 (94, [(0, .ref 18), (1, .int (nI v)), (2, .int (nI (k + 1)))], [], _, _, _) rfl ?_
      exact K2 c99 c115
    · have c115 : ¬ (bitN (R k) v) = 0 := fun h9 => h0 ((nI_eq (a := bitN (R k) v) (b := 0) (by omega) (by omega)).mpr h9)
      refine J.gp ok_Ro_findReach 6 (128, [(0, .ref 18), (1, .int (nI v)), (2, .int (nI k))], [.int (nI k), .ref 23, .int (nI k), .ref 23], _, _, _) rfl ?_
      refine J.callVE s_Ro_findReach_128 131 23 [.int (nI k)] 4 (c_Rw_get_23 (j := k) (by omega)) rfl rfl rfl rfl rfl (Nat.le_of_ble_eq_true rfl) rfl ?_
      refine J.gp ok_Ro_findReach 0 (131, [(0, .ref 18), (1, .int (nI v)), (2, .int (nI k))], [.long ((reA m R re) k), .int (nI k), .ref 23], (HP e0 e1 e2 e3 e4 e5 e6 e7 e8 e9 e10 e11 e12 e13 e14 e15 e16 e17 (.inr (3, [.ref 19, .ref 21, .ref 23, .ref 25, .ref 27, .ref 29, .ref 31, .int (nI m), .int (nI t), .long sl, .long ws, .int cc])) (.inr (4, [.ref 20])) (.inl (1, 16, .inr (.inl (grd M)))) e21 e22 (.inr (4, [.ref 24])) (.inl (1, 4, .inr (.inl (reA m R re)))) e25 e26 e27 e28 e29 e30 e31 e32 e33 e34 e35 e36 e37 e38 e39 e40 e41 e42 e43 e44 e45 e46 e47 e48), kc, kn) rfl ?_
      rw [show (((reA m R re) k)) = lN (R k) from reA_get (by omega)]
      refine J.gp ok_Ro_findReach 3 (136, [(0, .ref 18), (1, .int (nI v)), (2, .int (nI k))], [.int (nI v), .ref 23, .long (lN (R k)), .int (nI k), .ref 23], _, _, _) rfl ?_
      refine J.callVE s_Ro_findReach_136 139 23 [.int (nI v)] 4 (c_Rw_get_23 (j := v) (by omega)) rfl rfl rfl rfl rfl (Nat.le_of_ble_eq_true rfl) rfl ?_
      refine J.gp ok_Ro_findReach 0 (139, [(0, .ref 18), (1, .int (nI v)), (2, .int (nI k))], [.long ((reA m R re) v), .long (lN (R k)), .int (nI k), .ref 23], (HP e0 e1 e2 e3 e4 e5 e6 e7 e8 e9 e10 e11 e12 e13 e14 e15 e16 e17 (.inr (3, [.ref 19, .ref 21, .ref 23, .ref 25, .ref 27, .ref 29, .ref 31, .int (nI m), .int (nI t), .long sl, .long ws, .int cc])) (.inr (4, [.ref 20])) (.inl (1, 16, .inr (.inl (grd M)))) e21 e22 (.inr (4, [.ref 24])) (.inl (1, 4, .inr (.inl (reA m R re)))) e25 e26 e27 e28 e29 e30 e31 e32 e33 e34 e35 e36 e37 e38 e39 e40 e41 e42 e43 e44 e45 e46 e47 e48), kc, kn) rfl ?_
      rw [show (((reA m R re) v)) = lN (R v) from reA_get (by omega)]
      refine J.gp ok_Ro_findReach 1 (140, [(0, .ref 18), (1, .int (nI v)), (2, .int (nI k))], [.long (lN (R k) ||| lN (R v)), .int (nI k), .ref 23], _, _, _) rfl ?_
      rw [show ((lN (R k) ||| lN (R v))) = lN (R k ||| R v) from lor16 _ (by omega) _ h2]
      refine J.callVE s_Ro_findReach_140 143 23 [.int (nI k), .long (lN (R k ||| R v))] 4 (c_Rw_set_23 (j := k) (by omega)) rfl rfl rfl rfl rfl (Nat.le_of_ble_eq_true rfl) rfl ?_
      refine J.gp ok_Ro_findReach 0 (143, [(0, .ref 18), (1, .int (nI v)), (2, .int (nI k))], [], (HP e0 e1 e2 e3 e4 e5 e6 e7 e8 e9 e10 e11 e12 e13 e14 e15 e16 e17 (.inr (3, [.ref 19, .ref 21, .ref 23, .ref 25, .ref 27, .ref 29, .ref 31, .int (nI m), .int (nI t), .long sl, .long ws, .int cc])) (.inr (4, [.ref 20])) (.inl (1, 16, .inr (.inl (grd M)))) e21 e22 (.inr (4, [.ref 24])) (.inl (1, 4, .inr (.inl (vp_updL (reA m R re) k (lN (R k ||| R v)))))) e25 e26 e27 e28 e29 e30 e31 e32 e33 e34 e35 e36 e37 e38 e39 e40 e41 e42 e43 e44 e45 e46 e47 e48), kc, kn) rfl ?_
      refine J.gp ok_Ro_findReach 1 (146, [(0, .ref 18), (1, .int (nI v)), (2, .int (nI k + 1))], [], _, _, _) rfl ?_
      rw [show ((nI k + 1) : Int32) = nI (k + 1) from nI_add k 1]
      refine J.gp ok_Ro_findReach 1 (94, [(0, .ref 18), (1, .int (nI v)), (2, .int (nI (k + 1)))], [], _, _, _) rfl ?_
      exact K3 c99 c115
