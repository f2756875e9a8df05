/-! SPREAD: chances over gains and positions. Row r of the class is the gain r - 16. -/
def gI (r : Nat) : Int32 := nI r - 16
theorem gI_toInt {r : Nat} (h : r < 2 ^ 30) : (gI r).toInt = (r : Int) - 16 := pk_sub_toInt (b := 16) h (by decide)
theorem neg_toInt {r : Nat} (h : r < 2 ^ 30) : (-nI r).toInt = -(r : Int) := by
  have := pk_sub_toInt (a := 0) (b := r) (by decide) h
  rw [show nI 0 - nI r = -nI r from Int32.zero_sub _] at this
  rw [this]
  omega
theorem gI_up (r : Nat) : gI r + 1 = gI (r + 1) := by
  unfold gI
  rw [show nI (r + 1) = nI r + 1 from (nI_1 r).symm]
  grind
theorem gI_dn {r : Nat} (h : 1 ≤ r) : gI r - 1 = gI (r - 1) := by
  unfold gI
  rw [show nI (r - 1) = nI r - 1 from (pk_sub (b := 1) h).symm]
  grind
theorem gI_neg {t : Nat} (h : t ≤ 16) : -nI t = gI (16 - t) := by
  unfold gI
  rw [show nI (16 - t) = 16 - nI t from (pk_sub (a := 16) h).symm]
  grind
theorem lt_gI {t r : Nat} (ht : t < 2 ^ 30) (hr : r < 2 ^ 30) : nI t < gI r ↔ t + 16 < r := by
  rw [Int32.lt_iff_toInt_lt, gI_toInt hr, nI_toInt (by omega)]
  omega
theorem gI_lt {t r : Nat} (ht : t < 2 ^ 30) (hr : r < 2 ^ 30) : gI r < nI t ↔ r < t + 16 := by
  rw [Int32.lt_iff_toInt_lt, gI_toInt hr, nI_toInt (by omega)]
  omega
theorem neg_lt_gI {t r : Nat} (ht : t < 2 ^ 30) (hr : r < 2 ^ 30) : -nI t < gI r ↔ 16 < r + t := by
  rw [Int32.lt_iff_toInt_lt, gI_toInt hr, neg_toInt ht]
  omega
/-- the class's rows out of rows without its margin -/
def sh (nx : Nat → Int64) : Nat → Int64 := fun c => if 4 ≤ c ∧ c < 128 then nx (c - 4) else 0
theorem sh_0 : sh (fun _ => 0) = fun _ => 0 := by
  funext c
  unfold sh
  split <;> rfl
theorem sh_get {nx : Nat → Int64} {r p : Nat} (h1 : 1 ≤ r) (h2 : r ≤ 31) (hp : p < 4) : sh nx (r * 4 + p) = nx (4 * (r - 1) + p) := by
  unfold sh
  rw [if_pos (by omega)]
  congr 1
  omega
theorem sh_up {nx : Nat → Int64} {r p : Nat} {v : Int64} (h1 : 1 ≤ r) (h2 : r ≤ 31) (hp : p < 4) : vp_updL (sh nx) (r * 4 + p) v = sh (vp_updL nx (4 * (r - 1) + p) v) := by
  funext c
  unfold vp_updL sh
  by_cases h : c = r * 4 + p
  · rw [if_pos h, if_pos (by omega)]
    exact (if_pos (by omega)).symm
  · rw [if_neg h]
    by_cases h3 : 4 ≤ c ∧ c < 128
    · rw [if_pos h3, if_pos h3]
      exact (if_neg (by omega)).symm
    · rw [if_neg h3, if_neg h3]
abbrev Sp3 : Type := (Nat → Int64) × Int64 × Int64
/-- a weight arrives at row r, position p -/
def arF (mo go r p : Nat) (w : Int64) (s : Sp3) : Sp3 := if r + mo ≤ 16 then (s.1, s.2.1 + w, s.2.2) else if go + 16 ≤ r then (s.1, s.2.1, s.2.2 + w) else (vp_updL s.1 (4 * (r - 1) + p) (s.1 (4 * (r - 1) + p) + w), s.2)
/-- what goes on from row r, position p -/
def srF (m mo go : Nat) (tb tf : Nat → Nat) (nw : Nat → Int64) (r p : Nat) (s : Sp3) : Sp3 :=
  arF mo go (r + 1) (pA m p) (sh nw (r * 4 + p) * lN (tf p)) (arF mo go r p (sh nw (r * 4 + p) * lN (10 - tb p - tf p)) (arF mo go (r - 1) (pB m p) (sh nw (r * 4 + p) * lN (tb p)) s))
/-- the first k places have gone on -/
def acF (m mo go : Nat) (tb tf : Nat → Nat) (nw : Nat → Int64) (s0 : Sp3) : Nat → Sp3
  | 0 => s0
  | k + 1 => srF m mo go tb tf nw (k / 4 + 1) (k % 4) (acF m mo go tb tf nw s0 k)

set_option maxRecDepth 100000 in
set_option maxHeartbeats 400000 in
theorem g_Sp_cell {sc : aScr} {hh : aH} {r p : Nat} {kc kn : Nat} {O : Option Value → aH → Prop}  (K1 : O (some (.int (nI ((r * 4) + p)))) hh) : JR M_Sp_cell sc (0, [(0, .int (gI r)), (1, .int (nI p))], [], hh, kc, kn) O := by
  refine J.gp ok_Sp_cell 3 (4, [(0, .int (gI r)), (1, .int (nI p))], [.int (gI r + 16)], _, _, _) rfl ?_
  rw [show ((gI r + 16)) = nI r from by unfold gI; grind]
  refine J.gp ok_Sp_cell 2 (6, [(0, .int (gI r)), (1, .int (nI p))], [.int (nI r * 4)], _, _, _) rfl ?_
  rw [show ((nI r * 4) : Int32) = nI (r * 4) from pk_mul r 4]
  refine J.gp ok_Sp_cell 2 (8, [(0, .int (gI r)), (1, .int (nI p))], [.int (nI (r * 4) + nI p)], _, _, _) rfl ?_
  rw [show ((nI (r * 4) + nI p) : Int32) = nI ((r * 4) + p) from nI_add (r * 4) p]
  refine JR.iret .int (by decide +kernel) rfl (rfl) ?_
  exact K1

theorem c_Sp_cell {hh : aH} {r p : Nat}  : JE M_Sp_cell [.int (gI r), .int (nI p)] hh (some (.int (nI (r * 4 + p)))) hh := JM.of (by decide +kernel) rfl (Nat.le_of_ble_eq_true rfl) (g_Sp_cell ⟨rfl, rfl⟩)

set_option maxRecDepth 100000 in
set_option maxHeartbeats 400000 in
theorem g_Sp_put {sc : aScr} {e0 e1 e2 e3 e4 e5 e6 e7 e8 e9 e10 e11 e12 e15 e18 e19 e20 e21 e22 e23 e24 e25 e26 e27 e28 e29 e30 e31 e32 e33 e34 e35 e36 e37 e38 e39 e40 e41 e42 e43 e44 e45 e46 e47 e48 : va_E} {m mo go t r p : Nat} {w : Int64} {s : Sp3} {kc kn : Nat} {O : Option Value → aH → Prop} (hmo : mo ≤ 16) (hgo : go ≤ 16) (hr : r ≤ 32) (hp : p < 4) (K1 : ((-nI mo) < gI r) → (gI r < nI go) → O none (HP e0 e1 e2 e3 e4 e5 e6 e7 e8 e9 e10 e11 e12 (.inr (6, [.ref 14, .ref 16, .int (nI mo), .int (nI go), .int (nI t), .int (nI m), .long s.2.1, .long s.2.2])) (.inr (4, [.ref 15])) e15 (.inr (4, [.ref 17])) (.inl (1, 132, .inr (.inl (vp_updL (sh s.1) (r * 4 + p) ((sh s.1) (r * 4 + p) + w))))) e18 e19 e20 e21 e22 e23 e24 e25 e26 e27 e28 e29 e30 e31 e32 e33 e34 e35 e36 e37 e38 e39 e40 e41 e42 e43 e44 e45 e46 e47 e48)) (K2 : ((-nI mo) < gI r) → (¬ (gI r < nI go)) → O none (HP e0 e1 e2 e3 e4 e5 e6 e7 e8 e9 e10 e11 e12 (.inr (6, [.ref 14, .ref 16, .int (nI mo), .int (nI go), .int (nI t), .int (nI m), .long s.2.1, .long (s.2.2 + w)])) (.inr (4, [.ref 15])) e15 (.inr (4, [.ref 17])) (.inl (1, 132, .inr (.inl (sh s.1)))) e18 e19 e20 e21 e22 e23 e24 e25 e26 e27 e28 e29 e30 e31 e32 e33 e34 e35 e36 e37 e38 e39 e40 e41 e42 e43 e44 e45 e46 e47 e48)) (K3 : (¬ ((-nI mo) < gI r)) → O none (HP e0 e1 e2 e3 e4 e5 e6 e7 e8 e9 e10 e11 e12 (.inr (6, [.ref 14, .ref 16, .int (nI mo), .int (nI go), .int (nI t), .int (nI m), .long (s.2.1 + w), .long s.2.2])) (.inr (4, [.ref 15])) e15 (.inr (4, [.ref 17])) (.inl (1, 132, .inr (.inl (sh s.1)))) e18 e19 e20 e21 e22 e23 e24 e25 e26 e27 e28 e29 e30 e31 e32 e33 e34 e35 e36 e37 e38 e39 e40 e41 e42 e43 e44 e45 e46 e47 e48)) : JR M_Sp_put sc (0, [(0, .ref 13), (1, .int (gI r)), (2, .int (nI p)), (3, .long w)], [], (HP e0 e1 e2 e3 e4 e5 e6 e7 e8 e9 e10 e11 e12 (.inr (6, [.ref 14, .ref 16, .int (nI mo), .int (nI go), .int (nI t), .int (nI m), .long s.2.1, .long s.2.2])) (.inr (4, [.ref 15])) e15 (.inr (4, [.ref 17])) (.inl (1, 132, .inr (.inl (sh s.1)))) e18 e19 e20 e21 e22 e23 e24 e25 e26 e27 e28 e29 e30 e31 e32 e33 e34 e35 e36 e37 e38 e39 e40 e41 e42 e43 e44 e45 e46 e47 e48), kc, kn) O := by
  refine J.gp ok_Sp_put 4 (6, [(0, .ref 13), (1, .int (gI r)), (2, .int (nI p)), (3, .long w)], [.int (-nI mo), .int (gI r)], _, _, _) rfl ?_
  refine J.icB ok_Sp_put (fun x y => y < x) 22 9 rfl (fun (c6 : (-nI mo) < gI r) => ?_) (fun (c6 : ¬ ((-nI mo) < gI r)) => ?_)
  · refine J.gp ok_Sp_put 3 (27, [(0, .ref 13), (1, .int (gI r)), (2, .int (nI p)), (3, .long w)], [.int (nI go), .int (gI r)], _, _, _) rfl ?_
    refine J.icB ok_Sp_put (fun x y => x < y) 43 30 rfl (fun (c27 : gI r < nI go) => ?_) (fun (c27 : ¬ (gI r < nI go)) => ?_)
    · refine J.gp ok_Sp_put 4 (49, [(0, .ref 13), (1, .int (gI r)), (2, .int (nI p)), (3, .long w)], [.int (nI p), .int (gI r), .ref 16], _, _, _) rfl ?_
      refine J.callSE s_Sp_put_49 52 [.int (gI r), .int (nI p)] (c_Sp_cell (r := r)) rfl rfl (Nat.le_of_ble_eq_true rfl) rfl ?_
      refine J.gp ok_Sp_put 0 (52, [(0, .ref 13), (1, .int (gI r)), (2, .int (nI p)), (3, .long w)], [.int (nI (r * 4 + p)), .ref 16], (HP e0 e1 e2 e3 e4 e5 e6 e7 e8 e9 e10 e11 e12 (.inr (6, [.ref 14, .ref 16, .int (nI mo), .int (nI go), .int (nI t), .int (nI m), .long s.2.1, .long s.2.2])) (.inr (4, [.ref 15])) e15 (.inr (4, [.ref 17])) (.inl (1, 132, .inr (.inl (sh s.1)))) e18 e19 e20 e21 e22 e23 e24 e25 e26 e27 e28 e29 e30 e31 e32 e33 e34 e35 e36 e37 e38 e39 e40 e41 e42 e43 e44 e45 e46 e47 e48), kc, kn) rfl ?_
      refine J.gp ok_Sp_put 1 (53, [(0, .ref 13), (1, .int (gI r)), (2, .int (nI p)), (3, .long w)], [.long w, .int (nI (r * 4 + p)), .ref 16], _, _, _) rfl ?_
      refine J.callVE s_Sp_put_53 56 16 [.int (nI (r * 4 + p)), .long w] 4 (c_Rw_add_16 (j := r * 4 + p) (by have := (gI_lt (t := go) (r := r) (by omega) (by omega)).mp c27; omega)) rfl rfl rfl rfl rfl (Nat.le_of_ble_eq_true rfl) rfl ?_
      refine J.gp ok_Sp_put 0 (56, [(0, .ref 13), (1, .int (gI r)), (2, .int (nI p)), (3, .long w)], [], (HP e0 e1 e2 e3 e4 e5 e6 e7 e8 e9 e10 e11 e12 (.inr (6, [.ref 14, .ref 16, .int (nI mo), .int (nI go), .int (nI t), .int (nI m), .long s.2.1, .long s.2.2])) (.inr (4, [.ref 15])) e15 (.inr (4, [.ref 17])) (.inl (1, 132, .inr (.inl (vp_updL (sh s.1) (r * 4 + p) ((sh s.1) (r * 4 + p) + w))))) e18 e19 e20 e21 e22 e23 e24 e25 e26 e27 e28 e29 e30 e31 e32 e33 e34 e35 e36 e37 e38 e39 e40 e41 e42 e43 e44 e45 e46 e47 e48), kc, kn) rfl ?_
      refine JR.vret (by decide +kernel) rfl ?_
      exact K1 c6 c27
    · refine J.gp ok_Sp_put 6 (40, [(0, .ref 13), (1, .int (gI r)), (2, .int (nI p)), (3, .long w)], [], (HP e0 e1 e2 e3 e4 e5 e6 e7 e8 e9 e10 e11 e12 (.inr (6, [.ref 14, .ref 16, .int (nI mo), .int (nI go), .int (nI t), .int (nI m), .long s.2.1, .long (s.2.2 + w)])) (.inr (4, [.ref 15])) e15 (.inr (4, [.ref 17])) (.inl (1, 132, .inr (.inl (sh s.1)))) e18 e19 e20 e21 e22 e23 e24 e25 e26 e27 e28 e29 e30 e31 e32 e33 e34 e35 e36 e37 e38 e39 e40 e41 e42 e43 e44 e45 e46 e47 e48), _, _) rfl ?_
      refine J.gp ok_Sp_put 1 (56, [(0, .ref 13), (1, .int (gI r)), (2, .int (nI p)), (3, .long w)], [], _, _, _) rfl ?_
      refine JR.vret (by decide +kernel) rfl ?_
      exact K2 c6 c27
  · refine J.gp ok_Sp_put 6 (19, [(0, .ref 13), (1, .int (gI r)), (2, .int (nI p)), (3, .long w)], [], (HP e0 e1 e2 e3 e4 e5 e6 e7 e8 e9 e10 e11 e12 (.inr (6, [.ref 14, .ref 16, .int (nI mo), .int (nI go), .int (nI t), .int (nI m), .long (s.2.1 + w), .long s.2.2])) (.inr (4, [.ref 15])) e15 (.inr (4, [.ref 17])) (.inl (1, 132, .inr (.inl (sh s.1)))) e18 e19 e20 e21 e22 e23 e24 e25 e26 e27 e28 e29 e30 e31 e32 e33 e34 e35 e36 e37 e38 e39 e40 e41 e42 e43 e44 e45 e46 e47 e48), _, _) rfl ?_
    refine J.gp ok_Sp_put 1 (56, [(0, .ref 13), (1, .int (gI r)), (2, .int (nI p)), (3, .long w)], [], _, _, _) rfl ?_
    refine JR.vret (by decide +kernel) rfl ?_
    exact K3 c6

theorem c_Sp_put {e0 e1 e2 e3 e4 e5 e6 e7 e8 e9 e10 e11 e12 e15 e18 e19 e20 e21 e22 e23 e24 e25 e26 e27 e28 e29 e30 e31 e32 e33 e34 e35 e36 e37 e38 e39 e40 e41 e42 e43 e44 e45 e46 e47 e48 : va_E} {m mo go t r p : Nat} {w : Int64} {s : Sp3} (hmo : mo ≤ 16) (hgo : go ≤ 16) (hr : r ≤ 32) (hp : p < 4) : JE M_Sp_put [.ref 13, .int (gI r), .int (nI p), .long w] (HP e0 e1 e2 e3 e4 e5 e6 e7 e8 e9 e10 e11 e12 (.inr (6, [.ref 14, .ref 16, .int (nI mo), .int (nI go), .int (nI t), .int (nI m), .long s.2.1, .long s.2.2])) (.inr (4, [.ref 15])) e15 (.inr (4, [.ref 17])) (.inl (1, 132, .inr (.inl (sh s.1)))) e18 e19 e20 e21 e22 e23 e24 e25 e26 e27 e28 e29 e30 e31 e32 e33 e34 e35 e36 e37 e38 e39 e40 e41 e42 e43 e44 e45 e46 e47 e48) none (HP e0 e1 e2 e3 e4 e5 e6 e7 e8 e9 e10 e11 e12 (.inr (6, [.ref 14, .ref 16, .int (nI mo), .int (nI go), .int (nI t), .int (nI m), .long ((arF mo go r p w s).2.1), .long ((arF mo go r p w s).2.2)])) (.inr (4, [.ref 15])) e15 (.inr (4, [.ref 17])) (.inl (1, 132, .inr (.inl (sh (arF mo go r p w s).1)))) e18 e19 e20 e21 e22 e23 e24 e25 e26 e27 e28 e29 e30 e31 e32 e33 e34 e35 e36 e37 e38 e39 e40 e41 e42 e43 e44 e45 e46 e47 e48) := by
  refine JM.of (by decide +kernel) rfl (Nat.le_of_ble_eq_true rfl) (g_Sp_put hmo hgo hr hp (fun c d => ⟨rfl, ?_⟩) (fun c d => ⟨rfl, ?_⟩) (fun c => ⟨rfl, ?_⟩)) <;> unfold arF
  · have c1 := (neg_lt_gI (by omega) (by omega)).mp c
    have d1 := (gI_lt (by omega) (by omega)).mp d
    rw [if_neg (by omega), if_neg (by omega), sh_up (by omega) (by omega) hp, sh_get (by omega) (by omega) hp]
  · have c1 := (neg_lt_gI (by omega) (by omega)).mp c
    have d1 : ¬ r < go + 16 := fun h => d ((gI_lt (by omega) (by omega)).mpr h)
    rw [if_neg (by omega), if_pos (by omega)]
  · have c1 : ¬ 16 < r + mo := fun h => c ((neg_lt_gI (by omega) (by omega)).mpr h)
    rw [if_pos (by omega)]
