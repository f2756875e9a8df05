/-! SPREAD: chances over gains and positions. Row r of the class is the gain r - 16. -/
def gI (r : Nat) : Int32 := nI r - 16
theorem gI_toInt {r : Nat} (h : r < 2 ^ 30) : (gI r).toInt = (r : Int) - 16 := pk_sub_toInt (b := 16) h (by decide)
theorem neg_toInt {r : Nat} (h : r < 2 ^ 30) : (-nI r).toInt = -(r : Int) := by
  have := pk_sub_toInt (a := 0) (b := r) (by decide) h
  rw [show nI 0 - nI r = -nI r from Int32.zero_sub _] at this
  rw [this]
  omega
theorem gI_up (r : Nat) : gI r + 1 = gI (r + 1) := by
  unfold gI
  rw [show nI (r + 1) = nI r + 1 from (nI_1 r).symm]
  grind
theorem gI_dn {r : Nat} (h : 1 ≤ r) : gI r - 1 = gI (r - 1) := by
  unfold gI
  rw [show nI (r - 1) = nI r - 1 from (pk_sub (b := 1) h).symm]
  grind
theorem gI_neg {t : Nat} (h : t ≤ 16) : -nI t = gI (16 - t) := by
  unfold gI
  rw [show nI (16 - t) = 16 - nI t from (pk_sub (a := 16) h).symm]
  grind
theorem lt_gI {t r : Nat} (ht : t < 2 ^ 30) (hr : r < 2 ^ 30) : nI t < gI r ↔ t + 16 < r := by
  rw [Int32.lt_iff_toInt_lt, gI_toInt hr, nI_toInt (by omega)]
  omega
theorem gI_lt {t r : Nat} (ht : t < 2 ^ 30) (hr : r < 2 ^ 30) : gI r < nI t ↔ r < t + 16 := by
  rw [Int32.lt_iff_toInt_lt, gI_toInt hr, nI_toInt (by omega)]
  omega
theorem neg_lt_gI {t r : Nat} (ht : t < 2 ^ 30) (hr : r < 2 ^ 30) : -nI t < gI r ↔ 16 < r + t := by
  rw [Int32.lt_iff_toInt_lt, gI_toInt hr, neg_toInt ht]
  omega
/-- the class's rows out of rows without its margin -/
def sh (nx : Nat → Int64) : Nat → Int64 := fun c => if 4 ≤ c ∧ c < 128 then nx (c - 4) else 0
theorem sh_0 : sh (fun _ => 0) = fun _ => 0 := by
  funext c
  unfold sh
  split <;> rfl
theorem sh_get {nx : Nat → Int64} {r p : Nat} (h1 : 1 ≤ r) (h2 : r ≤ 31) (hp : p < 4) : sh nx (r * 4 + p) = nx (4 * (r - 1) + p) := by
  unfold sh
  rw [if_pos (by omega)]
  congr 1
  omega
theorem sh_up {nx : Nat → Int64} {r p : Nat} {v : Int64} (h1 : 1 ≤ r) (h2 : r ≤ 31) (hp : p < 4) : vp_updL (sh nx) (r * 4 + p) v = sh (vp_updL nx (4 * (r - 1) + p) v) := by
  funext c
  unfold vp_updL sh
  by_cases h : c = r * 4 + p
  · rw [if_pos h, if_pos (by omega)]
    exact (if_pos (by omega)).symm
  · rw [if_neg h]
    by_cases h3 : 4 ≤ c ∧ c < 128
    · rw [if_pos h3, if_pos h3]
      exact (if_neg (by omega)).symm
    · rw [if_neg h3, if_neg h3]
abbrev Sp3 : Type := (Nat → Int64) × Int64 × Int64
/-- a weight arrives at row r, position p -/
def arF (mo go r p : Nat) (w : Int64) (s : Sp3) : Sp3 := if r + mo ≤ 16 then (s.1, s.2.1 + w, s.2.2) else if go + 16 ≤ r then (s.1, s.2.1, s.2.2 + w) else (vp_updL s.1 (4 * (r - 1) + p) (s.1 (4 * (r - 1) + p) + w), s.2)
/-- what goes on from row r, position p -/
def srF (m mo go : Nat) (tb tf : Nat → Nat) (nw : Nat → Int64) (r p : Nat) (s : Sp3) : Sp3 :=
  arF mo go (r + 1) (pA m p) (sh nw (r * 4 + p) * lN (tf p)) (arF mo go r p (sh nw (r * 4 + p) * lN (10 - tb p - tf p)) (arF mo go (r - 1) (pB m p) (sh nw (r * 4 + p) * lN (tb p)) s))
/-- the first k places have gone on -/
def acF (m mo go : Nat) (tb tf : Nat → Nat) (nw : Nat → Int64) (s0 : Sp3) : Nat → Sp3
  | 0 => s0
  | k + 1 => srF m mo go tb tf nw (k / 4 + 1) (k % 4) (acF m mo go tb tf nw s0 k)

set_option maxRecDepth 100000 in
set_option maxHeartbeats 400000 in
theorem g_Sp_cell {sc : aScr} {hh : aH} {r p : Nat} {kc kn : Nat} {O : Option Value → aH → Prop}  (K1 : O (some (.int (nI ((r * 4) + p)))) hh) : JR M_Sp_cell sc (0, [(0, .int (gI r)), (1, .int (nI p))], [], hh, kc, kn) O := by
  refine J.gp ok_Sp_cell 3 (4, [(0, .int (gI r)), (1, .int (nI p))], [.int (gI r + 16)], _, _, _) rfl ?_
  rw [show ((gI r + 16)) = nI r from by unfold gI; grind]
  refine J.gp ok_Sp_cell 2 (6, [(0, .int (gI r)), (1, .int (nI p))], [.int (nI r * 4)], _, _, _) rfl ?_
  rw [show ((nI r * 4) : Int32) = nI (r * 4) from pk_mul r 4]
  refine J.gp ok_Sp_cell 2 (8, [(0, .int (gI r)), (1, .int (nI p))], [.int (nI (r * 4) + nI p)], _, _, _) rfl ?_
  rw [show ((nI (r * 4) + nI p) : Int32) = nI ((r * 4) + p) from nI_add (r * 4) p]
  refine JR.iret .int (by decide +kernel) rfl (rfl) ?_
  exact K1

theorem c_Sp_cell {hh : aH} {r p : Nat}  : JE M_Sp_cell [.int (gI r), .int (nI p)] hh (some (.int (nI (r * 4 + p)))) hh := JM.of (by decide +kernel) rfl (Nat.le_of_ble_eq_true rfl) (g_Sp_cell ⟨rfl, rfl⟩)

set_option maxRecDepth 100000 in
set_option maxHeartbeats 400000 in
theorem g_Sp_put {sc : aScr} {e0 e1 e2 e3 e4 e5 e6 e7 e8 e9 e10 e11 e12 e15 e18 e19 e20 e21 e22 e23 e24 e25 e26 e27 e28 e29 e30 e31 e32 e33 e34 e35 e36 : va_E} {m mo go t r p : Nat} {w : Int64} {s : Sp3} {kc kn : Nat} {O : Option Value → aH → Prop} (hmo : mo ≤ 16) (hgo : go ≤ 16) (hr : r ≤ 32) (hp : p < 4) (K1 : ((-nI mo) < gI r) → (gI r < nI go) → O none (HP e0 e1 e2 e3 e4 e5 e6 e7 e8 e9 e10 e11 e12 (.inr (6, [.ref 14, .ref 16, .int (nI mo), .int (nI go), .int (nI t), .int (nI m), .long s.2.1, .long s.2.2])) (.inr (4, [.ref 15])) e15 (.inr (4, [.ref 17])) (.inl (1, 132, .inr (.inl (vp_updL (sh s.1) (r * 4 + p) ((sh s.1) (r * 4 + p) + w))))) e18 e19 e20 e21 e22 e23 e24 e25 e26 e27 e28 e29 e30 e31 e32 e33 e34 e35 e36)) (K2 : ((-nI mo) < gI r) → (¬ (gI r < nI go)) → O none (HP e0 e1 e2 e3 e4 e5 e6 e7 e8 e9 e10 e11 e12 (.inr (6, [.ref 14, .ref 16, .int (nI mo), .int (nI go), .int (nI t), .int (nI m), .long s.2.1, .long (s.2.2 + w)])) (.inr (4, [.ref 15])) e15 (.inr (4, [.ref 17])) (.inl (1, 132, .inr (.inl (sh s.1)))) e18 e19 e20 e21 e22 e23 e24 e25 e26 e27 e28 e29 e30 e31 e32 e33 e34 e35 e36)) (K3 : (¬ ((-nI mo) < gI r)) → O none (HP e0 e1 e2 e3 e4 e5 e6 e7 e8 e9 e10 e11 e12 (.inr (6, [.ref 14, .ref 16, .int (nI mo), .int (nI go), .int (nI t), .int (nI m), .long (s.2.1 + w), .long s.2.2])) (.inr (4, [.ref 15])) e15 (.inr (4, [.ref 17])) (.inl (1, 132, .inr (.inl (sh s.1)))) e18 e19 e20 e21 e22 e23 e24 e25 e26 e27 e28 e29 e30 e31 e32 e33 e34 e35 e36)) : JR M_Sp_put sc (0, [(0, .ref 13), (1, .int (gI r)), (2, .int (nI p)), (3, .long w)], [], (HP e0 e1 e2 e3 e4 e5 e6 e7 e8 e9 e10 e11 e12 (.inr (6, [.ref 14, .ref 16, .int (nI mo), .int (nI go), .int (nI t), .int (nI m), .long s.2.1, .long s.2.2])) (.inr (4, [.ref 15])) e15 (.inr (4, [.ref 17])) (.inl (1, 132, .inr (.inl (sh s.1)))) e18 e19 e20 e21 e22 e23 e24 e25 e26 e27 e28 e29 e30 e31 e32 e33 e34 e35 e36), kc, kn) O := by
  refine J.gp ok_Sp_put 4 (6, [(0, .ref 13), (1, .int (gI r)), (2, .int (nI p)), (3, .long w)], [.int (-nI mo), .int (gI r)], _, _, _) rfl ?_
  refine J.icB ok_Sp_put (fun x y => y < x) 22 9 rfl (fun (c6 : (-nI mo) < gI r) => ?_) (fun (c6 : ¬ ((-nI mo) < gI r)) => ?_)
  · refine J.gp ok_Sp_put 3 (27, [(0, .ref 13), (1, .int (gI r)), (2, .int (nI p)), (3, .long w)], [.int (nI go), .int (gI r)], _, _, _) rfl ?_
    refine J.icB ok_Sp_put (fun x y => x < y) 43 30 rfl (fun (c27 : gI r < nI go) => ?_) (fun (c27 : ¬ (gI r < nI go)) => ?_)
    · refine J.gp ok_Sp_put 4 (49, [(0, .ref 13), (1, .int (gI r)), (2, .int (nI p)), (3, .long w)], [.int (nI p), .int (gI r), .ref 16], _, _, _) rfl ?_
      refine J.callSE s_Sp_put_49 52 [.int (gI r), .int (nI p)] (c_Sp_cell (r := r)) rfl rfl (Nat.le_of_ble_eq_true rfl) rfl ?_
      refine J.gp ok_Sp_put 0 (52, [(0, .ref 13), (1, .int (gI r)), (2, .int (nI p)), (3, .long w)], [.int (nI (r * 4 + p)), .ref 16], (HP e0 e1 e2 e3 e4 e5 e6 e7 e8 e9 e10 e11 e12 (.inr (6, [.ref 14, .ref 16, .int (nI mo), .int (nI go), .int (nI t), .int (nI m), .long s.2.1, .long s.2.2])) (.inr (4, [.ref 15])) e15 (.inr (4, [.ref 17])) (.inl (1, 132, .inr (.inl (sh s.1)))) e18 e19 e20 e21 e22 e23 e24 e25 e26 e27 e28 e29 e30 e31 e32 e33 e34 e35 e36), kc, kn) rfl ?_
      refine J.gp ok_Sp_put 1 (53, [(0, .ref 13), (1, .int (gI r)), (2, .int (nI p)), (3, .long w)], [.long w, .int (nI (r * 4 + p)), .ref 16], _, _, _) rfl ?_
      refine J.callVE s_Sp_put_53 56 16 [.int (nI (r * 4 + p)), .long w] 4 (c_Rw_add_16 (j := r * 4 + p) (by have := (gI_lt (t := go) (r := r) (by omega) (by omega)).mp c27; omega)) rfl rfl rfl rfl rfl (Nat.le_of_ble_eq_true rfl) rfl ?_
      refine J.gp ok_Sp_put 0 (56, [(0, .ref 13), (1, .int (gI r)), (2, .int (nI p)), (3, .long w)], [], (HP e0 e1 e2 e3 e4 e5 e6 e7 e8 e9 e10 e11 e12 (.inr (6, [.ref 14, .ref 16, .int (nI mo), .int (nI go), .int (nI t), .int (nI m), .long s.2.1, .long s.2.2])) (.inr (4, [.ref 15])) e15 (.inr (4, [.ref 17])) (.inl (1, 132, .inr (.inl (vp_updL (sh s.1) (r * 4 + p) ((sh s.1) (r * 4 + p) + w))))) e18 e19 e20 e21 e22 e23 e24 e25 e26 e27 e28 e29 e30 e31 e32 e33 e34 e35 e36), kc, kn) rfl ?_
      refine JR.vret (by decide +kernel) rfl ?_
      exact K1 c6 c27
    · refine J.gp ok_Sp_put 6 (40, [(0, .ref 13), (1, .int (gI r)), (2, .int (nI p)), (3, .long w)], [], (HP e0 e1 e2 e3 e4 e5 e6 e7 e8 e9 e10 e11 e12 (.inr (6, [.ref 14, .ref 16, .int (nI mo), .int (nI go), .int (nI t), .int (nI m), .long s.2.1, .long (s.2.2 + w)])) (.inr (4, [.ref 15])) e15 (.inr (4, [.ref 17])) (.inl (1, 132, .inr (.inl (sh s.1)))) e18 e19 e20 e21 e22 e23 e24 e25 e26 e27 e28 e29 e30 e31 e32 e33 e34 e35 e36), _, _) rfl ?_
      refine J.gp ok_Sp_put 1 (56, [(0, .ref 13), (1, .int (gI r)), (2, .int (nI p)), (3, .long w)], [], _, _, _) rfl ?_
      refine JR.vret (by decide +kernel) rfl ?_
      exact K2 c6 c27
  · refine J.gp ok_Sp_put 6 (19, [(0, .ref 13), (1, .int (gI r)), (2, .int (nI p)), (3, .long w)], [], (HP e0 e1 e2 e3 e4 e5 e6 e7 e8 e9 e10 e11 e12 (.inr (6, [.ref 14, .ref 16, .int (nI mo), .int (nI go), .int (nI t), .int (nI m), .long (s.2.1 + w), .long s.2.2])) (.inr (4, [.ref 15])) e15 (.inr (4, [.ref 17])) (.inl (1, 132, .inr (.inl (sh s.1)))) e18 e19 e20 e21 e22 e23 e24 e25 e26 e27 e28 e29 e30 e31 e32 e33 e34 e35 e36), _, _) rfl ?_
    refine J.gp ok_Sp_put 1 (56, [(0, .ref 13), (1, .int (gI r)), (2, .int (nI p)), (3, .long w)], [], _, _, _) rfl ?_
    refine JR.vret (by decide +kernel) rfl ?_
    exact K3 c6

theorem c_Sp_put {e0 e1 e2 e3 e4 e5 e6 e7 e8 e9 e10 e11 e12 e15 e18 e19 e20 e21 e22 e23 e24 e25 e26 e27 e28 e29 e30 e31 e32 e33 e34 e35 e36 : va_E} {m mo go t r p : Nat} {w : Int64} {s : Sp3} (hmo : mo ≤ 16) (hgo : go ≤ 16) (hr : r ≤ 32) (hp : p < 4) : JE M_Sp_put [.ref 13, .int (gI r), .int (nI p), .long w] (HP e0 e1 e2 e3 e4 e5 e6 e7 e8 e9 e10 e11 e12 (.inr (6, [.ref 14, .ref 16, .int (nI mo), .int (nI go), .int (nI t), .int (nI m), .long s.2.1, .long s.2.2])) (.inr (4, [.ref 15])) e15 (.inr (4, [.ref 17])) (.inl (1, 132, .inr (.inl (sh s.1)))) e18 e19 e20 e21 e22 e23 e24 e25 e26 e27 e28 e29 e30 e31 e32 e33 e34 e35 e36) none (HP e0 e1 e2 e3 e4 e5 e6 e7 e8 e9 e10 e11 e12 (.inr (6, [.ref 14, .ref 16, .int (nI mo), .int (nI go), .int (nI t), .int (nI m), .long ((arF mo go r p w s).2.1), .long ((arF mo go r p w s).2.2)])) (.inr (4, [.ref 15])) e15 (.inr (4, [.ref 17])) (.inl (1, 132, .inr (.inl (sh (arF mo go r p w s).1)))) e18 e19 e20 e21 e22 e23 e24 e25 e26 e27 e28 e29 e30 e31 e32 e33 e34 e35 e36) := by
  refine JM.of (by decide +kernel) rfl (Nat.le_of_ble_eq_true rfl) (g_Sp_put hmo hgo hr hp (fun c d => ⟨rfl, ?_⟩) (fun c d => ⟨rfl, ?_⟩) (fun c => ⟨rfl, ?_⟩)) <;> unfold arF
  · have c1 := (neg_lt_gI (by omega) (by omega)).mp c
    have d1 := (gI_lt (by omega) (by omega)).mp d
    rw [if_neg (by omega), if_neg (by omega), sh_up (by omega) (by omega) hp, sh_get (by omega) (by omega) hp]
  · have c1 := (neg_lt_gI (by omega) (by omega)).mp c
    have d1 : ¬ r < go + 16 := fun h => d ((gI_lt (by omega) (by omega)).mpr h)
    rw [if_neg (by omega), if_pos (by omega)]
  · have c1 : ¬ 16 < r + mo := fun h => c ((neg_lt_gI (by omega) (by omega)).mpr h)
    rw [if_pos (by omega)]

theorem up_same (f : Nat → Int64) (i : Nat) : vp_updL f i (f i + 0) = f := by
  funext j
  unfold vp_updL
  by_cases h : j = i
  · rw [if_pos h, h, Int64.add_zero]
  · rw [if_neg h]
theorem arF_0 (mo go r p : Nat) (s : Sp3) : arF mo go r p 0 s = s := by
  unfold arF
  split
  · rw [Int64.add_zero]
  · split
    · rw [Int64.add_zero]
    · rw [up_same]
theorem srF_0 {m mo go : Nat} {tb tf : Nat → Nat} {nw : Nat → Int64} {r p : Nat} {s : Sp3} (h : sh nw (r * 4 + p) = 0) : srF m mo go tb tf nw r p s = s := by
  unfold srF
  rw [h, Int64.zero_mul, Int64.zero_mul, Int64.zero_mul, arF_0, arF_0, arF_0]
theorem acF_row {m mo go : Nat} {tb tf : Nat → Nat} {nw : Nat → Int64} {s0 : Sp3} {r p : Nat} (hr : 1 ≤ r) (hp : p < 4) : acF m mo go tb tf nw s0 (4 * (r - 1) + (p + 1)) = srF m mo go tb tf nw r p (acF m mo go tb tf nw s0 (4 * (r - 1) + p)) := by
  show srF m mo go tb tf nw ((4 * (r - 1) + p) / 4 + 1) ((4 * (r - 1) + p) % 4) (acF m mo go tb tf nw s0 (4 * (r - 1) + p)) = _
  rw [show (4 * (r - 1) + p) / 4 + 1 = r by omega, show (4 * (r - 1) + p) % 4 = p by omega]
/-- places without a chance change nothing -/
theorem acF_skip {m mo go : Nat} {tb tf : Nat → Nat} {nw : Nat → Int64} {s0 : Sp3} {a : Nat} (d : Nat) (hb : a + d ≤ 124) (h : ∀ k, a ≤ k → k < a + d → nw k = 0) : acF m mo go tb tf nw s0 (a + d) = acF m mo go tb tf nw s0 a := by
  induction d with
  | zero => rfl
  | succ d ih =>
    show srF m mo go tb tf nw ((a + d) / 4 + 1) ((a + d) % 4) (acF m mo go tb tf nw s0 (a + d)) = _
    rw [srF_0, ih (by omega) (fun k h1 h2 => h k h1 (by omega))]
    rw [sh_get (by omega) (by omega) (by omega)]
    rw [show 4 * ((a + d) / 4 + 1 - 1) + (a + d) % 4 = a + d by omega]
    exact h (a + d) (by omega) (by omega)
def tkF (m mo go : Nat) (tb tf : Nat → Nat) (s : Sp3) : Sp3 := acF m mo go tb tf s.1 (fun _ => 0, s.2.1 * 10, s.2.2 * 10) 124
/-- where chances can be after t ticks -/
def supp (m t : Nat) (nw : Nat → Int64) : Prop := ∀ k, nw k ≠ 0 → 15 ≤ k / 4 + t ∧ k / 4 ≤ 15 + t ∧ k % 4 < m ∧ k < 124

set_option maxRecDepth 100000 in
set_option maxHeartbeats 400000 in
theorem g_Sp_pt0 {sc : aScr} {e0 e6 e7 e8 e9 e10 e11 e12 e18 e19 e20 e21 e22 e23 e24 e25 e26 e27 e28 e29 e30 e31 e32 e33 e34 e35 e36 : va_E} {m g w mo go t l : Nat} {B F : Nat → Nat} {nw : Nat → Int64} {lo wo : Int64} {f : Nat → Int64} {kc kn : Nat} {O : Option Value → aH → Prop} (hm : 0 < m ∧ m ≤ 4) (hg : g < 8) (hw : w < 16) (hl : l < 3) (hmo : mo ≤ 16) (hgo : go ≤ 16) (ht : t ≤ 14) (K1 : JR M_Sp_passTick sc (37, [(0, .ref 13), (1, .ref 1), (2, .int (nI l)), (3, .int (gI (16 - t)))], [], (HP e0 (.inr (8, [.ref 2, .ref 4, .int (nI m), .int (nI g), .int (nI w)])) (.inr (4, [.ref 3])) (.inl (1, 12, .inr (.inl (fun j => lN (B j))))) (.inr (4, [.ref 5])) (.inl (1, 12, .inr (.inl (fun j => lN (F j))))) e6 e7 e8 e9 e10 e11 e12 (.inr (6, [.ref 14, .ref 16, .int (nI mo), .int (nI go), .int (nI t), .int (nI m), .long (lo * 10), .long (wo * 10)])) (.inr (4, [.ref 15])) (.inl (1, 132, .inr (.inl (sh nw)))) (.inr (4, [.ref 17])) (.inl (1, 132, .inr (.inl (fun _ => 0)))) e18 e19 e20 e21 e22 e23 e24 e25 e26 e27 e28 e29 e30 e31 e32 e33 e34 e35 e36), kc, kn) O) : JR M_Sp_passTick sc (0, [(0, .ref 13), (1, .ref 1), (2, .int (nI l))], [], (HP e0 (.inr (8, [.ref 2, .ref 4, .int (nI m), .int (nI g), .int (nI w)])) (.inr (4, [.ref 3])) (.inl (1, 12, .inr (.inl (fun j => lN (B j))))) (.inr (4, [.ref 5])) (.inl (1, 12, .inr (.inl (fun j => lN (F j))))) e6 e7 e8 e9 e10 e11 e12 (.inr (6, [.ref 14, .ref 16, .int (nI mo), .int (nI go), .int (nI t), .int (nI m), .long lo, .long wo])) (.inr (4, [.ref 15])) (.inl (1, 132, .inr (.inl (sh nw)))) (.inr (4, [.ref 17])) (.inl (1, 132, .inr (.inl f))) e18 e19 e20 e21 e22 e23 e24 e25 e26 e27 e28 e29 e30 e31 e32 e33 e34 e35 e36), kc, kn) O := by
  refine J.gp ok_Sp_passTick 2 (4, [(0, .ref 13), (1, .ref 1), (2, .int (nI l))], [.ref 16], _, _, _) rfl ?_
  refine J.callVE s_Sp_passTick_4 7 16 [] 4 (c_Rw_clear_16) rfl rfl rfl rfl rfl (Nat.le_of_ble_eq_true rfl) rfl ?_
  refine J.gp ok_Sp_passTick 0 (7, [(0, .ref 13), (1, .ref 1), (2, .int (nI l))], [], (HP e0 (.inr (8, [.ref 2, .ref 4, .int (nI m), .int (nI g), .int (nI w)])) (.inr (4, [.ref 3])) (.inl (1, 12, .inr (.inl (fun j => lN (B j))))) (.inr (4, [.ref 5])) (.inl (1, 12, .inr (.inl (fun j => lN (F j))))) e6 e7 e8 e9 e10 e11 e12 (.inr (6, [.ref 14, .ref 16, .int (nI mo), .int (nI go), .int (nI t), .int (nI m), .long lo, .long wo])) (.inr (4, [.ref 15])) (.inl (1, 132, .inr (.inl (sh nw)))) (.inr (4, [.ref 17])) (.inl (1, 132, .inr (.inl (fun _ => 0)))) e18 e19 e20 e21 e22 e23 e24 e25 e26 e27 e28 e29 e30 e31 e32 e33 e34 e35 e36), kc, kn) rfl ?_
  refine J.gp ok_Sp_passTick 6 (19, [(0, .ref 13), (1, .ref 1), (2, .int (nI l))], [], (HP e0 (.inr (8, [.ref 2, .ref 4, .int (nI m), .int (nI g), .int (nI w)])) (.inr (4, [.ref 3])) (.inl (1, 12, .inr (.inl (fun j => lN (B j))))) (.inr (4, [.ref 5])) (.inl (1, 12, .inr (.inl (fun j => lN (F j))))) e6 e7 e8 e9 e10 e11 e12 (.inr (6, [.ref 14, .ref 16, .int (nI mo), .int (nI go), .int (nI t), .int (nI m), .long (lo * 10), .long wo])) (.inr (4, [.ref 15])) (.inl (1, 132, .inr (.inl (sh nw)))) (.inr (4, [.ref 17])) (.inl (1, 132, .inr (.inl (fun _ => 0)))) e18 e19 e20 e21 e22 e23 e24 e25 e26 e27 e28 e29 e30 e31 e32 e33 e34 e35 e36), _, _) rfl ?_
  refine J.gp ok_Sp_passTick 6 (31, [(0, .ref 13), (1, .ref 1), (2, .int (nI l))], [], (HP e0 (.inr (8, [.ref 2, .ref 4, .int (nI m), .int (nI g), .int (nI w)])) (.inr (4, [.ref 3])) (.inl (1, 12, .inr (.inl (fun j => lN (B j))))) (.inr (4, [.ref 5])) (.inl (1, 12, .inr (.inl (fun j => lN (F j))))) e6 e7 e8 e9 e10 e11 e12 (.inr (6, [.ref 14, .ref 16, .int (nI mo), .int (nI go), .int (nI t), .int (nI m), .long (lo * 10), .long (wo * 10)])) (.inr (4, [.ref 15])) (.inl (1, 132, .inr (.inl (sh nw)))) (.inr (4, [.ref 17])) (.inl (1, 132, .inr (.inl (fun _ => 0)))) e18 e19 e20 e21 e22 e23 e24 e25 e26 e27 e28 e29 e30 e31 e32 e33 e34 e35 e36), _, _) rfl ?_
  refine J.gp ok_Sp_passTick 3 (36, [(0, .ref 13), (1, .ref 1), (2, .int (nI l))], [.int (-nI t)], _, _, _) rfl ?_
  rw [show ((-nI t)) = gI (16 - t) from gI_neg (by omega)]
  refine J.gp ok_Sp_passTick 1 (37, [(0, .ref 13), (1, .ref 1), (2, .int (nI l)), (3, .int (gI (16 - t)))], [], _, _, _) rfl ?_
  exact K1

set_option maxRecDepth 100000 in
set_option maxHeartbeats 400000 in
theorem g_Sp_pt1 {sc : aScr} {e0 e6 e7 e8 e9 e10 e11 e12 e18 e19 e20 e21 e22 e23 e24 e25 e26 e27 e28 e29 e30 e31 e32 e33 e34 e35 e36 : va_E} {m g w mo go t l : Nat} {B F : Nat → Nat} {nw : Nat → Int64} {s : Sp3} {r : Nat} {kc kn : Nat} {O : Option Value → aH → Prop} (hm : 0 < m ∧ m ≤ 4) (hg : g < 8) (hw : w < 16) (hl : l < 3) (hmo : mo ≤ 16) (hgo : go ≤ 16) (ht : t ≤ 14) (K1 : (nI t < gI r) → O none (HP e0 (.inr (8, [.ref 2, .ref 4, .int (nI m), .int (nI g), .int (nI w)])) (.inr (4, [.ref 3])) (.inl (1, 12, .inr (.inl (fun j => lN (B j))))) (.inr (4, [.ref 5])) (.inl (1, 12, .inr (.inl (fun j => lN (F j))))) e6 e7 e8 e9 e10 e11 e12 (.inr (6, [.ref 14, .ref 16, .int (nI mo), .int (nI go), .int (nI t), .int (nI m), .long s.2.1, .long s.2.2])) (.inr (4, [.ref 15])) (.inl (1, 132, .inr (.inl (sh s.1)))) (.inr (4, [.ref 17])) (.inl (1, 132, .inr (.inl (sh s.1)))) e18 e19 e20 e21 e22 e23 e24 e25 e26 e27 e28 e29 e30 e31 e32 e33 e34 e35 e36)) (K2 : (¬ (nI t < gI r)) → JR M_Sp_passTick sc (48, [(0, .ref 13), (1, .ref 1), (2, .int (nI l)), (3, .int (gI r)), (4, .int 0)], [], (HP e0 (.inr (8, [.ref 2, .ref 4, .int (nI m), .int (nI g), .int (nI w)])) (.inr (4, [.ref 3])) (.inl (1, 12, .inr (.inl (fun j => lN (B j))))) (.inr (4, [.ref 5])) (.inl (1, 12, .inr (.inl (fun j => lN (F j))))) e6 e7 e8 e9 e10 e11 e12 (.inr (6, [.ref 14, .ref 16, .int (nI mo), .int (nI go), .int (nI t), .int (nI m), .long s.2.1, .long s.2.2])) (.inr (4, [.ref 15])) (.inl (1, 132, .inr (.inl (sh nw)))) (.inr (4, [.ref 17])) (.inl (1, 132, .inr (.inl (sh s.1)))) e18 e19 e20 e21 e22 e23 e24 e25 e26 e27 e28 e29 e30 e31 e32 e33 e34 e35 e36), kc, kn) O) : JR M_Sp_passTick sc (37, [(0, .ref 13), (1, .ref 1), (2, .int (nI l)), (3, .int (gI r))], [], (HP e0 (.inr (8, [.ref 2, .ref 4, .int (nI m), .int (nI g), .int (nI w)])) (.inr (4, [.ref 3])) (.inl (1, 12, .inr (.inl (fun j => lN (B j))))) (.inr (4, [.ref 5])) (.inl (1, 12, .inr (.inl (fun j => lN (F j))))) e6 e7 e8 e9 e10 e11 e12 (.inr (6, [.ref 14, .ref 16, .int (nI mo), .int (nI go), .int (nI t), .int (nI m), .long s.2.1, .long s.2.2])) (.inr (4, [.ref 15])) (.inl (1, 132, .inr (.inl (sh nw)))) (.inr (4, [.ref 17])) (.inl (1, 132, .inr (.inl (sh s.1)))) e18 e19 e20 e21 e22 e23 e24 e25 e26 e27 e28 e29 e30 e31 e32 e33 e34 e35 e36), kc, kn) O := by
  refine J.gp ok_Sp_passTick 3 (42, [(0, .ref 13), (1, .ref 1), (2, .int (nI l)), (3, .int (gI r))], [.int (nI t), .int (gI r)], _, _, _) rfl ?_
  refine J.icB ok_Sp_passTick (fun x y => y < x) 159 45 rfl (fun (c42 : nI t < gI r) => ?_) (fun (c42 : ¬ (nI t < gI r)) => ?_)
  · refine J.gp ok_Sp_passTick 4 (167, [(0, .ref 13), (1, .ref 1), (2, .int (nI l)), (3, .int (gI r))], [.ref 16, .ref 14], _, _, _) rfl ?_
    refine J.callVE s_Sp_passTick_167 170 14 [.ref 16] 4 (c_Rw_copy_14_16) rfl rfl rfl rfl rfl (Nat.le_of_ble_eq_true rfl) rfl ?_
    refine J.gp ok_Sp_passTick 0 (170, [(0, .ref 13), (1, .ref 1), (2, .int (nI l)), (3, .int (gI r))], [], (HP e0 (.inr (8, [.ref 2, .ref 4, .int (nI m), .int (nI g), .int (nI w)])) (.inr (4, [.ref 3])) (.inl (1, 12, .inr (.inl (fun j => lN (B j))))) (.inr (4, [.ref 5])) (.inl (1, 12, .inr (.inl (fun j => lN (F j))))) e6 e7 e8 e9 e10 e11 e12 (.inr (6, [.ref 14, .ref 16, .int (nI mo), .int (nI go), .int (nI t), .int (nI m), .long s.2.1, .long s.2.2])) (.inr (4, [.ref 15])) (.inl (1, 132, .inr (.inl (sh s.1)))) (.inr (4, [.ref 17])) (.inl (1, 132, .inr (.inl (sh s.1)))) e18 e19 e20 e21 e22 e23 e24 e25 e26 e27 e28 e29 e30 e31 e32 e33 e34 e35 e36), kc, kn) rfl ?_
    refine JR.vret (by decide +kernel) rfl ?_
    exact K1 c42
  · refine J.gp ok_Sp_passTick 2 (48, [(0, .ref 13), (1, .ref 1), (2, .int (nI l)), (3, .int (gI r)), (4, .int 0)], [], _, _, _) rfl ?_
    exact K2 c42

set_option maxRecDepth 100000 in
set_option maxHeartbeats 400000 in
theorem g_Sp_pt2 {sc : aScr} {e0 e6 e7 e8 e9 e10 e11 e12 e18 e19 e20 e21 e22 e23 e24 e25 e26 e27 e28 e29 e30 e31 e32 e33 e34 e35 e36 : va_E} {m g w mo go t l : Nat} {B F : Nat → Nat} {nw : Nat → Int64} {s : Sp3} {r p : Nat} {kc kn : Nat} {O : Option Value → aH → Prop} (hm : 0 < m ∧ m ≤ 4) (hg : g < 8) (hw : w < 16) (hl : l < 3) (hmo : mo ≤ 16) (hgo : go ≤ 16) (ht : t ≤ 14) (hr : 1 ≤ r ∧ r ≤ 31) (hp : p ≤ m) (h1 : tB g w B l p + tF g F l p ≤ 10) (h2 : pB m p < 4) (h3 : pA m p < 4) (K1 : (m ≤ p) → JR M_Sp_passTick sc (37, [(0, .ref 13), (1, .ref 1), (2, .int (nI l)), (3, .int (gI (r + 1)))], [], (HP e0 (.inr (8, [.ref 2, .ref 4, .int (nI m), .int (nI g), .int (nI w)])) (.inr (4, [.ref 3])) (.inl (1, 12, .inr (.inl (fun j => lN (B j))))) (.inr (4, [.ref 5])) (.inl (1, 12, .inr (.inl (fun j => lN (F j))))) e6 e7 e8 e9 e10 e11 e12 (.inr (6, [.ref 14, .ref 16, .int (nI mo), .int (nI go), .int (nI t), .int (nI m), .long s.2.1, .long s.2.2])) (.inr (4, [.ref 15])) (.inl (1, 132, .inr (.inl (sh nw)))) (.inr (4, [.ref 17])) (.inl (1, 132, .inr (.inl (sh s.1)))) e18 e19 e20 e21 e22 e23 e24 e25 e26 e27 e28 e29 e30 e31 e32 e33 e34 e35 e36), kc, kn) O) (K2 : (p < m) → JR M_Sp_passTick sc (48, [(0, .ref 13), (1, .ref 1), (2, .int (nI l)), (3, .int (gI r)), (4, .int (nI (p + 1)))], [], (HP e0 (.inr (8, [.ref 2, .ref 4, .int (nI m), .int (nI g), .int (nI w)])) (.inr (4, [.ref 3])) (.inl (1, 12, .inr (.inl (fun j => lN (B j))))) (.inr (4, [.ref 5])) (.inl (1, 12, .inr (.inl (fun j => lN (F j))))) e6 e7 e8 e9 e10 e11 e12 (.inr (6, [.ref 14, .ref 16, .int (nI mo), .int (nI go), .int (nI t), .int (nI m), .long ((arF mo go (r + 1) (pA m p) (((sh nw) (r * 4 + p)) * lN (tF g F l p)) (arF mo go r p (((sh nw) (r * 4 + p)) * lN ((10 - (tB g w B l p)) - (tF g F l p))) (arF mo go (r - 1) (pB m p) (((sh nw) (r * 4 + p)) * lN (tB g w B l p)) s))).2.1), .long ((arF mo go (r + 1) (pA m p) (((sh nw) (r * 4 + p)) * lN (tF g F l p)) (arF mo go r p (((sh nw) (r * 4 + p)) * lN ((10 - (tB g w B l p)) - (tF g F l p))) (arF mo go (r - 1) (pB m p) (((sh nw) (r * 4 + p)) * lN (tB g w B l p)) s))).2.2)])) (.inr (4, [.ref 15])) (.inl (1, 132, .inr (.inl (sh nw)))) (.inr (4, [.ref 17])) (.inl (1, 132, .inr (.inl (sh (arF mo go (r + 1) (pA m p) (((sh nw) (r * 4 + p)) * lN (tF g F l p)) (arF mo go r p (((sh nw) (r * 4 + p)) * lN ((10 - (tB g w B l p)) - (tF g F l p))) (arF mo go (r - 1) (pB m p) (((sh nw) (r * 4 + p)) * lN (tB g w B l p)) s))).1)))) e18 e19 e20 e21 e22 e23 e24 e25 e26 e27 e28 e29 e30 e31 e32 e33 e34 e35 e36), kc, kn) O) : JR M_Sp_passTick sc (48, [(0, .ref 13), (1, .ref 1), (2, .int (nI l)), (3, .int (gI r)), (4, .int (nI p))], [], (HP e0 (.inr (8, [.ref 2, .ref 4, .int (nI m), .int (nI g), .int (nI w)])) (.inr (4, [.ref 3])) (.inl (1, 12, .inr (.inl (fun j => lN (B j))))) (.inr (4, [.ref 5])) (.inl (1, 12, .inr (.inl (fun j => lN (F j))))) e6 e7 e8 e9 e10 e11 e12 (.inr (6, [.ref 14, .ref 16, .int (nI mo), .int (nI go), .int (nI t), .int (nI m), .long s.2.1, .long s.2.2])) (.inr (4, [.ref 15])) (.inl (1, 132, .inr (.inl (sh nw)))) (.inr (4, [.ref 17])) (.inl (1, 132, .inr (.inl (sh s.1)))) e18 e19 e20 e21 e22 e23 e24 e25 e26 e27 e28 e29 e30 e31 e32 e33 e34 e35 e36), kc, kn) O := by
  refine J.gp ok_Sp_passTick 3 (54, [(0, .ref 13), (1, .ref 1), (2, .int (nI l)), (3, .int (gI r)), (4, .int (nI p))], [.int (nI m), .int (nI p)], _, _, _) rfl ?_
  refine J.icB ok_Sp_passTick (fun x y => y ≤ x) 153 57 rfl (fun (h0 : nI m ≤ nI p) => ?_) (fun (h0 : ¬ (nI m ≤ nI p)) => ?_)
  · have c54 : m ≤ p := (nI_leI (a := m) (b := p) (by omega) (by omega)).mp h0
    refine J.gp ok_Sp_passTick 1 (156, [(0, .ref 13), (1, .ref 1), (2, .int (nI l)), (3, .int (gI r + 1)), (4, .int (nI p))], [], _, _, _) rfl ?_
    rw [show ((gI r + 1)) = gI (r + 1) from gI_up _]
    refine J.gp ok_Sp_passTick 1 (37, [(0, .ref 13), (1, .ref 1), (2, .int (nI l)), (3, .int (gI (r + 1))), (4, .int (nI p))], [], _, _, _) rfl ?_
    refine J.lv [0, 1, 2, 3] [(0, .ref 13), (1, .ref 1), (2, .int (nI l)), (3, .int (gI (r + 1)))] rfl ?_
    exact K1 c54
  · have c54 : p < m := Nat.not_le.mp (fun h9 => h0 ((nI_leI (a := m) (b := p) (by omega) (by omega)).mpr h9))
    refine J.gp ok_Sp_passTick 4 (64, [(0, .ref 13), (1, .ref 1), (2, .int (nI l)), (3, .int (gI r)), (4, .int (nI p))], [.int (nI p), .int (gI r), .ref 14], _, _, _) rfl ?_
    refine J.callSE s_Sp_passTick_64 67 [.int (gI r), .int (nI p)] (c_Sp_cell (r := r)) rfl rfl (Nat.le_of_ble_eq_true rfl) rfl ?_
    refine J.gp ok_Sp_passTick 0 (67, [(0, .ref 13), (1, .ref 1), (2, .int (nI l)), (3, .int (gI r)), (4, .int (nI p))], [.int (nI (r * 4 + p)), .ref 14], (HP e0 (.inr (8, [.ref 2, .ref 4, .int (nI m), .int (nI g), .int (nI w)])) (.inr (4, [.ref 3])) (.inl (1, 12, .inr (.inl (fun j => lN (B j))))) (.inr (4, [.ref 5])) (.inl (1, 12, .inr (.inl (fun j => lN (F j))))) e6 e7 e8 e9 e10 e11 e12 (.inr (6, [.ref 14, .ref 16, .int (nI mo), .int (nI go), .int (nI t), .int (nI m), .long s.2.1, .long s.2.2])) (.inr (4, [.ref 15])) (.inl (1, 132, .inr (.inl (sh nw)))) (.inr (4, [.ref 17])) (.inl (1, 132, .inr (.inl (sh s.1)))) e18 e19 e20 e21 e22 e23 e24 e25 e26 e27 e28 e29 e30 e31 e32 e33 e34 e35 e36), kc, kn) rfl ?_
    refine J.callVE s_Sp_passTick_67 70 14 [.int (nI (r * 4 + p))] 4 (c_Rw_get_14 (j := r * 4 + p) (by omega)) rfl rfl rfl rfl rfl (Nat.le_of_ble_eq_true rfl) rfl ?_
    refine J.gp ok_Sp_passTick 0 (70, [(0, .ref 13), (1, .ref 1), (2, .int (nI l)), (3, .int (gI r)), (4, .int (nI p))], [.long ((sh nw) (r * 4 + p))], (HP e0 (.inr (8, [.ref 2, .ref 4, .int (nI m), .int (nI g), .int (nI w)])) (.inr (4, [.ref 3])) (.inl (1, 12, .inr (.inl (fun j => lN (B j))))) (.inr (4, [.ref 5])) (.inl (1, 12, .inr (.inl (fun j => lN (F j))))) e6 e7 e8 e9 e10 e11 e12 (.inr (6, [.ref 14, .ref 16, .int (nI mo), .int (nI go), .int (nI t), .int (nI m), .long s.2.1, .long s.2.2])) (.inr (4, [.ref 15])) (.inl (1, 132, .inr (.inl (sh nw)))) (.inr (4, [.ref 17])) (.inl (1, 132, .inr (.inl (sh s.1)))) e18 e19 e20 e21 e22 e23 e24 e25 e26 e27 e28 e29 e30 e31 e32 e33 e34 e35 e36), kc, kn) rfl ?_
    refine J.gp ok_Sp_passTick 4 (76, [(0, .ref 13), (1, .ref 1), (2, .int (nI l)), (3, .int (gI r)), (4, .int (nI p)), (5, .long ((sh nw) (r * 4 + p)))], [.int (nI p), .int (nI l), .ref 1], _, _, _) rfl ?_
    refine J.callVE s_Sp_passTick_76 79 1 [.int (nI l), .int (nI p)] 8 (c_Wh_tenthsBack (by omega) (by omega) (by omega) (by omega)) rfl rfl rfl rfl rfl (Nat.le_of_ble_eq_true rfl) rfl ?_
    refine J.gp ok_Sp_passTick 0 (79, [(0, .ref 13), (1, .ref 1), (2, .int (nI l)), (3, .int (gI r)), (4, .int (nI p)), (5, .long ((sh nw) (r * 4 + p)))], [.int (nI (tB g w B l p))], (HP e0 (.inr (8, [.ref 2, .ref 4, .int (nI m), .int (nI g), .int (nI w)])) (.inr (4, [.ref 3])) (.inl (1, 12, .inr (.inl (fun j => lN (B j))))) (.inr (4, [.ref 5])) (.inl (1, 12, .inr (.inl (fun j => lN (F j))))) e6 e7 e8 e9 e10 e11 e12 (.inr (6, [.ref 14, .ref 16, .int (nI mo), .int (nI go), .int (nI t), .int (nI m), .long s.2.1, .long s.2.2])) (.inr (4, [.ref 15])) (.inl (1, 132, .inr (.inl (sh nw)))) (.inr (4, [.ref 17])) (.inl (1, 132, .inr (.inl (sh s.1)))) e18 e19 e20 e21 e22 e23 e24 e25 e26 e27 e28 e29 e30 e31 e32 e33 e34 e35 e36), kc, kn) rfl ?_
    refine J.gp ok_Sp_passTick 4 (85, [(0, .ref 13), (1, .ref 1), (2, .int (nI l)), (3, .int (gI r)), (4, .int (nI p)), (5, .long ((sh nw) (r * 4 + p))), (7, .int (nI (tB g w B l p)))], [.int (nI p), .int (nI l), .ref 1], _, _, _) rfl ?_
    refine J.callVE s_Sp_passTick_85 88 1 [.int (nI l), .int (nI p)] 8 (c_Wh_tenthsForward (by omega) (by omega) (by omega)) rfl rfl rfl rfl rfl (Nat.le_of_ble_eq_true rfl) rfl ?_
    refine J.gp ok_Sp_passTick 0 (88, [(0, .ref 13), (1, .ref 1), (2, .int (nI l)), (3, .int (gI r)), (4, .int (nI p)), (5, .long ((sh nw) (r * 4 + p))), (7, .int (nI (tB g w B l p)))], [.int (nI (tF g F l p))], (HP e0 (.inr (8, [.ref 2, .ref 4, .int (nI m), .int (nI g), .int (nI w)])) (.inr (4, [.ref 3])) (.inl (1, 12, .inr (.inl (fun j => lN (B j))))) (.inr (4, [.ref 5])) (.inl (1, 12, .inr (.inl (fun j => lN (F j))))) e6 e7 e8 e9 e10 e11 e12 (.inr (6, [.ref 14, .ref 16, .int (nI mo), .int (nI go), .int (nI t), .int (nI m), .long s.2.1, .long s.2.2])) (.inr (4, [.ref 15])) (.inl (1, 132, .inr (.inl (sh nw)))) (.inr (4, [.ref 17])) (.inl (1, 132, .inr (.inl (sh s.1)))) e18 e19 e20 e21 e22 e23 e24 e25 e26 e27 e28 e29 e30 e31 e32 e33 e34 e35 e36), kc, kn) rfl ?_
    refine J.gp ok_Sp_passTick 5 (94, [(0, .ref 13), (1, .ref 1), (2, .int (nI l)), (3, .int (gI r)), (4, .int (nI p)), (5, .long ((sh nw) (r * 4 + p))), (7, .int (nI (tB g w B l p))), (8, .int (nI (tF g F l p)))], [.int (gI r - 1), .ref 13], _, _, _) rfl ?_
    rw [show ((gI r - 1)) = gI (r - 1) from gI_dn (by omega)]
    refine J.gp ok_Sp_passTick 2 (97, [(0, .ref 13), (1, .ref 1), (2, .int (nI l)), (3, .int (gI r)), (4, .int (nI p)), (5, .long ((sh nw) (r * 4 + p))), (7, .int (nI (tB g w B l p))), (8, .int (nI (tF g F l p)))], [.int (nI p), .ref 1, .int (gI (r - 1)), .ref 13], _, _, _) rfl ?_
    refine J.callVE s_Sp_passTick_97 100 1 [.int (nI p)] 8 (c_Wh_before (by omega) (by omega)) rfl rfl rfl rfl rfl (Nat.le_of_ble_eq_true rfl) rfl ?_
    refine J.gp ok_Sp_passTick 0 (100, [(0, .ref 13), (1, .ref 1), (2, .int (nI l)), (3, .int (gI r)), (4, .int (nI p)), (5, .long ((sh nw) (r * 4 + p))), (7, .int (nI (tB g w B l p))), (8, .int (nI (tF g F l p)))], [.int (nI (pB m p)), .int (gI (r - 1)), .ref 13], (HP e0 (.inr (8, [.ref 2, .ref 4, .int (nI m), .int (nI g), .int (nI w)])) (.inr (4, [.ref 3])) (.inl (1, 12, .inr (.inl (fun j => lN (B j))))) (.inr (4, [.ref 5])) (.inl (1, 12, .inr (.inl (fun j => lN (F j))))) e6 e7 e8 e9 e10 e11 e12 (.inr (6, [.ref 14, .ref 16, .int (nI mo), .int (nI go), .int (nI t), .int (nI m), .long s.2.1, .long s.2.2])) (.inr (4, [.ref 15])) (.inl (1, 132, .inr (.inl (sh nw)))) (.inr (4, [.ref 17])) (.inl (1, 132, .inr (.inl (sh s.1)))) e18 e19 e20 e21 e22 e23 e24 e25 e26 e27 e28 e29 e30 e31 e32 e33 e34 e35 e36), kc, kn) rfl ?_
    refine J.gp ok_Sp_passTick 3 (105, [(0, .ref 13), (1, .ref 1), (2, .int (nI l)), (3, .int (gI r)), (4, .int (nI p)), (5, .long ((sh nw) (r * 4 + p))), (7, .int (nI (tB g w B l p))), (8, .int (nI (tF g F l p)))], [.long ((nI (tB g w B l p)).toInt64), .long ((sh nw) (r * 4 + p)), .int (nI (pB m p)), .int (gI (r - 1)), .ref 13], _, _, _) rfl ?_
    rw [show (((nI (tB g w B l p)).toInt64) : Int64) = lN (tB g w B l p) from nI_l (n := tB g w B l p) (by omega)]
    refine J.gp ok_Sp_passTick 1 (106, [(0, .ref 13), (1, .ref 1), (2, .int (nI l)), (3, .int (gI r)), (4, .int (nI p)), (5, .long ((sh nw) (r * 4 + p))), (7, .int (nI (tB g w B l p))), (8, .int (nI (tF g F l p)))], [.long (((sh nw) (r * 4 + p)) * lN (tB g w B l p)), .int (nI (pB m p)), .int (gI (r - 1)), .ref 13], _, _, _) rfl ?_
    refine J.callVE s_Sp_passTick_106 109 13 [.int (gI (r - 1)), .int (nI (pB m p)), .long (((sh nw) (r * 4 + p)) * lN (tB g w B l p))] 6 (c_Sp_put (r := (r - 1)) (s := s) (by omega) (by omega) (by omega) (by omega)) rfl rfl rfl rfl rfl (Nat.le_of_ble_eq_true rfl) rfl ?_
    refine J.gp ok_Sp_passTick 0 (109, [(0, .ref 13), (1, .ref 1), (2, .int (nI l)), (3, .int (gI r)), (4, .int (nI p)), (5, .long ((sh nw) (r * 4 + p))), (7, .int (nI (tB g w B l p))), (8, .int (nI (tF g F l p)))], [], (HP e0 (.inr (8, [.ref 2, .ref 4, .int (nI m), .int (nI g), .int (nI w)])) (.inr (4, [.ref 3])) (.inl (1, 12, .inr (.inl (fun j => lN (B j))))) (.inr (4, [.ref 5])) (.inl (1, 12, .inr (.inl (fun j => lN (F j))))) e6 e7 e8 e9 e10 e11 e12 (.inr (6, [.ref 14, .ref 16, .int (nI mo), .int (nI go), .int (nI t), .int (nI m), .long ((arF mo go (r - 1) (pB m p) (((sh nw) (r * 4 + p)) * lN (tB g w B l p)) s).2.1), .long ((arF mo go (r - 1) (pB m p) (((sh nw) (r * 4 + p)) * lN (tB g w B l p)) s).2.2)])) (.inr (4, [.ref 15])) (.inl (1, 132, .inr (.inl (sh nw)))) (.inr (4, [.ref 17])) (.inl (1, 132, .inr (.inl (sh (arF mo go (r - 1) (pB m p) (((sh nw) (r * 4 + p)) * lN (tB g w B l p)) s).1)))) e18 e19 e20 e21 e22 e23 e24 e25 e26 e27 e28 e29 e30 e31 e32 e33 e34 e35 e36), kc, kn) rfl ?_
    refine J.gp ok_Sp_passTick 7 (120, [(0, .ref 13), (1, .ref 1), (2, .int (nI l)), (3, .int (gI r)), (4, .int (nI p)), (5, .long ((sh nw) (r * 4 + p))), (7, .int (nI (tB g w B l p))), (8, .int (nI (tF g F l p)))], [.int (10 - nI (tB g w B l p)), .long ((sh nw) (r * 4 + p)), .int (nI p), .int (gI r), .ref 13], _, _, _) rfl ?_
    rw [show ((10 - nI (tB g w B l p)) : Int32) = nI (10 - (tB g w B l p)) from pk_sub (a := 10) (b := tB g w B l p) (by omega)]
    refine J.gp ok_Sp_passTick 2 (123, [(0, .ref 13), (1, .ref 1), (2, .int (nI l)), (3, .int (gI r)), (4, .int (nI p)), (5, .long ((sh nw) (r * 4 + p))), (7, .int (nI (tB g w B l p))), (8, .int (nI (tF g F l p)))], [.int (nI (10 - (tB g w B l p)) - nI (tF g F l p)), .long ((sh nw) (r * 4 + p)), .int (nI p), .int (gI r), .ref 13], _, _, _) rfl ?_
    rw [show ((nI (10 - (tB g w B l p)) - nI (tF g F l p)) : Int32) = nI ((10 - (tB g w B l p)) - (tF g F l p)) from pk_sub (a := 10 - (tB g w B l p)) (b := tF g F l p) (by omega)]
    refine J.gp ok_Sp_passTick 1 (124, [(0, .ref 13), (1, .ref 1), (2, .int (nI l)), (3, .int (gI r)), (4, .int (nI p)), (5, .long ((sh nw) (r * 4 + p))), (7, .int (nI (tB g w B l p))), (8, .int (nI (tF g F l p)))], [.long ((nI ((10 - (tB g w B l p)) - (tF g F l p))).toInt64), .long ((sh nw) (r * 4 + p)), .int (nI p), .int (gI r), .ref 13], _, _, _) rfl ?_
    rw [show (((nI ((10 - (tB g w B l p)) - (tF g F l p))).toInt64) : Int64) = lN ((10 - (tB g w B l p)) - (tF g F l p)) from nI_l (n := (10 - (tB g w B l p)) - (tF g F l p)) (by omega)]
    refine J.gp ok_Sp_passTick 1 (125, [(0, .ref 13), (1, .ref 1), (2, .int (nI l)), (3, .int (gI r)), (4, .int (nI p)), (5, .long ((sh nw) (r * 4 + p))), (7, .int (nI (tB g w B l p))), (8, .int (nI (tF g F l p)))], [.long (((sh nw) (r * 4 + p)) * lN ((10 - (tB g w B l p)) - (tF g F l p))), .int (nI p), .int (gI r), .ref 13], _, _, _) rfl ?_
    refine J.callVE s_Sp_passTick_125 128 13 [.int (gI r), .int (nI p), .long (((sh nw) (r * 4 + p)) * lN ((10 - (tB g w B l p)) - (tF g F l p)))] 6 (c_Sp_put (r := r) (s := (arF mo go (r - 1) (pB m p) (((sh nw) (r * 4 + p)) * lN (tB g w B l p)) s)) (by omega) (by omega) (by omega) (by omega)) rfl rfl rfl rfl rfl (Nat.le_of_ble_eq_true rfl) rfl ?_
    refine J.gp ok_Sp_passTick 0 (128, [(0, .ref 13), (1, .ref 1), (2, .int (nI l)), (3, .int (gI r)), (4, .int (nI p)), (5, .long ((sh nw) (r * 4 + p))), (7, .int (nI (tB g w B l p))), (8, .int (nI (tF g F l p)))], [], (HP e0 (.inr (8, [.ref 2, .ref 4, .int (nI m), .int (nI g), .int (nI w)])) (.inr (4, [.ref 3])) (.inl (1, 12, .inr (.inl (fun j => lN (B j))))) (.inr (4, [.ref 5])) (.inl (1, 12, .inr (.inl (fun j => lN (F j))))) e6 e7 e8 e9 e10 e11 e12 (.inr (6, [.ref 14, .ref 16, .int (nI mo), .int (nI go), .int (nI t), .int (nI m), .long ((arF mo go r p (((sh nw) (r * 4 + p)) * lN ((10 - (tB g w B l p)) - (tF g F l p))) (arF mo go (r - 1) (pB m p) (((sh nw) (r * 4 + p)) * lN (tB g w B l p)) s)).2.1), .long ((arF mo go r p (((sh nw) (r * 4 + p)) * lN ((10 - (tB g w B l p)) - (tF g F l p))) (arF mo go (r - 1) (pB m p) (((sh nw) (r * 4 + p)) * lN (tB g w B l p)) s)).2.2)])) (.inr (4, [.ref 15])) (.inl (1, 132, .inr (.inl (sh nw)))) (.inr (4, [.ref 17])) (.inl (1, 132, .inr (.inl (sh (arF mo go r p (((sh nw) (r * 4 + p)) * lN ((10 - (tB g w B l p)) - (tF g F l p))) (arF mo go (r - 1) (pB m p) (((sh nw) (r * 4 + p)) * lN (tB g w B l p)) s)).1)))) e18 e19 e20 e21 e22 e23 e24 e25 e26 e27 e28 e29 e30 e31 e32 e33 e34 e35 e36), kc, kn) rfl ?_
    refine J.gp ok_Sp_passTick 4 (132, [(0, .ref 13), (1, .ref 1), (2, .int (nI l)), (3, .int (gI r)), (4, .int (nI p)), (5, .long ((sh nw) (r * 4 + p))), (7, .int (nI (tB g w B l p))), (8, .int (nI (tF g F l p)))], [.int (gI r + 1), .ref 13], _, _, _) rfl ?_
    rw [show ((gI r + 1)) = gI (r + 1) from gI_up _]
    refine J.gp ok_Sp_passTick 2 (135, [(0, .ref 13), (1, .ref 1), (2, .int (nI l)), (3, .int (gI r)), (4, .int (nI p)), (5, .long ((sh nw) (r * 4 + p))), (7, .int (nI (tB g w B l p))), (8, .int (nI (tF g F l p)))], [.int (nI p), .ref 1, .int (gI (r + 1)), .ref 13], _, _, _) rfl ?_
    refine J.callVE s_Sp_passTick_135 138 1 [.int (nI p)] 8 (c_Wh_after (by omega) (by omega)) rfl rfl rfl rfl rfl (Nat.le_of_ble_eq_true rfl) rfl ?_
    refine J.gp ok_Sp_passTick 0 (138, [(0, .ref 13), (1, .ref 1), (2, .int (nI l)), (3, .int (gI r)), (4, .int (nI p)), (5, .long ((sh nw) (r * 4 + p))), (7, .int (nI (tB g w B l p))), (8, .int (nI (tF g F l p)))], [.int (nI (pA m p)), .int (gI (r + 1)), .ref 13], (HP e0 (.inr (8, [.ref 2, .ref 4, .int (nI m), .int (nI g), .int (nI w)])) (.inr (4, [.ref 3])) (.inl (1, 12, .inr (.inl (fun j => lN (B j))))) (.inr (4, [.ref 5])) (.inl (1, 12, .inr (.inl (fun j => lN (F j))))) e6 e7 e8 e9 e10 e11 e12 (.inr (6, [.ref 14, .ref 16, .int (nI mo), .int (nI go), .int (nI t), .int (nI m), .long ((arF mo go r p (((sh nw) (r * 4 + p)) * lN ((10 - (tB g w B l p)) - (tF g F l p))) (arF mo go (r - 1) (pB m p) (((sh nw) (r * 4 + p)) * lN (tB g w B l p)) s)).2.1), .long ((arF mo go r p (((sh nw) (r * 4 + p)) * lN ((10 - (tB g w B l p)) - (tF g F l p))) (arF mo go (r - 1) (pB m p) (((sh nw) (r * 4 + p)) * lN (tB g w B l p)) s)).2.2)])) (.inr (4, [.ref 15])) (.inl (1, 132, .inr (.inl (sh nw)))) (.inr (4, [.ref 17])) (.inl (1, 132, .inr (.inl (sh (arF mo go r p (((sh nw) (r * 4 + p)) * lN ((10 - (tB g w B l p)) - (tF g F l p))) (arF mo go (r - 1) (pB m p) (((sh nw) (r * 4 + p)) * lN (tB g w B l p)) s)).1)))) e18 e19 e20 e21 e22 e23 e24 e25 e26 e27 e28 e29 e30 e31 e32 e33 e34 e35 e36), kc, kn) rfl ?_
    refine J.gp ok_Sp_passTick 3 (143, [(0, .ref 13), (1, .ref 1), (2, .int (nI l)), (3, .int (gI r)), (4, .int (nI p)), (5, .long ((sh nw) (r * 4 + p))), (7, .int (nI (tB g w B l p))), (8, .int (nI (tF g F l p)))], [.long ((nI (tF g F l p)).toInt64), .long ((sh nw) (r * 4 + p)), .int (nI (pA m p)), .int (gI (r + 1)), .ref 13], _, _, _) rfl ?_
    rw [show (((nI (tF g F l p)).toInt64) : Int64) = lN (tF g F l p) from nI_l (n := tF g F l p) (by omega)]
    refine J.gp ok_Sp_passTick 1 (144, [(0, .ref 13), (1, .ref 1), (2, .int (nI l)), (3, .int (gI r)), (4, .int (nI p)), (5, .long ((sh nw) (r * 4 + p))), (7, .int (nI (tB g w B l p))), (8, .int (nI (tF g F l p)))], [.long (((sh nw) (r * 4 + p)) * lN (tF g F l p)), .int (nI (pA m p)), .int (gI (r + 1)), .ref 13], _, _, _) rfl ?_
    refine J.callVE s_Sp_passTick_144 147 13 [.int (gI (r + 1)), .int (nI (pA m p)), .long (((sh nw) (r * 4 + p)) * lN (tF g F l p))] 6 (c_Sp_put (r := (r + 1)) (s := (arF mo go r p (((sh nw) (r * 4 + p)) * lN ((10 - (tB g w B l p)) - (tF g F l p))) (arF mo go (r - 1) (pB m p) (((sh nw) (r * 4 + p)) * lN (tB g w B l p)) s))) (by omega) (by omega) (by omega) (by omega)) rfl rfl rfl rfl rfl (Nat.le_of_ble_eq_true rfl) rfl ?_
    refine J.gp ok_Sp_passTick 0 (147, [(0, .ref 13), (1, .ref 1), (2, .int (nI l)), (3, .int (gI r)), (4, .int (nI p)), (5, .long ((sh nw) (r * 4 + p))), (7, .int (nI (tB g w B l p))), (8, .int (nI (tF g F l p)))], [], (HP e0 (.inr (8, [.ref 2, .ref 4, .int (nI m), .int (nI g), .int (nI w)])) (.inr (4, [.ref 3])) (.inl (1, 12, .inr (.inl (fun j => lN (B j))))) (.inr (4, [.ref 5])) (.inl (1, 12, .inr (.inl (fun j => lN (F j))))) e6 e7 e8 e9 e10 e11 e12 (.inr (6, [.ref 14, .ref 16, .int (nI mo), .int (nI go), .int (nI t), .int (nI m), .long ((arF mo go (r + 1) (pA m p) (((sh nw) (r * 4 + p)) * lN (tF g F l p)) (arF mo go r p (((sh nw) (r * 4 + p)) * lN ((10 - (tB g w B l p)) - (tF g F l p))) (arF mo go (r - 1) (pB m p) (((sh nw) (r * 4 + p)) * lN (tB g w B l p)) s))).2.1), .long ((arF mo go (r + 1) (pA m p) (((sh nw) (r * 4 + p)) * lN (tF g F l p)) (arF mo go r p (((sh nw) (r * 4 + p)) * lN ((10 - (tB g w B l p)) - (tF g F l p))) (arF mo go (r - 1) (pB m p) (((sh nw) (r * 4 + p)) * lN (tB g w B l p)) s))).2.2)])) (.inr (4, [.ref 15])) (.inl (1, 132, .inr (.inl (sh nw)))) (.inr (4, [.ref 17])) (.inl (1, 132, .inr (.inl (sh (arF mo go (r + 1) (pA m p) (((sh nw) (r * 4 + p)) * lN (tF g F l p)) (arF mo go r p (((sh nw) (r * 4 + p)) * lN ((10 - (tB g w B l p)) - (tF g F l p))) (arF mo go (r - 1) (pB m p) (((sh nw) (r * 4 + p)) * lN (tB g w B l p)) s))).1)))) e18 e19 e20 e21 e22 e23 e24 e25 e26 e27 e28 e29 e30 e31 e32 e33 e34 e35 e36), kc, kn) rfl ?_
    refine J.gp ok_Sp_passTick 1 (150, [(0, .ref 13), (1, .ref 1), (2, .int (nI l)), (3, .int (gI r)), (4, .int (nI p + 1)), (5, .long ((sh nw) (r * 4 + p))), (7, .int (nI (tB g w B l p))), (8, .int (nI (tF g F l p)))], [], _, _, _) rfl ?_
    rw [show ((nI p + 1) : Int32) = nI (p + 1) from nI_add p 1]
    refine J.gp ok_Sp_passTick 1 (48, [(0, .ref 13), (1, .ref 1), (2, .int (nI l)), (3, .int (gI r)), (4, .int (nI (p + 1))), (5, .long ((sh nw) (r * 4 + p))), (7, .int (nI (tB g w B l p))), (8, .int (nI (tF g F l p)))], [], _, _, _) rfl ?_
    refine J.lv [0, 1, 2, 3, 4] [(0, .ref 13), (1, .ref 1), (2, .int (nI l)), (3, .int (gI r)), (4, .int (nI (p + 1)))] rfl ?_
    exact K2 c54

theorem tBF_le {g w : Nat} {B F : Nat → Nat} {l p : Nat} (h : ∀ j, B j + F j ≤ 10) : tB g w B l p + tF g F l p ≤ 10 := by
  have := h (l * 4 + p)
  unfold tB tF
  split <;> split <;> omega
set_option maxRecDepth 100000 in
set_option maxHeartbeats 1000000 in
theorem c_Sp_passTick {e0 e6 e7 e8 e9 e10 e11 e12 e18 e19 e20 e21 e22 e23 e24 e25 e26 e27 e28 e29 e30 e31 e32 e33 e34 e35 e36 : va_E} {m g w mo go t l : Nat} {B F : Nat → Nat} {s0 : Sp3} {f : Nat → Int64} (hm : 0 < m ∧ m ≤ 4) (hg : g < 8) (hw : w < 16) (hl : l < 3) (hmo : mo ≤ 16) (hgo : go ≤ 16) (ht : t ≤ 14) (hB : ∀ j, B j + F j ≤ 10) (hsu : supp m t s0.1) : JE M_Sp_passTick [.ref 13, .ref 1, .int (nI l)] (HP e0 (.inr (8, [.ref 2, .ref 4, .int (nI m), .int (nI g), .int (nI w)])) (.inr (4, [.ref 3])) (.inl (1, 12, .inr (.inl (fun j => lN (B j))))) (.inr (4, [.ref 5])) (.inl (1, 12, .inr (.inl (fun j => lN (F j))))) e6 e7 e8 e9 e10 e11 e12 (.inr (6, [.ref 14, .ref 16, .int (nI mo), .int (nI go), .int (nI t), .int (nI m), .long s0.2.1, .long s0.2.2])) (.inr (4, [.ref 15])) (.inl (1, 132, .inr (.inl (sh s0.1)))) (.inr (4, [.ref 17])) (.inl (1, 132, .inr (.inl f))) e18 e19 e20 e21 e22 e23 e24 e25 e26 e27 e28 e29 e30 e31 e32 e33 e34 e35 e36) none (HP e0 (.inr (8, [.ref 2, .ref 4, .int (nI m), .int (nI g), .int (nI w)])) (.inr (4, [.ref 3])) (.inl (1, 12, .inr (.inl (fun j => lN (B j))))) (.inr (4, [.ref 5])) (.inl (1, 12, .inr (.inl (fun j => lN (F j))))) e6 e7 e8 e9 e10 e11 e12 (.inr (6, [.ref 14, .ref 16, .int (nI mo), .int (nI go), .int (nI t), .int (nI m), .long ((tkF m mo go (tB g w B l) (tF g F l) s0).2.1), .long ((tkF m mo go (tB g w B l) (tF g F l) s0).2.2)])) (.inr (4, [.ref 15])) (.inl (1, 132, .inr (.inl (sh (tkF m mo go (tB g w B l) (tF g F l) s0).1)))) (.inr (4, [.ref 17])) (.inl (1, 132, .inr (.inl (sh (tkF m mo go (tB g w B l) (tF g F l) s0).1)))) e18 e19 e20 e21 e22 e23 e24 e25 e26 e27 e28 e29 e30 e31 e32 e33 e34 e35 e36) := by
  have h1 : ∀ p, tB g w B l p + tF g F l p ≤ 10 := fun p => tBF_le hB
  have hz : ∀ k, (k / 4 + t < 15 ∨ 15 + t < k / 4 ∨ m ≤ k % 4) → s0.1 k = 0 := by
    intro k hk
    refine Classical.byContradiction fun hn => ?_
    have := hsu k hn
    omega
  refine JM.of (by decide +kernel) rfl (Nat.le_of_ble_eq_true rfl) (g_Sp_pt0 hm hg hw hl hmo hgo ht ?_)
  have K := loopN (P := fun i => JR M_Sp_passTick none (37, [(0, .ref 13), (1, .ref 1), (2, .int (nI l)), (3, .int (gI (16 - t + i)))], [], (HP e0 (.inr (8, [.ref 2, .ref 4, .int (nI m), .int (nI g), .int (nI w)])) (.inr (4, [.ref 3])) (.inl (1, 12, .inr (.inl (fun j => lN (B j))))) (.inr (4, [.ref 5])) (.inl (1, 12, .inr (.inl (fun j => lN (F j))))) e6 e7 e8 e9 e10 e11 e12 (.inr (6, [.ref 14, .ref 16, .int (nI mo), .int (nI go), .int (nI t), .int (nI m), .long ((acF m mo go (tB g w B l) (tF g F l) s0.1 (fun _ => 0, s0.2.1 * 10, s0.2.2 * 10) (4 * (15 - t + i))).2.1), .long ((acF m mo go (tB g w B l) (tF g F l) s0.1 (fun _ => 0, s0.2.1 * 10, s0.2.2 * 10) (4 * (15 - t + i))).2.2)])) (.inr (4, [.ref 15])) (.inl (1, 132, .inr (.inl (sh s0.1)))) (.inr (4, [.ref 17])) (.inl (1, 132, .inr (.inl (sh (acF m mo go (tB g w B l) (tF g F l) s0.1 (fun _ => 0, s0.2.1 * 10, s0.2.2 * 10) (4 * (15 - t + i))).1)))) e18 e19 e20 e21 e22 e23 e24 e25 e26 e27 e28 e29 e30 e31 e32 e33 e34 e35 e36), 0, 0) (OE none (HP e0 (.inr (8, [.ref 2, .ref 4, .int (nI m), .int (nI g), .int (nI w)])) (.inr (4, [.ref 3])) (.inl (1, 12, .inr (.inl (fun j => lN (B j))))) (.inr (4, [.ref 5])) (.inl (1, 12, .inr (.inl (fun j => lN (F j))))) e6 e7 e8 e9 e10 e11 e12 (.inr (6, [.ref 14, .ref 16, .int (nI mo), .int (nI go), .int (nI t), .int (nI m), .long ((tkF m mo go (tB g w B l) (tF g F l) s0).2.1), .long ((tkF m mo go (tB g w B l) (tF g F l) s0).2.2)])) (.inr (4, [.ref 15])) (.inl (1, 132, .inr (.inl (sh (tkF m mo go (tB g w B l) (tF g F l) s0).1)))) (.inr (4, [.ref 17])) (.inl (1, 132, .inr (.inl (sh (tkF m mo go (tB g w B l) (tF g F l) s0).1)))) e18 e19 e20 e21 e22 e23 e24 e25 e26 e27 e28 e29 e30 e31 e32 e33 e34 e35 e36))) (b := 2 * t + 1) ?_ (fun i hi ih => ?_) 0 (Nat.zero_le _)
  · have e := acF_skip (m := m) (mo := mo) (go := go) (tb := tB g w B l) (tf := tF g F l) (nw := s0.1) (s0 := (fun _ => 0, s0.2.1 * 10, s0.2.2 * 10)) (a := 0) (4 * (15 - t)) (by omega) (fun k _ h2 => hz k (by omega))
    rw [Nat.zero_add] at e
    rw [Nat.add_zero, Nat.add_zero, e] at K
    rw [← sh_0]
    exact K
  · have e := acF_skip (m := m) (mo := mo) (go := go) (tb := tB g w B l) (tf := tF g F l) (nw := s0.1) (s0 := (fun _ => 0, s0.2.1 * 10, s0.2.2 * 10)) (a := 4 * (15 - t + (2 * t + 1))) (124 - 4 * (15 - t + (2 * t + 1))) (by omega) (fun k h1 h2 => hz k (by omega))
    rw [show 4 * (15 - t + (2 * t + 1)) + (124 - 4 * (15 - t + (2 * t + 1))) = 124 by omega] at e
    rw [← e]
    refine g_Sp_pt1 (r := 16 - t + (2 * t + 1)) hm hg hw hl hmo hgo ht (fun _ => ⟨rfl, rfl⟩) (fun c => absurd ((lt_gI (t := t) (r := 16 - t + (2 * t + 1)) (by omega) (by omega)).mpr (by omega)) c)
  · refine g_Sp_pt1 (r := 16 - t + i) hm hg hw hl hmo hgo ht (fun c => absurd ((lt_gI (t := t) (r := 16 - t + i) (by omega) (by omega)).mp c) (by omega)) (fun _ => ?_)
    have K2 := loopN (P := fun p => JR M_Sp_passTick none (48, [(0, .ref 13), (1, .ref 1), (2, .int (nI l)), (3, .int (gI (16 - t + i))), (4, .int (nI p))], [], (HP e0 (.inr (8, [.ref 2, .ref 4, .int (nI m), .int (nI g), .int (nI w)])) (.inr (4, [.ref 3])) (.inl (1, 12, .inr (.inl (fun j => lN (B j))))) (.inr (4, [.ref 5])) (.inl (1, 12, .inr (.inl (fun j => lN (F j))))) e6 e7 e8 e9 e10 e11 e12 (.inr (6, [.ref 14, .ref 16, .int (nI mo), .int (nI go), .int (nI t), .int (nI m), .long ((acF m mo go (tB g w B l) (tF g F l) s0.1 (fun _ => 0, s0.2.1 * 10, s0.2.2 * 10) (4 * (15 - t + i) + p)).2.1), .long ((acF m mo go (tB g w B l) (tF g F l) s0.1 (fun _ => 0, s0.2.1 * 10, s0.2.2 * 10) (4 * (15 - t + i) + p)).2.2)])) (.inr (4, [.ref 15])) (.inl (1, 132, .inr (.inl (sh s0.1)))) (.inr (4, [.ref 17])) (.inl (1, 132, .inr (.inl (sh (acF m mo go (tB g w B l) (tF g F l) s0.1 (fun _ => 0, s0.2.1 * 10, s0.2.2 * 10) (4 * (15 - t + i) + p)).1)))) e18 e19 e20 e21 e22 e23 e24 e25 e26 e27 e28 e29 e30 e31 e32 e33 e34 e35 e36), 0, 0) (OE none (HP e0 (.inr (8, [.ref 2, .ref 4, .int (nI m), .int (nI g), .int (nI w)])) (.inr (4, [.ref 3])) (.inl (1, 12, .inr (.inl (fun j => lN (B j))))) (.inr (4, [.ref 5])) (.inl (1, 12, .inr (.inl (fun j => lN (F j))))) e6 e7 e8 e9 e10 e11 e12 (.inr (6, [.ref 14, .ref 16, .int (nI mo), .int (nI go), .int (nI t), .int (nI m), .long ((tkF m mo go (tB g w B l) (tF g F l) s0).2.1), .long ((tkF m mo go (tB g w B l) (tF g F l) s0).2.2)])) (.inr (4, [.ref 15])) (.inl (1, 132, .inr (.inl (sh (tkF m mo go (tB g w B l) (tF g F l) s0).1)))) (.inr (4, [.ref 17])) (.inl (1, 132, .inr (.inl (sh (tkF m mo go (tB g w B l) (tF g F l) s0).1)))) e18 e19 e20 e21 e22 e23 e24 e25 e26 e27 e28 e29 e30 e31 e32 e33 e34 e35 e36))) (b := m) ?_ (fun p hp ihp => ?_) 0 (Nat.zero_le _)
    · exact K2
    · refine g_Sp_pt2 (r := 16 - t + i) (p := m) hm hg hw hl hmo hgo ht (by omega) (Nat.le_refl _) (h1 m) ?_ ?_ (fun _ => ?_) (fun c => absurd c (by omega))
      · unfold pB; split <;> omega
      · unfold pA; split <;> omega
      · have e := acF_skip (m := m) (mo := mo) (go := go) (tb := tB g w B l) (tf := tF g F l) (nw := s0.1) (s0 := (fun _ => 0, s0.2.1 * 10, s0.2.2 * 10)) (a := 4 * (15 - t + i) + m) (4 - m) (by omega) (fun k h1 h2 => hz k (by omega))
        rw [show 4 * (15 - t + i) + m + (4 - m) = 4 * (15 - t + (i + 1)) by omega] at e
        rw [← e]
        exact ih
    · have e := acF_row (m := m) (mo := mo) (go := go) (tb := tB g w B l) (tf := tF g F l) (nw := s0.1) (s0 := (fun _ => 0, s0.2.1 * 10, s0.2.2 * 10)) (r := 16 - t + i) (p := p) (by omega) (by omega)
      rw [show 16 - t + i - 1 = 15 - t + i by omega] at e
      rw [show 4 * (15 - t + i) + (p + 1) = 4 * (15 - t + i) + (p + 1) from rfl, e] at ihp
      refine g_Sp_pt2 (r := 16 - t + i) (p := p) hm hg hw hl hmo hgo ht (by omega) (by omega) (h1 p) ?_ ?_ (fun c => absurd c (by omega)) (fun _ => ihp)
      · unfold pB; split <;> omega
      · unfold pA; split <;> omega
