/-! SPREAD: all ticks, sums -/
def ixF (P i0 : Nat) : Nat → Nat
  | 0 => i0
  | k + 1 => pnx P (ixF P i0 k)
theorem ixF_lt {P i0 : Nat} (h : i0 < plen P) (k : Nat) : ixF P i0 k < plen P := by
  cases k with
  | zero => exact h
  | succ k => exact pnx_lt
def one (p : Nat) : Nat → Int64 := vp_updL (fun _ => 0) (60 + p) 1
/-- after k ticks -/
def spF (m mo go g w : Nat) (B F : Nat → Nat) (P p0 i0 : Nat) : Nat → Sp3
  | 0 => (one p0, 0, 0)
  | k + 1 => tkF m mo go (tB g w B (plev P (ixF P i0 k))) (tF g F (plev P (ixF P i0 k))) (spF m mo go g w B F P p0 i0 k)
theorem supp_ar {m t mo go r p : Nat} {w : Int64} {s : Sp3} (h : supp m t s.1) (ht : t ≤ 15) (hmo : mo ≤ 16) (h1 : 15 ≤ r - 1 + t) (h2 : r - 1 ≤ 15 + t) (hp : p < m) (hm : m ≤ 4) : supp m t (arF mo go r p w s).1 := by
  unfold arF
  split
  · exact h
  · split
    · exact h
    · intro k hk
      dsimp only at hk
      unfold vp_updL at hk
      by_cases e : k = 4 * (r - 1) + p
      · omega
      · rw [if_neg e] at hk
        exact h k hk
theorem supp_up {m t : Nat} {nw : Nat → Int64} (h : supp m t nw) (ht : t ≤ 14) : supp m (t + 1) nw := by
  intro k hk
  have := h k hk
  omega
theorem supp_ac {m mo go t : Nat} {tb tf : Nat → Nat} {nw : Nat → Int64} {s0 : Sp3} (hs : supp m t nw) (ht : t ≤ 14) (hmo : mo ≤ 16) (hm : 0 < m ∧ m ≤ 4) (h0 : supp m (t + 1) s0.1) (k : Nat) (hk : k ≤ 124) : supp m (t + 1) (acF m mo go tb tf nw s0 k).1 := by
  induction k with
  | zero => exact h0
  | succ k ih =>
    have ih := ih (by omega)
    show supp m (t + 1) (srF m mo go tb tf nw (k / 4 + 1) (k % 4) (acF m mo go tb tf nw s0 k)).1
    have e := sh_get (nx := nw) (r := k / 4 + 1) (p := k % 4) (by omega) (by omega) (by omega)
    rw [show 4 * (k / 4 + 1 - 1) + k % 4 = k by omega] at e
    by_cases hz : nw k = 0
    · rw [srF_0 (by rw [e]; exact hz)]
      exact ih
    · have := hs k hz
      unfold srF
      refine supp_ar (supp_ar (supp_ar ih ?_ hmo ?_ ?_ ?_ hm.2) ?_ hmo ?_ ?_ ?_ hm.2) ?_ hmo ?_ ?_ ?_ hm.2
      all_goals first | omega | exact pB_lt hm.1 (by omega) | exact pA_lt hm.1
theorem supp_sp {m mo go g w : Nat} {B F : Nat → Nat} {P p0 i0 : Nat} (hmo : mo ≤ 16) (hm : 0 < m ∧ m ≤ 4) (hp : p0 < m) (k : Nat) (hk : k ≤ 15) : supp m k (spF m mo go g w B F P p0 i0 k).1 := by
  induction k with
  | zero =>
    intro j hj
    have hj : one p0 j ≠ 0 := hj
    unfold one vp_updL at hj
    by_cases e : j = 60 + p0
    · omega
    · rw [if_neg e] at hj
      exact absurd rfl hj
  | succ k ih =>
    have := ih (by omega)
    refine supp_ac this (by omega) hmo hm ?_ 124 (Nat.le_refl _)
    intro j hj
    exact absurd rfl hj
theorem c_Sp_cell0 {hh : aH} {p : Nat} : JE M_Sp_cell [.int 0, .int (nI p)] hh (some (.int (nI (16 * 4 + p)))) hh := c_Sp_cell (r := 16)
theorem sh_one {p : Nat} (hp : p < 4) : vp_updL (fun _ => 0) (16 * 4 + p) 1 = sh (one p) := by
  have := sh_up (nx := fun _ => 0) (r := 16) (p := p) (v := 1) (by decide) (by decide) hp
  rw [sh_0] at this
  exact this

set_option maxRecDepth 100000 in
set_option maxHeartbeats 400000 in
theorem g_Sp_p0 {sc : aScr} {e0 e7 e8 e9 e10 e11 e12 e18 e19 e20 e21 e22 e23 e24 e25 e26 e27 e28 e29 e30 e31 e32 e33 e34 e35 e36 : va_E} {m g w mo go P p0 i0 sd u T : Nat} {B F : Nat → Nat} {gn : Int32} {tk mm : Int32} {lo wo : Int64} {f0 f : Nat → Int64} {kc kn : Nat} {O : Option Value → aH → Prop} (hm : 0 < m ∧ m ≤ 4) (hg : g < 8) (hw : w < 16) (hmo : mo ≤ 16) (hgo : go ≤ 16) (hT : T ≤ 15) (hP : isPr P = true) (h256 : P < 256) (h4 : plen P ≤ 4) (hp0 : p0 < m) (hi0 : i0 < plen P) (K1 : JR M_Sp_pass sc (55, [(0, .ref 13), (1, .ref 1), (2, .int (nI P)), (3, .ref 6), (4, .int (nI T)), (5, .int (nI i0)), (6, .int 0)], [], (HP e0 (.inr (8, [.ref 2, .ref 4, .int (nI m), .int (nI g), .int (nI w)])) (.inr (4, [.ref 3])) (.inl (1, 12, .inr (.inl (fun j => lN (B j))))) (.inr (4, [.ref 5])) (.inl (1, 12, .inr (.inl (fun j => lN (F j))))) (.inr (7, [.int (nI p0), .int (nI i0), .int (nI sd), .int gn, .int (nI u)])) e7 e8 e9 e10 e11 e12 (.inr (6, [.ref 14, .ref 16, .int (nI mo), .int (nI go), .int 0, .int (nI m), .long 0, .long 0])) (.inr (4, [.ref 15])) (.inl (1, 132, .inr (.inl (sh (one p0))))) (.inr (4, [.ref 17])) (.inl (1, 132, .inr (.inl f))) e18 e19 e20 e21 e22 e23 e24 e25 e26 e27 e28 e29 e30 e31 e32 e33 e34 e35 e36), kc, kn) O) : JR M_Sp_pass sc (0, [(0, .ref 13), (1, .ref 1), (2, .int (nI P)), (3, .ref 6), (4, .int (nI T))], [], (HP e0 (.inr (8, [.ref 2, .ref 4, .int (nI m), .int (nI g), .int (nI w)])) (.inr (4, [.ref 3])) (.inl (1, 12, .inr (.inl (fun j => lN (B j))))) (.inr (4, [.ref 5])) (.inl (1, 12, .inr (.inl (fun j => lN (F j))))) (.inr (7, [.int (nI p0), .int (nI i0), .int (nI sd), .int gn, .int (nI u)])) e7 e8 e9 e10 e11 e12 (.inr (6, [.ref 14, .ref 16, .int (nI mo), .int (nI go), .int tk, .int mm, .long lo, .long wo])) (.inr (4, [.ref 15])) (.inl (1, 132, .inr (.inl f0))) (.inr (4, [.ref 17])) (.inl (1, 132, .inr (.inl f))) e18 e19 e20 e21 e22 e23 e24 e25 e26 e27 e28 e29 e30 e31 e32 e33 e34 e35 e36), kc, kn) O := by
  refine J.gp ok_Sp_pass 2 (4, [(0, .ref 13), (1, .ref 1), (2, .int (nI P)), (3, .ref 6), (4, .int (nI T))], [.ref 14], _, _, _) rfl ?_
  refine J.callVE s_Sp_pass_4 7 14 [] 4 (c_Rw_clear_14) rfl rfl rfl rfl rfl (Nat.le_of_ble_eq_true rfl) rfl ?_
  refine J.gp ok_Sp_pass 0 (7, [(0, .ref 13), (1, .ref 1), (2, .int (nI P)), (3, .ref 6), (4, .int (nI T))], [], (HP e0 (.inr (8, [.ref 2, .ref 4, .int (nI m), .int (nI g), .int (nI w)])) (.inr (4, [.ref 3])) (.inl (1, 12, .inr (.inl (fun j => lN (B j))))) (.inr (4, [.ref 5])) (.inl (1, 12, .inr (.inl (fun j => lN (F j))))) (.inr (7, [.int (nI p0), .int (nI i0), .int (nI sd), .int gn, .int (nI u)])) e7 e8 e9 e10 e11 e12 (.inr (6, [.ref 14, .ref 16, .int (nI mo), .int (nI go), .int tk, .int mm, .long lo, .long wo])) (.inr (4, [.ref 15])) (.inl (1, 132, .inr (.inl (fun _ => 0)))) (.inr (4, [.ref 17])) (.inl (1, 132, .inr (.inl f))) e18 e19 e20 e21 e22 e23 e24 e25 e26 e27 e28 e29 e30 e31 e32 e33 e34 e35 e36), kc, kn) rfl ?_
  refine J.gp ok_Sp_pass 5 (16, [(0, .ref 13), (1, .ref 1), (2, .int (nI P)), (3, .ref 6), (4, .int (nI T))], [.int (nI p0), .int 0, .ref 14], _, _, _) rfl ?_
  refine J.callSE s_Sp_pass_16 19 [.int 0, .int (nI p0)] (c_Sp_cell0) rfl rfl (Nat.le_of_ble_eq_true rfl) rfl ?_
  refine J.gp ok_Sp_pass 0 (19, [(0, .ref 13), (1, .ref 1), (2, .int (nI P)), (3, .ref 6), (4, .int (nI T))], [.int (nI (16 * 4 + p0)), .ref 14], (HP e0 (.inr (8, [.ref 2, .ref 4, .int (nI m), .int (nI g), .int (nI w)])) (.inr (4, [.ref 3])) (.inl (1, 12, .inr (.inl (fun j => lN (B j))))) (.inr (4, [.ref 5])) (.inl (1, 12, .inr (.inl (fun j => lN (F j))))) (.inr (7, [.int (nI p0), .int (nI i0), .int (nI sd), .int gn, .int (nI u)])) e7 e8 e9 e10 e11 e12 (.inr (6, [.ref 14, .ref 16, .int (nI mo), .int (nI go), .int tk, .int mm, .long lo, .long wo])) (.inr (4, [.ref 15])) (.inl (1, 132, .inr (.inl (fun _ => 0)))) (.inr (4, [.ref 17])) (.inl (1, 132, .inr (.inl f))) e18 e19 e20 e21 e22 e23 e24 e25 e26 e27 e28 e29 e30 e31 e32 e33 e34 e35 e36), kc, kn) rfl ?_
  refine J.gp ok_Sp_pass 1 (20, [(0, .ref 13), (1, .ref 1), (2, .int (nI P)), (3, .ref 6), (4, .int (nI T))], [.long 1, .int (nI (16 * 4 + p0)), .ref 14], _, _, _) rfl ?_
  refine J.callVE s_Sp_pass_20 23 14 [.int (nI (16 * 4 + p0)), .long 1] 4 (c_Rw_set_14 (j := 16 * 4 + p0) (by omega)) rfl rfl rfl rfl rfl (Nat.le_of_ble_eq_true rfl) rfl ?_
  refine J.gp ok_Sp_pass 0 (23, [(0, .ref 13), (1, .ref 1), (2, .int (nI P)), (3, .ref 6), (4, .int (nI T))], [], (HP e0 (.inr (8, [.ref 2, .ref 4, .int (nI m), .int (nI g), .int (nI w)])) (.inr (4, [.ref 3])) (.inl (1, 12, .inr (.inl (fun j => lN (B j))))) (.inr (4, [.ref 5])) (.inl (1, 12, .inr (.inl (fun j => lN (F j))))) (.inr (7, [.int (nI p0), .int (nI i0), .int (nI sd), .int gn, .int (nI u)])) e7 e8 e9 e10 e11 e12 (.inr (6, [.ref 14, .ref 16, .int (nI mo), .int (nI go), .int tk, .int mm, .long lo, .long wo])) (.inr (4, [.ref 15])) (.inl (1, 132, .inr (.inl (vp_updL (fun _ => 0) (16 * 4 + p0) 1)))) (.inr (4, [.ref 17])) (.inl (1, 132, .inr (.inl f))) e18 e19 e20 e21 e22 e23 e24 e25 e26 e27 e28 e29 e30 e31 e32 e33 e34 e35 e36), kc, kn) rfl ?_
  rw [sh_one (by omega)]
  refine J.gp ok_Sp_pass 3 (28, [(0, .ref 13), (1, .ref 1), (2, .int (nI P)), (3, .ref 6), (4, .int (nI T))], [], (HP e0 (.inr (8, [.ref 2, .ref 4, .int (nI m), .int (nI g), .int (nI w)])) (.inr (4, [.ref 3])) (.inl (1, 12, .inr (.inl (fun j => lN (B j))))) (.inr (4, [.ref 5])) (.inl (1, 12, .inr (.inl (fun j => lN (F j))))) (.inr (7, [.int (nI p0), .int (nI i0), .int (nI sd), .int gn, .int (nI u)])) e7 e8 e9 e10 e11 e12 (.inr (6, [.ref 14, .ref 16, .int (nI mo), .int (nI go), .int tk, .int mm, .long 0, .long wo])) (.inr (4, [.ref 15])) (.inl (1, 132, .inr (.inl (sh (one p0))))) (.inr (4, [.ref 17])) (.inl (1, 132, .inr (.inl f))) e18 e19 e20 e21 e22 e23 e24 e25 e26 e27 e28 e29 e30 e31 e32 e33 e34 e35 e36), _, _) rfl ?_
  refine J.gp ok_Sp_pass 3 (33, [(0, .ref 13), (1, .ref 1), (2, .int (nI P)), (3, .ref 6), (4, .int (nI T))], [], (HP e0 (.inr (8, [.ref 2, .ref 4, .int (nI m), .int (nI g), .int (nI w)])) (.inr (4, [.ref 3])) (.inl (1, 12, .inr (.inl (fun j => lN (B j))))) (.inr (4, [.ref 5])) (.inl (1, 12, .inr (.inl (fun j => lN (F j))))) (.inr (7, [.int (nI p0), .int (nI i0), .int (nI sd), .int gn, .int (nI u)])) e7 e8 e9 e10 e11 e12 (.inr (6, [.ref 14, .ref 16, .int (nI mo), .int (nI go), .int tk, .int mm, .long 0, .long 0])) (.inr (4, [.ref 15])) (.inl (1, 132, .inr (.inl (sh (one p0))))) (.inr (4, [.ref 17])) (.inl (1, 132, .inr (.inl f))) e18 e19 e20 e21 e22 e23 e24 e25 e26 e27 e28 e29 e30 e31 e32 e33 e34 e35 e36), _, _) rfl ?_
  refine J.gp ok_Sp_pass 4 (41, [(0, .ref 13), (1, .ref 1), (2, .int (nI P)), (3, .ref 6), (4, .int (nI T))], [], (HP e0 (.inr (8, [.ref 2, .ref 4, .int (nI m), .int (nI g), .int (nI w)])) (.inr (4, [.ref 3])) (.inl (1, 12, .inr (.inl (fun j => lN (B j))))) (.inr (4, [.ref 5])) (.inl (1, 12, .inr (.inl (fun j => lN (F j))))) (.inr (7, [.int (nI p0), .int (nI i0), .int (nI sd), .int gn, .int (nI u)])) e7 e8 e9 e10 e11 e12 (.inr (6, [.ref 14, .ref 16, .int (nI mo), .int (nI go), .int tk, .int (nI m), .long 0, .long 0])) (.inr (4, [.ref 15])) (.inl (1, 132, .inr (.inl (sh (one p0))))) (.inr (4, [.ref 17])) (.inl (1, 132, .inr (.inl f))) e18 e19 e20 e21 e22 e23 e24 e25 e26 e27 e28 e29 e30 e31 e32 e33 e34 e35 e36), _, _) rfl ?_
  refine J.gp ok_Sp_pass 3 (46, [(0, .ref 13), (1, .ref 1), (2, .int (nI P)), (3, .ref 6), (4, .int (nI T))], [], (HP e0 (.inr (8, [.ref 2, .ref 4, .int (nI m), .int (nI g), .int (nI w)])) (.inr (4, [.ref 3])) (.inl (1, 12, .inr (.inl (fun j => lN (B j))))) (.inr (4, [.ref 5])) (.inl (1, 12, .inr (.inl (fun j => lN (F j))))) (.inr (7, [.int (nI p0), .int (nI i0), .int (nI sd), .int gn, .int (nI u)])) e7 e8 e9 e10 e11 e12 (.inr (6, [.ref 14, .ref 16, .int (nI mo), .int (nI go), .int 0, .int (nI m), .long 0, .long 0])) (.inr (4, [.ref 15])) (.inl (1, 132, .inr (.inl (sh (one p0))))) (.inr (4, [.ref 17])) (.inl (1, 132, .inr (.inl f))) e18 e19 e20 e21 e22 e23 e24 e25 e26 e27 e28 e29 e30 e31 e32 e33 e34 e35 e36), _, _) rfl ?_
  refine J.gp ok_Sp_pass 5 (55, [(0, .ref 13), (1, .ref 1), (2, .int (nI P)), (3, .ref 6), (4, .int (nI T)), (5, .int (nI i0)), (6, .int 0)], [], _, _, _) rfl ?_
  exact K1

set_option maxRecDepth 100000 in
set_option maxHeartbeats 400000 in
theorem g_Sp_p1 {sc : aScr} {e0 e7 e8 e9 e10 e11 e12 e18 e19 e20 e21 e22 e23 e24 e25 e26 e27 e28 e29 e30 e31 e32 e33 e34 e35 e36 : va_E} {m g w mo go P p0 i0 sd u T j : Nat} {B F : Nat → Nat} {gn : Int32} {f : Nat → Int64} {kc kn : Nat} {O : Option Value → aH → Prop} (hm : 0 < m ∧ m ≤ 4) (hg : g < 8) (hw : w < 16) (hmo : mo ≤ 16) (hgo : go ≤ 16) (hT : T ≤ 15) (hP : isPr P = true) (h256 : P < 256) (h4 : plen P ≤ 4) (hp0 : p0 < m) (hi0 : i0 < plen P) (hj : j ≤ T) (hB : ∀ j, B j + F j ≤ 10) (hx : ixF P i0 j < plen P) (hl : plev P (ixF P i0 j) < 3) (hsu : j < T → supp m j (spF m mo go g w B F P p0 i0 j).1) (K1 : (T ≤ j) → O none (HP e0 (.inr (8, [.ref 2, .ref 4, .int (nI m), .int (nI g), .int (nI w)])) (.inr (4, [.ref 3])) (.inl (1, 12, .inr (.inl (fun j => lN (B j))))) (.inr (4, [.ref 5])) (.inl (1, 12, .inr (.inl (fun j => lN (F j))))) (.inr (7, [.int (nI p0), .int (nI i0), .int (nI sd), .int gn, .int (nI u)])) e7 e8 e9 e10 e11 e12 (.inr (6, [.ref 14, .ref 16, .int (nI mo), .int (nI go), .int (nI j), .int (nI m), .long ((spF m mo go g w B F P p0 i0 j).2.1), .long ((spF m mo go g w B F P p0 i0 j).2.2)])) (.inr (4, [.ref 15])) (.inl (1, 132, .inr (.inl (sh (spF m mo go g w B F P p0 i0 j).1)))) (.inr (4, [.ref 17])) (.inl (1, 132, .inr (.inl f))) e18 e19 e20 e21 e22 e23 e24 e25 e26 e27 e28 e29 e30 e31 e32 e33 e34 e35 e36)) (K2 : (j < T) → JR M_Sp_pass sc (55, [(0, .ref 13), (1, .ref 1), (2, .int (nI P)), (3, .ref 6), (4, .int (nI T)), (5, .int (nI (pnx P (ixF P i0 j)))), (6, .int (nI (j + 1)))], [], (HP e0 (.inr (8, [.ref 2, .ref 4, .int (nI m), .int (nI g), .int (nI w)])) (.inr (4, [.ref 3])) (.inl (1, 12, .inr (.inl (fun j => lN (B j))))) (.inr (4, [.ref 5])) (.inl (1, 12, .inr (.inl (fun j => lN (F j))))) (.inr (7, [.int (nI p0), .int (nI i0), .int (nI sd), .int gn, .int (nI u)])) e7 e8 e9 e10 e11 e12 (.inr (6, [.ref 14, .ref 16, .int (nI mo), .int (nI go), .int (nI (j + 1)), .int (nI m), .long ((tkF m mo go (tB g w B (plev P (ixF P i0 j))) (tF g F (plev P (ixF P i0 j))) (spF m mo go g w B F P p0 i0 j)).2.1), .long ((tkF m mo go (tB g w B (plev P (ixF P i0 j))) (tF g F (plev P (ixF P i0 j))) (spF m mo go g w B F P p0 i0 j)).2.2)])) (.inr (4, [.ref 15])) (.inl (1, 132, .inr (.inl (sh (tkF m mo go (tB g w B (plev P (ixF P i0 j))) (tF g F (plev P (ixF P i0 j))) (spF m mo go g w B F P p0 i0 j)).1)))) (.inr (4, [.ref 17])) (.inl (1, 132, .inr (.inl (sh (tkF m mo go (tB g w B (plev P (ixF P i0 j))) (tF g F (plev P (ixF P i0 j))) (spF m mo go g w B F P p0 i0 j)).1)))) e18 e19 e20 e21 e22 e23 e24 e25 e26 e27 e28 e29 e30 e31 e32 e33 e34 e35 e36), kc, kn) O) : JR M_Sp_pass sc (55, [(0, .ref 13), (1, .ref 1), (2, .int (nI P)), (3, .ref 6), (4, .int (nI T)), (5, .int (nI (ixF P i0 j))), (6, .int (nI j))], [], (HP e0 (.inr (8, [.ref 2, .ref 4, .int (nI m), .int (nI g), .int (nI w)])) (.inr (4, [.ref 3])) (.inl (1, 12, .inr (.inl (fun j => lN (B j))))) (.inr (4, [.ref 5])) (.inl (1, 12, .inr (.inl (fun j => lN (F j))))) (.inr (7, [.int (nI p0), .int (nI i0), .int (nI sd), .int gn, .int (nI u)])) e7 e8 e9 e10 e11 e12 (.inr (6, [.ref 14, .ref 16, .int (nI mo), .int (nI go), .int (nI j), .int (nI m), .long ((spF m mo go g w B F P p0 i0 j).2.1), .long ((spF m mo go g w B F P p0 i0 j).2.2)])) (.inr (4, [.ref 15])) (.inl (1, 132, .inr (.inl (sh (spF m mo go g w B F P p0 i0 j).1)))) (.inr (4, [.ref 17])) (.inl (1, 132, .inr (.inl f))) e18 e19 e20 e21 e22 e23 e24 e25 e26 e27 e28 e29 e30 e31 e32 e33 e34 e35 e36), kc, kn) O := by
  refine J.gp ok_Sp_pass 2 (59, [(0, .ref 13), (1, .ref 1), (2, .int (nI P)), (3, .ref 6), (4, .int (nI T)), (5, .int (nI (ixF P i0 j))), (6, .int (nI j))], [.int (nI T), .int (nI j)], _, _, _) rfl ?_
  refine J.icB ok_Sp_pass (fun x y => y ≤ x) 97 62 rfl (fun (h0 : nI T ≤ nI j) => ?_) (fun (h0 : ¬ (nI T ≤ nI j)) => ?_)
  · have c59 : T ≤ j := (nI_leI (a := T) (b := j) (by omega) (by omega)).mp h0
    refine JR.vret (by decide +kernel) rfl ?_
    exact K1 c59
  · have c59 : j < T := Nat.not_le.mp (fun h9 => h0 ((nI_leI (a := T) (b := j) (by omega) (by omega)).mpr h9))
    refine J.gp ok_Sp_pass 4 (67, [(0, .ref 13), (1, .ref 1), (2, .int (nI P)), (3, .ref 6), (4, .int (nI T)), (5, .int (nI (ixF P i0 j))), (6, .int (nI j))], [.int (nI (ixF P i0 j)), .int (nI P), .ref 1, .ref 13], _, _, _) rfl ?_
    refine J.callSNE s_Sp_pass_67 70 [.int (nI P), .int (nI (ixF P i0 j))] (c_F_leverAt (by assumption) (by omega)) rfl rfl (Nat.le_of_ble_eq_true rfl) rfl ?_
    refine J.gp ok_Sp_pass 0 (70, [(0, .ref 13), (1, .ref 1), (2, .int (nI P)), (3, .ref 6), (4, .int (nI T)), (5, .int (nI (ixF P i0 j))), (6, .int (nI j))], [.int (nI (plev P (ixF P i0 j))), .ref 1, .ref 13], (HP e0 (.inr (8, [.ref 2, .ref 4, .int (nI m), .int (nI g), .int (nI w)])) (.inr (4, [.ref 3])) (.inl (1, 12, .inr (.inl (fun j => lN (B j))))) (.inr (4, [.ref 5])) (.inl (1, 12, .inr (.inl (fun j => lN (F j))))) (.inr (7, [.int (nI p0), .int (nI i0), .int (nI sd), .int gn, .int (nI u)])) e7 e8 e9 e10 e11 e12 (.inr (6, [.ref 14, .ref 16, .int (nI mo), .int (nI go), .int (nI j), .int (nI m), .long ((spF m mo go g w B F P p0 i0 j).2.1), .long ((spF m mo go g w B F P p0 i0 j).2.2)])) (.inr (4, [.ref 15])) (.inl (1, 132, .inr (.inl (sh (spF m mo go g w B F P p0 i0 j).1)))) (.inr (4, [.ref 17])) (.inl (1, 132, .inr (.inl f))) e18 e19 e20 e21 e22 e23 e24 e25 e26 e27 e28 e29 e30 e31 e32 e33 e34 e35 e36), kc, kn) rfl ?_
    refine J.callVE s_Sp_pass_70 73 13 [.ref 1, .int (nI (plev P (ixF P i0 j)))] 6 (c_Sp_passTick (s0 := (spF m mo go g w B F P p0 i0 j)) hm hg hw (by omega) hmo hgo (by omega) hB (hsu c59)) rfl rfl rfl rfl rfl (Nat.le_of_ble_eq_true rfl) rfl ?_
    refine J.gp ok_Sp_pass 0 (73, [(0, .ref 13), (1, .ref 1), (2, .int (nI P)), (3, .ref 6), (4, .int (nI T)), (5, .int (nI (ixF P i0 j))), (6, .int (nI j))], [], (HP e0 (.inr (8, [.ref 2, .ref 4, .int (nI m), .int (nI g), .int (nI w)])) (.inr (4, [.ref 3])) (.inl (1, 12, .inr (.inl (fun j => lN (B j))))) (.inr (4, [.ref 5])) (.inl (1, 12, .inr (.inl (fun j => lN (F j))))) (.inr (7, [.int (nI p0), .int (nI i0), .int (nI sd), .int gn, .int (nI u)])) e7 e8 e9 e10 e11 e12 (.inr (6, [.ref 14, .ref 16, .int (nI mo), .int (nI go), .int (nI j), .int (nI m), .long ((tkF m mo go (tB g w B (plev P (ixF P i0 j))) (tF g F (plev P (ixF P i0 j))) (spF m mo go g w B F P p0 i0 j)).2.1), .long ((tkF m mo go (tB g w B (plev P (ixF P i0 j))) (tF g F (plev P (ixF P i0 j))) (spF m mo go g w B F P p0 i0 j)).2.2)])) (.inr (4, [.ref 15])) (.inl (1, 132, .inr (.inl (sh (tkF m mo go (tB g w B (plev P (ixF P i0 j))) (tF g F (plev P (ixF P i0 j))) (spF m mo go g w B F P p0 i0 j)).1)))) (.inr (4, [.ref 17])) (.inl (1, 132, .inr (.inl (sh (tkF m mo go (tB g w B (plev P (ixF P i0 j))) (tF g F (plev P (ixF P i0 j))) (spF m mo go g w B F P p0 i0 j)).1)))) e18 e19 e20 e21 e22 e23 e24 e25 e26 e27 e28 e29 e30 e31 e32 e33 e34 e35 e36), kc, kn) rfl ?_
    refine J.gp ok_Sp_pass 5 (80, [(0, .ref 13), (1, .ref 1), (2, .int (nI P)), (3, .ref 6), (4, .int (nI T)), (5, .int (nI (ixF P i0 j))), (6, .int (nI j))], [.int (nI j + 1), .ref 13], _, _, _) rfl ?_
    rw [show ((nI j + 1) : Int32) = nI (j + 1) from nI_add j 1]
    refine J.gp ok_Sp_pass 1 (83, [(0, .ref 13), (1, .ref 1), (2, .int (nI P)), (3, .ref 6), (4, .int (nI T)), (5, .int (nI (ixF P i0 j))), (6, .int (nI j))], [], (HP e0 (.inr (8, [.ref 2, .ref 4, .int (nI m), .int (nI g), .int (nI w)])) (.inr (4, [.ref 3])) (.inl (1, 12, .inr (.inl (fun j => lN (B j))))) (.inr (4, [.ref 5])) (.inl (1, 12, .inr (.inl (fun j => lN (F j))))) (.inr (7, [.int (nI p0), .int (nI i0), .int (nI sd), .int gn, .int (nI u)])) e7 e8 e9 e10 e11 e12 (.inr (6, [.ref 14, .ref 16, .int (nI mo), .int (nI go), .int (nI (j + 1)), .int (nI m), .long ((tkF m mo go (tB g w B (plev P (ixF P i0 j))) (tF g F (plev P (ixF P i0 j))) (spF m mo go g w B F P p0 i0 j)).2.1), .long ((tkF m mo go (tB g w B (plev P (ixF P i0 j))) (tF g F (plev P (ixF P i0 j))) (spF m mo go g w B F P p0 i0 j)).2.2)])) (.inr (4, [.ref 15])) (.inl (1, 132, .inr (.inl (sh (tkF m mo go (tB g w B (plev P (ixF P i0 j))) (tF g F (plev P (ixF P i0 j))) (spF m mo go g w B F P p0 i0 j)).1)))) (.inr (4, [.ref 17])) (.inl (1, 132, .inr (.inl (sh (tkF m mo go (tB g w B (plev P (ixF P i0 j))) (tF g F (plev P (ixF P i0 j))) (spF m mo go g w B F P p0 i0 j)).1)))) e18 e19 e20 e21 e22 e23 e24 e25 e26 e27 e28 e29 e30 e31 e32 e33 e34 e35 e36), _, _) rfl ?_
    refine J.gp ok_Sp_pass 2 (86, [(0, .ref 13), (1, .ref 1), (2, .int (nI P)), (3, .ref 6), (4, .int (nI T)), (5, .int (nI (ixF P i0 j))), (6, .int (nI j))], [.int (nI (ixF P i0 j)), .int (nI P)], _, _, _) rfl ?_
    refine J.callSNE s_Sp_pass_86 89 [.int (nI P), .int (nI (ixF P i0 j))] (c_F_indexAfter (by omega) (by omega)) rfl rfl (Nat.le_of_ble_eq_true rfl) rfl ?_
    refine J.gp ok_Sp_pass 0 (89, [(0, .ref 13), (1, .ref 1), (2, .int (nI P)), (3, .ref 6), (4, .int (nI T)), (5, .int (nI (ixF P i0 j))), (6, .int (nI j))], [.int (nI (pnx P (ixF P i0 j)))], (HP e0 (.inr (8, [.ref 2, .ref 4, .int (nI m), .int (nI g), .int (nI w)])) (.inr (4, [.ref 3])) (.inl (1, 12, .inr (.inl (fun j => lN (B j))))) (.inr (4, [.ref 5])) (.inl (1, 12, .inr (.inl (fun j => lN (F j))))) (.inr (7, [.int (nI p0), .int (nI i0), .int (nI sd), .int gn, .int (nI u)])) e7 e8 e9 e10 e11 e12 (.inr (6, [.ref 14, .ref 16, .int (nI mo), .int (nI go), .int (nI (j + 1)), .int (nI m), .long ((tkF m mo go (tB g w B (plev P (ixF P i0 j))) (tF g F (plev P (ixF P i0 j))) (spF m mo go g w B F P p0 i0 j)).2.1), .long ((tkF m mo go (tB g w B (plev P (ixF P i0 j))) (tF g F (plev P (ixF P i0 j))) (spF m mo go g w B F P p0 i0 j)).2.2)])) (.inr (4, [.ref 15])) (.inl (1, 132, .inr (.inl (sh (tkF m mo go (tB g w B (plev P (ixF P i0 j))) (tF g F (plev P (ixF P i0 j))) (spF m mo go g w B F P p0 i0 j)).1)))) (.inr (4, [.ref 17])) (.inl (1, 132, .inr (.inl (sh (tkF m mo go (tB g w B (plev P (ixF P i0 j))) (tF g F (plev P (ixF P i0 j))) (spF m mo go g w B F P p0 i0 j)).1)))) e18 e19 e20 e21 e22 e23 e24 e25 e26 e27 e28 e29 e30 e31 e32 e33 e34 e35 e36), kc, kn) rfl ?_
    refine J.gp ok_Sp_pass 2 (94, [(0, .ref 13), (1, .ref 1), (2, .int (nI P)), (3, .ref 6), (4, .int (nI T)), (5, .int (nI (pnx P (ixF P i0 j)))), (6, .int (nI j + 1))], [], _, _, _) rfl ?_
    rw [show ((nI j + 1) : Int32) = nI (j + 1) from nI_add j 1]
    refine J.gp ok_Sp_pass 1 (55, [(0, .ref 13), (1, .ref 1), (2, .int (nI P)), (3, .ref 6), (4, .int (nI T)), (5, .int (nI (pnx P (ixF P i0 j)))), (6, .int (nI (j + 1)))], [], _, _, _) rfl ?_
    exact K2 c59

set_option maxRecDepth 100000 in
set_option maxHeartbeats 1000000 in
theorem c_Sp_pass {e0 e7 e8 e9 e10 e11 e12 e18 e19 e20 e21 e22 e23 e24 e25 e26 e27 e28 e29 e30 e31 e32 e33 e34 e35 e36 : va_E} {m g w mo go P p0 i0 sd u T : Nat} {B F : Nat → Nat} {gn : Int32} {tk mm : Int32} {lo wo : Int64} {f0 f : Nat → Int64} (hm : 0 < m ∧ m ≤ 4) (hg : g < 8) (hw : w < 16) (hmo : mo ≤ 16) (hgo : go ≤ 16) (hT : T ≤ 15) (hP : isPr P = true) (hp0 : p0 < m) (hi0 : i0 < plen P) (hB : ∀ j, B j + F j ≤ 10) : JM M_Sp_pass [.ref 13, .ref 1, .int (nI P), .ref 6, .int (nI T)] (HP e0 (.inr (8, [.ref 2, .ref 4, .int (nI m), .int (nI g), .int (nI w)])) (.inr (4, [.ref 3])) (.inl (1, 12, .inr (.inl (fun j => lN (B j))))) (.inr (4, [.ref 5])) (.inl (1, 12, .inr (.inl (fun j => lN (F j))))) (.inr (7, [.int (nI p0), .int (nI i0), .int (nI sd), .int gn, .int (nI u)])) e7 e8 e9 e10 e11 e12 (.inr (6, [.ref 14, .ref 16, .int (nI mo), .int (nI go), .int tk, .int mm, .long lo, .long wo])) (.inr (4, [.ref 15])) (.inl (1, 132, .inr (.inl f0))) (.inr (4, [.ref 17])) (.inl (1, 132, .inr (.inl f))) e18 e19 e20 e21 e22 e23 e24 e25 e26 e27 e28 e29 e30 e31 e32 e33 e34 e35 e36) 0 0 (fun v q => v = none ∧ ∃ f2 : Nat → Int64, q = (HP e0 (.inr (8, [.ref 2, .ref 4, .int (nI m), .int (nI g), .int (nI w)])) (.inr (4, [.ref 3])) (.inl (1, 12, .inr (.inl (fun j => lN (B j))))) (.inr (4, [.ref 5])) (.inl (1, 12, .inr (.inl (fun j => lN (F j))))) (.inr (7, [.int (nI p0), .int (nI i0), .int (nI sd), .int gn, .int (nI u)])) e7 e8 e9 e10 e11 e12 (.inr (6, [.ref 14, .ref 16, .int (nI mo), .int (nI go), .int (nI T), .int (nI m), .long ((spF m mo go g w B F P p0 i0 T).2.1), .long ((spF m mo go g w B F P p0 i0 T).2.2)])) (.inr (4, [.ref 15])) (.inl (1, 132, .inr (.inl (sh (spF m mo go g w B F P p0 i0 T).1)))) (.inr (4, [.ref 17])) (.inl (1, 132, .inr (.inl f2))) e18 e19 e20 e21 e22 e23 e24 e25 e26 e27 e28 e29 e30 e31 e32 e33 e34 e35 e36)) := by
  refine JM.of (by decide +kernel) rfl (Nat.le_of_ble_eq_true rfl) (g_Sp_p0 hm hg hw hmo hgo hT hP (isPr_bd hP).2 (plen_le P) hp0 hi0 ?_)
  have K := loopN (P := fun j => ∀ f : Nat → Int64, JR M_Sp_pass none (55, [(0, .ref 13), (1, .ref 1), (2, .int (nI P)), (3, .ref 6), (4, .int (nI T)), (5, .int (nI (ixF P i0 j))), (6, .int (nI j))], [], (HP e0 (.inr (8, [.ref 2, .ref 4, .int (nI m), .int (nI g), .int (nI w)])) (.inr (4, [.ref 3])) (.inl (1, 12, .inr (.inl (fun j => lN (B j))))) (.inr (4, [.ref 5])) (.inl (1, 12, .inr (.inl (fun j => lN (F j))))) (.inr (7, [.int (nI p0), .int (nI i0), .int (nI sd), .int gn, .int (nI u)])) e7 e8 e9 e10 e11 e12 (.inr (6, [.ref 14, .ref 16, .int (nI mo), .int (nI go), .int (nI j), .int (nI m), .long ((spF m mo go g w B F P p0 i0 j).2.1), .long ((spF m mo go g w B F P p0 i0 j).2.2)])) (.inr (4, [.ref 15])) (.inl (1, 132, .inr (.inl (sh (spF m mo go g w B F P p0 i0 j).1)))) (.inr (4, [.ref 17])) (.inl (1, 132, .inr (.inl f))) e18 e19 e20 e21 e22 e23 e24 e25 e26 e27 e28 e29 e30 e31 e32 e33 e34 e35 e36), 0, 0) (fun v q => v = none ∧ ∃ f2 : Nat → Int64, q = (HP e0 (.inr (8, [.ref 2, .ref 4, .int (nI m), .int (nI g), .int (nI w)])) (.inr (4, [.ref 3])) (.inl (1, 12, .inr (.inl (fun j => lN (B j))))) (.inr (4, [.ref 5])) (.inl (1, 12, .inr (.inl (fun j => lN (F j))))) (.inr (7, [.int (nI p0), .int (nI i0), .int (nI sd), .int gn, .int (nI u)])) e7 e8 e9 e10 e11 e12 (.inr (6, [.ref 14, .ref 16, .int (nI mo), .int (nI go), .int (nI T), .int (nI m), .long ((spF m mo go g w B F P p0 i0 T).2.1), .long ((spF m mo go g w B F P p0 i0 T).2.2)])) (.inr (4, [.ref 15])) (.inl (1, 132, .inr (.inl (sh (spF m mo go g w B F P p0 i0 T).1)))) (.inr (4, [.ref 17])) (.inl (1, 132, .inr (.inl f2))) e18 e19 e20 e21 e22 e23 e24 e25 e26 e27 e28 e29 e30 e31 e32 e33 e34 e35 e36))) (b := T) ?_ (fun j hj ih => ?_) 0 (Nat.zero_le _)
  · exact K f
  · intro f
    exact g_Sp_p1 hm hg hw hmo hgo hT hP (isPr_bd hP).2 (plen_le P) hp0 hi0 (Nat.le_refl _) hB (ixF_lt hi0 T) plev_lt (fun h => absurd h (Nat.lt_irrefl _)) (fun _ => ⟨rfl, _, rfl⟩) (fun c => absurd c (Nat.lt_irrefl _))
  · intro f
    exact g_Sp_p1 hm hg hw hmo hgo hT hP (isPr_bd hP).2 (plen_le P) hp0 hi0 (Nat.le_of_lt hj) hB (ixF_lt hi0 j) plev_lt (fun _ => supp_sp hmo hm hp0 j (by omega)) (fun c => absurd c (by omega)) (fun _ => ih _)

/-- the chances at a position, over the first rows -/
def smP (nw : Nat → Int64) (p : Nat) : Nat → Int64
  | 0 => 0
  | k + 1 => smP nw p k + nw (4 * k + p)
/-- the chances from row lo on, over the first places -/
def smG (nw : Nat → Int64) (lo : Nat) : Nat → Int64
  | 0 => 0
  | k + 1 => smG nw lo k + (if lo ≤ k / 4 then nw k else 0)
theorem smP_skip {nw : Nat → Int64} {p a : Nat} (d : Nat) (h : ∀ k, a ≤ k → k < a + d → nw (4 * k + p) = 0) : smP nw p (a + d) = smP nw p a := by
  induction d with
  | zero => rfl
  | succ d ih =>
    show smP nw p (a + d) + nw (4 * (a + d) + p) = _
    rw [ih (fun k h1 h2 => h k h1 (by omega)), h (a + d) (by omega) (by omega), Int64.add_zero]
theorem smG_skip {nw : Nat → Int64} {lo a : Nat} (d : Nat) (h : ∀ k, a ≤ k → k < a + d → lo ≤ k / 4 → nw k = 0) : smG nw lo (a + d) = smG nw lo a := by
  induction d with
  | zero => rfl
  | succ d ih =>
    show smG nw lo (a + d) + (if lo ≤ (a + d) / 4 then nw (a + d) else 0) = _
    rw [ih (fun k h1 h2 => h k h1 (by omega))]
    split
    · rw [h (a + d) (by omega) (by omega) (by assumption), Int64.add_zero]
    · rw [Int64.add_zero]
theorem smG_row {nw : Nat → Int64} {lo r p : Nat} (hr : lo ≤ r) (hp : p < 4) : smG nw lo (4 * r + (p + 1)) = smG nw lo (4 * r + p) + nw (4 * r + p) := by
  show smG nw lo (4 * r + p) + (if lo ≤ (4 * r + p) / 4 then nw (4 * r + p) else 0) = _
  rw [if_pos (by omega)]

set_option maxRecDepth 100000 in
set_option maxHeartbeats 400000 in
theorem g_Sp_op0 {sc : aScr} {e0 e1 e2 e3 e4 e5 e6 e7 e8 e9 e10 e11 e12 e16 e17 e18 e19 e20 e21 e22 e23 e24 e25 e26 e27 e28 e29 e30 e31 e32 e33 e34 e35 e36 : va_E} {m : Nat} {mo go : Int32} {lst wn : Int64} {t p : Nat} {nw : Nat → Int64} {kc kn : Nat} {O : Option Value → aH → Prop} (ht : t ≤ 15) (K1 : JR M_Sp_ofPosition sc (9, [(0, .ref 13), (1, .int (nI p)), (2, .long 0), (4, .int (gI (16 - t)))], [], (HP e0 e1 e2 e3 e4 e5 e6 e7 e8 e9 e10 e11 e12 (.inr (6, [.ref 14, .ref 16, .int mo, .int go, .int (nI t), .int (nI m), .long lst, .long wn])) (.inr (4, [.ref 15])) (.inl (1, 132, .inr (.inl (sh nw)))) e16 e17 e18 e19 e20 e21 e22 e23 e24 e25 e26 e27 e28 e29 e30 e31 e32 e33 e34 e35 e36), kc, kn) O) : JR M_Sp_ofPosition sc (0, [(0, .ref 13), (1, .int (nI p))], [], (HP e0 e1 e2 e3 e4 e5 e6 e7 e8 e9 e10 e11 e12 (.inr (6, [.ref 14, .ref 16, .int mo, .int go, .int (nI t), .int (nI m), .long lst, .long wn])) (.inr (4, [.ref 15])) (.inl (1, 132, .inr (.inl (sh nw)))) e16 e17 e18 e19 e20 e21 e22 e23 e24 e25 e26 e27 e28 e29 e30 e31 e32 e33 e34 e35 e36), kc, kn) O := by
  refine J.gp ok_Sp_ofPosition 5 (7, [(0, .ref 13), (1, .int (nI p)), (2, .long 0)], [.int (-nI t)], _, _, _) rfl ?_
  rw [show ((-nI t)) = gI (16 - t) from gI_neg (by omega)]
  refine J.gp ok_Sp_ofPosition 1 (9, [(0, .ref 13), (1, .int (nI p)), (2, .long 0), (4, .int (gI (16 - t)))], [], _, _, _) rfl ?_
  exact K1

set_option maxRecDepth 100000 in
set_option maxHeartbeats 400000 in
theorem g_Sp_op1 {sc : aScr} {e0 e1 e2 e3 e4 e5 e6 e7 e8 e9 e10 e11 e12 e16 e17 e18 e19 e20 e21 e22 e23 e24 e25 e26 e27 e28 e29 e30 e31 e32 e33 e34 e35 e36 : va_E} {m : Nat} {mo go : Int32} {lst wn : Int64} {t p r : Nat} {nw : Nat → Int64} {a : Int64} {kc kn : Nat} {O : Option Value → aH → Prop} (ht : t ≤ 15) (hp : p < 4) (hr : 1 ≤ r ∧ r ≤ 32) (K1 : (nI t < gI r) → O (some (.long a)) (HP e0 e1 e2 e3 e4 e5 e6 e7 e8 e9 e10 e11 e12 (.inr (6, [.ref 14, .ref 16, .int mo, .int go, .int (nI t), .int (nI m), .long lst, .long wn])) (.inr (4, [.ref 15])) (.inl (1, 132, .inr (.inl (sh nw)))) e16 e17 e18 e19 e20 e21 e22 e23 e24 e25 e26 e27 e28 e29 e30 e31 e32 e33 e34 e35 e36)) (K2 : (¬ (nI t < gI r)) → JR M_Sp_ofPosition sc (9, [(0, .ref 13), (1, .int (nI p)), (2, .long (a + ((sh nw) (r * 4 + p)))), (4, .int (gI (r + 1)))], [], (HP e0 e1 e2 e3 e4 e5 e6 e7 e8 e9 e10 e11 e12 (.inr (6, [.ref 14, .ref 16, .int mo, .int go, .int (nI t), .int (nI m), .long lst, .long wn])) (.inr (4, [.ref 15])) (.inl (1, 132, .inr (.inl (sh nw)))) e16 e17 e18 e19 e20 e21 e22 e23 e24 e25 e26 e27 e28 e29 e30 e31 e32 e33 e34 e35 e36), kc, kn) O) : JR M_Sp_ofPosition sc (9, [(0, .ref 13), (1, .int (nI p)), (2, .long a), (4, .int (gI r))], [], (HP e0 e1 e2 e3 e4 e5 e6 e7 e8 e9 e10 e11 e12 (.inr (6, [.ref 14, .ref 16, .int mo, .int go, .int (nI t), .int (nI m), .long lst, .long wn])) (.inr (4, [.ref 15])) (.inl (1, 132, .inr (.inl (sh nw)))) e16 e17 e18 e19 e20 e21 e22 e23 e24 e25 e26 e27 e28 e29 e30 e31 e32 e33 e34 e35 e36), kc, kn) O := by
  refine J.gp ok_Sp_ofPosition 3 (15, [(0, .ref 13), (1, .int (nI p)), (2, .long a), (4, .int (gI r))], [.int (nI t), .int (gI r)], _, _, _) rfl ?_
  refine J.icB ok_Sp_ofPosition (fun x y => y < x) 40 18 rfl (fun (c15 : nI t < gI r) => ?_) (fun (c15 : ¬ (nI t < gI r)) => ?_)
  · refine J.gp ok_Sp_ofPosition 1 (41, [(0, .ref 13), (1, .int (nI p)), (2, .long a), (4, .int (gI r))], [.long a], _, _, _) rfl ?_
    refine JR.lret (by decide +kernel) rfl ?_
    exact K1 c15
  · refine J.gp ok_Sp_ofPosition 5 (26, [(0, .ref 13), (1, .int (nI p)), (2, .long a), (4, .int (gI r))], [.int (nI p), .int (gI r), .ref 14, .long a], _, _, _) rfl ?_
    refine J.callSE s_Sp_ofPosition_26 29 [.int (gI r), .int (nI p)] (c_Sp_cell (r := r)) rfl rfl (Nat.le_of_ble_eq_true rfl) rfl ?_
    refine J.gp ok_Sp_ofPosition 0 (29, [(0, .ref 13), (1, .int (nI p)), (2, .long a), (4, .int (gI r))], [.int (nI (r * 4 + p)), .ref 14, .long a], (HP e0 e1 e2 e3 e4 e5 e6 e7 e8 e9 e10 e11 e12 (.inr (6, [.ref 14, .ref 16, .int mo, .int go, .int (nI t), .int (nI m), .long lst, .long wn])) (.inr (4, [.ref 15])) (.inl (1, 132, .inr (.inl (sh nw)))) e16 e17 e18 e19 e20 e21 e22 e23 e24 e25 e26 e27 e28 e29 e30 e31 e32 e33 e34 e35 e36), kc, kn) rfl ?_
    refine J.callVE s_Sp_ofPosition_29 32 14 [.int (nI (r * 4 + p))] 4 (c_Rw_get_14 (j := r * 4 + p) (by have : ¬ t + 16 < r := fun h => c15 ((lt_gI (by omega) (by omega)).mpr h); omega)) rfl rfl rfl rfl rfl (Nat.le_of_ble_eq_true rfl) rfl ?_
    refine J.gp ok_Sp_ofPosition 0 (32, [(0, .ref 13), (1, .int (nI p)), (2, .long a), (4, .int (gI r))], [.long ((sh nw) (r * 4 + p)), .long a], (HP e0 e1 e2 e3 e4 e5 e6 e7 e8 e9 e10 e11 e12 (.inr (6, [.ref 14, .ref 16, .int mo, .int go, .int (nI t), .int (nI m), .long lst, .long wn])) (.inr (4, [.ref 15])) (.inl (1, 132, .inr (.inl (sh nw)))) e16 e17 e18 e19 e20 e21 e22 e23 e24 e25 e26 e27 e28 e29 e30 e31 e32 e33 e34 e35 e36), kc, kn) rfl ?_
    refine J.gp ok_Sp_ofPosition 3 (37, [(0, .ref 13), (1, .int (nI p)), (2, .long (a + ((sh nw) (r * 4 + p)))), (4, .int (gI r + 1))], [], _, _, _) rfl ?_
    rw [show ((gI r + 1)) = gI (r + 1) from gI_up _]
    refine J.gp ok_Sp_ofPosition 1 (9, [(0, .ref 13), (1, .int (nI p)), (2, .long (a + ((sh nw) (r * 4 + p)))), (4, .int (gI (r + 1)))], [], _, _, _) rfl ?_
    exact K2 c15

set_option maxRecDepth 100000 in
theorem c_Sp_ofPosition {e0 e1 e2 e3 e4 e5 e6 e7 e8 e9 e10 e11 e12 e16 e17 e18 e19 e20 e21 e22 e23 e24 e25 e26 e27 e28 e29 e30 e31 e32 e33 e34 e35 e36 : va_E} {m : Nat} {mo go : Int32} {lst wn : Int64} {t p : Nat} {nw : Nat → Int64} (ht : t ≤ 15) (hp : p < 4) (hs : supp m t nw) : JE M_Sp_ofPosition [.ref 13, .int (nI p)] (HP e0 e1 e2 e3 e4 e5 e6 e7 e8 e9 e10 e11 e12 (.inr (6, [.ref 14, .ref 16, .int mo, .int go, .int (nI t), .int (nI m), .long lst, .long wn])) (.inr (4, [.ref 15])) (.inl (1, 132, .inr (.inl (sh nw)))) e16 e17 e18 e19 e20 e21 e22 e23 e24 e25 e26 e27 e28 e29 e30 e31 e32 e33 e34 e35 e36) (some (.long (smP nw p 31))) (HP e0 e1 e2 e3 e4 e5 e6 e7 e8 e9 e10 e11 e12 (.inr (6, [.ref 14, .ref 16, .int mo, .int go, .int (nI t), .int (nI m), .long lst, .long wn])) (.inr (4, [.ref 15])) (.inl (1, 132, .inr (.inl (sh nw)))) e16 e17 e18 e19 e20 e21 e22 e23 e24 e25 e26 e27 e28 e29 e30 e31 e32 e33 e34 e35 e36) := by
  have hz : ∀ k, (k + t < 15 ∨ 15 + t < k) → nw (4 * k + p) = 0 := by
    intro k hk
    refine Classical.byContradiction fun hn => ?_
    have := hs (4 * k + p) hn
    omega
  refine JM.of (by decide +kernel) rfl (Nat.le_of_ble_eq_true rfl) (g_Sp_op0 ht ?_)
  have K := loopN (P := fun i => JR M_Sp_ofPosition none (9, [(0, .ref 13), (1, .int (nI p)), (2, .long (smP nw p (15 - t + i))), (4, .int (gI (16 - t + i)))], [], (HP e0 e1 e2 e3 e4 e5 e6 e7 e8 e9 e10 e11 e12 (.inr (6, [.ref 14, .ref 16, .int mo, .int go, .int (nI t), .int (nI m), .long lst, .long wn])) (.inr (4, [.ref 15])) (.inl (1, 132, .inr (.inl (sh nw)))) e16 e17 e18 e19 e20 e21 e22 e23 e24 e25 e26 e27 e28 e29 e30 e31 e32 e33 e34 e35 e36), 0, 0) (OE (some (.long (smP nw p 31))) (HP e0 e1 e2 e3 e4 e5 e6 e7 e8 e9 e10 e11 e12 (.inr (6, [.ref 14, .ref 16, .int mo, .int go, .int (nI t), .int (nI m), .long lst, .long wn])) (.inr (4, [.ref 15])) (.inl (1, 132, .inr (.inl (sh nw)))) e16 e17 e18 e19 e20 e21 e22 e23 e24 e25 e26 e27 e28 e29 e30 e31 e32 e33 e34 e35 e36))) (b := 2 * t + 1) ?_ (fun i hi ih => ?_) 0 (Nat.zero_le _)
  · have e := smP_skip (nw := nw) (p := p) (a := 0) (15 - t) (fun k _ h2 => hz k (by omega))
    rw [Nat.zero_add] at e
    rw [Nat.add_zero, Nat.add_zero, e] at K
    exact K
  · have e := smP_skip (nw := nw) (p := p) (a := 15 - t + (2 * t + 1)) (31 - (15 - t + (2 * t + 1))) (fun k h1 h2 => hz k (by omega))
    rw [show 15 - t + (2 * t + 1) + (31 - (15 - t + (2 * t + 1))) = 31 by omega] at e
    refine g_Sp_op1 (r := 16 - t + (2 * t + 1)) ht hp (by omega) (fun _ => ⟨by rw [e], rfl⟩) (fun c => absurd ((lt_gI (t := t) (r := 16 - t + (2 * t + 1)) (by omega) (by omega)).mpr (by omega)) c)
  · have e : smP nw p (15 - t + (i + 1)) = smP nw p (15 - t + i) + sh nw ((16 - t + i) * 4 + p) := by
      rw [sh_get (by omega) (by omega) hp]
      show smP nw p (15 - t + i) + nw (4 * (15 - t + i) + p) = _
      rw [show 16 - t + i - 1 = 15 - t + i by omega]
    rw [e] at ih
    exact g_Sp_op1 (r := 16 - t + i) ht hp (by omega) (fun c => absurd ((lt_gI (t := t) (r := 16 - t + i) (by omega) (by omega)).mp c) (by omega)) (fun _ => ih)

set_option maxRecDepth 100000 in
set_option maxHeartbeats 400000 in
theorem g_Sp_og0 {sc : aScr} {e0 e1 e2 e3 e4 e5 e6 e7 e8 e9 e10 e11 e12 e16 e17 e18 e19 e20 e21 e22 e23 e24 e25 e26 e27 e28 e29 e30 e31 e32 e33 e34 e35 e36 : va_E} {m : Nat} {mo go : Int32} {lst wn : Int64} {t : Nat} {le : Int32} {nw : Nat → Int64} {kc kn : Nat} {O : Option Value → aH → Prop}  (K1 : JR M_Sp_ofGain sc (13, [(0, .ref 13), (1, .int le), (2, .long 0), (4, .int (if le < -nI t then -nI t else le))], [], (HP e0 e1 e2 e3 e4 e5 e6 e7 e8 e9 e10 e11 e12 (.inr (6, [.ref 14, .ref 16, .int mo, .int go, .int (nI t), .int (nI m), .long lst, .long wn])) (.inr (4, [.ref 15])) (.inl (1, 132, .inr (.inl (sh nw)))) e16 e17 e18 e19 e20 e21 e22 e23 e24 e25 e26 e27 e28 e29 e30 e31 e32 e33 e34 e35 e36), kc, kn) O) : JR M_Sp_ofGain sc (0, [(0, .ref 13), (1, .int le)], [], (HP e0 e1 e2 e3 e4 e5 e6 e7 e8 e9 e10 e11 e12 (.inr (6, [.ref 14, .ref 16, .int mo, .int go, .int (nI t), .int (nI m), .long lst, .long wn])) (.inr (4, [.ref 15])) (.inl (1, 132, .inr (.inl (sh nw)))) e16 e17 e18 e19 e20 e21 e22 e23 e24 e25 e26 e27 e28 e29 e30 e31 e32 e33 e34 e35 e36), kc, kn) O := by
  refine J.gp ok_Sp_ofGain 6 (8, [(0, .ref 13), (1, .int le), (2, .long 0)], [.int (-nI t), .int le], _, _, _) rfl ?_
  refine J.callSE s_Sp_ofGain_8 11 [.int le, .int (-nI t)] (c_Jm_max) rfl rfl (Nat.le_of_ble_eq_true rfl) rfl ?_
  refine J.gp ok_Sp_ofGain 0 (11, [(0, .ref 13), (1, .int le), (2, .long 0)], [.int (if le < -nI t then -nI t else le)], (HP e0 e1 e2 e3 e4 e5 e6 e7 e8 e9 e10 e11 e12 (.inr (6, [.ref 14, .ref 16, .int mo, .int go, .int (nI t), .int (nI m), .long lst, .long wn])) (.inr (4, [.ref 15])) (.inl (1, 132, .inr (.inl (sh nw)))) e16 e17 e18 e19 e20 e21 e22 e23 e24 e25 e26 e27 e28 e29 e30 e31 e32 e33 e34 e35 e36), kc, kn) rfl ?_
  refine J.gp ok_Sp_ofGain 1 (13, [(0, .ref 13), (1, .int le), (2, .long 0), (4, .int (if le < -nI t then -nI t else le))], [], _, _, _) rfl ?_
  exact K1

set_option maxRecDepth 100000 in
set_option maxHeartbeats 400000 in
theorem g_Sp_og1 {sc : aScr} {e0 e1 e2 e3 e4 e5 e6 e7 e8 e9 e10 e11 e12 e16 e17 e18 e19 e20 e21 e22 e23 e24 e25 e26 e27 e28 e29 e30 e31 e32 e33 e34 e35 e36 : va_E} {m : Nat} {mo go : Int32} {lst wn : Int64} {t : Nat} {x le : Int32} {nw : Nat → Int64} {a : Int64} {kc kn : Nat} {O : Option Value → aH → Prop}  (K1 : (nI t < x) → O (some (.long a)) (HP e0 e1 e2 e3 e4 e5 e6 e7 e8 e9 e10 e11 e12 (.inr (6, [.ref 14, .ref 16, .int mo, .int go, .int (nI t), .int (nI m), .long lst, .long wn])) (.inr (4, [.ref 15])) (.inl (1, 132, .inr (.inl (sh nw)))) e16 e17 e18 e19 e20 e21 e22 e23 e24 e25 e26 e27 e28 e29 e30 e31 e32 e33 e34 e35 e36)) (K2 : (¬ (nI t < x)) → JR M_Sp_ofGain sc (25, [(0, .ref 13), (1, .int le), (2, .long a), (4, .int x), (5, .int 0)], [], (HP e0 e1 e2 e3 e4 e5 e6 e7 e8 e9 e10 e11 e12 (.inr (6, [.ref 14, .ref 16, .int mo, .int go, .int (nI t), .int (nI m), .long lst, .long wn])) (.inr (4, [.ref 15])) (.inl (1, 132, .inr (.inl (sh nw)))) e16 e17 e18 e19 e20 e21 e22 e23 e24 e25 e26 e27 e28 e29 e30 e31 e32 e33 e34 e35 e36), kc, kn) O) : JR M_Sp_ofGain sc (13, [(0, .ref 13), (1, .int le), (2, .long a), (4, .int x)], [], (HP e0 e1 e2 e3 e4 e5 e6 e7 e8 e9 e10 e11 e12 (.inr (6, [.ref 14, .ref 16, .int mo, .int go, .int (nI t), .int (nI m), .long lst, .long wn])) (.inr (4, [.ref 15])) (.inl (1, 132, .inr (.inl (sh nw)))) e16 e17 e18 e19 e20 e21 e22 e23 e24 e25 e26 e27 e28 e29 e30 e31 e32 e33 e34 e35 e36), kc, kn) O := by
  refine J.gp ok_Sp_ofGain 3 (19, [(0, .ref 13), (1, .int le), (2, .long a), (4, .int x)], [.int (nI t), .int x], _, _, _) rfl ?_
  refine J.icB ok_Sp_ofGain (fun x y => y < x) 63 22 rfl (fun (c19 : nI t < x) => ?_) (fun (c19 : ¬ (nI t < x)) => ?_)
  · refine J.gp ok_Sp_ofGain 1 (64, [(0, .ref 13), (1, .int le), (2, .long a), (4, .int x)], [.long a], _, _, _) rfl ?_
    refine JR.lret (by decide +kernel) rfl ?_
    exact K1 c19
  · refine J.gp ok_Sp_ofGain 2 (25, [(0, .ref 13), (1, .int le), (2, .long a), (4, .int x), (5, .int 0)], [], _, _, _) rfl ?_
    exact K2 c19

set_option maxRecDepth 100000 in
set_option maxHeartbeats 400000 in
theorem g_Sp_og2 {sc : aScr} {e0 e1 e2 e3 e4 e5 e6 e7 e8 e9 e10 e11 e12 e16 e17 e18 e19 e20 e21 e22 e23 e24 e25 e26 e27 e28 e29 e30 e31 e32 e33 e34 e35 e36 : va_E} {m : Nat} {mo go : Int32} {lst wn : Int64} {t p r : Nat} {le : Int32} {nw : Nat → Int64} {a : Int64} {kc kn : Nat} {O : Option Value → aH → Prop} (hm : m ≤ 4) (hp : p ≤ m) (hr : 1 ≤ r ∧ r ≤ 31) (K1 : (m ≤ p) → JR M_Sp_ofGain sc (13, [(0, .ref 13), (1, .int le), (2, .long a), (4, .int (gI (r + 1)))], [], (HP e0 e1 e2 e3 e4 e5 e6 e7 e8 e9 e10 e11 e12 (.inr (6, [.ref 14, .ref 16, .int mo, .int go, .int (nI t), .int (nI m), .long lst, .long wn])) (.inr (4, [.ref 15])) (.inl (1, 132, .inr (.inl (sh nw)))) e16 e17 e18 e19 e20 e21 e22 e23 e24 e25 e26 e27 e28 e29 e30 e31 e32 e33 e34 e35 e36), kc, kn) O) (K2 : (p < m) → JR M_Sp_ofGain sc (25, [(0, .ref 13), (1, .int le), (2, .long (a + ((sh nw) (r * 4 + p)))), (4, .int (gI r)), (5, .int (nI (p + 1)))], [], (HP e0 e1 e2 e3 e4 e5 e6 e7 e8 e9 e10 e11 e12 (.inr (6, [.ref 14, .ref 16, .int mo, .int go, .int (nI t), .int (nI m), .long lst, .long wn])) (.inr (4, [.ref 15])) (.inl (1, 132, .inr (.inl (sh nw)))) e16 e17 e18 e19 e20 e21 e22 e23 e24 e25 e26 e27 e28 e29 e30 e31 e32 e33 e34 e35 e36), kc, kn) O) : JR M_Sp_ofGain sc (25, [(0, .ref 13), (1, .int le), (2, .long a), (4, .int (gI r)), (5, .int (nI p))], [], (HP e0 e1 e2 e3 e4 e5 e6 e7 e8 e9 e10 e11 e12 (.inr (6, [.ref 14, .ref 16, .int mo, .int go, .int (nI t), .int (nI m), .long lst, .long wn])) (.inr (4, [.ref 15])) (.inl (1, 132, .inr (.inl (sh nw)))) e16 e17 e18 e19 e20 e21 e22 e23 e24 e25 e26 e27 e28 e29 e30 e31 e32 e33 e34 e35 e36), kc, kn) O := by
  refine J.gp ok_Sp_ofGain 3 (31, [(0, .ref 13), (1, .int le), (2, .long a), (4, .int (gI r)), (5, .int (nI p))], [.int (nI m), .int (nI p)], _, _, _) rfl ?_
  refine J.icB ok_Sp_ofGain (fun x y => y ≤ x) 57 34 rfl (fun (h0 : nI m ≤ nI p) => ?_) (fun (h0 : ¬ (nI m ≤ nI p)) => ?_)
  · have c31 : m ≤ p := (nI_leI (a := m) (b := p) (by omega) (by omega)).mp h0
    refine J.gp ok_Sp_ofGain 1 (60, [(0, .ref 13), (1, .int le), (2, .long a), (4, .int (gI r + 1)), (5, .int (nI p))], [], _, _, _) rfl ?_
    rw [show ((gI r + 1)) = gI (r + 1) from gI_up _]
    refine J.gp ok_Sp_ofGain 1 (13, [(0, .ref 13), (1, .int le), (2, .long a), (4, .int (gI (r + 1))), (5, .int (nI p))], [], _, _, _) rfl ?_
    refine J.lv [0, 1, 2, 3] [(0, .ref 13), (1, .int le), (2, .long a), (4, .int (gI (r + 1)))] rfl ?_
    exact K1 c31
  · have c31 : p < m := Nat.not_le.mp (fun h9 => h0 ((nI_leI (a := m) (b := p) (by omega) (by omega)).mpr h9))
    refine J.gp ok_Sp_ofGain 5 (43, [(0, .ref 13), (1, .int le), (2, .long a), (4, .int (gI r)), (5, .int (nI p))], [.int (nI p), .int (gI r), .ref 14, .long a], _, _, _) rfl ?_
    refine J.callSE s_Sp_ofGain_43 46 [.int (gI r), .int (nI p)] (c_Sp_cell (r := r)) rfl rfl (Nat.le_of_ble_eq_true rfl) rfl ?_
    refine J.gp ok_Sp_ofGain 0 (46, [(0, .ref 13), (1, .int le), (2, .long a), (4, .int (gI r)), (5, .int (nI p))], [.int (nI (r * 4 + p)), .ref 14, .long a], (HP e0 e1 e2 e3 e4 e5 e6 e7 e8 e9 e10 e11 e12 (.inr (6, [.ref 14, .ref 16, .int mo, .int go, .int (nI t), .int (nI m), .long lst, .long wn])) (.inr (4, [.ref 15])) (.inl (1, 132, .inr (.inl (sh nw)))) e16 e17 e18 e19 e20 e21 e22 e23 e24 e25 e26 e27 e28 e29 e30 e31 e32 e33 e34 e35 e36), kc, kn) rfl ?_
    refine J.callVE s_Sp_ofGain_46 49 14 [.int (nI (r * 4 + p))] 4 (c_Rw_get_14 (j := r * 4 + p) (by omega)) rfl rfl rfl rfl rfl (Nat.le_of_ble_eq_true rfl) rfl ?_
    refine J.gp ok_Sp_ofGain 0 (49, [(0, .ref 13), (1, .int le), (2, .long a), (4, .int (gI r)), (5, .int (nI p))], [.long ((sh nw) (r * 4 + p)), .long a], (HP e0 e1 e2 e3 e4 e5 e6 e7 e8 e9 e10 e11 e12 (.inr (6, [.ref 14, .ref 16, .int mo, .int go, .int (nI t), .int (nI m), .long lst, .long wn])) (.inr (4, [.ref 15])) (.inl (1, 132, .inr (.inl (sh nw)))) e16 e17 e18 e19 e20 e21 e22 e23 e24 e25 e26 e27 e28 e29 e30 e31 e32 e33 e34 e35 e36), kc, kn) rfl ?_
    refine J.gp ok_Sp_ofGain 3 (54, [(0, .ref 13), (1, .int le), (2, .long (a + ((sh nw) (r * 4 + p)))), (4, .int (gI r)), (5, .int (nI p + 1))], [], _, _, _) rfl ?_
    rw [show ((nI p + 1) : Int32) = nI (p + 1) from nI_add p 1]
    refine J.gp ok_Sp_ofGain 1 (25, [(0, .ref 13), (1, .int le), (2, .long (a + ((sh nw) (r * 4 + p)))), (4, .int (gI r)), (5, .int (nI (p + 1)))], [], _, _, _) rfl ?_
    exact K2 c31

/-- the lowest row that a least gain asks for -/
def loR (t : Nat) (le : Int32) : Nat := if le.toInt ≤ -(t : Int) then 15 - t else if (t : Int) < le.toInt then 31 else (le.toInt + 15).toNat
set_option maxRecDepth 100000 in
set_option maxHeartbeats 1000000 in
theorem Sp_og {e0 e1 e2 e3 e4 e5 e6 e7 e8 e9 e10 e11 e12 e16 e17 e18 e19 e20 e21 e22 e23 e24 e25 e26 e27 e28 e29 e30 e31 e32 e33 e34 e35 e36 : va_E} {m : Nat} {mo go : Int32} {lst wn : Int64} {t : Nat} {le : Int32} {nw : Nat → Int64} (ht : t ≤ 15) (hm : 0 < m ∧ m ≤ 4) (hs : supp m t nw) (lo : Nat) (h1 : 15 ≤ lo + t) (h2 : lo ≤ 15 + t) : JR M_Sp_ofGain none (13, [(0, .ref 13), (1, .int le), (2, .long 0), (4, .int (gI (lo + 1)))], [], (HP e0 e1 e2 e3 e4 e5 e6 e7 e8 e9 e10 e11 e12 (.inr (6, [.ref 14, .ref 16, .int mo, .int go, .int (nI t), .int (nI m), .long lst, .long wn])) (.inr (4, [.ref 15])) (.inl (1, 132, .inr (.inl (sh nw)))) e16 e17 e18 e19 e20 e21 e22 e23 e24 e25 e26 e27 e28 e29 e30 e31 e32 e33 e34 e35 e36), 0, 0) (OE (some (.long (smG nw lo 124))) (HP e0 e1 e2 e3 e4 e5 e6 e7 e8 e9 e10 e11 e12 (.inr (6, [.ref 14, .ref 16, .int mo, .int go, .int (nI t), .int (nI m), .long lst, .long wn])) (.inr (4, [.ref 15])) (.inl (1, 132, .inr (.inl (sh nw)))) e16 e17 e18 e19 e20 e21 e22 e23 e24 e25 e26 e27 e28 e29 e30 e31 e32 e33 e34 e35 e36)) := by
  have hz : ∀ k, (15 + t < k / 4 ∨ m ≤ k % 4) → nw k = 0 := by
    intro k hk
    refine Classical.byContradiction fun hn => ?_
    have := hs k hn
    omega
  have K := loopN (P := fun i => JR M_Sp_ofGain none (13, [(0, .ref 13), (1, .int le), (2, .long (smG nw lo (4 * (lo + i)))), (4, .int (gI (lo + i + 1)))], [], (HP e0 e1 e2 e3 e4 e5 e6 e7 e8 e9 e10 e11 e12 (.inr (6, [.ref 14, .ref 16, .int mo, .int go, .int (nI t), .int (nI m), .long lst, .long wn])) (.inr (4, [.ref 15])) (.inl (1, 132, .inr (.inl (sh nw)))) e16 e17 e18 e19 e20 e21 e22 e23 e24 e25 e26 e27 e28 e29 e30 e31 e32 e33 e34 e35 e36), 0, 0) (OE (some (.long (smG nw lo 124))) (HP e0 e1 e2 e3 e4 e5 e6 e7 e8 e9 e10 e11 e12 (.inr (6, [.ref 14, .ref 16, .int mo, .int go, .int (nI t), .int (nI m), .long lst, .long wn])) (.inr (4, [.ref 15])) (.inl (1, 132, .inr (.inl (sh nw)))) e16 e17 e18 e19 e20 e21 e22 e23 e24 e25 e26 e27 e28 e29 e30 e31 e32 e33 e34 e35 e36))) (b := 16 + t - lo) ?_ (fun i hi ih => ?_) 0 (Nat.zero_le _)
  · have e := smG_skip (nw := nw) (lo := lo) (a := 0) (4 * lo) (fun k _ h3 h4 => by omega)
    rw [Nat.zero_add] at e
    rw [Nat.add_zero, e] at K
    exact K
  · have e := smG_skip (nw := nw) (lo := lo) (a := 4 * (lo + (16 + t - lo))) (124 - 4 * (lo + (16 + t - lo))) (fun k h3 h4 h5 => hz k (by omega))
    rw [show 4 * (lo + (16 + t - lo)) + (124 - 4 * (lo + (16 + t - lo))) = 124 by omega] at e
    refine g_Sp_og1 (fun _ => ⟨by rw [e], rfl⟩) (fun c => absurd ((lt_gI (t := t) (r := lo + (16 + t - lo) + 1) (by omega) (by omega)).mpr (by omega)) c)
  · refine g_Sp_og1 (fun c => absurd ((lt_gI (t := t) (r := lo + i + 1) (by omega) (by omega)).mp c) (by omega)) (fun _ => ?_)
    have K2 := loopN (P := fun p => JR M_Sp_ofGain none (25, [(0, .ref 13), (1, .int le), (2, .long (smG nw lo (4 * (lo + i) + p))), (4, .int (gI (lo + i + 1))), (5, .int (nI p))], [], (HP e0 e1 e2 e3 e4 e5 e6 e7 e8 e9 e10 e11 e12 (.inr (6, [.ref 14, .ref 16, .int mo, .int go, .int (nI t), .int (nI m), .long lst, .long wn])) (.inr (4, [.ref 15])) (.inl (1, 132, .inr (.inl (sh nw)))) e16 e17 e18 e19 e20 e21 e22 e23 e24 e25 e26 e27 e28 e29 e30 e31 e32 e33 e34 e35 e36), 0, 0) (OE (some (.long (smG nw lo 124))) (HP e0 e1 e2 e3 e4 e5 e6 e7 e8 e9 e10 e11 e12 (.inr (6, [.ref 14, .ref 16, .int mo, .int go, .int (nI t), .int (nI m), .long lst, .long wn])) (.inr (4, [.ref 15])) (.inl (1, 132, .inr (.inl (sh nw)))) e16 e17 e18 e19 e20 e21 e22 e23 e24 e25 e26 e27 e28 e29 e30 e31 e32 e33 e34 e35 e36))) (b := m) ?_ (fun p hp ihp => ?_) 0 (Nat.zero_le _)
    · exact K2
    · refine g_Sp_og2 (r := lo + i + 1) (p := m) hm.2 (Nat.le_refl _) (by omega) (fun _ => ?_) (fun c => absurd c (by omega))
      have e := smG_skip (nw := nw) (lo := lo) (a := 4 * (lo + i) + m) (4 - m) (fun k h3 h4 h5 => hz k (by omega))
      rw [show 4 * (lo + i) + m + (4 - m) = 4 * (lo + (i + 1)) by omega] at e
      rw [← e]
      exact ih
    · have e := smG_row (nw := nw) (lo := lo) (r := lo + i) (p := p) (by omega) (by omega)
      rw [e] at ihp
      have e2 := sh_get (nx := nw) (r := lo + i + 1) (p := p) (by omega) (by omega) (by omega)
      rw [show lo + i + 1 - 1 = lo + i by omega] at e2
      rw [← e2] at ihp
      exact g_Sp_og2 (r := lo + i + 1) (p := p) hm.2 (Nat.le_of_lt hp) (by omega) (fun c => absurd c (by omega)) (fun _ => ihp)
theorem gI_of {x : Int32} (h1 : -16 ≤ x.toInt) (h2 : x.toInt ≤ 100) : x = gI (x.toInt + 16).toNat := by
  apply Int32.toInt_inj.mp
  rw [gI_toInt (by omega)]
  omega
set_option maxRecDepth 100000 in
theorem c_Sp_ofGain {e0 e1 e2 e3 e4 e5 e6 e7 e8 e9 e10 e11 e12 e16 e17 e18 e19 e20 e21 e22 e23 e24 e25 e26 e27 e28 e29 e30 e31 e32 e33 e34 e35 e36 : va_E} {m : Nat} {mo go : Int32} {lst wn : Int64} {t : Nat} {le : Int32} {nw : Nat → Int64} (ht : t ≤ 15) (hm : 0 < m ∧ m ≤ 4) (hs : supp m t nw) : JE M_Sp_ofGain [.ref 13, .int le] (HP e0 e1 e2 e3 e4 e5 e6 e7 e8 e9 e10 e11 e12 (.inr (6, [.ref 14, .ref 16, .int mo, .int go, .int (nI t), .int (nI m), .long lst, .long wn])) (.inr (4, [.ref 15])) (.inl (1, 132, .inr (.inl (sh nw)))) e16 e17 e18 e19 e20 e21 e22 e23 e24 e25 e26 e27 e28 e29 e30 e31 e32 e33 e34 e35 e36) (some (.long (smG nw (loR t le) 124))) (HP e0 e1 e2 e3 e4 e5 e6 e7 e8 e9 e10 e11 e12 (.inr (6, [.ref 14, .ref 16, .int mo, .int go, .int (nI t), .int (nI m), .long lst, .long wn])) (.inr (4, [.ref 15])) (.inl (1, 132, .inr (.inl (sh nw)))) e16 e17 e18 e19 e20 e21 e22 e23 e24 e25 e26 e27 e28 e29 e30 e31 e32 e33 e34 e35 e36) := by
  refine JM.of (by decide +kernel) rfl (Nat.le_of_ble_eq_true rfl) (g_Sp_og0 ?_)
  unfold loR
  by_cases c1 : le.toInt ≤ -(t : Int)
  · rw [if_pos c1]
    have e : (if le < -nI t then -nI t else le) = gI (15 - t + 1) := by
      rw [show 15 - t + 1 = 16 - t by omega, ← gI_neg (by omega)]
      split
      · rfl
      · rename_i c2
        rw [Int32.lt_iff_toInt_lt, neg_toInt (by omega)] at c2
        apply Int32.toInt_inj.mp
        rw [neg_toInt (by omega)]
        omega
    rw [e]
    exact Sp_og ht hm hs (15 - t) (by omega) (by omega)
  · rw [if_neg c1]
    have e : (if le < -nI t then -nI t else le) = le := by
      rw [if_neg]
      rw [Int32.lt_iff_toInt_lt, neg_toInt (by omega)]
      omega
    rw [e]
    by_cases c2 : (t : Int) < le.toInt
    · rw [if_pos c2]
      refine g_Sp_og1 (fun _ => ⟨?_, rfl⟩) (fun c => absurd ?_ c)
      · have e := smG_skip (nw := nw) (lo := 31) (a := 0) 124 (fun k h1 h2 h3 => by omega)
        rw [Nat.zero_add] at e
        rw [e]
        rfl
      · rw [Int32.lt_iff_toInt_lt, nI_toInt (by omega)]
        exact c2
    · rw [if_neg c2]
      have := Sp_og (e0 := e0) (e1 := e1) (e2 := e2) (e3 := e3) (e4 := e4) (e5 := e5) (e6 := e6) (e7 := e7) (e8 := e8) (e9 := e9) (e10 := e10) (e11 := e11) (e12 := e12) (e16 := e16) (e17 := e17) (e18 := e18) (e19 := e19) (e20 := e20) (e21 := e21) (e22 := e22) (e23 := e23) (e24 := e24) (e25 := e25) (e26 := e26) (e27 := e27) (e28 := e28) (e29 := e29) (e30 := e30) (e31 := e31) (e32 := e32) (e33 := e33) (e34 := e34) (e35 := e35) (e36 := e36) (le := le) (mo := mo) (go := go) (lst := lst) (wn := wn) ht hm hs (le.toInt + 15).toNat (by omega) (by omega)
      rw [show (le.toInt + 15).toNat + 1 = (le.toInt + 16).toNat by omega, ← gI_of (by omega) (by omega)] at this
      exact this
