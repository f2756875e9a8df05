/-! CYCLES of the law: its contract -/
theorem code_inj {x y s x' y' s' : Nat} (h1 : y < 4) (h2 : s < 1000) (h3 : y' < 4) (h4 : s' < 1000) (h : 4000 * x + 1000 * y + s = 4000 * x' + 1000 * y' + s') : x = x' ∧ y = y' ∧ s = s' := by omega
theorem seq_step {m p P i s g w : Nat} {gn : Int32} {B F : Nat → Nat} (hm : 0 < m) (hp : p < m) (hi : i < plen P) (hs : s < 1000) : Det (fun k => 4000 * (wkN m g w B F P (p, i, s, gn) k).1 + 1000 * (wkN m g w B F P (p, i, s, gn) k).2.1 + (wkN m g w B F P (p, i, s, gn) k).2.2.1) := by
  intro a b h
  have h4 := plen_le P
  obtain ⟨a1, a2, a3⟩ := wkN_ok (m := m) (g := g) (w := w) (B := B) (F := F) (P := P) (x := (p, i, s, gn)) hm hp hi hs a
  obtain ⟨b1, b2, b3⟩ := wkN_ok (m := m) (g := g) (w := w) (B := B) (F := F) (P := P) (x := (p, i, s, gn)) hm hp hi hs b
  obtain ⟨u1, u2, u3⟩ := code_inj (by omega) a3 (by omega) b3 h
  show 4000 * (wkS m g w B F P (wkN m g w B F P (p, i, s, gn) a)).1 + 1000 * (wkS m g w B F P (wkN m g w B F P (p, i, s, gn) a)).2.1 + (wkS m g w B F P (wkN m g w B F P (p, i, s, gn) a)).2.2.1 = 4000 * (wkS m g w B F P (wkN m g w B F P (p, i, s, gn) b)).1 + 1000 * (wkS m g w B F P (wkN m g w B F P (p, i, s, gn) b)).2.1 + (wkS m g w B F P (wkN m g w B F P (p, i, s, gn) b)).2.2.1
  unfold wkS
  dsimp only
  rw [u1, u2, u3]
/-- what a walk goes through comes round -/
theorem seq_ex {m p P i s g w : Nat} {gn : Int32} {B F : Nat → Nat} (hm : 0 < m ∧ m ≤ 4) (hp : p < m) (hi : i < plen P) (hs : s < 1000) : ∃ t0 T, Comes (fun k => 4000 * (wkN m g w B F P (p, i, s, gn) k).1 + 1000 * (wkN m g w B F P (p, i, s, gn) k).2.1 + (wkN m g w B F P (p, i, s, gn) k).2.2.1) t0 T ∧ T ≤ 16000 := by
  refine comes_ex (fun k => ?_)
  have h1 := wkN_ok (m := m) (g := g) (w := w) (B := B) (F := F) (P := P) (x := (p, i, s, gn)) hm.1 hp hi hs k
  have h2 := plen_le P
  obtain ⟨h3, h4, h5⟩ := h1
  omega
theorem cy_round {e0 e1 e2 e3 e4 e5 e6 e7 e8 e9 e10 e11 e12 e13 e14 e15 e16 e17 e18 e19 e20 e21 e22 e23 e24 e25 e26 e27 e28 e29 e30 e31 e32 e33 e34 : va_E} {m p P i s t g w : Nat} {gn : Int32} {B F : Nat → Nat} {t0 T lg : Nat} {gc : Int32} (hm : 0 < m ∧ m ≤ 4) (hg : g < 8) (hw : w < 16) (hBF : ∀ j, B j + F j ≤ 10) (hP : isPr P = true) (hp : p < m) (hi : i < plen P) (hs : s < 1000) (ht : t ≤ 100000) (hc : Comes (fun k => 4000 * (wkN m g w B F P (p, i, s, gn) k).1 + 1000 * (wkN m g w B F P (p, i, s, gn) k).2.1 + (wkN m g w B F P (p, i, s, gn) k).2.2.1) t0 T) (hT : T ≤ 16000) (hlg : lg = T - t0) (hgc : (wkN m g w B F P (p, i, s, gn) T).2.2.2 - (wkN m g w B F P (p, i, s, gn) t0).2.2.2 = gc) : JR M_La_cycles none (32, [(1, .ref 35), (2, .ref 36), (3, .int (nI t0)), (4, .int (nI lg)), (5, .int gc), (6, .ref 37), (7, .ref 38)], [], (HQ e0 e1 e2 e3 e4 e5 e6 e7 e8 e9 e10 e11 e12 e13 e14 e15 e16 e17 e18 e19 e20 e21 e22 e23 e24 e25 e26 e27 e28 e29 e30 e31 e32 e33 e34 (.inl (0, 9, .inl (dL [nI m, nI p, nI P, nI i, nI s, gn, nI t, nI g, nI w]))) (.inl (0, 12, .inl (fun j => nI ((nuF B F) j)))) (.inl (0, 9, .inl (fun _ => 0))) (.inl (0, 9, .inl (fun _ => 0)))), 0, 0) (fun (v : Option Value) (_ : aH) => v = some (.int 1)) := by
  have h4 := plen_le P
  have h256 := (isPr_bd hP).2
  have hkk := wkN_ok (m := m) (g := g) (w := w) (B := B) (F := F) (P := P) (x := (p, i, s, gn)) hm.1 hp hi hs
  have hd := seq_step (g := g) (w := w) (B := B) (F := F) (gn := gn) hm.1 hp hi hs
  have h0T := hc.1
  have hTl : t0 + lg = T := by omega
  refine JR.hqs 37 _ (.inl (0, 9, .inl (dL [0, 0, 0, 0, 0, 0, 0, 0, 0]))) rfl (eqI (fun j hj => ?_)) ?_
  · have h : j = 0 ∨ j = 1 ∨ j = 2 ∨ j = 3 ∨ j = 4 ∨ j = 5 ∨ j = 6 ∨ j = 7 ∨ j = 8 := by omega
    rcases h with rfl | rfl | rfl | rfl | rfl | rfl | rfl | rfl | rfl <;> rfl
  refine JR.hqs 38 _ (.inl (0, 9, .inl (dL [0, 0, 0, 0, 0, 0, 0, 0, 0]))) rfl (eqI (fun j hj => ?_)) ?_
  · have h : j = 0 ∨ j = 1 ∨ j = 2 ∨ j = 3 ∨ j = 4 ∨ j = 5 ∨ j = 6 ∨ j = 7 ∨ j = 8 := by omega
    rcases h with rfl | rfl | rfl | rfl | rfl | rfl | rfl | rfl | rfl <;> rfl
  refine g_cy_4 ?_
  refine g_cy_5 ?_
  have H1 := loopN (P := fun j => JR M_La_cycles none (69, [(1, .ref 35), (2, .ref 36), (3, .int (nI t0)), (4, .int (nI lg)), (5, .int gc), (6, .ref 37), (7, .ref 38), (8, .int (nI j))], [], (HQ e0 e1 e2 e3 e4 e5 e6 e7 e8 e9 e10 e11 e12 e13 e14 e15 e16 e17 e18 e19 e20 e21 e22 e23 e24 e25 e26 e27 e28 e29 e30 e31 e32 e33 e34 (.inl (0, 9, .inl (dL [nI m, nI p, nI P, nI i, nI s, gn, nI t, nI g, nI w]))) (.inl (0, 12, .inl (fun j => nI ((nuF B F) j)))) (.inl (0, 9, .inl (dL [nI m, nI p, nI P, nI i, nI s, gn, nI t, nI g, nI w]))) (.inl (0, 9, .inl (dL [nI m, nI ((wkN m g w B F P (p, i, s, gn) j).1), nI P, nI ((wkN m g w B F P (p, i, s, gn) j).2.1), nI ((wkN m g w B F P (p, i, s, gn) j).2.2.1), (wkN m g w B F P (p, i, s, gn) j).2.2.2, nI (t + j), nI g, nI w])))), 0, 0) (fun (v : Option Value) (_ : aH) => v = some (.int 1))) (b := lg) ?_ (fun j hj ih => ?_) 0 (Nat.zero_le _)
  · exact H1
  · refine g_cy_7 (by omega) ?_
    have H2 := loopN (P := fun j => JR M_La_cycles none (91, [(1, .ref 35), (2, .ref 36), (3, .int (nI t0)), (4, .int (nI lg)), (5, .int gc), (6, .ref 37), (7, .ref 38), (8, .int (nI j))], [], (HQ e0 e1 e2 e3 e4 e5 e6 e7 e8 e9 e10 e11 e12 e13 e14 e15 e16 e17 e18 e19 e20 e21 e22 e23 e24 e25 e26 e27 e28 e29 e30 e31 e32 e33 e34 (.inl (0, 9, .inl (dL [nI m, nI p, nI P, nI i, nI s, gn, nI t, nI g, nI w]))) (.inl (0, 12, .inl (fun j => nI ((nuF B F) j)))) (.inl (0, 9, .inl (dL [nI m, nI ((wkN m g w B F P (p, i, s, gn) j).1), nI P, nI ((wkN m g w B F P (p, i, s, gn) j).2.1), nI ((wkN m g w B F P (p, i, s, gn) j).2.2.1), (wkN m g w B F P (p, i, s, gn) j).2.2.2, nI (t + j), nI g, nI w]))) (.inl (0, 9, .inl (dL [nI m, nI ((wkN m g w B F P (p, i, s, gn) (lg + j)).1), nI P, nI ((wkN m g w B F P (p, i, s, gn) (lg + j)).2.1), nI ((wkN m g w B F P (p, i, s, gn) (lg + j)).2.2.1), (wkN m g w B F P (p, i, s, gn) (lg + j)).2.2.2, nI (t + (lg + j)), nI g, nI w])))), 0, 0) (fun (v : Option Value) (_ : aH) => v = some (.int 1))) (b := t0) ?_ (fun j hj ih => ?_) 0 (Nat.zero_le _)
    · exact H2
    · obtain ⟨a1, a2, a3⟩ := hkk t0
      obtain ⟨b1, b2, b3⟩ := hkk T
      obtain ⟨u1, u2, u3⟩ := code_inj (by omega) a3 (by omega) b3 hc.2.1
      have eT : lg + t0 = T := by omega
      rw [eT, ← u1, ← u2, ← u3]
      refine g_cy_9 (by omega) hgc ?_
      have H3 := loopN (P := fun j => JR M_La_cycles none (228, [(1, .ref 35), (2, .ref 36), (3, .int (nI t0)), (4, .int (nI lg)), (5, .int gc), (6, .ref 37), (7, .ref 38), (8, .int (nI (j + 1)))], [], (HQ e0 e1 e2 e3 e4 e5 e6 e7 e8 e9 e10 e11 e12 e13 e14 e15 e16 e17 e18 e19 e20 e21 e22 e23 e24 e25 e26 e27 e28 e29 e30 e31 e32 e33 e34 (.inl (0, 9, .inl (dL [nI m, nI p, nI P, nI i, nI s, gn, nI t, nI g, nI w]))) (.inl (0, 12, .inl (fun j => nI ((nuF B F) j)))) (.inl (0, 9, .inl (dL [nI m, nI ((wkN m g w B F P (p, i, s, gn) t0).1), nI P, nI ((wkN m g w B F P (p, i, s, gn) t0).2.1), nI ((wkN m g w B F P (p, i, s, gn) t0).2.2.1), (wkN m g w B F P (p, i, s, gn) t0).2.2.2, nI (t + t0), nI g, nI w]))) (.inl (0, 9, .inl (dL [nI m, nI ((wkN m g w B F P (p, i, s, gn) (t0 + j)).1), nI P, nI ((wkN m g w B F P (p, i, s, gn) (t0 + j)).2.1), nI ((wkN m g w B F P (p, i, s, gn) (t0 + j)).2.2.1), (wkN m g w B F P (p, i, s, gn) (t0 + j)).2.2.2, nI (t + (t0 + j)), nI g, nI w])))), 0, 0) (fun (v : Option Value) (_ : aH) => v = some (.int 1))) (b := lg) ?_ (fun j hj ih => ?_) 0 (Nat.zero_le _)
      · exact H3
      · exact g_cy_12 (by omega) rfl
      · obtain ⟨b1, b2, b3⟩ := hkk (t0 + j)
        obtain ⟨d1, d2, d3⟩ := hkk (t0 + j + 1)
        refine g_cy_10 hm hg hw hBF hP h256 h4 b1 b2 b3 (by omega) (by omega) (by omega) ?_
        refine g_cy_11 (q := (wkN m g w B F P (p, i, s, gn) (t0 + j + 1)).1) (j := (wkN m g w B F P (p, i, s, gn) (t0 + j + 1)).2.1) (u := (wkN m g w B F P (p, i, s, gn) (t0 + j + 1)).2.2.1) (gz := (wkN m g w B F P (p, i, s, gn) (t0 + j + 1)).2.2.2) hm h4 a1 a2 a3 (by omega) d1 d2 d3 (by omega) (by omega) (by omega) (fun _ _ => ih) (fun c k9 => ?_) (fun _ _ _ => ih) (fun _ c k9 => ?_) (fun _ _ _ _ => ih) (fun _ _ c k9 => ?_) (fun c1 c2 c3 k9 => ?_) (fun _ _ _ _ => ih)
        · have e : t0 + j + 1 = T := by omega
          rw [e] at c
          exact absurd u1 c
        · have e : t0 + j + 1 = T := by omega
          rw [e] at c
          exact absurd u2 c
        · have e : t0 + j + 1 = T := by omega
          rw [e] at c
          exact absurd u3 c
        · refine absurd ?_ (hc.2.2 t0 (t0 + j + 1) (by omega) (by omega))
          dsimp only
          rw [c1, c2, c3]
    · obtain ⟨a1, a2, a3⟩ := hkk j
      obtain ⟨b1, b2, b3⟩ := hkk (lg + j)
      refine g_cy_8 hm hg hw hBF hP h256 h4 a1 a2 a3 (by omega) b1 b2 b3 (by omega) hj (by omega) (fun _ => ih) (fun _ _ => ih) (fun _ _ _ => ih) (fun c1 c2 c3 => ?_)
      have e : (fun k => 4000 * (wkN m g w B F P (p, i, s, gn) k).1 + 1000 * (wkN m g w B F P (p, i, s, gn) k).2.1 + (wkN m g w B F P (p, i, s, gn) k).2.2.1) j = (fun k => 4000 * (wkN m g w B F P (p, i, s, gn) k).1 + 1000 * (wkN m g w B F P (p, i, s, gn) k).2.1 + (wkN m g w B F P (p, i, s, gn) k).2.2.1) (j + (T - t0)) := by
        rw [show j + (T - t0) = lg + j from by omega]
        dsimp only
        rw [c1, c2, c3]
      have := (per_iff hd hc (a := j) (d := T - t0) (by omega) e).1
      omega
  · obtain ⟨a1, a2, a3⟩ := hkk j
    exact g_cy_6 hm hg hw hBF hP h256 h4 a1 a2 a3 (by omega) hj (by omega) ih

theorem cc_cy0 {e9 e13 e15 e17 e18 e20 e22 e24 e26 e28 e30 e31 e32 e33 e34 : va_E} {m p P i s t g w : Nat} {gn : Int32} {B F : Nat → Nat} {Tb : Nat → Nat} {a1 a2 a3 b1 b2 b3 b4 b5 d1 d2 d3 d4 d5 : Int32} {t0 T : Nat} {lv : List (Nat × Value)} (hm : 0 < m ∧ m ≤ 4) (hg : g < 8) (hw : w < 16) (hBF : ∀ j, B j + F j ≤ 10) (hP : isPr P = true) (hp : p < m) (hi : i < plen P) (hs : s < 1000) (ht : t ≤ 100000) (hc : Comes (fun k => 4000 * (wkN m g w B F P (p, i, s, gn) k).1 + 1000 * (wkN m g w B F P (p, i, s, gn) k).2.1 + (wkN m g w B F P (p, i, s, gn) k).2.2.1) t0 T) (hT : T ≤ 16000) (K : ∀ (a1 a2 a3 b1 b2 b3 b4 b5 d1 d2 d3 d4 d5 : Int32), JR M_La_cycles none (5, lv, [.int (nI t0)], (HP (.inr (9, [.ref 1, .ref 6, .int (nI P), .ref 7, .int (nI 0), .ref 9, .ref 10, .ref 13, .ref 18, .ref 32, .ref 33])) (.inr (8, [.ref 2, .ref 4, .int (nI m), .int (nI g), .int (nI w)])) (.inr (4, [.ref 3])) (.inl (1, 12, .inr (.inl (fun j => lN (B j))))) (.inr (4, [.ref 5])) (.inl (1, 12, .inr (.inl (fun j => lN (F j))))) (.inr (7, [.int (nI p), .int (nI i), .int (nI s), .int gn, .int (nI t)])) (.inr (4, [.ref 8])) (.inl (1, 60, .inr (.inl (fun j => lN (Tb j))))) e9 (.inr (0, [.ref 11, .ref 12, .int a1, .int a2, .int a3])) (.inr (7, [.int b1, .int b2, .int b3, .int b4, .int b5])) (.inr (7, [.int d1, .int d2, .int d3, .int d4, .int d5])) e13 (.inr (4, [.ref 15])) e15 (.inr (4, [.ref 17])) e17 e18 (.inr (4, [.ref 20])) e20 (.inr (4, [.ref 22])) e22 (.inr (4, [.ref 24])) e24 (.inr (4, [.ref 26])) e26 (.inr (4, [.ref 28])) e28 (.inr (4, [.ref 30])) e30 e31 e32 e33 e34 (.inl (0, 9, .inl (dL [nI m, nI p, nI P, nI i, nI s, gn, nI t, nI g, nI w]))) (.inl (0, 12, .inl (fun j => nI ((nuF B F) j))))), 2, 18) (fun (v : Option Value) (_ : aH) => v = some (.int 1))) : JR M_La_cycles none (2, lv, [.int 0, .ref 0], (HP (.inr (9, [.ref 1, .ref 6, .int (nI P), .ref 7, .int (nI 0), .ref 9, .ref 10, .ref 13, .ref 18, .ref 32, .ref 33])) (.inr (8, [.ref 2, .ref 4, .int (nI m), .int (nI g), .int (nI w)])) (.inr (4, [.ref 3])) (.inl (1, 12, .inr (.inl (fun j => lN (B j))))) (.inr (4, [.ref 5])) (.inl (1, 12, .inr (.inl (fun j => lN (F j))))) (.inr (7, [.int (nI p), .int (nI i), .int (nI s), .int gn, .int (nI t)])) (.inr (4, [.ref 8])) (.inl (1, 60, .inr (.inl (fun j => lN (Tb j))))) e9 (.inr (0, [.ref 11, .ref 12, .int a1, .int a2, .int a3])) (.inr (7, [.int b1, .int b2, .int b3, .int b4, .int b5])) (.inr (7, [.int d1, .int d2, .int d3, .int d4, .int d5])) e13 (.inr (4, [.ref 15])) e15 (.inr (4, [.ref 17])) e17 e18 (.inr (4, [.ref 20])) e20 (.inr (4, [.ref 22])) e22 (.inr (4, [.ref 24])) e24 (.inr (4, [.ref 26])) e26 (.inr (4, [.ref 28])) e28 (.inr (4, [.ref 30])) e30 e31 e32 e33 e34 (.inl (0, 9, .inl (dL [nI m, nI p, nI P, nI i, nI s, gn, nI t, nI g, nI w]))) (.inl (0, 12, .inl (fun j => nI ((nuF B F) j))))), 2, 18) (fun (v : Option Value) (_ : aH) => v = some (.int 1)) := by
  have hkk := wkN_ok (m := m) (g := g) (w := w) (B := B) (F := F) (P := P) (x := (p, i, s, gn)) hm.1 hp hi hs
  refine J.callVO (rest := []) s_La_cycles_2 5 0 [.int 0] 9 (c_F_cycle_0 (X := fun k => ((wkN m g w B F P (p, i, s, gn) k)).1) (Y := fun k => ((wkN m g w B F P (p, i, s, gn) k)).2.1) (S := fun k => ((wkN m g w B F P (p, i, s, gn) k)).2.2.1) (G := fun k => ((wkN m g w B F P (p, i, s, gn) k)).2.2.2) hm hg hw hP (plen_le P) (fun j => by have := hBF j; omega) (fun j => by have := hBF j; omega) (by omega) (fun _ => rfl) (fun _ => rfl) (fun _ => rfl) (fun _ => rfl) (fun k => (hkk k).1) (fun k => (hkk k).2.1) (fun k => (hkk k).2.2) hc hT) rfl rfl rfl rfl rfl (Nat.le_of_ble_eq_true rfl) (by rintro v q ⟨rfl, x0, x1, x2, x3, x4, y0, y1, y2, y3, y4, rfl⟩; rfl) (fun v q h => ?_)
  obtain ⟨rfl, x0, x1, x2, x3, x4, y0, y1, y2, y3, y4, rfl⟩ := h
  exact K _ _ _ _ _ _ _ _ _ _ _ _ _

theorem cc_cy1 {e9 e13 e15 e17 e18 e20 e22 e24 e26 e28 e30 e31 e32 e33 e34 : va_E} {m p P i s t g w : Nat} {gn : Int32} {B F : Nat → Nat} {Tb : Nat → Nat} {a1 a2 a3 b1 b2 b3 b4 b5 d1 d2 d3 d4 d5 : Int32} {t0 T : Nat} {lv : List (Nat × Value)} (hm : 0 < m ∧ m ≤ 4) (hg : g < 8) (hw : w < 16) (hBF : ∀ j, B j + F j ≤ 10) (hP : isPr P = true) (hp : p < m) (hi : i < plen P) (hs : s < 1000) (ht : t ≤ 100000) (hc : Comes (fun k => 4000 * (wkN m g w B F P (p, i, s, gn) k).1 + 1000 * (wkN m g w B F P (p, i, s, gn) k).2.1 + (wkN m g w B F P (p, i, s, gn) k).2.2.1) t0 T) (hT : T ≤ 16000) (K : ∀ (a1 a2 a3 b1 b2 b3 b4 b5 d1 d2 d3 d4 d5 : Int32), JR M_La_cycles none (11, lv, [.int (nI (T - t0))], (HP (.inr (9, [.ref 1, .ref 6, .int (nI P), .ref 7, .int (nI 0), .ref 9, .ref 10, .ref 13, .ref 18, .ref 32, .ref 33])) (.inr (8, [.ref 2, .ref 4, .int (nI m), .int (nI g), .int (nI w)])) (.inr (4, [.ref 3])) (.inl (1, 12, .inr (.inl (fun j => lN (B j))))) (.inr (4, [.ref 5])) (.inl (1, 12, .inr (.inl (fun j => lN (F j))))) (.inr (7, [.int (nI p), .int (nI i), .int (nI s), .int gn, .int (nI t)])) (.inr (4, [.ref 8])) (.inl (1, 60, .inr (.inl (fun j => lN (Tb j))))) e9 (.inr (0, [.ref 11, .ref 12, .int a1, .int a2, .int a3])) (.inr (7, [.int b1, .int b2, .int b3, .int b4, .int b5])) (.inr (7, [.int d1, .int d2, .int d3, .int d4, .int d5])) e13 (.inr (4, [.ref 15])) e15 (.inr (4, [.ref 17])) e17 e18 (.inr (4, [.ref 20])) e20 (.inr (4, [.ref 22])) e22 (.inr (4, [.ref 24])) e24 (.inr (4, [.ref 26])) e26 (.inr (4, [.ref 28])) e28 (.inr (4, [.ref 30])) e30 e31 e32 e33 e34 (.inl (0, 9, .inl (dL [nI m, nI p, nI P, nI i, nI s, gn, nI t, nI g, nI w]))) (.inl (0, 12, .inl (fun j => nI ((nuF B F) j))))), 2, 18) (fun (v : Option Value) (_ : aH) => v = some (.int 1))) : JR M_La_cycles none (8, lv, [.int 1, .ref 0], (HP (.inr (9, [.ref 1, .ref 6, .int (nI P), .ref 7, .int (nI 0), .ref 9, .ref 10, .ref 13, .ref 18, .ref 32, .ref 33])) (.inr (8, [.ref 2, .ref 4, .int (nI m), .int (nI g), .int (nI w)])) (.inr (4, [.ref 3])) (.inl (1, 12, .inr (.inl (fun j => lN (B j))))) (.inr (4, [.ref 5])) (.inl (1, 12, .inr (.inl (fun j => lN (F j))))) (.inr (7, [.int (nI p), .int (nI i), .int (nI s), .int gn, .int (nI t)])) (.inr (4, [.ref 8])) (.inl (1, 60, .inr (.inl (fun j => lN (Tb j))))) e9 (.inr (0, [.ref 11, .ref 12, .int a1, .int a2, .int a3])) (.inr (7, [.int b1, .int b2, .int b3, .int b4, .int b5])) (.inr (7, [.int d1, .int d2, .int d3, .int d4, .int d5])) e13 (.inr (4, [.ref 15])) e15 (.inr (4, [.ref 17])) e17 e18 (.inr (4, [.ref 20])) e20 (.inr (4, [.ref 22])) e22 (.inr (4, [.ref 24])) e24 (.inr (4, [.ref 26])) e26 (.inr (4, [.ref 28])) e28 (.inr (4, [.ref 30])) e30 e31 e32 e33 e34 (.inl (0, 9, .inl (dL [nI m, nI p, nI P, nI i, nI s, gn, nI t, nI g, nI w]))) (.inl (0, 12, .inl (fun j => nI ((nuF B F) j))))), 2, 18) (fun (v : Option Value) (_ : aH) => v = some (.int 1)) := by
  have hkk := wkN_ok (m := m) (g := g) (w := w) (B := B) (F := F) (P := P) (x := (p, i, s, gn)) hm.1 hp hi hs
  refine J.callVO (rest := []) s_La_cycles_8 11 0 [.int 1] 9 (c_F_cycle_1 (X := fun k => ((wkN m g w B F P (p, i, s, gn) k)).1) (Y := fun k => ((wkN m g w B F P (p, i, s, gn) k)).2.1) (S := fun k => ((wkN m g w B F P (p, i, s, gn) k)).2.2.1) (G := fun k => ((wkN m g w B F P (p, i, s, gn) k)).2.2.2) hm hg hw hP (plen_le P) (fun j => by have := hBF j; omega) (fun j => by have := hBF j; omega) (by omega) (fun _ => rfl) (fun _ => rfl) (fun _ => rfl) (fun _ => rfl) (fun k => (hkk k).1) (fun k => (hkk k).2.1) (fun k => (hkk k).2.2) hc hT) rfl rfl rfl rfl rfl (Nat.le_of_ble_eq_true rfl) (by rintro v q ⟨rfl, x0, x1, x2, x3, x4, y0, y1, y2, y3, y4, rfl⟩; rfl) (fun v q h => ?_)
  obtain ⟨rfl, x0, x1, x2, x3, x4, y0, y1, y2, y3, y4, rfl⟩ := h
  exact K _ _ _ _ _ _ _ _ _ _ _ _ _

theorem cc_cy2 {e9 e13 e15 e17 e18 e20 e22 e24 e26 e28 e30 e31 e32 e33 e34 : va_E} {m p P i s t g w : Nat} {gn : Int32} {B F : Nat → Nat} {Tb : Nat → Nat} {a1 a2 a3 b1 b2 b3 b4 b5 d1 d2 d3 d4 d5 : Int32} {t0 T : Nat} {lv : List (Nat × Value)} (hm : 0 < m ∧ m ≤ 4) (hg : g < 8) (hw : w < 16) (hBF : ∀ j, B j + F j ≤ 10) (hP : isPr P = true) (hp : p < m) (hi : i < plen P) (hs : s < 1000) (ht : t ≤ 100000) (hc : Comes (fun k => 4000 * (wkN m g w B F P (p, i, s, gn) k).1 + 1000 * (wkN m g w B F P (p, i, s, gn) k).2.1 + (wkN m g w B F P (p, i, s, gn) k).2.2.1) t0 T) (hT : T ≤ 16000) (K : ∀ (a1 a2 a3 b1 b2 b3 b4 b5 d1 d2 d3 d4 d5 : Int32), JR M_La_cycles none (18, lv, [.int ((wkN m g w B F P (p, i, s, gn) T).2.2.2 - (wkN m g w B F P (p, i, s, gn) t0).2.2.2)], (HP (.inr (9, [.ref 1, .ref 6, .int (nI P), .ref 7, .int (nI 0), .ref 9, .ref 10, .ref 13, .ref 18, .ref 32, .ref 33])) (.inr (8, [.ref 2, .ref 4, .int (nI m), .int (nI g), .int (nI w)])) (.inr (4, [.ref 3])) (.inl (1, 12, .inr (.inl (fun j => lN (B j))))) (.inr (4, [.ref 5])) (.inl (1, 12, .inr (.inl (fun j => lN (F j))))) (.inr (7, [.int (nI p), .int (nI i), .int (nI s), .int gn, .int (nI t)])) (.inr (4, [.ref 8])) (.inl (1, 60, .inr (.inl (fun j => lN (Tb j))))) e9 (.inr (0, [.ref 11, .ref 12, .int a1, .int a2, .int a3])) (.inr (7, [.int b1, .int b2, .int b3, .int b4, .int b5])) (.inr (7, [.int d1, .int d2, .int d3, .int d4, .int d5])) e13 (.inr (4, [.ref 15])) e15 (.inr (4, [.ref 17])) e17 e18 (.inr (4, [.ref 20])) e20 (.inr (4, [.ref 22])) e22 (.inr (4, [.ref 24])) e24 (.inr (4, [.ref 26])) e26 (.inr (4, [.ref 28])) e28 (.inr (4, [.ref 30])) e30 e31 e32 e33 e34 (.inl (0, 9, .inl (dL [nI m, nI p, nI P, nI i, nI s, gn, nI t, nI g, nI w]))) (.inl (0, 12, .inl (fun j => nI ((nuF B F) j))))), 2, 18) (fun (v : Option Value) (_ : aH) => v = some (.int 1))) : JR M_La_cycles none (15, lv, [.int 2, .ref 0], (HP (.inr (9, [.ref 1, .ref 6, .int (nI P), .ref 7, .int (nI 0), .ref 9, .ref 10, .ref 13, .ref 18, .ref 32, .ref 33])) (.inr (8, [.ref 2, .ref 4, .int (nI m), .int (nI g), .int (nI w)])) (.inr (4, [.ref 3])) (.inl (1, 12, .inr (.inl (fun j => lN (B j))))) (.inr (4, [.ref 5])) (.inl (1, 12, .inr (.inl (fun j => lN (F j))))) (.inr (7, [.int (nI p), .int (nI i), .int (nI s), .int gn, .int (nI t)])) (.inr (4, [.ref 8])) (.inl (1, 60, .inr (.inl (fun j => lN (Tb j))))) e9 (.inr (0, [.ref 11, .ref 12, .int a1, .int a2, .int a3])) (.inr (7, [.int b1, .int b2, .int b3, .int b4, .int b5])) (.inr (7, [.int d1, .int d2, .int d3, .int d4, .int d5])) e13 (.inr (4, [.ref 15])) e15 (.inr (4, [.ref 17])) e17 e18 (.inr (4, [.ref 20])) e20 (.inr (4, [.ref 22])) e22 (.inr (4, [.ref 24])) e24 (.inr (4, [.ref 26])) e26 (.inr (4, [.ref 28])) e28 (.inr (4, [.ref 30])) e30 e31 e32 e33 e34 (.inl (0, 9, .inl (dL [nI m, nI p, nI P, nI i, nI s, gn, nI t, nI g, nI w]))) (.inl (0, 12, .inl (fun j => nI ((nuF B F) j))))), 2, 18) (fun (v : Option Value) (_ : aH) => v = some (.int 1)) := by
  have hkk := wkN_ok (m := m) (g := g) (w := w) (B := B) (F := F) (P := P) (x := (p, i, s, gn)) hm.1 hp hi hs
  refine J.callVO (rest := []) s_La_cycles_15 18 0 [.int 2] 9 (c_F_cycle_2 (X := fun k => ((wkN m g w B F P (p, i, s, gn) k)).1) (Y := fun k => ((wkN m g w B F P (p, i, s, gn) k)).2.1) (S := fun k => ((wkN m g w B F P (p, i, s, gn) k)).2.2.1) (G := fun k => ((wkN m g w B F P (p, i, s, gn) k)).2.2.2) hm hg hw hP (plen_le P) (fun j => by have := hBF j; omega) (fun j => by have := hBF j; omega) (by omega) (fun _ => rfl) (fun _ => rfl) (fun _ => rfl) (fun _ => rfl) (fun k => (hkk k).1) (fun k => (hkk k).2.1) (fun k => (hkk k).2.2) hc hT) rfl rfl rfl rfl rfl (Nat.le_of_ble_eq_true rfl) (by rintro v q ⟨rfl, x0, x1, x2, x3, x4, y0, y1, y2, y3, y4, rfl⟩; rfl) (fun v q h => ?_)
  obtain ⟨rfl, x0, x1, x2, x3, x4, y0, y1, y2, y3, y4, rfl⟩ := h
  exact K _ _ _ _ _ _ _ _ _ _ _ _ _

theorem c_La_cycles {k : Nat} {q : aH} (h : LH k q) (hk : k ≤ 1000) : JM M_La_cycles [.ref 0, .ref 35, .ref 36] q 2 18 (fun (v : Option Value) (_ : aH) => v = some (.int 1)) := by
  obtain ⟨m, g, w, P, p, i, s, t, gn, B, F, T, e9, e10, e11, e12, e13, e15, e17, e18, e20, e22, e24, e26, e28, e30, e31, e32, e33, e34, ⟨hm, hg, hw, hP, hp, hi, hs, ht, hBF, hT⟩, hl, rfl⟩ := h
  obtain ⟨h9, h10, h11, h12, h13, h15, h17, h18, h20, h22, h24, h26, h28, h30, h31, h32, h33, h34⟩ := hl
  obtain ⟨a1, a2, a3, rfl⟩ := h10
  obtain ⟨b1, b2, b3, b4, b5, rfl⟩ := h11
  obtain ⟨d1, d2, d3, d4, d5, rfl⟩ := h12
  obtain ⟨q9, z9, rfl⟩ := h9
  obtain ⟨s1, s2, s3, s4, s5, s6, rfl⟩ := h13
  obtain ⟨f15, rfl⟩ := h15
  obtain ⟨f17, rfl⟩ := h17
  obtain ⟨r1, r2, r3, r4, r5, rfl⟩ := h18
  obtain ⟨f20, rfl⟩ := h20
  obtain ⟨f22, rfl⟩ := h22
  obtain ⟨f24, rfl⟩ := h24
  obtain ⟨f26, rfl⟩ := h26
  obtain ⟨f28, rfl⟩ := h28
  obtain ⟨f30, rfl⟩ := h30
  obtain ⟨k1, k2, rfl⟩ := h31
  obtain ⟨k3, k4, rfl⟩ := h32
  obtain ⟨k5, rfl⟩ := h33
  obtain ⟨k6, k7, rfl⟩ := h34
  have hm0 : 0 < m ∧ m ≤ 4 := ⟨by omega, hm.2⟩
  obtain ⟨t0, T9, hc, hT9⟩ := seq_ex (m := m) (g := g) (w := w) (B := B) (F := F) (gn := gn) hm0 hp hi hs
  refine JM.of (by decide +kernel) rfl (Nat.le_of_ble_eq_true rfl) (g_cy_0 ?_)
  refine cc_cy0 hm0 hg hw hBF hP hp hi hs (by omega) hc hT9 (fun a1 a2 a3 b1 b2 b3 b4 b5 d1 d2 d3 d4 d5 => ?_)
  refine g_cy_1 ?_
  refine cc_cy1 hm0 hg hw hBF hP hp hi hs (by omega) hc hT9 (fun a1 a2 a3 b1 b2 b3 b4 b5 d1 d2 d3 d4 d5 => ?_)
  refine g_cy_2 ?_
  refine cc_cy2 hm0 hg hw hBF hP hp hi hs (by omega) hc hT9 (fun a1 a2 a3 b1 b2 b3 b4 b5 d1 d2 d3 d4 d5 => ?_)
  refine g_cy_3 ?_
  refine J.gp ok_La_cycles 1 (22, [(1, .ref 35), (2, .ref 36), (3, .int (nI t0)), (4, .int (nI (T9 - t0))), (5, .int ((wkN m g w B F P (p, i, s, gn) T9).2.2.2 - (wkN m g w B F P (p, i, s, gn) t0).2.2.2))], [.int 9], _, _, _) rfl ?_
  refine J.newaB ok_La_cycles 24 0 9 rfl rfl (by decide) ⟨rfl, by decide, by decide⟩ ?_
  refine J.gp ok_La_cycles 2 (28, [(1, .ref 35), (2, .ref 36), (3, .int (nI t0)), (4, .int (nI (T9 - t0))), (5, .int ((wkN m g w B F P (p, i, s, gn) T9).2.2.2 - (wkN m g w B F P (p, i, s, gn) t0).2.2.2)), (6, .ref 37)], [.int 9], _, _, _) rfl ?_
  refine J.newaB ok_La_cycles 30 0 9 rfl rfl (by decide) ⟨rfl, by decide, by decide⟩ ?_
  refine J.gp ok_La_cycles 1 (32, [(1, .ref 35), (2, .ref 36), (3, .int (nI t0)), (4, .int (nI (T9 - t0))), (5, .int ((wkN m g w B F P (p, i, s, gn) T9).2.2.2 - (wkN m g w B F P (p, i, s, gn) t0).2.2.2)), (6, .ref 37), (7, .ref 38)], [], (HQ (.inr (9, [.ref 1, .ref 6, .int (nI P), .ref 7, .int (nI 0), .ref 9, .ref 10, .ref 13, .ref 18, .ref 32, .ref 33])) (.inr (8, [.ref 2, .ref 4, .int (nI m), .int (nI g), .int (nI w)])) (.inr (4, [.ref 3])) (.inl (1, 12, .inr (.inl (fun j => lN (B j))))) (.inr (4, [.ref 5])) (.inl (1, 12, .inr (.inl (fun j => lN (F j))))) (.inr (7, [.int (nI p), .int (nI i), .int (nI s), .int gn, .int (nI t)])) (.inr (4, [.ref 8])) (.inl (1, 60, .inr (.inl (fun j => lN (T j))))) (.inr (2, [.int q9, .int z9.1, .int z9.2.1, .int z9.2.2.1, .int z9.2.2.2.1, .int z9.2.2.2.2.1, .int z9.2.2.2.2.2.1, .int z9.2.2.2.2.2.2.1, .int z9.2.2.2.2.2.2.2])) (.inr (0, [.ref 11, .ref 12, .int a1, .int a2, .int a3])) (.inr (7, [.int b1, .int b2, .int b3, .int b4, .int b5])) (.inr (7, [.int d1, .int d2, .int d3, .int d4, .int d5])) (.inr (6, [.ref 14, .ref 16, .int s1, .int s2, .int s3, .int s4, .long s5, .long s6])) (.inr (4, [.ref 15])) (.inl (1, 132, .inr (.inl f15))) (.inr (4, [.ref 17])) (.inl (1, 132, .inr (.inl f17))) (.inr (3, [.ref 19, .ref 21, .ref 23, .ref 25, .ref 27, .ref 29, .ref 31, .int r1, .int r2, .long r4, .long r5, .int r3])) (.inr (4, [.ref 20])) (.inl (1, 16, .inr (.inl f20))) (.inr (4, [.ref 22])) (.inl (1, 4, .inr (.inl f22))) (.inr (4, [.ref 24])) (.inl (1, 4, .inr (.inl f24))) (.inr (4, [.ref 26])) (.inl (1, 4, .inr (.inl f26))) (.inr (4, [.ref 28])) (.inl (1, 9, .inr (.inl f28))) (.inr (4, [.ref 30])) (.inl (1, 16, .inr (.inl f30))) (.inr (1, [.long k1, .long k2])) (.inr (1, [.long k3, .long k4])) (.inr (5, [.ref 34, .int k5])) (.inr (1, [.long k6, .long k7])) (.inl (0, 9, .inl (dL [nI m, nI p, nI P, nI i, nI s, gn, nI t, nI g, nI w]))) (.inl (0, 12, .inl (fun j => nI ((nuF B F) j)))) (.inl (0, 9, .inl (fun _ => 0))) (.inl (0, 9, .inl (fun _ => 0)))), 0, 0) rfl ?_
  exact cy_round hm0 hg hw hBF hP hp hi hs (by omega) hc hT9 rfl rfl
