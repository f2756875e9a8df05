/-! WAYS: its contracts -/

theorem wy0_in {e0 e1 e2 e3 e4 e5 e6 e7 e8 e9 e10 e11 e12 e13 e14 e15 e16 e17 e18 e19 e20 e21 e22 e23 e24 e25 e26 e27 e28 e29 e30 e31 e32 e33 e34 : va_E} {m p P i s t g w : Nat} {gn : Int32} {B F : Nat → Nat} {n a row : Nat} {su : Int64} {v : Nat} {O : Option Value → aH → Prop} (hm : 0 < m ∧ m ≤ 4) (hg : g < 8) (hw : w < 16) (hBF : ∀ j, B j + F j ≤ 10) (hP : isPr P = true) (hi : i < plen P) (hp : p < m) (hn : n ≤ 3) (hv : v < m) (d : Nat) : ∀ (k q r rest : Nat), k + d = n → q < m → 16 ≤ r + k → r ≤ 16 + k → rest < 1000 → (K : ∀ q' r' : Nat, roF m 16 16 g w B F P i d k q r rest = (q', r') → JR M_La_ways none (168, [(0, .int (nI n)), (1, .int 0), (2, .int (nI v)), (3, .int 0), (4, .ref 35), (5, .ref 36), (6, .int (nI a)), (7, .long su), (9, .int (nI row)), (11, .int (nI q')), (12, .int (gI r'))], [], (HP e0 e1 e2 e3 e4 e5 e6 e7 e8 e9 e10 e11 e12 e13 e14 e15 e16 e17 e18 e19 e20 e21 e22 e23 e24 e25 e26 e27 e28 e29 e30 e31 e32 e33 e34 (.inl (0, 9, .inl (dL [nI m, nI p, nI P, nI i, nI s, gn, nI t, nI g, nI w]))) (.inl (0, 12, .inl (fun j => nI ((nuF B F) j))))), 0, 0) O) → JR M_La_ways none (57, [(0, .int (nI n)), (1, .int 0), (2, .int (nI v)), (3, .int 0), (4, .ref 35), (5, .ref 36), (6, .int (nI a)), (7, .long su), (9, .int (nI row)), (10, .int (nI rest)), (11, .int (nI q)), (12, .int (gI r)), (13, .int 0), (14, .int (nI k))], [], (HP e0 e1 e2 e3 e4 e5 e6 e7 e8 e9 e10 e11 e12 e13 e14 e15 e16 e17 e18 e19 e20 e21 e22 e23 e24 e25 e26 e27 e28 e29 e30 e31 e32 e33 e34 (.inl (0, 9, .inl (dL [nI m, nI p, nI P, nI i, nI s, gn, nI t, nI g, nI w]))) (.inl (0, 12, .inl (fun j => nI ((nuF B F) j))))), 0, 0) O := by
  induction d with
  | zero =>
    intro k q r rest hk hq h1 h2 hrest K
    obtain rfl : k = n := by omega
    exact g_wy0_6 hn (K q r rfl)
  | succ d ih =>
    intro k q r rest hk hq h1 h2 hrest K
    have hro : roF m 16 16 g w B F P i (d + 1) k q r rest = if mvR g w B F (plev P ((i + k) % (plen P))) q (rest % 10) r + 16 ≤ 16 ∨ 16 + 16 ≤ mvR g w B F (plev P ((i + k) % (plen P))) q (rest % 10) r then (mvP m g w B F (plev P ((i + k) % (plen P))) q (rest % 10), mvR g w B F (plev P ((i + k) % (plen P))) q (rest % 10) r) else roF m 16 16 g w B F P i d (k + 1) (mvP m g w B F (plev P ((i + k) % (plen P))) q (rest % 10)) (mvR g w B F (plev P ((i + k) % (plen P))) q (rest % 10) r) (rest / 10) := by
      rw [← ixF_mod hi k]
      rfl
    obtain ⟨g1, g2⟩ := mvR_near (g := g) (w := w) (B := B) (F := F) (l := (plev P ((i + k) % (plen P)))) (p := q) (dr := rest % 10) (r := r)
    have g3 := mvP_lt (g := g) (w := w) (B := B) (F := F) (l := (plev P ((i + k) % (plen P)))) (dr := rest % 10) hm.1 hq
    have hix : (i + k) % (plen P) < plen P := Nat.mod_lt _ (plen_pos P)
    refine g_wy0_5 hm hg hw hBF hP (isPr_bd hP).2 (plen_le P) (plen_pos P) hn (by omega) hix hi hq hrest (by omega) ?_
    exact ih (k + 1) (mvP m g w B F (plev P ((i + k) % (plen P))) q (rest % 10)) (mvR g w B F (plev P ((i + k) % (plen P))) q (rest % 10) r) (rest / 10) (by omega) g3 (by omega) (by omega) (by omega) (fun q' r' h => K q' r' (by rw [hro, if_neg (by omega)]; exact h))

theorem c_La_ways_0 {e0 e1 e2 e3 e4 e5 e6 e7 e8 e9 e10 e11 e12 e13 e14 e15 e16 e17 e18 e19 e20 e21 e22 e23 e24 e25 e26 e27 e28 e29 e30 e31 e32 e33 e34 : va_E} {m p P i s t g w : Nat} {gn : Int32} {B F : Nat → Nat} {n : Nat} {v : Nat} (hm : 0 < m ∧ m ≤ 4) (hg : g < 8) (hw : w < 16) (hBF : ∀ j, B j + F j ≤ 10) (hP : isPr P = true) (hi : i < plen P) (hp : p < m) (hn : n ≤ 3) (hv : v < m) : JE M_La_ways [.int (nI n), .int 0, .int (nI v), .int 0, .ref 35, .ref 36] (HP e0 e1 e2 e3 e4 e5 e6 e7 e8 e9 e10 e11 e12 e13 e14 e15 e16 e17 e18 e19 e20 e21 e22 e23 e24 e25 e26 e27 e28 e29 e30 e31 e32 e33 e34 (.inl (0, 9, .inl (dL [nI m, nI p, nI P, nI i, nI s, gn, nI t, nI g, nI w]))) (.inl (0, 12, .inl (fun j => nI ((nuF B F) j))))) (some (.long (sumC (w0F m g w B F P i p v n) (10 ^ n)))) (HP e0 e1 e2 e3 e4 e5 e6 e7 e8 e9 e10 e11 e12 e13 e14 e15 e16 e17 e18 e19 e20 e21 e22 e23 e24 e25 e26 e27 e28 e29 e30 e31 e32 e33 e34 (.inl (0, 9, .inl (dL [nI m, nI p, nI P, nI i, nI s, gn, nI t, nI g, nI w]))) (.inl (0, 12, .inl (fun j => nI ((nuF B F) j))))) := by
  have h10 : ∀ k, k ≤ n → 10 ^ k ≤ 10 ^ n := fun k hk => Nat.pow_le_pow_right (by decide) hk
  have h1000 : 10 ^ n ≤ 1000 := Nat.le_trans (Nat.pow_le_pow_right (by decide) hn) (by decide)
  refine JM.of (by decide +kernel) rfl (Nat.le_of_ble_eq_true rfl) (g_wy0_0 ?_)
  have H1 := loopN (P := fun k => JR M_La_ways none (6, [(0, .int (nI n)), (1, .int 0), (2, .int (nI v)), (3, .int 0), (4, .ref 35), (5, .ref 36), (6, .int (nI (10 ^ k))), (7, .int (nI k))], [], (HP e0 e1 e2 e3 e4 e5 e6 e7 e8 e9 e10 e11 e12 e13 e14 e15 e16 e17 e18 e19 e20 e21 e22 e23 e24 e25 e26 e27 e28 e29 e30 e31 e32 e33 e34 (.inl (0, 9, .inl (dL [nI m, nI p, nI P, nI i, nI s, gn, nI t, nI g, nI w]))) (.inl (0, 12, .inl (fun j => nI ((nuF B F) j))))), 0, 0) (OE (some (.long (sumC (w0F m g w B F P i p v n) (10 ^ n)))) (HP e0 e1 e2 e3 e4 e5 e6 e7 e8 e9 e10 e11 e12 e13 e14 e15 e16 e17 e18 e19 e20 e21 e22 e23 e24 e25 e26 e27 e28 e29 e30 e31 e32 e33 e34 (.inl (0, 9, .inl (dL [nI m, nI p, nI P, nI i, nI s, gn, nI t, nI g, nI w]))) (.inl (0, 12, .inl (fun j => nI ((nuF B F) j))))))) (b := n) ?_ (fun k hk ih => ?_) 0 (Nat.zero_le _)
  · exact H1
  · refine g_wy0_2 hn ?_
    have H2 := loopN (P := fun row => JR M_La_ways none (31, [(0, .int (nI n)), (1, .int 0), (2, .int (nI v)), (3, .int 0), (4, .ref 35), (5, .ref 36), (6, .int (nI (10 ^ n))), (7, .long (sumC (w0F m g w B F P i p v n) row)), (9, .int (nI row))], [], (HP e0 e1 e2 e3 e4 e5 e6 e7 e8 e9 e10 e11 e12 e13 e14 e15 e16 e17 e18 e19 e20 e21 e22 e23 e24 e25 e26 e27 e28 e29 e30 e31 e32 e33 e34 (.inl (0, 9, .inl (dL [nI m, nI p, nI P, nI i, nI s, gn, nI t, nI g, nI w]))) (.inl (0, 12, .inl (fun j => nI ((nuF B F) j))))), 0, 0) (OE (some (.long (sumC (w0F m g w B F P i p v n) (10 ^ n)))) (HP e0 e1 e2 e3 e4 e5 e6 e7 e8 e9 e10 e11 e12 e13 e14 e15 e16 e17 e18 e19 e20 e21 e22 e23 e24 e25 e26 e27 e28 e29 e30 e31 e32 e33 e34 (.inl (0, 9, .inl (dL [nI m, nI p, nI P, nI i, nI s, gn, nI t, nI g, nI w]))) (.inl (0, 12, .inl (fun j => nI ((nuF B F) j))))))) (b := 10 ^ n) ?_ (fun row hrow ih => ?_) 0 (Nat.zero_le _)
    · exact H2
    · exact g_wy0_4 h1000 ⟨rfl, rfl⟩
    · refine g_wy0_3 h1000 hrow ?_
      have H3 := wy0_in (O := OE (some (.long (sumC (w0F m g w B F P i p v n) (10 ^ n)))) (HP e0 e1 e2 e3 e4 e5 e6 e7 e8 e9 e10 e11 e12 e13 e14 e15 e16 e17 e18 e19 e20 e21 e22 e23 e24 e25 e26 e27 e28 e29 e30 e31 e32 e33 e34 (.inl (0, 9, .inl (dL [nI m, nI p, nI P, nI i, nI s, gn, nI t, nI g, nI w]))) (.inl (0, 12, .inl (fun j => nI ((nuF B F) j)))))) (a := 10 ^ n) (row := row) (su := sumC (w0F m g w B F P i p v n) row) (gn := gn) (s := s) (t := t) (e0 := e0) (e1 := e1) (e2 := e2) (e3 := e3) (e4 := e4) (e5 := e5) (e6 := e6) (e7 := e7) (e8 := e8) (e9 := e9) (e10 := e10) (e11 := e11) (e12 := e12) (e13 := e13) (e14 := e14) (e15 := e15) (e16 := e16) (e17 := e17) (e18 := e18) (e19 := e19) (e20 := e20) (e21 := e21) (e22 := e22) (e23 := e23) (e24 := e24) (e25 := e25) (e26 := e26) (e27 := e27) (e28 := e28) (e29 := e29) (e30 := e30) (e31 := e31) (e32 := e32) (e33 := e33) (e34 := e34) hm hg hw hBF hP hi hp hn hv n 0 p 16 row (by omega) hp (by omega) (by omega) (by omega) (fun q' r' hf => ?_)
      · rw [gI_16] at H3
        exact H3
      · obtain ⟨f1, f2, f3, f4, f5⟩ := roF_ok (m := m) (mo := 16) (go := 16) (g := g) (w := w) (B := B) (F := F) (P := P) (i := i) hm.1 n 0 p 16 row hp
        rw [hf] at f1 f2 f3 f4 f5
        dsimp only at f1 f2 f3 f4 f5
        refine g_wy0_8 (by omega) (by omega) (by omega) (fun c => ?_) (fun c => ?_)
        · have e : (w0F m g w B F P i p v n) row = 0 := if_neg (by rw [hf]; exact c)
          rw [← e]
          exact ih
        · have e : (w0F m g w B F P i p v n) row = 1 := if_pos (by rw [hf]; exact c)
          rw [← e]
          exact ih
  · have h100 : 10 ^ k ≤ 100 := Nat.le_trans (Nat.pow_le_pow_right (by decide) (show k ≤ 2 by omega)) (by decide)
    exact g_wy0_1 hn hk h100 ih

theorem wy1_in {e0 e1 e2 e3 e4 e5 e6 e7 e8 e9 e10 e11 e12 e13 e14 e15 e16 e17 e18 e19 e20 e21 e22 e23 e24 e25 e26 e27 e28 e29 e30 e31 e32 e33 e34 : va_E} {m p P i s t g w : Nat} {gn : Int32} {B F : Nat → Nat} {n a row : Nat} {su : Int64} {x : Int32} {O : Option Value → aH → Prop} (hm : 0 < m ∧ m ≤ 4) (hg : g < 8) (hw : w < 16) (hBF : ∀ j, B j + F j ≤ 10) (hP : isPr P = true) (hi : i < plen P) (hp : p < m) (hn : n ≤ 3)  (d : Nat) : ∀ (k q r rest : Nat), k + d = n → q < m → 16 ≤ r + k → r ≤ 16 + k → rest < 1000 → (K : ∀ q' r' : Nat, roF m 16 16 g w B F P i d k q r rest = (q', r') → JR M_La_ways none (168, [(0, .int (nI n)), (1, .int 1), (2, .int x), (3, .int 0), (4, .ref 35), (5, .ref 36), (6, .int (nI a)), (7, .long su), (9, .int (nI row)), (11, .int (nI q')), (12, .int (gI r'))], [], (HP e0 e1 e2 e3 e4 e5 e6 e7 e8 e9 e10 e11 e12 e13 e14 e15 e16 e17 e18 e19 e20 e21 e22 e23 e24 e25 e26 e27 e28 e29 e30 e31 e32 e33 e34 (.inl (0, 9, .inl (dL [nI m, nI p, nI P, nI i, nI s, gn, nI t, nI g, nI w]))) (.inl (0, 12, .inl (fun j => nI ((nuF B F) j))))), 0, 0) O) → JR M_La_ways none (57, [(0, .int (nI n)), (1, .int 1), (2, .int x), (3, .int 0), (4, .ref 35), (5, .ref 36), (6, .int (nI a)), (7, .long su), (9, .int (nI row)), (10, .int (nI rest)), (11, .int (nI q)), (12, .int (gI r)), (13, .int 0), (14, .int (nI k))], [], (HP e0 e1 e2 e3 e4 e5 e6 e7 e8 e9 e10 e11 e12 e13 e14 e15 e16 e17 e18 e19 e20 e21 e22 e23 e24 e25 e26 e27 e28 e29 e30 e31 e32 e33 e34 (.inl (0, 9, .inl (dL [nI m, nI p, nI P, nI i, nI s, gn, nI t, nI g, nI w]))) (.inl (0, 12, .inl (fun j => nI ((nuF B F) j))))), 0, 0) O := by
  induction d with
  | zero =>
    intro k q r rest hk hq h1 h2 hrest K
    obtain rfl : k = n := by omega
    exact g_wy1_6 hn (K q r rfl)
  | succ d ih =>
    intro k q r rest hk hq h1 h2 hrest K
    have hro : roF m 16 16 g w B F P i (d + 1) k q r rest = if mvR g w B F (plev P ((i + k) % (plen P))) q (rest % 10) r + 16 ≤ 16 ∨ 16 + 16 ≤ mvR g w B F (plev P ((i + k) % (plen P))) q (rest % 10) r then (mvP m g w B F (plev P ((i + k) % (plen P))) q (rest % 10), mvR g w B F (plev P ((i + k) % (plen P))) q (rest % 10) r) else roF m 16 16 g w B F P i d (k + 1) (mvP m g w B F (plev P ((i + k) % (plen P))) q (rest % 10)) (mvR g w B F (plev P ((i + k) % (plen P))) q (rest % 10) r) (rest / 10) := by
      rw [← ixF_mod hi k]
      rfl
    obtain ⟨g1, g2⟩ := mvR_near (g := g) (w := w) (B := B) (F := F) (l := (plev P ((i + k) % (plen P)))) (p := q) (dr := rest % 10) (r := r)
    have g3 := mvP_lt (g := g) (w := w) (B := B) (F := F) (l := (plev P ((i + k) % (plen P)))) (dr := rest % 10) hm.1 hq
    have hix : (i + k) % (plen P) < plen P := Nat.mod_lt _ (plen_pos P)
    refine g_wy1_5 hm hg hw hBF hP (isPr_bd hP).2 (plen_le P) (plen_pos P) hn (by omega) hix hi hq hrest (by omega) ?_
    exact ih (k + 1) (mvP m g w B F (plev P ((i + k) % (plen P))) q (rest % 10)) (mvR g w B F (plev P ((i + k) % (plen P))) q (rest % 10) r) (rest / 10) (by omega) g3 (by omega) (by omega) (by omega) (fun q' r' h => K q' r' (by rw [hro, if_neg (by omega)]; exact h))

theorem c_La_ways_1 {e0 e1 e2 e3 e4 e5 e6 e7 e8 e9 e10 e11 e12 e13 e14 e15 e16 e17 e18 e19 e20 e21 e22 e23 e24 e25 e26 e27 e28 e29 e30 e31 e32 e33 e34 : va_E} {m p P i s t g w : Nat} {gn : Int32} {B F : Nat → Nat} {n : Nat} {x : Int32} (hm : 0 < m ∧ m ≤ 4) (hg : g < 8) (hw : w < 16) (hBF : ∀ j, B j + F j ≤ 10) (hP : isPr P = true) (hi : i < plen P) (hp : p < m) (hn : n ≤ 3)  : JE M_La_ways [.int (nI n), .int 1, .int x, .int 0, .ref 35, .ref 36] (HP e0 e1 e2 e3 e4 e5 e6 e7 e8 e9 e10 e11 e12 e13 e14 e15 e16 e17 e18 e19 e20 e21 e22 e23 e24 e25 e26 e27 e28 e29 e30 e31 e32 e33 e34 (.inl (0, 9, .inl (dL [nI m, nI p, nI P, nI i, nI s, gn, nI t, nI g, nI w]))) (.inl (0, 12, .inl (fun j => nI ((nuF B F) j))))) (some (.long (sumC (w1F m g w B F P i p n x) (10 ^ n)))) (HP e0 e1 e2 e3 e4 e5 e6 e7 e8 e9 e10 e11 e12 e13 e14 e15 e16 e17 e18 e19 e20 e21 e22 e23 e24 e25 e26 e27 e28 e29 e30 e31 e32 e33 e34 (.inl (0, 9, .inl (dL [nI m, nI p, nI P, nI i, nI s, gn, nI t, nI g, nI w]))) (.inl (0, 12, .inl (fun j => nI ((nuF B F) j))))) := by
  have h10 : ∀ k, k ≤ n → 10 ^ k ≤ 10 ^ n := fun k hk => Nat.pow_le_pow_right (by decide) hk
  have h1000 : 10 ^ n ≤ 1000 := Nat.le_trans (Nat.pow_le_pow_right (by decide) hn) (by decide)
  refine JM.of (by decide +kernel) rfl (Nat.le_of_ble_eq_true rfl) (g_wy1_0 ?_)
  have H1 := loopN (P := fun k => JR M_La_ways none (6, [(0, .int (nI n)), (1, .int 1), (2, .int x), (3, .int 0), (4, .ref 35), (5, .ref 36), (6, .int (nI (10 ^ k))), (7, .int (nI k))], [], (HP e0 e1 e2 e3 e4 e5 e6 e7 e8 e9 e10 e11 e12 e13 e14 e15 e16 e17 e18 e19 e20 e21 e22 e23 e24 e25 e26 e27 e28 e29 e30 e31 e32 e33 e34 (.inl (0, 9, .inl (dL [nI m, nI p, nI P, nI i, nI s, gn, nI t, nI g, nI w]))) (.inl (0, 12, .inl (fun j => nI ((nuF B F) j))))), 0, 0) (OE (some (.long (sumC (w1F m g w B F P i p n x) (10 ^ n)))) (HP e0 e1 e2 e3 e4 e5 e6 e7 e8 e9 e10 e11 e12 e13 e14 e15 e16 e17 e18 e19 e20 e21 e22 e23 e24 e25 e26 e27 e28 e29 e30 e31 e32 e33 e34 (.inl (0, 9, .inl (dL [nI m, nI p, nI P, nI i, nI s, gn, nI t, nI g, nI w]))) (.inl (0, 12, .inl (fun j => nI ((nuF B F) j))))))) (b := n) ?_ (fun k hk ih => ?_) 0 (Nat.zero_le _)
  · exact H1
  · refine g_wy1_2 hn ?_
    have H2 := loopN (P := fun row => JR M_La_ways none (31, [(0, .int (nI n)), (1, .int 1), (2, .int x), (3, .int 0), (4, .ref 35), (5, .ref 36), (6, .int (nI (10 ^ n))), (7, .long (sumC (w1F m g w B F P i p n x) row)), (9, .int (nI row))], [], (HP e0 e1 e2 e3 e4 e5 e6 e7 e8 e9 e10 e11 e12 e13 e14 e15 e16 e17 e18 e19 e20 e21 e22 e23 e24 e25 e26 e27 e28 e29 e30 e31 e32 e33 e34 (.inl (0, 9, .inl (dL [nI m, nI p, nI P, nI i, nI s, gn, nI t, nI g, nI w]))) (.inl (0, 12, .inl (fun j => nI ((nuF B F) j))))), 0, 0) (OE (some (.long (sumC (w1F m g w B F P i p n x) (10 ^ n)))) (HP e0 e1 e2 e3 e4 e5 e6 e7 e8 e9 e10 e11 e12 e13 e14 e15 e16 e17 e18 e19 e20 e21 e22 e23 e24 e25 e26 e27 e28 e29 e30 e31 e32 e33 e34 (.inl (0, 9, .inl (dL [nI m, nI p, nI P, nI i, nI s, gn, nI t, nI g, nI w]))) (.inl (0, 12, .inl (fun j => nI ((nuF B F) j))))))) (b := 10 ^ n) ?_ (fun row hrow ih => ?_) 0 (Nat.zero_le _)
    · exact H2
    · exact g_wy1_4 h1000 ⟨rfl, rfl⟩
    · refine g_wy1_3 h1000 hrow ?_
      have H3 := wy1_in (O := OE (some (.long (sumC (w1F m g w B F P i p n x) (10 ^ n)))) (HP e0 e1 e2 e3 e4 e5 e6 e7 e8 e9 e10 e11 e12 e13 e14 e15 e16 e17 e18 e19 e20 e21 e22 e23 e24 e25 e26 e27 e28 e29 e30 e31 e32 e33 e34 (.inl (0, 9, .inl (dL [nI m, nI p, nI P, nI i, nI s, gn, nI t, nI g, nI w]))) (.inl (0, 12, .inl (fun j => nI ((nuF B F) j)))))) (a := 10 ^ n) (row := row) (su := sumC (w1F m g w B F P i p n x) row) (gn := gn) (s := s) (t := t) (e0 := e0) (e1 := e1) (e2 := e2) (e3 := e3) (e4 := e4) (e5 := e5) (e6 := e6) (e7 := e7) (e8 := e8) (e9 := e9) (e10 := e10) (e11 := e11) (e12 := e12) (e13 := e13) (e14 := e14) (e15 := e15) (e16 := e16) (e17 := e17) (e18 := e18) (e19 := e19) (e20 := e20) (e21 := e21) (e22 := e22) (e23 := e23) (e24 := e24) (e25 := e25) (e26 := e26) (e27 := e27) (e28 := e28) (e29 := e29) (e30 := e30) (e31 := e31) (e32 := e32) (e33 := e33) (e34 := e34) (x := x) hm hg hw hBF hP hi hp hn  n 0 p 16 row (by omega) hp (by omega) (by omega) (by omega) (fun q' r' hf => ?_)
      · rw [gI_16] at H3
        exact H3
      · obtain ⟨f1, f2, f3, f4, f5⟩ := roF_ok (m := m) (mo := 16) (go := 16) (g := g) (w := w) (B := B) (F := F) (P := P) (i := i) hm.1 n 0 p 16 row hp
        rw [hf] at f1 f2 f3 f4 f5
        dsimp only at f1 f2 f3 f4 f5
        refine g_wy1_8 (by omega) (by omega) (fun c => ?_) (fun c => ?_)
        · have e : (w1F m g w B F P i p n x) row = 0 := if_neg (by rw [hf]; exact Int32.not_le.mpr c)
          rw [← e]
          exact ih
        · have e : (w1F m g w B F P i p n x) row = 1 := if_pos (by rw [hf]; exact Int32.not_lt.mp c)
          rw [← e]
          exact ih
  · have h100 : 10 ^ k ≤ 100 := Nat.le_trans (Nat.pow_le_pow_right (by decide) (show k ≤ 2 by omega)) (by decide)
    exact g_wy1_1 hn hk h100 ih

theorem wy2_in {e0 e1 e2 e3 e4 e5 e6 e7 e8 e9 e10 e11 e12 e13 e14 e15 e16 e17 e18 e19 e20 e21 e22 e23 e24 e25 e26 e27 e28 e29 e30 e31 e32 e33 e34 : va_E} {m p P i s t g w : Nat} {gn : Int32} {B F : Nat → Nat} {n a row : Nat} {su : Int64} {mo go : Nat} {O : Option Value → aH → Prop} (hm : 0 < m ∧ m ≤ 4) (hg : g < 8) (hw : w < 16) (hBF : ∀ j, B j + F j ≤ 10) (hP : isPr P = true) (hi : i < plen P) (hp : p < m) (hn : n ≤ 3) (hmo : 1 ≤ mo ∧ mo ≤ 16) (hgo : 1 ≤ go ∧ go ≤ 16) (d : Nat) : ∀ (k q r rest : Nat), k + d = n → q < m → 16 < r + mo → r < go + 16 → r ≤ 16 + k → rest < 1000 → (K : ∀ q' r' : Nat, roF m mo go g w B F P i d k q r rest = (q', r') → JR M_La_ways none (168, [(0, .int (nI n)), (1, .int 2), (2, .int (nI go)), (3, .int (nI mo)), (4, .ref 35), (5, .ref 36), (6, .int (nI a)), (7, .long su), (9, .int (nI row)), (11, .int (nI q')), (12, .int (gI r'))], [], (HP e0 e1 e2 e3 e4 e5 e6 e7 e8 e9 e10 e11 e12 e13 e14 e15 e16 e17 e18 e19 e20 e21 e22 e23 e24 e25 e26 e27 e28 e29 e30 e31 e32 e33 e34 (.inl (0, 9, .inl (dL [nI m, nI p, nI P, nI i, nI s, gn, nI t, nI g, nI w]))) (.inl (0, 12, .inl (fun j => nI ((nuF B F) j))))), 0, 0) O) → JR M_La_ways none (57, [(0, .int (nI n)), (1, .int 2), (2, .int (nI go)), (3, .int (nI mo)), (4, .ref 35), (5, .ref 36), (6, .int (nI a)), (7, .long su), (9, .int (nI row)), (10, .int (nI rest)), (11, .int (nI q)), (12, .int (gI r)), (13, .int 0), (14, .int (nI k))], [], (HP e0 e1 e2 e3 e4 e5 e6 e7 e8 e9 e10 e11 e12 e13 e14 e15 e16 e17 e18 e19 e20 e21 e22 e23 e24 e25 e26 e27 e28 e29 e30 e31 e32 e33 e34 (.inl (0, 9, .inl (dL [nI m, nI p, nI P, nI i, nI s, gn, nI t, nI g, nI w]))) (.inl (0, 12, .inl (fun j => nI ((nuF B F) j))))), 0, 0) O := by
  induction d with
  | zero =>
    intro k q r rest hk hq h1 h2 h3 hrest K
    obtain rfl : k = n := by omega
    exact g_wy2_6 hn (K q r rfl)
  | succ d ih =>
    intro k q r rest hk hq h1 h2 h3 hrest K
    have hro : roF m mo go g w B F P i (d + 1) k q r rest = if mvR g w B F (plev P ((i + k) % (plen P))) q (rest % 10) r + mo ≤ 16 ∨ go + 16 ≤ mvR g w B F (plev P ((i + k) % (plen P))) q (rest % 10) r then (mvP m g w B F (plev P ((i + k) % (plen P))) q (rest % 10), mvR g w B F (plev P ((i + k) % (plen P))) q (rest % 10) r) else roF m mo go g w B F P i d (k + 1) (mvP m g w B F (plev P ((i + k) % (plen P))) q (rest % 10)) (mvR g w B F (plev P ((i + k) % (plen P))) q (rest % 10) r) (rest / 10) := by
      rw [← ixF_mod hi k]
      rfl
    obtain ⟨g1, g2⟩ := mvR_near (g := g) (w := w) (B := B) (F := F) (l := (plev P ((i + k) % (plen P)))) (p := q) (dr := rest % 10) (r := r)
    have g3 := mvP_lt (g := g) (w := w) (B := B) (F := F) (l := (plev P ((i + k) % (plen P)))) (dr := rest % 10) hm.1 hq
    have hix : (i + k) % (plen P) < plen P := Nat.mod_lt _ (plen_pos P)
    refine g_wy2_5 hm hg hw hBF hP (isPr_bd hP).2 (plen_le P) (plen_pos P) hn (by omega) hix hi hq hrest (by omega) (fun c1 => ?_) (fun c1 c2 => ?_) (fun c1 c2 => ?_)
    · have c3 := (gI_eqn (by omega) hmo.2).mp c1
      have hf : roF m mo go g w B F P i (d + 1) k q r rest = (mvP m g w B F (plev P ((i + k) % (plen P))) q (rest % 10), mvR g w B F (plev P ((i + k) % (plen P))) q (rest % 10) r) := by rw [hro, if_pos (Or.inl (by omega))]
      exact g_wy2_7 hn (by omega) (fun _ => K _ _ hf) (fun _ => K _ _ hf)
    · have c3 : ¬ mvR g w B F (plev P ((i + k) % (plen P))) q (rest % 10) r + mo = 16 := fun c => c1 ((gI_eqn (by omega) hmo.2).mpr c)
      have c4 : ¬ mvR g w B F (plev P ((i + k) % (plen P))) q (rest % 10) r = go + 16 := fun c => c2 ((gI_eqp (by omega) hgo.2).mpr c)
      exact ih (k + 1) (mvP m g w B F (plev P ((i + k) % (plen P))) q (rest % 10)) (mvR g w B F (plev P ((i + k) % (plen P))) q (rest % 10) r) (rest / 10) (by omega) g3 (by omega) (by omega) (by omega) (by omega) (fun q' r' h => K q' r' (by rw [hro, if_neg (by omega)]; exact h))
    · have c4 := (gI_eqp (by omega) hgo.2).mp (Classical.not_not.mp c2)
      have hf : roF m mo go g w B F P i (d + 1) k q r rest = (mvP m g w B F (plev P ((i + k) % (plen P))) q (rest % 10), mvR g w B F (plev P ((i + k) % (plen P))) q (rest % 10) r) := by rw [hro, if_pos (Or.inr (by omega))]
      exact g_wy2_7 hn (by omega) (fun _ => K _ _ hf) (fun _ => K _ _ hf)

theorem c_La_ways_2 {e0 e1 e2 e3 e4 e5 e6 e7 e8 e9 e10 e11 e12 e13 e14 e15 e16 e17 e18 e19 e20 e21 e22 e23 e24 e25 e26 e27 e28 e29 e30 e31 e32 e33 e34 : va_E} {m p P i s t g w : Nat} {gn : Int32} {B F : Nat → Nat} {n : Nat} {mo go : Nat} (hm : 0 < m ∧ m ≤ 4) (hg : g < 8) (hw : w < 16) (hBF : ∀ j, B j + F j ≤ 10) (hP : isPr P = true) (hi : i < plen P) (hp : p < m) (hn : n ≤ 3) (hmo : 1 ≤ mo ∧ mo ≤ 16) (hgo : 1 ≤ go ∧ go ≤ 16) : JE M_La_ways [.int (nI n), .int 2, .int (nI go), .int (nI mo), .ref 35, .ref 36] (HP e0 e1 e2 e3 e4 e5 e6 e7 e8 e9 e10 e11 e12 e13 e14 e15 e16 e17 e18 e19 e20 e21 e22 e23 e24 e25 e26 e27 e28 e29 e30 e31 e32 e33 e34 (.inl (0, 9, .inl (dL [nI m, nI p, nI P, nI i, nI s, gn, nI t, nI g, nI w]))) (.inl (0, 12, .inl (fun j => nI ((nuF B F) j))))) (some (.long (sumC (w2F m mo go g w B F P i p n) (10 ^ n)))) (HP e0 e1 e2 e3 e4 e5 e6 e7 e8 e9 e10 e11 e12 e13 e14 e15 e16 e17 e18 e19 e20 e21 e22 e23 e24 e25 e26 e27 e28 e29 e30 e31 e32 e33 e34 (.inl (0, 9, .inl (dL [nI m, nI p, nI P, nI i, nI s, gn, nI t, nI g, nI w]))) (.inl (0, 12, .inl (fun j => nI ((nuF B F) j))))) := by
  have h10 : ∀ k, k ≤ n → 10 ^ k ≤ 10 ^ n := fun k hk => Nat.pow_le_pow_right (by decide) hk
  have h1000 : 10 ^ n ≤ 1000 := Nat.le_trans (Nat.pow_le_pow_right (by decide) hn) (by decide)
  refine JM.of (by decide +kernel) rfl (Nat.le_of_ble_eq_true rfl) (g_wy2_0 ?_)
  have H1 := loopN (P := fun k => JR M_La_ways none (6, [(0, .int (nI n)), (1, .int 2), (2, .int (nI go)), (3, .int (nI mo)), (4, .ref 35), (5, .ref 36), (6, .int (nI (10 ^ k))), (7, .int (nI k))], [], (HP e0 e1 e2 e3 e4 e5 e6 e7 e8 e9 e10 e11 e12 e13 e14 e15 e16 e17 e18 e19 e20 e21 e22 e23 e24 e25 e26 e27 e28 e29 e30 e31 e32 e33 e34 (.inl (0, 9, .inl (dL [nI m, nI p, nI P, nI i, nI s, gn, nI t, nI g, nI w]))) (.inl (0, 12, .inl (fun j => nI ((nuF B F) j))))), 0, 0) (OE (some (.long (sumC (w2F m mo go g w B F P i p n) (10 ^ n)))) (HP e0 e1 e2 e3 e4 e5 e6 e7 e8 e9 e10 e11 e12 e13 e14 e15 e16 e17 e18 e19 e20 e21 e22 e23 e24 e25 e26 e27 e28 e29 e30 e31 e32 e33 e34 (.inl (0, 9, .inl (dL [nI m, nI p, nI P, nI i, nI s, gn, nI t, nI g, nI w]))) (.inl (0, 12, .inl (fun j => nI ((nuF B F) j))))))) (b := n) ?_ (fun k hk ih => ?_) 0 (Nat.zero_le _)
  · exact H1
  · refine g_wy2_2 hn ?_
    have H2 := loopN (P := fun row => JR M_La_ways none (31, [(0, .int (nI n)), (1, .int 2), (2, .int (nI go)), (3, .int (nI mo)), (4, .ref 35), (5, .ref 36), (6, .int (nI (10 ^ n))), (7, .long (sumC (w2F m mo go g w B F P i p n) row)), (9, .int (nI row))], [], (HP e0 e1 e2 e3 e4 e5 e6 e7 e8 e9 e10 e11 e12 e13 e14 e15 e16 e17 e18 e19 e20 e21 e22 e23 e24 e25 e26 e27 e28 e29 e30 e31 e32 e33 e34 (.inl (0, 9, .inl (dL [nI m, nI p, nI P, nI i, nI s, gn, nI t, nI g, nI w]))) (.inl (0, 12, .inl (fun j => nI ((nuF B F) j))))), 0, 0) (OE (some (.long (sumC (w2F m mo go g w B F P i p n) (10 ^ n)))) (HP e0 e1 e2 e3 e4 e5 e6 e7 e8 e9 e10 e11 e12 e13 e14 e15 e16 e17 e18 e19 e20 e21 e22 e23 e24 e25 e26 e27 e28 e29 e30 e31 e32 e33 e34 (.inl (0, 9, .inl (dL [nI m, nI p, nI P, nI i, nI s, gn, nI t, nI g, nI w]))) (.inl (0, 12, .inl (fun j => nI ((nuF B F) j))))))) (b := 10 ^ n) ?_ (fun row hrow ih => ?_) 0 (Nat.zero_le _)
    · exact H2
    · exact g_wy2_4 h1000 ⟨rfl, rfl⟩
    · refine g_wy2_3 h1000 hrow ?_
      have H3 := wy2_in (O := OE (some (.long (sumC (w2F m mo go g w B F P i p n) (10 ^ n)))) (HP e0 e1 e2 e3 e4 e5 e6 e7 e8 e9 e10 e11 e12 e13 e14 e15 e16 e17 e18 e19 e20 e21 e22 e23 e24 e25 e26 e27 e28 e29 e30 e31 e32 e33 e34 (.inl (0, 9, .inl (dL [nI m, nI p, nI P, nI i, nI s, gn, nI t, nI g, nI w]))) (.inl (0, 12, .inl (fun j => nI ((nuF B F) j)))))) (a := 10 ^ n) (row := row) (su := sumC (w2F m mo go g w B F P i p n) row) (gn := gn) (s := s) (t := t) (e0 := e0) (e1 := e1) (e2 := e2) (e3 := e3) (e4 := e4) (e5 := e5) (e6 := e6) (e7 := e7) (e8 := e8) (e9 := e9) (e10 := e10) (e11 := e11) (e12 := e12) (e13 := e13) (e14 := e14) (e15 := e15) (e16 := e16) (e17 := e17) (e18 := e18) (e19 := e19) (e20 := e20) (e21 := e21) (e22 := e22) (e23 := e23) (e24 := e24) (e25 := e25) (e26 := e26) (e27 := e27) (e28 := e28) (e29 := e29) (e30 := e30) (e31 := e31) (e32 := e32) (e33 := e33) (e34 := e34) hm hg hw hBF hP hi hp hn hmo hgo n 0 p 16 row (by omega) hp (by omega) (by omega) (by omega) (by omega) (fun q' r' hf => ?_)
      · rw [gI_16] at H3
        exact H3
      · obtain ⟨f1, f2, f3, f4, f5⟩ := roF_ok (m := m) (mo := mo) (go := go) (g := g) (w := w) (B := B) (F := F) (P := P) (i := i) hm.1 n 0 p 16 row hp
        rw [hf] at f1 f2 f3 f4 f5
        dsimp only at f1 f2 f3 f4 f5
        refine g_wy2_8 (by omega) (by omega) (fun c => ?_) (fun c => ?_)
        · have e : (w2F m mo go g w B F P i p n) row = 0 := if_neg (by rw [hf]; exact fun d => c ((gI_eqn (by omega) hmo.2).mpr d))
          rw [← e]
          exact ih
        · have e : (w2F m mo go g w B F P i p n) row = 1 := if_pos (by rw [hf]; exact (gI_eqn (by omega) hmo.2).mp (Classical.not_not.mp c))
          rw [← e]
          exact ih
  · have h100 : 10 ^ k ≤ 100 := Nat.le_trans (Nat.pow_le_pow_right (by decide) (show k ≤ 2 by omega)) (by decide)
    exact g_wy2_1 hn hk h100 ih

theorem wy3_in {e0 e1 e2 e3 e4 e5 e6 e7 e8 e9 e10 e11 e12 e13 e14 e15 e16 e17 e18 e19 e20 e21 e22 e23 e24 e25 e26 e27 e28 e29 e30 e31 e32 e33 e34 : va_E} {m p P i s t g w : Nat} {gn : Int32} {B F : Nat → Nat} {n a row : Nat} {su : Int64} {mo go : Nat} {O : Option Value → aH → Prop} (hm : 0 < m ∧ m ≤ 4) (hg : g < 8) (hw : w < 16) (hBF : ∀ j, B j + F j ≤ 10) (hP : isPr P = true) (hi : i < plen P) (hp : p < m) (hn : n ≤ 3) (hmo : 1 ≤ mo ∧ mo ≤ 16) (hgo : 1 ≤ go ∧ go ≤ 16) (d : Nat) : ∀ (k q r rest : Nat), k + d = n → q < m → 16 < r + mo → r < go + 16 → r ≤ 16 + k → rest < 1000 → (K : ∀ q' r' : Nat, roF m mo go g w B F P i d k q r rest = (q', r') → JR M_La_ways none (168, [(0, .int (nI n)), (1, .int 3), (2, .int (nI go)), (3, .int (nI mo)), (4, .ref 35), (5, .ref 36), (6, .int (nI a)), (7, .long su), (9, .int (nI row)), (11, .int (nI q')), (12, .int (gI r'))], [], (HP e0 e1 e2 e3 e4 e5 e6 e7 e8 e9 e10 e11 e12 e13 e14 e15 e16 e17 e18 e19 e20 e21 e22 e23 e24 e25 e26 e27 e28 e29 e30 e31 e32 e33 e34 (.inl (0, 9, .inl (dL [nI m, nI p, nI P, nI i, nI s, gn, nI t, nI g, nI w]))) (.inl (0, 12, .inl (fun j => nI ((nuF B F) j))))), 0, 0) O) → JR M_La_ways none (57, [(0, .int (nI n)), (1, .int 3), (2, .int (nI go)), (3, .int (nI mo)), (4, .ref 35), (5, .ref 36), (6, .int (nI a)), (7, .long su), (9, .int (nI row)), (10, .int (nI rest)), (11, .int (nI q)), (12, .int (gI r)), (13, .int 0), (14, .int (nI k))], [], (HP e0 e1 e2 e3 e4 e5 e6 e7 e8 e9 e10 e11 e12 e13 e14 e15 e16 e17 e18 e19 e20 e21 e22 e23 e24 e25 e26 e27 e28 e29 e30 e31 e32 e33 e34 (.inl (0, 9, .inl (dL [nI m, nI p, nI P, nI i, nI s, gn, nI t, nI g, nI w]))) (.inl (0, 12, .inl (fun j => nI ((nuF B F) j))))), 0, 0) O := by
  induction d with
  | zero =>
    intro k q r rest hk hq h1 h2 h3 hrest K
    obtain rfl : k = n := by omega
    exact g_wy3_6 hn (K q r rfl)
  | succ d ih =>
    intro k q r rest hk hq h1 h2 h3 hrest K
    have hro : roF m mo go g w B F P i (d + 1) k q r rest = if mvR g w B F (plev P ((i + k) % (plen P))) q (rest % 10) r + mo ≤ 16 ∨ go + 16 ≤ mvR g w B F (plev P ((i + k) % (plen P))) q (rest % 10) r then (mvP m g w B F (plev P ((i + k) % (plen P))) q (rest % 10), mvR g w B F (plev P ((i + k) % (plen P))) q (rest % 10) r) else roF m mo go g w B F P i d (k + 1) (mvP m g w B F (plev P ((i + k) % (plen P))) q (rest % 10)) (mvR g w B F (plev P ((i + k) % (plen P))) q (rest % 10) r) (rest / 10) := by
      rw [← ixF_mod hi k]
      rfl
    obtain ⟨g1, g2⟩ := mvR_near (g := g) (w := w) (B := B) (F := F) (l := (plev P ((i + k) % (plen P)))) (p := q) (dr := rest % 10) (r := r)
    have g3 := mvP_lt (g := g) (w := w) (B := B) (F := F) (l := (plev P ((i + k) % (plen P)))) (dr := rest % 10) hm.1 hq
    have hix : (i + k) % (plen P) < plen P := Nat.mod_lt _ (plen_pos P)
    refine g_wy3_5 hm hg hw hBF hP (isPr_bd hP).2 (plen_le P) (plen_pos P) hn (by omega) hix hi hq hrest (by omega) (fun c1 => ?_) (fun c1 c2 => ?_) (fun c1 c2 => ?_)
    · have c3 := (gI_eqn (by omega) hmo.2).mp c1
      have hf : roF m mo go g w B F P i (d + 1) k q r rest = (mvP m g w B F (plev P ((i + k) % (plen P))) q (rest % 10), mvR g w B F (plev P ((i + k) % (plen P))) q (rest % 10) r) := by rw [hro, if_pos (Or.inl (by omega))]
      exact g_wy3_7 hn (by omega) (fun _ => K _ _ hf) (fun _ => K _ _ hf)
    · have c3 : ¬ mvR g w B F (plev P ((i + k) % (plen P))) q (rest % 10) r + mo = 16 := fun c => c1 ((gI_eqn (by omega) hmo.2).mpr c)
      have c4 : ¬ mvR g w B F (plev P ((i + k) % (plen P))) q (rest % 10) r = go + 16 := fun c => c2 ((gI_eqp (by omega) hgo.2).mpr c)
      exact ih (k + 1) (mvP m g w B F (plev P ((i + k) % (plen P))) q (rest % 10)) (mvR g w B F (plev P ((i + k) % (plen P))) q (rest % 10) r) (rest / 10) (by omega) g3 (by omega) (by omega) (by omega) (by omega) (fun q' r' h => K q' r' (by rw [hro, if_neg (by omega)]; exact h))
    · have c4 := (gI_eqp (by omega) hgo.2).mp (Classical.not_not.mp c2)
      have hf : roF m mo go g w B F P i (d + 1) k q r rest = (mvP m g w B F (plev P ((i + k) % (plen P))) q (rest % 10), mvR g w B F (plev P ((i + k) % (plen P))) q (rest % 10) r) := by rw [hro, if_pos (Or.inr (by omega))]
      exact g_wy3_7 hn (by omega) (fun _ => K _ _ hf) (fun _ => K _ _ hf)

theorem c_La_ways_3 {e0 e1 e2 e3 e4 e5 e6 e7 e8 e9 e10 e11 e12 e13 e14 e15 e16 e17 e18 e19 e20 e21 e22 e23 e24 e25 e26 e27 e28 e29 e30 e31 e32 e33 e34 : va_E} {m p P i s t g w : Nat} {gn : Int32} {B F : Nat → Nat} {n : Nat} {mo go : Nat} (hm : 0 < m ∧ m ≤ 4) (hg : g < 8) (hw : w < 16) (hBF : ∀ j, B j + F j ≤ 10) (hP : isPr P = true) (hi : i < plen P) (hp : p < m) (hn : n ≤ 3) (hmo : 1 ≤ mo ∧ mo ≤ 16) (hgo : 1 ≤ go ∧ go ≤ 16) : JE M_La_ways [.int (nI n), .int 3, .int (nI go), .int (nI mo), .ref 35, .ref 36] (HP e0 e1 e2 e3 e4 e5 e6 e7 e8 e9 e10 e11 e12 e13 e14 e15 e16 e17 e18 e19 e20 e21 e22 e23 e24 e25 e26 e27 e28 e29 e30 e31 e32 e33 e34 (.inl (0, 9, .inl (dL [nI m, nI p, nI P, nI i, nI s, gn, nI t, nI g, nI w]))) (.inl (0, 12, .inl (fun j => nI ((nuF B F) j))))) (some (.long (sumC (w3F m mo go g w B F P i p n) (10 ^ n)))) (HP e0 e1 e2 e3 e4 e5 e6 e7 e8 e9 e10 e11 e12 e13 e14 e15 e16 e17 e18 e19 e20 e21 e22 e23 e24 e25 e26 e27 e28 e29 e30 e31 e32 e33 e34 (.inl (0, 9, .inl (dL [nI m, nI p, nI P, nI i, nI s, gn, nI t, nI g, nI w]))) (.inl (0, 12, .inl (fun j => nI ((nuF B F) j))))) := by
  have h10 : ∀ k, k ≤ n → 10 ^ k ≤ 10 ^ n := fun k hk => Nat.pow_le_pow_right (by decide) hk
  have h1000 : 10 ^ n ≤ 1000 := Nat.le_trans (Nat.pow_le_pow_right (by decide) hn) (by decide)
  refine JM.of (by decide +kernel) rfl (Nat.le_of_ble_eq_true rfl) (g_wy3_0 ?_)
  have H1 := loopN (P := fun k => JR M_La_ways none (6, [(0, .int (nI n)), (1, .int 3), (2, .int (nI go)), (3, .int (nI mo)), (4, .ref 35), (5, .ref 36), (6, .int (nI (10 ^ k))), (7, .int (nI k))], [], (HP e0 e1 e2 e3 e4 e5 e6 e7 e8 e9 e10 e11 e12 e13 e14 e15 e16 e17 e18 e19 e20 e21 e22 e23 e24 e25 e26 e27 e28 e29 e30 e31 e32 e33 e34 (.inl (0, 9, .inl (dL [nI m, nI p, nI P, nI i, nI s, gn, nI t, nI g, nI w]))) (.inl (0, 12, .inl (fun j => nI ((nuF B F) j))))), 0, 0) (OE (some (.long (sumC (w3F m mo go g w B F P i p n) (10 ^ n)))) (HP e0 e1 e2 e3 e4 e5 e6 e7 e8 e9 e10 e11 e12 e13 e14 e15 e16 e17 e18 e19 e20 e21 e22 e23 e24 e25 e26 e27 e28 e29 e30 e31 e32 e33 e34 (.inl (0, 9, .inl (dL [nI m, nI p, nI P, nI i, nI s, gn, nI t, nI g, nI w]))) (.inl (0, 12, .inl (fun j => nI ((nuF B F) j))))))) (b := n) ?_ (fun k hk ih => ?_) 0 (Nat.zero_le _)
  · exact H1
  · refine g_wy3_2 hn ?_
    have H2 := loopN (P := fun row => JR M_La_ways none (31, [(0, .int (nI n)), (1, .int 3), (2, .int (nI go)), (3, .int (nI mo)), (4, .ref 35), (5, .ref 36), (6, .int (nI (10 ^ n))), (7, .long (sumC (w3F m mo go g w B F P i p n) row)), (9, .int (nI row))], [], (HP e0 e1 e2 e3 e4 e5 e6 e7 e8 e9 e10 e11 e12 e13 e14 e15 e16 e17 e18 e19 e20 e21 e22 e23 e24 e25 e26 e27 e28 e29 e30 e31 e32 e33 e34 (.inl (0, 9, .inl (dL [nI m, nI p, nI P, nI i, nI s, gn, nI t, nI g, nI w]))) (.inl (0, 12, .inl (fun j => nI ((nuF B F) j))))), 0, 0) (OE (some (.long (sumC (w3F m mo go g w B F P i p n) (10 ^ n)))) (HP e0 e1 e2 e3 e4 e5 e6 e7 e8 e9 e10 e11 e12 e13 e14 e15 e16 e17 e18 e19 e20 e21 e22 e23 e24 e25 e26 e27 e28 e29 e30 e31 e32 e33 e34 (.inl (0, 9, .inl (dL [nI m, nI p, nI P, nI i, nI s, gn, nI t, nI g, nI w]))) (.inl (0, 12, .inl (fun j => nI ((nuF B F) j))))))) (b := 10 ^ n) ?_ (fun row hrow ih => ?_) 0 (Nat.zero_le _)
    · exact H2
    · exact g_wy3_4 h1000 ⟨rfl, rfl⟩
    · refine g_wy3_3 h1000 hrow ?_
      have H3 := wy3_in (O := OE (some (.long (sumC (w3F m mo go g w B F P i p n) (10 ^ n)))) (HP e0 e1 e2 e3 e4 e5 e6 e7 e8 e9 e10 e11 e12 e13 e14 e15 e16 e17 e18 e19 e20 e21 e22 e23 e24 e25 e26 e27 e28 e29 e30 e31 e32 e33 e34 (.inl (0, 9, .inl (dL [nI m, nI p, nI P, nI i, nI s, gn, nI t, nI g, nI w]))) (.inl (0, 12, .inl (fun j => nI ((nuF B F) j)))))) (a := 10 ^ n) (row := row) (su := sumC (w3F m mo go g w B F P i p n) row) (gn := gn) (s := s) (t := t) (e0 := e0) (e1 := e1) (e2 := e2) (e3 := e3) (e4 := e4) (e5 := e5) (e6 := e6) (e7 := e7) (e8 := e8) (e9 := e9) (e10 := e10) (e11 := e11) (e12 := e12) (e13 := e13) (e14 := e14) (e15 := e15) (e16 := e16) (e17 := e17) (e18 := e18) (e19 := e19) (e20 := e20) (e21 := e21) (e22 := e22) (e23 := e23) (e24 := e24) (e25 := e25) (e26 := e26) (e27 := e27) (e28 := e28) (e29 := e29) (e30 := e30) (e31 := e31) (e32 := e32) (e33 := e33) (e34 := e34) hm hg hw hBF hP hi hp hn hmo hgo n 0 p 16 row (by omega) hp (by omega) (by omega) (by omega) (by omega) (fun q' r' hf => ?_)
      · rw [gI_16] at H3
        exact H3
      · obtain ⟨f1, f2, f3, f4, f5⟩ := roF_ok (m := m) (mo := mo) (go := go) (g := g) (w := w) (B := B) (F := F) (P := P) (i := i) hm.1 n 0 p 16 row hp
        rw [hf] at f1 f2 f3 f4 f5
        dsimp only at f1 f2 f3 f4 f5
        refine g_wy3_8 (by omega) (by omega) (fun c => ?_) (fun c => ?_)
        · have e : (w3F m mo go g w B F P i p n) row = 0 := if_neg (by rw [hf]; exact fun d => c ((gI_eqp (by omega) hgo.2).mpr d))
          rw [← e]
          exact ih
        · have e : (w3F m mo go g w B F P i p n) row = 1 := if_pos (by rw [hf]; exact (gI_eqp (by omega) hgo.2).mp (Classical.not_not.mp c))
          rw [← e]
          exact ih
  · have h100 : 10 ^ k ≤ 100 := Nat.le_trans (Nat.pow_le_pow_right (by decide) (show k ≤ 2 by omega)) (by decide)
    exact g_wy3_1 hn hk h100 ih
