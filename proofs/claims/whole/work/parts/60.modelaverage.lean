/-! THE REFERENCE: the greatest common part, fractions, the average -/
theorem absN_neg {u : Int64} (h0 : u < 0) (h : -(2 ^ 63) < u.toInt) : -u = lN u.toInt.natAbs := by
  have h1 := u.toInt_lt
  have h2 := (l_neg_iff u).mp h0
  apply Int64.toInt_inj.mp
  rw [pk_lT (by omega), l_neg h]
  omega
theorem absN_pos {u : Int64} (h0 : 0 ≤ u.toInt) : u = lN u.toInt.natAbs := by
  have h1 := u.toInt_lt
  apply Int64.toInt_inj.mp
  rw [pk_lT (by omega)]
  omega

set_option maxRecDepth 100000 in
set_option maxHeartbeats 400000 in
theorem g_Mo_cm0 {sc : aScr} {hh : aH} {u : Int64} {x y : Nat} {kc kn : Nat} {O : Option Value → aH → Prop} (h0 : u < 0) (hu : -u = lN x) (K1 : JR M_Mo_common sc (17, [(0, .long u), (2, .long (lN y)), (4, .long (lN x)), (6, .long (lN y))], [], hh, kc, kn) O) : JR M_Mo_common sc (0, [(0, .long u), (2, .long (lN y))], [], hh, kc, kn) O := by
  refine J.gp ok_Mo_common 3 (3, [(0, .long u), (2, .long (lN y))], [.int (lg_cmp u 0)], _, _, _) rfl ?_
  refine J.ifF ok_Mo_common (fun x => 0 ≤ x) 11 6 rfl (fun e => absurd (cmp_ge.mp e) (Int64.not_le.mpr h0)) ?_
  refine J.gp ok_Mo_common 2 (8, [(0, .long u), (2, .long (lN y))], [.long (-u)], _, _, _) rfl ?_
  rw [show ((-u)) = lN x from hu]
  refine J.gp ok_Mo_common 4 (17, [(0, .long u), (2, .long (lN y)), (4, .long (lN x)), (6, .long (lN y))], [], _, _, _) rfl ?_
  exact K1

set_option maxRecDepth 100000 in
set_option maxHeartbeats 400000 in
theorem g_Mo_cm1 {sc : aScr} {hh : aH} {u : Int64} {y : Nat} {kc kn : Nat} {O : Option Value → aH → Prop} (h0 : ¬ u < 0) (K1 : JR M_Mo_common sc (17, [(0, .long u), (2, .long (lN y)), (4, .long u), (6, .long (lN y))], [], hh, kc, kn) O) : JR M_Mo_common sc (0, [(0, .long u), (2, .long (lN y))], [], hh, kc, kn) O := by
  refine J.gp ok_Mo_common 3 (3, [(0, .long u), (2, .long (lN y))], [.int (lg_cmp u 0)], _, _, _) rfl ?_
  refine J.ifT ok_Mo_common (fun x => 0 ≤ x) 11 6 rfl (cmp_ge.mpr (Int64.not_lt.mp h0)) ?_
  refine J.gp ok_Mo_common 4 (17, [(0, .long u), (2, .long (lN y)), (4, .long u), (6, .long (lN y))], [], _, _, _) rfl ?_
  exact K1

set_option maxRecDepth 100000 in
set_option maxHeartbeats 400000 in
theorem g_Mo_cm2 {sc : aScr} {hh : aH} {u v : Int64} {x y : Nat} {kc kn : Nat} {O : Option Value → aH → Prop} (hx : x < 2 ^ 63) (hy : y < 2 ^ 63) (hm : 0 < y → x % y < 2 ^ 63) (K1 : (y ≤ 0) → O (some (.long (lN x))) hh) (K2 : (0 < y) → JR M_Mo_common sc (17, [(0, .long u), (2, .long v), (4, .long (lN y)), (6, .long (lN (x % y)))], [], hh, kc, kn) O) : JR M_Mo_common sc (17, [(0, .long u), (2, .long v), (4, .long (lN x)), (6, .long (lN y))], [], hh, kc, kn) O := by
  refine J.gp ok_Mo_common 3 (21, [(0, .long u), (2, .long v), (4, .long (lN x)), (6, .long (lN y))], [.int (lg_cmp (lN y) 0)], _, _, _) rfl ?_
  refine J.ifB ok_Mo_common (fun x => x ≤ 0) 42 24 rfl (fun (h0 : (lg_cmp (lN y) 0) ≤ 0) => ?_) (fun (h0 : ¬ ((lg_cmp (lN y) 0) ≤ 0)) => ?_)
  · have c21 : y ≤ 0 := (cmp_leN (a := y) (b := 0) (by omega) (by omega)).mp h0
    refine J.gp ok_Mo_common 1 (44, [(0, .long u), (2, .long v), (4, .long (lN x)), (6, .long (lN y))], [.long (lN x)], _, _, _) rfl ?_
    refine JR.lret (by decide +kernel) rfl ?_
    exact K1 c21
  · have c21 : 0 < y := (cmp_leN_n (a := y) (b := 0) (by omega) (by omega)).mp h0
    refine J.gp ok_Mo_common 2 (28, [(0, .long u), (2, .long v), (4, .long (lN x)), (6, .long (lN y))], [.long (lN y), .long (lN x)], _, _, _) rfl ?_
    refine J.lremB ok_Mo_common 29 rfl (lN_ne0 (by omega) (by omega)) ?_
    rw [show ((lN x - lN x / lN y * lN y) : Int64) = lN (x % y) from pk_lRem (a := x) (b := y) (by omega) (by omega) (by omega)]
    refine J.gp ok_Mo_common 6 (17, [(0, .long u), (2, .long v), (4, .long (lN y)), (6, .long (lN (x % y))), (8, .long (lN (x % y)))], [], _, _, _) rfl ?_
    refine J.lv [0, 1, 2, 3] [(0, .long u), (2, .long v), (4, .long (lN y)), (6, .long (lN (x % y)))] rfl ?_
    exact K2 c21

theorem Mo_cm {hh : aH} {u v : Int64} (N : Nat) : ∀ x y : Nat, y < N → x < 2 ^ 63 → y < 2 ^ 63 → JR M_Mo_common none (17, [(0, .long u), (2, .long v), (4, .long (lN x)), (6, .long (lN y))], [], hh, 0, 0) (OE (some (.long (lN (Nat.gcd x y)))) hh) := by
  induction N with
  | zero => exact fun x y h => absurd h (Nat.not_lt_zero _)
  | succ N ih =>
    intro x y hN hx hy
    refine g_Mo_cm2 hx hy (fun h => by have := Nat.mod_lt x h; omega) (fun c => ⟨?_, rfl⟩) (fun c => ?_)
    · rw [show y = 0 by omega, Nat.gcd_zero_right]
    · have h1 := Nat.mod_lt x c
      have e : Nat.gcd x y = Nat.gcd y (x % y) := by rw [Nat.gcd_comm, Nat.gcd_rec, Nat.gcd_comm]
      rw [e]
      exact ih y (x % y) (by omega) hy (by omega)
theorem c_Mo_common {hh : aH} {u : Int64} {y : Nat} (hu : -(2 ^ 63) < u.toInt) (hy : y < 2 ^ 63) : JE M_Mo_common [.long u, .long (lN y)] hh (some (.long (lN (Nat.gcd u.toInt.natAbs y)))) hh := by
  have h1 := u.toInt_lt
  by_cases h0 : u < 0
  · refine JM.of (by decide +kernel) rfl (Nat.le_of_ble_eq_true rfl) (g_Mo_cm0 h0 (absN_neg h0 hu) ?_)
    exact Mo_cm (y + 1) _ y (Nat.lt_succ_self _) (by omega) hy
  · have e := absN_pos (u := u) (by have : ¬ u.toInt < 0 := fun c => h0 ((l_neg_iff u).mpr c); omega)
    refine JM.of (by decide +kernel) rfl (Nat.le_of_ble_eq_true rfl) (g_Mo_cm1 h0 ?_)
    have K := Mo_cm (hh := hh) (u := u) (v := lN y) (y + 1) u.toInt.natAbs y (Nat.lt_succ_self _) (by omega) hy
    rw [← e] at K
    exact K

set_option maxRecDepth 100000 in
set_option maxHeartbeats 400000 in
theorem g_Mo_rd {sc : aScr} {e0 e1 e2 e3 e4 e5 e6 e7 e8 e9 e10 e11 e12 e13 e14 e15 e16 e17 e18 e19 e20 e21 e22 e23 e24 e25 e26 e27 e28 e29 e30 e31 e32 e33 e34 e36 e37 e38 e39 e40 e41 e42 e43 e44 e45 e46 e47 e48 : va_E} {m13 m14 m15 m16 m17 m18 m31 m36 th gn : Int32} {m24 m25 m30 m33 m34 m35 m37 m38 m39 : Int64} {m g w p P i s t bl : Nat} {u : Int64} {D : Nat} {kc kn : Nat} {O : Option Value → aH → Prop} (hu9 : -(2 ^ 63) < u.toInt) (hD : D < 2 ^ 63) (h0 : 0 < Nat.gcd u.toInt.natAbs D) (hg9 : Nat.gcd u.toInt.natAbs D < 2 ^ 63) (K1 : O none (HP e0 e1 e2 e3 e4 e5 e6 e7 e8 e9 e10 e11 e12 e13 e14 e15 e16 e17 e18 e19 e20 e21 e22 e23 e24 e25 e26 e27 e28 e29 e30 e31 e32 e33 e34 (MOb th (nI m) (nI g) (nI w) (nI p) (nI P) (nI i) (nI s) gn (nI t) (nI bl) m13 m14 m15 m16 m17 m18 m24 m25 m30 m31 m33 (u / lN (Nat.gcd (u).toInt.natAbs D)) (lN (D / (Nat.gcd (u).toInt.natAbs D))) m36 m37 m38 m39) e36 e37 e38 e39 e40 e41 e42 e43 e44 e45 e46 e47 e48)) : JR M_Mo_reduce sc (0, [(0, .ref 35), (1, .long u), (3, .long (lN D))], [], (HP e0 e1 e2 e3 e4 e5 e6 e7 e8 e9 e10 e11 e12 e13 e14 e15 e16 e17 e18 e19 e20 e21 e22 e23 e24 e25 e26 e27 e28 e29 e30 e31 e32 e33 e34 (MOb th (nI m) (nI g) (nI w) (nI p) (nI P) (nI i) (nI s) gn (nI t) (nI bl) m13 m14 m15 m16 m17 m18 m24 m25 m30 m31 m33 m34 m35 m36 m37 m38 m39) e36 e37 e38 e39 e40 e41 e42 e43 e44 e45 e46 e47 e48), kc, kn) O := by
  refine J.gp ok_Mo_reduce 2 (2, [(0, .ref 35), (1, .long u), (3, .long (lN D))], [.long (lN D), .long u], _, _, _) rfl ?_
  refine J.callSE s_Mo_reduce_2 5 [.long u, .long (lN D)] (c_Mo_common hu9 (by omega)) rfl rfl (Nat.le_of_ble_eq_true rfl) rfl ?_
  refine J.gp ok_Mo_reduce 0 (5, [(0, .ref 35), (1, .long u), (3, .long (lN D))], [.long (lN (Nat.gcd (u).toInt.natAbs D))], (HP e0 e1 e2 e3 e4 e5 e6 e7 e8 e9 e10 e11 e12 e13 e14 e15 e16 e17 e18 e19 e20 e21 e22 e23 e24 e25 e26 e27 e28 e29 e30 e31 e32 e33 e34 (MOb th (nI m) (nI g) (nI w) (nI p) (nI P) (nI i) (nI s) gn (nI t) (nI bl) m13 m14 m15 m16 m17 m18 m24 m25 m30 m31 m33 m34 m35 m36 m37 m38 m39) e36 e37 e38 e39 e40 e41 e42 e43 e44 e45 e46 e47 e48), kc, kn) rfl ?_
  refine J.gp ok_Mo_reduce 4 (11, [(0, .ref 35), (1, .long u), (3, .long (lN D)), (5, .long (lN (Nat.gcd (u).toInt.natAbs D)))], [.long (lN (Nat.gcd (u).toInt.natAbs D)), .long u, .ref 35], _, _, _) rfl ?_
  refine J.ldivB ok_Mo_reduce 12 rfl (lN_ne0 (by omega) (by omega)) ?_
  refine J.gp ok_Mo_reduce 1 (15, [(0, .ref 35), (1, .long u), (3, .long (lN D)), (5, .long (lN (Nat.gcd (u).toInt.natAbs D)))], [], (HP e0 e1 e2 e3 e4 e5 e6 e7 e8 e9 e10 e11 e12 e13 e14 e15 e16 e17 e18 e19 e20 e21 e22 e23 e24 e25 e26 e27 e28 e29 e30 e31 e32 e33 e34 (MOb th (nI m) (nI g) (nI w) (nI p) (nI P) (nI i) (nI s) gn (nI t) (nI bl) m13 m14 m15 m16 m17 m18 m24 m25 m30 m31 m33 (u / lN (Nat.gcd (u).toInt.natAbs D)) m35 m36 m37 m38 m39) e36 e37 e38 e39 e40 e41 e42 e43 e44 e45 e46 e47 e48), _, _) rfl ?_
  refine J.gp ok_Mo_reduce 3 (19, [(0, .ref 35), (1, .long u), (3, .long (lN D)), (5, .long (lN (Nat.gcd (u).toInt.natAbs D)))], [.long (lN (Nat.gcd (u).toInt.natAbs D)), .long (lN D), .ref 35], _, _, _) rfl ?_
  refine J.ldivB ok_Mo_reduce 20 rfl (lN_ne0 (by omega) (by omega)) ?_
  rw [show ((lN D / lN (Nat.gcd (u).toInt.natAbs D)) : Int64) = lN (D / (Nat.gcd (u).toInt.natAbs D)) from pk_lDiv (a := D) (b := Nat.gcd (u).toInt.natAbs D) (by omega) (by omega) (by omega)]
  refine J.gp ok_Mo_reduce 1 (23, [(0, .ref 35), (1, .long u), (3, .long (lN D)), (5, .long (lN (Nat.gcd (u).toInt.natAbs D)))], [], (HP e0 e1 e2 e3 e4 e5 e6 e7 e8 e9 e10 e11 e12 e13 e14 e15 e16 e17 e18 e19 e20 e21 e22 e23 e24 e25 e26 e27 e28 e29 e30 e31 e32 e33 e34 (MOb th (nI m) (nI g) (nI w) (nI p) (nI P) (nI i) (nI s) gn (nI t) (nI bl) m13 m14 m15 m16 m17 m18 m24 m25 m30 m31 m33 (u / lN (Nat.gcd (u).toInt.natAbs D)) (lN (D / (Nat.gcd (u).toInt.natAbs D))) m36 m37 m38 m39) e36 e37 e38 e39 e40 e41 e42 e43 e44 e45 e46 e47 e48), _, _) rfl ?_
  refine JR.vret (by decide +kernel) rfl ?_
  exact K1

theorem c_Mo_reduce {e0 e1 e2 e3 e4 e5 e6 e7 e8 e9 e10 e11 e12 e13 e14 e15 e16 e17 e18 e19 e20 e21 e22 e23 e24 e25 e26 e27 e28 e29 e30 e31 e32 e33 e34 e36 e37 e38 e39 e40 e41 e42 e43 e44 e45 e46 e47 e48 : va_E} {m13 m14 m15 m16 m17 m18 m31 m36 th gn : Int32} {m24 m25 m30 m33 m34 m35 m37 m38 m39 : Int64} {m g w p P i s t bl : Nat} {u : Int64} {D : Nat} (hu : -(2 ^ 63) < u.toInt) (hD : D < 2 ^ 63) (h0 : 0 < D) : JE M_Mo_reduce [.ref 35, .long u, .long (lN D)] (HP e0 e1 e2 e3 e4 e5 e6 e7 e8 e9 e10 e11 e12 e13 e14 e15 e16 e17 e18 e19 e20 e21 e22 e23 e24 e25 e26 e27 e28 e29 e30 e31 e32 e33 e34 (MOb th (nI m) (nI g) (nI w) (nI p) (nI P) (nI i) (nI s) gn (nI t) (nI bl) m13 m14 m15 m16 m17 m18 m24 m25 m30 m31 m33 m34 m35 m36 m37 m38 m39) e36 e37 e38 e39 e40 e41 e42 e43 e44 e45 e46 e47 e48) none (HP e0 e1 e2 e3 e4 e5 e6 e7 e8 e9 e10 e11 e12 e13 e14 e15 e16 e17 e18 e19 e20 e21 e22 e23 e24 e25 e26 e27 e28 e29 e30 e31 e32 e33 e34 (MOb th (nI m) (nI g) (nI w) (nI p) (nI P) (nI i) (nI s) gn (nI t) (nI bl) m13 m14 m15 m16 m17 m18 m24 m25 m30 m31 m33 (u / lN (Nat.gcd u.toInt.natAbs D)) (lN (D / Nat.gcd u.toInt.natAbs D)) m36 m37 m38 m39) e36 e37 e38 e39 e40 e41 e42 e43 e44 e45 e46 e47 e48) := by
  have h2 : Nat.gcd u.toInt.natAbs D ≤ D := Nat.gcd_le_right _ h0
  exact JM.of (by decide +kernel) rfl (Nat.le_of_ble_eq_true rfl) (g_Mo_rd hu hD (Nat.gcd_pos_of_pos_right _ h0) (by omega) ⟨rfl, rfl⟩)

def roM (m g w : Nat) (B F : Nat → Nat) (r : Nat) : Nat → Int64 := fun j => (rvF m g w B F r (j / 4) (plen r)).1 (j % 4)
def gaM (m g w : Nat) (B F : Nat → Nat) (r : Nat) : Nat → Int64 := fun a => (rvF m g w B F r a (plen r)).2
def clM (m g w : Nat) (B F : Nat → Nat) (r : Nat) : Nat := mcF m (fun q => rcF m (roM m g w B F r) q 64) m
def wvM (m g w : Nat) (B F : Nat → Nat) (r : Nat) : Nat → Int64 := fun p => mnM m (scF (plen r)) (roM m g w B F r) p
def gdF (f : Nat → Int64) : Nat → Nat
  | 0 => 0
  | k + 1 => Nat.gcd (f k).toInt.natAbs (gdF f k)
def wdM (m g w : Nat) (B F : Nat → Nat) (r : Nat) : Nat → Int64 := fun p => wvM m g w B F r p / lN (gdF (wvM m g w B F r) m)
def smA (f : Nat → Int64) : Nat → Int64
  | 0 => 0
  | k + 1 => smA f k + f k
def alM (m g w : Nat) (B F : Nat → Nat) (r : Nat) : Int64 := smA (wdM m g w B F r) m
def avM (m g w : Nat) (B F : Nat → Nat) (r : Nat) : Int64 × Nat := avP m (plen r) (clM m g w B F r) (scF (plen r)) (alM m g w B F r) (gaM m g w B F r) (wdM m g w B F r)
def AvM (m g w : Nat) (B F : Nat → Nat) (r : Nat) : Prop := 1 ≤ clM m g w B F r ∧ (clM m g w B F r = 1 → (∀ p, p < m → -(2 ^ 63) < (wvM m g w B F r p).toInt) ∧ 0 < gdF (wvM m g w B F r) m) ∧ AvOK m (plen r) (clM m g w B F r) (scF (plen r)) (alM m g w B F r) (gaM m g w B F r) (wdM m g w B F r)
theorem cpf_lt {f g : Nat → Int64} {i j : Nat} (h : j < i) : cpf f g i j = g j := if_pos h
theorem cpf_ge {f g : Nat → Int64} {i j : Nat} (h : i ≤ j) : cpf f g i j = f j := if_neg (by omega)
theorem rcF_eq {m : Nat} {ro r2 : Nat → Int64} {b : Nat} (h : ∀ i j, i < m → j < m → ro (4 * i + j) = r2 (4 * i + j)) (k : Nat) : rcF m ro b k = rcF m r2 b k := by
  induction k with
  | zero => rfl
  | succ k ih =>
    show rcS m ro k (rcF m ro b k) = rcS m r2 k (rcF m r2 b k)
    rw [ih]
    unfold rcS
    by_cases h1 : k / 4 % 4 < m ∧ k % 4 < m
    · rw [h _ _ h1.1 h1.2]
    · rw [if_neg (fun c => h1 ⟨c.1, c.2.1⟩), if_neg (fun c => h1 ⟨c.1, c.2.1⟩)]
theorem mcF_eq {m : Nat} {ro : Nat → Int64} {M : Nat → Int64} (hm : m ≤ 4) : mcF m (fun q => rcF m (cpf ro M (4 * m)) q 64) m = mcF m (fun q => rcF m M q 64) m := by
  have e : (fun q => rcF m (cpf ro M (4 * m)) q 64) = fun q => rcF m M q 64 := by
    funext q
    exact rcF_eq (fun i j hi hj => cpf_lt (by omega)) 64
  rw [e]
theorem enM_eq {sl : Int64} {ro r2 : Nat → Int64} {m p q : Nat} (h : ∀ i j, i < m → j < m → ro (4 * i + j) = r2 (4 * i + j)) (hp : p < m) (hq : q < m) : enM sl ro p q = enM sl r2 p q := by
  unfold enM
  rw [h p p hp hp, h p q hp hq]
theorem mnM_eq {sl : Int64} {ro r2 : Nat → Int64} {m q : Nat} (hm : 2 ≤ m ∧ m ≤ 4) (hq : q < m) (h : ∀ i j, i < m → j < m → ro (4 * i + j) = r2 (4 * i + j)) : mnM m sl ro q = mnM m sl r2 q := by
  unfold mnM
  have ha : (if q = 0 then 1 else 0) < m := by split <;> omega
  by_cases h2 : m = 2
  · subst h2
    simp only [if_pos]
    rw [enM_eq h ha ha]
  · have hb : (if q < 2 then 2 else 1) < m := by split <;> omega
    by_cases h3 : m = 3
    · subst h3
      simp only [if_pos]
      rw [if_neg h2, if_neg h2, enM_eq h ha ha, enM_eq h hb hb, enM_eq h ha hb, enM_eq h hb ha]
    · have hc : (if q < 3 then 3 else 2) < m := by split <;> omega
      simp only [if_neg h2, if_neg h3]
      rw [enM_eq h ha ha, enM_eq h hb hb, enM_eq h ha hb, enM_eq h hb ha, enM_eq h ha hc, enM_eq h hc ha, enM_eq h hb hc, enM_eq h hc hb, enM_eq h hc hc]
theorem gdF_lt {f : Nat → Int64} {k : Nat} (h : ∀ p, p < k → -(2 ^ 63) < (f p).toInt) : gdF f k < 2 ^ 63 := by
  induction k with
  | zero => exact (by decide : (0 : Nat) < 2 ^ 63)
  | succ k ih =>
    have h1 := ih (fun p hp => h p (by omega))
    have h2 := h k (by omega)
    have h3 := (f k).toInt_lt
    show Nat.gcd _ (gdF f k) < 2 ^ 63
    by_cases h0 : gdF f k = 0
    · rw [h0, Nat.gcd_zero_right]
      omega
    · have := Nat.gcd_le_right (f k).toInt.natAbs (Nat.pos_of_ne_zero h0)
      omega

set_option maxRecDepth 100000 in
set_option maxHeartbeats 400000 in
theorem g_Mo_la0 {sc : aScr} {e0 e1 e2 e3 e4 e5 e6 e7 e8 e9 e10 e11 e12 e13 e14 e15 e16 e17 e18 e19 e20 e21 e22 e23 e24 e25 e26 e27 e28 e29 e30 e31 e32 e33 e34 e37 e38 e39 e40 e41 e42 e48 : va_E} {m13 m14 m15 m16 m17 m18 m31 m36 th gn : Int32} {m24 m25 m30 m33 m34 m35 m37 m38 m39 : Int64} {m g w p P i s t bl : Nat} {r : Nat} {ro gs h q9 we : Nat → Int64} {B F : Nat → Nat} {kc kn : Nat} {O : Option Value → aH → Prop} (hm : 0 < m ∧ m ≤ 4) (hg : g < 8) (hw : w < 16) (hBF : ∀ j, B j + F j ≤ 10) (hP : isPr r = true) (hc9 : clM m g w B F r < 100) (K1 : ∀ h2 q2, ((clM m g w B F r) ≤ 1) → JR M_Mo_layAverage sc (28, [(0, .ref 35), (1, .int (nI r))], [], (HP e0 e1 e2 e3 e4 e5 e6 e7 e8 e9 e10 e11 e12 e13 e14 e15 e16 e17 e18 e19 e20 e21 e22 e23 e24 e25 e26 e27 e28 e29 e30 e31 e32 e33 e34 (MOb th (nI m) (nI g) (nI w) (nI p) (nI P) (nI i) (nI s) gn (nI t) (nI bl) m13 m14 m15 m16 m17 m18 m24 m25 (scF (plen r)) (nI (clM m g w B F r)) m33 0 0 m36 m37 m38 m39) (.inl (0, 24, .inl (fun j => nI ((tbF B F) j)))) e37 e38 e39 e40 e41 e42 (.inl (1, 16, .inr (.inl (cpf ro (roM m g w B F r) (4 * m))))) (.inl (1, 4, .inr (.inl (cpf gs (gaM m g w B F r) m)))) (.inl (1, 4, .inr (.inl h2))) (.inl (1, 4, .inr (.inl q2))) (.inl (1, 4, .inr (.inl we))) e48), kc, kn) O) (K2 : ∀ h2 q2, (1 < (clM m g w B F r)) → O none (HP e0 e1 e2 e3 e4 e5 e6 e7 e8 e9 e10 e11 e12 e13 e14 e15 e16 e17 e18 e19 e20 e21 e22 e23 e24 e25 e26 e27 e28 e29 e30 e31 e32 e33 e34 (MOb th (nI m) (nI g) (nI w) (nI p) (nI P) (nI i) (nI s) gn (nI t) (nI bl) m13 m14 m15 m16 m17 m18 m24 m25 (scF (plen r)) (nI (clM m g w B F r)) m33 0 0 m36 m37 m38 m39) (.inl (0, 24, .inl (fun j => nI ((tbF B F) j)))) e37 e38 e39 e40 e41 e42 (.inl (1, 16, .inr (.inl (cpf ro (roM m g w B F r) (4 * m))))) (.inl (1, 4, .inr (.inl (cpf gs (gaM m g w B F r) m)))) (.inl (1, 4, .inr (.inl h2))) (.inl (1, 4, .inr (.inl q2))) (.inl (1, 4, .inr (.inl we))) e48)) : JR M_Mo_layAverage sc (0, [(0, .ref 35), (1, .int (nI r))], [], (HP e0 e1 e2 e3 e4 e5 e6 e7 e8 e9 e10 e11 e12 e13 e14 e15 e16 e17 e18 e19 e20 e21 e22 e23 e24 e25 e26 e27 e28 e29 e30 e31 e32 e33 e34 (MOb th (nI m) (nI g) (nI w) (nI p) (nI P) (nI i) (nI s) gn (nI t) (nI bl) m13 m14 m15 m16 m17 m18 m24 m25 m30 m31 m33 m34 m35 m36 m37 m38 m39) (.inl (0, 24, .inl (fun j => nI ((tbF B F) j)))) e37 e38 e39 e40 e41 e42 (.inl (1, 16, .inr (.inl ro))) (.inl (1, 4, .inr (.inl gs))) (.inl (1, 4, .inr (.inl h))) (.inl (1, 4, .inr (.inl q9))) (.inl (1, 4, .inr (.inl we))) e48), kc, kn) O := by
  refine J.gp ok_Mo_layAverage 2 (2, [(0, .ref 35), (1, .int (nI r))], [.int (nI r), .ref 35], _, _, _) rfl ?_
  refine J.callVO s_Mo_layAverage_2 5 35 [.int (nI r)] 10 (c_Mo_layRound hm hg hw hBF hP) rfl rfl rfl rfl rfl (Nat.le_of_ble_eq_true rfl) (by rintro v q ⟨rfl, h2, q2, rfl⟩; rfl) (fun v q h => ?_)
  obtain ⟨rfl, h2, q2, rfl⟩ := h
  refine J.gp ok_Mo_layAverage 0 (5, [(0, .ref 35), (1, .int (nI r))], [], (HP e0 e1 e2 e3 e4 e5 e6 e7 e8 e9 e10 e11 e12 e13 e14 e15 e16 e17 e18 e19 e20 e21 e22 e23 e24 e25 e26 e27 e28 e29 e30 e31 e32 e33 e34 (MOb th (nI m) (nI g) (nI w) (nI p) (nI P) (nI i) (nI s) gn (nI t) (nI bl) m13 m14 m15 m16 m17 m18 m24 m25 (scF (plen r)) m31 m33 m34 m35 m36 m37 m38 m39) (.inl (0, 24, .inl (fun j => nI ((tbF B F) j)))) e37 e38 e39 e40 e41 e42 (.inl (1, 16, .inr (.inl (cpf ro (roM m g w B F r) (4 * m))))) (.inl (1, 4, .inr (.inl (cpf gs (gaM m g w B F r) m)))) (.inl (1, 4, .inr (.inl h2))) (.inl (1, 4, .inr (.inl q2))) (.inl (1, 4, .inr (.inl we))) e48), kc, kn) rfl ?_
  refine J.gp ok_Mo_layAverage 1 (6, [(0, .ref 35), (1, .int (nI r))], [.ref 35], _, _, _) rfl ?_
  refine J.callVE s_Mo_layAverage_6 9 35 [] 10 (c_Mo_layClasses hm.2) rfl rfl rfl rfl rfl (Nat.le_of_ble_eq_true rfl) rfl ?_
  refine J.gp ok_Mo_layAverage 0 (9, [(0, .ref 35), (1, .int (nI r))], [], (HP e0 e1 e2 e3 e4 e5 e6 e7 e8 e9 e10 e11 e12 e13 e14 e15 e16 e17 e18 e19 e20 e21 e22 e23 e24 e25 e26 e27 e28 e29 e30 e31 e32 e33 e34 (MOb th (nI m) (nI g) (nI w) (nI p) (nI P) (nI i) (nI s) gn (nI t) (nI bl) m13 m14 m15 m16 m17 m18 m24 m25 (scF (plen r)) (nI (mcF m (fun q => rcF m (cpf ro (roM m g w B F r) (4 * m)) q 64) m)) m33 m34 m35 m36 m37 m38 m39) (.inl (0, 24, .inl (fun j => nI ((tbF B F) j)))) e37 e38 e39 e40 e41 e42 (.inl (1, 16, .inr (.inl (cpf ro (roM m g w B F r) (4 * m))))) (.inl (1, 4, .inr (.inl (cpf gs (gaM m g w B F r) m)))) (.inl (1, 4, .inr (.inl h2))) (.inl (1, 4, .inr (.inl q2))) (.inl (1, 4, .inr (.inl we))) e48), kc, kn) rfl ?_
  rw [mcF_eq hm.2]
  refine J.gp ok_Mo_layAverage 3 (14, [(0, .ref 35), (1, .int (nI r))], [], (HP e0 e1 e2 e3 e4 e5 e6 e7 e8 e9 e10 e11 e12 e13 e14 e15 e16 e17 e18 e19 e20 e21 e22 e23 e24 e25 e26 e27 e28 e29 e30 e31 e32 e33 e34 (MOb th (nI m) (nI g) (nI w) (nI p) (nI P) (nI i) (nI s) gn (nI t) (nI bl) m13 m14 m15 m16 m17 m18 m24 m25 (scF (plen r)) (nI (clM m g w B F r)) m33 0 m35 m36 m37 m38 m39) (.inl (0, 24, .inl (fun j => nI ((tbF B F) j)))) e37 e38 e39 e40 e41 e42 (.inl (1, 16, .inr (.inl (cpf ro (roM m g w B F r) (4 * m))))) (.inl (1, 4, .inr (.inl (cpf gs (gaM m g w B F r) m)))) (.inl (1, 4, .inr (.inl h2))) (.inl (1, 4, .inr (.inl q2))) (.inl (1, 4, .inr (.inl we))) e48), _, _) rfl ?_
  refine J.gp ok_Mo_layAverage 3 (19, [(0, .ref 35), (1, .int (nI r))], [], (HP e0 e1 e2 e3 e4 e5 e6 e7 e8 e9 e10 e11 e12 e13 e14 e15 e16 e17 e18 e19 e20 e21 e22 e23 e24 e25 e26 e27 e28 e29 e30 e31 e32 e33 e34 (MOb th (nI m) (nI g) (nI w) (nI p) (nI P) (nI i) (nI s) gn (nI t) (nI bl) m13 m14 m15 m16 m17 m18 m24 m25 (scF (plen r)) (nI (clM m g w B F r)) m33 0 0 m36 m37 m38 m39) (.inl (0, 24, .inl (fun j => nI ((tbF B F) j)))) e37 e38 e39 e40 e41 e42 (.inl (1, 16, .inr (.inl (cpf ro (roM m g w B F r) (4 * m))))) (.inl (1, 4, .inr (.inl (cpf gs (gaM m g w B F r) m)))) (.inl (1, 4, .inr (.inl h2))) (.inl (1, 4, .inr (.inl q2))) (.inl (1, 4, .inr (.inl we))) e48), _, _) rfl ?_
  refine J.gp ok_Mo_layAverage 3 (24, [(0, .ref 35), (1, .int (nI r))], [.int 1, .int (nI (clM m g w B F r))], _, _, _) rfl ?_
  refine J.icB ok_Mo_layAverage (fun x y => x ≤ y) 28 27 rfl (fun (h0 : nI (clM m g w B F r) ≤ 1) => ?_) (fun (h0 : ¬ (nI (clM m g w B F r) ≤ 1)) => ?_)
  · have c24 : (clM m g w B F r) ≤ 1 := (nI_leI (a := clM m g w B F r) (b := 1) (by omega) (by omega)).mp h0
    exact K1 h2 q2 c24
  · have c24 : 1 < (clM m g w B F r) := Nat.not_le.mp (fun h9 => h0 ((nI_leI (a := clM m g w B F r) (b := 1) (by omega) (by omega)).mpr h9))
    refine JR.vret (by decide +kernel) rfl ?_
    exact K2 h2 q2 c24

set_option maxRecDepth 100000 in
set_option maxHeartbeats 400000 in
theorem g_Mo_la1 {sc : aScr} {e0 e1 e2 e3 e4 e5 e6 e7 e8 e9 e10 e11 e12 e13 e14 e15 e16 e17 e18 e19 e20 e21 e22 e23 e24 e25 e26 e27 e28 e29 e30 e31 e32 e33 e34 e36 e37 e38 e39 e40 e41 e42 e43 e44 e45 e46 e48 : va_E} {m13 m14 m15 m16 m17 m18 m31 m36 th gn : Int32} {m24 m25 m30 m33 m34 m35 m37 m38 m39 : Int64} {m g w p P i s t bl : Nat} {r : Nat} {we : Nat → Int64} {kc kn : Nat} {O : Option Value → aH → Prop}  (K1 : JR M_Mo_layAverage sc (33, [(0, .ref 35), (1, .int (nI r)), (2, .long 0), (4, .int 0)], [], (HP e0 e1 e2 e3 e4 e5 e6 e7 e8 e9 e10 e11 e12 e13 e14 e15 e16 e17 e18 e19 e20 e21 e22 e23 e24 e25 e26 e27 e28 e29 e30 e31 e32 e33 e34 (MOb th (nI m) (nI g) (nI w) (nI p) (nI P) (nI i) (nI s) gn (nI t) (nI bl) m13 m14 m15 m16 m17 m18 m24 m25 m30 m31 m33 m34 m35 m36 m37 m38 m39) e36 e37 e38 e39 e40 e41 e42 e43 e44 e45 e46 (.inl (1, 4, .inr (.inl we))) e48), kc, kn) O) : JR M_Mo_layAverage sc (28, [(0, .ref 35), (1, .int (nI r))], [], (HP e0 e1 e2 e3 e4 e5 e6 e7 e8 e9 e10 e11 e12 e13 e14 e15 e16 e17 e18 e19 e20 e21 e22 e23 e24 e25 e26 e27 e28 e29 e30 e31 e32 e33 e34 (MOb th (nI m) (nI g) (nI w) (nI p) (nI P) (nI i) (nI s) gn (nI t) (nI bl) m13 m14 m15 m16 m17 m18 m24 m25 m30 m31 m33 m34 m35 m36 m37 m38 m39) e36 e37 e38 e39 e40 e41 e42 e43 e44 e45 e46 (.inl (1, 4, .inr (.inl we))) e48), kc, kn) O := by
  refine J.gp ok_Mo_layAverage 4 (33, [(0, .ref 35), (1, .int (nI r)), (2, .long 0), (4, .int 0)], [], _, _, _) rfl ?_
  exact K1

set_option maxRecDepth 100000 in
set_option maxHeartbeats 400000 in
theorem g_Mo_la2 {sc : aScr} {e0 e1 e2 e3 e4 e5 e6 e7 e8 e9 e10 e11 e12 e13 e14 e15 e16 e17 e18 e19 e20 e21 e22 e23 e24 e25 e26 e27 e28 e29 e30 e31 e32 e33 e34 e36 e37 e38 e39 e40 e41 e42 e44 e45 e46 e48 : va_E} {m13 m14 m15 m16 m17 m18 m31 m36 th gn : Int32} {m24 m25 m30 m33 m34 m35 m37 m38 m39 : Int64} {m g w p P i s t bl : Nat} {r k d : Nat} {x : Int64} {ro we : Nat → Int64} {kc kn : Nat} {O : Option Value → aH → Prop} (hm : 2 ≤ m ∧ m ≤ 4) (hk : k < m) (hd : d < 2 ^ 63) (hx : mnM m m30 ro k = x) (hu9 : -(2 ^ 63) < x.toInt) (K1 : JR M_Mo_layAverage sc (33, [(0, .ref 35), (1, .int (nI r)), (2, .long (lN (Nat.gcd (x).toInt.natAbs d))), (4, .int (nI (k + 1)))], [], (HP e0 e1 e2 e3 e4 e5 e6 e7 e8 e9 e10 e11 e12 e13 e14 e15 e16 e17 e18 e19 e20 e21 e22 e23 e24 e25 e26 e27 e28 e29 e30 e31 e32 e33 e34 (MOb th (nI m) (nI g) (nI w) (nI p) (nI P) (nI i) (nI s) gn (nI t) (nI bl) m13 m14 m15 m16 m17 m18 m24 m25 m30 m31 m33 m34 m35 m36 m37 m38 m39) e36 e37 e38 e39 e40 e41 e42 (.inl (1, 16, .inr (.inl ro))) e44 e45 e46 (.inl (1, 4, .inr (.inl (vp_updL we k x)))) e48), kc, kn) O) : JR M_Mo_layAverage sc (33, [(0, .ref 35), (1, .int (nI r)), (2, .long (lN d)), (4, .int (nI k))], [], (HP e0 e1 e2 e3 e4 e5 e6 e7 e8 e9 e10 e11 e12 e13 e14 e15 e16 e17 e18 e19 e20 e21 e22 e23 e24 e25 e26 e27 e28 e29 e30 e31 e32 e33 e34 (MOb th (nI m) (nI g) (nI w) (nI p) (nI P) (nI i) (nI s) gn (nI t) (nI bl) m13 m14 m15 m16 m17 m18 m24 m25 m30 m31 m33 m34 m35 m36 m37 m38 m39) e36 e37 e38 e39 e40 e41 e42 (.inl (1, 16, .inr (.inl ro))) e44 e45 e46 (.inl (1, 4, .inr (.inl we))) e48), kc, kn) O := by
  refine J.gp ok_Mo_layAverage 3 (39, [(0, .ref 35), (1, .int (nI r)), (2, .long (lN d)), (4, .int (nI k))], [.int (nI m), .int (nI k)], _, _, _) rfl ?_
  refine J.icF ok_Mo_layAverage (fun x y => y ≤ x) 73 42 rfl (fun h9 => absurd ((nI_leI (a := m) (b := k) (by omega) (by omega)).mp h9) (by omega)) ?_
  refine J.gp ok_Mo_layAverage 5 (51, [(0, .ref 35), (1, .int (nI r)), (2, .long (lN d)), (4, .int (nI k))], [.int (nI k), .ref 35, .int (nI k), .ref 47], _, _, _) rfl ?_
  refine J.callVE s_Mo_layAverage_51 54 35 [.int (nI k)] 10 (c_Mo_minor (q := k) hm (by omega)) rfl rfl rfl rfl rfl (Nat.le_of_ble_eq_true rfl) rfl ?_
  refine J.gp ok_Mo_layAverage 0 (54, [(0, .ref 35), (1, .int (nI r)), (2, .long (lN d)), (4, .int (nI k))], [.long (mnM m m30 ro k), .int (nI k), .ref 47], (HP e0 e1 e2 e3 e4 e5 e6 e7 e8 e9 e10 e11 e12 e13 e14 e15 e16 e17 e18 e19 e20 e21 e22 e23 e24 e25 e26 e27 e28 e29 e30 e31 e32 e33 e34 (MOb th (nI m) (nI g) (nI w) (nI p) (nI P) (nI i) (nI s) gn (nI t) (nI bl) m13 m14 m15 m16 m17 m18 m24 m25 m30 m31 m33 m34 m35 m36 m37 m38 m39) e36 e37 e38 e39 e40 e41 e42 (.inl (1, 16, .inr (.inl ro))) e44 e45 e46 (.inl (1, 4, .inr (.inl we))) e48), kc, kn) rfl ?_
  rw [show ((mnM m m30 ro k)) = x from hx]
  refine J.lastB ok_Mo_layAverage 55 k rfl rfl (rfl) (by omega) (by decide) ?_
  refine J.gp ok_Mo_layAverage 0 (55, [(0, .ref 35), (1, .int (nI r)), (2, .long (lN d)), (4, .int (nI k))], [], (HP e0 e1 e2 e3 e4 e5 e6 e7 e8 e9 e10 e11 e12 e13 e14 e15 e16 e17 e18 e19 e20 e21 e22 e23 e24 e25 e26 e27 e28 e29 e30 e31 e32 e33 e34 (MOb th (nI m) (nI g) (nI w) (nI p) (nI P) (nI i) (nI s) gn (nI t) (nI bl) m13 m14 m15 m16 m17 m18 m24 m25 m30 m31 m33 m34 m35 m36 m37 m38 m39) e36 e37 e38 e39 e40 e41 e42 (.inl (1, 16, .inr (.inl ro))) e44 e45 e46 (.inl (1, 4, .inr (.inl (vp_updL we k x)))) e48), kc, kn) rfl ?_
  refine J.gp ok_Mo_layAverage 3 (61, [(0, .ref 35), (1, .int (nI r)), (2, .long (lN d)), (4, .int (nI k))], [.int (nI k), .ref 47], _, _, _) rfl ?_
  refine J.laldB ok_Mo_layAverage 62 k rfl rfl (rfl) (by omega) (by decide) ?_
  rw [show (((vp_updL we k x) k)) = x from updL_same]
  refine J.gp ok_Mo_layAverage 1 (63, [(0, .ref 35), (1, .int (nI r)), (2, .long (lN d)), (4, .int (nI k))], [.long (lN d), .long x], _, _, _) rfl ?_
  refine J.callSE s_Mo_layAverage_63 66 [.long x, .long (lN d)] (c_Mo_common hu9 (by omega)) rfl rfl (Nat.le_of_ble_eq_true rfl) rfl ?_
  refine J.gp ok_Mo_layAverage 0 (66, [(0, .ref 35), (1, .int (nI r)), (2, .long (lN d)), (4, .int (nI k))], [.long (lN (Nat.gcd (x).toInt.natAbs d))], (HP e0 e1 e2 e3 e4 e5 e6 e7 e8 e9 e10 e11 e12 e13 e14 e15 e16 e17 e18 e19 e20 e21 e22 e23 e24 e25 e26 e27 e28 e29 e30 e31 e32 e33 e34 (MOb th (nI m) (nI g) (nI w) (nI p) (nI P) (nI i) (nI s) gn (nI t) (nI bl) m13 m14 m15 m16 m17 m18 m24 m25 m30 m31 m33 m34 m35 m36 m37 m38 m39) e36 e37 e38 e39 e40 e41 e42 (.inl (1, 16, .inr (.inl ro))) e44 e45 e46 (.inl (1, 4, .inr (.inl (vp_updL we k x)))) e48), kc, kn) rfl ?_
  refine J.gp ok_Mo_layAverage 2 (70, [(0, .ref 35), (1, .int (nI r)), (2, .long (lN (Nat.gcd (x).toInt.natAbs d))), (4, .int (nI k + 1))], [], _, _, _) rfl ?_
  rw [show ((nI k + 1) : Int32) = nI (k + 1) from nI_add k 1]
  refine J.gp ok_Mo_layAverage 1 (33, [(0, .ref 35), (1, .int (nI r)), (2, .long (lN (Nat.gcd (x).toInt.natAbs d))), (4, .int (nI (k + 1)))], [], _, _, _) rfl ?_
  exact K1

set_option maxRecDepth 100000 in
set_option maxHeartbeats 400000 in
theorem g_Mo_la3 {sc : aScr} {e0 e1 e2 e3 e4 e5 e6 e7 e8 e9 e10 e11 e12 e13 e14 e15 e16 e17 e18 e19 e20 e21 e22 e23 e24 e25 e26 e27 e28 e29 e30 e31 e32 e33 e34 e36 e37 e38 e39 e40 e41 e42 e43 e44 e45 e46 e47 e48 : va_E} {m13 m14 m15 m16 m17 m18 m31 m36 th gn : Int32} {m24 m25 m30 m33 m34 m35 m37 m38 m39 : Int64} {m g w p P i s t bl : Nat} {r d : Nat} {kc kn : Nat} {O : Option Value → aH → Prop} (hm : 2 ≤ m ∧ m ≤ 4) (K1 : JR M_Mo_layAverage sc (84, [(0, .ref 35), (1, .int (nI r)), (2, .long (lN d)), (4, .long 0), (6, .int 0)], [], (HP e0 e1 e2 e3 e4 e5 e6 e7 e8 e9 e10 e11 e12 e13 e14 e15 e16 e17 e18 e19 e20 e21 e22 e23 e24 e25 e26 e27 e28 e29 e30 e31 e32 e33 e34 (MOb th (nI m) (nI g) (nI w) (nI p) (nI P) (nI i) (nI s) gn (nI t) (nI bl) m13 m14 m15 m16 m17 m18 m24 m25 m30 m31 0 m34 m35 m36 m37 m38 m39) e36 e37 e38 e39 e40 e41 e42 e43 e44 e45 e46 e47 e48), kc, kn) O) : JR M_Mo_layAverage sc (33, [(0, .ref 35), (1, .int (nI r)), (2, .long (lN d)), (4, .int (nI m))], [], (HP e0 e1 e2 e3 e4 e5 e6 e7 e8 e9 e10 e11 e12 e13 e14 e15 e16 e17 e18 e19 e20 e21 e22 e23 e24 e25 e26 e27 e28 e29 e30 e31 e32 e33 e34 (MOb th (nI m) (nI g) (nI w) (nI p) (nI P) (nI i) (nI s) gn (nI t) (nI bl) m13 m14 m15 m16 m17 m18 m24 m25 m30 m31 m33 m34 m35 m36 m37 m38 m39) e36 e37 e38 e39 e40 e41 e42 e43 e44 e45 e46 e47 e48), kc, kn) O := by
  refine J.gp ok_Mo_layAverage 3 (39, [(0, .ref 35), (1, .int (nI r)), (2, .long (lN d)), (4, .int (nI m))], [.int (nI m), .int (nI m)], _, _, _) rfl ?_
  refine J.icT ok_Mo_layAverage (fun x y => y ≤ x) 73 42 rfl ((nI_leI (a := m) (b := m) (by omega) (by omega)).mpr (by omega)) ?_
  refine J.gp ok_Mo_layAverage 3 (78, [(0, .ref 35), (1, .int (nI r)), (2, .long (lN d)), (4, .int (nI m))], [], (HP e0 e1 e2 e3 e4 e5 e6 e7 e8 e9 e10 e11 e12 e13 e14 e15 e16 e17 e18 e19 e20 e21 e22 e23 e24 e25 e26 e27 e28 e29 e30 e31 e32 e33 e34 (MOb th (nI m) (nI g) (nI w) (nI p) (nI P) (nI i) (nI s) gn (nI t) (nI bl) m13 m14 m15 m16 m17 m18 m24 m25 m30 m31 0 m34 m35 m36 m37 m38 m39) e36 e37 e38 e39 e40 e41 e42 e43 e44 e45 e46 e47 e48), _, _) rfl ?_
  refine J.gp ok_Mo_layAverage 4 (84, [(0, .ref 35), (1, .int (nI r)), (2, .long (lN d)), (4, .long 0), (6, .int 0)], [], _, _, _) rfl ?_
  exact K1

set_option maxRecDepth 100000 in
set_option maxHeartbeats 400000 in
theorem g_Mo_la4 {sc : aScr} {e0 e1 e2 e3 e4 e5 e6 e7 e8 e9 e10 e11 e12 e13 e14 e15 e16 e17 e18 e19 e20 e21 e22 e23 e24 e25 e26 e27 e28 e29 e30 e31 e32 e33 e34 e36 e37 e38 e39 e40 e41 e42 e43 e45 e46 e48 : va_E} {m13 m14 m15 m16 m17 m18 m31 m36 th gn : Int32} {m24 m25 m30 m33 m34 m35 m37 m38 m39 : Int64} {m g w p P i s t bl : Nat} {r k d : Nat} {y : Int64} {gs we : Nat → Int64} {kc kn : Nat} {O : Option Value → aH → Prop} (hm : 2 ≤ m ∧ m ≤ 4) (hk : k < m) (hd : d < 2 ^ 63) (h0 : 0 < d) (K1 : JR M_Mo_layAverage sc (84, [(0, .ref 35), (1, .int (nI r)), (2, .long (lN d)), (4, .long (y + (((we k) / lN d) * (gs k)))), (6, .int (nI (k + 1)))], [], (HP e0 e1 e2 e3 e4 e5 e6 e7 e8 e9 e10 e11 e12 e13 e14 e15 e16 e17 e18 e19 e20 e21 e22 e23 e24 e25 e26 e27 e28 e29 e30 e31 e32 e33 e34 (MOb th (nI m) (nI g) (nI w) (nI p) (nI P) (nI i) (nI s) gn (nI t) (nI bl) m13 m14 m15 m16 m17 m18 m24 m25 m30 m31 (m33 + ((we k) / lN d)) m34 m35 m36 m37 m38 m39) e36 e37 e38 e39 e40 e41 e42 e43 (.inl (1, 4, .inr (.inl gs))) e45 e46 (.inl (1, 4, .inr (.inl (vp_updL we k ((we k) / lN d))))) e48), kc, kn) O) : JR M_Mo_layAverage sc (84, [(0, .ref 35), (1, .int (nI r)), (2, .long (lN d)), (4, .long y), (6, .int (nI k))], [], (HP e0 e1 e2 e3 e4 e5 e6 e7 e8 e9 e10 e11 e12 e13 e14 e15 e16 e17 e18 e19 e20 e21 e22 e23 e24 e25 e26 e27 e28 e29 e30 e31 e32 e33 e34 (MOb th (nI m) (nI g) (nI w) (nI p) (nI P) (nI i) (nI s) gn (nI t) (nI bl) m13 m14 m15 m16 m17 m18 m24 m25 m30 m31 m33 m34 m35 m36 m37 m38 m39) e36 e37 e38 e39 e40 e41 e42 e43 (.inl (1, 4, .inr (.inl gs))) e45 e46 (.inl (1, 4, .inr (.inl we))) e48), kc, kn) O := by
  refine J.gp ok_Mo_layAverage 3 (90, [(0, .ref 35), (1, .int (nI r)), (2, .long (lN d)), (4, .long y), (6, .int (nI k))], [.int (nI m), .int (nI k)], _, _, _) rfl ?_
  refine J.icF ok_Mo_layAverage (fun x y => y ≤ x) 146 93 rfl (fun h9 => absurd ((nI_leI (a := m) (b := k) (by omega) (by omega)).mp h9) (by omega)) ?_
  refine J.gp ok_Mo_layAverage 4 (100, [(0, .ref 35), (1, .int (nI r)), (2, .long (lN d)), (4, .long y), (6, .int (nI k))], [.int (nI k), .ref 47, .int (nI k), .ref 47], _, _, _) rfl ?_
  refine J.laldB ok_Mo_layAverage 101 k rfl rfl (rfl) (by omega) (by decide) ?_
  refine J.gp ok_Mo_layAverage 1 (102, [(0, .ref 35), (1, .int (nI r)), (2, .long (lN d)), (4, .long y), (6, .int (nI k))], [.long (lN d), .long (we k), .int (nI k), .ref 47], _, _, _) rfl ?_
  refine J.ldivB ok_Mo_layAverage 103 rfl (lN_ne0 (by omega) (by omega)) ?_
  refine J.lastB ok_Mo_layAverage 104 k rfl rfl (rfl) (by omega) (by decide) ?_
  refine J.gp ok_Mo_layAverage 0 (104, [(0, .ref 35), (1, .int (nI r)), (2, .long (lN d)), (4, .long y), (6, .int (nI k))], [], (HP e0 e1 e2 e3 e4 e5 e6 e7 e8 e9 e10 e11 e12 e13 e14 e15 e16 e17 e18 e19 e20 e21 e22 e23 e24 e25 e26 e27 e28 e29 e30 e31 e32 e33 e34 (MOb th (nI m) (nI g) (nI w) (nI p) (nI P) (nI i) (nI s) gn (nI t) (nI bl) m13 m14 m15 m16 m17 m18 m24 m25 m30 m31 m33 m34 m35 m36 m37 m38 m39) e36 e37 e38 e39 e40 e41 e42 e43 (.inl (1, 4, .inr (.inl gs))) e45 e46 (.inl (1, 4, .inr (.inl (vp_updL we k ((we k) / lN d))))) e48), kc, kn) rfl ?_
  refine J.gp ok_Mo_layAverage 6 (115, [(0, .ref 35), (1, .int (nI r)), (2, .long (lN d)), (4, .long y), (6, .int (nI k))], [.int (nI k), .ref 47, .long m33, .ref 35], _, _, _) rfl ?_
  refine J.laldB ok_Mo_layAverage 116 k rfl rfl (rfl) (by omega) (by decide) ?_
  rw [show (((vp_updL we k ((we k) / lN d)) k)) = ((we k) / lN d) from updL_same]
  refine J.gp ok_Mo_layAverage 2 (120, [(0, .ref 35), (1, .int (nI r)), (2, .long (lN d)), (4, .long y), (6, .int (nI k))], [], (HP e0 e1 e2 e3 e4 e5 e6 e7 e8 e9 e10 e11 e12 e13 e14 e15 e16 e17 e18 e19 e20 e21 e22 e23 e24 e25 e26 e27 e28 e29 e30 e31 e32 e33 e34 (MOb th (nI m) (nI g) (nI w) (nI p) (nI P) (nI i) (nI s) gn (nI t) (nI bl) m13 m14 m15 m16 m17 m18 m24 m25 m30 m31 (m33 + ((we k) / lN d)) m34 m35 m36 m37 m38 m39) e36 e37 e38 e39 e40 e41 e42 e43 (.inl (1, 4, .inr (.inl gs))) e45 e46 (.inl (1, 4, .inr (.inl (vp_updL we k ((we k) / lN d))))) e48), _, _) rfl ?_
  refine J.gp ok_Mo_layAverage 4 (128, [(0, .ref 35), (1, .int (nI r)), (2, .long (lN d)), (4, .long y), (6, .int (nI k))], [.int (nI k), .ref 47, .long y], _, _, _) rfl ?_
  refine J.laldB ok_Mo_layAverage 129 k rfl rfl (rfl) (by omega) (by decide) ?_
  rw [show (((vp_updL we k ((we k) / lN d)) k)) = ((we k) / lN d) from updL_same]
  refine J.gp ok_Mo_layAverage 3 (135, [(0, .ref 35), (1, .int (nI r)), (2, .long (lN d)), (4, .long y), (6, .int (nI k))], [.int (nI k), .ref 44, .long ((we k) / lN d), .long y], _, _, _) rfl ?_
  refine J.laldB ok_Mo_layAverage 136 k rfl rfl (rfl) (by omega) (by decide) ?_
  refine J.gp ok_Mo_layAverage 4 (143, [(0, .ref 35), (1, .int (nI r)), (2, .long (lN d)), (4, .long (y + (((we k) / lN d) * (gs k)))), (6, .int (nI k + 1))], [], _, _, _) rfl ?_
  rw [show ((nI k + 1) : Int32) = nI (k + 1) from nI_add k 1]
  refine J.gp ok_Mo_layAverage 1 (84, [(0, .ref 35), (1, .int (nI r)), (2, .long (lN d)), (4, .long (y + (((we k) / lN d) * (gs k)))), (6, .int (nI (k + 1)))], [], _, _, _) rfl ?_
  exact K1

set_option maxRecDepth 100000 in
set_option maxHeartbeats 400000 in
theorem g_Mo_la5 {sc : aScr} {e0 e1 e2 e3 e4 e5 e6 e7 e8 e9 e10 e11 e12 e13 e14 e15 e16 e17 e18 e19 e20 e21 e22 e23 e24 e25 e26 e27 e28 e29 e30 e31 e32 e33 e34 e36 e37 e38 e39 e40 e41 e42 e43 e44 e45 e46 e47 e48 : va_E} {m13 m14 m15 m16 m17 m18 m31 m36 th gn : Int32} {m24 m25 m30 m33 m34 m35 m37 m38 m39 : Int64} {m g w p P i s t bl : Nat} {r d D : Nat} {y : Int64} {kc kn : Nat} {O : Option Value → aH → Prop} (hm : 2 ≤ m ∧ m ≤ 4) (hP : isPr r = true) (h4 : plen r ≤ 4) (hu : -(2 ^ 63) < y.toInt) (hD : D < 2 ^ 63) (h0 : 0 < D) (he : m33 * m30 * lN (plen r) = lN D) (K1 : O none (HP e0 e1 e2 e3 e4 e5 e6 e7 e8 e9 e10 e11 e12 e13 e14 e15 e16 e17 e18 e19 e20 e21 e22 e23 e24 e25 e26 e27 e28 e29 e30 e31 e32 e33 e34 (MOb th (nI m) (nI g) (nI w) (nI p) (nI P) (nI i) (nI s) gn (nI t) (nI bl) m13 m14 m15 m16 m17 m18 m24 m25 m30 m31 m33 (y / lN (Nat.gcd y.toInt.natAbs D)) (lN (D / Nat.gcd y.toInt.natAbs D)) m36 m37 m38 m39) e36 e37 e38 e39 e40 e41 e42 e43 e44 e45 e46 e47 e48)) : JR M_Mo_layAverage sc (84, [(0, .ref 35), (1, .int (nI r)), (2, .long (lN d)), (4, .long y), (6, .int (nI m))], [], (HP e0 e1 e2 e3 e4 e5 e6 e7 e8 e9 e10 e11 e12 e13 e14 e15 e16 e17 e18 e19 e20 e21 e22 e23 e24 e25 e26 e27 e28 e29 e30 e31 e32 e33 e34 (MOb th (nI m) (nI g) (nI w) (nI p) (nI P) (nI i) (nI s) gn (nI t) (nI bl) m13 m14 m15 m16 m17 m18 m24 m25 m30 m31 m33 m34 m35 m36 m37 m38 m39) e36 e37 e38 e39 e40 e41 e42 e43 e44 e45 e46 e47 e48), kc, kn) O := by
  refine J.gp ok_Mo_layAverage 3 (90, [(0, .ref 35), (1, .int (nI r)), (2, .long (lN d)), (4, .long y), (6, .int (nI m))], [.int (nI m), .int (nI m)], _, _, _) rfl ?_
  refine J.icT ok_Mo_layAverage (fun x y => y ≤ x) 146 93 rfl ((nI_leI (a := m) (b := m) (by omega) (by omega)).mpr (by omega)) ?_
  refine J.gp ok_Mo_layAverage 8 (159, [(0, .ref 35), (1, .int (nI r)), (2, .long (lN d)), (4, .long y), (6, .int (nI m))], [.int (nI r), .long (m33 * m30), .long y, .ref 35], _, _, _) rfl ?_
  refine J.callSE s_Mo_layAverage_159 162 [.int (nI r)] (c_Mo_size (by assumption)) rfl rfl (Nat.le_of_ble_eq_true rfl) rfl ?_
  refine J.gp ok_Mo_layAverage 0 (162, [(0, .ref 35), (1, .int (nI r)), (2, .long (lN d)), (4, .long y), (6, .int (nI m))], [.int (nI (plen r)), .long (m33 * m30), .long y, .ref 35], (HP e0 e1 e2 e3 e4 e5 e6 e7 e8 e9 e10 e11 e12 e13 e14 e15 e16 e17 e18 e19 e20 e21 e22 e23 e24 e25 e26 e27 e28 e29 e30 e31 e32 e33 e34 (MOb th (nI m) (nI g) (nI w) (nI p) (nI P) (nI i) (nI s) gn (nI t) (nI bl) m13 m14 m15 m16 m17 m18 m24 m25 m30 m31 m33 m34 m35 m36 m37 m38 m39) e36 e37 e38 e39 e40 e41 e42 e43 e44 e45 e46 e47 e48), kc, kn) rfl ?_
  refine J.gp ok_Mo_layAverage 1 (163, [(0, .ref 35), (1, .int (nI r)), (2, .long (lN d)), (4, .long y), (6, .int (nI m))], [.long ((nI (plen r)).toInt64), .long (m33 * m30), .long y, .ref 35], _, _, _) rfl ?_
  rw [show (((nI (plen r)).toInt64) : Int64) = lN (plen r) from nI_l (n := plen r) (by omega)]
  refine J.gp ok_Mo_layAverage 1 (164, [(0, .ref 35), (1, .int (nI r)), (2, .long (lN d)), (4, .long y), (6, .int (nI m))], [.long ((m33 * m30) * lN (plen r)), .long y, .ref 35], _, _, _) rfl ?_
  rw [show (((m33 * m30) * lN (plen r))) = lN D from he]
  refine J.callVE s_Mo_layAverage_164 167 35 [.long y, .long (lN D)] 10 (c_Mo_reduce hu hD h0) rfl rfl rfl rfl rfl (Nat.le_of_ble_eq_true rfl) rfl ?_
  refine J.gp ok_Mo_layAverage 0 (167, [(0, .ref 35), (1, .int (nI r)), (2, .long (lN d)), (4, .long y), (6, .int (nI m))], [], (HP e0 e1 e2 e3 e4 e5 e6 e7 e8 e9 e10 e11 e12 e13 e14 e15 e16 e17 e18 e19 e20 e21 e22 e23 e24 e25 e26 e27 e28 e29 e30 e31 e32 e33 e34 (MOb th (nI m) (nI g) (nI w) (nI p) (nI P) (nI i) (nI s) gn (nI t) (nI bl) m13 m14 m15 m16 m17 m18 m24 m25 m30 m31 m33 (y / lN (Nat.gcd y.toInt.natAbs D)) (lN (D / Nat.gcd y.toInt.natAbs D)) m36 m37 m38 m39) e36 e37 e38 e39 e40 e41 e42 e43 e44 e45 e46 e47 e48), kc, kn) rfl ?_
  refine JR.vret (by decide +kernel) rfl ?_
  exact K1

set_option maxHeartbeats 2000000 in
theorem c_Mo_layAverage {e0 e1 e2 e3 e4 e5 e6 e7 e8 e9 e10 e11 e12 e13 e14 e15 e16 e17 e18 e19 e20 e21 e22 e23 e24 e25 e26 e27 e28 e29 e30 e31 e32 e33 e34 e37 e38 e39 e40 e41 e42 e48 : va_E} {m13 m14 m15 m16 m17 m18 m31 m36 th gn : Int32} {m24 m25 m30 m33 m34 m35 m37 m38 m39 : Int64} {m g w p P i s t bl : Nat} {r : Nat} {ro gs h q9 we : Nat → Int64} {B F : Nat → Nat} (hm : 2 ≤ m ∧ m ≤ 4) (hg : g < 8) (hw : w < 16) (hBF : ∀ j, B j + F j ≤ 10) (hP : isPr r = true) (hav : AvM m g w B F r) : JM M_Mo_layAverage [.ref 35, .int (nI r)] (HP e0 e1 e2 e3 e4 e5 e6 e7 e8 e9 e10 e11 e12 e13 e14 e15 e16 e17 e18 e19 e20 e21 e22 e23 e24 e25 e26 e27 e28 e29 e30 e31 e32 e33 e34 (MOb th (nI m) (nI g) (nI w) (nI p) (nI P) (nI i) (nI s) gn (nI t) (nI bl) m13 m14 m15 m16 m17 m18 m24 m25 m30 m31 m33 m34 m35 m36 m37 m38 m39) (.inl (0, 24, .inl (fun j => nI ((tbF B F) j)))) e37 e38 e39 e40 e41 e42 (.inl (1, 16, .inr (.inl ro))) (.inl (1, 4, .inr (.inl gs))) (.inl (1, 4, .inr (.inl h))) (.inl (1, 4, .inr (.inl q9))) (.inl (1, 4, .inr (.inl we))) e48) 0 0 (fun v9 q9 => v9 = none ∧ ∃ (ro2 gs2 h2 q2 we2 : Nat → Int64) (al2 : Int64), ((clM m g w B F r) = 1 → (∀ j, j < m → we2 j = (wdM m g w B F r) j) ∧ al2 = (alM m g w B F r)) ∧ q9 = (HP e0 e1 e2 e3 e4 e5 e6 e7 e8 e9 e10 e11 e12 e13 e14 e15 e16 e17 e18 e19 e20 e21 e22 e23 e24 e25 e26 e27 e28 e29 e30 e31 e32 e33 e34 (MOb th (nI m) (nI g) (nI w) (nI p) (nI P) (nI i) (nI s) gn (nI t) (nI bl) m13 m14 m15 m16 m17 m18 m24 m25 (scF (plen r)) (nI (clM m g w B F r)) al2 ((avM m g w B F r).1) (lN ((avM m g w B F r).2)) m36 m37 m38 m39) (.inl (0, 24, .inl (fun j => nI ((tbF B F) j)))) e37 e38 e39 e40 e41 e42 (.inl (1, 16, .inr (.inl ro2))) (.inl (1, 4, .inr (.inl gs2))) (.inl (1, 4, .inr (.inl h2))) (.inl (1, 4, .inr (.inl q2))) (.inl (1, 4, .inr (.inl we2))) e48)) := by
  have h4 := plen_le r
  obtain ⟨hc1, hc2, hc3⟩ := hav
  have hcl : clM m g w B F r ≤ m := mcF_le _ _ _
  have hm0 : 0 < m ∧ m ≤ 4 := ⟨by omega, hm.2⟩
  refine JM.of (by decide +kernel) rfl (Nat.le_of_ble_eq_true rfl) (g_Mo_la0 hm0 hg hw hBF hP (by omega) (fun h2 q2 c => ?_) (fun h2 q2 c => ?_))
  · have hq1 : clM m g w B F r = 1 := by omega
    obtain ⟨hwv, hgd⟩ := hc2 hq1
    obtain ⟨hu, hd⟩ := hc3 hq1
    have hdl : gdF (wvM m g w B F r) m < 2 ^ 63 := gdF_lt hwv
    have KB : JR M_Mo_layAverage none (84, [(0, .ref 35), (1, .int (nI r)), (2, .long (lN (gdF (wvM m g w B F r) m))), (4, .long 0), (6, .int 0)], [], (HP e0 e1 e2 e3 e4 e5 e6 e7 e8 e9 e10 e11 e12 e13 e14 e15 e16 e17 e18 e19 e20 e21 e22 e23 e24 e25 e26 e27 e28 e29 e30 e31 e32 e33 e34 (MOb th (nI m) (nI g) (nI w) (nI p) (nI P) (nI i) (nI s) gn (nI t) (nI bl) m13 m14 m15 m16 m17 m18 m24 m25 (scF (plen r)) (nI (clM m g w B F r)) 0 0 0 m36 m37 m38 m39) (.inl (0, 24, .inl (fun j => nI ((tbF B F) j)))) e37 e38 e39 e40 e41 e42 (.inl (1, 16, .inr (.inl (cpf ro (roM m g w B F r) (4 * m))))) (.inl (1, 4, .inr (.inl (cpf gs (gaM m g w B F r) m)))) (.inl (1, 4, .inr (.inl h2))) (.inl (1, 4, .inr (.inl q2))) (.inl (1, 4, .inr (.inl (cpf we (wvM m g w B F r) m)))) e48), 0, 0) (fun v9 q9 => v9 = none ∧ ∃ (ro2 gs2 h2 q2 we2 : Nat → Int64) (al2 : Int64), ((clM m g w B F r) = 1 → (∀ j, j < m → we2 j = (wdM m g w B F r) j) ∧ al2 = (alM m g w B F r)) ∧ q9 = (HP e0 e1 e2 e3 e4 e5 e6 e7 e8 e9 e10 e11 e12 e13 e14 e15 e16 e17 e18 e19 e20 e21 e22 e23 e24 e25 e26 e27 e28 e29 e30 e31 e32 e33 e34 (MOb th (nI m) (nI g) (nI w) (nI p) (nI P) (nI i) (nI s) gn (nI t) (nI bl) m13 m14 m15 m16 m17 m18 m24 m25 (scF (plen r)) (nI (clM m g w B F r)) al2 ((avM m g w B F r).1) (lN ((avM m g w B F r).2)) m36 m37 m38 m39) (.inl (0, 24, .inl (fun j => nI ((tbF B F) j)))) e37 e38 e39 e40 e41 e42 (.inl (1, 16, .inr (.inl ro2))) (.inl (1, 4, .inr (.inl gs2))) (.inl (1, 4, .inr (.inl h2))) (.inl (1, 4, .inr (.inl q2))) (.inl (1, 4, .inr (.inl we2))) e48)) := by
      have K := loopN (P := fun k => JR M_Mo_layAverage none (84, [(0, .ref 35), (1, .int (nI r)), (2, .long (lN (gdF (wvM m g w B F r) m))), (4, .long (saF (wdM m g w B F r) (gaM m g w B F r) k)), (6, .int (nI k))], [], (HP e0 e1 e2 e3 e4 e5 e6 e7 e8 e9 e10 e11 e12 e13 e14 e15 e16 e17 e18 e19 e20 e21 e22 e23 e24 e25 e26 e27 e28 e29 e30 e31 e32 e33 e34 (MOb th (nI m) (nI g) (nI w) (nI p) (nI P) (nI i) (nI s) gn (nI t) (nI bl) m13 m14 m15 m16 m17 m18 m24 m25 (scF (plen r)) (nI (clM m g w B F r)) (smA (wdM m g w B F r) k) 0 0 m36 m37 m38 m39) (.inl (0, 24, .inl (fun j => nI ((tbF B F) j)))) e37 e38 e39 e40 e41 e42 (.inl (1, 16, .inr (.inl (cpf ro (roM m g w B F r) (4 * m))))) (.inl (1, 4, .inr (.inl (cpf gs (gaM m g w B F r) m)))) (.inl (1, 4, .inr (.inl h2))) (.inl (1, 4, .inr (.inl q2))) (.inl (1, 4, .inr (.inl (cpf (cpf we (wvM m g w B F r) m) (wdM m g w B F r) k)))) e48), 0, 0) (fun v9 q9 => v9 = none ∧ ∃ (ro2 gs2 h2 q2 we2 : Nat → Int64) (al2 : Int64), ((clM m g w B F r) = 1 → (∀ j, j < m → we2 j = (wdM m g w B F r) j) ∧ al2 = (alM m g w B F r)) ∧ q9 = (HP e0 e1 e2 e3 e4 e5 e6 e7 e8 e9 e10 e11 e12 e13 e14 e15 e16 e17 e18 e19 e20 e21 e22 e23 e24 e25 e26 e27 e28 e29 e30 e31 e32 e33 e34 (MOb th (nI m) (nI g) (nI w) (nI p) (nI P) (nI i) (nI s) gn (nI t) (nI bl) m13 m14 m15 m16 m17 m18 m24 m25 (scF (plen r)) (nI (clM m g w B F r)) al2 ((avM m g w B F r).1) (lN ((avM m g w B F r).2)) m36 m37 m38 m39) (.inl (0, 24, .inl (fun j => nI ((tbF B F) j)))) e37 e38 e39 e40 e41 e42 (.inl (1, 16, .inr (.inl ro2))) (.inl (1, 4, .inr (.inl gs2))) (.inl (1, 4, .inr (.inl h2))) (.inl (1, 4, .inr (.inl q2))) (.inl (1, 4, .inr (.inl we2))) e48))) (b := m) ?_ (fun k hk ih => ?_) 0 (Nat.zero_le _)
      · rw [cpf_0] at K
        exact K
      · have hlt := ((alM m g w B F r) * (scF (plen r)) * lN (plen r)).toInt_lt
        refine g_Mo_la5 (m30 := (scF (plen r))) (m33 := (alM m g w B F r)) (D := avD (plen r) (scF (plen r)) (alM m g w B F r)) hm hP h4 hu (by unfold avD; omega) (by unfold avD; omega) (lN_back (by omega)) ⟨rfl, cpf ro (roM m g w B F r) (4 * m), cpf gs (gaM m g w B F r) m, h2, q2, (cpf (cpf we (wvM m g w B F r) m) (wdM m g w B F r) m), (alM m g w B F r), fun _ => ⟨fun j hj => cpf_lt hj, rfl⟩, ?_⟩
        unfold avM avP
        rw [if_pos hq1]
      · refine g_Mo_la4 (k := k) (d := (gdF (wvM m g w B F r) m)) (gs := cpf gs (gaM m g w B F r) m) (we := (cpf (cpf we (wvM m g w B F r) m) (wdM m g w B F r) k)) (m33 := smA (wdM m g w B F r) k) (y := saF (wdM m g w B F r) (gaM m g w B F r) k) hm hk hdl hgd ?_
        rw [show (cpf (cpf we (wvM m g w B F r) m) (wdM m g w B F r) k) k = (wvM m g w B F r) k from (cpf_ge (Nat.le_refl _)).trans (cpf_lt hk), show cpf gs (gaM m g w B F r) m k = (gaM m g w B F r) k from cpf_lt hk]
        rw [show (wvM m g w B F r) k / lN (gdF (wvM m g w B F r) m) = (wdM m g w B F r) k from rfl, cpf_up (cpf we (wvM m g w B F r) m) (wdM m g w B F r) k]
        exact ih
    refine g_Mo_la1 ?_
    have K := loopN (P := fun k => JR M_Mo_layAverage none (33, [(0, .ref 35), (1, .int (nI r)), (2, .long (lN (gdF (wvM m g w B F r) k))), (4, .int (nI k))], [], (HP e0 e1 e2 e3 e4 e5 e6 e7 e8 e9 e10 e11 e12 e13 e14 e15 e16 e17 e18 e19 e20 e21 e22 e23 e24 e25 e26 e27 e28 e29 e30 e31 e32 e33 e34 (MOb th (nI m) (nI g) (nI w) (nI p) (nI P) (nI i) (nI s) gn (nI t) (nI bl) m13 m14 m15 m16 m17 m18 m24 m25 (scF (plen r)) (nI (clM m g w B F r)) m33 0 0 m36 m37 m38 m39) (.inl (0, 24, .inl (fun j => nI ((tbF B F) j)))) e37 e38 e39 e40 e41 e42 (.inl (1, 16, .inr (.inl (cpf ro (roM m g w B F r) (4 * m))))) (.inl (1, 4, .inr (.inl (cpf gs (gaM m g w B F r) m)))) (.inl (1, 4, .inr (.inl h2))) (.inl (1, 4, .inr (.inl q2))) (.inl (1, 4, .inr (.inl (cpf we (wvM m g w B F r) k)))) e48), 0, 0) (fun v9 q9 => v9 = none ∧ ∃ (ro2 gs2 h2 q2 we2 : Nat → Int64) (al2 : Int64), ((clM m g w B F r) = 1 → (∀ j, j < m → we2 j = (wdM m g w B F r) j) ∧ al2 = (alM m g w B F r)) ∧ q9 = (HP e0 e1 e2 e3 e4 e5 e6 e7 e8 e9 e10 e11 e12 e13 e14 e15 e16 e17 e18 e19 e20 e21 e22 e23 e24 e25 e26 e27 e28 e29 e30 e31 e32 e33 e34 (MOb th (nI m) (nI g) (nI w) (nI p) (nI P) (nI i) (nI s) gn (nI t) (nI bl) m13 m14 m15 m16 m17 m18 m24 m25 (scF (plen r)) (nI (clM m g w B F r)) al2 ((avM m g w B F r).1) (lN ((avM m g w B F r).2)) m36 m37 m38 m39) (.inl (0, 24, .inl (fun j => nI ((tbF B F) j)))) e37 e38 e39 e40 e41 e42 (.inl (1, 16, .inr (.inl ro2))) (.inl (1, 4, .inr (.inl gs2))) (.inl (1, 4, .inr (.inl h2))) (.inl (1, 4, .inr (.inl q2))) (.inl (1, 4, .inr (.inl we2))) e48))) (b := m) ?_ (fun k hk ih => ?_) 0 (Nat.zero_le _)
    · rw [cpf_0] at K
      exact K
    · exact g_Mo_la3 (d := (gdF (wvM m g w B F r) m)) hm KB
    · have ew : mnM m (scF (plen r)) (cpf ro (roM m g w B F r) (4 * m)) k = (wvM m g w B F r) k := mnM_eq hm hk (fun i j hi hj => cpf_lt (by omega))
      refine g_Mo_la2 (k := k) (d := (gdF (wvM m g w B F r) k)) (x := (wvM m g w B F r) k) (m30 := (scF (plen r))) (ro := cpf ro (roM m g w B F r) (4 * m)) (we := (cpf we (wvM m g w B F r) k)) hm hk (gdF_lt (fun p hp => hwv p (by omega))) ew (hwv k hk) ?_
      rw [cpf_up we (wvM m g w B F r) k]
      exact ih
  · refine ⟨rfl, cpf ro (roM m g w B F r) (4 * m), cpf gs (gaM m g w B F r) m, h2, q2, we, m33, fun e => absurd e (by omega), ?_⟩
    unfold avM avP
    rw [if_neg (by omega)]
    rfl
