/-! THE LAW'S OWN NUMBERS (an array of nine, an array of twelve), and its small methods -/
def HQ (e0 e1 e2 e3 e4 e5 e6 e7 e8 e9 e10 e11 e12 e13 e14 e15 e16 e17 e18 e19 e20 e21 e22 e23 e24 e25 e26 e27 e28 e29 e30 e31 e32 e33 e34 e35 e36 e37 e38 : va_E) : aH := [e0, e1, e2, e3, e4, e5, e6, e7, e8, e9, e10, e11, e12, e13, e14, e15, e16, e17, e18, e19, e20, e21, e22, e23, e24, e25, e26, e27, e28, e29, e30, e31, e32, e33, e34, e35, e36, e37, e38]
def dL (l : List Int32) : Nat → Int32 := fun k => l.getD k 0
theorem dL_up {l : List Int32} {j : Nat} {x : Int32} (h : Nat.blt j l.length = true) : upd (dL l) j x = dL (l.set j x) := by
  have hj : j < l.length := Nat.blt_eq.mp h
  funext k
  unfold upd dL
  by_cases e : k = j
  · subst e
    rw [if_pos rfl]
    simp [List.getD, hj]
  · rw [if_neg e]
    have e2 : ¬ j = k := fun q => e q.symm
    simp [List.getD, List.getElem?_set, e2]
def nuF (B F : Nat → Nat) : Nat → Nat := fun j => 100 * B j + F j
theorem nuF_up (B F : Nat → Nat) (k b f : Nat) : va_up (nuF B F) k (100 * b + f) = nuF (va_up B k b) (va_up F k f) := by
  funext j
  show (if j = k then 100 * b + f else 100 * B j + F j) = 100 * (if j = k then b else B j) + (if j = k then f else F j)
  split <;> rfl
theorem nuF_le {B F : Nat → Nat} (h : ∀ j, B j + F j ≤ 10) (j : Nat) : nuF B F j ≤ 1010 := by
  have := h j
  unfold nuF
  omega
theorem nuF_b {B F : Nat → Nat} (h : ∀ j, B j + F j ≤ 10) (j : Nat) : nuF B F j / 100 = B j := by
  have := h j
  unfold nuF
  omega
theorem nuF_f {B F : Nat → Nat} (h : ∀ j, B j + F j ≤ 10) (j : Nat) : nuF B F j % 100 = F j := by
  have := h j
  unfold nuF
  omega
/-- what a draw does at a position -/
def mvD (g w : Nat) (B F : Nat → Nat) (l p dr : Nat) : Int32 := if dr < tB g w B l p then -1 else if 10 - tF g F l p ≤ dr then 1 else 0
def mvP (m g w : Nat) (B F : Nat → Nat) (l p dr : Nat) : Nat := if dr < tB g w B l p then pB m p else if 10 - tF g F l p ≤ dr then pA m p else p
theorem tkD_mv (g w : Nat) (B F : Nat → Nat) (P p i s : Nat) : tkD g w B F P p i s = mvD g w B F (plev P i) p (tkS s / 100) := rfl
theorem tkP_mv (m g w : Nat) (B F : Nat → Nat) (P p i s : Nat) : tkP m g w B F P p i s = mvP m g w B F (plev P i) p (tkS s / 100) := rfl
theorem mvP_lt {m g w : Nat} {B F : Nat → Nat} {l p dr : Nat} (hm : 0 < m) (hp : p < m) : mvP m g w B F l p dr < m := by
  unfold mvP
  split
  · exact pB_lt hm hp
  · split
    · exact pA_lt hm
    · exact hp
theorem bitE {g l : Nat} (hg : g < 16) (hl : l < 4) : (nI g >>> (nI l &&& 31)) &&& 1 = nI (bitN g l) := by
  rw [shrN (by omega) (by omega), and1 (Nat.lt_of_le_of_lt (Nat.div_le_self _ _) (by omega))]
  rfl
theorem nine_f : ∀ f, f < 11 → ∀ d, d < 10 → (nI d ≤ (9 - nI f) ↔ d + f < 10) := by decide +kernel
theorem pos_m : ∀ m, m < 5 → ∀ p, p < m → (((nI p + (-1)) + nI m) - ((nI p + (-1)) + nI m) / nI m * nI m) = nI (pB m p) := by decide +kernel
theorem pos_0 : ∀ m, m < 5 → ∀ p, p < m → (((nI p + 0) + nI m) - ((nI p + 0) + nI m) / nI m * nI m) = nI p := by decide +kernel
theorem pos_1 : ∀ m, m < 5 → ∀ p, p < m → (((nI p + 1) + nI m) - ((nI p + 1) + nI m) / nI m * nI m) = nI (pA m p) := by decide +kernel
theorem pos_mv {m g w : Nat} {B F : Nat → Nat} {l p dr : Nat} (hm : m < 5) (hp : p < m) : (((nI p + mvD g w B F l p dr) + nI m) - ((nI p + mvD g w B F l p dr) + nI m) / nI m * nI m) = nI (mvP m g w B F l p dr) := by
  unfold mvD mvP
  split
  · exact pos_m m hm p hp
  · split
    · exact pos_1 m hm p hp
    · exact pos_0 m hm p hp
/-- the law's draw at a position, by the class's tenths -/
theorem mv_out {g w : Nat} {B F : Nat → Nat} {l p dr : Nat} (h : bitN g l = 0) : mvD g w B F l p dr = if 10 ≤ dr then 1 else 0 := by
  unfold mvD tB tF
  rw [if_pos (Or.inl h), if_pos h, if_neg (Nat.not_lt_zero _)]
theorem mv_in {g w : Nat} {B F : Nat → Nat} {l p dr : Nat} (h : ¬ bitN g l = 0) (hBF : ∀ j, B j + F j ≤ 10) : mvD g w B F l p dr = if dr < B (l * 4 + p) then (if bitN w p = 1 then 0 else -1) else if 10 - F (l * 4 + p) ≤ dr then 1 else 0 := by
  have := hBF (l * 4 + p)
  unfold mvD tB tF
  rw [if_neg h]
  by_cases h1 : bitN w p = 1
  · rw [if_pos (Or.inr h1), if_neg (Nat.not_lt_zero _), if_pos h1]
    by_cases h2 : dr < B (l * 4 + p)
    · rw [if_pos h2, if_neg (by omega)]
    · rw [if_neg h2]
  · have hc : ¬ (bitN g l = 0 ∨ bitN w p = 1) := fun q => q.elim h h1
    rw [if_neg hc, if_neg h1]

set_option maxRecDepth 100000 in
set_option maxHeartbeats 400000 in
theorem g_La_lengthOf {sc : aScr} {hh : aH} {p : Nat} {kc kn : Nat} {O : Option Value → aH → Prop} (hp : p < 2 ^ 31) (K1 : (p ≤ 63) → (p ≤ 15) → (p ≤ 3) → O (some (.int 1)) hh) (K2 : (p ≤ 63) → (p ≤ 15) → (3 < p) → O (some (.int 2)) hh) (K3 : (p ≤ 63) → (15 < p) → O (some (.int 3)) hh) (K4 : (63 < p) → O (some (.int 4)) hh) : JR M_La_lengthOf sc (0, [(0, .int (nI p))], [], hh, kc, kn) O := by
  refine J.gp ok_La_lengthOf 2 (3, [(0, .int (nI p))], [.int 63, .int (nI p)], _, _, _) rfl ?_
  refine J.icB ok_La_lengthOf (fun x y => x ≤ y) 10 6 rfl (fun (h0 : nI p ≤ 63) => ?_) (fun (h0 : ¬ (nI p ≤ 63)) => ?_)
  · have c3 : p ≤ 63 := (nI_leI (a := p) (b := 63) (by omega) (by omega)).mp h0
    refine J.gp ok_La_lengthOf 2 (13, [(0, .int (nI p))], [.int 15, .int (nI p)], _, _, _) rfl ?_
    refine J.icB ok_La_lengthOf (fun x y => x ≤ y) 20 16 rfl (fun (h0 : nI p ≤ 15) => ?_) (fun (h0 : ¬ (nI p ≤ 15)) => ?_)
    · have c13 : p ≤ 15 := (nI_leI (a := p) (b := 15) (by omega) (by omega)).mp h0
      refine J.gp ok_La_lengthOf 2 (22, [(0, .int (nI p))], [.int 3, .int (nI p)], _, _, _) rfl ?_
      refine J.icB ok_La_lengthOf (fun x y => x ≤ y) 29 25 rfl (fun (h0 : nI p ≤ 3) => ?_) (fun (h0 : ¬ (nI p ≤ 3)) => ?_)
      · have c22 : p ≤ 3 := (nI_leI (a := p) (b := 3) (by omega) (by omega)).mp h0
        refine J.gp ok_La_lengthOf 1 (30, [(0, .int (nI p))], [.int 1], _, _, _) rfl ?_
        refine JR.iret .int (by decide +kernel) rfl (rfl) ?_
        exact K1 c3 c13 c22
      · have c22 : 3 < p := Nat.not_le.mp (fun h9 => h0 ((nI_leI (a := p) (b := 3) (by omega) (by omega)).mpr h9))
        refine J.gp ok_La_lengthOf 2 (30, [(0, .int (nI p))], [.int 2], _, _, _) rfl ?_
        refine JR.iret .int (by decide +kernel) rfl (rfl) ?_
        exact K2 c3 c13 c22
    · have c13 : 15 < p := Nat.not_le.mp (fun h9 => h0 ((nI_leI (a := p) (b := 15) (by omega) (by omega)).mpr h9))
      refine J.gp ok_La_lengthOf 2 (30, [(0, .int (nI p))], [.int 3], _, _, _) rfl ?_
      refine JR.iret .int (by decide +kernel) rfl (rfl) ?_
      exact K3 c3 c13
  · have c3 : 63 < p := Nat.not_le.mp (fun h9 => h0 ((nI_leI (a := p) (b := 63) (by omega) (by omega)).mpr h9))
    refine J.gp ok_La_lengthOf 2 (30, [(0, .int (nI p))], [.int 4], _, _, _) rfl ?_
    refine JR.iret .int (by decide +kernel) rfl (rfl) ?_
    exact K4 c3

theorem c_La_lengthOf {hh : aH} {p : Nat} (hp : p < 2 ^ 31) : JE M_La_lengthOf [.int (nI p)] hh (some (.int (nI (plen p)))) hh := by
  refine JM.of (by decide) rfl (Nat.le_of_ble_eq_true rfl) (g_La_lengthOf hp (fun a b c => ⟨?_, rfl⟩) (fun a b c => ⟨?_, rfl⟩) (fun a b => ⟨?_, rfl⟩) (fun a => ⟨?_, rfl⟩)) <;> unfold plen
  · rw [if_pos (by omega)]; rfl
  · rw [if_neg (by omega), if_pos (by omega)]; rfl
  · rw [if_neg (by omega), if_neg (by omega), if_pos (by omega)]; rfl
  · rw [if_neg (by omega), if_neg (by omega), if_neg (by omega)]; rfl

set_option maxRecDepth 100000 in
set_option maxHeartbeats 400000 in
theorem g_La_leverAt0 {sc : aScr} {hh : aH} {p k : Nat} {kc kn : Nat} {O : Option Value → aH → Prop} (hp : p < 256) (h1 : 1 ≤ plen p) (h4 : plen p ≤ 4) (K1 : JR M_La_leverAt sc (12, [(1, .int (nI k)), (3, .int (nI p)), (4, .int (nI ((plen p) - 1)))], [], hh, kc, kn) O) : JR M_La_leverAt sc (0, [(0, .int (nI p)), (1, .int (nI k))], [], hh, kc, kn) O := by
  refine J.gp ok_La_leverAt 1 (1, [(0, .int (nI p)), (1, .int (nI k))], [.int (nI p)], _, _, _) rfl ?_
  refine J.callSE s_La_leverAt_1 4 [.int (nI p)] (c_La_lengthOf (by omega)) rfl rfl (Nat.le_of_ble_eq_true rfl) rfl ?_
  refine J.gp ok_La_leverAt 0 (4, [(0, .int (nI p)), (1, .int (nI k))], [.int (nI (plen p))], hh, kc, kn) rfl ?_
  refine J.gp ok_La_leverAt 6 (10, [(0, .int (nI p)), (1, .int (nI k)), (2, .int (nI (plen p))), (3, .int (nI p))], [.int (nI (plen p) - 1)], _, _, _) rfl ?_
  rw [show ((nI (plen p) - 1) : Int32) = nI ((plen p) - 1) from pk_sub (a := plen p) (b := 1) (by omega)]
  refine J.gp ok_La_leverAt 1 (12, [(0, .int (nI p)), (1, .int (nI k)), (2, .int (nI (plen p))), (3, .int (nI p)), (4, .int (nI ((plen p) - 1)))], [], _, _, _) rfl ?_
  refine J.lv [1, 3, 4] [(1, .int (nI k)), (3, .int (nI p)), (4, .int (nI ((plen p) - 1)))] rfl ?_
  exact K1

set_option maxRecDepth 100000 in
set_option maxHeartbeats 400000 in
theorem g_La_leverAt1 {sc : aScr} {hh : aH} {r e k : Nat} {kc kn : Nat} {O : Option Value → aH → Prop} (hr : r < 256) (he : e < 256) (hk : k < 256) (hek : e ≤ k) (h1 : 1 ≤ r % 4) (K1 : O (some (.int (nI ((r % 4) - 1)))) hh) : JR M_La_leverAt sc (12, [(1, .int (nI k)), (3, .int (nI r)), (4, .int (nI e))], [], hh, kc, kn) O := by
  refine J.gp ok_La_leverAt 2 (15, [(1, .int (nI k)), (3, .int (nI r)), (4, .int (nI e))], [.int (nI k), .int (nI e)], _, _, _) rfl ?_
  refine J.icT ok_La_leverAt (fun x y => x ≤ y) 28 18 rfl ((nI_leI (a := e) (b := k) (by omega) (by omega)).mpr (by omega)) ?_
  refine J.gp ok_La_leverAt 2 (30, [(1, .int (nI k)), (3, .int (nI r)), (4, .int (nI e))], [.int 4, .int (nI r)], _, _, _) rfl ?_
  refine J.iremB ok_La_leverAt 31 rfl (by decide) ?_
  rw [show ((nI r - nI r / 4 * 4) : Int32) = nI (r % 4) from pk_rem (a := r) (d := 4) (by omega) (by omega) (by omega)]
  refine J.gp ok_La_leverAt 2 (33, [(1, .int (nI k)), (3, .int (nI r)), (4, .int (nI e))], [.int (nI (r % 4) - 1)], _, _, _) rfl ?_
  rw [show ((nI (r % 4) - 1) : Int32) = nI ((r % 4) - 1) from pk_sub (a := r % 4) (b := 1) (by omega)]
  refine JR.iret .int (by decide +kernel) rfl (rfl) ?_
  exact K1

set_option maxRecDepth 100000 in
set_option maxHeartbeats 400000 in
theorem g_La_leverAt2 {sc : aScr} {hh : aH} {r e k : Nat} {kc kn : Nat} {O : Option Value → aH → Prop} (hr : r < 256) (he : e + 1 < 256) (hk : k < 256) (hek : k ≤ e) (K1 : JR M_La_leverAt sc (12, [(1, .int (nI k)), (3, .int (nI (r / 4))), (4, .int (nI e))], [], hh, kc, kn) O) : JR M_La_leverAt sc (12, [(1, .int (nI k)), (3, .int (nI r)), (4, .int (nI (e + 1)))], [], hh, kc, kn) O := by
  refine J.gp ok_La_leverAt 2 (15, [(1, .int (nI k)), (3, .int (nI r)), (4, .int (nI (e + 1)))], [.int (nI k), .int (nI (e + 1))], _, _, _) rfl ?_
  refine J.icF ok_La_leverAt (fun x y => x ≤ y) 28 18 rfl (fun h9 => absurd ((nI_leI (a := e + 1) (b := k) (by omega) (by omega)).mp h9) (by omega)) ?_
  refine J.gp ok_La_leverAt 2 (20, [(1, .int (nI k)), (3, .int (nI r)), (4, .int (nI (e + 1)))], [.int 4, .int (nI r)], _, _, _) rfl ?_
  refine J.idivB ok_La_leverAt 21 rfl (by decide) ?_
  rw [show ((nI r / 4) : Int32) = nI (r / 4) from pk_div (a := r) (d := 4) (by omega) (by omega) (by omega)]
  refine J.gp ok_La_leverAt 2 (25, [(1, .int (nI k)), (3, .int (nI (r / 4))), (4, .int (nI (e + 1) + (-1)))], [], _, _, _) rfl ?_
  rw [show (nI (e + 1) + (-1)) = nI e from pk_m1 e]
  refine J.gp ok_La_leverAt 1 (12, [(1, .int (nI k)), (3, .int (nI (r / 4))), (4, .int (nI e))], [], _, _, _) rfl ?_
  exact K1

theorem La_lev {hh : aH} {kc kn : Nat} {O : Option Value → aH → Prop} {p k : Nat} (hP : isPr p = true) (hk : k < plen p) (hO : O (some (.int (nI (plev p k)))) hh) : ∀ (d e : Nat), e = k + d → e < plen p → JR M_La_leverAt none (12, [(1, .int (nI k)), (3, .int (nI (p / 4 ^ (plen p - 1 - e)))), (4, .int (nI e))], [], hh, kc, kn) O := by
  obtain ⟨h0, h256, hdg⟩ := isPr_iff.mp hP
  have h4 := plen_le p
  have hlt : ∀ a : Nat, p / 4 ^ a < 256 := fun a => Nat.lt_of_le_of_lt (Nat.div_le_self _ _) h256
  intro d
  induction d with
  | zero =>
    intro e he hel
    have hd : pdig p (plen p - 1 - e) ≠ 0 := hdg _ (by omega)
    refine g_La_leverAt1 (hlt _) (by omega) (by omega) (by omega) (Nat.pos_of_ne_zero hd) ?_
    rw [show e = k from by omega]
    exact hO
  | succ d ih =>
    intro e he hel
    obtain ⟨e', rfl⟩ : ∃ e', e = e' + 1 := ⟨e - 1, by omega⟩
    refine g_La_leverAt2 (hlt _) (by omega) (by omega) (by omega) ?_
    have := ih e' (by omega) (by omega)
    rw [Nat.div_div_eq_div_mul, ← Nat.pow_succ, show (plen p - 1 - (e' + 1)).succ = plen p - 1 - e' from by omega]
    exact this
theorem c_La_leverAt {hh : aH} {p k : Nat} (hP : isPr p = true) (hk : k < plen p) : JE M_La_leverAt [.int (nI p), .int (nI k)] hh (some (.int (nI (plev p k)))) hh := by
  refine JM.of (by decide) rfl (Nat.le_of_ble_eq_true rfl) (g_La_leverAt0 (isPr_bd hP).2 (plen_pos p) (plen_le p) ?_)
  have h := La_lev (hh := hh) (kc := 0) (kn := 0) (O := OE (some (.int (nI (plev p k)))) hh) hP hk ⟨rfl, rfl⟩ (plen p - 1 - k) (plen p - 1) (by omega) (by have := plen_pos p; omega)
  rw [Nat.sub_self, Nat.pow_zero, Nat.div_one] at h
  exact h

set_option maxRecDepth 100000 in
set_option maxHeartbeats 400000 in
theorem g_La_move_A {sc : aScr} {e0 e1 e2 e3 e4 e5 e6 e7 e8 e9 e10 e11 e12 e13 e14 e15 e16 e17 e18 e19 e20 e21 e22 e23 e24 e25 e26 e27 e28 e29 e30 e31 e32 e33 e34 : va_E} {m p P i s t g w : Nat} {gn : Int32} {B F : Nat → Nat} {l dr q : Nat} {kc kn : Nat} {O : Option Value → aH → Prop} (hm : 0 < m ∧ m ≤ 4) (hg : g < 8) (hw : w < 16) (hBF : ∀ j, B j + F j ≤ 10) (hl : l < 3) (hq : q < m) (hdr : dr < 10) (hn : nuF B F (4 * l + q) ≤ 1010) (hb : bitN w q < 2) (hb2 : bitN g l < 2) (K1 : (¬ (bitN g l) = 0) → ((((nuF B F) ((4 * l) + q)) / 100) ≤ dr) → (nI dr ≤ (9 - nI (((nuF B F) ((4 * l) + q)) % 100))) → O (some (.int 0)) (HP e0 e1 e2 e3 e4 e5 e6 e7 e8 e9 e10 e11 e12 e13 e14 e15 e16 e17 e18 e19 e20 e21 e22 e23 e24 e25 e26 e27 e28 e29 e30 e31 e32 e33 e34 (.inl (0, 9, .inl (dL [nI m, nI p, nI P, nI i, nI s, gn, nI t, nI g, nI w]))) (.inl (0, 12, .inl (fun j => nI ((nuF B F) j)))))) (K2 : (¬ (bitN g l) = 0) → ((((nuF B F) ((4 * l) + q)) / 100) ≤ dr) → (¬ (nI dr ≤ (9 - nI (((nuF B F) ((4 * l) + q)) % 100)))) → O (some (.int 1)) (HP e0 e1 e2 e3 e4 e5 e6 e7 e8 e9 e10 e11 e12 e13 e14 e15 e16 e17 e18 e19 e20 e21 e22 e23 e24 e25 e26 e27 e28 e29 e30 e31 e32 e33 e34 (.inl (0, 9, .inl (dL [nI m, nI p, nI P, nI i, nI s, gn, nI t, nI g, nI w]))) (.inl (0, 12, .inl (fun j => nI ((nuF B F) j)))))) (K3 : (¬ (bitN g l) = 0) → (dr < (((nuF B F) ((4 * l) + q)) / 100)) → (¬ (bitN w q) = 1) → O (some (.int (-1))) (HP e0 e1 e2 e3 e4 e5 e6 e7 e8 e9 e10 e11 e12 e13 e14 e15 e16 e17 e18 e19 e20 e21 e22 e23 e24 e25 e26 e27 e28 e29 e30 e31 e32 e33 e34 (.inl (0, 9, .inl (dL [nI m, nI p, nI P, nI i, nI s, gn, nI t, nI g, nI w]))) (.inl (0, 12, .inl (fun j => nI ((nuF B F) j)))))) (K4 : (¬ (bitN g l) = 0) → (dr < (((nuF B F) ((4 * l) + q)) / 100)) → ((bitN w q) = 1) → O (some (.int 0)) (HP e0 e1 e2 e3 e4 e5 e6 e7 e8 e9 e10 e11 e12 e13 e14 e15 e16 e17 e18 e19 e20 e21 e22 e23 e24 e25 e26 e27 e28 e29 e30 e31 e32 e33 e34 (.inl (0, 9, .inl (dL [nI m, nI p, nI P, nI i, nI s, gn, nI t, nI g, nI w]))) (.inl (0, 12, .inl (fun j => nI ((nuF B F) j)))))) (K5 : ((bitN g l) = 0) → O (some (.int 0)) (HP e0 e1 e2 e3 e4 e5 e6 e7 e8 e9 e10 e11 e12 e13 e14 e15 e16 e17 e18 e19 e20 e21 e22 e23 e24 e25 e26 e27 e28 e29 e30 e31 e32 e33 e34 (.inl (0, 9, .inl (dL [nI m, nI p, nI P, nI i, nI s, gn, nI t, nI g, nI w]))) (.inl (0, 12, .inl (fun j => nI ((nuF B F) j)))))) : JR M_La_move sc (0, [(0, .int (nI l)), (1, .int (nI q)), (2, .int (nI dr)), (3, .ref 35), (4, .ref 36)], [], (HP e0 e1 e2 e3 e4 e5 e6 e7 e8 e9 e10 e11 e12 e13 e14 e15 e16 e17 e18 e19 e20 e21 e22 e23 e24 e25 e26 e27 e28 e29 e30 e31 e32 e33 e34 (.inl (0, 9, .inl (dL [nI m, nI p, nI P, nI i, nI s, gn, nI t, nI g, nI w]))) (.inl (0, 12, .inl (fun j => nI ((nuF B F) j))))), kc, kn) O := by
  refine J.gp ok_La_move 4 (5, [(0, .int (nI l)), (1, .int (nI q)), (2, .int (nI dr)), (3, .ref 35), (4, .ref 36)], [.int (4 * nI l), .ref 36], _, _, _) rfl ?_
  rw [show ((4 * nI l) : Int32) = nI (4 * l) from pk_mul 4 l]
  refine J.gp ok_La_move 2 (7, [(0, .int (nI l)), (1, .int (nI q)), (2, .int (nI dr)), (3, .ref 35), (4, .ref 36)], [.int (nI (4 * l) + nI q), .ref 36], _, _, _) rfl ?_
  rw [show ((nI (4 * l) + nI q) : Int32) = nI ((4 * l) + q) from nI_add (4 * l) q]
  refine J.ialdB ok_La_move 8 ((4 * l) + q) rfl rfl (rfl) (by omega) (by decide) ?_
  refine J.gp ok_La_move 0 (8, [(0, .int (nI l)), (1, .int (nI q)), (2, .int (nI dr)), (3, .ref 35), (4, .ref 36)], [.int (nI ((nuF B F) ((4 * l) + q)))], (HP e0 e1 e2 e3 e4 e5 e6 e7 e8 e9 e10 e11 e12 e13 e14 e15 e16 e17 e18 e19 e20 e21 e22 e23 e24 e25 e26 e27 e28 e29 e30 e31 e32 e33 e34 (.inl (0, 9, .inl (dL [nI m, nI p, nI P, nI i, nI s, gn, nI t, nI g, nI w]))) (.inl (0, 12, .inl (fun j => nI ((nuF B F) j))))), kc, kn) rfl ?_
  refine J.gp ok_La_move 1 (10, [(0, .int (nI l)), (1, .int (nI q)), (2, .int (nI dr)), (3, .ref 35), (4, .ref 36)], [.int 100, .int (nI ((nuF B F) ((4 * l) + q)))], _, _, _) rfl ?_
  refine J.idivB ok_La_move 11 rfl (by decide) ?_
  rw [show ((nI ((nuF B F) ((4 * l) + q)) / 100) : Int32) = nI (((nuF B F) ((4 * l) + q)) / 100) from pk_div (a := (nuF B F) ((4 * l) + q)) (d := 100) (by omega) (by omega) (by omega)]
  refine J.gp ok_La_move 5 (18, [(0, .int (nI l)), (1, .int (nI q)), (2, .int (nI dr)), (3, .ref 35), (4, .ref 36), (5, .int (nI (((nuF B F) ((4 * l) + q)) / 100)))], [.int (4 * nI l), .ref 36], _, _, _) rfl ?_
  rw [show ((4 * nI l) : Int32) = nI (4 * l) from pk_mul 4 l]
  refine J.gp ok_La_move 2 (20, [(0, .int (nI l)), (1, .int (nI q)), (2, .int (nI dr)), (3, .ref 35), (4, .ref 36), (5, .int (nI (((nuF B F) ((4 * l) + q)) / 100)))], [.int (nI (4 * l) + nI q), .ref 36], _, _, _) rfl ?_
  rw [show ((nI (4 * l) + nI q) : Int32) = nI ((4 * l) + q) from nI_add (4 * l) q]
  refine J.ialdB ok_La_move 21 ((4 * l) + q) rfl rfl (rfl) (by omega) (by decide) ?_
  refine J.gp ok_La_move 0 (21, [(0, .int (nI l)), (1, .int (nI q)), (2, .int (nI dr)), (3, .ref 35), (4, .ref 36), (5, .int (nI (((nuF B F) ((4 * l) + q)) / 100)))], [.int (nI ((nuF B F) ((4 * l) + q)))], (HP e0 e1 e2 e3 e4 e5 e6 e7 e8 e9 e10 e11 e12 e13 e14 e15 e16 e17 e18 e19 e20 e21 e22 e23 e24 e25 e26 e27 e28 e29 e30 e31 e32 e33 e34 (.inl (0, 9, .inl (dL [nI m, nI p, nI P, nI i, nI s, gn, nI t, nI g, nI w]))) (.inl (0, 12, .inl (fun j => nI ((nuF B F) j))))), kc, kn) rfl ?_
  refine J.gp ok_La_move 1 (23, [(0, .int (nI l)), (1, .int (nI q)), (2, .int (nI dr)), (3, .ref 35), (4, .ref 36), (5, .int (nI (((nuF B F) ((4 * l) + q)) / 100)))], [.int 100, .int (nI ((nuF B F) ((4 * l) + q)))], _, _, _) rfl ?_
  refine J.iremB ok_La_move 24 rfl (by decide) ?_
  rw [show ((nI ((nuF B F) ((4 * l) + q)) - nI ((nuF B F) ((4 * l) + q)) / 100 * 100) : Int32) = nI (((nuF B F) ((4 * l) + q)) % 100) from pk_rem (a := (nuF B F) ((4 * l) + q)) (d := 100) (by omega) (by omega) (by omega)]
  refine J.gp ok_La_move 3 (29, [(0, .int (nI l)), (1, .int (nI q)), (2, .int (nI dr)), (3, .ref 35), (4, .ref 36), (5, .int (nI (((nuF B F) ((4 * l) + q)) / 100))), (6, .int (nI (((nuF B F) ((4 * l) + q)) % 100)))], [.int 7, .ref 35], _, _, _) rfl ?_
  refine J.ialdB ok_La_move 30 7 rfl rfl (rfl) (by omega) (by decide) ?_
  refine J.gp ok_La_move 0 (30, [(0, .int (nI l)), (1, .int (nI q)), (2, .int (nI dr)), (3, .ref 35), (4, .ref 36), (5, .int (nI (((nuF B F) ((4 * l) + q)) / 100))), (6, .int (nI (((nuF B F) ((4 * l) + q)) % 100)))], [.int (nI g)], (HP e0 e1 e2 e3 e4 e5 e6 e7 e8 e9 e10 e11 e12 e13 e14 e15 e16 e17 e18 e19 e20 e21 e22 e23 e24 e25 e26 e27 e28 e29 e30 e31 e32 e33 e34 (.inl (0, 9, .inl (dL [nI m, nI p, nI P, nI i, nI s, gn, nI t, nI g, nI w]))) (.inl (0, 12, .inl (fun j => nI ((nuF B F) j))))), kc, kn) rfl ?_
  refine J.gp ok_La_move 4 (34, [(0, .int (nI l)), (1, .int (nI q)), (2, .int (nI dr)), (3, .ref 35), (4, .ref 36), (5, .int (nI (((nuF B F) ((4 * l) + q)) / 100))), (6, .int (nI (((nuF B F) ((4 * l) + q)) % 100)))], [.int ((nI g >>> (nI l &&& 31)) &&& 1)], _, _, _) rfl ?_
  rw [show ((nI g >>> (nI l &&& 31)) &&& 1) = nI (bitN g l) from bitE (by omega) (by omega)]
  refine J.ifB ok_La_move (fun x => ¬ x = 0) 39 37 rfl (fun (h0 : ¬ nI (bitN g l) = 0) => ?_) (fun (h0 : ¬ (¬ nI (bitN g l) = 0)) => ?_)
  · have c34 : ¬ (bitN g l) = 0 := fun h9 => h0 ((nI_eq (a := (bitN g l)) (b := 0) (by omega) (by omega)).mpr h9)
    refine J.gp ok_La_move 2 (42, [(0, .int (nI l)), (1, .int (nI q)), (2, .int (nI dr)), (3, .ref 35), (4, .ref 36), (5, .int (nI (((nuF B F) ((4 * l) + q)) / 100))), (6, .int (nI (((nuF B F) ((4 * l) + q)) % 100)))], [.int (nI (((nuF B F) ((4 * l) + q)) / 100)), .int (nI dr)], _, _, _) rfl ?_
    refine J.icB ok_La_move (fun x y => y ≤ x) 65 45 rfl (fun (h0 : nI (((nuF B F) ((4 * l) + q)) / 100) ≤ nI dr) => ?_) (fun (h0 : ¬ (nI (((nuF B F) ((4 * l) + q)) / 100) ≤ nI dr)) => ?_)
    · have c42 : (((nuF B F) ((4 * l) + q)) / 100) ≤ dr := (nI_leI (a := ((nuF B F) ((4 * l) + q)) / 100) (b := dr) (by omega) (by omega)).mp h0
      refine J.gp ok_La_move 4 (71, [(0, .int (nI l)), (1, .int (nI q)), (2, .int (nI dr)), (3, .ref 35), (4, .ref 36), (5, .int (nI (((nuF B F) ((4 * l) + q)) / 100))), (6, .int (nI (((nuF B F) ((4 * l) + q)) % 100)))], [.int (9 - nI (((nuF B F) ((4 * l) + q)) % 100)), .int (nI dr)], _, _, _) rfl ?_
      refine J.icB ok_La_move (fun x y => x ≤ y) 78 74 rfl (fun (c71 : nI dr ≤ (9 - nI (((nuF B F) ((4 * l) + q)) % 100))) => ?_) (fun (c71 : ¬ (nI dr ≤ (9 - nI (((nuF B F) ((4 * l) + q)) % 100)))) => ?_)
      · refine J.gp ok_La_move 1 (79, [(0, .int (nI l)), (1, .int (nI q)), (2, .int (nI dr)), (3, .ref 35), (4, .ref 36), (5, .int (nI (((nuF B F) ((4 * l) + q)) / 100))), (6, .int (nI (((nuF B F) ((4 * l) + q)) % 100)))], [.int 0], _, _, _) rfl ?_
        refine JR.iret .int (by decide +kernel) rfl (rfl) ?_
        exact K1 c34 c42 c71
      · refine J.gp ok_La_move 2 (79, [(0, .int (nI l)), (1, .int (nI q)), (2, .int (nI dr)), (3, .ref 35), (4, .ref 36), (5, .int (nI (((nuF B F) ((4 * l) + q)) / 100))), (6, .int (nI (((nuF B F) ((4 * l) + q)) % 100)))], [.int 1], _, _, _) rfl ?_
        refine JR.iret .int (by decide +kernel) rfl (rfl) ?_
        exact K2 c34 c42 c71
    · have c42 : dr < (((nuF B F) ((4 * l) + q)) / 100) := Nat.not_le.mp (fun h9 => h0 ((nI_leI (a := ((nuF B F) ((4 * l) + q)) / 100) (b := dr) (by omega) (by omega)).mpr h9))
      refine J.gp ok_La_move 2 (48, [(0, .int (nI l)), (1, .int (nI q)), (2, .int (nI dr)), (3, .ref 35), (4, .ref 36), (5, .int (nI (((nuF B F) ((4 * l) + q)) / 100))), (6, .int (nI (((nuF B F) ((4 * l) + q)) % 100)))], [.int 8, .ref 35], _, _, _) rfl ?_
      refine J.ialdB ok_La_move 49 8 rfl rfl (rfl) (by omega) (by decide) ?_
      refine J.gp ok_La_move 0 (49, [(0, .int (nI l)), (1, .int (nI q)), (2, .int (nI dr)), (3, .ref 35), (4, .ref 36), (5, .int (nI (((nuF B F) ((4 * l) + q)) / 100))), (6, .int (nI (((nuF B F) ((4 * l) + q)) % 100)))], [.int (nI w)], (HP e0 e1 e2 e3 e4 e5 e6 e7 e8 e9 e10 e11 e12 e13 e14 e15 e16 e17 e18 e19 e20 e21 e22 e23 e24 e25 e26 e27 e28 e29 e30 e31 e32 e33 e34 (.inl (0, 9, .inl (dL [nI m, nI p, nI P, nI i, nI s, gn, nI t, nI g, nI w]))) (.inl (0, 12, .inl (fun j => nI ((nuF B F) j))))), kc, kn) rfl ?_
      refine J.gp ok_La_move 4 (53, [(0, .int (nI l)), (1, .int (nI q)), (2, .int (nI dr)), (3, .ref 35), (4, .ref 36), (5, .int (nI (((nuF B F) ((4 * l) + q)) / 100))), (6, .int (nI (((nuF B F) ((4 * l) + q)) % 100)))], [.int ((nI w >>> (nI q &&& 31)) &&& 1)], _, _, _) rfl ?_
      rw [show ((nI w >>> (nI q &&& 31)) &&& 1) = nI (bitN w q) from bitE (by omega) (by omega)]
      refine J.gp ok_La_move 1 (54, [(0, .int (nI l)), (1, .int (nI q)), (2, .int (nI dr)), (3, .ref 35), (4, .ref 36), (5, .int (nI (((nuF B F) ((4 * l) + q)) / 100))), (6, .int (nI (((nuF B F) ((4 * l) + q)) % 100)))], [.int 1, .int (nI (bitN w q))], _, _, _) rfl ?_
      refine J.icB ok_La_move (fun x y => ¬ x = y) 61 57 rfl (fun (h0 : ¬ nI (bitN w q) = 1) => ?_) (fun (h0 : ¬ (¬ nI (bitN w q) = 1)) => ?_)
      · have c54 : ¬ (bitN w q) = 1 := fun h9 => h0 ((nI_eq (a := (bitN w q)) (b := 1) (by omega) (by omega)).mpr h9)
        refine J.gp ok_La_move 2 (79, [(0, .int (nI l)), (1, .int (nI q)), (2, .int (nI dr)), (3, .ref 35), (4, .ref 36), (5, .int (nI (((nuF B F) ((4 * l) + q)) / 100))), (6, .int (nI (((nuF B F) ((4 * l) + q)) % 100)))], [.int (-1)], _, _, _) rfl ?_
        refine JR.iret .int (by decide +kernel) rfl (rfl) ?_
        exact K3 c34 c42 c54
      · have c54 : (bitN w q) = 1 := (nI_eq (a := (bitN w q)) (b := 1) (by omega) (by omega)).mp (Classical.byContradiction h0)
        refine J.gp ok_La_move 2 (79, [(0, .int (nI l)), (1, .int (nI q)), (2, .int (nI dr)), (3, .ref 35), (4, .ref 36), (5, .int (nI (((nuF B F) ((4 * l) + q)) / 100))), (6, .int (nI (((nuF B F) ((4 * l) + q)) % 100)))], [.int 0], _, _, _) rfl ?_
        refine JR.iret .int (by decide +kernel) rfl (rfl) ?_
        exact K4 c34 c42 c54
  · have c34 : (bitN g l) = 0 := (nI_eq (a := (bitN g l)) (b := 0) (by omega) (by omega)).mp (Classical.byContradiction h0)
    refine J.gp ok_La_move 1 (38, [(0, .int (nI l)), (1, .int (nI q)), (2, .int (nI dr)), (3, .ref 35), (4, .ref 36), (5, .int (nI (((nuF B F) ((4 * l) + q)) / 100))), (6, .int (nI (((nuF B F) ((4 * l) + q)) % 100)))], [.int 0], _, _, _) rfl ?_
    refine JR.iret .int (by decide +kernel) rfl (rfl) ?_
    exact K5 c34

theorem c_La_move_A {e0 e1 e2 e3 e4 e5 e6 e7 e8 e9 e10 e11 e12 e13 e14 e15 e16 e17 e18 e19 e20 e21 e22 e23 e24 e25 e26 e27 e28 e29 e30 e31 e32 e33 e34 : va_E} {m p P i s t g w : Nat} {gn : Int32} {B F : Nat → Nat} {l dr q : Nat} (hm : 0 < m ∧ m ≤ 4) (hg : g < 8) (hw : w < 16) (hBF : ∀ j, B j + F j ≤ 10) (hl : l < 3) (hq : q < m) (hdr : dr < 10) : JE M_La_move [.int (nI l), .int (nI q), .int (nI dr), .ref 35, .ref 36] (HP e0 e1 e2 e3 e4 e5 e6 e7 e8 e9 e10 e11 e12 e13 e14 e15 e16 e17 e18 e19 e20 e21 e22 e23 e24 e25 e26 e27 e28 e29 e30 e31 e32 e33 e34 (.inl (0, 9, .inl (dL [nI m, nI p, nI P, nI i, nI s, gn, nI t, nI g, nI w]))) (.inl (0, 12, .inl (fun j => nI ((nuF B F) j))))) (some (.int (mvD g w B F l q dr))) (HP e0 e1 e2 e3 e4 e5 e6 e7 e8 e9 e10 e11 e12 e13 e14 e15 e16 e17 e18 e19 e20 e21 e22 e23 e24 e25 e26 e27 e28 e29 e30 e31 e32 e33 e34 (.inl (0, 9, .inl (dL [nI m, nI p, nI P, nI i, nI s, gn, nI t, nI g, nI w]))) (.inl (0, 12, .inl (fun j => nI ((nuF B F) j))))) := by
  have e4 : 4 * l + q = l * 4 + q := by omega
  have hB : nuF B F (4 * l + q) / 100 = B (l * 4 + q) := by rw [e4]; exact nuF_b hBF _
  have hF : nuF B F (4 * l + q) % 100 = F (l * 4 + q) := by rw [e4]; exact nuF_f hBF _
  have hs := hBF (l * 4 + q)
  have h3 : ∀ x : Nat, (nI dr ≤ (9 - nI (nuF B F (4 * l + q) % 100)) ↔ dr + F (l * 4 + q) < 10) := fun _ => by rw [hF]; exact nine_f _ (by omega) dr hdr
  refine JM.of (by decide +kernel) rfl (Nat.le_of_ble_eq_true rfl) (g_La_move_A hm hg hw hBF hl hq hdr (nuF_le hBF _) (bitN_lt _ _) (bitN_lt _ _) (fun c1 c2 c3 => ⟨?_, rfl⟩) (fun c1 c2 c3 => ⟨?_, rfl⟩) (fun c1 c2 c3 => ⟨?_, rfl⟩) (fun c1 c2 c3 => ⟨?_, rfl⟩) (fun c1 => ⟨?_, rfl⟩))
  · have c4 := (h3 0).mp c3
    rw [mv_in c1 hBF, if_neg (by omega), if_neg (by omega)]
  · have c4 : ¬ dr + F (l * 4 + q) < 10 := fun c => c3 ((h3 0).mpr c)
    rw [mv_in c1 hBF, if_neg (by omega), if_pos (by omega)]
  · rw [mv_in c1 hBF, if_pos (by omega), if_neg c3]
  · rw [mv_in c1 hBF, if_pos (by omega), if_pos c3]
  · rw [mv_out c1, if_neg (by omega)]

set_option maxRecDepth 100000 in
set_option maxHeartbeats 400000 in
theorem g_La_move_B {sc : aScr} {e0 e1 e2 e3 e4 e5 e6 e7 e8 e9 e10 e11 e12 e13 e14 e15 e16 e17 e18 e19 e20 e21 e22 e23 e24 e25 e26 e27 e28 e29 e30 e31 e32 e33 e34 e35 e38 : va_E} {m p P i s t g w : Nat} {gn : Int32} {B F : Nat → Nat} {l dr q : Nat} {kc kn : Nat} {O : Option Value → aH → Prop} (hm : 0 < m ∧ m ≤ 4) (hg : g < 8) (hw : w < 16) (hBF : ∀ j, B j + F j ≤ 10) (hl : l < 3) (hq : q < m) (hdr : dr < 10) (hn : nuF B F (4 * l + q) ≤ 1010) (hb : bitN w q < 2) (hb2 : bitN g l < 2) (K1 : (¬ (bitN g l) = 0) → ((((nuF B F) ((4 * l) + q)) / 100) ≤ dr) → (nI dr ≤ (9 - nI (((nuF B F) ((4 * l) + q)) % 100))) → O (some (.int 0)) (HQ e0 e1 e2 e3 e4 e5 e6 e7 e8 e9 e10 e11 e12 e13 e14 e15 e16 e17 e18 e19 e20 e21 e22 e23 e24 e25 e26 e27 e28 e29 e30 e31 e32 e33 e34 e35 (.inl (0, 12, .inl (fun j => nI ((nuF B F) j)))) (.inl (0, 9, .inl (dL [nI m, nI p, nI P, nI i, nI s, gn, nI t, nI g, nI w]))) e38)) (K2 : (¬ (bitN g l) = 0) → ((((nuF B F) ((4 * l) + q)) / 100) ≤ dr) → (¬ (nI dr ≤ (9 - nI (((nuF B F) ((4 * l) + q)) % 100)))) → O (some (.int 1)) (HQ e0 e1 e2 e3 e4 e5 e6 e7 e8 e9 e10 e11 e12 e13 e14 e15 e16 e17 e18 e19 e20 e21 e22 e23 e24 e25 e26 e27 e28 e29 e30 e31 e32 e33 e34 e35 (.inl (0, 12, .inl (fun j => nI ((nuF B F) j)))) (.inl (0, 9, .inl (dL [nI m, nI p, nI P, nI i, nI s, gn, nI t, nI g, nI w]))) e38)) (K3 : (¬ (bitN g l) = 0) → (dr < (((nuF B F) ((4 * l) + q)) / 100)) → (¬ (bitN w q) = 1) → O (some (.int (-1))) (HQ e0 e1 e2 e3 e4 e5 e6 e7 e8 e9 e10 e11 e12 e13 e14 e15 e16 e17 e18 e19 e20 e21 e22 e23 e24 e25 e26 e27 e28 e29 e30 e31 e32 e33 e34 e35 (.inl (0, 12, .inl (fun j => nI ((nuF B F) j)))) (.inl (0, 9, .inl (dL [nI m, nI p, nI P, nI i, nI s, gn, nI t, nI g, nI w]))) e38)) (K4 : (¬ (bitN g l) = 0) → (dr < (((nuF B F) ((4 * l) + q)) / 100)) → ((bitN w q) = 1) → O (some (.int 0)) (HQ e0 e1 e2 e3 e4 e5 e6 e7 e8 e9 e10 e11 e12 e13 e14 e15 e16 e17 e18 e19 e20 e21 e22 e23 e24 e25 e26 e27 e28 e29 e30 e31 e32 e33 e34 e35 (.inl (0, 12, .inl (fun j => nI ((nuF B F) j)))) (.inl (0, 9, .inl (dL [nI m, nI p, nI P, nI i, nI s, gn, nI t, nI g, nI w]))) e38)) (K5 : ((bitN g l) = 0) → O (some (.int 0)) (HQ e0 e1 e2 e3 e4 e5 e6 e7 e8 e9 e10 e11 e12 e13 e14 e15 e16 e17 e18 e19 e20 e21 e22 e23 e24 e25 e26 e27 e28 e29 e30 e31 e32 e33 e34 e35 (.inl (0, 12, .inl (fun j => nI ((nuF B F) j)))) (.inl (0, 9, .inl (dL [nI m, nI p, nI P, nI i, nI s, gn, nI t, nI g, nI w]))) e38)) : JR M_La_move sc (0, [(0, .int (nI l)), (1, .int (nI q)), (2, .int (nI dr)), (3, .ref 37), (4, .ref 36)], [], (HQ e0 e1 e2 e3 e4 e5 e6 e7 e8 e9 e10 e11 e12 e13 e14 e15 e16 e17 e18 e19 e20 e21 e22 e23 e24 e25 e26 e27 e28 e29 e30 e31 e32 e33 e34 e35 (.inl (0, 12, .inl (fun j => nI ((nuF B F) j)))) (.inl (0, 9, .inl (dL [nI m, nI p, nI P, nI i, nI s, gn, nI t, nI g, nI w]))) e38), kc, kn) O := by
  refine J.gp ok_La_move 4 (5, [(0, .int (nI l)), (1, .int (nI q)), (2, .int (nI dr)), (3, .ref 37), (4, .ref 36)], [.int (4 * nI l), .ref 36], _, _, _) rfl ?_
  rw [show ((4 * nI l) : Int32) = nI (4 * l) from pk_mul 4 l]
  refine J.gp ok_La_move 2 (7, [(0, .int (nI l)), (1, .int (nI q)), (2, .int (nI dr)), (3, .ref 37), (4, .ref 36)], [.int (nI (4 * l) + nI q), .ref 36], _, _, _) rfl ?_
  rw [show ((nI (4 * l) + nI q) : Int32) = nI ((4 * l) + q) from nI_add (4 * l) q]
  refine J.ialdB ok_La_move 8 ((4 * l) + q) rfl rfl (rfl) (by omega) (by decide) ?_
  refine J.gp ok_La_move 0 (8, [(0, .int (nI l)), (1, .int (nI q)), (2, .int (nI dr)), (3, .ref 37), (4, .ref 36)], [.int (nI ((nuF B F) ((4 * l) + q)))], (HQ e0 e1 e2 e3 e4 e5 e6 e7 e8 e9 e10 e11 e12 e13 e14 e15 e16 e17 e18 e19 e20 e21 e22 e23 e24 e25 e26 e27 e28 e29 e30 e31 e32 e33 e34 e35 (.inl (0, 12, .inl (fun j => nI ((nuF B F) j)))) (.inl (0, 9, .inl (dL [nI m, nI p, nI P, nI i, nI s, gn, nI t, nI g, nI w]))) e38), kc, kn) rfl ?_
  refine J.gp ok_La_move 1 (10, [(0, .int (nI l)), (1, .int (nI q)), (2, .int (nI dr)), (3, .ref 37), (4, .ref 36)], [.int 100, .int (nI ((nuF B F) ((4 * l) + q)))], _, _, _) rfl ?_
  refine J.idivB ok_La_move 11 rfl (by decide) ?_
  rw [show ((nI ((nuF B F) ((4 * l) + q)) / 100) : Int32) = nI (((nuF B F) ((4 * l) + q)) / 100) from pk_div (a := (nuF B F) ((4 * l) + q)) (d := 100) (by omega) (by omega) (by omega)]
  refine J.gp ok_La_move 5 (18, [(0, .int (nI l)), (1, .int (nI q)), (2, .int (nI dr)), (3, .ref 37), (4, .ref 36), (5, .int (nI (((nuF B F) ((4 * l) + q)) / 100)))], [.int (4 * nI l), .ref 36], _, _, _) rfl ?_
  rw [show ((4 * nI l) : Int32) = nI (4 * l) from pk_mul 4 l]
  refine J.gp ok_La_move 2 (20, [(0, .int (nI l)), (1, .int (nI q)), (2, .int (nI dr)), (3, .ref 37), (4, .ref 36), (5, .int (nI (((nuF B F) ((4 * l) + q)) / 100)))], [.int (nI (4 * l) + nI q), .ref 36], _, _, _) rfl ?_
  rw [show ((nI (4 * l) + nI q) : Int32) = nI ((4 * l) + q) from nI_add (4 * l) q]
  refine J.ialdB ok_La_move 21 ((4 * l) + q) rfl rfl (rfl) (by omega) (by decide) ?_
  refine J.gp ok_La_move 0 (21, [(0, .int (nI l)), (1, .int (nI q)), (2, .int (nI dr)), (3, .ref 37), (4, .ref 36), (5, .int (nI (((nuF B F) ((4 * l) + q)) / 100)))], [.int (nI ((nuF B F) ((4 * l) + q)))], (HQ e0 e1 e2 e3 e4 e5 e6 e7 e8 e9 e10 e11 e12 e13 e14 e15 e16 e17 e18 e19 e20 e21 e22 e23 e24 e25 e26 e27 e28 e29 e30 e31 e32 e33 e34 e35 (.inl (0, 12, .inl (fun j => nI ((nuF B F) j)))) (.inl (0, 9, .inl (dL [nI m, nI p, nI P, nI i, nI s, gn, nI t, nI g, nI w]))) e38), kc, kn) rfl ?_
  refine J.gp ok_La_move 1 (23, [(0, .int (nI l)), (1, .int (nI q)), (2, .int (nI dr)), (3, .ref 37), (4, .ref 36), (5, .int (nI (((nuF B F) ((4 * l) + q)) / 100)))], [.int 100, .int (nI ((nuF B F) ((4 * l) + q)))], _, _, _) rfl ?_
  refine J.iremB ok_La_move 24 rfl (by decide) ?_
  rw [show ((nI ((nuF B F) ((4 * l) + q)) - nI ((nuF B F) ((4 * l) + q)) / 100 * 100) : Int32) = nI (((nuF B F) ((4 * l) + q)) % 100) from pk_rem (a := (nuF B F) ((4 * l) + q)) (d := 100) (by omega) (by omega) (by omega)]
  refine J.gp ok_La_move 3 (29, [(0, .int (nI l)), (1, .int (nI q)), (2, .int (nI dr)), (3, .ref 37), (4, .ref 36), (5, .int (nI (((nuF B F) ((4 * l) + q)) / 100))), (6, .int (nI (((nuF B F) ((4 * l) + q)) % 100)))], [.int 7, .ref 37], _, _, _) rfl ?_
  refine J.ialdB ok_La_move 30 7 rfl rfl (rfl) (by omega) (by decide) ?_
  refine J.gp ok_La_move 0 (30, [(0, .int (nI l)), (1, .int (nI q)), (2, .int (nI dr)), (3, .ref 37), (4, .ref 36), (5, .int (nI (((nuF B F) ((4 * l) + q)) / 100))), (6, .int (nI (((nuF B F) ((4 * l) + q)) % 100)))], [.int (nI g)], (HQ e0 e1 e2 e3 e4 e5 e6 e7 e8 e9 e10 e11 e12 e13 e14 e15 e16 e17 e18 e19 e20 e21 e22 e23 e24 e25 e26 e27 e28 e29 e30 e31 e32 e33 e34 e35 (.inl (0, 12, .inl (fun j => nI ((nuF B F) j)))) (.inl (0, 9, .inl (dL [nI m, nI p, nI P, nI i, nI s, gn, nI t, nI g, nI w]))) e38), kc, kn) rfl ?_
  refine J.gp ok_La_move 4 (34, [(0, .int (nI l)), (1, .int (nI q)), (2, .int (nI dr)), (3, .ref 37), (4, .ref 36), (5, .int (nI (((nuF B F) ((4 * l) + q)) / 100))), (6, .int (nI (((nuF B F) ((4 * l) + q)) % 100)))], [.int ((nI g >>> (nI l &&& 31)) &&& 1)], _, _, _) rfl ?_
  rw [show ((nI g >>> (nI l &&& 31)) &&& 1) = nI (bitN g l) from bitE (by omega) (by omega)]
  refine J.ifB ok_La_move (fun x => ¬ x = 0) 39 37 rfl (fun (h0 : ¬ nI (bitN g l) = 0) => ?_) (fun (h0 : ¬ (¬ nI (bitN g l) = 0)) => ?_)
  · have c34 : ¬ (bitN g l) = 0 := fun h9 => h0 ((nI_eq (a := (bitN g l)) (b := 0) (by omega) (by omega)).mpr h9)
    refine J.gp ok_La_move 2 (42, [(0, .int (nI l)), (1, .int (nI q)), (2, .int (nI dr)), (3, .ref 37), (4, .ref 36), (5, .int (nI (((nuF B F) ((4 * l) + q)) / 100))), (6, .int (nI (((nuF B F) ((4 * l) + q)) % 100)))], [.int (nI (((nuF B F) ((4 * l) + q)) / 100)), .int (nI dr)], _, _, _) rfl ?_
    refine J.icB ok_La_move (fun x y => y ≤ x) 65 45 rfl (fun (h0 : nI (((nuF B F) ((4 * l) + q)) / 100) ≤ nI dr) => ?_) (fun (h0 : ¬ (nI (((nuF B F) ((4 * l) + q)) / 100) ≤ nI dr)) => ?_)
    · have c42 : (((nuF B F) ((4 * l) + q)) / 100) ≤ dr := (nI_leI (a := ((nuF B F) ((4 * l) + q)) / 100) (b := dr) (by omega) (by omega)).mp h0
      refine J.gp ok_La_move 4 (71, [(0, .int (nI l)), (1, .int (nI q)), (2, .int (nI dr)), (3, .ref 37), (4, .ref 36), (5, .int (nI (((nuF B F) ((4 * l) + q)) / 100))), (6, .int (nI (((nuF B F) ((4 * l) + q)) % 100)))], [.int (9 - nI (((nuF B F) ((4 * l) + q)) % 100)), .int (nI dr)], _, _, _) rfl ?_
      refine J.icB ok_La_move (fun x y => x ≤ y) 78 74 rfl (fun (c71 : nI dr ≤ (9 - nI (((nuF B F) ((4 * l) + q)) % 100))) => ?_) (fun (c71 : ¬ (nI dr ≤ (9 - nI (((nuF B F) ((4 * l) + q)) % 100)))) => ?_)
      · refine J.gp ok_La_move 1 (79, [(0, .int (nI l)), (1, .int (nI q)), (2, .int (nI dr)), (3, .ref 37), (4, .ref 36), (5, .int (nI (((nuF B F) ((4 * l) + q)) / 100))), (6, .int (nI (((nuF B F) ((4 * l) + q)) % 100)))], [.int 0], _, _, _) rfl ?_
        refine JR.iret .int (by decide +kernel) rfl (rfl) ?_
        exact K1 c34 c42 c71
      · refine J.gp ok_La_move 2 (79, [(0, .int (nI l)), (1, .int (nI q)), (2, .int (nI dr)), (3, .ref 37), (4, .ref 36), (5, .int (nI (((nuF B F) ((4 * l) + q)) / 100))), (6, .int (nI (((nuF B F) ((4 * l) + q)) % 100)))], [.int 1], _, _, _) rfl ?_
        refine JR.iret .int (by decide +kernel) rfl (rfl) ?_
        exact K2 c34 c42 c71
    · have c42 : dr < (((nuF B F) ((4 * l) + q)) / 100) := Nat.not_le.mp (fun h9 => h0 ((nI_leI (a := ((nuF B F) ((4 * l) + q)) / 100) (b := dr) (by omega) (by omega)).mpr h9))
      refine J.gp ok_La_move 2 (48, [(0, .int (nI l)), (1, .int (nI q)), (2, .int (nI dr)), (3, .ref 37), (4, .ref 36), (5, .int (nI (((nuF B F) ((4 * l) + q)) / 100))), (6, .int (nI (((nuF B F) ((4 * l) + q)) % 100)))], [.int 8, .ref 37], _, _, _) rfl ?_
      refine J.ialdB ok_La_move 49 8 rfl rfl (rfl) (by omega) (by decide) ?_
      refine J.gp ok_La_move 0 (49, [(0, .int (nI l)), (1, .int (nI q)), (2, .int (nI dr)), (3, .ref 37), (4, .ref 36), (5, .int (nI (((nuF B F) ((4 * l) + q)) / 100))), (6, .int (nI (((nuF B F) ((4 * l) + q)) % 100)))], [.int (nI w)], (HQ e0 e1 e2 e3 e4 e5 e6 e7 e8 e9 e10 e11 e12 e13 e14 e15 e16 e17 e18 e19 e20 e21 e22 e23 e24 e25 e26 e27 e28 e29 e30 e31 e32 e33 e34 e35 (.inl (0, 12, .inl (fun j => nI ((nuF B F) j)))) (.inl (0, 9, .inl (dL [nI m, nI p, nI P, nI i, nI s, gn, nI t, nI g, nI w]))) e38), kc, kn) rfl ?_
      refine J.gp ok_La_move 4 (53, [(0, .int (nI l)), (1, .int (nI q)), (2, .int (nI dr)), (3, .ref 37), (4, .ref 36), (5, .int (nI (((nuF B F) ((4 * l) + q)) / 100))), (6, .int (nI (((nuF B F) ((4 * l) + q)) % 100)))], [.int ((nI w >>> (nI q &&& 31)) &&& 1)], _, _, _) rfl ?_
      rw [show ((nI w >>> (nI q &&& 31)) &&& 1) = nI (bitN w q) from bitE (by omega) (by omega)]
      refine J.gp ok_La_move 1 (54, [(0, .int (nI l)), (1, .int (nI q)), (2, .int (nI dr)), (3, .ref 37), (4, .ref 36), (5, .int (nI (((nuF B F) ((4 * l) + q)) / 100))), (6, .int (nI (((nuF B F) ((4 * l) + q)) % 100)))], [.int 1, .int (nI (bitN w q))], _, _, _) rfl ?_
      refine J.icB ok_La_move (fun x y => ¬ x = y) 61 57 rfl (fun (h0 : ¬ nI (bitN w q) = 1) => ?_) (fun (h0 : ¬ (¬ nI (bitN w q) = 1)) => ?_)
      · have c54 : ¬ (bitN w q) = 1 := fun h9 => h0 ((nI_eq (a := (bitN w q)) (b := 1) (by omega) (by omega)).mpr h9)
        refine J.gp ok_La_move 2 (79, [(0, .int (nI l)), (1, .int (nI q)), (2, .int (nI dr)), (3, .ref 37), (4, .ref 36), (5, .int (nI (((nuF B F) ((4 * l) + q)) / 100))), (6, .int (nI (((nuF B F) ((4 * l) + q)) % 100)))], [.int (-1)], _, _, _) rfl ?_
        refine JR.iret .int (by decide +kernel) rfl (rfl) ?_
        exact K3 c34 c42 c54
      · have c54 : (bitN w q) = 1 := (nI_eq (a := (bitN w q)) (b := 1) (by omega) (by omega)).mp (Classical.byContradiction h0)
        refine J.gp ok_La_move 2 (79, [(0, .int (nI l)), (1, .int (nI q)), (2, .int (nI dr)), (3, .ref 37), (4, .ref 36), (5, .int (nI (((nuF B F) ((4 * l) + q)) / 100))), (6, .int (nI (((nuF B F) ((4 * l) + q)) % 100)))], [.int 0], _, _, _) rfl ?_
        refine JR.iret .int (by decide +kernel) rfl (rfl) ?_
        exact K4 c34 c42 c54
  · have c34 : (bitN g l) = 0 := (nI_eq (a := (bitN g l)) (b := 0) (by omega) (by omega)).mp (Classical.byContradiction h0)
    refine J.gp ok_La_move 1 (38, [(0, .int (nI l)), (1, .int (nI q)), (2, .int (nI dr)), (3, .ref 37), (4, .ref 36), (5, .int (nI (((nuF B F) ((4 * l) + q)) / 100))), (6, .int (nI (((nuF B F) ((4 * l) + q)) % 100)))], [.int 0], _, _, _) rfl ?_
    refine JR.iret .int (by decide +kernel) rfl (rfl) ?_
    exact K5 c34

theorem c_La_move_B {e0 e1 e2 e3 e4 e5 e6 e7 e8 e9 e10 e11 e12 e13 e14 e15 e16 e17 e18 e19 e20 e21 e22 e23 e24 e25 e26 e27 e28 e29 e30 e31 e32 e33 e34 e35 e38 : va_E} {m p P i s t g w : Nat} {gn : Int32} {B F : Nat → Nat} {l dr q : Nat} (hm : 0 < m ∧ m ≤ 4) (hg : g < 8) (hw : w < 16) (hBF : ∀ j, B j + F j ≤ 10) (hl : l < 3) (hq : q < m) (hdr : dr < 10) : JE M_La_move [.int (nI l), .int (nI q), .int (nI dr), .ref 37, .ref 36] (HQ e0 e1 e2 e3 e4 e5 e6 e7 e8 e9 e10 e11 e12 e13 e14 e15 e16 e17 e18 e19 e20 e21 e22 e23 e24 e25 e26 e27 e28 e29 e30 e31 e32 e33 e34 e35 (.inl (0, 12, .inl (fun j => nI ((nuF B F) j)))) (.inl (0, 9, .inl (dL [nI m, nI p, nI P, nI i, nI s, gn, nI t, nI g, nI w]))) e38) (some (.int (mvD g w B F l q dr))) (HQ e0 e1 e2 e3 e4 e5 e6 e7 e8 e9 e10 e11 e12 e13 e14 e15 e16 e17 e18 e19 e20 e21 e22 e23 e24 e25 e26 e27 e28 e29 e30 e31 e32 e33 e34 e35 (.inl (0, 12, .inl (fun j => nI ((nuF B F) j)))) (.inl (0, 9, .inl (dL [nI m, nI p, nI P, nI i, nI s, gn, nI t, nI g, nI w]))) e38) := by
  have e4 : 4 * l + q = l * 4 + q := by omega
  have hB : nuF B F (4 * l + q) / 100 = B (l * 4 + q) := by rw [e4]; exact nuF_b hBF _
  have hF : nuF B F (4 * l + q) % 100 = F (l * 4 + q) := by rw [e4]; exact nuF_f hBF _
  have hs := hBF (l * 4 + q)
  have h3 : ∀ x : Nat, (nI dr ≤ (9 - nI (nuF B F (4 * l + q) % 100)) ↔ dr + F (l * 4 + q) < 10) := fun _ => by rw [hF]; exact nine_f _ (by omega) dr hdr
  refine JM.of (by decide +kernel) rfl (Nat.le_of_ble_eq_true rfl) (g_La_move_B hm hg hw hBF hl hq hdr (nuF_le hBF _) (bitN_lt _ _) (bitN_lt _ _) (fun c1 c2 c3 => ⟨?_, rfl⟩) (fun c1 c2 c3 => ⟨?_, rfl⟩) (fun c1 c2 c3 => ⟨?_, rfl⟩) (fun c1 c2 c3 => ⟨?_, rfl⟩) (fun c1 => ⟨?_, rfl⟩))
  · have c4 := (h3 0).mp c3
    rw [mv_in c1 hBF, if_neg (by omega), if_neg (by omega)]
  · have c4 : ¬ dr + F (l * 4 + q) < 10 := fun c => c3 ((h3 0).mpr c)
    rw [mv_in c1 hBF, if_neg (by omega), if_pos (by omega)]
  · rw [mv_in c1 hBF, if_pos (by omega), if_neg c3]
  · rw [mv_in c1 hBF, if_pos (by omega), if_pos c3]
  · rw [mv_out c1, if_neg (by omega)]

set_option maxRecDepth 100000 in
set_option maxHeartbeats 400000 in
theorem g_La_move_C {sc : aScr} {e0 e1 e2 e3 e4 e5 e6 e7 e8 e9 e10 e11 e12 e13 e14 e15 e16 e17 e18 e19 e20 e21 e22 e23 e24 e25 e26 e27 e28 e29 e30 e31 e32 e33 e34 e35 e37 : va_E} {m p P i s t g w : Nat} {gn : Int32} {B F : Nat → Nat} {l dr q : Nat} {kc kn : Nat} {O : Option Value → aH → Prop} (hm : 0 < m ∧ m ≤ 4) (hg : g < 8) (hw : w < 16) (hBF : ∀ j, B j + F j ≤ 10) (hl : l < 3) (hq : q < m) (hdr : dr < 10) (hn : nuF B F (4 * l + q) ≤ 1010) (hb : bitN w q < 2) (hb2 : bitN g l < 2) (K1 : (¬ (bitN g l) = 0) → ((((nuF B F) ((4 * l) + q)) / 100) ≤ dr) → (nI dr ≤ (9 - nI (((nuF B F) ((4 * l) + q)) % 100))) → O (some (.int 0)) (HQ e0 e1 e2 e3 e4 e5 e6 e7 e8 e9 e10 e11 e12 e13 e14 e15 e16 e17 e18 e19 e20 e21 e22 e23 e24 e25 e26 e27 e28 e29 e30 e31 e32 e33 e34 e35 (.inl (0, 12, .inl (fun j => nI ((nuF B F) j)))) e37 (.inl (0, 9, .inl (dL [nI m, nI p, nI P, nI i, nI s, gn, nI t, nI g, nI w]))))) (K2 : (¬ (bitN g l) = 0) → ((((nuF B F) ((4 * l) + q)) / 100) ≤ dr) → (¬ (nI dr ≤ (9 - nI (((nuF B F) ((4 * l) + q)) % 100)))) → O (some (.int 1)) (HQ e0 e1 e2 e3 e4 e5 e6 e7 e8 e9 e10 e11 e12 e13 e14 e15 e16 e17 e18 e19 e20 e21 e22 e23 e24 e25 e26 e27 e28 e29 e30 e31 e32 e33 e34 e35 (.inl (0, 12, .inl (fun j => nI ((nuF B F) j)))) e37 (.inl (0, 9, .inl (dL [nI m, nI p, nI P, nI i, nI s, gn, nI t, nI g, nI w]))))) (K3 : (¬ (bitN g l) = 0) → (dr < (((nuF B F) ((4 * l) + q)) / 100)) → (¬ (bitN w q) = 1) → O (some (.int (-1))) (HQ e0 e1 e2 e3 e4 e5 e6 e7 e8 e9 e10 e11 e12 e13 e14 e15 e16 e17 e18 e19 e20 e21 e22 e23 e24 e25 e26 e27 e28 e29 e30 e31 e32 e33 e34 e35 (.inl (0, 12, .inl (fun j => nI ((nuF B F) j)))) e37 (.inl (0, 9, .inl (dL [nI m, nI p, nI P, nI i, nI s, gn, nI t, nI g, nI w]))))) (K4 : (¬ (bitN g l) = 0) → (dr < (((nuF B F) ((4 * l) + q)) / 100)) → ((bitN w q) = 1) → O (some (.int 0)) (HQ e0 e1 e2 e3 e4 e5 e6 e7 e8 e9 e10 e11 e12 e13 e14 e15 e16 e17 e18 e19 e20 e21 e22 e23 e24 e25 e26 e27 e28 e29 e30 e31 e32 e33 e34 e35 (.inl (0, 12, .inl (fun j => nI ((nuF B F) j)))) e37 (.inl (0, 9, .inl (dL [nI m, nI p, nI P, nI i, nI s, gn, nI t, nI g, nI w]))))) (K5 : ((bitN g l) = 0) → O (some (.int 0)) (HQ e0 e1 e2 e3 e4 e5 e6 e7 e8 e9 e10 e11 e12 e13 e14 e15 e16 e17 e18 e19 e20 e21 e22 e23 e24 e25 e26 e27 e28 e29 e30 e31 e32 e33 e34 e35 (.inl (0, 12, .inl (fun j => nI ((nuF B F) j)))) e37 (.inl (0, 9, .inl (dL [nI m, nI p, nI P, nI i, nI s, gn, nI t, nI g, nI w]))))) : JR M_La_move sc (0, [(0, .int (nI l)), (1, .int (nI q)), (2, .int (nI dr)), (3, .ref 38), (4, .ref 36)], [], (HQ e0 e1 e2 e3 e4 e5 e6 e7 e8 e9 e10 e11 e12 e13 e14 e15 e16 e17 e18 e19 e20 e21 e22 e23 e24 e25 e26 e27 e28 e29 e30 e31 e32 e33 e34 e35 (.inl (0, 12, .inl (fun j => nI ((nuF B F) j)))) e37 (.inl (0, 9, .inl (dL [nI m, nI p, nI P, nI i, nI s, gn, nI t, nI g, nI w])))), kc, kn) O := by
  refine J.gp ok_La_move 4 (5, [(0, .int (nI l)), (1, .int (nI q)), (2, .int (nI dr)), (3, .ref 38), (4, .ref 36)], [.int (4 * nI l), .ref 36], _, _, _) rfl ?_
  rw [show ((4 * nI l) : Int32) = nI (4 * l) from pk_mul 4 l]
  refine J.gp ok_La_move 2 (7, [(0, .int (nI l)), (1, .int (nI q)), (2, .int (nI dr)), (3, .ref 38), (4, .ref 36)], [.int (nI (4 * l) + nI q), .ref 36], _, _, _) rfl ?_
  rw [show ((nI (4 * l) + nI q) : Int32) = nI ((4 * l) + q) from nI_add (4 * l) q]
  refine J.ialdB ok_La_move 8 ((4 * l) + q) rfl rfl (rfl) (by omega) (by decide) ?_
  refine J.gp ok_La_move 0 (8, [(0, .int (nI l)), (1, .int (nI q)), (2, .int (nI dr)), (3, .ref 38), (4, .ref 36)], [.int (nI ((nuF B F) ((4 * l) + q)))], (HQ e0 e1 e2 e3 e4 e5 e6 e7 e8 e9 e10 e11 e12 e13 e14 e15 e16 e17 e18 e19 e20 e21 e22 e23 e24 e25 e26 e27 e28 e29 e30 e31 e32 e33 e34 e35 (.inl (0, 12, .inl (fun j => nI ((nuF B F) j)))) e37 (.inl (0, 9, .inl (dL [nI m, nI p, nI P, nI i, nI s, gn, nI t, nI g, nI w])))), kc, kn) rfl ?_
  refine J.gp ok_La_move 1 (10, [(0, .int (nI l)), (1, .int (nI q)), (2, .int (nI dr)), (3, .ref 38), (4, .ref 36)], [.int 100, .int (nI ((nuF B F) ((4 * l) + q)))], _, _, _) rfl ?_
  refine J.idivB ok_La_move 11 rfl (by decide) ?_
  rw [show ((nI ((nuF B F) ((4 * l) + q)) / 100) : Int32) = nI (((nuF B F) ((4 * l) + q)) / 100) from pk_div (a := (nuF B F) ((4 * l) + q)) (d := 100) (by omega) (by omega) (by omega)]
  refine J.gp ok_La_move 5 (18, [(0, .int (nI l)), (1, .int (nI q)), (2, .int (nI dr)), (3, .ref 38), (4, .ref 36), (5, .int (nI (((nuF B F) ((4 * l) + q)) / 100)))], [.int (4 * nI l), .ref 36], _, _, _) rfl ?_
  rw [show ((4 * nI l) : Int32) = nI (4 * l) from pk_mul 4 l]
  refine J.gp ok_La_move 2 (20, [(0, .int (nI l)), (1, .int (nI q)), (2, .int (nI dr)), (3, .ref 38), (4, .ref 36), (5, .int (nI (((nuF B F) ((4 * l) + q)) / 100)))], [.int (nI (4 * l) + nI q), .ref 36], _, _, _) rfl ?_
  rw [show ((nI (4 * l) + nI q) : Int32) = nI ((4 * l) + q) from nI_add (4 * l) q]
  refine J.ialdB ok_La_move 21 ((4 * l) + q) rfl rfl (rfl) (by omega) (by decide) ?_
  refine J.gp ok_La_move 0 (21, [(0, .int (nI l)), (1, .int (nI q)), (2, .int (nI dr)), (3, .ref 38), (4, .ref 36), (5, .int (nI (((nuF B F) ((4 * l) + q)) / 100)))], [.int (nI ((nuF B F) ((4 * l) + q)))], (HQ e0 e1 e2 e3 e4 e5 e6 e7 e8 e9 e10 e11 e12 e13 e14 e15 e16 e17 e18 e19 e20 e21 e22 e23 e24 e25 e26 e27 e28 e29 e30 e31 e32 e33 e34 e35 (.inl (0, 12, .inl (fun j => nI ((nuF B F) j)))) e37 (.inl (0, 9, .inl (dL [nI m, nI p, nI P, nI i, nI s, gn, nI t, nI g, nI w])))), kc, kn) rfl ?_
  refine J.gp ok_La_move 1 (23, [(0, .int (nI l)), (1, .int (nI q)), (2, .int (nI dr)), (3, .ref 38), (4, .ref 36), (5, .int (nI (((nuF B F) ((4 * l) + q)) / 100)))], [.int 100, .int (nI ((nuF B F) ((4 * l) + q)))], _, _, _) rfl ?_
  refine J.iremB ok_La_move 24 rfl (by decide) ?_
  rw [show ((nI ((nuF B F) ((4 * l) + q)) - nI ((nuF B F) ((4 * l) + q)) / 100 * 100) : Int32) = nI (((nuF B F) ((4 * l) + q)) % 100) from pk_rem (a := (nuF B F) ((4 * l) + q)) (d := 100) (by omega) (by omega) (by omega)]
  refine J.gp ok_La_move 3 (29, [(0, .int (nI l)), (1, .int (nI q)), (2, .int (nI dr)), (3, .ref 38), (4, .ref 36), (5, .int (nI (((nuF B F) ((4 * l) + q)) / 100))), (6, .int (nI (((nuF B F) ((4 * l) + q)) % 100)))], [.int 7, .ref 38], _, _, _) rfl ?_
  refine J.ialdB ok_La_move 30 7 rfl rfl (rfl) (by omega) (by decide) ?_
  refine J.gp ok_La_move 0 (30, [(0, .int (nI l)), (1, .int (nI q)), (2, .int (nI dr)), (3, .ref 38), (4, .ref 36), (5, .int (nI (((nuF B F) ((4 * l) + q)) / 100))), (6, .int (nI (((nuF B F) ((4 * l) + q)) % 100)))], [.int (nI g)], (HQ e0 e1 e2 e3 e4 e5 e6 e7 e8 e9 e10 e11 e12 e13 e14 e15 e16 e17 e18 e19 e20 e21 e22 e23 e24 e25 e26 e27 e28 e29 e30 e31 e32 e33 e34 e35 (.inl (0, 12, .inl (fun j => nI ((nuF B F) j)))) e37 (.inl (0, 9, .inl (dL [nI m, nI p, nI P, nI i, nI s, gn, nI t, nI g, nI w])))), kc, kn) rfl ?_
  refine J.gp ok_La_move 4 (34, [(0, .int (nI l)), (1, .int (nI q)), (2, .int (nI dr)), (3, .ref 38), (4, .ref 36), (5, .int (nI (((nuF B F) ((4 * l) + q)) / 100))), (6, .int (nI (((nuF B F) ((4 * l) + q)) % 100)))], [.int ((nI g >>> (nI l &&& 31)) &&& 1)], _, _, _) rfl ?_
  rw [show ((nI g >>> (nI l &&& 31)) &&& 1) = nI (bitN g l) from bitE (by omega) (by omega)]
  refine J.ifB ok_La_move (fun x => ¬ x = 0) 39 37 rfl (fun (h0 : ¬ nI (bitN g l) = 0) => ?_) (fun (h0 : ¬ (¬ nI (bitN g l) = 0)) => ?_)
  · have c34 : ¬ (bitN g l) = 0 := fun h9 => h0 ((nI_eq (a := (bitN g l)) (b := 0) (by omega) (by omega)).mpr h9)
    refine J.gp ok_La_move 2 (42, [(0, .int (nI l)), (1, .int (nI q)), (2, .int (nI dr)), (3, .ref 38), (4, .ref 36), (5, .int (nI (((nuF B F) ((4 * l) + q)) / 100))), (6, .int (nI (((nuF B F) ((4 * l) + q)) % 100)))], [.int (nI (((nuF B F) ((4 * l) + q)) / 100)), .int (nI dr)], _, _, _) rfl ?_
    refine J.icB ok_La_move (fun x y => y ≤ x) 65 45 rfl (fun (h0 : nI (((nuF B F) ((4 * l) + q)) / 100) ≤ nI dr) => ?_) (fun (h0 : ¬ (nI (((nuF B F) ((4 * l) + q)) / 100) ≤ nI dr)) => ?_)
    · have c42 : (((nuF B F) ((4 * l) + q)) / 100) ≤ dr := (nI_leI (a := ((nuF B F) ((4 * l) + q)) / 100) (b := dr) (by omega) (by omega)).mp h0
      refine J.gp ok_La_move 4 (71, [(0, .int (nI l)), (1, .int (nI q)), (2, .int (nI dr)), (3, .ref 38), (4, .ref 36), (5, .int (nI (((nuF B F) ((4 * l) + q)) / 100))), (6, .int (nI (((nuF B F) ((4 * l) + q)) % 100)))], [.int (9 - nI (((nuF B F) ((4 * l) + q)) % 100)), .int (nI dr)], _, _, _) rfl ?_
      refine J.icB ok_La_move (fun x y => x ≤ y) 78 74 rfl (fun (c71 : nI dr ≤ (9 - nI (((nuF B F) ((4 * l) + q)) % 100))) => ?_) (fun (c71 : ¬ (nI dr ≤ (9 - nI (((nuF B F) ((4 * l) + q)) % 100)))) => ?_)
      · refine J.gp ok_La_move 1 (79, [(0, .int (nI l)), (1, .int (nI q)), (2, .int (nI dr)), (3, .ref 38), (4, .ref 36), (5, .int (nI (((nuF B F) ((4 * l) + q)) / 100))), (6, .int (nI (((nuF B F) ((4 * l) + q)) % 100)))], [.int 0], _, _, _) rfl ?_
        refine JR.iret .int (by decide +kernel) rfl (rfl) ?_
        exact K1 c34 c42 c71
      · refine J.gp ok_La_move 2 (79, [(0, .int (nI l)), (1, .int (nI q)), (2, .int (nI dr)), (3, .ref 38), (4, .ref 36), (5, .int (nI (((nuF B F) ((4 * l) + q)) / 100))), (6, .int (nI (((nuF B F) ((4 * l) + q)) % 100)))], [.int 1], _, _, _) rfl ?_
        refine JR.iret .int (by decide +kernel) rfl (rfl) ?_
        exact K2 c34 c42 c71
    · have c42 : dr < (((nuF B F) ((4 * l) + q)) / 100) := Nat.not_le.mp (fun h9 => h0 ((nI_leI (a := ((nuF B F) ((4 * l) + q)) / 100) (b := dr) (by omega) (by omega)).mpr h9))
      refine J.gp ok_La_move 2 (48, [(0, .int (nI l)), (1, .int (nI q)), (2, .int (nI dr)), (3, .ref 38), (4, .ref 36), (5, .int (nI (((nuF B F) ((4 * l) + q)) / 100))), (6, .int (nI (((nuF B F) ((4 * l) + q)) % 100)))], [.int 8, .ref 38], _, _, _) rfl ?_
      refine J.ialdB ok_La_move 49 8 rfl rfl (rfl) (by omega) (by decide) ?_
      refine J.gp ok_La_move 0 (49, [(0, .int (nI l)), (1, .int (nI q)), (2, .int (nI dr)), (3, .ref 38), (4, .ref 36), (5, .int (nI (((nuF B F) ((4 * l) + q)) / 100))), (6, .int (nI (((nuF B F) ((4 * l) + q)) % 100)))], [.int (nI w)], (HQ e0 e1 e2 e3 e4 e5 e6 e7 e8 e9 e10 e11 e12 e13 e14 e15 e16 e17 e18 e19 e20 e21 e22 e23 e24 e25 e26 e27 e28 e29 e30 e31 e32 e33 e34 e35 (.inl (0, 12, .inl (fun j => nI ((nuF B F) j)))) e37 (.inl (0, 9, .inl (dL [nI m, nI p, nI P, nI i, nI s, gn, nI t, nI g, nI w])))), kc, kn) rfl ?_
      refine J.gp ok_La_move 4 (53, [(0, .int (nI l)), (1, .int (nI q)), (2, .int (nI dr)), (3, .ref 38), (4, .ref 36), (5, .int (nI (((nuF B F) ((4 * l) + q)) / 100))), (6, .int (nI (((nuF B F) ((4 * l) + q)) % 100)))], [.int ((nI w >>> (nI q &&& 31)) &&& 1)], _, _, _) rfl ?_
      rw [show ((nI w >>> (nI q &&& 31)) &&& 1) = nI (bitN w q) from bitE (by omega) (by omega)]
      refine J.gp ok_La_move 1 (54, [(0, .int (nI l)), (1, .int (nI q)), (2, .int (nI dr)), (3, .ref 38), (4, .ref 36), (5, .int (nI (((nuF B F) ((4 * l) + q)) / 100))), (6, .int (nI (((nuF B F) ((4 * l) + q)) % 100)))], [.int 1, .int (nI (bitN w q))], _, _, _) rfl ?_
      refine J.icB ok_La_move (fun x y => ¬ x = y) 61 57 rfl (fun (h0 : ¬ nI (bitN w q) = 1) => ?_) (fun (h0 : ¬ (¬ nI (bitN w q) = 1)) => ?_)
      · have c54 : ¬ (bitN w q) = 1 := fun h9 => h0 ((nI_eq (a := (bitN w q)) (b := 1) (by omega) (by omega)).mpr h9)
        refine J.gp ok_La_move 2 (79, [(0, .int (nI l)), (1, .int (nI q)), (2, .int (nI dr)), (3, .ref 38), (4, .ref 36), (5, .int (nI (((nuF B F) ((4 * l) + q)) / 100))), (6, .int (nI (((nuF B F) ((4 * l) + q)) % 100)))], [.int (-1)], _, _, _) rfl ?_
        refine JR.iret .int (by decide +kernel) rfl (rfl) ?_
        exact K3 c34 c42 c54
      · have c54 : (bitN w q) = 1 := (nI_eq (a := (bitN w q)) (b := 1) (by omega) (by omega)).mp (Classical.byContradiction h0)
        refine J.gp ok_La_move 2 (79, [(0, .int (nI l)), (1, .int (nI q)), (2, .int (nI dr)), (3, .ref 38), (4, .ref 36), (5, .int (nI (((nuF B F) ((4 * l) + q)) / 100))), (6, .int (nI (((nuF B F) ((4 * l) + q)) % 100)))], [.int 0], _, _, _) rfl ?_
        refine JR.iret .int (by decide +kernel) rfl (rfl) ?_
        exact K4 c34 c42 c54
  · have c34 : (bitN g l) = 0 := (nI_eq (a := (bitN g l)) (b := 0) (by omega) (by omega)).mp (Classical.byContradiction h0)
    refine J.gp ok_La_move 1 (38, [(0, .int (nI l)), (1, .int (nI q)), (2, .int (nI dr)), (3, .ref 38), (4, .ref 36), (5, .int (nI (((nuF B F) ((4 * l) + q)) / 100))), (6, .int (nI (((nuF B F) ((4 * l) + q)) % 100)))], [.int 0], _, _, _) rfl ?_
    refine JR.iret .int (by decide +kernel) rfl (rfl) ?_
    exact K5 c34

theorem c_La_move_C {e0 e1 e2 e3 e4 e5 e6 e7 e8 e9 e10 e11 e12 e13 e14 e15 e16 e17 e18 e19 e20 e21 e22 e23 e24 e25 e26 e27 e28 e29 e30 e31 e32 e33 e34 e35 e37 : va_E} {m p P i s t g w : Nat} {gn : Int32} {B F : Nat → Nat} {l dr q : Nat} (hm : 0 < m ∧ m ≤ 4) (hg : g < 8) (hw : w < 16) (hBF : ∀ j, B j + F j ≤ 10) (hl : l < 3) (hq : q < m) (hdr : dr < 10) : JE M_La_move [.int (nI l), .int (nI q), .int (nI dr), .ref 38, .ref 36] (HQ e0 e1 e2 e3 e4 e5 e6 e7 e8 e9 e10 e11 e12 e13 e14 e15 e16 e17 e18 e19 e20 e21 e22 e23 e24 e25 e26 e27 e28 e29 e30 e31 e32 e33 e34 e35 (.inl (0, 12, .inl (fun j => nI ((nuF B F) j)))) e37 (.inl (0, 9, .inl (dL [nI m, nI p, nI P, nI i, nI s, gn, nI t, nI g, nI w])))) (some (.int (mvD g w B F l q dr))) (HQ e0 e1 e2 e3 e4 e5 e6 e7 e8 e9 e10 e11 e12 e13 e14 e15 e16 e17 e18 e19 e20 e21 e22 e23 e24 e25 e26 e27 e28 e29 e30 e31 e32 e33 e34 e35 (.inl (0, 12, .inl (fun j => nI ((nuF B F) j)))) e37 (.inl (0, 9, .inl (dL [nI m, nI p, nI P, nI i, nI s, gn, nI t, nI g, nI w])))) := by
  have e4 : 4 * l + q = l * 4 + q := by omega
  have hB : nuF B F (4 * l + q) / 100 = B (l * 4 + q) := by rw [e4]; exact nuF_b hBF _
  have hF : nuF B F (4 * l + q) % 100 = F (l * 4 + q) := by rw [e4]; exact nuF_f hBF _
  have hs := hBF (l * 4 + q)
  have h3 : ∀ x : Nat, (nI dr ≤ (9 - nI (nuF B F (4 * l + q) % 100)) ↔ dr + F (l * 4 + q) < 10) := fun _ => by rw [hF]; exact nine_f _ (by omega) dr hdr
  refine JM.of (by decide +kernel) rfl (Nat.le_of_ble_eq_true rfl) (g_La_move_C hm hg hw hBF hl hq hdr (nuF_le hBF _) (bitN_lt _ _) (bitN_lt _ _) (fun c1 c2 c3 => ⟨?_, rfl⟩) (fun c1 c2 c3 => ⟨?_, rfl⟩) (fun c1 c2 c3 => ⟨?_, rfl⟩) (fun c1 c2 c3 => ⟨?_, rfl⟩) (fun c1 => ⟨?_, rfl⟩))
  · have c4 := (h3 0).mp c3
    rw [mv_in c1 hBF, if_neg (by omega), if_neg (by omega)]
  · have c4 : ¬ dr + F (l * 4 + q) < 10 := fun c => c3 ((h3 0).mpr c)
    rw [mv_in c1 hBF, if_neg (by omega), if_pos (by omega)]
  · rw [mv_in c1 hBF, if_pos (by omega), if_neg c3]
  · rw [mv_in c1 hBF, if_pos (by omega), if_pos c3]
  · rw [mv_out c1, if_neg (by omega)]

set_option maxRecDepth 100000 in
set_option maxHeartbeats 400000 in
theorem g_La_tick_A {sc : aScr} {e0 e1 e2 e3 e4 e5 e6 e7 e8 e9 e10 e11 e12 e13 e14 e15 e16 e17 e18 e19 e20 e21 e22 e23 e24 e25 e26 e27 e28 e29 e30 e31 e32 e33 e34 : va_E} {m p P i s t g w : Nat} {gn : Int32} {B F : Nat → Nat} {kc kn : Nat} {O : Option Value → aH → Prop} (hm : 0 < m ∧ m ≤ 4) (hg : g < 8) (hw : w < 16) (hBF : ∀ j, B j + F j ≤ 10) (hp : p < m) (hP : isPr P = true) (hi : i < plen P) (hs : s < 1000) (ht : t ≤ 1000000) (h4 : plen P ≤ 4) (h256 : P < 256) (K1 : (¬ (i + 1) = (plen P)) → O none (HP e0 e1 e2 e3 e4 e5 e6 e7 e8 e9 e10 e11 e12 e13 e14 e15 e16 e17 e18 e19 e20 e21 e22 e23 e24 e25 e26 e27 e28 e29 e30 e31 e32 e33 e34 (.inl (0, 9, .inl (dL [nI m, nI (mvP m g w B F (plev P i) p (((141 * s + 187) % 1000) / 100)), nI P, nI (i + 1), nI (((141 * s) + 187) % 1000), (gn + mvD g w B F (plev P i) p ((((141 * s) + 187) % 1000) / 100)), nI (t + 1), nI g, nI w]))) (.inl (0, 12, .inl (fun j => nI ((nuF B F) j)))))) (K2 : ((i + 1) = (plen P)) → O none (HP e0 e1 e2 e3 e4 e5 e6 e7 e8 e9 e10 e11 e12 e13 e14 e15 e16 e17 e18 e19 e20 e21 e22 e23 e24 e25 e26 e27 e28 e29 e30 e31 e32 e33 e34 (.inl (0, 9, .inl (dL [nI m, nI (mvP m g w B F (plev P i) p (((141 * s + 187) % 1000) / 100)), nI P, 0, nI (((141 * s) + 187) % 1000), (gn + mvD g w B F (plev P i) p ((((141 * s) + 187) % 1000) / 100)), nI (t + 1), nI g, nI w]))) (.inl (0, 12, .inl (fun j => nI ((nuF B F) j)))))) : JR M_La_tick sc (0, [(0, .ref 35), (1, .ref 36)], [], (HP e0 e1 e2 e3 e4 e5 e6 e7 e8 e9 e10 e11 e12 e13 e14 e15 e16 e17 e18 e19 e20 e21 e22 e23 e24 e25 e26 e27 e28 e29 e30 e31 e32 e33 e34 (.inl (0, 9, .inl (dL [nI m, nI p, nI P, nI i, nI s, gn, nI t, nI g, nI w]))) (.inl (0, 12, .inl (fun j => nI ((nuF B F) j))))), kc, kn) O := by
  refine J.gp ok_La_tick 5 (7, [(0, .ref 35), (1, .ref 36)], [.int 4, .ref 35, .int 141, .int 4, .ref 35], _, _, _) rfl ?_
  refine J.ialdB ok_La_tick 8 4 rfl rfl (rfl) (by omega) (by decide) ?_
  refine J.gp ok_La_tick 0 (8, [(0, .ref 35), (1, .ref 36)], [.int (nI s), .int 141, .int 4, .ref 35], (HP e0 e1 e2 e3 e4 e5 e6 e7 e8 e9 e10 e11 e12 e13 e14 e15 e16 e17 e18 e19 e20 e21 e22 e23 e24 e25 e26 e27 e28 e29 e30 e31 e32 e33 e34 (.inl (0, 9, .inl (dL [nI m, nI p, nI P, nI i, nI s, gn, nI t, nI g, nI w]))) (.inl (0, 12, .inl (fun j => nI ((nuF B F) j))))), kc, kn) rfl ?_
  refine J.gp ok_La_tick 1 (9, [(0, .ref 35), (1, .ref 36)], [.int (141 * nI s), .int 4, .ref 35], _, _, _) rfl ?_
  rw [show ((141 * nI s) : Int32) = nI (141 * s) from pk_mul 141 s]
  refine J.gp ok_La_tick 2 (13, [(0, .ref 35), (1, .ref 36)], [.int (nI (141 * s) + 187), .int 4, .ref 35], _, _, _) rfl ?_
  rw [show ((nI (141 * s) + 187) : Int32) = nI ((141 * s) + 187) from nI_add (141 * s) 187]
  refine J.gp ok_La_tick 1 (16, [(0, .ref 35), (1, .ref 36)], [.int 1000, .int (nI ((141 * s) + 187)), .int 4, .ref 35], _, _, _) rfl ?_
  refine J.iremB ok_La_tick 17 rfl (by decide) ?_
  rw [show ((nI ((141 * s) + 187) - nI ((141 * s) + 187) / 1000 * 1000) : Int32) = nI (((141 * s) + 187) % 1000) from pk_rem (a := (141 * s) + 187) (d := 1000) (by omega) (by omega) (by omega)]
  refine J.iastB ok_La_tick 18 4 rfl rfl (rfl) (by omega) (by decide) ?_
  rw [show upd (dL [nI m, nI p, nI P, nI i, nI s, gn, nI t, nI g, nI w]) 4 (nI (((141 * s) + 187) % 1000)) = dL [nI m, nI p, nI P, nI i, nI (((141 * s) + 187) % 1000), gn, nI t, nI g, nI w] from dL_up rfl]
  refine J.gp ok_La_tick 0 (18, [(0, .ref 35), (1, .ref 36)], [], (HP e0 e1 e2 e3 e4 e5 e6 e7 e8 e9 e10 e11 e12 e13 e14 e15 e16 e17 e18 e19 e20 e21 e22 e23 e24 e25 e26 e27 e28 e29 e30 e31 e32 e33 e34 (.inl (0, 9, .inl (dL [nI m, nI p, nI P, nI i, nI (((141 * s) + 187) % 1000), gn, nI t, nI g, nI w]))) (.inl (0, 12, .inl (fun j => nI ((nuF B F) j))))), kc, kn) rfl ?_
  refine J.gp ok_La_tick 2 (20, [(0, .ref 35), (1, .ref 36)], [.int 2, .ref 35], _, _, _) rfl ?_
  refine J.ialdB ok_La_tick 21 2 rfl rfl (rfl) (by omega) (by decide) ?_
  refine J.gp ok_La_tick 0 (21, [(0, .ref 35), (1, .ref 36)], [.int (nI P)], (HP e0 e1 e2 e3 e4 e5 e6 e7 e8 e9 e10 e11 e12 e13 e14 e15 e16 e17 e18 e19 e20 e21 e22 e23 e24 e25 e26 e27 e28 e29 e30 e31 e32 e33 e34 (.inl (0, 9, .inl (dL [nI m, nI p, nI P, nI i, nI (((141 * s) + 187) % 1000), gn, nI t, nI g, nI w]))) (.inl (0, 12, .inl (fun j => nI ((nuF B F) j))))), kc, kn) rfl ?_
  refine J.gp ok_La_tick 2 (23, [(0, .ref 35), (1, .ref 36)], [.int 3, .ref 35, .int (nI P)], _, _, _) rfl ?_
  refine J.ialdB ok_La_tick 24 3 rfl rfl (rfl) (by omega) (by decide) ?_
  refine J.gp ok_La_tick 0 (24, [(0, .ref 35), (1, .ref 36)], [.int (nI i), .int (nI P)], (HP e0 e1 e2 e3 e4 e5 e6 e7 e8 e9 e10 e11 e12 e13 e14 e15 e16 e17 e18 e19 e20 e21 e22 e23 e24 e25 e26 e27 e28 e29 e30 e31 e32 e33 e34 (.inl (0, 9, .inl (dL [nI m, nI p, nI P, nI i, nI (((141 * s) + 187) % 1000), gn, nI t, nI g, nI w]))) (.inl (0, 12, .inl (fun j => nI ((nuF B F) j))))), kc, kn) rfl ?_
  refine J.callSE s_La_tick_24 27 [.int (nI P), .int (nI i)] (c_La_leverAt (by assumption) (by first | assumption | omega)) rfl rfl (Nat.le_of_ble_eq_true rfl) rfl ?_
  refine J.gp ok_La_tick 0 (27, [(0, .ref 35), (1, .ref 36)], [.int (nI (plev P i))], (HP e0 e1 e2 e3 e4 e5 e6 e7 e8 e9 e10 e11 e12 e13 e14 e15 e16 e17 e18 e19 e20 e21 e22 e23 e24 e25 e26 e27 e28 e29 e30 e31 e32 e33 e34 (.inl (0, 9, .inl (dL [nI m, nI p, nI P, nI i, nI (((141 * s) + 187) % 1000), gn, nI t, nI g, nI w]))) (.inl (0, 12, .inl (fun j => nI ((nuF B F) j))))), kc, kn) rfl ?_
  refine J.gp ok_La_tick 2 (29, [(0, .ref 35), (1, .ref 36)], [.int 1, .ref 35, .int (nI (plev P i))], _, _, _) rfl ?_
  refine J.ialdB ok_La_tick 30 1 rfl rfl (rfl) (by omega) (by decide) ?_
  refine J.gp ok_La_tick 0 (30, [(0, .ref 35), (1, .ref 36)], [.int (nI p), .int (nI (plev P i))], (HP e0 e1 e2 e3 e4 e5 e6 e7 e8 e9 e10 e11 e12 e13 e14 e15 e16 e17 e18 e19 e20 e21 e22 e23 e24 e25 e26 e27 e28 e29 e30 e31 e32 e33 e34 (.inl (0, 9, .inl (dL [nI m, nI p, nI P, nI i, nI (((141 * s) + 187) % 1000), gn, nI t, nI g, nI w]))) (.inl (0, 12, .inl (fun j => nI ((nuF B F) j))))), kc, kn) rfl ?_
  refine J.gp ok_La_tick 2 (32, [(0, .ref 35), (1, .ref 36)], [.int 4, .ref 35, .int (nI p), .int (nI (plev P i))], _, _, _) rfl ?_
  refine J.ialdB ok_La_tick 33 4 rfl rfl (rfl) (by omega) (by decide) ?_
  refine J.gp ok_La_tick 0 (33, [(0, .ref 35), (1, .ref 36)], [.int (nI (((141 * s) + 187) % 1000)), .int (nI p), .int (nI (plev P i))], (HP e0 e1 e2 e3 e4 e5 e6 e7 e8 e9 e10 e11 e12 e13 e14 e15 e16 e17 e18 e19 e20 e21 e22 e23 e24 e25 e26 e27 e28 e29 e30 e31 e32 e33 e34 (.inl (0, 9, .inl (dL [nI m, nI p, nI P, nI i, nI (((141 * s) + 187) % 1000), gn, nI t, nI g, nI w]))) (.inl (0, 12, .inl (fun j => nI ((nuF B F) j))))), kc, kn) rfl ?_
  refine J.gp ok_La_tick 1 (35, [(0, .ref 35), (1, .ref 36)], [.int 100, .int (nI (((141 * s) + 187) % 1000)), .int (nI p), .int (nI (plev P i))], _, _, _) rfl ?_
  refine J.idivB ok_La_tick 36 rfl (by decide) ?_
  rw [show ((nI (((141 * s) + 187) % 1000) / 100) : Int32) = nI ((((141 * s) + 187) % 1000) / 100) from pk_div (a := ((141 * s) + 187) % 1000) (d := 100) (by omega) (by omega) (by omega)]
  refine J.gp ok_La_tick 2 (38, [(0, .ref 35), (1, .ref 36)], [.ref 36, .ref 35, .int (nI ((((141 * s) + 187) % 1000) / 100)), .int (nI p), .int (nI (plev P i))], _, _, _) rfl ?_
  refine J.callSE s_La_tick_38 41 [.int (nI (plev P i)), .int (nI p), .int (nI ((((141 * s) + 187) % 1000) / 100)), .ref 35, .ref 36] (c_La_move_A hm hg hw hBF plev_lt (by omega) (by omega)) rfl rfl (Nat.le_of_ble_eq_true rfl) rfl ?_
  refine J.gp ok_La_tick 0 (41, [(0, .ref 35), (1, .ref 36)], [.int (mvD g w B F (plev P i) p ((((141 * s) + 187) % 1000) / 100))], (HP e0 e1 e2 e3 e4 e5 e6 e7 e8 e9 e10 e11 e12 e13 e14 e15 e16 e17 e18 e19 e20 e21 e22 e23 e24 e25 e26 e27 e28 e29 e30 e31 e32 e33 e34 (.inl (0, 9, .inl (dL [nI m, nI p, nI P, nI i, nI (((141 * s) + 187) % 1000), gn, nI t, nI g, nI w]))) (.inl (0, 12, .inl (fun j => nI ((nuF B F) j))))), kc, kn) rfl ?_
  refine J.gp ok_La_tick 5 (46, [(0, .ref 35), (1, .ref 36), (2, .int (mvD g w B F (plev P i) p ((((141 * s) + 187) % 1000) / 100)))], [.int 1, .ref 35, .int 1, .ref 35], _, _, _) rfl ?_
  refine J.ialdB ok_La_tick 47 1 rfl rfl (rfl) (by omega) (by decide) ?_
  refine J.gp ok_La_tick 0 (47, [(0, .ref 35), (1, .ref 36), (2, .int (mvD g w B F (plev P i) p ((((141 * s) + 187) % 1000) / 100)))], [.int (nI p), .int 1, .ref 35], (HP e0 e1 e2 e3 e4 e5 e6 e7 e8 e9 e10 e11 e12 e13 e14 e15 e16 e17 e18 e19 e20 e21 e22 e23 e24 e25 e26 e27 e28 e29 e30 e31 e32 e33 e34 (.inl (0, 9, .inl (dL [nI m, nI p, nI P, nI i, nI (((141 * s) + 187) % 1000), gn, nI t, nI g, nI w]))) (.inl (0, 12, .inl (fun j => nI ((nuF B F) j))))), kc, kn) rfl ?_
  refine J.gp ok_La_tick 4 (51, [(0, .ref 35), (1, .ref 36), (2, .int (mvD g w B F (plev P i) p ((((141 * s) + 187) % 1000) / 100)))], [.int 0, .ref 35, .int (nI p + mvD g w B F (plev P i) p ((((141 * s) + 187) % 1000) / 100)), .int 1, .ref 35], _, _, _) rfl ?_
  refine J.ialdB ok_La_tick 52 0 rfl rfl (rfl) (by omega) (by decide) ?_
  refine J.gp ok_La_tick 0 (52, [(0, .ref 35), (1, .ref 36), (2, .int (mvD g w B F (plev P i) p ((((141 * s) + 187) % 1000) / 100)))], [.int (nI m), .int (nI p + mvD g w B F (plev P i) p ((((141 * s) + 187) % 1000) / 100)), .int 1, .ref 35], (HP e0 e1 e2 e3 e4 e5 e6 e7 e8 e9 e10 e11 e12 e13 e14 e15 e16 e17 e18 e19 e20 e21 e22 e23 e24 e25 e26 e27 e28 e29 e30 e31 e32 e33 e34 (.inl (0, 9, .inl (dL [nI m, nI p, nI P, nI i, nI (((141 * s) + 187) % 1000), gn, nI t, nI g, nI w]))) (.inl (0, 12, .inl (fun j => nI ((nuF B F) j))))), kc, kn) rfl ?_
  refine J.gp ok_La_tick 3 (55, [(0, .ref 35), (1, .ref 36), (2, .int (mvD g w B F (plev P i) p ((((141 * s) + 187) % 1000) / 100)))], [.int 0, .ref 35, .int ((nI p + mvD g w B F (plev P i) p ((((141 * s) + 187) % 1000) / 100)) + nI m), .int 1, .ref 35], _, _, _) rfl ?_
  refine J.ialdB ok_La_tick 56 0 rfl rfl (rfl) (by omega) (by decide) ?_
  refine J.gp ok_La_tick 0 (56, [(0, .ref 35), (1, .ref 36), (2, .int (mvD g w B F (plev P i) p ((((141 * s) + 187) % 1000) / 100)))], [.int (nI m), .int ((nI p + mvD g w B F (plev P i) p ((((141 * s) + 187) % 1000) / 100)) + nI m), .int 1, .ref 35], (HP e0 e1 e2 e3 e4 e5 e6 e7 e8 e9 e10 e11 e12 e13 e14 e15 e16 e17 e18 e19 e20 e21 e22 e23 e24 e25 e26 e27 e28 e29 e30 e31 e32 e33 e34 (.inl (0, 9, .inl (dL [nI m, nI p, nI P, nI i, nI (((141 * s) + 187) % 1000), gn, nI t, nI g, nI w]))) (.inl (0, 12, .inl (fun j => nI ((nuF B F) j))))), kc, kn) rfl ?_
  refine J.iremB ok_La_tick 57 rfl (nI_ne0 (by omega) (by omega)) ?_
  rw [show ((((nI p + mvD g w B F (plev P i) p ((((141 * s) + 187) % 1000) / 100)) + nI m) - ((nI p + mvD g w B F (plev P i) p ((((141 * s) + 187) % 1000) / 100)) + nI m) / nI m * nI m)) = nI (mvP m g w B F (plev P i) p (((141 * s + 187) % 1000) / 100)) from pos_mv (by omega) hp]
  refine J.iastB ok_La_tick 58 1 rfl rfl (rfl) (by omega) (by decide) ?_
  rw [show upd (dL [nI m, nI p, nI P, nI i, nI (((141 * s) + 187) % 1000), gn, nI t, nI g, nI w]) 1 (nI (mvP m g w B F (plev P i) p (((141 * s + 187) % 1000) / 100))) = dL [nI m, nI (mvP m g w B F (plev P i) p (((141 * s + 187) % 1000) / 100)), nI P, nI i, nI (((141 * s) + 187) % 1000), gn, nI t, nI g, nI w] from dL_up rfl]
  refine J.gp ok_La_tick 0 (58, [(0, .ref 35), (1, .ref 36), (2, .int (mvD g w B F (plev P i) p ((((141 * s) + 187) % 1000) / 100)))], [], (HP e0 e1 e2 e3 e4 e5 e6 e7 e8 e9 e10 e11 e12 e13 e14 e15 e16 e17 e18 e19 e20 e21 e22 e23 e24 e25 e26 e27 e28 e29 e30 e31 e32 e33 e34 (.inl (0, 9, .inl (dL [nI m, nI (mvP m g w B F (plev P i) p (((141 * s + 187) % 1000) / 100)), nI P, nI i, nI (((141 * s) + 187) % 1000), gn, nI t, nI g, nI w]))) (.inl (0, 12, .inl (fun j => nI ((nuF B F) j))))), kc, kn) rfl ?_
  refine J.gp ok_La_tick 3 (61, [(0, .ref 35), (1, .ref 36), (2, .int (mvD g w B F (plev P i) p ((((141 * s) + 187) % 1000) / 100)))], [.int 5, .ref 35, .int 5, .ref 35], _, _, _) rfl ?_
  refine J.ialdB ok_La_tick 62 5 rfl rfl (rfl) (by omega) (by decide) ?_
  refine J.gp ok_La_tick 0 (62, [(0, .ref 35), (1, .ref 36), (2, .int (mvD g w B F (plev P i) p ((((141 * s) + 187) % 1000) / 100)))], [.int gn, .int 5, .ref 35], (HP e0 e1 e2 e3 e4 e5 e6 e7 e8 e9 e10 e11 e12 e13 e14 e15 e16 e17 e18 e19 e20 e21 e22 e23 e24 e25 e26 e27 e28 e29 e30 e31 e32 e33 e34 (.inl (0, 9, .inl (dL [nI m, nI (mvP m g w B F (plev P i) p (((141 * s + 187) % 1000) / 100)), nI P, nI i, nI (((141 * s) + 187) % 1000), gn, nI t, nI g, nI w]))) (.inl (0, 12, .inl (fun j => nI ((nuF B F) j))))), kc, kn) rfl ?_
  refine J.gp ok_La_tick 2 (64, [(0, .ref 35), (1, .ref 36), (2, .int (mvD g w B F (plev P i) p ((((141 * s) + 187) % 1000) / 100)))], [.int (gn + mvD g w B F (plev P i) p ((((141 * s) + 187) % 1000) / 100)), .int 5, .ref 35], _, _, _) rfl ?_
  refine J.iastB ok_La_tick 65 5 rfl rfl (rfl) (by omega) (by decide) ?_
  rw [show upd (dL [nI m, nI (mvP m g w B F (plev P i) p (((141 * s + 187) % 1000) / 100)), nI P, nI i, nI (((141 * s) + 187) % 1000), gn, nI t, nI g, nI w]) 5 (gn + mvD g w B F (plev P i) p ((((141 * s) + 187) % 1000) / 100)) = dL [nI m, nI (mvP m g w B F (plev P i) p (((141 * s + 187) % 1000) / 100)), nI P, nI i, nI (((141 * s) + 187) % 1000), (gn + mvD g w B F (plev P i) p ((((141 * s) + 187) % 1000) / 100)), nI t, nI g, nI w] from dL_up rfl]
  refine J.gp ok_La_tick 0 (65, [(0, .ref 35), (1, .ref 36), (2, .int (mvD g w B F (plev P i) p ((((141 * s) + 187) % 1000) / 100)))], [], (HP e0 e1 e2 e3 e4 e5 e6 e7 e8 e9 e10 e11 e12 e13 e14 e15 e16 e17 e18 e19 e20 e21 e22 e23 e24 e25 e26 e27 e28 e29 e30 e31 e32 e33 e34 (.inl (0, 9, .inl (dL [nI m, nI (mvP m g w B F (plev P i) p (((141 * s + 187) % 1000) / 100)), nI P, nI i, nI (((141 * s) + 187) % 1000), (gn + mvD g w B F (plev P i) p ((((141 * s) + 187) % 1000) / 100)), nI t, nI g, nI w]))) (.inl (0, 12, .inl (fun j => nI ((nuF B F) j))))), kc, kn) rfl ?_
  refine J.gp ok_La_tick 3 (69, [(0, .ref 35), (1, .ref 36), (2, .int (mvD g w B F (plev P i) p ((((141 * s) + 187) % 1000) / 100)))], [.int 6, .ref 35, .int 6, .ref 35], _, _, _) rfl ?_
  refine J.ialdB ok_La_tick 70 6 rfl rfl (rfl) (by omega) (by decide) ?_
  refine J.gp ok_La_tick 0 (70, [(0, .ref 35), (1, .ref 36), (2, .int (mvD g w B F (plev P i) p ((((141 * s) + 187) % 1000) / 100)))], [.int (nI t), .int 6, .ref 35], (HP e0 e1 e2 e3 e4 e5 e6 e7 e8 e9 e10 e11 e12 e13 e14 e15 e16 e17 e18 e19 e20 e21 e22 e23 e24 e25 e26 e27 e28 e29 e30 e31 e32 e33 e34 (.inl (0, 9, .inl (dL [nI m, nI (mvP m g w B F (plev P i) p (((141 * s + 187) % 1000) / 100)), nI P, nI i, nI (((141 * s) + 187) % 1000), (gn + mvD g w B F (plev P i) p ((((141 * s) + 187) % 1000) / 100)), nI t, nI g, nI w]))) (.inl (0, 12, .inl (fun j => nI ((nuF B F) j))))), kc, kn) rfl ?_
  refine J.gp ok_La_tick 2 (72, [(0, .ref 35), (1, .ref 36), (2, .int (mvD g w B F (plev P i) p ((((141 * s) + 187) % 1000) / 100)))], [.int (nI t + 1), .int 6, .ref 35], _, _, _) rfl ?_
  rw [show ((nI t + 1) : Int32) = nI (t + 1) from nI_add t 1]
  refine J.iastB ok_La_tick 73 6 rfl rfl (rfl) (by omega) (by decide) ?_
  rw [show upd (dL [nI m, nI (mvP m g w B F (plev P i) p (((141 * s + 187) % 1000) / 100)), nI P, nI i, nI (((141 * s) + 187) % 1000), (gn + mvD g w B F (plev P i) p ((((141 * s) + 187) % 1000) / 100)), nI t, nI g, nI w]) 6 (nI (t + 1)) = dL [nI m, nI (mvP m g w B F (plev P i) p (((141 * s + 187) % 1000) / 100)), nI P, nI i, nI (((141 * s) + 187) % 1000), (gn + mvD g w B F (plev P i) p ((((141 * s) + 187) % 1000) / 100)), nI (t + 1), nI g, nI w] from dL_up rfl]
  refine J.gp ok_La_tick 0 (73, [(0, .ref 35), (1, .ref 36), (2, .int (mvD g w B F (plev P i) p ((((141 * s) + 187) % 1000) / 100)))], [], (HP e0 e1 e2 e3 e4 e5 e6 e7 e8 e9 e10 e11 e12 e13 e14 e15 e16 e17 e18 e19 e20 e21 e22 e23 e24 e25 e26 e27 e28 e29 e30 e31 e32 e33 e34 (.inl (0, 9, .inl (dL [nI m, nI (mvP m g w B F (plev P i) p (((141 * s + 187) % 1000) / 100)), nI P, nI i, nI (((141 * s) + 187) % 1000), (gn + mvD g w B F (plev P i) p ((((141 * s) + 187) % 1000) / 100)), nI (t + 1), nI g, nI w]))) (.inl (0, 12, .inl (fun j => nI ((nuF B F) j))))), kc, kn) rfl ?_
  refine J.gp ok_La_tick 4 (77, [(0, .ref 35), (1, .ref 36), (2, .int (mvD g w B F (plev P i) p ((((141 * s) + 187) % 1000) / 100)))], [.int 3, .ref 35, .int 3, .ref 35], _, _, _) rfl ?_
  refine J.ialdB ok_La_tick 78 3 rfl rfl (rfl) (by omega) (by decide) ?_
  refine J.gp ok_La_tick 0 (78, [(0, .ref 35), (1, .ref 36), (2, .int (mvD g w B F (plev P i) p ((((141 * s) + 187) % 1000) / 100)))], [.int (nI i), .int 3, .ref 35], (HP e0 e1 e2 e3 e4 e5 e6 e7 e8 e9 e10 e11 e12 e13 e14 e15 e16 e17 e18 e19 e20 e21 e22 e23 e24 e25 e26 e27 e28 e29 e30 e31 e32 e33 e34 (.inl (0, 9, .inl (dL [nI m, nI (mvP m g w B F (plev P i) p (((141 * s + 187) % 1000) / 100)), nI P, nI i, nI (((141 * s) + 187) % 1000), (gn + mvD g w B F (plev P i) p ((((141 * s) + 187) % 1000) / 100)), nI (t + 1), nI g, nI w]))) (.inl (0, 12, .inl (fun j => nI ((nuF B F) j))))), kc, kn) rfl ?_
  refine J.gp ok_La_tick 2 (80, [(0, .ref 35), (1, .ref 36), (2, .int (mvD g w B F (plev P i) p ((((141 * s) + 187) % 1000) / 100)))], [.int (nI i + 1), .int 3, .ref 35], _, _, _) rfl ?_
  rw [show ((nI i + 1) : Int32) = nI (i + 1) from nI_add i 1]
  refine J.gp ok_La_tick 2 (82, [(0, .ref 35), (1, .ref 36), (2, .int (mvD g w B F (plev P i) p ((((141 * s) + 187) % 1000) / 100)))], [.int 2, .ref 35, .int (nI (i + 1)), .int 3, .ref 35], _, _, _) rfl ?_
  refine J.ialdB ok_La_tick 83 2 rfl rfl (rfl) (by omega) (by decide) ?_
  refine J.gp ok_La_tick 0 (83, [(0, .ref 35), (1, .ref 36), (2, .int (mvD g w B F (plev P i) p ((((141 * s) + 187) % 1000) / 100)))], [.int (nI P), .int (nI (i + 1)), .int 3, .ref 35], (HP e0 e1 e2 e3 e4 e5 e6 e7 e8 e9 e10 e11 e12 e13 e14 e15 e16 e17 e18 e19 e20 e21 e22 e23 e24 e25 e26 e27 e28 e29 e30 e31 e32 e33 e34 (.inl (0, 9, .inl (dL [nI m, nI (mvP m g w B F (plev P i) p (((141 * s + 187) % 1000) / 100)), nI P, nI i, nI (((141 * s) + 187) % 1000), (gn + mvD g w B F (plev P i) p ((((141 * s) + 187) % 1000) / 100)), nI (t + 1), nI g, nI w]))) (.inl (0, 12, .inl (fun j => nI ((nuF B F) j))))), kc, kn) rfl ?_
  refine J.callSE s_La_tick_83 86 [.int (nI P)] (c_La_lengthOf (by omega)) rfl rfl (Nat.le_of_ble_eq_true rfl) rfl ?_
  refine J.gp ok_La_tick 0 (86, [(0, .ref 35), (1, .ref 36), (2, .int (mvD g w B F (plev P i) p ((((141 * s) + 187) % 1000) / 100)))], [.int (nI (plen P)), .int (nI (i + 1)), .int 3, .ref 35], (HP e0 e1 e2 e3 e4 e5 e6 e7 e8 e9 e10 e11 e12 e13 e14 e15 e16 e17 e18 e19 e20 e21 e22 e23 e24 e25 e26 e27 e28 e29 e30 e31 e32 e33 e34 (.inl (0, 9, .inl (dL [nI m, nI (mvP m g w B F (plev P i) p (((141 * s + 187) % 1000) / 100)), nI P, nI i, nI (((141 * s) + 187) % 1000), (gn + mvD g w B F (plev P i) p ((((141 * s) + 187) % 1000) / 100)), nI (t + 1), nI g, nI w]))) (.inl (0, 12, .inl (fun j => nI ((nuF B F) j))))), kc, kn) rfl ?_
  refine J.icB ok_La_tick (fun x y => ¬ x = y) 93 89 rfl (fun (h0 : ¬ nI (i + 1) = nI (plen P)) => ?_) (fun (h0 : ¬ (¬ nI (i + 1) = nI (plen P))) => ?_)
  · have c86 : ¬ (i + 1) = (plen P) := fun h9 => h0 ((nI_eq (a := i + 1) (b := plen P) (by omega) (by omega)).mpr h9)
    refine J.gp ok_La_tick 2 (95, [(0, .ref 35), (1, .ref 36), (2, .int (mvD g w B F (plev P i) p ((((141 * s) + 187) % 1000) / 100)))], [.int 3, .ref 35, .int 3, .ref 35], _, _, _) rfl ?_
    refine J.ialdB ok_La_tick 96 3 rfl rfl (rfl) (by omega) (by decide) ?_
    refine J.gp ok_La_tick 0 (96, [(0, .ref 35), (1, .ref 36), (2, .int (mvD g w B F (plev P i) p ((((141 * s) + 187) % 1000) / 100)))], [.int (nI i), .int 3, .ref 35], (HP e0 e1 e2 e3 e4 e5 e6 e7 e8 e9 e10 e11 e12 e13 e14 e15 e16 e17 e18 e19 e20 e21 e22 e23 e24 e25 e26 e27 e28 e29 e30 e31 e32 e33 e34 (.inl (0, 9, .inl (dL [nI m, nI (mvP m g w B F (plev P i) p (((141 * s + 187) % 1000) / 100)), nI P, nI i, nI (((141 * s) + 187) % 1000), (gn + mvD g w B F (plev P i) p ((((141 * s) + 187) % 1000) / 100)), nI (t + 1), nI g, nI w]))) (.inl (0, 12, .inl (fun j => nI ((nuF B F) j))))), kc, kn) rfl ?_
    refine J.gp ok_La_tick 2 (98, [(0, .ref 35), (1, .ref 36), (2, .int (mvD g w B F (plev P i) p ((((141 * s) + 187) % 1000) / 100)))], [.int (nI i + 1), .int 3, .ref 35], _, _, _) rfl ?_
    rw [show ((nI i + 1) : Int32) = nI (i + 1) from nI_add i 1]
    refine J.iastB ok_La_tick 99 3 rfl rfl (rfl) (by omega) (by decide) ?_
    rw [show upd (dL [nI m, nI (mvP m g w B F (plev P i) p (((141 * s + 187) % 1000) / 100)), nI P, nI i, nI (((141 * s) + 187) % 1000), (gn + mvD g w B F (plev P i) p ((((141 * s) + 187) % 1000) / 100)), nI (t + 1), nI g, nI w]) 3 (nI (i + 1)) = dL [nI m, nI (mvP m g w B F (plev P i) p (((141 * s + 187) % 1000) / 100)), nI P, nI (i + 1), nI (((141 * s) + 187) % 1000), (gn + mvD g w B F (plev P i) p ((((141 * s) + 187) % 1000) / 100)), nI (t + 1), nI g, nI w] from dL_up rfl]
    refine J.gp ok_La_tick 0 (99, [(0, .ref 35), (1, .ref 36), (2, .int (mvD g w B F (plev P i) p ((((141 * s) + 187) % 1000) / 100)))], [], (HP e0 e1 e2 e3 e4 e5 e6 e7 e8 e9 e10 e11 e12 e13 e14 e15 e16 e17 e18 e19 e20 e21 e22 e23 e24 e25 e26 e27 e28 e29 e30 e31 e32 e33 e34 (.inl (0, 9, .inl (dL [nI m, nI (mvP m g w B F (plev P i) p (((141 * s + 187) % 1000) / 100)), nI P, nI (i + 1), nI (((141 * s) + 187) % 1000), (gn + mvD g w B F (plev P i) p ((((141 * s) + 187) % 1000) / 100)), nI (t + 1), nI g, nI w]))) (.inl (0, 12, .inl (fun j => nI ((nuF B F) j))))), kc, kn) rfl ?_
    refine JR.vret (by decide +kernel) rfl ?_
    exact K1 c86
  · have c86 : (i + 1) = (plen P) := (nI_eq (a := i + 1) (b := plen P) (by omega) (by omega)).mp (Classical.byContradiction h0)
    refine J.gp ok_La_tick 2 (98, [(0, .ref 35), (1, .ref 36), (2, .int (mvD g w B F (plev P i) p ((((141 * s) + 187) % 1000) / 100)))], [.int 0, .int 3, .ref 35], _, _, _) rfl ?_
    refine J.iastB ok_La_tick 99 3 rfl rfl (rfl) (by omega) (by decide) ?_
    rw [show upd (dL [nI m, nI (mvP m g w B F (plev P i) p (((141 * s + 187) % 1000) / 100)), nI P, nI i, nI (((141 * s) + 187) % 1000), (gn + mvD g w B F (plev P i) p ((((141 * s) + 187) % 1000) / 100)), nI (t + 1), nI g, nI w]) 3 0 = dL [nI m, nI (mvP m g w B F (plev P i) p (((141 * s + 187) % 1000) / 100)), nI P, 0, nI (((141 * s) + 187) % 1000), (gn + mvD g w B F (plev P i) p ((((141 * s) + 187) % 1000) / 100)), nI (t + 1), nI g, nI w] from dL_up rfl]
    refine J.gp ok_La_tick 0 (99, [(0, .ref 35), (1, .ref 36), (2, .int (mvD g w B F (plev P i) p ((((141 * s) + 187) % 1000) / 100)))], [], (HP e0 e1 e2 e3 e4 e5 e6 e7 e8 e9 e10 e11 e12 e13 e14 e15 e16 e17 e18 e19 e20 e21 e22 e23 e24 e25 e26 e27 e28 e29 e30 e31 e32 e33 e34 (.inl (0, 9, .inl (dL [nI m, nI (mvP m g w B F (plev P i) p (((141 * s + 187) % 1000) / 100)), nI P, 0, nI (((141 * s) + 187) % 1000), (gn + mvD g w B F (plev P i) p ((((141 * s) + 187) % 1000) / 100)), nI (t + 1), nI g, nI w]))) (.inl (0, 12, .inl (fun j => nI ((nuF B F) j))))), kc, kn) rfl ?_
    refine JR.vret (by decide +kernel) rfl ?_
    exact K2 c86

theorem c_La_tick_A {e0 e1 e2 e3 e4 e5 e6 e7 e8 e9 e10 e11 e12 e13 e14 e15 e16 e17 e18 e19 e20 e21 e22 e23 e24 e25 e26 e27 e28 e29 e30 e31 e32 e33 e34 : va_E} {m p P i s t g w : Nat} {gn : Int32} {B F : Nat → Nat} (hm : 0 < m ∧ m ≤ 4) (hg : g < 8) (hw : w < 16) (hBF : ∀ j, B j + F j ≤ 10) (hp : p < m) (hP : isPr P = true) (hi : i < plen P) (hs : s < 1000) (ht : t ≤ 1000000) : JE M_La_tick [.ref 35, .ref 36] (HP e0 e1 e2 e3 e4 e5 e6 e7 e8 e9 e10 e11 e12 e13 e14 e15 e16 e17 e18 e19 e20 e21 e22 e23 e24 e25 e26 e27 e28 e29 e30 e31 e32 e33 e34 (.inl (0, 9, .inl (dL [nI m, nI p, nI P, nI i, nI s, gn, nI t, nI g, nI w]))) (.inl (0, 12, .inl (fun j => nI ((nuF B F) j))))) none (HP e0 e1 e2 e3 e4 e5 e6 e7 e8 e9 e10 e11 e12 e13 e14 e15 e16 e17 e18 e19 e20 e21 e22 e23 e24 e25 e26 e27 e28 e29 e30 e31 e32 e33 e34 (.inl (0, 9, .inl (dL [nI m, nI (tkP m g w B F P p i s), nI P, nI (pnx P i), nI (tkS s), gn + tkD g w B F P p i s, nI (t + 1), nI g, nI w]))) (.inl (0, 12, .inl (fun j => nI ((nuF B F) j))))) := by
  refine JM.of (by decide +kernel) rfl (Nat.le_of_ble_eq_true rfl) (g_La_tick_A hm hg hw hBF hp hP hi hs ht (plen_le P) (isPr_bd hP).2 (fun c => ⟨rfl, ?_⟩) (fun c => ⟨rfl, ?_⟩))
  · have e : pnx P i = i + 1 := if_pos (by omega)
    rw [e]
    first | done | rfl
  · have e : pnx P i = 0 := if_neg (by omega)
    rw [e]
    first | done | rfl

set_option maxRecDepth 100000 in
set_option maxHeartbeats 400000 in
theorem g_La_tick_B {sc : aScr} {e0 e1 e2 e3 e4 e5 e6 e7 e8 e9 e10 e11 e12 e13 e14 e15 e16 e17 e18 e19 e20 e21 e22 e23 e24 e25 e26 e27 e28 e29 e30 e31 e32 e33 e34 e35 e38 : va_E} {m p P i s t g w : Nat} {gn : Int32} {B F : Nat → Nat} {kc kn : Nat} {O : Option Value → aH → Prop} (hm : 0 < m ∧ m ≤ 4) (hg : g < 8) (hw : w < 16) (hBF : ∀ j, B j + F j ≤ 10) (hp : p < m) (hP : isPr P = true) (hi : i < plen P) (hs : s < 1000) (ht : t ≤ 1000000) (h4 : plen P ≤ 4) (h256 : P < 256) (K1 : (¬ (i + 1) = (plen P)) → O none (HQ e0 e1 e2 e3 e4 e5 e6 e7 e8 e9 e10 e11 e12 e13 e14 e15 e16 e17 e18 e19 e20 e21 e22 e23 e24 e25 e26 e27 e28 e29 e30 e31 e32 e33 e34 e35 (.inl (0, 12, .inl (fun j => nI ((nuF B F) j)))) (.inl (0, 9, .inl (dL [nI m, nI (mvP m g w B F (plev P i) p (((141 * s + 187) % 1000) / 100)), nI P, nI (i + 1), nI (((141 * s) + 187) % 1000), (gn + mvD g w B F (plev P i) p ((((141 * s) + 187) % 1000) / 100)), nI (t + 1), nI g, nI w]))) e38)) (K2 : ((i + 1) = (plen P)) → O none (HQ e0 e1 e2 e3 e4 e5 e6 e7 e8 e9 e10 e11 e12 e13 e14 e15 e16 e17 e18 e19 e20 e21 e22 e23 e24 e25 e26 e27 e28 e29 e30 e31 e32 e33 e34 e35 (.inl (0, 12, .inl (fun j => nI ((nuF B F) j)))) (.inl (0, 9, .inl (dL [nI m, nI (mvP m g w B F (plev P i) p (((141 * s + 187) % 1000) / 100)), nI P, 0, nI (((141 * s) + 187) % 1000), (gn + mvD g w B F (plev P i) p ((((141 * s) + 187) % 1000) / 100)), nI (t + 1), nI g, nI w]))) e38)) : JR M_La_tick sc (0, [(0, .ref 37), (1, .ref 36)], [], (HQ e0 e1 e2 e3 e4 e5 e6 e7 e8 e9 e10 e11 e12 e13 e14 e15 e16 e17 e18 e19 e20 e21 e22 e23 e24 e25 e26 e27 e28 e29 e30 e31 e32 e33 e34 e35 (.inl (0, 12, .inl (fun j => nI ((nuF B F) j)))) (.inl (0, 9, .inl (dL [nI m, nI p, nI P, nI i, nI s, gn, nI t, nI g, nI w]))) e38), kc, kn) O := by
  refine J.gp ok_La_tick 5 (7, [(0, .ref 37), (1, .ref 36)], [.int 4, .ref 37, .int 141, .int 4, .ref 37], _, _, _) rfl ?_
  refine J.ialdB ok_La_tick 8 4 rfl rfl (rfl) (by omega) (by decide) ?_
  refine J.gp ok_La_tick 0 (8, [(0, .ref 37), (1, .ref 36)], [.int (nI s), .int 141, .int 4, .ref 37], (HQ e0 e1 e2 e3 e4 e5 e6 e7 e8 e9 e10 e11 e12 e13 e14 e15 e16 e17 e18 e19 e20 e21 e22 e23 e24 e25 e26 e27 e28 e29 e30 e31 e32 e33 e34 e35 (.inl (0, 12, .inl (fun j => nI ((nuF B F) j)))) (.inl (0, 9, .inl (dL [nI m, nI p, nI P, nI i, nI s, gn, nI t, nI g, nI w]))) e38), kc, kn) rfl ?_
  refine J.gp ok_La_tick 1 (9, [(0, .ref 37), (1, .ref 36)], [.int (141 * nI s), .int 4, .ref 37], _, _, _) rfl ?_
  rw [show ((141 * nI s) : Int32) = nI (141 * s) from pk_mul 141 s]
  refine J.gp ok_La_tick 2 (13, [(0, .ref 37), (1, .ref 36)], [.int (nI (141 * s) + 187), .int 4, .ref 37], _, _, _) rfl ?_
  rw [show ((nI (141 * s) + 187) : Int32) = nI ((141 * s) + 187) from nI_add (141 * s) 187]
  refine J.gp ok_La_tick 1 (16, [(0, .ref 37), (1, .ref 36)], [.int 1000, .int (nI ((141 * s) + 187)), .int 4, .ref 37], _, _, _) rfl ?_
  refine J.iremB ok_La_tick 17 rfl (by decide) ?_
  rw [show ((nI ((141 * s) + 187) - nI ((141 * s) + 187) / 1000 * 1000) : Int32) = nI (((141 * s) + 187) % 1000) from pk_rem (a := (141 * s) + 187) (d := 1000) (by omega) (by omega) (by omega)]
  refine J.iastB ok_La_tick 18 4 rfl rfl (rfl) (by omega) (by decide) ?_
  rw [show upd (dL [nI m, nI p, nI P, nI i, nI s, gn, nI t, nI g, nI w]) 4 (nI (((141 * s) + 187) % 1000)) = dL [nI m, nI p, nI P, nI i, nI (((141 * s) + 187) % 1000), gn, nI t, nI g, nI w] from dL_up rfl]
  refine J.gp ok_La_tick 0 (18, [(0, .ref 37), (1, .ref 36)], [], (HQ e0 e1 e2 e3 e4 e5 e6 e7 e8 e9 e10 e11 e12 e13 e14 e15 e16 e17 e18 e19 e20 e21 e22 e23 e24 e25 e26 e27 e28 e29 e30 e31 e32 e33 e34 e35 (.inl (0, 12, .inl (fun j => nI ((nuF B F) j)))) (.inl (0, 9, .inl (dL [nI m, nI p, nI P, nI i, nI (((141 * s) + 187) % 1000), gn, nI t, nI g, nI w]))) e38), kc, kn) rfl ?_
  refine J.gp ok_La_tick 2 (20, [(0, .ref 37), (1, .ref 36)], [.int 2, .ref 37], _, _, _) rfl ?_
  refine J.ialdB ok_La_tick 21 2 rfl rfl (rfl) (by omega) (by decide) ?_
  refine J.gp ok_La_tick 0 (21, [(0, .ref 37), (1, .ref 36)], [.int (nI P)], (HQ e0 e1 e2 e3 e4 e5 e6 e7 e8 e9 e10 e11 e12 e13 e14 e15 e16 e17 e18 e19 e20 e21 e22 e23 e24 e25 e26 e27 e28 e29 e30 e31 e32 e33 e34 e35 (.inl (0, 12, .inl (fun j => nI ((nuF B F) j)))) (.inl (0, 9, .inl (dL [nI m, nI p, nI P, nI i, nI (((141 * s) + 187) % 1000), gn, nI t, nI g, nI w]))) e38), kc, kn) rfl ?_
  refine J.gp ok_La_tick 2 (23, [(0, .ref 37), (1, .ref 36)], [.int 3, .ref 37, .int (nI P)], _, _, _) rfl ?_
  refine J.ialdB ok_La_tick 24 3 rfl rfl (rfl) (by omega) (by decide) ?_
  refine J.gp ok_La_tick 0 (24, [(0, .ref 37), (1, .ref 36)], [.int (nI i), .int (nI P)], (HQ e0 e1 e2 e3 e4 e5 e6 e7 e8 e9 e10 e11 e12 e13 e14 e15 e16 e17 e18 e19 e20 e21 e22 e23 e24 e25 e26 e27 e28 e29 e30 e31 e32 e33 e34 e35 (.inl (0, 12, .inl (fun j => nI ((nuF B F) j)))) (.inl (0, 9, .inl (dL [nI m, nI p, nI P, nI i, nI (((141 * s) + 187) % 1000), gn, nI t, nI g, nI w]))) e38), kc, kn) rfl ?_
  refine J.callSE s_La_tick_24 27 [.int (nI P), .int (nI i)] (c_La_leverAt (by assumption) (by first | assumption | omega)) rfl rfl (Nat.le_of_ble_eq_true rfl) rfl ?_
  refine J.gp ok_La_tick 0 (27, [(0, .ref 37), (1, .ref 36)], [.int (nI (plev P i))], (HQ e0 e1 e2 e3 e4 e5 e6 e7 e8 e9 e10 e11 e12 e13 e14 e15 e16 e17 e18 e19 e20 e21 e22 e23 e24 e25 e26 e27 e28 e29 e30 e31 e32 e33 e34 e35 (.inl (0, 12, .inl (fun j => nI ((nuF B F) j)))) (.inl (0, 9, .inl (dL [nI m, nI p, nI P, nI i, nI (((141 * s) + 187) % 1000), gn, nI t, nI g, nI w]))) e38), kc, kn) rfl ?_
  refine J.gp ok_La_tick 2 (29, [(0, .ref 37), (1, .ref 36)], [.int 1, .ref 37, .int (nI (plev P i))], _, _, _) rfl ?_
  refine J.ialdB ok_La_tick 30 1 rfl rfl (rfl) (by omega) (by decide) ?_
  refine J.gp ok_La_tick 0 (30, [(0, .ref 37), (1, .ref 36)], [.int (nI p), .int (nI (plev P i))], (HQ e0 e1 e2 e3 e4 e5 e6 e7 e8 e9 e10 e11 e12 e13 e14 e15 e16 e17 e18 e19 e20 e21 e22 e23 e24 e25 e26 e27 e28 e29 e30 e31 e32 e33 e34 e35 (.inl (0, 12, .inl (fun j => nI ((nuF B F) j)))) (.inl (0, 9, .inl (dL [nI m, nI p, nI P, nI i, nI (((141 * s) + 187) % 1000), gn, nI t, nI g, nI w]))) e38), kc, kn) rfl ?_
  refine J.gp ok_La_tick 2 (32, [(0, .ref 37), (1, .ref 36)], [.int 4, .ref 37, .int (nI p), .int (nI (plev P i))], _, _, _) rfl ?_
  refine J.ialdB ok_La_tick 33 4 rfl rfl (rfl) (by omega) (by decide) ?_
  refine J.gp ok_La_tick 0 (33, [(0, .ref 37), (1, .ref 36)], [.int (nI (((141 * s) + 187) % 1000)), .int (nI p), .int (nI (plev P i))], (HQ e0 e1 e2 e3 e4 e5 e6 e7 e8 e9 e10 e11 e12 e13 e14 e15 e16 e17 e18 e19 e20 e21 e22 e23 e24 e25 e26 e27 e28 e29 e30 e31 e32 e33 e34 e35 (.inl (0, 12, .inl (fun j => nI ((nuF B F) j)))) (.inl (0, 9, .inl (dL [nI m, nI p, nI P, nI i, nI (((141 * s) + 187) % 1000), gn, nI t, nI g, nI w]))) e38), kc, kn) rfl ?_
  refine J.gp ok_La_tick 1 (35, [(0, .ref 37), (1, .ref 36)], [.int 100, .int (nI (((141 * s) + 187) % 1000)), .int (nI p), .int (nI (plev P i))], _, _, _) rfl ?_
  refine J.idivB ok_La_tick 36 rfl (by decide) ?_
  rw [show ((nI (((141 * s) + 187) % 1000) / 100) : Int32) = nI ((((141 * s) + 187) % 1000) / 100) from pk_div (a := ((141 * s) + 187) % 1000) (d := 100) (by omega) (by omega) (by omega)]
  refine J.gp ok_La_tick 2 (38, [(0, .ref 37), (1, .ref 36)], [.ref 36, .ref 37, .int (nI ((((141 * s) + 187) % 1000) / 100)), .int (nI p), .int (nI (plev P i))], _, _, _) rfl ?_
  refine J.callSE s_La_tick_38 41 [.int (nI (plev P i)), .int (nI p), .int (nI ((((141 * s) + 187) % 1000) / 100)), .ref 37, .ref 36] (c_La_move_B hm hg hw hBF plev_lt (by omega) (by omega)) rfl rfl (Nat.le_of_ble_eq_true rfl) rfl ?_
  refine J.gp ok_La_tick 0 (41, [(0, .ref 37), (1, .ref 36)], [.int (mvD g w B F (plev P i) p ((((141 * s) + 187) % 1000) / 100))], (HQ e0 e1 e2 e3 e4 e5 e6 e7 e8 e9 e10 e11 e12 e13 e14 e15 e16 e17 e18 e19 e20 e21 e22 e23 e24 e25 e26 e27 e28 e29 e30 e31 e32 e33 e34 e35 (.inl (0, 12, .inl (fun j => nI ((nuF B F) j)))) (.inl (0, 9, .inl (dL [nI m, nI p, nI P, nI i, nI (((141 * s) + 187) % 1000), gn, nI t, nI g, nI w]))) e38), kc, kn) rfl ?_
  refine J.gp ok_La_tick 5 (46, [(0, .ref 37), (1, .ref 36), (2, .int (mvD g w B F (plev P i) p ((((141 * s) + 187) % 1000) / 100)))], [.int 1, .ref 37, .int 1, .ref 37], _, _, _) rfl ?_
  refine J.ialdB ok_La_tick 47 1 rfl rfl (rfl) (by omega) (by decide) ?_
  refine J.gp ok_La_tick 0 (47, [(0, .ref 37), (1, .ref 36), (2, .int (mvD g w B F (plev P i) p ((((141 * s) + 187) % 1000) / 100)))], [.int (nI p), .int 1, .ref 37], (HQ e0 e1 e2 e3 e4 e5 e6 e7 e8 e9 e10 e11 e12 e13 e14 e15 e16 e17 e18 e19 e20 e21 e22 e23 e24 e25 e26 e27 e28 e29 e30 e31 e32 e33 e34 e35 (.inl (0, 12, .inl (fun j => nI ((nuF B F) j)))) (.inl (0, 9, .inl (dL [nI m, nI p, nI P, nI i, nI (((141 * s) + 187) % 1000), gn, nI t, nI g, nI w]))) e38), kc, kn) rfl ?_
  refine J.gp ok_La_tick 4 (51, [(0, .ref 37), (1, .ref 36), (2, .int (mvD g w B F (plev P i) p ((((141 * s) + 187) % 1000) / 100)))], [.int 0, .ref 37, .int (nI p + mvD g w B F (plev P i) p ((((141 * s) + 187) % 1000) / 100)), .int 1, .ref 37], _, _, _) rfl ?_
  refine J.ialdB ok_La_tick 52 0 rfl rfl (rfl) (by omega) (by decide) ?_
  refine J.gp ok_La_tick 0 (52, [(0, .ref 37), (1, .ref 36), (2, .int (mvD g w B F (plev P i) p ((((141 * s) + 187) % 1000) / 100)))], [.int (nI m), .int (nI p + mvD g w B F (plev P i) p ((((141 * s) + 187) % 1000) / 100)), .int 1, .ref 37], (HQ e0 e1 e2 e3 e4 e5 e6 e7 e8 e9 e10 e11 e12 e13 e14 e15 e16 e17 e18 e19 e20 e21 e22 e23 e24 e25 e26 e27 e28 e29 e30 e31 e32 e33 e34 e35 (.inl (0, 12, .inl (fun j => nI ((nuF B F) j)))) (.inl (0, 9, .inl (dL [nI m, nI p, nI P, nI i, nI (((141 * s) + 187) % 1000), gn, nI t, nI g, nI w]))) e38), kc, kn) rfl ?_
  refine J.gp ok_La_tick 3 (55, [(0, .ref 37), (1, .ref 36), (2, .int (mvD g w B F (plev P i) p ((((141 * s) + 187) % 1000) / 100)))], [.int 0, .ref 37, .int ((nI p + mvD g w B F (plev P i) p ((((141 * s) + 187) % 1000) / 100)) + nI m), .int 1, .ref 37], _, _, _) rfl ?_
  refine J.ialdB ok_La_tick 56 0 rfl rfl (rfl) (by omega) (by decide) ?_
  refine J.gp ok_La_tick 0 (56, [(0, .ref 37), (1, .ref 36), (2, .int (mvD g w B F (plev P i) p ((((141 * s) + 187) % 1000) / 100)))], [.int (nI m), .int ((nI p + mvD g w B F (plev P i) p ((((141 * s) + 187) % 1000) / 100)) + nI m), .int 1, .ref 37], (HQ e0 e1 e2 e3 e4 e5 e6 e7 e8 e9 e10 e11 e12 e13 e14 e15 e16 e17 e18 e19 e20 e21 e22 e23 e24 e25 e26 e27 e28 e29 e30 e31 e32 e33 e34 e35 (.inl (0, 12, .inl (fun j => nI ((nuF B F) j)))) (.inl (0, 9, .inl (dL [nI m, nI p, nI P, nI i, nI (((141 * s) + 187) % 1000), gn, nI t, nI g, nI w]))) e38), kc, kn) rfl ?_
  refine J.iremB ok_La_tick 57 rfl (nI_ne0 (by omega) (by omega)) ?_
  rw [show ((((nI p + mvD g w B F (plev P i) p ((((141 * s) + 187) % 1000) / 100)) + nI m) - ((nI p + mvD g w B F (plev P i) p ((((141 * s) + 187) % 1000) / 100)) + nI m) / nI m * nI m)) = nI (mvP m g w B F (plev P i) p (((141 * s + 187) % 1000) / 100)) from pos_mv (by omega) hp]
  refine J.iastB ok_La_tick 58 1 rfl rfl (rfl) (by omega) (by decide) ?_
  rw [show upd (dL [nI m, nI p, nI P, nI i, nI (((141 * s) + 187) % 1000), gn, nI t, nI g, nI w]) 1 (nI (mvP m g w B F (plev P i) p (((141 * s + 187) % 1000) / 100))) = dL [nI m, nI (mvP m g w B F (plev P i) p (((141 * s + 187) % 1000) / 100)), nI P, nI i, nI (((141 * s) + 187) % 1000), gn, nI t, nI g, nI w] from dL_up rfl]
  refine J.gp ok_La_tick 0 (58, [(0, .ref 37), (1, .ref 36), (2, .int (mvD g w B F (plev P i) p ((((141 * s) + 187) % 1000) / 100)))], [], (HQ e0 e1 e2 e3 e4 e5 e6 e7 e8 e9 e10 e11 e12 e13 e14 e15 e16 e17 e18 e19 e20 e21 e22 e23 e24 e25 e26 e27 e28 e29 e30 e31 e32 e33 e34 e35 (.inl (0, 12, .inl (fun j => nI ((nuF B F) j)))) (.inl (0, 9, .inl (dL [nI m, nI (mvP m g w B F (plev P i) p (((141 * s + 187) % 1000) / 100)), nI P, nI i, nI (((141 * s) + 187) % 1000), gn, nI t, nI g, nI w]))) e38), kc, kn) rfl ?_
  refine J.gp ok_La_tick 3 (61, [(0, .ref 37), (1, .ref 36), (2, .int (mvD g w B F (plev P i) p ((((141 * s) + 187) % 1000) / 100)))], [.int 5, .ref 37, .int 5, .ref 37], _, _, _) rfl ?_
  refine J.ialdB ok_La_tick 62 5 rfl rfl (rfl) (by omega) (by decide) ?_
  refine J.gp ok_La_tick 0 (62, [(0, .ref 37), (1, .ref 36), (2, .int (mvD g w B F (plev P i) p ((((141 * s) + 187) % 1000) / 100)))], [.int gn, .int 5, .ref 37], (HQ e0 e1 e2 e3 e4 e5 e6 e7 e8 e9 e10 e11 e12 e13 e14 e15 e16 e17 e18 e19 e20 e21 e22 e23 e24 e25 e26 e27 e28 e29 e30 e31 e32 e33 e34 e35 (.inl (0, 12, .inl (fun j => nI ((nuF B F) j)))) (.inl (0, 9, .inl (dL [nI m, nI (mvP m g w B F (plev P i) p (((141 * s + 187) % 1000) / 100)), nI P, nI i, nI (((141 * s) + 187) % 1000), gn, nI t, nI g, nI w]))) e38), kc, kn) rfl ?_
  refine J.gp ok_La_tick 2 (64, [(0, .ref 37), (1, .ref 36), (2, .int (mvD g w B F (plev P i) p ((((141 * s) + 187) % 1000) / 100)))], [.int (gn + mvD g w B F (plev P i) p ((((141 * s) + 187) % 1000) / 100)), .int 5, .ref 37], _, _, _) rfl ?_
  refine J.iastB ok_La_tick 65 5 rfl rfl (rfl) (by omega) (by decide) ?_
  rw [show upd (dL [nI m, nI (mvP m g w B F (plev P i) p (((141 * s + 187) % 1000) / 100)), nI P, nI i, nI (((141 * s) + 187) % 1000), gn, nI t, nI g, nI w]) 5 (gn + mvD g w B F (plev P i) p ((((141 * s) + 187) % 1000) / 100)) = dL [nI m, nI (mvP m g w B F (plev P i) p (((141 * s + 187) % 1000) / 100)), nI P, nI i, nI (((141 * s) + 187) % 1000), (gn + mvD g w B F (plev P i) p ((((141 * s) + 187) % 1000) / 100)), nI t, nI g, nI w] from dL_up rfl]
  refine J.gp ok_La_tick 0 (65, [(0, .ref 37), (1, .ref 36), (2, .int (mvD g w B F (plev P i) p ((((141 * s) + 187) % 1000) / 100)))], [], (HQ e0 e1 e2 e3 e4 e5 e6 e7 e8 e9 e10 e11 e12 e13 e14 e15 e16 e17 e18 e19 e20 e21 e22 e23 e24 e25 e26 e27 e28 e29 e30 e31 e32 e33 e34 e35 (.inl (0, 12, .inl (fun j => nI ((nuF B F) j)))) (.inl (0, 9, .inl (dL [nI m, nI (mvP m g w B F (plev P i) p (((141 * s + 187) % 1000) / 100)), nI P, nI i, nI (((141 * s) + 187) % 1000), (gn + mvD g w B F (plev P i) p ((((141 * s) + 187) % 1000) / 100)), nI t, nI g, nI w]))) e38), kc, kn) rfl ?_
  refine J.gp ok_La_tick 3 (69, [(0, .ref 37), (1, .ref 36), (2, .int (mvD g w B F (plev P i) p ((((141 * s) + 187) % 1000) / 100)))], [.int 6, .ref 37, .int 6, .ref 37], _, _, _) rfl ?_
  refine J.ialdB ok_La_tick 70 6 rfl rfl (rfl) (by omega) (by decide) ?_
  refine J.gp ok_La_tick 0 (70, [(0, .ref 37), (1, .ref 36), (2, .int (mvD g w B F (plev P i) p ((((141 * s) + 187) % 1000) / 100)))], [.int (nI t), .int 6, .ref 37], (HQ e0 e1 e2 e3 e4 e5 e6 e7 e8 e9 e10 e11 e12 e13 e14 e15 e16 e17 e18 e19 e20 e21 e22 e23 e24 e25 e26 e27 e28 e29 e30 e31 e32 e33 e34 e35 (.inl (0, 12, .inl (fun j => nI ((nuF B F) j)))) (.inl (0, 9, .inl (dL [nI m, nI (mvP m g w B F (plev P i) p (((141 * s + 187) % 1000) / 100)), nI P, nI i, nI (((141 * s) + 187) % 1000), (gn + mvD g w B F (plev P i) p ((((141 * s) + 187) % 1000) / 100)), nI t, nI g, nI w]))) e38), kc, kn) rfl ?_
  refine J.gp ok_La_tick 2 (72, [(0, .ref 37), (1, .ref 36), (2, .int (mvD g w B F (plev P i) p ((((141 * s) + 187) % 1000) / 100)))], [.int (nI t + 1), .int 6, .ref 37], _, _, _) rfl ?_
  rw [show ((nI t + 1) : Int32) = nI (t + 1) from nI_add t 1]
  refine J.iastB ok_La_tick 73 6 rfl rfl (rfl) (by omega) (by decide) ?_
  rw [show upd (dL [nI m, nI (mvP m g w B F (plev P i) p (((141 * s + 187) % 1000) / 100)), nI P, nI i, nI (((141 * s) + 187) % 1000), (gn + mvD g w B F (plev P i) p ((((141 * s) + 187) % 1000) / 100)), nI t, nI g, nI w]) 6 (nI (t + 1)) = dL [nI m, nI (mvP m g w B F (plev P i) p (((141 * s + 187) % 1000) / 100)), nI P, nI i, nI (((141 * s) + 187) % 1000), (gn + mvD g w B F (plev P i) p ((((141 * s) + 187) % 1000) / 100)), nI (t + 1), nI g, nI w] from dL_up rfl]
  refine J.gp ok_La_tick 0 (73, [(0, .ref 37), (1, .ref 36), (2, .int (mvD g w B F (plev P i) p ((((141 * s) + 187) % 1000) / 100)))], [], (HQ e0 e1 e2 e3 e4 e5 e6 e7 e8 e9 e10 e11 e12 e13 e14 e15 e16 e17 e18 e19 e20 e21 e22 e23 e24 e25 e26 e27 e28 e29 e30 e31 e32 e33 e34 e35 (.inl (0, 12, .inl (fun j => nI ((nuF B F) j)))) (.inl (0, 9, .inl (dL [nI m, nI (mvP m g w B F (plev P i) p (((141 * s + 187) % 1000) / 100)), nI P, nI i, nI (((141 * s) + 187) % 1000), (gn + mvD g w B F (plev P i) p ((((141 * s) + 187) % 1000) / 100)), nI (t + 1), nI g, nI w]))) e38), kc, kn) rfl ?_
  refine J.gp ok_La_tick 4 (77, [(0, .ref 37), (1, .ref 36), (2, .int (mvD g w B F (plev P i) p ((((141 * s) + 187) % 1000) / 100)))], [.int 3, .ref 37, .int 3, .ref 37], _, _, _) rfl ?_
  refine J.ialdB ok_La_tick 78 3 rfl rfl (rfl) (by omega) (by decide) ?_
  refine J.gp ok_La_tick 0 (78, [(0, .ref 37), (1, .ref 36), (2, .int (mvD g w B F (plev P i) p ((((141 * s) + 187) % 1000) / 100)))], [.int (nI i), .int 3, .ref 37], (HQ e0 e1 e2 e3 e4 e5 e6 e7 e8 e9 e10 e11 e12 e13 e14 e15 e16 e17 e18 e19 e20 e21 e22 e23 e24 e25 e26 e27 e28 e29 e30 e31 e32 e33 e34 e35 (.inl (0, 12, .inl (fun j => nI ((nuF B F) j)))) (.inl (0, 9, .inl (dL [nI m, nI (mvP m g w B F (plev P i) p (((141 * s + 187) % 1000) / 100)), nI P, nI i, nI (((141 * s) + 187) % 1000), (gn + mvD g w B F (plev P i) p ((((141 * s) + 187) % 1000) / 100)), nI (t + 1), nI g, nI w]))) e38), kc, kn) rfl ?_
  refine J.gp ok_La_tick 2 (80, [(0, .ref 37), (1, .ref 36), (2, .int (mvD g w B F (plev P i) p ((((141 * s) + 187) % 1000) / 100)))], [.int (nI i + 1), .int 3, .ref 37], _, _, _) rfl ?_
  rw [show ((nI i + 1) : Int32) = nI (i + 1) from nI_add i 1]
  refine J.gp ok_La_tick 2 (82, [(0, .ref 37), (1, .ref 36), (2, .int (mvD g w B F (plev P i) p ((((141 * s) + 187) % 1000) / 100)))], [.int 2, .ref 37, .int (nI (i + 1)), .int 3, .ref 37], _, _, _) rfl ?_
  refine J.ialdB ok_La_tick 83 2 rfl rfl (rfl) (by omega) (by decide) ?_
  refine J.gp ok_La_tick 0 (83, [(0, .ref 37), (1, .ref 36), (2, .int (mvD g w B F (plev P i) p ((((141 * s) + 187) % 1000) / 100)))], [.int (nI P), .int (nI (i + 1)), .int 3, .ref 37], (HQ e0 e1 e2 e3 e4 e5 e6 e7 e8 e9 e10 e11 e12 e13 e14 e15 e16 e17 e18 e19 e20 e21 e22 e23 e24 e25 e26 e27 e28 e29 e30 e31 e32 e33 e34 e35 (.inl (0, 12, .inl (fun j => nI ((nuF B F) j)))) (.inl (0, 9, .inl (dL [nI m, nI (mvP m g w B F (plev P i) p (((141 * s + 187) % 1000) / 100)), nI P, nI i, nI (((141 * s) + 187) % 1000), (gn + mvD g w B F (plev P i) p ((((141 * s) + 187) % 1000) / 100)), nI (t + 1), nI g, nI w]))) e38), kc, kn) rfl ?_
  refine J.callSE s_La_tick_83 86 [.int (nI P)] (c_La_lengthOf (by omega)) rfl rfl (Nat.le_of_ble_eq_true rfl) rfl ?_
  refine J.gp ok_La_tick 0 (86, [(0, .ref 37), (1, .ref 36), (2, .int (mvD g w B F (plev P i) p ((((141 * s) + 187) % 1000) / 100)))], [.int (nI (plen P)), .int (nI (i + 1)), .int 3, .ref 37], (HQ e0 e1 e2 e3 e4 e5 e6 e7 e8 e9 e10 e11 e12 e13 e14 e15 e16 e17 e18 e19 e20 e21 e22 e23 e24 e25 e26 e27 e28 e29 e30 e31 e32 e33 e34 e35 (.inl (0, 12, .inl (fun j => nI ((nuF B F) j)))) (.inl (0, 9, .inl (dL [nI m, nI (mvP m g w B F (plev P i) p (((141 * s + 187) % 1000) / 100)), nI P, nI i, nI (((141 * s) + 187) % 1000), (gn + mvD g w B F (plev P i) p ((((141 * s) + 187) % 1000) / 100)), nI (t + 1), nI g, nI w]))) e38), kc, kn) rfl ?_
  refine J.icB ok_La_tick (fun x y => ¬ x = y) 93 89 rfl (fun (h0 : ¬ nI (i + 1) = nI (plen P)) => ?_) (fun (h0 : ¬ (¬ nI (i + 1) = nI (plen P))) => ?_)
  · have c86 : ¬ (i + 1) = (plen P) := fun h9 => h0 ((nI_eq (a := i + 1) (b := plen P) (by omega) (by omega)).mpr h9)
    refine J.gp ok_La_tick 2 (95, [(0, .ref 37), (1, .ref 36), (2, .int (mvD g w B F (plev P i) p ((((141 * s) + 187) % 1000) / 100)))], [.int 3, .ref 37, .int 3, .ref 37], _, _, _) rfl ?_
    refine J.ialdB ok_La_tick 96 3 rfl rfl (rfl) (by omega) (by decide) ?_
    refine J.gp ok_La_tick 0 (96, [(0, .ref 37), (1, .ref 36), (2, .int (mvD g w B F (plev P i) p ((((141 * s) + 187) % 1000) / 100)))], [.int (nI i), .int 3, .ref 37], (HQ e0 e1 e2 e3 e4 e5 e6 e7 e8 e9 e10 e11 e12 e13 e14 e15 e16 e17 e18 e19 e20 e21 e22 e23 e24 e25 e26 e27 e28 e29 e30 e31 e32 e33 e34 e35 (.inl (0, 12, .inl (fun j => nI ((nuF B F) j)))) (.inl (0, 9, .inl (dL [nI m, nI (mvP m g w B F (plev P i) p (((141 * s + 187) % 1000) / 100)), nI P, nI i, nI (((141 * s) + 187) % 1000), (gn + mvD g w B F (plev P i) p ((((141 * s) + 187) % 1000) / 100)), nI (t + 1), nI g, nI w]))) e38), kc, kn) rfl ?_
    refine J.gp ok_La_tick 2 (98, [(0, .ref 37), (1, .ref 36), (2, .int (mvD g w B F (plev P i) p ((((141 * s) + 187) % 1000) / 100)))], [.int (nI i + 1), .int 3, .ref 37], _, _, _) rfl ?_
    rw [show ((nI i + 1) : Int32) = nI (i + 1) from nI_add i 1]
    refine J.iastB ok_La_tick 99 3 rfl rfl (rfl) (by omega) (by decide) ?_
    rw [show upd (dL [nI m, nI (mvP m g w B F (plev P i) p (((141 * s + 187) % 1000) / 100)), nI P, nI i, nI (((141 * s) + 187) % 1000), (gn + mvD g w B F (plev P i) p ((((141 * s) + 187) % 1000) / 100)), nI (t + 1), nI g, nI w]) 3 (nI (i + 1)) = dL [nI m, nI (mvP m g w B F (plev P i) p (((141 * s + 187) % 1000) / 100)), nI P, nI (i + 1), nI (((141 * s) + 187) % 1000), (gn + mvD g w B F (plev P i) p ((((141 * s) + 187) % 1000) / 100)), nI (t + 1), nI g, nI w] from dL_up rfl]
    refine J.gp ok_La_tick 0 (99, [(0, .ref 37), (1, .ref 36), (2, .int (mvD g w B F (plev P i) p ((((141 * s) + 187) % 1000) / 100)))], [], (HQ e0 e1 e2 e3 e4 e5 e6 e7 e8 e9 e10 e11 e12 e13 e14 e15 e16 e17 e18 e19 e20 e21 e22 e23 e24 e25 e26 e27 e28 e29 e30 e31 e32 e33 e34 e35 (.inl (0, 12, .inl (fun j => nI ((nuF B F) j)))) (.inl (0, 9, .inl (dL [nI m, nI (mvP m g w B F (plev P i) p (((141 * s + 187) % 1000) / 100)), nI P, nI (i + 1), nI (((141 * s) + 187) % 1000), (gn + mvD g w B F (plev P i) p ((((141 * s) + 187) % 1000) / 100)), nI (t + 1), nI g, nI w]))) e38), kc, kn) rfl ?_
    refine JR.vret (by decide +kernel) rfl ?_
    exact K1 c86
  · have c86 : (i + 1) = (plen P) := (nI_eq (a := i + 1) (b := plen P) (by omega) (by omega)).mp (Classical.byContradiction h0)
    refine J.gp ok_La_tick 2 (98, [(0, .ref 37), (1, .ref 36), (2, .int (mvD g w B F (plev P i) p ((((141 * s) + 187) % 1000) / 100)))], [.int 0, .int 3, .ref 37], _, _, _) rfl ?_
    refine J.iastB ok_La_tick 99 3 rfl rfl (rfl) (by omega) (by decide) ?_
    rw [show upd (dL [nI m, nI (mvP m g w B F (plev P i) p (((141 * s + 187) % 1000) / 100)), nI P, nI i, nI (((141 * s) + 187) % 1000), (gn + mvD g w B F (plev P i) p ((((141 * s) + 187) % 1000) / 100)), nI (t + 1), nI g, nI w]) 3 0 = dL [nI m, nI (mvP m g w B F (plev P i) p (((141 * s + 187) % 1000) / 100)), nI P, 0, nI (((141 * s) + 187) % 1000), (gn + mvD g w B F (plev P i) p ((((141 * s) + 187) % 1000) / 100)), nI (t + 1), nI g, nI w] from dL_up rfl]
    refine J.gp ok_La_tick 0 (99, [(0, .ref 37), (1, .ref 36), (2, .int (mvD g w B F (plev P i) p ((((141 * s) + 187) % 1000) / 100)))], [], (HQ e0 e1 e2 e3 e4 e5 e6 e7 e8 e9 e10 e11 e12 e13 e14 e15 e16 e17 e18 e19 e20 e21 e22 e23 e24 e25 e26 e27 e28 e29 e30 e31 e32 e33 e34 e35 (.inl (0, 12, .inl (fun j => nI ((nuF B F) j)))) (.inl (0, 9, .inl (dL [nI m, nI (mvP m g w B F (plev P i) p (((141 * s + 187) % 1000) / 100)), nI P, 0, nI (((141 * s) + 187) % 1000), (gn + mvD g w B F (plev P i) p ((((141 * s) + 187) % 1000) / 100)), nI (t + 1), nI g, nI w]))) e38), kc, kn) rfl ?_
    refine JR.vret (by decide +kernel) rfl ?_
    exact K2 c86

theorem c_La_tick_B {e0 e1 e2 e3 e4 e5 e6 e7 e8 e9 e10 e11 e12 e13 e14 e15 e16 e17 e18 e19 e20 e21 e22 e23 e24 e25 e26 e27 e28 e29 e30 e31 e32 e33 e34 e35 e38 : va_E} {m p P i s t g w : Nat} {gn : Int32} {B F : Nat → Nat} (hm : 0 < m ∧ m ≤ 4) (hg : g < 8) (hw : w < 16) (hBF : ∀ j, B j + F j ≤ 10) (hp : p < m) (hP : isPr P = true) (hi : i < plen P) (hs : s < 1000) (ht : t ≤ 1000000) : JE M_La_tick [.ref 37, .ref 36] (HQ e0 e1 e2 e3 e4 e5 e6 e7 e8 e9 e10 e11 e12 e13 e14 e15 e16 e17 e18 e19 e20 e21 e22 e23 e24 e25 e26 e27 e28 e29 e30 e31 e32 e33 e34 e35 (.inl (0, 12, .inl (fun j => nI ((nuF B F) j)))) (.inl (0, 9, .inl (dL [nI m, nI p, nI P, nI i, nI s, gn, nI t, nI g, nI w]))) e38) none (HQ e0 e1 e2 e3 e4 e5 e6 e7 e8 e9 e10 e11 e12 e13 e14 e15 e16 e17 e18 e19 e20 e21 e22 e23 e24 e25 e26 e27 e28 e29 e30 e31 e32 e33 e34 e35 (.inl (0, 12, .inl (fun j => nI ((nuF B F) j)))) (.inl (0, 9, .inl (dL [nI m, nI (tkP m g w B F P p i s), nI P, nI (pnx P i), nI (tkS s), gn + tkD g w B F P p i s, nI (t + 1), nI g, nI w]))) e38) := by
  refine JM.of (by decide +kernel) rfl (Nat.le_of_ble_eq_true rfl) (g_La_tick_B hm hg hw hBF hp hP hi hs ht (plen_le P) (isPr_bd hP).2 (fun c => ⟨rfl, ?_⟩) (fun c => ⟨rfl, ?_⟩))
  · have e : pnx P i = i + 1 := if_pos (by omega)
    rw [e]
    first | done | rfl
  · have e : pnx P i = 0 := if_neg (by omega)
    rw [e]
    first | done | rfl

set_option maxRecDepth 100000 in
set_option maxHeartbeats 400000 in
theorem g_La_tick_C {sc : aScr} {e0 e1 e2 e3 e4 e5 e6 e7 e8 e9 e10 e11 e12 e13 e14 e15 e16 e17 e18 e19 e20 e21 e22 e23 e24 e25 e26 e27 e28 e29 e30 e31 e32 e33 e34 e35 e37 : va_E} {m p P i s t g w : Nat} {gn : Int32} {B F : Nat → Nat} {kc kn : Nat} {O : Option Value → aH → Prop} (hm : 0 < m ∧ m ≤ 4) (hg : g < 8) (hw : w < 16) (hBF : ∀ j, B j + F j ≤ 10) (hp : p < m) (hP : isPr P = true) (hi : i < plen P) (hs : s < 1000) (ht : t ≤ 1000000) (h4 : plen P ≤ 4) (h256 : P < 256) (K1 : (¬ (i + 1) = (plen P)) → O none (HQ e0 e1 e2 e3 e4 e5 e6 e7 e8 e9 e10 e11 e12 e13 e14 e15 e16 e17 e18 e19 e20 e21 e22 e23 e24 e25 e26 e27 e28 e29 e30 e31 e32 e33 e34 e35 (.inl (0, 12, .inl (fun j => nI ((nuF B F) j)))) e37 (.inl (0, 9, .inl (dL [nI m, nI (mvP m g w B F (plev P i) p (((141 * s + 187) % 1000) / 100)), nI P, nI (i + 1), nI (((141 * s) + 187) % 1000), (gn + mvD g w B F (plev P i) p ((((141 * s) + 187) % 1000) / 100)), nI (t + 1), nI g, nI w]))))) (K2 : ((i + 1) = (plen P)) → O none (HQ e0 e1 e2 e3 e4 e5 e6 e7 e8 e9 e10 e11 e12 e13 e14 e15 e16 e17 e18 e19 e20 e21 e22 e23 e24 e25 e26 e27 e28 e29 e30 e31 e32 e33 e34 e35 (.inl (0, 12, .inl (fun j => nI ((nuF B F) j)))) e37 (.inl (0, 9, .inl (dL [nI m, nI (mvP m g w B F (plev P i) p (((141 * s + 187) % 1000) / 100)), nI P, 0, nI (((141 * s) + 187) % 1000), (gn + mvD g w B F (plev P i) p ((((141 * s) + 187) % 1000) / 100)), nI (t + 1), nI g, nI w]))))) : JR M_La_tick sc (0, [(0, .ref 38), (1, .ref 36)], [], (HQ e0 e1 e2 e3 e4 e5 e6 e7 e8 e9 e10 e11 e12 e13 e14 e15 e16 e17 e18 e19 e20 e21 e22 e23 e24 e25 e26 e27 e28 e29 e30 e31 e32 e33 e34 e35 (.inl (0, 12, .inl (fun j => nI ((nuF B F) j)))) e37 (.inl (0, 9, .inl (dL [nI m, nI p, nI P, nI i, nI s, gn, nI t, nI g, nI w])))), kc, kn) O := by
  refine J.gp ok_La_tick 5 (7, [(0, .ref 38), (1, .ref 36)], [.int 4, .ref 38, .int 141, .int 4, .ref 38], _, _, _) rfl ?_
  refine J.ialdB ok_La_tick 8 4 rfl rfl (rfl) (by omega) (by decide) ?_
  refine J.gp ok_La_tick 0 (8, [(0, .ref 38), (1, .ref 36)], [.int (nI s), .int 141, .int 4, .ref 38], (HQ e0 e1 e2 e3 e4 e5 e6 e7 e8 e9 e10 e11 e12 e13 e14 e15 e16 e17 e18 e19 e20 e21 e22 e23 e24 e25 e26 e27 e28 e29 e30 e31 e32 e33 e34 e35 (.inl (0, 12, .inl (fun j => nI ((nuF B F) j)))) e37 (.inl (0, 9, .inl (dL [nI m, nI p, nI P, nI i, nI s, gn, nI t, nI g, nI w])))), kc, kn) rfl ?_
  refine J.gp ok_La_tick 1 (9, [(0, .ref 38), (1, .ref 36)], [.int (141 * nI s), .int 4, .ref 38], _, _, _) rfl ?_
  rw [show ((141 * nI s) : Int32) = nI (141 * s) from pk_mul 141 s]
  refine J.gp ok_La_tick 2 (13, [(0, .ref 38), (1, .ref 36)], [.int (nI (141 * s) + 187), .int 4, .ref 38], _, _, _) rfl ?_
  rw [show ((nI (141 * s) + 187) : Int32) = nI ((141 * s) + 187) from nI_add (141 * s) 187]
  refine J.gp ok_La_tick 1 (16, [(0, .ref 38), (1, .ref 36)], [.int 1000, .int (nI ((141 * s) + 187)), .int 4, .ref 38], _, _, _) rfl ?_
  refine J.iremB ok_La_tick 17 rfl (by decide) ?_
  rw [show ((nI ((141 * s) + 187) - nI ((141 * s) + 187) / 1000 * 1000) : Int32) = nI (((141 * s) + 187) % 1000) from pk_rem (a := (141 * s) + 187) (d := 1000) (by omega) (by omega) (by omega)]
  refine J.iastB ok_La_tick 18 4 rfl rfl (rfl) (by omega) (by decide) ?_
  rw [show upd (dL [nI m, nI p, nI P, nI i, nI s, gn, nI t, nI g, nI w]) 4 (nI (((141 * s) + 187) % 1000)) = dL [nI m, nI p, nI P, nI i, nI (((141 * s) + 187) % 1000), gn, nI t, nI g, nI w] from dL_up rfl]
  refine J.gp ok_La_tick 0 (18, [(0, .ref 38), (1, .ref 36)], [], (HQ e0 e1 e2 e3 e4 e5 e6 e7 e8 e9 e10 e11 e12 e13 e14 e15 e16 e17 e18 e19 e20 e21 e22 e23 e24 e25 e26 e27 e28 e29 e30 e31 e32 e33 e34 e35 (.inl (0, 12, .inl (fun j => nI ((nuF B F) j)))) e37 (.inl (0, 9, .inl (dL [nI m, nI p, nI P, nI i, nI (((141 * s) + 187) % 1000), gn, nI t, nI g, nI w])))), kc, kn) rfl ?_
  refine J.gp ok_La_tick 2 (20, [(0, .ref 38), (1, .ref 36)], [.int 2, .ref 38], _, _, _) rfl ?_
  refine J.ialdB ok_La_tick 21 2 rfl rfl (rfl) (by omega) (by decide) ?_
  refine J.gp ok_La_tick 0 (21, [(0, .ref 38), (1, .ref 36)], [.int (nI P)], (HQ e0 e1 e2 e3 e4 e5 e6 e7 e8 e9 e10 e11 e12 e13 e14 e15 e16 e17 e18 e19 e20 e21 e22 e23 e24 e25 e26 e27 e28 e29 e30 e31 e32 e33 e34 e35 (.inl (0, 12, .inl (fun j => nI ((nuF B F) j)))) e37 (.inl (0, 9, .inl (dL [nI m, nI p, nI P, nI i, nI (((141 * s) + 187) % 1000), gn, nI t, nI g, nI w])))), kc, kn) rfl ?_
  refine J.gp ok_La_tick 2 (23, [(0, .ref 38), (1, .ref 36)], [.int 3, .ref 38, .int (nI P)], _, _, _) rfl ?_
  refine J.ialdB ok_La_tick 24 3 rfl rfl (rfl) (by omega) (by decide) ?_
  refine J.gp ok_La_tick 0 (24, [(0, .ref 38), (1, .ref 36)], [.int (nI i), .int (nI P)], (HQ e0 e1 e2 e3 e4 e5 e6 e7 e8 e9 e10 e11 e12 e13 e14 e15 e16 e17 e18 e19 e20 e21 e22 e23 e24 e25 e26 e27 e28 e29 e30 e31 e32 e33 e34 e35 (.inl (0, 12, .inl (fun j => nI ((nuF B F) j)))) e37 (.inl (0, 9, .inl (dL [nI m, nI p, nI P, nI i, nI (((141 * s) + 187) % 1000), gn, nI t, nI g, nI w])))), kc, kn) rfl ?_
  refine J.callSE s_La_tick_24 27 [.int (nI P), .int (nI i)] (c_La_leverAt (by assumption) (by first | assumption | omega)) rfl rfl (Nat.le_of_ble_eq_true rfl) rfl ?_
  refine J.gp ok_La_tick 0 (27, [(0, .ref 38), (1, .ref 36)], [.int (nI (plev P i))], (HQ e0 e1 e2 e3 e4 e5 e6 e7 e8 e9 e10 e11 e12 e13 e14 e15 e16 e17 e18 e19 e20 e21 e22 e23 e24 e25 e26 e27 e28 e29 e30 e31 e32 e33 e34 e35 (.inl (0, 12, .inl (fun j => nI ((nuF B F) j)))) e37 (.inl (0, 9, .inl (dL [nI m, nI p, nI P, nI i, nI (((141 * s) + 187) % 1000), gn, nI t, nI g, nI w])))), kc, kn) rfl ?_
  refine J.gp ok_La_tick 2 (29, [(0, .ref 38), (1, .ref 36)], [.int 1, .ref 38, .int (nI (plev P i))], _, _, _) rfl ?_
  refine J.ialdB ok_La_tick 30 1 rfl rfl (rfl) (by omega) (by decide) ?_
  refine J.gp ok_La_tick 0 (30, [(0, .ref 38), (1, .ref 36)], [.int (nI p), .int (nI (plev P i))], (HQ e0 e1 e2 e3 e4 e5 e6 e7 e8 e9 e10 e11 e12 e13 e14 e15 e16 e17 e18 e19 e20 e21 e22 e23 e24 e25 e26 e27 e28 e29 e30 e31 e32 e33 e34 e35 (.inl (0, 12, .inl (fun j => nI ((nuF B F) j)))) e37 (.inl (0, 9, .inl (dL [nI m, nI p, nI P, nI i, nI (((141 * s) + 187) % 1000), gn, nI t, nI g, nI w])))), kc, kn) rfl ?_
  refine J.gp ok_La_tick 2 (32, [(0, .ref 38), (1, .ref 36)], [.int 4, .ref 38, .int (nI p), .int (nI (plev P i))], _, _, _) rfl ?_
  refine J.ialdB ok_La_tick 33 4 rfl rfl (rfl) (by omega) (by decide) ?_
  refine J.gp ok_La_tick 0 (33, [(0, .ref 38), (1, .ref 36)], [.int (nI (((141 * s) + 187) % 1000)), .int (nI p), .int (nI (plev P i))], (HQ e0 e1 e2 e3 e4 e5 e6 e7 e8 e9 e10 e11 e12 e13 e14 e15 e16 e17 e18 e19 e20 e21 e22 e23 e24 e25 e26 e27 e28 e29 e30 e31 e32 e33 e34 e35 (.inl (0, 12, .inl (fun j => nI ((nuF B F) j)))) e37 (.inl (0, 9, .inl (dL [nI m, nI p, nI P, nI i, nI (((141 * s) + 187) % 1000), gn, nI t, nI g, nI w])))), kc, kn) rfl ?_
  refine J.gp ok_La_tick 1 (35, [(0, .ref 38), (1, .ref 36)], [.int 100, .int (nI (((141 * s) + 187) % 1000)), .int (nI p), .int (nI (plev P i))], _, _, _) rfl ?_
  refine J.idivB ok_La_tick 36 rfl (by decide) ?_
  rw [show ((nI (((141 * s) + 187) % 1000) / 100) : Int32) = nI ((((141 * s) + 187) % 1000) / 100) from pk_div (a := ((141 * s) + 187) % 1000) (d := 100) (by omega) (by omega) (by omega)]
  refine J.gp ok_La_tick 2 (38, [(0, .ref 38), (1, .ref 36)], [.ref 36, .ref 38, .int (nI ((((141 * s) + 187) % 1000) / 100)), .int (nI p), .int (nI (plev P i))], _, _, _) rfl ?_
  refine J.callSE s_La_tick_38 41 [.int (nI (plev P i)), .int (nI p), .int (nI ((((141 * s) + 187) % 1000) / 100)), .ref 38, .ref 36] (c_La_move_C hm hg hw hBF plev_lt (by omega) (by omega)) rfl rfl (Nat.le_of_ble_eq_true rfl) rfl ?_
  refine J.gp ok_La_tick 0 (41, [(0, .ref 38), (1, .ref 36)], [.int (mvD g w B F (plev P i) p ((((141 * s) + 187) % 1000) / 100))], (HQ e0 e1 e2 e3 e4 e5 e6 e7 e8 e9 e10 e11 e12 e13 e14 e15 e16 e17 e18 e19 e20 e21 e22 e23 e24 e25 e26 e27 e28 e29 e30 e31 e32 e33 e34 e35 (.inl (0, 12, .inl (fun j => nI ((nuF B F) j)))) e37 (.inl (0, 9, .inl (dL [nI m, nI p, nI P, nI i, nI (((141 * s) + 187) % 1000), gn, nI t, nI g, nI w])))), kc, kn) rfl ?_
  refine J.gp ok_La_tick 5 (46, [(0, .ref 38), (1, .ref 36), (2, .int (mvD g w B F (plev P i) p ((((141 * s) + 187) % 1000) / 100)))], [.int 1, .ref 38, .int 1, .ref 38], _, _, _) rfl ?_
  refine J.ialdB ok_La_tick 47 1 rfl rfl (rfl) (by omega) (by decide) ?_
  refine J.gp ok_La_tick 0 (47, [(0, .ref 38), (1, .ref 36), (2, .int (mvD g w B F (plev P i) p ((((141 * s) + 187) % 1000) / 100)))], [.int (nI p), .int 1, .ref 38], (HQ e0 e1 e2 e3 e4 e5 e6 e7 e8 e9 e10 e11 e12 e13 e14 e15 e16 e17 e18 e19 e20 e21 e22 e23 e24 e25 e26 e27 e28 e29 e30 e31 e32 e33 e34 e35 (.inl (0, 12, .inl (fun j => nI ((nuF B F) j)))) e37 (.inl (0, 9, .inl (dL [nI m, nI p, nI P, nI i, nI (((141 * s) + 187) % 1000), gn, nI t, nI g, nI w])))), kc, kn) rfl ?_
  refine J.gp ok_La_tick 4 (51, [(0, .ref 38), (1, .ref 36), (2, .int (mvD g w B F (plev P i) p ((((141 * s) + 187) % 1000) / 100)))], [.int 0, .ref 38, .int (nI p + mvD g w B F (plev P i) p ((((141 * s) + 187) % 1000) / 100)), .int 1, .ref 38], _, _, _) rfl ?_
  refine J.ialdB ok_La_tick 52 0 rfl rfl (rfl) (by omega) (by decide) ?_
  refine J.gp ok_La_tick 0 (52, [(0, .ref 38), (1, .ref 36), (2, .int (mvD g w B F (plev P i) p ((((141 * s) + 187) % 1000) / 100)))], [.int (nI m), .int (nI p + mvD g w B F (plev P i) p ((((141 * s) + 187) % 1000) / 100)), .int 1, .ref 38], (HQ e0 e1 e2 e3 e4 e5 e6 e7 e8 e9 e10 e11 e12 e13 e14 e15 e16 e17 e18 e19 e20 e21 e22 e23 e24 e25 e26 e27 e28 e29 e30 e31 e32 e33 e34 e35 (.inl (0, 12, .inl (fun j => nI ((nuF B F) j)))) e37 (.inl (0, 9, .inl (dL [nI m, nI p, nI P, nI i, nI (((141 * s) + 187) % 1000), gn, nI t, nI g, nI w])))), kc, kn) rfl ?_
  refine J.gp ok_La_tick 3 (55, [(0, .ref 38), (1, .ref 36), (2, .int (mvD g w B F (plev P i) p ((((141 * s) + 187) % 1000) / 100)))], [.int 0, .ref 38, .int ((nI p + mvD g w B F (plev P i) p ((((141 * s) + 187) % 1000) / 100)) + nI m), .int 1, .ref 38], _, _, _) rfl ?_
  refine J.ialdB ok_La_tick 56 0 rfl rfl (rfl) (by omega) (by decide) ?_
  refine J.gp ok_La_tick 0 (56, [(0, .ref 38), (1, .ref 36), (2, .int (mvD g w B F (plev P i) p ((((141 * s) + 187) % 1000) / 100)))], [.int (nI m), .int ((nI p + mvD g w B F (plev P i) p ((((141 * s) + 187) % 1000) / 100)) + nI m), .int 1, .ref 38], (HQ e0 e1 e2 e3 e4 e5 e6 e7 e8 e9 e10 e11 e12 e13 e14 e15 e16 e17 e18 e19 e20 e21 e22 e23 e24 e25 e26 e27 e28 e29 e30 e31 e32 e33 e34 e35 (.inl (0, 12, .inl (fun j => nI ((nuF B F) j)))) e37 (.inl (0, 9, .inl (dL [nI m, nI p, nI P, nI i, nI (((141 * s) + 187) % 1000), gn, nI t, nI g, nI w])))), kc, kn) rfl ?_
  refine J.iremB ok_La_tick 57 rfl (nI_ne0 (by omega) (by omega)) ?_
  rw [show ((((nI p + mvD g w B F (plev P i) p ((((141 * s) + 187) % 1000) / 100)) + nI m) - ((nI p + mvD g w B F (plev P i) p ((((141 * s) + 187) % 1000) / 100)) + nI m) / nI m * nI m)) = nI (mvP m g w B F (plev P i) p (((141 * s + 187) % 1000) / 100)) from pos_mv (by omega) hp]
  refine J.iastB ok_La_tick 58 1 rfl rfl (rfl) (by omega) (by decide) ?_
  rw [show upd (dL [nI m, nI p, nI P, nI i, nI (((141 * s) + 187) % 1000), gn, nI t, nI g, nI w]) 1 (nI (mvP m g w B F (plev P i) p (((141 * s + 187) % 1000) / 100))) = dL [nI m, nI (mvP m g w B F (plev P i) p (((141 * s + 187) % 1000) / 100)), nI P, nI i, nI (((141 * s) + 187) % 1000), gn, nI t, nI g, nI w] from dL_up rfl]
  refine J.gp ok_La_tick 0 (58, [(0, .ref 38), (1, .ref 36), (2, .int (mvD g w B F (plev P i) p ((((141 * s) + 187) % 1000) / 100)))], [], (HQ e0 e1 e2 e3 e4 e5 e6 e7 e8 e9 e10 e11 e12 e13 e14 e15 e16 e17 e18 e19 e20 e21 e22 e23 e24 e25 e26 e27 e28 e29 e30 e31 e32 e33 e34 e35 (.inl (0, 12, .inl (fun j => nI ((nuF B F) j)))) e37 (.inl (0, 9, .inl (dL [nI m, nI (mvP m g w B F (plev P i) p (((141 * s + 187) % 1000) / 100)), nI P, nI i, nI (((141 * s) + 187) % 1000), gn, nI t, nI g, nI w])))), kc, kn) rfl ?_
  refine J.gp ok_La_tick 3 (61, [(0, .ref 38), (1, .ref 36), (2, .int (mvD g w B F (plev P i) p ((((141 * s) + 187) % 1000) / 100)))], [.int 5, .ref 38, .int 5, .ref 38], _, _, _) rfl ?_
  refine J.ialdB ok_La_tick 62 5 rfl rfl (rfl) (by omega) (by decide) ?_
  refine J.gp ok_La_tick 0 (62, [(0, .ref 38), (1, .ref 36), (2, .int (mvD g w B F (plev P i) p ((((141 * s) + 187) % 1000) / 100)))], [.int gn, .int 5, .ref 38], (HQ e0 e1 e2 e3 e4 e5 e6 e7 e8 e9 e10 e11 e12 e13 e14 e15 e16 e17 e18 e19 e20 e21 e22 e23 e24 e25 e26 e27 e28 e29 e30 e31 e32 e33 e34 e35 (.inl (0, 12, .inl (fun j => nI ((nuF B F) j)))) e37 (.inl (0, 9, .inl (dL [nI m, nI (mvP m g w B F (plev P i) p (((141 * s + 187) % 1000) / 100)), nI P, nI i, nI (((141 * s) + 187) % 1000), gn, nI t, nI g, nI w])))), kc, kn) rfl ?_
  refine J.gp ok_La_tick 2 (64, [(0, .ref 38), (1, .ref 36), (2, .int (mvD g w B F (plev P i) p ((((141 * s) + 187) % 1000) / 100)))], [.int (gn + mvD g w B F (plev P i) p ((((141 * s) + 187) % 1000) / 100)), .int 5, .ref 38], _, _, _) rfl ?_
  refine J.iastB ok_La_tick 65 5 rfl rfl (rfl) (by omega) (by decide) ?_
  rw [show upd (dL [nI m, nI (mvP m g w B F (plev P i) p (((141 * s + 187) % 1000) / 100)), nI P, nI i, nI (((141 * s) + 187) % 1000), gn, nI t, nI g, nI w]) 5 (gn + mvD g w B F (plev P i) p ((((141 * s) + 187) % 1000) / 100)) = dL [nI m, nI (mvP m g w B F (plev P i) p (((141 * s + 187) % 1000) / 100)), nI P, nI i, nI (((141 * s) + 187) % 1000), (gn + mvD g w B F (plev P i) p ((((141 * s) + 187) % 1000) / 100)), nI t, nI g, nI w] from dL_up rfl]
  refine J.gp ok_La_tick 0 (65, [(0, .ref 38), (1, .ref 36), (2, .int (mvD g w B F (plev P i) p ((((141 * s) + 187) % 1000) / 100)))], [], (HQ e0 e1 e2 e3 e4 e5 e6 e7 e8 e9 e10 e11 e12 e13 e14 e15 e16 e17 e18 e19 e20 e21 e22 e23 e24 e25 e26 e27 e28 e29 e30 e31 e32 e33 e34 e35 (.inl (0, 12, .inl (fun j => nI ((nuF B F) j)))) e37 (.inl (0, 9, .inl (dL [nI m, nI (mvP m g w B F (plev P i) p (((141 * s + 187) % 1000) / 100)), nI P, nI i, nI (((141 * s) + 187) % 1000), (gn + mvD g w B F (plev P i) p ((((141 * s) + 187) % 1000) / 100)), nI t, nI g, nI w])))), kc, kn) rfl ?_
  refine J.gp ok_La_tick 3 (69, [(0, .ref 38), (1, .ref 36), (2, .int (mvD g w B F (plev P i) p ((((141 * s) + 187) % 1000) / 100)))], [.int 6, .ref 38, .int 6, .ref 38], _, _, _) rfl ?_
  refine J.ialdB ok_La_tick 70 6 rfl rfl (rfl) (by omega) (by decide) ?_
  refine J.gp ok_La_tick 0 (70, [(0, .ref 38), (1, .ref 36), (2, .int (mvD g w B F (plev P i) p ((((141 * s) + 187) % 1000) / 100)))], [.int (nI t), .int 6, .ref 38], (HQ e0 e1 e2 e3 e4 e5 e6 e7 e8 e9 e10 e11 e12 e13 e14 e15 e16 e17 e18 e19 e20 e21 e22 e23 e24 e25 e26 e27 e28 e29 e30 e31 e32 e33 e34 e35 (.inl (0, 12, .inl (fun j => nI ((nuF B F) j)))) e37 (.inl (0, 9, .inl (dL [nI m, nI (mvP m g w B F (plev P i) p (((141 * s + 187) % 1000) / 100)), nI P, nI i, nI (((141 * s) + 187) % 1000), (gn + mvD g w B F (plev P i) p ((((141 * s) + 187) % 1000) / 100)), nI t, nI g, nI w])))), kc, kn) rfl ?_
  refine J.gp ok_La_tick 2 (72, [(0, .ref 38), (1, .ref 36), (2, .int (mvD g w B F (plev P i) p ((((141 * s) + 187) % 1000) / 100)))], [.int (nI t + 1), .int 6, .ref 38], _, _, _) rfl ?_
  rw [show ((nI t + 1) : Int32) = nI (t + 1) from nI_add t 1]
  refine J.iastB ok_La_tick 73 6 rfl rfl (rfl) (by omega) (by decide) ?_
  rw [show upd (dL [nI m, nI (mvP m g w B F (plev P i) p (((141 * s + 187) % 1000) / 100)), nI P, nI i, nI (((141 * s) + 187) % 1000), (gn + mvD g w B F (plev P i) p ((((141 * s) + 187) % 1000) / 100)), nI t, nI g, nI w]) 6 (nI (t + 1)) = dL [nI m, nI (mvP m g w B F (plev P i) p (((141 * s + 187) % 1000) / 100)), nI P, nI i, nI (((141 * s) + 187) % 1000), (gn + mvD g w B F (plev P i) p ((((141 * s) + 187) % 1000) / 100)), nI (t + 1), nI g, nI w] from dL_up rfl]
  refine J.gp ok_La_tick 0 (73, [(0, .ref 38), (1, .ref 36), (2, .int (mvD g w B F (plev P i) p ((((141 * s) + 187) % 1000) / 100)))], [], (HQ e0 e1 e2 e3 e4 e5 e6 e7 e8 e9 e10 e11 e12 e13 e14 e15 e16 e17 e18 e19 e20 e21 e22 e23 e24 e25 e26 e27 e28 e29 e30 e31 e32 e33 e34 e35 (.inl (0, 12, .inl (fun j => nI ((nuF B F) j)))) e37 (.inl (0, 9, .inl (dL [nI m, nI (mvP m g w B F (plev P i) p (((141 * s + 187) % 1000) / 100)), nI P, nI i, nI (((141 * s) + 187) % 1000), (gn + mvD g w B F (plev P i) p ((((141 * s) + 187) % 1000) / 100)), nI (t + 1), nI g, nI w])))), kc, kn) rfl ?_
  refine J.gp ok_La_tick 4 (77, [(0, .ref 38), (1, .ref 36), (2, .int (mvD g w B F (plev P i) p ((((141 * s) + 187) % 1000) / 100)))], [.int 3, .ref 38, .int 3, .ref 38], _, _, _) rfl ?_
  refine J.ialdB ok_La_tick 78 3 rfl rfl (rfl) (by omega) (by decide) ?_
  refine J.gp ok_La_tick 0 (78, [(0, .ref 38), (1, .ref 36), (2, .int (mvD g w B F (plev P i) p ((((141 * s) + 187) % 1000) / 100)))], [.int (nI i), .int 3, .ref 38], (HQ e0 e1 e2 e3 e4 e5 e6 e7 e8 e9 e10 e11 e12 e13 e14 e15 e16 e17 e18 e19 e20 e21 e22 e23 e24 e25 e26 e27 e28 e29 e30 e31 e32 e33 e34 e35 (.inl (0, 12, .inl (fun j => nI ((nuF B F) j)))) e37 (.inl (0, 9, .inl (dL [nI m, nI (mvP m g w B F (plev P i) p (((141 * s + 187) % 1000) / 100)), nI P, nI i, nI (((141 * s) + 187) % 1000), (gn + mvD g w B F (plev P i) p ((((141 * s) + 187) % 1000) / 100)), nI (t + 1), nI g, nI w])))), kc, kn) rfl ?_
  refine J.gp ok_La_tick 2 (80, [(0, .ref 38), (1, .ref 36), (2, .int (mvD g w B F (plev P i) p ((((141 * s) + 187) % 1000) / 100)))], [.int (nI i + 1), .int 3, .ref 38], _, _, _) rfl ?_
  rw [show ((nI i + 1) : Int32) = nI (i + 1) from nI_add i 1]
  refine J.gp ok_La_tick 2 (82, [(0, .ref 38), (1, .ref 36), (2, .int (mvD g w B F (plev P i) p ((((141 * s) + 187) % 1000) / 100)))], [.int 2, .ref 38, .int (nI (i + 1)), .int 3, .ref 38], _, _, _) rfl ?_
  refine J.ialdB ok_La_tick 83 2 rfl rfl (rfl) (by omega) (by decide) ?_
  refine J.gp ok_La_tick 0 (83, [(0, .ref 38), (1, .ref 36), (2, .int (mvD g w B F (plev P i) p ((((141 * s) + 187) % 1000) / 100)))], [.int (nI P), .int (nI (i + 1)), .int 3, .ref 38], (HQ e0 e1 e2 e3 e4 e5 e6 e7 e8 e9 e10 e11 e12 e13 e14 e15 e16 e17 e18 e19 e20 e21 e22 e23 e24 e25 e26 e27 e28 e29 e30 e31 e32 e33 e34 e35 (.inl (0, 12, .inl (fun j => nI ((nuF B F) j)))) e37 (.inl (0, 9, .inl (dL [nI m, nI (mvP m g w B F (plev P i) p (((141 * s + 187) % 1000) / 100)), nI P, nI i, nI (((141 * s) + 187) % 1000), (gn + mvD g w B F (plev P i) p ((((141 * s) + 187) % 1000) / 100)), nI (t + 1), nI g, nI w])))), kc, kn) rfl ?_
  refine J.callSE s_La_tick_83 86 [.int (nI P)] (c_La_lengthOf (by omega)) rfl rfl (Nat.le_of_ble_eq_true rfl) rfl ?_
  refine J.gp ok_La_tick 0 (86, [(0, .ref 38), (1, .ref 36), (2, .int (mvD g w B F (plev P i) p ((((141 * s) + 187) % 1000) / 100)))], [.int (nI (plen P)), .int (nI (i + 1)), .int 3, .ref 38], (HQ e0 e1 e2 e3 e4 e5 e6 e7 e8 e9 e10 e11 e12 e13 e14 e15 e16 e17 e18 e19 e20 e21 e22 e23 e24 e25 e26 e27 e28 e29 e30 e31 e32 e33 e34 e35 (.inl (0, 12, .inl (fun j => nI ((nuF B F) j)))) e37 (.inl (0, 9, .inl (dL [nI m, nI (mvP m g w B F (plev P i) p (((141 * s + 187) % 1000) / 100)), nI P, nI i, nI (((141 * s) + 187) % 1000), (gn + mvD g w B F (plev P i) p ((((141 * s) + 187) % 1000) / 100)), nI (t + 1), nI g, nI w])))), kc, kn) rfl ?_
  refine J.icB ok_La_tick (fun x y => ¬ x = y) 93 89 rfl (fun (h0 : ¬ nI (i + 1) = nI (plen P)) => ?_) (fun (h0 : ¬ (¬ nI (i + 1) = nI (plen P))) => ?_)
  · have c86 : ¬ (i + 1) = (plen P) := fun h9 => h0 ((nI_eq (a := i + 1) (b := plen P) (by omega) (by omega)).mpr h9)
    refine J.gp ok_La_tick 2 (95, [(0, .ref 38), (1, .ref 36), (2, .int (mvD g w B F (plev P i) p ((((141 * s) + 187) % 1000) / 100)))], [.int 3, .ref 38, .int 3, .ref 38], _, _, _) rfl ?_
    refine J.ialdB ok_La_tick 96 3 rfl rfl (rfl) (by omega) (by decide) ?_
    refine J.gp ok_La_tick 0 (96, [(0, .ref 38), (1, .ref 36), (2, .int (mvD g w B F (plev P i) p ((((141 * s) + 187) % 1000) / 100)))], [.int (nI i), .int 3, .ref 38], (HQ e0 e1 e2 e3 e4 e5 e6 e7 e8 e9 e10 e11 e12 e13 e14 e15 e16 e17 e18 e19 e20 e21 e22 e23 e24 e25 e26 e27 e28 e29 e30 e31 e32 e33 e34 e35 (.inl (0, 12, .inl (fun j => nI ((nuF B F) j)))) e37 (.inl (0, 9, .inl (dL [nI m, nI (mvP m g w B F (plev P i) p (((141 * s + 187) % 1000) / 100)), nI P, nI i, nI (((141 * s) + 187) % 1000), (gn + mvD g w B F (plev P i) p ((((141 * s) + 187) % 1000) / 100)), nI (t + 1), nI g, nI w])))), kc, kn) rfl ?_
    refine J.gp ok_La_tick 2 (98, [(0, .ref 38), (1, .ref 36), (2, .int (mvD g w B F (plev P i) p ((((141 * s) + 187) % 1000) / 100)))], [.int (nI i + 1), .int 3, .ref 38], _, _, _) rfl ?_
    rw [show ((nI i + 1) : Int32) = nI (i + 1) from nI_add i 1]
    refine J.iastB ok_La_tick 99 3 rfl rfl (rfl) (by omega) (by decide) ?_
    rw [show upd (dL [nI m, nI (mvP m g w B F (plev P i) p (((141 * s + 187) % 1000) / 100)), nI P, nI i, nI (((141 * s) + 187) % 1000), (gn + mvD g w B F (plev P i) p ((((141 * s) + 187) % 1000) / 100)), nI (t + 1), nI g, nI w]) 3 (nI (i + 1)) = dL [nI m, nI (mvP m g w B F (plev P i) p (((141 * s + 187) % 1000) / 100)), nI P, nI (i + 1), nI (((141 * s) + 187) % 1000), (gn + mvD g w B F (plev P i) p ((((141 * s) + 187) % 1000) / 100)), nI (t + 1), nI g, nI w] from dL_up rfl]
    refine J.gp ok_La_tick 0 (99, [(0, .ref 38), (1, .ref 36), (2, .int (mvD g w B F (plev P i) p ((((141 * s) + 187) % 1000) / 100)))], [], (HQ e0 e1 e2 e3 e4 e5 e6 e7 e8 e9 e10 e11 e12 e13 e14 e15 e16 e17 e18 e19 e20 e21 e22 e23 e24 e25 e26 e27 e28 e29 e30 e31 e32 e33 e34 e35 (.inl (0, 12, .inl (fun j => nI ((nuF B F) j)))) e37 (.inl (0, 9, .inl (dL [nI m, nI (mvP m g w B F (plev P i) p (((141 * s + 187) % 1000) / 100)), nI P, nI (i + 1), nI (((141 * s) + 187) % 1000), (gn + mvD g w B F (plev P i) p ((((141 * s) + 187) % 1000) / 100)), nI (t + 1), nI g, nI w])))), kc, kn) rfl ?_
    refine JR.vret (by decide +kernel) rfl ?_
    exact K1 c86
  · have c86 : (i + 1) = (plen P) := (nI_eq (a := i + 1) (b := plen P) (by omega) (by omega)).mp (Classical.byContradiction h0)
    refine J.gp ok_La_tick 2 (98, [(0, .ref 38), (1, .ref 36), (2, .int (mvD g w B F (plev P i) p ((((141 * s) + 187) % 1000) / 100)))], [.int 0, .int 3, .ref 38], _, _, _) rfl ?_
    refine J.iastB ok_La_tick 99 3 rfl rfl (rfl) (by omega) (by decide) ?_
    rw [show upd (dL [nI m, nI (mvP m g w B F (plev P i) p (((141 * s + 187) % 1000) / 100)), nI P, nI i, nI (((141 * s) + 187) % 1000), (gn + mvD g w B F (plev P i) p ((((141 * s) + 187) % 1000) / 100)), nI (t + 1), nI g, nI w]) 3 0 = dL [nI m, nI (mvP m g w B F (plev P i) p (((141 * s + 187) % 1000) / 100)), nI P, 0, nI (((141 * s) + 187) % 1000), (gn + mvD g w B F (plev P i) p ((((141 * s) + 187) % 1000) / 100)), nI (t + 1), nI g, nI w] from dL_up rfl]
    refine J.gp ok_La_tick 0 (99, [(0, .ref 38), (1, .ref 36), (2, .int (mvD g w B F (plev P i) p ((((141 * s) + 187) % 1000) / 100)))], [], (HQ e0 e1 e2 e3 e4 e5 e6 e7 e8 e9 e10 e11 e12 e13 e14 e15 e16 e17 e18 e19 e20 e21 e22 e23 e24 e25 e26 e27 e28 e29 e30 e31 e32 e33 e34 e35 (.inl (0, 12, .inl (fun j => nI ((nuF B F) j)))) e37 (.inl (0, 9, .inl (dL [nI m, nI (mvP m g w B F (plev P i) p (((141 * s + 187) % 1000) / 100)), nI P, 0, nI (((141 * s) + 187) % 1000), (gn + mvD g w B F (plev P i) p ((((141 * s) + 187) % 1000) / 100)), nI (t + 1), nI g, nI w])))), kc, kn) rfl ?_
    refine JR.vret (by decide +kernel) rfl ?_
    exact K2 c86

theorem c_La_tick_C {e0 e1 e2 e3 e4 e5 e6 e7 e8 e9 e10 e11 e12 e13 e14 e15 e16 e17 e18 e19 e20 e21 e22 e23 e24 e25 e26 e27 e28 e29 e30 e31 e32 e33 e34 e35 e37 : va_E} {m p P i s t g w : Nat} {gn : Int32} {B F : Nat → Nat} (hm : 0 < m ∧ m ≤ 4) (hg : g < 8) (hw : w < 16) (hBF : ∀ j, B j + F j ≤ 10) (hp : p < m) (hP : isPr P = true) (hi : i < plen P) (hs : s < 1000) (ht : t ≤ 1000000) : JE M_La_tick [.ref 38, .ref 36] (HQ e0 e1 e2 e3 e4 e5 e6 e7 e8 e9 e10 e11 e12 e13 e14 e15 e16 e17 e18 e19 e20 e21 e22 e23 e24 e25 e26 e27 e28 e29 e30 e31 e32 e33 e34 e35 (.inl (0, 12, .inl (fun j => nI ((nuF B F) j)))) e37 (.inl (0, 9, .inl (dL [nI m, nI p, nI P, nI i, nI s, gn, nI t, nI g, nI w])))) none (HQ e0 e1 e2 e3 e4 e5 e6 e7 e8 e9 e10 e11 e12 e13 e14 e15 e16 e17 e18 e19 e20 e21 e22 e23 e24 e25 e26 e27 e28 e29 e30 e31 e32 e33 e34 e35 (.inl (0, 12, .inl (fun j => nI ((nuF B F) j)))) e37 (.inl (0, 9, .inl (dL [nI m, nI (tkP m g w B F P p i s), nI P, nI (pnx P i), nI (tkS s), gn + tkD g w B F P p i s, nI (t + 1), nI g, nI w])))) := by
  refine JM.of (by decide +kernel) rfl (Nat.le_of_ble_eq_true rfl) (g_La_tick_C hm hg hw hBF hp hP hi hs ht (plen_le P) (isPr_bd hP).2 (fun c => ⟨rfl, ?_⟩) (fun c => ⟨rfl, ?_⟩))
  · have e : pnx P i = i + 1 := if_pos (by omega)
    rw [e]
    first | done | rfl
  · have e : pnx P i = 0 := if_neg (by omega)
    rw [e]
    first | done | rfl

set_option maxRecDepth 100000 in
set_option maxHeartbeats 400000 in
theorem g_La_fresh_0 {sc : aScr} {e0 e1 e2 e3 e4 e5 e6 e7 e8 e9 e10 e11 e12 e13 e14 e15 e16 e17 e18 e19 e20 e21 e22 e23 e24 e25 e26 e27 e28 e29 e30 e31 e32 e33 e34 : va_E} {q : Nat} {f35 f36 : Nat → Int32} {kc kn : Nat} {O : Option Value → aH → Prop}  (K1 : JR M_La_fresh sc (20, [(0, .int (nI q)), (1, .ref 35), (2, .ref 36), (3, .int 0)], [], (HP e0 e1 e2 e3 e4 e5 e6 e7 e8 e9 e10 e11 e12 e13 e14 e15 e16 e17 e18 e19 e20 e21 e22 e23 e24 e25 e26 e27 e28 e29 e30 e31 e32 e33 e34 (.inl (0, 9, .inl (upd (upd (upd (upd (upd (upd (upd (upd (upd f35 0 0) 1 0) 2 0) 3 0) 4 0) 5 0) 6 0) 7 0) 8 0))) (.inl (0, 12, .inl f36))), kc, kn) O) : JR M_La_fresh sc (0, [(0, .int (nI q)), (1, .ref 35), (2, .ref 36)], [], (HP e0 e1 e2 e3 e4 e5 e6 e7 e8 e9 e10 e11 e12 e13 e14 e15 e16 e17 e18 e19 e20 e21 e22 e23 e24 e25 e26 e27 e28 e29 e30 e31 e32 e33 e34 (.inl (0, 9, .inl f35)) (.inl (0, 12, .inl f36))), kc, kn) O := by
  refine J.gp ok_La_fresh 4 (5, [(0, .int (nI q)), (1, .ref 35), (2, .ref 36), (3, .int 0)], [.int 9, .int 0], _, _, _) rfl ?_
  refine J.icF ok_La_fresh (fun x y => y ≤ x) 18 8 rfl (by decide) ?_
  refine J.gp ok_La_fresh 3 (11, [(0, .int (nI q)), (1, .ref 35), (2, .ref 36), (3, .int 0)], [.int 0, .int 0, .ref 35], _, _, _) rfl ?_
  refine J.iastB ok_La_fresh 12 0 rfl rfl (rfl) (by omega) (by decide) ?_
  refine J.gp ok_La_fresh 0 (12, [(0, .int (nI q)), (1, .ref 35), (2, .ref 36), (3, .int 0)], [], (HP e0 e1 e2 e3 e4 e5 e6 e7 e8 e9 e10 e11 e12 e13 e14 e15 e16 e17 e18 e19 e20 e21 e22 e23 e24 e25 e26 e27 e28 e29 e30 e31 e32 e33 e34 (.inl (0, 9, .inl (upd f35 0 0))) (.inl (0, 12, .inl f36))), kc, kn) rfl ?_
  refine J.gp ok_La_fresh 1 (15, [(0, .int (nI q)), (1, .ref 35), (2, .ref 36), (3, .int (0 + 1))], [], _, _, _) rfl ?_
  rw [show ((0 + 1) : Int32) = 1 from by decide]
  refine J.gp ok_La_fresh 3 (5, [(0, .int (nI q)), (1, .ref 35), (2, .ref 36), (3, .int 1)], [.int 9, .int 1], _, _, _) rfl ?_
  refine J.icF ok_La_fresh (fun x y => y ≤ x) 18 8 rfl (by decide) ?_
  refine J.gp ok_La_fresh 3 (11, [(0, .int (nI q)), (1, .ref 35), (2, .ref 36), (3, .int 1)], [.int 0, .int 1, .ref 35], _, _, _) rfl ?_
  refine J.iastB ok_La_fresh 12 1 rfl rfl (rfl) (by omega) (by decide) ?_
  refine J.gp ok_La_fresh 0 (12, [(0, .int (nI q)), (1, .ref 35), (2, .ref 36), (3, .int 1)], [], (HP e0 e1 e2 e3 e4 e5 e6 e7 e8 e9 e10 e11 e12 e13 e14 e15 e16 e17 e18 e19 e20 e21 e22 e23 e24 e25 e26 e27 e28 e29 e30 e31 e32 e33 e34 (.inl (0, 9, .inl (upd (upd f35 0 0) 1 0))) (.inl (0, 12, .inl f36))), kc, kn) rfl ?_
  refine J.gp ok_La_fresh 1 (15, [(0, .int (nI q)), (1, .ref 35), (2, .ref 36), (3, .int (1 + 1))], [], _, _, _) rfl ?_
  rw [show ((1 + 1) : Int32) = 2 from by decide]
  refine J.gp ok_La_fresh 3 (5, [(0, .int (nI q)), (1, .ref 35), (2, .ref 36), (3, .int 2)], [.int 9, .int 2], _, _, _) rfl ?_
  refine J.icF ok_La_fresh (fun x y => y ≤ x) 18 8 rfl (by decide) ?_
  refine J.gp ok_La_fresh 3 (11, [(0, .int (nI q)), (1, .ref 35), (2, .ref 36), (3, .int 2)], [.int 0, .int 2, .ref 35], _, _, _) rfl ?_
  refine J.iastB ok_La_fresh 12 2 rfl rfl (rfl) (by omega) (by decide) ?_
  refine J.gp ok_La_fresh 0 (12, [(0, .int (nI q)), (1, .ref 35), (2, .ref 36), (3, .int 2)], [], (HP e0 e1 e2 e3 e4 e5 e6 e7 e8 e9 e10 e11 e12 e13 e14 e15 e16 e17 e18 e19 e20 e21 e22 e23 e24 e25 e26 e27 e28 e29 e30 e31 e32 e33 e34 (.inl (0, 9, .inl (upd (upd (upd f35 0 0) 1 0) 2 0))) (.inl (0, 12, .inl f36))), kc, kn) rfl ?_
  refine J.gp ok_La_fresh 1 (15, [(0, .int (nI q)), (1, .ref 35), (2, .ref 36), (3, .int (2 + 1))], [], _, _, _) rfl ?_
  rw [show ((2 + 1) : Int32) = 3 from by decide]
  refine J.gp ok_La_fresh 3 (5, [(0, .int (nI q)), (1, .ref 35), (2, .ref 36), (3, .int 3)], [.int 9, .int 3], _, _, _) rfl ?_
  refine J.icF ok_La_fresh (fun x y => y ≤ x) 18 8 rfl (by decide) ?_
  refine J.gp ok_La_fresh 3 (11, [(0, .int (nI q)), (1, .ref 35), (2, .ref 36), (3, .int 3)], [.int 0, .int 3, .ref 35], _, _, _) rfl ?_
  refine J.iastB ok_La_fresh 12 3 rfl rfl (rfl) (by omega) (by decide) ?_
  refine J.gp ok_La_fresh 0 (12, [(0, .int (nI q)), (1, .ref 35), (2, .ref 36), (3, .int 3)], [], (HP e0 e1 e2 e3 e4 e5 e6 e7 e8 e9 e10 e11 e12 e13 e14 e15 e16 e17 e18 e19 e20 e21 e22 e23 e24 e25 e26 e27 e28 e29 e30 e31 e32 e33 e34 (.inl (0, 9, .inl (upd (upd (upd (upd f35 0 0) 1 0) 2 0) 3 0))) (.inl (0, 12, .inl f36))), kc, kn) rfl ?_
  refine J.gp ok_La_fresh 1 (15, [(0, .int (nI q)), (1, .ref 35), (2, .ref 36), (3, .int (3 + 1))], [], _, _, _) rfl ?_
  rw [show ((3 + 1) : Int32) = 4 from by decide]
  refine J.gp ok_La_fresh 3 (5, [(0, .int (nI q)), (1, .ref 35), (2, .ref 36), (3, .int 4)], [.int 9, .int 4], _, _, _) rfl ?_
  refine J.icF ok_La_fresh (fun x y => y ≤ x) 18 8 rfl (by decide) ?_
  refine J.gp ok_La_fresh 3 (11, [(0, .int (nI q)), (1, .ref 35), (2, .ref 36), (3, .int 4)], [.int 0, .int 4, .ref 35], _, _, _) rfl ?_
  refine J.iastB ok_La_fresh 12 4 rfl rfl (rfl) (by omega) (by decide) ?_
  refine J.gp ok_La_fresh 0 (12, [(0, .int (nI q)), (1, .ref 35), (2, .ref 36), (3, .int 4)], [], (HP e0 e1 e2 e3 e4 e5 e6 e7 e8 e9 e10 e11 e12 e13 e14 e15 e16 e17 e18 e19 e20 e21 e22 e23 e24 e25 e26 e27 e28 e29 e30 e31 e32 e33 e34 (.inl (0, 9, .inl (upd (upd (upd (upd (upd f35 0 0) 1 0) 2 0) 3 0) 4 0))) (.inl (0, 12, .inl f36))), kc, kn) rfl ?_
  refine J.gp ok_La_fresh 1 (15, [(0, .int (nI q)), (1, .ref 35), (2, .ref 36), (3, .int (4 + 1))], [], _, _, _) rfl ?_
  rw [show ((4 + 1) : Int32) = 5 from by decide]
  refine J.gp ok_La_fresh 3 (5, [(0, .int (nI q)), (1, .ref 35), (2, .ref 36), (3, .int 5)], [.int 9, .int 5], _, _, _) rfl ?_
  refine J.icF ok_La_fresh (fun x y => y ≤ x) 18 8 rfl (by decide) ?_
  refine J.gp ok_La_fresh 3 (11, [(0, .int (nI q)), (1, .ref 35), (2, .ref 36), (3, .int 5)], [.int 0, .int 5, .ref 35], _, _, _) rfl ?_
  refine J.iastB ok_La_fresh 12 5 rfl rfl (rfl) (by omega) (by decide) ?_
  refine J.gp ok_La_fresh 0 (12, [(0, .int (nI q)), (1, .ref 35), (2, .ref 36), (3, .int 5)], [], (HP e0 e1 e2 e3 e4 e5 e6 e7 e8 e9 e10 e11 e12 e13 e14 e15 e16 e17 e18 e19 e20 e21 e22 e23 e24 e25 e26 e27 e28 e29 e30 e31 e32 e33 e34 (.inl (0, 9, .inl (upd (upd (upd (upd (upd (upd f35 0 0) 1 0) 2 0) 3 0) 4 0) 5 0))) (.inl (0, 12, .inl f36))), kc, kn) rfl ?_
  refine J.gp ok_La_fresh 1 (15, [(0, .int (nI q)), (1, .ref 35), (2, .ref 36), (3, .int (5 + 1))], [], _, _, _) rfl ?_
  rw [show ((5 + 1) : Int32) = 6 from by decide]
  refine J.gp ok_La_fresh 3 (5, [(0, .int (nI q)), (1, .ref 35), (2, .ref 36), (3, .int 6)], [.int 9, .int 6], _, _, _) rfl ?_
  refine J.icF ok_La_fresh (fun x y => y ≤ x) 18 8 rfl (by decide) ?_
  refine J.gp ok_La_fresh 3 (11, [(0, .int (nI q)), (1, .ref 35), (2, .ref 36), (3, .int 6)], [.int 0, .int 6, .ref 35], _, _, _) rfl ?_
  refine J.iastB ok_La_fresh 12 6 rfl rfl (rfl) (by omega) (by decide) ?_
  refine J.gp ok_La_fresh 0 (12, [(0, .int (nI q)), (1, .ref 35), (2, .ref 36), (3, .int 6)], [], (HP e0 e1 e2 e3 e4 e5 e6 e7 e8 e9 e10 e11 e12 e13 e14 e15 e16 e17 e18 e19 e20 e21 e22 e23 e24 e25 e26 e27 e28 e29 e30 e31 e32 e33 e34 (.inl (0, 9, .inl (upd (upd (upd (upd (upd (upd (upd f35 0 0) 1 0) 2 0) 3 0) 4 0) 5 0) 6 0))) (.inl (0, 12, .inl f36))), kc, kn) rfl ?_
  refine J.gp ok_La_fresh 1 (15, [(0, .int (nI q)), (1, .ref 35), (2, .ref 36), (3, .int (6 + 1))], [], _, _, _) rfl ?_
  rw [show ((6 + 1) : Int32) = 7 from by decide]
  refine J.gp ok_La_fresh 3 (5, [(0, .int (nI q)), (1, .ref 35), (2, .ref 36), (3, .int 7)], [.int 9, .int 7], _, _, _) rfl ?_
  refine J.icF ok_La_fresh (fun x y => y ≤ x) 18 8 rfl (by decide) ?_
  refine J.gp ok_La_fresh 3 (11, [(0, .int (nI q)), (1, .ref 35), (2, .ref 36), (3, .int 7)], [.int 0, .int 7, .ref 35], _, _, _) rfl ?_
  refine J.iastB ok_La_fresh 12 7 rfl rfl (rfl) (by omega) (by decide) ?_
  refine J.gp ok_La_fresh 0 (12, [(0, .int (nI q)), (1, .ref 35), (2, .ref 36), (3, .int 7)], [], (HP e0 e1 e2 e3 e4 e5 e6 e7 e8 e9 e10 e11 e12 e13 e14 e15 e16 e17 e18 e19 e20 e21 e22 e23 e24 e25 e26 e27 e28 e29 e30 e31 e32 e33 e34 (.inl (0, 9, .inl (upd (upd (upd (upd (upd (upd (upd (upd f35 0 0) 1 0) 2 0) 3 0) 4 0) 5 0) 6 0) 7 0))) (.inl (0, 12, .inl f36))), kc, kn) rfl ?_
  refine J.gp ok_La_fresh 1 (15, [(0, .int (nI q)), (1, .ref 35), (2, .ref 36), (3, .int (7 + 1))], [], _, _, _) rfl ?_
  rw [show ((7 + 1) : Int32) = 8 from by decide]
  refine J.gp ok_La_fresh 3 (5, [(0, .int (nI q)), (1, .ref 35), (2, .ref 36), (3, .int 8)], [.int 9, .int 8], _, _, _) rfl ?_
  refine J.icF ok_La_fresh (fun x y => y ≤ x) 18 8 rfl (by decide) ?_
  refine J.gp ok_La_fresh 3 (11, [(0, .int (nI q)), (1, .ref 35), (2, .ref 36), (3, .int 8)], [.int 0, .int 8, .ref 35], _, _, _) rfl ?_
  refine J.iastB ok_La_fresh 12 8 rfl rfl (rfl) (by omega) (by decide) ?_
  refine J.gp ok_La_fresh 0 (12, [(0, .int (nI q)), (1, .ref 35), (2, .ref 36), (3, .int 8)], [], (HP e0 e1 e2 e3 e4 e5 e6 e7 e8 e9 e10 e11 e12 e13 e14 e15 e16 e17 e18 e19 e20 e21 e22 e23 e24 e25 e26 e27 e28 e29 e30 e31 e32 e33 e34 (.inl (0, 9, .inl (upd (upd (upd (upd (upd (upd (upd (upd (upd f35 0 0) 1 0) 2 0) 3 0) 4 0) 5 0) 6 0) 7 0) 8 0))) (.inl (0, 12, .inl f36))), kc, kn) rfl ?_
  refine J.gp ok_La_fresh 1 (15, [(0, .int (nI q)), (1, .ref 35), (2, .ref 36), (3, .int (8 + 1))], [], _, _, _) rfl ?_
  rw [show ((8 + 1) : Int32) = 9 from by decide]
  refine J.gp ok_La_fresh 3 (5, [(0, .int (nI q)), (1, .ref 35), (2, .ref 36), (3, .int 9)], [.int 9, .int 9], _, _, _) rfl ?_
  refine J.icT ok_La_fresh (fun x y => y ≤ x) 18 8 rfl (by decide) ?_
  refine J.gp ok_La_fresh 2 (20, [(0, .int (nI q)), (1, .ref 35), (2, .ref 36), (3, .int 0)], [], _, _, _) rfl ?_
  exact K1

set_option maxRecDepth 100000 in
set_option maxHeartbeats 400000 in
theorem g_La_fresh_1 {sc : aScr} {e0 e1 e2 e3 e4 e5 e6 e7 e8 e9 e10 e11 e12 e13 e14 e15 e16 e17 e18 e19 e20 e21 e22 e23 e24 e25 e26 e27 e28 e29 e30 e31 e32 e33 e34 e35 : va_E} {q : Nat} {f36 : Nat → Int32} {kc kn : Nat} {O : Option Value → aH → Prop}  (K1 : JR M_La_fresh sc (36, [(0, .int (nI q)), (1, .ref 35), (2, .ref 36)], [], (HP e0 e1 e2 e3 e4 e5 e6 e7 e8 e9 e10 e11 e12 e13 e14 e15 e16 e17 e18 e19 e20 e21 e22 e23 e24 e25 e26 e27 e28 e29 e30 e31 e32 e33 e34 e35 (.inl (0, 12, .inl (upd (upd (upd (upd (upd (upd (upd (upd (upd (upd (upd (upd f36 0 0) 1 0) 2 0) 3 0) 4 0) 5 0) 6 0) 7 0) 8 0) 9 0) 10 0) 11 0)))), kc, kn) O) : JR M_La_fresh sc (20, [(0, .int (nI q)), (1, .ref 35), (2, .ref 36), (3, .int 0)], [], (HP e0 e1 e2 e3 e4 e5 e6 e7 e8 e9 e10 e11 e12 e13 e14 e15 e16 e17 e18 e19 e20 e21 e22 e23 e24 e25 e26 e27 e28 e29 e30 e31 e32 e33 e34 e35 (.inl (0, 12, .inl f36))), kc, kn) O := by
  refine J.gp ok_La_fresh 2 (23, [(0, .int (nI q)), (1, .ref 35), (2, .ref 36), (3, .int 0)], [.int 12, .int 0], _, _, _) rfl ?_
  refine J.icF ok_La_fresh (fun x y => y ≤ x) 36 26 rfl (by decide) ?_
  refine J.gp ok_La_fresh 3 (29, [(0, .int (nI q)), (1, .ref 35), (2, .ref 36), (3, .int 0)], [.int 0, .int 0, .ref 36], _, _, _) rfl ?_
  refine J.iastB ok_La_fresh 30 0 rfl rfl (rfl) (by omega) (by decide) ?_
  refine J.gp ok_La_fresh 0 (30, [(0, .int (nI q)), (1, .ref 35), (2, .ref 36), (3, .int 0)], [], (HP e0 e1 e2 e3 e4 e5 e6 e7 e8 e9 e10 e11 e12 e13 e14 e15 e16 e17 e18 e19 e20 e21 e22 e23 e24 e25 e26 e27 e28 e29 e30 e31 e32 e33 e34 e35 (.inl (0, 12, .inl (upd f36 0 0)))), kc, kn) rfl ?_
  refine J.gp ok_La_fresh 1 (33, [(0, .int (nI q)), (1, .ref 35), (2, .ref 36), (3, .int (0 + 1))], [], _, _, _) rfl ?_
  rw [show ((0 + 1) : Int32) = 1 from by decide]
  refine J.gp ok_La_fresh 3 (23, [(0, .int (nI q)), (1, .ref 35), (2, .ref 36), (3, .int 1)], [.int 12, .int 1], _, _, _) rfl ?_
  refine J.icF ok_La_fresh (fun x y => y ≤ x) 36 26 rfl (by decide) ?_
  refine J.gp ok_La_fresh 3 (29, [(0, .int (nI q)), (1, .ref 35), (2, .ref 36), (3, .int 1)], [.int 0, .int 1, .ref 36], _, _, _) rfl ?_
  refine J.iastB ok_La_fresh 30 1 rfl rfl (rfl) (by omega) (by decide) ?_
  refine J.gp ok_La_fresh 0 (30, [(0, .int (nI q)), (1, .ref 35), (2, .ref 36), (3, .int 1)], [], (HP e0 e1 e2 e3 e4 e5 e6 e7 e8 e9 e10 e11 e12 e13 e14 e15 e16 e17 e18 e19 e20 e21 e22 e23 e24 e25 e26 e27 e28 e29 e30 e31 e32 e33 e34 e35 (.inl (0, 12, .inl (upd (upd f36 0 0) 1 0)))), kc, kn) rfl ?_
  refine J.gp ok_La_fresh 1 (33, [(0, .int (nI q)), (1, .ref 35), (2, .ref 36), (3, .int (1 + 1))], [], _, _, _) rfl ?_
  rw [show ((1 + 1) : Int32) = 2 from by decide]
  refine J.gp ok_La_fresh 3 (23, [(0, .int (nI q)), (1, .ref 35), (2, .ref 36), (3, .int 2)], [.int 12, .int 2], _, _, _) rfl ?_
  refine J.icF ok_La_fresh (fun x y => y ≤ x) 36 26 rfl (by decide) ?_
  refine J.gp ok_La_fresh 3 (29, [(0, .int (nI q)), (1, .ref 35), (2, .ref 36), (3, .int 2)], [.int 0, .int 2, .ref 36], _, _, _) rfl ?_
  refine J.iastB ok_La_fresh 30 2 rfl rfl (rfl) (by omega) (by decide) ?_
  refine J.gp ok_La_fresh 0 (30, [(0, .int (nI q)), (1, .ref 35), (2, .ref 36), (3, .int 2)], [], (HP e0 e1 e2 e3 e4 e5 e6 e7 e8 e9 e10 e11 e12 e13 e14 e15 e16 e17 e18 e19 e20 e21 e22 e23 e24 e25 e26 e27 e28 e29 e30 e31 e32 e33 e34 e35 (.inl (0, 12, .inl (upd (upd (upd f36 0 0) 1 0) 2 0)))), kc, kn) rfl ?_
  refine J.gp ok_La_fresh 1 (33, [(0, .int (nI q)), (1, .ref 35), (2, .ref 36), (3, .int (2 + 1))], [], _, _, _) rfl ?_
  rw [show ((2 + 1) : Int32) = 3 from by decide]
  refine J.gp ok_La_fresh 3 (23, [(0, .int (nI q)), (1, .ref 35), (2, .ref 36), (3, .int 3)], [.int 12, .int 3], _, _, _) rfl ?_
  refine J.icF ok_La_fresh (fun x y => y ≤ x) 36 26 rfl (by decide) ?_
  refine J.gp ok_La_fresh 3 (29, [(0, .int (nI q)), (1, .ref 35), (2, .ref 36), (3, .int 3)], [.int 0, .int 3, .ref 36], _, _, _) rfl ?_
  refine J.iastB ok_La_fresh 30 3 rfl rfl (rfl) (by omega) (by decide) ?_
  refine J.gp ok_La_fresh 0 (30, [(0, .int (nI q)), (1, .ref 35), (2, .ref 36), (3, .int 3)], [], (HP e0 e1 e2 e3 e4 e5 e6 e7 e8 e9 e10 e11 e12 e13 e14 e15 e16 e17 e18 e19 e20 e21 e22 e23 e24 e25 e26 e27 e28 e29 e30 e31 e32 e33 e34 e35 (.inl (0, 12, .inl (upd (upd (upd (upd f36 0 0) 1 0) 2 0) 3 0)))), kc, kn) rfl ?_
  refine J.gp ok_La_fresh 1 (33, [(0, .int (nI q)), (1, .ref 35), (2, .ref 36), (3, .int (3 + 1))], [], _, _, _) rfl ?_
  rw [show ((3 + 1) : Int32) = 4 from by decide]
  refine J.gp ok_La_fresh 3 (23, [(0, .int (nI q)), (1, .ref 35), (2, .ref 36), (3, .int 4)], [.int 12, .int 4], _, _, _) rfl ?_
  refine J.icF ok_La_fresh (fun x y => y ≤ x) 36 26 rfl (by decide) ?_
  refine J.gp ok_La_fresh 3 (29, [(0, .int (nI q)), (1, .ref 35), (2, .ref 36), (3, .int 4)], [.int 0, .int 4, .ref 36], _, _, _) rfl ?_
  refine J.iastB ok_La_fresh 30 4 rfl rfl (rfl) (by omega) (by decide) ?_
  refine J.gp ok_La_fresh 0 (30, [(0, .int (nI q)), (1, .ref 35), (2, .ref 36), (3, .int 4)], [], (HP e0 e1 e2 e3 e4 e5 e6 e7 e8 e9 e10 e11 e12 e13 e14 e15 e16 e17 e18 e19 e20 e21 e22 e23 e24 e25 e26 e27 e28 e29 e30 e31 e32 e33 e34 e35 (.inl (0, 12, .inl (upd (upd (upd (upd (upd f36 0 0) 1 0) 2 0) 3 0) 4 0)))), kc, kn) rfl ?_
  refine J.gp ok_La_fresh 1 (33, [(0, .int (nI q)), (1, .ref 35), (2, .ref 36), (3, .int (4 + 1))], [], _, _, _) rfl ?_
  rw [show ((4 + 1) : Int32) = 5 from by decide]
  refine J.gp ok_La_fresh 3 (23, [(0, .int (nI q)), (1, .ref 35), (2, .ref 36), (3, .int 5)], [.int 12, .int 5], _, _, _) rfl ?_
  refine J.icF ok_La_fresh (fun x y => y ≤ x) 36 26 rfl (by decide) ?_
  refine J.gp ok_La_fresh 3 (29, [(0, .int (nI q)), (1, .ref 35), (2, .ref 36), (3, .int 5)], [.int 0, .int 5, .ref 36], _, _, _) rfl ?_
  refine J.iastB ok_La_fresh 30 5 rfl rfl (rfl) (by omega) (by decide) ?_
  refine J.gp ok_La_fresh 0 (30, [(0, .int (nI q)), (1, .ref 35), (2, .ref 36), (3, .int 5)], [], (HP e0 e1 e2 e3 e4 e5 e6 e7 e8 e9 e10 e11 e12 e13 e14 e15 e16 e17 e18 e19 e20 e21 e22 e23 e24 e25 e26 e27 e28 e29 e30 e31 e32 e33 e34 e35 (.inl (0, 12, .inl (upd (upd (upd (upd (upd (upd f36 0 0) 1 0) 2 0) 3 0) 4 0) 5 0)))), kc, kn) rfl ?_
  refine J.gp ok_La_fresh 1 (33, [(0, .int (nI q)), (1, .ref 35), (2, .ref 36), (3, .int (5 + 1))], [], _, _, _) rfl ?_
  rw [show ((5 + 1) : Int32) = 6 from by decide]
  refine J.gp ok_La_fresh 3 (23, [(0, .int (nI q)), (1, .ref 35), (2, .ref 36), (3, .int 6)], [.int 12, .int 6], _, _, _) rfl ?_
  refine J.icF ok_La_fresh (fun x y => y ≤ x) 36 26 rfl (by decide) ?_
  refine J.gp ok_La_fresh 3 (29, [(0, .int (nI q)), (1, .ref 35), (2, .ref 36), (3, .int 6)], [.int 0, .int 6, .ref 36], _, _, _) rfl ?_
  refine J.iastB ok_La_fresh 30 6 rfl rfl (rfl) (by omega) (by decide) ?_
  refine J.gp ok_La_fresh 0 (30, [(0, .int (nI q)), (1, .ref 35), (2, .ref 36), (3, .int 6)], [], (HP e0 e1 e2 e3 e4 e5 e6 e7 e8 e9 e10 e11 e12 e13 e14 e15 e16 e17 e18 e19 e20 e21 e22 e23 e24 e25 e26 e27 e28 e29 e30 e31 e32 e33 e34 e35 (.inl (0, 12, .inl (upd (upd (upd (upd (upd (upd (upd f36 0 0) 1 0) 2 0) 3 0) 4 0) 5 0) 6 0)))), kc, kn) rfl ?_
  refine J.gp ok_La_fresh 1 (33, [(0, .int (nI q)), (1, .ref 35), (2, .ref 36), (3, .int (6 + 1))], [], _, _, _) rfl ?_
  rw [show ((6 + 1) : Int32) = 7 from by decide]
  refine J.gp ok_La_fresh 3 (23, [(0, .int (nI q)), (1, .ref 35), (2, .ref 36), (3, .int 7)], [.int 12, .int 7], _, _, _) rfl ?_
  refine J.icF ok_La_fresh (fun x y => y ≤ x) 36 26 rfl (by decide) ?_
  refine J.gp ok_La_fresh 3 (29, [(0, .int (nI q)), (1, .ref 35), (2, .ref 36), (3, .int 7)], [.int 0, .int 7, .ref 36], _, _, _) rfl ?_
  refine J.iastB ok_La_fresh 30 7 rfl rfl (rfl) (by omega) (by decide) ?_
  refine J.gp ok_La_fresh 0 (30, [(0, .int (nI q)), (1, .ref 35), (2, .ref 36), (3, .int 7)], [], (HP e0 e1 e2 e3 e4 e5 e6 e7 e8 e9 e10 e11 e12 e13 e14 e15 e16 e17 e18 e19 e20 e21 e22 e23 e24 e25 e26 e27 e28 e29 e30 e31 e32 e33 e34 e35 (.inl (0, 12, .inl (upd (upd (upd (upd (upd (upd (upd (upd f36 0 0) 1 0) 2 0) 3 0) 4 0) 5 0) 6 0) 7 0)))), kc, kn) rfl ?_
  refine J.gp ok_La_fresh 1 (33, [(0, .int (nI q)), (1, .ref 35), (2, .ref 36), (3, .int (7 + 1))], [], _, _, _) rfl ?_
  rw [show ((7 + 1) : Int32) = 8 from by decide]
  refine J.gp ok_La_fresh 3 (23, [(0, .int (nI q)), (1, .ref 35), (2, .ref 36), (3, .int 8)], [.int 12, .int 8], _, _, _) rfl ?_
  refine J.icF ok_La_fresh (fun x y => y ≤ x) 36 26 rfl (by decide) ?_
  refine J.gp ok_La_fresh 3 (29, [(0, .int (nI q)), (1, .ref 35), (2, .ref 36), (3, .int 8)], [.int 0, .int 8, .ref 36], _, _, _) rfl ?_
  refine J.iastB ok_La_fresh 30 8 rfl rfl (rfl) (by omega) (by decide) ?_
  refine J.gp ok_La_fresh 0 (30, [(0, .int (nI q)), (1, .ref 35), (2, .ref 36), (3, .int 8)], [], (HP e0 e1 e2 e3 e4 e5 e6 e7 e8 e9 e10 e11 e12 e13 e14 e15 e16 e17 e18 e19 e20 e21 e22 e23 e24 e25 e26 e27 e28 e29 e30 e31 e32 e33 e34 e35 (.inl (0, 12, .inl (upd (upd (upd (upd (upd (upd (upd (upd (upd f36 0 0) 1 0) 2 0) 3 0) 4 0) 5 0) 6 0) 7 0) 8 0)))), kc, kn) rfl ?_
  refine J.gp ok_La_fresh 1 (33, [(0, .int (nI q)), (1, .ref 35), (2, .ref 36), (3, .int (8 + 1))], [], _, _, _) rfl ?_
  rw [show ((8 + 1) : Int32) = 9 from by decide]
  refine J.gp ok_La_fresh 3 (23, [(0, .int (nI q)), (1, .ref 35), (2, .ref 36), (3, .int 9)], [.int 12, .int 9], _, _, _) rfl ?_
  refine J.icF ok_La_fresh (fun x y => y ≤ x) 36 26 rfl (by decide) ?_
  refine J.gp ok_La_fresh 3 (29, [(0, .int (nI q)), (1, .ref 35), (2, .ref 36), (3, .int 9)], [.int 0, .int 9, .ref 36], _, _, _) rfl ?_
  refine J.iastB ok_La_fresh 30 9 rfl rfl (rfl) (by omega) (by decide) ?_
  refine J.gp ok_La_fresh 0 (30, [(0, .int (nI q)), (1, .ref 35), (2, .ref 36), (3, .int 9)], [], (HP e0 e1 e2 e3 e4 e5 e6 e7 e8 e9 e10 e11 e12 e13 e14 e15 e16 e17 e18 e19 e20 e21 e22 e23 e24 e25 e26 e27 e28 e29 e30 e31 e32 e33 e34 e35 (.inl (0, 12, .inl (upd (upd (upd (upd (upd (upd (upd (upd (upd (upd f36 0 0) 1 0) 2 0) 3 0) 4 0) 5 0) 6 0) 7 0) 8 0) 9 0)))), kc, kn) rfl ?_
  refine J.gp ok_La_fresh 1 (33, [(0, .int (nI q)), (1, .ref 35), (2, .ref 36), (3, .int (9 + 1))], [], _, _, _) rfl ?_
  rw [show ((9 + 1) : Int32) = 10 from by decide]
  refine J.gp ok_La_fresh 3 (23, [(0, .int (nI q)), (1, .ref 35), (2, .ref 36), (3, .int 10)], [.int 12, .int 10], _, _, _) rfl ?_
  refine J.icF ok_La_fresh (fun x y => y ≤ x) 36 26 rfl (by decide) ?_
  refine J.gp ok_La_fresh 3 (29, [(0, .int (nI q)), (1, .ref 35), (2, .ref 36), (3, .int 10)], [.int 0, .int 10, .ref 36], _, _, _) rfl ?_
  refine J.iastB ok_La_fresh 30 10 rfl rfl (rfl) (by omega) (by decide) ?_
  refine J.gp ok_La_fresh 0 (30, [(0, .int (nI q)), (1, .ref 35), (2, .ref 36), (3, .int 10)], [], (HP e0 e1 e2 e3 e4 e5 e6 e7 e8 e9 e10 e11 e12 e13 e14 e15 e16 e17 e18 e19 e20 e21 e22 e23 e24 e25 e26 e27 e28 e29 e30 e31 e32 e33 e34 e35 (.inl (0, 12, .inl (upd (upd (upd (upd (upd (upd (upd (upd (upd (upd (upd f36 0 0) 1 0) 2 0) 3 0) 4 0) 5 0) 6 0) 7 0) 8 0) 9 0) 10 0)))), kc, kn) rfl ?_
  refine J.gp ok_La_fresh 1 (33, [(0, .int (nI q)), (1, .ref 35), (2, .ref 36), (3, .int (10 + 1))], [], _, _, _) rfl ?_
  rw [show ((10 + 1) : Int32) = 11 from by decide]
  refine J.gp ok_La_fresh 3 (23, [(0, .int (nI q)), (1, .ref 35), (2, .ref 36), (3, .int 11)], [.int 12, .int 11], _, _, _) rfl ?_
  refine J.icF ok_La_fresh (fun x y => y ≤ x) 36 26 rfl (by decide) ?_
  refine J.gp ok_La_fresh 3 (29, [(0, .int (nI q)), (1, .ref 35), (2, .ref 36), (3, .int 11)], [.int 0, .int 11, .ref 36], _, _, _) rfl ?_
  refine J.iastB ok_La_fresh 30 11 rfl rfl (rfl) (by omega) (by decide) ?_
  refine J.gp ok_La_fresh 0 (30, [(0, .int (nI q)), (1, .ref 35), (2, .ref 36), (3, .int 11)], [], (HP e0 e1 e2 e3 e4 e5 e6 e7 e8 e9 e10 e11 e12 e13 e14 e15 e16 e17 e18 e19 e20 e21 e22 e23 e24 e25 e26 e27 e28 e29 e30 e31 e32 e33 e34 e35 (.inl (0, 12, .inl (upd (upd (upd (upd (upd (upd (upd (upd (upd (upd (upd (upd f36 0 0) 1 0) 2 0) 3 0) 4 0) 5 0) 6 0) 7 0) 8 0) 9 0) 10 0) 11 0)))), kc, kn) rfl ?_
  refine J.gp ok_La_fresh 1 (33, [(0, .int (nI q)), (1, .ref 35), (2, .ref 36), (3, .int (11 + 1))], [], _, _, _) rfl ?_
  rw [show ((11 + 1) : Int32) = 12 from by decide]
  refine J.gp ok_La_fresh 3 (23, [(0, .int (nI q)), (1, .ref 35), (2, .ref 36), (3, .int 12)], [.int 12, .int 12], _, _, _) rfl ?_
  refine J.icT ok_La_fresh (fun x y => y ≤ x) 36 26 rfl (by decide) ?_
  refine J.lv [0, 1, 2] [(0, .int (nI q)), (1, .ref 35), (2, .ref 36)] rfl ?_
  exact K1

set_option maxRecDepth 100000 in
set_option maxHeartbeats 400000 in
theorem g_La_fresh_2 {sc : aScr} {e0 e1 e2 e3 e4 e5 e6 e7 e8 e9 e10 e11 e12 e13 e14 e15 e16 e17 e18 e19 e20 e21 e22 e23 e24 e25 e26 e27 e28 e29 e30 e31 e32 e33 e34 e36 : va_E} {q : Nat} {kc kn : Nat} {O : Option Value → aH → Prop}  (K1 : O none (HP e0 e1 e2 e3 e4 e5 e6 e7 e8 e9 e10 e11 e12 e13 e14 e15 e16 e17 e18 e19 e20 e21 e22 e23 e24 e25 e26 e27 e28 e29 e30 e31 e32 e33 e34 (.inl (0, 9, .inl (dL [nI q, 0, 1, 0, 0, 0, 0, 7, 0]))) e36)) : JR M_La_fresh sc (36, [(0, .int (nI q)), (1, .ref 35), (2, .ref 36)], [], (HP e0 e1 e2 e3 e4 e5 e6 e7 e8 e9 e10 e11 e12 e13 e14 e15 e16 e17 e18 e19 e20 e21 e22 e23 e24 e25 e26 e27 e28 e29 e30 e31 e32 e33 e34 (.inl (0, 9, .inl (dL [0, 0, 0, 0, 0, 0, 0, 0, 0]))) e36), kc, kn) O := by
  refine J.gp ok_La_fresh 3 (39, [(0, .int (nI q)), (1, .ref 35), (2, .ref 36)], [.int (nI q), .int 0, .ref 35], _, _, _) rfl ?_
  refine J.iastB ok_La_fresh 40 0 rfl rfl (rfl) (by omega) (by decide) ?_
  rw [show upd (dL [0, 0, 0, 0, 0, 0, 0, 0, 0]) 0 (nI q) = dL [nI q, 0, 0, 0, 0, 0, 0, 0, 0] from dL_up rfl]
  refine J.gp ok_La_fresh 0 (40, [(0, .int (nI q)), (1, .ref 35), (2, .ref 36)], [], (HP e0 e1 e2 e3 e4 e5 e6 e7 e8 e9 e10 e11 e12 e13 e14 e15 e16 e17 e18 e19 e20 e21 e22 e23 e24 e25 e26 e27 e28 e29 e30 e31 e32 e33 e34 (.inl (0, 9, .inl (dL [nI q, 0, 0, 0, 0, 0, 0, 0, 0]))) e36), kc, kn) rfl ?_
  refine J.gp ok_La_fresh 3 (43, [(0, .int (nI q)), (1, .ref 35), (2, .ref 36)], [.int 1, .int 2, .ref 35], _, _, _) rfl ?_
  refine J.iastB ok_La_fresh 44 2 rfl rfl (rfl) (by omega) (by decide) ?_
  rw [show upd (dL [nI q, 0, 0, 0, 0, 0, 0, 0, 0]) 2 1 = dL [nI q, 0, 1, 0, 0, 0, 0, 0, 0] from dL_up rfl]
  refine J.gp ok_La_fresh 0 (44, [(0, .int (nI q)), (1, .ref 35), (2, .ref 36)], [], (HP e0 e1 e2 e3 e4 e5 e6 e7 e8 e9 e10 e11 e12 e13 e14 e15 e16 e17 e18 e19 e20 e21 e22 e23 e24 e25 e26 e27 e28 e29 e30 e31 e32 e33 e34 (.inl (0, 9, .inl (dL [nI q, 0, 1, 0, 0, 0, 0, 0, 0]))) e36), kc, kn) rfl ?_
  refine J.gp ok_La_fresh 3 (49, [(0, .int (nI q)), (1, .ref 35), (2, .ref 36)], [.int 7, .int 7, .ref 35], _, _, _) rfl ?_
  refine J.iastB ok_La_fresh 50 7 rfl rfl (rfl) (by omega) (by decide) ?_
  rw [show upd (dL [nI q, 0, 1, 0, 0, 0, 0, 0, 0]) 7 7 = dL [nI q, 0, 1, 0, 0, 0, 0, 7, 0] from dL_up rfl]
  refine J.gp ok_La_fresh 0 (50, [(0, .int (nI q)), (1, .ref 35), (2, .ref 36)], [], (HP e0 e1 e2 e3 e4 e5 e6 e7 e8 e9 e10 e11 e12 e13 e14 e15 e16 e17 e18 e19 e20 e21 e22 e23 e24 e25 e26 e27 e28 e29 e30 e31 e32 e33 e34 (.inl (0, 9, .inl (dL [nI q, 0, 1, 0, 0, 0, 0, 7, 0]))) e36), kc, kn) rfl ?_
  refine JR.vret (by decide +kernel) rfl ?_
  exact K1

theorem c_La_fresh {e0 e1 e2 e3 e4 e5 e6 e7 e8 e9 e10 e11 e12 e13 e14 e15 e16 e17 e18 e19 e20 e21 e22 e23 e24 e25 e26 e27 e28 e29 e30 e31 e32 e33 e34 : va_E} {q : Nat} {f35 f36 : Nat → Int32} : JE M_La_fresh [.int (nI q), .ref 35, .ref 36] (HP e0 e1 e2 e3 e4 e5 e6 e7 e8 e9 e10 e11 e12 e13 e14 e15 e16 e17 e18 e19 e20 e21 e22 e23 e24 e25 e26 e27 e28 e29 e30 e31 e32 e33 e34 (.inl (0, 9, .inl f35)) (.inl (0, 12, .inl f36))) none (HP e0 e1 e2 e3 e4 e5 e6 e7 e8 e9 e10 e11 e12 e13 e14 e15 e16 e17 e18 e19 e20 e21 e22 e23 e24 e25 e26 e27 e28 e29 e30 e31 e32 e33 e34 (.inl (0, 9, .inl (dL [nI q, 0, 1, 0, 0, 0, 0, 7, 0]))) (.inl (0, 12, .inl (fun j => nI ((nuF (fun _ => 0) (fun _ => 0)) j))))) := by
  refine JM.of (by decide +kernel) rfl (Nat.le_of_ble_eq_true rfl) (g_La_fresh_0 ?_)
  refine JR.hqs 35 _ (.inl (0, 9, .inl (dL [0, 0, 0, 0, 0, 0, 0, 0, 0]))) rfl (eqI (fun j hj => ?_)) ?_
  · have h : j = 0 ∨ j = 1 ∨ j = 2 ∨ j = 3 ∨ j = 4 ∨ j = 5 ∨ j = 6 ∨ j = 7 ∨ j = 8 := by omega
    rcases h with rfl | rfl | rfl | rfl | rfl | rfl | rfl | rfl | rfl <;> rfl
  · refine g_La_fresh_1 ?_
    refine JR.hqs 36 _ (.inl (0, 12, .inl (fun j => nI ((nuF (fun _ => 0) (fun _ => 0)) j)))) rfl (eqI (fun j hj => ?_)) ?_
    · have h : j = 0 ∨ j = 1 ∨ j = 2 ∨ j = 3 ∨ j = 4 ∨ j = 5 ∨ j = 6 ∨ j = 7 ∨ j = 8 ∨ j = 9 ∨ j = 10 ∨ j = 11 := by omega
      rcases h with rfl | rfl | rfl | rfl | rfl | rfl | rfl | rfl | rfl | rfl | rfl | rfl <;> rfl
    · exact g_La_fresh_2 ⟨rfl, rfl⟩

set_option maxRecDepth 100000 in
set_option maxHeartbeats 400000 in
theorem g_La_programBy {sc : aScr} {hh : aH} {x : Nat} {kc kn : Nat} {O : Option Value → aH → Prop} (hx : x < 2 ^ 31) (K1 : ((1 + (x % 4)) ≤ 1) → O (some (.int (nI (1 + ((x / 8) % 3))))) hh) (K2 : (1 < (1 + (x % 4))) → ((1 + (x % 4)) ≤ 2) → O (some (.int (nI (((4 * (1 + ((x / 8) % 3))) + 1) + ((x / 32) % 3))))) hh) (K3 : (1 < (1 + (x % 4))) → (2 < (1 + (x % 4))) → ((1 + (x % 4)) ≤ 3) → O (some (.int (nI (((4 * (((4 * (1 + ((x / 8) % 3))) + 1) + ((x / 32) % 3))) + 1) + ((x / 128) % 3))))) hh) (K4 : (1 < (1 + (x % 4))) → (2 < (1 + (x % 4))) → (3 < (1 + (x % 4))) → O (some (.int (nI (((4 * (((4 * (((4 * (1 + ((x / 8) % 3))) + 1) + ((x / 32) % 3))) + 1) + ((x / 128) % 3))) + 1) + ((x / 512) % 3))))) hh) : JR M_La_programBy sc (0, [(0, .int (nI x)), (1, .int 4)], [], hh, kc, kn) O := by
  refine J.gp ok_La_programBy 5 (5, [(0, .int (nI x)), (1, .int 4), (2, .int 0)], [.int 4, .int (nI x), .int 1], _, _, _) rfl ?_
  refine J.iremB ok_La_programBy 6 rfl (by decide) ?_
  rw [show ((nI x - nI x / 4 * 4) : Int32) = nI (x % 4) from pk_rem (a := x) (d := 4) (by omega) (by omega) (by omega)]
  refine J.gp ok_La_programBy 1 (7, [(0, .int (nI x)), (1, .int 4), (2, .int 0)], [.int (1 + nI (x % 4))], _, _, _) rfl ?_
  rw [show ((1 + nI (x % 4)) : Int32) = nI (1 + (x % 4)) from nI_add 1 (x % 4)]
  refine J.gp ok_La_programBy 5 (14, [(0, .int (nI x)), (1, .int 4), (2, .int 0), (3, .int (nI (1 + (x % 4)))), (4, .int 0)], [.int (nI (1 + (x % 4))), .int 0], _, _, _) rfl ?_
  refine J.icF ok_La_programBy (fun x y => y ≤ x) 40 17 rfl (fun h9 => absurd ((nI_leI (a := 1 + (x % 4)) (b := 0) (by omega) (by omega)).mp h9) (by omega)) ?_
  refine J.gp ok_La_programBy 3 (20, [(0, .int (nI x)), (1, .int 4), (2, .int 0), (3, .int (nI (1 + (x % 4)))), (4, .int 0)], [.int (4 * 0)], _, _, _) rfl ?_
  rw [show ((4 * 0) : Int32) = 0 from by decide]
  refine J.gp ok_La_programBy 2 (22, [(0, .int (nI x)), (1, .int 4), (2, .int 0), (3, .int (nI (1 + (x % 4)))), (4, .int 0)], [.int (0 + 1)], _, _, _) rfl ?_
  rw [show ((0 + 1) : Int32) = 1 from by decide]
  refine J.gp ok_La_programBy 5 (28, [(0, .int (nI x)), (1, .int 4), (2, .int 0), (3, .int (nI (1 + (x % 4)))), (4, .int 0)], [.int (2 * 0), .int 3, .int (nI x), .int 1], _, _, _) rfl ?_
  rw [show ((2 * 0) : Int32) = 0 from by decide]
  refine J.gp ok_La_programBy 1 (29, [(0, .int (nI x)), (1, .int 4), (2, .int 0), (3, .int (nI (1 + (x % 4)))), (4, .int 0)], [.int (3 + 0), .int (nI x), .int 1], _, _, _) rfl ?_
  rw [show ((3 + 0) : Int32) = 3 from by decide]
  refine J.gp ok_La_programBy 1 (30, [(0, .int (nI x)), (1, .int 4), (2, .int 0), (3, .int (nI (1 + (x % 4)))), (4, .int 0)], [.int (nI x >>> (3 &&& 31)), .int 1], _, _, _) rfl ?_
  rw [show ((nI x >>> (3 &&& 31)) : Int32) = nI (x / 8) from pk_shrN (n := x) (k := 3) (by omega) _ (by decide)]
  refine J.gp ok_La_programBy 1 (31, [(0, .int (nI x)), (1, .int 4), (2, .int 0), (3, .int (nI (1 + (x % 4)))), (4, .int 0)], [.int 3, .int (nI (x / 8)), .int 1], _, _, _) rfl ?_
  refine J.iremB ok_La_programBy 32 rfl (by decide) ?_
  rw [show ((nI (x / 8) - nI (x / 8) / 3 * 3) : Int32) = nI ((x / 8) % 3) from pk_rem (a := x / 8) (d := 3) (by omega) (by omega) (by omega)]
  refine J.gp ok_La_programBy 1 (33, [(0, .int (nI x)), (1, .int 4), (2, .int 0), (3, .int (nI (1 + (x % 4)))), (4, .int 0)], [.int (1 + nI ((x / 8) % 3))], _, _, _) rfl ?_
  rw [show ((1 + nI ((x / 8) % 3)) : Int32) = nI (1 + ((x / 8) % 3)) from nI_add 1 ((x / 8) % 3)]
  refine J.gp ok_La_programBy 2 (37, [(0, .int (nI x)), (1, .int 4), (2, .int (nI (1 + ((x / 8) % 3)))), (3, .int (nI (1 + (x % 4)))), (4, .int (0 + 1))], [], _, _, _) rfl ?_
  rw [show ((0 + 1) : Int32) = 1 from by decide]
  refine J.gp ok_La_programBy 3 (14, [(0, .int (nI x)), (1, .int 4), (2, .int (nI (1 + ((x / 8) % 3)))), (3, .int (nI (1 + (x % 4)))), (4, .int 1)], [.int (nI (1 + (x % 4))), .int 1], _, _, _) rfl ?_
  refine J.icB ok_La_programBy (fun x y => y ≤ x) 40 17 rfl (fun (h0 : nI (1 + (x % 4)) ≤ 1) => ?_) (fun (h0 : ¬ (nI (1 + (x % 4)) ≤ 1)) => ?_)
  · have c14 : (1 + (x % 4)) ≤ 1 := (nI_leI (a := 1 + (x % 4)) (b := 1) (by omega) (by omega)).mp h0
    refine J.gp ok_La_programBy 1 (41, [(0, .int (nI x)), (1, .int 4), (2, .int (nI (1 + ((x / 8) % 3)))), (3, .int (nI (1 + (x % 4)))), (4, .int 1)], [.int (nI (1 + ((x / 8) % 3)))], _, _, _) rfl ?_
    refine JR.iret .int (by decide +kernel) rfl (rfl) ?_
    exact K1 c14
  · have c14 : 1 < (1 + (x % 4)) := Nat.not_le.mp (fun h9 => h0 ((nI_leI (a := 1 + (x % 4)) (b := 1) (by omega) (by omega)).mpr h9))
    refine J.gp ok_La_programBy 3 (20, [(0, .int (nI x)), (1, .int 4), (2, .int (nI (1 + ((x / 8) % 3)))), (3, .int (nI (1 + (x % 4)))), (4, .int 1)], [.int (4 * nI (1 + ((x / 8) % 3)))], _, _, _) rfl ?_
    rw [show ((4 * nI (1 + ((x / 8) % 3))) : Int32) = nI (4 * (1 + ((x / 8) % 3))) from pk_mul 4 (1 + ((x / 8) % 3))]
    refine J.gp ok_La_programBy 2 (22, [(0, .int (nI x)), (1, .int 4), (2, .int (nI (1 + ((x / 8) % 3)))), (3, .int (nI (1 + (x % 4)))), (4, .int 1)], [.int (nI (4 * (1 + ((x / 8) % 3))) + 1)], _, _, _) rfl ?_
    rw [show ((nI (4 * (1 + ((x / 8) % 3))) + 1) : Int32) = nI ((4 * (1 + ((x / 8) % 3))) + 1) from nI_add (4 * (1 + ((x / 8) % 3))) 1]
    refine J.gp ok_La_programBy 5 (28, [(0, .int (nI x)), (1, .int 4), (2, .int (nI (1 + ((x / 8) % 3)))), (3, .int (nI (1 + (x % 4)))), (4, .int 1)], [.int (2 * 1), .int 3, .int (nI x), .int (nI ((4 * (1 + ((x / 8) % 3))) + 1))], _, _, _) rfl ?_
    rw [show ((2 * 1) : Int32) = 2 from by decide]
    refine J.gp ok_La_programBy 1 (29, [(0, .int (nI x)), (1, .int 4), (2, .int (nI (1 + ((x / 8) % 3)))), (3, .int (nI (1 + (x % 4)))), (4, .int 1)], [.int (3 + 2), .int (nI x), .int (nI ((4 * (1 + ((x / 8) % 3))) + 1))], _, _, _) rfl ?_
    rw [show ((3 + 2) : Int32) = 5 from by decide]
    refine J.gp ok_La_programBy 1 (30, [(0, .int (nI x)), (1, .int 4), (2, .int (nI (1 + ((x / 8) % 3)))), (3, .int (nI (1 + (x % 4)))), (4, .int 1)], [.int (nI x >>> (5 &&& 31)), .int (nI ((4 * (1 + ((x / 8) % 3))) + 1))], _, _, _) rfl ?_
    rw [show ((nI x >>> (5 &&& 31)) : Int32) = nI (x / 32) from pk_shrN (n := x) (k := 5) (by omega) _ (by decide)]
    refine J.gp ok_La_programBy 1 (31, [(0, .int (nI x)), (1, .int 4), (2, .int (nI (1 + ((x / 8) % 3)))), (3, .int (nI (1 + (x % 4)))), (4, .int 1)], [.int 3, .int (nI (x / 32)), .int (nI ((4 * (1 + ((x / 8) % 3))) + 1))], _, _, _) rfl ?_
    refine J.iremB ok_La_programBy 32 rfl (by decide) ?_
    rw [show ((nI (x / 32) - nI (x / 32) / 3 * 3) : Int32) = nI ((x / 32) % 3) from pk_rem (a := x / 32) (d := 3) (by omega) (by omega) (by omega)]
    refine J.gp ok_La_programBy 1 (33, [(0, .int (nI x)), (1, .int 4), (2, .int (nI (1 + ((x / 8) % 3)))), (3, .int (nI (1 + (x % 4)))), (4, .int 1)], [.int (nI ((4 * (1 + ((x / 8) % 3))) + 1) + nI ((x / 32) % 3))], _, _, _) rfl ?_
    rw [show ((nI ((4 * (1 + ((x / 8) % 3))) + 1) + nI ((x / 32) % 3)) : Int32) = nI (((4 * (1 + ((x / 8) % 3))) + 1) + ((x / 32) % 3)) from nI_add ((4 * (1 + ((x / 8) % 3))) + 1) ((x / 32) % 3)]
    refine J.gp ok_La_programBy 2 (37, [(0, .int (nI x)), (1, .int 4), (2, .int (nI (((4 * (1 + ((x / 8) % 3))) + 1) + ((x / 32) % 3)))), (3, .int (nI (1 + (x % 4)))), (4, .int (1 + 1))], [], _, _, _) rfl ?_
    rw [show ((1 + 1) : Int32) = 2 from by decide]
    refine J.gp ok_La_programBy 3 (14, [(0, .int (nI x)), (1, .int 4), (2, .int (nI (((4 * (1 + ((x / 8) % 3))) + 1) + ((x / 32) % 3)))), (3, .int (nI (1 + (x % 4)))), (4, .int 2)], [.int (nI (1 + (x % 4))), .int 2], _, _, _) rfl ?_
    refine J.icB ok_La_programBy (fun x y => y ≤ x) 40 17 rfl (fun (h0 : nI (1 + (x % 4)) ≤ 2) => ?_) (fun (h0 : ¬ (nI (1 + (x % 4)) ≤ 2)) => ?_)
    · have c14' : (1 + (x % 4)) ≤ 2 := (nI_leI (a := 1 + (x % 4)) (b := 2) (by omega) (by omega)).mp h0
      refine J.gp ok_La_programBy 1 (41, [(0, .int (nI x)), (1, .int 4), (2, .int (nI (((4 * (1 + ((x / 8) % 3))) + 1) + ((x / 32) % 3)))), (3, .int (nI (1 + (x % 4)))), (4, .int 2)], [.int (nI (((4 * (1 + ((x / 8) % 3))) + 1) + ((x / 32) % 3)))], _, _, _) rfl ?_
      refine JR.iret .int (by decide +kernel) rfl (rfl) ?_
      exact K2 c14 c14'
    · have c14' : 2 < (1 + (x % 4)) := Nat.not_le.mp (fun h9 => h0 ((nI_leI (a := 1 + (x % 4)) (b := 2) (by omega) (by omega)).mpr h9))
      refine J.gp ok_La_programBy 3 (20, [(0, .int (nI x)), (1, .int 4), (2, .int (nI (((4 * (1 + ((x / 8) % 3))) + 1) + ((x / 32) % 3)))), (3, .int (nI (1 + (x % 4)))), (4, .int 2)], [.int (4 * nI (((4 * (1 + ((x / 8) % 3))) + 1) + ((x / 32) % 3)))], _, _, _) rfl ?_
      rw [show ((4 * nI (((4 * (1 + ((x / 8) % 3))) + 1) + ((x / 32) % 3))) : Int32) = nI (4 * (((4 * (1 + ((x / 8) % 3))) + 1) + ((x / 32) % 3))) from pk_mul 4 (((4 * (1 + ((x / 8) % 3))) + 1) + ((x / 32) % 3))]
      refine J.gp ok_La_programBy 2 (22, [(0, .int (nI x)), (1, .int 4), (2, .int (nI (((4 * (1 + ((x / 8) % 3))) + 1) + ((x / 32) % 3)))), (3, .int (nI (1 + (x % 4)))), (4, .int 2)], [.int (nI (4 * (((4 * (1 + ((x / 8) % 3))) + 1) + ((x / 32) % 3))) + 1)], _, _, _) rfl ?_
      rw [show ((nI (4 * (((4 * (1 + ((x / 8) % 3))) + 1) + ((x / 32) % 3))) + 1) : Int32) = nI ((4 * (((4 * (1 + ((x / 8) % 3))) + 1) + ((x / 32) % 3))) + 1) from nI_add (4 * (((4 * (1 + ((x / 8) % 3))) + 1) + ((x / 32) % 3))) 1]
      refine J.gp ok_La_programBy 5 (28, [(0, .int (nI x)), (1, .int 4), (2, .int (nI (((4 * (1 + ((x / 8) % 3))) + 1) + ((x / 32) % 3)))), (3, .int (nI (1 + (x % 4)))), (4, .int 2)], [.int (2 * 2), .int 3, .int (nI x), .int (nI ((4 * (((4 * (1 + ((x / 8) % 3))) + 1) + ((x / 32) % 3))) + 1))], _, _, _) rfl ?_
      rw [show ((2 * 2) : Int32) = 4 from by decide]
      refine J.gp ok_La_programBy 1 (29, [(0, .int (nI x)), (1, .int 4), (2, .int (nI (((4 * (1 + ((x / 8) % 3))) + 1) + ((x / 32) % 3)))), (3, .int (nI (1 + (x % 4)))), (4, .int 2)], [.int (3 + 4), .int (nI x), .int (nI ((4 * (((4 * (1 + ((x / 8) % 3))) + 1) + ((x / 32) % 3))) + 1))], _, _, _) rfl ?_
      rw [show ((3 + 4) : Int32) = 7 from by decide]
      refine J.gp ok_La_programBy 1 (30, [(0, .int (nI x)), (1, .int 4), (2, .int (nI (((4 * (1 + ((x / 8) % 3))) + 1) + ((x / 32) % 3)))), (3, .int (nI (1 + (x % 4)))), (4, .int 2)], [.int (nI x >>> (7 &&& 31)), .int (nI ((4 * (((4 * (1 + ((x / 8) % 3))) + 1) + ((x / 32) % 3))) + 1))], _, _, _) rfl ?_
      rw [show ((nI x >>> (7 &&& 31)) : Int32) = nI (x / 128) from pk_shrN (n := x) (k := 7) (by omega) _ (by decide)]
      refine J.gp ok_La_programBy 1 (31, [(0, .int (nI x)), (1, .int 4), (2, .int (nI (((4 * (1 + ((x / 8) % 3))) + 1) + ((x / 32) % 3)))), (3, .int (nI (1 + (x % 4)))), (4, .int 2)], [.int 3, .int (nI (x / 128)), .int (nI ((4 * (((4 * (1 + ((x / 8) % 3))) + 1) + ((x / 32) % 3))) + 1))], _, _, _) rfl ?_
      refine J.iremB ok_La_programBy 32 rfl (by decide) ?_
      rw [show ((nI (x / 128) - nI (x / 128) / 3 * 3) : Int32) = nI ((x / 128) % 3) from pk_rem (a := x / 128) (d := 3) (by omega) (by omega) (by omega)]
      refine J.gp ok_La_programBy 1 (33, [(0, .int (nI x)), (1, .int 4), (2, .int (nI (((4 * (1 + ((x / 8) % 3))) + 1) + ((x / 32) % 3)))), (3, .int (nI (1 + (x % 4)))), (4, .int 2)], [.int (nI ((4 * (((4 * (1 + ((x / 8) % 3))) + 1) + ((x / 32) % 3))) + 1) + nI ((x / 128) % 3))], _, _, _) rfl ?_
      rw [show ((nI ((4 * (((4 * (1 + ((x / 8) % 3))) + 1) + ((x / 32) % 3))) + 1) + nI ((x / 128) % 3)) : Int32) = nI (((4 * (((4 * (1 + ((x / 8) % 3))) + 1) + ((x / 32) % 3))) + 1) + ((x / 128) % 3)) from nI_add ((4 * (((4 * (1 + ((x / 8) % 3))) + 1) + ((x / 32) % 3))) + 1) ((x / 128) % 3)]
      refine J.gp ok_La_programBy 2 (37, [(0, .int (nI x)), (1, .int 4), (2, .int (nI (((4 * (((4 * (1 + ((x / 8) % 3))) + 1) + ((x / 32) % 3))) + 1) + ((x / 128) % 3)))), (3, .int (nI (1 + (x % 4)))), (4, .int (2 + 1))], [], _, _, _) rfl ?_
      rw [show ((2 + 1) : Int32) = 3 from by decide]
      refine J.gp ok_La_programBy 3 (14, [(0, .int (nI x)), (1, .int 4), (2, .int (nI (((4 * (((4 * (1 + ((x / 8) % 3))) + 1) + ((x / 32) % 3))) + 1) + ((x / 128) % 3)))), (3, .int (nI (1 + (x % 4)))), (4, .int 3)], [.int (nI (1 + (x % 4))), .int 3], _, _, _) rfl ?_
      refine J.icB ok_La_programBy (fun x y => y ≤ x) 40 17 rfl (fun (h0 : nI (1 + (x % 4)) ≤ 3) => ?_) (fun (h0 : ¬ (nI (1 + (x % 4)) ≤ 3)) => ?_)
      · have c14'' : (1 + (x % 4)) ≤ 3 := (nI_leI (a := 1 + (x % 4)) (b := 3) (by omega) (by omega)).mp h0
        refine J.gp ok_La_programBy 1 (41, [(0, .int (nI x)), (1, .int 4), (2, .int (nI (((4 * (((4 * (1 + ((x / 8) % 3))) + 1) + ((x / 32) % 3))) + 1) + ((x / 128) % 3)))), (3, .int (nI (1 + (x % 4)))), (4, .int 3)], [.int (nI (((4 * (((4 * (1 + ((x / 8) % 3))) + 1) + ((x / 32) % 3))) + 1) + ((x / 128) % 3)))], _, _, _) rfl ?_
        refine JR.iret .int (by decide +kernel) rfl (rfl) ?_
        exact K3 c14 c14' c14''
      · have c14'' : 3 < (1 + (x % 4)) := Nat.not_le.mp (fun h9 => h0 ((nI_leI (a := 1 + (x % 4)) (b := 3) (by omega) (by omega)).mpr h9))
        refine J.gp ok_La_programBy 3 (20, [(0, .int (nI x)), (1, .int 4), (2, .int (nI (((4 * (((4 * (1 + ((x / 8) % 3))) + 1) + ((x / 32) % 3))) + 1) + ((x / 128) % 3)))), (3, .int (nI (1 + (x % 4)))), (4, .int 3)], [.int (4 * nI (((4 * (((4 * (1 + ((x / 8) % 3))) + 1) + ((x / 32) % 3))) + 1) + ((x / 128) % 3)))], _, _, _) rfl ?_
        rw [show ((4 * nI (((4 * (((4 * (1 + ((x / 8) % 3))) + 1) + ((x / 32) % 3))) + 1) + ((x / 128) % 3))) : Int32) = nI (4 * (((4 * (((4 * (1 + ((x / 8) % 3))) + 1) + ((x / 32) % 3))) + 1) + ((x / 128) % 3))) from pk_mul 4 (((4 * (((4 * (1 + ((x / 8) % 3))) + 1) + ((x / 32) % 3))) + 1) + ((x / 128) % 3))]
        refine J.gp ok_La_programBy 2 (22, [(0, .int (nI x)), (1, .int 4), (2, .int (nI (((4 * (((4 * (1 + ((x / 8) % 3))) + 1) + ((x / 32) % 3))) + 1) + ((x / 128) % 3)))), (3, .int (nI (1 + (x % 4)))), (4, .int 3)], [.int (nI (4 * (((4 * (((4 * (1 + ((x / 8) % 3))) + 1) + ((x / 32) % 3))) + 1) + ((x / 128) % 3))) + 1)], _, _, _) rfl ?_
        rw [show ((nI (4 * (((4 * (((4 * (1 + ((x / 8) % 3))) + 1) + ((x / 32) % 3))) + 1) + ((x / 128) % 3))) + 1) : Int32) = nI ((4 * (((4 * (((4 * (1 + ((x / 8) % 3))) + 1) + ((x / 32) % 3))) + 1) + ((x / 128) % 3))) + 1) from nI_add (4 * (((4 * (((4 * (1 + ((x / 8) % 3))) + 1) + ((x / 32) % 3))) + 1) + ((x / 128) % 3))) 1]
        refine J.gp ok_La_programBy 5 (28, [(0, .int (nI x)), (1, .int 4), (2, .int (nI (((4 * (((4 * (1 + ((x / 8) % 3))) + 1) + ((x / 32) % 3))) + 1) + ((x / 128) % 3)))), (3, .int (nI (1 + (x % 4)))), (4, .int 3)], [.int (2 * 3), .int 3, .int (nI x), .int (nI ((4 * (((4 * (((4 * (1 + ((x / 8) % 3))) + 1) + ((x / 32) % 3))) + 1) + ((x / 128) % 3))) + 1))], _, _, _) rfl ?_
        rw [show ((2 * 3) : Int32) = 6 from by decide]
        refine J.gp ok_La_programBy 1 (29, [(0, .int (nI x)), (1, .int 4), (2, .int (nI (((4 * (((4 * (1 + ((x / 8) % 3))) + 1) + ((x / 32) % 3))) + 1) + ((x / 128) % 3)))), (3, .int (nI (1 + (x % 4)))), (4, .int 3)], [.int (3 + 6), .int (nI x), .int (nI ((4 * (((4 * (((4 * (1 + ((x / 8) % 3))) + 1) + ((x / 32) % 3))) + 1) + ((x / 128) % 3))) + 1))], _, _, _) rfl ?_
        rw [show ((3 + 6) : Int32) = 9 from by decide]
        refine J.gp ok_La_programBy 1 (30, [(0, .int (nI x)), (1, .int 4), (2, .int (nI (((4 * (((4 * (1 + ((x / 8) % 3))) + 1) + ((x / 32) % 3))) + 1) + ((x / 128) % 3)))), (3, .int (nI (1 + (x % 4)))), (4, .int 3)], [.int (nI x >>> (9 &&& 31)), .int (nI ((4 * (((4 * (((4 * (1 + ((x / 8) % 3))) + 1) + ((x / 32) % 3))) + 1) + ((x / 128) % 3))) + 1))], _, _, _) rfl ?_
        rw [show ((nI x >>> (9 &&& 31)) : Int32) = nI (x / 512) from pk_shrN (n := x) (k := 9) (by omega) _ (by decide)]
        refine J.gp ok_La_programBy 1 (31, [(0, .int (nI x)), (1, .int 4), (2, .int (nI (((4 * (((4 * (1 + ((x / 8) % 3))) + 1) + ((x / 32) % 3))) + 1) + ((x / 128) % 3)))), (3, .int (nI (1 + (x % 4)))), (4, .int 3)], [.int 3, .int (nI (x / 512)), .int (nI ((4 * (((4 * (((4 * (1 + ((x / 8) % 3))) + 1) + ((x / 32) % 3))) + 1) + ((x / 128) % 3))) + 1))], _, _, _) rfl ?_
        refine J.iremB ok_La_programBy 32 rfl (by decide) ?_
        rw [show ((nI (x / 512) - nI (x / 512) / 3 * 3) : Int32) = nI ((x / 512) % 3) from pk_rem (a := x / 512) (d := 3) (by omega) (by omega) (by omega)]
        refine J.gp ok_La_programBy 1 (33, [(0, .int (nI x)), (1, .int 4), (2, .int (nI (((4 * (((4 * (1 + ((x / 8) % 3))) + 1) + ((x / 32) % 3))) + 1) + ((x / 128) % 3)))), (3, .int (nI (1 + (x % 4)))), (4, .int 3)], [.int (nI ((4 * (((4 * (((4 * (1 + ((x / 8) % 3))) + 1) + ((x / 32) % 3))) + 1) + ((x / 128) % 3))) + 1) + nI ((x / 512) % 3))], _, _, _) rfl ?_
        rw [show ((nI ((4 * (((4 * (((4 * (1 + ((x / 8) % 3))) + 1) + ((x / 32) % 3))) + 1) + ((x / 128) % 3))) + 1) + nI ((x / 512) % 3)) : Int32) = nI (((4 * (((4 * (((4 * (1 + ((x / 8) % 3))) + 1) + ((x / 32) % 3))) + 1) + ((x / 128) % 3))) + 1) + ((x / 512) % 3)) from nI_add ((4 * (((4 * (((4 * (1 + ((x / 8) % 3))) + 1) + ((x / 32) % 3))) + 1) + ((x / 128) % 3))) + 1) ((x / 512) % 3)]
        refine J.gp ok_La_programBy 2 (37, [(0, .int (nI x)), (1, .int 4), (2, .int (nI (((4 * (((4 * (((4 * (1 + ((x / 8) % 3))) + 1) + ((x / 32) % 3))) + 1) + ((x / 128) % 3))) + 1) + ((x / 512) % 3)))), (3, .int (nI (1 + (x % 4)))), (4, .int (3 + 1))], [], _, _, _) rfl ?_
        rw [show ((3 + 1) : Int32) = 4 from by decide]
        refine J.gp ok_La_programBy 3 (14, [(0, .int (nI x)), (1, .int 4), (2, .int (nI (((4 * (((4 * (((4 * (1 + ((x / 8) % 3))) + 1) + ((x / 32) % 3))) + 1) + ((x / 128) % 3))) + 1) + ((x / 512) % 3)))), (3, .int (nI (1 + (x % 4)))), (4, .int 4)], [.int (nI (1 + (x % 4))), .int 4], _, _, _) rfl ?_
        refine J.icT ok_La_programBy (fun x y => y ≤ x) 40 17 rfl ((nI_leI (a := 1 + (x % 4)) (b := 4) (by omega) (by omega)).mpr (by omega)) ?_
        refine J.gp ok_La_programBy 1 (41, [(0, .int (nI x)), (1, .int 4), (2, .int (nI (((4 * (((4 * (((4 * (1 + ((x / 8) % 3))) + 1) + ((x / 32) % 3))) + 1) + ((x / 128) % 3))) + 1) + ((x / 512) % 3)))), (3, .int (nI (1 + (x % 4)))), (4, .int 4)], [.int (nI (((4 * (((4 * (((4 * (1 + ((x / 8) % 3))) + 1) + ((x / 32) % 3))) + 1) + ((x / 128) % 3))) + 1) + ((x / 512) % 3)))], _, _, _) rfl ?_
        refine JR.iret .int (by decide +kernel) rfl (rfl) ?_
        exact K4 c14 c14' c14''

def pg1 (x : Nat) : Nat := 1 + (x / 8) % 3
def pg2 (x : Nat) : Nat := 4 * pg1 x + 1 + (x / 32) % 3
def pg3 (x : Nat) : Nat := 4 * pg2 x + 1 + (x / 128) % 3
def pg4 (x : Nat) : Nat := 4 * pg3 x + 1 + (x / 512) % 3
def pgB (x : Nat) : Nat := if x % 4 = 0 then pg1 x else if x % 4 = 1 then pg2 x else if x % 4 = 2 then pg3 x else pg4 x
theorem pg_1 : ∀ a, a < 3 → isPr (1 + a) = true := by decide +kernel
theorem pg_n : ∀ r, r < 64 → isPr r = true → ∀ d, d < 3 → isPr (4 * r + 1 + d) = true := by decide +kernel
theorem pgB_ok (x : Nat) : isPr (pgB x) = true := by
  have h1 : x / 8 % 3 < 3 := Nat.mod_lt _ (by decide)
  have h2 : x / 32 % 3 < 3 := Nat.mod_lt _ (by decide)
  have h3 : x / 128 % 3 < 3 := Nat.mod_lt _ (by decide)
  have h4 : x / 512 % 3 < 3 := Nat.mod_lt _ (by decide)
  have e1 : isPr (pg1 x) = true := pg_1 _ h1
  have b1 : pg1 x < 4 := by unfold pg1; omega
  have e2 : isPr (pg2 x) = true := pg_n _ (by omega) e1 _ h2
  have b2 : pg2 x < 16 := by unfold pg2; omega
  have e3 : isPr (pg3 x) = true := pg_n _ (by omega) e2 _ h3
  have b3 : pg3 x < 64 := by unfold pg3; omega
  have e4 : isPr (pg4 x) = true := pg_n _ (by omega) e3 _ h4
  unfold pgB
  split
  · exact e1
  · split
    · exact e2
    · split
      · exact e3
      · exact e4
theorem c_La_programBy {hh : aH} {x : Nat} (hx : x < 2 ^ 31) : JE M_La_programBy [.int (nI x), .int 4] hh (some (.int (nI (pgB x)))) hh := by
  refine JM.of (by decide +kernel) rfl (Nat.le_of_ble_eq_true rfl) (g_La_programBy hx (fun c1 => ⟨?_, rfl⟩) (fun c1 c2 => ⟨?_, rfl⟩) (fun c1 c2 c3 => ⟨?_, rfl⟩) (fun c1 c2 c3 => ⟨?_, rfl⟩)) <;> unfold pgB
  · rw [if_pos (by omega)]; rfl
  · rw [if_neg (by omega), if_pos (by omega)]; rfl
  · rw [if_neg (by omega), if_neg (by omega), if_pos (by omega)]; rfl
  · rw [if_neg (by omega), if_neg (by omega), if_neg (by omega)]; rfl

/-- a method that reads the script -/
def aPreS (L : Nat) (xs : Nat → Int32) (D : va_G) (ca : Nat → ClassId) (ad : Nat → Nat) (av : List Value) (hp : aH) (sz : Nat) : Array Value → State → Prop := fun a U =>
  aPre D ca ad av hp sz a U ∧ va_X (ad 1000) L xs U U.heap ∧ ad 1000 < U.heap.size ∧ ¬ va_A (wl ca ad hp) sz (ad 1000)
def JMS (L : Nat) (xs : Nat → Int32) (M : aM) (av : List Value) (hp : aH) (O : Option Value → aH → Prop) : Prop :=
  ∀ l : Launch, l.stackTraces = false → ∀ (D : va_G) (ca : Nat → ClassId) (ad : Nat → Nat) (sz : Nat), Met l M.1 (aWs M) (aRm M 0 0) (aPreS L xs D ca ad av hp sz) (fun _ => aPost D ca ad hp sz O) 0 0 (va_A (wl ca ad hp) sz)
theorem JMS.of {L : Nat} {xs : Nat → Int32} {M : aM} {av : List Value} {hp : aH} {O : Option Value → aH → Prop} (hpl : plainName M.1.cls = true) (hown : M.2.1 = M.1.cls) (hsz : (lg_sl av).length ≤ M.2.2.2.1) (h : JR M (some (L, xs)) (0, lv_args 0 av, [], hp, 0, 0) O) : JMS L xs M av hp O := by
  intro l hl D ca ad sz
  refine Met.ofW (cc := M.2.2.1) (maxL := M.2.2.2.1) (ret := M.2.2.2.2.1) hpl rfl ?_
  intro p e s m args below meth c s₁ B hml hv
  obtain ⟨⟨rfl, hsz', hP, hD0, hK, hE⟩, hX1, hX2, hX3⟩ := hv
  have hts := atoms_spec (ws := aWs M) B.pre
  have hts2 : ∀ w ∈ aT, w.before (av.map (cvV ad)).toArray s = true := by
    intro w hw
    rcases List.mem_append.mp hw with g | g
    · exact hts w (List.mem_cons_of_mem _ g)
    · have hn := (List.mem_filter.mp g).2
      have := hE.2.2.2.1 w g
      cases w with
      | fieldLinkNest a i b n d x => exact va_Nw.use rfl this
      | methodLinkNest a i x y => exact va_Nw.use rfl this
      | castable a b => exact va_Nw.use rfl this
      | _ => cases hn
  have hown' : s.vm.findClass M.2.1 = some m.cls := by rw [hown]; exact findClass_of_methodNamed B.named
  have hname : meth.name = M.1.name := (name_of_methodNamed B.named B.method).1
  subst hsz'
  have hD := hD0.self (sz := s.heap.size)
  have hlv := lv_entry (av.map (cvV ad)) (n := M.2.2.2.1) (by rw [lg_sl_len]; exact hsz)
  rw [lv_args_cv] at hlv
  rw [lg_entry_eq]
  refine h p l e (aRm M 0 0) s m _ below meth c D ca (va_A (wl ca ad hp) s.heap.size) _ ⟨B.exec, B.bytes, hml, hown', hts2, B.notSynchronized, hname, B.returns, hl, Nat.le_refl _, Nat.le_refl _, hK, fun q hq => Or.inr hq, hE⟩ ad s.heap [] 0 0 _ ⟨hP, hD, va_S.rf, hlv, Nat.le_refl _, Nat.le_refl _, ⟨hX1, hX2, hX3⟩⟩ ?_
  intro T ad' H' locs' cells' slots' ls' hT hx hd
  obtain ⟨v, hret, hO⟩ := hT
  obtain ⟨hP', hD', hS', hl', hc', hs', -⟩ := hd
  refine W.widen (k := 0) (n := 0) (by have : cells' + _ ≤ 0 := hc'; omega) (by have : slots' + _ ≤ 0 := hs'; omega) ?_
  have hq : ∀ (w : Option Value), v = w → ∀ (t : State), t.heap = H' → s.WarmedH t.vm → aPost D ca ad hp s.heap.size O s (.returned (w.map (cvV ad'))) t := by
    intro w hw t ht hW
    subst hw
    exact ⟨⟨_, rfl, v, T.2.2.2.1, ad', rfl, hO, hx, by rw [ht]; exact hP', hD'⟩, hS'.F ht⟩
  obtain ⟨pc, lv, st, hp', k, n⟩ := T
  rcases hret with ⟨x, h1, ⟨ty, h2, h3⟩, h4, h5⟩ | ⟨x, h1, h2, h4, h5⟩ | ⟨x, h1, h2, h4, h5⟩ | ⟨h1, h2, h4, h5⟩
  · dsimp only at h4
    subst h4
    exact W.zret (v := x) B.exec B.bytes (B.returns.trans h2) h3 (hq _ h5) hS'.2.2 h1
  · dsimp only at h4
    subst h4
    exact W.lret (v := x) B.exec B.bytes (B.returns.trans h2) (hq _ h5) hS'.2.2 h1
  · dsimp only at h4
    subst h4
    exact W.dret (v := x) (hlocks := B.notSynchronized) B.exec B.bytes (B.returns.trans h2) (hq _ h5) hS'.2.2 h1
  · dsimp only at h4
    subst h4
    exact W.vret B.exec B.bytes (B.returns.trans h2) (hq _ h5) hS'.2.2 h1
theorem J.callSS {L : Nat} {xs : Nat → Int32} {M N : aM} {pc np : Nat} {lv : List (Nat × Value)} {rest : List Value} {hp : aH} {k n : Nat} {O : Option Value → aH → Prop} {Q : aS → Prop} (site : aSS M N pc np) (av : List Value) (hnp : av.length = np) (hcat : (rest.map fun v => v.category).sum ≤ 8) (hM : JMS L xs N av hp O) (hno : ∀ v hp', O v hp' → hp'.length = hp.length)
    (kk : ∀ v hp', O v hp' → J M (some (L, xs)) (pc + 3, lv, v.toList ++ rest, hp', k, n) Q) : J M (some (L, xs)) (pc, lv, av.reverse ++ rest, hp, k, n) Q := by
  obtain ⟨idx, hd, hl, hi, hco, hini, hdd, hfr, hlo⟩ := site
  refine aCall (mc := 0) (ms := 0) (fun p l e R s m args below meth c D ca A hs ad H locs cells slots ls hdy hF _ hbl hpr => ?_) (Nat.zero_le _) (Nat.zero_le _) (Or.inl hno) kk
  obtain ⟨hx, hb, hml, hown, hts, hlk, hnm, hrt, hst, hfR, hlR, hK, hA, hE⟩ := hs
  obtain ⟨hP, hD, hS, hlv, hc, hsl, hX⟩ := hdy
  obtain ⟨hX1, hX2, hX3⟩ := hX
  have htsG : ∀ w ∈ aG, w.before args s = true := fun w hw => hts w (aG_sub hw)
  have hbl2 : FrameBlind (aPreS L xs D ca ad av hp H.size) := by
    intro a U g mk q
    exact ⟨hbl av a U g mk q.1, va_X.moved (u := U) (U := U.calling g mk a) (Vm.Alike.refl U.vm) q.2.1, q.2.2.1, q.2.2.2⟩
  have hpr2 : ∀ (U : State), U.heap = H → s.WarmedH U.vm → aPreS L xs D ca ad av hp H.size (av.map (cvV ad)).toArray U := by
    intro U hU hW
    refine ⟨hpr av U hU hW, ?_, ?_, fun h => hX3 (hF _ h)⟩
    · rw [hU]
      exact va_X.moved hW.alike (va_X.kept hX1 (hS.2.1 _ hX2 hX3))
    · rw [hU]
      exact Nat.lt_of_lt_of_le hX2 hS.1
  exact va_runS (As := av.map (cvV ad)) (rest := rest.map (cvV ad)) (own := M.2.1) (g := F0 m pc ls ((av.reverse ++ rest).map (cvV ad))) (Ts := aG) (n := np) ⟨hx, hb, hml, hown, htsG⟩ (hM l hst D ca ad H.size)
    ⟨callB_of np htsG (aWs_good N hco) rfl rfl rfl (htsG _ hini) (htsG _ hl) hdd ⟨Nat.le_trans hfr hfR, Nat.le_trans hlo hlR⟩, htsG _ hi⟩
    ⟨hbl2, hpr2⟩ rfl (by rw [List.length_map]; exact hnp) hlv.1
    (by show List.map (cvV ad) (av.reverse ++ rest) = _; rw [List.map_append, List.map_reverse]) (by show 2 * 0 + _ ≤ 8; rw [cv_cat]; omega) hd ⟨by have : cells + k ≤ R.cells := hc; omega, by have : slots + n ≤ R.slots := hsl; omega⟩

set_option maxRecDepth 100000 in
set_option maxHeartbeats 400000 in
theorem g_La_cell {hh : aH} {L k : Nat} {xs : Nat → Int32} {kc kn : Nat} {O : Option Value → aH → Prop} (hL : L ≤ 260) (hk : k < 1000) (K1 : (L ≤ k) → O (some (.int (nI ((11003 * k) + 131) &&& 2147483647))) hh) (K2 : (k < L) → O (some (.int ((xs k) &&& 2147483647))) hh) : JR (M_La_cell L xs) (some (L, xs)) (0, [(0, .ref 1000), (1, .int (nI k))], [], hh, kc, kn) O := by
  refine J.gp (ok_La_cell (L := L) (xs := xs)) 3 (3, [(0, .ref 1000), (1, .int (nI k))], [.int (nI L), .int (nI k)], _, _, _) rfl ?_
  refine J.icB (ok_La_cell (L := L) (xs := xs)) (fun x y => y ≤ x) 12 6 rfl (fun (h0 : nI L ≤ nI k) => ?_) (fun (h0 : ¬ (nI L ≤ nI k)) => ?_)
  · have c3 : L ≤ k := (nI_leI (a := L) (b := k) (by omega) (by omega)).mp h0
    refine J.gp (ok_La_cell (L := L) (xs := xs)) 3 (17, [(0, .ref 1000), (1, .int (nI k))], [.int (11003 * nI k)], _, _, _) rfl ?_
    rw [show ((11003 * nI k) : Int32) = nI (11003 * k) from pk_mul 11003 k]
    refine J.gp (ok_La_cell (L := L) (xs := xs)) 2 (21, [(0, .ref 1000), (1, .int (nI k))], [.int (nI (11003 * k) + 131)], _, _, _) rfl ?_
    rw [show ((nI (11003 * k) + 131) : Int32) = nI ((11003 * k) + 131) from nI_add (11003 * k) 131]
    refine J.gp (ok_La_cell (L := L) (xs := xs)) 2 (24, [(0, .ref 1000), (1, .int (nI k))], [.int (nI ((11003 * k) + 131) &&& 2147483647)], _, _, _) rfl ?_
    refine JR.iret .int (show decode method_2_code 24 = .ok (.ireturn, 1) from by decide +kernel) rfl (rfl) ?_
    exact K1 c3
  · have c3 : k < L := Nat.not_le.mp (fun h9 => h0 ((nI_leI (a := L) (b := k) (by omega) (by omega)).mpr h9))
    refine J.gp (ok_La_cell (L := L) (xs := xs)) 2 (8, [(0, .ref 1000), (1, .int (nI k))], [.int (nI k), .ref 1000], _, _, _) rfl ?_
    refine J.sldB (ok_La_cell (L := L) (xs := xs)) 9 k rfl (rfl) (by omega) (by omega) ?_
    refine J.gp (ok_La_cell (L := L) (xs := xs)) 3 (24, [(0, .ref 1000), (1, .int (nI k))], [.int ((xs k) &&& 2147483647)], _, _, _) rfl ?_
    refine JR.iret .int (show decode method_2_code 24 = .ok (.ireturn, 1) from by decide +kernel) rfl (rfl) ?_
    exact K2 c3

/-- a number of the script, made not negative -/
theorem c_La_cell {hh : aH} {L k : Nat} {xs : Nat → Int32} (hL : L ≤ 260) (hk : k < 1000) : JMS L xs (M_La_cell L xs) [.ref 1000, .int (nI k)] hh (fun v q => (∃ c : Nat, c < 2 ^ 31 ∧ v = some (.int (nI c))) ∧ q = hh) := by
  have h31 : (2147483647 : Int32).toBitVec.toNat = 2 ^ 31 - 1 := by decide
  refine JMS.of (show plainName yL_cell.cls = true from by decide +kernel) rfl (show (lg_sl [.ref 1000, .int (nI k)]).length ≤ 2 from Nat.le_of_ble_eq_true rfl) (g_La_cell hL hk (fun c => ⟨?_, rfl⟩) (fun c => ⟨?_, rfl⟩))
  · obtain ⟨j, hj, e⟩ := pk_andE (nI (11003 * k + 131)) 31 h31
    exact ⟨j, hj, by rw [e]⟩
  · obtain ⟨j, hj, e⟩ := pk_andE (xs k) 31 h31
    exact ⟨j, hj, by rw [e]⟩
