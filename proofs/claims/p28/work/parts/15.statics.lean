/-! STATIC METHODS of the face, and of the JDK -/
def HP (e0 e1 e2 e3 e4 e5 e6 e7 e8 e9 e10 e11 e12 e13 e14 e15 e16 e17 e18 e19 e20 e21 e22 e23 e24 e25 e26 e27 e28 e29 e30 e31 e32 e33 e34 e35 e36 : va_E) : aH := [e0, e1, e2, e3, e4, e5, e6, e7, e8, e9, e10, e11, e12, e13, e14, e15, e16, e17, e18, e19, e20, e21, e22, e23, e24, e25, e26, e27, e28, e29, e30, e31, e32, e33, e34, e35, e36]
theorem upd_nI (T : Nat → Nat) (i x : Nat) : upd (fun j => nI (T j)) i (nI x) = fun j => nI (va_up T i x j) := by
  funext j
  unfold upd va_up
  split <;> rfl
theorem updL_lN (T : Nat → Nat) (i x : Nat) : vp_updL (fun j => lN (T j)) i (lN x) = fun j => lN (va_up T i x j) := by
  funext j
  unfold vp_updL va_up
  split <;> rfl
theorem cmp_ge {x y : Int64} : 0 ≤ lg_cmp x y ↔ y ≤ x := lg_cmp_ge x y
theorem cmp_eq {x y : Int64} : lg_cmp x y = 0 ↔ x = y := by
  unfold lg_cmp
  constructor
  · intro h
    split at h
    · exact absurd h (by decide)
    · split at h
      · assumption
      · exact absurd h (by decide)
  · rintro rfl
    rw [if_neg (show ¬ x > x from Int64.lt_irrefl), if_pos rfl]
theorem cmp_gt {x y : Int64} : 0 < lg_cmp x y ↔ y < x := by
  unfold lg_cmp
  constructor
  · intro h
    split at h
    · assumption
    · split at h <;> exact absurd h (by decide)
  · intro h
    rw [if_pos h]
    decide
theorem cmp_ge_n {x y : Int64} : ¬ 0 ≤ lg_cmp x y ↔ x < y := by rw [cmp_ge, Int64.not_le]
theorem cmp_lt {x y : Int64} : lg_cmp x y < 0 ↔ x < y := by rw [← cmp_ge_n, Int32.not_le]
theorem cmp_lt_n {x y : Int64} : ¬ lg_cmp x y < 0 ↔ y ≤ x := by rw [cmp_lt, Int64.not_lt]
theorem cmp_gt_n {x y : Int64} : ¬ 0 < lg_cmp x y ↔ x ≤ y := by rw [cmp_gt, Int64.not_lt]
theorem cmp_le {x y : Int64} : lg_cmp x y ≤ 0 ↔ x ≤ y := by rw [← cmp_gt_n, Int32.not_lt]
theorem cmp_le_n {x y : Int64} : ¬ lg_cmp x y ≤ 0 ↔ y < x := by rw [cmp_le, Int64.not_le]
theorem cmp_eq_n {x y : Int64} : ¬ lg_cmp x y = 0 ↔ ¬ x = y := by rw [cmp_eq]
theorem cmp_ne {x y : Int64} : ¬ lg_cmp x y = 0 ↔ ¬ x = y := by rw [cmp_eq]
theorem cmp_ne_n {x y : Int64} : ¬ ¬ lg_cmp x y = 0 ↔ x = y := by rw [cmp_eq, Classical.not_not]
section
variable {a b : Nat}
theorem cmp_geN (ha : a < 2 ^ 63) (hb : b < 2 ^ 63) : 0 ≤ lg_cmp (lN a) (lN b) ↔ b ≤ a := by rw [cmp_ge, pk_lLE hb ha]
theorem cmp_geN_n (ha : a < 2 ^ 63) (hb : b < 2 ^ 63) : ¬ 0 ≤ lg_cmp (lN a) (lN b) ↔ a < b := by rw [cmp_ge_n, pk_lLT ha hb]
theorem cmp_gtN (ha : a < 2 ^ 63) (hb : b < 2 ^ 63) : 0 < lg_cmp (lN a) (lN b) ↔ b < a := by rw [cmp_gt, pk_lLT hb ha]
theorem cmp_gtN_n (ha : a < 2 ^ 63) (hb : b < 2 ^ 63) : ¬ 0 < lg_cmp (lN a) (lN b) ↔ a ≤ b := by rw [cmp_gt_n, pk_lLE ha hb]
theorem cmp_ltN (ha : a < 2 ^ 63) (hb : b < 2 ^ 63) : lg_cmp (lN a) (lN b) < 0 ↔ a < b := by rw [cmp_lt, pk_lLT ha hb]
theorem cmp_ltN_n (ha : a < 2 ^ 63) (hb : b < 2 ^ 63) : ¬ lg_cmp (lN a) (lN b) < 0 ↔ b ≤ a := by rw [cmp_lt_n, pk_lLE hb ha]
theorem cmp_leN (ha : a < 2 ^ 63) (hb : b < 2 ^ 63) : lg_cmp (lN a) (lN b) ≤ 0 ↔ a ≤ b := by rw [cmp_le, pk_lLE ha hb]
theorem cmp_leN_n (ha : a < 2 ^ 63) (hb : b < 2 ^ 63) : ¬ lg_cmp (lN a) (lN b) ≤ 0 ↔ b < a := by rw [cmp_le_n, pk_lLT hb ha]
theorem cmp_eqN (ha : a < 2 ^ 63) (hb : b < 2 ^ 63) : lg_cmp (lN a) (lN b) = 0 ↔ a = b := by rw [cmp_eq, pk_lEQ ha hb]
theorem cmp_eqN_n (ha : a < 2 ^ 63) (hb : b < 2 ^ 63) : ¬ lg_cmp (lN a) (lN b) = 0 ↔ ¬ a = b := by rw [cmp_eq, pk_lEQ ha hb]
theorem cmp_neN (ha : a < 2 ^ 63) (hb : b < 2 ^ 63) : ¬ lg_cmp (lN a) (lN b) = 0 ↔ ¬ a = b := by rw [cmp_eq, pk_lEQ ha hb]
theorem cmp_neN_n (ha : a < 2 ^ 63) (hb : b < 2 ^ 63) : ¬ ¬ lg_cmp (lN a) (lN b) = 0 ↔ a = b := by rw [cmp_eq, pk_lEQ ha hb, Classical.not_not]
end
/-- programs -/
def plen (p : Nat) : Nat := if p < 4 then 1 else if p < 16 then 2 else if p < 64 then 3 else 4
def pdig (p i : Nat) : Nat := p / 4 ^ i % 4
def isPr (p : Nat) : Bool := decide (0 < p) && (decide (p < 256) && (List.range (plen p)).all (fun i => decide (pdig p i ≠ 0)))
def plev (p i : Nat) : Nat := pdig p (plen p - 1 - i) - 1
theorem plen_pos (p : Nat) : 1 ≤ plen p := by unfold plen; repeat' split
                                              all_goals omega
theorem plen_le (p : Nat) : plen p ≤ 4 := by unfold plen; repeat' split
                                             all_goals omega
theorem isPr_bd {p : Nat} (h : isPr p = true) : 0 < p ∧ p < 256 := by
  obtain ⟨h1, h2⟩ := Bool.and_eq_true_iff.mp h
  obtain ⟨h3, h4⟩ := Bool.and_eq_true_iff.mp h2
  exact ⟨of_decide_eq_true h1, of_decide_eq_true h3⟩
theorem plev_lt {p i : Nat} : plev p i < 3 := by
  unfold plev pdig
  have := Nat.mod_lt (p / 4 ^ (plen p - 1 - i)) (show 0 < 4 by decide)
  omega

set_option maxRecDepth 100000 in
set_option maxHeartbeats 4000000 in
theorem g_F_isWithin {sc : aScr} {hh : aH} {a b c : Int32} {kc kn : Nat} {O : Option Value → aH → Prop}  (K1 : (a < b) → O (some (.int 0)) hh) (K2 : (¬ (a < b)) → (c < a) → O (some (.int 0)) hh) (K3 : (¬ (a < b)) → (¬ (c < a)) → O (some (.int 1)) hh) : JR M_F_isWithin sc (0, [(0, .int a), (1, .int b), (2, .int c)], [], hh, kc, kn) O := by
  refine J.gp ok_F_isWithin 2 (2, [(0, .int a), (1, .int b), (2, .int c)], [.int b, .int a], _, _, _) rfl ?_
  refine J.icB ok_F_isWithin (fun x y => x < y) 14 5 rfl (fun (c2 : a < b) => ?_) (fun (c2 : ¬ (a < b)) => ?_)
  · refine J.gp ok_F_isWithin 1 (15, [(0, .int a), (1, .int b), (2, .int c)], [.int 0], _, _, _) rfl ?_
    refine JR.iret .boolean (by decide +kernel) rfl (by decide) ?_
    exact K1 c2
  · refine J.gp ok_F_isWithin 2 (7, [(0, .int a), (1, .int b), (2, .int c)], [.int c, .int a], _, _, _) rfl ?_
    refine J.icB ok_F_isWithin (fun x y => y < x) 14 10 rfl (fun (c7 : c < a) => ?_) (fun (c7 : ¬ (c < a)) => ?_)
    · refine J.gp ok_F_isWithin 1 (15, [(0, .int a), (1, .int b), (2, .int c)], [.int 0], _, _, _) rfl ?_
      refine JR.iret .boolean (by decide +kernel) rfl (by decide) ?_
      exact K2 c2 c7
    · refine J.gp ok_F_isWithin 2 (15, [(0, .int a), (1, .int b), (2, .int c)], [.int 1], _, _, _) rfl ?_
      refine JR.iret .boolean (by decide +kernel) rfl (by decide) ?_
      exact K3 c2 c7

theorem c_F_isWithin_t {hh : aH} {a b c : Int32} (h1 : b ≤ a) (h2 : a ≤ c) : JE M_F_isWithin [.int a, .int b, .int c] hh (some (.int 1)) hh :=
  JM.of (by decide) rfl (Nat.le_of_ble_eq_true rfl) (g_F_isWithin (fun c1 => absurd h1 (Int32.not_le.mpr c1)) (fun _ c2 => absurd h2 (Int32.not_le.mpr c2)) (fun _ _ => ⟨rfl, rfl⟩))
theorem c_F_isWithin_f {hh : aH} {a b c : Int32} (h : ¬ (b ≤ a ∧ a ≤ c)) : JE M_F_isWithin [.int a, .int b, .int c] hh (some (.int 0)) hh :=
  JM.of (by decide) rfl (Nat.le_of_ble_eq_true rfl) (g_F_isWithin (fun _ => ⟨rfl, rfl⟩) (fun _ _ => ⟨rfl, rfl⟩) (fun c1 c2 => absurd ⟨Int32.not_lt.mp c1, Int32.not_lt.mp c2⟩ h))

set_option maxRecDepth 100000 in
set_option maxHeartbeats 4000000 in
theorem g_F_isLever {sc : aScr} {hh : aH} {a : Int32} {kc kn : Nat} {O : Option Value → aH → Prop}  (K1 : (a < 0) → O (some (.int 0)) hh) (K2 : (¬ (a < 0)) → (3 ≤ a) → O (some (.int 0)) hh) (K3 : (¬ (a < 0)) → (¬ (3 ≤ a)) → O (some (.int 1)) hh) : JR M_F_isLever sc (0, [(0, .int a)], [], hh, kc, kn) O := by
  refine J.gp ok_F_isLever 1 (1, [(0, .int a)], [.int a], _, _, _) rfl ?_
  refine J.ifB ok_F_isLever (fun x => x < 0) 13 4 rfl (fun (c1 : a < 0) => ?_) (fun (c1 : ¬ (a < 0)) => ?_)
  · refine J.gp ok_F_isLever 1 (14, [(0, .int a)], [.int 0], _, _, _) rfl ?_
    refine JR.iret .boolean (by decide +kernel) rfl (by decide) ?_
    exact K1 c1
  · refine J.gp ok_F_isLever 2 (6, [(0, .int a)], [.int 3, .int a], _, _, _) rfl ?_
    refine J.icB ok_F_isLever (fun x y => y ≤ x) 13 9 rfl (fun (c6 : 3 ≤ a) => ?_) (fun (c6 : ¬ (3 ≤ a)) => ?_)
    · refine J.gp ok_F_isLever 1 (14, [(0, .int a)], [.int 0], _, _, _) rfl ?_
      refine JR.iret .boolean (by decide +kernel) rfl (by decide) ?_
      exact K2 c1 c6
    · refine J.gp ok_F_isLever 2 (14, [(0, .int a)], [.int 1], _, _, _) rfl ?_
      refine JR.iret .boolean (by decide +kernel) rfl (by decide) ?_
      exact K3 c1 c6

theorem c_F_isLever_t {hh : aH} {a : Int32} (h1 : 0 ≤ a) (h2 : a < 3) : JE M_F_isLever [.int a] hh (some (.int 1)) hh :=
  JM.of (by decide) rfl (Nat.le_of_ble_eq_true rfl) (g_F_isLever (fun c1 => absurd h1 (Int32.not_le.mpr c1)) (fun _ c2 => absurd h2 (Int32.not_lt.mpr c2)) (fun _ _ => ⟨rfl, rfl⟩))
theorem c_F_isLever_f {hh : aH} {a : Int32} (h : ¬ (0 ≤ a ∧ a < 3)) : JE M_F_isLever [.int a] hh (some (.int 0)) hh :=
  JM.of (by decide) rfl (Nat.le_of_ble_eq_true rfl) (g_F_isLever (fun _ => ⟨rfl, rfl⟩) (fun _ _ => ⟨rfl, rfl⟩) (fun c1 c2 => absurd ⟨Int32.not_lt.mp c1, Int32.not_le.mp c2⟩ h))

set_option maxRecDepth 100000 in
set_option maxHeartbeats 4000000 in
theorem g_F_lengthOf {sc : aScr} {hh : aH} {p : Nat} {kc kn : Nat} {O : Option Value → aH → Prop} (hp : p < 256) (K1 : (4 ≤ p) → (16 ≤ p) → (64 ≤ p) → O (some (.int 4)) hh) (K2 : (4 ≤ p) → (16 ≤ p) → (p < 64) → O (some (.int 3)) hh) (K3 : (4 ≤ p) → (p < 16) → O (some (.int 2)) hh) (K4 : (p < 4) → O (some (.int 1)) hh) : JR M_F_lengthOf sc (0, [(0, .int (nI p))], [], hh, kc, kn) O := by
  refine J.gp ok_F_lengthOf 2 (2, [(0, .int (nI p))], [.int 4, .int (nI p)], _, _, _) rfl ?_
  refine J.icB ok_F_lengthOf (fun x y => y ≤ x) 7 5 rfl (fun (h0 : 4 ≤ nI p) => ?_) (fun (h0 : ¬ (4 ≤ nI p)) => ?_)
  · have c2 : 4 ≤ p := (nI_leI (a := 4) (b := p) (by omega) (by omega)).mp h0
    refine J.gp ok_F_lengthOf 2 (10, [(0, .int (nI p))], [.int 16, .int (nI p)], _, _, _) rfl ?_
    refine J.icB ok_F_lengthOf (fun x y => y ≤ x) 15 13 rfl (fun (h0 : 16 ≤ nI p) => ?_) (fun (h0 : ¬ (16 ≤ nI p)) => ?_)
    · have c10 : 16 ≤ p := (nI_leI (a := 16) (b := p) (by omega) (by omega)).mp h0
      refine J.gp ok_F_lengthOf 2 (18, [(0, .int (nI p))], [.int 64, .int (nI p)], _, _, _) rfl ?_
      refine J.icB ok_F_lengthOf (fun x y => y ≤ x) 25 21 rfl (fun (h0 : 64 ≤ nI p) => ?_) (fun (h0 : ¬ (64 ≤ nI p)) => ?_)
      · have c18 : 64 ≤ p := (nI_leI (a := 64) (b := p) (by omega) (by omega)).mp h0
        refine J.gp ok_F_lengthOf 1 (26, [(0, .int (nI p))], [.int 4], _, _, _) rfl ?_
        refine JR.iret .int (by decide +kernel) rfl (rfl) ?_
        exact K1 c2 c10 c18
      · have c18 : p < 64 := Nat.not_le.mp (fun h9 => h0 ((nI_leI (a := 64) (b := p) (by omega) (by omega)).mpr h9))
        refine J.gp ok_F_lengthOf 2 (26, [(0, .int (nI p))], [.int 3], _, _, _) rfl ?_
        refine JR.iret .int (by decide +kernel) rfl (rfl) ?_
        exact K2 c2 c10 c18
    · have c10 : p < 16 := Nat.not_le.mp (fun h9 => h0 ((nI_leI (a := 16) (b := p) (by omega) (by omega)).mpr h9))
      refine J.gp ok_F_lengthOf 1 (14, [(0, .int (nI p))], [.int 2], _, _, _) rfl ?_
      refine JR.iret .int (by decide +kernel) rfl (rfl) ?_
      exact K3 c2 c10
  · have c2 : p < 4 := Nat.not_le.mp (fun h9 => h0 ((nI_leI (a := 4) (b := p) (by omega) (by omega)).mpr h9))
    refine J.gp ok_F_lengthOf 1 (6, [(0, .int (nI p))], [.int 1], _, _, _) rfl ?_
    refine JR.iret .int (by decide +kernel) rfl (rfl) ?_
    exact K4 c2

theorem c_F_lengthOf {hh : aH} {p : Nat} (hp : p < 256) : JE M_F_lengthOf [.int (nI p)] hh (some (.int (nI (plen p)))) hh := by
  refine JM.of (by decide) rfl (Nat.le_of_ble_eq_true rfl) (g_F_lengthOf hp (fun a b c => ⟨?_, rfl⟩) (fun a b c => ⟨?_, rfl⟩) (fun a b => ⟨?_, rfl⟩) (fun a => ⟨?_, rfl⟩)) <;> unfold plen
  · rw [if_neg (by omega), if_neg (by omega), if_neg (by omega)]; rfl
  · rw [if_neg (by omega), if_neg (by omega), if_pos (by omega)]; rfl
  · rw [if_neg (by omega), if_pos (by omega)]; rfl
  · rw [if_pos (by omega)]; rfl

set_option maxRecDepth 100000 in
set_option maxHeartbeats 4000000 in
theorem g_F_leverAt {sc : aScr} {hh : aH} {p i : Nat} {kc kn : Nat} {O : Option Value → aH → Prop} (hp : p < 256) (hi : i < plen p) (h4 : plen p ≤ 4) (K1 : O (some (.int (((nI p >>> (nI (2 * (((plen p) - 1) - i)) &&& 31)) &&& 3) - 1))) hh) : JR M_F_leverAt sc (0, [(0, .int (nI p)), (1, .int (nI i))], [], hh, kc, kn) O := by
  refine J.gp ok_F_leverAt 1 (1, [(0, .int (nI p)), (1, .int (nI i))], [.int (nI p)], _, _, _) rfl ?_
  refine J.callSE s_F_leverAt_1 4 [.int (nI p)] (c_F_lengthOf (by omega)) rfl rfl (Nat.le_of_ble_eq_true rfl) rfl ?_
  refine J.gp ok_F_leverAt 0 (4, [(0, .int (nI p)), (1, .int (nI i))], [.int (nI (plen p))], hh, kc, kn) rfl ?_
  refine J.gp ok_F_leverAt 2 (6, [(0, .int (nI p)), (1, .int (nI i))], [.int (nI (plen p) - 1)], _, _, _) rfl ?_
  rw [show ((nI (plen p) - 1) : Int32) = nI ((plen p) - 1) from pk_sub (a := plen p) (b := 1) (by omega)]
  refine J.gp ok_F_leverAt 2 (8, [(0, .int (nI p)), (1, .int (nI i))], [.int (nI ((plen p) - 1) - nI i)], _, _, _) rfl ?_
  rw [show ((nI ((plen p) - 1) - nI i) : Int32) = nI (((plen p) - 1) - i) from pk_sub (a := (plen p) - 1) (b := i) (by omega)]
  refine J.gp ok_F_leverAt 5 (13, [(0, .int (nI p)), (1, .int (nI i)), (2, .int (nI (((plen p) - 1) - i)))], [.int (2 * nI (((plen p) - 1) - i)), .int (nI p)], _, _, _) rfl ?_
  rw [show ((2 * nI (((plen p) - 1) - i)) : Int32) = nI (2 * (((plen p) - 1) - i)) from pk_mul 2 (((plen p) - 1) - i)]
  refine J.gp ok_F_leverAt 5 (18, [(0, .int (nI p)), (1, .int (nI i)), (2, .int (nI (((plen p) - 1) - i)))], [.int (((nI p >>> (nI (2 * (((plen p) - 1) - i)) &&& 31)) &&& 3) - 1)], _, _, _) rfl ?_
  refine JR.iret .int (by decide +kernel) rfl (rfl) ?_
  exact K1

theorem leverAt_all : ∀ p, p < 256 → isPr p = true → ∀ i, i < 4 → i < plen p → ((nI p >>> (nI (2 * (plen p - 1 - i)) &&& 31)) &&& 3) - 1 = nI (plev p i) := by decide +kernel

theorem c_F_leverAt {hh : aH} {p i : Nat} (h : isPr p = true) (hi : i < plen p) : JE M_F_leverAt [.int (nI p), .int (nI i)] hh (some (.int (nI (plev p i)))) hh :=
  JM.of (by decide) rfl (Nat.le_of_ble_eq_true rfl) (g_F_leverAt (isPr_bd h).2 hi (plen_le p) ⟨by rw [leverAt_all p (isPr_bd h).2 h i (Nat.lt_of_lt_of_le hi (plen_le p)) hi], rfl⟩)
def pnx (p i : Nat) : Nat := if i + 1 < plen p then i + 1 else 0

set_option maxRecDepth 100000 in
set_option maxHeartbeats 4000000 in
theorem g_F_indexAfter {sc : aScr} {hh : aH} {p i : Nat} {kc kn : Nat} {O : Option Value → aH → Prop} (hp : p < 256) (hi : i < 4) (h4 : plen p ≤ 4) (K1 : ((plen p) ≤ (i + 1)) → O (some (.int 0)) hh) (K2 : ((i + 1) < (plen p)) → O (some (.int (nI (i + 1)))) hh) : JR M_F_indexAfter sc (0, [(0, .int (nI p)), (1, .int (nI i))], [], hh, kc, kn) O := by
  refine J.gp ok_F_indexAfter 3 (3, [(0, .int (nI p)), (1, .int (nI i))], [.int (nI i + 1)], _, _, _) rfl ?_
  rw [show ((nI i + 1) : Int32) = nI (i + 1) from nI_add i 1]
  refine J.gp ok_F_indexAfter 1 (4, [(0, .int (nI p)), (1, .int (nI i))], [.int (nI p), .int (nI (i + 1))], _, _, _) rfl ?_
  refine J.callSE s_F_indexAfter_4 7 [.int (nI p)] (c_F_lengthOf (by omega)) rfl rfl (Nat.le_of_ble_eq_true rfl) rfl ?_
  refine J.gp ok_F_indexAfter 0 (7, [(0, .int (nI p)), (1, .int (nI i))], [.int (nI (plen p)), .int (nI (i + 1))], hh, kc, kn) rfl ?_
  refine J.icB ok_F_indexAfter (fun x y => y ≤ x) 16 10 rfl (fun (h0 : nI (plen p) ≤ nI (i + 1)) => ?_) (fun (h0 : ¬ (nI (plen p) ≤ nI (i + 1))) => ?_)
  · have c7 : (plen p) ≤ (i + 1) := (nI_leI (a := plen p) (b := i + 1) (by omega) (by omega)).mp h0
    refine J.gp ok_F_indexAfter 1 (17, [(0, .int (nI p)), (1, .int (nI i))], [.int 0], _, _, _) rfl ?_
    refine JR.iret .int (by decide +kernel) rfl (rfl) ?_
    exact K1 c7
  · have c7 : (i + 1) < (plen p) := Nat.not_le.mp (fun h9 => h0 ((nI_leI (a := plen p) (b := i + 1) (by omega) (by omega)).mpr h9))
    refine J.gp ok_F_indexAfter 3 (13, [(0, .int (nI p)), (1, .int (nI i))], [.int (nI i + 1)], _, _, _) rfl ?_
    rw [show ((nI i + 1) : Int32) = nI (i + 1) from nI_add i 1]
    refine J.gp ok_F_indexAfter 1 (17, [(0, .int (nI p)), (1, .int (nI i))], [.int (nI (i + 1))], _, _, _) rfl ?_
    refine JR.iret .int (by decide +kernel) rfl (rfl) ?_
    exact K2 c7

theorem c_F_indexAfter {hh : aH} {p i : Nat} (h : p < 256) (hi : i < 4) : JE M_F_indexAfter [.int (nI p), .int (nI i)] hh (some (.int (nI (pnx p i)))) hh := by
  refine JM.of (by decide) rfl (Nat.le_of_ble_eq_true rfl) (g_F_indexAfter h hi (plen_le p) (fun c => ⟨?_, rfl⟩) (fun c => ⟨?_, rfl⟩)) <;> unfold pnx
  · rw [if_neg (by omega)]; rfl
  · rw [if_pos (by omega)]
theorem shr3 : ∀ p, p < 256 → ∀ i, i < 4 → ((nI p >>> (nI (2 * i) &&& 31)) &&& 3) = nI (pdig p i) := by decide +kernel

set_option maxRecDepth 100000 in
set_option maxHeartbeats 4000000 in
theorem g_F_isProgram0 {sc : aScr} {hh : aH} {a : Int32} {kc kn : Nat} {O : Option Value → aH → Prop}  (K1 : (a ≤ 0) → O (some (.int 0)) hh) (K2 : (¬ (a ≤ 0)) → (a < 256) → JR M_F_isProgram sc (15, [(0, .int a), (1, .int 0)], [], hh, kc, kn) O) (K3 : (¬ (a ≤ 0)) → (¬ (a < 256)) → O (some (.int 0)) hh) : JR M_F_isProgram sc (0, [(0, .int a)], [], hh, kc, kn) O := by
  refine J.gp ok_F_isProgram 1 (1, [(0, .int a)], [.int a], _, _, _) rfl ?_
  refine J.ifB ok_F_isProgram (fun x => x ≤ 0) 11 4 rfl (fun (c1 : a ≤ 0) => ?_) (fun (c1 : ¬ (a ≤ 0)) => ?_)
  · refine J.gp ok_F_isProgram 1 (12, [(0, .int a)], [.int 0], _, _, _) rfl ?_
    refine JR.iret .boolean (by decide +kernel) rfl (by decide) ?_
    exact K1 c1
  · refine J.gp ok_F_isProgram 2 (8, [(0, .int a)], [.int 256, .int a], _, _, _) rfl ?_
    refine J.icB ok_F_isProgram (fun x y => x < y) 13 11 rfl (fun (c8 : a < 256) => ?_) (fun (c8 : ¬ (a < 256)) => ?_)
    · refine J.gp ok_F_isProgram 2 (15, [(0, .int a), (1, .int 0)], [], _, _, _) rfl ?_
      exact K2 c1 c8
    · refine J.gp ok_F_isProgram 1 (12, [(0, .int a)], [.int 0], _, _, _) rfl ?_
      refine JR.iret .boolean (by decide +kernel) rfl (by decide) ?_
      exact K3 c1 c8

set_option maxRecDepth 100000 in
set_option maxHeartbeats 4000000 in
theorem g_F_isProgram1 {sc : aScr} {hh : aH} {p i : Nat} {kc kn : Nat} {O : Option Value → aH → Prop} (hp : p < 256) (hi : i ≤ plen p) (h4 : plen p ≤ 4) (hd : pdig p i < 4) (K1 : ((plen p) ≤ i) → O (some (.int 1)) hh) (K2 : (i < (plen p)) → (¬ (pdig p i) = 0) → JR M_F_isProgram sc (15, [(0, .int (nI p)), (1, .int (nI (i + 1)))], [], hh, kc, kn) O) (K3 : (i < (plen p)) → ((pdig p i) = 0) → O (some (.int 0)) hh) : JR M_F_isProgram sc (15, [(0, .int (nI p)), (1, .int (nI i))], [], hh, kc, kn) O := by
  refine J.gp ok_F_isProgram 2 (17, [(0, .int (nI p)), (1, .int (nI i))], [.int (nI p), .int (nI i)], _, _, _) rfl ?_
  refine J.callSE s_F_isProgram_17 20 [.int (nI p)] (c_F_lengthOf (by omega)) rfl rfl (Nat.le_of_ble_eq_true rfl) rfl ?_
  refine J.gp ok_F_isProgram 0 (20, [(0, .int (nI p)), (1, .int (nI i))], [.int (nI (plen p)), .int (nI i)], hh, kc, kn) rfl ?_
  refine J.icB ok_F_isProgram (fun x y => y ≤ x) 41 23 rfl (fun (h0 : nI (plen p) ≤ nI i) => ?_) (fun (h0 : ¬ (nI (plen p) ≤ nI i)) => ?_)
  · have c20 : (plen p) ≤ i := (nI_leI (a := plen p) (b := i) (by omega) (by omega)).mp h0
    refine J.gp ok_F_isProgram 1 (42, [(0, .int (nI p)), (1, .int (nI i))], [.int 1], _, _, _) rfl ?_
    refine JR.iret .boolean (by decide +kernel) rfl (by decide) ?_
    exact K1 c20
  · have c20 : i < (plen p) := Nat.not_le.mp (fun h9 => h0 ((nI_leI (a := plen p) (b := i) (by omega) (by omega)).mpr h9))
    refine J.gp ok_F_isProgram 4 (27, [(0, .int (nI p)), (1, .int (nI i))], [.int (2 * nI i), .int (nI p)], _, _, _) rfl ?_
    rw [show ((2 * nI i) : Int32) = nI (2 * i) from pk_mul 2 i]
    refine J.gp ok_F_isProgram 3 (30, [(0, .int (nI p)), (1, .int (nI i))], [.int ((nI p >>> (nI (2 * i) &&& 31)) &&& 3)], _, _, _) rfl ?_
    rw [show (((nI p >>> (nI (2 * i) &&& 31)) &&& 3)) = nI (pdig p i) from shr3 p hp i (by omega)]
    refine J.ifB ok_F_isProgram (fun x => ¬ x = 0) 35 33 rfl (fun (h0 : ¬ nI (pdig p i) = 0) => ?_) (fun (h0 : ¬ (¬ nI (pdig p i) = 0)) => ?_)
    · have c30 : ¬ (pdig p i) = 0 := fun h9 => h0 ((nI_eq (a := (pdig p i)) (b := 0) (by omega) (by omega)).mpr h9)
      refine J.gp ok_F_isProgram 1 (38, [(0, .int (nI p)), (1, .int (nI i + 1))], [], _, _, _) rfl ?_
      rw [show ((nI i + 1) : Int32) = nI (i + 1) from nI_add i 1]
      refine J.gp ok_F_isProgram 1 (15, [(0, .int (nI p)), (1, .int (nI (i + 1)))], [], _, _, _) rfl ?_
      exact K2 c20 c30
    · have c30 : (pdig p i) = 0 := (nI_eq (a := (pdig p i)) (b := 0) (by omega) (by omega)).mp (Classical.byContradiction h0)
      refine J.gp ok_F_isProgram 1 (34, [(0, .int (nI p)), (1, .int (nI i))], [.int 0], _, _, _) rfl ?_
      refine JR.iret .boolean (by decide +kernel) rfl (by decide) ?_
      exact K3 c20 c30

theorem pdig_lt (p i : Nat) : pdig p i < 4 := Nat.mod_lt _ (by decide)
theorem isPr_iff {p : Nat} : isPr p = true ↔ 0 < p ∧ p < 256 ∧ ∀ i, i < plen p → pdig p i ≠ 0 := by
  unfold isPr
  rw [Bool.and_eq_true_iff, Bool.and_eq_true_iff, decide_eq_true_iff, decide_eq_true_iff, List.all_eq_true]
  constructor
  · rintro ⟨h1, h2, h3⟩
    exact ⟨h1, h2, fun i hi => of_decide_eq_true (h3 i (List.mem_range.mpr hi))⟩
  · rintro ⟨h1, h2, h3⟩
    exact ⟨h1, h2, fun i hi => decide_eq_true (h3 i (List.mem_range.mp hi))⟩
theorem c_F_isProgram_t {hh : aH} {p : Nat} (h : isPr p = true) : JE M_F_isProgram [.int (nI p)] hh (some (.int 1)) hh := by
  obtain ⟨h1, h2, h3⟩ := isPr_iff.mp h
  have h4 := plen_le p
  refine JM.of (by decide) rfl (Nat.le_of_ble_eq_true rfl) (g_F_isProgram0 (fun c => absurd c (nI_nle h1 (by omega))) (fun _ _ => ?_) (fun _ c => absurd ((nI_ltI (a := p) (b := 256) (by omega) (by omega)).mpr h2) c))
  refine loopN (P := fun i => JR M_F_isProgram none (15, [(0, .int (nI p)), (1, .int (nI i))], [], hh, 0, 0) (fun v' q' => v' = some (.int 1) ∧ q' = hh)) (b := plen p) ?_ (fun i hi ih => ?_) 0 (Nat.zero_le _)
  · exact g_F_isProgram1 h2 (Nat.le_refl _) h4 (pdig_lt _ _) (fun _ => ⟨rfl, rfl⟩) (fun c => absurd c (by omega)) (fun c => absurd c (by omega))
  · exact g_F_isProgram1 h2 (by omega) h4 (pdig_lt _ _) (fun c => absurd c (by omega)) (fun _ _ => ih) (fun _ c => absurd c (h3 i hi))
theorem c_F_isProgram_f {hh : aH} {a : Int32} (h : ∀ p, isPr p = true → a ≠ nI p) : JE M_F_isProgram [.int a] hh (some (.int 0)) hh := by
  refine JM.of (by decide) rfl (Nat.le_of_ble_eq_true rfl) (g_F_isProgram0 (fun _ => ⟨rfl, rfl⟩) (fun c1 c2 => ?_) (fun _ _ => ⟨rfl, rfl⟩))
  have c1' : ¬ a < 0 := fun h9 => c1 (Int32.le_of_lt h9)
  obtain ⟨p, hp, rfl⟩ := nI_of c1'
  have h2 : p < 256 := (nI_ltI (a := p) (b := 256) hp (by omega)).mp c2
  have h0 : 0 < p := by
    rcases Nat.eq_zero_or_pos p with e | e
    · subst e
      exact absurd (by decide) c1
    · exact e
  have h4 := plen_le p
  have hz : ∃ j, j < plen p ∧ pdig p j = 0 := by
    refine Classical.byContradiction fun hn => h p (isPr_iff.mpr ⟨h0, h2, fun i hi e => hn ⟨i, hi, e⟩⟩) rfl
  obtain ⟨j, hj, hj0⟩ := hz
  refine loopN (P := fun i => JR M_F_isProgram none (15, [(0, .int (nI p)), (1, .int (nI i))], [], hh, 0, 0) (fun v' q' => v' = some (.int 0) ∧ q' = hh)) (b := j) ?_ (fun i hi ih => ?_) 0 (Nat.zero_le _)
  · exact g_F_isProgram1 h2 (by omega) h4 (pdig_lt _ _) (fun c => absurd c (by omega)) (fun _ c => absurd hj0 c) (fun _ _ => ⟨rfl, rfl⟩)
  · exact g_F_isProgram1 h2 (by omega) h4 (pdig_lt _ _) (fun c => absurd c (by omega)) (fun _ _ => ih) (fun _ _ => ⟨rfl, rfl⟩)
theorem smod32 : ∀ b, b < 32 → ((nI b &&& 31).toBitVec.smod 32).toNat = b := by decide
theorem shrN {m b : Nat} (hm : m < 2 ^ 31) (hb : b < 32) : nI m >>> (nI b &&& 31) = nI (m / 2 ^ b) := pk_shrN hm _ b (smod32 b hb)
theorem and1 {m : Nat} (hm : m < 2 ^ 32) : nI m &&& 1 = nI (m % 2) := pk_andN hm 1 (by decide)
def bitN (m b : Nat) : Nat := m / 2 ^ b % 2

set_option maxRecDepth 100000 in
set_option maxHeartbeats 4000000 in
theorem g_F_hasBit {sc : aScr} {hh : aH} {m b : Nat} {kc kn : Nat} {O : Option Value → aH → Prop} (hm : m < 2 ^ 31) (hb : b < 32) (hd : bitN m b < 2) (K1 : ((bitN m b) = 0) → O (some (.int 0)) hh) (K2 : (¬ (bitN m b) = 0) → O (some (.int 1)) hh) : JR M_F_hasBit sc (0, [(0, .int (nI m)), (1, .int (nI b))], [], hh, kc, kn) O := by
  refine J.gp ok_F_hasBit 5 (5, [(0, .int (nI m)), (1, .int (nI b))], [.int ((nI m >>> (nI b &&& 31)) &&& 1)], _, _, _) rfl ?_
  rw [show (((nI m >>> (nI b &&& 31)) &&& 1)) = nI (bitN m b) from by rw [shrN hm hb, and1 (Nat.lt_of_le_of_lt (Nat.div_le_self _ _) (by omega))]; rfl]
  refine J.ifB ok_F_hasBit (fun x => x = 0) 12 8 rfl (fun (h0 : nI (bitN m b) = 0) => ?_) (fun (h0 : ¬ (nI (bitN m b) = 0)) => ?_)
  · have c5 : (bitN m b) = 0 := (nI_eq (a := (bitN m b)) (b := 0) (by omega) (by omega)).mp h0
    refine J.gp ok_F_hasBit 1 (13, [(0, .int (nI m)), (1, .int (nI b))], [.int 0], _, _, _) rfl ?_
    refine JR.iret .boolean (by decide +kernel) rfl (by decide) ?_
    exact K1 c5
  · have c5 : ¬ (bitN m b) = 0 := fun h9 => h0 ((nI_eq (a := (bitN m b)) (b := 0) (by omega) (by omega)).mpr h9)
    refine J.gp ok_F_hasBit 2 (13, [(0, .int (nI m)), (1, .int (nI b))], [.int 1], _, _, _) rfl ?_
    refine JR.iret .boolean (by decide +kernel) rfl (by decide) ?_
    exact K2 c5

theorem bitN_lt (m b : Nat) : bitN m b < 2 := Nat.mod_lt _ (by decide)
theorem c_F_hasBit {hh : aH} {m b : Nat} (hm : m < 2 ^ 31) (hb : b < 32) : JE M_F_hasBit [.int (nI m), .int (nI b)] hh (some (.int (nI (bitN m b)))) hh := by
  have h := bitN_lt m b
  refine JM.of (by decide) rfl (Nat.le_of_ble_eq_true rfl) (g_F_hasBit hm hb h (fun c => ⟨?_, rfl⟩) (fun c => ⟨?_, rfl⟩))
  · rw [c]; rfl
  · rw [show bitN m b = 1 by omega]; rfl
/-- a mask with a bit set or taken away -/
def wbit (m b : Nat) (s : Bool) : Nat := if s then (if bitN m b = 1 then m else m + 2 ^ b) else if bitN m b = 1 then m - 2 ^ b else m
theorem wbit_t : ∀ m, m < 16 → ∀ b, b < 4 → (nI m ||| (1 <<< (nI b &&& 31))) = nI (wbit m b true) := by decide +kernel
theorem wbit_f : ∀ m, m < 16 → ∀ b, b < 4 → (nI m &&& ((1 <<< (nI b &&& 31)) ^^^ (-1))) = nI (wbit m b false) := by decide +kernel
theorem wbit_lt : ∀ m, m < 16 → ∀ b, b < 4 → ∀ s, wbit m b s < 16 := by decide +kernel
theorem wbit_lt8 : ∀ m, m < 8 → ∀ b, b < 3 → ∀ s, wbit m b s < 8 := by decide +kernel
theorem wbit_bit : ∀ m, m < 16 → ∀ b, b < 4 → ∀ s, ∀ c, c < 4 → bitN (wbit m b s) c = if c = b then (if s then 1 else 0) else bitN m c := by decide +kernel
def popN (m : Nat) : Nat := bitN m 0 + bitN m 1 + bitN m 2 + bitN m 3

set_option maxRecDepth 100000 in
set_option maxHeartbeats 4000000 in
theorem g_F_withBit {sc : aScr} {hh : aH} {m b : Nat} {z : Int32} {kc kn : Nat} {O : Option Value → aH → Prop}  (K1 : (z = 0) → O (some (.int (nI m &&& ((1 <<< (nI b &&& 31)) ^^^ (-1))))) hh) (K2 : (¬ (z = 0)) → O (some (.int (nI m ||| (1 <<< (nI b &&& 31))))) hh) : JR M_F_withBit sc (0, [(0, .int (nI m)), (1, .int (nI b)), (2, .int z)], [], hh, kc, kn) O := by
  refine J.gp ok_F_withBit 1 (1, [(0, .int (nI m)), (1, .int (nI b)), (2, .int z)], [.int z], _, _, _) rfl ?_
  refine J.ifB ok_F_withBit (fun x => x = 0) 12 4 rfl (fun (c1 : z = 0) => ?_) (fun (c1 : ¬ (z = 0)) => ?_)
  · refine J.gp ok_F_withBit 7 (19, [(0, .int (nI m)), (1, .int (nI b)), (2, .int z)], [.int (nI m &&& ((1 <<< (nI b &&& 31)) ^^^ (-1)))], _, _, _) rfl ?_
    refine JR.iret .int (by decide +kernel) rfl (rfl) ?_
    exact K1 c1
  · refine J.gp ok_F_withBit 6 (19, [(0, .int (nI m)), (1, .int (nI b)), (2, .int z)], [.int (nI m ||| (1 <<< (nI b &&& 31)))], _, _, _) rfl ?_
    refine JR.iret .int (by decide +kernel) rfl (rfl) ?_
    exact K2 c1

theorem c_F_withBit {hh : aH} {m b : Nat} {s : Bool} {z : Int32} (hm : m < 16) (hb : b < 4) (hz : z = 0 ↔ s = false) : JE M_F_withBit [.int (nI m), .int (nI b), .int z] hh (some (.int (nI (wbit m b s)))) hh := by
  refine JM.of (by decide) rfl (Nat.le_of_ble_eq_true rfl) (g_F_withBit (fun c => ⟨?_, rfl⟩) (fun c => ⟨?_, rfl⟩))
  · rw [hz.mp c, wbit_f m hm b hb]
  · cases s with
    | false => exact absurd (hz.mpr rfl) c
    | true => rw [wbit_t m hm b hb]

set_option maxRecDepth 100000 in
set_option maxHeartbeats 4000000 in
theorem g_Ji_bitCount0 {sc : aScr} {hh : aH} {m : Int32} {kc kn : Nat} {O : Option Value → aH → Prop}  (K1 : JR M_Ji_bitCount sc (10, [(0, .int (m - ((m.toUInt32 >>> ((1 : Int32).toUInt32 &&& Int32.toUInt32 31)).toInt32 &&& 1431655765)))], [], hh, kc, kn) O) : JR M_Ji_bitCount sc (0, [(0, .int m)], [], hh, kc, kn) O := by
  refine J.gp ok_Ji_bitCount 8 (10, [(0, .int (m - ((m.toUInt32 >>> ((1 : Int32).toUInt32 &&& Int32.toUInt32 31)).toInt32 &&& 1431655765)))], [], _, _, _) rfl ?_
  exact K1

set_option maxRecDepth 100000 in
set_option maxHeartbeats 4000000 in
theorem g_Ji_bitCount10 {sc : aScr} {hh : aH} {m : Int32} {kc kn : Nat} {O : Option Value → aH → Prop}  (K1 : JR M_Ji_bitCount sc (24, [(0, .int ((m &&& 858993459) + ((m.toUInt32 >>> ((2 : Int32).toUInt32 &&& Int32.toUInt32 31)).toInt32 &&& 858993459)))], [], hh, kc, kn) O) : JR M_Ji_bitCount sc (10, [(0, .int m)], [], hh, kc, kn) O := by
  refine J.gp ok_Ji_bitCount 10 (24, [(0, .int ((m &&& 858993459) + ((m.toUInt32 >>> ((2 : Int32).toUInt32 &&& Int32.toUInt32 31)).toInt32 &&& 858993459)))], [], _, _, _) rfl ?_
  exact K1

set_option maxRecDepth 100000 in
set_option maxHeartbeats 4000000 in
theorem g_Ji_bitCount24 {sc : aScr} {hh : aH} {m : Int32} {kc kn : Nat} {O : Option Value → aH → Prop}  (K1 : JR M_Ji_bitCount sc (34, [(0, .int ((m + (m.toUInt32 >>> ((4 : Int32).toUInt32 &&& Int32.toUInt32 31)).toInt32) &&& 252645135))], [], hh, kc, kn) O) : JR M_Ji_bitCount sc (24, [(0, .int m)], [], hh, kc, kn) O := by
  refine J.gp ok_Ji_bitCount 8 (34, [(0, .int ((m + (m.toUInt32 >>> ((4 : Int32).toUInt32 &&& Int32.toUInt32 31)).toInt32) &&& 252645135))], [], _, _, _) rfl ?_
  exact K1

set_option maxRecDepth 100000 in
set_option maxHeartbeats 4000000 in
theorem g_Ji_bitCount34 {sc : aScr} {hh : aH} {m : Int32} {kc kn : Nat} {O : Option Value → aH → Prop}  (K1 : JR M_Ji_bitCount sc (41, [(0, .int (m + (m.toUInt32 >>> ((8 : Int32).toUInt32 &&& Int32.toUInt32 31)).toInt32))], [], hh, kc, kn) O) : JR M_Ji_bitCount sc (34, [(0, .int m)], [], hh, kc, kn) O := by
  refine J.gp ok_Ji_bitCount 6 (41, [(0, .int (m + (m.toUInt32 >>> ((8 : Int32).toUInt32 &&& Int32.toUInt32 31)).toInt32))], [], _, _, _) rfl ?_
  exact K1

set_option maxRecDepth 100000 in
set_option maxHeartbeats 4000000 in
theorem g_Ji_bitCount41 {sc : aScr} {hh : aH} {m : Int32} {kc kn : Nat} {O : Option Value → aH → Prop}  (K1 : JR M_Ji_bitCount sc (48, [(0, .int (m + (m.toUInt32 >>> ((16 : Int32).toUInt32 &&& Int32.toUInt32 31)).toInt32))], [], hh, kc, kn) O) : JR M_Ji_bitCount sc (41, [(0, .int m)], [], hh, kc, kn) O := by
  refine J.gp ok_Ji_bitCount 6 (48, [(0, .int (m + (m.toUInt32 >>> ((16 : Int32).toUInt32 &&& Int32.toUInt32 31)).toInt32))], [], _, _, _) rfl ?_
  exact K1

set_option maxRecDepth 100000 in
set_option maxHeartbeats 4000000 in
theorem g_Ji_bitCount48 {sc : aScr} {hh : aH} {m : Int32} {kc kn : Nat} {O : Option Value → aH → Prop}  (K1 : O (some (.int (m &&& 63))) hh) : JR M_Ji_bitCount sc (48, [(0, .int m)], [], hh, kc, kn) O := by
  refine J.gp ok_Ji_bitCount 3 (52, [(0, .int m)], [.int (m &&& 63)], _, _, _) rfl ?_
  refine JR.iret .int (by decide +kernel) rfl (rfl) ?_
  exact K1

set_option maxRecDepth 100000 in
set_option maxHeartbeats 4000000 in
theorem g_Jm_max {sc : aScr} {hh : aH} {a b : Int32} {kc kn : Nat} {O : Option Value → aH → Prop}  (K1 : (a < b) → O (some (.int b)) hh) (K2 : (¬ (a < b)) → O (some (.int a)) hh) : JR M_Jm_max sc (0, [(0, .int a), (1, .int b)], [], hh, kc, kn) O := by
  refine J.gp ok_Jm_max 2 (2, [(0, .int a), (1, .int b)], [.int b, .int a], _, _, _) rfl ?_
  refine J.icB ok_Jm_max (fun x y => x < y) 9 5 rfl (fun (c2 : a < b) => ?_) (fun (c2 : ¬ (a < b)) => ?_)
  · refine J.gp ok_Jm_max 1 (10, [(0, .int a), (1, .int b)], [.int b], _, _, _) rfl ?_
    refine JR.iret .int (by decide +kernel) rfl (rfl) ?_
    exact K1 c2
  · refine J.gp ok_Jm_max 2 (10, [(0, .int a), (1, .int b)], [.int a], _, _, _) rfl ?_
    refine JR.iret .int (by decide +kernel) rfl (rfl) ?_
    exact K2 c2

theorem c_Jm_max {hh : aH} {a b : Int32} : JE M_Jm_max [.int a, .int b] hh (some (.int (if a < b then b else a))) hh := JM.ofF (by decide +kernel) rfl (Nat.le_of_ble_eq_true rfl) (g_Jm_max (fun c => ⟨by rw [if_pos c], rfl⟩) (fun c => ⟨by rw [if_neg c], rfl⟩))
def fdiv (a b : Int64) : Int64 := if a ^^^ b < 0 ∧ ¬ a / b * b = a then a / b - 1 else a / b
def pc1 (m : Int32) : Int32 := m - ((m.toUInt32 >>> ((1 : Int32).toUInt32 &&& Int32.toUInt32 31)).toInt32 &&& 1431655765)
def pc2 (m : Int32) : Int32 := (m &&& 858993459) + ((m.toUInt32 >>> ((2 : Int32).toUInt32 &&& Int32.toUInt32 31)).toInt32 &&& 858993459)
def pc3 (m : Int32) : Int32 := (m + (m.toUInt32 >>> ((4 : Int32).toUInt32 &&& Int32.toUInt32 31)).toInt32) &&& 252645135
def pc4 (m : Int32) : Int32 := m + (m.toUInt32 >>> ((8 : Int32).toUInt32 &&& Int32.toUInt32 31)).toInt32
def pc5 (m : Int32) : Int32 := m + (m.toUInt32 >>> ((16 : Int32).toUInt32 &&& Int32.toUInt32 31)).toInt32
theorem pop_all : ∀ m, m < 16 → pc5 (pc4 (pc3 (pc2 (pc1 (nI m))))) &&& 63 = nI (popN m) := by decide +kernel
theorem c_Ji_bitCount {hh : aH} {m : Nat} (hm : m < 16) : JE M_Ji_bitCount [.int (nI m)] hh (some (.int (nI (popN m)))) hh :=
  JM.ofF (by decide +kernel) rfl (Nat.le_of_ble_eq_true rfl) (g_Ji_bitCount0 (g_Ji_bitCount10 (m := pc1 (nI m)) (g_Ji_bitCount24 (m := pc2 (pc1 (nI m))) (g_Ji_bitCount34 (m := pc3 (pc2 (pc1 (nI m)))) (g_Ji_bitCount41 (m := pc4 (pc3 (pc2 (pc1 (nI m))))) (g_Ji_bitCount48 (m := pc5 (pc4 (pc3 (pc2 (pc1 (nI m)))))) ⟨by rw [pop_all m hm], rfl⟩))))))
