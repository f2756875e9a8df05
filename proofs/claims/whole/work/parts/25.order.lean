/-! THE ORDER of two fractions -/
theorem lpos_ne {b : Int64} (h : 0 < b) : ¬ b = 0 := fun e => by rw [e] at h; exact absurd h (by decide)
theorem lpos_iff {b : Int64} : 0 < b ↔ 0 < b.toInt := Int64.lt_iff_toInt_lt

set_option maxRecDepth 100000 in
set_option maxHeartbeats 400000 in
theorem g_Fr_oA {sc : aScr} {hh : aH} {a b c d : Int64} {s : Int32} {i : Nat} {x y : Nat} {kc kn : Nat} {O : Option Value → aH → Prop} (hi : i < 200) (hb : 0 < b) (hd : 0 < d) (K1 : ((fdiv a b) = (fdiv c d)) → JR M_Fr_order sc (29, [(0, .ref x), (1, .ref y), (2, .long b), (4, .long (a - ((fdiv a b) * b))), (6, .long d), (8, .long (c - ((fdiv c d) * d))), (10, .int (-s)), (11, .int (nI (i + 1)))], [], hh, kc, kn) O) (K2 : (¬ (fdiv a b) = (fdiv c d)) → ((fdiv c d) ≤ (fdiv a b)) → O (some (.int s)) hh) (K3 : (¬ (fdiv a b) = (fdiv c d)) → ((fdiv a b) < (fdiv c d)) → O (some (.int (-s))) hh) : JR M_Fr_order sc (29, [(0, .ref x), (1, .ref y), (2, .long a), (4, .long b), (6, .long c), (8, .long d), (10, .int s), (11, .int (nI i))], [], hh, kc, kn) O := by
  refine J.gp ok_Fr_order 2 (34, [(0, .ref x), (1, .ref y), (2, .long a), (4, .long b), (6, .long c), (8, .long d), (10, .int s), (11, .int (nI i))], [.int 200, .int (nI i)], _, _, _) rfl ?_
  refine J.icF ok_Fr_order (fun x y => y ≤ x) 138 37 rfl (fun h9 => absurd ((nI_leI (a := 200) (b := i) (by omega) (by omega)).mp h9) (by omega)) ?_
  refine J.gp ok_Fr_order 3 (41, [(0, .ref x), (1, .ref y), (2, .long a), (4, .long b), (6, .long c), (8, .long d), (10, .int s), (11, .int (nI i))], [.int (lg_cmp b 0)], _, _, _) rfl ?_
  refine J.ifF ok_Fr_order (fun x => x ≤ 0) 138 44 rfl (cmp_le_n.mpr hb) ?_
  refine J.gp ok_Fr_order 3 (48, [(0, .ref x), (1, .ref y), (2, .long a), (4, .long b), (6, .long c), (8, .long d), (10, .int s), (11, .int (nI i))], [.int (lg_cmp d 0)], _, _, _) rfl ?_
  refine J.ifF ok_Fr_order (fun x => x ≤ 0) 138 51 rfl (cmp_le_n.mpr hd) ?_
  refine J.gp ok_Fr_order 2 (54, [(0, .ref x), (1, .ref y), (2, .long a), (4, .long b), (6, .long c), (8, .long d), (10, .int s), (11, .int (nI i))], [.long b, .long a], _, _, _) rfl ?_
  refine J.callSE s_Fr_order_54 57 [.long a, .long b] (c_Jm_floorDiv (lpos_ne hb)) rfl rfl (Nat.le_of_ble_eq_true rfl) rfl ?_
  refine J.gp ok_Fr_order 0 (57, [(0, .ref x), (1, .ref y), (2, .long a), (4, .long b), (6, .long c), (8, .long d), (10, .int s), (11, .int (nI i))], [.long (fdiv a b)], hh, kc, kn) rfl ?_
  refine J.gp ok_Fr_order 3 (63, [(0, .ref x), (1, .ref y), (2, .long a), (4, .long b), (6, .long c), (8, .long d), (10, .int s), (11, .int (nI i)), (12, .long (fdiv a b))], [.long d, .long c], _, _, _) rfl ?_
  refine J.callSE s_Fr_order_63 66 [.long c, .long d] (c_Jm_floorDiv (lpos_ne hd)) rfl rfl (Nat.le_of_ble_eq_true rfl) rfl ?_
  refine J.gp ok_Fr_order 0 (66, [(0, .ref x), (1, .ref y), (2, .long a), (4, .long b), (6, .long c), (8, .long d), (10, .int s), (11, .int (nI i)), (12, .long (fdiv a b))], [.long (fdiv c d)], hh, kc, kn) rfl ?_
  refine J.gp ok_Fr_order 4 (73, [(0, .ref x), (1, .ref y), (2, .long a), (4, .long b), (6, .long c), (8, .long d), (10, .int s), (11, .int (nI i)), (12, .long (fdiv a b)), (14, .long (fdiv c d))], [.int (lg_cmp (fdiv a b) (fdiv c d))], _, _, _) rfl ?_
  refine J.ifB ok_Fr_order (fun x => x = 0) 93 76 rfl (fun (h0 : (lg_cmp (fdiv a b) (fdiv c d)) = 0) => ?_) (fun (h0 : ¬ ((lg_cmp (fdiv a b) (fdiv c d)) = 0)) => ?_)
  · have c73 : (fdiv a b) = (fdiv c d) := (cmp_eq).mp h0
    refine J.gp ok_Fr_order 6 (102, [(0, .ref x), (1, .ref y), (2, .long a), (4, .long b), (6, .long c), (8, .long d), (10, .int s), (11, .int (nI i)), (12, .long (fdiv a b)), (14, .long (fdiv c d)), (16, .long (a - ((fdiv a b) * b)))], [], _, _, _) rfl ?_
    refine J.gp ok_Fr_order 6 (112, [(0, .ref x), (1, .ref y), (2, .long a), (4, .long b), (6, .long c), (8, .long d), (10, .int s), (11, .int (nI i)), (12, .long (fdiv a b)), (14, .long (fdiv c d)), (16, .long (a - ((fdiv a b) * b))), (18, .long (c - ((fdiv c d) * d)))], [], _, _, _) rfl ?_
    refine J.gp ok_Fr_order 6 (123, [(0, .ref x), (1, .ref y), (2, .long b), (4, .long (a - ((fdiv a b) * b))), (6, .long d), (8, .long d), (10, .int s), (11, .int (nI i)), (12, .long (fdiv a b)), (14, .long (fdiv c d)), (16, .long (a - ((fdiv a b) * b))), (18, .long (c - ((fdiv c d) * d)))], [], _, _, _) rfl ?_
    refine J.gp ok_Fr_order 6 (135, [(0, .ref x), (1, .ref y), (2, .long b), (4, .long (a - ((fdiv a b) * b))), (6, .long d), (8, .long (c - ((fdiv c d) * d))), (10, .int (-s)), (11, .int (nI i + 1)), (12, .long (fdiv a b)), (14, .long (fdiv c d)), (16, .long (a - ((fdiv a b) * b))), (18, .long (c - ((fdiv c d) * d)))], [], _, _, _) rfl ?_
    rw [show ((nI i + 1) : Int32) = nI (i + 1) from nI_add i 1]
    refine J.gp ok_Fr_order 1 (29, [(0, .ref x), (1, .ref y), (2, .long b), (4, .long (a - ((fdiv a b) * b))), (6, .long d), (8, .long (c - ((fdiv c d) * d))), (10, .int (-s)), (11, .int (nI (i + 1))), (12, .long (fdiv a b)), (14, .long (fdiv c d)), (16, .long (a - ((fdiv a b) * b))), (18, .long (c - ((fdiv c d) * d)))], [], _, _, _) rfl ?_
    refine J.lv [0, 1, 2, 3, 4, 5, 6, 7] [(0, .ref x), (1, .ref y), (2, .long b), (4, .long (a - ((fdiv a b) * b))), (6, .long d), (8, .long (c - ((fdiv c d) * d))), (10, .int (-s)), (11, .int (nI (i + 1)))] rfl ?_
    exact K1 c73
  · have c73 : ¬ (fdiv a b) = (fdiv c d) := (cmp_eq_n).mp h0
    refine J.gp ok_Fr_order 3 (81, [(0, .ref x), (1, .ref y), (2, .long a), (4, .long b), (6, .long c), (8, .long d), (10, .int s), (11, .int (nI i)), (12, .long (fdiv a b)), (14, .long (fdiv c d))], [.int (lg_cmp (fdiv a b) (fdiv c d))], _, _, _) rfl ?_
    refine J.ifB ok_Fr_order (fun x => 0 ≤ x) 90 84 rfl (fun (h0 : 0 ≤ (lg_cmp (fdiv a b) (fdiv c d))) => ?_) (fun (h0 : ¬ (0 ≤ (lg_cmp (fdiv a b) (fdiv c d)))) => ?_)
    · have c81 : (fdiv c d) ≤ (fdiv a b) := (cmp_ge).mp h0
      refine J.gp ok_Fr_order 1 (92, [(0, .ref x), (1, .ref y), (2, .long a), (4, .long b), (6, .long c), (8, .long d), (10, .int s), (11, .int (nI i)), (12, .long (fdiv a b)), (14, .long (fdiv c d))], [.int s], _, _, _) rfl ?_
      refine JR.iret .int (by decide +kernel) rfl (rfl) ?_
      exact K2 c73 c81
    · have c81 : (fdiv a b) < (fdiv c d) := (cmp_ge_n).mp h0
      refine J.gp ok_Fr_order 3 (92, [(0, .ref x), (1, .ref y), (2, .long a), (4, .long b), (6, .long c), (8, .long d), (10, .int s), (11, .int (nI i)), (12, .long (fdiv a b)), (14, .long (fdiv c d))], [.int (-s)], _, _, _) rfl ?_
      refine JR.iret .int (by decide +kernel) rfl (rfl) ?_
      exact K3 c73 c81

set_option maxRecDepth 100000 in
set_option maxHeartbeats 400000 in
theorem g_Fr_oB {sc : aScr} {hh : aH} {a b c d : Int64} {s : Int32} {i : Nat} {x y : Nat} {kc kn : Nat} {O : Option Value → aH → Prop} (hi : i < 200) (hb : b ≤ 0) (K1 : JR M_Fr_order sc (138, [(0, .ref x), (1, .ref y), (2, .long a), (4, .long b), (6, .long c), (8, .long d), (10, .int s), (11, .int (nI i))], [], hh, kc, kn) O) : JR M_Fr_order sc (29, [(0, .ref x), (1, .ref y), (2, .long a), (4, .long b), (6, .long c), (8, .long d), (10, .int s), (11, .int (nI i))], [], hh, kc, kn) O := by
  refine J.gp ok_Fr_order 2 (34, [(0, .ref x), (1, .ref y), (2, .long a), (4, .long b), (6, .long c), (8, .long d), (10, .int s), (11, .int (nI i))], [.int 200, .int (nI i)], _, _, _) rfl ?_
  refine J.icF ok_Fr_order (fun x y => y ≤ x) 138 37 rfl (fun h9 => absurd ((nI_leI (a := 200) (b := i) (by omega) (by omega)).mp h9) (by omega)) ?_
  refine J.gp ok_Fr_order 3 (41, [(0, .ref x), (1, .ref y), (2, .long a), (4, .long b), (6, .long c), (8, .long d), (10, .int s), (11, .int (nI i))], [.int (lg_cmp b 0)], _, _, _) rfl ?_
  refine J.ifT ok_Fr_order (fun x => x ≤ 0) 138 44 rfl (cmp_le.mpr hb) ?_
  exact K1

set_option maxRecDepth 100000 in
set_option maxHeartbeats 400000 in
theorem g_Fr_oC {sc : aScr} {hh : aH} {a b c d : Int64} {s : Int32} {i : Nat} {x y : Nat} {kc kn : Nat} {O : Option Value → aH → Prop} (hi : i < 200) (hb : 0 < b) (hd : d ≤ 0) (K1 : JR M_Fr_order sc (138, [(0, .ref x), (1, .ref y), (2, .long a), (4, .long b), (6, .long c), (8, .long d), (10, .int s), (11, .int (nI i))], [], hh, kc, kn) O) : JR M_Fr_order sc (29, [(0, .ref x), (1, .ref y), (2, .long a), (4, .long b), (6, .long c), (8, .long d), (10, .int s), (11, .int (nI i))], [], hh, kc, kn) O := by
  refine J.gp ok_Fr_order 2 (34, [(0, .ref x), (1, .ref y), (2, .long a), (4, .long b), (6, .long c), (8, .long d), (10, .int s), (11, .int (nI i))], [.int 200, .int (nI i)], _, _, _) rfl ?_
  refine J.icF ok_Fr_order (fun x y => y ≤ x) 138 37 rfl (fun h9 => absurd ((nI_leI (a := 200) (b := i) (by omega) (by omega)).mp h9) (by omega)) ?_
  refine J.gp ok_Fr_order 3 (41, [(0, .ref x), (1, .ref y), (2, .long a), (4, .long b), (6, .long c), (8, .long d), (10, .int s), (11, .int (nI i))], [.int (lg_cmp b 0)], _, _, _) rfl ?_
  refine J.ifF ok_Fr_order (fun x => x ≤ 0) 138 44 rfl (cmp_le_n.mpr hb) ?_
  refine J.gp ok_Fr_order 3 (48, [(0, .ref x), (1, .ref y), (2, .long a), (4, .long b), (6, .long c), (8, .long d), (10, .int s), (11, .int (nI i))], [.int (lg_cmp d 0)], _, _, _) rfl ?_
  refine J.ifT ok_Fr_order (fun x => x ≤ 0) 138 51 rfl (cmp_le.mpr hd) ?_
  exact K1

set_option maxRecDepth 100000 in
set_option maxHeartbeats 400000 in
theorem g_Fr_oD {sc : aScr} {hh : aH} {a b c d : Int64} {s : Int32} {i : Nat} {x y : Nat} {kc kn : Nat} {O : Option Value → aH → Prop}  (K1 : (¬ b = d) → (¬ b = (0 : Int64)) → O (some (.int (-s))) hh) (K2 : (¬ b = d) → (b = (0 : Int64)) → O (some (.int s)) hh) (K3 : (b = d) → O (some (.int 0)) hh) : JR M_Fr_order sc (138, [(0, .ref x), (1, .ref y), (2, .long a), (4, .long b), (6, .long c), (8, .long d), (10, .int s), (11, .int (nI i))], [], hh, kc, kn) O := by
  refine J.gp ok_Fr_order 3 (143, [(0, .ref x), (1, .ref y), (2, .long a), (4, .long b), (6, .long c), (8, .long d), (10, .int s), (11, .int (nI i))], [.int (lg_cmp b d)], _, _, _) rfl ?_
  refine J.ifB ok_Fr_order (fun x => ¬ x = 0) 148 146 rfl (fun (h0 : ¬ (lg_cmp b d) = 0) => ?_) (fun (h0 : ¬ (¬ (lg_cmp b d) = 0)) => ?_)
  · have c143 : ¬ b = d := (cmp_ne).mp h0
    refine J.gp ok_Fr_order 3 (152, [(0, .ref x), (1, .ref y), (2, .long a), (4, .long b), (6, .long c), (8, .long d), (10, .int s), (11, .int (nI i))], [.int (lg_cmp b 0)], _, _, _) rfl ?_
    refine J.ifB ok_Fr_order (fun x => ¬ x = 0) 160 155 rfl (fun (h0 : ¬ (lg_cmp b 0) = 0) => ?_) (fun (h0 : ¬ (¬ (lg_cmp b 0) = 0)) => ?_)
    · have c152 : ¬ b = (0 : Int64) := (cmp_ne).mp h0
      refine J.gp ok_Fr_order 2 (163, [(0, .ref x), (1, .ref y), (2, .long a), (4, .long b), (6, .long c), (8, .long d), (10, .int s), (11, .int (nI i))], [.int (-s)], _, _, _) rfl ?_
      refine JR.iret .int (by decide +kernel) rfl (rfl) ?_
      exact K1 c143 c152
    · have c152 : b = (0 : Int64) := (cmp_ne_n).mp h0
      refine J.gp ok_Fr_order 2 (163, [(0, .ref x), (1, .ref y), (2, .long a), (4, .long b), (6, .long c), (8, .long d), (10, .int s), (11, .int (nI i))], [.int s], _, _, _) rfl ?_
      refine JR.iret .int (by decide +kernel) rfl (rfl) ?_
      exact K2 c143 c152
  · have c143 : b = d := (cmp_ne_n).mp h0
    refine J.gp ok_Fr_order 1 (147, [(0, .ref x), (1, .ref y), (2, .long a), (4, .long b), (6, .long c), (8, .long d), (10, .int s), (11, .int (nI i))], [.int 0], _, _, _) rfl ?_
    refine JR.iret .int (by decide +kernel) rfl (rfl) ?_
    exact K3 c143

theorem oEnd {hh : aH} {a b c d : Int64} {s : Int32} {i x y : Nat} (hi : i < 200) (hb : 0 ≤ b.toInt) (hd : 0 ≤ d.toInt) (hz : b.toInt = 0 ∨ d.toInt = 0) : JR M_Fr_order none (29, [(0, .ref x), (1, .ref y), (2, .long a), (4, .long b), (6, .long c), (8, .long d), (10, .int s), (11, .int (nI (i)))], [], hh, 0, 0) (OE (some (.int (if b.toInt = d.toInt then 0 else if b.toInt = 0 then s else -s))) hh) := by
  have D : JR M_Fr_order none (138, [(0, .ref x), (1, .ref y), (2, .long a), (4, .long b), (6, .long c), (8, .long d), (10, .int s), (11, .int (nI i))], [], hh, 0, 0) (OE (some (.int (if b.toInt = d.toInt then 0 else if b.toInt = 0 then s else -s))) hh) := by
    refine g_Fr_oD (fun c1 c2 => ⟨?_, rfl⟩) (fun c1 c2 => ⟨?_, rfl⟩) (fun c1 => ⟨?_, rfl⟩)
    · have h1 : ¬ b.toInt = d.toInt := fun h => c1 (Int64.toInt_inj.mp h)
      have h2 : ¬ b.toInt = 0 := fun h => c2 (Int64.toInt_inj.mp h)
      rw [if_neg h1, if_neg h2]
    · have h1 : ¬ b.toInt = d.toInt := fun h => c1 (Int64.toInt_inj.mp h)
      rw [if_neg h1, if_pos (by rw [c2]; rfl)]
    · rw [if_pos (by rw [c1])]
  rcases Int.lt_or_le 0 b.toInt with q | q
  · exact g_Fr_oC hi (lpos_iff.mpr q) (Int64.le_iff_toInt_le.mpr (by show d.toInt ≤ 0; omega)) D
  · exact g_Fr_oB hi (Int64.le_iff_toInt_le.mpr q) D
theorem Fr_ord {hh : aH} {x y : Nat} (N : Nat) : ∀ (i : Nat) (a b c d : Int64) (s : Int32), i + N = 150 → 0 < b.toInt → 0 < d.toInt → (b.toInt.toNat * (a.toInt % b.toInt).toNat) * 2 ^ i ≤ 2 ^ 126 → JR M_Fr_order none (29, [(0, .ref x), (1, .ref y), (2, .long a), (4, .long b), (6, .long c), (8, .long d), (10, .int s), (11, .int (nI (i)))], [], hh, 0, 0) (OE (some (.int (ordR (N + 1) a.toInt b.toInt c.toInt d.toInt s))) hh) := by
  induction N with
  | zero =>
    intro i a b c d s hi hb hd hp
    have e := pow_end (by omega) hp
    have r0 : a.toInt % b.toInt = 0 := by
      have h1 := Int.emod_nonneg a.toInt (b := b.toInt) (by omega)
      rcases Nat.mul_eq_zero.mp e with q | q <;> omega
    have ha := fdiv_toInt (a := a) hb
    have hc := fdiv_toInt (a := c) hd
    have hra := rest_toInt (a := a) hb
    have hrc := rest_toInt (a := c) hd
    have hr1 := Int.emod_nonneg a.toInt (b := b.toInt) (by omega)
    have hr2 := Int.emod_nonneg c.toInt (b := d.toInt) (by omega)
    unfold ordR
    refine g_Fr_oA (by omega) (lpos_iff.mpr hb) (lpos_iff.mpr hd) (fun c1 => ?_) (fun c1 c2 => ⟨?_, rfl⟩) (fun c1 c2 => ⟨?_, rfl⟩)
    · rw [if_pos (by rw [← ha, ← hc, c1]), if_pos (Or.inl r0)]
      have := oEnd (hh := hh) (x := x) (y := y) (a := b) (b := a - fdiv a b * b) (c := d) (d := c - fdiv c d * d) (s := -s) (i := i + 1) (by omega) (by omega) (by omega) (Or.inl (by omega))
      rw [hra, hrc, Int32.neg_neg] at this
      exact this
    · rw [if_neg (fun h => c1 (Int64.toInt_inj.mp (by rw [ha, hc]; exact h))), if_neg]
      have := Int64.le_iff_toInt_le.mp c2
      omega
    · rw [if_neg (fun h => c1 (Int64.toInt_inj.mp (by rw [ha, hc]; exact h))), if_pos]
      have := Int64.lt_iff_toInt_lt.mp c2
      omega
  | succ N ih =>
    intro i a b c d s hi hb hd hp
    have ha := fdiv_toInt (a := a) hb
    have hc := fdiv_toInt (a := c) hd
    have hra := rest_toInt (a := a) hb
    have hrc := rest_toInt (a := c) hd
    have hr1 := Int.emod_nonneg a.toInt (b := b.toInt) (by omega)
    have hr2 := Int.emod_nonneg c.toInt (b := d.toInt) (by omega)
    have hr3 := Int.emod_lt_of_pos a.toInt hb
    rw [show ordR (N + 1 + 1) a.toInt b.toInt c.toInt d.toInt s = if a.toInt / b.toInt = c.toInt / d.toInt then (if a.toInt % b.toInt = 0 ∨ c.toInt % d.toInt = 0 then (if a.toInt % b.toInt = c.toInt % d.toInt then 0 else if a.toInt % b.toInt = 0 then -s else s) else ordR (N + 1) b.toInt (a.toInt % b.toInt) d.toInt (c.toInt % d.toInt) (-s)) else (if a.toInt / b.toInt < c.toInt / d.toInt then -s else s) from rfl]
    refine g_Fr_oA (by omega) (lpos_iff.mpr hb) (lpos_iff.mpr hd) (fun c1 => ?_) (fun c1 c2 => ⟨?_, rfl⟩) (fun c1 c2 => ⟨?_, rfl⟩)
    · rw [if_pos (by rw [← ha, ← hc, c1])]
      by_cases hz : a.toInt % b.toInt = 0 ∨ c.toInt % d.toInt = 0
      · rw [if_pos hz]
        have := oEnd (hh := hh) (x := x) (y := y) (a := b) (b := a - fdiv a b * b) (c := d) (d := c - fdiv c d * d) (s := -s) (i := i + 1) (by omega) (by omega) (by omega) (by rw [hra, hrc]; exact hz)
        rw [hra, hrc, Int32.neg_neg] at this
        exact this
      · rw [if_neg hz]
        have := ih (i + 1) b (a - fdiv a b * b) d (c - fdiv c d * d) (-s) (by omega) (by omega) (by omega) (by
          rw [hra]
          obtain ⟨bn, hbn⟩ := Int.eq_ofNat_of_zero_le (Int.le_of_lt hb)
          obtain ⟨rn, hrn⟩ := Int.eq_ofNat_of_zero_le hr1
          rw [hrn, hbn]
          rw [hrn, hbn] at hp
          have hp : bn * rn * 2 ^ i ≤ 2 ^ 126 := hp
          show rn * (bn % rn) * 2 ^ (i + 1) ≤ 2 ^ 126
          exact pow_half (euc_half (by omega) (by omega)) hp)
        rw [hra, hrc] at this
        exact this
    · rw [if_neg (fun h => c1 (Int64.toInt_inj.mp (by rw [ha, hc]; exact h))), if_neg]
      have := Int64.le_iff_toInt_le.mp c2
      omega
    · rw [if_neg (fun h => c1 (Int64.toInt_inj.mp (by rw [ha, hc]; exact h))), if_pos]
      have := Int64.lt_iff_toInt_lt.mp c2
      omega
/-- the order of two fractions with denominators above 0 -/
def ordF (a b c d : Int64) : Int32 := ordR 151 a.toInt b.toInt c.toInt d.toInt 1
theorem ord_pot {a b : Int64} (hb : 0 < b.toInt) : (b.toInt.toNat * (a.toInt % b.toInt).toNat) * 2 ^ 0 ≤ 2 ^ 126 := by
  have h3 := b.toInt_lt
  have r1 := Int.emod_nonneg a.toInt (b := b.toInt) (by omega)
  have r2 := Int.emod_lt_of_pos a.toInt hb
  rw [Nat.pow_zero, Nat.mul_one]
  calc b.toInt.toNat * (a.toInt % b.toInt).toNat ≤ 2 ^ 63 * 2 ^ 63 := Nat.mul_le_mul (by omega) (by omega)
    _ = 2 ^ 126 := by rw [← Nat.pow_add]

theorem c_Fr_order_32_31 {e0 e1 e2 e3 e4 e5 e6 e7 e8 e9 e10 e11 e12 e13 e14 e15 e16 e17 e18 e19 e20 e21 e22 e23 e24 e25 e26 e27 e28 e29 e30 e33 e34 e35 e36 e37 e38 e39 e40 e41 e42 e43 e44 e45 e46 e47 e48 : va_E} {a b c d : Int64} (hb : 0 < b.toInt) (hd : 0 < d.toInt) : JE M_Fr_order [.ref 32, .ref 31] (HP e0 e1 e2 e3 e4 e5 e6 e7 e8 e9 e10 e11 e12 e13 e14 e15 e16 e17 e18 e19 e20 e21 e22 e23 e24 e25 e26 e27 e28 e29 e30 (.inr (1, [.long c, .long d])) (.inr (1, [.long a, .long b])) e33 e34 e35 e36 e37 e38 e39 e40 e41 e42 e43 e44 e45 e46 e47 e48) (some (.int (ordF a b c d))) (HP e0 e1 e2 e3 e4 e5 e6 e7 e8 e9 e10 e11 e12 e13 e14 e15 e16 e17 e18 e19 e20 e21 e22 e23 e24 e25 e26 e27 e28 e29 e30 (.inr (1, [.long c, .long d])) (.inr (1, [.long a, .long b])) e33 e34 e35 e36 e37 e38 e39 e40 e41 e42 e43 e44 e45 e46 e47 e48) := by
  refine JM.of (by decide +kernel) rfl (Nat.le_of_ble_eq_true rfl) ?_
  refine JR.gp ok_Fr_order 9 (17, [(0, .ref 32), (1, .ref 31), (2, .long a), (4, .long b), (6, .long c)], [], _, _, _) rfl ?_
  refine JR.gp ok_Fr_order 7 (29, [(0, .ref 32), (1, .ref 31), (2, .long a), (4, .long b), (6, .long c), (8, .long d), (10, .int 1), (11, .int (nI 0))], [], (HP e0 e1 e2 e3 e4 e5 e6 e7 e8 e9 e10 e11 e12 e13 e14 e15 e16 e17 e18 e19 e20 e21 e22 e23 e24 e25 e26 e27 e28 e29 e30 (.inr (1, [.long c, .long d])) (.inr (1, [.long a, .long b])) e33 e34 e35 e36 e37 e38 e39 e40 e41 e42 e43 e44 e45 e46 e47 e48), 0, 0) rfl ?_
  exact Fr_ord 150 0 a b c d 1 rfl hb hd (ord_pot hb)

theorem c_Fr_order_31_34 {e0 e1 e2 e3 e4 e5 e6 e7 e8 e9 e10 e11 e12 e13 e14 e15 e16 e17 e18 e19 e20 e21 e22 e23 e24 e25 e26 e27 e28 e29 e30 e32 e33 e35 e36 e37 e38 e39 e40 e41 e42 e43 e44 e45 e46 e47 e48 : va_E} {a b c d : Int64} (hb : 0 < b.toInt) (hd : 0 < d.toInt) : JE M_Fr_order [.ref 31, .ref 34] (HP e0 e1 e2 e3 e4 e5 e6 e7 e8 e9 e10 e11 e12 e13 e14 e15 e16 e17 e18 e19 e20 e21 e22 e23 e24 e25 e26 e27 e28 e29 e30 (.inr (1, [.long a, .long b])) e32 e33 (.inr (1, [.long c, .long d])) e35 e36 e37 e38 e39 e40 e41 e42 e43 e44 e45 e46 e47 e48) (some (.int (ordF a b c d))) (HP e0 e1 e2 e3 e4 e5 e6 e7 e8 e9 e10 e11 e12 e13 e14 e15 e16 e17 e18 e19 e20 e21 e22 e23 e24 e25 e26 e27 e28 e29 e30 (.inr (1, [.long a, .long b])) e32 e33 (.inr (1, [.long c, .long d])) e35 e36 e37 e38 e39 e40 e41 e42 e43 e44 e45 e46 e47 e48) := by
  refine JM.of (by decide +kernel) rfl (Nat.le_of_ble_eq_true rfl) ?_
  refine JR.gp ok_Fr_order 9 (17, [(0, .ref 31), (1, .ref 34), (2, .long a), (4, .long b), (6, .long c)], [], _, _, _) rfl ?_
  refine JR.gp ok_Fr_order 7 (29, [(0, .ref 31), (1, .ref 34), (2, .long a), (4, .long b), (6, .long c), (8, .long d), (10, .int 1), (11, .int (nI 0))], [], (HP e0 e1 e2 e3 e4 e5 e6 e7 e8 e9 e10 e11 e12 e13 e14 e15 e16 e17 e18 e19 e20 e21 e22 e23 e24 e25 e26 e27 e28 e29 e30 (.inr (1, [.long a, .long b])) e32 e33 (.inr (1, [.long c, .long d])) e35 e36 e37 e38 e39 e40 e41 e42 e43 e44 e45 e46 e47 e48), 0, 0) rfl ?_
  exact Fr_ord 150 0 a b c d 1 rfl hb hd (ord_pot hb)
