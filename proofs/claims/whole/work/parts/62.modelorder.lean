/-! THE REFERENCE: the order of two fractions -/
theorem up_div {A B : Int} (hB : 0 < B) : -((-A + B - 1) / B) = A / B := by
  have r1 := Int.emod_nonneg (-A + B - 1) (b := B) (by omega)
  have r2 := Int.emod_lt_of_pos (-A + B - 1) hB
  have e := Int.emod_add_mul_ediv (-A + B - 1) B
  generalize (-A + B - 1) / B = q at *
  generalize (-A + B - 1) % B = r at *
  have e2 : q * B = B * q := Int.mul_comm q B
  apply Int.le_antisymm
  · apply (Int.le_ediv_iff_mul_le hB).mpr
    rw [Int.neg_mul, e2]
    omega
  · apply Int.le_of_lt_add_one
    apply (Int.ediv_lt_iff_lt_mul hB).mpr
    rw [Int.add_mul, Int.neg_mul, Int.one_mul, e2]
    omega
theorem wh_pos {a b : Int64} (h : 0 ≤ a.toInt) (hb : 0 < b.toInt) : a / b = fdiv a b := by
  apply Int64.toInt_inj.mp
  rw [fdiv_toInt hb, l_div hb, Int.tdiv_eq_ediv_of_nonneg h]
theorem wh_neg {a b : Int64} (h : a.toInt < 0) (h2 : -(2 ^ 62) < a.toInt) (hb : 0 < b.toInt) (hb2 : b.toInt < 2 ^ 62) : -((-a + b - 1) / b) = fdiv a b := by
  apply Int64.toInt_inj.mp
  have e1 : (-a).toInt = -a.toInt := l_neg (by omega)
  have e2 : (-a + b).toInt = -a.toInt + b.toInt := by rw [l_add (by omega) (by omega), e1]
  have e3 : (-a + b - 1).toInt = -a.toInt + b.toInt - 1 := by
    have : (1 : Int64).toInt = 1 := rfl
    rw [l_sub (by omega) (by omega), e2, this]
  have e4 : ((-a + b - 1) / b).toInt = (-a.toInt + b.toInt - 1) / b.toInt := by rw [l_div hb, e3, Int.tdiv_eq_ediv_of_nonneg (by omega)]
  have p := Int.ediv_nonneg (a := -a.toInt + b.toInt - 1) (b := b.toInt) (by omega) (by omega)
  rw [fdiv_toInt hb, l_neg (by rw [e4]; omega), e4, up_div hb]

set_option maxRecDepth 100000 in
set_option maxHeartbeats 400000 in
theorem g_Mo_wh {sc : aScr} {hh : aH} {a b : Int64} {kc kn : Nat} {O : Option Value → aH → Prop} (hb : ¬ b = 0) (K1 : (a < (0 : Int64)) → O (some (.long (-((((-a) + b) - 1) / b)))) hh) (K2 : ((0 : Int64) ≤ a) → O (some (.long (a / b))) hh) : JR M_Mo_whole sc (0, [(0, .long a), (2, .long b)], [], hh, kc, kn) O := by
  refine J.gp ok_Mo_whole 3 (3, [(0, .long a), (2, .long b)], [.int (lg_cmp a 0)], _, _, _) rfl ?_
  refine J.ifB ok_Mo_whole (fun x => x < 0) 12 6 rfl (fun (h0 : (lg_cmp a 0) < 0) => ?_) (fun (h0 : ¬ ((lg_cmp a 0) < 0)) => ?_)
  · have c3 : a < (0 : Int64) := (cmp_lt).mp h0
    refine J.gp ok_Mo_whole 7 (19, [(0, .long a), (2, .long b)], [.long b, .long (((-a) + b) - 1)], _, _, _) rfl ?_
    refine J.ldivB ok_Mo_whole 20 rfl (hb) ?_
    refine J.gp ok_Mo_whole 1 (21, [(0, .long a), (2, .long b)], [.long (-((((-a) + b) - 1) / b))], _, _, _) rfl ?_
    refine JR.lret (by decide +kernel) rfl ?_
    exact K1 c3
  · have c3 : (0 : Int64) ≤ a := (cmp_lt_n).mp h0
    refine J.gp ok_Mo_whole 2 (8, [(0, .long a), (2, .long b)], [.long b, .long a], _, _, _) rfl ?_
    refine J.ldivB ok_Mo_whole 9 rfl (hb) ?_
    refine J.gp ok_Mo_whole 1 (21, [(0, .long a), (2, .long b)], [.long (a / b)], _, _, _) rfl ?_
    refine JR.lret (by decide +kernel) rfl ?_
    exact K2 c3

theorem c_Mo_whole {hh : aH} {a b : Int64} (ha : -(2 ^ 62) < a.toInt) (hb : 0 < b.toInt) (hb2 : b.toInt < 2 ^ 62) : JE M_Mo_whole [.long a, .long b] hh (some (.long (fdiv a b))) hh := by
  refine JM.of (by decide +kernel) rfl (Nat.le_of_ble_eq_true rfl) (g_Mo_wh (lpos_ne (lpos_iff.mpr hb)) (fun c => ⟨?_, rfl⟩) (fun c => ⟨?_, rfl⟩))
  · rw [wh_neg ((l_neg_iff a).mp c) ha hb hb2]
  · rw [wh_pos (Int64.le_iff_toInt_le.mp c) hb]

set_option maxRecDepth 100000 in
set_option maxHeartbeats 400000 in
theorem g_Mo_sg0 {sc : aScr} {hh : aH} {a b c d : Int64} {kc kn : Nat} {O : Option Value → aH → Prop}  (K1 : JR M_Mo_sign sc (17, [(8, .long a), (10, .long b), (12, .long c), (14, .long d), (16, .int 1)], [], hh, kc, kn) O) : JR M_Mo_sign sc (0, [(0, .long a), (2, .long b), (4, .long c), (6, .long d)], [], hh, kc, kn) O := by
  refine J.gp ok_Mo_sign 6 (10, [(0, .long a), (2, .long b), (4, .long c), (6, .long d), (8, .long a), (10, .long b), (12, .long c)], [], _, _, _) rfl ?_
  refine J.gp ok_Mo_sign 4 (17, [(0, .long a), (2, .long b), (4, .long c), (6, .long d), (8, .long a), (10, .long b), (12, .long c), (14, .long d), (16, .int 1)], [], _, _, _) rfl ?_
  refine J.lv [4, 5, 6, 7, 8] [(8, .long a), (10, .long b), (12, .long c), (14, .long d), (16, .int 1)] rfl ?_
  exact K1

set_option maxRecDepth 100000 in
set_option maxHeartbeats 400000 in
theorem g_Mo_sg1 {sc : aScr} {hh : aH} {a b c d : Int64} {s : Int32} {kc kn : Nat} {O : Option Value → aH → Prop} (ha : -(2 ^ 62) < a.toInt) (hb : 0 < b.toInt) (hb2 : b.toInt < 2 ^ 62) (hc : -(2 ^ 62) < c.toInt) (hd : 0 < d.toInt) (hd2 : d.toInt < 2 ^ 62) (K1 : ((fdiv a b) = (fdiv c d)) → ((a - (fdiv a b * b)) = (0 : Int64)) → (¬ (a - (fdiv a b * b)) = (c - (fdiv c d * d))) → (¬ (a - (fdiv a b * b)) = (0 : Int64)) → O (some (.int s)) hh) (K2 : ((fdiv a b) = (fdiv c d)) → ((a - (fdiv a b * b)) = (0 : Int64)) → (¬ (a - (fdiv a b * b)) = (c - (fdiv c d * d))) → ((a - (fdiv a b * b)) = (0 : Int64)) → O (some (.int (-s))) hh) (K3 : ((fdiv a b) = (fdiv c d)) → ((a - (fdiv a b * b)) = (0 : Int64)) → ((a - (fdiv a b * b)) = (c - (fdiv c d * d))) → O (some (.int 0)) hh) (K4 : ((fdiv a b) = (fdiv c d)) → (¬ (a - (fdiv a b * b)) = (0 : Int64)) → (¬ (c - (fdiv c d * d)) = (0 : Int64)) → JR M_Mo_sign sc (17, [(8, .long b), (10, .long (a - (fdiv a b * b))), (12, .long d), (14, .long (c - (fdiv c d * d))), (16, .int (-s))], [], hh, kc, kn) O) (K5 : ((fdiv a b) = (fdiv c d)) → (¬ (a - (fdiv a b * b)) = (0 : Int64)) → ((c - (fdiv c d * d)) = (0 : Int64)) → (¬ (a - (fdiv a b * b)) = (c - (fdiv c d * d))) → (¬ (a - (fdiv a b * b)) = (0 : Int64)) → O (some (.int s)) hh) (K6 : ((fdiv a b) = (fdiv c d)) → (¬ (a - (fdiv a b * b)) = (0 : Int64)) → ((c - (fdiv c d * d)) = (0 : Int64)) → (¬ (a - (fdiv a b * b)) = (c - (fdiv c d * d))) → ((a - (fdiv a b * b)) = (0 : Int64)) → O (some (.int (-s))) hh) (K7 : ((fdiv a b) = (fdiv c d)) → (¬ (a - (fdiv a b * b)) = (0 : Int64)) → ((c - (fdiv c d * d)) = (0 : Int64)) → ((a - (fdiv a b * b)) = (c - (fdiv c d * d))) → O (some (.int 0)) hh) (K8 : (¬ (fdiv a b) = (fdiv c d)) → ((fdiv c d) ≤ (fdiv a b)) → O (some (.int s)) hh) (K9 : (¬ (fdiv a b) = (fdiv c d)) → ((fdiv a b) < (fdiv c d)) → O (some (.int (-s))) hh) : JR M_Mo_sign sc (17, [(8, .long a), (10, .long b), (12, .long c), (14, .long d), (16, .int s)], [], hh, kc, kn) O := by
  refine J.gp ok_Mo_sign 2 (21, [(8, .long a), (10, .long b), (12, .long c), (14, .long d), (16, .int s)], [.long b, .long a], _, _, _) rfl ?_
  refine J.callSE s_Mo_sign_21 24 [.long a, .long b] (c_Mo_whole ha hb hb2) rfl rfl (Nat.le_of_ble_eq_true rfl) rfl ?_
  refine J.gp ok_Mo_sign 0 (24, [(8, .long a), (10, .long b), (12, .long c), (14, .long d), (16, .int s)], [.long (fdiv a b)], hh, kc, kn) rfl ?_
  refine J.gp ok_Mo_sign 3 (30, [(8, .long a), (10, .long b), (12, .long c), (14, .long d), (16, .int s), (17, .long (fdiv a b))], [.long d, .long c], _, _, _) rfl ?_
  refine J.callSE s_Mo_sign_30 33 [.long c, .long d] (c_Mo_whole hc hd hd2) rfl rfl (Nat.le_of_ble_eq_true rfl) rfl ?_
  refine J.gp ok_Mo_sign 0 (33, [(8, .long a), (10, .long b), (12, .long c), (14, .long d), (16, .int s), (17, .long (fdiv a b))], [.long (fdiv c d)], hh, kc, kn) rfl ?_
  refine J.gp ok_Mo_sign 4 (40, [(8, .long a), (10, .long b), (12, .long c), (14, .long d), (16, .int s), (17, .long (fdiv a b)), (19, .long (fdiv c d))], [.int (lg_cmp (fdiv a b) (fdiv c d))], _, _, _) rfl ?_
  refine J.ifB ok_Mo_sign (fun x => x = 0) 60 43 rfl (fun (h0 : (lg_cmp (fdiv a b) (fdiv c d)) = 0) => ?_) (fun (h0 : ¬ ((lg_cmp (fdiv a b) (fdiv c d)) = 0)) => ?_)
  · have c40 : (fdiv a b) = (fdiv c d) := (cmp_eq).mp h0
    refine J.gp ok_Mo_sign 6 (70, [(8, .long a), (10, .long b), (12, .long c), (14, .long d), (16, .int s), (17, .long (fdiv a b)), (19, .long (fdiv c d)), (21, .long (a - (fdiv a b * b)))], [], _, _, _) rfl ?_
    refine J.gp ok_Mo_sign 6 (80, [(8, .long a), (10, .long b), (12, .long c), (14, .long d), (16, .int s), (17, .long (fdiv a b)), (19, .long (fdiv c d)), (21, .long (a - (fdiv a b * b))), (23, .long (c - (fdiv c d * d)))], [], _, _, _) rfl ?_
    refine J.gp ok_Mo_sign 3 (84, [(8, .long a), (10, .long b), (12, .long c), (14, .long d), (16, .int s), (17, .long (fdiv a b)), (19, .long (fdiv c d)), (21, .long (a - (fdiv a b * b))), (23, .long (c - (fdiv c d * d)))], [.int (lg_cmp (a - (fdiv a b * b)) 0)], _, _, _) rfl ?_
    refine J.ifB ok_Mo_sign (fun x => x = 0) 94 87 rfl (fun (h0 : (lg_cmp (a - (fdiv a b * b)) 0) = 0) => ?_) (fun (h0 : ¬ ((lg_cmp (a - (fdiv a b * b)) 0) = 0)) => ?_)
    · have c84 : (a - (fdiv a b * b)) = (0 : Int64) := (cmp_eq).mp h0
      refine J.gp ok_Mo_sign 3 (99, [(8, .long a), (10, .long b), (12, .long c), (14, .long d), (16, .int s), (17, .long (fdiv a b)), (19, .long (fdiv c d)), (21, .long (a - (fdiv a b * b))), (23, .long (c - (fdiv c d * d)))], [.int (lg_cmp (a - (fdiv a b * b)) (c - (fdiv c d * d)))], _, _, _) rfl ?_
      refine J.ifB ok_Mo_sign (fun x => ¬ x = 0) 106 102 rfl (fun (h0 : ¬ (lg_cmp (a - (fdiv a b * b)) (c - (fdiv c d * d))) = 0) => ?_) (fun (h0 : ¬ (¬ (lg_cmp (a - (fdiv a b * b)) (c - (fdiv c d * d))) = 0)) => ?_)
      · have c99 : ¬ (a - (fdiv a b * b)) = (c - (fdiv c d * d)) := (cmp_ne).mp h0
        refine J.gp ok_Mo_sign 3 (110, [(8, .long a), (10, .long b), (12, .long c), (14, .long d), (16, .int s), (17, .long (fdiv a b)), (19, .long (fdiv c d)), (21, .long (a - (fdiv a b * b))), (23, .long (c - (fdiv c d * d)))], [.int (lg_cmp (a - (fdiv a b * b)) 0)], _, _, _) rfl ?_
        refine J.ifB ok_Mo_sign (fun x => ¬ x = 0) 119 113 rfl (fun (h0 : ¬ (lg_cmp (a - (fdiv a b * b)) 0) = 0) => ?_) (fun (h0 : ¬ (¬ (lg_cmp (a - (fdiv a b * b)) 0) = 0)) => ?_)
        · have c110 : ¬ (a - (fdiv a b * b)) = (0 : Int64) := (cmp_ne).mp h0
          refine J.gp ok_Mo_sign 1 (121, [(8, .long a), (10, .long b), (12, .long c), (14, .long d), (16, .int s), (17, .long (fdiv a b)), (19, .long (fdiv c d)), (21, .long (a - (fdiv a b * b))), (23, .long (c - (fdiv c d * d)))], [.int s], _, _, _) rfl ?_
          refine JR.iret .int (by decide +kernel) rfl (rfl) ?_
          exact K1 c40 c84 c99 c110
        · have c110 : (a - (fdiv a b * b)) = (0 : Int64) := (cmp_ne_n).mp h0
          refine J.gp ok_Mo_sign 3 (121, [(8, .long a), (10, .long b), (12, .long c), (14, .long d), (16, .int s), (17, .long (fdiv a b)), (19, .long (fdiv c d)), (21, .long (a - (fdiv a b * b))), (23, .long (c - (fdiv c d * d)))], [.int (-s)], _, _, _) rfl ?_
          refine JR.iret .int (by decide +kernel) rfl (rfl) ?_
          exact K2 c40 c84 c99 c110
      · have c99 : (a - (fdiv a b * b)) = (c - (fdiv c d * d)) := (cmp_ne_n).mp h0
        refine J.gp ok_Mo_sign 2 (121, [(8, .long a), (10, .long b), (12, .long c), (14, .long d), (16, .int s), (17, .long (fdiv a b)), (19, .long (fdiv c d)), (21, .long (a - (fdiv a b * b))), (23, .long (c - (fdiv c d * d)))], [.int 0], _, _, _) rfl ?_
        refine JR.iret .int (by decide +kernel) rfl (rfl) ?_
        exact K3 c40 c84 c99
    · have c84 : ¬ (a - (fdiv a b * b)) = (0 : Int64) := (cmp_eq_n).mp h0
      refine J.gp ok_Mo_sign 3 (91, [(8, .long a), (10, .long b), (12, .long c), (14, .long d), (16, .int s), (17, .long (fdiv a b)), (19, .long (fdiv c d)), (21, .long (a - (fdiv a b * b))), (23, .long (c - (fdiv c d * d)))], [.int (lg_cmp (c - (fdiv c d * d)) 0)], _, _, _) rfl ?_
      refine J.ifB ok_Mo_sign (fun x => ¬ x = 0) 122 94 rfl (fun (h0 : ¬ (lg_cmp (c - (fdiv c d * d)) 0) = 0) => ?_) (fun (h0 : ¬ (¬ (lg_cmp (c - (fdiv c d * d)) 0) = 0)) => ?_)
      · have c91 : ¬ (c - (fdiv c d * d)) = (0 : Int64) := (cmp_ne).mp h0
        refine J.gp ok_Mo_sign 6 (134, [(8, .long b), (10, .long (a - (fdiv a b * b))), (12, .long d), (14, .long d), (16, .int s), (17, .long (fdiv a b)), (19, .long (fdiv c d)), (21, .long (a - (fdiv a b * b))), (23, .long (c - (fdiv c d * d)))], [], _, _, _) rfl ?_
        refine J.gp ok_Mo_sign 6 (17, [(8, .long b), (10, .long (a - (fdiv a b * b))), (12, .long d), (14, .long (c - (fdiv c d * d))), (16, .int (-s)), (17, .long (fdiv a b)), (19, .long (fdiv c d)), (21, .long (a - (fdiv a b * b))), (23, .long (c - (fdiv c d * d)))], [], _, _, _) rfl ?_
        refine J.lv [0, 1, 2, 3, 4] [(8, .long b), (10, .long (a - (fdiv a b * b))), (12, .long d), (14, .long (c - (fdiv c d * d))), (16, .int (-s))] rfl ?_
        exact K4 c40 c84 c91
      · have c91 : (c - (fdiv c d * d)) = (0 : Int64) := (cmp_ne_n).mp h0
        refine J.gp ok_Mo_sign 3 (99, [(8, .long a), (10, .long b), (12, .long c), (14, .long d), (16, .int s), (17, .long (fdiv a b)), (19, .long (fdiv c d)), (21, .long (a - (fdiv a b * b))), (23, .long (c - (fdiv c d * d)))], [.int (lg_cmp (a - (fdiv a b * b)) (c - (fdiv c d * d)))], _, _, _) rfl ?_
        refine J.ifB ok_Mo_sign (fun x => ¬ x = 0) 106 102 rfl (fun (h0 : ¬ (lg_cmp (a - (fdiv a b * b)) (c - (fdiv c d * d))) = 0) => ?_) (fun (h0 : ¬ (¬ (lg_cmp (a - (fdiv a b * b)) (c - (fdiv c d * d))) = 0)) => ?_)
        · have c99 : ¬ (a - (fdiv a b * b)) = (c - (fdiv c d * d)) := (cmp_ne).mp h0
          refine J.gp ok_Mo_sign 3 (110, [(8, .long a), (10, .long b), (12, .long c), (14, .long d), (16, .int s), (17, .long (fdiv a b)), (19, .long (fdiv c d)), (21, .long (a - (fdiv a b * b))), (23, .long (c - (fdiv c d * d)))], [.int (lg_cmp (a - (fdiv a b * b)) 0)], _, _, _) rfl ?_
          refine J.ifB ok_Mo_sign (fun x => ¬ x = 0) 119 113 rfl (fun (h0 : ¬ (lg_cmp (a - (fdiv a b * b)) 0) = 0) => ?_) (fun (h0 : ¬ (¬ (lg_cmp (a - (fdiv a b * b)) 0) = 0)) => ?_)
          · have c110 : ¬ (a - (fdiv a b * b)) = (0 : Int64) := (cmp_ne).mp h0
            refine J.gp ok_Mo_sign 1 (121, [(8, .long a), (10, .long b), (12, .long c), (14, .long d), (16, .int s), (17, .long (fdiv a b)), (19, .long (fdiv c d)), (21, .long (a - (fdiv a b * b))), (23, .long (c - (fdiv c d * d)))], [.int s], _, _, _) rfl ?_
            refine JR.iret .int (by decide +kernel) rfl (rfl) ?_
            exact K5 c40 c84 c91 c99 c110
          · have c110 : (a - (fdiv a b * b)) = (0 : Int64) := (cmp_ne_n).mp h0
            refine J.gp ok_Mo_sign 3 (121, [(8, .long a), (10, .long b), (12, .long c), (14, .long d), (16, .int s), (17, .long (fdiv a b)), (19, .long (fdiv c d)), (21, .long (a - (fdiv a b * b))), (23, .long (c - (fdiv c d * d)))], [.int (-s)], _, _, _) rfl ?_
            refine JR.iret .int (by decide +kernel) rfl (rfl) ?_
            exact K6 c40 c84 c91 c99 c110
        · have c99 : (a - (fdiv a b * b)) = (c - (fdiv c d * d)) := (cmp_ne_n).mp h0
          refine J.gp ok_Mo_sign 2 (121, [(8, .long a), (10, .long b), (12, .long c), (14, .long d), (16, .int s), (17, .long (fdiv a b)), (19, .long (fdiv c d)), (21, .long (a - (fdiv a b * b))), (23, .long (c - (fdiv c d * d)))], [.int 0], _, _, _) rfl ?_
          refine JR.iret .int (by decide +kernel) rfl (rfl) ?_
          exact K7 c40 c84 c91 c99
  · have c40 : ¬ (fdiv a b) = (fdiv c d) := (cmp_eq_n).mp h0
    refine J.gp ok_Mo_sign 3 (48, [(8, .long a), (10, .long b), (12, .long c), (14, .long d), (16, .int s), (17, .long (fdiv a b)), (19, .long (fdiv c d))], [.int (lg_cmp (fdiv a b) (fdiv c d))], _, _, _) rfl ?_
    refine J.ifB ok_Mo_sign (fun x => 0 ≤ x) 57 51 rfl (fun (h0 : 0 ≤ (lg_cmp (fdiv a b) (fdiv c d))) => ?_) (fun (h0 : ¬ (0 ≤ (lg_cmp (fdiv a b) (fdiv c d)))) => ?_)
    · have c48 : (fdiv c d) ≤ (fdiv a b) := (cmp_ge).mp h0
      refine J.gp ok_Mo_sign 1 (59, [(8, .long a), (10, .long b), (12, .long c), (14, .long d), (16, .int s), (17, .long (fdiv a b)), (19, .long (fdiv c d))], [.int s], _, _, _) rfl ?_
      refine JR.iret .int (by decide +kernel) rfl (rfl) ?_
      exact K8 c40 c48
    · have c48 : (fdiv a b) < (fdiv c d) := (cmp_ge_n).mp h0
      refine J.gp ok_Mo_sign 3 (59, [(8, .long a), (10, .long b), (12, .long c), (14, .long d), (16, .int s), (17, .long (fdiv a b)), (19, .long (fdiv c d))], [.int (-s)], _, _, _) rfl ?_
      refine JR.iret .int (by decide +kernel) rfl (rfl) ?_
      exact K9 c40 c48

theorem Mo_sg {hh : aH} (N : Nat) : ∀ (i : Nat) (a b c d : Int64) (s : Int32), i + N = 150 → 0 < b.toInt → b.toInt < 2 ^ 62 → 0 < d.toInt → d.toInt < 2 ^ 62 → -(2 ^ 62) < a.toInt → -(2 ^ 62) < c.toInt → (b.toInt.toNat * (a.toInt % b.toInt).toNat) * 2 ^ i ≤ 2 ^ 126 → JR M_Mo_sign none (17, [(8, .long a), (10, .long b), (12, .long c), (14, .long d), (16, .int s)], [], hh, 0, 0) (OE (some (.int (ordR (N + 1) a.toInt b.toInt c.toInt d.toInt s))) hh) := by
  induction N with
  | zero =>
    intro i a b c d s hi hb hb2 hd hd2 ha0 hc0 hp
    have e := pow_end (by omega) hp
    have r0 : a.toInt % b.toInt = 0 := by
      have h1 := Int.emod_nonneg a.toInt (b := b.toInt) (by omega)
      rcases Nat.mul_eq_zero.mp e with q | q <;> omega
    have ha := fdiv_toInt (a := a) hb
    have hc := fdiv_toInt (a := c) hd
    have hra := rest_toInt (a := a) hb
    have hrc := rest_toInt (a := c) hd
    have hz : a - fdiv a b * b = 0 := Int64.toInt_inj.mp (by rw [hra, r0]; rfl)
    unfold ordR
    refine g_Mo_sg1 ha0 hb hb2 hc0 hd hd2 (fun c1 c2 c3 c4 => absurd c2 c4) (fun c1 c2 c3 c4 => ⟨?_, rfl⟩) (fun c1 c2 c3 => ⟨?_, rfl⟩) (fun c1 c2 c3 => absurd hz c2) (fun c1 c2 c3 c4 c5 => absurd hz c2) (fun c1 c2 c3 c4 c5 => absurd hz c2) (fun c1 c2 c3 c4 => absurd hz c2) (fun c1 c2 => ⟨?_, rfl⟩) (fun c1 c2 => ⟨?_, rfl⟩)
    · rw [if_pos (by rw [← ha, ← hc, c1]), if_pos (Or.inl r0), if_neg (fun h => c3 (Int64.toInt_inj.mp (by rw [hra, hrc]; exact h))), if_pos r0]
    · rw [if_pos (by rw [← ha, ← hc, c1]), if_pos (Or.inl r0), if_pos (by rw [← hra, ← hrc, c3])]
    · rw [if_neg (fun h => c1 (Int64.toInt_inj.mp (by rw [ha, hc]; exact h))), if_neg]
      have := Int64.le_iff_toInt_le.mp c2
      omega
    · rw [if_neg (fun h => c1 (Int64.toInt_inj.mp (by rw [ha, hc]; exact h))), if_pos]
      have := Int64.lt_iff_toInt_lt.mp c2
      omega
  | succ N ih =>
    intro i a b c d s hi hb hb2 hd hd2 ha0 hc0 hp
    have ha := fdiv_toInt (a := a) hb
    have hc := fdiv_toInt (a := c) hd
    have hra := rest_toInt (a := a) hb
    have hrc := rest_toInt (a := c) hd
    have hr1 := Int.emod_nonneg a.toInt (b := b.toInt) (by omega)
    have hr2 := Int.emod_nonneg c.toInt (b := d.toInt) (by omega)
    have hr3 := Int.emod_lt_of_pos a.toInt hb
    have hr4 := Int.emod_lt_of_pos c.toInt hd
    have z1 : a - fdiv a b * b = 0 ↔ a.toInt % b.toInt = 0 := by
      rw [← hra]
      exact ⟨fun h => by rw [h]; rfl, fun h => Int64.toInt_inj.mp h⟩
    have z2 : c - fdiv c d * d = 0 ↔ c.toInt % d.toInt = 0 := by
      rw [← hrc]
      exact ⟨fun h => by rw [h]; rfl, fun h => Int64.toInt_inj.mp h⟩
    have z3 : a - fdiv a b * b = c - fdiv c d * d ↔ a.toInt % b.toInt = c.toInt % d.toInt := by
      rw [← hra, ← hrc]
      exact Int64.toInt_inj.symm
    rw [show ordR (N + 1 + 1) a.toInt b.toInt c.toInt d.toInt s = if a.toInt / b.toInt = c.toInt / d.toInt then (if a.toInt % b.toInt = 0 ∨ c.toInt % d.toInt = 0 then (if a.toInt % b.toInt = c.toInt % d.toInt then 0 else if a.toInt % b.toInt = 0 then -s else s) else ordR (N + 1) b.toInt (a.toInt % b.toInt) d.toInt (c.toInt % d.toInt) (-s)) else (if a.toInt / b.toInt < c.toInt / d.toInt then -s else s) from rfl]
    refine g_Mo_sg1 ha0 hb hb2 hc0 hd hd2 (fun c1 c2 c3 c4 => absurd c2 c4) (fun c1 c2 c3 c4 => ⟨?_, rfl⟩) (fun c1 c2 c3 => ⟨?_, rfl⟩) (fun c1 c2 c3 => ?_) (fun c1 c2 c3 c4 c5 => ⟨?_, rfl⟩) (fun c1 c2 c3 c4 c5 => absurd c5 c2) (fun c1 c2 c3 c4 => ⟨?_, rfl⟩) (fun c1 c2 => ⟨?_, rfl⟩) (fun c1 c2 => ⟨?_, rfl⟩)
    · rw [if_pos (by rw [← ha, ← hc, c1]), if_pos (Or.inl (z1.mp c2)), if_neg (fun h => c3 (z3.mpr h)), if_pos (z1.mp c2)]
    · rw [if_pos (by rw [← ha, ← hc, c1]), if_pos (Or.inl (z1.mp c2)), if_pos (z3.mp c3)]
    · rw [if_pos (by rw [← ha, ← hc, c1]), if_neg (fun h => h.elim (fun h => c2 (z1.mpr h)) (fun h => c3 (z2.mpr h)))]
      have n1 : ¬ a.toInt % b.toInt = 0 := fun h => c2 (z1.mpr h)
      have n2 : ¬ c.toInt % d.toInt = 0 := fun h => c3 (z2.mpr h)
      have := ih (i + 1) b (a - fdiv a b * b) d (c - fdiv c d * d) (-s) (by omega) (by omega) (by omega) (by omega) (by omega) (by omega) (by omega) (by
        rw [hra]
        obtain ⟨bn, hbn⟩ := Int.eq_ofNat_of_zero_le (Int.le_of_lt hb)
        obtain ⟨rn, hrn⟩ := Int.eq_ofNat_of_zero_le hr1
        rw [hrn, hbn]
        rw [hrn, hbn] at hp
        have hp : bn * rn * 2 ^ i ≤ 2 ^ 126 := hp
        show rn * (bn % rn) * 2 ^ (i + 1) ≤ 2 ^ 126
        exact pow_half (euc_half (by omega) (by omega)) hp)
      rw [hra, hrc] at this
      exact this
    · rw [if_pos (by rw [← ha, ← hc, c1]), if_pos (Or.inr (z2.mp c3)), if_neg (fun h => c4 (z3.mpr h)), if_neg (fun h => c2 (z1.mpr h))]
    · rw [if_pos (by rw [← ha, ← hc, c1]), if_pos (Or.inr (z2.mp c3)), if_pos (z3.mp c4)]
    · rw [if_neg (fun h => c1 (Int64.toInt_inj.mp (by rw [ha, hc]; exact h))), if_neg]
      have := Int64.le_iff_toInt_le.mp c2
      omega
    · rw [if_neg (fun h => c1 (Int64.toInt_inj.mp (by rw [ha, hc]; exact h))), if_pos]
      have := Int64.lt_iff_toInt_lt.mp c2
      omega
def FrB (a b : Int64) : Prop := -(2 ^ 62) < a.toInt ∧ 0 < b.toInt ∧ b.toInt < 2 ^ 62
theorem c_Mo_sign {hh : aH} {a b c d : Int64} (h1 : FrB a b) (h2 : FrB c d) : JE M_Mo_sign [.long a, .long b, .long c, .long d] hh (some (.int (ordF a b c d))) hh :=
  JM.of (by decide +kernel) rfl (Nat.le_of_ble_eq_true rfl) (g_Mo_sg0 (Mo_sg 150 0 a b c d 1 rfl h1.2.1 h1.2.2 h2.2.1 h2.2.2 h1.1 h2.1 (ord_pot h1.2.1)))
