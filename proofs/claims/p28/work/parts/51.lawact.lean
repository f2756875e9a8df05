/-! THE LAW'S ACTS put together: each keeps the law's world -/
theorem c_La_act {k : Nat} {q : aH} {x y : Nat} (h : LH k q) (hk : k < 1000) (hx : x < 2 ^ 31) (hy : y < 2 ^ 31) : JM M_La_act [.ref 0, .int (nI x), .int (nI y), .ref 35, .ref 36] q 0 0 (fun v q' => v = some (.int 1) ∧ LH (k + 1) q') := by
  obtain ⟨m, g, w, P, p, i, s, t, gn, B, F, T, e9, e10, e11, e12, e13, e15, e17, e18, e20, e22, e24, e26, e28, e30, e31, e32, e33, e34, ⟨hm, hg, hw, hP, hp, hi, hs, ht, hBF, hT⟩, hl, rfl⟩ := h
  have hu : x / 12 < 2 ^ 31 := Nat.lt_of_le_of_lt (Nat.div_le_self _ _) hx
  have hm0 : 0 < m ∧ m ≤ 4 := ⟨by omega, hm.2⟩
  have hokU : Ok (k + 1) m g w P p i s t B F T := ⟨hm, hg, hw, hP, hp, hi, hs, by omega, hBF, hT⟩
  refine JM.of (by decide +kernel) rfl (Nat.le_of_ble_eq_true rfl) (g_La_act_0 hx hy (fun _ _ _ _ _ c => ?_) (fun _ _ _ _ _ c => ?_) (fun _ _ _ _ c => ?_) (fun _ _ _ c => ?_) (fun _ _ c => ?_) (fun _ c => ?_) (fun c => ?_))
  · refine g_La_act_x hu hy ?_
    obtain ⟨h9, h10, h11, h12, h13, h15, h17, h18, h20, h22, h24, h26, h28, h30, h31, h32, h33, h34⟩ := hl
    obtain ⟨q0, z9, rfl⟩ := h9
    refine J.callS (rest := []) s_La_act_399 [.ref 0, .int (nI (x / 12)), .int (nI y), .ref 35, .ref 36] rfl (Nat.le_of_ble_eq_true rfl) (c_La_text (x := x / 12) (y := y) (q0 := q0) (z := z9) hm hBF hT hu hy) (Nat.zero_le _) (Nat.zero_le _) (Or.inl ?_) (fun v q hv => ?_)
    · rintro v q ⟨rfl, ⟨Bc, Fc, T, q0, z, -, -, rfl⟩ | ⟨Bc, Fc, T, q0, z, -, -, rfl⟩⟩ <;> rfl
    · obtain ⟨rfl, ⟨Bc, Fc, T, q0, z, hB2, hT2, rfl⟩ | ⟨Bc, Fc, T, q0, z, hB2, hT2, rfl⟩⟩ := hv
      · refine (show JR M_La_act none (402, _, [.int 1], _, _, _) (fun v q' => v = some (.int 1) ∧ LH (k + 1) q') from JR.iret .boolean (by decide +kernel) rfl (by decide) ?_)
        exact ⟨rfl, LH.mk ⟨hm, hg, hw, hP, hp, hi, hs, by omega, hB2, hT2⟩ ⟨⟨_, _, rfl⟩, h10, h11, h12, h13, h15, h17, h18, h20, h22, h24, h26, h28, h30, h31, h32, h33, h34⟩⟩
      · refine (show JR M_La_act none (402, _, [.int 1], _, _, _) (fun v q' => v = some (.int 1) ∧ LH (k + 1) q') from JR.iret .boolean (by decide +kernel) rfl (by decide) ?_)
        exact ⟨rfl, LH.mk ⟨hm, hg, hw, pgB_ok y, hp, plen_pos _, hs, by omega, hB2, hT2⟩ ⟨⟨_, _, rfl⟩, h10, h11, h12, h13, h15, h17, h18, h20, h22, h24, h26, h28, h30, h31, h32, h33, h34⟩⟩
  · refine g_La_act_n0 hm hg hw hBF hy ?_
    refine La_run (T := 1 + y % 30) hm0 hg hw hBF hp hP hi hs (by omega) (by omega) (by omega) ⟨rfl, ?_⟩
    obtain ⟨g1, g2, g3⟩ := wkN_ok (m := m) (g := g) (w := w) (B := B) (F := F) (P := P) (x := (p, i, s, gn)) hm0.1 hp hi hs (1 + y % 30)
    exact LH.mk ⟨hm, hg, hw, hP, g1, g2, g3, by omega, hBF, hT⟩ hl
  · have hum := Nat.mod_lt (x / 12) hm0.1
    have hy2 := Nat.mod_lt y (show 0 < 1000 by decide)
    exact g_La_act_r hm hg hw hBF hu hy hum hy2 ⟨rfl, LH.mk (i := 0) (t := 0) ⟨hm, hg, hw, hP, hum, plen_pos _, hy2, Nat.zero_le _, hBF, hT⟩ hl⟩
  · exact g_La_act_s hm hg hw hBF hy ⟨rfl, LH.mk (i := 0) ⟨hm, hg, hw, pgB_ok y, hp, plen_pos _, hs, by omega, hBF, hT⟩ hl⟩
  · have hum := Nat.mod_lt (x / 12) hm0.1
    have w1 := wbit_lt w hw (x / 12 % m) (by omega) true
    have w0 := wbit_lt w hw (x / 12 % m) (by omega) false
    refine g_La_act_p0 hm hg hw hBF hu hy ?_
    refine g_La_act_p1 hm hg hw hBF hy hum w1 w0 (fun _ => ⟨rfl, LH.mk ⟨hm, hg, w0, hP, hp, hi, hs, by omega, hBF, hT⟩ hl⟩) (fun _ => ⟨rfl, LH.mk ⟨hm, hg, w1, hP, hp, hi, hs, by omega, hBF, hT⟩ hl⟩)
  · have w1 := wbit_lt8 g hg (x / 12 % 3) (by omega) true
    have w0 := wbit_lt8 g hg (x / 12 % 3) (by omega) false
    refine g_La_act_g0 hu hy ?_
    refine g_La_act_g1 hm hg hw hBF hy (by omega) w1 w0 (fun _ => ⟨rfl, LH.mk ⟨hm, w0, hw, hP, hp, hi, hs, by omega, hBF, hT⟩ hl⟩) (fun _ => ⟨rfl, LH.mk ⟨hm, w1, hw, hP, hp, hi, hs, by omega, hBF, hT⟩ hl⟩)
  · refine g_La_act_t hm hg hw hBF hu hy ?_
    refine J.callS (rest := []) s_La_act_25 [.ref 0, .int (nI (x / 12)), .int (nI y), .ref 35, .ref 36] rfl (Nat.le_of_ble_eq_true rfl) (c_La_table (x := x / 12) (y := y) hm hg hw hBF hu hy) (Nat.zero_le _) (Nat.zero_le _) (Or.inl ?_) (fun v q hv => ?_)
    · rintro v q ⟨rfl, a, b, f, -, rfl⟩
      rfl
    · obtain ⟨rfl, a, b, f, hbf, rfl⟩ := hv
      refine (show JR M_La_act none (28, _, [.int 1], _, _, _) (fun v q' => v = some (.int 1) ∧ LH (k + 1) q') from JR.iret .boolean (by decide +kernel) rfl (by decide) ?_)
      exact ⟨rfl, LH.mk ⟨hm, hg, hw, hP, hp, hi, hs, by omega, up_sum hBF hbf, hT⟩ hl⟩
