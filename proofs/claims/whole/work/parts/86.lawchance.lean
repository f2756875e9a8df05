/-! THE CALLS, on both sides: exact chances, cycles, numbers, texts -/
theorem i32_or1 {x : Int32} (h : 0 ≤ x ∧ x ≤ 1) : x = 0 ∨ x = 1 := by
  obtain ⟨j, hj, rfl⟩ := i32_in 1 (by decide) h.1 h.2
  have : j = 0 ∨ j = 1 := by omega
  rcases this with rfl | rfl
  · exact Or.inl rfl
  · exact Or.inr rfl
theorem i32_or2 {x : Int32} (h : 0 ≤ x ∧ x ≤ 2) : x = 0 ∨ x = 1 ∨ x = 2 := by
  obtain ⟨j, hj, rfl⟩ := i32_in 2 (by decide) h.1 h.2
  have : j = 0 ∨ j = 1 ∨ j = 2 := by omega
  rcases this with rfl | rfl | rfl
  · exact Or.inl rfl
  · exact Or.inr (Or.inl rfl)
  · exact Or.inr (Or.inr rfl)
theorem i32_or9 {x : Int32} (h : 0 ≤ x ∧ x ≤ 9) : x = 0 ∨ x = 1 ∨ x = 2 ∨ x = 3 ∨ x = 4 ∨ x = 5 ∨ x = 6 ∨ x = 7 ∨ x = 8 ∨ x = 9 := by
  obtain ⟨j, hj, rfl⟩ := i32_in 9 (by decide) h.1 h.2
  have : j = 0 ∨ j = 1 ∨ j = 2 ∨ j = 3 ∨ j = 4 ∨ j = 5 ∨ j = 6 ∨ j = 7 ∨ j = 8 ∨ j = 9 := by omega
  rcases this with rfl | rfl | rfl | rfl | rfl | rfl | rfl | rfl | rfl | rfl <;> decide
theorem i32_sub3 (a b g : Int32) : (a - g) - (b - g) = a - b := by grind
theorem i32_suba (a d g : Int32) : (a + d) - g = (a - g) + d := by grind
/-- what a walk goes through comes round -/
theorem seq_ex {m g w P p i s : Nat} {B F : Nat → Nat} {gn : Int32} (hm : 2 ≤ m ∧ m ≤ 4) (hp : p < m) (hi : i < plen P) (hs : s < 1000) : ∃ t0 T, Comes (fun k => 4000 * (wkN m g w B F P (p, i, s, gn) k).1 + 1000 * (wkN m g w B F P (p, i, s, gn) k).2.1 + (wkN m g w B F P (p, i, s, gn) k).2.2.1) t0 T ∧ T ≤ 16000 := by
  refine comes_ex (fun k => ?_)
  have h1 := wkN_ok (m := m) (g := g) (w := w) (B := B) (F := F) (P := P) (x := (p, i, s, gn)) (by omega) hp hi hs k
  have h2 := plen_le P
  obtain ⟨h3, h4, h5⟩ := h1
  omega

theorem cs_chance {th : Int32} {f : Nat → Int64} {qq : aH} (h : LH th f qq) (x y : Int32) : CaseL M_La_chance M_Mo_chance [(0, 9, 12, 13), (0, 9, 16, 19)] [.ref 0, .int x, .int y, .ref 48] [.ref 35, .int x, .int y] qq := by
  obtain ⟨m, g, w, P, p, i, s, t, bl, gn, B, F, T, e9, e10, e11, e12, e13, e15, e17, e18, e20, e22, e24, e26, e28, e30, e31, e32, e33, e34, e35, e38, e39, e40, e41, e42, e43, e44, e45, e46, e47, ho, hl, ⟨⟨m13, m14, m15, m16, m17, m18, m31, m36, m24, m25, m30, m33, m34, m35, m37, m38, m39, rfl⟩, hmr⟩, rfl⟩ := h
  have ho2 := ho
  obtain ⟨hm, hg, hw, hP, hpm, hi, hs, ht, hbl, hBF, hT⟩ := ho2
  by_cases hx : 0 ≤ x ∧ x ≤ 15
  · by_cases hy : 0 ≤ y ∧ y < nI m
    · obtain ⟨q9, hq9, rfl⟩ := i32_pos hm hy
      obtain ⟨T9, hT9, rfl⟩ := i32_in 15 (by decide) hx.1 hx.2
      obtain ⟨h9, h10, h11, h12, h13, h15, h17, h18, h20, h22, h24, h26, h28, h30, h31, h32, h33, h34⟩ := hl
      obtain ⟨mo, go, tk, mk, lo, wo, rfl⟩ := h13
      obtain ⟨f15, rfl⟩ := h15
      obtain ⟨f17, rfl⟩ := h17
      obtain ⟨h38, h39, h40, h41, h42, h43, h44, h45, h46, h47⟩ := hmr
      obtain ⟨f41, rfl⟩ := h41
      obtain ⟨f42, rfl⟩ := h42
      refine CaseL.ok (okh_chance rfl (c_F_chance ⟨by omega, hm.2⟩ hg hw hT9 hP hpm hi hBF hq9) (fun vV qV hV => by obtain ⟨rfl, z1, rfl⟩ := hV; exact ⟨rfl, _, _, rfl, rfl⟩)) (fun y0 qV fV hV hf => ?_)
      obtain ⟨hy, z1, rfl⟩ := hV
      cases hy
      have e := ox_inj (Option.some.inj hf)
      subst e
      rw [HP_set48]
      refine ⟨Wd.HP, _, c_Mo_chance ⟨by omega, hm.2⟩ hg hw hBF hP hpm hi hT9 hq9, fun vV qV hV => ?_⟩
      obtain ⟨rfl, z2, rfl⟩ := hV
      exact ⟨rfl, LH.mk2 ho rfl rfl rfl ⟨h9, h10, h11, h12, ⟨_, _, _, _, _, _, rfl⟩, ⟨_, rfl⟩, ⟨_, rfl⟩, h18, h20, h22, h24, h26, h28, h30, h31, h32, h33, h34⟩ ⟨ceMo.mk, ⟨h38, h39, h40, ⟨_, rfl⟩, ⟨_, rfl⟩, h43, h44, h45, h46, h47⟩⟩⟩
    · exact CaseL.ref (rf_chance_IOE rfl (c_F_chance_r2 hx.1 hx.2 hy)) Wd.HP (by decide) (c_Mo_chance_r2 hx.1 hx.2 ((ltm_1 hm).mp hy)) ⟨f, LH.mk2 ho rfl rfl rfl hl ⟨ceMo.mk, hmr⟩⟩
  · exact CaseL.ref (rf_chance_IAE rfl (c_F_chance_r1 hx)) Wd.HP (by decide) (c_Mo_chance_r1 hx) ⟨f, LH.mk2 ho rfl rfl rfl hl ⟨ceMo.mk, hmr⟩⟩

theorem cs_chanceOfGain {th : Int32} {f : Nat → Int64} {qq : aH} (h : LH th f qq) (x y : Int32) : CaseL M_La_chanceOfGain M_Mo_chanceOfGain [(0, 9, 12, 13)] [.ref 0, .int x, .int y, .ref 48] [.ref 35, .int x, .int y] qq := by
  obtain ⟨m, g, w, P, p, i, s, t, bl, gn, B, F, T, e9, e10, e11, e12, e13, e15, e17, e18, e20, e22, e24, e26, e28, e30, e31, e32, e33, e34, e35, e38, e39, e40, e41, e42, e43, e44, e45, e46, e47, ho, hl, ⟨⟨m13, m14, m15, m16, m17, m18, m31, m36, m24, m25, m30, m33, m34, m35, m37, m38, m39, rfl⟩, hmr⟩, rfl⟩ := h
  have ho2 := ho
  obtain ⟨hm, hg, hw, hP, hpm, hi, hs, ht, hbl, hBF, hT⟩ := ho2
  by_cases hx : 0 ≤ x ∧ x ≤ 15
  · obtain ⟨T9, hT9, rfl⟩ := i32_in 15 (by decide) hx.1 hx.2
    obtain ⟨h9, h10, h11, h12, h13, h15, h17, h18, h20, h22, h24, h26, h28, h30, h31, h32, h33, h34⟩ := hl
    obtain ⟨mo, go, tk, mk, lo, wo, rfl⟩ := h13
    obtain ⟨f15, rfl⟩ := h15
    obtain ⟨f17, rfl⟩ := h17
    obtain ⟨h38, h39, h40, h41, h42, h43, h44, h45, h46, h47⟩ := hmr
    obtain ⟨f41, rfl⟩ := h41
    obtain ⟨f42, rfl⟩ := h42
    refine CaseL.ok (okh_chanceOfGain rfl (c_F_chanceOfGain ⟨by omega, hm.2⟩ hg hw hT9 hP hpm hi hBF) (fun vV qV hV => by obtain ⟨rfl, z1, rfl⟩ := hV; exact ⟨rfl, _, _, rfl, rfl⟩)) (fun y0 qV fV hV hf => ?_)
    obtain ⟨hy, z1, rfl⟩ := hV
    cases hy
    have e := ox_inj (Option.some.inj hf)
    subst e
    rw [HP_set48]
    refine ⟨Wd.HP, _, c_Mo_chanceOfGain ⟨by omega, hm.2⟩ hg hw hBF hP hpm hi hT9, fun vV qV hV => ?_⟩
    obtain ⟨rfl, z2, rfl⟩ := hV
    exact ⟨rfl, LH.mk2 ho rfl rfl rfl ⟨h9, h10, h11, h12, ⟨_, _, _, _, _, _, rfl⟩, ⟨_, rfl⟩, ⟨_, rfl⟩, h18, h20, h22, h24, h26, h28, h30, h31, h32, h33, h34⟩ ⟨ceMo.mk, ⟨h38, h39, h40, ⟨_, rfl⟩, ⟨_, rfl⟩, h43, h44, h45, h46, h47⟩⟩⟩
  · exact CaseL.ref (rf_chanceOfGain_IAE rfl (c_F_chanceOfGain_r hx)) Wd.HP (by decide) (c_Mo_chanceOfGain_r hx) ⟨f, LH.mk2 ho rfl rfl rfl hl ⟨ceMo.mk, hmr⟩⟩

theorem cs_game {th : Int32} {f : Nat → Int64} {qq : aH} (h : LH th f qq) (x y u z : Int32) : CaseL M_La_game M_Mo_game [(0, 13, 16, 13)] [.ref 0, .int x, .int y, .int u, .int z, .ref 48] [.ref 35, .int x, .int y, .int u, .int z] qq := by
  obtain ⟨m, g, w, P, p, i, s, t, bl, gn, B, F, T, e9, e10, e11, e12, e13, e15, e17, e18, e20, e22, e24, e26, e28, e30, e31, e32, e33, e34, e35, e38, e39, e40, e41, e42, e43, e44, e45, e46, e47, ho, hl, ⟨⟨m13, m14, m15, m16, m17, m18, m31, m36, m24, m25, m30, m33, m34, m35, m37, m38, m39, rfl⟩, hmr⟩, rfl⟩ := h
  have ho2 := ho
  obtain ⟨hm, hg, hw, hP, hpm, hi, hs, ht, hbl, hBF, hT⟩ := ho2
  by_cases hx : 1 ≤ x ∧ x ≤ 15
  · by_cases hy : 1 ≤ y ∧ y ≤ 15
    · by_cases hu : 0 ≤ u ∧ u ≤ 15
      · by_cases hz : 0 ≤ z ∧ z ≤ 2
        · obtain ⟨a9, ha1, ha2, rfl⟩ := i32_in1 1 15 (by decide) (by decide) hx.1 hx.2
          obtain ⟨b9, hb1, hb2, rfl⟩ := i32_in1 1 15 (by decide) (by decide) hy.1 hy.2
          obtain ⟨T9, hT9, rfl⟩ := i32_in 15 (by decide) hu.1 hu.2
          rcases i32_or2 hz with rfl | rfl | rfl
          · obtain ⟨h9, h10, h11, h12, h13, h15, h17, h18, h20, h22, h24, h26, h28, h30, h31, h32, h33, h34⟩ := hl
            obtain ⟨mo, go, tk, mk, lo, wo, rfl⟩ := h13
            obtain ⟨f15, rfl⟩ := h15
            obtain ⟨f17, rfl⟩ := h17
            obtain ⟨h38, h39, h40, h41, h42, h43, h44, h45, h46, h47⟩ := hmr
            obtain ⟨f41, rfl⟩ := h41
            obtain ⟨f42, rfl⟩ := h42
            refine CaseL.ok (okh_game rfl (c_F_game_0 ⟨by omega, hm.2⟩ hg hw hT9 hP hpm hi hBF ha1 ha2 hb1 hb2) (fun vV qV hV => by obtain ⟨rfl, z1, rfl⟩ := hV; exact ⟨rfl, _, _, rfl, rfl⟩)) (fun y0 qV fV hV hf => ?_)
            obtain ⟨hy, z1, rfl⟩ := hV
            cases hy
            have e := ox_inj (Option.some.inj hf)
            subst e
            rw [HP_set48]
            refine ⟨Wd.HP, _, c_Mo_game_0 ⟨by omega, hm.2⟩ hg hw hBF hP hpm hi hT9 ha1 ha2 hb1 hb2, fun vV qV hV => ?_⟩
            obtain ⟨rfl, z2, rfl⟩ := hV
            exact ⟨rfl, LH.mk2 ho rfl rfl rfl ⟨h9, h10, h11, h12, ⟨_, _, _, _, _, _, rfl⟩, ⟨_, rfl⟩, ⟨_, rfl⟩, h18, h20, h22, h24, h26, h28, h30, h31, h32, h33, h34⟩ ⟨ceMo.mk, ⟨h38, h39, h40, ⟨_, rfl⟩, ⟨_, rfl⟩, h43, h44, h45, h46, h47⟩⟩⟩
          · obtain ⟨h9, h10, h11, h12, h13, h15, h17, h18, h20, h22, h24, h26, h28, h30, h31, h32, h33, h34⟩ := hl
            obtain ⟨mo, go, tk, mk, lo, wo, rfl⟩ := h13
            obtain ⟨f15, rfl⟩ := h15
            obtain ⟨f17, rfl⟩ := h17
            obtain ⟨h38, h39, h40, h41, h42, h43, h44, h45, h46, h47⟩ := hmr
            obtain ⟨f41, rfl⟩ := h41
            obtain ⟨f42, rfl⟩ := h42
            refine CaseL.ok (okh_game rfl (c_F_game_1 ⟨by omega, hm.2⟩ hg hw hT9 hP hpm hi hBF ha1 ha2 hb1 hb2) (fun vV qV hV => by obtain ⟨rfl, z1, rfl⟩ := hV; exact ⟨rfl, _, _, rfl, rfl⟩)) (fun y0 qV fV hV hf => ?_)
            obtain ⟨hy, z1, rfl⟩ := hV
            cases hy
            have e := ox_inj (Option.some.inj hf)
            subst e
            rw [HP_set48]
            refine ⟨Wd.HP, _, c_Mo_game_1 ⟨by omega, hm.2⟩ hg hw hBF hP hpm hi hT9 ha1 ha2 hb1 hb2, fun vV qV hV => ?_⟩
            obtain ⟨rfl, z2, rfl⟩ := hV
            exact ⟨rfl, LH.mk2 ho rfl rfl rfl ⟨h9, h10, h11, h12, ⟨_, _, _, _, _, _, rfl⟩, ⟨_, rfl⟩, ⟨_, rfl⟩, h18, h20, h22, h24, h26, h28, h30, h31, h32, h33, h34⟩ ⟨ceMo.mk, ⟨h38, h39, h40, ⟨_, rfl⟩, ⟨_, rfl⟩, h43, h44, h45, h46, h47⟩⟩⟩
          · obtain ⟨h9, h10, h11, h12, h13, h15, h17, h18, h20, h22, h24, h26, h28, h30, h31, h32, h33, h34⟩ := hl
            obtain ⟨mo, go, tk, mk, lo, wo, rfl⟩ := h13
            obtain ⟨f15, rfl⟩ := h15
            obtain ⟨f17, rfl⟩ := h17
            obtain ⟨h38, h39, h40, h41, h42, h43, h44, h45, h46, h47⟩ := hmr
            obtain ⟨f41, rfl⟩ := h41
            obtain ⟨f42, rfl⟩ := h42
            refine CaseL.ok (okh_game rfl (c_F_game_2 ⟨by omega, hm.2⟩ hg hw hT9 hP hpm hi hBF ha1 ha2 hb1 hb2) (fun vV qV hV => by obtain ⟨rfl, z1, rfl⟩ := hV; exact ⟨rfl, _, _, rfl, rfl⟩)) (fun y0 qV fV hV hf => ?_)
            obtain ⟨hy, z1, rfl⟩ := hV
            cases hy
            have e := ox_inj (Option.some.inj hf)
            subst e
            rw [HP_set48]
            refine ⟨Wd.HP, _, c_Mo_game_2 ⟨by omega, hm.2⟩ hg hw hBF hP hpm hi hT9 ha1 ha2 hb1 hb2, fun vV qV hV => ?_⟩
            obtain ⟨rfl, z2, rfl⟩ := hV
            exact ⟨rfl, LH.mk2 ho rfl rfl rfl ⟨h9, h10, h11, h12, ⟨_, _, _, _, _, _, rfl⟩, ⟨_, rfl⟩, ⟨_, rfl⟩, h18, h20, h22, h24, h26, h28, h30, h31, h32, h33, h34⟩ ⟨ceMo.mk, ⟨h38, h39, h40, ⟨_, rfl⟩, ⟨_, rfl⟩, h43, h44, h45, h46, h47⟩⟩⟩
        · exact CaseL.ref (rf_game_IAE rfl (c_F_game_r4 hx.1 hx.2 hy.1 hy.2 hu.1 hu.2 hz)) Wd.HP (by decide) (c_Mo_game_r4 hx.1 hx.2 hy.1 hy.2 hu.1 hu.2 hz) ⟨f, LH.mk2 ho rfl rfl rfl hl ⟨ceMo.mk, hmr⟩⟩
      · exact CaseL.ref (rf_game_IAE rfl (c_F_game_r3 hx.1 hx.2 hy.1 hy.2 hu)) Wd.HP (by decide) (c_Mo_game_r3 hx.1 hx.2 hy.1 hy.2 hu) ⟨f, LH.mk2 ho rfl rfl rfl hl ⟨ceMo.mk, hmr⟩⟩
    · exact CaseL.ref (rf_game_IAE rfl (c_F_game_r2 hx.1 hx.2 hy)) Wd.HP (by decide) (c_Mo_game_r2 hx.1 hx.2 hy) ⟨f, LH.mk2 ho rfl rfl rfl hl ⟨ceMo.mk, hmr⟩⟩
  · exact CaseL.ref (rf_game_IAE rfl (c_F_game_r1 hx)) Wd.HP (by decide) (c_Mo_game_r1 hx) ⟨f, LH.mk2 ho rfl rfl rfl hl ⟨ceMo.mk, hmr⟩⟩

theorem cs_cycle {th : Int32} {f : Nat → Int64} {qq : aH} (h : LH th f qq) (x : Int32) : CaseI M_La_cycle M_Mo_cycle [(0, 9, 12, 13)] [.ref 0, .int x, .ref 48] [.ref 35, .int x] qq := by
  obtain ⟨m, g, w, P, p, i, s, t, bl, gn, B, F, T, e9, e10, e11, e12, e13, e15, e17, e18, e20, e22, e24, e26, e28, e30, e31, e32, e33, e34, e35, e38, e39, e40, e41, e42, e43, e44, e45, e46, e47, ho, hl, ⟨⟨m13, m14, m15, m16, m17, m18, m31, m36, m24, m25, m30, m33, m34, m35, m37, m38, m39, rfl⟩, hmr⟩, rfl⟩ := h
  have ho2 := ho
  obtain ⟨hm, hg, hw, hP, hpm, hi, hs, ht, hbl, hBF, hT⟩ := ho2
  by_cases hx : 0 ≤ x ∧ x ≤ 2
  · have hkk := wkN_ok (m := m) (g := g) (w := w) (B := B) (F := F) (P := P) (x := (p, i, s, gn)) (by omega) hpm hi hs
    obtain ⟨t0, T9, hc, hT9⟩ := seq_ex (m := m) (g := g) (w := w) (B := B) (F := F) (gn := gn) hm hpm hi hs
    rcases i32_or2 hx with rfl | rfl | rfl
    · obtain ⟨h9, h10, h11, h12, h13, h15, h17, h18, h20, h22, h24, h26, h28, h30, h31, h32, h33, h34⟩ := hl
      obtain ⟨ca, cb, cc, rfl⟩ := h10
      obtain ⟨a0, a1, a2, a3, a4, rfl⟩ := h11
      obtain ⟨b0, b1, b2, b3, b4, rfl⟩ := h12
      obtain ⟨h38, h39, h40, h41, h42, h43, h44, h45, h46, h47⟩ := hmr
      obtain ⟨f39, rfl⟩ := h39
      obtain ⟨f40, rfl⟩ := h40
      refine CaseI.ok (okh_cycle rfl (c_F_cycle_0 (X := fun k => (wkN m g w B F P (p, i, s, gn) k).1) (Y := fun k => (wkN m g w B F P (p, i, s, gn) k).2.1) (S := fun k => (wkN m g w B F P (p, i, s, gn) k).2.2.1) (G := fun k => (wkN m g w B F P (p, i, s, gn) k).2.2.2) ⟨by omega, hm.2⟩ hg hw hP (plen_le P) (fun j => by have := hBF j; omega) (fun j => by have := hBF j; omega) ht (fun _ => rfl) (fun _ => rfl) (fun _ => rfl) (fun _ => rfl) (fun k => (hkk k).1) (fun k => (hkk k).2.1) (fun k => (hkk k).2.2) hc hT9) (fun vV qV hV => by obtain ⟨rfl, z0, z1, z2, z3, z4, z5, z6, z7, z8, z9, rfl⟩ := hV; exact ⟨rfl, _, _, rfl, rfl⟩)) (fun y0 qV fV hV hf => ?_)
      obtain ⟨hy, z0, z1, z2, z3, z4, z5, z6, z7, z8, z9, rfl⟩ := hV
      cases hy
      have e := ox_inj (Option.some.inj hf)
      subst e
      rw [HP_set48]
      refine ⟨Wd.HP, _, c_Mo_cycle_0 (X := fun k => (wkN m g w B F P (p, i, s, gn) k).1) (Y := fun k => (wkN m g w B F P (p, i, s, gn) k).2.1) (S := fun k => (wkN m g w B F P (p, i, s, gn) k).2.2.1) (G := fun k => (wkN m g w B F P (p, i, s, gn) k).2.2.2 - gn) ⟨by omega, hm.2⟩ hg hw hP hBF (fun _ => rfl) (fun _ => rfl) (fun _ => rfl) (fun k => i32_suba _ _ _) (fun k => (hkk k).1) (fun k => (hkk k).2.1) (fun k => (hkk k).2.2) hc hT9 (Int32.sub_self gn), fun vV qV hV => ?_⟩
      obtain ⟨rfl, me2, ga2, rfl⟩ := hV
      exact ⟨rfl, LH.mk2 ho rfl rfl rfl ⟨h9, ⟨_, _, _, rfl⟩, ⟨_, _, _, _, _, rfl⟩, ⟨_, _, _, _, _, rfl⟩, h13, h15, h17, h18, h20, h22, h24, h26, h28, h30, h31, h32, h33, h34⟩ ⟨ceMo.mk, ⟨h38, ⟨_, rfl⟩, ⟨_, rfl⟩, h41, h42, h43, h44, h45, h46, h47⟩⟩⟩
    · obtain ⟨h9, h10, h11, h12, h13, h15, h17, h18, h20, h22, h24, h26, h28, h30, h31, h32, h33, h34⟩ := hl
      obtain ⟨ca, cb, cc, rfl⟩ := h10
      obtain ⟨a0, a1, a2, a3, a4, rfl⟩ := h11
      obtain ⟨b0, b1, b2, b3, b4, rfl⟩ := h12
      obtain ⟨h38, h39, h40, h41, h42, h43, h44, h45, h46, h47⟩ := hmr
      obtain ⟨f39, rfl⟩ := h39
      obtain ⟨f40, rfl⟩ := h40
      refine CaseI.ok (okh_cycle rfl (c_F_cycle_1 (X := fun k => (wkN m g w B F P (p, i, s, gn) k).1) (Y := fun k => (wkN m g w B F P (p, i, s, gn) k).2.1) (S := fun k => (wkN m g w B F P (p, i, s, gn) k).2.2.1) (G := fun k => (wkN m g w B F P (p, i, s, gn) k).2.2.2) ⟨by omega, hm.2⟩ hg hw hP (plen_le P) (fun j => by have := hBF j; omega) (fun j => by have := hBF j; omega) ht (fun _ => rfl) (fun _ => rfl) (fun _ => rfl) (fun _ => rfl) (fun k => (hkk k).1) (fun k => (hkk k).2.1) (fun k => (hkk k).2.2) hc hT9) (fun vV qV hV => by obtain ⟨rfl, z0, z1, z2, z3, z4, z5, z6, z7, z8, z9, rfl⟩ := hV; exact ⟨rfl, _, _, rfl, rfl⟩)) (fun y0 qV fV hV hf => ?_)
      obtain ⟨hy, z0, z1, z2, z3, z4, z5, z6, z7, z8, z9, rfl⟩ := hV
      cases hy
      have e := ox_inj (Option.some.inj hf)
      subst e
      rw [HP_set48]
      refine ⟨Wd.HP, _, c_Mo_cycle_1 (X := fun k => (wkN m g w B F P (p, i, s, gn) k).1) (Y := fun k => (wkN m g w B F P (p, i, s, gn) k).2.1) (S := fun k => (wkN m g w B F P (p, i, s, gn) k).2.2.1) (G := fun k => (wkN m g w B F P (p, i, s, gn) k).2.2.2 - gn) ⟨by omega, hm.2⟩ hg hw hP hBF (fun _ => rfl) (fun _ => rfl) (fun _ => rfl) (fun k => i32_suba _ _ _) (fun k => (hkk k).1) (fun k => (hkk k).2.1) (fun k => (hkk k).2.2) hc hT9 (Int32.sub_self gn), fun vV qV hV => ?_⟩
      obtain ⟨rfl, me2, ga2, rfl⟩ := hV
      exact ⟨rfl, LH.mk2 ho rfl rfl rfl ⟨h9, ⟨_, _, _, rfl⟩, ⟨_, _, _, _, _, rfl⟩, ⟨_, _, _, _, _, rfl⟩, h13, h15, h17, h18, h20, h22, h24, h26, h28, h30, h31, h32, h33, h34⟩ ⟨ceMo.mk, ⟨h38, ⟨_, rfl⟩, ⟨_, rfl⟩, h41, h42, h43, h44, h45, h46, h47⟩⟩⟩
    · obtain ⟨h9, h10, h11, h12, h13, h15, h17, h18, h20, h22, h24, h26, h28, h30, h31, h32, h33, h34⟩ := hl
      obtain ⟨ca, cb, cc, rfl⟩ := h10
      obtain ⟨a0, a1, a2, a3, a4, rfl⟩ := h11
      obtain ⟨b0, b1, b2, b3, b4, rfl⟩ := h12
      obtain ⟨h38, h39, h40, h41, h42, h43, h44, h45, h46, h47⟩ := hmr
      obtain ⟨f39, rfl⟩ := h39
      obtain ⟨f40, rfl⟩ := h40
      refine CaseI.ok (okh_cycle rfl (c_F_cycle_2 (X := fun k => (wkN m g w B F P (p, i, s, gn) k).1) (Y := fun k => (wkN m g w B F P (p, i, s, gn) k).2.1) (S := fun k => (wkN m g w B F P (p, i, s, gn) k).2.2.1) (G := fun k => (wkN m g w B F P (p, i, s, gn) k).2.2.2) ⟨by omega, hm.2⟩ hg hw hP (plen_le P) (fun j => by have := hBF j; omega) (fun j => by have := hBF j; omega) ht (fun _ => rfl) (fun _ => rfl) (fun _ => rfl) (fun _ => rfl) (fun k => (hkk k).1) (fun k => (hkk k).2.1) (fun k => (hkk k).2.2) hc hT9) (fun vV qV hV => by obtain ⟨rfl, z0, z1, z2, z3, z4, z5, z6, z7, z8, z9, rfl⟩ := hV; exact ⟨rfl, _, _, rfl, rfl⟩)) (fun y0 qV fV hV hf => ?_)
      obtain ⟨hy, z0, z1, z2, z3, z4, z5, z6, z7, z8, z9, rfl⟩ := hV
      cases hy
      have e := ox_inj (Option.some.inj hf)
      subst e
      rw [HP_set48]
      refine ⟨Wd.HP, _, c_Mo_cycle_2 (X := fun k => (wkN m g w B F P (p, i, s, gn) k).1) (Y := fun k => (wkN m g w B F P (p, i, s, gn) k).2.1) (S := fun k => (wkN m g w B F P (p, i, s, gn) k).2.2.1) (G := fun k => (wkN m g w B F P (p, i, s, gn) k).2.2.2 - gn) ⟨by omega, hm.2⟩ hg hw hP hBF (fun _ => rfl) (fun _ => rfl) (fun _ => rfl) (fun k => i32_suba _ _ _) (fun k => (hkk k).1) (fun k => (hkk k).2.1) (fun k => (hkk k).2.2) hc hT9 (Int32.sub_self gn), fun vV qV hV => ?_⟩
      obtain ⟨rfl, me2, ga2, rfl⟩ := hV
      exact ⟨congrArg (fun z => some (Value.int z)) (i32_sub3 _ _ _), LH.mk2 ho rfl rfl rfl ⟨h9, ⟨_, _, _, rfl⟩, ⟨_, _, _, _, _, rfl⟩, ⟨_, _, _, _, _, rfl⟩, h13, h15, h17, h18, h20, h22, h24, h26, h28, h30, h31, h32, h33, h34⟩ ⟨ceMo.mk, ⟨h38, ⟨_, rfl⟩, ⟨_, rfl⟩, h41, h42, h43, h44, h45, h46, h47⟩⟩⟩
  · exact CaseI.ref (rf_cycle_IAE rfl (c_F_cycle_r hx)) Wd.HP (by decide) (c_Mo_cycle_r hx) ⟨f, LH.mk2 ho rfl rfl rfl hl ⟨ceMo.mk, hmr⟩⟩

theorem cs_count {th : Int32} {f : Nat → Int64} {qq : aH} (h : LH th f qq) (x : Int32) : CaseI M_La_count M_Mo_count [(0, 9, 12, 13)] [.ref 0, .int x, .ref 48] [.ref 35, .int x] qq := by
  obtain ⟨m, g, w, P, p, i, s, t, bl, gn, B, F, T, e9, e10, e11, e12, e13, e15, e17, e18, e20, e22, e24, e26, e28, e30, e31, e32, e33, e34, e35, e38, e39, e40, e41, e42, e43, e44, e45, e46, e47, ho, hl, ⟨⟨m13, m14, m15, m16, m17, m18, m31, m36, m24, m25, m30, m33, m34, m35, m37, m38, m39, rfl⟩, hmr⟩, rfl⟩ := h
  have ho2 := ho
  obtain ⟨hm, hg, hw, hP, hpm, hi, hs, ht, hbl, hBF, hT⟩ := ho2
  by_cases hx : 0 ≤ x ∧ x ≤ 9
  · rcases i32_or9 hx with rfl | rfl | rfl | rfl | rfl | rfl | rfl | rfl | rfl | rfl
    · refine CaseI.ok (okh_count rfl (c_F_count_0) (fun vV qV hV => by obtain ⟨rfl, rfl⟩ := hV; exact ⟨rfl, _, _, rfl, rfl⟩)) (fun y0 qV fV hV hf => ?_)
      obtain ⟨hy, rfl⟩ := hV
      cases hy
      have e := ox_inj (Option.some.inj hf)
      subst e
      rw [HP_set48]
      refine ⟨Wd.HP, _, c_Mo_count_0, fun vV qV hV => ?_⟩
      obtain ⟨rfl, rfl⟩ := hV
      exact ⟨rfl, LH.mk2 ho rfl rfl rfl hl ⟨ceMo.mk, hmr⟩⟩
    · refine CaseI.ok (okh_count rfl (c_F_count_1) (fun vV qV hV => by obtain ⟨rfl, rfl⟩ := hV; exact ⟨rfl, _, _, rfl, rfl⟩)) (fun y0 qV fV hV hf => ?_)
      obtain ⟨hy, rfl⟩ := hV
      cases hy
      have e := ox_inj (Option.some.inj hf)
      subst e
      rw [HP_set48]
      refine ⟨Wd.HP, _, c_Mo_count_1, fun vV qV hV => ?_⟩
      obtain ⟨rfl, rfl⟩ := hV
      exact ⟨rfl, LH.mk2 ho rfl rfl rfl hl ⟨ceMo.mk, hmr⟩⟩
    · refine CaseI.ok (okh_count rfl (c_F_count_2) (fun vV qV hV => by obtain ⟨rfl, rfl⟩ := hV; exact ⟨rfl, _, _, rfl, rfl⟩)) (fun y0 qV fV hV hf => ?_)
      obtain ⟨hy, rfl⟩ := hV
      cases hy
      have e := ox_inj (Option.some.inj hf)
      subst e
      rw [HP_set48]
      refine ⟨Wd.HP, _, c_Mo_count_2, fun vV qV hV => ?_⟩
      obtain ⟨rfl, rfl⟩ := hV
      exact ⟨rfl, LH.mk2 ho rfl rfl rfl hl ⟨ceMo.mk, hmr⟩⟩
    · refine CaseI.ok (okh_count rfl (c_F_count_3) (fun vV qV hV => by obtain ⟨rfl, rfl⟩ := hV; exact ⟨rfl, _, _, rfl, rfl⟩)) (fun y0 qV fV hV hf => ?_)
      obtain ⟨hy, rfl⟩ := hV
      cases hy
      have e := ox_inj (Option.some.inj hf)
      subst e
      rw [HP_set48]
      refine ⟨Wd.HP, _, c_Mo_count_3, fun vV qV hV => ?_⟩
      obtain ⟨rfl, rfl⟩ := hV
      exact ⟨rfl, LH.mk2 ho rfl rfl rfl hl ⟨ceMo.mk, hmr⟩⟩
    · refine CaseI.ok (okh_count rfl (c_F_count_4) (fun vV qV hV => by obtain ⟨rfl, rfl⟩ := hV; exact ⟨rfl, _, _, rfl, rfl⟩)) (fun y0 qV fV hV hf => ?_)
      obtain ⟨hy, rfl⟩ := hV
      cases hy
      have e := ox_inj (Option.some.inj hf)
      subst e
      rw [HP_set48]
      refine ⟨Wd.HP, _, c_Mo_count_4, fun vV qV hV => ?_⟩
      obtain ⟨rfl, rfl⟩ := hV
      exact ⟨rfl, LH.mk2 ho rfl rfl rfl hl ⟨ceMo.mk, hmr⟩⟩
    · refine CaseI.ok (okh_count rfl (c_F_count_5) (fun vV qV hV => by obtain ⟨rfl, rfl⟩ := hV; exact ⟨rfl, _, _, rfl, rfl⟩)) (fun y0 qV fV hV hf => ?_)
      obtain ⟨hy, rfl⟩ := hV
      cases hy
      have e := ox_inj (Option.some.inj hf)
      subst e
      rw [HP_set48]
      refine ⟨Wd.HP, _, c_Mo_count_5, fun vV qV hV => ?_⟩
      obtain ⟨rfl, rfl⟩ := hV
      exact ⟨rfl, LH.mk2 ho rfl rfl rfl hl ⟨ceMo.mk, hmr⟩⟩
    · refine CaseI.ok (okh_count rfl (c_F_count_6) (fun vV qV hV => by obtain ⟨rfl, rfl⟩ := hV; exact ⟨rfl, _, _, rfl, rfl⟩)) (fun y0 qV fV hV hf => ?_)
      obtain ⟨hy, rfl⟩ := hV
      cases hy
      have e := ox_inj (Option.some.inj hf)
      subst e
      rw [HP_set48]
      refine ⟨Wd.HP, _, c_Mo_count_6, fun vV qV hV => ?_⟩
      obtain ⟨rfl, rfl⟩ := hV
      exact ⟨rfl, LH.mk2 ho rfl rfl rfl hl ⟨ceMo.mk, hmr⟩⟩
    · refine CaseI.ok (okh_count rfl (c_F_count_7) (fun vV qV hV => by obtain ⟨rfl, rfl⟩ := hV; exact ⟨rfl, _, _, rfl, rfl⟩)) (fun y0 qV fV hV hf => ?_)
      obtain ⟨hy, rfl⟩ := hV
      cases hy
      have e := ox_inj (Option.some.inj hf)
      subst e
      rw [HP_set48]
      refine ⟨Wd.HP, _, c_Mo_count_7, fun vV qV hV => ?_⟩
      obtain ⟨rfl, rfl⟩ := hV
      exact ⟨rfl, LH.mk2 ho rfl rfl rfl hl ⟨ceMo.mk, hmr⟩⟩
    · refine CaseI.ok (okh_count rfl (c_F_count_8) (fun vV qV hV => by obtain ⟨rfl, rfl⟩ := hV; exact ⟨rfl, _, _, rfl, rfl⟩)) (fun y0 qV fV hV hf => ?_)
      obtain ⟨hy, rfl⟩ := hV
      cases hy
      have e := ox_inj (Option.some.inj hf)
      subst e
      rw [HP_set48]
      refine ⟨Wd.HP, _, c_Mo_count_8, fun vV qV hV => ?_⟩
      obtain ⟨rfl, rfl⟩ := hV
      exact ⟨rfl, LH.mk2 ho rfl rfl rfl hl ⟨ceMo.mk, hmr⟩⟩
    · refine CaseI.ok (okh_count rfl (c_F_count_9 (isPr_bd hP).2) (fun vV qV hV => by obtain ⟨rfl, rfl⟩ := hV; exact ⟨rfl, _, _, rfl, rfl⟩)) (fun y0 qV fV hV hf => ?_)
      obtain ⟨hy, rfl⟩ := hV
      cases hy
      have e := ox_inj (Option.some.inj hf)
      subst e
      rw [HP_set48]
      refine ⟨Wd.HP, _, c_Mo_count_9 hP, fun vV qV hV => ?_⟩
      obtain ⟨rfl, rfl⟩ := hV
      exact ⟨rfl, LH.mk2 ho rfl rfl rfl hl ⟨ceMo.mk, hmr⟩⟩
  · exact CaseI.ref (rf_count_IAE rfl (c_F_count_r hx)) Wd.HP (by decide) (c_Mo_count_r hx) ⟨f, LH.mk2 ho rfl rfl rfl hl ⟨ceMo.mk, hmr⟩⟩

theorem cs_table {th : Int32} {f : Nat → Int64} {qq : aH} (h : LH th f qq) (x y : Int32) : CaseI M_La_table M_Mo_table [(0, 10, 13, 19)] [.ref 0, .int x, .int y, .ref 48] [.ref 35, .int x, .int y] qq := by
  obtain ⟨m, g, w, P, p, i, s, t, bl, gn, B, F, T, e9, e10, e11, e12, e13, e15, e17, e18, e20, e22, e24, e26, e28, e30, e31, e32, e33, e34, e35, e38, e39, e40, e41, e42, e43, e44, e45, e46, e47, ho, hl, ⟨⟨m13, m14, m15, m16, m17, m18, m31, m36, m24, m25, m30, m33, m34, m35, m37, m38, m39, rfl⟩, hmr⟩, rfl⟩ := h
  have ho2 := ho
  obtain ⟨hm, hg, hw, hP, hpm, hi, hs, ht, hbl, hBF, hT⟩ := ho2
  by_cases hx : 0 ≤ x ∧ x < 3
  · by_cases hy : 0 ≤ y ∧ y < nI m
    · obtain ⟨l9, hl9, rfl⟩ := i32_lever hx
      obtain ⟨q9, hq9, rfl⟩ := i32_pos hm hy
      refine CaseI.ok (okh_table rfl (c_F_table hl9 hq9 hm.2) (fun vV qV hV => by obtain ⟨rfl, rfl⟩ := hV; exact ⟨rfl, _, _, rfl, rfl⟩)) (fun y0 qV fV hV hf => ?_)
      obtain ⟨hy, rfl⟩ := hV
      cases hy
      have e := ox_inj (Option.some.inj hf)
      subst e
      rw [HP_set48]
      refine ⟨Wd.HP, _, c_Mo_table hl9 hq9 hm.2, fun vV qV hV => ?_⟩
      obtain ⟨rfl, rfl⟩ := hV
      exact ⟨rfl, LH.mk2 ho rfl rfl rfl hl ⟨ceMo.mk, hmr⟩⟩
    · have hx2 := (Decidable.not_not.mp (mt lt3_2.mpr (fun h => h hx)) : 0 ≤ x ∧ x ≤ 2)
      exact CaseI.ref (rf_table_IOE rfl (c_F_table_r2 hx.1 hx.2 hy)) Wd.HP (by decide) (c_Mo_table_p hx2.1 hx2.2 ((ltm_1 hm).mp hy)) ⟨f, LH.mk2 ho rfl rfl rfl hl ⟨ceMo.mk, hmr⟩⟩
  · exact CaseI.ref (rf_table_IOE rfl (c_F_table_r1 hx)) Wd.HP (by decide) (c_Mo_table_l (lt3_2.mp hx)) ⟨f, LH.mk2 ho rfl rfl rfl hl ⟨ceMo.mk, hmr⟩⟩

theorem cs_clearBuffer {th : Int32} {f : Nat → Int64} {qq : aH} (h : LH th f qq) : CaseDI M_F_clearBuffer M_Mo_clearBuffer qq := by
  obtain ⟨m, g, w, P, p, i, s, t, bl, gn, B, F, T, e9, e10, e11, e12, e13, e15, e17, e18, e20, e22, e24, e26, e28, e30, e31, e32, e33, e34, e35, e38, e39, e40, e41, e42, e43, e44, e45, e46, e47, ho, hl, ⟨⟨m13, m14, m15, m16, m17, m18, m31, m36, m24, m25, m30, m33, m34, m35, m37, m38, m39, rfl⟩, hmr⟩, rfl⟩ := h
  have ho2 := ho
  obtain ⟨hm, hg, hw, hP, hpm, hi, hs, ht, hbl, hBF, hT⟩ := ho2
  refine ⟨_, c_F_clearBuffer, fun vV qV hV => ?_⟩
  obtain ⟨rfl, rfl⟩ := hV
  refine ⟨Wd.HP, _, rfl, _, c_Mo_clearBuffer, fun vV qV hV => ?_⟩
  obtain ⟨rfl, rfl⟩ := hV
  exact ⟨rfl, _, _, LH.mk2 (bl := 0) ⟨hm, hg, hw, hP, hpm, hi, hs, ht, by decide, hBF, hT⟩ rfl rfl rfl hl ⟨ceMo.mk, hmr⟩⟩

theorem cs_paradox {th : Int32} {f : Nat → Int64} {qq : aH} (h : LH th f qq) : CaseDI M_F_paradox M_Mo_paradox qq := by
  obtain ⟨m, g, w, P, p, i, s, t, bl, gn, B, F, T, e9, e10, e11, e12, e13, e15, e17, e18, e20, e22, e24, e26, e28, e30, e31, e32, e33, e34, e35, e38, e39, e40, e41, e42, e43, e44, e45, e46, e47, ho, hl, ⟨⟨m13, m14, m15, m16, m17, m18, m31, m36, m24, m25, m30, m33, m34, m35, m37, m38, m39, rfl⟩, hmr⟩, rfl⟩ := h
  have ho2 := ho
  obtain ⟨hm, hg, hw, hP, hpm, hi, hs, ht, hbl, hBF, hT⟩ := ho2
  obtain ⟨h9, h10, h11, h12, h13, h15, h17, h18, h20, h22, h24, h26, h28, h30, h31, h32, h33, h34⟩ := hl
  obtain ⟨mm, tt, c18, sl, ws, rfl⟩ := h18
  obtain ⟨f20, rfl⟩ := h20
  obtain ⟨f22, rfl⟩ := h22
  obtain ⟨f24, rfl⟩ := h24
  obtain ⟨f26, rfl⟩ := h26
  obtain ⟨f28, rfl⟩ := h28
  obtain ⟨f30, rfl⟩ := h30
  obtain ⟨p1, p2, rfl⟩ := h31
  obtain ⟨fo, rfl⟩ := h33
  obtain ⟨x34, y34, rfl⟩ := h34
  obtain ⟨h38, h39, h40, h41, h42, h43, h44, h45, h46, h47⟩ := hmr
  obtain ⟨f43, rfl⟩ := h43
  obtain ⟨f44, rfl⟩ := h44
  obtain ⟨f45, rfl⟩ := h45
  obtain ⟨f46, rfl⟩ := h46
  obtain ⟨f47, rfl⟩ := h47
  refine ⟨_, c_F_paradox ⟨by omega, hm.2⟩ hg hw hBF (avQ_ok hm hBF), fun vV qV hV => ?_⟩
  obtain ⟨rfl, z1, z2, z3, z4, z5, z6, z7, z8, z9, z10, z11, z12, z13, z14, z15, z16, rfl⟩ := hV
  refine ⟨Wd.HP, _, rfl, _, c_Mo_paradox hm hg hw hBF (ref_ok hm hBF), fun vV qV hV => ?_⟩
  obtain ⟨rfl, z1, z2, z3, z4, z5, z6, z7, z8, z9, z10, rfl⟩ := hV
  exact ⟨rfl, _, _, LH.mk2 ho rfl rfl rfl ⟨h9, h10, h11, h12, h13, h15, h17, ⟨_, _, _, _, _, rfl⟩, ⟨_, rfl⟩, ⟨_, rfl⟩, ⟨_, rfl⟩, ⟨_, rfl⟩, ⟨_, rfl⟩, ⟨_, rfl⟩, ⟨_, _, rfl⟩, h32, ⟨_, rfl⟩, ⟨_, _, rfl⟩⟩ ⟨ceMo.mk, ⟨h38, h39, h40, h41, h42, ⟨_, rfl⟩, ⟨_, rfl⟩, ⟨_, rfl⟩, ⟨_, rfl⟩, ⟨_, rfl⟩⟩⟩⟩
