/-! THE CALLS, on both sides: the wheel -/

theorem cs_begin {th : Int32} {f : Nat → Int64} {qq : aH} (h : LH th f qq) (x : Int32) : CaseI M_La_begin M_Mo_begin [(0, 9, 12, 13)] [.ref 0, .int x, .ref 48] [.ref 35, .int x] qq := by
  obtain ⟨m, g, w, P, p, i, s, t, bl, gn, B, F, T, e9, e10, e11, e12, e13, e15, e17, e18, e20, e22, e24, e26, e28, e30, e31, e32, e33, e34, e35, e38, e39, e40, e41, e42, e43, e44, e45, e46, e47, ho, hl, ⟨⟨m13, m14, m15, m16, m17, m18, m31, m36, m24, m25, m30, m33, m34, m35, m37, m38, m39, rfl⟩, hmr⟩, rfl⟩ := h
  have ho2 := ho
  obtain ⟨hm, hg, hw, hP, hpm, hi, hs, ht, hbl, hBF, hT⟩ := ho2
  by_cases hx : 2 ≤ x ∧ x ≤ 4
  · obtain ⟨q, hq2, hq4, rfl⟩ := i32_in1 2 4 (by decide) (by decide) hx.1 hx.2
    refine CaseI.ok (okh_begin rfl (c_F_begin hx.1 hx.2) (fun v9 q9 h9 => by obtain ⟨rfl, rfl⟩ := h9; exact ⟨rfl, _, _, rfl, rfl⟩)) (fun y0 q9 f9 h9 hf => ?_)
    obtain ⟨hy, rfl⟩ := h9
    cases hy
    have e := ox_inj (Option.some.inj hf)
    subst e
    rw [HP_set48]
    refine ⟨Wd.HP, _, c_Mo_begin hx.1 hx.2, fun v9 q9 h9 => ?_⟩
    obtain ⟨rfl, rfl⟩ := h9
    exact ⟨rfl, LH.mk2 (m := q) (g := 7) (w := 0) (P := 1) (p := 0) (i := 0) (s := 0) (t := 0) (B := fun _ => 0) (F := fun _ => 0) ⟨⟨hq2, hq4⟩, by decide, by decide, (by decide : isPr 1 = true), by omega, (by decide : 0 < plen 1), by decide, by decide, hbl, fun _ => (by decide : 0 + 0 ≤ 10), hT⟩ rfl rfl tb_0 hl ⟨ceMo.mk, hmr⟩⟩
  · exact CaseI.ref (rf_begin_IAE rfl (c_F_begin_r hx)) Wd.HP (by decide) (c_Mo_begin_r hx) ⟨f, LH.mk2 ho rfl rfl rfl hl ⟨ceMo.mk, hmr⟩⟩

theorem rM_setTable_l {e0 e1 e2 e3 e4 e5 e6 e7 e8 e9 e10 e11 e12 e13 e14 e15 e16 e17 e18 e19 e20 e21 e22 e23 e24 e25 e26 e27 e28 e29 e30 e31 e32 e33 e34 e36 e37 e38 e39 e40 e41 e42 e43 e44 e45 e46 e47 e48 : va_E} {m13 m14 m15 m16 m17 m18 m31 m36 th gn : Int32} {m24 m25 m30 m33 m34 m35 m37 m38 m39 : Int64} {m g w p P i s t bl : Nat} {x y u v : Int32} (h : ¬ (0 ≤ x ∧ x ≤ 2)) : JE M_Mo_setTable [.ref 35, .int x, .int y, .int u, .int v] (HP e0 e1 e2 e3 e4 e5 e6 e7 e8 e9 e10 e11 e12 e13 e14 e15 e16 e17 e18 e19 e20 e21 e22 e23 e24 e25 e26 e27 e28 e29 e30 e31 e32 e33 e34 (MOb th (nI m) (nI g) (nI w) (nI p) (nI P) (nI i) (nI s) gn (nI t) (nI bl) m13 m14 m15 m16 m17 m18 m24 m25 m30 m31 m33 m34 m35 m36 m37 m38 m39) e36 e37 e38 e39 e40 e41 e42 e43 e44 e45 e46 e47 e48) (some (.int 0)) (HP e0 e1 e2 e3 e4 e5 e6 e7 e8 e9 e10 e11 e12 e13 e14 e15 e16 e17 e18 e19 e20 e21 e22 e23 e24 e25 e26 e27 e28 e29 e30 e31 e32 e33 e34 (MOb 1 (nI m) (nI g) (nI w) (nI p) (nI P) (nI i) (nI s) gn (nI t) (nI bl) m13 m14 m15 m16 m17 m18 m24 m25 m30 m31 m33 m34 m35 m36 m37 m38 m39) e36 e37 e38 e39 e40 e41 e42 e43 e44 e45 e46 e47 e48) := by
  by_cases ha : 0 ≤ u ∧ u ≤ 10
  · by_cases hv : 0 ≤ v ∧ v ≤ 10
    · by_cases hs9 : 10 < u + v
      · exact c_Mo_setTable_l2 ha.1 ha.2 hv.1 hv.2 hs9 h
      · exact c_Mo_setTable_l3 ha.1 ha.2 hv.1 hv.2 hs9 h
    · exact c_Mo_setTable_l1 ha.1 ha.2 hv h
  · exact c_Mo_setTable_l0 ha h

theorem rM_setTable_p {e0 e1 e2 e3 e4 e5 e6 e7 e8 e9 e10 e11 e12 e13 e14 e15 e16 e17 e18 e19 e20 e21 e22 e23 e24 e25 e26 e27 e28 e29 e30 e31 e32 e33 e34 e36 e37 e38 e39 e40 e41 e42 e43 e44 e45 e46 e47 e48 : va_E} {m13 m14 m15 m16 m17 m18 m31 m36 th gn : Int32} {m24 m25 m30 m33 m34 m35 m37 m38 m39 : Int64} {m g w p P i s t bl : Nat} {x y u v : Int32} (h1 : 0 ≤ x) (h2 : x ≤ 2) (h : ¬ (0 ≤ y ∧ y ≤ nI m - 1)) : JE M_Mo_setTable [.ref 35, .int x, .int y, .int u, .int v] (HP e0 e1 e2 e3 e4 e5 e6 e7 e8 e9 e10 e11 e12 e13 e14 e15 e16 e17 e18 e19 e20 e21 e22 e23 e24 e25 e26 e27 e28 e29 e30 e31 e32 e33 e34 (MOb th (nI m) (nI g) (nI w) (nI p) (nI P) (nI i) (nI s) gn (nI t) (nI bl) m13 m14 m15 m16 m17 m18 m24 m25 m30 m31 m33 m34 m35 m36 m37 m38 m39) e36 e37 e38 e39 e40 e41 e42 e43 e44 e45 e46 e47 e48) (some (.int 0)) (HP e0 e1 e2 e3 e4 e5 e6 e7 e8 e9 e10 e11 e12 e13 e14 e15 e16 e17 e18 e19 e20 e21 e22 e23 e24 e25 e26 e27 e28 e29 e30 e31 e32 e33 e34 (MOb 1 (nI m) (nI g) (nI w) (nI p) (nI P) (nI i) (nI s) gn (nI t) (nI bl) m13 m14 m15 m16 m17 m18 m24 m25 m30 m31 m33 m34 m35 m36 m37 m38 m39) e36 e37 e38 e39 e40 e41 e42 e43 e44 e45 e46 e47 e48) := by
  by_cases ha : 0 ≤ u ∧ u ≤ 10
  · by_cases hv : 0 ≤ v ∧ v ≤ 10
    · by_cases hs9 : 10 < u + v
      · exact c_Mo_setTable_p2 ha.1 ha.2 hv.1 hv.2 hs9 h1 h2 h
      · exact c_Mo_setTable_p3 ha.1 ha.2 hv.1 hv.2 hs9 h1 h2 h
    · exact c_Mo_setTable_p1 ha.1 ha.2 hv h1 h2 h
  · exact c_Mo_setTable_p0 ha h1 h2 h

theorem rM_setTable_b {e0 e1 e2 e3 e4 e5 e6 e7 e8 e9 e10 e11 e12 e13 e14 e15 e16 e17 e18 e19 e20 e21 e22 e23 e24 e25 e26 e27 e28 e29 e30 e31 e32 e33 e34 e36 e37 e38 e39 e40 e41 e42 e43 e44 e45 e46 e47 e48 : va_E} {m13 m14 m15 m16 m17 m18 m31 m36 th gn : Int32} {m24 m25 m30 m33 m34 m35 m37 m38 m39 : Int64} {m g w p P i s t bl : Nat} {x y u v : Int32} (h1 : 0 ≤ x) (h2 : x ≤ 2) (h3 : 0 ≤ y) (h4 : y ≤ nI m - 1) (hb : ¬ ((0 ≤ u ∧ u ≤ 10) ∧ (0 ≤ v ∧ v ≤ 10) ∧ u + v ≤ 10)) : JE M_Mo_setTable [.ref 35, .int x, .int y, .int u, .int v] (HP e0 e1 e2 e3 e4 e5 e6 e7 e8 e9 e10 e11 e12 e13 e14 e15 e16 e17 e18 e19 e20 e21 e22 e23 e24 e25 e26 e27 e28 e29 e30 e31 e32 e33 e34 (MOb th (nI m) (nI g) (nI w) (nI p) (nI P) (nI i) (nI s) gn (nI t) (nI bl) m13 m14 m15 m16 m17 m18 m24 m25 m30 m31 m33 m34 m35 m36 m37 m38 m39) e36 e37 e38 e39 e40 e41 e42 e43 e44 e45 e46 e47 e48) (some (.int 0)) (HP e0 e1 e2 e3 e4 e5 e6 e7 e8 e9 e10 e11 e12 e13 e14 e15 e16 e17 e18 e19 e20 e21 e22 e23 e24 e25 e26 e27 e28 e29 e30 e31 e32 e33 e34 (MOb 2 (nI m) (nI g) (nI w) (nI p) (nI P) (nI i) (nI s) gn (nI t) (nI bl) m13 m14 m15 m16 m17 m18 m24 m25 m30 m31 m33 m34 m35 m36 m37 m38 m39) e36 e37 e38 e39 e40 e41 e42 e43 e44 e45 e46 e47 e48) := by
  by_cases ha : 0 ≤ u ∧ u ≤ 10
  · by_cases hv : 0 ≤ v ∧ v ≤ 10
    · by_cases hs9 : 10 < u + v
      · exact c_Mo_setTable_b2 ha.1 ha.2 hv.1 hv.2 hs9 h1 h2 h3 h4
      · exact absurd ⟨ha, hv, Int32.not_lt.mp hs9⟩ hb
    · exact c_Mo_setTable_b1 ha.1 ha.2 hv h1 h2 h3 h4
  · exact c_Mo_setTable_b0 ha h1 h2 h3 h4

theorem cs_setTable {th : Int32} {f : Nat → Int64} {qq : aH} (h : LH th f qq) (x y u z : Int32) : CaseI M_La_setTable M_Mo_setTable [(0, 14, 17, 19), (0, 14, 21, 13)] [.ref 0, .int x, .int y, .int u, .int z, .ref 48] [.ref 35, .int x, .int y, .int u, .int z] qq := by
  obtain ⟨m, g, w, P, p, i, s, t, bl, gn, B, F, T, e9, e10, e11, e12, e13, e15, e17, e18, e20, e22, e24, e26, e28, e30, e31, e32, e33, e34, e35, e38, e39, e40, e41, e42, e43, e44, e45, e46, e47, ho, hl, ⟨⟨m13, m14, m15, m16, m17, m18, m31, m36, m24, m25, m30, m33, m34, m35, m37, m38, m39, rfl⟩, hmr⟩, rfl⟩ := h
  have ho2 := ho
  obtain ⟨hm, hg, hw, hP, hpm, hi, hs, ht, hbl, hBF, hT⟩ := ho2
  by_cases hx : 0 ≤ x ∧ x < 3
  · by_cases hy : 0 ≤ y ∧ y < nI m
    · have hx2 := (Decidable.not_not.mp (mt lt3_2.mpr (fun h => h hx)) : 0 ≤ x ∧ x ≤ 2)
      have hy2 := (Decidable.not_not.mp (mt (ltm_1 hm).mpr (fun h => h hy)) : 0 ≤ y ∧ y ≤ nI m - 1)
      by_cases hu : 0 ≤ u ∧ u ≤ 10
      · by_cases hz : 0 ≤ z ∧ z ≤ 10
        · by_cases hs5 : u + z ≤ 10
          · obtain ⟨l9, hl9, rfl⟩ := i32_lever hx
            obtain ⟨q9, hq9, rfl⟩ := i32_pos hm hy
            obtain ⟨b9, hb9, rfl⟩ := i32_in 10 (by decide) hu.1 hu.2
            obtain ⟨f9, hf9, rfl⟩ := i32_in 10 (by decide) hz.1 hz.2
            have hs9 : b9 + f9 ≤ 10 := by
              rw [nI_add] at hs5
              exact (nI_leI (a := b9 + f9) (b := 10) (by omega) (by omega)).mp hs5
            refine CaseI.ok (okh_setTable rfl (c_F_setTable hl9 hq9 hm.2 hb9 hf9 hs9 (hBF _)) (fun v9 q9 h9 => by obtain ⟨rfl, rfl⟩ := h9; exact ⟨rfl, _, _, rfl, rfl⟩)) (fun y0 q9 f9 h9 hf => ?_)
            obtain ⟨hy, rfl⟩ := h9
            cases hy
            have e := ox_inj (Option.some.inj hf)
            subst e
            rw [HP_set48]
            refine ⟨Wd.HP, _, c_Mo_setTable hl9 hq9 hm.2 hb9 hf9 hs9, fun v9 q9 h9 => ?_⟩
            obtain ⟨rfl, rfl⟩ := h9
            exact ⟨rfl, LH.mk2 ⟨hm, hg, hw, hP, hpm, hi, hs, ht, hbl, fun j => up_sum hBF hs9 j, hT⟩ rfl rfl rfl hl ⟨ceMo.mk, hmr⟩⟩
          · exact CaseI.ref (rf_setTable_IAE rfl (c_F_setTable_r5 hx.1 hx.2 hy.1 hy.2 hu.1 hu.2 hz.1 hz.2 hs5)) Wd.HP (by decide) (rM_setTable_b hx2.1 hx2.2 hy2.1 hy2.2 (fun c => hs5 c.2.2)) ⟨f, LH.mk2 ho rfl rfl rfl hl ⟨ceMo.mk, hmr⟩⟩
        · exact CaseI.ref (rf_setTable_IAE rfl (c_F_setTable_r4 hx.1 hx.2 hy.1 hy.2 hu.1 hu.2 hz)) Wd.HP (by decide) (rM_setTable_b hx2.1 hx2.2 hy2.1 hy2.2 (fun c => hz c.2.1)) ⟨f, LH.mk2 ho rfl rfl rfl hl ⟨ceMo.mk, hmr⟩⟩
      · exact CaseI.ref (rf_setTable_IAE rfl (c_F_setTable_r3 hx.1 hx.2 hy.1 hy.2 hu)) Wd.HP (by decide) (rM_setTable_b hx2.1 hx2.2 hy2.1 hy2.2 (fun c => hu c.1)) ⟨f, LH.mk2 ho rfl rfl rfl hl ⟨ceMo.mk, hmr⟩⟩
    · have hx2 := (Decidable.not_not.mp (mt lt3_2.mpr (fun h => h hx)) : 0 ≤ x ∧ x ≤ 2)
      exact CaseI.ref (rf_setTable_IOE rfl (c_F_setTable_r2 hx.1 hx.2 hy)) Wd.HP (by decide) (rM_setTable_p hx2.1 hx2.2 ((ltm_1 hm).mp hy)) ⟨f, LH.mk2 ho rfl rfl rfl hl ⟨ceMo.mk, hmr⟩⟩
  · exact CaseI.ref (rf_setTable_IOE rfl (c_F_setTable_r1 hx)) Wd.HP (by decide) (rM_setTable_l (lt3_2.mp hx)) ⟨f, LH.mk2 ho rfl rfl rfl hl ⟨ceMo.mk, hmr⟩⟩

theorem cs_gear_1 {th : Int32} {f : Nat → Int64} {qq : aH} (h : LH th f qq) (x : Int32) : CaseI M_La_gear M_Mo_gear [(0, 10, 13, 19)] [.ref 0, .int x, .int 1, .ref 48] [.ref 35, .int x, .int 1] qq := by
  obtain ⟨m, g, w, P, p, i, s, t, bl, gn, B, F, T, e9, e10, e11, e12, e13, e15, e17, e18, e20, e22, e24, e26, e28, e30, e31, e32, e33, e34, e35, e38, e39, e40, e41, e42, e43, e44, e45, e46, e47, ho, hl, ⟨⟨m13, m14, m15, m16, m17, m18, m31, m36, m24, m25, m30, m33, m34, m35, m37, m38, m39, rfl⟩, hmr⟩, rfl⟩ := h
  have ho2 := ho
  obtain ⟨hm, hg, hw, hP, hpm, hi, hs, ht, hbl, hBF, hT⟩ := ho2
  by_cases hx : 0 ≤ x ∧ x < 3
  · obtain ⟨l9, hl9, rfl⟩ := i32_lever hx
    refine CaseI.ok (okh_gear rfl (c_F_gear (z := true) hl9 hg (by decide : (1 : Int32) = 0 ↔ true = false) (wbit_lt8 g hg l9 hl9 true)) (fun v9 q9 h9 => by obtain ⟨rfl, rfl⟩ := h9; exact ⟨rfl, _, _, rfl, rfl⟩)) (fun y0 q9 f9 h9 hf => ?_)
    obtain ⟨hy, rfl⟩ := h9
    cases hy
    have e := ox_inj (Option.some.inj hf)
    subst e
    rw [HP_set48]
    refine ⟨Wd.HP, _, c_Mo_gear_1 hl9 hg (by decide) (wbit_lt g (by omega) l9 (by omega) true) (wbit_t g (by omega) l9 (by omega)), fun v9 q9 h9 => ?_⟩
    obtain ⟨rfl, rfl⟩ := h9
    exact ⟨rfl, LH.mk2 ⟨hm, wbit_lt8 g hg l9 hl9 true, hw, hP, hpm, hi, hs, ht, hbl, hBF, hT⟩ rfl rfl rfl hl ⟨ceMo.mk, hmr⟩⟩
  · exact CaseI.ref (rf_gear_IOE rfl (c_F_gear_r hx)) Wd.HP (by decide) (c_Mo_gear_r (lt3_2.mp hx)) ⟨f, LH.mk2 ho rfl rfl rfl hl ⟨ceMo.mk, hmr⟩⟩

theorem cs_pawl_1 {th : Int32} {f : Nat → Int64} {qq : aH} (h : LH th f qq) (x : Int32) : CaseI M_La_pawl M_Mo_pawl [(0, 10, 13, 19)] [.ref 0, .int x, .int 1, .ref 48] [.ref 35, .int x, .int 1] qq := by
  obtain ⟨m, g, w, P, p, i, s, t, bl, gn, B, F, T, e9, e10, e11, e12, e13, e15, e17, e18, e20, e22, e24, e26, e28, e30, e31, e32, e33, e34, e35, e38, e39, e40, e41, e42, e43, e44, e45, e46, e47, ho, hl, ⟨⟨m13, m14, m15, m16, m17, m18, m31, m36, m24, m25, m30, m33, m34, m35, m37, m38, m39, rfl⟩, hmr⟩, rfl⟩ := h
  have ho2 := ho
  obtain ⟨hm, hg, hw, hP, hpm, hi, hs, ht, hbl, hBF, hT⟩ := ho2
  by_cases hx : 0 ≤ x ∧ x < nI m
  · obtain ⟨l9, hl9, rfl⟩ := i32_pos hm hx
    refine CaseI.ok (okh_pawl rfl (c_F_pawl (z := true) hl9 hm.2 hw (by decide : (1 : Int32) = 0 ↔ true = false) (wbit_lt w hw l9 (by omega) true)) (fun v9 q9 h9 => by obtain ⟨rfl, rfl⟩ := h9; exact ⟨rfl, _, _, rfl, rfl⟩)) (fun y0 q9 f9 h9 hf => ?_)
    obtain ⟨hy, rfl⟩ := h9
    cases hy
    have e := ox_inj (Option.some.inj hf)
    subst e
    rw [HP_set48]
    refine ⟨Wd.HP, _, c_Mo_pawl_1 hl9 hm.2 hw (by decide) (wbit_lt w hw l9 (by omega) true) (wbit_t w hw l9 (by omega)), fun v9 q9 h9 => ?_⟩
    obtain ⟨rfl, rfl⟩ := h9
    exact ⟨rfl, LH.mk2 ⟨hm, hg, wbit_lt w hw l9 (by omega) true, hP, hpm, hi, hs, ht, hbl, hBF, hT⟩ rfl rfl rfl hl ⟨ceMo.mk, hmr⟩⟩
  · exact CaseI.ref (rf_pawl_IOE rfl (c_F_pawl_r hx)) Wd.HP (by decide) (c_Mo_pawl_r ((ltm_1 hm).mp hx)) ⟨f, LH.mk2 ho rfl rfl rfl hl ⟨ceMo.mk, hmr⟩⟩

theorem cs_gear_0 {th : Int32} {f : Nat → Int64} {qq : aH} (h : LH th f qq) (x : Int32) : CaseI M_La_gear M_Mo_gear [(0, 10, 13, 19)] [.ref 0, .int x, .int 0, .ref 48] [.ref 35, .int x, .int 0] qq := by
  obtain ⟨m, g, w, P, p, i, s, t, bl, gn, B, F, T, e9, e10, e11, e12, e13, e15, e17, e18, e20, e22, e24, e26, e28, e30, e31, e32, e33, e34, e35, e38, e39, e40, e41, e42, e43, e44, e45, e46, e47, ho, hl, ⟨⟨m13, m14, m15, m16, m17, m18, m31, m36, m24, m25, m30, m33, m34, m35, m37, m38, m39, rfl⟩, hmr⟩, rfl⟩ := h
  have ho2 := ho
  obtain ⟨hm, hg, hw, hP, hpm, hi, hs, ht, hbl, hBF, hT⟩ := ho2
  by_cases hx : 0 ≤ x ∧ x < 3
  · obtain ⟨l9, hl9, rfl⟩ := i32_lever hx
    refine CaseI.ok (okh_gear rfl (c_F_gear (z := false) hl9 hg (by decide : (0 : Int32) = 0 ↔ false = false) (wbit_lt8 g hg l9 hl9 false)) (fun v9 q9 h9 => by obtain ⟨rfl, rfl⟩ := h9; exact ⟨rfl, _, _, rfl, rfl⟩)) (fun y0 q9 f9 h9 hf => ?_)
    obtain ⟨hy, rfl⟩ := h9
    cases hy
    have e := ox_inj (Option.some.inj hf)
    subst e
    rw [HP_set48]
    refine ⟨Wd.HP, _, c_Mo_gear_0 hl9 hg (rfl) (wbit_lt g (by omega) l9 (by omega) false) (wbit_f g (by omega) l9 (by omega)), fun v9 q9 h9 => ?_⟩
    obtain ⟨rfl, rfl⟩ := h9
    exact ⟨rfl, LH.mk2 ⟨hm, wbit_lt8 g hg l9 hl9 false, hw, hP, hpm, hi, hs, ht, hbl, hBF, hT⟩ rfl rfl rfl hl ⟨ceMo.mk, hmr⟩⟩
  · exact CaseI.ref (rf_gear_IOE rfl (c_F_gear_r hx)) Wd.HP (by decide) (c_Mo_gear_r (lt3_2.mp hx)) ⟨f, LH.mk2 ho rfl rfl rfl hl ⟨ceMo.mk, hmr⟩⟩

theorem cs_pawl_0 {th : Int32} {f : Nat → Int64} {qq : aH} (h : LH th f qq) (x : Int32) : CaseI M_La_pawl M_Mo_pawl [(0, 10, 13, 19)] [.ref 0, .int x, .int 0, .ref 48] [.ref 35, .int x, .int 0] qq := by
  obtain ⟨m, g, w, P, p, i, s, t, bl, gn, B, F, T, e9, e10, e11, e12, e13, e15, e17, e18, e20, e22, e24, e26, e28, e30, e31, e32, e33, e34, e35, e38, e39, e40, e41, e42, e43, e44, e45, e46, e47, ho, hl, ⟨⟨m13, m14, m15, m16, m17, m18, m31, m36, m24, m25, m30, m33, m34, m35, m37, m38, m39, rfl⟩, hmr⟩, rfl⟩ := h
  have ho2 := ho
  obtain ⟨hm, hg, hw, hP, hpm, hi, hs, ht, hbl, hBF, hT⟩ := ho2
  by_cases hx : 0 ≤ x ∧ x < nI m
  · obtain ⟨l9, hl9, rfl⟩ := i32_pos hm hx
    refine CaseI.ok (okh_pawl rfl (c_F_pawl (z := false) hl9 hm.2 hw (by decide : (0 : Int32) = 0 ↔ false = false) (wbit_lt w hw l9 (by omega) false)) (fun v9 q9 h9 => by obtain ⟨rfl, rfl⟩ := h9; exact ⟨rfl, _, _, rfl, rfl⟩)) (fun y0 q9 f9 h9 hf => ?_)
    obtain ⟨hy, rfl⟩ := h9
    cases hy
    have e := ox_inj (Option.some.inj hf)
    subst e
    rw [HP_set48]
    refine ⟨Wd.HP, _, c_Mo_pawl_0 hl9 hm.2 hw (rfl) (wbit_lt w hw l9 (by omega) false) (wbit_f w hw l9 (by omega)), fun v9 q9 h9 => ?_⟩
    obtain ⟨rfl, rfl⟩ := h9
    exact ⟨rfl, LH.mk2 ⟨hm, hg, wbit_lt w hw l9 (by omega) false, hP, hpm, hi, hs, ht, hbl, hBF, hT⟩ rfl rfl rfl hl ⟨ceMo.mk, hmr⟩⟩
  · exact CaseI.ref (rf_pawl_IOE rfl (c_F_pawl_r hx)) Wd.HP (by decide) (c_Mo_pawl_r ((ltm_1 hm).mp hx)) ⟨f, LH.mk2 ho rfl rfl rfl hl ⟨ceMo.mk, hmr⟩⟩

theorem cs_setProgram {th : Int32} {f : Nat → Int64} {qq : aH} (h : LH th f qq) (x : Int32) : CaseI M_La_setProgram M_Mo_setProgram [(0, 9, 12, 13)] [.ref 0, .int x, .ref 48] [.ref 35, .int x] qq := by
  obtain ⟨m, g, w, P, p, i, s, t, bl, gn, B, F, T, e9, e10, e11, e12, e13, e15, e17, e18, e20, e22, e24, e26, e28, e30, e31, e32, e33, e34, e35, e38, e39, e40, e41, e42, e43, e44, e45, e46, e47, ho, hl, ⟨⟨m13, m14, m15, m16, m17, m18, m31, m36, m24, m25, m30, m33, m34, m35, m37, m38, m39, rfl⟩, hmr⟩, rfl⟩ := h
  have ho2 := ho
  obtain ⟨hm, hg, hw, hP, hpm, hi, hs, ht, hbl, hBF, hT⟩ := ho2
  rcases pr_or x with ⟨r, hr, rfl⟩ | hx
  · refine CaseI.ok (okh_setProgram rfl (c_F_setProgram hr) (fun v9 q9 h9 => by obtain ⟨rfl, rfl⟩ := h9; exact ⟨rfl, _, _, rfl, rfl⟩)) (fun y0 q9 f9 h9 hf => ?_)
    obtain ⟨hy, rfl⟩ := h9
    cases hy
    have e := ox_inj (Option.some.inj hf)
    subst e
    rw [HP_set48]
    refine ⟨Wd.HP, _, c_Mo_setProgram hr, fun v9 q9 h9 => ?_⟩
    obtain ⟨rfl, rfl⟩ := h9
    exact ⟨rfl, LH.mk2 (i := 0) ⟨hm, hg, hw, hr, hpm, plen_pos r, hs, ht, hbl, hBF, hT⟩ rfl rfl rfl hl ⟨ceMo.mk, hmr⟩⟩
  · exact CaseI.ref (rf_setProgram_IAE rfl (c_F_setProgram_r hx)) Wd.HP (by decide) (c_Mo_setProgram_r hx) ⟨f, LH.mk2 ho rfl rfl rfl hl ⟨ceMo.mk, hmr⟩⟩

theorem cs_restart {th : Int32} {f : Nat → Int64} {qq : aH} (h : LH th f qq) (x y : Int32) : CaseI M_La_restart M_Mo_restart [(0, 10, 13, 19), (0, 10, 17, 13)] [.ref 0, .int x, .int y, .ref 48] [.ref 35, .int x, .int y] qq := by
  obtain ⟨m, g, w, P, p, i, s, t, bl, gn, B, F, T, e9, e10, e11, e12, e13, e15, e17, e18, e20, e22, e24, e26, e28, e30, e31, e32, e33, e34, e35, e38, e39, e40, e41, e42, e43, e44, e45, e46, e47, ho, hl, ⟨⟨m13, m14, m15, m16, m17, m18, m31, m36, m24, m25, m30, m33, m34, m35, m37, m38, m39, rfl⟩, hmr⟩, rfl⟩ := h
  have ho2 := ho
  obtain ⟨hm, hg, hw, hP, hpm, hi, hs, ht, hbl, hBF, hT⟩ := ho2
  by_cases hx : 0 ≤ x ∧ x < nI m
  · by_cases hy : 0 ≤ y ∧ y ≤ 999
    · obtain ⟨q9, hq9, rfl⟩ := i32_pos hm hx
      obtain ⟨s9, hs9, rfl⟩ := i32_in 999 (by decide) hy.1 hy.2
      refine CaseI.ok (okh_restart rfl (c_F_restart hx.1 hx.2 hy.1 hy.2) (fun v9 q9 h9 => by obtain ⟨rfl, rfl⟩ := h9; exact ⟨rfl, _, _, rfl, rfl⟩)) (fun y0 q9 f9 h9 hf => ?_)
      obtain ⟨hy, rfl⟩ := h9
      cases hy
      have e := ox_inj (Option.some.inj hf)
      subst e
      rw [HP_set48]
      refine ⟨Wd.HP, _, c_Mo_restart hq9 hm.2 (by omega), fun v9 q9 h9 => ?_⟩
      obtain ⟨rfl, rfl⟩ := h9
      exact ⟨rfl, LH.mk2 (i := 0) (t := 0) ⟨hm, hg, hw, hP, hq9, plen_pos P, (by omega : s9 < 1000), by decide, hbl, hBF, hT⟩ rfl rfl rfl hl ⟨ceMo.mk, hmr⟩⟩
    · have hx2 := (Decidable.not_not.mp (mt (ltm_1 hm).mpr (fun h => h hx)) : 0 ≤ x ∧ x ≤ nI m - 1)
      exact CaseI.ref (rf_restart_IAE rfl (c_F_restart_r2 hx.1 hx.2 hy)) Wd.HP (by decide) (c_Mo_restart_r2 hx2.1 hx2.2 hy) ⟨f, LH.mk2 ho rfl rfl rfl hl ⟨ceMo.mk, hmr⟩⟩
  · exact CaseI.ref (rf_restart_IOE rfl (c_F_restart_r1 hx)) Wd.HP (by decide) (c_Mo_restart_r1 ((ltm_1 hm).mp hx)) ⟨f, LH.mk2 ho rfl rfl rfl hl ⟨ceMo.mk, hmr⟩⟩

theorem cs_run {th : Int32} {f : Nat → Int64} {qq : aH} (h : LH th f qq) (x : Int32) : CaseI M_La_run M_Mo_run [(0, 9, 12, 13), (0, 9, 15, 38)] [.ref 0, .int x, .ref 48] [.ref 35, .int x] qq := by
  obtain ⟨m, g, w, P, p, i, s, t, bl, gn, B, F, T, e9, e10, e11, e12, e13, e15, e17, e18, e20, e22, e24, e26, e28, e30, e31, e32, e33, e34, e35, e38, e39, e40, e41, e42, e43, e44, e45, e46, e47, ho, hl, ⟨⟨m13, m14, m15, m16, m17, m18, m31, m36, m24, m25, m30, m33, m34, m35, m37, m38, m39, rfl⟩, hmr⟩, rfl⟩ := h
  have ho2 := ho
  obtain ⟨hm, hg, hw, hP, hpm, hi, hs, ht, hbl, hBF, hT⟩ := ho2
  by_cases hx : 1 ≤ x ∧ x ≤ 500
  · obtain ⟨T9, hT1, hT5, rfl⟩ := i32_in1 1 500 (by decide) (by decide) hx.1 hx.2
    by_cases h6 : 1000000 < t + T9
    · exact CaseI.ref (rf_run_ISE rfl (c_F_run_r2 hx.1 hx.2 hT5 ht h6)) Wd.HP (by decide) (c_Mo_run_r2 hT1 hT5 ht h6) ⟨f, LH.mk2 ho rfl rfl rfl hl ⟨ceMo.mk, hmr⟩⟩
    · refine CaseI.ok (okh_run rfl (c_F_run ⟨by omega, hm.2⟩ hg hw hpm hP hi hs (by omega) hT5 (fun j => by have := hBF j; omega) (fun j => by have := hBF j; omega) hT1) (fun v9 q9 h9 => by obtain ⟨rfl, rfl⟩ := h9; exact ⟨rfl, _, _, rfl, rfl⟩)) (fun y0 q9 f9 h9 hf => ?_)
      obtain ⟨hy, rfl⟩ := h9
      cases hy
      have e := ox_inj (Option.some.inj hf)
      subst e
      rw [HP_set48]
      refine ⟨Wd.HP, _, c_Mo_run ⟨by omega, hm.2⟩ hg hw hpm hP hi hs hBF hT1 hT5 (by omega), fun v9 q9 h9 => ?_⟩
      obtain ⟨rfl, rfl⟩ := h9
      have hk := wkN_ok (m := m) (g := g) (w := w) (B := B) (F := F) (P := P) (x := (p, i, s, gn)) (by omega) hpm hi hs T9
      exact ⟨rfl, LH.mk2 ⟨hm, hg, hw, hP, hk.1, hk.2.1, hk.2.2, (by omega : t + T9 ≤ 1000000), hbl, hBF, hT⟩ rfl rfl rfl hl ⟨ceMo.mk, hmr⟩⟩
  · exact CaseI.ref (rf_run_IAE rfl (c_F_run_r1 hx)) Wd.HP (by decide) (c_Mo_run_r1 hx) ⟨f, LH.mk2 ho rfl rfl rfl hl ⟨ceMo.mk, hmr⟩⟩

theorem cs_append {th : Int32} {f : Nat → Int64} {qq : aH} (h : LH th f qq) (x : Int32) : CaseI M_La_append M_Mo_append [(0, 9, 12, 13), (0, 9, 15, 38)] [.ref 0, .int x, .ref 48] [.ref 35, .int x] qq := by
  obtain ⟨m, g, w, P, p, i, s, t, bl, gn, B, F, T, e9, e10, e11, e12, e13, e15, e17, e18, e20, e22, e24, e26, e28, e30, e31, e32, e33, e34, e35, e38, e39, e40, e41, e42, e43, e44, e45, e46, e47, ho, hl, ⟨⟨m13, m14, m15, m16, m17, m18, m31, m36, m24, m25, m30, m33, m34, m35, m37, m38, m39, rfl⟩, hmr⟩, rfl⟩ := h
  have ho2 := ho
  obtain ⟨hm, hg, hw, hP, hpm, hi, hs, ht, hbl, hBF, hT⟩ := ho2
  by_cases hx : 33 ≤ x ∧ x ≤ 126
  · by_cases h6 : bl = 60
    · exact CaseI.ref (rf_append_ISE rfl (c_F_append_r2 hx.1 hx.2 (by omega) (by omega))) Wd.HP (by decide) (c_Mo_append_r2 hx.1 hx.2 h6) ⟨f, LH.mk2 ho rfl rfl rfl hl ⟨ceMo.mk, hmr⟩⟩
    · obtain ⟨c9, hc1, hc2, rfl⟩ := i32_in1 33 126 (by decide) (by decide) hx.1 hx.2
      refine CaseI.ok (okh_append rfl (c_F_append hx.1 hx.2 (by omega) (by omega)) (fun v9 q9 h9 => by obtain ⟨rfl, rfl⟩ := h9; exact ⟨rfl, _, _, rfl, rfl⟩)) (fun y0 q9 f9 h9 hf => ?_)
      obtain ⟨hy, rfl⟩ := h9
      cases hy
      have e := ox_inj (Option.some.inj hf)
      subst e
      rw [HP_set48]
      refine ⟨Wd.HP, _, c_Mo_append hc1 hc2 (by omega), fun v9 q9 h9 => ?_⟩
      obtain ⟨rfl, rfl⟩ := h9
      exact ⟨rfl, LH.mk2 ⟨hm, hg, hw, hP, hpm, hi, hs, ht, (by omega : bl + 1 ≤ 60), hBF, fun j => up_lt hT (by omega) j⟩ rfl rfl rfl hl ⟨ceMo.mk, hmr⟩⟩
  · exact CaseI.ref (rf_append_IAE rfl (c_F_append_r1 hx)) Wd.HP (by decide) (c_Mo_append_r1 hx) ⟨f, LH.mk2 ho rfl rfl rfl hl ⟨ceMo.mk, hmr⟩⟩
