/-! THE CALLS, on both sides: averages -/

theorem cs_average {th : Int32} {f : Nat → Int64} {qq : aH} (h : LH th f qq) (x y : Int32) : CaseL M_La_average M_Mo_average [(0, 9, 12, 13)] [.ref 0, .int x, .int y, .ref 48] [.ref 35, .int x, .int y] qq := by
  obtain ⟨m, g, w, P, p, i, s, t, bl, gn, B, F, T, e9, e10, e11, e12, e13, e15, e17, e18, e20, e22, e24, e26, e28, e30, e31, e32, e33, e34, e35, e38, e39, e40, e41, e42, e43, e44, e45, e46, e47, ho, hl, ⟨⟨m13, m14, m15, m16, m17, m18, m31, m36, m24, m25, m30, m33, m34, m35, m37, m38, m39, rfl⟩, hmr⟩, rfl⟩ := h
  have ho2 := ho
  obtain ⟨hm, hg, hw, hP, hpm, hi, hs, ht, hbl, hBF, hT⟩ := ho2
  rcases pr_or x with ⟨r, hr, rfl⟩ | hx
  · by_cases hy : 0 ≤ y ∧ y ≤ 1
    · rcases i32_or1 hy with rfl | rfl
      · obtain ⟨h9, h10, h11, h12, h13, h15, h17, h18, h20, h22, h24, h26, h28, h30, h31, h32, h33, h34⟩ := hl
        obtain ⟨mm, tt, c18, sl, ws, rfl⟩ := h18
        obtain ⟨f20, rfl⟩ := h20
        obtain ⟨f22, rfl⟩ := h22
        obtain ⟨f24, rfl⟩ := h24
        obtain ⟨f26, rfl⟩ := h26
        obtain ⟨f28, rfl⟩ := h28
        obtain ⟨f30, rfl⟩ := h30
        obtain ⟨p1, p2, rfl⟩ := h31
        obtain ⟨h38, h39, h40, h41, h42, h43, h44, h45, h46, h47⟩ := hmr
        obtain ⟨f43, rfl⟩ := h43
        obtain ⟨f44, rfl⟩ := h44
        obtain ⟨f45, rfl⟩ := h45
        obtain ⟨f46, rfl⟩ := h46
        obtain ⟨f47, rfl⟩ := h47
        refine CaseL.ok (okh_average rfl (c_F_average_0 ⟨by omega, hm.2⟩ hg hw hr hBF (avQ_ok hm hBF r hr)) (fun vV qV hV => by obtain ⟨rfl, rfl⟩ := hV; exact ⟨rfl, _, _, rfl, rfl⟩)) (fun y0 qV fV hV hf => ?_)
        obtain ⟨hy, rfl⟩ := hV
        cases hy
        have e := ox_inj (Option.some.inj hf)
        subst e
        rw [HP_set48]
        refine ⟨Wd.HP, _, c_Mo_average_0 hm hg hw hBF hr (ref_ok hm hBF r hr).1, fun vV qV hV => ?_⟩
        obtain ⟨rfl, z1, z2, z3, z4, z5, z6, rfl⟩ := hV
        exact ⟨congrArg (fun z => some (Value.long z.1)) (ref_ok hm hBF r hr).2.1, LH.mk2 ho rfl rfl rfl ⟨h9, h10, h11, h12, h13, h15, h17, ⟨_, _, _, _, _, rfl⟩, ⟨_, rfl⟩, ⟨_, rfl⟩, ⟨_, rfl⟩, ⟨_, rfl⟩, ⟨_, rfl⟩, ⟨_, rfl⟩, ⟨_, _, rfl⟩, h32, h33, h34⟩ ⟨ceMo.mk, ⟨h38, h39, h40, h41, h42, ⟨_, rfl⟩, ⟨_, rfl⟩, ⟨_, rfl⟩, ⟨_, rfl⟩, ⟨_, rfl⟩⟩⟩⟩
      · obtain ⟨h9, h10, h11, h12, h13, h15, h17, h18, h20, h22, h24, h26, h28, h30, h31, h32, h33, h34⟩ := hl
        obtain ⟨mm, tt, c18, sl, ws, rfl⟩ := h18
        obtain ⟨f20, rfl⟩ := h20
        obtain ⟨f22, rfl⟩ := h22
        obtain ⟨f24, rfl⟩ := h24
        obtain ⟨f26, rfl⟩ := h26
        obtain ⟨f28, rfl⟩ := h28
        obtain ⟨f30, rfl⟩ := h30
        obtain ⟨p1, p2, rfl⟩ := h31
        obtain ⟨h38, h39, h40, h41, h42, h43, h44, h45, h46, h47⟩ := hmr
        obtain ⟨f43, rfl⟩ := h43
        obtain ⟨f44, rfl⟩ := h44
        obtain ⟨f45, rfl⟩ := h45
        obtain ⟨f46, rfl⟩ := h46
        obtain ⟨f47, rfl⟩ := h47
        refine CaseL.ok (okh_average rfl (c_F_average_1 ⟨by omega, hm.2⟩ hg hw hr hBF (avQ_ok hm hBF r hr)) (fun vV qV hV => by obtain ⟨rfl, rfl⟩ := hV; exact ⟨rfl, _, _, rfl, rfl⟩)) (fun y0 qV fV hV hf => ?_)
        obtain ⟨hy, rfl⟩ := hV
        cases hy
        have e := ox_inj (Option.some.inj hf)
        subst e
        rw [HP_set48]
        refine ⟨Wd.HP, _, c_Mo_average_1 hm hg hw hBF hr (ref_ok hm hBF r hr).1, fun vV qV hV => ?_⟩
        obtain ⟨rfl, z1, z2, z3, z4, z5, z6, rfl⟩ := hV
        exact ⟨congrArg (fun z => some (Value.long (lN z.2))) (ref_ok hm hBF r hr).2.1, LH.mk2 ho rfl rfl rfl ⟨h9, h10, h11, h12, h13, h15, h17, ⟨_, _, _, _, _, rfl⟩, ⟨_, rfl⟩, ⟨_, rfl⟩, ⟨_, rfl⟩, ⟨_, rfl⟩, ⟨_, rfl⟩, ⟨_, rfl⟩, ⟨_, _, rfl⟩, h32, h33, h34⟩ ⟨ceMo.mk, ⟨h38, h39, h40, h41, h42, ⟨_, rfl⟩, ⟨_, rfl⟩, ⟨_, rfl⟩, ⟨_, rfl⟩, ⟨_, rfl⟩⟩⟩⟩
    · exact CaseL.ref (rf_average_IAE rfl (c_F_average_r2 hr hy)) Wd.HP (by decide) (c_Mo_average_r2 hr hy) ⟨f, LH.mk2 ho rfl rfl rfl hl ⟨ceMo.mk, hmr⟩⟩
  · exact CaseL.ref (rf_average_IAE rfl (c_F_average_r1 hx)) Wd.HP (by decide) (c_Mo_average_r1 hx) ⟨f, LH.mk2 ho rfl rfl rfl hl ⟨ceMo.mk, hmr⟩⟩

theorem cs_share {th : Int32} {f : Nat → Int64} {qq : aH} (h : LH th f qq) (x y u : Int32) : CaseL M_La_share M_Mo_share [(0, 11, 14, 19), (0, 11, 18, 13)] [.ref 0, .int x, .int y, .int u, .ref 48] [.ref 35, .int x, .int y, .int u] qq := by
  obtain ⟨m, g, w, P, p, i, s, t, bl, gn, B, F, T, e9, e10, e11, e12, e13, e15, e17, e18, e20, e22, e24, e26, e28, e30, e31, e32, e33, e34, e35, e38, e39, e40, e41, e42, e43, e44, e45, e46, e47, ho, hl, ⟨⟨m13, m14, m15, m16, m17, m18, m31, m36, m24, m25, m30, m33, m34, m35, m37, m38, m39, rfl⟩, hmr⟩, rfl⟩ := h
  have ho2 := ho
  obtain ⟨hm, hg, hw, hP, hpm, hi, hs, ht, hbl, hBF, hT⟩ := ho2
  by_cases hy : 0 ≤ y ∧ y < nI m
  · have hyy := hy
    obtain ⟨q9, hq9, rfl⟩ := i32_pos hm hy
    rcases pr_or x with ⟨r, hr, rfl⟩ | hx
    · by_cases hu : 0 ≤ u ∧ u ≤ 1
      · rcases i32_or1 hu with rfl | rfl
        · obtain ⟨h9, h10, h11, h12, h13, h15, h17, h18, h20, h22, h24, h26, h28, h30, h31, h32, h33, h34⟩ := hl
          obtain ⟨mm, tt, c18, sl, ws, rfl⟩ := h18
          obtain ⟨f20, rfl⟩ := h20
          obtain ⟨f22, rfl⟩ := h22
          obtain ⟨f24, rfl⟩ := h24
          obtain ⟨f26, rfl⟩ := h26
          obtain ⟨f28, rfl⟩ := h28
          obtain ⟨f30, rfl⟩ := h30
          obtain ⟨p1, p2, rfl⟩ := h31
          obtain ⟨h38, h39, h40, h41, h42, h43, h44, h45, h46, h47⟩ := hmr
          obtain ⟨f43, rfl⟩ := h43
          obtain ⟨f44, rfl⟩ := h44
          obtain ⟨f45, rfl⟩ := h45
          obtain ⟨f46, rfl⟩ := h46
          obtain ⟨f47, rfl⟩ := h47
          refine CaseL.ok (okh_share rfl (c_F_share_0 ⟨by omega, hm.2⟩ hg hw hr hBF hq9 (shQ_ok hm hBF r q9 hq9)) (fun vV qV hV => by obtain ⟨rfl, rfl⟩ := hV; exact ⟨rfl, _, _, rfl, rfl⟩)) (fun y0 qV fV hV hf => ?_)
          obtain ⟨hy, rfl⟩ := hV
          cases hy
          have e := ox_inj (Option.some.inj hf)
          subst e
          rw [HP_set48]
          refine ⟨Wd.HP, _, c_Mo_share_0 hm hg hw hBF hr (ref_ok hm hBF r hr).1 hq9 ((refS_ok hm hBF r hr).2 q9 hq9).1, fun vV qV hV => ?_⟩
          obtain ⟨rfl, z1, z2, z3, z4, z5, z6, z7, z8, rfl⟩ := hV
          exact ⟨congrArg (fun z => some (Value.long z.1)) ((refS_ok hm hBF r hr).2 q9 hq9).2, LH.mk2 ho rfl rfl rfl ⟨h9, h10, h11, h12, h13, h15, h17, ⟨_, _, _, _, _, rfl⟩, ⟨_, rfl⟩, ⟨_, rfl⟩, ⟨_, rfl⟩, ⟨_, rfl⟩, ⟨_, rfl⟩, ⟨_, rfl⟩, ⟨_, _, rfl⟩, h32, h33, h34⟩ ⟨ceMo.mk, ⟨h38, h39, h40, h41, h42, ⟨_, rfl⟩, ⟨_, rfl⟩, ⟨_, rfl⟩, ⟨_, rfl⟩, ⟨_, rfl⟩⟩⟩⟩
        · obtain ⟨h9, h10, h11, h12, h13, h15, h17, h18, h20, h22, h24, h26, h28, h30, h31, h32, h33, h34⟩ := hl
          obtain ⟨mm, tt, c18, sl, ws, rfl⟩ := h18
          obtain ⟨f20, rfl⟩ := h20
          obtain ⟨f22, rfl⟩ := h22
          obtain ⟨f24, rfl⟩ := h24
          obtain ⟨f26, rfl⟩ := h26
          obtain ⟨f28, rfl⟩ := h28
          obtain ⟨f30, rfl⟩ := h30
          obtain ⟨p1, p2, rfl⟩ := h31
          obtain ⟨h38, h39, h40, h41, h42, h43, h44, h45, h46, h47⟩ := hmr
          obtain ⟨f43, rfl⟩ := h43
          obtain ⟨f44, rfl⟩ := h44
          obtain ⟨f45, rfl⟩ := h45
          obtain ⟨f46, rfl⟩ := h46
          obtain ⟨f47, rfl⟩ := h47
          refine CaseL.ok (okh_share rfl (c_F_share_1 ⟨by omega, hm.2⟩ hg hw hr hBF hq9 (shQ_ok hm hBF r q9 hq9)) (fun vV qV hV => by obtain ⟨rfl, rfl⟩ := hV; exact ⟨rfl, _, _, rfl, rfl⟩)) (fun y0 qV fV hV hf => ?_)
          obtain ⟨hy, rfl⟩ := hV
          cases hy
          have e := ox_inj (Option.some.inj hf)
          subst e
          rw [HP_set48]
          refine ⟨Wd.HP, _, c_Mo_share_1 hm hg hw hBF hr (ref_ok hm hBF r hr).1 hq9 ((refS_ok hm hBF r hr).2 q9 hq9).1, fun vV qV hV => ?_⟩
          obtain ⟨rfl, z1, z2, z3, z4, z5, z6, z7, z8, rfl⟩ := hV
          exact ⟨congrArg (fun z => some (Value.long (lN z.2))) ((refS_ok hm hBF r hr).2 q9 hq9).2, LH.mk2 ho rfl rfl rfl ⟨h9, h10, h11, h12, h13, h15, h17, ⟨_, _, _, _, _, rfl⟩, ⟨_, rfl⟩, ⟨_, rfl⟩, ⟨_, rfl⟩, ⟨_, rfl⟩, ⟨_, rfl⟩, ⟨_, rfl⟩, ⟨_, _, rfl⟩, h32, h33, h34⟩ ⟨ceMo.mk, ⟨h38, h39, h40, h41, h42, ⟨_, rfl⟩, ⟨_, rfl⟩, ⟨_, rfl⟩, ⟨_, rfl⟩, ⟨_, rfl⟩⟩⟩⟩
      · exact CaseL.ref (rf_share_IAE rfl (c_F_share_r3 hyy.1 hyy.2 hr hu)) Wd.HP (by decide) (c_Mo_share_r3 ⟨by omega, hm.2⟩ hq9 hr hu) ⟨f, LH.mk2 ho rfl rfl rfl hl ⟨ceMo.mk, hmr⟩⟩
    · exact CaseL.ref (rf_share_IAE rfl (c_F_share_r2 hyy.1 hyy.2 hx)) Wd.HP (by decide) (c_Mo_share_r2 ⟨by omega, hm.2⟩ hq9 hx) ⟨f, LH.mk2 ho rfl rfl rfl hl ⟨ceMo.mk, hmr⟩⟩
  · exact CaseL.ref (rf_share_IOE rfl (c_F_share_r1 hy)) Wd.HP (by decide) (c_Mo_share_r1 ((ltm_1 hm).mp hy) hm.2) ⟨f, LH.mk2 ho rfl rfl rfl hl ⟨ceMo.mk, hmr⟩⟩

theorem cs_classes {th : Int32} {f : Nat → Int64} {qq : aH} (h : LH th f qq) (x : Int32) : CaseI M_La_classes M_Mo_classes [(0, 9, 12, 13)] [.ref 0, .int x, .ref 48] [.ref 35, .int x] qq := by
  obtain ⟨m, g, w, P, p, i, s, t, bl, gn, B, F, T, e9, e10, e11, e12, e13, e15, e17, e18, e20, e22, e24, e26, e28, e30, e31, e32, e33, e34, e35, e38, e39, e40, e41, e42, e43, e44, e45, e46, e47, ho, hl, ⟨⟨m13, m14, m15, m16, m17, m18, m31, m36, m24, m25, m30, m33, m34, m35, m37, m38, m39, rfl⟩, hmr⟩, rfl⟩ := h
  have ho2 := ho
  obtain ⟨hm, hg, hw, hP, hpm, hi, hs, ht, hbl, hBF, hT⟩ := ho2
  rcases pr_or x with ⟨r, hr, rfl⟩ | hx
  · obtain ⟨h9, h10, h11, h12, h13, h15, h17, h18, h20, h22, h24, h26, h28, h30, h31, h32, h33, h34⟩ := hl
    obtain ⟨mm, tt, c18, sl, ws, rfl⟩ := h18
    obtain ⟨f20, rfl⟩ := h20
    obtain ⟨f22, rfl⟩ := h22
    obtain ⟨f24, rfl⟩ := h24
    obtain ⟨f26, rfl⟩ := h26
    obtain ⟨f28, rfl⟩ := h28
    obtain ⟨f30, rfl⟩ := h30
    obtain ⟨p1, p2, rfl⟩ := h31
    obtain ⟨h38, h39, h40, h41, h42, h43, h44, h45, h46, h47⟩ := hmr
    obtain ⟨f43, rfl⟩ := h43
    obtain ⟨f44, rfl⟩ := h44
    obtain ⟨f45, rfl⟩ := h45
    obtain ⟨f46, rfl⟩ := h46
    obtain ⟨f47, rfl⟩ := h47
    refine CaseI.ok (okh_classes rfl (c_F_classes ⟨by omega, hm.2⟩ hg hw hr hBF) (fun vV qV hV => by obtain ⟨rfl, rfl⟩ := hV; exact ⟨rfl, _, _, rfl, rfl⟩)) (fun y0 qV fV hV hf => ?_)
    obtain ⟨hy, rfl⟩ := hV
    cases hy
    have e := ox_inj (Option.some.inj hf)
    subst e
    rw [HP_set48]
    refine ⟨Wd.HP, _, c_Mo_classes hm hg hw hBF hr (ref_ok hm hBF r hr).1, fun vV qV hV => ?_⟩
    obtain ⟨rfl, z1, z2, z3, z4, z5, z6, rfl⟩ := hV
    exact ⟨congrArg (fun z => some (Value.int (nI z))) (cl_facts hm hBF).1, LH.mk2 ho rfl rfl rfl ⟨h9, h10, h11, h12, h13, h15, h17, ⟨_, _, _, _, _, rfl⟩, ⟨_, rfl⟩, ⟨_, rfl⟩, ⟨_, rfl⟩, ⟨_, rfl⟩, ⟨_, rfl⟩, ⟨_, rfl⟩, ⟨_, _, rfl⟩, h32, h33, h34⟩ ⟨ceMo.mk, ⟨h38, h39, h40, h41, h42, ⟨_, rfl⟩, ⟨_, rfl⟩, ⟨_, rfl⟩, ⟨_, rfl⟩, ⟨_, rfl⟩⟩⟩⟩
  · exact CaseI.ref (rf_classes_IAE rfl (c_F_classes_r hx)) Wd.HP (by decide) (c_Mo_classes_r hx) ⟨f, LH.mk2 ho rfl rfl rfl hl ⟨ceMo.mk, hmr⟩⟩

theorem cs_best {th : Int32} {f : Nat → Int64} {qq : aH} (h : LH th f qq) (x y : Int32) : CaseL M_La_best M_Mo_best [(0, 9, 12, 13)] [.ref 0, .int x, .int y, .ref 48] [.ref 35, .int x, .int y] qq := by
  obtain ⟨m, g, w, P, p, i, s, t, bl, gn, B, F, T, e9, e10, e11, e12, e13, e15, e17, e18, e20, e22, e24, e26, e28, e30, e31, e32, e33, e34, e35, e38, e39, e40, e41, e42, e43, e44, e45, e46, e47, ho, hl, ⟨⟨m13, m14, m15, m16, m17, m18, m31, m36, m24, m25, m30, m33, m34, m35, m37, m38, m39, rfl⟩, hmr⟩, rfl⟩ := h
  have ho2 := ho
  obtain ⟨hm, hg, hw, hP, hpm, hi, hs, ht, hbl, hBF, hT⟩ := ho2
  by_cases hx : 1 ≤ x ∧ x ≤ 3
  · by_cases hy : 0 ≤ y ∧ y ≤ 2
    · obtain ⟨k9, hk1, hk3, rfl⟩ := i32_in1 1 3 (by decide) (by decide) hx.1 hx.2
      rcases i32_or2 hy with rfl | rfl | rfl
      · obtain ⟨h9, h10, h11, h12, h13, h15, h17, h18, h20, h22, h24, h26, h28, h30, h31, h32, h33, h34⟩ := hl
        obtain ⟨mm, tt, c18, sl, ws, rfl⟩ := h18
        obtain ⟨f20, rfl⟩ := h20
        obtain ⟨f22, rfl⟩ := h22
        obtain ⟨f24, rfl⟩ := h24
        obtain ⟨f26, rfl⟩ := h26
        obtain ⟨f28, rfl⟩ := h28
        obtain ⟨f30, rfl⟩ := h30
        obtain ⟨p1, p2, rfl⟩ := h31
        obtain ⟨fo, rfl⟩ := h33
        obtain ⟨x34, y34, rfl⟩ := h34
        obtain ⟨h38, h39, h40, h41, h42, h43, h44, h45, h46, h47⟩ := hmr
        obtain ⟨f43, rfl⟩ := h43
        obtain ⟨f44, rfl⟩ := h44
        obtain ⟨f45, rfl⟩ := h45
        obtain ⟨f46, rfl⟩ := h46
        obtain ⟨f47, rfl⟩ := h47
        refine CaseL.ok (okh_best rfl (c_F_best_0 hk1 hk3 ⟨by omega, hm.2⟩ hg hw hBF (avQ_ok hm hBF)) (fun vV qV hV => by obtain ⟨rfl, z1, z2, z3, z4, z5, z6, z7, z8, z9, z10, z11, z12, z13, rfl⟩ := hV; exact ⟨rfl, _, _, rfl, rfl⟩)) (fun y0 qV fV hV hf => ?_)
        obtain ⟨hy, z1, z2, z3, z4, z5, z6, z7, z8, z9, z10, z11, z12, z13, rfl⟩ := hV
        cases hy
        have e := ox_inj (Option.some.inj hf)
        subst e
        rw [HP_set48]
        refine ⟨Wd.HP, _, c_Mo_best_0 hm hg hw hBF (ref_ok hm hBF) hk1 hk3, fun vV qV hV => ?_⟩
        obtain ⟨rfl, z1, z2, z3, z4, z5, z6, z7, z8, z9, z10, rfl⟩ := hV
        exact ⟨rfl, LH.mk2 ho rfl rfl rfl ⟨h9, h10, h11, h12, h13, h15, h17, ⟨_, _, _, _, _, rfl⟩, ⟨_, rfl⟩, ⟨_, rfl⟩, ⟨_, rfl⟩, ⟨_, rfl⟩, ⟨_, rfl⟩, ⟨_, rfl⟩, ⟨_, _, rfl⟩, h32, ⟨_, rfl⟩, ⟨_, _, rfl⟩⟩ ⟨ceMo.mk, ⟨h38, h39, h40, h41, h42, ⟨_, rfl⟩, ⟨_, rfl⟩, ⟨_, rfl⟩, ⟨_, rfl⟩, ⟨_, rfl⟩⟩⟩⟩
      · obtain ⟨h9, h10, h11, h12, h13, h15, h17, h18, h20, h22, h24, h26, h28, h30, h31, h32, h33, h34⟩ := hl
        obtain ⟨mm, tt, c18, sl, ws, rfl⟩ := h18
        obtain ⟨f20, rfl⟩ := h20
        obtain ⟨f22, rfl⟩ := h22
        obtain ⟨f24, rfl⟩ := h24
        obtain ⟨f26, rfl⟩ := h26
        obtain ⟨f28, rfl⟩ := h28
        obtain ⟨f30, rfl⟩ := h30
        obtain ⟨p1, p2, rfl⟩ := h31
        obtain ⟨fo, rfl⟩ := h33
        obtain ⟨x34, y34, rfl⟩ := h34
        obtain ⟨h38, h39, h40, h41, h42, h43, h44, h45, h46, h47⟩ := hmr
        obtain ⟨f43, rfl⟩ := h43
        obtain ⟨f44, rfl⟩ := h44
        obtain ⟨f45, rfl⟩ := h45
        obtain ⟨f46, rfl⟩ := h46
        obtain ⟨f47, rfl⟩ := h47
        refine CaseL.ok (okh_best rfl (c_F_best_1 hk1 hk3 ⟨by omega, hm.2⟩ hg hw hBF (avQ_ok hm hBF)) (fun vV qV hV => by obtain ⟨rfl, z1, z2, z3, z4, z5, z6, z7, z8, z9, z10, z11, z12, z13, rfl⟩ := hV; exact ⟨rfl, _, _, rfl, rfl⟩)) (fun y0 qV fV hV hf => ?_)
        obtain ⟨hy, z1, z2, z3, z4, z5, z6, z7, z8, z9, z10, z11, z12, z13, rfl⟩ := hV
        cases hy
        have e := ox_inj (Option.some.inj hf)
        subst e
        rw [HP_set48]
        refine ⟨Wd.HP, _, c_Mo_best_1 hm hg hw hBF (ref_ok hm hBF) hk1 hk3, fun vV qV hV => ?_⟩
        obtain ⟨rfl, z1, z2, z3, z4, z5, z6, z7, z8, z9, z10, rfl⟩ := hV
        exact ⟨rfl, LH.mk2 ho rfl rfl rfl ⟨h9, h10, h11, h12, h13, h15, h17, ⟨_, _, _, _, _, rfl⟩, ⟨_, rfl⟩, ⟨_, rfl⟩, ⟨_, rfl⟩, ⟨_, rfl⟩, ⟨_, rfl⟩, ⟨_, rfl⟩, ⟨_, _, rfl⟩, h32, ⟨_, rfl⟩, ⟨_, _, rfl⟩⟩ ⟨ceMo.mk, ⟨h38, h39, h40, h41, h42, ⟨_, rfl⟩, ⟨_, rfl⟩, ⟨_, rfl⟩, ⟨_, rfl⟩, ⟨_, rfl⟩⟩⟩⟩
      · obtain ⟨h9, h10, h11, h12, h13, h15, h17, h18, h20, h22, h24, h26, h28, h30, h31, h32, h33, h34⟩ := hl
        obtain ⟨mm, tt, c18, sl, ws, rfl⟩ := h18
        obtain ⟨f20, rfl⟩ := h20
        obtain ⟨f22, rfl⟩ := h22
        obtain ⟨f24, rfl⟩ := h24
        obtain ⟨f26, rfl⟩ := h26
        obtain ⟨f28, rfl⟩ := h28
        obtain ⟨f30, rfl⟩ := h30
        obtain ⟨p1, p2, rfl⟩ := h31
        obtain ⟨fo, rfl⟩ := h33
        obtain ⟨x34, y34, rfl⟩ := h34
        obtain ⟨h38, h39, h40, h41, h42, h43, h44, h45, h46, h47⟩ := hmr
        obtain ⟨f43, rfl⟩ := h43
        obtain ⟨f44, rfl⟩ := h44
        obtain ⟨f45, rfl⟩ := h45
        obtain ⟨f46, rfl⟩ := h46
        obtain ⟨f47, rfl⟩ := h47
        refine CaseL.ok (okh_best rfl (c_F_best_2 hk1 hk3 ⟨by omega, hm.2⟩ hg hw hBF (avQ_ok hm hBF)) (fun vV qV hV => by obtain ⟨rfl, z1, z2, z3, z4, z5, z6, z7, z8, z9, z10, z11, z12, z13, rfl⟩ := hV; exact ⟨rfl, _, _, rfl, rfl⟩)) (fun y0 qV fV hV hf => ?_)
        obtain ⟨hy, z1, z2, z3, z4, z5, z6, z7, z8, z9, z10, z11, z12, z13, rfl⟩ := hV
        cases hy
        have e := ox_inj (Option.some.inj hf)
        subst e
        rw [HP_set48]
        refine ⟨Wd.HP, _, c_Mo_best_2 hm hg hw hBF (ref_ok hm hBF) hk1 hk3, fun vV qV hV => ?_⟩
        obtain ⟨rfl, z1, z2, z3, z4, z5, z6, z7, z8, z9, z10, rfl⟩ := hV
        exact ⟨rfl, LH.mk2 ho rfl rfl rfl ⟨h9, h10, h11, h12, h13, h15, h17, ⟨_, _, _, _, _, rfl⟩, ⟨_, rfl⟩, ⟨_, rfl⟩, ⟨_, rfl⟩, ⟨_, rfl⟩, ⟨_, rfl⟩, ⟨_, rfl⟩, ⟨_, _, rfl⟩, h32, ⟨_, rfl⟩, ⟨_, _, rfl⟩⟩ ⟨ceMo.mk, ⟨h38, h39, h40, h41, h42, ⟨_, rfl⟩, ⟨_, rfl⟩, ⟨_, rfl⟩, ⟨_, rfl⟩, ⟨_, rfl⟩⟩⟩⟩
    · exact CaseL.ref (rf_best_IAE rfl (c_F_best_r2 hx.1 hx.2 hy)) Wd.HP (by decide) (c_Mo_best_r2 hx.1 hx.2 hy) ⟨f, LH.mk2 ho rfl rfl rfl hl ⟨ceMo.mk, hmr⟩⟩
  · exact CaseL.ref (rf_best_IAE rfl (c_F_best_r1 hx)) Wd.HP (by decide) (c_Mo_best_r1 hx) ⟨f, LH.mk2 ho rfl rfl rfl hl ⟨ceMo.mk, hmr⟩⟩

theorem cs_compare {th : Int32} {f : Nat → Int64} {qq : aH} (h : LH th f qq) (x y : Int32) : CaseI M_La_compare M_Mo_compare [(0, 10, 13, 13), (0, 10, 17, 38)] [.ref 0, .int x, .int y, .ref 48] [.ref 35, .int x, .int y] qq := by
  obtain ⟨m, g, w, P, p, i, s, t, bl, gn, B, F, T, e9, e10, e11, e12, e13, e15, e17, e18, e20, e22, e24, e26, e28, e30, e31, e32, e33, e34, e35, e38, e39, e40, e41, e42, e43, e44, e45, e46, e47, ho, hl, ⟨⟨m13, m14, m15, m16, m17, m18, m31, m36, m24, m25, m30, m33, m34, m35, m37, m38, m39, rfl⟩, hmr⟩, rfl⟩ := h
  have ho2 := ho
  obtain ⟨hm, hg, hw, hP, hpm, hi, hs, ht, hbl, hBF, hT⟩ := ho2
  rcases pr_or x with ⟨r, hr, rfl⟩ | hx
  · rcases pr_or y with ⟨u9, hu, rfl⟩ | hy
    · obtain ⟨h9, h10, h11, h12, h13, h15, h17, h18, h20, h22, h24, h26, h28, h30, h31, h32, h33, h34⟩ := hl
      obtain ⟨mm, tt, c18, sl, ws, rfl⟩ := h18
      obtain ⟨f20, rfl⟩ := h20
      obtain ⟨f22, rfl⟩ := h22
      obtain ⟨f24, rfl⟩ := h24
      obtain ⟨f26, rfl⟩ := h26
      obtain ⟨f28, rfl⟩ := h28
      obtain ⟨f30, rfl⟩ := h30
      obtain ⟨p1, p2, rfl⟩ := h31
      obtain ⟨q1, q2, rfl⟩ := h32
      obtain ⟨h38, h39, h40, h41, h42, h43, h44, h45, h46, h47⟩ := hmr
      obtain ⟨f43, rfl⟩ := h43
      obtain ⟨f44, rfl⟩ := h44
      obtain ⟨f45, rfl⟩ := h45
      obtain ⟨f46, rfl⟩ := h46
      obtain ⟨f47, rfl⟩ := h47
      refine ⟨_, hL_compare rfl (c_F_compare ⟨by omega, hm.2⟩ hg hw hr hBF hu (avQ_ok hm hBF r hr) (avQ_ok hm hBF u9 hu)) (Nat.le_refl _) (Nat.le_refl _) (fun vV qV hV => ?_) (fun E qV hV => Or.inr hV.2.1), fun vV qV hV => ?_⟩
      · obtain ⟨-, rfl, z1, z2, z3, z4, z5, z6, z7, z8, z9, z10, z11, z12, z13, z14, z15, rfl⟩ := hV
        exact ⟨rfl, _, _, rfl, rfl⟩
      · rcases hV with ⟨y0, q1, fV, h1, hf, rfl, rfl⟩ | ⟨E, h1, h2⟩
        · obtain ⟨hne, hy, z1, z2, z3, z4, z5, z6, z7, z8, z9, z10, z11, z12, z13, z14, z15, rfl⟩ := h1
          cases hy
          have e := ox_inj (Option.some.inj hf)
          subst e
          rw [HP_set48]
          refine ⟨Wd.HP, 0, rfl, _, c_Mo_compare hm hg hw hBF (ref_ok hm hBF) hr hu, fun vV qV hV => ?_⟩
          obtain ⟨rfl, z1, z2, z3, z4, z5, z6, z7, z8, z9, z10, rfl⟩ := hV
          rw [if_pos hne, if_pos hne]
          exact ⟨_, rfl, _, LH.mk2 ho rfl rfl rfl ⟨h9, h10, h11, h12, h13, h15, h17, ⟨_, _, _, _, _, rfl⟩, ⟨_, rfl⟩, ⟨_, rfl⟩, ⟨_, rfl⟩, ⟨_, rfl⟩, ⟨_, rfl⟩, ⟨_, rfl⟩, ⟨_, _, rfl⟩, ⟨_, _, rfl⟩, h33, h34⟩ ⟨ceMo.mk, ⟨h38, h39, h40, h41, h42, ⟨_, rfl⟩, ⟨_, rfl⟩, ⟨_, rfl⟩, ⟨_, rfl⟩, ⟨_, rfl⟩⟩⟩, fun _ => updL_0 _ _⟩
        · obtain ⟨hne, rfl, z1, z2, z3, z4, z5, z6, z7, z8, z9, z10, z11, z12, z13, z14, z15, rfl⟩ := h1
          rcases h2 with ⟨hE, -⟩ | ⟨-, rfl⟩
          · exact absurd hE (by decide)
          · refine ⟨Wd.HP, 2, rfl, _, c_Mo_compare hm hg hw hBF (ref_ok hm hBF) hr hu, fun vV qV hV => ?_⟩
            obtain ⟨rfl, z1, z2, z3, z4, z5, z6, z7, z8, z9, z10, rfl⟩ := hV
            rw [if_neg hne, if_neg hne]
            exact ⟨_, rfl, _, LH.mk2 ho rfl rfl rfl ⟨h9, h10, h11, h12, h13, h15, h17, ⟨_, _, _, _, _, rfl⟩, ⟨_, rfl⟩, ⟨_, rfl⟩, ⟨_, rfl⟩, ⟨_, rfl⟩, ⟨_, rfl⟩, ⟨_, rfl⟩, ⟨_, _, rfl⟩, ⟨_, _, rfl⟩, h33, h34⟩ ⟨ceMo.mk, ⟨h38, h39, h40, h41, h42, ⟨_, rfl⟩, ⟨_, rfl⟩, ⟨_, rfl⟩, ⟨_, rfl⟩, ⟨_, rfl⟩⟩⟩, fun c => absurd c (by decide)⟩
    · exact CaseI.ref (rf_compare_IAE rfl (c_F_compare_r2 hr hy)) Wd.HP (by decide) (c_Mo_compare_r2 hr hy) ⟨f, LH.mk2 ho rfl rfl rfl hl ⟨ceMo.mk, hmr⟩⟩
  · exact CaseI.ref (rf_compare_IAE rfl (c_F_compare_r1 hx)) Wd.HP (by decide) (c_Mo_compare_r1 hx) ⟨f, LH.mk2 ho rfl rfl rfl hl ⟨ceMo.mk, hmr⟩⟩
