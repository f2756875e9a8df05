/-! THE CALLS, on both sides: texts, the mean, the digest -/
/-- facts of doubles -/
def DF : Prop := (∀ x : Int32, FP.dmul FP.dconst1 (FP.i2d x) = FP.i2d x ∧ vf_n64 (FP.i2d x)) ∧ ∀ (x : Int32) (t : Nat), 0 < t → t ≤ 1000000 → vf_n64 (FP.ddiv (FP.i2d x) (FP.i2d (nI t)))

theorem cs_firstError {th : Int32} {f : Nat → Int64} {qq : aH} (h : LH th f qq) : CaseDI M_F_firstError M_Mo_firstError qq := by
  obtain ⟨m, g, w, P, p, i, s, t, bl, gn, B, F, T, e9, e10, e11, e12, e13, e15, e17, e18, e20, e22, e24, e26, e28, e30, e31, e32, e33, e34, e35, e38, e39, e40, e41, e42, e43, e44, e45, e46, e47, ho, hl, ⟨⟨m13, m14, m15, m16, m17, m18, m31, m36, m24, m25, m30, m33, m34, m35, m37, m38, m39, rfl⟩, hmr⟩, rfl⟩ := h
  have ho2 := ho
  obtain ⟨hm, hg, hw, hP, hpm, hi, hs, ht, hbl, hBF, hT⟩ := ho2
  obtain ⟨h9, h10, h11, h12, h13, h15, h17, h18, h20, h22, h24, h26, h28, h30, h31, h32, h33, h34⟩ := hl
  obtain ⟨q0, x9, rfl⟩ := h9
  obtain ⟨h38, h39, h40, h41, h42, h43, h44, h45, h46, h47⟩ := hmr
  obtain ⟨f38, rfl⟩ := h38
  refine ⟨_, c_F_firstError ⟨by omega, hm.2⟩ hbl hT, fun vV qV hV => ?_⟩
  obtain ⟨rfl, z1, -, rfl⟩ := hV
  refine ⟨Wd.HP, _, rfl, _, c_Mo_firstError (y := (m13, m14, m15, m16, m17, m18)) ⟨by omega, hm.2⟩ hbl hT, fun vV qV hV => ?_⟩
  obtain ⟨rfl, z2, z3, rfl⟩ := hV
  exact ⟨rfl, _, _, LH.mk2 ho rfl rfl rfl ⟨⟨_, z1, rfl⟩, h10, h11, h12, h13, h15, h17, h18, h20, h22, h24, h26, h28, h30, h31, h32, h33, h34⟩ ⟨ceMo.mk, ⟨⟨_, rfl⟩, h39, h40, h41, h42, h43, h44, h45, h46, h47⟩⟩⟩

theorem cs_meanGain {th : Int32} {f : Nat → Int64} {qq : aH} (h : LH th f qq) (hd : DF) : CaseDD M_F_meanGain M_Mo_meanGain qq := by
  obtain ⟨m, g, w, P, p, i, s, t, bl, gn, B, F, T, e9, e10, e11, e12, e13, e15, e17, e18, e20, e22, e24, e26, e28, e30, e31, e32, e33, e34, e35, e38, e39, e40, e41, e42, e43, e44, e45, e46, e47, ho, hl, ⟨⟨m13, m14, m15, m16, m17, m18, m31, m36, m24, m25, m30, m33, m34, m35, m37, m38, m39, rfl⟩, hmr⟩, rfl⟩ := h
  have ho2 := ho
  obtain ⟨hm, hg, hw, hP, hpm, hi, hs, ht, hbl, hBF, hT⟩ := ho2
  refine ⟨_, c_F_meanGain ht (fun c => hd.2 gn t c ht), fun vV qV hV => ?_⟩
  obtain ⟨rfl, rfl⟩ := hV
  refine ⟨Wd.HP, _, rfl, _, c_Mo_meanGain ht (hd.1 gn).1 (by rw [(hd.1 gn).1]; exact (hd.1 gn).2) (fun c => hd.2 gn t c ht), fun vV qV hV => ?_⟩
  obtain ⟨rfl, rfl⟩ := hV
  exact ⟨rfl, _, _, LH.mk2 ho rfl rfl rfl hl ⟨ceMo.mk, hmr⟩⟩

theorem cs_load {th : Int32} {f : Nat → Int64} {qq : aH} (h : LH th f qq) : CaseI M_La_load M_Mo_load [(0, 8, 11, 13)] [.ref 0, .ref 48] [.ref 35] qq := by
  obtain ⟨m, g, w, P, p, i, s, t, bl, gn, B, F, T, e9, e10, e11, e12, e13, e15, e17, e18, e20, e22, e24, e26, e28, e30, e31, e32, e33, e34, e35, e38, e39, e40, e41, e42, e43, e44, e45, e46, e47, ho, hl, ⟨⟨m13, m14, m15, m16, m17, m18, m31, m36, m24, m25, m30, m33, m34, m35, m37, m38, m39, rfl⟩, hmr⟩, rfl⟩ := h
  have ho2 := ho
  obtain ⟨hm, hg, hw, hP, hpm, hi, hs, ht, hbl, hBF, hT⟩ := ho2
  obtain ⟨h9, h10, h11, h12, h13, h15, h17, h18, h20, h22, h24, h26, h28, h30, h31, h32, h33, h34⟩ := hl
  obtain ⟨q0, x9, rfl⟩ := h9
  obtain ⟨h38, h39, h40, h41, h42, h43, h44, h45, h46, h47⟩ := hmr
  obtain ⟨f38, rfl⟩ := h38
  have hld := ld_ok (m := m) (T := T) (by omega) bl 0 rd0 (B, F, P, i) rdI_0 hBF hP hi
  refine ⟨_, hL_load rfl (c_F_load (q0 := q0) (x := x9) (P := P) (i0 := i) (p0 := nI p) (s0 := nI s) (gn := gn) (t0 := nI t) (g := g) (w := w) (B := B) (F := F) ⟨by omega, hm.2⟩ hbl hT) (Nat.le_refl _) (Nat.le_refl _) (fun vV qV hV => ?_) (fun E qV hV => hV.2.1), fun vV qV hV => ?_⟩
  · obtain ⟨-, rfl, z1, rfl⟩ := hV
    exact ⟨rfl, _, _, rfl, rfl⟩
  · rcases hV with ⟨y0, q1, fV, h1, hf, rfl, rfl⟩ | ⟨E, h1, h2⟩
    · obtain ⟨hk, hy, z1, rfl⟩ := h1
      cases hy
      have e := ox_inj (Option.some.inj hf)
      subst e
      rw [HP_set48]
      refine ⟨Wd.HP, 0, rfl, _, c_Mo_load (y := (m13, m14, m15, m16, m17, m18)) ⟨by omega, hm.2⟩ hbl hT, fun vV qV hV => ?_⟩
      rcases hV with ⟨-, rfl, z2, z3, rfl⟩ | ⟨hn, -⟩
      · exact ⟨_, rfl, _, LH.mk2 (P := (ldR m T bl (B, F, P, i)).2.2.2.1) (i := (ldR m T bl (B, F, P, i)).2.2.2.2) (B := (ldR m T bl (B, F, P, i)).2.1) (F := (ldR m T bl (B, F, P, i)).2.2.1) (bl := 0) ⟨hm, hg, hw, hld.2.1, hpm, hld.2.2, hs, ht, by decide, hld.1, hT⟩ rfl rfl rfl ⟨⟨_, z1, rfl⟩, h10, h11, h12, h13, h15, h17, h18, h20, h22, h24, h26, h28, h30, h31, h32, h33, h34⟩ ⟨ceMo.mk, ⟨⟨_, rfl⟩, h39, h40, h41, h42, h43, h44, h45, h46, h47⟩⟩, fun _ => updL_0 _ _⟩
      · exact absurd (hk.symm.trans hn) (by decide)
    · obtain ⟨hk, rfl, z1, rfl⟩ := h1
      obtain ⟨-, rfl⟩ := h2
      refine ⟨Wd.HP, 1, rfl, _, c_Mo_load (y := (m13, m14, m15, m16, m17, m18)) ⟨by omega, hm.2⟩ hbl hT, fun vV qV hV => ?_⟩
      rcases hV with ⟨hn, -⟩ | ⟨-, rfl, z2, z3, rfl⟩
      · exact absurd (hk.symm.trans hn) (by decide)
      · exact ⟨_, rfl, _, LH.mk2 ho rfl rfl rfl ⟨⟨_, z1, rfl⟩, h10, h11, h12, h13, h15, h17, h18, h20, h22, h24, h26, h28, h30, h31, h32, h33, h34⟩ ⟨ceMo.mk, ⟨⟨_, rfl⟩, h39, h40, h41, h42, h43, h44, h45, h46, h47⟩⟩, fun c => absurd c (by decide)⟩

theorem cs_digest {th : Int32} {f : Nat → Int64} {qq : aH} (h : LH th f qq) : CaseDL M_F_digest M_Mo_digest qq := by
  obtain ⟨m, g, w, P, p, i, s, t, bl, gn, B, F, T, e9, e10, e11, e12, e13, e15, e17, e18, e20, e22, e24, e26, e28, e30, e31, e32, e33, e34, e35, e38, e39, e40, e41, e42, e43, e44, e45, e46, e47, ho, hl, ⟨⟨m13, m14, m15, m16, m17, m18, m31, m36, m24, m25, m30, m33, m34, m35, m37, m38, m39, rfl⟩, hmr⟩, rfl⟩ := h
  have ho2 := ho
  obtain ⟨hm, hg, hw, hP, hpm, hi, hs, ht, hbl, hBF, hT⟩ := ho2
  have hkk := wkN_ok (m := m) (g := g) (w := w) (B := B) (F := F) (P := P) (x := (p, i, s, gn)) (by omega) hpm hi hs
  obtain ⟨t0, T9, hc, hT9⟩ := seq_ex (m := m) (g := g) (w := w) (B := B) (F := F) (gn := gn) hm hpm hi hs
  obtain ⟨h9, h10, h11, h12, h13, h15, h17, h18, h20, h22, h24, h26, h28, h30, h31, h32, h33, h34⟩ := hl
  obtain ⟨ca, cb, cc, rfl⟩ := h10
  obtain ⟨a0, a1, a2, a3, a4, rfl⟩ := h11
  obtain ⟨b0, b1, b2, b3, b4, rfl⟩ := h12
  obtain ⟨mo, go, tk, mk, lo, wo, rfl⟩ := h13
  obtain ⟨f15, rfl⟩ := h15
  obtain ⟨f17, rfl⟩ := h17
  obtain ⟨mm, tt, c18, sl, ws, rfl⟩ := h18
  obtain ⟨f20, rfl⟩ := h20
  obtain ⟨f22, rfl⟩ := h22
  obtain ⟨f24, rfl⟩ := h24
  obtain ⟨f26, rfl⟩ := h26
  obtain ⟨f28, rfl⟩ := h28
  obtain ⟨f30, rfl⟩ := h30
  obtain ⟨p1, p2, rfl⟩ := h31
  obtain ⟨fo, rfl⟩ := h33
  obtain ⟨x34, y34, rfl⟩ := h34
  obtain ⟨h38, h39, h40, h41, h42, h43, h44, h45, h46, h47⟩ := hmr
  obtain ⟨f39, rfl⟩ := h39
  obtain ⟨f40, rfl⟩ := h40
  obtain ⟨f41, rfl⟩ := h41
  obtain ⟨f42, rfl⟩ := h42
  obtain ⟨f43, rfl⟩ := h43
  obtain ⟨f44, rfl⟩ := h44
  obtain ⟨f45, rfl⟩ := h45
  obtain ⟨f46, rfl⟩ := h46
  obtain ⟨f47, rfl⟩ := h47
  refine ⟨_, c_F_digest (X := fun k => (wkN m g w B F P (p, i, s, gn) k).1) (Y := fun k => (wkN m g w B F P (p, i, s, gn) k).2.1) (S := fun k => (wkN m g w B F P (p, i, s, gn) k).2.2.1) (G := fun k => (wkN m g w B F P (p, i, s, gn) k).2.2.2) ⟨by omega, hm.2⟩ hg hw hP (plen_le P) (fun j => by have := hBF j; omega) (fun j => by have := hBF j; omega) ht (fun _ => rfl) (fun _ => rfl) (fun _ => rfl) (fun _ => rfl) (fun k => (hkk k).1) (fun k => (hkk k).2.1) (fun k => (hkk k).2.2) hc hT9 hBF (avQ_ok hm hBF) (fun j hj => shQ_ok hm hBF P j hj) hbl, fun vV qV hV => ?_⟩
  obtain ⟨rfl, z1, z2, z3, z4, z5, z6, z7, z8, z9, z10, z11, z12, z13, z14, z15, z16, z17, z18, z19, z20, z21, z22, z23, z24, z25, z26, z27, z28, z29, z30, z31, z32, z33, z34, rfl⟩ := hV
  refine ⟨Wd.HP, _, rfl, _, c_Mo_digest (X := fun k => (wkN m g w B F P (p, i, s, gn) k).1) (Y := fun k => (wkN m g w B F P (p, i, s, gn) k).2.1) (S := fun k => (wkN m g w B F P (p, i, s, gn) k).2.2.1) (G := fun k => (wkN m g w B F P (p, i, s, gn) k).2.2.2 - gn) ⟨by omega, hm.2⟩ hg hw hP hBF (fun _ => rfl) (fun _ => rfl) (fun _ => rfl) (fun k => i32_suba _ _ _) (fun k => (hkk k).1) (fun k => (hkk k).2.1) (fun k => (hkk k).2.2) hc hT9 (Int32.sub_self gn) hm (ref_ok hm hBF) (refS_ok hm hBF) ht hbl (fun j _ => hT j), fun vV qV hV => ?_⟩
  obtain ⟨rfl, z1, z2, z3, z4, z5, z6, z7, z8, z9, z10, z11, z12, z13, z14, z15, z16, z17, z18, z19, z20, rfl⟩ := hV
  exact ⟨(by simp only [i32_sub3]; rfl), _, _, LH.mk2 ho rfl rfl rfl ⟨h9, ⟨_, _, _, rfl⟩, ⟨_, _, _, _, _, rfl⟩, ⟨_, _, _, _, _, rfl⟩, ⟨_, _, _, _, _, _, rfl⟩, ⟨_, rfl⟩, ⟨_, rfl⟩, ⟨_, _, _, _, _, rfl⟩, ⟨_, rfl⟩, ⟨_, rfl⟩, ⟨_, rfl⟩, ⟨_, rfl⟩, ⟨_, rfl⟩, ⟨_, rfl⟩, ⟨_, _, rfl⟩, h32, ⟨_, rfl⟩, ⟨_, _, rfl⟩⟩ ⟨ceMo.mk, ⟨h38, ⟨_, rfl⟩, ⟨_, rfl⟩, ⟨_, rfl⟩, ⟨_, rfl⟩, ⟨_, rfl⟩, ⟨_, rfl⟩, ⟨_, rfl⟩, ⟨_, rfl⟩, ⟨_, rfl⟩⟩⟩⟩
