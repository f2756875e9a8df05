/-! THE REFERENCE: load -/
def enR (r : Rd) : Nat := if r.1 = 0 then r.2.1 else r.2.1 - 1
theorem lev_T {m c k : Nat} {r r' : Rd} {R : Nat → Nat} (h : rdT m c r = some r') (hI : RdI m r) (hK : RdK k r) (hR : ∀ k, k < enR r → R (10 * k) ≤ 3) : ∀ k, k < enR r' → rdA m c r R (10 * k) ≤ 3 := by
  obtain ⟨md, it, le, pa, ba, pr, fo⟩ := r
  unfold RdK at hK
  unfold enR at hR
  dsimp only at hK hR
  match md, h, hI, hK, hR with
  | 0, h, _, hK, hR =>
    rw [rdT_0] at h
    split at h
    · cases h; exact hR
    · split at h
      · cases h; exact hR
      · cases h
  | 1, h, _, hK, hR =>
    rw [rdT_1] at h
    split at h
    · cases h; exact hR
    · cases h
  | 2, h, _, hK, hR =>
    rw [rdT_2] at h
    split at h
    · cases h; exact hR
    · cases h
  | 3, h, _, hK, hR =>
    rw [rdT_3] at h
    split at h
    · cases h
      intro j hj
      have hj2 : j < it - 1 := hj
      show va_up (va_up R (10 * (it - 1) + 1 + 2 * pa) ba) (10 * (it - 1) + 2 + 2 * pa) (c - 48) (10 * j) ≤ 3
      rw [up_ne (by omega), up_ne (by omega)]
      exact hR j hj2
    · cases h
  | 4, h, hI, hK, hR =>
    rw [rdT_4] at h
    have i1 := hI.1
    split at h
    · rename_i hp
      split at h
      · cases h
        rw [show rdA m c (4, it, le, pa, ba, pr, fo) R = R from if_pos hp]
        exact hR
      · cases h
    · rename_i hp
      split at h
      · cases h
        rw [show rdA m c (4, it, le, pa, ba, pr, fo) R = va_up R (10 * (it - 1)) le from if_neg hp]
        intro j hj
        have hj2 : j < it := hj
        by_cases e : j = it - 1
        · rw [e, up_at]; omega
        · rw [up_ne (by omega)]
          exact hR j (show j < it - 1 by omega)
      · cases h
  | 5, h, _, hK, hR =>
    rw [rdT_5] at h
    split at h
    · cases h; exact hR
    · cases h
  | 6, h, _, hK, hR =>
    rw [rdT_6] at h
    split at h
    · cases h; exact hR
    · cases h
  | 7, h, _, hK, hR =>
    rw [rdT_7] at h
    split at h
    · rename_i hc
      cases h
      rw [show rdA m c (7, it, le, pa, ba, pr, fo) R = R from if_neg (by omega)]
      exact hR
    · split at h
      · rename_i hc
        cases h
        rw [show rdA m c (7, it, le, pa, ba, pr, fo) R = va_up (va_up R (10 * (it - 1)) 3) (10 * (it - 1) + 1) pr from if_pos hc]
        intro j hj
        have hj2 : j < it := hj
        rw [up_ne (by omega)]
        by_cases e : j = it - 1
        · rw [e, up_at]; omega
        · rw [up_ne (by omega)]
          exact hR j (show j < it - 1 by omega)
      · cases h
theorem lev_F {m : Nat} {T : Nat → Nat} (hm : 0 < m) (n : Nat) : ∀ (k : Nat) (r : Rd) (R : Nat → Nat), RdI m r → RdK k r → (∀ j, j < enR r → R (10 * j) ≤ 3) → ∀ j, j < enR (feF m T n k r).2 → rdAf m T n k r R (10 * j) ≤ 3 := by
  induction n with
  | zero => exact fun _ _ _ _ _ h => h
  | succ n ih =>
    intro k r R hI hK hR
    cases h : rdT m (T k) r with
    | none =>
      rw [feF_none h, rdAf_none h]
      exact hR
    | some r' =>
      rw [feF_full h, rdAf_some h]
      exact ih (k + 1) r' (rdA m (T k) r R) (RdI_T hm h hI) (RdK_T h hI hK) (lev_T h hI hK hR)
set_option maxRecDepth 100000 in
set_option maxHeartbeats 4000000 in
theorem c_Mo_load {e0 e1 e2 e3 e4 e5 e6 e7 e8 e9 e10 e11 e12 e13 e14 e15 e16 e17 e18 e19 e20 e21 e22 e23 e24 e25 e26 e27 e28 e29 e30 e31 e32 e33 e34 e39 e40 e41 e42 e43 e44 e45 e46 e47 e48 : va_E} {m31 m36 th gn : Int32} {m24 m25 m30 m33 m34 m35 m37 m38 m39 : Int64} {m g w p P i s t bl : Nat} {R T : Nat → Nat} {y : M6} {B F : Nat → Nat} (hm : 0 < m ∧ m ≤ 4) (hbl : bl ≤ 60) (hT : ∀ j, T j < 128) : JM M_Mo_load [.ref 35] (HP e0 e1 e2 e3 e4 e5 e6 e7 e8 e9 e10 e11 e12 e13 e14 e15 e16 e17 e18 e19 e20 e21 e22 e23 e24 e25 e26 e27 e28 e29 e30 e31 e32 e33 e34 (MOb th (nI m) (nI g) (nI w) (nI p) (nI P) (nI i) (nI s) gn (nI t) (nI bl) y.1 y.2.1 y.2.2.1 y.2.2.2.1 y.2.2.2.2.1 y.2.2.2.2.2 m24 m25 m30 m31 m33 m34 m35 m36 m37 m38 m39) (.inl (0, 24, .inl (fun j => nI ((tbF B F) j)))) (.inl (0, 60, .inl (fun j => nI (T j)))) (.inl (0, 300, .inl (fun j => nI (R j)))) e39 e40 e41 e42 e43 e44 e45 e46 e47 e48) 0 0 (fun v9 q9 => (okT m T bl = true ∧ v9 = some (.int (nI (ldR m T bl (B, F, P, i)).1.2.1)) ∧ ∃ (z : M6) (R2 : Nat → Nat), q9 = (HP e0 e1 e2 e3 e4 e5 e6 e7 e8 e9 e10 e11 e12 e13 e14 e15 e16 e17 e18 e19 e20 e21 e22 e23 e24 e25 e26 e27 e28 e29 e30 e31 e32 e33 e34 (MOb 0 (nI m) (nI g) (nI w) (nI p) (nI ((ldR m T bl (B, F, P, i)).2.2.2.1)) (nI ((ldR m T bl (B, F, P, i)).2.2.2.2)) (nI s) gn (nI t) 0 z.1 z.2.1 z.2.2.1 z.2.2.2.1 z.2.2.2.2.1 z.2.2.2.2.2 m24 m25 m30 m31 m33 m34 m35 m36 m37 m38 m39) (.inl (0, 24, .inl (fun j => nI ((tbF (ldR m T bl (B, F, P, i)).2.1 (ldR m T bl (B, F, P, i)).2.2.1) j)))) (.inl (0, 60, .inl (fun j => nI (T j)))) (.inl (0, 300, .inl (fun j => nI (R2 j)))) e39 e40 e41 e42 e43 e44 e45 e46 e47 e48)) ∨ (okT m T bl = false ∧ v9 = some (.int 0) ∧ ∃ (z : M6) (R2 : Nat → Nat), q9 = (HP e0 e1 e2 e3 e4 e5 e6 e7 e8 e9 e10 e11 e12 e13 e14 e15 e16 e17 e18 e19 e20 e21 e22 e23 e24 e25 e26 e27 e28 e29 e30 e31 e32 e33 e34 (MOb 1 (nI m) (nI g) (nI w) (nI p) (nI P) (nI i) (nI s) gn (nI t) (nI bl) z.1 z.2.1 z.2.2.1 z.2.2.2.1 z.2.2.2.2.1 z.2.2.2.2.2 m24 m25 m30 m31 m33 m34 m35 m36 m37 m38 m39) (.inl (0, 24, .inl (fun j => nI ((tbF B F) j)))) (.inl (0, 60, .inl (fun j => nI (T j)))) (.inl (0, 300, .inl (fun j => nI (R2 j)))) e39 e40 e41 e42 e43 e44 e45 e46 e47 e48))) := by
  have hle := feF_le m T bl 0 rd0
  have hK0 : RdK 0 rd0 := Or.inl ⟨rfl, Nat.le_refl _⟩
  have hfal : (¬ okT m T bl = true) → okT m T bl = false := fun h => by cases e : okT m T bl with
    | false => rfl
    | true => exact absurd e h
  refine JM.of (by decide +kernel) rfl (Nat.le_of_ble_eq_true rfl) (g_Mo_ml0 hm hbl hT (by omega) (fun z hz hne => ?_) (fun z hz heq => ?_))
  · exact Or.inr ⟨hfal (fun h => hne (okT_iff.mp h).1), rfl, z, _, rfl⟩
  · obtain ⟨f1, f2, f3, f4⟩ := ldF_paF (s0 := (B, F, P, i)) (T := T) hm bl 0 rd0 R rdI_0 hK0 (by rw [heq]; omega)
    have hlv := lev_F (T := T) hm.1 bl 0 rd0 R rdI_0 hK0 (fun j hj => absurd hj (Nat.not_lt_zero j))
    have hrd := hz heq
    have hend : okT m T bl = true ↔ rdEnd m (feF m T bl 0 rd0).2 := okT_iff.trans ⟨fun h => h.2, fun h => ⟨heq, h⟩⟩
    have hld : (ldR m T bl (B, F, P, i)) = ldF m T bl 0 rd0 (paF m R (B, F, P, i) rd0) := rfl
    rw [← hld] at f1 f2
    generalize (rdAf m T bl 0 rd0 R) = RR at *
    generalize (feF m T bl 0 rd0).2 = r at *
    obtain ⟨md, it, le, pa, ba, pr, fo⟩ := r
    obtain ⟨st, lv, at_, fi, lt, im⟩ := z
    unfold RdK at f4
    unfold enR at hlv
    unfold rdEnd at hend
    dsimp only at f4 hlv hend
    match md, f1, f2, f3, f4, hlv, hrd, hend with
    | 0, _, _, _, _, _, hrd, hend =>
      obtain ⟨h0, h1⟩ := hrd
      dsimp only at h0
      subst h0
      exact g_Mo_ml1 (y := (0, lv, at_, fi, lt, im)) (c_Mo_canEnd_o (show ¬ (0 : Int32) = 4 by decide) (show ¬ (0 : Int32) = 6 by decide)) (Or.inr ⟨hfal (fun h => by have := hend.mp h; omega), rfl, (0, lv, at_, fi, lt, im), _, rfl⟩)
    | 1, _, _, _, _, _, hrd, hend =>
      have h0 := hrd.1
      dsimp only at h0
      subst h0
      exact g_Mo_ml1 (y := (1, lv, at_, fi, lt, im)) (c_Mo_canEnd_o (show ¬ (1 : Int32) = 4 by decide) (show ¬ (1 : Int32) = 6 by decide)) (Or.inr ⟨hfal (fun h => by have := hend.mp h; omega), rfl, (1, lv, at_, fi, lt, im), _, rfl⟩)
    | 2, _, _, _, _, _, hrd, hend =>
      have h0 := hrd.1
      dsimp only at h0
      subst h0
      exact g_Mo_ml1 (y := (2, lv, at_, fi, lt, im)) (c_Mo_canEnd_o (show ¬ (2 : Int32) = 4 by decide) (show ¬ (2 : Int32) = 6 by decide)) (Or.inr ⟨hfal (fun h => by have := hend.mp h; omega), rfl, (2, lv, at_, fi, lt, im), _, rfl⟩)
    | 3, _, _, _, _, _, hrd, hend =>
      have h0 := hrd.1
      dsimp only at h0
      subst h0
      exact g_Mo_ml1 (y := (3, lv, at_, fi, lt, im)) (c_Mo_canEnd_o (show ¬ (3 : Int32) = 4 by decide) (show ¬ (3 : Int32) = 6 by decide)) (Or.inr ⟨hfal (fun h => by have := hend.mp h; omega), rfl, (3, lv, at_, fi, lt, im), _, rfl⟩)
    | 5, _, _, _, _, _, hrd, hend =>
      have h0 := hrd.1
      dsimp only at h0
      subst h0
      exact g_Mo_ml1 (y := (5, lv, at_, fi, lt, im)) (c_Mo_canEnd_o (show ¬ (5 : Int32) = 4 by decide) (show ¬ (5 : Int32) = 6 by decide)) (Or.inr ⟨hfal (fun h => by have := hend.mp h; omega), rfl, (5, lv, at_, fi, lt, im), _, rfl⟩)
    | 6, _, _, _, _, _, hrd, hend =>
      obtain ⟨h0, h1, h2, h3⟩ := hrd
      dsimp only at h0 h3
      subst h0; subst h3
      exact g_Mo_ml1 (y := (6, lv, at_, fi, 0, im)) c_Mo_canEnd_6 (Or.inr ⟨hfal (fun h => by have := hend.mp h; omega), rfl, (6, lv, at_, fi, 0, im), _, rfl⟩)
    | 4, f1, f2, f3, f4, hlv, hrd, hend =>
      obtain ⟨h0, h1, h2, h3⟩ := hrd
      dsimp only at h0 h1 h2 h3
      subst h0; subst h1; subst h2; subst h3
      obtain ⟨i1, i2, i3, i4⟩ := f3
      by_cases c0 : pa < m
      · exact g_Mo_ml1 (y := (4, nI le, nI pa, fi, lt, nI (it - 1))) (c_Mo_canEnd_4f hm.2 c0) (Or.inr ⟨hfal (fun h => by have := hend.mp h; omega), rfl, (4, nI le, nI pa, fi, lt, nI (it - 1)), _, rfl⟩)
      · obtain rfl : pa = m := by omega
        obtain ⟨n, rfl⟩ : ∃ n, it = n + 1 := ⟨it - 1, by omega⟩
        have hok := hend.mpr (Or.inr ⟨rfl, rfl⟩)
        refine g_Mo_ml2 (y := (4, nI le, nI pa, fi, lt, nI n)) (z := (0, nI le, nI pa, fi, lt, 0)) (R2 := va_up RR (10 * n) le) (n := n + 1) (c_Mo_canEnd_4t hm.2) (c_Mo_endItem_l i1 (by omega)) ?_
        have KI := Mo_items (e0 := e0) (e1 := e1) (e2 := e2) (e3 := e3) (e4 := e4) (e5 := e5) (e6 := e6) (e7 := e7) (e8 := e8) (e9 := e9) (e10 := e10) (e11 := e11) (e12 := e12) (e13 := e13) (e14 := e14) (e15 := e15) (e16 := e16) (e17 := e17) (e18 := e18) (e19 := e19) (e20 := e20) (e21 := e21) (e22 := e22) (e23 := e23) (e24 := e24) (e25 := e25) (e26 := e26) (e27 := e27) (e28 := e28) (e29 := e29) (e30 := e30) (e31 := e31) (e32 := e32) (e33 := e33) (e34 := e34) (e37 := (.inl (0, 60, .inl (fun j => nI (T j))))) (e39 := e39) (e40 := e40) (e41 := e41) (e42 := e42) (e43 := e43) (e44 := e44) (e45 := e45) (e46 := e46) (e47 := e47) (e48 := e48) (m := pa) (R := va_up RR (10 * n) le) (y := (0, nI le, nI pa, fi, lt, 0)) (n := n + 1) (B := B) (F := F) (P := P) (i := i) (bl := bl) (th := 0) (gn := gn) (m31 := m31) (m36 := m36) (m24 := m24) (m25 := m25) (m30 := m30) (m33 := m33) (m34 := m34) (m35 := m35) (m37 := m37) (m38 := m38) (m39 := m39) (g := g) (w := w) (p := p) (s := s) (t := t) hm.2 (by omega) (fun k hk => by
          by_cases e : k = n
          · rw [e, up_at]; omega
          · rw [up_ne (by omega)]; exact hlv k (show k < n + 1 - 1 by omega))
        rw [paF_endL hm.2 i1] at KI
        have e2 : (ldR pa T bl (B, F, P, i)).2 = apI le RR n pa (apF pa RR n (B, F, P, i)) := f2
        refine J.mono KI (fun T9 h => ?_)
        obtain ⟨v, h1, h2⟩ := h
        refine ⟨v, h1, Or.inl ⟨hok, ?_, (0, nI le, nI pa, fi, lt, nI (n + 1)), va_up RR (10 * n) le, ?_⟩⟩
        · rw [f1]; exact h2.1
        · rw [e2]; exact h2.2
    | 7, f1, f2, f3, f4, hlv, hrd, hend =>
      obtain ⟨h0, h1, h2, h3⟩ := hrd
      dsimp only at h0 h1 h2 h3
      subst h0; subst h1; subst h2; subst h3
      have hp := isPr_bd f3
      obtain ⟨n, rfl⟩ : ∃ n, it = n + 1 := ⟨it - 1, by omega⟩
      have hok := hend.mpr (Or.inl rfl)
      refine g_Mo_ml2 (y := (6, 3, at_, fi, nI pr, nI n)) (z := (0, 3, at_, fi, nI pr, 0)) (R2 := va_up (va_up RR (10 * n) 3) (10 * n + 1) pr) (n := n + 1) (c_Mo_canEnd_7 hp.1 hp.2) (c_Mo_endItem_p (by omega)) ?_
      have KI := Mo_items (e0 := e0) (e1 := e1) (e2 := e2) (e3 := e3) (e4 := e4) (e5 := e5) (e6 := e6) (e7 := e7) (e8 := e8) (e9 := e9) (e10 := e10) (e11 := e11) (e12 := e12) (e13 := e13) (e14 := e14) (e15 := e15) (e16 := e16) (e17 := e17) (e18 := e18) (e19 := e19) (e20 := e20) (e21 := e21) (e22 := e22) (e23 := e23) (e24 := e24) (e25 := e25) (e26 := e26) (e27 := e27) (e28 := e28) (e29 := e29) (e30 := e30) (e31 := e31) (e32 := e32) (e33 := e33) (e34 := e34) (e37 := (.inl (0, 60, .inl (fun j => nI (T j))))) (e39 := e39) (e40 := e40) (e41 := e41) (e42 := e42) (e43 := e43) (e44 := e44) (e45 := e45) (e46 := e46) (e47 := e47) (e48 := e48) (m := m) (R := va_up (va_up RR (10 * n) 3) (10 * n + 1) pr) (y := (0, 3, at_, fi, nI pr, 0)) (n := n + 1) (B := B) (F := F) (P := P) (i := i) (bl := bl) (th := 0) (gn := gn) (m31 := m31) (m36 := m36) (m24 := m24) (m25 := m25) (m30 := m30) (m33 := m33) (m34 := m34) (m35 := m35) (m37 := m37) (m38 := m38) (m39 := m39) (g := g) (w := w) (p := p) (s := s) (t := t) hm.2 (by omega) (fun k hk => by
        rw [up_ne (by omega)]
        by_cases e : k = n
        · rw [e, up_at]; omega
        · rw [up_ne (by omega)]; exact hlv k (show k < n + 1 - 1 by omega))
      rw [paF_endP hm.2] at KI
      have e2 : (ldR m T bl (B, F, P, i)).2 = ((apF m RR n (B, F, P, i)).1, (apF m RR n (B, F, P, i)).2.1, pr, 0) := f2
      refine J.mono KI (fun T9 h => ?_)
      obtain ⟨v, h1, h2⟩ := h
      refine ⟨v, h1, Or.inl ⟨hok, ?_, (0, 3, at_, fi, nI pr, nI (n + 1)), va_up (va_up RR (10 * n) 3) (10 * n + 1) pr, ?_⟩⟩
      · rw [f1]; exact h2.1
      · rw [e2]; exact h2.2
