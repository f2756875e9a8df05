/-! THE LAW'S RUN -/
theorem JR.callSS {L : Nat} {xs : Nat → Int32} {M N : aM} {pc np : Nat} {lv : List (Nat × Value)} {rest : List Value} {hp : aH} {k n : Nat} {O O2 : Option Value → aH → Prop} (site : aSS M N pc np) (nx : Nat) (av : List Value) (hnx : pc + 3 = nx) (hnp : av.length = np) (hcat : (rest.map fun v => v.category).sum ≤ 8) (hM : JMS L xs N av hp O) (hno : ∀ v hp', O v hp' → hp'.length = hp.length)
    (kk : ∀ v hp', O v hp' → JR M (some (L, xs)) (nx, lv, v.toList ++ rest, hp', k, n) O2) : JR M (some (L, xs)) (pc, lv, av.reverse ++ rest, hp, k, n) O2 := J.callSS site av hnp hcat hM hno (fun v hp' h => by rw [hnx]; exact kk v hp' h)
theorem JR.callS {M N : aM} {sc : aScr} {pc np : Nat} {lv : List (Nat × Value)} {rest : List Value} {hp : aH} {k n mc ms : Nat} {O O2 : Option Value → aH → Prop} (site : aSS M N pc np) (nx : Nat) (av : List Value) (hnx : pc + 3 = nx) (hnp : av.length = np) (hcat : (rest.map fun v => v.category).sum ≤ 8) (hM : JM N av hp mc ms O) (hmc : mc ≤ k) (hms : ms ≤ n) (hno : (∀ v hp', O v hp' → hp'.length = hp.length) ∨ (rfL hp.length lv && rest.all (rfV hp.length)) = true)
    (kk : ∀ v hp', O v hp' → JR M sc (nx, lv, v.toList ++ rest, hp', k - mc, n - ms) O2) : JR M sc (pc, lv, av.reverse ++ rest, hp, k, n) O2 := J.callS site av hnp hcat hM hmc hms hno (fun v hp' h => by rw [hnx]; exact kk v hp' h)
theorem JR.callSE {M N : aM} {sc : aScr} {pc np : Nat} {lv : List (Nat × Value)} {rest : List Value} {hp q : aH} {k n : Nat} {O2 : Option Value → aH → Prop} (site : aSS M N pc np) (nx : Nat) (av : List Value) {v : Option Value} (hM : JE N av hp v q) (hnx : pc + 3 = nx) (hnp : av.length = np) (hcat : (rest.map fun v => v.category).sum ≤ 8) (hln : q.length = hp.length)
    (kk : JR M sc (nx, lv, v.toList ++ rest, q, k, n) O2) : JR M sc (pc, lv, av.reverse ++ rest, hp, k, n) O2 := J.callSE site nx av hM hnx hnp hcat hln kk
theorem JR.callVE {M N : aM} {sc : aScr} {pc np : Nat} {lv : List (Nat × Value)} {rest : List Value} {hp q : aH} {k n : Nat} {O2 : Option Value → aH → Prop} (site : aSV M N pc np) (nx a : Nat) (av : List Value) (ci : Nat) {fs : List Value} {qc : vw_C} {v : Option Value} (hM : JE N (.ref a :: av) hp v q) (hnx : pc + 3 = nx) (hnp : av.length = np) (hci : vwCl[ci]? = some qc) (hq : qc.1 = N.1.cls) (hrc : hg hp a = some (.inr (ci, fs))) (hcat : (rest.map fun v => v.category).sum ≤ 8) (hln : q.length = hp.length)
    (kk : JR M sc (nx, lv, v.toList ++ rest, q, k, n) O2) : JR M sc (pc, lv, av.reverse ++ .ref a :: rest, hp, k, n) O2 := J.callVE site nx a av ci hM hnx hnp hci hq hrc hcat hln kk
/-- eight tables -/
theorem lw_tables {L : Nat} {xs : Nat → Int32} (hL : L ≤ 260) {kc kn : Nat} (K : ∀ q, LH 0 q → JR M_La_law (some (L, xs)) (139, [(0, .ref 1000), (1, .ref 0), (2, .ref 35), (3, .ref 36), (4, .int 0)], [], q, kc, kn) (fun (v : Option Value) (_ : aH) => v = some (.int 1))) : ∀ q, LH 0 q → JR M_La_law (some (L, xs)) (92, [(0, .ref 1000), (1, .ref 0), (2, .ref 35), (3, .ref 36), (4, .int 0)], [], q, kc, kn) (fun (v : Option Value) (_ : aH) => v = some (.int 1)) := by
  have H := loopN (P := fun k => ∀ q, LH 0 q → JR M_La_law (some (L, xs)) (92, [(0, .ref 1000), (1, .ref 0), (2, .ref 35), (3, .ref 36), (4, .int (nI k))], [], q, kc, kn) (fun (v : Option Value) (_ : aH) => v = some (.int 1))) (b := 8) ?_ (fun k hk ih => ?_) 0 (Nat.zero_le _)
  · exact H
  · intro q hq
    exact g_lw_12 (K q hq)
  · intro q hq
    refine g_lw_8 hk ?_
    refine JR.callSS (rest := [.ref 0]) s_La_law_107 110 [.ref 1000, .int (nI (1 + 2 * k))] rfl rfl (Nat.le_of_ble_eq_true rfl) (c_La_cell hL (by omega)) (fun v q h => by rw [h.2]) (fun v q h => ?_)
    obtain ⟨⟨c1, h1, rfl⟩, rfl⟩ := h
    refine g_lw_9 ?_
    refine JR.callSS (rest := [.int (nI c1), .ref 0]) s_La_law_117 120 [.ref 1000, .int (nI (2 + 2 * k))] rfl rfl (Nat.le_of_ble_eq_true rfl) (c_La_cell hL (by omega)) (fun v q h => by rw [h.2]) (fun v q h => ?_)
    obtain ⟨⟨c2, h2, rfl⟩, rfl⟩ := h
    refine g_lw_10 ?_
    refine JR.callS (rest := []) s_La_law_122 125 [.ref 0, .int (nI c1), .int (nI c2), .ref 35, .ref 36] rfl rfl (Nat.le_of_ble_eq_true rfl) (table_LH hq h1 h2) (Nat.zero_le _) (Nat.zero_le _) (Or.inl (fun v q' h9 => by rw [h9.2.len, hq.len])) (fun v q' h9 => ?_)
    obtain ⟨rfl, hq2⟩ := h9
    exact g_lw_11 (ih q' hq2)
/-- twenty acts -/
theorem lw_acts {L : Nat} {xs : Nat → Int32} (hd : DF) (hL : L ≤ 260) {kc kn : Nat} (K : ∀ q, LH 20 q → JR M_La_law (some (L, xs)) (215, [], [.ref 36, .ref 35, .ref 0], q, kc, kn) (fun (v : Option Value) (_ : aH) => v = some (.int 1))) : ∀ q, LH 0 q → JR M_La_law (some (L, xs)) (139, [(0, .ref 1000), (1, .ref 0), (2, .ref 35), (3, .ref 36), (4, .int 0)], [], q, kc, kn) (fun (v : Option Value) (_ : aH) => v = some (.int 1)) := by
  have H := loopN (P := fun k => ∀ q, LH k q → JR M_La_law (some (L, xs)) (139, [(0, .ref 1000), (1, .ref 0), (2, .ref 35), (3, .ref 36), (4, .int (nI k))], [], q, kc, kn) (fun (v : Option Value) (_ : aH) => v = some (.int 1))) (b := 20) ?_ (fun k hk ih => ?_) 0 (Nat.zero_le _)
  · exact H
  · intro q hq
    exact g_lw_20 (K q hq)
  · intro q hq
    refine g_lw_13 hk ?_
    refine JR.callSS (rest := [.ref 0]) s_La_law_155 158 [.ref 1000, .int (nI (20 + 2 * k))] rfl rfl (Nat.le_of_ble_eq_true rfl) (c_La_cell hL (by omega)) (fun v q h => by rw [h.2]) (fun v q h => ?_)
    obtain ⟨⟨c1, h1, rfl⟩, rfl⟩ := h
    refine g_lw_14 ?_
    refine JR.callSS (rest := [.int (nI c1), .ref 0]) s_La_law_166 169 [.ref 1000, .int (nI (21 + 2 * k))] rfl rfl (Nat.le_of_ble_eq_true rfl) (c_La_cell hL (by omega)) (fun v q h => by rw [h.2]) (fun v q h => ?_)
    obtain ⟨⟨c2, h2, rfl⟩, rfl⟩ := h
    refine g_lw_15 ?_
    refine JR.callS (rest := []) s_La_law_171 174 [.ref 0, .int (nI c1), .int (nI c2), .ref 35, .ref 36] rfl rfl (Nat.le_of_ble_eq_true rfl) (c_La_act hq (by omega) h1 h2) (Nat.zero_le _) (Nat.zero_le _) (Or.inl (fun v q' h9 => by rw [h9.2.len, hq.len])) (fun v q' h9 => ?_)
    obtain ⟨rfl, hq2⟩ := h9
    refine g_lw_16 ?_
    refine JR.callSE (rest := []) s_La_law_180 183 [.ref 0, .ref 35, .ref 36] (told_LH hd hq2 (by omega)) rfl rfl (Nat.le_of_ble_eq_true rfl) rfl ?_
    refine g_lw_17 ?_
    refine JR.callSS (rest := [.ref 0]) s_La_law_193 196 [.ref 1000, .int (nI (61 + k))] rfl rfl (Nat.le_of_ble_eq_true rfl) (c_La_cell hL (by omega)) (fun v q h => by rw [h.2]) (fun v q h => ?_)
    obtain ⟨⟨c3, h3, rfl⟩, rfl⟩ := h
    refine g_lw_18 ?_
    refine JR.callS (rest := []) s_La_law_198 201 [.ref 0, .int (nI c3), .ref 35, .ref 36] rfl rfl (Nat.le_of_ble_eq_true rfl) (c_La_chances hq2 h3) (Nat.zero_le _) (Nat.zero_le _) (Or.inl (fun v q9 h9 => by rw [h9.2.len, hq2.len])) (fun v q9 h9 => ?_)
    obtain ⟨rfl, hq3⟩ := h9
    exact g_lw_19 (ih q9 hq3)
/-- once round -/
theorem lw_end {L : Nat} {xs : Nat → Int32} {kc kn : Nat} (hkc : 2 ≤ kc) (hkn : 18 ≤ kn) : ∀ q, LH 20 q → JR M_La_law (some (L, xs)) (215, [], [.ref 36, .ref 35, .ref 0], q, kc, kn) (fun (v : Option Value) (_ : aH) => v = some (.int 1)) := by
  intro q hq
  refine JR.callS (rest := []) s_La_law_215 218 [.ref 0, .ref 35, .ref 36] rfl rfl (Nat.le_of_ble_eq_true rfl) (c_La_cycles hq (by decide)) hkc hkn (Or.inr (by rw [hq.len]; rfl)) (fun v q' h9 => ?_)
  subst h9
  exact g_lw_21 rfl

set_option maxRecDepth 100000 in
/-- from the beginning to the tables -/
theorem lw_begin {L : Nat} {xs : Nat → Int32} (hd : DF) (hL : L ≤ 260) {kc kn : Nat} (K : ∀ q, LH 0 q → JR M_La_law (some (L, xs)) (92, [(0, .ref 1000), (1, .ref 0), (2, .ref 35), (3, .ref 36), (4, .int 0)], [], q, kc, kn) (fun (v : Option Value) (_ : aH) => v = some (.int 1))) : JR M_La_law (some (L, xs)) (18, [(0, .ref 1000), (1, .ref 0), (2, .ref 35), (3, .ref 36)], [], (HP (.inr (9, [.ref 1, .ref 6, .int 1, .ref 7, .int 0, .ref 9, .ref 10, .ref 13, .ref 18, .ref 32, .ref 33])) (.inr (8, [.ref 2, .ref 4, .int 3, .int 7, .int 0])) (.inr (4, [.ref 3])) (.inl (1, 12, .inr (.inl (fun _ => 0)))) (.inr (4, [.ref 5])) (.inl (1, 12, .inr (.inl (fun _ => 0)))) (.inr (7, [.int 0, .int 0, .int 0, .int 0, .int 0])) (.inr (4, [.ref 8])) (.inl (1, 60, .inr (.inl (fun _ => 0)))) (.inr (2, [.int 0, .int 0, .int 0, .int 0, .int 0, .int 0, .int 0, .int 0, .int 0])) (.inr (0, [.ref 11, .ref 12, .int 0, .int 0, .int 0])) (.inr (7, [.int 0, .int 0, .int 0, .int 0, .int 0])) (.inr (7, [.int 0, .int 0, .int 0, .int 0, .int 0])) (.inr (6, [.ref 14, .ref 16, .int 0, .int 0, .int 0, .int 0, .long 0, .long 0])) (.inr (4, [.ref 15])) (.inl (1, 132, .inr (.inl (fun _ => 0)))) (.inr (4, [.ref 17])) (.inl (1, 132, .inr (.inl (fun _ => 0)))) (.inr (3, [.ref 19, .ref 21, .ref 23, .ref 25, .ref 27, .ref 29, .ref 31, .int 0, .int 0, .long 0, .long 0, .int 0])) (.inr (4, [.ref 20])) (.inl (1, 16, .inr (.inl (fun _ => 0)))) (.inr (4, [.ref 22])) (.inl (1, 4, .inr (.inl (fun _ => 0)))) (.inr (4, [.ref 24])) (.inl (1, 4, .inr (.inl (fun _ => 0)))) (.inr (4, [.ref 26])) (.inl (1, 4, .inr (.inl (fun _ => 0)))) (.inr (4, [.ref 28])) (.inl (1, 9, .inr (.inl (fun _ => 0)))) (.inr (4, [.ref 30])) (.inl (1, 16, .inr (.inl (fun _ => 0)))) (.inr (1, [.long 0, .long 0])) (.inr (1, [.long 0, .long 0])) (.inr (5, [.ref 34, .int (-1)])) (.inr (1, [.long 0, .long 0])) (.inl (0, 9, .inl (fun _ => 0))) (.inl (0, 12, .inl (fun _ => 0)))), kc, kn) (fun (v : Option Value) (_ : aH) => v = some (.int 1)) := by
  refine g_lw_1 ?_
  refine JR.callSE (rest := []) s_La_law_27 30 [.ref 0, .ref 35, .ref 36] (told_LH hd LH_start (by decide)) rfl rfl (Nat.le_of_ble_eq_true rfl) rfl ?_
  refine g_lw_2 ?_
  obtain ⟨m, g, w, P, p, i, s, t, gn, B, F, T, e9, e10, e11, e12, e13, e15, e17, e18, e20, e22, e24, e26, e28, e30, e31, e32, e33, e34, hO, hl, hq⟩ := LH_start
  refine lw_cy0 (m := 3) (g := 7) (w := 0) (P := 1) (p := 0) (i := 0) (s := 0) (t := 0) (gn := 0) (B := fun _ => 0) (F := fun _ => 0) (Tb := fun _ => 0) ⟨by decide, by decide⟩ (by decide) (by decide) (fun _ => (by decide : 0 + 0 ≤ 10)) (by decide) (by decide) (by decide) (by decide) (by decide) fresh_comes (by decide) (fun a1 a2 a3 b1 b2 b3 b4 b5 d1 d2 d3 d4 d5 => ?_)
  refine g_lw_3 ?_
  refine lw_cy1 (m := 3) (g := 7) (w := 0) (P := 1) (p := 0) (i := 0) (s := 0) (t := 0) (gn := 0) (B := fun _ => 0) (F := fun _ => 0) (Tb := fun _ => 0) ⟨by decide, by decide⟩ (by decide) (by decide) (fun _ => (by decide : 0 + 0 ≤ 10)) (by decide) (by decide) (by decide) (by decide) (by decide) fresh_comes (by decide) (fun a1 a2 a3 b1 b2 b3 b4 b5 d1 d2 d3 d4 d5 => ?_)
  refine g_lw_4 ?_
  refine lw_cy2 (m := 3) (g := 7) (w := 0) (P := 1) (p := 0) (i := 0) (s := 0) (t := 0) (gn := 0) (B := fun _ => 0) (F := fun _ => 0) (Tb := fun _ => 0) ⟨by decide, by decide⟩ (by decide) (by decide) (fun _ => (by decide : 0 + 0 ≤ 10)) (by decide) (by decide) (by decide) (by decide) (by decide) fresh_comes (by decide) (fun a1 a2 a3 b1 b2 b3 b4 b5 d1 d2 d3 d4 d5 => ?_)
  rw [wk_fresh, wk_fresh]
  refine g_lw_5 ?_
  refine JR.callSS (rest := [.int 2]) s_La_law_65 68 [.ref 1000, .int (nI 0)] rfl rfl (Nat.le_of_ble_eq_true rfl) (c_La_cell hL (by decide)) (fun v q h => by rw [h.2]) (fun v q h => ?_)
  obtain ⟨⟨c, hc, rfl⟩, rfl⟩ := h
  refine g_lw_6 hc ?_
  refine JR.callVE (rest := []) s_La_law_80 83 0 [.int (nI (2 + c % 3))] 9 (c_F_begin (m := 3) (g := 7) (w := 0) (B := fun _ => 0) (F := fun _ => 0) (nI_gek 2 (by omega) (by omega)) (nI_le10 4 (by omega) (by decide))) rfl rfl rfl rfl rfl (Nat.le_of_ble_eq_true rfl) rfl ?_
  refine g_lw_7 ?_
  refine K _ ?_
  exact ⟨2 + c % 3, 7, 0, 1, 0, 0, 0, 0, 0, fun _ => 0, fun _ => 0, fun _ => 0, _, _, _, _, _, _, _, _, _, _, _, _, _, _, _, _, _, _,
    ⟨by omega, by decide, by decide, by decide, by omega, by decide, by decide, by decide, fun _ => (by decide : 0 + 0 ≤ 10), fun _ => (by decide : 0 < 128)⟩,
    ⟨⟨0, (0, 0, 0, 0, 0, 0, 0, 0), rfl⟩, ⟨_, _, _, rfl⟩, ⟨_, _, _, _, _, rfl⟩, ⟨_, _, _, _, _, rfl⟩, ⟨_, _, _, _, _, _, rfl⟩, ⟨_, rfl⟩, ⟨_, rfl⟩, ⟨_, _, _, _, _, rfl⟩, ⟨_, rfl⟩, ⟨_, rfl⟩, ⟨_, rfl⟩, ⟨_, rfl⟩, ⟨_, rfl⟩, ⟨_, rfl⟩, ⟨_, _, rfl⟩, ⟨_, _, rfl⟩, ⟨_, rfl⟩, ⟨_, _, rfl⟩⟩, rfl⟩
theorem law_run {L : Nat} {xs : Nat → Int32} (hd : DF) (hL : L ≤ 260) : JR M_La_law (some (L, xs)) (0, [(0, .ref 1000)], [], [], 60, 600) (fun (v : Option Value) (_ : aH) => v = some (.int 1)) :=
  g_lw_0 (fun _ _ hkc hkn => lw_begin hd hL (lw_tables hL (lw_acts hd hL (lw_end hkc hkn))))
