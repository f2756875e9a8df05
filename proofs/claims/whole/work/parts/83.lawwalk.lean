/-! THE LAW'S BODY: a call of the class, the same call of the reference, what they say is compared -/
theorem swT_at {x : Int32} {c : Nat} (lo hi : Int) (tg : List Nat) (df : Nat) (h : x = nI c) (t : Nat) (ht : swT lo hi tg df (nI c) = t) : swT lo hi tg df x = t := by rw [h]; exact ht
theorem and31 (x : Int32) : ∃ c : Nat, c < 32 ∧ x &&& 31 = nI c := by
  refine ⟨(x &&& 31).toBitVec.toNat, ?_, ?_⟩
  · show (x.toBitVec &&& 31#32).toNat < 32
    rw [BitVec.toNat_and]
    exact Nat.lt_of_le_of_lt Nat.and_le_right (by decide)
  · apply Int32.toBitVec_inj.mp
    show (x &&& 31).toBitVec = BitVec.ofNat 32 _
    rw [BitVec.ofNat_toNat, BitVec.setWidth_eq]
theorem swT_out {c : Nat} (h1 : 25 ≤ c) (h2 : c < 32) : swT 0 24 [152, 208, 300, 384, 468, 524, 592, 648, 704, 717, 730, 774, 830, 897, 964, 1055, 1122, 1201, 1257, 1325, 1392, 1405, 1461, 1529, 1570] 1584 (nI c) = 1584 := by
  have h : c = 25 ∨ c = 26 ∨ c = 27 ∨ c = 28 ∨ c = 29 ∨ c = 30 ∨ c = 31 := by omega
  rcases h with rfl | rfl | rfl | rfl | rfl | rfl | rfl <;> rfl
theorem subL {L i : Nat} (hL : L ≤ 2560) (hi : i < 100000) : nI L - 5 < nI i ↔ L < i + 5 := by
  have h1 : (nI L - 5).toInt = (L : Int) - 5 := by
    rw [Int32.toInt_sub, nI_toInt (by omega), show (5 : Int32).toInt = 5 from rfl]
    apply Int.bmod_eq_of_le <;> omega
  rw [Int32.lt_iff_toInt_lt, h1, nI_toInt (by omega)]
  omega

set_option maxRecDepth 100000 in
set_option maxHeartbeats 400000 in
theorem gA_begin {hh : aH} {L i : Nat} {xs : Nat → Int32}  {kc kn : Nat} {O : Option Value → aH → Prop} (hL : L ≤ 2560) (hi : i + 5 ≤ L) (K1 : JR (M_La_law L xs) (some (L, xs)) (160, [(0, .ref 1000), (1, .ref 0), (2, .ref 35), (3, .ref 48), (4, .int (nI i))], [.ref 48, .int (xs (i + 1)), .ref 0], hh, kc, kn) O) : JR (M_La_law L xs) (some (L, xs)) (152, [(0, .ref 1000), (1, .ref 0), (2, .ref 35), (3, .ref 48), (4, .int (nI i))], [], hh, kc, kn) O := by
  refine J.gp (ok_La_law (L := L) (xs := xs)) 5 (158, [(0, .ref 1000), (1, .ref 0), (2, .ref 35), (3, .ref 48), (4, .int (nI i))], [.int (nI i + 1), .ref 1000, .ref 0], _, _, _) rfl ?_
  rw [show ((nI i + 1) : Int32) = nI (i + 1) from nI_add i 1]
  refine J.sldB (ok_La_law (L := L) (xs := xs)) 159 (i + 1) rfl (rfl) (by omega) (by omega) ?_
  refine J.gp (ok_La_law (L := L) (xs := xs)) 1 (160, [(0, .ref 1000), (1, .ref 0), (2, .ref 35), (3, .ref 48), (4, .int (nI i))], [.ref 48, .int (xs (i + 1)), .ref 0], _, _, _) rfl ?_
  exact K1

set_option maxRecDepth 100000 in
set_option maxHeartbeats 400000 in
theorem gB_begin {hh : aH} {L i : Nat} {xs : Nat → Int32} {k : Int32}  {kc kn : Nat} {O : Option Value → aH → Prop} (hL : L ≤ 2560) (hi : i + 5 ≤ L) (K1 : JR (M_La_law L xs) (some (L, xs)) (172, [(0, .ref 1000), (1, .ref 0), (2, .ref 35), (3, .ref 48), (4, .int (nI i)), (5, .int k)], [.int (xs (i + 1)), .ref 35], hh, kc, kn) O) : JR (M_La_law L xs) (some (L, xs)) (163, [(0, .ref 1000), (1, .ref 0), (2, .ref 35), (3, .ref 48), (4, .int (nI i))], [.int k], hh, kc, kn) O := by
  refine J.gp (ok_La_law (L := L) (xs := xs)) 6 (171, [(0, .ref 1000), (1, .ref 0), (2, .ref 35), (3, .ref 48), (4, .int (nI i)), (5, .int k)], [.int (nI i + 1), .ref 1000, .ref 35], _, _, _) rfl ?_
  rw [show ((nI i + 1) : Int32) = nI (i + 1) from nI_add i 1]
  refine J.sldB (ok_La_law (L := L) (xs := xs)) 172 (i + 1) rfl (rfl) (by omega) (by omega) ?_
  exact K1

set_option maxRecDepth 100000 in
set_option maxHeartbeats 400000 in
theorem gC_begin {hh : aH} {L i : Nat} {xs : Nat → Int32} {k : Int32} {b : Int32}  {kc kn : Nat} {O : Option Value → aH → Prop} (hL : L ≤ 2560) (hi : i + 5 ≤ L) (K1 : JR (M_La_law L xs) (some (L, xs)) (178, [(0, .ref 1000), (1, .ref 0), (2, .ref 35), (3, .ref 48), (4, .int (nI i)), (5, .int k), (6, .int b)], [.ref 35], hh, kc, kn) O) : JR (M_La_law L xs) (some (L, xs)) (175, [(0, .ref 1000), (1, .ref 0), (2, .ref 35), (3, .ref 48), (4, .int (nI i)), (5, .int k)], [.int b], hh, kc, kn) O := by
  refine J.gp (ok_La_law (L := L) (xs := xs)) 2 (178, [(0, .ref 1000), (1, .ref 0), (2, .ref 35), (3, .ref 48), (4, .int (nI i)), (5, .int k), (6, .int b)], [.ref 35], _, _, _) rfl ?_
  exact K1

set_option maxRecDepth 100000 in
set_option maxHeartbeats 400000 in
theorem gD_begin {e0 e1 e2 e3 e4 e5 e6 e7 e8 e9 e10 e11 e12 e13 e14 e15 e16 e17 e18 e19 e20 e21 e22 e23 e24 e25 e26 e27 e28 e29 e30 e31 e32 e33 e34 e35 e36 e37 e38 e39 e40 e41 e42 e43 e44 e45 e46 e47 : va_E} {L i : Nat} {xs : Nat → Int32} {k : Int32} {b : Int32} {f : Nat → Int64}  {kc kn : Nat} {O : Option Value → aH → Prop} (hL : L ≤ 2560) (hi : i + 5 ≤ L) (hb : k = 0 → f 0 = b.toInt64) (K1 : (¬ k = 0) → JR (M_La_law L xs) (some (L, xs)) (1584, [(0, .ref 1000), (1, .ref 0), (2, .ref 35), (3, .ref 48), (4, .int (nI i))], [], (HP e0 e1 e2 e3 e4 e5 e6 e7 e8 e9 e10 e11 e12 e13 e14 e15 e16 e17 e18 e19 e20 e21 e22 e23 e24 e25 e26 e27 e28 e29 e30 e31 e32 e33 e34 e35 e36 e37 e38 e39 e40 e41 e42 e43 e44 e45 e46 e47 (.inl (1, 1, .inr (.inl f)))), kc, kn) O) (K2 : (¬ (¬ k = 0)) → JR (M_La_law L xs) (some (L, xs)) (1584, [(0, .ref 1000), (1, .ref 0), (2, .ref 35), (3, .ref 48), (4, .int (nI i))], [], (HP e0 e1 e2 e3 e4 e5 e6 e7 e8 e9 e10 e11 e12 e13 e14 e15 e16 e17 e18 e19 e20 e21 e22 e23 e24 e25 e26 e27 e28 e29 e30 e31 e32 e33 e34 e35 e36 e37 e38 e39 e40 e41 e42 e43 e44 e45 e46 e47 (.inl (1, 1, .inr (.inl f)))), kc, kn) O) : JR (M_La_law L xs) (some (L, xs)) (181, [(0, .ref 1000), (1, .ref 0), (2, .ref 35), (3, .ref 48), (4, .int (nI i)), (5, .int k), (6, .int b)], [.int k], (HP e0 e1 e2 e3 e4 e5 e6 e7 e8 e9 e10 e11 e12 e13 e14 e15 e16 e17 e18 e19 e20 e21 e22 e23 e24 e25 e26 e27 e28 e29 e30 e31 e32 e33 e34 e35 e36 e37 e38 e39 e40 e41 e42 e43 e44 e45 e46 e47 (.inl (1, 1, .inr (.inl f)))), kc, kn) O := by
  refine J.gp (ok_La_law (L := L) (xs := xs)) 1 (183, [(0, .ref 1000), (1, .ref 0), (2, .ref 35), (3, .ref 48), (4, .int (nI i)), (5, .int k), (6, .int b)], [.int k, .int k], _, _, _) rfl ?_
  refine J.icT (ok_La_law (L := L) (xs := xs)) (fun x y => x = y) 188 186 rfl (rfl) ?_
  refine J.gp (ok_La_law (L := L) (xs := xs)) 1 (190, [(0, .ref 1000), (1, .ref 0), (2, .ref 35), (3, .ref 48), (4, .int (nI i)), (5, .int k), (6, .int b)], [.int k], _, _, _) rfl ?_
  refine J.ifB (ok_La_law (L := L) (xs := xs)) (fun x => ¬ x = 0) 205 193 rfl (fun (c190 : ¬ k = 0) => ?_) (fun (c190 : ¬ (¬ k = 0)) => ?_)
  · refine J.gp (ok_La_law (L := L) (xs := xs)) 1 (1584, [(0, .ref 1000), (1, .ref 0), (2, .ref 35), (3, .ref 48), (4, .int (nI i)), (5, .int k), (6, .int b)], [], _, _, _) rfl ?_
    refine J.lv [0, 1, 2, 3, 4] [(0, .ref 1000), (1, .ref 0), (2, .ref 35), (3, .ref 48), (4, .int (nI i))] rfl ?_
    exact K1 c190
  · refine J.gp (ok_La_law (L := L) (xs := xs)) 2 (195, [(0, .ref 1000), (1, .ref 0), (2, .ref 35), (3, .ref 48), (4, .int (nI i)), (5, .int k), (6, .int b)], [.int 0, .ref 48], _, _, _) rfl ?_
    refine J.laldB (ok_La_law (L := L) (xs := xs)) 196 0 rfl rfl (rfl) (by omega) (by decide) ?_
    refine J.gp (ok_La_law (L := L) (xs := xs)) 3 (200, [(0, .ref 1000), (1, .ref 0), (2, .ref 35), (3, .ref 48), (4, .int (nI i)), (5, .int k), (6, .int b)], [.int (lg_cmp (f 0) (b.toInt64))], _, _, _) rfl ?_
    refine J.ifT (ok_La_law (L := L) (xs := xs)) (fun x => x = 0) 205 203 rfl (cmp_eq.mpr (hb (Classical.byContradiction c190))) ?_
    refine J.gp (ok_La_law (L := L) (xs := xs)) 1 (1584, [(0, .ref 1000), (1, .ref 0), (2, .ref 35), (3, .ref 48), (4, .int (nI i)), (5, .int k), (6, .int b)], [], _, _, _) rfl ?_
    refine J.lv [0, 1, 2, 3, 4] [(0, .ref 1000), (1, .ref 0), (2, .ref 35), (3, .ref 48), (4, .int (nI i))] rfl ?_
    exact K2 c190

theorem lc_begin {L i : Nat} {xs : Nat → Int32} {hp : aH} {kc kn : Nat} {O : Option Value → aH → Prop} (hL : L ≤ 2560) (hi : i + 5 ≤ L) (hw : Wd hp) (hk : 1 ≤ kc) (hn : 6 ≤ kn) (hc : CaseI M_La_begin M_Mo_begin [(0, 9, 12, 13)] [.ref 0, .int (xs (i + 1)), .ref 48] [.ref 35, .int (xs (i + 1))] hp) (K : ∀ th f q, LH th f q → JR (M_La_law L xs) (some (L, xs)) (1584, [(0, .ref 1000), (1, .ref 0), (2, .ref 35), (3, .ref 48), (4, .int (nI i))], [], q, kc - 1, kn - 6) O) : JR (M_La_law L xs) (some (L, xs)) (152, [(0, .ref 1000), (1, .ref 0), (2, .ref 35), (3, .ref 48), (4, .int (nI i))], [], hp, kc, kn) O := by
  obtain ⟨Oa, hJ, hA⟩ := hc
  refine gA_begin hL hi ?_
  refine J.callSH (rest := []) s_La_law_160 [.ref 0, .int (xs (i + 1)), .ref 48] rfl (Nat.le_of_ble_eq_true rfl) hJ hk hn (Or.inr (by rw [hw.1]; rfl)) (fun v q h => ?_)
  obtain ⟨⟨hq, -, fs, h35⟩, k, rfl, O2, hM, hB⟩ := hA v q h
  refine J.gp (ok_La_law (L := L) (xs := xs)) 0 (163, [(0, .ref 1000), (1, .ref 0), (2, .ref 35), (3, .ref 48), (4, .int (nI i))], [.int k], q, _, _) rfl ?_
  refine gB_begin hL hi ?_
  refine J.callV (rest := []) s_La_law_172 35 [.int (xs (i + 1))] 10 fs _ rfl rfl rfl h35 (Nat.le_of_ble_eq_true rfl) hM (Nat.zero_le _) (Nat.zero_le _) (Or.inl (fun v2 q2 h2 => ?_)) (fun v2 q2 h2 => ?_)
  · obtain ⟨b, -, f, hLH, -⟩ := hB v2 q2 h2
    rw [hLH.len, hq]
  · obtain ⟨b, rfl, f, hLH, hb⟩ := hB v2 q2 h2
    refine J.gp (ok_La_law (L := L) (xs := xs)) 0 (175, [(0, .ref 1000), (1, .ref 0), (2, .ref 35), (3, .ref 48), (4, .int (nI i)), (5, .int k)], [.int b], q2, _, _) rfl ?_
    refine gC_begin hL hi ?_
    have hLH2 := hLH
    obtain ⟨m, g, w, P, p, i9, s, t, bl, gn, B, F, T, e9, e10, e11, e12, e13, e15, e17, e18, e20, e22, e24, e26, e28, e30, e31, e32, e33, e34, e35, e38, e39, e40, e41, e42, e43, e44, e45, e46, e47, -, -, ⟨⟨m13, m14, m15, m16, m17, m18, m31, m36, m24, m25, m30, m33, m34, m35, m37, m38, m39, rfl⟩, -⟩, rfl⟩ := hLH
    refine J.callVE (rest := []) s_La_law_178 181 35 [] 10 c_Mo_thrown rfl rfl rfl rfl rfl (Nat.le_of_ble_eq_true rfl) rfl ?_
    exact gD_begin hL hi hb (fun _ => K _ _ _ hLH2) (fun _ => K _ _ _ hLH2)

set_option maxRecDepth 100000 in
set_option maxHeartbeats 400000 in
theorem gA_setTable {hh : aH} {L i : Nat} {xs : Nat → Int32}  {kc kn : Nat} {O : Option Value → aH → Prop} (hL : L ≤ 2560) (hi : i + 5 ≤ L) (K1 : JR (M_La_law L xs) (some (L, xs)) (234, [(0, .ref 1000), (1, .ref 0), (2, .ref 35), (3, .ref 48), (4, .int (nI i))], [.ref 48, .int (xs (i + 4)), .int (xs (i + 3)), .int (xs (i + 2)), .int (xs (i + 1)), .ref 0], hh, kc, kn) O) : JR (M_La_law L xs) (some (L, xs)) (208, [(0, .ref 1000), (1, .ref 0), (2, .ref 35), (3, .ref 48), (4, .int (nI i))], [], hh, kc, kn) O := by
  refine J.gp (ok_La_law (L := L) (xs := xs)) 5 (214, [(0, .ref 1000), (1, .ref 0), (2, .ref 35), (3, .ref 48), (4, .int (nI i))], [.int (nI i + 1), .ref 1000, .ref 0], _, _, _) rfl ?_
  rw [show ((nI i + 1) : Int32) = nI (i + 1) from nI_add i 1]
  refine J.sldB (ok_La_law (L := L) (xs := xs)) 215 (i + 1) rfl (rfl) (by omega) (by omega) ?_
  refine J.gp (ok_La_law (L := L) (xs := xs)) 4 (220, [(0, .ref 1000), (1, .ref 0), (2, .ref 35), (3, .ref 48), (4, .int (nI i))], [.int (nI i + 2), .ref 1000, .int (xs (i + 1)), .ref 0], _, _, _) rfl ?_
  rw [show ((nI i + 2) : Int32) = nI (i + 2) from nI_add i 2]
  refine J.sldB (ok_La_law (L := L) (xs := xs)) 221 (i + 2) rfl (rfl) (by omega) (by omega) ?_
  refine J.gp (ok_La_law (L := L) (xs := xs)) 4 (226, [(0, .ref 1000), (1, .ref 0), (2, .ref 35), (3, .ref 48), (4, .int (nI i))], [.int (nI i + 3), .ref 1000, .int (xs (i + 2)), .int (xs (i + 1)), .ref 0], _, _, _) rfl ?_
  rw [show ((nI i + 3) : Int32) = nI (i + 3) from nI_add i 3]
  refine J.sldB (ok_La_law (L := L) (xs := xs)) 227 (i + 3) rfl (rfl) (by omega) (by omega) ?_
  refine J.gp (ok_La_law (L := L) (xs := xs)) 4 (232, [(0, .ref 1000), (1, .ref 0), (2, .ref 35), (3, .ref 48), (4, .int (nI i))], [.int (nI i + 4), .ref 1000, .int (xs (i + 3)), .int (xs (i + 2)), .int (xs (i + 1)), .ref 0], _, _, _) rfl ?_
  rw [show ((nI i + 4) : Int32) = nI (i + 4) from nI_add i 4]
  refine J.sldB (ok_La_law (L := L) (xs := xs)) 233 (i + 4) rfl (rfl) (by omega) (by omega) ?_
  refine J.gp (ok_La_law (L := L) (xs := xs)) 1 (234, [(0, .ref 1000), (1, .ref 0), (2, .ref 35), (3, .ref 48), (4, .int (nI i))], [.ref 48, .int (xs (i + 4)), .int (xs (i + 3)), .int (xs (i + 2)), .int (xs (i + 1)), .ref 0], _, _, _) rfl ?_
  exact K1

set_option maxRecDepth 100000 in
set_option maxHeartbeats 400000 in
theorem gB_setTable {hh : aH} {L i : Nat} {xs : Nat → Int32} {k : Int32}  {kc kn : Nat} {O : Option Value → aH → Prop} (hL : L ≤ 2560) (hi : i + 5 ≤ L) (K1 : JR (M_La_law L xs) (some (L, xs)) (264, [(0, .ref 1000), (1, .ref 0), (2, .ref 35), (3, .ref 48), (4, .int (nI i)), (5, .int k)], [.int (xs (i + 4)), .int (xs (i + 3)), .int (xs (i + 2)), .int (xs (i + 1)), .ref 35], hh, kc, kn) O) : JR (M_La_law L xs) (some (L, xs)) (237, [(0, .ref 1000), (1, .ref 0), (2, .ref 35), (3, .ref 48), (4, .int (nI i))], [.int k], hh, kc, kn) O := by
  refine J.gp (ok_La_law (L := L) (xs := xs)) 6 (245, [(0, .ref 1000), (1, .ref 0), (2, .ref 35), (3, .ref 48), (4, .int (nI i)), (5, .int k)], [.int (nI i + 1), .ref 1000, .ref 35], _, _, _) rfl ?_
  rw [show ((nI i + 1) : Int32) = nI (i + 1) from nI_add i 1]
  refine J.sldB (ok_La_law (L := L) (xs := xs)) 246 (i + 1) rfl (rfl) (by omega) (by omega) ?_
  refine J.gp (ok_La_law (L := L) (xs := xs)) 4 (251, [(0, .ref 1000), (1, .ref 0), (2, .ref 35), (3, .ref 48), (4, .int (nI i)), (5, .int k)], [.int (nI i + 2), .ref 1000, .int (xs (i + 1)), .ref 35], _, _, _) rfl ?_
  rw [show ((nI i + 2) : Int32) = nI (i + 2) from nI_add i 2]
  refine J.sldB (ok_La_law (L := L) (xs := xs)) 252 (i + 2) rfl (rfl) (by omega) (by omega) ?_
  refine J.gp (ok_La_law (L := L) (xs := xs)) 4 (257, [(0, .ref 1000), (1, .ref 0), (2, .ref 35), (3, .ref 48), (4, .int (nI i)), (5, .int k)], [.int (nI i + 3), .ref 1000, .int (xs (i + 2)), .int (xs (i + 1)), .ref 35], _, _, _) rfl ?_
  rw [show ((nI i + 3) : Int32) = nI (i + 3) from nI_add i 3]
  refine J.sldB (ok_La_law (L := L) (xs := xs)) 258 (i + 3) rfl (rfl) (by omega) (by omega) ?_
  refine J.gp (ok_La_law (L := L) (xs := xs)) 4 (263, [(0, .ref 1000), (1, .ref 0), (2, .ref 35), (3, .ref 48), (4, .int (nI i)), (5, .int k)], [.int (nI i + 4), .ref 1000, .int (xs (i + 3)), .int (xs (i + 2)), .int (xs (i + 1)), .ref 35], _, _, _) rfl ?_
  rw [show ((nI i + 4) : Int32) = nI (i + 4) from nI_add i 4]
  refine J.sldB (ok_La_law (L := L) (xs := xs)) 264 (i + 4) rfl (rfl) (by omega) (by omega) ?_
  exact K1

set_option maxRecDepth 100000 in
set_option maxHeartbeats 400000 in
theorem gC_setTable {hh : aH} {L i : Nat} {xs : Nat → Int32} {k : Int32} {b : Int32}  {kc kn : Nat} {O : Option Value → aH → Prop} (hL : L ≤ 2560) (hi : i + 5 ≤ L) (K1 : JR (M_La_law L xs) (some (L, xs)) (270, [(0, .ref 1000), (1, .ref 0), (2, .ref 35), (3, .ref 48), (4, .int (nI i)), (5, .int k), (6, .int b)], [.ref 35], hh, kc, kn) O) : JR (M_La_law L xs) (some (L, xs)) (267, [(0, .ref 1000), (1, .ref 0), (2, .ref 35), (3, .ref 48), (4, .int (nI i)), (5, .int k)], [.int b], hh, kc, kn) O := by
  refine J.gp (ok_La_law (L := L) (xs := xs)) 2 (270, [(0, .ref 1000), (1, .ref 0), (2, .ref 35), (3, .ref 48), (4, .int (nI i)), (5, .int k), (6, .int b)], [.ref 35], _, _, _) rfl ?_
  exact K1

set_option maxRecDepth 100000 in
set_option maxHeartbeats 400000 in
theorem gD_setTable {e0 e1 e2 e3 e4 e5 e6 e7 e8 e9 e10 e11 e12 e13 e14 e15 e16 e17 e18 e19 e20 e21 e22 e23 e24 e25 e26 e27 e28 e29 e30 e31 e32 e33 e34 e35 e36 e37 e38 e39 e40 e41 e42 e43 e44 e45 e46 e47 : va_E} {L i : Nat} {xs : Nat → Int32} {k : Int32} {b : Int32} {f : Nat → Int64}  {kc kn : Nat} {O : Option Value → aH → Prop} (hL : L ≤ 2560) (hi : i + 5 ≤ L) (hb : k = 0 → f 0 = b.toInt64) (K1 : (¬ k = 0) → JR (M_La_law L xs) (some (L, xs)) (1584, [(0, .ref 1000), (1, .ref 0), (2, .ref 35), (3, .ref 48), (4, .int (nI i))], [], (HP e0 e1 e2 e3 e4 e5 e6 e7 e8 e9 e10 e11 e12 e13 e14 e15 e16 e17 e18 e19 e20 e21 e22 e23 e24 e25 e26 e27 e28 e29 e30 e31 e32 e33 e34 e35 e36 e37 e38 e39 e40 e41 e42 e43 e44 e45 e46 e47 (.inl (1, 1, .inr (.inl f)))), kc, kn) O) (K2 : (¬ (¬ k = 0)) → JR (M_La_law L xs) (some (L, xs)) (1584, [(0, .ref 1000), (1, .ref 0), (2, .ref 35), (3, .ref 48), (4, .int (nI i))], [], (HP e0 e1 e2 e3 e4 e5 e6 e7 e8 e9 e10 e11 e12 e13 e14 e15 e16 e17 e18 e19 e20 e21 e22 e23 e24 e25 e26 e27 e28 e29 e30 e31 e32 e33 e34 e35 e36 e37 e38 e39 e40 e41 e42 e43 e44 e45 e46 e47 (.inl (1, 1, .inr (.inl f)))), kc, kn) O) : JR (M_La_law L xs) (some (L, xs)) (273, [(0, .ref 1000), (1, .ref 0), (2, .ref 35), (3, .ref 48), (4, .int (nI i)), (5, .int k), (6, .int b)], [.int k], (HP e0 e1 e2 e3 e4 e5 e6 e7 e8 e9 e10 e11 e12 e13 e14 e15 e16 e17 e18 e19 e20 e21 e22 e23 e24 e25 e26 e27 e28 e29 e30 e31 e32 e33 e34 e35 e36 e37 e38 e39 e40 e41 e42 e43 e44 e45 e46 e47 (.inl (1, 1, .inr (.inl f)))), kc, kn) O := by
  refine J.gp (ok_La_law (L := L) (xs := xs)) 1 (275, [(0, .ref 1000), (1, .ref 0), (2, .ref 35), (3, .ref 48), (4, .int (nI i)), (5, .int k), (6, .int b)], [.int k, .int k], _, _, _) rfl ?_
  refine J.icT (ok_La_law (L := L) (xs := xs)) (fun x y => x = y) 280 278 rfl (rfl) ?_
  refine J.gp (ok_La_law (L := L) (xs := xs)) 1 (282, [(0, .ref 1000), (1, .ref 0), (2, .ref 35), (3, .ref 48), (4, .int (nI i)), (5, .int k), (6, .int b)], [.int k], _, _, _) rfl ?_
  refine J.ifB (ok_La_law (L := L) (xs := xs)) (fun x => ¬ x = 0) 297 285 rfl (fun (c282 : ¬ k = 0) => ?_) (fun (c282 : ¬ (¬ k = 0)) => ?_)
  · refine J.gp (ok_La_law (L := L) (xs := xs)) 1 (1584, [(0, .ref 1000), (1, .ref 0), (2, .ref 35), (3, .ref 48), (4, .int (nI i)), (5, .int k), (6, .int b)], [], _, _, _) rfl ?_
    refine J.lv [0, 1, 2, 3, 4] [(0, .ref 1000), (1, .ref 0), (2, .ref 35), (3, .ref 48), (4, .int (nI i))] rfl ?_
    exact K1 c282
  · refine J.gp (ok_La_law (L := L) (xs := xs)) 2 (287, [(0, .ref 1000), (1, .ref 0), (2, .ref 35), (3, .ref 48), (4, .int (nI i)), (5, .int k), (6, .int b)], [.int 0, .ref 48], _, _, _) rfl ?_
    refine J.laldB (ok_La_law (L := L) (xs := xs)) 288 0 rfl rfl (rfl) (by omega) (by decide) ?_
    refine J.gp (ok_La_law (L := L) (xs := xs)) 3 (292, [(0, .ref 1000), (1, .ref 0), (2, .ref 35), (3, .ref 48), (4, .int (nI i)), (5, .int k), (6, .int b)], [.int (lg_cmp (f 0) (b.toInt64))], _, _, _) rfl ?_
    refine J.ifT (ok_La_law (L := L) (xs := xs)) (fun x => x = 0) 297 295 rfl (cmp_eq.mpr (hb (Classical.byContradiction c282))) ?_
    refine J.gp (ok_La_law (L := L) (xs := xs)) 1 (1584, [(0, .ref 1000), (1, .ref 0), (2, .ref 35), (3, .ref 48), (4, .int (nI i)), (5, .int k), (6, .int b)], [], _, _, _) rfl ?_
    refine J.lv [0, 1, 2, 3, 4] [(0, .ref 1000), (1, .ref 0), (2, .ref 35), (3, .ref 48), (4, .int (nI i))] rfl ?_
    exact K2 c282

theorem lc_setTable {L i : Nat} {xs : Nat → Int32} {hp : aH} {kc kn : Nat} {O : Option Value → aH → Prop} (hL : L ≤ 2560) (hi : i + 5 ≤ L) (hw : Wd hp) (hk : 1 ≤ kc) (hn : 6 ≤ kn) (hc : CaseI M_La_setTable M_Mo_setTable [(0, 14, 17, 19), (0, 14, 21, 13)] [.ref 0, .int (xs (i + 1)), .int (xs (i + 2)), .int (xs (i + 3)), .int (xs (i + 4)), .ref 48] [.ref 35, .int (xs (i + 1)), .int (xs (i + 2)), .int (xs (i + 3)), .int (xs (i + 4))] hp) (K : ∀ th f q, LH th f q → JR (M_La_law L xs) (some (L, xs)) (1584, [(0, .ref 1000), (1, .ref 0), (2, .ref 35), (3, .ref 48), (4, .int (nI i))], [], q, kc - 1, kn - 6) O) : JR (M_La_law L xs) (some (L, xs)) (208, [(0, .ref 1000), (1, .ref 0), (2, .ref 35), (3, .ref 48), (4, .int (nI i))], [], hp, kc, kn) O := by
  obtain ⟨Oa, hJ, hA⟩ := hc
  refine gA_setTable hL hi ?_
  refine J.callSH (rest := []) s_La_law_234 [.ref 0, .int (xs (i + 1)), .int (xs (i + 2)), .int (xs (i + 3)), .int (xs (i + 4)), .ref 48] rfl (Nat.le_of_ble_eq_true rfl) hJ hk hn (Or.inr (by rw [hw.1]; rfl)) (fun v q h => ?_)
  obtain ⟨⟨hq, -, fs, h35⟩, k, rfl, O2, hM, hB⟩ := hA v q h
  refine J.gp (ok_La_law (L := L) (xs := xs)) 0 (237, [(0, .ref 1000), (1, .ref 0), (2, .ref 35), (3, .ref 48), (4, .int (nI i))], [.int k], q, _, _) rfl ?_
  refine gB_setTable hL hi ?_
  refine J.callV (rest := []) s_La_law_264 35 [.int (xs (i + 1)), .int (xs (i + 2)), .int (xs (i + 3)), .int (xs (i + 4))] 10 fs _ rfl rfl rfl h35 (Nat.le_of_ble_eq_true rfl) hM (Nat.zero_le _) (Nat.zero_le _) (Or.inl (fun v2 q2 h2 => ?_)) (fun v2 q2 h2 => ?_)
  · obtain ⟨b, -, f, hLH, -⟩ := hB v2 q2 h2
    rw [hLH.len, hq]
  · obtain ⟨b, rfl, f, hLH, hb⟩ := hB v2 q2 h2
    refine J.gp (ok_La_law (L := L) (xs := xs)) 0 (267, [(0, .ref 1000), (1, .ref 0), (2, .ref 35), (3, .ref 48), (4, .int (nI i)), (5, .int k)], [.int b], q2, _, _) rfl ?_
    refine gC_setTable hL hi ?_
    have hLH2 := hLH
    obtain ⟨m, g, w, P, p, i9, s, t, bl, gn, B, F, T, e9, e10, e11, e12, e13, e15, e17, e18, e20, e22, e24, e26, e28, e30, e31, e32, e33, e34, e35, e38, e39, e40, e41, e42, e43, e44, e45, e46, e47, -, -, ⟨⟨m13, m14, m15, m16, m17, m18, m31, m36, m24, m25, m30, m33, m34, m35, m37, m38, m39, rfl⟩, -⟩, rfl⟩ := hLH
    refine J.callVE (rest := []) s_La_law_270 273 35 [] 10 c_Mo_thrown rfl rfl rfl rfl rfl (Nat.le_of_ble_eq_true rfl) rfl ?_
    exact gD_setTable hL hi hb (fun _ => K _ _ _ hLH2) (fun _ => K _ _ _ hLH2)

set_option maxRecDepth 100000 in
set_option maxHeartbeats 400000 in
theorem gA_gear_1 {hh : aH} {L i : Nat} {xs : Nat → Int32}  {kc kn : Nat} {O : Option Value → aH → Prop} (hL : L ≤ 2560) (hi : i + 5 ≤ L) (hz : ¬ xs (i + 2) = 0) (K1 : JR (M_La_law L xs) (some (L, xs)) (322, [(0, .ref 1000), (1, .ref 0), (2, .ref 35), (3, .ref 48), (4, .int (nI i))], [.ref 48, .int 1, .int (xs (i + 1)), .ref 0], hh, kc, kn) O) : JR (M_La_law L xs) (some (L, xs)) (300, [(0, .ref 1000), (1, .ref 0), (2, .ref 35), (3, .ref 48), (4, .int (nI i))], [], hh, kc, kn) O := by
  refine J.gp (ok_La_law (L := L) (xs := xs)) 5 (306, [(0, .ref 1000), (1, .ref 0), (2, .ref 35), (3, .ref 48), (4, .int (nI i))], [.int (nI i + 1), .ref 1000, .ref 0], _, _, _) rfl ?_
  rw [show ((nI i + 1) : Int32) = nI (i + 1) from nI_add i 1]
  refine J.sldB (ok_La_law (L := L) (xs := xs)) 307 (i + 1) rfl (rfl) (by omega) (by omega) ?_
  refine J.gp (ok_La_law (L := L) (xs := xs)) 4 (312, [(0, .ref 1000), (1, .ref 0), (2, .ref 35), (3, .ref 48), (4, .int (nI i))], [.int (nI i + 2), .ref 1000, .int (xs (i + 1)), .ref 0], _, _, _) rfl ?_
  rw [show ((nI i + 2) : Int32) = nI (i + 2) from nI_add i 2]
  refine J.sldB (ok_La_law (L := L) (xs := xs)) 313 (i + 2) rfl (rfl) (by omega) (by omega) ?_
  refine J.ifF (ok_La_law (L := L) (xs := xs)) (fun x => x = 0) 320 316 rfl (hz) ?_
  refine J.gp (ok_La_law (L := L) (xs := xs)) 3 (322, [(0, .ref 1000), (1, .ref 0), (2, .ref 35), (3, .ref 48), (4, .int (nI i))], [.ref 48, .int 1, .int (xs (i + 1)), .ref 0], _, _, _) rfl ?_
  exact K1

set_option maxRecDepth 100000 in
set_option maxHeartbeats 400000 in
theorem gB_gear_1 {hh : aH} {L i : Nat} {xs : Nat → Int32} {k : Int32}  {kc kn : Nat} {O : Option Value → aH → Prop} (hL : L ≤ 2560) (hi : i + 5 ≤ L) (hz : ¬ xs (i + 2) = 0) (K1 : JR (M_La_law L xs) (some (L, xs)) (348, [(0, .ref 1000), (1, .ref 0), (2, .ref 35), (3, .ref 48), (4, .int (nI i)), (5, .int k)], [.int 1, .int (xs (i + 1)), .ref 35], hh, kc, kn) O) : JR (M_La_law L xs) (some (L, xs)) (325, [(0, .ref 1000), (1, .ref 0), (2, .ref 35), (3, .ref 48), (4, .int (nI i))], [.int k], hh, kc, kn) O := by
  refine J.gp (ok_La_law (L := L) (xs := xs)) 6 (333, [(0, .ref 1000), (1, .ref 0), (2, .ref 35), (3, .ref 48), (4, .int (nI i)), (5, .int k)], [.int (nI i + 1), .ref 1000, .ref 35], _, _, _) rfl ?_
  rw [show ((nI i + 1) : Int32) = nI (i + 1) from nI_add i 1]
  refine J.sldB (ok_La_law (L := L) (xs := xs)) 334 (i + 1) rfl (rfl) (by omega) (by omega) ?_
  refine J.gp (ok_La_law (L := L) (xs := xs)) 4 (339, [(0, .ref 1000), (1, .ref 0), (2, .ref 35), (3, .ref 48), (4, .int (nI i)), (5, .int k)], [.int (nI i + 2), .ref 1000, .int (xs (i + 1)), .ref 35], _, _, _) rfl ?_
  rw [show ((nI i + 2) : Int32) = nI (i + 2) from nI_add i 2]
  refine J.sldB (ok_La_law (L := L) (xs := xs)) 340 (i + 2) rfl (rfl) (by omega) (by omega) ?_
  refine J.ifF (ok_La_law (L := L) (xs := xs)) (fun x => x = 0) 347 343 rfl (hz) ?_
  refine J.gp (ok_La_law (L := L) (xs := xs)) 2 (348, [(0, .ref 1000), (1, .ref 0), (2, .ref 35), (3, .ref 48), (4, .int (nI i)), (5, .int k)], [.int 1, .int (xs (i + 1)), .ref 35], _, _, _) rfl ?_
  exact K1

set_option maxRecDepth 100000 in
set_option maxHeartbeats 400000 in
theorem gC_gear_1 {hh : aH} {L i : Nat} {xs : Nat → Int32} {k : Int32} {b : Int32}  {kc kn : Nat} {O : Option Value → aH → Prop} (hL : L ≤ 2560) (hi : i + 5 ≤ L) (hz : ¬ xs (i + 2) = 0) (K1 : JR (M_La_law L xs) (some (L, xs)) (354, [(0, .ref 1000), (1, .ref 0), (2, .ref 35), (3, .ref 48), (4, .int (nI i)), (5, .int k), (6, .int b)], [.ref 35], hh, kc, kn) O) : JR (M_La_law L xs) (some (L, xs)) (351, [(0, .ref 1000), (1, .ref 0), (2, .ref 35), (3, .ref 48), (4, .int (nI i)), (5, .int k)], [.int b], hh, kc, kn) O := by
  refine J.gp (ok_La_law (L := L) (xs := xs)) 2 (354, [(0, .ref 1000), (1, .ref 0), (2, .ref 35), (3, .ref 48), (4, .int (nI i)), (5, .int k), (6, .int b)], [.ref 35], _, _, _) rfl ?_
  exact K1

set_option maxRecDepth 100000 in
set_option maxHeartbeats 400000 in
theorem gD_gear_1 {e0 e1 e2 e3 e4 e5 e6 e7 e8 e9 e10 e11 e12 e13 e14 e15 e16 e17 e18 e19 e20 e21 e22 e23 e24 e25 e26 e27 e28 e29 e30 e31 e32 e33 e34 e35 e36 e37 e38 e39 e40 e41 e42 e43 e44 e45 e46 e47 : va_E} {L i : Nat} {xs : Nat → Int32} {k : Int32} {b : Int32} {f : Nat → Int64}  {kc kn : Nat} {O : Option Value → aH → Prop} (hL : L ≤ 2560) (hi : i + 5 ≤ L) (hz : ¬ xs (i + 2) = 0) (hb : k = 0 → f 0 = b.toInt64) (K1 : (¬ k = 0) → JR (M_La_law L xs) (some (L, xs)) (1584, [(0, .ref 1000), (1, .ref 0), (2, .ref 35), (3, .ref 48), (4, .int (nI i))], [], (HP e0 e1 e2 e3 e4 e5 e6 e7 e8 e9 e10 e11 e12 e13 e14 e15 e16 e17 e18 e19 e20 e21 e22 e23 e24 e25 e26 e27 e28 e29 e30 e31 e32 e33 e34 e35 e36 e37 e38 e39 e40 e41 e42 e43 e44 e45 e46 e47 (.inl (1, 1, .inr (.inl f)))), kc, kn) O) (K2 : (¬ (¬ k = 0)) → JR (M_La_law L xs) (some (L, xs)) (1584, [(0, .ref 1000), (1, .ref 0), (2, .ref 35), (3, .ref 48), (4, .int (nI i))], [], (HP e0 e1 e2 e3 e4 e5 e6 e7 e8 e9 e10 e11 e12 e13 e14 e15 e16 e17 e18 e19 e20 e21 e22 e23 e24 e25 e26 e27 e28 e29 e30 e31 e32 e33 e34 e35 e36 e37 e38 e39 e40 e41 e42 e43 e44 e45 e46 e47 (.inl (1, 1, .inr (.inl f)))), kc, kn) O) : JR (M_La_law L xs) (some (L, xs)) (357, [(0, .ref 1000), (1, .ref 0), (2, .ref 35), (3, .ref 48), (4, .int (nI i)), (5, .int k), (6, .int b)], [.int k], (HP e0 e1 e2 e3 e4 e5 e6 e7 e8 e9 e10 e11 e12 e13 e14 e15 e16 e17 e18 e19 e20 e21 e22 e23 e24 e25 e26 e27 e28 e29 e30 e31 e32 e33 e34 e35 e36 e37 e38 e39 e40 e41 e42 e43 e44 e45 e46 e47 (.inl (1, 1, .inr (.inl f)))), kc, kn) O := by
  refine J.gp (ok_La_law (L := L) (xs := xs)) 1 (359, [(0, .ref 1000), (1, .ref 0), (2, .ref 35), (3, .ref 48), (4, .int (nI i)), (5, .int k), (6, .int b)], [.int k, .int k], _, _, _) rfl ?_
  refine J.icT (ok_La_law (L := L) (xs := xs)) (fun x y => x = y) 364 362 rfl (rfl) ?_
  refine J.gp (ok_La_law (L := L) (xs := xs)) 1 (366, [(0, .ref 1000), (1, .ref 0), (2, .ref 35), (3, .ref 48), (4, .int (nI i)), (5, .int k), (6, .int b)], [.int k], _, _, _) rfl ?_
  refine J.ifB (ok_La_law (L := L) (xs := xs)) (fun x => ¬ x = 0) 381 369 rfl (fun (c366 : ¬ k = 0) => ?_) (fun (c366 : ¬ (¬ k = 0)) => ?_)
  · refine J.gp (ok_La_law (L := L) (xs := xs)) 1 (1584, [(0, .ref 1000), (1, .ref 0), (2, .ref 35), (3, .ref 48), (4, .int (nI i)), (5, .int k), (6, .int b)], [], _, _, _) rfl ?_
    refine J.lv [0, 1, 2, 3, 4] [(0, .ref 1000), (1, .ref 0), (2, .ref 35), (3, .ref 48), (4, .int (nI i))] rfl ?_
    exact K1 c366
  · refine J.gp (ok_La_law (L := L) (xs := xs)) 2 (371, [(0, .ref 1000), (1, .ref 0), (2, .ref 35), (3, .ref 48), (4, .int (nI i)), (5, .int k), (6, .int b)], [.int 0, .ref 48], _, _, _) rfl ?_
    refine J.laldB (ok_La_law (L := L) (xs := xs)) 372 0 rfl rfl (rfl) (by omega) (by decide) ?_
    refine J.gp (ok_La_law (L := L) (xs := xs)) 3 (376, [(0, .ref 1000), (1, .ref 0), (2, .ref 35), (3, .ref 48), (4, .int (nI i)), (5, .int k), (6, .int b)], [.int (lg_cmp (f 0) (b.toInt64))], _, _, _) rfl ?_
    refine J.ifT (ok_La_law (L := L) (xs := xs)) (fun x => x = 0) 381 379 rfl (cmp_eq.mpr (hb (Classical.byContradiction c366))) ?_
    refine J.gp (ok_La_law (L := L) (xs := xs)) 1 (1584, [(0, .ref 1000), (1, .ref 0), (2, .ref 35), (3, .ref 48), (4, .int (nI i)), (5, .int k), (6, .int b)], [], _, _, _) rfl ?_
    refine J.lv [0, 1, 2, 3, 4] [(0, .ref 1000), (1, .ref 0), (2, .ref 35), (3, .ref 48), (4, .int (nI i))] rfl ?_
    exact K2 c366

theorem lc_gear_1 {L i : Nat} {xs : Nat → Int32} {hp : aH} {kc kn : Nat} {O : Option Value → aH → Prop} (hL : L ≤ 2560) (hi : i + 5 ≤ L) (hz : ¬ xs (i + 2) = 0) (hw : Wd hp) (hk : 1 ≤ kc) (hn : 6 ≤ kn) (hc : CaseI M_La_gear M_Mo_gear [(0, 10, 13, 19)] [.ref 0, .int (xs (i + 1)), .int 1, .ref 48] [.ref 35, .int (xs (i + 1)), .int 1] hp) (K : ∀ th f q, LH th f q → JR (M_La_law L xs) (some (L, xs)) (1584, [(0, .ref 1000), (1, .ref 0), (2, .ref 35), (3, .ref 48), (4, .int (nI i))], [], q, kc - 1, kn - 6) O) : JR (M_La_law L xs) (some (L, xs)) (300, [(0, .ref 1000), (1, .ref 0), (2, .ref 35), (3, .ref 48), (4, .int (nI i))], [], hp, kc, kn) O := by
  obtain ⟨Oa, hJ, hA⟩ := hc
  refine gA_gear_1 hL hi hz ?_
  refine J.callSH (rest := []) s_La_law_322 [.ref 0, .int (xs (i + 1)), .int 1, .ref 48] rfl (Nat.le_of_ble_eq_true rfl) hJ hk hn (Or.inr (by rw [hw.1]; rfl)) (fun v q h => ?_)
  obtain ⟨⟨hq, -, fs, h35⟩, k, rfl, O2, hM, hB⟩ := hA v q h
  refine J.gp (ok_La_law (L := L) (xs := xs)) 0 (325, [(0, .ref 1000), (1, .ref 0), (2, .ref 35), (3, .ref 48), (4, .int (nI i))], [.int k], q, _, _) rfl ?_
  refine gB_gear_1 hL hi hz ?_
  refine J.callV (rest := []) s_La_law_348 35 [.int (xs (i + 1)), .int 1] 10 fs _ rfl rfl rfl h35 (Nat.le_of_ble_eq_true rfl) hM (Nat.zero_le _) (Nat.zero_le _) (Or.inl (fun v2 q2 h2 => ?_)) (fun v2 q2 h2 => ?_)
  · obtain ⟨b, -, f, hLH, -⟩ := hB v2 q2 h2
    rw [hLH.len, hq]
  · obtain ⟨b, rfl, f, hLH, hb⟩ := hB v2 q2 h2
    refine J.gp (ok_La_law (L := L) (xs := xs)) 0 (351, [(0, .ref 1000), (1, .ref 0), (2, .ref 35), (3, .ref 48), (4, .int (nI i)), (5, .int k)], [.int b], q2, _, _) rfl ?_
    refine gC_gear_1 hL hi hz ?_
    have hLH2 := hLH
    obtain ⟨m, g, w, P, p, i9, s, t, bl, gn, B, F, T, e9, e10, e11, e12, e13, e15, e17, e18, e20, e22, e24, e26, e28, e30, e31, e32, e33, e34, e35, e38, e39, e40, e41, e42, e43, e44, e45, e46, e47, -, -, ⟨⟨m13, m14, m15, m16, m17, m18, m31, m36, m24, m25, m30, m33, m34, m35, m37, m38, m39, rfl⟩, -⟩, rfl⟩ := hLH
    refine J.callVE (rest := []) s_La_law_354 357 35 [] 10 c_Mo_thrown rfl rfl rfl rfl rfl (Nat.le_of_ble_eq_true rfl) rfl ?_
    exact gD_gear_1 hL hi hz hb (fun _ => K _ _ _ hLH2) (fun _ => K _ _ _ hLH2)

set_option maxRecDepth 100000 in
set_option maxHeartbeats 400000 in
theorem gA_gear_0 {hh : aH} {L i : Nat} {xs : Nat → Int32}  {kc kn : Nat} {O : Option Value → aH → Prop} (hL : L ≤ 2560) (hi : i + 5 ≤ L) (hz : xs (i + 2) = 0) (K1 : JR (M_La_law L xs) (some (L, xs)) (322, [(0, .ref 1000), (1, .ref 0), (2, .ref 35), (3, .ref 48), (4, .int (nI i))], [.ref 48, .int 0, .int (xs (i + 1)), .ref 0], hh, kc, kn) O) : JR (M_La_law L xs) (some (L, xs)) (300, [(0, .ref 1000), (1, .ref 0), (2, .ref 35), (3, .ref 48), (4, .int (nI i))], [], hh, kc, kn) O := by
  refine J.gp (ok_La_law (L := L) (xs := xs)) 5 (306, [(0, .ref 1000), (1, .ref 0), (2, .ref 35), (3, .ref 48), (4, .int (nI i))], [.int (nI i + 1), .ref 1000, .ref 0], _, _, _) rfl ?_
  rw [show ((nI i + 1) : Int32) = nI (i + 1) from nI_add i 1]
  refine J.sldB (ok_La_law (L := L) (xs := xs)) 307 (i + 1) rfl (rfl) (by omega) (by omega) ?_
  refine J.gp (ok_La_law (L := L) (xs := xs)) 4 (312, [(0, .ref 1000), (1, .ref 0), (2, .ref 35), (3, .ref 48), (4, .int (nI i))], [.int (nI i + 2), .ref 1000, .int (xs (i + 1)), .ref 0], _, _, _) rfl ?_
  rw [show ((nI i + 2) : Int32) = nI (i + 2) from nI_add i 2]
  refine J.sldB (ok_La_law (L := L) (xs := xs)) 313 (i + 2) rfl (rfl) (by omega) (by omega) ?_
  refine J.ifT (ok_La_law (L := L) (xs := xs)) (fun x => x = 0) 320 316 rfl (hz) ?_
  refine J.gp (ok_La_law (L := L) (xs := xs)) 2 (322, [(0, .ref 1000), (1, .ref 0), (2, .ref 35), (3, .ref 48), (4, .int (nI i))], [.ref 48, .int 0, .int (xs (i + 1)), .ref 0], _, _, _) rfl ?_
  exact K1

set_option maxRecDepth 100000 in
set_option maxHeartbeats 400000 in
theorem gB_gear_0 {hh : aH} {L i : Nat} {xs : Nat → Int32} {k : Int32}  {kc kn : Nat} {O : Option Value → aH → Prop} (hL : L ≤ 2560) (hi : i + 5 ≤ L) (hz : xs (i + 2) = 0) (K1 : JR (M_La_law L xs) (some (L, xs)) (348, [(0, .ref 1000), (1, .ref 0), (2, .ref 35), (3, .ref 48), (4, .int (nI i)), (5, .int k)], [.int 0, .int (xs (i + 1)), .ref 35], hh, kc, kn) O) : JR (M_La_law L xs) (some (L, xs)) (325, [(0, .ref 1000), (1, .ref 0), (2, .ref 35), (3, .ref 48), (4, .int (nI i))], [.int k], hh, kc, kn) O := by
  refine J.gp (ok_La_law (L := L) (xs := xs)) 6 (333, [(0, .ref 1000), (1, .ref 0), (2, .ref 35), (3, .ref 48), (4, .int (nI i)), (5, .int k)], [.int (nI i + 1), .ref 1000, .ref 35], _, _, _) rfl ?_
  rw [show ((nI i + 1) : Int32) = nI (i + 1) from nI_add i 1]
  refine J.sldB (ok_La_law (L := L) (xs := xs)) 334 (i + 1) rfl (rfl) (by omega) (by omega) ?_
  refine J.gp (ok_La_law (L := L) (xs := xs)) 4 (339, [(0, .ref 1000), (1, .ref 0), (2, .ref 35), (3, .ref 48), (4, .int (nI i)), (5, .int k)], [.int (nI i + 2), .ref 1000, .int (xs (i + 1)), .ref 35], _, _, _) rfl ?_
  rw [show ((nI i + 2) : Int32) = nI (i + 2) from nI_add i 2]
  refine J.sldB (ok_La_law (L := L) (xs := xs)) 340 (i + 2) rfl (rfl) (by omega) (by omega) ?_
  refine J.ifT (ok_La_law (L := L) (xs := xs)) (fun x => x = 0) 347 343 rfl (hz) ?_
  refine J.gp (ok_La_law (L := L) (xs := xs)) 1 (348, [(0, .ref 1000), (1, .ref 0), (2, .ref 35), (3, .ref 48), (4, .int (nI i)), (5, .int k)], [.int 0, .int (xs (i + 1)), .ref 35], _, _, _) rfl ?_
  exact K1

set_option maxRecDepth 100000 in
set_option maxHeartbeats 400000 in
theorem gC_gear_0 {hh : aH} {L i : Nat} {xs : Nat → Int32} {k : Int32} {b : Int32}  {kc kn : Nat} {O : Option Value → aH → Prop} (hL : L ≤ 2560) (hi : i + 5 ≤ L) (hz : xs (i + 2) = 0) (K1 : JR (M_La_law L xs) (some (L, xs)) (354, [(0, .ref 1000), (1, .ref 0), (2, .ref 35), (3, .ref 48), (4, .int (nI i)), (5, .int k), (6, .int b)], [.ref 35], hh, kc, kn) O) : JR (M_La_law L xs) (some (L, xs)) (351, [(0, .ref 1000), (1, .ref 0), (2, .ref 35), (3, .ref 48), (4, .int (nI i)), (5, .int k)], [.int b], hh, kc, kn) O := by
  refine J.gp (ok_La_law (L := L) (xs := xs)) 2 (354, [(0, .ref 1000), (1, .ref 0), (2, .ref 35), (3, .ref 48), (4, .int (nI i)), (5, .int k), (6, .int b)], [.ref 35], _, _, _) rfl ?_
  exact K1

set_option maxRecDepth 100000 in
set_option maxHeartbeats 400000 in
theorem gD_gear_0 {e0 e1 e2 e3 e4 e5 e6 e7 e8 e9 e10 e11 e12 e13 e14 e15 e16 e17 e18 e19 e20 e21 e22 e23 e24 e25 e26 e27 e28 e29 e30 e31 e32 e33 e34 e35 e36 e37 e38 e39 e40 e41 e42 e43 e44 e45 e46 e47 : va_E} {L i : Nat} {xs : Nat → Int32} {k : Int32} {b : Int32} {f : Nat → Int64}  {kc kn : Nat} {O : Option Value → aH → Prop} (hL : L ≤ 2560) (hi : i + 5 ≤ L) (hz : xs (i + 2) = 0) (hb : k = 0 → f 0 = b.toInt64) (K1 : (¬ k = 0) → JR (M_La_law L xs) (some (L, xs)) (1584, [(0, .ref 1000), (1, .ref 0), (2, .ref 35), (3, .ref 48), (4, .int (nI i))], [], (HP e0 e1 e2 e3 e4 e5 e6 e7 e8 e9 e10 e11 e12 e13 e14 e15 e16 e17 e18 e19 e20 e21 e22 e23 e24 e25 e26 e27 e28 e29 e30 e31 e32 e33 e34 e35 e36 e37 e38 e39 e40 e41 e42 e43 e44 e45 e46 e47 (.inl (1, 1, .inr (.inl f)))), kc, kn) O) (K2 : (¬ (¬ k = 0)) → JR (M_La_law L xs) (some (L, xs)) (1584, [(0, .ref 1000), (1, .ref 0), (2, .ref 35), (3, .ref 48), (4, .int (nI i))], [], (HP e0 e1 e2 e3 e4 e5 e6 e7 e8 e9 e10 e11 e12 e13 e14 e15 e16 e17 e18 e19 e20 e21 e22 e23 e24 e25 e26 e27 e28 e29 e30 e31 e32 e33 e34 e35 e36 e37 e38 e39 e40 e41 e42 e43 e44 e45 e46 e47 (.inl (1, 1, .inr (.inl f)))), kc, kn) O) : JR (M_La_law L xs) (some (L, xs)) (357, [(0, .ref 1000), (1, .ref 0), (2, .ref 35), (3, .ref 48), (4, .int (nI i)), (5, .int k), (6, .int b)], [.int k], (HP e0 e1 e2 e3 e4 e5 e6 e7 e8 e9 e10 e11 e12 e13 e14 e15 e16 e17 e18 e19 e20 e21 e22 e23 e24 e25 e26 e27 e28 e29 e30 e31 e32 e33 e34 e35 e36 e37 e38 e39 e40 e41 e42 e43 e44 e45 e46 e47 (.inl (1, 1, .inr (.inl f)))), kc, kn) O := by
  refine J.gp (ok_La_law (L := L) (xs := xs)) 1 (359, [(0, .ref 1000), (1, .ref 0), (2, .ref 35), (3, .ref 48), (4, .int (nI i)), (5, .int k), (6, .int b)], [.int k, .int k], _, _, _) rfl ?_
  refine J.icT (ok_La_law (L := L) (xs := xs)) (fun x y => x = y) 364 362 rfl (rfl) ?_
  refine J.gp (ok_La_law (L := L) (xs := xs)) 1 (366, [(0, .ref 1000), (1, .ref 0), (2, .ref 35), (3, .ref 48), (4, .int (nI i)), (5, .int k), (6, .int b)], [.int k], _, _, _) rfl ?_
  refine J.ifB (ok_La_law (L := L) (xs := xs)) (fun x => ¬ x = 0) 381 369 rfl (fun (c366 : ¬ k = 0) => ?_) (fun (c366 : ¬ (¬ k = 0)) => ?_)
  · refine J.gp (ok_La_law (L := L) (xs := xs)) 1 (1584, [(0, .ref 1000), (1, .ref 0), (2, .ref 35), (3, .ref 48), (4, .int (nI i)), (5, .int k), (6, .int b)], [], _, _, _) rfl ?_
    refine J.lv [0, 1, 2, 3, 4] [(0, .ref 1000), (1, .ref 0), (2, .ref 35), (3, .ref 48), (4, .int (nI i))] rfl ?_
    exact K1 c366
  · refine J.gp (ok_La_law (L := L) (xs := xs)) 2 (371, [(0, .ref 1000), (1, .ref 0), (2, .ref 35), (3, .ref 48), (4, .int (nI i)), (5, .int k), (6, .int b)], [.int 0, .ref 48], _, _, _) rfl ?_
    refine J.laldB (ok_La_law (L := L) (xs := xs)) 372 0 rfl rfl (rfl) (by omega) (by decide) ?_
    refine J.gp (ok_La_law (L := L) (xs := xs)) 3 (376, [(0, .ref 1000), (1, .ref 0), (2, .ref 35), (3, .ref 48), (4, .int (nI i)), (5, .int k), (6, .int b)], [.int (lg_cmp (f 0) (b.toInt64))], _, _, _) rfl ?_
    refine J.ifT (ok_La_law (L := L) (xs := xs)) (fun x => x = 0) 381 379 rfl (cmp_eq.mpr (hb (Classical.byContradiction c366))) ?_
    refine J.gp (ok_La_law (L := L) (xs := xs)) 1 (1584, [(0, .ref 1000), (1, .ref 0), (2, .ref 35), (3, .ref 48), (4, .int (nI i)), (5, .int k), (6, .int b)], [], _, _, _) rfl ?_
    refine J.lv [0, 1, 2, 3, 4] [(0, .ref 1000), (1, .ref 0), (2, .ref 35), (3, .ref 48), (4, .int (nI i))] rfl ?_
    exact K2 c366

theorem lc_gear_0 {L i : Nat} {xs : Nat → Int32} {hp : aH} {kc kn : Nat} {O : Option Value → aH → Prop} (hL : L ≤ 2560) (hi : i + 5 ≤ L) (hz : xs (i + 2) = 0) (hw : Wd hp) (hk : 1 ≤ kc) (hn : 6 ≤ kn) (hc : CaseI M_La_gear M_Mo_gear [(0, 10, 13, 19)] [.ref 0, .int (xs (i + 1)), .int 0, .ref 48] [.ref 35, .int (xs (i + 1)), .int 0] hp) (K : ∀ th f q, LH th f q → JR (M_La_law L xs) (some (L, xs)) (1584, [(0, .ref 1000), (1, .ref 0), (2, .ref 35), (3, .ref 48), (4, .int (nI i))], [], q, kc - 1, kn - 6) O) : JR (M_La_law L xs) (some (L, xs)) (300, [(0, .ref 1000), (1, .ref 0), (2, .ref 35), (3, .ref 48), (4, .int (nI i))], [], hp, kc, kn) O := by
  obtain ⟨Oa, hJ, hA⟩ := hc
  refine gA_gear_0 hL hi hz ?_
  refine J.callSH (rest := []) s_La_law_322 [.ref 0, .int (xs (i + 1)), .int 0, .ref 48] rfl (Nat.le_of_ble_eq_true rfl) hJ hk hn (Or.inr (by rw [hw.1]; rfl)) (fun v q h => ?_)
  obtain ⟨⟨hq, -, fs, h35⟩, k, rfl, O2, hM, hB⟩ := hA v q h
  refine J.gp (ok_La_law (L := L) (xs := xs)) 0 (325, [(0, .ref 1000), (1, .ref 0), (2, .ref 35), (3, .ref 48), (4, .int (nI i))], [.int k], q, _, _) rfl ?_
  refine gB_gear_0 hL hi hz ?_
  refine J.callV (rest := []) s_La_law_348 35 [.int (xs (i + 1)), .int 0] 10 fs _ rfl rfl rfl h35 (Nat.le_of_ble_eq_true rfl) hM (Nat.zero_le _) (Nat.zero_le _) (Or.inl (fun v2 q2 h2 => ?_)) (fun v2 q2 h2 => ?_)
  · obtain ⟨b, -, f, hLH, -⟩ := hB v2 q2 h2
    rw [hLH.len, hq]
  · obtain ⟨b, rfl, f, hLH, hb⟩ := hB v2 q2 h2
    refine J.gp (ok_La_law (L := L) (xs := xs)) 0 (351, [(0, .ref 1000), (1, .ref 0), (2, .ref 35), (3, .ref 48), (4, .int (nI i)), (5, .int k)], [.int b], q2, _, _) rfl ?_
    refine gC_gear_0 hL hi hz ?_
    have hLH2 := hLH
    obtain ⟨m, g, w, P, p, i9, s, t, bl, gn, B, F, T, e9, e10, e11, e12, e13, e15, e17, e18, e20, e22, e24, e26, e28, e30, e31, e32, e33, e34, e35, e38, e39, e40, e41, e42, e43, e44, e45, e46, e47, -, -, ⟨⟨m13, m14, m15, m16, m17, m18, m31, m36, m24, m25, m30, m33, m34, m35, m37, m38, m39, rfl⟩, -⟩, rfl⟩ := hLH
    refine J.callVE (rest := []) s_La_law_354 357 35 [] 10 c_Mo_thrown rfl rfl rfl rfl rfl (Nat.le_of_ble_eq_true rfl) rfl ?_
    exact gD_gear_0 hL hi hz hb (fun _ => K _ _ _ hLH2) (fun _ => K _ _ _ hLH2)

set_option maxRecDepth 100000 in
set_option maxHeartbeats 400000 in
theorem gA_pawl_1 {hh : aH} {L i : Nat} {xs : Nat → Int32}  {kc kn : Nat} {O : Option Value → aH → Prop} (hL : L ≤ 2560) (hi : i + 5 ≤ L) (hz : ¬ xs (i + 2) = 0) (K1 : JR (M_La_law L xs) (some (L, xs)) (406, [(0, .ref 1000), (1, .ref 0), (2, .ref 35), (3, .ref 48), (4, .int (nI i))], [.ref 48, .int 1, .int (xs (i + 1)), .ref 0], hh, kc, kn) O) : JR (M_La_law L xs) (some (L, xs)) (384, [(0, .ref 1000), (1, .ref 0), (2, .ref 35), (3, .ref 48), (4, .int (nI i))], [], hh, kc, kn) O := by
  refine J.gp (ok_La_law (L := L) (xs := xs)) 5 (390, [(0, .ref 1000), (1, .ref 0), (2, .ref 35), (3, .ref 48), (4, .int (nI i))], [.int (nI i + 1), .ref 1000, .ref 0], _, _, _) rfl ?_
  rw [show ((nI i + 1) : Int32) = nI (i + 1) from nI_add i 1]
  refine J.sldB (ok_La_law (L := L) (xs := xs)) 391 (i + 1) rfl (rfl) (by omega) (by omega) ?_
  refine J.gp (ok_La_law (L := L) (xs := xs)) 4 (396, [(0, .ref 1000), (1, .ref 0), (2, .ref 35), (3, .ref 48), (4, .int (nI i))], [.int (nI i + 2), .ref 1000, .int (xs (i + 1)), .ref 0], _, _, _) rfl ?_
  rw [show ((nI i + 2) : Int32) = nI (i + 2) from nI_add i 2]
  refine J.sldB (ok_La_law (L := L) (xs := xs)) 397 (i + 2) rfl (rfl) (by omega) (by omega) ?_
  refine J.ifF (ok_La_law (L := L) (xs := xs)) (fun x => x = 0) 404 400 rfl (hz) ?_
  refine J.gp (ok_La_law (L := L) (xs := xs)) 3 (406, [(0, .ref 1000), (1, .ref 0), (2, .ref 35), (3, .ref 48), (4, .int (nI i))], [.ref 48, .int 1, .int (xs (i + 1)), .ref 0], _, _, _) rfl ?_
  exact K1

set_option maxRecDepth 100000 in
set_option maxHeartbeats 400000 in
theorem gB_pawl_1 {hh : aH} {L i : Nat} {xs : Nat → Int32} {k : Int32}  {kc kn : Nat} {O : Option Value → aH → Prop} (hL : L ≤ 2560) (hi : i + 5 ≤ L) (hz : ¬ xs (i + 2) = 0) (K1 : JR (M_La_law L xs) (some (L, xs)) (432, [(0, .ref 1000), (1, .ref 0), (2, .ref 35), (3, .ref 48), (4, .int (nI i)), (5, .int k)], [.int 1, .int (xs (i + 1)), .ref 35], hh, kc, kn) O) : JR (M_La_law L xs) (some (L, xs)) (409, [(0, .ref 1000), (1, .ref 0), (2, .ref 35), (3, .ref 48), (4, .int (nI i))], [.int k], hh, kc, kn) O := by
  refine J.gp (ok_La_law (L := L) (xs := xs)) 6 (417, [(0, .ref 1000), (1, .ref 0), (2, .ref 35), (3, .ref 48), (4, .int (nI i)), (5, .int k)], [.int (nI i + 1), .ref 1000, .ref 35], _, _, _) rfl ?_
  rw [show ((nI i + 1) : Int32) = nI (i + 1) from nI_add i 1]
  refine J.sldB (ok_La_law (L := L) (xs := xs)) 418 (i + 1) rfl (rfl) (by omega) (by omega) ?_
  refine J.gp (ok_La_law (L := L) (xs := xs)) 4 (423, [(0, .ref 1000), (1, .ref 0), (2, .ref 35), (3, .ref 48), (4, .int (nI i)), (5, .int k)], [.int (nI i + 2), .ref 1000, .int (xs (i + 1)), .ref 35], _, _, _) rfl ?_
  rw [show ((nI i + 2) : Int32) = nI (i + 2) from nI_add i 2]
  refine J.sldB (ok_La_law (L := L) (xs := xs)) 424 (i + 2) rfl (rfl) (by omega) (by omega) ?_
  refine J.ifF (ok_La_law (L := L) (xs := xs)) (fun x => x = 0) 431 427 rfl (hz) ?_
  refine J.gp (ok_La_law (L := L) (xs := xs)) 2 (432, [(0, .ref 1000), (1, .ref 0), (2, .ref 35), (3, .ref 48), (4, .int (nI i)), (5, .int k)], [.int 1, .int (xs (i + 1)), .ref 35], _, _, _) rfl ?_
  exact K1

set_option maxRecDepth 100000 in
set_option maxHeartbeats 400000 in
theorem gC_pawl_1 {hh : aH} {L i : Nat} {xs : Nat → Int32} {k : Int32} {b : Int32}  {kc kn : Nat} {O : Option Value → aH → Prop} (hL : L ≤ 2560) (hi : i + 5 ≤ L) (hz : ¬ xs (i + 2) = 0) (K1 : JR (M_La_law L xs) (some (L, xs)) (438, [(0, .ref 1000), (1, .ref 0), (2, .ref 35), (3, .ref 48), (4, .int (nI i)), (5, .int k), (6, .int b)], [.ref 35], hh, kc, kn) O) : JR (M_La_law L xs) (some (L, xs)) (435, [(0, .ref 1000), (1, .ref 0), (2, .ref 35), (3, .ref 48), (4, .int (nI i)), (5, .int k)], [.int b], hh, kc, kn) O := by
  refine J.gp (ok_La_law (L := L) (xs := xs)) 2 (438, [(0, .ref 1000), (1, .ref 0), (2, .ref 35), (3, .ref 48), (4, .int (nI i)), (5, .int k), (6, .int b)], [.ref 35], _, _, _) rfl ?_
  exact K1

set_option maxRecDepth 100000 in
set_option maxHeartbeats 400000 in
theorem gD_pawl_1 {e0 e1 e2 e3 e4 e5 e6 e7 e8 e9 e10 e11 e12 e13 e14 e15 e16 e17 e18 e19 e20 e21 e22 e23 e24 e25 e26 e27 e28 e29 e30 e31 e32 e33 e34 e35 e36 e37 e38 e39 e40 e41 e42 e43 e44 e45 e46 e47 : va_E} {L i : Nat} {xs : Nat → Int32} {k : Int32} {b : Int32} {f : Nat → Int64}  {kc kn : Nat} {O : Option Value → aH → Prop} (hL : L ≤ 2560) (hi : i + 5 ≤ L) (hz : ¬ xs (i + 2) = 0) (hb : k = 0 → f 0 = b.toInt64) (K1 : (¬ k = 0) → JR (M_La_law L xs) (some (L, xs)) (1584, [(0, .ref 1000), (1, .ref 0), (2, .ref 35), (3, .ref 48), (4, .int (nI i))], [], (HP e0 e1 e2 e3 e4 e5 e6 e7 e8 e9 e10 e11 e12 e13 e14 e15 e16 e17 e18 e19 e20 e21 e22 e23 e24 e25 e26 e27 e28 e29 e30 e31 e32 e33 e34 e35 e36 e37 e38 e39 e40 e41 e42 e43 e44 e45 e46 e47 (.inl (1, 1, .inr (.inl f)))), kc, kn) O) (K2 : (¬ (¬ k = 0)) → JR (M_La_law L xs) (some (L, xs)) (1584, [(0, .ref 1000), (1, .ref 0), (2, .ref 35), (3, .ref 48), (4, .int (nI i))], [], (HP e0 e1 e2 e3 e4 e5 e6 e7 e8 e9 e10 e11 e12 e13 e14 e15 e16 e17 e18 e19 e20 e21 e22 e23 e24 e25 e26 e27 e28 e29 e30 e31 e32 e33 e34 e35 e36 e37 e38 e39 e40 e41 e42 e43 e44 e45 e46 e47 (.inl (1, 1, .inr (.inl f)))), kc, kn) O) : JR (M_La_law L xs) (some (L, xs)) (441, [(0, .ref 1000), (1, .ref 0), (2, .ref 35), (3, .ref 48), (4, .int (nI i)), (5, .int k), (6, .int b)], [.int k], (HP e0 e1 e2 e3 e4 e5 e6 e7 e8 e9 e10 e11 e12 e13 e14 e15 e16 e17 e18 e19 e20 e21 e22 e23 e24 e25 e26 e27 e28 e29 e30 e31 e32 e33 e34 e35 e36 e37 e38 e39 e40 e41 e42 e43 e44 e45 e46 e47 (.inl (1, 1, .inr (.inl f)))), kc, kn) O := by
  refine J.gp (ok_La_law (L := L) (xs := xs)) 1 (443, [(0, .ref 1000), (1, .ref 0), (2, .ref 35), (3, .ref 48), (4, .int (nI i)), (5, .int k), (6, .int b)], [.int k, .int k], _, _, _) rfl ?_
  refine J.icT (ok_La_law (L := L) (xs := xs)) (fun x y => x = y) 448 446 rfl (rfl) ?_
  refine J.gp (ok_La_law (L := L) (xs := xs)) 1 (450, [(0, .ref 1000), (1, .ref 0), (2, .ref 35), (3, .ref 48), (4, .int (nI i)), (5, .int k), (6, .int b)], [.int k], _, _, _) rfl ?_
  refine J.ifB (ok_La_law (L := L) (xs := xs)) (fun x => ¬ x = 0) 465 453 rfl (fun (c450 : ¬ k = 0) => ?_) (fun (c450 : ¬ (¬ k = 0)) => ?_)
  · refine J.gp (ok_La_law (L := L) (xs := xs)) 1 (1584, [(0, .ref 1000), (1, .ref 0), (2, .ref 35), (3, .ref 48), (4, .int (nI i)), (5, .int k), (6, .int b)], [], _, _, _) rfl ?_
    refine J.lv [0, 1, 2, 3, 4] [(0, .ref 1000), (1, .ref 0), (2, .ref 35), (3, .ref 48), (4, .int (nI i))] rfl ?_
    exact K1 c450
  · refine J.gp (ok_La_law (L := L) (xs := xs)) 2 (455, [(0, .ref 1000), (1, .ref 0), (2, .ref 35), (3, .ref 48), (4, .int (nI i)), (5, .int k), (6, .int b)], [.int 0, .ref 48], _, _, _) rfl ?_
    refine J.laldB (ok_La_law (L := L) (xs := xs)) 456 0 rfl rfl (rfl) (by omega) (by decide) ?_
    refine J.gp (ok_La_law (L := L) (xs := xs)) 3 (460, [(0, .ref 1000), (1, .ref 0), (2, .ref 35), (3, .ref 48), (4, .int (nI i)), (5, .int k), (6, .int b)], [.int (lg_cmp (f 0) (b.toInt64))], _, _, _) rfl ?_
    refine J.ifT (ok_La_law (L := L) (xs := xs)) (fun x => x = 0) 465 463 rfl (cmp_eq.mpr (hb (Classical.byContradiction c450))) ?_
    refine J.gp (ok_La_law (L := L) (xs := xs)) 1 (1584, [(0, .ref 1000), (1, .ref 0), (2, .ref 35), (3, .ref 48), (4, .int (nI i)), (5, .int k), (6, .int b)], [], _, _, _) rfl ?_
    refine J.lv [0, 1, 2, 3, 4] [(0, .ref 1000), (1, .ref 0), (2, .ref 35), (3, .ref 48), (4, .int (nI i))] rfl ?_
    exact K2 c450

theorem lc_pawl_1 {L i : Nat} {xs : Nat → Int32} {hp : aH} {kc kn : Nat} {O : Option Value → aH → Prop} (hL : L ≤ 2560) (hi : i + 5 ≤ L) (hz : ¬ xs (i + 2) = 0) (hw : Wd hp) (hk : 1 ≤ kc) (hn : 6 ≤ kn) (hc : CaseI M_La_pawl M_Mo_pawl [(0, 10, 13, 19)] [.ref 0, .int (xs (i + 1)), .int 1, .ref 48] [.ref 35, .int (xs (i + 1)), .int 1] hp) (K : ∀ th f q, LH th f q → JR (M_La_law L xs) (some (L, xs)) (1584, [(0, .ref 1000), (1, .ref 0), (2, .ref 35), (3, .ref 48), (4, .int (nI i))], [], q, kc - 1, kn - 6) O) : JR (M_La_law L xs) (some (L, xs)) (384, [(0, .ref 1000), (1, .ref 0), (2, .ref 35), (3, .ref 48), (4, .int (nI i))], [], hp, kc, kn) O := by
  obtain ⟨Oa, hJ, hA⟩ := hc
  refine gA_pawl_1 hL hi hz ?_
  refine J.callSH (rest := []) s_La_law_406 [.ref 0, .int (xs (i + 1)), .int 1, .ref 48] rfl (Nat.le_of_ble_eq_true rfl) hJ hk hn (Or.inr (by rw [hw.1]; rfl)) (fun v q h => ?_)
  obtain ⟨⟨hq, -, fs, h35⟩, k, rfl, O2, hM, hB⟩ := hA v q h
  refine J.gp (ok_La_law (L := L) (xs := xs)) 0 (409, [(0, .ref 1000), (1, .ref 0), (2, .ref 35), (3, .ref 48), (4, .int (nI i))], [.int k], q, _, _) rfl ?_
  refine gB_pawl_1 hL hi hz ?_
  refine J.callV (rest := []) s_La_law_432 35 [.int (xs (i + 1)), .int 1] 10 fs _ rfl rfl rfl h35 (Nat.le_of_ble_eq_true rfl) hM (Nat.zero_le _) (Nat.zero_le _) (Or.inl (fun v2 q2 h2 => ?_)) (fun v2 q2 h2 => ?_)
  · obtain ⟨b, -, f, hLH, -⟩ := hB v2 q2 h2
    rw [hLH.len, hq]
  · obtain ⟨b, rfl, f, hLH, hb⟩ := hB v2 q2 h2
    refine J.gp (ok_La_law (L := L) (xs := xs)) 0 (435, [(0, .ref 1000), (1, .ref 0), (2, .ref 35), (3, .ref 48), (4, .int (nI i)), (5, .int k)], [.int b], q2, _, _) rfl ?_
    refine gC_pawl_1 hL hi hz ?_
    have hLH2 := hLH
    obtain ⟨m, g, w, P, p, i9, s, t, bl, gn, B, F, T, e9, e10, e11, e12, e13, e15, e17, e18, e20, e22, e24, e26, e28, e30, e31, e32, e33, e34, e35, e38, e39, e40, e41, e42, e43, e44, e45, e46, e47, -, -, ⟨⟨m13, m14, m15, m16, m17, m18, m31, m36, m24, m25, m30, m33, m34, m35, m37, m38, m39, rfl⟩, -⟩, rfl⟩ := hLH
    refine J.callVE (rest := []) s_La_law_438 441 35 [] 10 c_Mo_thrown rfl rfl rfl rfl rfl (Nat.le_of_ble_eq_true rfl) rfl ?_
    exact gD_pawl_1 hL hi hz hb (fun _ => K _ _ _ hLH2) (fun _ => K _ _ _ hLH2)

set_option maxRecDepth 100000 in
set_option maxHeartbeats 400000 in
theorem gA_pawl_0 {hh : aH} {L i : Nat} {xs : Nat → Int32}  {kc kn : Nat} {O : Option Value → aH → Prop} (hL : L ≤ 2560) (hi : i + 5 ≤ L) (hz : xs (i + 2) = 0) (K1 : JR (M_La_law L xs) (some (L, xs)) (406, [(0, .ref 1000), (1, .ref 0), (2, .ref 35), (3, .ref 48), (4, .int (nI i))], [.ref 48, .int 0, .int (xs (i + 1)), .ref 0], hh, kc, kn) O) : JR (M_La_law L xs) (some (L, xs)) (384, [(0, .ref 1000), (1, .ref 0), (2, .ref 35), (3, .ref 48), (4, .int (nI i))], [], hh, kc, kn) O := by
  refine J.gp (ok_La_law (L := L) (xs := xs)) 5 (390, [(0, .ref 1000), (1, .ref 0), (2, .ref 35), (3, .ref 48), (4, .int (nI i))], [.int (nI i + 1), .ref 1000, .ref 0], _, _, _) rfl ?_
  rw [show ((nI i + 1) : Int32) = nI (i + 1) from nI_add i 1]
  refine J.sldB (ok_La_law (L := L) (xs := xs)) 391 (i + 1) rfl (rfl) (by omega) (by omega) ?_
  refine J.gp (ok_La_law (L := L) (xs := xs)) 4 (396, [(0, .ref 1000), (1, .ref 0), (2, .ref 35), (3, .ref 48), (4, .int (nI i))], [.int (nI i + 2), .ref 1000, .int (xs (i + 1)), .ref 0], _, _, _) rfl ?_
  rw [show ((nI i + 2) : Int32) = nI (i + 2) from nI_add i 2]
  refine J.sldB (ok_La_law (L := L) (xs := xs)) 397 (i + 2) rfl (rfl) (by omega) (by omega) ?_
  refine J.ifT (ok_La_law (L := L) (xs := xs)) (fun x => x = 0) 404 400 rfl (hz) ?_
  refine J.gp (ok_La_law (L := L) (xs := xs)) 2 (406, [(0, .ref 1000), (1, .ref 0), (2, .ref 35), (3, .ref 48), (4, .int (nI i))], [.ref 48, .int 0, .int (xs (i + 1)), .ref 0], _, _, _) rfl ?_
  exact K1

set_option maxRecDepth 100000 in
set_option maxHeartbeats 400000 in
theorem gB_pawl_0 {hh : aH} {L i : Nat} {xs : Nat → Int32} {k : Int32}  {kc kn : Nat} {O : Option Value → aH → Prop} (hL : L ≤ 2560) (hi : i + 5 ≤ L) (hz : xs (i + 2) = 0) (K1 : JR (M_La_law L xs) (some (L, xs)) (432, [(0, .ref 1000), (1, .ref 0), (2, .ref 35), (3, .ref 48), (4, .int (nI i)), (5, .int k)], [.int 0, .int (xs (i + 1)), .ref 35], hh, kc, kn) O) : JR (M_La_law L xs) (some (L, xs)) (409, [(0, .ref 1000), (1, .ref 0), (2, .ref 35), (3, .ref 48), (4, .int (nI i))], [.int k], hh, kc, kn) O := by
  refine J.gp (ok_La_law (L := L) (xs := xs)) 6 (417, [(0, .ref 1000), (1, .ref 0), (2, .ref 35), (3, .ref 48), (4, .int (nI i)), (5, .int k)], [.int (nI i + 1), .ref 1000, .ref 35], _, _, _) rfl ?_
  rw [show ((nI i + 1) : Int32) = nI (i + 1) from nI_add i 1]
  refine J.sldB (ok_La_law (L := L) (xs := xs)) 418 (i + 1) rfl (rfl) (by omega) (by omega) ?_
  refine J.gp (ok_La_law (L := L) (xs := xs)) 4 (423, [(0, .ref 1000), (1, .ref 0), (2, .ref 35), (3, .ref 48), (4, .int (nI i)), (5, .int k)], [.int (nI i + 2), .ref 1000, .int (xs (i + 1)), .ref 35], _, _, _) rfl ?_
  rw [show ((nI i + 2) : Int32) = nI (i + 2) from nI_add i 2]
  refine J.sldB (ok_La_law (L := L) (xs := xs)) 424 (i + 2) rfl (rfl) (by omega) (by omega) ?_
  refine J.ifT (ok_La_law (L := L) (xs := xs)) (fun x => x = 0) 431 427 rfl (hz) ?_
  refine J.gp (ok_La_law (L := L) (xs := xs)) 1 (432, [(0, .ref 1000), (1, .ref 0), (2, .ref 35), (3, .ref 48), (4, .int (nI i)), (5, .int k)], [.int 0, .int (xs (i + 1)), .ref 35], _, _, _) rfl ?_
  exact K1

set_option maxRecDepth 100000 in
set_option maxHeartbeats 400000 in
theorem gC_pawl_0 {hh : aH} {L i : Nat} {xs : Nat → Int32} {k : Int32} {b : Int32}  {kc kn : Nat} {O : Option Value → aH → Prop} (hL : L ≤ 2560) (hi : i + 5 ≤ L) (hz : xs (i + 2) = 0) (K1 : JR (M_La_law L xs) (some (L, xs)) (438, [(0, .ref 1000), (1, .ref 0), (2, .ref 35), (3, .ref 48), (4, .int (nI i)), (5, .int k), (6, .int b)], [.ref 35], hh, kc, kn) O) : JR (M_La_law L xs) (some (L, xs)) (435, [(0, .ref 1000), (1, .ref 0), (2, .ref 35), (3, .ref 48), (4, .int (nI i)), (5, .int k)], [.int b], hh, kc, kn) O := by
  refine J.gp (ok_La_law (L := L) (xs := xs)) 2 (438, [(0, .ref 1000), (1, .ref 0), (2, .ref 35), (3, .ref 48), (4, .int (nI i)), (5, .int k), (6, .int b)], [.ref 35], _, _, _) rfl ?_
  exact K1

set_option maxRecDepth 100000 in
set_option maxHeartbeats 400000 in
theorem gD_pawl_0 {e0 e1 e2 e3 e4 e5 e6 e7 e8 e9 e10 e11 e12 e13 e14 e15 e16 e17 e18 e19 e20 e21 e22 e23 e24 e25 e26 e27 e28 e29 e30 e31 e32 e33 e34 e35 e36 e37 e38 e39 e40 e41 e42 e43 e44 e45 e46 e47 : va_E} {L i : Nat} {xs : Nat → Int32} {k : Int32} {b : Int32} {f : Nat → Int64}  {kc kn : Nat} {O : Option Value → aH → Prop} (hL : L ≤ 2560) (hi : i + 5 ≤ L) (hz : xs (i + 2) = 0) (hb : k = 0 → f 0 = b.toInt64) (K1 : (¬ k = 0) → JR (M_La_law L xs) (some (L, xs)) (1584, [(0, .ref 1000), (1, .ref 0), (2, .ref 35), (3, .ref 48), (4, .int (nI i))], [], (HP e0 e1 e2 e3 e4 e5 e6 e7 e8 e9 e10 e11 e12 e13 e14 e15 e16 e17 e18 e19 e20 e21 e22 e23 e24 e25 e26 e27 e28 e29 e30 e31 e32 e33 e34 e35 e36 e37 e38 e39 e40 e41 e42 e43 e44 e45 e46 e47 (.inl (1, 1, .inr (.inl f)))), kc, kn) O) (K2 : (¬ (¬ k = 0)) → JR (M_La_law L xs) (some (L, xs)) (1584, [(0, .ref 1000), (1, .ref 0), (2, .ref 35), (3, .ref 48), (4, .int (nI i))], [], (HP e0 e1 e2 e3 e4 e5 e6 e7 e8 e9 e10 e11 e12 e13 e14 e15 e16 e17 e18 e19 e20 e21 e22 e23 e24 e25 e26 e27 e28 e29 e30 e31 e32 e33 e34 e35 e36 e37 e38 e39 e40 e41 e42 e43 e44 e45 e46 e47 (.inl (1, 1, .inr (.inl f)))), kc, kn) O) : JR (M_La_law L xs) (some (L, xs)) (441, [(0, .ref 1000), (1, .ref 0), (2, .ref 35), (3, .ref 48), (4, .int (nI i)), (5, .int k), (6, .int b)], [.int k], (HP e0 e1 e2 e3 e4 e5 e6 e7 e8 e9 e10 e11 e12 e13 e14 e15 e16 e17 e18 e19 e20 e21 e22 e23 e24 e25 e26 e27 e28 e29 e30 e31 e32 e33 e34 e35 e36 e37 e38 e39 e40 e41 e42 e43 e44 e45 e46 e47 (.inl (1, 1, .inr (.inl f)))), kc, kn) O := by
  refine J.gp (ok_La_law (L := L) (xs := xs)) 1 (443, [(0, .ref 1000), (1, .ref 0), (2, .ref 35), (3, .ref 48), (4, .int (nI i)), (5, .int k), (6, .int b)], [.int k, .int k], _, _, _) rfl ?_
  refine J.icT (ok_La_law (L := L) (xs := xs)) (fun x y => x = y) 448 446 rfl (rfl) ?_
  refine J.gp (ok_La_law (L := L) (xs := xs)) 1 (450, [(0, .ref 1000), (1, .ref 0), (2, .ref 35), (3, .ref 48), (4, .int (nI i)), (5, .int k), (6, .int b)], [.int k], _, _, _) rfl ?_
  refine J.ifB (ok_La_law (L := L) (xs := xs)) (fun x => ¬ x = 0) 465 453 rfl (fun (c450 : ¬ k = 0) => ?_) (fun (c450 : ¬ (¬ k = 0)) => ?_)
  · refine J.gp (ok_La_law (L := L) (xs := xs)) 1 (1584, [(0, .ref 1000), (1, .ref 0), (2, .ref 35), (3, .ref 48), (4, .int (nI i)), (5, .int k), (6, .int b)], [], _, _, _) rfl ?_
    refine J.lv [0, 1, 2, 3, 4] [(0, .ref 1000), (1, .ref 0), (2, .ref 35), (3, .ref 48), (4, .int (nI i))] rfl ?_
    exact K1 c450
  · refine J.gp (ok_La_law (L := L) (xs := xs)) 2 (455, [(0, .ref 1000), (1, .ref 0), (2, .ref 35), (3, .ref 48), (4, .int (nI i)), (5, .int k), (6, .int b)], [.int 0, .ref 48], _, _, _) rfl ?_
    refine J.laldB (ok_La_law (L := L) (xs := xs)) 456 0 rfl rfl (rfl) (by omega) (by decide) ?_
    refine J.gp (ok_La_law (L := L) (xs := xs)) 3 (460, [(0, .ref 1000), (1, .ref 0), (2, .ref 35), (3, .ref 48), (4, .int (nI i)), (5, .int k), (6, .int b)], [.int (lg_cmp (f 0) (b.toInt64))], _, _, _) rfl ?_
    refine J.ifT (ok_La_law (L := L) (xs := xs)) (fun x => x = 0) 465 463 rfl (cmp_eq.mpr (hb (Classical.byContradiction c450))) ?_
    refine J.gp (ok_La_law (L := L) (xs := xs)) 1 (1584, [(0, .ref 1000), (1, .ref 0), (2, .ref 35), (3, .ref 48), (4, .int (nI i)), (5, .int k), (6, .int b)], [], _, _, _) rfl ?_
    refine J.lv [0, 1, 2, 3, 4] [(0, .ref 1000), (1, .ref 0), (2, .ref 35), (3, .ref 48), (4, .int (nI i))] rfl ?_
    exact K2 c450

theorem lc_pawl_0 {L i : Nat} {xs : Nat → Int32} {hp : aH} {kc kn : Nat} {O : Option Value → aH → Prop} (hL : L ≤ 2560) (hi : i + 5 ≤ L) (hz : xs (i + 2) = 0) (hw : Wd hp) (hk : 1 ≤ kc) (hn : 6 ≤ kn) (hc : CaseI M_La_pawl M_Mo_pawl [(0, 10, 13, 19)] [.ref 0, .int (xs (i + 1)), .int 0, .ref 48] [.ref 35, .int (xs (i + 1)), .int 0] hp) (K : ∀ th f q, LH th f q → JR (M_La_law L xs) (some (L, xs)) (1584, [(0, .ref 1000), (1, .ref 0), (2, .ref 35), (3, .ref 48), (4, .int (nI i))], [], q, kc - 1, kn - 6) O) : JR (M_La_law L xs) (some (L, xs)) (384, [(0, .ref 1000), (1, .ref 0), (2, .ref 35), (3, .ref 48), (4, .int (nI i))], [], hp, kc, kn) O := by
  obtain ⟨Oa, hJ, hA⟩ := hc
  refine gA_pawl_0 hL hi hz ?_
  refine J.callSH (rest := []) s_La_law_406 [.ref 0, .int (xs (i + 1)), .int 0, .ref 48] rfl (Nat.le_of_ble_eq_true rfl) hJ hk hn (Or.inr (by rw [hw.1]; rfl)) (fun v q h => ?_)
  obtain ⟨⟨hq, -, fs, h35⟩, k, rfl, O2, hM, hB⟩ := hA v q h
  refine J.gp (ok_La_law (L := L) (xs := xs)) 0 (409, [(0, .ref 1000), (1, .ref 0), (2, .ref 35), (3, .ref 48), (4, .int (nI i))], [.int k], q, _, _) rfl ?_
  refine gB_pawl_0 hL hi hz ?_
  refine J.callV (rest := []) s_La_law_432 35 [.int (xs (i + 1)), .int 0] 10 fs _ rfl rfl rfl h35 (Nat.le_of_ble_eq_true rfl) hM (Nat.zero_le _) (Nat.zero_le _) (Or.inl (fun v2 q2 h2 => ?_)) (fun v2 q2 h2 => ?_)
  · obtain ⟨b, -, f, hLH, -⟩ := hB v2 q2 h2
    rw [hLH.len, hq]
  · obtain ⟨b, rfl, f, hLH, hb⟩ := hB v2 q2 h2
    refine J.gp (ok_La_law (L := L) (xs := xs)) 0 (435, [(0, .ref 1000), (1, .ref 0), (2, .ref 35), (3, .ref 48), (4, .int (nI i)), (5, .int k)], [.int b], q2, _, _) rfl ?_
    refine gC_pawl_0 hL hi hz ?_
    have hLH2 := hLH
    obtain ⟨m, g, w, P, p, i9, s, t, bl, gn, B, F, T, e9, e10, e11, e12, e13, e15, e17, e18, e20, e22, e24, e26, e28, e30, e31, e32, e33, e34, e35, e38, e39, e40, e41, e42, e43, e44, e45, e46, e47, -, -, ⟨⟨m13, m14, m15, m16, m17, m18, m31, m36, m24, m25, m30, m33, m34, m35, m37, m38, m39, rfl⟩, -⟩, rfl⟩ := hLH
    refine J.callVE (rest := []) s_La_law_438 441 35 [] 10 c_Mo_thrown rfl rfl rfl rfl rfl (Nat.le_of_ble_eq_true rfl) rfl ?_
    exact gD_pawl_0 hL hi hz hb (fun _ => K _ _ _ hLH2) (fun _ => K _ _ _ hLH2)

set_option maxRecDepth 100000 in
set_option maxHeartbeats 400000 in
theorem gA_setProgram {hh : aH} {L i : Nat} {xs : Nat → Int32}  {kc kn : Nat} {O : Option Value → aH → Prop} (hL : L ≤ 2560) (hi : i + 5 ≤ L) (K1 : JR (M_La_law L xs) (some (L, xs)) (476, [(0, .ref 1000), (1, .ref 0), (2, .ref 35), (3, .ref 48), (4, .int (nI i))], [.ref 48, .int (xs (i + 1)), .ref 0], hh, kc, kn) O) : JR (M_La_law L xs) (some (L, xs)) (468, [(0, .ref 1000), (1, .ref 0), (2, .ref 35), (3, .ref 48), (4, .int (nI i))], [], hh, kc, kn) O := by
  refine J.gp (ok_La_law (L := L) (xs := xs)) 5 (474, [(0, .ref 1000), (1, .ref 0), (2, .ref 35), (3, .ref 48), (4, .int (nI i))], [.int (nI i + 1), .ref 1000, .ref 0], _, _, _) rfl ?_
  rw [show ((nI i + 1) : Int32) = nI (i + 1) from nI_add i 1]
  refine J.sldB (ok_La_law (L := L) (xs := xs)) 475 (i + 1) rfl (rfl) (by omega) (by omega) ?_
  refine J.gp (ok_La_law (L := L) (xs := xs)) 1 (476, [(0, .ref 1000), (1, .ref 0), (2, .ref 35), (3, .ref 48), (4, .int (nI i))], [.ref 48, .int (xs (i + 1)), .ref 0], _, _, _) rfl ?_
  exact K1

set_option maxRecDepth 100000 in
set_option maxHeartbeats 400000 in
theorem gB_setProgram {hh : aH} {L i : Nat} {xs : Nat → Int32} {k : Int32}  {kc kn : Nat} {O : Option Value → aH → Prop} (hL : L ≤ 2560) (hi : i + 5 ≤ L) (K1 : JR (M_La_law L xs) (some (L, xs)) (488, [(0, .ref 1000), (1, .ref 0), (2, .ref 35), (3, .ref 48), (4, .int (nI i)), (5, .int k)], [.int (xs (i + 1)), .ref 35], hh, kc, kn) O) : JR (M_La_law L xs) (some (L, xs)) (479, [(0, .ref 1000), (1, .ref 0), (2, .ref 35), (3, .ref 48), (4, .int (nI i))], [.int k], hh, kc, kn) O := by
  refine J.gp (ok_La_law (L := L) (xs := xs)) 6 (487, [(0, .ref 1000), (1, .ref 0), (2, .ref 35), (3, .ref 48), (4, .int (nI i)), (5, .int k)], [.int (nI i + 1), .ref 1000, .ref 35], _, _, _) rfl ?_
  rw [show ((nI i + 1) : Int32) = nI (i + 1) from nI_add i 1]
  refine J.sldB (ok_La_law (L := L) (xs := xs)) 488 (i + 1) rfl (rfl) (by omega) (by omega) ?_
  exact K1

set_option maxRecDepth 100000 in
set_option maxHeartbeats 400000 in
theorem gC_setProgram {hh : aH} {L i : Nat} {xs : Nat → Int32} {k : Int32} {b : Int32}  {kc kn : Nat} {O : Option Value → aH → Prop} (hL : L ≤ 2560) (hi : i + 5 ≤ L) (K1 : JR (M_La_law L xs) (some (L, xs)) (494, [(0, .ref 1000), (1, .ref 0), (2, .ref 35), (3, .ref 48), (4, .int (nI i)), (5, .int k), (6, .int b)], [.ref 35], hh, kc, kn) O) : JR (M_La_law L xs) (some (L, xs)) (491, [(0, .ref 1000), (1, .ref 0), (2, .ref 35), (3, .ref 48), (4, .int (nI i)), (5, .int k)], [.int b], hh, kc, kn) O := by
  refine J.gp (ok_La_law (L := L) (xs := xs)) 2 (494, [(0, .ref 1000), (1, .ref 0), (2, .ref 35), (3, .ref 48), (4, .int (nI i)), (5, .int k), (6, .int b)], [.ref 35], _, _, _) rfl ?_
  exact K1

set_option maxRecDepth 100000 in
set_option maxHeartbeats 400000 in
theorem gD_setProgram {e0 e1 e2 e3 e4 e5 e6 e7 e8 e9 e10 e11 e12 e13 e14 e15 e16 e17 e18 e19 e20 e21 e22 e23 e24 e25 e26 e27 e28 e29 e30 e31 e32 e33 e34 e35 e36 e37 e38 e39 e40 e41 e42 e43 e44 e45 e46 e47 : va_E} {L i : Nat} {xs : Nat → Int32} {k : Int32} {b : Int32} {f : Nat → Int64}  {kc kn : Nat} {O : Option Value → aH → Prop} (hL : L ≤ 2560) (hi : i + 5 ≤ L) (hb : k = 0 → f 0 = b.toInt64) (K1 : (¬ k = 0) → JR (M_La_law L xs) (some (L, xs)) (1584, [(0, .ref 1000), (1, .ref 0), (2, .ref 35), (3, .ref 48), (4, .int (nI i))], [], (HP e0 e1 e2 e3 e4 e5 e6 e7 e8 e9 e10 e11 e12 e13 e14 e15 e16 e17 e18 e19 e20 e21 e22 e23 e24 e25 e26 e27 e28 e29 e30 e31 e32 e33 e34 e35 e36 e37 e38 e39 e40 e41 e42 e43 e44 e45 e46 e47 (.inl (1, 1, .inr (.inl f)))), kc, kn) O) (K2 : (¬ (¬ k = 0)) → JR (M_La_law L xs) (some (L, xs)) (1584, [(0, .ref 1000), (1, .ref 0), (2, .ref 35), (3, .ref 48), (4, .int (nI i))], [], (HP e0 e1 e2 e3 e4 e5 e6 e7 e8 e9 e10 e11 e12 e13 e14 e15 e16 e17 e18 e19 e20 e21 e22 e23 e24 e25 e26 e27 e28 e29 e30 e31 e32 e33 e34 e35 e36 e37 e38 e39 e40 e41 e42 e43 e44 e45 e46 e47 (.inl (1, 1, .inr (.inl f)))), kc, kn) O) : JR (M_La_law L xs) (some (L, xs)) (497, [(0, .ref 1000), (1, .ref 0), (2, .ref 35), (3, .ref 48), (4, .int (nI i)), (5, .int k), (6, .int b)], [.int k], (HP e0 e1 e2 e3 e4 e5 e6 e7 e8 e9 e10 e11 e12 e13 e14 e15 e16 e17 e18 e19 e20 e21 e22 e23 e24 e25 e26 e27 e28 e29 e30 e31 e32 e33 e34 e35 e36 e37 e38 e39 e40 e41 e42 e43 e44 e45 e46 e47 (.inl (1, 1, .inr (.inl f)))), kc, kn) O := by
  refine J.gp (ok_La_law (L := L) (xs := xs)) 1 (499, [(0, .ref 1000), (1, .ref 0), (2, .ref 35), (3, .ref 48), (4, .int (nI i)), (5, .int k), (6, .int b)], [.int k, .int k], _, _, _) rfl ?_
  refine J.icT (ok_La_law (L := L) (xs := xs)) (fun x y => x = y) 504 502 rfl (rfl) ?_
  refine J.gp (ok_La_law (L := L) (xs := xs)) 1 (506, [(0, .ref 1000), (1, .ref 0), (2, .ref 35), (3, .ref 48), (4, .int (nI i)), (5, .int k), (6, .int b)], [.int k], _, _, _) rfl ?_
  refine J.ifB (ok_La_law (L := L) (xs := xs)) (fun x => ¬ x = 0) 521 509 rfl (fun (c506 : ¬ k = 0) => ?_) (fun (c506 : ¬ (¬ k = 0)) => ?_)
  · refine J.gp (ok_La_law (L := L) (xs := xs)) 1 (1584, [(0, .ref 1000), (1, .ref 0), (2, .ref 35), (3, .ref 48), (4, .int (nI i)), (5, .int k), (6, .int b)], [], _, _, _) rfl ?_
    refine J.lv [0, 1, 2, 3, 4] [(0, .ref 1000), (1, .ref 0), (2, .ref 35), (3, .ref 48), (4, .int (nI i))] rfl ?_
    exact K1 c506
  · refine J.gp (ok_La_law (L := L) (xs := xs)) 2 (511, [(0, .ref 1000), (1, .ref 0), (2, .ref 35), (3, .ref 48), (4, .int (nI i)), (5, .int k), (6, .int b)], [.int 0, .ref 48], _, _, _) rfl ?_
    refine J.laldB (ok_La_law (L := L) (xs := xs)) 512 0 rfl rfl (rfl) (by omega) (by decide) ?_
    refine J.gp (ok_La_law (L := L) (xs := xs)) 3 (516, [(0, .ref 1000), (1, .ref 0), (2, .ref 35), (3, .ref 48), (4, .int (nI i)), (5, .int k), (6, .int b)], [.int (lg_cmp (f 0) (b.toInt64))], _, _, _) rfl ?_
    refine J.ifT (ok_La_law (L := L) (xs := xs)) (fun x => x = 0) 521 519 rfl (cmp_eq.mpr (hb (Classical.byContradiction c506))) ?_
    refine J.gp (ok_La_law (L := L) (xs := xs)) 1 (1584, [(0, .ref 1000), (1, .ref 0), (2, .ref 35), (3, .ref 48), (4, .int (nI i)), (5, .int k), (6, .int b)], [], _, _, _) rfl ?_
    refine J.lv [0, 1, 2, 3, 4] [(0, .ref 1000), (1, .ref 0), (2, .ref 35), (3, .ref 48), (4, .int (nI i))] rfl ?_
    exact K2 c506

theorem lc_setProgram {L i : Nat} {xs : Nat → Int32} {hp : aH} {kc kn : Nat} {O : Option Value → aH → Prop} (hL : L ≤ 2560) (hi : i + 5 ≤ L) (hw : Wd hp) (hk : 1 ≤ kc) (hn : 6 ≤ kn) (hc : CaseI M_La_setProgram M_Mo_setProgram [(0, 9, 12, 13)] [.ref 0, .int (xs (i + 1)), .ref 48] [.ref 35, .int (xs (i + 1))] hp) (K : ∀ th f q, LH th f q → JR (M_La_law L xs) (some (L, xs)) (1584, [(0, .ref 1000), (1, .ref 0), (2, .ref 35), (3, .ref 48), (4, .int (nI i))], [], q, kc - 1, kn - 6) O) : JR (M_La_law L xs) (some (L, xs)) (468, [(0, .ref 1000), (1, .ref 0), (2, .ref 35), (3, .ref 48), (4, .int (nI i))], [], hp, kc, kn) O := by
  obtain ⟨Oa, hJ, hA⟩ := hc
  refine gA_setProgram hL hi ?_
  refine J.callSH (rest := []) s_La_law_476 [.ref 0, .int (xs (i + 1)), .ref 48] rfl (Nat.le_of_ble_eq_true rfl) hJ hk hn (Or.inr (by rw [hw.1]; rfl)) (fun v q h => ?_)
  obtain ⟨⟨hq, -, fs, h35⟩, k, rfl, O2, hM, hB⟩ := hA v q h
  refine J.gp (ok_La_law (L := L) (xs := xs)) 0 (479, [(0, .ref 1000), (1, .ref 0), (2, .ref 35), (3, .ref 48), (4, .int (nI i))], [.int k], q, _, _) rfl ?_
  refine gB_setProgram hL hi ?_
  refine J.callV (rest := []) s_La_law_488 35 [.int (xs (i + 1))] 10 fs _ rfl rfl rfl h35 (Nat.le_of_ble_eq_true rfl) hM (Nat.zero_le _) (Nat.zero_le _) (Or.inl (fun v2 q2 h2 => ?_)) (fun v2 q2 h2 => ?_)
  · obtain ⟨b, -, f, hLH, -⟩ := hB v2 q2 h2
    rw [hLH.len, hq]
  · obtain ⟨b, rfl, f, hLH, hb⟩ := hB v2 q2 h2
    refine J.gp (ok_La_law (L := L) (xs := xs)) 0 (491, [(0, .ref 1000), (1, .ref 0), (2, .ref 35), (3, .ref 48), (4, .int (nI i)), (5, .int k)], [.int b], q2, _, _) rfl ?_
    refine gC_setProgram hL hi ?_
    have hLH2 := hLH
    obtain ⟨m, g, w, P, p, i9, s, t, bl, gn, B, F, T, e9, e10, e11, e12, e13, e15, e17, e18, e20, e22, e24, e26, e28, e30, e31, e32, e33, e34, e35, e38, e39, e40, e41, e42, e43, e44, e45, e46, e47, -, -, ⟨⟨m13, m14, m15, m16, m17, m18, m31, m36, m24, m25, m30, m33, m34, m35, m37, m38, m39, rfl⟩, -⟩, rfl⟩ := hLH
    refine J.callVE (rest := []) s_La_law_494 497 35 [] 10 c_Mo_thrown rfl rfl rfl rfl rfl (Nat.le_of_ble_eq_true rfl) rfl ?_
    exact gD_setProgram hL hi hb (fun _ => K _ _ _ hLH2) (fun _ => K _ _ _ hLH2)

set_option maxRecDepth 100000 in
set_option maxHeartbeats 400000 in
theorem gA_restart {hh : aH} {L i : Nat} {xs : Nat → Int32}  {kc kn : Nat} {O : Option Value → aH → Prop} (hL : L ≤ 2560) (hi : i + 5 ≤ L) (K1 : JR (M_La_law L xs) (some (L, xs)) (538, [(0, .ref 1000), (1, .ref 0), (2, .ref 35), (3, .ref 48), (4, .int (nI i))], [.ref 48, .int (xs (i + 2)), .int (xs (i + 1)), .ref 0], hh, kc, kn) O) : JR (M_La_law L xs) (some (L, xs)) (524, [(0, .ref 1000), (1, .ref 0), (2, .ref 35), (3, .ref 48), (4, .int (nI i))], [], hh, kc, kn) O := by
  refine J.gp (ok_La_law (L := L) (xs := xs)) 5 (530, [(0, .ref 1000), (1, .ref 0), (2, .ref 35), (3, .ref 48), (4, .int (nI i))], [.int (nI i + 1), .ref 1000, .ref 0], _, _, _) rfl ?_
  rw [show ((nI i + 1) : Int32) = nI (i + 1) from nI_add i 1]
  refine J.sldB (ok_La_law (L := L) (xs := xs)) 531 (i + 1) rfl (rfl) (by omega) (by omega) ?_
  refine J.gp (ok_La_law (L := L) (xs := xs)) 4 (536, [(0, .ref 1000), (1, .ref 0), (2, .ref 35), (3, .ref 48), (4, .int (nI i))], [.int (nI i + 2), .ref 1000, .int (xs (i + 1)), .ref 0], _, _, _) rfl ?_
  rw [show ((nI i + 2) : Int32) = nI (i + 2) from nI_add i 2]
  refine J.sldB (ok_La_law (L := L) (xs := xs)) 537 (i + 2) rfl (rfl) (by omega) (by omega) ?_
  refine J.gp (ok_La_law (L := L) (xs := xs)) 1 (538, [(0, .ref 1000), (1, .ref 0), (2, .ref 35), (3, .ref 48), (4, .int (nI i))], [.ref 48, .int (xs (i + 2)), .int (xs (i + 1)), .ref 0], _, _, _) rfl ?_
  exact K1

set_option maxRecDepth 100000 in
set_option maxHeartbeats 400000 in
theorem gB_restart {hh : aH} {L i : Nat} {xs : Nat → Int32} {k : Int32}  {kc kn : Nat} {O : Option Value → aH → Prop} (hL : L ≤ 2560) (hi : i + 5 ≤ L) (K1 : JR (M_La_law L xs) (some (L, xs)) (556, [(0, .ref 1000), (1, .ref 0), (2, .ref 35), (3, .ref 48), (4, .int (nI i)), (5, .int k)], [.int (xs (i + 2)), .int (xs (i + 1)), .ref 35], hh, kc, kn) O) : JR (M_La_law L xs) (some (L, xs)) (541, [(0, .ref 1000), (1, .ref 0), (2, .ref 35), (3, .ref 48), (4, .int (nI i))], [.int k], hh, kc, kn) O := by
  refine J.gp (ok_La_law (L := L) (xs := xs)) 6 (549, [(0, .ref 1000), (1, .ref 0), (2, .ref 35), (3, .ref 48), (4, .int (nI i)), (5, .int k)], [.int (nI i + 1), .ref 1000, .ref 35], _, _, _) rfl ?_
  rw [show ((nI i + 1) : Int32) = nI (i + 1) from nI_add i 1]
  refine J.sldB (ok_La_law (L := L) (xs := xs)) 550 (i + 1) rfl (rfl) (by omega) (by omega) ?_
  refine J.gp (ok_La_law (L := L) (xs := xs)) 4 (555, [(0, .ref 1000), (1, .ref 0), (2, .ref 35), (3, .ref 48), (4, .int (nI i)), (5, .int k)], [.int (nI i + 2), .ref 1000, .int (xs (i + 1)), .ref 35], _, _, _) rfl ?_
  rw [show ((nI i + 2) : Int32) = nI (i + 2) from nI_add i 2]
  refine J.sldB (ok_La_law (L := L) (xs := xs)) 556 (i + 2) rfl (rfl) (by omega) (by omega) ?_
  exact K1

set_option maxRecDepth 100000 in
set_option maxHeartbeats 400000 in
theorem gC_restart {hh : aH} {L i : Nat} {xs : Nat → Int32} {k : Int32} {b : Int32}  {kc kn : Nat} {O : Option Value → aH → Prop} (hL : L ≤ 2560) (hi : i + 5 ≤ L) (K1 : JR (M_La_law L xs) (some (L, xs)) (562, [(0, .ref 1000), (1, .ref 0), (2, .ref 35), (3, .ref 48), (4, .int (nI i)), (5, .int k), (6, .int b)], [.ref 35], hh, kc, kn) O) : JR (M_La_law L xs) (some (L, xs)) (559, [(0, .ref 1000), (1, .ref 0), (2, .ref 35), (3, .ref 48), (4, .int (nI i)), (5, .int k)], [.int b], hh, kc, kn) O := by
  refine J.gp (ok_La_law (L := L) (xs := xs)) 2 (562, [(0, .ref 1000), (1, .ref 0), (2, .ref 35), (3, .ref 48), (4, .int (nI i)), (5, .int k), (6, .int b)], [.ref 35], _, _, _) rfl ?_
  exact K1

set_option maxRecDepth 100000 in
set_option maxHeartbeats 400000 in
theorem gD_restart {e0 e1 e2 e3 e4 e5 e6 e7 e8 e9 e10 e11 e12 e13 e14 e15 e16 e17 e18 e19 e20 e21 e22 e23 e24 e25 e26 e27 e28 e29 e30 e31 e32 e33 e34 e35 e36 e37 e38 e39 e40 e41 e42 e43 e44 e45 e46 e47 : va_E} {L i : Nat} {xs : Nat → Int32} {k : Int32} {b : Int32} {f : Nat → Int64}  {kc kn : Nat} {O : Option Value → aH → Prop} (hL : L ≤ 2560) (hi : i + 5 ≤ L) (hb : k = 0 → f 0 = b.toInt64) (K1 : (¬ k = 0) → JR (M_La_law L xs) (some (L, xs)) (1584, [(0, .ref 1000), (1, .ref 0), (2, .ref 35), (3, .ref 48), (4, .int (nI i))], [], (HP e0 e1 e2 e3 e4 e5 e6 e7 e8 e9 e10 e11 e12 e13 e14 e15 e16 e17 e18 e19 e20 e21 e22 e23 e24 e25 e26 e27 e28 e29 e30 e31 e32 e33 e34 e35 e36 e37 e38 e39 e40 e41 e42 e43 e44 e45 e46 e47 (.inl (1, 1, .inr (.inl f)))), kc, kn) O) (K2 : (¬ (¬ k = 0)) → JR (M_La_law L xs) (some (L, xs)) (1584, [(0, .ref 1000), (1, .ref 0), (2, .ref 35), (3, .ref 48), (4, .int (nI i))], [], (HP e0 e1 e2 e3 e4 e5 e6 e7 e8 e9 e10 e11 e12 e13 e14 e15 e16 e17 e18 e19 e20 e21 e22 e23 e24 e25 e26 e27 e28 e29 e30 e31 e32 e33 e34 e35 e36 e37 e38 e39 e40 e41 e42 e43 e44 e45 e46 e47 (.inl (1, 1, .inr (.inl f)))), kc, kn) O) : JR (M_La_law L xs) (some (L, xs)) (565, [(0, .ref 1000), (1, .ref 0), (2, .ref 35), (3, .ref 48), (4, .int (nI i)), (5, .int k), (6, .int b)], [.int k], (HP e0 e1 e2 e3 e4 e5 e6 e7 e8 e9 e10 e11 e12 e13 e14 e15 e16 e17 e18 e19 e20 e21 e22 e23 e24 e25 e26 e27 e28 e29 e30 e31 e32 e33 e34 e35 e36 e37 e38 e39 e40 e41 e42 e43 e44 e45 e46 e47 (.inl (1, 1, .inr (.inl f)))), kc, kn) O := by
  refine J.gp (ok_La_law (L := L) (xs := xs)) 1 (567, [(0, .ref 1000), (1, .ref 0), (2, .ref 35), (3, .ref 48), (4, .int (nI i)), (5, .int k), (6, .int b)], [.int k, .int k], _, _, _) rfl ?_
  refine J.icT (ok_La_law (L := L) (xs := xs)) (fun x y => x = y) 572 570 rfl (rfl) ?_
  refine J.gp (ok_La_law (L := L) (xs := xs)) 1 (574, [(0, .ref 1000), (1, .ref 0), (2, .ref 35), (3, .ref 48), (4, .int (nI i)), (5, .int k), (6, .int b)], [.int k], _, _, _) rfl ?_
  refine J.ifB (ok_La_law (L := L) (xs := xs)) (fun x => ¬ x = 0) 589 577 rfl (fun (c574 : ¬ k = 0) => ?_) (fun (c574 : ¬ (¬ k = 0)) => ?_)
  · refine J.gp (ok_La_law (L := L) (xs := xs)) 1 (1584, [(0, .ref 1000), (1, .ref 0), (2, .ref 35), (3, .ref 48), (4, .int (nI i)), (5, .int k), (6, .int b)], [], _, _, _) rfl ?_
    refine J.lv [0, 1, 2, 3, 4] [(0, .ref 1000), (1, .ref 0), (2, .ref 35), (3, .ref 48), (4, .int (nI i))] rfl ?_
    exact K1 c574
  · refine J.gp (ok_La_law (L := L) (xs := xs)) 2 (579, [(0, .ref 1000), (1, .ref 0), (2, .ref 35), (3, .ref 48), (4, .int (nI i)), (5, .int k), (6, .int b)], [.int 0, .ref 48], _, _, _) rfl ?_
    refine J.laldB (ok_La_law (L := L) (xs := xs)) 580 0 rfl rfl (rfl) (by omega) (by decide) ?_
    refine J.gp (ok_La_law (L := L) (xs := xs)) 3 (584, [(0, .ref 1000), (1, .ref 0), (2, .ref 35), (3, .ref 48), (4, .int (nI i)), (5, .int k), (6, .int b)], [.int (lg_cmp (f 0) (b.toInt64))], _, _, _) rfl ?_
    refine J.ifT (ok_La_law (L := L) (xs := xs)) (fun x => x = 0) 589 587 rfl (cmp_eq.mpr (hb (Classical.byContradiction c574))) ?_
    refine J.gp (ok_La_law (L := L) (xs := xs)) 1 (1584, [(0, .ref 1000), (1, .ref 0), (2, .ref 35), (3, .ref 48), (4, .int (nI i)), (5, .int k), (6, .int b)], [], _, _, _) rfl ?_
    refine J.lv [0, 1, 2, 3, 4] [(0, .ref 1000), (1, .ref 0), (2, .ref 35), (3, .ref 48), (4, .int (nI i))] rfl ?_
    exact K2 c574

theorem lc_restart {L i : Nat} {xs : Nat → Int32} {hp : aH} {kc kn : Nat} {O : Option Value → aH → Prop} (hL : L ≤ 2560) (hi : i + 5 ≤ L) (hw : Wd hp) (hk : 1 ≤ kc) (hn : 6 ≤ kn) (hc : CaseI M_La_restart M_Mo_restart [(0, 10, 13, 19), (0, 10, 17, 13)] [.ref 0, .int (xs (i + 1)), .int (xs (i + 2)), .ref 48] [.ref 35, .int (xs (i + 1)), .int (xs (i + 2))] hp) (K : ∀ th f q, LH th f q → JR (M_La_law L xs) (some (L, xs)) (1584, [(0, .ref 1000), (1, .ref 0), (2, .ref 35), (3, .ref 48), (4, .int (nI i))], [], q, kc - 1, kn - 6) O) : JR (M_La_law L xs) (some (L, xs)) (524, [(0, .ref 1000), (1, .ref 0), (2, .ref 35), (3, .ref 48), (4, .int (nI i))], [], hp, kc, kn) O := by
  obtain ⟨Oa, hJ, hA⟩ := hc
  refine gA_restart hL hi ?_
  refine J.callSH (rest := []) s_La_law_538 [.ref 0, .int (xs (i + 1)), .int (xs (i + 2)), .ref 48] rfl (Nat.le_of_ble_eq_true rfl) hJ hk hn (Or.inr (by rw [hw.1]; rfl)) (fun v q h => ?_)
  obtain ⟨⟨hq, -, fs, h35⟩, k, rfl, O2, hM, hB⟩ := hA v q h
  refine J.gp (ok_La_law (L := L) (xs := xs)) 0 (541, [(0, .ref 1000), (1, .ref 0), (2, .ref 35), (3, .ref 48), (4, .int (nI i))], [.int k], q, _, _) rfl ?_
  refine gB_restart hL hi ?_
  refine J.callV (rest := []) s_La_law_556 35 [.int (xs (i + 1)), .int (xs (i + 2))] 10 fs _ rfl rfl rfl h35 (Nat.le_of_ble_eq_true rfl) hM (Nat.zero_le _) (Nat.zero_le _) (Or.inl (fun v2 q2 h2 => ?_)) (fun v2 q2 h2 => ?_)
  · obtain ⟨b, -, f, hLH, -⟩ := hB v2 q2 h2
    rw [hLH.len, hq]
  · obtain ⟨b, rfl, f, hLH, hb⟩ := hB v2 q2 h2
    refine J.gp (ok_La_law (L := L) (xs := xs)) 0 (559, [(0, .ref 1000), (1, .ref 0), (2, .ref 35), (3, .ref 48), (4, .int (nI i)), (5, .int k)], [.int b], q2, _, _) rfl ?_
    refine gC_restart hL hi ?_
    have hLH2 := hLH
    obtain ⟨m, g, w, P, p, i9, s, t, bl, gn, B, F, T, e9, e10, e11, e12, e13, e15, e17, e18, e20, e22, e24, e26, e28, e30, e31, e32, e33, e34, e35, e38, e39, e40, e41, e42, e43, e44, e45, e46, e47, -, -, ⟨⟨m13, m14, m15, m16, m17, m18, m31, m36, m24, m25, m30, m33, m34, m35, m37, m38, m39, rfl⟩, -⟩, rfl⟩ := hLH
    refine J.callVE (rest := []) s_La_law_562 565 35 [] 10 c_Mo_thrown rfl rfl rfl rfl rfl (Nat.le_of_ble_eq_true rfl) rfl ?_
    exact gD_restart hL hi hb (fun _ => K _ _ _ hLH2) (fun _ => K _ _ _ hLH2)

set_option maxRecDepth 100000 in
set_option maxHeartbeats 400000 in
theorem gA_run {hh : aH} {L i : Nat} {xs : Nat → Int32}  {kc kn : Nat} {O : Option Value → aH → Prop} (hL : L ≤ 2560) (hi : i + 5 ≤ L) (K1 : JR (M_La_law L xs) (some (L, xs)) (600, [(0, .ref 1000), (1, .ref 0), (2, .ref 35), (3, .ref 48), (4, .int (nI i))], [.ref 48, .int (xs (i + 1)), .ref 0], hh, kc, kn) O) : JR (M_La_law L xs) (some (L, xs)) (592, [(0, .ref 1000), (1, .ref 0), (2, .ref 35), (3, .ref 48), (4, .int (nI i))], [], hh, kc, kn) O := by
  refine J.gp (ok_La_law (L := L) (xs := xs)) 5 (598, [(0, .ref 1000), (1, .ref 0), (2, .ref 35), (3, .ref 48), (4, .int (nI i))], [.int (nI i + 1), .ref 1000, .ref 0], _, _, _) rfl ?_
  rw [show ((nI i + 1) : Int32) = nI (i + 1) from nI_add i 1]
  refine J.sldB (ok_La_law (L := L) (xs := xs)) 599 (i + 1) rfl (rfl) (by omega) (by omega) ?_
  refine J.gp (ok_La_law (L := L) (xs := xs)) 1 (600, [(0, .ref 1000), (1, .ref 0), (2, .ref 35), (3, .ref 48), (4, .int (nI i))], [.ref 48, .int (xs (i + 1)), .ref 0], _, _, _) rfl ?_
  exact K1

set_option maxRecDepth 100000 in
set_option maxHeartbeats 400000 in
theorem gB_run {hh : aH} {L i : Nat} {xs : Nat → Int32} {k : Int32}  {kc kn : Nat} {O : Option Value → aH → Prop} (hL : L ≤ 2560) (hi : i + 5 ≤ L) (K1 : JR (M_La_law L xs) (some (L, xs)) (612, [(0, .ref 1000), (1, .ref 0), (2, .ref 35), (3, .ref 48), (4, .int (nI i)), (5, .int k)], [.int (xs (i + 1)), .ref 35], hh, kc, kn) O) : JR (M_La_law L xs) (some (L, xs)) (603, [(0, .ref 1000), (1, .ref 0), (2, .ref 35), (3, .ref 48), (4, .int (nI i))], [.int k], hh, kc, kn) O := by
  refine J.gp (ok_La_law (L := L) (xs := xs)) 6 (611, [(0, .ref 1000), (1, .ref 0), (2, .ref 35), (3, .ref 48), (4, .int (nI i)), (5, .int k)], [.int (nI i + 1), .ref 1000, .ref 35], _, _, _) rfl ?_
  rw [show ((nI i + 1) : Int32) = nI (i + 1) from nI_add i 1]
  refine J.sldB (ok_La_law (L := L) (xs := xs)) 612 (i + 1) rfl (rfl) (by omega) (by omega) ?_
  exact K1

set_option maxRecDepth 100000 in
set_option maxHeartbeats 400000 in
theorem gC_run {hh : aH} {L i : Nat} {xs : Nat → Int32} {k : Int32} {b : Int32}  {kc kn : Nat} {O : Option Value → aH → Prop} (hL : L ≤ 2560) (hi : i + 5 ≤ L) (K1 : JR (M_La_law L xs) (some (L, xs)) (618, [(0, .ref 1000), (1, .ref 0), (2, .ref 35), (3, .ref 48), (4, .int (nI i)), (5, .int k), (6, .int b)], [.ref 35], hh, kc, kn) O) : JR (M_La_law L xs) (some (L, xs)) (615, [(0, .ref 1000), (1, .ref 0), (2, .ref 35), (3, .ref 48), (4, .int (nI i)), (5, .int k)], [.int b], hh, kc, kn) O := by
  refine J.gp (ok_La_law (L := L) (xs := xs)) 2 (618, [(0, .ref 1000), (1, .ref 0), (2, .ref 35), (3, .ref 48), (4, .int (nI i)), (5, .int k), (6, .int b)], [.ref 35], _, _, _) rfl ?_
  exact K1

set_option maxRecDepth 100000 in
set_option maxHeartbeats 400000 in
theorem gD_run {e0 e1 e2 e3 e4 e5 e6 e7 e8 e9 e10 e11 e12 e13 e14 e15 e16 e17 e18 e19 e20 e21 e22 e23 e24 e25 e26 e27 e28 e29 e30 e31 e32 e33 e34 e35 e36 e37 e38 e39 e40 e41 e42 e43 e44 e45 e46 e47 : va_E} {L i : Nat} {xs : Nat → Int32} {k : Int32} {b : Int32} {f : Nat → Int64}  {kc kn : Nat} {O : Option Value → aH → Prop} (hL : L ≤ 2560) (hi : i + 5 ≤ L) (hb : k = 0 → f 0 = b.toInt64) (K1 : (¬ k = 0) → JR (M_La_law L xs) (some (L, xs)) (1584, [(0, .ref 1000), (1, .ref 0), (2, .ref 35), (3, .ref 48), (4, .int (nI i))], [], (HP e0 e1 e2 e3 e4 e5 e6 e7 e8 e9 e10 e11 e12 e13 e14 e15 e16 e17 e18 e19 e20 e21 e22 e23 e24 e25 e26 e27 e28 e29 e30 e31 e32 e33 e34 e35 e36 e37 e38 e39 e40 e41 e42 e43 e44 e45 e46 e47 (.inl (1, 1, .inr (.inl f)))), kc, kn) O) (K2 : (¬ (¬ k = 0)) → JR (M_La_law L xs) (some (L, xs)) (1584, [(0, .ref 1000), (1, .ref 0), (2, .ref 35), (3, .ref 48), (4, .int (nI i))], [], (HP e0 e1 e2 e3 e4 e5 e6 e7 e8 e9 e10 e11 e12 e13 e14 e15 e16 e17 e18 e19 e20 e21 e22 e23 e24 e25 e26 e27 e28 e29 e30 e31 e32 e33 e34 e35 e36 e37 e38 e39 e40 e41 e42 e43 e44 e45 e46 e47 (.inl (1, 1, .inr (.inl f)))), kc, kn) O) : JR (M_La_law L xs) (some (L, xs)) (621, [(0, .ref 1000), (1, .ref 0), (2, .ref 35), (3, .ref 48), (4, .int (nI i)), (5, .int k), (6, .int b)], [.int k], (HP e0 e1 e2 e3 e4 e5 e6 e7 e8 e9 e10 e11 e12 e13 e14 e15 e16 e17 e18 e19 e20 e21 e22 e23 e24 e25 e26 e27 e28 e29 e30 e31 e32 e33 e34 e35 e36 e37 e38 e39 e40 e41 e42 e43 e44 e45 e46 e47 (.inl (1, 1, .inr (.inl f)))), kc, kn) O := by
  refine J.gp (ok_La_law (L := L) (xs := xs)) 1 (623, [(0, .ref 1000), (1, .ref 0), (2, .ref 35), (3, .ref 48), (4, .int (nI i)), (5, .int k), (6, .int b)], [.int k, .int k], _, _, _) rfl ?_
  refine J.icT (ok_La_law (L := L) (xs := xs)) (fun x y => x = y) 628 626 rfl (rfl) ?_
  refine J.gp (ok_La_law (L := L) (xs := xs)) 1 (630, [(0, .ref 1000), (1, .ref 0), (2, .ref 35), (3, .ref 48), (4, .int (nI i)), (5, .int k), (6, .int b)], [.int k], _, _, _) rfl ?_
  refine J.ifB (ok_La_law (L := L) (xs := xs)) (fun x => ¬ x = 0) 645 633 rfl (fun (c630 : ¬ k = 0) => ?_) (fun (c630 : ¬ (¬ k = 0)) => ?_)
  · refine J.gp (ok_La_law (L := L) (xs := xs)) 1 (1584, [(0, .ref 1000), (1, .ref 0), (2, .ref 35), (3, .ref 48), (4, .int (nI i)), (5, .int k), (6, .int b)], [], _, _, _) rfl ?_
    refine J.lv [0, 1, 2, 3, 4] [(0, .ref 1000), (1, .ref 0), (2, .ref 35), (3, .ref 48), (4, .int (nI i))] rfl ?_
    exact K1 c630
  · refine J.gp (ok_La_law (L := L) (xs := xs)) 2 (635, [(0, .ref 1000), (1, .ref 0), (2, .ref 35), (3, .ref 48), (4, .int (nI i)), (5, .int k), (6, .int b)], [.int 0, .ref 48], _, _, _) rfl ?_
    refine J.laldB (ok_La_law (L := L) (xs := xs)) 636 0 rfl rfl (rfl) (by omega) (by decide) ?_
    refine J.gp (ok_La_law (L := L) (xs := xs)) 3 (640, [(0, .ref 1000), (1, .ref 0), (2, .ref 35), (3, .ref 48), (4, .int (nI i)), (5, .int k), (6, .int b)], [.int (lg_cmp (f 0) (b.toInt64))], _, _, _) rfl ?_
    refine J.ifT (ok_La_law (L := L) (xs := xs)) (fun x => x = 0) 645 643 rfl (cmp_eq.mpr (hb (Classical.byContradiction c630))) ?_
    refine J.gp (ok_La_law (L := L) (xs := xs)) 1 (1584, [(0, .ref 1000), (1, .ref 0), (2, .ref 35), (3, .ref 48), (4, .int (nI i)), (5, .int k), (6, .int b)], [], _, _, _) rfl ?_
    refine J.lv [0, 1, 2, 3, 4] [(0, .ref 1000), (1, .ref 0), (2, .ref 35), (3, .ref 48), (4, .int (nI i))] rfl ?_
    exact K2 c630

theorem lc_run {L i : Nat} {xs : Nat → Int32} {hp : aH} {kc kn : Nat} {O : Option Value → aH → Prop} (hL : L ≤ 2560) (hi : i + 5 ≤ L) (hw : Wd hp) (hk : 1 ≤ kc) (hn : 6 ≤ kn) (hc : CaseI M_La_run M_Mo_run [(0, 9, 12, 13), (0, 9, 15, 38)] [.ref 0, .int (xs (i + 1)), .ref 48] [.ref 35, .int (xs (i + 1))] hp) (K : ∀ th f q, LH th f q → JR (M_La_law L xs) (some (L, xs)) (1584, [(0, .ref 1000), (1, .ref 0), (2, .ref 35), (3, .ref 48), (4, .int (nI i))], [], q, kc - 1, kn - 6) O) : JR (M_La_law L xs) (some (L, xs)) (592, [(0, .ref 1000), (1, .ref 0), (2, .ref 35), (3, .ref 48), (4, .int (nI i))], [], hp, kc, kn) O := by
  obtain ⟨Oa, hJ, hA⟩ := hc
  refine gA_run hL hi ?_
  refine J.callSH (rest := []) s_La_law_600 [.ref 0, .int (xs (i + 1)), .ref 48] rfl (Nat.le_of_ble_eq_true rfl) hJ hk hn (Or.inr (by rw [hw.1]; rfl)) (fun v q h => ?_)
  obtain ⟨⟨hq, -, fs, h35⟩, k, rfl, O2, hM, hB⟩ := hA v q h
  refine J.gp (ok_La_law (L := L) (xs := xs)) 0 (603, [(0, .ref 1000), (1, .ref 0), (2, .ref 35), (3, .ref 48), (4, .int (nI i))], [.int k], q, _, _) rfl ?_
  refine gB_run hL hi ?_
  refine J.callV (rest := []) s_La_law_612 35 [.int (xs (i + 1))] 10 fs _ rfl rfl rfl h35 (Nat.le_of_ble_eq_true rfl) hM (Nat.zero_le _) (Nat.zero_le _) (Or.inl (fun v2 q2 h2 => ?_)) (fun v2 q2 h2 => ?_)
  · obtain ⟨b, -, f, hLH, -⟩ := hB v2 q2 h2
    rw [hLH.len, hq]
  · obtain ⟨b, rfl, f, hLH, hb⟩ := hB v2 q2 h2
    refine J.gp (ok_La_law (L := L) (xs := xs)) 0 (615, [(0, .ref 1000), (1, .ref 0), (2, .ref 35), (3, .ref 48), (4, .int (nI i)), (5, .int k)], [.int b], q2, _, _) rfl ?_
    refine gC_run hL hi ?_
    have hLH2 := hLH
    obtain ⟨m, g, w, P, p, i9, s, t, bl, gn, B, F, T, e9, e10, e11, e12, e13, e15, e17, e18, e20, e22, e24, e26, e28, e30, e31, e32, e33, e34, e35, e38, e39, e40, e41, e42, e43, e44, e45, e46, e47, -, -, ⟨⟨m13, m14, m15, m16, m17, m18, m31, m36, m24, m25, m30, m33, m34, m35, m37, m38, m39, rfl⟩, -⟩, rfl⟩ := hLH
    refine J.callVE (rest := []) s_La_law_618 621 35 [] 10 c_Mo_thrown rfl rfl rfl rfl rfl (Nat.le_of_ble_eq_true rfl) rfl ?_
    exact gD_run hL hi hb (fun _ => K _ _ _ hLH2) (fun _ => K _ _ _ hLH2)

set_option maxRecDepth 100000 in
set_option maxHeartbeats 400000 in
theorem gA_append {hh : aH} {L i : Nat} {xs : Nat → Int32}  {kc kn : Nat} {O : Option Value → aH → Prop} (hL : L ≤ 2560) (hi : i + 5 ≤ L) (K1 : JR (M_La_law L xs) (some (L, xs)) (656, [(0, .ref 1000), (1, .ref 0), (2, .ref 35), (3, .ref 48), (4, .int (nI i))], [.ref 48, .int (xs (i + 1)), .ref 0], hh, kc, kn) O) : JR (M_La_law L xs) (some (L, xs)) (648, [(0, .ref 1000), (1, .ref 0), (2, .ref 35), (3, .ref 48), (4, .int (nI i))], [], hh, kc, kn) O := by
  refine J.gp (ok_La_law (L := L) (xs := xs)) 5 (654, [(0, .ref 1000), (1, .ref 0), (2, .ref 35), (3, .ref 48), (4, .int (nI i))], [.int (nI i + 1), .ref 1000, .ref 0], _, _, _) rfl ?_
  rw [show ((nI i + 1) : Int32) = nI (i + 1) from nI_add i 1]
  refine J.sldB (ok_La_law (L := L) (xs := xs)) 655 (i + 1) rfl (rfl) (by omega) (by omega) ?_
  refine J.gp (ok_La_law (L := L) (xs := xs)) 1 (656, [(0, .ref 1000), (1, .ref 0), (2, .ref 35), (3, .ref 48), (4, .int (nI i))], [.ref 48, .int (xs (i + 1)), .ref 0], _, _, _) rfl ?_
  exact K1

set_option maxRecDepth 100000 in
set_option maxHeartbeats 400000 in
theorem gB_append {hh : aH} {L i : Nat} {xs : Nat → Int32} {k : Int32}  {kc kn : Nat} {O : Option Value → aH → Prop} (hL : L ≤ 2560) (hi : i + 5 ≤ L) (K1 : JR (M_La_law L xs) (some (L, xs)) (668, [(0, .ref 1000), (1, .ref 0), (2, .ref 35), (3, .ref 48), (4, .int (nI i)), (5, .int k)], [.int (xs (i + 1)), .ref 35], hh, kc, kn) O) : JR (M_La_law L xs) (some (L, xs)) (659, [(0, .ref 1000), (1, .ref 0), (2, .ref 35), (3, .ref 48), (4, .int (nI i))], [.int k], hh, kc, kn) O := by
  refine J.gp (ok_La_law (L := L) (xs := xs)) 6 (667, [(0, .ref 1000), (1, .ref 0), (2, .ref 35), (3, .ref 48), (4, .int (nI i)), (5, .int k)], [.int (nI i + 1), .ref 1000, .ref 35], _, _, _) rfl ?_
  rw [show ((nI i + 1) : Int32) = nI (i + 1) from nI_add i 1]
  refine J.sldB (ok_La_law (L := L) (xs := xs)) 668 (i + 1) rfl (rfl) (by omega) (by omega) ?_
  exact K1

set_option maxRecDepth 100000 in
set_option maxHeartbeats 400000 in
theorem gC_append {hh : aH} {L i : Nat} {xs : Nat → Int32} {k : Int32} {b : Int32}  {kc kn : Nat} {O : Option Value → aH → Prop} (hL : L ≤ 2560) (hi : i + 5 ≤ L) (K1 : JR (M_La_law L xs) (some (L, xs)) (674, [(0, .ref 1000), (1, .ref 0), (2, .ref 35), (3, .ref 48), (4, .int (nI i)), (5, .int k), (6, .int b)], [.ref 35], hh, kc, kn) O) : JR (M_La_law L xs) (some (L, xs)) (671, [(0, .ref 1000), (1, .ref 0), (2, .ref 35), (3, .ref 48), (4, .int (nI i)), (5, .int k)], [.int b], hh, kc, kn) O := by
  refine J.gp (ok_La_law (L := L) (xs := xs)) 2 (674, [(0, .ref 1000), (1, .ref 0), (2, .ref 35), (3, .ref 48), (4, .int (nI i)), (5, .int k), (6, .int b)], [.ref 35], _, _, _) rfl ?_
  exact K1

set_option maxRecDepth 100000 in
set_option maxHeartbeats 400000 in
theorem gD_append {e0 e1 e2 e3 e4 e5 e6 e7 e8 e9 e10 e11 e12 e13 e14 e15 e16 e17 e18 e19 e20 e21 e22 e23 e24 e25 e26 e27 e28 e29 e30 e31 e32 e33 e34 e35 e36 e37 e38 e39 e40 e41 e42 e43 e44 e45 e46 e47 : va_E} {L i : Nat} {xs : Nat → Int32} {k : Int32} {b : Int32} {f : Nat → Int64}  {kc kn : Nat} {O : Option Value → aH → Prop} (hL : L ≤ 2560) (hi : i + 5 ≤ L) (hb : k = 0 → f 0 = b.toInt64) (K1 : (¬ k = 0) → JR (M_La_law L xs) (some (L, xs)) (1584, [(0, .ref 1000), (1, .ref 0), (2, .ref 35), (3, .ref 48), (4, .int (nI i))], [], (HP e0 e1 e2 e3 e4 e5 e6 e7 e8 e9 e10 e11 e12 e13 e14 e15 e16 e17 e18 e19 e20 e21 e22 e23 e24 e25 e26 e27 e28 e29 e30 e31 e32 e33 e34 e35 e36 e37 e38 e39 e40 e41 e42 e43 e44 e45 e46 e47 (.inl (1, 1, .inr (.inl f)))), kc, kn) O) (K2 : (¬ (¬ k = 0)) → JR (M_La_law L xs) (some (L, xs)) (1584, [(0, .ref 1000), (1, .ref 0), (2, .ref 35), (3, .ref 48), (4, .int (nI i))], [], (HP e0 e1 e2 e3 e4 e5 e6 e7 e8 e9 e10 e11 e12 e13 e14 e15 e16 e17 e18 e19 e20 e21 e22 e23 e24 e25 e26 e27 e28 e29 e30 e31 e32 e33 e34 e35 e36 e37 e38 e39 e40 e41 e42 e43 e44 e45 e46 e47 (.inl (1, 1, .inr (.inl f)))), kc, kn) O) : JR (M_La_law L xs) (some (L, xs)) (677, [(0, .ref 1000), (1, .ref 0), (2, .ref 35), (3, .ref 48), (4, .int (nI i)), (5, .int k), (6, .int b)], [.int k], (HP e0 e1 e2 e3 e4 e5 e6 e7 e8 e9 e10 e11 e12 e13 e14 e15 e16 e17 e18 e19 e20 e21 e22 e23 e24 e25 e26 e27 e28 e29 e30 e31 e32 e33 e34 e35 e36 e37 e38 e39 e40 e41 e42 e43 e44 e45 e46 e47 (.inl (1, 1, .inr (.inl f)))), kc, kn) O := by
  refine J.gp (ok_La_law (L := L) (xs := xs)) 1 (679, [(0, .ref 1000), (1, .ref 0), (2, .ref 35), (3, .ref 48), (4, .int (nI i)), (5, .int k), (6, .int b)], [.int k, .int k], _, _, _) rfl ?_
  refine J.icT (ok_La_law (L := L) (xs := xs)) (fun x y => x = y) 684 682 rfl (rfl) ?_
  refine J.gp (ok_La_law (L := L) (xs := xs)) 1 (686, [(0, .ref 1000), (1, .ref 0), (2, .ref 35), (3, .ref 48), (4, .int (nI i)), (5, .int k), (6, .int b)], [.int k], _, _, _) rfl ?_
  refine J.ifB (ok_La_law (L := L) (xs := xs)) (fun x => ¬ x = 0) 701 689 rfl (fun (c686 : ¬ k = 0) => ?_) (fun (c686 : ¬ (¬ k = 0)) => ?_)
  · refine J.gp (ok_La_law (L := L) (xs := xs)) 1 (1584, [(0, .ref 1000), (1, .ref 0), (2, .ref 35), (3, .ref 48), (4, .int (nI i)), (5, .int k), (6, .int b)], [], _, _, _) rfl ?_
    refine J.lv [0, 1, 2, 3, 4] [(0, .ref 1000), (1, .ref 0), (2, .ref 35), (3, .ref 48), (4, .int (nI i))] rfl ?_
    exact K1 c686
  · refine J.gp (ok_La_law (L := L) (xs := xs)) 2 (691, [(0, .ref 1000), (1, .ref 0), (2, .ref 35), (3, .ref 48), (4, .int (nI i)), (5, .int k), (6, .int b)], [.int 0, .ref 48], _, _, _) rfl ?_
    refine J.laldB (ok_La_law (L := L) (xs := xs)) 692 0 rfl rfl (rfl) (by omega) (by decide) ?_
    refine J.gp (ok_La_law (L := L) (xs := xs)) 3 (696, [(0, .ref 1000), (1, .ref 0), (2, .ref 35), (3, .ref 48), (4, .int (nI i)), (5, .int k), (6, .int b)], [.int (lg_cmp (f 0) (b.toInt64))], _, _, _) rfl ?_
    refine J.ifT (ok_La_law (L := L) (xs := xs)) (fun x => x = 0) 701 699 rfl (cmp_eq.mpr (hb (Classical.byContradiction c686))) ?_
    refine J.gp (ok_La_law (L := L) (xs := xs)) 1 (1584, [(0, .ref 1000), (1, .ref 0), (2, .ref 35), (3, .ref 48), (4, .int (nI i)), (5, .int k), (6, .int b)], [], _, _, _) rfl ?_
    refine J.lv [0, 1, 2, 3, 4] [(0, .ref 1000), (1, .ref 0), (2, .ref 35), (3, .ref 48), (4, .int (nI i))] rfl ?_
    exact K2 c686

theorem lc_append {L i : Nat} {xs : Nat → Int32} {hp : aH} {kc kn : Nat} {O : Option Value → aH → Prop} (hL : L ≤ 2560) (hi : i + 5 ≤ L) (hw : Wd hp) (hk : 1 ≤ kc) (hn : 6 ≤ kn) (hc : CaseI M_La_append M_Mo_append [(0, 9, 12, 13), (0, 9, 15, 38)] [.ref 0, .int (xs (i + 1)), .ref 48] [.ref 35, .int (xs (i + 1))] hp) (K : ∀ th f q, LH th f q → JR (M_La_law L xs) (some (L, xs)) (1584, [(0, .ref 1000), (1, .ref 0), (2, .ref 35), (3, .ref 48), (4, .int (nI i))], [], q, kc - 1, kn - 6) O) : JR (M_La_law L xs) (some (L, xs)) (648, [(0, .ref 1000), (1, .ref 0), (2, .ref 35), (3, .ref 48), (4, .int (nI i))], [], hp, kc, kn) O := by
  obtain ⟨Oa, hJ, hA⟩ := hc
  refine gA_append hL hi ?_
  refine J.callSH (rest := []) s_La_law_656 [.ref 0, .int (xs (i + 1)), .ref 48] rfl (Nat.le_of_ble_eq_true rfl) hJ hk hn (Or.inr (by rw [hw.1]; rfl)) (fun v q h => ?_)
  obtain ⟨⟨hq, -, fs, h35⟩, k, rfl, O2, hM, hB⟩ := hA v q h
  refine J.gp (ok_La_law (L := L) (xs := xs)) 0 (659, [(0, .ref 1000), (1, .ref 0), (2, .ref 35), (3, .ref 48), (4, .int (nI i))], [.int k], q, _, _) rfl ?_
  refine gB_append hL hi ?_
  refine J.callV (rest := []) s_La_law_668 35 [.int (xs (i + 1))] 10 fs _ rfl rfl rfl h35 (Nat.le_of_ble_eq_true rfl) hM (Nat.zero_le _) (Nat.zero_le _) (Or.inl (fun v2 q2 h2 => ?_)) (fun v2 q2 h2 => ?_)
  · obtain ⟨b, -, f, hLH, -⟩ := hB v2 q2 h2
    rw [hLH.len, hq]
  · obtain ⟨b, rfl, f, hLH, hb⟩ := hB v2 q2 h2
    refine J.gp (ok_La_law (L := L) (xs := xs)) 0 (671, [(0, .ref 1000), (1, .ref 0), (2, .ref 35), (3, .ref 48), (4, .int (nI i)), (5, .int k)], [.int b], q2, _, _) rfl ?_
    refine gC_append hL hi ?_
    have hLH2 := hLH
    obtain ⟨m, g, w, P, p, i9, s, t, bl, gn, B, F, T, e9, e10, e11, e12, e13, e15, e17, e18, e20, e22, e24, e26, e28, e30, e31, e32, e33, e34, e35, e38, e39, e40, e41, e42, e43, e44, e45, e46, e47, -, -, ⟨⟨m13, m14, m15, m16, m17, m18, m31, m36, m24, m25, m30, m33, m34, m35, m37, m38, m39, rfl⟩, -⟩, rfl⟩ := hLH
    refine J.callVE (rest := []) s_La_law_674 677 35 [] 10 c_Mo_thrown rfl rfl rfl rfl rfl (Nat.le_of_ble_eq_true rfl) rfl ?_
    exact gD_append hL hi hb (fun _ => K _ _ _ hLH2) (fun _ => K _ _ _ hLH2)

set_option maxRecDepth 100000 in
set_option maxHeartbeats 400000 in
theorem gA_load {hh : aH} {L i : Nat} {xs : Nat → Int32}  {kc kn : Nat} {O : Option Value → aH → Prop} (hL : L ≤ 2560) (hi : i + 5 ≤ L) (K1 : JR (M_La_law L xs) (some (L, xs)) (732, [(0, .ref 1000), (1, .ref 0), (2, .ref 35), (3, .ref 48), (4, .int (nI i))], [.ref 48, .ref 0], hh, kc, kn) O) : JR (M_La_law L xs) (some (L, xs)) (730, [(0, .ref 1000), (1, .ref 0), (2, .ref 35), (3, .ref 48), (4, .int (nI i))], [], hh, kc, kn) O := by
  refine J.gp (ok_La_law (L := L) (xs := xs)) 2 (732, [(0, .ref 1000), (1, .ref 0), (2, .ref 35), (3, .ref 48), (4, .int (nI i))], [.ref 48, .ref 0], _, _, _) rfl ?_
  exact K1

set_option maxRecDepth 100000 in
set_option maxHeartbeats 400000 in
theorem gB_load {hh : aH} {L i : Nat} {xs : Nat → Int32} {k : Int32}  {kc kn : Nat} {O : Option Value → aH → Prop} (hL : L ≤ 2560) (hi : i + 5 ≤ L) (K1 : JR (M_La_law L xs) (some (L, xs)) (738, [(0, .ref 1000), (1, .ref 0), (2, .ref 35), (3, .ref 48), (4, .int (nI i)), (5, .int k)], [.ref 35], hh, kc, kn) O) : JR (M_La_law L xs) (some (L, xs)) (735, [(0, .ref 1000), (1, .ref 0), (2, .ref 35), (3, .ref 48), (4, .int (nI i))], [.int k], hh, kc, kn) O := by
  refine J.gp (ok_La_law (L := L) (xs := xs)) 2 (738, [(0, .ref 1000), (1, .ref 0), (2, .ref 35), (3, .ref 48), (4, .int (nI i)), (5, .int k)], [.ref 35], _, _, _) rfl ?_
  exact K1

set_option maxRecDepth 100000 in
set_option maxHeartbeats 400000 in
theorem gC_load {hh : aH} {L i : Nat} {xs : Nat → Int32} {k : Int32} {b : Int32}  {kc kn : Nat} {O : Option Value → aH → Prop} (hL : L ≤ 2560) (hi : i + 5 ≤ L) (K1 : JR (M_La_law L xs) (some (L, xs)) (744, [(0, .ref 1000), (1, .ref 0), (2, .ref 35), (3, .ref 48), (4, .int (nI i)), (5, .int k), (6, .int b)], [.ref 35], hh, kc, kn) O) : JR (M_La_law L xs) (some (L, xs)) (741, [(0, .ref 1000), (1, .ref 0), (2, .ref 35), (3, .ref 48), (4, .int (nI i)), (5, .int k)], [.int b], hh, kc, kn) O := by
  refine J.gp (ok_La_law (L := L) (xs := xs)) 2 (744, [(0, .ref 1000), (1, .ref 0), (2, .ref 35), (3, .ref 48), (4, .int (nI i)), (5, .int k), (6, .int b)], [.ref 35], _, _, _) rfl ?_
  exact K1

set_option maxRecDepth 100000 in
set_option maxHeartbeats 400000 in
theorem gD_load {e0 e1 e2 e3 e4 e5 e6 e7 e8 e9 e10 e11 e12 e13 e14 e15 e16 e17 e18 e19 e20 e21 e22 e23 e24 e25 e26 e27 e28 e29 e30 e31 e32 e33 e34 e35 e36 e37 e38 e39 e40 e41 e42 e43 e44 e45 e46 e47 : va_E} {L i : Nat} {xs : Nat → Int32} {k : Int32} {b : Int32} {f : Nat → Int64}  {kc kn : Nat} {O : Option Value → aH → Prop} (hL : L ≤ 2560) (hi : i + 5 ≤ L) (hb : k = 0 → f 0 = b.toInt64) (K1 : (¬ k = 0) → JR (M_La_law L xs) (some (L, xs)) (1584, [(0, .ref 1000), (1, .ref 0), (2, .ref 35), (3, .ref 48), (4, .int (nI i))], [], (HP e0 e1 e2 e3 e4 e5 e6 e7 e8 e9 e10 e11 e12 e13 e14 e15 e16 e17 e18 e19 e20 e21 e22 e23 e24 e25 e26 e27 e28 e29 e30 e31 e32 e33 e34 e35 e36 e37 e38 e39 e40 e41 e42 e43 e44 e45 e46 e47 (.inl (1, 1, .inr (.inl f)))), kc, kn) O) (K2 : (¬ (¬ k = 0)) → JR (M_La_law L xs) (some (L, xs)) (1584, [(0, .ref 1000), (1, .ref 0), (2, .ref 35), (3, .ref 48), (4, .int (nI i))], [], (HP e0 e1 e2 e3 e4 e5 e6 e7 e8 e9 e10 e11 e12 e13 e14 e15 e16 e17 e18 e19 e20 e21 e22 e23 e24 e25 e26 e27 e28 e29 e30 e31 e32 e33 e34 e35 e36 e37 e38 e39 e40 e41 e42 e43 e44 e45 e46 e47 (.inl (1, 1, .inr (.inl f)))), kc, kn) O) : JR (M_La_law L xs) (some (L, xs)) (747, [(0, .ref 1000), (1, .ref 0), (2, .ref 35), (3, .ref 48), (4, .int (nI i)), (5, .int k), (6, .int b)], [.int k], (HP e0 e1 e2 e3 e4 e5 e6 e7 e8 e9 e10 e11 e12 e13 e14 e15 e16 e17 e18 e19 e20 e21 e22 e23 e24 e25 e26 e27 e28 e29 e30 e31 e32 e33 e34 e35 e36 e37 e38 e39 e40 e41 e42 e43 e44 e45 e46 e47 (.inl (1, 1, .inr (.inl f)))), kc, kn) O := by
  refine J.gp (ok_La_law (L := L) (xs := xs)) 1 (749, [(0, .ref 1000), (1, .ref 0), (2, .ref 35), (3, .ref 48), (4, .int (nI i)), (5, .int k), (6, .int b)], [.int k, .int k], _, _, _) rfl ?_
  refine J.icT (ok_La_law (L := L) (xs := xs)) (fun x y => x = y) 754 752 rfl (rfl) ?_
  refine J.gp (ok_La_law (L := L) (xs := xs)) 1 (756, [(0, .ref 1000), (1, .ref 0), (2, .ref 35), (3, .ref 48), (4, .int (nI i)), (5, .int k), (6, .int b)], [.int k], _, _, _) rfl ?_
  refine J.ifB (ok_La_law (L := L) (xs := xs)) (fun x => ¬ x = 0) 771 759 rfl (fun (c756 : ¬ k = 0) => ?_) (fun (c756 : ¬ (¬ k = 0)) => ?_)
  · refine J.gp (ok_La_law (L := L) (xs := xs)) 1 (1584, [(0, .ref 1000), (1, .ref 0), (2, .ref 35), (3, .ref 48), (4, .int (nI i)), (5, .int k), (6, .int b)], [], _, _, _) rfl ?_
    refine J.lv [0, 1, 2, 3, 4] [(0, .ref 1000), (1, .ref 0), (2, .ref 35), (3, .ref 48), (4, .int (nI i))] rfl ?_
    exact K1 c756
  · refine J.gp (ok_La_law (L := L) (xs := xs)) 2 (761, [(0, .ref 1000), (1, .ref 0), (2, .ref 35), (3, .ref 48), (4, .int (nI i)), (5, .int k), (6, .int b)], [.int 0, .ref 48], _, _, _) rfl ?_
    refine J.laldB (ok_La_law (L := L) (xs := xs)) 762 0 rfl rfl (rfl) (by omega) (by decide) ?_
    refine J.gp (ok_La_law (L := L) (xs := xs)) 3 (766, [(0, .ref 1000), (1, .ref 0), (2, .ref 35), (3, .ref 48), (4, .int (nI i)), (5, .int k), (6, .int b)], [.int (lg_cmp (f 0) (b.toInt64))], _, _, _) rfl ?_
    refine J.ifT (ok_La_law (L := L) (xs := xs)) (fun x => x = 0) 771 769 rfl (cmp_eq.mpr (hb (Classical.byContradiction c756))) ?_
    refine J.gp (ok_La_law (L := L) (xs := xs)) 1 (1584, [(0, .ref 1000), (1, .ref 0), (2, .ref 35), (3, .ref 48), (4, .int (nI i)), (5, .int k), (6, .int b)], [], _, _, _) rfl ?_
    refine J.lv [0, 1, 2, 3, 4] [(0, .ref 1000), (1, .ref 0), (2, .ref 35), (3, .ref 48), (4, .int (nI i))] rfl ?_
    exact K2 c756

theorem lc_load {L i : Nat} {xs : Nat → Int32} {hp : aH} {kc kn : Nat} {O : Option Value → aH → Prop} (hL : L ≤ 2560) (hi : i + 5 ≤ L) (hw : Wd hp) (hk : 1 ≤ kc) (hn : 6 ≤ kn) (hc : CaseI M_La_load M_Mo_load [(0, 8, 11, 13)] [.ref 0, .ref 48] [.ref 35] hp) (K : ∀ th f q, LH th f q → JR (M_La_law L xs) (some (L, xs)) (1584, [(0, .ref 1000), (1, .ref 0), (2, .ref 35), (3, .ref 48), (4, .int (nI i))], [], q, kc - 1, kn - 6) O) : JR (M_La_law L xs) (some (L, xs)) (730, [(0, .ref 1000), (1, .ref 0), (2, .ref 35), (3, .ref 48), (4, .int (nI i))], [], hp, kc, kn) O := by
  obtain ⟨Oa, hJ, hA⟩ := hc
  refine gA_load hL hi ?_
  refine J.callSH (rest := []) s_La_law_732 [.ref 0, .ref 48] rfl (Nat.le_of_ble_eq_true rfl) hJ hk hn (Or.inr (by rw [hw.1]; rfl)) (fun v q h => ?_)
  obtain ⟨⟨hq, -, fs, h35⟩, k, rfl, O2, hM, hB⟩ := hA v q h
  refine J.gp (ok_La_law (L := L) (xs := xs)) 0 (735, [(0, .ref 1000), (1, .ref 0), (2, .ref 35), (3, .ref 48), (4, .int (nI i))], [.int k], q, _, _) rfl ?_
  refine gB_load hL hi ?_
  refine J.callV (rest := []) s_La_law_738 35 [] 10 fs _ rfl rfl rfl h35 (Nat.le_of_ble_eq_true rfl) hM (Nat.zero_le _) (Nat.zero_le _) (Or.inl (fun v2 q2 h2 => ?_)) (fun v2 q2 h2 => ?_)
  · obtain ⟨b, -, f, hLH, -⟩ := hB v2 q2 h2
    rw [hLH.len, hq]
  · obtain ⟨b, rfl, f, hLH, hb⟩ := hB v2 q2 h2
    refine J.gp (ok_La_law (L := L) (xs := xs)) 0 (741, [(0, .ref 1000), (1, .ref 0), (2, .ref 35), (3, .ref 48), (4, .int (nI i)), (5, .int k)], [.int b], q2, _, _) rfl ?_
    refine gC_load hL hi ?_
    have hLH2 := hLH
    obtain ⟨m, g, w, P, p, i9, s, t, bl, gn, B, F, T, e9, e10, e11, e12, e13, e15, e17, e18, e20, e22, e24, e26, e28, e30, e31, e32, e33, e34, e35, e38, e39, e40, e41, e42, e43, e44, e45, e46, e47, -, -, ⟨⟨m13, m14, m15, m16, m17, m18, m31, m36, m24, m25, m30, m33, m34, m35, m37, m38, m39, rfl⟩, -⟩, rfl⟩ := hLH
    refine J.callVE (rest := []) s_La_law_744 747 35 [] 10 c_Mo_thrown rfl rfl rfl rfl rfl (Nat.le_of_ble_eq_true rfl) rfl ?_
    exact gD_load hL hi hb (fun _ => K _ _ _ hLH2) (fun _ => K _ _ _ hLH2)

set_option maxRecDepth 100000 in
set_option maxHeartbeats 400000 in
theorem gA_cycle {hh : aH} {L i : Nat} {xs : Nat → Int32}  {kc kn : Nat} {O : Option Value → aH → Prop} (hL : L ≤ 2560) (hi : i + 5 ≤ L) (K1 : JR (M_La_law L xs) (some (L, xs)) (782, [(0, .ref 1000), (1, .ref 0), (2, .ref 35), (3, .ref 48), (4, .int (nI i))], [.ref 48, .int (xs (i + 1)), .ref 0], hh, kc, kn) O) : JR (M_La_law L xs) (some (L, xs)) (774, [(0, .ref 1000), (1, .ref 0), (2, .ref 35), (3, .ref 48), (4, .int (nI i))], [], hh, kc, kn) O := by
  refine J.gp (ok_La_law (L := L) (xs := xs)) 5 (780, [(0, .ref 1000), (1, .ref 0), (2, .ref 35), (3, .ref 48), (4, .int (nI i))], [.int (nI i + 1), .ref 1000, .ref 0], _, _, _) rfl ?_
  rw [show ((nI i + 1) : Int32) = nI (i + 1) from nI_add i 1]
  refine J.sldB (ok_La_law (L := L) (xs := xs)) 781 (i + 1) rfl (rfl) (by omega) (by omega) ?_
  refine J.gp (ok_La_law (L := L) (xs := xs)) 1 (782, [(0, .ref 1000), (1, .ref 0), (2, .ref 35), (3, .ref 48), (4, .int (nI i))], [.ref 48, .int (xs (i + 1)), .ref 0], _, _, _) rfl ?_
  exact K1

set_option maxRecDepth 100000 in
set_option maxHeartbeats 400000 in
theorem gB_cycle {hh : aH} {L i : Nat} {xs : Nat → Int32} {k : Int32}  {kc kn : Nat} {O : Option Value → aH → Prop} (hL : L ≤ 2560) (hi : i + 5 ≤ L) (K1 : JR (M_La_law L xs) (some (L, xs)) (794, [(0, .ref 1000), (1, .ref 0), (2, .ref 35), (3, .ref 48), (4, .int (nI i)), (5, .int k)], [.int (xs (i + 1)), .ref 35], hh, kc, kn) O) : JR (M_La_law L xs) (some (L, xs)) (785, [(0, .ref 1000), (1, .ref 0), (2, .ref 35), (3, .ref 48), (4, .int (nI i))], [.int k], hh, kc, kn) O := by
  refine J.gp (ok_La_law (L := L) (xs := xs)) 6 (793, [(0, .ref 1000), (1, .ref 0), (2, .ref 35), (3, .ref 48), (4, .int (nI i)), (5, .int k)], [.int (nI i + 1), .ref 1000, .ref 35], _, _, _) rfl ?_
  rw [show ((nI i + 1) : Int32) = nI (i + 1) from nI_add i 1]
  refine J.sldB (ok_La_law (L := L) (xs := xs)) 794 (i + 1) rfl (rfl) (by omega) (by omega) ?_
  exact K1

set_option maxRecDepth 100000 in
set_option maxHeartbeats 400000 in
theorem gC_cycle {hh : aH} {L i : Nat} {xs : Nat → Int32} {k : Int32} {b : Int32}  {kc kn : Nat} {O : Option Value → aH → Prop} (hL : L ≤ 2560) (hi : i + 5 ≤ L) (K1 : JR (M_La_law L xs) (some (L, xs)) (800, [(0, .ref 1000), (1, .ref 0), (2, .ref 35), (3, .ref 48), (4, .int (nI i)), (5, .int k), (6, .int b)], [.ref 35], hh, kc, kn) O) : JR (M_La_law L xs) (some (L, xs)) (797, [(0, .ref 1000), (1, .ref 0), (2, .ref 35), (3, .ref 48), (4, .int (nI i)), (5, .int k)], [.int b], hh, kc, kn) O := by
  refine J.gp (ok_La_law (L := L) (xs := xs)) 2 (800, [(0, .ref 1000), (1, .ref 0), (2, .ref 35), (3, .ref 48), (4, .int (nI i)), (5, .int k), (6, .int b)], [.ref 35], _, _, _) rfl ?_
  exact K1

set_option maxRecDepth 100000 in
set_option maxHeartbeats 400000 in
theorem gD_cycle {e0 e1 e2 e3 e4 e5 e6 e7 e8 e9 e10 e11 e12 e13 e14 e15 e16 e17 e18 e19 e20 e21 e22 e23 e24 e25 e26 e27 e28 e29 e30 e31 e32 e33 e34 e35 e36 e37 e38 e39 e40 e41 e42 e43 e44 e45 e46 e47 : va_E} {L i : Nat} {xs : Nat → Int32} {k : Int32} {b : Int32} {f : Nat → Int64}  {kc kn : Nat} {O : Option Value → aH → Prop} (hL : L ≤ 2560) (hi : i + 5 ≤ L) (hb : k = 0 → f 0 = b.toInt64) (K1 : (¬ k = 0) → JR (M_La_law L xs) (some (L, xs)) (1584, [(0, .ref 1000), (1, .ref 0), (2, .ref 35), (3, .ref 48), (4, .int (nI i))], [], (HP e0 e1 e2 e3 e4 e5 e6 e7 e8 e9 e10 e11 e12 e13 e14 e15 e16 e17 e18 e19 e20 e21 e22 e23 e24 e25 e26 e27 e28 e29 e30 e31 e32 e33 e34 e35 e36 e37 e38 e39 e40 e41 e42 e43 e44 e45 e46 e47 (.inl (1, 1, .inr (.inl f)))), kc, kn) O) (K2 : (¬ (¬ k = 0)) → JR (M_La_law L xs) (some (L, xs)) (1584, [(0, .ref 1000), (1, .ref 0), (2, .ref 35), (3, .ref 48), (4, .int (nI i))], [], (HP e0 e1 e2 e3 e4 e5 e6 e7 e8 e9 e10 e11 e12 e13 e14 e15 e16 e17 e18 e19 e20 e21 e22 e23 e24 e25 e26 e27 e28 e29 e30 e31 e32 e33 e34 e35 e36 e37 e38 e39 e40 e41 e42 e43 e44 e45 e46 e47 (.inl (1, 1, .inr (.inl f)))), kc, kn) O) : JR (M_La_law L xs) (some (L, xs)) (803, [(0, .ref 1000), (1, .ref 0), (2, .ref 35), (3, .ref 48), (4, .int (nI i)), (5, .int k), (6, .int b)], [.int k], (HP e0 e1 e2 e3 e4 e5 e6 e7 e8 e9 e10 e11 e12 e13 e14 e15 e16 e17 e18 e19 e20 e21 e22 e23 e24 e25 e26 e27 e28 e29 e30 e31 e32 e33 e34 e35 e36 e37 e38 e39 e40 e41 e42 e43 e44 e45 e46 e47 (.inl (1, 1, .inr (.inl f)))), kc, kn) O := by
  refine J.gp (ok_La_law (L := L) (xs := xs)) 1 (805, [(0, .ref 1000), (1, .ref 0), (2, .ref 35), (3, .ref 48), (4, .int (nI i)), (5, .int k), (6, .int b)], [.int k, .int k], _, _, _) rfl ?_
  refine J.icT (ok_La_law (L := L) (xs := xs)) (fun x y => x = y) 810 808 rfl (rfl) ?_
  refine J.gp (ok_La_law (L := L) (xs := xs)) 1 (812, [(0, .ref 1000), (1, .ref 0), (2, .ref 35), (3, .ref 48), (4, .int (nI i)), (5, .int k), (6, .int b)], [.int k], _, _, _) rfl ?_
  refine J.ifB (ok_La_law (L := L) (xs := xs)) (fun x => ¬ x = 0) 827 815 rfl (fun (c812 : ¬ k = 0) => ?_) (fun (c812 : ¬ (¬ k = 0)) => ?_)
  · refine J.gp (ok_La_law (L := L) (xs := xs)) 1 (1584, [(0, .ref 1000), (1, .ref 0), (2, .ref 35), (3, .ref 48), (4, .int (nI i)), (5, .int k), (6, .int b)], [], _, _, _) rfl ?_
    refine J.lv [0, 1, 2, 3, 4] [(0, .ref 1000), (1, .ref 0), (2, .ref 35), (3, .ref 48), (4, .int (nI i))] rfl ?_
    exact K1 c812
  · refine J.gp (ok_La_law (L := L) (xs := xs)) 2 (817, [(0, .ref 1000), (1, .ref 0), (2, .ref 35), (3, .ref 48), (4, .int (nI i)), (5, .int k), (6, .int b)], [.int 0, .ref 48], _, _, _) rfl ?_
    refine J.laldB (ok_La_law (L := L) (xs := xs)) 818 0 rfl rfl (rfl) (by omega) (by decide) ?_
    refine J.gp (ok_La_law (L := L) (xs := xs)) 3 (822, [(0, .ref 1000), (1, .ref 0), (2, .ref 35), (3, .ref 48), (4, .int (nI i)), (5, .int k), (6, .int b)], [.int (lg_cmp (f 0) (b.toInt64))], _, _, _) rfl ?_
    refine J.ifT (ok_La_law (L := L) (xs := xs)) (fun x => x = 0) 827 825 rfl (cmp_eq.mpr (hb (Classical.byContradiction c812))) ?_
    refine J.gp (ok_La_law (L := L) (xs := xs)) 1 (1584, [(0, .ref 1000), (1, .ref 0), (2, .ref 35), (3, .ref 48), (4, .int (nI i)), (5, .int k), (6, .int b)], [], _, _, _) rfl ?_
    refine J.lv [0, 1, 2, 3, 4] [(0, .ref 1000), (1, .ref 0), (2, .ref 35), (3, .ref 48), (4, .int (nI i))] rfl ?_
    exact K2 c812

theorem lc_cycle {L i : Nat} {xs : Nat → Int32} {hp : aH} {kc kn : Nat} {O : Option Value → aH → Prop} (hL : L ≤ 2560) (hi : i + 5 ≤ L) (hw : Wd hp) (hk : 1 ≤ kc) (hn : 6 ≤ kn) (hc : CaseI M_La_cycle M_Mo_cycle [(0, 9, 12, 13)] [.ref 0, .int (xs (i + 1)), .ref 48] [.ref 35, .int (xs (i + 1))] hp) (K : ∀ th f q, LH th f q → JR (M_La_law L xs) (some (L, xs)) (1584, [(0, .ref 1000), (1, .ref 0), (2, .ref 35), (3, .ref 48), (4, .int (nI i))], [], q, kc - 1, kn - 6) O) : JR (M_La_law L xs) (some (L, xs)) (774, [(0, .ref 1000), (1, .ref 0), (2, .ref 35), (3, .ref 48), (4, .int (nI i))], [], hp, kc, kn) O := by
  obtain ⟨Oa, hJ, hA⟩ := hc
  refine gA_cycle hL hi ?_
  refine J.callSH (rest := []) s_La_law_782 [.ref 0, .int (xs (i + 1)), .ref 48] rfl (Nat.le_of_ble_eq_true rfl) hJ hk hn (Or.inr (by rw [hw.1]; rfl)) (fun v q h => ?_)
  obtain ⟨⟨hq, -, fs, h35⟩, k, rfl, O2, hM, hB⟩ := hA v q h
  refine J.gp (ok_La_law (L := L) (xs := xs)) 0 (785, [(0, .ref 1000), (1, .ref 0), (2, .ref 35), (3, .ref 48), (4, .int (nI i))], [.int k], q, _, _) rfl ?_
  refine gB_cycle hL hi ?_
  refine J.callV (rest := []) s_La_law_794 35 [.int (xs (i + 1))] 10 fs _ rfl rfl rfl h35 (Nat.le_of_ble_eq_true rfl) hM (Nat.zero_le _) (Nat.zero_le _) (Or.inl (fun v2 q2 h2 => ?_)) (fun v2 q2 h2 => ?_)
  · obtain ⟨b, -, f, hLH, -⟩ := hB v2 q2 h2
    rw [hLH.len, hq]
  · obtain ⟨b, rfl, f, hLH, hb⟩ := hB v2 q2 h2
    refine J.gp (ok_La_law (L := L) (xs := xs)) 0 (797, [(0, .ref 1000), (1, .ref 0), (2, .ref 35), (3, .ref 48), (4, .int (nI i)), (5, .int k)], [.int b], q2, _, _) rfl ?_
    refine gC_cycle hL hi ?_
    have hLH2 := hLH
    obtain ⟨m, g, w, P, p, i9, s, t, bl, gn, B, F, T, e9, e10, e11, e12, e13, e15, e17, e18, e20, e22, e24, e26, e28, e30, e31, e32, e33, e34, e35, e38, e39, e40, e41, e42, e43, e44, e45, e46, e47, -, -, ⟨⟨m13, m14, m15, m16, m17, m18, m31, m36, m24, m25, m30, m33, m34, m35, m37, m38, m39, rfl⟩, -⟩, rfl⟩ := hLH
    refine J.callVE (rest := []) s_La_law_800 803 35 [] 10 c_Mo_thrown rfl rfl rfl rfl rfl (Nat.le_of_ble_eq_true rfl) rfl ?_
    exact gD_cycle hL hi hb (fun _ => K _ _ _ hLH2) (fun _ => K _ _ _ hLH2)

set_option maxRecDepth 100000 in
set_option maxHeartbeats 400000 in
theorem gA_chance {hh : aH} {L i : Nat} {xs : Nat → Int32}  {kc kn : Nat} {O : Option Value → aH → Prop} (hL : L ≤ 2560) (hi : i + 5 ≤ L) (K1 : JR (M_La_law L xs) (some (L, xs)) (844, [(0, .ref 1000), (1, .ref 0), (2, .ref 35), (3, .ref 48), (4, .int (nI i))], [.ref 48, .int (xs (i + 2)), .int (xs (i + 1)), .ref 0], hh, kc, kn) O) : JR (M_La_law L xs) (some (L, xs)) (830, [(0, .ref 1000), (1, .ref 0), (2, .ref 35), (3, .ref 48), (4, .int (nI i))], [], hh, kc, kn) O := by
  refine J.gp (ok_La_law (L := L) (xs := xs)) 5 (836, [(0, .ref 1000), (1, .ref 0), (2, .ref 35), (3, .ref 48), (4, .int (nI i))], [.int (nI i + 1), .ref 1000, .ref 0], _, _, _) rfl ?_
  rw [show ((nI i + 1) : Int32) = nI (i + 1) from nI_add i 1]
  refine J.sldB (ok_La_law (L := L) (xs := xs)) 837 (i + 1) rfl (rfl) (by omega) (by omega) ?_
  refine J.gp (ok_La_law (L := L) (xs := xs)) 4 (842, [(0, .ref 1000), (1, .ref 0), (2, .ref 35), (3, .ref 48), (4, .int (nI i))], [.int (nI i + 2), .ref 1000, .int (xs (i + 1)), .ref 0], _, _, _) rfl ?_
  rw [show ((nI i + 2) : Int32) = nI (i + 2) from nI_add i 2]
  refine J.sldB (ok_La_law (L := L) (xs := xs)) 843 (i + 2) rfl (rfl) (by omega) (by omega) ?_
  refine J.gp (ok_La_law (L := L) (xs := xs)) 1 (844, [(0, .ref 1000), (1, .ref 0), (2, .ref 35), (3, .ref 48), (4, .int (nI i))], [.ref 48, .int (xs (i + 2)), .int (xs (i + 1)), .ref 0], _, _, _) rfl ?_
  exact K1

set_option maxRecDepth 100000 in
set_option maxHeartbeats 400000 in
theorem gB_chance {hh : aH} {L i : Nat} {xs : Nat → Int32} {k : Int32}  {kc kn : Nat} {O : Option Value → aH → Prop} (hL : L ≤ 2560) (hi : i + 5 ≤ L) (K1 : JR (M_La_law L xs) (some (L, xs)) (862, [(0, .ref 1000), (1, .ref 0), (2, .ref 35), (3, .ref 48), (4, .int (nI i)), (5, .int k)], [.int (xs (i + 2)), .int (xs (i + 1)), .ref 35], hh, kc, kn) O) : JR (M_La_law L xs) (some (L, xs)) (847, [(0, .ref 1000), (1, .ref 0), (2, .ref 35), (3, .ref 48), (4, .int (nI i))], [.int k], hh, kc, kn) O := by
  refine J.gp (ok_La_law (L := L) (xs := xs)) 6 (855, [(0, .ref 1000), (1, .ref 0), (2, .ref 35), (3, .ref 48), (4, .int (nI i)), (5, .int k)], [.int (nI i + 1), .ref 1000, .ref 35], _, _, _) rfl ?_
  rw [show ((nI i + 1) : Int32) = nI (i + 1) from nI_add i 1]
  refine J.sldB (ok_La_law (L := L) (xs := xs)) 856 (i + 1) rfl (rfl) (by omega) (by omega) ?_
  refine J.gp (ok_La_law (L := L) (xs := xs)) 4 (861, [(0, .ref 1000), (1, .ref 0), (2, .ref 35), (3, .ref 48), (4, .int (nI i)), (5, .int k)], [.int (nI i + 2), .ref 1000, .int (xs (i + 1)), .ref 35], _, _, _) rfl ?_
  rw [show ((nI i + 2) : Int32) = nI (i + 2) from nI_add i 2]
  refine J.sldB (ok_La_law (L := L) (xs := xs)) 862 (i + 2) rfl (rfl) (by omega) (by omega) ?_
  exact K1

set_option maxRecDepth 100000 in
set_option maxHeartbeats 400000 in
theorem gC_chance {hh : aH} {L i : Nat} {xs : Nat → Int32} {k : Int32} {b : Int64}  {kc kn : Nat} {O : Option Value → aH → Prop} (hL : L ≤ 2560) (hi : i + 5 ≤ L) (K1 : JR (M_La_law L xs) (some (L, xs)) (868, [(0, .ref 1000), (1, .ref 0), (2, .ref 35), (3, .ref 48), (4, .int (nI i)), (5, .int k), (6, .long b)], [.ref 35], hh, kc, kn) O) : JR (M_La_law L xs) (some (L, xs)) (865, [(0, .ref 1000), (1, .ref 0), (2, .ref 35), (3, .ref 48), (4, .int (nI i)), (5, .int k)], [.long b], hh, kc, kn) O := by
  refine J.gp (ok_La_law (L := L) (xs := xs)) 2 (868, [(0, .ref 1000), (1, .ref 0), (2, .ref 35), (3, .ref 48), (4, .int (nI i)), (5, .int k), (6, .long b)], [.ref 35], _, _, _) rfl ?_
  exact K1

set_option maxRecDepth 100000 in
set_option maxHeartbeats 400000 in
theorem gD_chance {e0 e1 e2 e3 e4 e5 e6 e7 e8 e9 e10 e11 e12 e13 e14 e15 e16 e17 e18 e19 e20 e21 e22 e23 e24 e25 e26 e27 e28 e29 e30 e31 e32 e33 e34 e35 e36 e37 e38 e39 e40 e41 e42 e43 e44 e45 e46 e47 : va_E} {L i : Nat} {xs : Nat → Int32} {k : Int32} {b : Int64} {f : Nat → Int64}  {kc kn : Nat} {O : Option Value → aH → Prop} (hL : L ≤ 2560) (hi : i + 5 ≤ L) (hb : k = 0 → f 0 = b) (K1 : (¬ k = 0) → JR (M_La_law L xs) (some (L, xs)) (1584, [(0, .ref 1000), (1, .ref 0), (2, .ref 35), (3, .ref 48), (4, .int (nI i))], [], (HP e0 e1 e2 e3 e4 e5 e6 e7 e8 e9 e10 e11 e12 e13 e14 e15 e16 e17 e18 e19 e20 e21 e22 e23 e24 e25 e26 e27 e28 e29 e30 e31 e32 e33 e34 e35 e36 e37 e38 e39 e40 e41 e42 e43 e44 e45 e46 e47 (.inl (1, 1, .inr (.inl f)))), kc, kn) O) (K2 : (¬ (¬ k = 0)) → JR (M_La_law L xs) (some (L, xs)) (1584, [(0, .ref 1000), (1, .ref 0), (2, .ref 35), (3, .ref 48), (4, .int (nI i))], [], (HP e0 e1 e2 e3 e4 e5 e6 e7 e8 e9 e10 e11 e12 e13 e14 e15 e16 e17 e18 e19 e20 e21 e22 e23 e24 e25 e26 e27 e28 e29 e30 e31 e32 e33 e34 e35 e36 e37 e38 e39 e40 e41 e42 e43 e44 e45 e46 e47 (.inl (1, 1, .inr (.inl f)))), kc, kn) O) : JR (M_La_law L xs) (some (L, xs)) (871, [(0, .ref 1000), (1, .ref 0), (2, .ref 35), (3, .ref 48), (4, .int (nI i)), (5, .int k), (6, .long b)], [.int k], (HP e0 e1 e2 e3 e4 e5 e6 e7 e8 e9 e10 e11 e12 e13 e14 e15 e16 e17 e18 e19 e20 e21 e22 e23 e24 e25 e26 e27 e28 e29 e30 e31 e32 e33 e34 e35 e36 e37 e38 e39 e40 e41 e42 e43 e44 e45 e46 e47 (.inl (1, 1, .inr (.inl f)))), kc, kn) O := by
  refine J.gp (ok_La_law (L := L) (xs := xs)) 1 (873, [(0, .ref 1000), (1, .ref 0), (2, .ref 35), (3, .ref 48), (4, .int (nI i)), (5, .int k), (6, .long b)], [.int k, .int k], _, _, _) rfl ?_
  refine J.icT (ok_La_law (L := L) (xs := xs)) (fun x y => x = y) 878 876 rfl (rfl) ?_
  refine J.gp (ok_La_law (L := L) (xs := xs)) 1 (880, [(0, .ref 1000), (1, .ref 0), (2, .ref 35), (3, .ref 48), (4, .int (nI i)), (5, .int k), (6, .long b)], [.int k], _, _, _) rfl ?_
  refine J.ifB (ok_La_law (L := L) (xs := xs)) (fun x => ¬ x = 0) 894 883 rfl (fun (c880 : ¬ k = 0) => ?_) (fun (c880 : ¬ (¬ k = 0)) => ?_)
  · refine J.gp (ok_La_law (L := L) (xs := xs)) 1 (1584, [(0, .ref 1000), (1, .ref 0), (2, .ref 35), (3, .ref 48), (4, .int (nI i)), (5, .int k), (6, .long b)], [], _, _, _) rfl ?_
    refine J.lv [0, 1, 2, 3, 4] [(0, .ref 1000), (1, .ref 0), (2, .ref 35), (3, .ref 48), (4, .int (nI i))] rfl ?_
    exact K1 c880
  · refine J.gp (ok_La_law (L := L) (xs := xs)) 2 (885, [(0, .ref 1000), (1, .ref 0), (2, .ref 35), (3, .ref 48), (4, .int (nI i)), (5, .int k), (6, .long b)], [.int 0, .ref 48], _, _, _) rfl ?_
    refine J.laldB (ok_La_law (L := L) (xs := xs)) 886 0 rfl rfl (rfl) (by omega) (by decide) ?_
    refine J.gp (ok_La_law (L := L) (xs := xs)) 2 (889, [(0, .ref 1000), (1, .ref 0), (2, .ref 35), (3, .ref 48), (4, .int (nI i)), (5, .int k), (6, .long b)], [.int (lg_cmp (f 0) b)], _, _, _) rfl ?_
    refine J.ifT (ok_La_law (L := L) (xs := xs)) (fun x => x = 0) 894 892 rfl (cmp_eq.mpr (hb (Classical.byContradiction c880))) ?_
    refine J.gp (ok_La_law (L := L) (xs := xs)) 1 (1584, [(0, .ref 1000), (1, .ref 0), (2, .ref 35), (3, .ref 48), (4, .int (nI i)), (5, .int k), (6, .long b)], [], _, _, _) rfl ?_
    refine J.lv [0, 1, 2, 3, 4] [(0, .ref 1000), (1, .ref 0), (2, .ref 35), (3, .ref 48), (4, .int (nI i))] rfl ?_
    exact K2 c880

theorem lc_chance {L i : Nat} {xs : Nat → Int32} {hp : aH} {kc kn : Nat} {O : Option Value → aH → Prop} (hL : L ≤ 2560) (hi : i + 5 ≤ L) (hw : Wd hp) (hk : 1 ≤ kc) (hn : 6 ≤ kn) (hc : CaseL M_La_chance M_Mo_chance [(0, 9, 12, 13), (0, 9, 16, 19)] [.ref 0, .int (xs (i + 1)), .int (xs (i + 2)), .ref 48] [.ref 35, .int (xs (i + 1)), .int (xs (i + 2))] hp) (K : ∀ th f q, LH th f q → JR (M_La_law L xs) (some (L, xs)) (1584, [(0, .ref 1000), (1, .ref 0), (2, .ref 35), (3, .ref 48), (4, .int (nI i))], [], q, kc - 1, kn - 6) O) : JR (M_La_law L xs) (some (L, xs)) (830, [(0, .ref 1000), (1, .ref 0), (2, .ref 35), (3, .ref 48), (4, .int (nI i))], [], hp, kc, kn) O := by
  obtain ⟨Oa, hJ, hA⟩ := hc
  refine gA_chance hL hi ?_
  refine J.callSH (rest := []) s_La_law_844 [.ref 0, .int (xs (i + 1)), .int (xs (i + 2)), .ref 48] rfl (Nat.le_of_ble_eq_true rfl) hJ hk hn (Or.inr (by rw [hw.1]; rfl)) (fun v q h => ?_)
  obtain ⟨⟨hq, -, fs, h35⟩, k, rfl, O2, hM, hB⟩ := hA v q h
  refine J.gp (ok_La_law (L := L) (xs := xs)) 0 (847, [(0, .ref 1000), (1, .ref 0), (2, .ref 35), (3, .ref 48), (4, .int (nI i))], [.int k], q, _, _) rfl ?_
  refine gB_chance hL hi ?_
  refine J.callV (rest := []) s_La_law_862 35 [.int (xs (i + 1)), .int (xs (i + 2))] 10 fs _ rfl rfl rfl h35 (Nat.le_of_ble_eq_true rfl) hM (Nat.zero_le _) (Nat.zero_le _) (Or.inl (fun v2 q2 h2 => ?_)) (fun v2 q2 h2 => ?_)
  · obtain ⟨b, -, f, hLH, -⟩ := hB v2 q2 h2
    rw [hLH.len, hq]
  · obtain ⟨b, rfl, f, hLH, hb⟩ := hB v2 q2 h2
    refine J.gp (ok_La_law (L := L) (xs := xs)) 0 (865, [(0, .ref 1000), (1, .ref 0), (2, .ref 35), (3, .ref 48), (4, .int (nI i)), (5, .int k)], [.long b], q2, _, _) rfl ?_
    refine gC_chance hL hi ?_
    have hLH2 := hLH
    obtain ⟨m, g, w, P, p, i9, s, t, bl, gn, B, F, T, e9, e10, e11, e12, e13, e15, e17, e18, e20, e22, e24, e26, e28, e30, e31, e32, e33, e34, e35, e38, e39, e40, e41, e42, e43, e44, e45, e46, e47, -, -, ⟨⟨m13, m14, m15, m16, m17, m18, m31, m36, m24, m25, m30, m33, m34, m35, m37, m38, m39, rfl⟩, -⟩, rfl⟩ := hLH
    refine J.callVE (rest := []) s_La_law_868 871 35 [] 10 c_Mo_thrown rfl rfl rfl rfl rfl (Nat.le_of_ble_eq_true rfl) rfl ?_
    exact gD_chance hL hi hb (fun _ => K _ _ _ hLH2) (fun _ => K _ _ _ hLH2)

set_option maxRecDepth 100000 in
set_option maxHeartbeats 400000 in
theorem gA_chanceOfGain {hh : aH} {L i : Nat} {xs : Nat → Int32}  {kc kn : Nat} {O : Option Value → aH → Prop} (hL : L ≤ 2560) (hi : i + 5 ≤ L) (K1 : JR (M_La_law L xs) (some (L, xs)) (911, [(0, .ref 1000), (1, .ref 0), (2, .ref 35), (3, .ref 48), (4, .int (nI i))], [.ref 48, .int (xs (i + 2)), .int (xs (i + 1)), .ref 0], hh, kc, kn) O) : JR (M_La_law L xs) (some (L, xs)) (897, [(0, .ref 1000), (1, .ref 0), (2, .ref 35), (3, .ref 48), (4, .int (nI i))], [], hh, kc, kn) O := by
  refine J.gp (ok_La_law (L := L) (xs := xs)) 5 (903, [(0, .ref 1000), (1, .ref 0), (2, .ref 35), (3, .ref 48), (4, .int (nI i))], [.int (nI i + 1), .ref 1000, .ref 0], _, _, _) rfl ?_
  rw [show ((nI i + 1) : Int32) = nI (i + 1) from nI_add i 1]
  refine J.sldB (ok_La_law (L := L) (xs := xs)) 904 (i + 1) rfl (rfl) (by omega) (by omega) ?_
  refine J.gp (ok_La_law (L := L) (xs := xs)) 4 (909, [(0, .ref 1000), (1, .ref 0), (2, .ref 35), (3, .ref 48), (4, .int (nI i))], [.int (nI i + 2), .ref 1000, .int (xs (i + 1)), .ref 0], _, _, _) rfl ?_
  rw [show ((nI i + 2) : Int32) = nI (i + 2) from nI_add i 2]
  refine J.sldB (ok_La_law (L := L) (xs := xs)) 910 (i + 2) rfl (rfl) (by omega) (by omega) ?_
  refine J.gp (ok_La_law (L := L) (xs := xs)) 1 (911, [(0, .ref 1000), (1, .ref 0), (2, .ref 35), (3, .ref 48), (4, .int (nI i))], [.ref 48, .int (xs (i + 2)), .int (xs (i + 1)), .ref 0], _, _, _) rfl ?_
  exact K1

set_option maxRecDepth 100000 in
set_option maxHeartbeats 400000 in
theorem gB_chanceOfGain {hh : aH} {L i : Nat} {xs : Nat → Int32} {k : Int32}  {kc kn : Nat} {O : Option Value → aH → Prop} (hL : L ≤ 2560) (hi : i + 5 ≤ L) (K1 : JR (M_La_law L xs) (some (L, xs)) (929, [(0, .ref 1000), (1, .ref 0), (2, .ref 35), (3, .ref 48), (4, .int (nI i)), (5, .int k)], [.int (xs (i + 2)), .int (xs (i + 1)), .ref 35], hh, kc, kn) O) : JR (M_La_law L xs) (some (L, xs)) (914, [(0, .ref 1000), (1, .ref 0), (2, .ref 35), (3, .ref 48), (4, .int (nI i))], [.int k], hh, kc, kn) O := by
  refine J.gp (ok_La_law (L := L) (xs := xs)) 6 (922, [(0, .ref 1000), (1, .ref 0), (2, .ref 35), (3, .ref 48), (4, .int (nI i)), (5, .int k)], [.int (nI i + 1), .ref 1000, .ref 35], _, _, _) rfl ?_
  rw [show ((nI i + 1) : Int32) = nI (i + 1) from nI_add i 1]
  refine J.sldB (ok_La_law (L := L) (xs := xs)) 923 (i + 1) rfl (rfl) (by omega) (by omega) ?_
  refine J.gp (ok_La_law (L := L) (xs := xs)) 4 (928, [(0, .ref 1000), (1, .ref 0), (2, .ref 35), (3, .ref 48), (4, .int (nI i)), (5, .int k)], [.int (nI i + 2), .ref 1000, .int (xs (i + 1)), .ref 35], _, _, _) rfl ?_
  rw [show ((nI i + 2) : Int32) = nI (i + 2) from nI_add i 2]
  refine J.sldB (ok_La_law (L := L) (xs := xs)) 929 (i + 2) rfl (rfl) (by omega) (by omega) ?_
  exact K1

set_option maxRecDepth 100000 in
set_option maxHeartbeats 400000 in
theorem gC_chanceOfGain {hh : aH} {L i : Nat} {xs : Nat → Int32} {k : Int32} {b : Int64}  {kc kn : Nat} {O : Option Value → aH → Prop} (hL : L ≤ 2560) (hi : i + 5 ≤ L) (K1 : JR (M_La_law L xs) (some (L, xs)) (935, [(0, .ref 1000), (1, .ref 0), (2, .ref 35), (3, .ref 48), (4, .int (nI i)), (5, .int k), (6, .long b)], [.ref 35], hh, kc, kn) O) : JR (M_La_law L xs) (some (L, xs)) (932, [(0, .ref 1000), (1, .ref 0), (2, .ref 35), (3, .ref 48), (4, .int (nI i)), (5, .int k)], [.long b], hh, kc, kn) O := by
  refine J.gp (ok_La_law (L := L) (xs := xs)) 2 (935, [(0, .ref 1000), (1, .ref 0), (2, .ref 35), (3, .ref 48), (4, .int (nI i)), (5, .int k), (6, .long b)], [.ref 35], _, _, _) rfl ?_
  exact K1

set_option maxRecDepth 100000 in
set_option maxHeartbeats 400000 in
theorem gD_chanceOfGain {e0 e1 e2 e3 e4 e5 e6 e7 e8 e9 e10 e11 e12 e13 e14 e15 e16 e17 e18 e19 e20 e21 e22 e23 e24 e25 e26 e27 e28 e29 e30 e31 e32 e33 e34 e35 e36 e37 e38 e39 e40 e41 e42 e43 e44 e45 e46 e47 : va_E} {L i : Nat} {xs : Nat → Int32} {k : Int32} {b : Int64} {f : Nat → Int64}  {kc kn : Nat} {O : Option Value → aH → Prop} (hL : L ≤ 2560) (hi : i + 5 ≤ L) (hb : k = 0 → f 0 = b) (K1 : (¬ k = 0) → JR (M_La_law L xs) (some (L, xs)) (1584, [(0, .ref 1000), (1, .ref 0), (2, .ref 35), (3, .ref 48), (4, .int (nI i))], [], (HP e0 e1 e2 e3 e4 e5 e6 e7 e8 e9 e10 e11 e12 e13 e14 e15 e16 e17 e18 e19 e20 e21 e22 e23 e24 e25 e26 e27 e28 e29 e30 e31 e32 e33 e34 e35 e36 e37 e38 e39 e40 e41 e42 e43 e44 e45 e46 e47 (.inl (1, 1, .inr (.inl f)))), kc, kn) O) (K2 : (¬ (¬ k = 0)) → JR (M_La_law L xs) (some (L, xs)) (1584, [(0, .ref 1000), (1, .ref 0), (2, .ref 35), (3, .ref 48), (4, .int (nI i))], [], (HP e0 e1 e2 e3 e4 e5 e6 e7 e8 e9 e10 e11 e12 e13 e14 e15 e16 e17 e18 e19 e20 e21 e22 e23 e24 e25 e26 e27 e28 e29 e30 e31 e32 e33 e34 e35 e36 e37 e38 e39 e40 e41 e42 e43 e44 e45 e46 e47 (.inl (1, 1, .inr (.inl f)))), kc, kn) O) : JR (M_La_law L xs) (some (L, xs)) (938, [(0, .ref 1000), (1, .ref 0), (2, .ref 35), (3, .ref 48), (4, .int (nI i)), (5, .int k), (6, .long b)], [.int k], (HP e0 e1 e2 e3 e4 e5 e6 e7 e8 e9 e10 e11 e12 e13 e14 e15 e16 e17 e18 e19 e20 e21 e22 e23 e24 e25 e26 e27 e28 e29 e30 e31 e32 e33 e34 e35 e36 e37 e38 e39 e40 e41 e42 e43 e44 e45 e46 e47 (.inl (1, 1, .inr (.inl f)))), kc, kn) O := by
  refine J.gp (ok_La_law (L := L) (xs := xs)) 1 (940, [(0, .ref 1000), (1, .ref 0), (2, .ref 35), (3, .ref 48), (4, .int (nI i)), (5, .int k), (6, .long b)], [.int k, .int k], _, _, _) rfl ?_
  refine J.icT (ok_La_law (L := L) (xs := xs)) (fun x y => x = y) 945 943 rfl (rfl) ?_
  refine J.gp (ok_La_law (L := L) (xs := xs)) 1 (947, [(0, .ref 1000), (1, .ref 0), (2, .ref 35), (3, .ref 48), (4, .int (nI i)), (5, .int k), (6, .long b)], [.int k], _, _, _) rfl ?_
  refine J.ifB (ok_La_law (L := L) (xs := xs)) (fun x => ¬ x = 0) 961 950 rfl (fun (c947 : ¬ k = 0) => ?_) (fun (c947 : ¬ (¬ k = 0)) => ?_)
  · refine J.gp (ok_La_law (L := L) (xs := xs)) 1 (1584, [(0, .ref 1000), (1, .ref 0), (2, .ref 35), (3, .ref 48), (4, .int (nI i)), (5, .int k), (6, .long b)], [], _, _, _) rfl ?_
    refine J.lv [0, 1, 2, 3, 4] [(0, .ref 1000), (1, .ref 0), (2, .ref 35), (3, .ref 48), (4, .int (nI i))] rfl ?_
    exact K1 c947
  · refine J.gp (ok_La_law (L := L) (xs := xs)) 2 (952, [(0, .ref 1000), (1, .ref 0), (2, .ref 35), (3, .ref 48), (4, .int (nI i)), (5, .int k), (6, .long b)], [.int 0, .ref 48], _, _, _) rfl ?_
    refine J.laldB (ok_La_law (L := L) (xs := xs)) 953 0 rfl rfl (rfl) (by omega) (by decide) ?_
    refine J.gp (ok_La_law (L := L) (xs := xs)) 2 (956, [(0, .ref 1000), (1, .ref 0), (2, .ref 35), (3, .ref 48), (4, .int (nI i)), (5, .int k), (6, .long b)], [.int (lg_cmp (f 0) b)], _, _, _) rfl ?_
    refine J.ifT (ok_La_law (L := L) (xs := xs)) (fun x => x = 0) 961 959 rfl (cmp_eq.mpr (hb (Classical.byContradiction c947))) ?_
    refine J.gp (ok_La_law (L := L) (xs := xs)) 1 (1584, [(0, .ref 1000), (1, .ref 0), (2, .ref 35), (3, .ref 48), (4, .int (nI i)), (5, .int k), (6, .long b)], [], _, _, _) rfl ?_
    refine J.lv [0, 1, 2, 3, 4] [(0, .ref 1000), (1, .ref 0), (2, .ref 35), (3, .ref 48), (4, .int (nI i))] rfl ?_
    exact K2 c947

theorem lc_chanceOfGain {L i : Nat} {xs : Nat → Int32} {hp : aH} {kc kn : Nat} {O : Option Value → aH → Prop} (hL : L ≤ 2560) (hi : i + 5 ≤ L) (hw : Wd hp) (hk : 1 ≤ kc) (hn : 6 ≤ kn) (hc : CaseL M_La_chanceOfGain M_Mo_chanceOfGain [(0, 9, 12, 13)] [.ref 0, .int (xs (i + 1)), .int (xs (i + 2)), .ref 48] [.ref 35, .int (xs (i + 1)), .int (xs (i + 2))] hp) (K : ∀ th f q, LH th f q → JR (M_La_law L xs) (some (L, xs)) (1584, [(0, .ref 1000), (1, .ref 0), (2, .ref 35), (3, .ref 48), (4, .int (nI i))], [], q, kc - 1, kn - 6) O) : JR (M_La_law L xs) (some (L, xs)) (897, [(0, .ref 1000), (1, .ref 0), (2, .ref 35), (3, .ref 48), (4, .int (nI i))], [], hp, kc, kn) O := by
  obtain ⟨Oa, hJ, hA⟩ := hc
  refine gA_chanceOfGain hL hi ?_
  refine J.callSH (rest := []) s_La_law_911 [.ref 0, .int (xs (i + 1)), .int (xs (i + 2)), .ref 48] rfl (Nat.le_of_ble_eq_true rfl) hJ hk hn (Or.inr (by rw [hw.1]; rfl)) (fun v q h => ?_)
  obtain ⟨⟨hq, -, fs, h35⟩, k, rfl, O2, hM, hB⟩ := hA v q h
  refine J.gp (ok_La_law (L := L) (xs := xs)) 0 (914, [(0, .ref 1000), (1, .ref 0), (2, .ref 35), (3, .ref 48), (4, .int (nI i))], [.int k], q, _, _) rfl ?_
  refine gB_chanceOfGain hL hi ?_
  refine J.callV (rest := []) s_La_law_929 35 [.int (xs (i + 1)), .int (xs (i + 2))] 10 fs _ rfl rfl rfl h35 (Nat.le_of_ble_eq_true rfl) hM (Nat.zero_le _) (Nat.zero_le _) (Or.inl (fun v2 q2 h2 => ?_)) (fun v2 q2 h2 => ?_)
  · obtain ⟨b, -, f, hLH, -⟩ := hB v2 q2 h2
    rw [hLH.len, hq]
  · obtain ⟨b, rfl, f, hLH, hb⟩ := hB v2 q2 h2
    refine J.gp (ok_La_law (L := L) (xs := xs)) 0 (932, [(0, .ref 1000), (1, .ref 0), (2, .ref 35), (3, .ref 48), (4, .int (nI i)), (5, .int k)], [.long b], q2, _, _) rfl ?_
    refine gC_chanceOfGain hL hi ?_
    have hLH2 := hLH
    obtain ⟨m, g, w, P, p, i9, s, t, bl, gn, B, F, T, e9, e10, e11, e12, e13, e15, e17, e18, e20, e22, e24, e26, e28, e30, e31, e32, e33, e34, e35, e38, e39, e40, e41, e42, e43, e44, e45, e46, e47, -, -, ⟨⟨m13, m14, m15, m16, m17, m18, m31, m36, m24, m25, m30, m33, m34, m35, m37, m38, m39, rfl⟩, -⟩, rfl⟩ := hLH
    refine J.callVE (rest := []) s_La_law_935 938 35 [] 10 c_Mo_thrown rfl rfl rfl rfl rfl (Nat.le_of_ble_eq_true rfl) rfl ?_
    exact gD_chanceOfGain hL hi hb (fun _ => K _ _ _ hLH2) (fun _ => K _ _ _ hLH2)

set_option maxRecDepth 100000 in
set_option maxHeartbeats 400000 in
theorem gA_game {hh : aH} {L i : Nat} {xs : Nat → Int32}  {kc kn : Nat} {O : Option Value → aH → Prop} (hL : L ≤ 2560) (hi : i + 5 ≤ L) (K1 : JR (M_La_law L xs) (some (L, xs)) (990, [(0, .ref 1000), (1, .ref 0), (2, .ref 35), (3, .ref 48), (4, .int (nI i))], [.ref 48, .int (xs (i + 4)), .int (xs (i + 3)), .int (xs (i + 2)), .int (xs (i + 1)), .ref 0], hh, kc, kn) O) : JR (M_La_law L xs) (some (L, xs)) (964, [(0, .ref 1000), (1, .ref 0), (2, .ref 35), (3, .ref 48), (4, .int (nI i))], [], hh, kc, kn) O := by
  refine J.gp (ok_La_law (L := L) (xs := xs)) 5 (970, [(0, .ref 1000), (1, .ref 0), (2, .ref 35), (3, .ref 48), (4, .int (nI i))], [.int (nI i + 1), .ref 1000, .ref 0], _, _, _) rfl ?_
  rw [show ((nI i + 1) : Int32) = nI (i + 1) from nI_add i 1]
  refine J.sldB (ok_La_law (L := L) (xs := xs)) 971 (i + 1) rfl (rfl) (by omega) (by omega) ?_
  refine J.gp (ok_La_law (L := L) (xs := xs)) 4 (976, [(0, .ref 1000), (1, .ref 0), (2, .ref 35), (3, .ref 48), (4, .int (nI i))], [.int (nI i + 2), .ref 1000, .int (xs (i + 1)), .ref 0], _, _, _) rfl ?_
  rw [show ((nI i + 2) : Int32) = nI (i + 2) from nI_add i 2]
  refine J.sldB (ok_La_law (L := L) (xs := xs)) 977 (i + 2) rfl (rfl) (by omega) (by omega) ?_
  refine J.gp (ok_La_law (L := L) (xs := xs)) 4 (982, [(0, .ref 1000), (1, .ref 0), (2, .ref 35), (3, .ref 48), (4, .int (nI i))], [.int (nI i + 3), .ref 1000, .int (xs (i + 2)), .int (xs (i + 1)), .ref 0], _, _, _) rfl ?_
  rw [show ((nI i + 3) : Int32) = nI (i + 3) from nI_add i 3]
  refine J.sldB (ok_La_law (L := L) (xs := xs)) 983 (i + 3) rfl (rfl) (by omega) (by omega) ?_
  refine J.gp (ok_La_law (L := L) (xs := xs)) 4 (988, [(0, .ref 1000), (1, .ref 0), (2, .ref 35), (3, .ref 48), (4, .int (nI i))], [.int (nI i + 4), .ref 1000, .int (xs (i + 3)), .int (xs (i + 2)), .int (xs (i + 1)), .ref 0], _, _, _) rfl ?_
  rw [show ((nI i + 4) : Int32) = nI (i + 4) from nI_add i 4]
  refine J.sldB (ok_La_law (L := L) (xs := xs)) 989 (i + 4) rfl (rfl) (by omega) (by omega) ?_
  refine J.gp (ok_La_law (L := L) (xs := xs)) 1 (990, [(0, .ref 1000), (1, .ref 0), (2, .ref 35), (3, .ref 48), (4, .int (nI i))], [.ref 48, .int (xs (i + 4)), .int (xs (i + 3)), .int (xs (i + 2)), .int (xs (i + 1)), .ref 0], _, _, _) rfl ?_
  exact K1

set_option maxRecDepth 100000 in
set_option maxHeartbeats 400000 in
theorem gB_game {hh : aH} {L i : Nat} {xs : Nat → Int32} {k : Int32}  {kc kn : Nat} {O : Option Value → aH → Prop} (hL : L ≤ 2560) (hi : i + 5 ≤ L) (K1 : JR (M_La_law L xs) (some (L, xs)) (1020, [(0, .ref 1000), (1, .ref 0), (2, .ref 35), (3, .ref 48), (4, .int (nI i)), (5, .int k)], [.int (xs (i + 4)), .int (xs (i + 3)), .int (xs (i + 2)), .int (xs (i + 1)), .ref 35], hh, kc, kn) O) : JR (M_La_law L xs) (some (L, xs)) (993, [(0, .ref 1000), (1, .ref 0), (2, .ref 35), (3, .ref 48), (4, .int (nI i))], [.int k], hh, kc, kn) O := by
  refine J.gp (ok_La_law (L := L) (xs := xs)) 6 (1001, [(0, .ref 1000), (1, .ref 0), (2, .ref 35), (3, .ref 48), (4, .int (nI i)), (5, .int k)], [.int (nI i + 1), .ref 1000, .ref 35], _, _, _) rfl ?_
  rw [show ((nI i + 1) : Int32) = nI (i + 1) from nI_add i 1]
  refine J.sldB (ok_La_law (L := L) (xs := xs)) 1002 (i + 1) rfl (rfl) (by omega) (by omega) ?_
  refine J.gp (ok_La_law (L := L) (xs := xs)) 4 (1007, [(0, .ref 1000), (1, .ref 0), (2, .ref 35), (3, .ref 48), (4, .int (nI i)), (5, .int k)], [.int (nI i + 2), .ref 1000, .int (xs (i + 1)), .ref 35], _, _, _) rfl ?_
  rw [show ((nI i + 2) : Int32) = nI (i + 2) from nI_add i 2]
  refine J.sldB (ok_La_law (L := L) (xs := xs)) 1008 (i + 2) rfl (rfl) (by omega) (by omega) ?_
  refine J.gp (ok_La_law (L := L) (xs := xs)) 4 (1013, [(0, .ref 1000), (1, .ref 0), (2, .ref 35), (3, .ref 48), (4, .int (nI i)), (5, .int k)], [.int (nI i + 3), .ref 1000, .int (xs (i + 2)), .int (xs (i + 1)), .ref 35], _, _, _) rfl ?_
  rw [show ((nI i + 3) : Int32) = nI (i + 3) from nI_add i 3]
  refine J.sldB (ok_La_law (L := L) (xs := xs)) 1014 (i + 3) rfl (rfl) (by omega) (by omega) ?_
  refine J.gp (ok_La_law (L := L) (xs := xs)) 4 (1019, [(0, .ref 1000), (1, .ref 0), (2, .ref 35), (3, .ref 48), (4, .int (nI i)), (5, .int k)], [.int (nI i + 4), .ref 1000, .int (xs (i + 3)), .int (xs (i + 2)), .int (xs (i + 1)), .ref 35], _, _, _) rfl ?_
  rw [show ((nI i + 4) : Int32) = nI (i + 4) from nI_add i 4]
  refine J.sldB (ok_La_law (L := L) (xs := xs)) 1020 (i + 4) rfl (rfl) (by omega) (by omega) ?_
  exact K1

set_option maxRecDepth 100000 in
set_option maxHeartbeats 400000 in
theorem gC_game {hh : aH} {L i : Nat} {xs : Nat → Int32} {k : Int32} {b : Int64}  {kc kn : Nat} {O : Option Value → aH → Prop} (hL : L ≤ 2560) (hi : i + 5 ≤ L) (K1 : JR (M_La_law L xs) (some (L, xs)) (1026, [(0, .ref 1000), (1, .ref 0), (2, .ref 35), (3, .ref 48), (4, .int (nI i)), (5, .int k), (6, .long b)], [.ref 35], hh, kc, kn) O) : JR (M_La_law L xs) (some (L, xs)) (1023, [(0, .ref 1000), (1, .ref 0), (2, .ref 35), (3, .ref 48), (4, .int (nI i)), (5, .int k)], [.long b], hh, kc, kn) O := by
  refine J.gp (ok_La_law (L := L) (xs := xs)) 2 (1026, [(0, .ref 1000), (1, .ref 0), (2, .ref 35), (3, .ref 48), (4, .int (nI i)), (5, .int k), (6, .long b)], [.ref 35], _, _, _) rfl ?_
  exact K1

set_option maxRecDepth 100000 in
set_option maxHeartbeats 400000 in
theorem gD_game {e0 e1 e2 e3 e4 e5 e6 e7 e8 e9 e10 e11 e12 e13 e14 e15 e16 e17 e18 e19 e20 e21 e22 e23 e24 e25 e26 e27 e28 e29 e30 e31 e32 e33 e34 e35 e36 e37 e38 e39 e40 e41 e42 e43 e44 e45 e46 e47 : va_E} {L i : Nat} {xs : Nat → Int32} {k : Int32} {b : Int64} {f : Nat → Int64}  {kc kn : Nat} {O : Option Value → aH → Prop} (hL : L ≤ 2560) (hi : i + 5 ≤ L) (hb : k = 0 → f 0 = b) (K1 : (¬ k = 0) → JR (M_La_law L xs) (some (L, xs)) (1584, [(0, .ref 1000), (1, .ref 0), (2, .ref 35), (3, .ref 48), (4, .int (nI i))], [], (HP e0 e1 e2 e3 e4 e5 e6 e7 e8 e9 e10 e11 e12 e13 e14 e15 e16 e17 e18 e19 e20 e21 e22 e23 e24 e25 e26 e27 e28 e29 e30 e31 e32 e33 e34 e35 e36 e37 e38 e39 e40 e41 e42 e43 e44 e45 e46 e47 (.inl (1, 1, .inr (.inl f)))), kc, kn) O) (K2 : (¬ (¬ k = 0)) → JR (M_La_law L xs) (some (L, xs)) (1584, [(0, .ref 1000), (1, .ref 0), (2, .ref 35), (3, .ref 48), (4, .int (nI i))], [], (HP e0 e1 e2 e3 e4 e5 e6 e7 e8 e9 e10 e11 e12 e13 e14 e15 e16 e17 e18 e19 e20 e21 e22 e23 e24 e25 e26 e27 e28 e29 e30 e31 e32 e33 e34 e35 e36 e37 e38 e39 e40 e41 e42 e43 e44 e45 e46 e47 (.inl (1, 1, .inr (.inl f)))), kc, kn) O) : JR (M_La_law L xs) (some (L, xs)) (1029, [(0, .ref 1000), (1, .ref 0), (2, .ref 35), (3, .ref 48), (4, .int (nI i)), (5, .int k), (6, .long b)], [.int k], (HP e0 e1 e2 e3 e4 e5 e6 e7 e8 e9 e10 e11 e12 e13 e14 e15 e16 e17 e18 e19 e20 e21 e22 e23 e24 e25 e26 e27 e28 e29 e30 e31 e32 e33 e34 e35 e36 e37 e38 e39 e40 e41 e42 e43 e44 e45 e46 e47 (.inl (1, 1, .inr (.inl f)))), kc, kn) O := by
  refine J.gp (ok_La_law (L := L) (xs := xs)) 1 (1031, [(0, .ref 1000), (1, .ref 0), (2, .ref 35), (3, .ref 48), (4, .int (nI i)), (5, .int k), (6, .long b)], [.int k, .int k], _, _, _) rfl ?_
  refine J.icT (ok_La_law (L := L) (xs := xs)) (fun x y => x = y) 1036 1034 rfl (rfl) ?_
  refine J.gp (ok_La_law (L := L) (xs := xs)) 1 (1038, [(0, .ref 1000), (1, .ref 0), (2, .ref 35), (3, .ref 48), (4, .int (nI i)), (5, .int k), (6, .long b)], [.int k], _, _, _) rfl ?_
  refine J.ifB (ok_La_law (L := L) (xs := xs)) (fun x => ¬ x = 0) 1052 1041 rfl (fun (c1038 : ¬ k = 0) => ?_) (fun (c1038 : ¬ (¬ k = 0)) => ?_)
  · refine J.gp (ok_La_law (L := L) (xs := xs)) 1 (1584, [(0, .ref 1000), (1, .ref 0), (2, .ref 35), (3, .ref 48), (4, .int (nI i)), (5, .int k), (6, .long b)], [], _, _, _) rfl ?_
    refine J.lv [0, 1, 2, 3, 4] [(0, .ref 1000), (1, .ref 0), (2, .ref 35), (3, .ref 48), (4, .int (nI i))] rfl ?_
    exact K1 c1038
  · refine J.gp (ok_La_law (L := L) (xs := xs)) 2 (1043, [(0, .ref 1000), (1, .ref 0), (2, .ref 35), (3, .ref 48), (4, .int (nI i)), (5, .int k), (6, .long b)], [.int 0, .ref 48], _, _, _) rfl ?_
    refine J.laldB (ok_La_law (L := L) (xs := xs)) 1044 0 rfl rfl (rfl) (by omega) (by decide) ?_
    refine J.gp (ok_La_law (L := L) (xs := xs)) 2 (1047, [(0, .ref 1000), (1, .ref 0), (2, .ref 35), (3, .ref 48), (4, .int (nI i)), (5, .int k), (6, .long b)], [.int (lg_cmp (f 0) b)], _, _, _) rfl ?_
    refine J.ifT (ok_La_law (L := L) (xs := xs)) (fun x => x = 0) 1052 1050 rfl (cmp_eq.mpr (hb (Classical.byContradiction c1038))) ?_
    refine J.gp (ok_La_law (L := L) (xs := xs)) 1 (1584, [(0, .ref 1000), (1, .ref 0), (2, .ref 35), (3, .ref 48), (4, .int (nI i)), (5, .int k), (6, .long b)], [], _, _, _) rfl ?_
    refine J.lv [0, 1, 2, 3, 4] [(0, .ref 1000), (1, .ref 0), (2, .ref 35), (3, .ref 48), (4, .int (nI i))] rfl ?_
    exact K2 c1038

theorem lc_game {L i : Nat} {xs : Nat → Int32} {hp : aH} {kc kn : Nat} {O : Option Value → aH → Prop} (hL : L ≤ 2560) (hi : i + 5 ≤ L) (hw : Wd hp) (hk : 1 ≤ kc) (hn : 6 ≤ kn) (hc : CaseL M_La_game M_Mo_game [(0, 13, 16, 13)] [.ref 0, .int (xs (i + 1)), .int (xs (i + 2)), .int (xs (i + 3)), .int (xs (i + 4)), .ref 48] [.ref 35, .int (xs (i + 1)), .int (xs (i + 2)), .int (xs (i + 3)), .int (xs (i + 4))] hp) (K : ∀ th f q, LH th f q → JR (M_La_law L xs) (some (L, xs)) (1584, [(0, .ref 1000), (1, .ref 0), (2, .ref 35), (3, .ref 48), (4, .int (nI i))], [], q, kc - 1, kn - 6) O) : JR (M_La_law L xs) (some (L, xs)) (964, [(0, .ref 1000), (1, .ref 0), (2, .ref 35), (3, .ref 48), (4, .int (nI i))], [], hp, kc, kn) O := by
  obtain ⟨Oa, hJ, hA⟩ := hc
  refine gA_game hL hi ?_
  refine J.callSH (rest := []) s_La_law_990 [.ref 0, .int (xs (i + 1)), .int (xs (i + 2)), .int (xs (i + 3)), .int (xs (i + 4)), .ref 48] rfl (Nat.le_of_ble_eq_true rfl) hJ hk hn (Or.inr (by rw [hw.1]; rfl)) (fun v q h => ?_)
  obtain ⟨⟨hq, -, fs, h35⟩, k, rfl, O2, hM, hB⟩ := hA v q h
  refine J.gp (ok_La_law (L := L) (xs := xs)) 0 (993, [(0, .ref 1000), (1, .ref 0), (2, .ref 35), (3, .ref 48), (4, .int (nI i))], [.int k], q, _, _) rfl ?_
  refine gB_game hL hi ?_
  refine J.callV (rest := []) s_La_law_1020 35 [.int (xs (i + 1)), .int (xs (i + 2)), .int (xs (i + 3)), .int (xs (i + 4))] 10 fs _ rfl rfl rfl h35 (Nat.le_of_ble_eq_true rfl) hM (Nat.zero_le _) (Nat.zero_le _) (Or.inl (fun v2 q2 h2 => ?_)) (fun v2 q2 h2 => ?_)
  · obtain ⟨b, -, f, hLH, -⟩ := hB v2 q2 h2
    rw [hLH.len, hq]
  · obtain ⟨b, rfl, f, hLH, hb⟩ := hB v2 q2 h2
    refine J.gp (ok_La_law (L := L) (xs := xs)) 0 (1023, [(0, .ref 1000), (1, .ref 0), (2, .ref 35), (3, .ref 48), (4, .int (nI i)), (5, .int k)], [.long b], q2, _, _) rfl ?_
    refine gC_game hL hi ?_
    have hLH2 := hLH
    obtain ⟨m, g, w, P, p, i9, s, t, bl, gn, B, F, T, e9, e10, e11, e12, e13, e15, e17, e18, e20, e22, e24, e26, e28, e30, e31, e32, e33, e34, e35, e38, e39, e40, e41, e42, e43, e44, e45, e46, e47, -, -, ⟨⟨m13, m14, m15, m16, m17, m18, m31, m36, m24, m25, m30, m33, m34, m35, m37, m38, m39, rfl⟩, -⟩, rfl⟩ := hLH
    refine J.callVE (rest := []) s_La_law_1026 1029 35 [] 10 c_Mo_thrown rfl rfl rfl rfl rfl (Nat.le_of_ble_eq_true rfl) rfl ?_
    exact gD_game hL hi hb (fun _ => K _ _ _ hLH2) (fun _ => K _ _ _ hLH2)

set_option maxRecDepth 100000 in
set_option maxHeartbeats 400000 in
theorem gA_average {hh : aH} {L i : Nat} {xs : Nat → Int32}  {kc kn : Nat} {O : Option Value → aH → Prop} (hL : L ≤ 2560) (hi : i + 5 ≤ L) (K1 : JR (M_La_law L xs) (some (L, xs)) (1069, [(0, .ref 1000), (1, .ref 0), (2, .ref 35), (3, .ref 48), (4, .int (nI i))], [.ref 48, .int (xs (i + 2)), .int (xs (i + 1)), .ref 0], hh, kc, kn) O) : JR (M_La_law L xs) (some (L, xs)) (1055, [(0, .ref 1000), (1, .ref 0), (2, .ref 35), (3, .ref 48), (4, .int (nI i))], [], hh, kc, kn) O := by
  refine J.gp (ok_La_law (L := L) (xs := xs)) 5 (1061, [(0, .ref 1000), (1, .ref 0), (2, .ref 35), (3, .ref 48), (4, .int (nI i))], [.int (nI i + 1), .ref 1000, .ref 0], _, _, _) rfl ?_
  rw [show ((nI i + 1) : Int32) = nI (i + 1) from nI_add i 1]
  refine J.sldB (ok_La_law (L := L) (xs := xs)) 1062 (i + 1) rfl (rfl) (by omega) (by omega) ?_
  refine J.gp (ok_La_law (L := L) (xs := xs)) 4 (1067, [(0, .ref 1000), (1, .ref 0), (2, .ref 35), (3, .ref 48), (4, .int (nI i))], [.int (nI i + 2), .ref 1000, .int (xs (i + 1)), .ref 0], _, _, _) rfl ?_
  rw [show ((nI i + 2) : Int32) = nI (i + 2) from nI_add i 2]
  refine J.sldB (ok_La_law (L := L) (xs := xs)) 1068 (i + 2) rfl (rfl) (by omega) (by omega) ?_
  refine J.gp (ok_La_law (L := L) (xs := xs)) 1 (1069, [(0, .ref 1000), (1, .ref 0), (2, .ref 35), (3, .ref 48), (4, .int (nI i))], [.ref 48, .int (xs (i + 2)), .int (xs (i + 1)), .ref 0], _, _, _) rfl ?_
  exact K1

set_option maxRecDepth 100000 in
set_option maxHeartbeats 400000 in
theorem gB_average {hh : aH} {L i : Nat} {xs : Nat → Int32} {k : Int32}  {kc kn : Nat} {O : Option Value → aH → Prop} (hL : L ≤ 2560) (hi : i + 5 ≤ L) (K1 : JR (M_La_law L xs) (some (L, xs)) (1087, [(0, .ref 1000), (1, .ref 0), (2, .ref 35), (3, .ref 48), (4, .int (nI i)), (5, .int k)], [.int (xs (i + 2)), .int (xs (i + 1)), .ref 35], hh, kc, kn) O) : JR (M_La_law L xs) (some (L, xs)) (1072, [(0, .ref 1000), (1, .ref 0), (2, .ref 35), (3, .ref 48), (4, .int (nI i))], [.int k], hh, kc, kn) O := by
  refine J.gp (ok_La_law (L := L) (xs := xs)) 6 (1080, [(0, .ref 1000), (1, .ref 0), (2, .ref 35), (3, .ref 48), (4, .int (nI i)), (5, .int k)], [.int (nI i + 1), .ref 1000, .ref 35], _, _, _) rfl ?_
  rw [show ((nI i + 1) : Int32) = nI (i + 1) from nI_add i 1]
  refine J.sldB (ok_La_law (L := L) (xs := xs)) 1081 (i + 1) rfl (rfl) (by omega) (by omega) ?_
  refine J.gp (ok_La_law (L := L) (xs := xs)) 4 (1086, [(0, .ref 1000), (1, .ref 0), (2, .ref 35), (3, .ref 48), (4, .int (nI i)), (5, .int k)], [.int (nI i + 2), .ref 1000, .int (xs (i + 1)), .ref 35], _, _, _) rfl ?_
  rw [show ((nI i + 2) : Int32) = nI (i + 2) from nI_add i 2]
  refine J.sldB (ok_La_law (L := L) (xs := xs)) 1087 (i + 2) rfl (rfl) (by omega) (by omega) ?_
  exact K1

set_option maxRecDepth 100000 in
set_option maxHeartbeats 400000 in
theorem gC_average {hh : aH} {L i : Nat} {xs : Nat → Int32} {k : Int32} {b : Int64}  {kc kn : Nat} {O : Option Value → aH → Prop} (hL : L ≤ 2560) (hi : i + 5 ≤ L) (K1 : JR (M_La_law L xs) (some (L, xs)) (1093, [(0, .ref 1000), (1, .ref 0), (2, .ref 35), (3, .ref 48), (4, .int (nI i)), (5, .int k), (6, .long b)], [.ref 35], hh, kc, kn) O) : JR (M_La_law L xs) (some (L, xs)) (1090, [(0, .ref 1000), (1, .ref 0), (2, .ref 35), (3, .ref 48), (4, .int (nI i)), (5, .int k)], [.long b], hh, kc, kn) O := by
  refine J.gp (ok_La_law (L := L) (xs := xs)) 2 (1093, [(0, .ref 1000), (1, .ref 0), (2, .ref 35), (3, .ref 48), (4, .int (nI i)), (5, .int k), (6, .long b)], [.ref 35], _, _, _) rfl ?_
  exact K1

set_option maxRecDepth 100000 in
set_option maxHeartbeats 400000 in
theorem gD_average {e0 e1 e2 e3 e4 e5 e6 e7 e8 e9 e10 e11 e12 e13 e14 e15 e16 e17 e18 e19 e20 e21 e22 e23 e24 e25 e26 e27 e28 e29 e30 e31 e32 e33 e34 e35 e36 e37 e38 e39 e40 e41 e42 e43 e44 e45 e46 e47 : va_E} {L i : Nat} {xs : Nat → Int32} {k : Int32} {b : Int64} {f : Nat → Int64}  {kc kn : Nat} {O : Option Value → aH → Prop} (hL : L ≤ 2560) (hi : i + 5 ≤ L) (hb : k = 0 → f 0 = b) (K1 : (¬ k = 0) → JR (M_La_law L xs) (some (L, xs)) (1584, [(0, .ref 1000), (1, .ref 0), (2, .ref 35), (3, .ref 48), (4, .int (nI i))], [], (HP e0 e1 e2 e3 e4 e5 e6 e7 e8 e9 e10 e11 e12 e13 e14 e15 e16 e17 e18 e19 e20 e21 e22 e23 e24 e25 e26 e27 e28 e29 e30 e31 e32 e33 e34 e35 e36 e37 e38 e39 e40 e41 e42 e43 e44 e45 e46 e47 (.inl (1, 1, .inr (.inl f)))), kc, kn) O) (K2 : (¬ (¬ k = 0)) → JR (M_La_law L xs) (some (L, xs)) (1584, [(0, .ref 1000), (1, .ref 0), (2, .ref 35), (3, .ref 48), (4, .int (nI i))], [], (HP e0 e1 e2 e3 e4 e5 e6 e7 e8 e9 e10 e11 e12 e13 e14 e15 e16 e17 e18 e19 e20 e21 e22 e23 e24 e25 e26 e27 e28 e29 e30 e31 e32 e33 e34 e35 e36 e37 e38 e39 e40 e41 e42 e43 e44 e45 e46 e47 (.inl (1, 1, .inr (.inl f)))), kc, kn) O) : JR (M_La_law L xs) (some (L, xs)) (1096, [(0, .ref 1000), (1, .ref 0), (2, .ref 35), (3, .ref 48), (4, .int (nI i)), (5, .int k), (6, .long b)], [.int k], (HP e0 e1 e2 e3 e4 e5 e6 e7 e8 e9 e10 e11 e12 e13 e14 e15 e16 e17 e18 e19 e20 e21 e22 e23 e24 e25 e26 e27 e28 e29 e30 e31 e32 e33 e34 e35 e36 e37 e38 e39 e40 e41 e42 e43 e44 e45 e46 e47 (.inl (1, 1, .inr (.inl f)))), kc, kn) O := by
  refine J.gp (ok_La_law (L := L) (xs := xs)) 1 (1098, [(0, .ref 1000), (1, .ref 0), (2, .ref 35), (3, .ref 48), (4, .int (nI i)), (5, .int k), (6, .long b)], [.int k, .int k], _, _, _) rfl ?_
  refine J.icT (ok_La_law (L := L) (xs := xs)) (fun x y => x = y) 1103 1101 rfl (rfl) ?_
  refine J.gp (ok_La_law (L := L) (xs := xs)) 1 (1105, [(0, .ref 1000), (1, .ref 0), (2, .ref 35), (3, .ref 48), (4, .int (nI i)), (5, .int k), (6, .long b)], [.int k], _, _, _) rfl ?_
  refine J.ifB (ok_La_law (L := L) (xs := xs)) (fun x => ¬ x = 0) 1119 1108 rfl (fun (c1105 : ¬ k = 0) => ?_) (fun (c1105 : ¬ (¬ k = 0)) => ?_)
  · refine J.gp (ok_La_law (L := L) (xs := xs)) 1 (1584, [(0, .ref 1000), (1, .ref 0), (2, .ref 35), (3, .ref 48), (4, .int (nI i)), (5, .int k), (6, .long b)], [], _, _, _) rfl ?_
    refine J.lv [0, 1, 2, 3, 4] [(0, .ref 1000), (1, .ref 0), (2, .ref 35), (3, .ref 48), (4, .int (nI i))] rfl ?_
    exact K1 c1105
  · refine J.gp (ok_La_law (L := L) (xs := xs)) 2 (1110, [(0, .ref 1000), (1, .ref 0), (2, .ref 35), (3, .ref 48), (4, .int (nI i)), (5, .int k), (6, .long b)], [.int 0, .ref 48], _, _, _) rfl ?_
    refine J.laldB (ok_La_law (L := L) (xs := xs)) 1111 0 rfl rfl (rfl) (by omega) (by decide) ?_
    refine J.gp (ok_La_law (L := L) (xs := xs)) 2 (1114, [(0, .ref 1000), (1, .ref 0), (2, .ref 35), (3, .ref 48), (4, .int (nI i)), (5, .int k), (6, .long b)], [.int (lg_cmp (f 0) b)], _, _, _) rfl ?_
    refine J.ifT (ok_La_law (L := L) (xs := xs)) (fun x => x = 0) 1119 1117 rfl (cmp_eq.mpr (hb (Classical.byContradiction c1105))) ?_
    refine J.gp (ok_La_law (L := L) (xs := xs)) 1 (1584, [(0, .ref 1000), (1, .ref 0), (2, .ref 35), (3, .ref 48), (4, .int (nI i)), (5, .int k), (6, .long b)], [], _, _, _) rfl ?_
    refine J.lv [0, 1, 2, 3, 4] [(0, .ref 1000), (1, .ref 0), (2, .ref 35), (3, .ref 48), (4, .int (nI i))] rfl ?_
    exact K2 c1105

theorem lc_average {L i : Nat} {xs : Nat → Int32} {hp : aH} {kc kn : Nat} {O : Option Value → aH → Prop} (hL : L ≤ 2560) (hi : i + 5 ≤ L) (hw : Wd hp) (hk : 1 ≤ kc) (hn : 6 ≤ kn) (hc : CaseL M_La_average M_Mo_average [(0, 9, 12, 13)] [.ref 0, .int (xs (i + 1)), .int (xs (i + 2)), .ref 48] [.ref 35, .int (xs (i + 1)), .int (xs (i + 2))] hp) (K : ∀ th f q, LH th f q → JR (M_La_law L xs) (some (L, xs)) (1584, [(0, .ref 1000), (1, .ref 0), (2, .ref 35), (3, .ref 48), (4, .int (nI i))], [], q, kc - 1, kn - 6) O) : JR (M_La_law L xs) (some (L, xs)) (1055, [(0, .ref 1000), (1, .ref 0), (2, .ref 35), (3, .ref 48), (4, .int (nI i))], [], hp, kc, kn) O := by
  obtain ⟨Oa, hJ, hA⟩ := hc
  refine gA_average hL hi ?_
  refine J.callSH (rest := []) s_La_law_1069 [.ref 0, .int (xs (i + 1)), .int (xs (i + 2)), .ref 48] rfl (Nat.le_of_ble_eq_true rfl) hJ hk hn (Or.inr (by rw [hw.1]; rfl)) (fun v q h => ?_)
  obtain ⟨⟨hq, -, fs, h35⟩, k, rfl, O2, hM, hB⟩ := hA v q h
  refine J.gp (ok_La_law (L := L) (xs := xs)) 0 (1072, [(0, .ref 1000), (1, .ref 0), (2, .ref 35), (3, .ref 48), (4, .int (nI i))], [.int k], q, _, _) rfl ?_
  refine gB_average hL hi ?_
  refine J.callV (rest := []) s_La_law_1087 35 [.int (xs (i + 1)), .int (xs (i + 2))] 10 fs _ rfl rfl rfl h35 (Nat.le_of_ble_eq_true rfl) hM (Nat.zero_le _) (Nat.zero_le _) (Or.inl (fun v2 q2 h2 => ?_)) (fun v2 q2 h2 => ?_)
  · obtain ⟨b, -, f, hLH, -⟩ := hB v2 q2 h2
    rw [hLH.len, hq]
  · obtain ⟨b, rfl, f, hLH, hb⟩ := hB v2 q2 h2
    refine J.gp (ok_La_law (L := L) (xs := xs)) 0 (1090, [(0, .ref 1000), (1, .ref 0), (2, .ref 35), (3, .ref 48), (4, .int (nI i)), (5, .int k)], [.long b], q2, _, _) rfl ?_
    refine gC_average hL hi ?_
    have hLH2 := hLH
    obtain ⟨m, g, w, P, p, i9, s, t, bl, gn, B, F, T, e9, e10, e11, e12, e13, e15, e17, e18, e20, e22, e24, e26, e28, e30, e31, e32, e33, e34, e35, e38, e39, e40, e41, e42, e43, e44, e45, e46, e47, -, -, ⟨⟨m13, m14, m15, m16, m17, m18, m31, m36, m24, m25, m30, m33, m34, m35, m37, m38, m39, rfl⟩, -⟩, rfl⟩ := hLH
    refine J.callVE (rest := []) s_La_law_1093 1096 35 [] 10 c_Mo_thrown rfl rfl rfl rfl rfl (Nat.le_of_ble_eq_true rfl) rfl ?_
    exact gD_average hL hi hb (fun _ => K _ _ _ hLH2) (fun _ => K _ _ _ hLH2)

set_option maxRecDepth 100000 in
set_option maxHeartbeats 400000 in
theorem gA_share {hh : aH} {L i : Nat} {xs : Nat → Int32}  {kc kn : Nat} {O : Option Value → aH → Prop} (hL : L ≤ 2560) (hi : i + 5 ≤ L) (K1 : JR (M_La_law L xs) (some (L, xs)) (1142, [(0, .ref 1000), (1, .ref 0), (2, .ref 35), (3, .ref 48), (4, .int (nI i))], [.ref 48, .int (xs (i + 3)), .int (xs (i + 2)), .int (xs (i + 1)), .ref 0], hh, kc, kn) O) : JR (M_La_law L xs) (some (L, xs)) (1122, [(0, .ref 1000), (1, .ref 0), (2, .ref 35), (3, .ref 48), (4, .int (nI i))], [], hh, kc, kn) O := by
  refine J.gp (ok_La_law (L := L) (xs := xs)) 5 (1128, [(0, .ref 1000), (1, .ref 0), (2, .ref 35), (3, .ref 48), (4, .int (nI i))], [.int (nI i + 1), .ref 1000, .ref 0], _, _, _) rfl ?_
  rw [show ((nI i + 1) : Int32) = nI (i + 1) from nI_add i 1]
  refine J.sldB (ok_La_law (L := L) (xs := xs)) 1129 (i + 1) rfl (rfl) (by omega) (by omega) ?_
  refine J.gp (ok_La_law (L := L) (xs := xs)) 4 (1134, [(0, .ref 1000), (1, .ref 0), (2, .ref 35), (3, .ref 48), (4, .int (nI i))], [.int (nI i + 2), .ref 1000, .int (xs (i + 1)), .ref 0], _, _, _) rfl ?_
  rw [show ((nI i + 2) : Int32) = nI (i + 2) from nI_add i 2]
  refine J.sldB (ok_La_law (L := L) (xs := xs)) 1135 (i + 2) rfl (rfl) (by omega) (by omega) ?_
  refine J.gp (ok_La_law (L := L) (xs := xs)) 4 (1140, [(0, .ref 1000), (1, .ref 0), (2, .ref 35), (3, .ref 48), (4, .int (nI i))], [.int (nI i + 3), .ref 1000, .int (xs (i + 2)), .int (xs (i + 1)), .ref 0], _, _, _) rfl ?_
  rw [show ((nI i + 3) : Int32) = nI (i + 3) from nI_add i 3]
  refine J.sldB (ok_La_law (L := L) (xs := xs)) 1141 (i + 3) rfl (rfl) (by omega) (by omega) ?_
  refine J.gp (ok_La_law (L := L) (xs := xs)) 1 (1142, [(0, .ref 1000), (1, .ref 0), (2, .ref 35), (3, .ref 48), (4, .int (nI i))], [.ref 48, .int (xs (i + 3)), .int (xs (i + 2)), .int (xs (i + 1)), .ref 0], _, _, _) rfl ?_
  exact K1

set_option maxRecDepth 100000 in
set_option maxHeartbeats 400000 in
theorem gB_share {hh : aH} {L i : Nat} {xs : Nat → Int32} {k : Int32}  {kc kn : Nat} {O : Option Value → aH → Prop} (hL : L ≤ 2560) (hi : i + 5 ≤ L) (K1 : JR (M_La_law L xs) (some (L, xs)) (1166, [(0, .ref 1000), (1, .ref 0), (2, .ref 35), (3, .ref 48), (4, .int (nI i)), (5, .int k)], [.int (xs (i + 3)), .int (xs (i + 2)), .int (xs (i + 1)), .ref 35], hh, kc, kn) O) : JR (M_La_law L xs) (some (L, xs)) (1145, [(0, .ref 1000), (1, .ref 0), (2, .ref 35), (3, .ref 48), (4, .int (nI i))], [.int k], hh, kc, kn) O := by
  refine J.gp (ok_La_law (L := L) (xs := xs)) 6 (1153, [(0, .ref 1000), (1, .ref 0), (2, .ref 35), (3, .ref 48), (4, .int (nI i)), (5, .int k)], [.int (nI i + 1), .ref 1000, .ref 35], _, _, _) rfl ?_
  rw [show ((nI i + 1) : Int32) = nI (i + 1) from nI_add i 1]
  refine J.sldB (ok_La_law (L := L) (xs := xs)) 1154 (i + 1) rfl (rfl) (by omega) (by omega) ?_
  refine J.gp (ok_La_law (L := L) (xs := xs)) 4 (1159, [(0, .ref 1000), (1, .ref 0), (2, .ref 35), (3, .ref 48), (4, .int (nI i)), (5, .int k)], [.int (nI i + 2), .ref 1000, .int (xs (i + 1)), .ref 35], _, _, _) rfl ?_
  rw [show ((nI i + 2) : Int32) = nI (i + 2) from nI_add i 2]
  refine J.sldB (ok_La_law (L := L) (xs := xs)) 1160 (i + 2) rfl (rfl) (by omega) (by omega) ?_
  refine J.gp (ok_La_law (L := L) (xs := xs)) 4 (1165, [(0, .ref 1000), (1, .ref 0), (2, .ref 35), (3, .ref 48), (4, .int (nI i)), (5, .int k)], [.int (nI i + 3), .ref 1000, .int (xs (i + 2)), .int (xs (i + 1)), .ref 35], _, _, _) rfl ?_
  rw [show ((nI i + 3) : Int32) = nI (i + 3) from nI_add i 3]
  refine J.sldB (ok_La_law (L := L) (xs := xs)) 1166 (i + 3) rfl (rfl) (by omega) (by omega) ?_
  exact K1

set_option maxRecDepth 100000 in
set_option maxHeartbeats 400000 in
theorem gC_share {hh : aH} {L i : Nat} {xs : Nat → Int32} {k : Int32} {b : Int64}  {kc kn : Nat} {O : Option Value → aH → Prop} (hL : L ≤ 2560) (hi : i + 5 ≤ L) (K1 : JR (M_La_law L xs) (some (L, xs)) (1172, [(0, .ref 1000), (1, .ref 0), (2, .ref 35), (3, .ref 48), (4, .int (nI i)), (5, .int k), (6, .long b)], [.ref 35], hh, kc, kn) O) : JR (M_La_law L xs) (some (L, xs)) (1169, [(0, .ref 1000), (1, .ref 0), (2, .ref 35), (3, .ref 48), (4, .int (nI i)), (5, .int k)], [.long b], hh, kc, kn) O := by
  refine J.gp (ok_La_law (L := L) (xs := xs)) 2 (1172, [(0, .ref 1000), (1, .ref 0), (2, .ref 35), (3, .ref 48), (4, .int (nI i)), (5, .int k), (6, .long b)], [.ref 35], _, _, _) rfl ?_
  exact K1

set_option maxRecDepth 100000 in
set_option maxHeartbeats 400000 in
theorem gD_share {e0 e1 e2 e3 e4 e5 e6 e7 e8 e9 e10 e11 e12 e13 e14 e15 e16 e17 e18 e19 e20 e21 e22 e23 e24 e25 e26 e27 e28 e29 e30 e31 e32 e33 e34 e35 e36 e37 e38 e39 e40 e41 e42 e43 e44 e45 e46 e47 : va_E} {L i : Nat} {xs : Nat → Int32} {k : Int32} {b : Int64} {f : Nat → Int64}  {kc kn : Nat} {O : Option Value → aH → Prop} (hL : L ≤ 2560) (hi : i + 5 ≤ L) (hb : k = 0 → f 0 = b) (K1 : (¬ k = 0) → JR (M_La_law L xs) (some (L, xs)) (1584, [(0, .ref 1000), (1, .ref 0), (2, .ref 35), (3, .ref 48), (4, .int (nI i))], [], (HP e0 e1 e2 e3 e4 e5 e6 e7 e8 e9 e10 e11 e12 e13 e14 e15 e16 e17 e18 e19 e20 e21 e22 e23 e24 e25 e26 e27 e28 e29 e30 e31 e32 e33 e34 e35 e36 e37 e38 e39 e40 e41 e42 e43 e44 e45 e46 e47 (.inl (1, 1, .inr (.inl f)))), kc, kn) O) (K2 : (¬ (¬ k = 0)) → JR (M_La_law L xs) (some (L, xs)) (1584, [(0, .ref 1000), (1, .ref 0), (2, .ref 35), (3, .ref 48), (4, .int (nI i))], [], (HP e0 e1 e2 e3 e4 e5 e6 e7 e8 e9 e10 e11 e12 e13 e14 e15 e16 e17 e18 e19 e20 e21 e22 e23 e24 e25 e26 e27 e28 e29 e30 e31 e32 e33 e34 e35 e36 e37 e38 e39 e40 e41 e42 e43 e44 e45 e46 e47 (.inl (1, 1, .inr (.inl f)))), kc, kn) O) : JR (M_La_law L xs) (some (L, xs)) (1175, [(0, .ref 1000), (1, .ref 0), (2, .ref 35), (3, .ref 48), (4, .int (nI i)), (5, .int k), (6, .long b)], [.int k], (HP e0 e1 e2 e3 e4 e5 e6 e7 e8 e9 e10 e11 e12 e13 e14 e15 e16 e17 e18 e19 e20 e21 e22 e23 e24 e25 e26 e27 e28 e29 e30 e31 e32 e33 e34 e35 e36 e37 e38 e39 e40 e41 e42 e43 e44 e45 e46 e47 (.inl (1, 1, .inr (.inl f)))), kc, kn) O := by
  refine J.gp (ok_La_law (L := L) (xs := xs)) 1 (1177, [(0, .ref 1000), (1, .ref 0), (2, .ref 35), (3, .ref 48), (4, .int (nI i)), (5, .int k), (6, .long b)], [.int k, .int k], _, _, _) rfl ?_
  refine J.icT (ok_La_law (L := L) (xs := xs)) (fun x y => x = y) 1182 1180 rfl (rfl) ?_
  refine J.gp (ok_La_law (L := L) (xs := xs)) 1 (1184, [(0, .ref 1000), (1, .ref 0), (2, .ref 35), (3, .ref 48), (4, .int (nI i)), (5, .int k), (6, .long b)], [.int k], _, _, _) rfl ?_
  refine J.ifB (ok_La_law (L := L) (xs := xs)) (fun x => ¬ x = 0) 1198 1187 rfl (fun (c1184 : ¬ k = 0) => ?_) (fun (c1184 : ¬ (¬ k = 0)) => ?_)
  · refine J.gp (ok_La_law (L := L) (xs := xs)) 1 (1584, [(0, .ref 1000), (1, .ref 0), (2, .ref 35), (3, .ref 48), (4, .int (nI i)), (5, .int k), (6, .long b)], [], _, _, _) rfl ?_
    refine J.lv [0, 1, 2, 3, 4] [(0, .ref 1000), (1, .ref 0), (2, .ref 35), (3, .ref 48), (4, .int (nI i))] rfl ?_
    exact K1 c1184
  · refine J.gp (ok_La_law (L := L) (xs := xs)) 2 (1189, [(0, .ref 1000), (1, .ref 0), (2, .ref 35), (3, .ref 48), (4, .int (nI i)), (5, .int k), (6, .long b)], [.int 0, .ref 48], _, _, _) rfl ?_
    refine J.laldB (ok_La_law (L := L) (xs := xs)) 1190 0 rfl rfl (rfl) (by omega) (by decide) ?_
    refine J.gp (ok_La_law (L := L) (xs := xs)) 2 (1193, [(0, .ref 1000), (1, .ref 0), (2, .ref 35), (3, .ref 48), (4, .int (nI i)), (5, .int k), (6, .long b)], [.int (lg_cmp (f 0) b)], _, _, _) rfl ?_
    refine J.ifT (ok_La_law (L := L) (xs := xs)) (fun x => x = 0) 1198 1196 rfl (cmp_eq.mpr (hb (Classical.byContradiction c1184))) ?_
    refine J.gp (ok_La_law (L := L) (xs := xs)) 1 (1584, [(0, .ref 1000), (1, .ref 0), (2, .ref 35), (3, .ref 48), (4, .int (nI i)), (5, .int k), (6, .long b)], [], _, _, _) rfl ?_
    refine J.lv [0, 1, 2, 3, 4] [(0, .ref 1000), (1, .ref 0), (2, .ref 35), (3, .ref 48), (4, .int (nI i))] rfl ?_
    exact K2 c1184

theorem lc_share {L i : Nat} {xs : Nat → Int32} {hp : aH} {kc kn : Nat} {O : Option Value → aH → Prop} (hL : L ≤ 2560) (hi : i + 5 ≤ L) (hw : Wd hp) (hk : 1 ≤ kc) (hn : 6 ≤ kn) (hc : CaseL M_La_share M_Mo_share [(0, 11, 14, 19), (0, 11, 18, 13)] [.ref 0, .int (xs (i + 1)), .int (xs (i + 2)), .int (xs (i + 3)), .ref 48] [.ref 35, .int (xs (i + 1)), .int (xs (i + 2)), .int (xs (i + 3))] hp) (K : ∀ th f q, LH th f q → JR (M_La_law L xs) (some (L, xs)) (1584, [(0, .ref 1000), (1, .ref 0), (2, .ref 35), (3, .ref 48), (4, .int (nI i))], [], q, kc - 1, kn - 6) O) : JR (M_La_law L xs) (some (L, xs)) (1122, [(0, .ref 1000), (1, .ref 0), (2, .ref 35), (3, .ref 48), (4, .int (nI i))], [], hp, kc, kn) O := by
  obtain ⟨Oa, hJ, hA⟩ := hc
  refine gA_share hL hi ?_
  refine J.callSH (rest := []) s_La_law_1142 [.ref 0, .int (xs (i + 1)), .int (xs (i + 2)), .int (xs (i + 3)), .ref 48] rfl (Nat.le_of_ble_eq_true rfl) hJ hk hn (Or.inr (by rw [hw.1]; rfl)) (fun v q h => ?_)
  obtain ⟨⟨hq, -, fs, h35⟩, k, rfl, O2, hM, hB⟩ := hA v q h
  refine J.gp (ok_La_law (L := L) (xs := xs)) 0 (1145, [(0, .ref 1000), (1, .ref 0), (2, .ref 35), (3, .ref 48), (4, .int (nI i))], [.int k], q, _, _) rfl ?_
  refine gB_share hL hi ?_
  refine J.callV (rest := []) s_La_law_1166 35 [.int (xs (i + 1)), .int (xs (i + 2)), .int (xs (i + 3))] 10 fs _ rfl rfl rfl h35 (Nat.le_of_ble_eq_true rfl) hM (Nat.zero_le _) (Nat.zero_le _) (Or.inl (fun v2 q2 h2 => ?_)) (fun v2 q2 h2 => ?_)
  · obtain ⟨b, -, f, hLH, -⟩ := hB v2 q2 h2
    rw [hLH.len, hq]
  · obtain ⟨b, rfl, f, hLH, hb⟩ := hB v2 q2 h2
    refine J.gp (ok_La_law (L := L) (xs := xs)) 0 (1169, [(0, .ref 1000), (1, .ref 0), (2, .ref 35), (3, .ref 48), (4, .int (nI i)), (5, .int k)], [.long b], q2, _, _) rfl ?_
    refine gC_share hL hi ?_
    have hLH2 := hLH
    obtain ⟨m, g, w, P, p, i9, s, t, bl, gn, B, F, T, e9, e10, e11, e12, e13, e15, e17, e18, e20, e22, e24, e26, e28, e30, e31, e32, e33, e34, e35, e38, e39, e40, e41, e42, e43, e44, e45, e46, e47, -, -, ⟨⟨m13, m14, m15, m16, m17, m18, m31, m36, m24, m25, m30, m33, m34, m35, m37, m38, m39, rfl⟩, -⟩, rfl⟩ := hLH
    refine J.callVE (rest := []) s_La_law_1172 1175 35 [] 10 c_Mo_thrown rfl rfl rfl rfl rfl (Nat.le_of_ble_eq_true rfl) rfl ?_
    exact gD_share hL hi hb (fun _ => K _ _ _ hLH2) (fun _ => K _ _ _ hLH2)

set_option maxRecDepth 100000 in
set_option maxHeartbeats 400000 in
theorem gA_classes {hh : aH} {L i : Nat} {xs : Nat → Int32}  {kc kn : Nat} {O : Option Value → aH → Prop} (hL : L ≤ 2560) (hi : i + 5 ≤ L) (K1 : JR (M_La_law L xs) (some (L, xs)) (1209, [(0, .ref 1000), (1, .ref 0), (2, .ref 35), (3, .ref 48), (4, .int (nI i))], [.ref 48, .int (xs (i + 1)), .ref 0], hh, kc, kn) O) : JR (M_La_law L xs) (some (L, xs)) (1201, [(0, .ref 1000), (1, .ref 0), (2, .ref 35), (3, .ref 48), (4, .int (nI i))], [], hh, kc, kn) O := by
  refine J.gp (ok_La_law (L := L) (xs := xs)) 5 (1207, [(0, .ref 1000), (1, .ref 0), (2, .ref 35), (3, .ref 48), (4, .int (nI i))], [.int (nI i + 1), .ref 1000, .ref 0], _, _, _) rfl ?_
  rw [show ((nI i + 1) : Int32) = nI (i + 1) from nI_add i 1]
  refine J.sldB (ok_La_law (L := L) (xs := xs)) 1208 (i + 1) rfl (rfl) (by omega) (by omega) ?_
  refine J.gp (ok_La_law (L := L) (xs := xs)) 1 (1209, [(0, .ref 1000), (1, .ref 0), (2, .ref 35), (3, .ref 48), (4, .int (nI i))], [.ref 48, .int (xs (i + 1)), .ref 0], _, _, _) rfl ?_
  exact K1

set_option maxRecDepth 100000 in
set_option maxHeartbeats 400000 in
theorem gB_classes {hh : aH} {L i : Nat} {xs : Nat → Int32} {k : Int32}  {kc kn : Nat} {O : Option Value → aH → Prop} (hL : L ≤ 2560) (hi : i + 5 ≤ L) (K1 : JR (M_La_law L xs) (some (L, xs)) (1221, [(0, .ref 1000), (1, .ref 0), (2, .ref 35), (3, .ref 48), (4, .int (nI i)), (5, .int k)], [.int (xs (i + 1)), .ref 35], hh, kc, kn) O) : JR (M_La_law L xs) (some (L, xs)) (1212, [(0, .ref 1000), (1, .ref 0), (2, .ref 35), (3, .ref 48), (4, .int (nI i))], [.int k], hh, kc, kn) O := by
  refine J.gp (ok_La_law (L := L) (xs := xs)) 6 (1220, [(0, .ref 1000), (1, .ref 0), (2, .ref 35), (3, .ref 48), (4, .int (nI i)), (5, .int k)], [.int (nI i + 1), .ref 1000, .ref 35], _, _, _) rfl ?_
  rw [show ((nI i + 1) : Int32) = nI (i + 1) from nI_add i 1]
  refine J.sldB (ok_La_law (L := L) (xs := xs)) 1221 (i + 1) rfl (rfl) (by omega) (by omega) ?_
  exact K1

set_option maxRecDepth 100000 in
set_option maxHeartbeats 400000 in
theorem gC_classes {hh : aH} {L i : Nat} {xs : Nat → Int32} {k : Int32} {b : Int32}  {kc kn : Nat} {O : Option Value → aH → Prop} (hL : L ≤ 2560) (hi : i + 5 ≤ L) (K1 : JR (M_La_law L xs) (some (L, xs)) (1227, [(0, .ref 1000), (1, .ref 0), (2, .ref 35), (3, .ref 48), (4, .int (nI i)), (5, .int k), (6, .int b)], [.ref 35], hh, kc, kn) O) : JR (M_La_law L xs) (some (L, xs)) (1224, [(0, .ref 1000), (1, .ref 0), (2, .ref 35), (3, .ref 48), (4, .int (nI i)), (5, .int k)], [.int b], hh, kc, kn) O := by
  refine J.gp (ok_La_law (L := L) (xs := xs)) 2 (1227, [(0, .ref 1000), (1, .ref 0), (2, .ref 35), (3, .ref 48), (4, .int (nI i)), (5, .int k), (6, .int b)], [.ref 35], _, _, _) rfl ?_
  exact K1

set_option maxRecDepth 100000 in
set_option maxHeartbeats 400000 in
theorem gD_classes {e0 e1 e2 e3 e4 e5 e6 e7 e8 e9 e10 e11 e12 e13 e14 e15 e16 e17 e18 e19 e20 e21 e22 e23 e24 e25 e26 e27 e28 e29 e30 e31 e32 e33 e34 e35 e36 e37 e38 e39 e40 e41 e42 e43 e44 e45 e46 e47 : va_E} {L i : Nat} {xs : Nat → Int32} {k : Int32} {b : Int32} {f : Nat → Int64}  {kc kn : Nat} {O : Option Value → aH → Prop} (hL : L ≤ 2560) (hi : i + 5 ≤ L) (hb : k = 0 → f 0 = b.toInt64) (K1 : (¬ k = 0) → JR (M_La_law L xs) (some (L, xs)) (1584, [(0, .ref 1000), (1, .ref 0), (2, .ref 35), (3, .ref 48), (4, .int (nI i))], [], (HP e0 e1 e2 e3 e4 e5 e6 e7 e8 e9 e10 e11 e12 e13 e14 e15 e16 e17 e18 e19 e20 e21 e22 e23 e24 e25 e26 e27 e28 e29 e30 e31 e32 e33 e34 e35 e36 e37 e38 e39 e40 e41 e42 e43 e44 e45 e46 e47 (.inl (1, 1, .inr (.inl f)))), kc, kn) O) (K2 : (¬ (¬ k = 0)) → JR (M_La_law L xs) (some (L, xs)) (1584, [(0, .ref 1000), (1, .ref 0), (2, .ref 35), (3, .ref 48), (4, .int (nI i))], [], (HP e0 e1 e2 e3 e4 e5 e6 e7 e8 e9 e10 e11 e12 e13 e14 e15 e16 e17 e18 e19 e20 e21 e22 e23 e24 e25 e26 e27 e28 e29 e30 e31 e32 e33 e34 e35 e36 e37 e38 e39 e40 e41 e42 e43 e44 e45 e46 e47 (.inl (1, 1, .inr (.inl f)))), kc, kn) O) : JR (M_La_law L xs) (some (L, xs)) (1230, [(0, .ref 1000), (1, .ref 0), (2, .ref 35), (3, .ref 48), (4, .int (nI i)), (5, .int k), (6, .int b)], [.int k], (HP e0 e1 e2 e3 e4 e5 e6 e7 e8 e9 e10 e11 e12 e13 e14 e15 e16 e17 e18 e19 e20 e21 e22 e23 e24 e25 e26 e27 e28 e29 e30 e31 e32 e33 e34 e35 e36 e37 e38 e39 e40 e41 e42 e43 e44 e45 e46 e47 (.inl (1, 1, .inr (.inl f)))), kc, kn) O := by
  refine J.gp (ok_La_law (L := L) (xs := xs)) 1 (1232, [(0, .ref 1000), (1, .ref 0), (2, .ref 35), (3, .ref 48), (4, .int (nI i)), (5, .int k), (6, .int b)], [.int k, .int k], _, _, _) rfl ?_
  refine J.icT (ok_La_law (L := L) (xs := xs)) (fun x y => x = y) 1237 1235 rfl (rfl) ?_
  refine J.gp (ok_La_law (L := L) (xs := xs)) 1 (1239, [(0, .ref 1000), (1, .ref 0), (2, .ref 35), (3, .ref 48), (4, .int (nI i)), (5, .int k), (6, .int b)], [.int k], _, _, _) rfl ?_
  refine J.ifB (ok_La_law (L := L) (xs := xs)) (fun x => ¬ x = 0) 1254 1242 rfl (fun (c1239 : ¬ k = 0) => ?_) (fun (c1239 : ¬ (¬ k = 0)) => ?_)
  · refine J.gp (ok_La_law (L := L) (xs := xs)) 1 (1584, [(0, .ref 1000), (1, .ref 0), (2, .ref 35), (3, .ref 48), (4, .int (nI i)), (5, .int k), (6, .int b)], [], _, _, _) rfl ?_
    refine J.lv [0, 1, 2, 3, 4] [(0, .ref 1000), (1, .ref 0), (2, .ref 35), (3, .ref 48), (4, .int (nI i))] rfl ?_
    exact K1 c1239
  · refine J.gp (ok_La_law (L := L) (xs := xs)) 2 (1244, [(0, .ref 1000), (1, .ref 0), (2, .ref 35), (3, .ref 48), (4, .int (nI i)), (5, .int k), (6, .int b)], [.int 0, .ref 48], _, _, _) rfl ?_
    refine J.laldB (ok_La_law (L := L) (xs := xs)) 1245 0 rfl rfl (rfl) (by omega) (by decide) ?_
    refine J.gp (ok_La_law (L := L) (xs := xs)) 3 (1249, [(0, .ref 1000), (1, .ref 0), (2, .ref 35), (3, .ref 48), (4, .int (nI i)), (5, .int k), (6, .int b)], [.int (lg_cmp (f 0) (b.toInt64))], _, _, _) rfl ?_
    refine J.ifT (ok_La_law (L := L) (xs := xs)) (fun x => x = 0) 1254 1252 rfl (cmp_eq.mpr (hb (Classical.byContradiction c1239))) ?_
    refine J.gp (ok_La_law (L := L) (xs := xs)) 1 (1584, [(0, .ref 1000), (1, .ref 0), (2, .ref 35), (3, .ref 48), (4, .int (nI i)), (5, .int k), (6, .int b)], [], _, _, _) rfl ?_
    refine J.lv [0, 1, 2, 3, 4] [(0, .ref 1000), (1, .ref 0), (2, .ref 35), (3, .ref 48), (4, .int (nI i))] rfl ?_
    exact K2 c1239

theorem lc_classes {L i : Nat} {xs : Nat → Int32} {hp : aH} {kc kn : Nat} {O : Option Value → aH → Prop} (hL : L ≤ 2560) (hi : i + 5 ≤ L) (hw : Wd hp) (hk : 1 ≤ kc) (hn : 6 ≤ kn) (hc : CaseI M_La_classes M_Mo_classes [(0, 9, 12, 13)] [.ref 0, .int (xs (i + 1)), .ref 48] [.ref 35, .int (xs (i + 1))] hp) (K : ∀ th f q, LH th f q → JR (M_La_law L xs) (some (L, xs)) (1584, [(0, .ref 1000), (1, .ref 0), (2, .ref 35), (3, .ref 48), (4, .int (nI i))], [], q, kc - 1, kn - 6) O) : JR (M_La_law L xs) (some (L, xs)) (1201, [(0, .ref 1000), (1, .ref 0), (2, .ref 35), (3, .ref 48), (4, .int (nI i))], [], hp, kc, kn) O := by
  obtain ⟨Oa, hJ, hA⟩ := hc
  refine gA_classes hL hi ?_
  refine J.callSH (rest := []) s_La_law_1209 [.ref 0, .int (xs (i + 1)), .ref 48] rfl (Nat.le_of_ble_eq_true rfl) hJ hk hn (Or.inr (by rw [hw.1]; rfl)) (fun v q h => ?_)
  obtain ⟨⟨hq, -, fs, h35⟩, k, rfl, O2, hM, hB⟩ := hA v q h
  refine J.gp (ok_La_law (L := L) (xs := xs)) 0 (1212, [(0, .ref 1000), (1, .ref 0), (2, .ref 35), (3, .ref 48), (4, .int (nI i))], [.int k], q, _, _) rfl ?_
  refine gB_classes hL hi ?_
  refine J.callV (rest := []) s_La_law_1221 35 [.int (xs (i + 1))] 10 fs _ rfl rfl rfl h35 (Nat.le_of_ble_eq_true rfl) hM (Nat.zero_le _) (Nat.zero_le _) (Or.inl (fun v2 q2 h2 => ?_)) (fun v2 q2 h2 => ?_)
  · obtain ⟨b, -, f, hLH, -⟩ := hB v2 q2 h2
    rw [hLH.len, hq]
  · obtain ⟨b, rfl, f, hLH, hb⟩ := hB v2 q2 h2
    refine J.gp (ok_La_law (L := L) (xs := xs)) 0 (1224, [(0, .ref 1000), (1, .ref 0), (2, .ref 35), (3, .ref 48), (4, .int (nI i)), (5, .int k)], [.int b], q2, _, _) rfl ?_
    refine gC_classes hL hi ?_
    have hLH2 := hLH
    obtain ⟨m, g, w, P, p, i9, s, t, bl, gn, B, F, T, e9, e10, e11, e12, e13, e15, e17, e18, e20, e22, e24, e26, e28, e30, e31, e32, e33, e34, e35, e38, e39, e40, e41, e42, e43, e44, e45, e46, e47, -, -, ⟨⟨m13, m14, m15, m16, m17, m18, m31, m36, m24, m25, m30, m33, m34, m35, m37, m38, m39, rfl⟩, -⟩, rfl⟩ := hLH
    refine J.callVE (rest := []) s_La_law_1227 1230 35 [] 10 c_Mo_thrown rfl rfl rfl rfl rfl (Nat.le_of_ble_eq_true rfl) rfl ?_
    exact gD_classes hL hi hb (fun _ => K _ _ _ hLH2) (fun _ => K _ _ _ hLH2)

set_option maxRecDepth 100000 in
set_option maxHeartbeats 400000 in
theorem gA_compare {hh : aH} {L i : Nat} {xs : Nat → Int32}  {kc kn : Nat} {O : Option Value → aH → Prop} (hL : L ≤ 2560) (hi : i + 5 ≤ L) (K1 : JR (M_La_law L xs) (some (L, xs)) (1271, [(0, .ref 1000), (1, .ref 0), (2, .ref 35), (3, .ref 48), (4, .int (nI i))], [.ref 48, .int (xs (i + 2)), .int (xs (i + 1)), .ref 0], hh, kc, kn) O) : JR (M_La_law L xs) (some (L, xs)) (1257, [(0, .ref 1000), (1, .ref 0), (2, .ref 35), (3, .ref 48), (4, .int (nI i))], [], hh, kc, kn) O := by
  refine J.gp (ok_La_law (L := L) (xs := xs)) 5 (1263, [(0, .ref 1000), (1, .ref 0), (2, .ref 35), (3, .ref 48), (4, .int (nI i))], [.int (nI i + 1), .ref 1000, .ref 0], _, _, _) rfl ?_
  rw [show ((nI i + 1) : Int32) = nI (i + 1) from nI_add i 1]
  refine J.sldB (ok_La_law (L := L) (xs := xs)) 1264 (i + 1) rfl (rfl) (by omega) (by omega) ?_
  refine J.gp (ok_La_law (L := L) (xs := xs)) 4 (1269, [(0, .ref 1000), (1, .ref 0), (2, .ref 35), (3, .ref 48), (4, .int (nI i))], [.int (nI i + 2), .ref 1000, .int (xs (i + 1)), .ref 0], _, _, _) rfl ?_
  rw [show ((nI i + 2) : Int32) = nI (i + 2) from nI_add i 2]
  refine J.sldB (ok_La_law (L := L) (xs := xs)) 1270 (i + 2) rfl (rfl) (by omega) (by omega) ?_
  refine J.gp (ok_La_law (L := L) (xs := xs)) 1 (1271, [(0, .ref 1000), (1, .ref 0), (2, .ref 35), (3, .ref 48), (4, .int (nI i))], [.ref 48, .int (xs (i + 2)), .int (xs (i + 1)), .ref 0], _, _, _) rfl ?_
  exact K1

set_option maxRecDepth 100000 in
set_option maxHeartbeats 400000 in
theorem gB_compare {hh : aH} {L i : Nat} {xs : Nat → Int32} {k : Int32}  {kc kn : Nat} {O : Option Value → aH → Prop} (hL : L ≤ 2560) (hi : i + 5 ≤ L) (K1 : JR (M_La_law L xs) (some (L, xs)) (1289, [(0, .ref 1000), (1, .ref 0), (2, .ref 35), (3, .ref 48), (4, .int (nI i)), (5, .int k)], [.int (xs (i + 2)), .int (xs (i + 1)), .ref 35], hh, kc, kn) O) : JR (M_La_law L xs) (some (L, xs)) (1274, [(0, .ref 1000), (1, .ref 0), (2, .ref 35), (3, .ref 48), (4, .int (nI i))], [.int k], hh, kc, kn) O := by
  refine J.gp (ok_La_law (L := L) (xs := xs)) 6 (1282, [(0, .ref 1000), (1, .ref 0), (2, .ref 35), (3, .ref 48), (4, .int (nI i)), (5, .int k)], [.int (nI i + 1), .ref 1000, .ref 35], _, _, _) rfl ?_
  rw [show ((nI i + 1) : Int32) = nI (i + 1) from nI_add i 1]
  refine J.sldB (ok_La_law (L := L) (xs := xs)) 1283 (i + 1) rfl (rfl) (by omega) (by omega) ?_
  refine J.gp (ok_La_law (L := L) (xs := xs)) 4 (1288, [(0, .ref 1000), (1, .ref 0), (2, .ref 35), (3, .ref 48), (4, .int (nI i)), (5, .int k)], [.int (nI i + 2), .ref 1000, .int (xs (i + 1)), .ref 35], _, _, _) rfl ?_
  rw [show ((nI i + 2) : Int32) = nI (i + 2) from nI_add i 2]
  refine J.sldB (ok_La_law (L := L) (xs := xs)) 1289 (i + 2) rfl (rfl) (by omega) (by omega) ?_
  exact K1

set_option maxRecDepth 100000 in
set_option maxHeartbeats 400000 in
theorem gC_compare {hh : aH} {L i : Nat} {xs : Nat → Int32} {k : Int32} {b : Int32}  {kc kn : Nat} {O : Option Value → aH → Prop} (hL : L ≤ 2560) (hi : i + 5 ≤ L) (K1 : JR (M_La_law L xs) (some (L, xs)) (1295, [(0, .ref 1000), (1, .ref 0), (2, .ref 35), (3, .ref 48), (4, .int (nI i)), (5, .int k), (6, .int b)], [.ref 35], hh, kc, kn) O) : JR (M_La_law L xs) (some (L, xs)) (1292, [(0, .ref 1000), (1, .ref 0), (2, .ref 35), (3, .ref 48), (4, .int (nI i)), (5, .int k)], [.int b], hh, kc, kn) O := by
  refine J.gp (ok_La_law (L := L) (xs := xs)) 2 (1295, [(0, .ref 1000), (1, .ref 0), (2, .ref 35), (3, .ref 48), (4, .int (nI i)), (5, .int k), (6, .int b)], [.ref 35], _, _, _) rfl ?_
  exact K1

set_option maxRecDepth 100000 in
set_option maxHeartbeats 400000 in
theorem gD_compare {e0 e1 e2 e3 e4 e5 e6 e7 e8 e9 e10 e11 e12 e13 e14 e15 e16 e17 e18 e19 e20 e21 e22 e23 e24 e25 e26 e27 e28 e29 e30 e31 e32 e33 e34 e35 e36 e37 e38 e39 e40 e41 e42 e43 e44 e45 e46 e47 : va_E} {L i : Nat} {xs : Nat → Int32} {k : Int32} {b : Int32} {f : Nat → Int64}  {kc kn : Nat} {O : Option Value → aH → Prop} (hL : L ≤ 2560) (hi : i + 5 ≤ L) (hb : k = 0 → f 0 = b.toInt64) (K1 : (¬ k = 0) → JR (M_La_law L xs) (some (L, xs)) (1584, [(0, .ref 1000), (1, .ref 0), (2, .ref 35), (3, .ref 48), (4, .int (nI i))], [], (HP e0 e1 e2 e3 e4 e5 e6 e7 e8 e9 e10 e11 e12 e13 e14 e15 e16 e17 e18 e19 e20 e21 e22 e23 e24 e25 e26 e27 e28 e29 e30 e31 e32 e33 e34 e35 e36 e37 e38 e39 e40 e41 e42 e43 e44 e45 e46 e47 (.inl (1, 1, .inr (.inl f)))), kc, kn) O) (K2 : (¬ (¬ k = 0)) → JR (M_La_law L xs) (some (L, xs)) (1584, [(0, .ref 1000), (1, .ref 0), (2, .ref 35), (3, .ref 48), (4, .int (nI i))], [], (HP e0 e1 e2 e3 e4 e5 e6 e7 e8 e9 e10 e11 e12 e13 e14 e15 e16 e17 e18 e19 e20 e21 e22 e23 e24 e25 e26 e27 e28 e29 e30 e31 e32 e33 e34 e35 e36 e37 e38 e39 e40 e41 e42 e43 e44 e45 e46 e47 (.inl (1, 1, .inr (.inl f)))), kc, kn) O) : JR (M_La_law L xs) (some (L, xs)) (1298, [(0, .ref 1000), (1, .ref 0), (2, .ref 35), (3, .ref 48), (4, .int (nI i)), (5, .int k), (6, .int b)], [.int k], (HP e0 e1 e2 e3 e4 e5 e6 e7 e8 e9 e10 e11 e12 e13 e14 e15 e16 e17 e18 e19 e20 e21 e22 e23 e24 e25 e26 e27 e28 e29 e30 e31 e32 e33 e34 e35 e36 e37 e38 e39 e40 e41 e42 e43 e44 e45 e46 e47 (.inl (1, 1, .inr (.inl f)))), kc, kn) O := by
  refine J.gp (ok_La_law (L := L) (xs := xs)) 1 (1300, [(0, .ref 1000), (1, .ref 0), (2, .ref 35), (3, .ref 48), (4, .int (nI i)), (5, .int k), (6, .int b)], [.int k, .int k], _, _, _) rfl ?_
  refine J.icT (ok_La_law (L := L) (xs := xs)) (fun x y => x = y) 1305 1303 rfl (rfl) ?_
  refine J.gp (ok_La_law (L := L) (xs := xs)) 1 (1307, [(0, .ref 1000), (1, .ref 0), (2, .ref 35), (3, .ref 48), (4, .int (nI i)), (5, .int k), (6, .int b)], [.int k], _, _, _) rfl ?_
  refine J.ifB (ok_La_law (L := L) (xs := xs)) (fun x => ¬ x = 0) 1322 1310 rfl (fun (c1307 : ¬ k = 0) => ?_) (fun (c1307 : ¬ (¬ k = 0)) => ?_)
  · refine J.gp (ok_La_law (L := L) (xs := xs)) 1 (1584, [(0, .ref 1000), (1, .ref 0), (2, .ref 35), (3, .ref 48), (4, .int (nI i)), (5, .int k), (6, .int b)], [], _, _, _) rfl ?_
    refine J.lv [0, 1, 2, 3, 4] [(0, .ref 1000), (1, .ref 0), (2, .ref 35), (3, .ref 48), (4, .int (nI i))] rfl ?_
    exact K1 c1307
  · refine J.gp (ok_La_law (L := L) (xs := xs)) 2 (1312, [(0, .ref 1000), (1, .ref 0), (2, .ref 35), (3, .ref 48), (4, .int (nI i)), (5, .int k), (6, .int b)], [.int 0, .ref 48], _, _, _) rfl ?_
    refine J.laldB (ok_La_law (L := L) (xs := xs)) 1313 0 rfl rfl (rfl) (by omega) (by decide) ?_
    refine J.gp (ok_La_law (L := L) (xs := xs)) 3 (1317, [(0, .ref 1000), (1, .ref 0), (2, .ref 35), (3, .ref 48), (4, .int (nI i)), (5, .int k), (6, .int b)], [.int (lg_cmp (f 0) (b.toInt64))], _, _, _) rfl ?_
    refine J.ifT (ok_La_law (L := L) (xs := xs)) (fun x => x = 0) 1322 1320 rfl (cmp_eq.mpr (hb (Classical.byContradiction c1307))) ?_
    refine J.gp (ok_La_law (L := L) (xs := xs)) 1 (1584, [(0, .ref 1000), (1, .ref 0), (2, .ref 35), (3, .ref 48), (4, .int (nI i)), (5, .int k), (6, .int b)], [], _, _, _) rfl ?_
    refine J.lv [0, 1, 2, 3, 4] [(0, .ref 1000), (1, .ref 0), (2, .ref 35), (3, .ref 48), (4, .int (nI i))] rfl ?_
    exact K2 c1307

theorem lc_compare {L i : Nat} {xs : Nat → Int32} {hp : aH} {kc kn : Nat} {O : Option Value → aH → Prop} (hL : L ≤ 2560) (hi : i + 5 ≤ L) (hw : Wd hp) (hk : 1 ≤ kc) (hn : 6 ≤ kn) (hc : CaseI M_La_compare M_Mo_compare [(0, 10, 13, 13), (0, 10, 17, 38)] [.ref 0, .int (xs (i + 1)), .int (xs (i + 2)), .ref 48] [.ref 35, .int (xs (i + 1)), .int (xs (i + 2))] hp) (K : ∀ th f q, LH th f q → JR (M_La_law L xs) (some (L, xs)) (1584, [(0, .ref 1000), (1, .ref 0), (2, .ref 35), (3, .ref 48), (4, .int (nI i))], [], q, kc - 1, kn - 6) O) : JR (M_La_law L xs) (some (L, xs)) (1257, [(0, .ref 1000), (1, .ref 0), (2, .ref 35), (3, .ref 48), (4, .int (nI i))], [], hp, kc, kn) O := by
  obtain ⟨Oa, hJ, hA⟩ := hc
  refine gA_compare hL hi ?_
  refine J.callSH (rest := []) s_La_law_1271 [.ref 0, .int (xs (i + 1)), .int (xs (i + 2)), .ref 48] rfl (Nat.le_of_ble_eq_true rfl) hJ hk hn (Or.inr (by rw [hw.1]; rfl)) (fun v q h => ?_)
  obtain ⟨⟨hq, -, fs, h35⟩, k, rfl, O2, hM, hB⟩ := hA v q h
  refine J.gp (ok_La_law (L := L) (xs := xs)) 0 (1274, [(0, .ref 1000), (1, .ref 0), (2, .ref 35), (3, .ref 48), (4, .int (nI i))], [.int k], q, _, _) rfl ?_
  refine gB_compare hL hi ?_
  refine J.callV (rest := []) s_La_law_1289 35 [.int (xs (i + 1)), .int (xs (i + 2))] 10 fs _ rfl rfl rfl h35 (Nat.le_of_ble_eq_true rfl) hM (Nat.zero_le _) (Nat.zero_le _) (Or.inl (fun v2 q2 h2 => ?_)) (fun v2 q2 h2 => ?_)
  · obtain ⟨b, -, f, hLH, -⟩ := hB v2 q2 h2
    rw [hLH.len, hq]
  · obtain ⟨b, rfl, f, hLH, hb⟩ := hB v2 q2 h2
    refine J.gp (ok_La_law (L := L) (xs := xs)) 0 (1292, [(0, .ref 1000), (1, .ref 0), (2, .ref 35), (3, .ref 48), (4, .int (nI i)), (5, .int k)], [.int b], q2, _, _) rfl ?_
    refine gC_compare hL hi ?_
    have hLH2 := hLH
    obtain ⟨m, g, w, P, p, i9, s, t, bl, gn, B, F, T, e9, e10, e11, e12, e13, e15, e17, e18, e20, e22, e24, e26, e28, e30, e31, e32, e33, e34, e35, e38, e39, e40, e41, e42, e43, e44, e45, e46, e47, -, -, ⟨⟨m13, m14, m15, m16, m17, m18, m31, m36, m24, m25, m30, m33, m34, m35, m37, m38, m39, rfl⟩, -⟩, rfl⟩ := hLH
    refine J.callVE (rest := []) s_La_law_1295 1298 35 [] 10 c_Mo_thrown rfl rfl rfl rfl rfl (Nat.le_of_ble_eq_true rfl) rfl ?_
    exact gD_compare hL hi hb (fun _ => K _ _ _ hLH2) (fun _ => K _ _ _ hLH2)

set_option maxRecDepth 100000 in
set_option maxHeartbeats 400000 in
theorem gA_best {hh : aH} {L i : Nat} {xs : Nat → Int32}  {kc kn : Nat} {O : Option Value → aH → Prop} (hL : L ≤ 2560) (hi : i + 5 ≤ L) (K1 : JR (M_La_law L xs) (some (L, xs)) (1339, [(0, .ref 1000), (1, .ref 0), (2, .ref 35), (3, .ref 48), (4, .int (nI i))], [.ref 48, .int (xs (i + 2)), .int (xs (i + 1)), .ref 0], hh, kc, kn) O) : JR (M_La_law L xs) (some (L, xs)) (1325, [(0, .ref 1000), (1, .ref 0), (2, .ref 35), (3, .ref 48), (4, .int (nI i))], [], hh, kc, kn) O := by
  refine J.gp (ok_La_law (L := L) (xs := xs)) 5 (1331, [(0, .ref 1000), (1, .ref 0), (2, .ref 35), (3, .ref 48), (4, .int (nI i))], [.int (nI i + 1), .ref 1000, .ref 0], _, _, _) rfl ?_
  rw [show ((nI i + 1) : Int32) = nI (i + 1) from nI_add i 1]
  refine J.sldB (ok_La_law (L := L) (xs := xs)) 1332 (i + 1) rfl (rfl) (by omega) (by omega) ?_
  refine J.gp (ok_La_law (L := L) (xs := xs)) 4 (1337, [(0, .ref 1000), (1, .ref 0), (2, .ref 35), (3, .ref 48), (4, .int (nI i))], [.int (nI i + 2), .ref 1000, .int (xs (i + 1)), .ref 0], _, _, _) rfl ?_
  rw [show ((nI i + 2) : Int32) = nI (i + 2) from nI_add i 2]
  refine J.sldB (ok_La_law (L := L) (xs := xs)) 1338 (i + 2) rfl (rfl) (by omega) (by omega) ?_
  refine J.gp (ok_La_law (L := L) (xs := xs)) 1 (1339, [(0, .ref 1000), (1, .ref 0), (2, .ref 35), (3, .ref 48), (4, .int (nI i))], [.ref 48, .int (xs (i + 2)), .int (xs (i + 1)), .ref 0], _, _, _) rfl ?_
  exact K1

set_option maxRecDepth 100000 in
set_option maxHeartbeats 400000 in
theorem gB_best {hh : aH} {L i : Nat} {xs : Nat → Int32} {k : Int32}  {kc kn : Nat} {O : Option Value → aH → Prop} (hL : L ≤ 2560) (hi : i + 5 ≤ L) (K1 : JR (M_La_law L xs) (some (L, xs)) (1357, [(0, .ref 1000), (1, .ref 0), (2, .ref 35), (3, .ref 48), (4, .int (nI i)), (5, .int k)], [.int (xs (i + 2)), .int (xs (i + 1)), .ref 35], hh, kc, kn) O) : JR (M_La_law L xs) (some (L, xs)) (1342, [(0, .ref 1000), (1, .ref 0), (2, .ref 35), (3, .ref 48), (4, .int (nI i))], [.int k], hh, kc, kn) O := by
  refine J.gp (ok_La_law (L := L) (xs := xs)) 6 (1350, [(0, .ref 1000), (1, .ref 0), (2, .ref 35), (3, .ref 48), (4, .int (nI i)), (5, .int k)], [.int (nI i + 1), .ref 1000, .ref 35], _, _, _) rfl ?_
  rw [show ((nI i + 1) : Int32) = nI (i + 1) from nI_add i 1]
  refine J.sldB (ok_La_law (L := L) (xs := xs)) 1351 (i + 1) rfl (rfl) (by omega) (by omega) ?_
  refine J.gp (ok_La_law (L := L) (xs := xs)) 4 (1356, [(0, .ref 1000), (1, .ref 0), (2, .ref 35), (3, .ref 48), (4, .int (nI i)), (5, .int k)], [.int (nI i + 2), .ref 1000, .int (xs (i + 1)), .ref 35], _, _, _) rfl ?_
  rw [show ((nI i + 2) : Int32) = nI (i + 2) from nI_add i 2]
  refine J.sldB (ok_La_law (L := L) (xs := xs)) 1357 (i + 2) rfl (rfl) (by omega) (by omega) ?_
  exact K1

set_option maxRecDepth 100000 in
set_option maxHeartbeats 400000 in
theorem gC_best {hh : aH} {L i : Nat} {xs : Nat → Int32} {k : Int32} {b : Int64}  {kc kn : Nat} {O : Option Value → aH → Prop} (hL : L ≤ 2560) (hi : i + 5 ≤ L) (K1 : JR (M_La_law L xs) (some (L, xs)) (1363, [(0, .ref 1000), (1, .ref 0), (2, .ref 35), (3, .ref 48), (4, .int (nI i)), (5, .int k), (6, .long b)], [.ref 35], hh, kc, kn) O) : JR (M_La_law L xs) (some (L, xs)) (1360, [(0, .ref 1000), (1, .ref 0), (2, .ref 35), (3, .ref 48), (4, .int (nI i)), (5, .int k)], [.long b], hh, kc, kn) O := by
  refine J.gp (ok_La_law (L := L) (xs := xs)) 2 (1363, [(0, .ref 1000), (1, .ref 0), (2, .ref 35), (3, .ref 48), (4, .int (nI i)), (5, .int k), (6, .long b)], [.ref 35], _, _, _) rfl ?_
  exact K1

set_option maxRecDepth 100000 in
set_option maxHeartbeats 400000 in
theorem gD_best {e0 e1 e2 e3 e4 e5 e6 e7 e8 e9 e10 e11 e12 e13 e14 e15 e16 e17 e18 e19 e20 e21 e22 e23 e24 e25 e26 e27 e28 e29 e30 e31 e32 e33 e34 e35 e36 e37 e38 e39 e40 e41 e42 e43 e44 e45 e46 e47 : va_E} {L i : Nat} {xs : Nat → Int32} {k : Int32} {b : Int64} {f : Nat → Int64}  {kc kn : Nat} {O : Option Value → aH → Prop} (hL : L ≤ 2560) (hi : i + 5 ≤ L) (hb : k = 0 → f 0 = b) (K1 : (¬ k = 0) → JR (M_La_law L xs) (some (L, xs)) (1584, [(0, .ref 1000), (1, .ref 0), (2, .ref 35), (3, .ref 48), (4, .int (nI i))], [], (HP e0 e1 e2 e3 e4 e5 e6 e7 e8 e9 e10 e11 e12 e13 e14 e15 e16 e17 e18 e19 e20 e21 e22 e23 e24 e25 e26 e27 e28 e29 e30 e31 e32 e33 e34 e35 e36 e37 e38 e39 e40 e41 e42 e43 e44 e45 e46 e47 (.inl (1, 1, .inr (.inl f)))), kc, kn) O) (K2 : (¬ (¬ k = 0)) → JR (M_La_law L xs) (some (L, xs)) (1584, [(0, .ref 1000), (1, .ref 0), (2, .ref 35), (3, .ref 48), (4, .int (nI i))], [], (HP e0 e1 e2 e3 e4 e5 e6 e7 e8 e9 e10 e11 e12 e13 e14 e15 e16 e17 e18 e19 e20 e21 e22 e23 e24 e25 e26 e27 e28 e29 e30 e31 e32 e33 e34 e35 e36 e37 e38 e39 e40 e41 e42 e43 e44 e45 e46 e47 (.inl (1, 1, .inr (.inl f)))), kc, kn) O) : JR (M_La_law L xs) (some (L, xs)) (1366, [(0, .ref 1000), (1, .ref 0), (2, .ref 35), (3, .ref 48), (4, .int (nI i)), (5, .int k), (6, .long b)], [.int k], (HP e0 e1 e2 e3 e4 e5 e6 e7 e8 e9 e10 e11 e12 e13 e14 e15 e16 e17 e18 e19 e20 e21 e22 e23 e24 e25 e26 e27 e28 e29 e30 e31 e32 e33 e34 e35 e36 e37 e38 e39 e40 e41 e42 e43 e44 e45 e46 e47 (.inl (1, 1, .inr (.inl f)))), kc, kn) O := by
  refine J.gp (ok_La_law (L := L) (xs := xs)) 1 (1368, [(0, .ref 1000), (1, .ref 0), (2, .ref 35), (3, .ref 48), (4, .int (nI i)), (5, .int k), (6, .long b)], [.int k, .int k], _, _, _) rfl ?_
  refine J.icT (ok_La_law (L := L) (xs := xs)) (fun x y => x = y) 1373 1371 rfl (rfl) ?_
  refine J.gp (ok_La_law (L := L) (xs := xs)) 1 (1375, [(0, .ref 1000), (1, .ref 0), (2, .ref 35), (3, .ref 48), (4, .int (nI i)), (5, .int k), (6, .long b)], [.int k], _, _, _) rfl ?_
  refine J.ifB (ok_La_law (L := L) (xs := xs)) (fun x => ¬ x = 0) 1389 1378 rfl (fun (c1375 : ¬ k = 0) => ?_) (fun (c1375 : ¬ (¬ k = 0)) => ?_)
  · refine J.gp (ok_La_law (L := L) (xs := xs)) 1 (1584, [(0, .ref 1000), (1, .ref 0), (2, .ref 35), (3, .ref 48), (4, .int (nI i)), (5, .int k), (6, .long b)], [], _, _, _) rfl ?_
    refine J.lv [0, 1, 2, 3, 4] [(0, .ref 1000), (1, .ref 0), (2, .ref 35), (3, .ref 48), (4, .int (nI i))] rfl ?_
    exact K1 c1375
  · refine J.gp (ok_La_law (L := L) (xs := xs)) 2 (1380, [(0, .ref 1000), (1, .ref 0), (2, .ref 35), (3, .ref 48), (4, .int (nI i)), (5, .int k), (6, .long b)], [.int 0, .ref 48], _, _, _) rfl ?_
    refine J.laldB (ok_La_law (L := L) (xs := xs)) 1381 0 rfl rfl (rfl) (by omega) (by decide) ?_
    refine J.gp (ok_La_law (L := L) (xs := xs)) 2 (1384, [(0, .ref 1000), (1, .ref 0), (2, .ref 35), (3, .ref 48), (4, .int (nI i)), (5, .int k), (6, .long b)], [.int (lg_cmp (f 0) b)], _, _, _) rfl ?_
    refine J.ifT (ok_La_law (L := L) (xs := xs)) (fun x => x = 0) 1389 1387 rfl (cmp_eq.mpr (hb (Classical.byContradiction c1375))) ?_
    refine J.gp (ok_La_law (L := L) (xs := xs)) 1 (1584, [(0, .ref 1000), (1, .ref 0), (2, .ref 35), (3, .ref 48), (4, .int (nI i)), (5, .int k), (6, .long b)], [], _, _, _) rfl ?_
    refine J.lv [0, 1, 2, 3, 4] [(0, .ref 1000), (1, .ref 0), (2, .ref 35), (3, .ref 48), (4, .int (nI i))] rfl ?_
    exact K2 c1375

theorem lc_best {L i : Nat} {xs : Nat → Int32} {hp : aH} {kc kn : Nat} {O : Option Value → aH → Prop} (hL : L ≤ 2560) (hi : i + 5 ≤ L) (hw : Wd hp) (hk : 1 ≤ kc) (hn : 6 ≤ kn) (hc : CaseL M_La_best M_Mo_best [(0, 9, 12, 13)] [.ref 0, .int (xs (i + 1)), .int (xs (i + 2)), .ref 48] [.ref 35, .int (xs (i + 1)), .int (xs (i + 2))] hp) (K : ∀ th f q, LH th f q → JR (M_La_law L xs) (some (L, xs)) (1584, [(0, .ref 1000), (1, .ref 0), (2, .ref 35), (3, .ref 48), (4, .int (nI i))], [], q, kc - 1, kn - 6) O) : JR (M_La_law L xs) (some (L, xs)) (1325, [(0, .ref 1000), (1, .ref 0), (2, .ref 35), (3, .ref 48), (4, .int (nI i))], [], hp, kc, kn) O := by
  obtain ⟨Oa, hJ, hA⟩ := hc
  refine gA_best hL hi ?_
  refine J.callSH (rest := []) s_La_law_1339 [.ref 0, .int (xs (i + 1)), .int (xs (i + 2)), .ref 48] rfl (Nat.le_of_ble_eq_true rfl) hJ hk hn (Or.inr (by rw [hw.1]; rfl)) (fun v q h => ?_)
  obtain ⟨⟨hq, -, fs, h35⟩, k, rfl, O2, hM, hB⟩ := hA v q h
  refine J.gp (ok_La_law (L := L) (xs := xs)) 0 (1342, [(0, .ref 1000), (1, .ref 0), (2, .ref 35), (3, .ref 48), (4, .int (nI i))], [.int k], q, _, _) rfl ?_
  refine gB_best hL hi ?_
  refine J.callV (rest := []) s_La_law_1357 35 [.int (xs (i + 1)), .int (xs (i + 2))] 10 fs _ rfl rfl rfl h35 (Nat.le_of_ble_eq_true rfl) hM (Nat.zero_le _) (Nat.zero_le _) (Or.inl (fun v2 q2 h2 => ?_)) (fun v2 q2 h2 => ?_)
  · obtain ⟨b, -, f, hLH, -⟩ := hB v2 q2 h2
    rw [hLH.len, hq]
  · obtain ⟨b, rfl, f, hLH, hb⟩ := hB v2 q2 h2
    refine J.gp (ok_La_law (L := L) (xs := xs)) 0 (1360, [(0, .ref 1000), (1, .ref 0), (2, .ref 35), (3, .ref 48), (4, .int (nI i)), (5, .int k)], [.long b], q2, _, _) rfl ?_
    refine gC_best hL hi ?_
    have hLH2 := hLH
    obtain ⟨m, g, w, P, p, i9, s, t, bl, gn, B, F, T, e9, e10, e11, e12, e13, e15, e17, e18, e20, e22, e24, e26, e28, e30, e31, e32, e33, e34, e35, e38, e39, e40, e41, e42, e43, e44, e45, e46, e47, -, -, ⟨⟨m13, m14, m15, m16, m17, m18, m31, m36, m24, m25, m30, m33, m34, m35, m37, m38, m39, rfl⟩, -⟩, rfl⟩ := hLH
    refine J.callVE (rest := []) s_La_law_1363 1366 35 [] 10 c_Mo_thrown rfl rfl rfl rfl rfl (Nat.le_of_ble_eq_true rfl) rfl ?_
    exact gD_best hL hi hb (fun _ => K _ _ _ hLH2) (fun _ => K _ _ _ hLH2)

set_option maxRecDepth 100000 in
set_option maxHeartbeats 400000 in
theorem gA_count {hh : aH} {L i : Nat} {xs : Nat → Int32}  {kc kn : Nat} {O : Option Value → aH → Prop} (hL : L ≤ 2560) (hi : i + 5 ≤ L) (K1 : JR (M_La_law L xs) (some (L, xs)) (1413, [(0, .ref 1000), (1, .ref 0), (2, .ref 35), (3, .ref 48), (4, .int (nI i))], [.ref 48, .int (xs (i + 1)), .ref 0], hh, kc, kn) O) : JR (M_La_law L xs) (some (L, xs)) (1405, [(0, .ref 1000), (1, .ref 0), (2, .ref 35), (3, .ref 48), (4, .int (nI i))], [], hh, kc, kn) O := by
  refine J.gp (ok_La_law (L := L) (xs := xs)) 5 (1411, [(0, .ref 1000), (1, .ref 0), (2, .ref 35), (3, .ref 48), (4, .int (nI i))], [.int (nI i + 1), .ref 1000, .ref 0], _, _, _) rfl ?_
  rw [show ((nI i + 1) : Int32) = nI (i + 1) from nI_add i 1]
  refine J.sldB (ok_La_law (L := L) (xs := xs)) 1412 (i + 1) rfl (rfl) (by omega) (by omega) ?_
  refine J.gp (ok_La_law (L := L) (xs := xs)) 1 (1413, [(0, .ref 1000), (1, .ref 0), (2, .ref 35), (3, .ref 48), (4, .int (nI i))], [.ref 48, .int (xs (i + 1)), .ref 0], _, _, _) rfl ?_
  exact K1

set_option maxRecDepth 100000 in
set_option maxHeartbeats 400000 in
theorem gB_count {hh : aH} {L i : Nat} {xs : Nat → Int32} {k : Int32}  {kc kn : Nat} {O : Option Value → aH → Prop} (hL : L ≤ 2560) (hi : i + 5 ≤ L) (K1 : JR (M_La_law L xs) (some (L, xs)) (1425, [(0, .ref 1000), (1, .ref 0), (2, .ref 35), (3, .ref 48), (4, .int (nI i)), (5, .int k)], [.int (xs (i + 1)), .ref 35], hh, kc, kn) O) : JR (M_La_law L xs) (some (L, xs)) (1416, [(0, .ref 1000), (1, .ref 0), (2, .ref 35), (3, .ref 48), (4, .int (nI i))], [.int k], hh, kc, kn) O := by
  refine J.gp (ok_La_law (L := L) (xs := xs)) 6 (1424, [(0, .ref 1000), (1, .ref 0), (2, .ref 35), (3, .ref 48), (4, .int (nI i)), (5, .int k)], [.int (nI i + 1), .ref 1000, .ref 35], _, _, _) rfl ?_
  rw [show ((nI i + 1) : Int32) = nI (i + 1) from nI_add i 1]
  refine J.sldB (ok_La_law (L := L) (xs := xs)) 1425 (i + 1) rfl (rfl) (by omega) (by omega) ?_
  exact K1

set_option maxRecDepth 100000 in
set_option maxHeartbeats 400000 in
theorem gC_count {hh : aH} {L i : Nat} {xs : Nat → Int32} {k : Int32} {b : Int32}  {kc kn : Nat} {O : Option Value → aH → Prop} (hL : L ≤ 2560) (hi : i + 5 ≤ L) (K1 : JR (M_La_law L xs) (some (L, xs)) (1431, [(0, .ref 1000), (1, .ref 0), (2, .ref 35), (3, .ref 48), (4, .int (nI i)), (5, .int k), (6, .int b)], [.ref 35], hh, kc, kn) O) : JR (M_La_law L xs) (some (L, xs)) (1428, [(0, .ref 1000), (1, .ref 0), (2, .ref 35), (3, .ref 48), (4, .int (nI i)), (5, .int k)], [.int b], hh, kc, kn) O := by
  refine J.gp (ok_La_law (L := L) (xs := xs)) 2 (1431, [(0, .ref 1000), (1, .ref 0), (2, .ref 35), (3, .ref 48), (4, .int (nI i)), (5, .int k), (6, .int b)], [.ref 35], _, _, _) rfl ?_
  exact K1

set_option maxRecDepth 100000 in
set_option maxHeartbeats 400000 in
theorem gD_count {e0 e1 e2 e3 e4 e5 e6 e7 e8 e9 e10 e11 e12 e13 e14 e15 e16 e17 e18 e19 e20 e21 e22 e23 e24 e25 e26 e27 e28 e29 e30 e31 e32 e33 e34 e35 e36 e37 e38 e39 e40 e41 e42 e43 e44 e45 e46 e47 : va_E} {L i : Nat} {xs : Nat → Int32} {k : Int32} {b : Int32} {f : Nat → Int64}  {kc kn : Nat} {O : Option Value → aH → Prop} (hL : L ≤ 2560) (hi : i + 5 ≤ L) (hb : k = 0 → f 0 = b.toInt64) (K1 : (¬ k = 0) → JR (M_La_law L xs) (some (L, xs)) (1584, [(0, .ref 1000), (1, .ref 0), (2, .ref 35), (3, .ref 48), (4, .int (nI i))], [], (HP e0 e1 e2 e3 e4 e5 e6 e7 e8 e9 e10 e11 e12 e13 e14 e15 e16 e17 e18 e19 e20 e21 e22 e23 e24 e25 e26 e27 e28 e29 e30 e31 e32 e33 e34 e35 e36 e37 e38 e39 e40 e41 e42 e43 e44 e45 e46 e47 (.inl (1, 1, .inr (.inl f)))), kc, kn) O) (K2 : (¬ (¬ k = 0)) → JR (M_La_law L xs) (some (L, xs)) (1584, [(0, .ref 1000), (1, .ref 0), (2, .ref 35), (3, .ref 48), (4, .int (nI i))], [], (HP e0 e1 e2 e3 e4 e5 e6 e7 e8 e9 e10 e11 e12 e13 e14 e15 e16 e17 e18 e19 e20 e21 e22 e23 e24 e25 e26 e27 e28 e29 e30 e31 e32 e33 e34 e35 e36 e37 e38 e39 e40 e41 e42 e43 e44 e45 e46 e47 (.inl (1, 1, .inr (.inl f)))), kc, kn) O) : JR (M_La_law L xs) (some (L, xs)) (1434, [(0, .ref 1000), (1, .ref 0), (2, .ref 35), (3, .ref 48), (4, .int (nI i)), (5, .int k), (6, .int b)], [.int k], (HP e0 e1 e2 e3 e4 e5 e6 e7 e8 e9 e10 e11 e12 e13 e14 e15 e16 e17 e18 e19 e20 e21 e22 e23 e24 e25 e26 e27 e28 e29 e30 e31 e32 e33 e34 e35 e36 e37 e38 e39 e40 e41 e42 e43 e44 e45 e46 e47 (.inl (1, 1, .inr (.inl f)))), kc, kn) O := by
  refine J.gp (ok_La_law (L := L) (xs := xs)) 1 (1436, [(0, .ref 1000), (1, .ref 0), (2, .ref 35), (3, .ref 48), (4, .int (nI i)), (5, .int k), (6, .int b)], [.int k, .int k], _, _, _) rfl ?_
  refine J.icT (ok_La_law (L := L) (xs := xs)) (fun x y => x = y) 1441 1439 rfl (rfl) ?_
  refine J.gp (ok_La_law (L := L) (xs := xs)) 1 (1443, [(0, .ref 1000), (1, .ref 0), (2, .ref 35), (3, .ref 48), (4, .int (nI i)), (5, .int k), (6, .int b)], [.int k], _, _, _) rfl ?_
  refine J.ifB (ok_La_law (L := L) (xs := xs)) (fun x => ¬ x = 0) 1458 1446 rfl (fun (c1443 : ¬ k = 0) => ?_) (fun (c1443 : ¬ (¬ k = 0)) => ?_)
  · refine J.gp (ok_La_law (L := L) (xs := xs)) 1 (1584, [(0, .ref 1000), (1, .ref 0), (2, .ref 35), (3, .ref 48), (4, .int (nI i)), (5, .int k), (6, .int b)], [], _, _, _) rfl ?_
    refine J.lv [0, 1, 2, 3, 4] [(0, .ref 1000), (1, .ref 0), (2, .ref 35), (3, .ref 48), (4, .int (nI i))] rfl ?_
    exact K1 c1443
  · refine J.gp (ok_La_law (L := L) (xs := xs)) 2 (1448, [(0, .ref 1000), (1, .ref 0), (2, .ref 35), (3, .ref 48), (4, .int (nI i)), (5, .int k), (6, .int b)], [.int 0, .ref 48], _, _, _) rfl ?_
    refine J.laldB (ok_La_law (L := L) (xs := xs)) 1449 0 rfl rfl (rfl) (by omega) (by decide) ?_
    refine J.gp (ok_La_law (L := L) (xs := xs)) 3 (1453, [(0, .ref 1000), (1, .ref 0), (2, .ref 35), (3, .ref 48), (4, .int (nI i)), (5, .int k), (6, .int b)], [.int (lg_cmp (f 0) (b.toInt64))], _, _, _) rfl ?_
    refine J.ifT (ok_La_law (L := L) (xs := xs)) (fun x => x = 0) 1458 1456 rfl (cmp_eq.mpr (hb (Classical.byContradiction c1443))) ?_
    refine J.gp (ok_La_law (L := L) (xs := xs)) 1 (1584, [(0, .ref 1000), (1, .ref 0), (2, .ref 35), (3, .ref 48), (4, .int (nI i)), (5, .int k), (6, .int b)], [], _, _, _) rfl ?_
    refine J.lv [0, 1, 2, 3, 4] [(0, .ref 1000), (1, .ref 0), (2, .ref 35), (3, .ref 48), (4, .int (nI i))] rfl ?_
    exact K2 c1443

theorem lc_count {L i : Nat} {xs : Nat → Int32} {hp : aH} {kc kn : Nat} {O : Option Value → aH → Prop} (hL : L ≤ 2560) (hi : i + 5 ≤ L) (hw : Wd hp) (hk : 1 ≤ kc) (hn : 6 ≤ kn) (hc : CaseI M_La_count M_Mo_count [(0, 9, 12, 13)] [.ref 0, .int (xs (i + 1)), .ref 48] [.ref 35, .int (xs (i + 1))] hp) (K : ∀ th f q, LH th f q → JR (M_La_law L xs) (some (L, xs)) (1584, [(0, .ref 1000), (1, .ref 0), (2, .ref 35), (3, .ref 48), (4, .int (nI i))], [], q, kc - 1, kn - 6) O) : JR (M_La_law L xs) (some (L, xs)) (1405, [(0, .ref 1000), (1, .ref 0), (2, .ref 35), (3, .ref 48), (4, .int (nI i))], [], hp, kc, kn) O := by
  obtain ⟨Oa, hJ, hA⟩ := hc
  refine gA_count hL hi ?_
  refine J.callSH (rest := []) s_La_law_1413 [.ref 0, .int (xs (i + 1)), .ref 48] rfl (Nat.le_of_ble_eq_true rfl) hJ hk hn (Or.inr (by rw [hw.1]; rfl)) (fun v q h => ?_)
  obtain ⟨⟨hq, -, fs, h35⟩, k, rfl, O2, hM, hB⟩ := hA v q h
  refine J.gp (ok_La_law (L := L) (xs := xs)) 0 (1416, [(0, .ref 1000), (1, .ref 0), (2, .ref 35), (3, .ref 48), (4, .int (nI i))], [.int k], q, _, _) rfl ?_
  refine gB_count hL hi ?_
  refine J.callV (rest := []) s_La_law_1425 35 [.int (xs (i + 1))] 10 fs _ rfl rfl rfl h35 (Nat.le_of_ble_eq_true rfl) hM (Nat.zero_le _) (Nat.zero_le _) (Or.inl (fun v2 q2 h2 => ?_)) (fun v2 q2 h2 => ?_)
  · obtain ⟨b, -, f, hLH, -⟩ := hB v2 q2 h2
    rw [hLH.len, hq]
  · obtain ⟨b, rfl, f, hLH, hb⟩ := hB v2 q2 h2
    refine J.gp (ok_La_law (L := L) (xs := xs)) 0 (1428, [(0, .ref 1000), (1, .ref 0), (2, .ref 35), (3, .ref 48), (4, .int (nI i)), (5, .int k)], [.int b], q2, _, _) rfl ?_
    refine gC_count hL hi ?_
    have hLH2 := hLH
    obtain ⟨m, g, w, P, p, i9, s, t, bl, gn, B, F, T, e9, e10, e11, e12, e13, e15, e17, e18, e20, e22, e24, e26, e28, e30, e31, e32, e33, e34, e35, e38, e39, e40, e41, e42, e43, e44, e45, e46, e47, -, -, ⟨⟨m13, m14, m15, m16, m17, m18, m31, m36, m24, m25, m30, m33, m34, m35, m37, m38, m39, rfl⟩, -⟩, rfl⟩ := hLH
    refine J.callVE (rest := []) s_La_law_1431 1434 35 [] 10 c_Mo_thrown rfl rfl rfl rfl rfl (Nat.le_of_ble_eq_true rfl) rfl ?_
    exact gD_count hL hi hb (fun _ => K _ _ _ hLH2) (fun _ => K _ _ _ hLH2)

set_option maxRecDepth 100000 in
set_option maxHeartbeats 400000 in
theorem gA_table {hh : aH} {L i : Nat} {xs : Nat → Int32}  {kc kn : Nat} {O : Option Value → aH → Prop} (hL : L ≤ 2560) (hi : i + 5 ≤ L) (K1 : JR (M_La_law L xs) (some (L, xs)) (1475, [(0, .ref 1000), (1, .ref 0), (2, .ref 35), (3, .ref 48), (4, .int (nI i))], [.ref 48, .int (xs (i + 2)), .int (xs (i + 1)), .ref 0], hh, kc, kn) O) : JR (M_La_law L xs) (some (L, xs)) (1461, [(0, .ref 1000), (1, .ref 0), (2, .ref 35), (3, .ref 48), (4, .int (nI i))], [], hh, kc, kn) O := by
  refine J.gp (ok_La_law (L := L) (xs := xs)) 5 (1467, [(0, .ref 1000), (1, .ref 0), (2, .ref 35), (3, .ref 48), (4, .int (nI i))], [.int (nI i + 1), .ref 1000, .ref 0], _, _, _) rfl ?_
  rw [show ((nI i + 1) : Int32) = nI (i + 1) from nI_add i 1]
  refine J.sldB (ok_La_law (L := L) (xs := xs)) 1468 (i + 1) rfl (rfl) (by omega) (by omega) ?_
  refine J.gp (ok_La_law (L := L) (xs := xs)) 4 (1473, [(0, .ref 1000), (1, .ref 0), (2, .ref 35), (3, .ref 48), (4, .int (nI i))], [.int (nI i + 2), .ref 1000, .int (xs (i + 1)), .ref 0], _, _, _) rfl ?_
  rw [show ((nI i + 2) : Int32) = nI (i + 2) from nI_add i 2]
  refine J.sldB (ok_La_law (L := L) (xs := xs)) 1474 (i + 2) rfl (rfl) (by omega) (by omega) ?_
  refine J.gp (ok_La_law (L := L) (xs := xs)) 1 (1475, [(0, .ref 1000), (1, .ref 0), (2, .ref 35), (3, .ref 48), (4, .int (nI i))], [.ref 48, .int (xs (i + 2)), .int (xs (i + 1)), .ref 0], _, _, _) rfl ?_
  exact K1

set_option maxRecDepth 100000 in
set_option maxHeartbeats 400000 in
theorem gB_table {hh : aH} {L i : Nat} {xs : Nat → Int32} {k : Int32}  {kc kn : Nat} {O : Option Value → aH → Prop} (hL : L ≤ 2560) (hi : i + 5 ≤ L) (K1 : JR (M_La_law L xs) (some (L, xs)) (1493, [(0, .ref 1000), (1, .ref 0), (2, .ref 35), (3, .ref 48), (4, .int (nI i)), (5, .int k)], [.int (xs (i + 2)), .int (xs (i + 1)), .ref 35], hh, kc, kn) O) : JR (M_La_law L xs) (some (L, xs)) (1478, [(0, .ref 1000), (1, .ref 0), (2, .ref 35), (3, .ref 48), (4, .int (nI i))], [.int k], hh, kc, kn) O := by
  refine J.gp (ok_La_law (L := L) (xs := xs)) 6 (1486, [(0, .ref 1000), (1, .ref 0), (2, .ref 35), (3, .ref 48), (4, .int (nI i)), (5, .int k)], [.int (nI i + 1), .ref 1000, .ref 35], _, _, _) rfl ?_
  rw [show ((nI i + 1) : Int32) = nI (i + 1) from nI_add i 1]
  refine J.sldB (ok_La_law (L := L) (xs := xs)) 1487 (i + 1) rfl (rfl) (by omega) (by omega) ?_
  refine J.gp (ok_La_law (L := L) (xs := xs)) 4 (1492, [(0, .ref 1000), (1, .ref 0), (2, .ref 35), (3, .ref 48), (4, .int (nI i)), (5, .int k)], [.int (nI i + 2), .ref 1000, .int (xs (i + 1)), .ref 35], _, _, _) rfl ?_
  rw [show ((nI i + 2) : Int32) = nI (i + 2) from nI_add i 2]
  refine J.sldB (ok_La_law (L := L) (xs := xs)) 1493 (i + 2) rfl (rfl) (by omega) (by omega) ?_
  exact K1

set_option maxRecDepth 100000 in
set_option maxHeartbeats 400000 in
theorem gC_table {hh : aH} {L i : Nat} {xs : Nat → Int32} {k : Int32} {b : Int32}  {kc kn : Nat} {O : Option Value → aH → Prop} (hL : L ≤ 2560) (hi : i + 5 ≤ L) (K1 : JR (M_La_law L xs) (some (L, xs)) (1499, [(0, .ref 1000), (1, .ref 0), (2, .ref 35), (3, .ref 48), (4, .int (nI i)), (5, .int k), (6, .int b)], [.ref 35], hh, kc, kn) O) : JR (M_La_law L xs) (some (L, xs)) (1496, [(0, .ref 1000), (1, .ref 0), (2, .ref 35), (3, .ref 48), (4, .int (nI i)), (5, .int k)], [.int b], hh, kc, kn) O := by
  refine J.gp (ok_La_law (L := L) (xs := xs)) 2 (1499, [(0, .ref 1000), (1, .ref 0), (2, .ref 35), (3, .ref 48), (4, .int (nI i)), (5, .int k), (6, .int b)], [.ref 35], _, _, _) rfl ?_
  exact K1

set_option maxRecDepth 100000 in
set_option maxHeartbeats 400000 in
theorem gD_table {e0 e1 e2 e3 e4 e5 e6 e7 e8 e9 e10 e11 e12 e13 e14 e15 e16 e17 e18 e19 e20 e21 e22 e23 e24 e25 e26 e27 e28 e29 e30 e31 e32 e33 e34 e35 e36 e37 e38 e39 e40 e41 e42 e43 e44 e45 e46 e47 : va_E} {L i : Nat} {xs : Nat → Int32} {k : Int32} {b : Int32} {f : Nat → Int64}  {kc kn : Nat} {O : Option Value → aH → Prop} (hL : L ≤ 2560) (hi : i + 5 ≤ L) (hb : k = 0 → f 0 = b.toInt64) (K1 : (¬ k = 0) → JR (M_La_law L xs) (some (L, xs)) (1584, [(0, .ref 1000), (1, .ref 0), (2, .ref 35), (3, .ref 48), (4, .int (nI i))], [], (HP e0 e1 e2 e3 e4 e5 e6 e7 e8 e9 e10 e11 e12 e13 e14 e15 e16 e17 e18 e19 e20 e21 e22 e23 e24 e25 e26 e27 e28 e29 e30 e31 e32 e33 e34 e35 e36 e37 e38 e39 e40 e41 e42 e43 e44 e45 e46 e47 (.inl (1, 1, .inr (.inl f)))), kc, kn) O) (K2 : (¬ (¬ k = 0)) → JR (M_La_law L xs) (some (L, xs)) (1584, [(0, .ref 1000), (1, .ref 0), (2, .ref 35), (3, .ref 48), (4, .int (nI i))], [], (HP e0 e1 e2 e3 e4 e5 e6 e7 e8 e9 e10 e11 e12 e13 e14 e15 e16 e17 e18 e19 e20 e21 e22 e23 e24 e25 e26 e27 e28 e29 e30 e31 e32 e33 e34 e35 e36 e37 e38 e39 e40 e41 e42 e43 e44 e45 e46 e47 (.inl (1, 1, .inr (.inl f)))), kc, kn) O) : JR (M_La_law L xs) (some (L, xs)) (1502, [(0, .ref 1000), (1, .ref 0), (2, .ref 35), (3, .ref 48), (4, .int (nI i)), (5, .int k), (6, .int b)], [.int k], (HP e0 e1 e2 e3 e4 e5 e6 e7 e8 e9 e10 e11 e12 e13 e14 e15 e16 e17 e18 e19 e20 e21 e22 e23 e24 e25 e26 e27 e28 e29 e30 e31 e32 e33 e34 e35 e36 e37 e38 e39 e40 e41 e42 e43 e44 e45 e46 e47 (.inl (1, 1, .inr (.inl f)))), kc, kn) O := by
  refine J.gp (ok_La_law (L := L) (xs := xs)) 1 (1504, [(0, .ref 1000), (1, .ref 0), (2, .ref 35), (3, .ref 48), (4, .int (nI i)), (5, .int k), (6, .int b)], [.int k, .int k], _, _, _) rfl ?_
  refine J.icT (ok_La_law (L := L) (xs := xs)) (fun x y => x = y) 1509 1507 rfl (rfl) ?_
  refine J.gp (ok_La_law (L := L) (xs := xs)) 1 (1511, [(0, .ref 1000), (1, .ref 0), (2, .ref 35), (3, .ref 48), (4, .int (nI i)), (5, .int k), (6, .int b)], [.int k], _, _, _) rfl ?_
  refine J.ifB (ok_La_law (L := L) (xs := xs)) (fun x => ¬ x = 0) 1526 1514 rfl (fun (c1511 : ¬ k = 0) => ?_) (fun (c1511 : ¬ (¬ k = 0)) => ?_)
  · refine J.gp (ok_La_law (L := L) (xs := xs)) 1 (1584, [(0, .ref 1000), (1, .ref 0), (2, .ref 35), (3, .ref 48), (4, .int (nI i)), (5, .int k), (6, .int b)], [], _, _, _) rfl ?_
    refine J.lv [0, 1, 2, 3, 4] [(0, .ref 1000), (1, .ref 0), (2, .ref 35), (3, .ref 48), (4, .int (nI i))] rfl ?_
    exact K1 c1511
  · refine J.gp (ok_La_law (L := L) (xs := xs)) 2 (1516, [(0, .ref 1000), (1, .ref 0), (2, .ref 35), (3, .ref 48), (4, .int (nI i)), (5, .int k), (6, .int b)], [.int 0, .ref 48], _, _, _) rfl ?_
    refine J.laldB (ok_La_law (L := L) (xs := xs)) 1517 0 rfl rfl (rfl) (by omega) (by decide) ?_
    refine J.gp (ok_La_law (L := L) (xs := xs)) 3 (1521, [(0, .ref 1000), (1, .ref 0), (2, .ref 35), (3, .ref 48), (4, .int (nI i)), (5, .int k), (6, .int b)], [.int (lg_cmp (f 0) (b.toInt64))], _, _, _) rfl ?_
    refine J.ifT (ok_La_law (L := L) (xs := xs)) (fun x => x = 0) 1526 1524 rfl (cmp_eq.mpr (hb (Classical.byContradiction c1511))) ?_
    refine J.gp (ok_La_law (L := L) (xs := xs)) 1 (1584, [(0, .ref 1000), (1, .ref 0), (2, .ref 35), (3, .ref 48), (4, .int (nI i)), (5, .int k), (6, .int b)], [], _, _, _) rfl ?_
    refine J.lv [0, 1, 2, 3, 4] [(0, .ref 1000), (1, .ref 0), (2, .ref 35), (3, .ref 48), (4, .int (nI i))] rfl ?_
    exact K2 c1511

theorem lc_table {L i : Nat} {xs : Nat → Int32} {hp : aH} {kc kn : Nat} {O : Option Value → aH → Prop} (hL : L ≤ 2560) (hi : i + 5 ≤ L) (hw : Wd hp) (hk : 1 ≤ kc) (hn : 6 ≤ kn) (hc : CaseI M_La_table M_Mo_table [(0, 10, 13, 19)] [.ref 0, .int (xs (i + 1)), .int (xs (i + 2)), .ref 48] [.ref 35, .int (xs (i + 1)), .int (xs (i + 2))] hp) (K : ∀ th f q, LH th f q → JR (M_La_law L xs) (some (L, xs)) (1584, [(0, .ref 1000), (1, .ref 0), (2, .ref 35), (3, .ref 48), (4, .int (nI i))], [], q, kc - 1, kn - 6) O) : JR (M_La_law L xs) (some (L, xs)) (1461, [(0, .ref 1000), (1, .ref 0), (2, .ref 35), (3, .ref 48), (4, .int (nI i))], [], hp, kc, kn) O := by
  obtain ⟨Oa, hJ, hA⟩ := hc
  refine gA_table hL hi ?_
  refine J.callSH (rest := []) s_La_law_1475 [.ref 0, .int (xs (i + 1)), .int (xs (i + 2)), .ref 48] rfl (Nat.le_of_ble_eq_true rfl) hJ hk hn (Or.inr (by rw [hw.1]; rfl)) (fun v q h => ?_)
  obtain ⟨⟨hq, -, fs, h35⟩, k, rfl, O2, hM, hB⟩ := hA v q h
  refine J.gp (ok_La_law (L := L) (xs := xs)) 0 (1478, [(0, .ref 1000), (1, .ref 0), (2, .ref 35), (3, .ref 48), (4, .int (nI i))], [.int k], q, _, _) rfl ?_
  refine gB_table hL hi ?_
  refine J.callV (rest := []) s_La_law_1493 35 [.int (xs (i + 1)), .int (xs (i + 2))] 10 fs _ rfl rfl rfl h35 (Nat.le_of_ble_eq_true rfl) hM (Nat.zero_le _) (Nat.zero_le _) (Or.inl (fun v2 q2 h2 => ?_)) (fun v2 q2 h2 => ?_)
  · obtain ⟨b, -, f, hLH, -⟩ := hB v2 q2 h2
    rw [hLH.len, hq]
  · obtain ⟨b, rfl, f, hLH, hb⟩ := hB v2 q2 h2
    refine J.gp (ok_La_law (L := L) (xs := xs)) 0 (1496, [(0, .ref 1000), (1, .ref 0), (2, .ref 35), (3, .ref 48), (4, .int (nI i)), (5, .int k)], [.int b], q2, _, _) rfl ?_
    refine gC_table hL hi ?_
    have hLH2 := hLH
    obtain ⟨m, g, w, P, p, i9, s, t, bl, gn, B, F, T, e9, e10, e11, e12, e13, e15, e17, e18, e20, e22, e24, e26, e28, e30, e31, e32, e33, e34, e35, e38, e39, e40, e41, e42, e43, e44, e45, e46, e47, -, -, ⟨⟨m13, m14, m15, m16, m17, m18, m31, m36, m24, m25, m30, m33, m34, m35, m37, m38, m39, rfl⟩, -⟩, rfl⟩ := hLH
    refine J.callVE (rest := []) s_La_law_1499 1502 35 [] 10 c_Mo_thrown rfl rfl rfl rfl rfl (Nat.le_of_ble_eq_true rfl) rfl ?_
    exact gD_table hL hi hb (fun _ => K _ _ _ hLH2) (fun _ => K _ _ _ hLH2)

def CaseDI (Fm Mo : aM) (hp : aH) : Prop := ∃ O, JM Fm [.ref 0] hp 0 0 O ∧ ∀ v q, O v q → Wd q ∧ ∃ y : Int32, v = some (.int y) ∧ ∃ O2, JM Mo [.ref 35] q 0 0 O2 ∧ ∀ v2 q2, O2 v2 q2 → v2 = some (.int y) ∧ ∃ th f, LH th f q2

def CaseDL (Fm Mo : aM) (hp : aH) : Prop := ∃ O, JM Fm [.ref 0] hp 0 0 O ∧ ∀ v q, O v q → Wd q ∧ ∃ y : Int64, v = some (.long y) ∧ ∃ O2, JM Mo [.ref 35] q 0 0 O2 ∧ ∀ v2 q2, O2 v2 q2 → v2 = some (.long y) ∧ ∃ th f, LH th f q2

def CaseDD (Fm Mo : aM) (hp : aH) : Prop := ∃ O, JM Fm [.ref 0] hp 0 0 O ∧ ∀ v q, O v q → Wd q ∧ ∃ y : UInt64, v = some (.double y) ∧ ∃ O2, JM Mo [.ref 35] q 0 0 O2 ∧ ∀ v2 q2, O2 v2 q2 → v2 = some (.double y) ∧ ∃ th f, LH th f q2

theorem lc_clearBuffer {L i : Nat} {xs : Nat → Int32} {hp : aH} {kc kn : Nat} {O : Option Value → aH → Prop} (hw : Wd hp) (hc : CaseDI M_F_clearBuffer M_Mo_clearBuffer hp) (K : ∀ th f q, LH th f q → JR (M_La_law L xs) (some (L, xs)) (1584, [(0, .ref 1000), (1, .ref 0), (2, .ref 35), (3, .ref 48), (4, .int (nI i))], [], q, kc, kn) O) : JR (M_La_law L xs) (some (L, xs)) (704, [(0, .ref 1000), (1, .ref 0), (2, .ref 35), (3, .ref 48), (4, .int (nI i))], [], hp, kc, kn) O := by
  obtain ⟨Oa, hM, hA⟩ := hc
  obtain ⟨hw1, ⟨fs0, h0⟩, -⟩ := hw
  refine J.gp (ok_La_law (L := L) (xs := xs)) 1 (705, [(0, .ref 1000), (1, .ref 0), (2, .ref 35), (3, .ref 48), (4, .int (nI i))], [.ref 0], hp, _, _) rfl ?_
  refine J.callV (rest := []) s_La_law_705 0 [] 9 fs0 _ rfl rfl rfl h0 (Nat.le_of_ble_eq_true rfl) hM (Nat.zero_le _) (Nat.zero_le _) (Or.inl (fun v q h => by rw [(hA v q h).1.1, hw1])) (fun v q h => ?_)
  obtain ⟨⟨hq, -, fs, h35⟩, y, rfl, O2, hM2, hB⟩ := hA v q h
  refine J.gp (ok_La_law (L := L) (xs := xs)) 1 (709, [(0, .ref 1000), (1, .ref 0), (2, .ref 35), (3, .ref 48), (4, .int (nI i))], [.ref 35, .int y], q, _, _) rfl ?_
  refine J.callV (rest := [.int y]) s_La_law_709 35 [] 10 fs _ rfl rfl rfl h35 (Nat.le_of_ble_eq_true rfl) hM2 (Nat.zero_le _) (Nat.zero_le _) (Or.inl (fun v2 q2 h2 => by obtain ⟨-, th, f, hLH⟩ := hB v2 q2 h2; rw [hLH.len, hq])) (fun v2 q2 h2 => ?_)
  obtain ⟨rfl, th, f, hLH⟩ := hB v2 q2 h2
  refine J.gp (ok_La_law (L := L) (xs := xs)) 0 (712, [(0, .ref 1000), (1, .ref 0), (2, .ref 35), (3, .ref 48), (4, .int (nI i))], [.int y, .int y], q2, _, _) rfl ?_
  refine J.icT (ok_La_law (L := L) (xs := xs)) (fun x y => x = y) 1584 715 rfl rfl ?_
  exact K _ _ _ hLH

theorem lc_firstError {L i : Nat} {xs : Nat → Int32} {hp : aH} {kc kn : Nat} {O : Option Value → aH → Prop} (hw : Wd hp) (hc : CaseDI M_F_firstError M_Mo_firstError hp) (K : ∀ th f q, LH th f q → JR (M_La_law L xs) (some (L, xs)) (1584, [(0, .ref 1000), (1, .ref 0), (2, .ref 35), (3, .ref 48), (4, .int (nI i))], [], q, kc, kn) O) : JR (M_La_law L xs) (some (L, xs)) (717, [(0, .ref 1000), (1, .ref 0), (2, .ref 35), (3, .ref 48), (4, .int (nI i))], [], hp, kc, kn) O := by
  obtain ⟨Oa, hM, hA⟩ := hc
  obtain ⟨hw1, ⟨fs0, h0⟩, -⟩ := hw
  refine J.gp (ok_La_law (L := L) (xs := xs)) 1 (718, [(0, .ref 1000), (1, .ref 0), (2, .ref 35), (3, .ref 48), (4, .int (nI i))], [.ref 0], hp, _, _) rfl ?_
  refine J.callV (rest := []) s_La_law_718 0 [] 9 fs0 _ rfl rfl rfl h0 (Nat.le_of_ble_eq_true rfl) hM (Nat.zero_le _) (Nat.zero_le _) (Or.inl (fun v q h => by rw [(hA v q h).1.1, hw1])) (fun v q h => ?_)
  obtain ⟨⟨hq, -, fs, h35⟩, y, rfl, O2, hM2, hB⟩ := hA v q h
  refine J.gp (ok_La_law (L := L) (xs := xs)) 1 (722, [(0, .ref 1000), (1, .ref 0), (2, .ref 35), (3, .ref 48), (4, .int (nI i))], [.ref 35, .int y], q, _, _) rfl ?_
  refine J.callV (rest := [.int y]) s_La_law_722 35 [] 10 fs _ rfl rfl rfl h35 (Nat.le_of_ble_eq_true rfl) hM2 (Nat.zero_le _) (Nat.zero_le _) (Or.inl (fun v2 q2 h2 => by obtain ⟨-, th, f, hLH⟩ := hB v2 q2 h2; rw [hLH.len, hq])) (fun v2 q2 h2 => ?_)
  obtain ⟨rfl, th, f, hLH⟩ := hB v2 q2 h2
  refine J.gp (ok_La_law (L := L) (xs := xs)) 0 (725, [(0, .ref 1000), (1, .ref 0), (2, .ref 35), (3, .ref 48), (4, .int (nI i))], [.int y, .int y], q2, _, _) rfl ?_
  refine J.icT (ok_La_law (L := L) (xs := xs)) (fun x y => x = y) 1584 728 rfl rfl ?_
  exact K _ _ _ hLH

theorem lc_paradox {L i : Nat} {xs : Nat → Int32} {hp : aH} {kc kn : Nat} {O : Option Value → aH → Prop} (hw : Wd hp) (hc : CaseDI M_F_paradox M_Mo_paradox hp) (K : ∀ th f q, LH th f q → JR (M_La_law L xs) (some (L, xs)) (1584, [(0, .ref 1000), (1, .ref 0), (2, .ref 35), (3, .ref 48), (4, .int (nI i))], [], q, kc, kn) O) : JR (M_La_law L xs) (some (L, xs)) (1392, [(0, .ref 1000), (1, .ref 0), (2, .ref 35), (3, .ref 48), (4, .int (nI i))], [], hp, kc, kn) O := by
  obtain ⟨Oa, hM, hA⟩ := hc
  obtain ⟨hw1, ⟨fs0, h0⟩, -⟩ := hw
  refine J.gp (ok_La_law (L := L) (xs := xs)) 1 (1393, [(0, .ref 1000), (1, .ref 0), (2, .ref 35), (3, .ref 48), (4, .int (nI i))], [.ref 0], hp, _, _) rfl ?_
  refine J.callV (rest := []) s_La_law_1393 0 [] 9 fs0 _ rfl rfl rfl h0 (Nat.le_of_ble_eq_true rfl) hM (Nat.zero_le _) (Nat.zero_le _) (Or.inl (fun v q h => by rw [(hA v q h).1.1, hw1])) (fun v q h => ?_)
  obtain ⟨⟨hq, -, fs, h35⟩, y, rfl, O2, hM2, hB⟩ := hA v q h
  refine J.gp (ok_La_law (L := L) (xs := xs)) 1 (1397, [(0, .ref 1000), (1, .ref 0), (2, .ref 35), (3, .ref 48), (4, .int (nI i))], [.ref 35, .int y], q, _, _) rfl ?_
  refine J.callV (rest := [.int y]) s_La_law_1397 35 [] 10 fs _ rfl rfl rfl h35 (Nat.le_of_ble_eq_true rfl) hM2 (Nat.zero_le _) (Nat.zero_le _) (Or.inl (fun v2 q2 h2 => by obtain ⟨-, th, f, hLH⟩ := hB v2 q2 h2; rw [hLH.len, hq])) (fun v2 q2 h2 => ?_)
  obtain ⟨rfl, th, f, hLH⟩ := hB v2 q2 h2
  refine J.gp (ok_La_law (L := L) (xs := xs)) 0 (1400, [(0, .ref 1000), (1, .ref 0), (2, .ref 35), (3, .ref 48), (4, .int (nI i))], [.int y, .int y], q2, _, _) rfl ?_
  refine J.icT (ok_La_law (L := L) (xs := xs)) (fun x y => x = y) 1584 1403 rfl rfl ?_
  exact K _ _ _ hLH

theorem lc_digest {L i : Nat} {xs : Nat → Int32} {hp : aH} {kc kn : Nat} {O : Option Value → aH → Prop} (hw : Wd hp) (hc : CaseDL M_F_digest M_Mo_digest hp) (K : ∀ th f q, LH th f q → JR (M_La_law L xs) (some (L, xs)) (1584, [(0, .ref 1000), (1, .ref 0), (2, .ref 35), (3, .ref 48), (4, .int (nI i))], [], q, kc, kn) O) : JR (M_La_law L xs) (some (L, xs)) (1570, [(0, .ref 1000), (1, .ref 0), (2, .ref 35), (3, .ref 48), (4, .int (nI i))], [], hp, kc, kn) O := by
  obtain ⟨Oa, hM, hA⟩ := hc
  obtain ⟨hw1, ⟨fs0, h0⟩, -⟩ := hw
  refine J.gp (ok_La_law (L := L) (xs := xs)) 1 (1571, [(0, .ref 1000), (1, .ref 0), (2, .ref 35), (3, .ref 48), (4, .int (nI i))], [.ref 0], hp, _, _) rfl ?_
  refine J.callV (rest := []) s_La_law_1571 0 [] 9 fs0 _ rfl rfl rfl h0 (Nat.le_of_ble_eq_true rfl) hM (Nat.zero_le _) (Nat.zero_le _) (Or.inl (fun v q h => by rw [(hA v q h).1.1, hw1])) (fun v q h => ?_)
  obtain ⟨⟨hq, -, fs, h35⟩, y, rfl, O2, hM2, hB⟩ := hA v q h
  refine J.gp (ok_La_law (L := L) (xs := xs)) 1 (1575, [(0, .ref 1000), (1, .ref 0), (2, .ref 35), (3, .ref 48), (4, .int (nI i))], [.ref 35, .long y], q, _, _) rfl ?_
  refine J.callV (rest := [.long y]) s_La_law_1575 35 [] 10 fs _ rfl rfl rfl h35 (Nat.le_of_ble_eq_true rfl) hM2 (Nat.zero_le _) (Nat.zero_le _) (Or.inl (fun v2 q2 h2 => by obtain ⟨-, th, f, hLH⟩ := hB v2 q2 h2; rw [hLH.len, hq])) (fun v2 q2 h2 => ?_)
  obtain ⟨rfl, th, f, hLH⟩ := hB v2 q2 h2
  refine J.gp (ok_La_law (L := L) (xs := xs)) 1 (1579, [(0, .ref 1000), (1, .ref 0), (2, .ref 35), (3, .ref 48), (4, .int (nI i))], [.int (lg_cmp y y)], q2, _, _) rfl ?_
  refine J.ifT (ok_La_law (L := L) (xs := xs)) (fun x => x = 0) 1584 1582 rfl (cmp_eq.mpr rfl) ?_
  exact K _ _ _ hLH

theorem lc_meanGain {L i : Nat} {xs : Nat → Int32} {hp : aH} {kc kn : Nat} {O : Option Value → aH → Prop} (hw : Wd hp) (hc : CaseDD M_F_meanGain M_Mo_meanGain hp) (K : ∀ th f q, LH th f q → JR (M_La_law L xs) (some (L, xs)) (1584, [(0, .ref 1000), (1, .ref 0), (2, .ref 35), (3, .ref 48), (4, .int (nI i))], [], q, kc, kn) O) : JR (M_La_law L xs) (some (L, xs)) (1529, [(0, .ref 1000), (1, .ref 0), (2, .ref 35), (3, .ref 48), (4, .int (nI i))], [], hp, kc, kn) O := by
  obtain ⟨Oa, hM, hA⟩ := hc
  obtain ⟨hw1, ⟨fs0, h0⟩, -⟩ := hw
  refine J.gp (ok_La_law (L := L) (xs := xs)) 1 (1530, [(0, .ref 1000), (1, .ref 0), (2, .ref 35), (3, .ref 48), (4, .int (nI i))], [.ref 0], hp, _, _) rfl ?_
  refine J.callV (rest := []) s_La_law_1530 0 [] 9 fs0 _ rfl rfl rfl h0 (Nat.le_of_ble_eq_true rfl) hM (Nat.zero_le _) (Nat.zero_le _) (Or.inl (fun v q h => by rw [(hA v q h).1.1, hw1])) (fun v q h => ?_)
  obtain ⟨⟨hq, -, fs, h35⟩, y, rfl, O2, hM2, hB⟩ := hA v q h
  refine J.gp (ok_La_law (L := L) (xs := xs)) 2 (1536, [(0, .ref 1000), (1, .ref 0), (2, .ref 35), (3, .ref 48), (4, .int (nI i)), (5, .double y)], [.ref 35], q, _, _) rfl ?_
  refine J.callV (rest := []) s_La_law_1536 35 [] 10 fs _ rfl rfl rfl h35 (Nat.le_of_ble_eq_true rfl) hM2 (Nat.zero_le _) (Nat.zero_le _) (Or.inl (fun v2 q2 h2 => by obtain ⟨-, th, f, hLH⟩ := hB v2 q2 h2; rw [hLH.len, hq])) (fun v2 q2 h2 => ?_)
  obtain ⟨rfl, th, f, hLH⟩ := hB v2 q2 h2
  refine J.gp (ok_La_law (L := L) (xs := xs)) 4 (1546, [(0, .ref 1000), (1, .ref 0), (2, .ref 35), (3, .ref 48), (4, .int (nI i)), (5, .double y), (7, .double y)], [.int (Op.cmpValue (FP.dcmp y y) .l)], q2, _, _) rfl ?_
  refine J.ifB (ok_La_law (L := L) (xs := xs)) (fun x => x = 0) 1567 1549 rfl (fun hc => ?_) (fun hc => ?_)
  · refine J.gp (ok_La_law (L := L) (xs := xs)) 1 (1584, _, [], q2, _, _) rfl ?_
    refine J.lv [0, 1, 2, 3, 4] [(0, .ref 1000), (1, .ref 0), (2, .ref 35), (3, .ref 48), (4, .int (nI i))] rfl ?_
    exact K _ _ _ hLH
  · refine J.gp (ok_La_law (L := L) (xs := xs)) 3 (1554, [(0, .ref 1000), (1, .ref 0), (2, .ref 35), (3, .ref 48), (4, .int (nI i)), (5, .double y), (7, .double y)], [.int (Op.cmpValue (FP.dcmp y y) .l)], q2, _, _) rfl ?_
    refine J.ifF (ok_La_law (L := L) (xs := xs)) (fun x => x = 0) 1565 1557 rfl hc ?_
    refine J.gp (ok_La_law (L := L) (xs := xs)) 3 (1562, [(0, .ref 1000), (1, .ref 0), (2, .ref 35), (3, .ref 48), (4, .int (nI i)), (5, .double y), (7, .double y)], [.int (Op.cmpValue (FP.dcmp y y) .l)], q2, _, _) rfl ?_
    refine J.ifT (ok_La_law (L := L) (xs := xs)) (fun x => ¬ x = 0) 1567 1565 rfl hc ?_
    refine J.gp (ok_La_law (L := L) (xs := xs)) 1 (1584, _, [], q2, _, _) rfl ?_
    refine J.lv [0, 1, 2, 3, 4] [(0, .ref 1000), (1, .ref 0), (2, .ref 35), (3, .ref 48), (4, .int (nI i))] rfl ?_
    exact K _ _ _ hLH

set_option maxRecDepth 100000 in
set_option maxHeartbeats 400000 in
theorem gE {hh : aH} {L i : Nat} {xs : Nat → Int32}  {kc kn : Nat} {O : Option Value → aH → Prop} (hL : L ≤ 2560) (hi : i + 5 ≤ L) (K1 : JR (M_La_law L xs) (some (L, xs)) (23, [(0, .ref 1000), (1, .ref 0), (2, .ref 35), (3, .ref 48), (4, .int (nI (i + 5)))], [], hh, kc, kn) O) : JR (M_La_law L xs) (some (L, xs)) (1584, [(0, .ref 1000), (1, .ref 0), (2, .ref 35), (3, .ref 48), (4, .int (nI i))], [], hh, kc, kn) O := by
  refine J.gp (ok_La_law (L := L) (xs := xs)) 1 (1587, [(0, .ref 1000), (1, .ref 0), (2, .ref 35), (3, .ref 48), (4, .int (nI i + 5))], [], _, _, _) rfl ?_
  rw [show ((nI i + 5) : Int32) = nI (i + 5) from nI_add i 5]
  refine J.gp (ok_La_law (L := L) (xs := xs)) 1 (23, [(0, .ref 1000), (1, .ref 0), (2, .ref 35), (3, .ref 48), (4, .int (nI (i + 5)))], [], _, _, _) rfl ?_
  exact K1

set_option maxRecDepth 100000 in
set_option maxHeartbeats 400000 in
theorem gX {hh : aH} {L i : Nat} {xs : Nat → Int32}  {kc kn : Nat} {O : Option Value → aH → Prop} (hL : L ≤ 2560) (hi : i ≤ L) (hx : L < i + 5) (K1 : O (some (.int 1)) hh) : JR (M_La_law L xs) (some (L, xs)) (23, [(0, .ref 1000), (1, .ref 0), (2, .ref 35), (3, .ref 48), (4, .int (nI i))], [], hh, kc, kn) O := by
  refine J.gp (ok_La_law (L := L) (xs := xs)) 5 (29, [(0, .ref 1000), (1, .ref 0), (2, .ref 35), (3, .ref 48), (4, .int (nI i))], [.int (nI L - 5), .int (nI i)], _, _, _) rfl ?_
  refine J.icT (ok_La_law (L := L) (xs := xs)) (fun x y => y < x) 1590 32 rfl ((subL hL (by omega)).mpr hx) ?_
  refine J.gp (ok_La_law (L := L) (xs := xs)) 1 (1591, [(0, .ref 1000), (1, .ref 0), (2, .ref 35), (3, .ref 48), (4, .int (nI i))], [.int 1], _, _, _) rfl ?_
  refine JR.iret .boolean (show decode code 1591 = .ok (.ireturn, 1) from by decide +kernel) rfl (by decide) ?_
  exact K1

set_option maxRecDepth 100000 in
set_option maxHeartbeats 400000 in
theorem gS_0 {hh : aH} {L i : Nat} {xs : Nat → Int32}  {kc kn : Nat} {O : Option Value → aH → Prop} (hL : L ≤ 2560) (hi : i + 5 ≤ L) (hc : xs i &&& 31 = nI 0) (K1 : JR (M_La_law L xs) (some (L, xs)) (152, [(0, .ref 1000), (1, .ref 0), (2, .ref 35), (3, .ref 48), (4, .int (nI i))], [], hh, kc, kn) O) : JR (M_La_law L xs) (some (L, xs)) (23, [(0, .ref 1000), (1, .ref 0), (2, .ref 35), (3, .ref 48), (4, .int (nI i))], [], hh, kc, kn) O := by
  refine J.gp (ok_La_law (L := L) (xs := xs)) 5 (29, [(0, .ref 1000), (1, .ref 0), (2, .ref 35), (3, .ref 48), (4, .int (nI i))], [.int (nI L - 5), .int (nI i)], _, _, _) rfl ?_
  refine J.icF (ok_La_law (L := L) (xs := xs)) (fun x y => y < x) 1590 32 rfl (fun h => absurd ((subL hL (by omega)).mp h) (by omega)) ?_
  refine J.gp (ok_La_law (L := L) (xs := xs)) 2 (35, [(0, .ref 1000), (1, .ref 0), (2, .ref 35), (3, .ref 48), (4, .int (nI i))], [.int (nI i), .ref 1000], _, _, _) rfl ?_
  refine J.sldB (ok_La_law (L := L) (xs := xs)) 36 i rfl (rfl) (by omega) (by omega) ?_
  refine J.gp (ok_La_law (L := L) (xs := xs)) 2 (39, [(0, .ref 1000), (1, .ref 0), (2, .ref 35), (3, .ref 48), (4, .int (nI i))], [.int ((xs i) &&& 31)], _, _, _) rfl ?_
  refine J.swB (ok_La_law (L := L) (xs := xs)) 0 24 [152, 208, 300, 384, 468, 524, 592, 648, 704, 717, 730, 774, 830, 897, 964, 1055, 1122, 1201, 1257, 1325, 1392, 1405, 1461, 1529, 1570] 1584 152 rfl (swT_at _ _ _ _ hc 152 rfl) ?_
  exact K1

set_option maxRecDepth 100000 in
set_option maxHeartbeats 400000 in
theorem gS_1 {hh : aH} {L i : Nat} {xs : Nat → Int32}  {kc kn : Nat} {O : Option Value → aH → Prop} (hL : L ≤ 2560) (hi : i + 5 ≤ L) (hc : xs i &&& 31 = nI 1) (K1 : JR (M_La_law L xs) (some (L, xs)) (208, [(0, .ref 1000), (1, .ref 0), (2, .ref 35), (3, .ref 48), (4, .int (nI i))], [], hh, kc, kn) O) : JR (M_La_law L xs) (some (L, xs)) (23, [(0, .ref 1000), (1, .ref 0), (2, .ref 35), (3, .ref 48), (4, .int (nI i))], [], hh, kc, kn) O := by
  refine J.gp (ok_La_law (L := L) (xs := xs)) 5 (29, [(0, .ref 1000), (1, .ref 0), (2, .ref 35), (3, .ref 48), (4, .int (nI i))], [.int (nI L - 5), .int (nI i)], _, _, _) rfl ?_
  refine J.icF (ok_La_law (L := L) (xs := xs)) (fun x y => y < x) 1590 32 rfl (fun h => absurd ((subL hL (by omega)).mp h) (by omega)) ?_
  refine J.gp (ok_La_law (L := L) (xs := xs)) 2 (35, [(0, .ref 1000), (1, .ref 0), (2, .ref 35), (3, .ref 48), (4, .int (nI i))], [.int (nI i), .ref 1000], _, _, _) rfl ?_
  refine J.sldB (ok_La_law (L := L) (xs := xs)) 36 i rfl (rfl) (by omega) (by omega) ?_
  refine J.gp (ok_La_law (L := L) (xs := xs)) 2 (39, [(0, .ref 1000), (1, .ref 0), (2, .ref 35), (3, .ref 48), (4, .int (nI i))], [.int ((xs i) &&& 31)], _, _, _) rfl ?_
  refine J.swB (ok_La_law (L := L) (xs := xs)) 0 24 [152, 208, 300, 384, 468, 524, 592, 648, 704, 717, 730, 774, 830, 897, 964, 1055, 1122, 1201, 1257, 1325, 1392, 1405, 1461, 1529, 1570] 1584 208 rfl (swT_at _ _ _ _ hc 208 rfl) ?_
  exact K1

set_option maxRecDepth 100000 in
set_option maxHeartbeats 400000 in
theorem gS_2 {hh : aH} {L i : Nat} {xs : Nat → Int32}  {kc kn : Nat} {O : Option Value → aH → Prop} (hL : L ≤ 2560) (hi : i + 5 ≤ L) (hc : xs i &&& 31 = nI 2) (K1 : JR (M_La_law L xs) (some (L, xs)) (300, [(0, .ref 1000), (1, .ref 0), (2, .ref 35), (3, .ref 48), (4, .int (nI i))], [], hh, kc, kn) O) : JR (M_La_law L xs) (some (L, xs)) (23, [(0, .ref 1000), (1, .ref 0), (2, .ref 35), (3, .ref 48), (4, .int (nI i))], [], hh, kc, kn) O := by
  refine J.gp (ok_La_law (L := L) (xs := xs)) 5 (29, [(0, .ref 1000), (1, .ref 0), (2, .ref 35), (3, .ref 48), (4, .int (nI i))], [.int (nI L - 5), .int (nI i)], _, _, _) rfl ?_
  refine J.icF (ok_La_law (L := L) (xs := xs)) (fun x y => y < x) 1590 32 rfl (fun h => absurd ((subL hL (by omega)).mp h) (by omega)) ?_
  refine J.gp (ok_La_law (L := L) (xs := xs)) 2 (35, [(0, .ref 1000), (1, .ref 0), (2, .ref 35), (3, .ref 48), (4, .int (nI i))], [.int (nI i), .ref 1000], _, _, _) rfl ?_
  refine J.sldB (ok_La_law (L := L) (xs := xs)) 36 i rfl (rfl) (by omega) (by omega) ?_
  refine J.gp (ok_La_law (L := L) (xs := xs)) 2 (39, [(0, .ref 1000), (1, .ref 0), (2, .ref 35), (3, .ref 48), (4, .int (nI i))], [.int ((xs i) &&& 31)], _, _, _) rfl ?_
  refine J.swB (ok_La_law (L := L) (xs := xs)) 0 24 [152, 208, 300, 384, 468, 524, 592, 648, 704, 717, 730, 774, 830, 897, 964, 1055, 1122, 1201, 1257, 1325, 1392, 1405, 1461, 1529, 1570] 1584 300 rfl (swT_at _ _ _ _ hc 300 rfl) ?_
  exact K1

set_option maxRecDepth 100000 in
set_option maxHeartbeats 400000 in
theorem gS_3 {hh : aH} {L i : Nat} {xs : Nat → Int32}  {kc kn : Nat} {O : Option Value → aH → Prop} (hL : L ≤ 2560) (hi : i + 5 ≤ L) (hc : xs i &&& 31 = nI 3) (K1 : JR (M_La_law L xs) (some (L, xs)) (384, [(0, .ref 1000), (1, .ref 0), (2, .ref 35), (3, .ref 48), (4, .int (nI i))], [], hh, kc, kn) O) : JR (M_La_law L xs) (some (L, xs)) (23, [(0, .ref 1000), (1, .ref 0), (2, .ref 35), (3, .ref 48), (4, .int (nI i))], [], hh, kc, kn) O := by
  refine J.gp (ok_La_law (L := L) (xs := xs)) 5 (29, [(0, .ref 1000), (1, .ref 0), (2, .ref 35), (3, .ref 48), (4, .int (nI i))], [.int (nI L - 5), .int (nI i)], _, _, _) rfl ?_
  refine J.icF (ok_La_law (L := L) (xs := xs)) (fun x y => y < x) 1590 32 rfl (fun h => absurd ((subL hL (by omega)).mp h) (by omega)) ?_
  refine J.gp (ok_La_law (L := L) (xs := xs)) 2 (35, [(0, .ref 1000), (1, .ref 0), (2, .ref 35), (3, .ref 48), (4, .int (nI i))], [.int (nI i), .ref 1000], _, _, _) rfl ?_
  refine J.sldB (ok_La_law (L := L) (xs := xs)) 36 i rfl (rfl) (by omega) (by omega) ?_
  refine J.gp (ok_La_law (L := L) (xs := xs)) 2 (39, [(0, .ref 1000), (1, .ref 0), (2, .ref 35), (3, .ref 48), (4, .int (nI i))], [.int ((xs i) &&& 31)], _, _, _) rfl ?_
  refine J.swB (ok_La_law (L := L) (xs := xs)) 0 24 [152, 208, 300, 384, 468, 524, 592, 648, 704, 717, 730, 774, 830, 897, 964, 1055, 1122, 1201, 1257, 1325, 1392, 1405, 1461, 1529, 1570] 1584 384 rfl (swT_at _ _ _ _ hc 384 rfl) ?_
  exact K1

set_option maxRecDepth 100000 in
set_option maxHeartbeats 400000 in
theorem gS_4 {hh : aH} {L i : Nat} {xs : Nat → Int32}  {kc kn : Nat} {O : Option Value → aH → Prop} (hL : L ≤ 2560) (hi : i + 5 ≤ L) (hc : xs i &&& 31 = nI 4) (K1 : JR (M_La_law L xs) (some (L, xs)) (468, [(0, .ref 1000), (1, .ref 0), (2, .ref 35), (3, .ref 48), (4, .int (nI i))], [], hh, kc, kn) O) : JR (M_La_law L xs) (some (L, xs)) (23, [(0, .ref 1000), (1, .ref 0), (2, .ref 35), (3, .ref 48), (4, .int (nI i))], [], hh, kc, kn) O := by
  refine J.gp (ok_La_law (L := L) (xs := xs)) 5 (29, [(0, .ref 1000), (1, .ref 0), (2, .ref 35), (3, .ref 48), (4, .int (nI i))], [.int (nI L - 5), .int (nI i)], _, _, _) rfl ?_
  refine J.icF (ok_La_law (L := L) (xs := xs)) (fun x y => y < x) 1590 32 rfl (fun h => absurd ((subL hL (by omega)).mp h) (by omega)) ?_
  refine J.gp (ok_La_law (L := L) (xs := xs)) 2 (35, [(0, .ref 1000), (1, .ref 0), (2, .ref 35), (3, .ref 48), (4, .int (nI i))], [.int (nI i), .ref 1000], _, _, _) rfl ?_
  refine J.sldB (ok_La_law (L := L) (xs := xs)) 36 i rfl (rfl) (by omega) (by omega) ?_
  refine J.gp (ok_La_law (L := L) (xs := xs)) 2 (39, [(0, .ref 1000), (1, .ref 0), (2, .ref 35), (3, .ref 48), (4, .int (nI i))], [.int ((xs i) &&& 31)], _, _, _) rfl ?_
  refine J.swB (ok_La_law (L := L) (xs := xs)) 0 24 [152, 208, 300, 384, 468, 524, 592, 648, 704, 717, 730, 774, 830, 897, 964, 1055, 1122, 1201, 1257, 1325, 1392, 1405, 1461, 1529, 1570] 1584 468 rfl (swT_at _ _ _ _ hc 468 rfl) ?_
  exact K1

set_option maxRecDepth 100000 in
set_option maxHeartbeats 400000 in
theorem gS_5 {hh : aH} {L i : Nat} {xs : Nat → Int32}  {kc kn : Nat} {O : Option Value → aH → Prop} (hL : L ≤ 2560) (hi : i + 5 ≤ L) (hc : xs i &&& 31 = nI 5) (K1 : JR (M_La_law L xs) (some (L, xs)) (524, [(0, .ref 1000), (1, .ref 0), (2, .ref 35), (3, .ref 48), (4, .int (nI i))], [], hh, kc, kn) O) : JR (M_La_law L xs) (some (L, xs)) (23, [(0, .ref 1000), (1, .ref 0), (2, .ref 35), (3, .ref 48), (4, .int (nI i))], [], hh, kc, kn) O := by
  refine J.gp (ok_La_law (L := L) (xs := xs)) 5 (29, [(0, .ref 1000), (1, .ref 0), (2, .ref 35), (3, .ref 48), (4, .int (nI i))], [.int (nI L - 5), .int (nI i)], _, _, _) rfl ?_
  refine J.icF (ok_La_law (L := L) (xs := xs)) (fun x y => y < x) 1590 32 rfl (fun h => absurd ((subL hL (by omega)).mp h) (by omega)) ?_
  refine J.gp (ok_La_law (L := L) (xs := xs)) 2 (35, [(0, .ref 1000), (1, .ref 0), (2, .ref 35), (3, .ref 48), (4, .int (nI i))], [.int (nI i), .ref 1000], _, _, _) rfl ?_
  refine J.sldB (ok_La_law (L := L) (xs := xs)) 36 i rfl (rfl) (by omega) (by omega) ?_
  refine J.gp (ok_La_law (L := L) (xs := xs)) 2 (39, [(0, .ref 1000), (1, .ref 0), (2, .ref 35), (3, .ref 48), (4, .int (nI i))], [.int ((xs i) &&& 31)], _, _, _) rfl ?_
  refine J.swB (ok_La_law (L := L) (xs := xs)) 0 24 [152, 208, 300, 384, 468, 524, 592, 648, 704, 717, 730, 774, 830, 897, 964, 1055, 1122, 1201, 1257, 1325, 1392, 1405, 1461, 1529, 1570] 1584 524 rfl (swT_at _ _ _ _ hc 524 rfl) ?_
  exact K1

set_option maxRecDepth 100000 in
set_option maxHeartbeats 400000 in
theorem gS_6 {hh : aH} {L i : Nat} {xs : Nat → Int32}  {kc kn : Nat} {O : Option Value → aH → Prop} (hL : L ≤ 2560) (hi : i + 5 ≤ L) (hc : xs i &&& 31 = nI 6) (K1 : JR (M_La_law L xs) (some (L, xs)) (592, [(0, .ref 1000), (1, .ref 0), (2, .ref 35), (3, .ref 48), (4, .int (nI i))], [], hh, kc, kn) O) : JR (M_La_law L xs) (some (L, xs)) (23, [(0, .ref 1000), (1, .ref 0), (2, .ref 35), (3, .ref 48), (4, .int (nI i))], [], hh, kc, kn) O := by
  refine J.gp (ok_La_law (L := L) (xs := xs)) 5 (29, [(0, .ref 1000), (1, .ref 0), (2, .ref 35), (3, .ref 48), (4, .int (nI i))], [.int (nI L - 5), .int (nI i)], _, _, _) rfl ?_
  refine J.icF (ok_La_law (L := L) (xs := xs)) (fun x y => y < x) 1590 32 rfl (fun h => absurd ((subL hL (by omega)).mp h) (by omega)) ?_
  refine J.gp (ok_La_law (L := L) (xs := xs)) 2 (35, [(0, .ref 1000), (1, .ref 0), (2, .ref 35), (3, .ref 48), (4, .int (nI i))], [.int (nI i), .ref 1000], _, _, _) rfl ?_
  refine J.sldB (ok_La_law (L := L) (xs := xs)) 36 i rfl (rfl) (by omega) (by omega) ?_
  refine J.gp (ok_La_law (L := L) (xs := xs)) 2 (39, [(0, .ref 1000), (1, .ref 0), (2, .ref 35), (3, .ref 48), (4, .int (nI i))], [.int ((xs i) &&& 31)], _, _, _) rfl ?_
  refine J.swB (ok_La_law (L := L) (xs := xs)) 0 24 [152, 208, 300, 384, 468, 524, 592, 648, 704, 717, 730, 774, 830, 897, 964, 1055, 1122, 1201, 1257, 1325, 1392, 1405, 1461, 1529, 1570] 1584 592 rfl (swT_at _ _ _ _ hc 592 rfl) ?_
  exact K1

set_option maxRecDepth 100000 in
set_option maxHeartbeats 400000 in
theorem gS_7 {hh : aH} {L i : Nat} {xs : Nat → Int32}  {kc kn : Nat} {O : Option Value → aH → Prop} (hL : L ≤ 2560) (hi : i + 5 ≤ L) (hc : xs i &&& 31 = nI 7) (K1 : JR (M_La_law L xs) (some (L, xs)) (648, [(0, .ref 1000), (1, .ref 0), (2, .ref 35), (3, .ref 48), (4, .int (nI i))], [], hh, kc, kn) O) : JR (M_La_law L xs) (some (L, xs)) (23, [(0, .ref 1000), (1, .ref 0), (2, .ref 35), (3, .ref 48), (4, .int (nI i))], [], hh, kc, kn) O := by
  refine J.gp (ok_La_law (L := L) (xs := xs)) 5 (29, [(0, .ref 1000), (1, .ref 0), (2, .ref 35), (3, .ref 48), (4, .int (nI i))], [.int (nI L - 5), .int (nI i)], _, _, _) rfl ?_
  refine J.icF (ok_La_law (L := L) (xs := xs)) (fun x y => y < x) 1590 32 rfl (fun h => absurd ((subL hL (by omega)).mp h) (by omega)) ?_
  refine J.gp (ok_La_law (L := L) (xs := xs)) 2 (35, [(0, .ref 1000), (1, .ref 0), (2, .ref 35), (3, .ref 48), (4, .int (nI i))], [.int (nI i), .ref 1000], _, _, _) rfl ?_
  refine J.sldB (ok_La_law (L := L) (xs := xs)) 36 i rfl (rfl) (by omega) (by omega) ?_
  refine J.gp (ok_La_law (L := L) (xs := xs)) 2 (39, [(0, .ref 1000), (1, .ref 0), (2, .ref 35), (3, .ref 48), (4, .int (nI i))], [.int ((xs i) &&& 31)], _, _, _) rfl ?_
  refine J.swB (ok_La_law (L := L) (xs := xs)) 0 24 [152, 208, 300, 384, 468, 524, 592, 648, 704, 717, 730, 774, 830, 897, 964, 1055, 1122, 1201, 1257, 1325, 1392, 1405, 1461, 1529, 1570] 1584 648 rfl (swT_at _ _ _ _ hc 648 rfl) ?_
  exact K1

set_option maxRecDepth 100000 in
set_option maxHeartbeats 400000 in
theorem gS_8 {hh : aH} {L i : Nat} {xs : Nat → Int32}  {kc kn : Nat} {O : Option Value → aH → Prop} (hL : L ≤ 2560) (hi : i + 5 ≤ L) (hc : xs i &&& 31 = nI 8) (K1 : JR (M_La_law L xs) (some (L, xs)) (704, [(0, .ref 1000), (1, .ref 0), (2, .ref 35), (3, .ref 48), (4, .int (nI i))], [], hh, kc, kn) O) : JR (M_La_law L xs) (some (L, xs)) (23, [(0, .ref 1000), (1, .ref 0), (2, .ref 35), (3, .ref 48), (4, .int (nI i))], [], hh, kc, kn) O := by
  refine J.gp (ok_La_law (L := L) (xs := xs)) 5 (29, [(0, .ref 1000), (1, .ref 0), (2, .ref 35), (3, .ref 48), (4, .int (nI i))], [.int (nI L - 5), .int (nI i)], _, _, _) rfl ?_
  refine J.icF (ok_La_law (L := L) (xs := xs)) (fun x y => y < x) 1590 32 rfl (fun h => absurd ((subL hL (by omega)).mp h) (by omega)) ?_
  refine J.gp (ok_La_law (L := L) (xs := xs)) 2 (35, [(0, .ref 1000), (1, .ref 0), (2, .ref 35), (3, .ref 48), (4, .int (nI i))], [.int (nI i), .ref 1000], _, _, _) rfl ?_
  refine J.sldB (ok_La_law (L := L) (xs := xs)) 36 i rfl (rfl) (by omega) (by omega) ?_
  refine J.gp (ok_La_law (L := L) (xs := xs)) 2 (39, [(0, .ref 1000), (1, .ref 0), (2, .ref 35), (3, .ref 48), (4, .int (nI i))], [.int ((xs i) &&& 31)], _, _, _) rfl ?_
  refine J.swB (ok_La_law (L := L) (xs := xs)) 0 24 [152, 208, 300, 384, 468, 524, 592, 648, 704, 717, 730, 774, 830, 897, 964, 1055, 1122, 1201, 1257, 1325, 1392, 1405, 1461, 1529, 1570] 1584 704 rfl (swT_at _ _ _ _ hc 704 rfl) ?_
  exact K1

set_option maxRecDepth 100000 in
set_option maxHeartbeats 400000 in
theorem gS_9 {hh : aH} {L i : Nat} {xs : Nat → Int32}  {kc kn : Nat} {O : Option Value → aH → Prop} (hL : L ≤ 2560) (hi : i + 5 ≤ L) (hc : xs i &&& 31 = nI 9) (K1 : JR (M_La_law L xs) (some (L, xs)) (717, [(0, .ref 1000), (1, .ref 0), (2, .ref 35), (3, .ref 48), (4, .int (nI i))], [], hh, kc, kn) O) : JR (M_La_law L xs) (some (L, xs)) (23, [(0, .ref 1000), (1, .ref 0), (2, .ref 35), (3, .ref 48), (4, .int (nI i))], [], hh, kc, kn) O := by
  refine J.gp (ok_La_law (L := L) (xs := xs)) 5 (29, [(0, .ref 1000), (1, .ref 0), (2, .ref 35), (3, .ref 48), (4, .int (nI i))], [.int (nI L - 5), .int (nI i)], _, _, _) rfl ?_
  refine J.icF (ok_La_law (L := L) (xs := xs)) (fun x y => y < x) 1590 32 rfl (fun h => absurd ((subL hL (by omega)).mp h) (by omega)) ?_
  refine J.gp (ok_La_law (L := L) (xs := xs)) 2 (35, [(0, .ref 1000), (1, .ref 0), (2, .ref 35), (3, .ref 48), (4, .int (nI i))], [.int (nI i), .ref 1000], _, _, _) rfl ?_
  refine J.sldB (ok_La_law (L := L) (xs := xs)) 36 i rfl (rfl) (by omega) (by omega) ?_
  refine J.gp (ok_La_law (L := L) (xs := xs)) 2 (39, [(0, .ref 1000), (1, .ref 0), (2, .ref 35), (3, .ref 48), (4, .int (nI i))], [.int ((xs i) &&& 31)], _, _, _) rfl ?_
  refine J.swB (ok_La_law (L := L) (xs := xs)) 0 24 [152, 208, 300, 384, 468, 524, 592, 648, 704, 717, 730, 774, 830, 897, 964, 1055, 1122, 1201, 1257, 1325, 1392, 1405, 1461, 1529, 1570] 1584 717 rfl (swT_at _ _ _ _ hc 717 rfl) ?_
  exact K1

set_option maxRecDepth 100000 in
set_option maxHeartbeats 400000 in
theorem gS_10 {hh : aH} {L i : Nat} {xs : Nat → Int32}  {kc kn : Nat} {O : Option Value → aH → Prop} (hL : L ≤ 2560) (hi : i + 5 ≤ L) (hc : xs i &&& 31 = nI 10) (K1 : JR (M_La_law L xs) (some (L, xs)) (730, [(0, .ref 1000), (1, .ref 0), (2, .ref 35), (3, .ref 48), (4, .int (nI i))], [], hh, kc, kn) O) : JR (M_La_law L xs) (some (L, xs)) (23, [(0, .ref 1000), (1, .ref 0), (2, .ref 35), (3, .ref 48), (4, .int (nI i))], [], hh, kc, kn) O := by
  refine J.gp (ok_La_law (L := L) (xs := xs)) 5 (29, [(0, .ref 1000), (1, .ref 0), (2, .ref 35), (3, .ref 48), (4, .int (nI i))], [.int (nI L - 5), .int (nI i)], _, _, _) rfl ?_
  refine J.icF (ok_La_law (L := L) (xs := xs)) (fun x y => y < x) 1590 32 rfl (fun h => absurd ((subL hL (by omega)).mp h) (by omega)) ?_
  refine J.gp (ok_La_law (L := L) (xs := xs)) 2 (35, [(0, .ref 1000), (1, .ref 0), (2, .ref 35), (3, .ref 48), (4, .int (nI i))], [.int (nI i), .ref 1000], _, _, _) rfl ?_
  refine J.sldB (ok_La_law (L := L) (xs := xs)) 36 i rfl (rfl) (by omega) (by omega) ?_
  refine J.gp (ok_La_law (L := L) (xs := xs)) 2 (39, [(0, .ref 1000), (1, .ref 0), (2, .ref 35), (3, .ref 48), (4, .int (nI i))], [.int ((xs i) &&& 31)], _, _, _) rfl ?_
  refine J.swB (ok_La_law (L := L) (xs := xs)) 0 24 [152, 208, 300, 384, 468, 524, 592, 648, 704, 717, 730, 774, 830, 897, 964, 1055, 1122, 1201, 1257, 1325, 1392, 1405, 1461, 1529, 1570] 1584 730 rfl (swT_at _ _ _ _ hc 730 rfl) ?_
  exact K1

set_option maxRecDepth 100000 in
set_option maxHeartbeats 400000 in
theorem gS_11 {hh : aH} {L i : Nat} {xs : Nat → Int32}  {kc kn : Nat} {O : Option Value → aH → Prop} (hL : L ≤ 2560) (hi : i + 5 ≤ L) (hc : xs i &&& 31 = nI 11) (K1 : JR (M_La_law L xs) (some (L, xs)) (774, [(0, .ref 1000), (1, .ref 0), (2, .ref 35), (3, .ref 48), (4, .int (nI i))], [], hh, kc, kn) O) : JR (M_La_law L xs) (some (L, xs)) (23, [(0, .ref 1000), (1, .ref 0), (2, .ref 35), (3, .ref 48), (4, .int (nI i))], [], hh, kc, kn) O := by
  refine J.gp (ok_La_law (L := L) (xs := xs)) 5 (29, [(0, .ref 1000), (1, .ref 0), (2, .ref 35), (3, .ref 48), (4, .int (nI i))], [.int (nI L - 5), .int (nI i)], _, _, _) rfl ?_
  refine J.icF (ok_La_law (L := L) (xs := xs)) (fun x y => y < x) 1590 32 rfl (fun h => absurd ((subL hL (by omega)).mp h) (by omega)) ?_
  refine J.gp (ok_La_law (L := L) (xs := xs)) 2 (35, [(0, .ref 1000), (1, .ref 0), (2, .ref 35), (3, .ref 48), (4, .int (nI i))], [.int (nI i), .ref 1000], _, _, _) rfl ?_
  refine J.sldB (ok_La_law (L := L) (xs := xs)) 36 i rfl (rfl) (by omega) (by omega) ?_
  refine J.gp (ok_La_law (L := L) (xs := xs)) 2 (39, [(0, .ref 1000), (1, .ref 0), (2, .ref 35), (3, .ref 48), (4, .int (nI i))], [.int ((xs i) &&& 31)], _, _, _) rfl ?_
  refine J.swB (ok_La_law (L := L) (xs := xs)) 0 24 [152, 208, 300, 384, 468, 524, 592, 648, 704, 717, 730, 774, 830, 897, 964, 1055, 1122, 1201, 1257, 1325, 1392, 1405, 1461, 1529, 1570] 1584 774 rfl (swT_at _ _ _ _ hc 774 rfl) ?_
  exact K1

set_option maxRecDepth 100000 in
set_option maxHeartbeats 400000 in
theorem gS_12 {hh : aH} {L i : Nat} {xs : Nat → Int32}  {kc kn : Nat} {O : Option Value → aH → Prop} (hL : L ≤ 2560) (hi : i + 5 ≤ L) (hc : xs i &&& 31 = nI 12) (K1 : JR (M_La_law L xs) (some (L, xs)) (830, [(0, .ref 1000), (1, .ref 0), (2, .ref 35), (3, .ref 48), (4, .int (nI i))], [], hh, kc, kn) O) : JR (M_La_law L xs) (some (L, xs)) (23, [(0, .ref 1000), (1, .ref 0), (2, .ref 35), (3, .ref 48), (4, .int (nI i))], [], hh, kc, kn) O := by
  refine J.gp (ok_La_law (L := L) (xs := xs)) 5 (29, [(0, .ref 1000), (1, .ref 0), (2, .ref 35), (3, .ref 48), (4, .int (nI i))], [.int (nI L - 5), .int (nI i)], _, _, _) rfl ?_
  refine J.icF (ok_La_law (L := L) (xs := xs)) (fun x y => y < x) 1590 32 rfl (fun h => absurd ((subL hL (by omega)).mp h) (by omega)) ?_
  refine J.gp (ok_La_law (L := L) (xs := xs)) 2 (35, [(0, .ref 1000), (1, .ref 0), (2, .ref 35), (3, .ref 48), (4, .int (nI i))], [.int (nI i), .ref 1000], _, _, _) rfl ?_
  refine J.sldB (ok_La_law (L := L) (xs := xs)) 36 i rfl (rfl) (by omega) (by omega) ?_
  refine J.gp (ok_La_law (L := L) (xs := xs)) 2 (39, [(0, .ref 1000), (1, .ref 0), (2, .ref 35), (3, .ref 48), (4, .int (nI i))], [.int ((xs i) &&& 31)], _, _, _) rfl ?_
  refine J.swB (ok_La_law (L := L) (xs := xs)) 0 24 [152, 208, 300, 384, 468, 524, 592, 648, 704, 717, 730, 774, 830, 897, 964, 1055, 1122, 1201, 1257, 1325, 1392, 1405, 1461, 1529, 1570] 1584 830 rfl (swT_at _ _ _ _ hc 830 rfl) ?_
  exact K1

set_option maxRecDepth 100000 in
set_option maxHeartbeats 400000 in
theorem gS_13 {hh : aH} {L i : Nat} {xs : Nat → Int32}  {kc kn : Nat} {O : Option Value → aH → Prop} (hL : L ≤ 2560) (hi : i + 5 ≤ L) (hc : xs i &&& 31 = nI 13) (K1 : JR (M_La_law L xs) (some (L, xs)) (897, [(0, .ref 1000), (1, .ref 0), (2, .ref 35), (3, .ref 48), (4, .int (nI i))], [], hh, kc, kn) O) : JR (M_La_law L xs) (some (L, xs)) (23, [(0, .ref 1000), (1, .ref 0), (2, .ref 35), (3, .ref 48), (4, .int (nI i))], [], hh, kc, kn) O := by
  refine J.gp (ok_La_law (L := L) (xs := xs)) 5 (29, [(0, .ref 1000), (1, .ref 0), (2, .ref 35), (3, .ref 48), (4, .int (nI i))], [.int (nI L - 5), .int (nI i)], _, _, _) rfl ?_
  refine J.icF (ok_La_law (L := L) (xs := xs)) (fun x y => y < x) 1590 32 rfl (fun h => absurd ((subL hL (by omega)).mp h) (by omega)) ?_
  refine J.gp (ok_La_law (L := L) (xs := xs)) 2 (35, [(0, .ref 1000), (1, .ref 0), (2, .ref 35), (3, .ref 48), (4, .int (nI i))], [.int (nI i), .ref 1000], _, _, _) rfl ?_
  refine J.sldB (ok_La_law (L := L) (xs := xs)) 36 i rfl (rfl) (by omega) (by omega) ?_
  refine J.gp (ok_La_law (L := L) (xs := xs)) 2 (39, [(0, .ref 1000), (1, .ref 0), (2, .ref 35), (3, .ref 48), (4, .int (nI i))], [.int ((xs i) &&& 31)], _, _, _) rfl ?_
  refine J.swB (ok_La_law (L := L) (xs := xs)) 0 24 [152, 208, 300, 384, 468, 524, 592, 648, 704, 717, 730, 774, 830, 897, 964, 1055, 1122, 1201, 1257, 1325, 1392, 1405, 1461, 1529, 1570] 1584 897 rfl (swT_at _ _ _ _ hc 897 rfl) ?_
  exact K1

set_option maxRecDepth 100000 in
set_option maxHeartbeats 400000 in
theorem gS_14 {hh : aH} {L i : Nat} {xs : Nat → Int32}  {kc kn : Nat} {O : Option Value → aH → Prop} (hL : L ≤ 2560) (hi : i + 5 ≤ L) (hc : xs i &&& 31 = nI 14) (K1 : JR (M_La_law L xs) (some (L, xs)) (964, [(0, .ref 1000), (1, .ref 0), (2, .ref 35), (3, .ref 48), (4, .int (nI i))], [], hh, kc, kn) O) : JR (M_La_law L xs) (some (L, xs)) (23, [(0, .ref 1000), (1, .ref 0), (2, .ref 35), (3, .ref 48), (4, .int (nI i))], [], hh, kc, kn) O := by
  refine J.gp (ok_La_law (L := L) (xs := xs)) 5 (29, [(0, .ref 1000), (1, .ref 0), (2, .ref 35), (3, .ref 48), (4, .int (nI i))], [.int (nI L - 5), .int (nI i)], _, _, _) rfl ?_
  refine J.icF (ok_La_law (L := L) (xs := xs)) (fun x y => y < x) 1590 32 rfl (fun h => absurd ((subL hL (by omega)).mp h) (by omega)) ?_
  refine J.gp (ok_La_law (L := L) (xs := xs)) 2 (35, [(0, .ref 1000), (1, .ref 0), (2, .ref 35), (3, .ref 48), (4, .int (nI i))], [.int (nI i), .ref 1000], _, _, _) rfl ?_
  refine J.sldB (ok_La_law (L := L) (xs := xs)) 36 i rfl (rfl) (by omega) (by omega) ?_
  refine J.gp (ok_La_law (L := L) (xs := xs)) 2 (39, [(0, .ref 1000), (1, .ref 0), (2, .ref 35), (3, .ref 48), (4, .int (nI i))], [.int ((xs i) &&& 31)], _, _, _) rfl ?_
  refine J.swB (ok_La_law (L := L) (xs := xs)) 0 24 [152, 208, 300, 384, 468, 524, 592, 648, 704, 717, 730, 774, 830, 897, 964, 1055, 1122, 1201, 1257, 1325, 1392, 1405, 1461, 1529, 1570] 1584 964 rfl (swT_at _ _ _ _ hc 964 rfl) ?_
  exact K1

set_option maxRecDepth 100000 in
set_option maxHeartbeats 400000 in
theorem gS_15 {hh : aH} {L i : Nat} {xs : Nat → Int32}  {kc kn : Nat} {O : Option Value → aH → Prop} (hL : L ≤ 2560) (hi : i + 5 ≤ L) (hc : xs i &&& 31 = nI 15) (K1 : JR (M_La_law L xs) (some (L, xs)) (1055, [(0, .ref 1000), (1, .ref 0), (2, .ref 35), (3, .ref 48), (4, .int (nI i))], [], hh, kc, kn) O) : JR (M_La_law L xs) (some (L, xs)) (23, [(0, .ref 1000), (1, .ref 0), (2, .ref 35), (3, .ref 48), (4, .int (nI i))], [], hh, kc, kn) O := by
  refine J.gp (ok_La_law (L := L) (xs := xs)) 5 (29, [(0, .ref 1000), (1, .ref 0), (2, .ref 35), (3, .ref 48), (4, .int (nI i))], [.int (nI L - 5), .int (nI i)], _, _, _) rfl ?_
  refine J.icF (ok_La_law (L := L) (xs := xs)) (fun x y => y < x) 1590 32 rfl (fun h => absurd ((subL hL (by omega)).mp h) (by omega)) ?_
  refine J.gp (ok_La_law (L := L) (xs := xs)) 2 (35, [(0, .ref 1000), (1, .ref 0), (2, .ref 35), (3, .ref 48), (4, .int (nI i))], [.int (nI i), .ref 1000], _, _, _) rfl ?_
  refine J.sldB (ok_La_law (L := L) (xs := xs)) 36 i rfl (rfl) (by omega) (by omega) ?_
  refine J.gp (ok_La_law (L := L) (xs := xs)) 2 (39, [(0, .ref 1000), (1, .ref 0), (2, .ref 35), (3, .ref 48), (4, .int (nI i))], [.int ((xs i) &&& 31)], _, _, _) rfl ?_
  refine J.swB (ok_La_law (L := L) (xs := xs)) 0 24 [152, 208, 300, 384, 468, 524, 592, 648, 704, 717, 730, 774, 830, 897, 964, 1055, 1122, 1201, 1257, 1325, 1392, 1405, 1461, 1529, 1570] 1584 1055 rfl (swT_at _ _ _ _ hc 1055 rfl) ?_
  exact K1

set_option maxRecDepth 100000 in
set_option maxHeartbeats 400000 in
theorem gS_16 {hh : aH} {L i : Nat} {xs : Nat → Int32}  {kc kn : Nat} {O : Option Value → aH → Prop} (hL : L ≤ 2560) (hi : i + 5 ≤ L) (hc : xs i &&& 31 = nI 16) (K1 : JR (M_La_law L xs) (some (L, xs)) (1122, [(0, .ref 1000), (1, .ref 0), (2, .ref 35), (3, .ref 48), (4, .int (nI i))], [], hh, kc, kn) O) : JR (M_La_law L xs) (some (L, xs)) (23, [(0, .ref 1000), (1, .ref 0), (2, .ref 35), (3, .ref 48), (4, .int (nI i))], [], hh, kc, kn) O := by
  refine J.gp (ok_La_law (L := L) (xs := xs)) 5 (29, [(0, .ref 1000), (1, .ref 0), (2, .ref 35), (3, .ref 48), (4, .int (nI i))], [.int (nI L - 5), .int (nI i)], _, _, _) rfl ?_
  refine J.icF (ok_La_law (L := L) (xs := xs)) (fun x y => y < x) 1590 32 rfl (fun h => absurd ((subL hL (by omega)).mp h) (by omega)) ?_
  refine J.gp (ok_La_law (L := L) (xs := xs)) 2 (35, [(0, .ref 1000), (1, .ref 0), (2, .ref 35), (3, .ref 48), (4, .int (nI i))], [.int (nI i), .ref 1000], _, _, _) rfl ?_
  refine J.sldB (ok_La_law (L := L) (xs := xs)) 36 i rfl (rfl) (by omega) (by omega) ?_
  refine J.gp (ok_La_law (L := L) (xs := xs)) 2 (39, [(0, .ref 1000), (1, .ref 0), (2, .ref 35), (3, .ref 48), (4, .int (nI i))], [.int ((xs i) &&& 31)], _, _, _) rfl ?_
  refine J.swB (ok_La_law (L := L) (xs := xs)) 0 24 [152, 208, 300, 384, 468, 524, 592, 648, 704, 717, 730, 774, 830, 897, 964, 1055, 1122, 1201, 1257, 1325, 1392, 1405, 1461, 1529, 1570] 1584 1122 rfl (swT_at _ _ _ _ hc 1122 rfl) ?_
  exact K1

set_option maxRecDepth 100000 in
set_option maxHeartbeats 400000 in
theorem gS_17 {hh : aH} {L i : Nat} {xs : Nat → Int32}  {kc kn : Nat} {O : Option Value → aH → Prop} (hL : L ≤ 2560) (hi : i + 5 ≤ L) (hc : xs i &&& 31 = nI 17) (K1 : JR (M_La_law L xs) (some (L, xs)) (1201, [(0, .ref 1000), (1, .ref 0), (2, .ref 35), (3, .ref 48), (4, .int (nI i))], [], hh, kc, kn) O) : JR (M_La_law L xs) (some (L, xs)) (23, [(0, .ref 1000), (1, .ref 0), (2, .ref 35), (3, .ref 48), (4, .int (nI i))], [], hh, kc, kn) O := by
  refine J.gp (ok_La_law (L := L) (xs := xs)) 5 (29, [(0, .ref 1000), (1, .ref 0), (2, .ref 35), (3, .ref 48), (4, .int (nI i))], [.int (nI L - 5), .int (nI i)], _, _, _) rfl ?_
  refine J.icF (ok_La_law (L := L) (xs := xs)) (fun x y => y < x) 1590 32 rfl (fun h => absurd ((subL hL (by omega)).mp h) (by omega)) ?_
  refine J.gp (ok_La_law (L := L) (xs := xs)) 2 (35, [(0, .ref 1000), (1, .ref 0), (2, .ref 35), (3, .ref 48), (4, .int (nI i))], [.int (nI i), .ref 1000], _, _, _) rfl ?_
  refine J.sldB (ok_La_law (L := L) (xs := xs)) 36 i rfl (rfl) (by omega) (by omega) ?_
  refine J.gp (ok_La_law (L := L) (xs := xs)) 2 (39, [(0, .ref 1000), (1, .ref 0), (2, .ref 35), (3, .ref 48), (4, .int (nI i))], [.int ((xs i) &&& 31)], _, _, _) rfl ?_
  refine J.swB (ok_La_law (L := L) (xs := xs)) 0 24 [152, 208, 300, 384, 468, 524, 592, 648, 704, 717, 730, 774, 830, 897, 964, 1055, 1122, 1201, 1257, 1325, 1392, 1405, 1461, 1529, 1570] 1584 1201 rfl (swT_at _ _ _ _ hc 1201 rfl) ?_
  exact K1

set_option maxRecDepth 100000 in
set_option maxHeartbeats 400000 in
theorem gS_18 {hh : aH} {L i : Nat} {xs : Nat → Int32}  {kc kn : Nat} {O : Option Value → aH → Prop} (hL : L ≤ 2560) (hi : i + 5 ≤ L) (hc : xs i &&& 31 = nI 18) (K1 : JR (M_La_law L xs) (some (L, xs)) (1257, [(0, .ref 1000), (1, .ref 0), (2, .ref 35), (3, .ref 48), (4, .int (nI i))], [], hh, kc, kn) O) : JR (M_La_law L xs) (some (L, xs)) (23, [(0, .ref 1000), (1, .ref 0), (2, .ref 35), (3, .ref 48), (4, .int (nI i))], [], hh, kc, kn) O := by
  refine J.gp (ok_La_law (L := L) (xs := xs)) 5 (29, [(0, .ref 1000), (1, .ref 0), (2, .ref 35), (3, .ref 48), (4, .int (nI i))], [.int (nI L - 5), .int (nI i)], _, _, _) rfl ?_
  refine J.icF (ok_La_law (L := L) (xs := xs)) (fun x y => y < x) 1590 32 rfl (fun h => absurd ((subL hL (by omega)).mp h) (by omega)) ?_
  refine J.gp (ok_La_law (L := L) (xs := xs)) 2 (35, [(0, .ref 1000), (1, .ref 0), (2, .ref 35), (3, .ref 48), (4, .int (nI i))], [.int (nI i), .ref 1000], _, _, _) rfl ?_
  refine J.sldB (ok_La_law (L := L) (xs := xs)) 36 i rfl (rfl) (by omega) (by omega) ?_
  refine J.gp (ok_La_law (L := L) (xs := xs)) 2 (39, [(0, .ref 1000), (1, .ref 0), (2, .ref 35), (3, .ref 48), (4, .int (nI i))], [.int ((xs i) &&& 31)], _, _, _) rfl ?_
  refine J.swB (ok_La_law (L := L) (xs := xs)) 0 24 [152, 208, 300, 384, 468, 524, 592, 648, 704, 717, 730, 774, 830, 897, 964, 1055, 1122, 1201, 1257, 1325, 1392, 1405, 1461, 1529, 1570] 1584 1257 rfl (swT_at _ _ _ _ hc 1257 rfl) ?_
  exact K1

set_option maxRecDepth 100000 in
set_option maxHeartbeats 400000 in
theorem gS_19 {hh : aH} {L i : Nat} {xs : Nat → Int32}  {kc kn : Nat} {O : Option Value → aH → Prop} (hL : L ≤ 2560) (hi : i + 5 ≤ L) (hc : xs i &&& 31 = nI 19) (K1 : JR (M_La_law L xs) (some (L, xs)) (1325, [(0, .ref 1000), (1, .ref 0), (2, .ref 35), (3, .ref 48), (4, .int (nI i))], [], hh, kc, kn) O) : JR (M_La_law L xs) (some (L, xs)) (23, [(0, .ref 1000), (1, .ref 0), (2, .ref 35), (3, .ref 48), (4, .int (nI i))], [], hh, kc, kn) O := by
  refine J.gp (ok_La_law (L := L) (xs := xs)) 5 (29, [(0, .ref 1000), (1, .ref 0), (2, .ref 35), (3, .ref 48), (4, .int (nI i))], [.int (nI L - 5), .int (nI i)], _, _, _) rfl ?_
  refine J.icF (ok_La_law (L := L) (xs := xs)) (fun x y => y < x) 1590 32 rfl (fun h => absurd ((subL hL (by omega)).mp h) (by omega)) ?_
  refine J.gp (ok_La_law (L := L) (xs := xs)) 2 (35, [(0, .ref 1000), (1, .ref 0), (2, .ref 35), (3, .ref 48), (4, .int (nI i))], [.int (nI i), .ref 1000], _, _, _) rfl ?_
  refine J.sldB (ok_La_law (L := L) (xs := xs)) 36 i rfl (rfl) (by omega) (by omega) ?_
  refine J.gp (ok_La_law (L := L) (xs := xs)) 2 (39, [(0, .ref 1000), (1, .ref 0), (2, .ref 35), (3, .ref 48), (4, .int (nI i))], [.int ((xs i) &&& 31)], _, _, _) rfl ?_
  refine J.swB (ok_La_law (L := L) (xs := xs)) 0 24 [152, 208, 300, 384, 468, 524, 592, 648, 704, 717, 730, 774, 830, 897, 964, 1055, 1122, 1201, 1257, 1325, 1392, 1405, 1461, 1529, 1570] 1584 1325 rfl (swT_at _ _ _ _ hc 1325 rfl) ?_
  exact K1

set_option maxRecDepth 100000 in
set_option maxHeartbeats 400000 in
theorem gS_20 {hh : aH} {L i : Nat} {xs : Nat → Int32}  {kc kn : Nat} {O : Option Value → aH → Prop} (hL : L ≤ 2560) (hi : i + 5 ≤ L) (hc : xs i &&& 31 = nI 20) (K1 : JR (M_La_law L xs) (some (L, xs)) (1392, [(0, .ref 1000), (1, .ref 0), (2, .ref 35), (3, .ref 48), (4, .int (nI i))], [], hh, kc, kn) O) : JR (M_La_law L xs) (some (L, xs)) (23, [(0, .ref 1000), (1, .ref 0), (2, .ref 35), (3, .ref 48), (4, .int (nI i))], [], hh, kc, kn) O := by
  refine J.gp (ok_La_law (L := L) (xs := xs)) 5 (29, [(0, .ref 1000), (1, .ref 0), (2, .ref 35), (3, .ref 48), (4, .int (nI i))], [.int (nI L - 5), .int (nI i)], _, _, _) rfl ?_
  refine J.icF (ok_La_law (L := L) (xs := xs)) (fun x y => y < x) 1590 32 rfl (fun h => absurd ((subL hL (by omega)).mp h) (by omega)) ?_
  refine J.gp (ok_La_law (L := L) (xs := xs)) 2 (35, [(0, .ref 1000), (1, .ref 0), (2, .ref 35), (3, .ref 48), (4, .int (nI i))], [.int (nI i), .ref 1000], _, _, _) rfl ?_
  refine J.sldB (ok_La_law (L := L) (xs := xs)) 36 i rfl (rfl) (by omega) (by omega) ?_
  refine J.gp (ok_La_law (L := L) (xs := xs)) 2 (39, [(0, .ref 1000), (1, .ref 0), (2, .ref 35), (3, .ref 48), (4, .int (nI i))], [.int ((xs i) &&& 31)], _, _, _) rfl ?_
  refine J.swB (ok_La_law (L := L) (xs := xs)) 0 24 [152, 208, 300, 384, 468, 524, 592, 648, 704, 717, 730, 774, 830, 897, 964, 1055, 1122, 1201, 1257, 1325, 1392, 1405, 1461, 1529, 1570] 1584 1392 rfl (swT_at _ _ _ _ hc 1392 rfl) ?_
  exact K1

set_option maxRecDepth 100000 in
set_option maxHeartbeats 400000 in
theorem gS_21 {hh : aH} {L i : Nat} {xs : Nat → Int32}  {kc kn : Nat} {O : Option Value → aH → Prop} (hL : L ≤ 2560) (hi : i + 5 ≤ L) (hc : xs i &&& 31 = nI 21) (K1 : JR (M_La_law L xs) (some (L, xs)) (1405, [(0, .ref 1000), (1, .ref 0), (2, .ref 35), (3, .ref 48), (4, .int (nI i))], [], hh, kc, kn) O) : JR (M_La_law L xs) (some (L, xs)) (23, [(0, .ref 1000), (1, .ref 0), (2, .ref 35), (3, .ref 48), (4, .int (nI i))], [], hh, kc, kn) O := by
  refine J.gp (ok_La_law (L := L) (xs := xs)) 5 (29, [(0, .ref 1000), (1, .ref 0), (2, .ref 35), (3, .ref 48), (4, .int (nI i))], [.int (nI L - 5), .int (nI i)], _, _, _) rfl ?_
  refine J.icF (ok_La_law (L := L) (xs := xs)) (fun x y => y < x) 1590 32 rfl (fun h => absurd ((subL hL (by omega)).mp h) (by omega)) ?_
  refine J.gp (ok_La_law (L := L) (xs := xs)) 2 (35, [(0, .ref 1000), (1, .ref 0), (2, .ref 35), (3, .ref 48), (4, .int (nI i))], [.int (nI i), .ref 1000], _, _, _) rfl ?_
  refine J.sldB (ok_La_law (L := L) (xs := xs)) 36 i rfl (rfl) (by omega) (by omega) ?_
  refine J.gp (ok_La_law (L := L) (xs := xs)) 2 (39, [(0, .ref 1000), (1, .ref 0), (2, .ref 35), (3, .ref 48), (4, .int (nI i))], [.int ((xs i) &&& 31)], _, _, _) rfl ?_
  refine J.swB (ok_La_law (L := L) (xs := xs)) 0 24 [152, 208, 300, 384, 468, 524, 592, 648, 704, 717, 730, 774, 830, 897, 964, 1055, 1122, 1201, 1257, 1325, 1392, 1405, 1461, 1529, 1570] 1584 1405 rfl (swT_at _ _ _ _ hc 1405 rfl) ?_
  exact K1

set_option maxRecDepth 100000 in
set_option maxHeartbeats 400000 in
theorem gS_22 {hh : aH} {L i : Nat} {xs : Nat → Int32}  {kc kn : Nat} {O : Option Value → aH → Prop} (hL : L ≤ 2560) (hi : i + 5 ≤ L) (hc : xs i &&& 31 = nI 22) (K1 : JR (M_La_law L xs) (some (L, xs)) (1461, [(0, .ref 1000), (1, .ref 0), (2, .ref 35), (3, .ref 48), (4, .int (nI i))], [], hh, kc, kn) O) : JR (M_La_law L xs) (some (L, xs)) (23, [(0, .ref 1000), (1, .ref 0), (2, .ref 35), (3, .ref 48), (4, .int (nI i))], [], hh, kc, kn) O := by
  refine J.gp (ok_La_law (L := L) (xs := xs)) 5 (29, [(0, .ref 1000), (1, .ref 0), (2, .ref 35), (3, .ref 48), (4, .int (nI i))], [.int (nI L - 5), .int (nI i)], _, _, _) rfl ?_
  refine J.icF (ok_La_law (L := L) (xs := xs)) (fun x y => y < x) 1590 32 rfl (fun h => absurd ((subL hL (by omega)).mp h) (by omega)) ?_
  refine J.gp (ok_La_law (L := L) (xs := xs)) 2 (35, [(0, .ref 1000), (1, .ref 0), (2, .ref 35), (3, .ref 48), (4, .int (nI i))], [.int (nI i), .ref 1000], _, _, _) rfl ?_
  refine J.sldB (ok_La_law (L := L) (xs := xs)) 36 i rfl (rfl) (by omega) (by omega) ?_
  refine J.gp (ok_La_law (L := L) (xs := xs)) 2 (39, [(0, .ref 1000), (1, .ref 0), (2, .ref 35), (3, .ref 48), (4, .int (nI i))], [.int ((xs i) &&& 31)], _, _, _) rfl ?_
  refine J.swB (ok_La_law (L := L) (xs := xs)) 0 24 [152, 208, 300, 384, 468, 524, 592, 648, 704, 717, 730, 774, 830, 897, 964, 1055, 1122, 1201, 1257, 1325, 1392, 1405, 1461, 1529, 1570] 1584 1461 rfl (swT_at _ _ _ _ hc 1461 rfl) ?_
  exact K1

set_option maxRecDepth 100000 in
set_option maxHeartbeats 400000 in
theorem gS_23 {hh : aH} {L i : Nat} {xs : Nat → Int32}  {kc kn : Nat} {O : Option Value → aH → Prop} (hL : L ≤ 2560) (hi : i + 5 ≤ L) (hc : xs i &&& 31 = nI 23) (K1 : JR (M_La_law L xs) (some (L, xs)) (1529, [(0, .ref 1000), (1, .ref 0), (2, .ref 35), (3, .ref 48), (4, .int (nI i))], [], hh, kc, kn) O) : JR (M_La_law L xs) (some (L, xs)) (23, [(0, .ref 1000), (1, .ref 0), (2, .ref 35), (3, .ref 48), (4, .int (nI i))], [], hh, kc, kn) O := by
  refine J.gp (ok_La_law (L := L) (xs := xs)) 5 (29, [(0, .ref 1000), (1, .ref 0), (2, .ref 35), (3, .ref 48), (4, .int (nI i))], [.int (nI L - 5), .int (nI i)], _, _, _) rfl ?_
  refine J.icF (ok_La_law (L := L) (xs := xs)) (fun x y => y < x) 1590 32 rfl (fun h => absurd ((subL hL (by omega)).mp h) (by omega)) ?_
  refine J.gp (ok_La_law (L := L) (xs := xs)) 2 (35, [(0, .ref 1000), (1, .ref 0), (2, .ref 35), (3, .ref 48), (4, .int (nI i))], [.int (nI i), .ref 1000], _, _, _) rfl ?_
  refine J.sldB (ok_La_law (L := L) (xs := xs)) 36 i rfl (rfl) (by omega) (by omega) ?_
  refine J.gp (ok_La_law (L := L) (xs := xs)) 2 (39, [(0, .ref 1000), (1, .ref 0), (2, .ref 35), (3, .ref 48), (4, .int (nI i))], [.int ((xs i) &&& 31)], _, _, _) rfl ?_
  refine J.swB (ok_La_law (L := L) (xs := xs)) 0 24 [152, 208, 300, 384, 468, 524, 592, 648, 704, 717, 730, 774, 830, 897, 964, 1055, 1122, 1201, 1257, 1325, 1392, 1405, 1461, 1529, 1570] 1584 1529 rfl (swT_at _ _ _ _ hc 1529 rfl) ?_
  exact K1

set_option maxRecDepth 100000 in
set_option maxHeartbeats 400000 in
theorem gS_24 {hh : aH} {L i : Nat} {xs : Nat → Int32}  {kc kn : Nat} {O : Option Value → aH → Prop} (hL : L ≤ 2560) (hi : i + 5 ≤ L) (hc : xs i &&& 31 = nI 24) (K1 : JR (M_La_law L xs) (some (L, xs)) (1570, [(0, .ref 1000), (1, .ref 0), (2, .ref 35), (3, .ref 48), (4, .int (nI i))], [], hh, kc, kn) O) : JR (M_La_law L xs) (some (L, xs)) (23, [(0, .ref 1000), (1, .ref 0), (2, .ref 35), (3, .ref 48), (4, .int (nI i))], [], hh, kc, kn) O := by
  refine J.gp (ok_La_law (L := L) (xs := xs)) 5 (29, [(0, .ref 1000), (1, .ref 0), (2, .ref 35), (3, .ref 48), (4, .int (nI i))], [.int (nI L - 5), .int (nI i)], _, _, _) rfl ?_
  refine J.icF (ok_La_law (L := L) (xs := xs)) (fun x y => y < x) 1590 32 rfl (fun h => absurd ((subL hL (by omega)).mp h) (by omega)) ?_
  refine J.gp (ok_La_law (L := L) (xs := xs)) 2 (35, [(0, .ref 1000), (1, .ref 0), (2, .ref 35), (3, .ref 48), (4, .int (nI i))], [.int (nI i), .ref 1000], _, _, _) rfl ?_
  refine J.sldB (ok_La_law (L := L) (xs := xs)) 36 i rfl (rfl) (by omega) (by omega) ?_
  refine J.gp (ok_La_law (L := L) (xs := xs)) 2 (39, [(0, .ref 1000), (1, .ref 0), (2, .ref 35), (3, .ref 48), (4, .int (nI i))], [.int ((xs i) &&& 31)], _, _, _) rfl ?_
  refine J.swB (ok_La_law (L := L) (xs := xs)) 0 24 [152, 208, 300, 384, 468, 524, 592, 648, 704, 717, 730, 774, 830, 897, 964, 1055, 1122, 1201, 1257, 1325, 1392, 1405, 1461, 1529, 1570] 1584 1570 rfl (swT_at _ _ _ _ hc 1570 rfl) ?_
  exact K1

set_option maxRecDepth 100000 in
set_option maxHeartbeats 400000 in
theorem gS_25 {hh : aH} {L i : Nat} {xs : Nat → Int32}  {kc kn : Nat} {O : Option Value → aH → Prop} (hL : L ≤ 2560) (hi : i + 5 ≤ L) {c : Nat} (hc2 : 25 ≤ c) (hc3 : c < 32) (hc : xs i &&& 31 = nI c) (K1 : JR (M_La_law L xs) (some (L, xs)) (1584, [(0, .ref 1000), (1, .ref 0), (2, .ref 35), (3, .ref 48), (4, .int (nI i))], [], hh, kc, kn) O) : JR (M_La_law L xs) (some (L, xs)) (23, [(0, .ref 1000), (1, .ref 0), (2, .ref 35), (3, .ref 48), (4, .int (nI i))], [], hh, kc, kn) O := by
  refine J.gp (ok_La_law (L := L) (xs := xs)) 5 (29, [(0, .ref 1000), (1, .ref 0), (2, .ref 35), (3, .ref 48), (4, .int (nI i))], [.int (nI L - 5), .int (nI i)], _, _, _) rfl ?_
  refine J.icF (ok_La_law (L := L) (xs := xs)) (fun x y => y < x) 1590 32 rfl (fun h => absurd ((subL hL (by omega)).mp h) (by omega)) ?_
  refine J.gp (ok_La_law (L := L) (xs := xs)) 2 (35, [(0, .ref 1000), (1, .ref 0), (2, .ref 35), (3, .ref 48), (4, .int (nI i))], [.int (nI i), .ref 1000], _, _, _) rfl ?_
  refine J.sldB (ok_La_law (L := L) (xs := xs)) 36 i rfl (rfl) (by omega) (by omega) ?_
  refine J.gp (ok_La_law (L := L) (xs := xs)) 2 (39, [(0, .ref 1000), (1, .ref 0), (2, .ref 35), (3, .ref 48), (4, .int (nI i))], [.int ((xs i) &&& 31)], _, _, _) rfl ?_
  refine J.swB (ok_La_law (L := L) (xs := xs)) 0 24 [152, 208, 300, 384, 468, 524, 592, 648, 704, 717, 730, 774, 830, 897, 964, 1055, 1122, 1201, 1257, 1325, 1392, 1405, 1461, 1529, 1570] 1584 1584 rfl (swT_at _ _ _ _ hc 1584 (swT_out hc2 hc3)) ?_
  exact K1
