/-! THE REFERENCE: its helpers -/

set_option maxRecDepth 100000 in
set_option maxHeartbeats 400000 in
theorem g_Mo_isIn {sc : aScr} {e0 e1 e2 e3 e4 e5 e6 e7 e8 e9 e10 e11 e12 e13 e14 e15 e16 e17 e18 e19 e20 e21 e22 e23 e24 e25 e26 e27 e28 e29 e30 e31 e32 e33 e34 e36 e37 e38 e39 e40 e41 e42 e43 e44 e45 e46 e47 e48 : va_E} {m13 m14 m15 m16 m17 m18 m31 m36 th gn : Int32} {m24 m25 m30 m33 m34 m35 m37 m38 m39 : Int64} {m g w p P i s t bl : Nat} {l : Nat} {kc kn : Nat} {O : Option Value → aH → Prop} (hg : g < 2 ^ 31) (hl : l < 32) (hd : bitN g l < 2) (K1 : (¬ (bitN g l) = 1) → O (some (.int 0)) (HP e0 e1 e2 e3 e4 e5 e6 e7 e8 e9 e10 e11 e12 e13 e14 e15 e16 e17 e18 e19 e20 e21 e22 e23 e24 e25 e26 e27 e28 e29 e30 e31 e32 e33 e34 (MOb th (nI m) (nI g) (nI w) (nI p) (nI P) (nI i) (nI s) gn (nI t) (nI bl) m13 m14 m15 m16 m17 m18 m24 m25 m30 m31 m33 m34 m35 m36 m37 m38 m39) e36 e37 e38 e39 e40 e41 e42 e43 e44 e45 e46 e47 e48)) (K2 : ((bitN g l) = 1) → O (some (.int 1)) (HP e0 e1 e2 e3 e4 e5 e6 e7 e8 e9 e10 e11 e12 e13 e14 e15 e16 e17 e18 e19 e20 e21 e22 e23 e24 e25 e26 e27 e28 e29 e30 e31 e32 e33 e34 (MOb th (nI m) (nI g) (nI w) (nI p) (nI P) (nI i) (nI s) gn (nI t) (nI bl) m13 m14 m15 m16 m17 m18 m24 m25 m30 m31 m33 m34 m35 m36 m37 m38 m39) e36 e37 e38 e39 e40 e41 e42 e43 e44 e45 e46 e47 e48)) : JR M_Mo_isIn sc (0, [(0, .ref 35), (1, .int (nI l))], [], (HP e0 e1 e2 e3 e4 e5 e6 e7 e8 e9 e10 e11 e12 e13 e14 e15 e16 e17 e18 e19 e20 e21 e22 e23 e24 e25 e26 e27 e28 e29 e30 e31 e32 e33 e34 (MOb th (nI m) (nI g) (nI w) (nI p) (nI P) (nI i) (nI s) gn (nI t) (nI bl) m13 m14 m15 m16 m17 m18 m24 m25 m30 m31 m33 m34 m35 m36 m37 m38 m39) e36 e37 e38 e39 e40 e41 e42 e43 e44 e45 e46 e47 e48), kc, kn) O := by
  refine J.gp ok_Mo_isIn 6 (8, [(0, .ref 35), (1, .int (nI l))], [.int ((nI g >>> (nI l &&& 31)) &&& 1)], _, _, _) rfl ?_
  rw [show (((nI g >>> (nI l &&& 31)) &&& 1)) = nI (bitN g l) from by rw [shrN hg hl, and1 (Nat.lt_of_le_of_lt (Nat.div_le_self _ _) (by omega))]; rfl]
  refine J.gp ok_Mo_isIn 1 (9, [(0, .ref 35), (1, .int (nI l))], [.int 1, .int (nI (bitN g l))], _, _, _) rfl ?_
  refine J.icB ok_Mo_isIn (fun x y => ¬ x = y) 16 12 rfl (fun (h0 : ¬ nI (bitN g l) = 1) => ?_) (fun (h0 : ¬ (¬ nI (bitN g l) = 1)) => ?_)
  · have c9 : ¬ (bitN g l) = 1 := fun h9 => h0 ((nI_eq (a := (bitN g l)) (b := 1) (by omega) (by omega)).mpr h9)
    refine J.gp ok_Mo_isIn 1 (17, [(0, .ref 35), (1, .int (nI l))], [.int 0], _, _, _) rfl ?_
    refine JR.iret .boolean (by decide +kernel) rfl (by decide) ?_
    exact K1 c9
  · have c9 : (bitN g l) = 1 := (nI_eq (a := (bitN g l)) (b := 1) (by omega) (by omega)).mp (Classical.byContradiction h0)
    refine J.gp ok_Mo_isIn 2 (17, [(0, .ref 35), (1, .int (nI l))], [.int 1], _, _, _) rfl ?_
    refine JR.iret .boolean (by decide +kernel) rfl (by decide) ?_
    exact K2 c9

theorem c_Mo_isIn {e0 e1 e2 e3 e4 e5 e6 e7 e8 e9 e10 e11 e12 e13 e14 e15 e16 e17 e18 e19 e20 e21 e22 e23 e24 e25 e26 e27 e28 e29 e30 e31 e32 e33 e34 e36 e37 e38 e39 e40 e41 e42 e43 e44 e45 e46 e47 e48 : va_E} {m13 m14 m15 m16 m17 m18 m31 m36 th gn : Int32} {m24 m25 m30 m33 m34 m35 m37 m38 m39 : Int64} {m g w p P i s t bl : Nat} {l : Nat} (hg : g < 8) (hl : l < 3) : JE M_Mo_isIn [.ref 35, .int (nI l)] (HP e0 e1 e2 e3 e4 e5 e6 e7 e8 e9 e10 e11 e12 e13 e14 e15 e16 e17 e18 e19 e20 e21 e22 e23 e24 e25 e26 e27 e28 e29 e30 e31 e32 e33 e34 (MOb th (nI m) (nI g) (nI w) (nI p) (nI P) (nI i) (nI s) gn (nI t) (nI bl) m13 m14 m15 m16 m17 m18 m24 m25 m30 m31 m33 m34 m35 m36 m37 m38 m39) e36 e37 e38 e39 e40 e41 e42 e43 e44 e45 e46 e47 e48) (some (.int (nI (bitN g l)))) (HP e0 e1 e2 e3 e4 e5 e6 e7 e8 e9 e10 e11 e12 e13 e14 e15 e16 e17 e18 e19 e20 e21 e22 e23 e24 e25 e26 e27 e28 e29 e30 e31 e32 e33 e34 (MOb th (nI m) (nI g) (nI w) (nI p) (nI P) (nI i) (nI s) gn (nI t) (nI bl) m13 m14 m15 m16 m17 m18 m24 m25 m30 m31 m33 m34 m35 m36 m37 m38 m39) e36 e37 e38 e39 e40 e41 e42 e43 e44 e45 e46 e47 e48) := by
  have h := bitN_lt g l
  refine JM.of (by decide +kernel) rfl (Nat.le_of_ble_eq_true rfl) (g_Mo_isIn (by omega) (by omega) h (fun c => ⟨?_, rfl⟩) (fun c => ⟨?_, rfl⟩))
  · rw [show bitN g l = 0 by omega]; rfl
  · rw [c]; rfl

theorem bit_raw {x q : Nat} (hx : x < 2 ^ 31) (hq : q < 32) : (nI x >>> (nI q &&& 31)) &&& 1 = nI (bitN x q) := by
  rw [shrN hx hq, and1 (Nat.lt_of_le_of_lt (Nat.div_le_self _ _) (by omega))]
  rfl

set_option maxRecDepth 100000 in
set_option maxHeartbeats 400000 in
theorem g_Mo_back {sc : aScr} {e0 e1 e2 e3 e4 e5 e6 e7 e8 e9 e10 e11 e12 e13 e14 e15 e16 e17 e18 e19 e20 e21 e22 e23 e24 e25 e26 e27 e28 e29 e30 e31 e32 e33 e34 e37 e38 e39 e40 e41 e42 e43 e44 e45 e46 e47 e48 : va_E} {m13 m14 m15 m16 m17 m18 m31 m36 th gn : Int32} {m24 m25 m30 m33 m34 m35 m37 m38 m39 : Int64} {m g w p P i s t bl : Nat} {l q : Nat} {B F : Nat → Nat} {b2 : Nat} {kc kn : Nat} {O : Option Value → aH → Prop} (hg : g < 8) (hw : w < 16) (hl : l < 3) (hq : q < 4) (hd : bitN g l < 2) (hd2 : b2 < 2) (hb2 : ((nI w >>> (nI q &&& 31)) &&& 1) = nI b2) (K1 : ((bitN g l) = 0) → O (some (.int 0)) (HP e0 e1 e2 e3 e4 e5 e6 e7 e8 e9 e10 e11 e12 e13 e14 e15 e16 e17 e18 e19 e20 e21 e22 e23 e24 e25 e26 e27 e28 e29 e30 e31 e32 e33 e34 (MOb th (nI m) (nI g) (nI w) (nI p) (nI P) (nI i) (nI s) gn (nI t) (nI bl) m13 m14 m15 m16 m17 m18 m24 m25 m30 m31 m33 m34 m35 m36 m37 m38 m39) (.inl (0, 24, .inl (fun j => nI ((tbF B F) j)))) e37 e38 e39 e40 e41 e42 e43 e44 e45 e46 e47 e48)) (K2 : (¬ (bitN g l) = 0) → (¬ b2 = 0) → O (some (.int 0)) (HP e0 e1 e2 e3 e4 e5 e6 e7 e8 e9 e10 e11 e12 e13 e14 e15 e16 e17 e18 e19 e20 e21 e22 e23 e24 e25 e26 e27 e28 e29 e30 e31 e32 e33 e34 (MOb th (nI m) (nI g) (nI w) (nI p) (nI P) (nI i) (nI s) gn (nI t) (nI bl) m13 m14 m15 m16 m17 m18 m24 m25 m30 m31 m33 m34 m35 m36 m37 m38 m39) (.inl (0, 24, .inl (fun j => nI ((tbF B F) j)))) e37 e38 e39 e40 e41 e42 e43 e44 e45 e46 e47 e48)) (K3 : (¬ (bitN g l) = 0) → (b2 = 0) → O (some (.int (nI ((tbF B F) ((8 * l) + (2 * q)))))) (HP e0 e1 e2 e3 e4 e5 e6 e7 e8 e9 e10 e11 e12 e13 e14 e15 e16 e17 e18 e19 e20 e21 e22 e23 e24 e25 e26 e27 e28 e29 e30 e31 e32 e33 e34 (MOb th (nI m) (nI g) (nI w) (nI p) (nI P) (nI i) (nI s) gn (nI t) (nI bl) m13 m14 m15 m16 m17 m18 m24 m25 m30 m31 m33 m34 m35 m36 m37 m38 m39) (.inl (0, 24, .inl (fun j => nI ((tbF B F) j)))) e37 e38 e39 e40 e41 e42 e43 e44 e45 e46 e47 e48)) : JR M_Mo_back sc (0, [(0, .ref 35), (1, .int (nI l)), (2, .int (nI q))], [], (HP e0 e1 e2 e3 e4 e5 e6 e7 e8 e9 e10 e11 e12 e13 e14 e15 e16 e17 e18 e19 e20 e21 e22 e23 e24 e25 e26 e27 e28 e29 e30 e31 e32 e33 e34 (MOb th (nI m) (nI g) (nI w) (nI p) (nI P) (nI i) (nI s) gn (nI t) (nI bl) m13 m14 m15 m16 m17 m18 m24 m25 m30 m31 m33 m34 m35 m36 m37 m38 m39) (.inl (0, 24, .inl (fun j => nI ((tbF B F) j)))) e37 e38 e39 e40 e41 e42 e43 e44 e45 e46 e47 e48), kc, kn) O := by
  refine J.gp ok_Mo_back 2 (2, [(0, .ref 35), (1, .int (nI l)), (2, .int (nI q))], [.int (nI l), .ref 35], _, _, _) rfl ?_
  refine J.callVE s_Mo_back_2 5 35 [.int (nI l)] 10 (c_Mo_isIn hg (by omega)) rfl rfl rfl rfl rfl (Nat.le_of_ble_eq_true rfl) rfl ?_
  refine J.gp ok_Mo_back 0 (5, [(0, .ref 35), (1, .int (nI l)), (2, .int (nI q))], [.int (nI (bitN g l))], (HP e0 e1 e2 e3 e4 e5 e6 e7 e8 e9 e10 e11 e12 e13 e14 e15 e16 e17 e18 e19 e20 e21 e22 e23 e24 e25 e26 e27 e28 e29 e30 e31 e32 e33 e34 (MOb th (nI m) (nI g) (nI w) (nI p) (nI P) (nI i) (nI s) gn (nI t) (nI bl) m13 m14 m15 m16 m17 m18 m24 m25 m30 m31 m33 m34 m35 m36 m37 m38 m39) (.inl (0, 24, .inl (fun j => nI ((tbF B F) j)))) e37 e38 e39 e40 e41 e42 e43 e44 e45 e46 e47 e48), kc, kn) rfl ?_
  refine J.ifB ok_Mo_back (fun x => x = 0) 35 8 rfl (fun (h0 : nI (bitN g l) = 0) => ?_) (fun (h0 : ¬ (nI (bitN g l) = 0)) => ?_)
  · have c5 : (bitN g l) = 0 := (nI_eq (a := bitN g l) (b := 0) (by omega) (by omega)).mp h0
    refine J.gp ok_Mo_back 1 (36, [(0, .ref 35), (1, .int (nI l)), (2, .int (nI q))], [.int 0], _, _, _) rfl ?_
    refine JR.iret .int (by decide +kernel) rfl (rfl) ?_
    exact K1 c5
  · have c5 : ¬ (bitN g l) = 0 := fun h9 => h0 ((nI_eq (a := bitN g l) (b := 0) (by omega) (by omega)).mpr h9)
    refine J.gp ok_Mo_back 6 (16, [(0, .ref 35), (1, .int (nI l)), (2, .int (nI q))], [.int ((nI w >>> (nI q &&& 31)) &&& 1)], _, _, _) rfl ?_
    rw [show (((nI w >>> (nI q &&& 31)) &&& 1)) = nI b2 from hb2]
    refine J.ifB ok_Mo_back (fun x => ¬ x = 0) 35 19 rfl (fun (h0 : ¬ nI b2 = 0) => ?_) (fun (h0 : ¬ (¬ nI b2 = 0)) => ?_)
    · have c16 : ¬ b2 = 0 := fun h9 => h0 ((nI_eq (a := b2) (b := 0) (by omega) (by omega)).mpr h9)
      refine J.gp ok_Mo_back 1 (36, [(0, .ref 35), (1, .int (nI l)), (2, .int (nI q))], [.int 0], _, _, _) rfl ?_
      refine JR.iret .int (by decide +kernel) rfl (rfl) ?_
      exact K2 c5 c16
    · have c16 : b2 = 0 := (nI_eq (a := b2) (b := 0) (by omega) (by omega)).mp (Classical.byContradiction h0)
      refine J.gp ok_Mo_back 5 (27, [(0, .ref 35), (1, .int (nI l)), (2, .int (nI q))], [.int (8 * nI l), .ref 36], _, _, _) rfl ?_
      rw [show ((8 * nI l) : Int32) = nI (8 * l) from pk_mul 8 l]
      refine J.gp ok_Mo_back 3 (30, [(0, .ref 35), (1, .int (nI l)), (2, .int (nI q))], [.int (2 * nI q), .int (nI (8 * l)), .ref 36], _, _, _) rfl ?_
      rw [show ((2 * nI q) : Int32) = nI (2 * q) from pk_mul 2 q]
      refine J.gp ok_Mo_back 1 (31, [(0, .ref 35), (1, .int (nI l)), (2, .int (nI q))], [.int (nI (8 * l) + nI (2 * q)), .ref 36], _, _, _) rfl ?_
      rw [show ((nI (8 * l) + nI (2 * q)) : Int32) = nI ((8 * l) + (2 * q)) from nI_add (8 * l) (2 * q)]
      refine J.ialdB ok_Mo_back 32 ((8 * l) + (2 * q)) rfl rfl (rfl) (by omega) (by decide) ?_
      refine J.gp ok_Mo_back 0 (32, [(0, .ref 35), (1, .int (nI l)), (2, .int (nI q))], [.int (nI ((tbF B F) ((8 * l) + (2 * q))))], (HP e0 e1 e2 e3 e4 e5 e6 e7 e8 e9 e10 e11 e12 e13 e14 e15 e16 e17 e18 e19 e20 e21 e22 e23 e24 e25 e26 e27 e28 e29 e30 e31 e32 e33 e34 (MOb th (nI m) (nI g) (nI w) (nI p) (nI P) (nI i) (nI s) gn (nI t) (nI bl) m13 m14 m15 m16 m17 m18 m24 m25 m30 m31 m33 m34 m35 m36 m37 m38 m39) (.inl (0, 24, .inl (fun j => nI ((tbF B F) j)))) e37 e38 e39 e40 e41 e42 e43 e44 e45 e46 e47 e48), kc, kn) rfl ?_
      refine J.gp ok_Mo_back 1 (36, [(0, .ref 35), (1, .int (nI l)), (2, .int (nI q))], [.int (nI ((tbF B F) ((8 * l) + (2 * q))))], _, _, _) rfl ?_
      refine JR.iret .int (by decide +kernel) rfl (rfl) ?_
      exact K3 c5 c16

theorem c_Mo_back {e0 e1 e2 e3 e4 e5 e6 e7 e8 e9 e10 e11 e12 e13 e14 e15 e16 e17 e18 e19 e20 e21 e22 e23 e24 e25 e26 e27 e28 e29 e30 e31 e32 e33 e34 e37 e38 e39 e40 e41 e42 e43 e44 e45 e46 e47 e48 : va_E} {m13 m14 m15 m16 m17 m18 m31 m36 th gn : Int32} {m24 m25 m30 m33 m34 m35 m37 m38 m39 : Int64} {m g w p P i s t bl : Nat} {l q : Nat} {B F : Nat → Nat} (hg : g < 8) (hw : w < 16) (hl : l < 3) (hq : q < 4) : JE M_Mo_back [.ref 35, .int (nI l), .int (nI q)] (HP e0 e1 e2 e3 e4 e5 e6 e7 e8 e9 e10 e11 e12 e13 e14 e15 e16 e17 e18 e19 e20 e21 e22 e23 e24 e25 e26 e27 e28 e29 e30 e31 e32 e33 e34 (MOb th (nI m) (nI g) (nI w) (nI p) (nI P) (nI i) (nI s) gn (nI t) (nI bl) m13 m14 m15 m16 m17 m18 m24 m25 m30 m31 m33 m34 m35 m36 m37 m38 m39) (.inl (0, 24, .inl (fun j => nI ((tbF B F) j)))) e37 e38 e39 e40 e41 e42 e43 e44 e45 e46 e47 e48) (some (.int (nI (tB g w B l q)))) (HP e0 e1 e2 e3 e4 e5 e6 e7 e8 e9 e10 e11 e12 e13 e14 e15 e16 e17 e18 e19 e20 e21 e22 e23 e24 e25 e26 e27 e28 e29 e30 e31 e32 e33 e34 (MOb th (nI m) (nI g) (nI w) (nI p) (nI P) (nI i) (nI s) gn (nI t) (nI bl) m13 m14 m15 m16 m17 m18 m24 m25 m30 m31 m33 m34 m35 m36 m37 m38 m39) (.inl (0, 24, .inl (fun j => nI ((tbF B F) j)))) e37 e38 e39 e40 e41 e42 e43 e44 e45 e46 e47 e48) := by
  unfold tB
  have h2 := bitN_lt w q
  refine JM.of (by decide +kernel) rfl (Nat.le_of_ble_eq_true rfl) (g_Mo_back hg hw hl hq (bitN_lt g l) (bitN_lt w q) (bit_raw (by clear h2; omega) (by clear h2; omega)) (fun c => ⟨?_, rfl⟩) (fun c d => ⟨?_, rfl⟩) (fun c d => ⟨?_, rfl⟩))
  · rw [if_pos (Or.inl c)]; rfl
  · rw [if_pos (Or.inr (by clear c; omega))]; rfl
  · rw [if_neg (fun e => e.elim c (fun e2 => absurd (d.symm.trans e2) (by decide))), tb_b]

set_option maxRecDepth 100000 in
set_option maxHeartbeats 400000 in
theorem g_Mo_forward {sc : aScr} {e0 e1 e2 e3 e4 e5 e6 e7 e8 e9 e10 e11 e12 e13 e14 e15 e16 e17 e18 e19 e20 e21 e22 e23 e24 e25 e26 e27 e28 e29 e30 e31 e32 e33 e34 e37 e38 e39 e40 e41 e42 e43 e44 e45 e46 e47 e48 : va_E} {m13 m14 m15 m16 m17 m18 m31 m36 th gn : Int32} {m24 m25 m30 m33 m34 m35 m37 m38 m39 : Int64} {m g w p P i s t bl : Nat} {l q : Nat} {B F : Nat → Nat} {kc kn : Nat} {O : Option Value → aH → Prop} (hg : g < 8) (hl : l < 3) (hq : q < 4) (hd : bitN g l < 2) (K1 : ((bitN g l) = 0) → O (some (.int 0)) (HP e0 e1 e2 e3 e4 e5 e6 e7 e8 e9 e10 e11 e12 e13 e14 e15 e16 e17 e18 e19 e20 e21 e22 e23 e24 e25 e26 e27 e28 e29 e30 e31 e32 e33 e34 (MOb th (nI m) (nI g) (nI w) (nI p) (nI P) (nI i) (nI s) gn (nI t) (nI bl) m13 m14 m15 m16 m17 m18 m24 m25 m30 m31 m33 m34 m35 m36 m37 m38 m39) (.inl (0, 24, .inl (fun j => nI ((tbF B F) j)))) e37 e38 e39 e40 e41 e42 e43 e44 e45 e46 e47 e48)) (K2 : (¬ (bitN g l) = 0) → O (some (.int (nI ((tbF B F) (((8 * l) + (2 * q)) + 1))))) (HP e0 e1 e2 e3 e4 e5 e6 e7 e8 e9 e10 e11 e12 e13 e14 e15 e16 e17 e18 e19 e20 e21 e22 e23 e24 e25 e26 e27 e28 e29 e30 e31 e32 e33 e34 (MOb th (nI m) (nI g) (nI w) (nI p) (nI P) (nI i) (nI s) gn (nI t) (nI bl) m13 m14 m15 m16 m17 m18 m24 m25 m30 m31 m33 m34 m35 m36 m37 m38 m39) (.inl (0, 24, .inl (fun j => nI ((tbF B F) j)))) e37 e38 e39 e40 e41 e42 e43 e44 e45 e46 e47 e48)) : JR M_Mo_forward sc (0, [(0, .ref 35), (1, .int (nI l)), (2, .int (nI q))], [], (HP e0 e1 e2 e3 e4 e5 e6 e7 e8 e9 e10 e11 e12 e13 e14 e15 e16 e17 e18 e19 e20 e21 e22 e23 e24 e25 e26 e27 e28 e29 e30 e31 e32 e33 e34 (MOb th (nI m) (nI g) (nI w) (nI p) (nI P) (nI i) (nI s) gn (nI t) (nI bl) m13 m14 m15 m16 m17 m18 m24 m25 m30 m31 m33 m34 m35 m36 m37 m38 m39) (.inl (0, 24, .inl (fun j => nI ((tbF B F) j)))) e37 e38 e39 e40 e41 e42 e43 e44 e45 e46 e47 e48), kc, kn) O := by
  refine J.gp ok_Mo_forward 2 (2, [(0, .ref 35), (1, .int (nI l)), (2, .int (nI q))], [.int (nI l), .ref 35], _, _, _) rfl ?_
  refine J.callVE s_Mo_forward_2 5 35 [.int (nI l)] 10 (c_Mo_isIn hg (by omega)) rfl rfl rfl rfl rfl (Nat.le_of_ble_eq_true rfl) rfl ?_
  refine J.gp ok_Mo_forward 0 (5, [(0, .ref 35), (1, .int (nI l)), (2, .int (nI q))], [.int (nI (bitN g l))], (HP e0 e1 e2 e3 e4 e5 e6 e7 e8 e9 e10 e11 e12 e13 e14 e15 e16 e17 e18 e19 e20 e21 e22 e23 e24 e25 e26 e27 e28 e29 e30 e31 e32 e33 e34 (MOb th (nI m) (nI g) (nI w) (nI p) (nI P) (nI i) (nI s) gn (nI t) (nI bl) m13 m14 m15 m16 m17 m18 m24 m25 m30 m31 m33 m34 m35 m36 m37 m38 m39) (.inl (0, 24, .inl (fun j => nI ((tbF B F) j)))) e37 e38 e39 e40 e41 e42 e43 e44 e45 e46 e47 e48), kc, kn) rfl ?_
  refine J.ifB ok_Mo_forward (fun x => x = 0) 26 8 rfl (fun (h0 : nI (bitN g l) = 0) => ?_) (fun (h0 : ¬ (nI (bitN g l) = 0)) => ?_)
  · have c5 : (bitN g l) = 0 := (nI_eq (a := bitN g l) (b := 0) (by omega) (by omega)).mp h0
    refine J.gp ok_Mo_forward 1 (27, [(0, .ref 35), (1, .int (nI l)), (2, .int (nI q))], [.int 0], _, _, _) rfl ?_
    refine JR.iret .int (by decide +kernel) rfl (rfl) ?_
    exact K1 c5
  · have c5 : ¬ (bitN g l) = 0 := fun h9 => h0 ((nI_eq (a := bitN g l) (b := 0) (by omega) (by omega)).mpr h9)
    refine J.gp ok_Mo_forward 5 (16, [(0, .ref 35), (1, .int (nI l)), (2, .int (nI q))], [.int (8 * nI l), .ref 36], _, _, _) rfl ?_
    rw [show ((8 * nI l) : Int32) = nI (8 * l) from pk_mul 8 l]
    refine J.gp ok_Mo_forward 3 (19, [(0, .ref 35), (1, .int (nI l)), (2, .int (nI q))], [.int (2 * nI q), .int (nI (8 * l)), .ref 36], _, _, _) rfl ?_
    rw [show ((2 * nI q) : Int32) = nI (2 * q) from pk_mul 2 q]
    refine J.gp ok_Mo_forward 1 (20, [(0, .ref 35), (1, .int (nI l)), (2, .int (nI q))], [.int (nI (8 * l) + nI (2 * q)), .ref 36], _, _, _) rfl ?_
    rw [show ((nI (8 * l) + nI (2 * q)) : Int32) = nI ((8 * l) + (2 * q)) from nI_add (8 * l) (2 * q)]
    refine J.gp ok_Mo_forward 2 (22, [(0, .ref 35), (1, .int (nI l)), (2, .int (nI q))], [.int (nI ((8 * l) + (2 * q)) + 1), .ref 36], _, _, _) rfl ?_
    rw [show ((nI ((8 * l) + (2 * q)) + 1) : Int32) = nI (((8 * l) + (2 * q)) + 1) from nI_add ((8 * l) + (2 * q)) 1]
    refine J.ialdB ok_Mo_forward 23 (((8 * l) + (2 * q)) + 1) rfl rfl (rfl) (by omega) (by decide) ?_
    refine J.gp ok_Mo_forward 0 (23, [(0, .ref 35), (1, .int (nI l)), (2, .int (nI q))], [.int (nI ((tbF B F) (((8 * l) + (2 * q)) + 1)))], (HP e0 e1 e2 e3 e4 e5 e6 e7 e8 e9 e10 e11 e12 e13 e14 e15 e16 e17 e18 e19 e20 e21 e22 e23 e24 e25 e26 e27 e28 e29 e30 e31 e32 e33 e34 (MOb th (nI m) (nI g) (nI w) (nI p) (nI P) (nI i) (nI s) gn (nI t) (nI bl) m13 m14 m15 m16 m17 m18 m24 m25 m30 m31 m33 m34 m35 m36 m37 m38 m39) (.inl (0, 24, .inl (fun j => nI ((tbF B F) j)))) e37 e38 e39 e40 e41 e42 e43 e44 e45 e46 e47 e48), kc, kn) rfl ?_
    refine J.gp ok_Mo_forward 1 (27, [(0, .ref 35), (1, .int (nI l)), (2, .int (nI q))], [.int (nI ((tbF B F) (((8 * l) + (2 * q)) + 1)))], _, _, _) rfl ?_
    refine JR.iret .int (by decide +kernel) rfl (rfl) ?_
    exact K2 c5

theorem c_Mo_forward {e0 e1 e2 e3 e4 e5 e6 e7 e8 e9 e10 e11 e12 e13 e14 e15 e16 e17 e18 e19 e20 e21 e22 e23 e24 e25 e26 e27 e28 e29 e30 e31 e32 e33 e34 e37 e38 e39 e40 e41 e42 e43 e44 e45 e46 e47 e48 : va_E} {m13 m14 m15 m16 m17 m18 m31 m36 th gn : Int32} {m24 m25 m30 m33 m34 m35 m37 m38 m39 : Int64} {m g w p P i s t bl : Nat} {l q : Nat} {B F : Nat → Nat} (hg : g < 8) (hl : l < 3) (hq : q < 4) : JE M_Mo_forward [.ref 35, .int (nI l), .int (nI q)] (HP e0 e1 e2 e3 e4 e5 e6 e7 e8 e9 e10 e11 e12 e13 e14 e15 e16 e17 e18 e19 e20 e21 e22 e23 e24 e25 e26 e27 e28 e29 e30 e31 e32 e33 e34 (MOb th (nI m) (nI g) (nI w) (nI p) (nI P) (nI i) (nI s) gn (nI t) (nI bl) m13 m14 m15 m16 m17 m18 m24 m25 m30 m31 m33 m34 m35 m36 m37 m38 m39) (.inl (0, 24, .inl (fun j => nI ((tbF B F) j)))) e37 e38 e39 e40 e41 e42 e43 e44 e45 e46 e47 e48) (some (.int (nI (tF g F l q)))) (HP e0 e1 e2 e3 e4 e5 e6 e7 e8 e9 e10 e11 e12 e13 e14 e15 e16 e17 e18 e19 e20 e21 e22 e23 e24 e25 e26 e27 e28 e29 e30 e31 e32 e33 e34 (MOb th (nI m) (nI g) (nI w) (nI p) (nI P) (nI i) (nI s) gn (nI t) (nI bl) m13 m14 m15 m16 m17 m18 m24 m25 m30 m31 m33 m34 m35 m36 m37 m38 m39) (.inl (0, 24, .inl (fun j => nI ((tbF B F) j)))) e37 e38 e39 e40 e41 e42 e43 e44 e45 e46 e47 e48) := by
  have h := bitN_lt g l
  unfold tF
  refine JM.of (by decide +kernel) rfl (Nat.le_of_ble_eq_true rfl) (g_Mo_forward hg hl hq h (fun c => ⟨?_, rfl⟩) (fun c => ⟨?_, rfl⟩))
  · rw [if_pos c]; rfl
  · rw [if_neg c, tb_f]

theorem mv_m : ∀ q, q < 4 → ∀ m, m < 5 → 1 ≤ m → nI q + (-1) + nI m = nI (q + m - 1) := by decide +kernel
theorem mv_B : ∀ m, m < 5 → ∀ q, q < m → (q + m - 1) % m = pB m q := by decide
theorem mv_A : ∀ m, m < 5 → ∀ q, q < m → (q + 1 + m) % m = pA m q := by decide
theorem mv_0 : ∀ m, m < 5 → ∀ q, q < m → (q + 0 + m) % m = q := by decide

set_option maxRecDepth 100000 in
set_option maxHeartbeats 400000 in
theorem g_Mo_moved_m {sc : aScr} {e0 e1 e2 e3 e4 e5 e6 e7 e8 e9 e10 e11 e12 e13 e14 e15 e16 e17 e18 e19 e20 e21 e22 e23 e24 e25 e26 e27 e28 e29 e30 e31 e32 e33 e34 e36 e37 e38 e39 e40 e41 e42 e43 e44 e45 e46 e47 e48 : va_E} {m13 m14 m15 m16 m17 m18 m31 m36 th gn : Int32} {m24 m25 m30 m33 m34 m35 m37 m38 m39 : Int64} {m g w p P i s t bl : Nat} {q : Nat} {kc kn : Nat} {O : Option Value → aH → Prop} (hm : 0 < m ∧ m ≤ 4) (hq : q < m) (K1 : O (some (.int (nI ((q + m - 1) % m)))) (HP e0 e1 e2 e3 e4 e5 e6 e7 e8 e9 e10 e11 e12 e13 e14 e15 e16 e17 e18 e19 e20 e21 e22 e23 e24 e25 e26 e27 e28 e29 e30 e31 e32 e33 e34 (MOb th (nI m) (nI g) (nI w) (nI p) (nI P) (nI i) (nI s) gn (nI t) (nI bl) m13 m14 m15 m16 m17 m18 m24 m25 m30 m31 m33 m34 m35 m36 m37 m38 m39) e36 e37 e38 e39 e40 e41 e42 e43 e44 e45 e46 e47 e48)) : JR M_Mo_moved sc (0, [(0, .ref 35), (1, .int (nI q)), (2, .int (-1))], [], (HP e0 e1 e2 e3 e4 e5 e6 e7 e8 e9 e10 e11 e12 e13 e14 e15 e16 e17 e18 e19 e20 e21 e22 e23 e24 e25 e26 e27 e28 e29 e30 e31 e32 e33 e34 (MOb th (nI m) (nI g) (nI w) (nI p) (nI P) (nI i) (nI s) gn (nI t) (nI bl) m13 m14 m15 m16 m17 m18 m24 m25 m30 m31 m33 m34 m35 m36 m37 m38 m39) e36 e37 e38 e39 e40 e41 e42 e43 e44 e45 e46 e47 e48), kc, kn) O := by
  refine J.gp ok_Mo_moved 6 (8, [(0, .ref 35), (1, .int (nI q)), (2, .int (-1))], [.int ((nI q + (-1)) + nI m)], _, _, _) rfl ?_
  rw [show (((nI q + (-1)) + nI m)) = nI (q + m - 1) from mv_m q (by omega) m (by omega) hm.1]
  refine J.gp ok_Mo_moved 2 (12, [(0, .ref 35), (1, .int (nI q)), (2, .int (-1))], [.int (nI m), .int (nI (q + m - 1))], _, _, _) rfl ?_
  refine J.iremB ok_Mo_moved 13 rfl ((by intro e; have := (nI_eq (a := m) (b := 0) (by omega) (by omega)).mp e; omega)) ?_
  rw [show ((nI (q + m - 1) - nI (q + m - 1) / nI m * nI m) : Int32) = nI ((q + m - 1) % m) from pk_rem (a := (q + m - 1)) (d := m) (by omega) (by omega) (by omega)]
  refine JR.iret .int (by decide +kernel) rfl (rfl) ?_
  exact K1

set_option maxRecDepth 100000 in
set_option maxHeartbeats 400000 in
theorem g_Mo_moved_0 {sc : aScr} {e0 e1 e2 e3 e4 e5 e6 e7 e8 e9 e10 e11 e12 e13 e14 e15 e16 e17 e18 e19 e20 e21 e22 e23 e24 e25 e26 e27 e28 e29 e30 e31 e32 e33 e34 e36 e37 e38 e39 e40 e41 e42 e43 e44 e45 e46 e47 e48 : va_E} {m13 m14 m15 m16 m17 m18 m31 m36 th gn : Int32} {m24 m25 m30 m33 m34 m35 m37 m38 m39 : Int64} {m g w p P i s t bl : Nat} {q : Nat} {kc kn : Nat} {O : Option Value → aH → Prop} (hm : 0 < m ∧ m ≤ 4) (hq : q < m) (K1 : O (some (.int (nI (((q + 0) + m) % m)))) (HP e0 e1 e2 e3 e4 e5 e6 e7 e8 e9 e10 e11 e12 e13 e14 e15 e16 e17 e18 e19 e20 e21 e22 e23 e24 e25 e26 e27 e28 e29 e30 e31 e32 e33 e34 (MOb th (nI m) (nI g) (nI w) (nI p) (nI P) (nI i) (nI s) gn (nI t) (nI bl) m13 m14 m15 m16 m17 m18 m24 m25 m30 m31 m33 m34 m35 m36 m37 m38 m39) e36 e37 e38 e39 e40 e41 e42 e43 e44 e45 e46 e47 e48)) : JR M_Mo_moved sc (0, [(0, .ref 35), (1, .int (nI q)), (2, .int 0)], [], (HP e0 e1 e2 e3 e4 e5 e6 e7 e8 e9 e10 e11 e12 e13 e14 e15 e16 e17 e18 e19 e20 e21 e22 e23 e24 e25 e26 e27 e28 e29 e30 e31 e32 e33 e34 (MOb th (nI m) (nI g) (nI w) (nI p) (nI P) (nI i) (nI s) gn (nI t) (nI bl) m13 m14 m15 m16 m17 m18 m24 m25 m30 m31 m33 m34 m35 m36 m37 m38 m39) e36 e37 e38 e39 e40 e41 e42 e43 e44 e45 e46 e47 e48), kc, kn) O := by
  refine J.gp ok_Mo_moved 3 (3, [(0, .ref 35), (1, .int (nI q)), (2, .int 0)], [.int (nI q + 0)], _, _, _) rfl ?_
  rw [show ((nI q + 0) : Int32) = nI (q + 0) from nI_add q 0]
  refine J.gp ok_Mo_moved 3 (8, [(0, .ref 35), (1, .int (nI q)), (2, .int 0)], [.int (nI (q + 0) + nI m)], _, _, _) rfl ?_
  rw [show ((nI (q + 0) + nI m) : Int32) = nI ((q + 0) + m) from nI_add (q + 0) m]
  refine J.gp ok_Mo_moved 2 (12, [(0, .ref 35), (1, .int (nI q)), (2, .int 0)], [.int (nI m), .int (nI ((q + 0) + m))], _, _, _) rfl ?_
  refine J.iremB ok_Mo_moved 13 rfl ((by intro e; have := (nI_eq (a := m) (b := 0) (by omega) (by omega)).mp e; omega)) ?_
  rw [show ((nI ((q + 0) + m) - nI ((q + 0) + m) / nI m * nI m) : Int32) = nI (((q + 0) + m) % m) from pk_rem (a := (q + 0) + m) (d := m) (by omega) (by omega) (by omega)]
  refine JR.iret .int (by decide +kernel) rfl (rfl) ?_
  exact K1

set_option maxRecDepth 100000 in
set_option maxHeartbeats 400000 in
theorem g_Mo_moved_1 {sc : aScr} {e0 e1 e2 e3 e4 e5 e6 e7 e8 e9 e10 e11 e12 e13 e14 e15 e16 e17 e18 e19 e20 e21 e22 e23 e24 e25 e26 e27 e28 e29 e30 e31 e32 e33 e34 e36 e37 e38 e39 e40 e41 e42 e43 e44 e45 e46 e47 e48 : va_E} {m13 m14 m15 m16 m17 m18 m31 m36 th gn : Int32} {m24 m25 m30 m33 m34 m35 m37 m38 m39 : Int64} {m g w p P i s t bl : Nat} {q : Nat} {kc kn : Nat} {O : Option Value → aH → Prop} (hm : 0 < m ∧ m ≤ 4) (hq : q < m) (K1 : O (some (.int (nI (((q + 1) + m) % m)))) (HP e0 e1 e2 e3 e4 e5 e6 e7 e8 e9 e10 e11 e12 e13 e14 e15 e16 e17 e18 e19 e20 e21 e22 e23 e24 e25 e26 e27 e28 e29 e30 e31 e32 e33 e34 (MOb th (nI m) (nI g) (nI w) (nI p) (nI P) (nI i) (nI s) gn (nI t) (nI bl) m13 m14 m15 m16 m17 m18 m24 m25 m30 m31 m33 m34 m35 m36 m37 m38 m39) e36 e37 e38 e39 e40 e41 e42 e43 e44 e45 e46 e47 e48)) : JR M_Mo_moved sc (0, [(0, .ref 35), (1, .int (nI q)), (2, .int 1)], [], (HP e0 e1 e2 e3 e4 e5 e6 e7 e8 e9 e10 e11 e12 e13 e14 e15 e16 e17 e18 e19 e20 e21 e22 e23 e24 e25 e26 e27 e28 e29 e30 e31 e32 e33 e34 (MOb th (nI m) (nI g) (nI w) (nI p) (nI P) (nI i) (nI s) gn (nI t) (nI bl) m13 m14 m15 m16 m17 m18 m24 m25 m30 m31 m33 m34 m35 m36 m37 m38 m39) e36 e37 e38 e39 e40 e41 e42 e43 e44 e45 e46 e47 e48), kc, kn) O := by
  refine J.gp ok_Mo_moved 3 (3, [(0, .ref 35), (1, .int (nI q)), (2, .int 1)], [.int (nI q + 1)], _, _, _) rfl ?_
  rw [show ((nI q + 1) : Int32) = nI (q + 1) from nI_add q 1]
  refine J.gp ok_Mo_moved 3 (8, [(0, .ref 35), (1, .int (nI q)), (2, .int 1)], [.int (nI (q + 1) + nI m)], _, _, _) rfl ?_
  rw [show ((nI (q + 1) + nI m) : Int32) = nI ((q + 1) + m) from nI_add (q + 1) m]
  refine J.gp ok_Mo_moved 2 (12, [(0, .ref 35), (1, .int (nI q)), (2, .int 1)], [.int (nI m), .int (nI ((q + 1) + m))], _, _, _) rfl ?_
  refine J.iremB ok_Mo_moved 13 rfl ((by intro e; have := (nI_eq (a := m) (b := 0) (by omega) (by omega)).mp e; omega)) ?_
  rw [show ((nI ((q + 1) + m) - nI ((q + 1) + m) / nI m * nI m) : Int32) = nI (((q + 1) + m) % m) from pk_rem (a := (q + 1) + m) (d := m) (by omega) (by omega) (by omega)]
  refine JR.iret .int (by decide +kernel) rfl (rfl) ?_
  exact K1

theorem c_Mo_moved_m {e0 e1 e2 e3 e4 e5 e6 e7 e8 e9 e10 e11 e12 e13 e14 e15 e16 e17 e18 e19 e20 e21 e22 e23 e24 e25 e26 e27 e28 e29 e30 e31 e32 e33 e34 e36 e37 e38 e39 e40 e41 e42 e43 e44 e45 e46 e47 e48 : va_E} {m13 m14 m15 m16 m17 m18 m31 m36 th gn : Int32} {m24 m25 m30 m33 m34 m35 m37 m38 m39 : Int64} {m g w p P i s t bl : Nat} {q : Nat} (hm : 0 < m ∧ m ≤ 4) (hq : q < m) : JE M_Mo_moved [.ref 35, .int (nI q), .int (-1)] (HP e0 e1 e2 e3 e4 e5 e6 e7 e8 e9 e10 e11 e12 e13 e14 e15 e16 e17 e18 e19 e20 e21 e22 e23 e24 e25 e26 e27 e28 e29 e30 e31 e32 e33 e34 (MOb th (nI m) (nI g) (nI w) (nI p) (nI P) (nI i) (nI s) gn (nI t) (nI bl) m13 m14 m15 m16 m17 m18 m24 m25 m30 m31 m33 m34 m35 m36 m37 m38 m39) e36 e37 e38 e39 e40 e41 e42 e43 e44 e45 e46 e47 e48) (some (.int (nI (pB m q)))) (HP e0 e1 e2 e3 e4 e5 e6 e7 e8 e9 e10 e11 e12 e13 e14 e15 e16 e17 e18 e19 e20 e21 e22 e23 e24 e25 e26 e27 e28 e29 e30 e31 e32 e33 e34 (MOb th (nI m) (nI g) (nI w) (nI p) (nI P) (nI i) (nI s) gn (nI t) (nI bl) m13 m14 m15 m16 m17 m18 m24 m25 m30 m31 m33 m34 m35 m36 m37 m38 m39) e36 e37 e38 e39 e40 e41 e42 e43 e44 e45 e46 e47 e48) := by
  refine JM.of (by decide +kernel) rfl (Nat.le_of_ble_eq_true rfl) (g_Mo_moved_m hm hq ⟨?_, rfl⟩)
  rw [mv_B m (by omega) q hq]

theorem c_Mo_moved_0 {e0 e1 e2 e3 e4 e5 e6 e7 e8 e9 e10 e11 e12 e13 e14 e15 e16 e17 e18 e19 e20 e21 e22 e23 e24 e25 e26 e27 e28 e29 e30 e31 e32 e33 e34 e36 e37 e38 e39 e40 e41 e42 e43 e44 e45 e46 e47 e48 : va_E} {m13 m14 m15 m16 m17 m18 m31 m36 th gn : Int32} {m24 m25 m30 m33 m34 m35 m37 m38 m39 : Int64} {m g w p P i s t bl : Nat} {q : Nat} (hm : 0 < m ∧ m ≤ 4) (hq : q < m) : JE M_Mo_moved [.ref 35, .int (nI q), .int 0] (HP e0 e1 e2 e3 e4 e5 e6 e7 e8 e9 e10 e11 e12 e13 e14 e15 e16 e17 e18 e19 e20 e21 e22 e23 e24 e25 e26 e27 e28 e29 e30 e31 e32 e33 e34 (MOb th (nI m) (nI g) (nI w) (nI p) (nI P) (nI i) (nI s) gn (nI t) (nI bl) m13 m14 m15 m16 m17 m18 m24 m25 m30 m31 m33 m34 m35 m36 m37 m38 m39) e36 e37 e38 e39 e40 e41 e42 e43 e44 e45 e46 e47 e48) (some (.int (nI q))) (HP e0 e1 e2 e3 e4 e5 e6 e7 e8 e9 e10 e11 e12 e13 e14 e15 e16 e17 e18 e19 e20 e21 e22 e23 e24 e25 e26 e27 e28 e29 e30 e31 e32 e33 e34 (MOb th (nI m) (nI g) (nI w) (nI p) (nI P) (nI i) (nI s) gn (nI t) (nI bl) m13 m14 m15 m16 m17 m18 m24 m25 m30 m31 m33 m34 m35 m36 m37 m38 m39) e36 e37 e38 e39 e40 e41 e42 e43 e44 e45 e46 e47 e48) := by
  refine JM.of (by decide +kernel) rfl (Nat.le_of_ble_eq_true rfl) (g_Mo_moved_0 hm hq ⟨?_, rfl⟩)
  rw [mv_0 m (by omega) q hq]

theorem c_Mo_moved_1 {e0 e1 e2 e3 e4 e5 e6 e7 e8 e9 e10 e11 e12 e13 e14 e15 e16 e17 e18 e19 e20 e21 e22 e23 e24 e25 e26 e27 e28 e29 e30 e31 e32 e33 e34 e36 e37 e38 e39 e40 e41 e42 e43 e44 e45 e46 e47 e48 : va_E} {m13 m14 m15 m16 m17 m18 m31 m36 th gn : Int32} {m24 m25 m30 m33 m34 m35 m37 m38 m39 : Int64} {m g w p P i s t bl : Nat} {q : Nat} (hm : 0 < m ∧ m ≤ 4) (hq : q < m) : JE M_Mo_moved [.ref 35, .int (nI q), .int 1] (HP e0 e1 e2 e3 e4 e5 e6 e7 e8 e9 e10 e11 e12 e13 e14 e15 e16 e17 e18 e19 e20 e21 e22 e23 e24 e25 e26 e27 e28 e29 e30 e31 e32 e33 e34 (MOb th (nI m) (nI g) (nI w) (nI p) (nI P) (nI i) (nI s) gn (nI t) (nI bl) m13 m14 m15 m16 m17 m18 m24 m25 m30 m31 m33 m34 m35 m36 m37 m38 m39) e36 e37 e38 e39 e40 e41 e42 e43 e44 e45 e46 e47 e48) (some (.int (nI (pA m q)))) (HP e0 e1 e2 e3 e4 e5 e6 e7 e8 e9 e10 e11 e12 e13 e14 e15 e16 e17 e18 e19 e20 e21 e22 e23 e24 e25 e26 e27 e28 e29 e30 e31 e32 e33 e34 (MOb th (nI m) (nI g) (nI w) (nI p) (nI P) (nI i) (nI s) gn (nI t) (nI bl) m13 m14 m15 m16 m17 m18 m24 m25 m30 m31 m33 m34 m35 m36 m37 m38 m39) e36 e37 e38 e39 e40 e41 e42 e43 e44 e45 e46 e47 e48) := by
  refine JM.of (by decide +kernel) rfl (Nat.le_of_ble_eq_true rfl) (g_Mo_moved_1 hm hq ⟨?_, rfl⟩)
  rw [mv_A m (by omega) q hq]

set_option maxRecDepth 100000 in
set_option maxHeartbeats 400000 in
theorem g_Mo_told {sc : aScr} {e0 e1 e2 e3 e4 e5 e6 e7 e8 e9 e10 e11 e12 e13 e14 e15 e16 e17 e18 e19 e20 e21 e22 e23 e24 e25 e26 e27 e28 e29 e30 e31 e32 e33 e34 e37 e38 e39 e40 e41 e42 e43 e44 e45 e46 e47 e48 : va_E} {m13 m14 m15 m16 m17 m18 m31 m36 th gn : Int32} {m24 m25 m30 m33 m34 m35 m37 m38 m39 : Int64} {m g w p P i s t bl : Nat} {l q : Nat} {B F : Nat → Nat} {kc kn : Nat} {O : Option Value → aH → Prop} (hl : l < 3) (hq : q < 4) (K1 : O (some (.int (nI ((100 * ((tbF B F) ((8 * l) + (2 * q)))) + ((tbF B F) (((8 * l) + (2 * q)) + 1)))))) (HP e0 e1 e2 e3 e4 e5 e6 e7 e8 e9 e10 e11 e12 e13 e14 e15 e16 e17 e18 e19 e20 e21 e22 e23 e24 e25 e26 e27 e28 e29 e30 e31 e32 e33 e34 (MOb th (nI m) (nI g) (nI w) (nI p) (nI P) (nI i) (nI s) gn (nI t) (nI bl) m13 m14 m15 m16 m17 m18 m24 m25 m30 m31 m33 m34 m35 m36 m37 m38 m39) (.inl (0, 24, .inl (fun j => nI ((tbF B F) j)))) e37 e38 e39 e40 e41 e42 e43 e44 e45 e46 e47 e48)) : JR M_Mo_told sc (0, [(0, .ref 35), (1, .int (nI l)), (2, .int (nI q))], [], (HP e0 e1 e2 e3 e4 e5 e6 e7 e8 e9 e10 e11 e12 e13 e14 e15 e16 e17 e18 e19 e20 e21 e22 e23 e24 e25 e26 e27 e28 e29 e30 e31 e32 e33 e34 (MOb th (nI m) (nI g) (nI w) (nI p) (nI P) (nI i) (nI s) gn (nI t) (nI bl) m13 m14 m15 m16 m17 m18 m24 m25 m30 m31 m33 m34 m35 m36 m37 m38 m39) (.inl (0, 24, .inl (fun j => nI ((tbF B F) j)))) e37 e38 e39 e40 e41 e42 e43 e44 e45 e46 e47 e48), kc, kn) O := by
  refine J.gp ok_Mo_told 6 (10, [(0, .ref 35), (1, .int (nI l)), (2, .int (nI q))], [.int (8 * nI l), .ref 36, .int 100], _, _, _) rfl ?_
  rw [show ((8 * nI l) : Int32) = nI (8 * l) from pk_mul 8 l]
  refine J.gp ok_Mo_told 3 (13, [(0, .ref 35), (1, .int (nI l)), (2, .int (nI q))], [.int (2 * nI q), .int (nI (8 * l)), .ref 36, .int 100], _, _, _) rfl ?_
  rw [show ((2 * nI q) : Int32) = nI (2 * q) from pk_mul 2 q]
  refine J.gp ok_Mo_told 1 (14, [(0, .ref 35), (1, .int (nI l)), (2, .int (nI q))], [.int (nI (8 * l) + nI (2 * q)), .ref 36, .int 100], _, _, _) rfl ?_
  rw [show ((nI (8 * l) + nI (2 * q)) : Int32) = nI ((8 * l) + (2 * q)) from nI_add (8 * l) (2 * q)]
  refine J.ialdB ok_Mo_told 15 ((8 * l) + (2 * q)) rfl rfl (rfl) (by omega) (by decide) ?_
  refine J.gp ok_Mo_told 0 (15, [(0, .ref 35), (1, .int (nI l)), (2, .int (nI q))], [.int (nI ((tbF B F) ((8 * l) + (2 * q)))), .int 100], (HP e0 e1 e2 e3 e4 e5 e6 e7 e8 e9 e10 e11 e12 e13 e14 e15 e16 e17 e18 e19 e20 e21 e22 e23 e24 e25 e26 e27 e28 e29 e30 e31 e32 e33 e34 (MOb th (nI m) (nI g) (nI w) (nI p) (nI P) (nI i) (nI s) gn (nI t) (nI bl) m13 m14 m15 m16 m17 m18 m24 m25 m30 m31 m33 m34 m35 m36 m37 m38 m39) (.inl (0, 24, .inl (fun j => nI ((tbF B F) j)))) e37 e38 e39 e40 e41 e42 e43 e44 e45 e46 e47 e48), kc, kn) rfl ?_
  refine J.gp ok_Mo_told 1 (16, [(0, .ref 35), (1, .int (nI l)), (2, .int (nI q))], [.int (100 * nI ((tbF B F) ((8 * l) + (2 * q))))], _, _, _) rfl ?_
  rw [show ((100 * nI ((tbF B F) ((8 * l) + (2 * q)))) : Int32) = nI (100 * ((tbF B F) ((8 * l) + (2 * q)))) from pk_mul 100 ((tbF B F) ((8 * l) + (2 * q)))]
  refine J.gp ok_Mo_told 5 (24, [(0, .ref 35), (1, .int (nI l)), (2, .int (nI q))], [.int (8 * nI l), .ref 36, .int (nI (100 * ((tbF B F) ((8 * l) + (2 * q)))))], _, _, _) rfl ?_
  rw [show ((8 * nI l) : Int32) = nI (8 * l) from pk_mul 8 l]
  refine J.gp ok_Mo_told 3 (27, [(0, .ref 35), (1, .int (nI l)), (2, .int (nI q))], [.int (2 * nI q), .int (nI (8 * l)), .ref 36, .int (nI (100 * ((tbF B F) ((8 * l) + (2 * q)))))], _, _, _) rfl ?_
  rw [show ((2 * nI q) : Int32) = nI (2 * q) from pk_mul 2 q]
  refine J.gp ok_Mo_told 1 (28, [(0, .ref 35), (1, .int (nI l)), (2, .int (nI q))], [.int (nI (8 * l) + nI (2 * q)), .ref 36, .int (nI (100 * ((tbF B F) ((8 * l) + (2 * q)))))], _, _, _) rfl ?_
  rw [show ((nI (8 * l) + nI (2 * q)) : Int32) = nI ((8 * l) + (2 * q)) from nI_add (8 * l) (2 * q)]
  refine J.gp ok_Mo_told 2 (30, [(0, .ref 35), (1, .int (nI l)), (2, .int (nI q))], [.int (nI ((8 * l) + (2 * q)) + 1), .ref 36, .int (nI (100 * ((tbF B F) ((8 * l) + (2 * q)))))], _, _, _) rfl ?_
  rw [show ((nI ((8 * l) + (2 * q)) + 1) : Int32) = nI (((8 * l) + (2 * q)) + 1) from nI_add ((8 * l) + (2 * q)) 1]
  refine J.ialdB ok_Mo_told 31 (((8 * l) + (2 * q)) + 1) rfl rfl (rfl) (by omega) (by decide) ?_
  refine J.gp ok_Mo_told 0 (31, [(0, .ref 35), (1, .int (nI l)), (2, .int (nI q))], [.int (nI ((tbF B F) (((8 * l) + (2 * q)) + 1))), .int (nI (100 * ((tbF B F) ((8 * l) + (2 * q)))))], (HP e0 e1 e2 e3 e4 e5 e6 e7 e8 e9 e10 e11 e12 e13 e14 e15 e16 e17 e18 e19 e20 e21 e22 e23 e24 e25 e26 e27 e28 e29 e30 e31 e32 e33 e34 (MOb th (nI m) (nI g) (nI w) (nI p) (nI P) (nI i) (nI s) gn (nI t) (nI bl) m13 m14 m15 m16 m17 m18 m24 m25 m30 m31 m33 m34 m35 m36 m37 m38 m39) (.inl (0, 24, .inl (fun j => nI ((tbF B F) j)))) e37 e38 e39 e40 e41 e42 e43 e44 e45 e46 e47 e48), kc, kn) rfl ?_
  refine J.gp ok_Mo_told 1 (32, [(0, .ref 35), (1, .int (nI l)), (2, .int (nI q))], [.int (nI (100 * ((tbF B F) ((8 * l) + (2 * q)))) + nI ((tbF B F) (((8 * l) + (2 * q)) + 1)))], _, _, _) rfl ?_
  rw [show ((nI (100 * ((tbF B F) ((8 * l) + (2 * q)))) + nI ((tbF B F) (((8 * l) + (2 * q)) + 1))) : Int32) = nI ((100 * ((tbF B F) ((8 * l) + (2 * q)))) + ((tbF B F) (((8 * l) + (2 * q)) + 1))) from nI_add (100 * ((tbF B F) ((8 * l) + (2 * q)))) ((tbF B F) (((8 * l) + (2 * q)) + 1))]
  refine JR.iret .int (by decide +kernel) rfl (rfl) ?_
  exact K1

theorem c_Mo_told {e0 e1 e2 e3 e4 e5 e6 e7 e8 e9 e10 e11 e12 e13 e14 e15 e16 e17 e18 e19 e20 e21 e22 e23 e24 e25 e26 e27 e28 e29 e30 e31 e32 e33 e34 e37 e38 e39 e40 e41 e42 e43 e44 e45 e46 e47 e48 : va_E} {m13 m14 m15 m16 m17 m18 m31 m36 th gn : Int32} {m24 m25 m30 m33 m34 m35 m37 m38 m39 : Int64} {m g w p P i s t bl : Nat} {l q : Nat} {B F : Nat → Nat} (hl : l < 3) (hq : q < 4) : JE M_Mo_told [.ref 35, .int (nI l), .int (nI q)] (HP e0 e1 e2 e3 e4 e5 e6 e7 e8 e9 e10 e11 e12 e13 e14 e15 e16 e17 e18 e19 e20 e21 e22 e23 e24 e25 e26 e27 e28 e29 e30 e31 e32 e33 e34 (MOb th (nI m) (nI g) (nI w) (nI p) (nI P) (nI i) (nI s) gn (nI t) (nI bl) m13 m14 m15 m16 m17 m18 m24 m25 m30 m31 m33 m34 m35 m36 m37 m38 m39) (.inl (0, 24, .inl (fun j => nI ((tbF B F) j)))) e37 e38 e39 e40 e41 e42 e43 e44 e45 e46 e47 e48) (some (.int (nI (100 * B (l * 4 + q) + F (l * 4 + q))))) (HP e0 e1 e2 e3 e4 e5 e6 e7 e8 e9 e10 e11 e12 e13 e14 e15 e16 e17 e18 e19 e20 e21 e22 e23 e24 e25 e26 e27 e28 e29 e30 e31 e32 e33 e34 (MOb th (nI m) (nI g) (nI w) (nI p) (nI P) (nI i) (nI s) gn (nI t) (nI bl) m13 m14 m15 m16 m17 m18 m24 m25 m30 m31 m33 m34 m35 m36 m37 m38 m39) (.inl (0, 24, .inl (fun j => nI ((tbF B F) j)))) e37 e38 e39 e40 e41 e42 e43 e44 e45 e46 e47 e48) := JM.of (by decide +kernel) rfl (Nat.le_of_ble_eq_true rfl) (g_Mo_told hl hq (by rw [tb_b, tb_f]; exact ⟨rfl, rfl⟩))

set_option maxRecDepth 100000 in
set_option maxHeartbeats 400000 in
theorem g_Mo_put {sc : aScr} {e0 e1 e2 e3 e4 e5 e6 e7 e8 e9 e10 e11 e12 e13 e14 e15 e16 e17 e18 e19 e20 e21 e22 e23 e24 e25 e26 e27 e28 e29 e30 e31 e32 e33 e34 e37 e38 e39 e40 e41 e42 e43 e44 e45 e46 e47 e48 : va_E} {m13 m14 m15 m16 m17 m18 m31 m36 th gn : Int32} {m24 m25 m30 m33 m34 m35 m37 m38 m39 : Int64} {m g w p P i s t bl : Nat} {l q : Nat} {B F : Nat → Nat} {b f : Nat} {kc kn : Nat} {O : Option Value → aH → Prop} (hl : l < 3) (hq : q < 4) (K1 : O none (HP e0 e1 e2 e3 e4 e5 e6 e7 e8 e9 e10 e11 e12 e13 e14 e15 e16 e17 e18 e19 e20 e21 e22 e23 e24 e25 e26 e27 e28 e29 e30 e31 e32 e33 e34 (MOb th (nI m) (nI g) (nI w) (nI p) (nI P) (nI i) (nI s) gn (nI t) (nI bl) m13 m14 m15 m16 m17 m18 m24 m25 m30 m31 m33 m34 m35 m36 m37 m38 m39) (.inl (0, 24, .inl (fun j => nI ((va_up (va_up (tbF B F) ((8 * l) + (2 * q)) b) (((8 * l) + (2 * q)) + 1) f) j)))) e37 e38 e39 e40 e41 e42 e43 e44 e45 e46 e47 e48)) : JR M_Mo_put sc (0, [(0, .ref 35), (1, .int (nI l)), (2, .int (nI q)), (3, .int (nI b)), (4, .int (nI f))], [], (HP e0 e1 e2 e3 e4 e5 e6 e7 e8 e9 e10 e11 e12 e13 e14 e15 e16 e17 e18 e19 e20 e21 e22 e23 e24 e25 e26 e27 e28 e29 e30 e31 e32 e33 e34 (MOb th (nI m) (nI g) (nI w) (nI p) (nI P) (nI i) (nI s) gn (nI t) (nI bl) m13 m14 m15 m16 m17 m18 m24 m25 m30 m31 m33 m34 m35 m36 m37 m38 m39) (.inl (0, 24, .inl (fun j => nI ((tbF B F) j)))) e37 e38 e39 e40 e41 e42 e43 e44 e45 e46 e47 e48), kc, kn) O := by
  refine J.gp ok_Mo_put 5 (8, [(0, .ref 35), (1, .int (nI l)), (2, .int (nI q)), (3, .int (nI b)), (4, .int (nI f))], [.int (8 * nI l), .ref 36], _, _, _) rfl ?_
  rw [show ((8 * nI l) : Int32) = nI (8 * l) from pk_mul 8 l]
  refine J.gp ok_Mo_put 3 (11, [(0, .ref 35), (1, .int (nI l)), (2, .int (nI q)), (3, .int (nI b)), (4, .int (nI f))], [.int (2 * nI q), .int (nI (8 * l)), .ref 36], _, _, _) rfl ?_
  rw [show ((2 * nI q) : Int32) = nI (2 * q) from pk_mul 2 q]
  refine J.gp ok_Mo_put 1 (12, [(0, .ref 35), (1, .int (nI l)), (2, .int (nI q)), (3, .int (nI b)), (4, .int (nI f))], [.int (nI (8 * l) + nI (2 * q)), .ref 36], _, _, _) rfl ?_
  rw [show ((nI (8 * l) + nI (2 * q)) : Int32) = nI ((8 * l) + (2 * q)) from nI_add (8 * l) (2 * q)]
  refine J.gp ok_Mo_put 1 (13, [(0, .ref 35), (1, .int (nI l)), (2, .int (nI q)), (3, .int (nI b)), (4, .int (nI f))], [.int (nI b), .int (nI ((8 * l) + (2 * q))), .ref 36], _, _, _) rfl ?_
  refine J.iastB ok_Mo_put 14 ((8 * l) + (2 * q)) rfl rfl (rfl) (by omega) (by decide) ?_
  rw [upd_nI]
  refine J.gp ok_Mo_put 0 (14, [(0, .ref 35), (1, .int (nI l)), (2, .int (nI q)), (3, .int (nI b)), (4, .int (nI f))], [], (HP e0 e1 e2 e3 e4 e5 e6 e7 e8 e9 e10 e11 e12 e13 e14 e15 e16 e17 e18 e19 e20 e21 e22 e23 e24 e25 e26 e27 e28 e29 e30 e31 e32 e33 e34 (MOb th (nI m) (nI g) (nI w) (nI p) (nI P) (nI i) (nI s) gn (nI t) (nI bl) m13 m14 m15 m16 m17 m18 m24 m25 m30 m31 m33 m34 m35 m36 m37 m38 m39) (.inl (0, 24, .inl (fun j => nI ((va_up (tbF B F) ((8 * l) + (2 * q)) b) j)))) e37 e38 e39 e40 e41 e42 e43 e44 e45 e46 e47 e48), kc, kn) rfl ?_
  refine J.gp ok_Mo_put 5 (22, [(0, .ref 35), (1, .int (nI l)), (2, .int (nI q)), (3, .int (nI b)), (4, .int (nI f))], [.int (8 * nI l), .ref 36], _, _, _) rfl ?_
  rw [show ((8 * nI l) : Int32) = nI (8 * l) from pk_mul 8 l]
  refine J.gp ok_Mo_put 3 (25, [(0, .ref 35), (1, .int (nI l)), (2, .int (nI q)), (3, .int (nI b)), (4, .int (nI f))], [.int (2 * nI q), .int (nI (8 * l)), .ref 36], _, _, _) rfl ?_
  rw [show ((2 * nI q) : Int32) = nI (2 * q) from pk_mul 2 q]
  refine J.gp ok_Mo_put 1 (26, [(0, .ref 35), (1, .int (nI l)), (2, .int (nI q)), (3, .int (nI b)), (4, .int (nI f))], [.int (nI (8 * l) + nI (2 * q)), .ref 36], _, _, _) rfl ?_
  rw [show ((nI (8 * l) + nI (2 * q)) : Int32) = nI ((8 * l) + (2 * q)) from nI_add (8 * l) (2 * q)]
  refine J.gp ok_Mo_put 2 (28, [(0, .ref 35), (1, .int (nI l)), (2, .int (nI q)), (3, .int (nI b)), (4, .int (nI f))], [.int (nI ((8 * l) + (2 * q)) + 1), .ref 36], _, _, _) rfl ?_
  rw [show ((nI ((8 * l) + (2 * q)) + 1) : Int32) = nI (((8 * l) + (2 * q)) + 1) from nI_add ((8 * l) + (2 * q)) 1]
  refine J.gp ok_Mo_put 1 (30, [(0, .ref 35), (1, .int (nI l)), (2, .int (nI q)), (3, .int (nI b)), (4, .int (nI f))], [.int (nI f), .int (nI (((8 * l) + (2 * q)) + 1)), .ref 36], _, _, _) rfl ?_
  refine J.iastB ok_Mo_put 31 (((8 * l) + (2 * q)) + 1) rfl rfl (rfl) (by omega) (by decide) ?_
  rw [upd_nI]
  refine J.gp ok_Mo_put 0 (31, [(0, .ref 35), (1, .int (nI l)), (2, .int (nI q)), (3, .int (nI b)), (4, .int (nI f))], [], (HP e0 e1 e2 e3 e4 e5 e6 e7 e8 e9 e10 e11 e12 e13 e14 e15 e16 e17 e18 e19 e20 e21 e22 e23 e24 e25 e26 e27 e28 e29 e30 e31 e32 e33 e34 (MOb th (nI m) (nI g) (nI w) (nI p) (nI P) (nI i) (nI s) gn (nI t) (nI bl) m13 m14 m15 m16 m17 m18 m24 m25 m30 m31 m33 m34 m35 m36 m37 m38 m39) (.inl (0, 24, .inl (fun j => nI ((va_up (va_up (tbF B F) ((8 * l) + (2 * q)) b) (((8 * l) + (2 * q)) + 1) f) j)))) e37 e38 e39 e40 e41 e42 e43 e44 e45 e46 e47 e48), kc, kn) rfl ?_
  refine JR.vret (by decide +kernel) rfl ?_
  exact K1

theorem c_Mo_put {e0 e1 e2 e3 e4 e5 e6 e7 e8 e9 e10 e11 e12 e13 e14 e15 e16 e17 e18 e19 e20 e21 e22 e23 e24 e25 e26 e27 e28 e29 e30 e31 e32 e33 e34 e37 e38 e39 e40 e41 e42 e43 e44 e45 e46 e47 e48 : va_E} {m13 m14 m15 m16 m17 m18 m31 m36 th gn : Int32} {m24 m25 m30 m33 m34 m35 m37 m38 m39 : Int64} {m g w p P i s t bl : Nat} {l q : Nat} {B F : Nat → Nat} {b f : Nat} (hl : l < 3) (hq : q < 4) : JE M_Mo_put [.ref 35, .int (nI l), .int (nI q), .int (nI b), .int (nI f)] (HP e0 e1 e2 e3 e4 e5 e6 e7 e8 e9 e10 e11 e12 e13 e14 e15 e16 e17 e18 e19 e20 e21 e22 e23 e24 e25 e26 e27 e28 e29 e30 e31 e32 e33 e34 (MOb th (nI m) (nI g) (nI w) (nI p) (nI P) (nI i) (nI s) gn (nI t) (nI bl) m13 m14 m15 m16 m17 m18 m24 m25 m30 m31 m33 m34 m35 m36 m37 m38 m39) (.inl (0, 24, .inl (fun j => nI ((tbF B F) j)))) e37 e38 e39 e40 e41 e42 e43 e44 e45 e46 e47 e48) none (HP e0 e1 e2 e3 e4 e5 e6 e7 e8 e9 e10 e11 e12 e13 e14 e15 e16 e17 e18 e19 e20 e21 e22 e23 e24 e25 e26 e27 e28 e29 e30 e31 e32 e33 e34 (MOb th (nI m) (nI g) (nI w) (nI p) (nI P) (nI i) (nI s) gn (nI t) (nI bl) m13 m14 m15 m16 m17 m18 m24 m25 m30 m31 m33 m34 m35 m36 m37 m38 m39) (.inl (0, 24, .inl (fun j => nI ((tbF (va_up B (l * 4 + q) b) (va_up F (l * 4 + q) f)) j)))) e37 e38 e39 e40 e41 e42 e43 e44 e45 e46 e47 e48) := by
  refine JM.of (by decide +kernel) rfl (Nat.le_of_ble_eq_true rfl) (g_Mo_put hl hq ?_)
  rw [tb_ub, tb_uf]
  exact ⟨rfl, rfl⟩
