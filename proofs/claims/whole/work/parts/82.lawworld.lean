/-! THE LAW'S WORLD between two calls: what the class and the reference hold, told by one state -/
def ceRe (e : va_E) : Prop := ∃ (q0 : Int32) (x : RF), e = .inr (2, [.int q0, .int x.1, .int x.2.1, .int x.2.2.1, .int x.2.2.2.1, .int x.2.2.2.2.1, .int x.2.2.2.2.2.1, .int x.2.2.2.2.2.2.1, .int x.2.2.2.2.2.2.2])
def ceCy (e : va_E) : Prop := ∃ a b c : Int32, e = .inr (0, [.ref 11, .ref 12, .int a, .int b, .int c])
def ceWa (e : va_E) : Prop := ∃ a b c d f : Int32, e = .inr (7, [.int a, .int b, .int c, .int d, .int f])
def ceSp (e : va_E) : Prop := ∃ (a b c d : Int32) (f g : Int64), e = .inr (6, [.ref 14, .ref 16, .int a, .int b, .int c, .int d, .long f, .long g])
def ceJ (n : Nat) (e : va_E) : Prop := ∃ f : Nat → Int64, e = .inl (1, n, .inr (.inl f))
def ceZ (n : Nat) (e : va_E) : Prop := ∃ f : Nat → Int32, e = .inl (0, n, .inl f)
def ceRd (e : va_E) : Prop := ∃ f : Nat → Nat, e = .inl (0, 300, .inl (fun j => nI (f j)))
def ceRo (e : va_E) : Prop := ∃ (a b c : Int32) (f g : Int64), e = .inr (3, [.ref 19, .ref 21, .ref 23, .ref 25, .ref 27, .ref 29, .ref 31, .int a, .int b, .long f, .long g, .int c])
def ceFr (e : va_E) : Prop := ∃ f g : Int64, e = .inr (1, [.long f, .long g])
def ceSe (e : va_E) : Prop := ∃ a : Int32, e = .inr (5, [.ref 34, .int a])
def ceMo (th : Int32) (m g w p P i s : Nat) (gn : Int32) (t bl : Nat) (e : va_E) : Prop := ∃ (m13 m14 m15 m16 m17 m18 m31 m36 : Int32) (m24 m25 m30 m33 m34 m35 m37 m38 m39 : Int64), e = MOb th (nI m) (nI g) (nI w) (nI p) (nI P) (nI i) (nI s) gn (nI t) (nI bl) m13 m14 m15 m16 m17 m18 m24 m25 m30 m31 m33 m34 m35 m36 m37 m38 m39
/-- what a state keeps to -/
def Ok (m g w P p i s t bl : Nat) (B F T : Nat → Nat) : Prop := (2 ≤ m ∧ m ≤ 4) ∧ g < 8 ∧ w < 16 ∧ isPr P = true ∧ p < m ∧ i < plen P ∧ s < 1000 ∧ t ≤ 1000000 ∧ bl ≤ 60 ∧ (∀ j, B j + F j ≤ 10) ∧ ∀ j, T j < 128
def Lf (e9 e10 e11 e12 e13 e15 e17 e18 e20 e22 e24 e26 e28 e30 e31 e32 e33 e34 : va_E) : Prop := ceRe e9 ∧ ceCy e10 ∧ ceWa e11 ∧ ceWa e12 ∧ ceSp e13 ∧ ceJ 132 e15 ∧ ceJ 132 e17 ∧ ceRo e18 ∧ ceJ 16 e20 ∧ ceJ 4 e22 ∧ ceJ 4 e24 ∧ ceJ 4 e26 ∧ ceJ 9 e28 ∧ ceJ 16 e30 ∧ ceFr e31 ∧ ceFr e32 ∧ ceSe e33 ∧ ceFr e34
def Lm (th : Int32) (m g w p P i s : Nat) (gn : Int32) (t bl : Nat) (e35 e38 e39 e40 e41 e42 e43 e44 e45 e46 e47 : va_E) : Prop := ceMo th m g w p P i s gn t bl e35 ∧ ceRd e38 ∧ ceZ 16000 e39 ∧ ceZ 16000 e40 ∧ ceJ 124 e41 ∧ ceJ 124 e42 ∧ ceJ 16 e43 ∧ ceJ 4 e44 ∧ ceJ 4 e45 ∧ ceJ 4 e46 ∧ ceJ 4 e47
def LH (th : Int32) (f : Nat → Int64) (q : aH) : Prop := ∃ (m g w P p i s t bl : Nat) (gn : Int32) (B F T : Nat → Nat) (e9 e10 e11 e12 e13 e15 e17 e18 e20 e22 e24 e26 e28 e30 e31 e32 e33 e34 e35 e38 e39 e40 e41 e42 e43 e44 e45 e46 e47 : va_E), Ok m g w P p i s t bl B F T ∧ Lf e9 e10 e11 e12 e13 e15 e17 e18 e20 e22 e24 e26 e28 e30 e31 e32 e33 e34 ∧ Lm th m g w p P i s gn t bl e35 e38 e39 e40 e41 e42 e43 e44 e45 e46 e47 ∧ q = (HP (.inr (9, [.ref 1, .ref 6, .int (nI P), .ref 7, .int (nI bl), .ref 9, .ref 10, .ref 13, .ref 18, .ref 32, .ref 33])) (.inr (8, [.ref 2, .ref 4, .int (nI m), .int (nI g), .int (nI w)])) (.inr (4, [.ref 3])) (.inl (1, 12, .inr (.inl (fun j => lN (B j))))) (.inr (4, [.ref 5])) (.inl (1, 12, .inr (.inl (fun j => lN (F j))))) (.inr (7, [.int (nI p), .int (nI i), .int (nI s), .int gn, .int (nI t)])) (.inr (4, [.ref 8])) (.inl (1, 60, .inr (.inl (fun j => lN (T j))))) e9 e10 e11 e12 e13 (.inr (4, [.ref 15])) e15 (.inr (4, [.ref 17])) e17 e18 (.inr (4, [.ref 20])) e20 (.inr (4, [.ref 22])) e22 (.inr (4, [.ref 24])) e24 (.inr (4, [.ref 26])) e26 (.inr (4, [.ref 28])) e28 (.inr (4, [.ref 30])) e30 e31 e32 e33 e34 e35 (.inl (0, 24, .inl (fun j => nI ((tbF B F) j)))) (.inl (0, 60, .inl (fun j => nI (T j)))) e38 e39 e40 e41 e42 e43 e44 e45 e46 e47 (.inl (1, 1, .inr (.inl f))))
theorem LH.mk {th : Int32} {f : Nat → Int64} {m g w P p i s t bl : Nat} {gn : Int32} {B F T : Nat → Nat} {e9 e10 e11 e12 e13 e15 e17 e18 e20 e22 e24 e26 e28 e30 e31 e32 e33 e34 e35 e38 e39 e40 e41 e42 e43 e44 e45 e46 e47 : va_E} (ho : Ok m g w P p i s t bl B F T) (h9 : ceRe e9) (h10 : ceCy e10) (h11 : ceWa e11) (h12 : ceWa e12) (h13 : ceSp e13) (h15 : ceJ 132 e15) (h17 : ceJ 132 e17) (h18 : ceRo e18) (h20 : ceJ 16 e20) (h22 : ceJ 4 e22) (h24 : ceJ 4 e24) (h26 : ceJ 4 e26) (h28 : ceJ 9 e28) (h30 : ceJ 16 e30) (h31 : ceFr e31) (h32 : ceFr e32) (h33 : ceSe e33) (h34 : ceFr e34) (h35 : ceMo th m g w p P i s gn t bl e35) (h38 : ceRd e38) (h39 : ceZ 16000 e39) (h40 : ceZ 16000 e40) (h41 : ceJ 124 e41) (h42 : ceJ 124 e42) (h43 : ceJ 16 e43) (h44 : ceJ 4 e44) (h45 : ceJ 4 e45) (h46 : ceJ 4 e46) (h47 : ceJ 4 e47) : LH th f (HP (.inr (9, [.ref 1, .ref 6, .int (nI P), .ref 7, .int (nI bl), .ref 9, .ref 10, .ref 13, .ref 18, .ref 32, .ref 33])) (.inr (8, [.ref 2, .ref 4, .int (nI m), .int (nI g), .int (nI w)])) (.inr (4, [.ref 3])) (.inl (1, 12, .inr (.inl (fun j => lN (B j))))) (.inr (4, [.ref 5])) (.inl (1, 12, .inr (.inl (fun j => lN (F j))))) (.inr (7, [.int (nI p), .int (nI i), .int (nI s), .int gn, .int (nI t)])) (.inr (4, [.ref 8])) (.inl (1, 60, .inr (.inl (fun j => lN (T j))))) e9 e10 e11 e12 e13 (.inr (4, [.ref 15])) e15 (.inr (4, [.ref 17])) e17 e18 (.inr (4, [.ref 20])) e20 (.inr (4, [.ref 22])) e22 (.inr (4, [.ref 24])) e24 (.inr (4, [.ref 26])) e26 (.inr (4, [.ref 28])) e28 (.inr (4, [.ref 30])) e30 e31 e32 e33 e34 e35 (.inl (0, 24, .inl (fun j => nI ((tbF B F) j)))) (.inl (0, 60, .inl (fun j => nI (T j)))) e38 e39 e40 e41 e42 e43 e44 e45 e46 e47 (.inl (1, 1, .inr (.inl f)))) := ⟨m, g, w, P, p, i, s, t, bl, gn, B, F, T, e9, e10, e11, e12, e13, e15, e17, e18, e20, e22, e24, e26, e28, e30, e31, e32, e33, e34, e35, e38, e39, e40, e41, e42, e43, e44, e45, e46, e47, ho, ⟨h9, h10, h11, h12, h13, h15, h17, h18, h20, h22, h24, h26, h28, h30, h31, h32, h33, h34⟩, ⟨h35, h38, h39, h40, h41, h42, h43, h44, h45, h46, h47⟩, rfl⟩
/-- what the law sees of a call: the class's code of it, the reference's number -/
def Ans (k : Int32) (c : Int64) (q : aH) : Prop := ∃ f, LH k f q ∧ (k = 0 → f 0 = c)
theorem LH.len {th : Int32} {f : Nat → Int64} {q : aH} (h : LH th f q) : q.length = 49 := by
  obtain ⟨m, g, w, P, p, i, s, t, bl, gn, B, F, T, e9, e10, e11, e12, e13, e15, e17, e18, e20, e22, e24, e26, e28, e30, e31, e32, e33, e34, e35, e38, e39, e40, e41, e42, e43, e44, e45, e46, e47, -, -, -, rfl⟩ := h
  rfl
def Wd (q : aH) : Prop := q.length = 49 ∧ (∃ fs, q[0]? = some (.inr (9, fs))) ∧ ∃ fs, q[35]? = some (.inr (10, fs))
def CaseI (La Mo : aM) (hh : aHh) (lav mav : List Value) (hp : aH) : Prop := ∃ O, JH La hh lav hp 1 6 O ∧ ∀ v q, O v q → Wd q ∧ ∃ k, v = some (.int k) ∧ ∃ O2, JM Mo mav q 0 0 O2 ∧ ∀ v2 q2, O2 v2 q2 → ∃ b : Int32, v2 = some (.int b) ∧ Ans k b.toInt64 q2
def CaseL (La Mo : aM) (hh : aHh) (lav mav : List Value) (hp : aH) : Prop := ∃ O, JH La hh lav hp 1 6 O ∧ ∀ v q, O v q → Wd q ∧ ∃ k, v = some (.int k) ∧ ∃ O2, JM Mo mav q 0 0 O2 ∧ ∀ v2 q2, O2 v2 q2 → ∃ b : Int64, v2 = some (.long b) ∧ Ans k b q2
theorem updL_0 (f : Nat → Int64) (c : Int64) : vp_updL f 0 c 0 = c := by
  unfold vp_updL
  exact if_pos rfl
theorem HP_set48 {e0 e1 e2 e3 e4 e5 e6 e7 e8 e9 e10 e11 e12 e13 e14 e15 e16 e17 e18 e19 e20 e21 e22 e23 e24 e25 e26 e27 e28 e29 e30 e31 e32 e33 e34 e35 e36 e37 e38 e39 e40 e41 e42 e43 e44 e45 e46 e47 e48 x : va_E} : (HP e0 e1 e2 e3 e4 e5 e6 e7 e8 e9 e10 e11 e12 e13 e14 e15 e16 e17 e18 e19 e20 e21 e22 e23 e24 e25 e26 e27 e28 e29 e30 e31 e32 e33 e34 e35 e36 e37 e38 e39 e40 e41 e42 e43 e44 e45 e46 e47 e48).set 48 x = HP e0 e1 e2 e3 e4 e5 e6 e7 e8 e9 e10 e11 e12 e13 e14 e15 e16 e17 e18 e19 e20 e21 e22 e23 e24 e25 e26 e27 e28 e29 e30 e31 e32 e33 e34 e35 e36 e37 e38 e39 e40 e41 e42 e43 e44 e45 e46 e47 x := rfl
/-- the law's box of one number -/
def ox (f : Nat → Int64) : va_E := .inl (1, 1, .inr (.inl f))
def OkV (lg : Bool) (v : Option Value) (y : Int64) : Prop := if lg then v = some (.long y) else ∃ z : Int32, v = some (.int z) ∧ y = z.toInt64

theorem hL_begin {hp : aH} {x : Int32} {fs : List Value} {mc ms : Nat} {O : Option Value → aH → Prop} {X : String → aH → Prop} (hrc : hp[0]? = some (.inr (9, fs))) (hM : JMX M_F_begin [.ref 0, .int x] hp mc ms O X) (hmc : mc ≤ 1) (hms : ms ≤ 6) (hO : ∀ v q, O v q → q.length = hp.length ∧ ∃ (y0 : Int32) (f : Nat → Int64), v = some (.int y0) ∧ hg q 48 = some (ox f)) (hX : ∀ E q, X E q → E = "java/lang/IllegalArgumentException") : JH M_La_begin [(0, 9, 12, 13)] [.ref 0, .int x, .ref 48] hp 1 6 (fun v q => (∃ (y0 : Int32) (q1 : aH) (f : Nat → Int64), O (some (.int y0)) q1 ∧ hg q1 48 = some (ox f) ∧ v = some (.int 0) ∧ q = q1.set 48 (ox (vp_updL f 0 y0.toInt64))) ∨ ∃ E, X E q ∧ ((E = "java/lang/IllegalArgumentException" ∧ v = some (.int 1)))) := by
  refine JH.of (by decide +kernel) rfl (Nat.le_of_ble_eq_true rfl) ?_
  refine JT.go ok_La_begin 4 (4, [(0, .ref 0), (1, .int x), (2, .ref 48)], [.int x, .ref 0, .int 0, .ref 48], hp, 1, 6) rfl ?_
  refine JT.callX (rest := [.int 0, .ref 48]) s_La_begin_4 0 [.int x] 9 fs _ rfl rfl rfl hrc (Nat.le_of_ble_eq_true rfl) hM hmc hms (fun v q h => (hO v q h).1) (fun v q h => ?_) (fun E q h => ?_)
  · obtain ⟨-, y0, f, rfl, hf⟩ := hO v q h
    refine JT.ofJ ?_
    refine J.gp ok_La_begin 1 (8, [(0, .ref 0), (1, .int x), (2, .ref 48)], [.long y0.toInt64, .int 0, .ref 48], q, _, _) rfl ?_
    refine J.lastB ok_La_begin 9 0 rfl hf rfl (by decide) (by decide) ?_
    refine J.gp ok_La_begin 2 (16, [(0, .ref 0), (1, .int x), (2, .ref 48)], [.int 0], _, _, _) rfl ?_
    exact J.fin ⟨some (.int 0), Or.inl ⟨0, (show decode M_La_begin.2.2.1 16 = .ok (.ireturn, 1) from by decide +kernel), ⟨.int, rfl, rfl⟩, rfl, rfl⟩, Or.inl ⟨y0, q, f, h, hf, rfl, rfl⟩⟩
  · have hE := hX E q h
    subst hE
    refine ⟨13, h_La_begin_IAE, JT.ofJ ?_⟩
    refine J.gp ok_La_begin 1 (14, [], [.int 1], _, _, _) rfl ?_
    exact J.fin ⟨some (.int 1), Or.inl ⟨1, (show decode M_La_begin.2.2.1 14 = .ok (.ireturn, 1) from by decide +kernel), ⟨.int, rfl, rfl⟩, rfl, rfl⟩, Or.inr ⟨_, h, ⟨rfl, rfl⟩⟩⟩

theorem hL_setTable {hp : aH} {x y u z : Int32} {fs : List Value} {mc ms : Nat} {O : Option Value → aH → Prop} {X : String → aH → Prop} (hrc : hp[0]? = some (.inr (9, fs))) (hM : JMX M_F_setTable [.ref 0, .int x, .int y, .int u, .int z] hp mc ms O X) (hmc : mc ≤ 1) (hms : ms ≤ 6) (hO : ∀ v q, O v q → q.length = hp.length ∧ ∃ (y0 : Int32) (f : Nat → Int64), v = some (.int y0) ∧ hg q 48 = some (ox f)) (hX : ∀ E q, X E q → E = "java/lang/IndexOutOfBoundsException" ∨ E = "java/lang/IllegalArgumentException") : JH M_La_setTable [(0, 14, 17, 19), (0, 14, 21, 13)] [.ref 0, .int x, .int y, .int u, .int z, .ref 48] hp 1 6 (fun v q => (∃ (y0 : Int32) (q1 : aH) (f : Nat → Int64), O (some (.int y0)) q1 ∧ hg q1 48 = some (ox f) ∧ v = some (.int 0) ∧ q = q1.set 48 (ox (vp_updL f 0 y0.toInt64))) ∨ ∃ E, X E q ∧ ((E = "java/lang/IndexOutOfBoundsException" ∧ v = some (.int 1)) ∨ (E = "java/lang/IllegalArgumentException" ∧ v = some (.int 2)))) := by
  refine JH.of (by decide +kernel) rfl (Nat.le_of_ble_eq_true rfl) ?_
  refine JT.go ok_La_setTable 7 (9, [(0, .ref 0), (1, .int x), (2, .int y), (3, .int u), (4, .int z), (5, .ref 48)], [.int z, .int u, .int y, .int x, .ref 0, .int 0, .ref 48], hp, 1, 6) rfl ?_
  refine JT.callX (rest := [.int 0, .ref 48]) s_La_setTable_9 0 [.int x, .int y, .int u, .int z] 9 fs _ rfl rfl rfl hrc (Nat.le_of_ble_eq_true rfl) hM hmc hms (fun v q h => (hO v q h).1) (fun v q h => ?_) (fun E q h => ?_)
  · obtain ⟨-, y0, f, rfl, hf⟩ := hO v q h
    refine JT.ofJ ?_
    refine J.gp ok_La_setTable 1 (13, [(0, .ref 0), (1, .int x), (2, .int y), (3, .int u), (4, .int z), (5, .ref 48)], [.long y0.toInt64, .int 0, .ref 48], q, _, _) rfl ?_
    refine J.lastB ok_La_setTable 14 0 rfl hf rfl (by decide) (by decide) ?_
    refine J.gp ok_La_setTable 2 (26, [(0, .ref 0), (1, .int x), (2, .int y), (3, .int u), (4, .int z), (5, .ref 48)], [.int 0], _, _, _) rfl ?_
    exact J.fin ⟨some (.int 0), Or.inl ⟨0, (show decode M_La_setTable.2.2.1 26 = .ok (.ireturn, 1) from by decide +kernel), ⟨.int, rfl, rfl⟩, rfl, rfl⟩, Or.inl ⟨y0, q, f, h, hf, rfl, rfl⟩⟩
  · have hE := hX E q h
    rcases hE with rfl | rfl
    · refine ⟨19, h_La_setTable_IOE, JT.ofJ ?_⟩
      refine J.gp ok_La_setTable 1 (20, [], [.int 1], _, _, _) rfl ?_
      exact J.fin ⟨some (.int 1), Or.inl ⟨1, (show decode M_La_setTable.2.2.1 20 = .ok (.ireturn, 1) from by decide +kernel), ⟨.int, rfl, rfl⟩, rfl, rfl⟩, Or.inr ⟨_, h, (Or.inl ⟨rfl, rfl⟩)⟩⟩
    · refine ⟨23, h_La_setTable_IAE, JT.ofJ ?_⟩
      refine J.gp ok_La_setTable 1 (24, [], [.int 2], _, _, _) rfl ?_
      exact J.fin ⟨some (.int 2), Or.inl ⟨2, (show decode M_La_setTable.2.2.1 24 = .ok (.ireturn, 1) from by decide +kernel), ⟨.int, rfl, rfl⟩, rfl, rfl⟩, Or.inr ⟨_, h, (Or.inr ⟨rfl, rfl⟩)⟩⟩

theorem hL_gear {hp : aH} {x y : Int32} {fs : List Value} {mc ms : Nat} {O : Option Value → aH → Prop} {X : String → aH → Prop} (hrc : hp[0]? = some (.inr (9, fs))) (hM : JMX M_F_gear [.ref 0, .int x, .int y] hp mc ms O X) (hmc : mc ≤ 1) (hms : ms ≤ 6) (hO : ∀ v q, O v q → q.length = hp.length ∧ ∃ (y0 : Int32) (f : Nat → Int64), v = some (.int y0) ∧ hg q 48 = some (ox f)) (hX : ∀ E q, X E q → E = "java/lang/IndexOutOfBoundsException") : JH M_La_gear [(0, 10, 13, 19)] [.ref 0, .int x, .int y, .ref 48] hp 1 6 (fun v q => (∃ (y0 : Int32) (q1 : aH) (f : Nat → Int64), O (some (.int y0)) q1 ∧ hg q1 48 = some (ox f) ∧ v = some (.int 0) ∧ q = q1.set 48 (ox (vp_updL f 0 y0.toInt64))) ∨ ∃ E, X E q ∧ ((E = "java/lang/IndexOutOfBoundsException" ∧ v = some (.int 1)))) := by
  refine JH.of (by decide +kernel) rfl (Nat.le_of_ble_eq_true rfl) ?_
  refine JT.go ok_La_gear 5 (5, [(0, .ref 0), (1, .int x), (2, .int y), (3, .ref 48)], [.int y, .int x, .ref 0, .int 0, .ref 48], hp, 1, 6) rfl ?_
  refine JT.callX (rest := [.int 0, .ref 48]) s_La_gear_5 0 [.int x, .int y] 9 fs _ rfl rfl rfl hrc (Nat.le_of_ble_eq_true rfl) hM hmc hms (fun v q h => (hO v q h).1) (fun v q h => ?_) (fun E q h => ?_)
  · obtain ⟨-, y0, f, rfl, hf⟩ := hO v q h
    refine JT.ofJ ?_
    refine J.gp ok_La_gear 1 (9, [(0, .ref 0), (1, .int x), (2, .int y), (3, .ref 48)], [.long y0.toInt64, .int 0, .ref 48], q, _, _) rfl ?_
    refine J.lastB ok_La_gear 10 0 rfl hf rfl (by decide) (by decide) ?_
    refine J.gp ok_La_gear 2 (18, [(0, .ref 0), (1, .int x), (2, .int y), (3, .ref 48)], [.int 0], _, _, _) rfl ?_
    exact J.fin ⟨some (.int 0), Or.inl ⟨0, (show decode M_La_gear.2.2.1 18 = .ok (.ireturn, 1) from by decide +kernel), ⟨.int, rfl, rfl⟩, rfl, rfl⟩, Or.inl ⟨y0, q, f, h, hf, rfl, rfl⟩⟩
  · have hE := hX E q h
    subst hE
    refine ⟨15, h_La_gear_IOE, JT.ofJ ?_⟩
    refine J.gp ok_La_gear 1 (16, [], [.int 1], _, _, _) rfl ?_
    exact J.fin ⟨some (.int 1), Or.inl ⟨1, (show decode M_La_gear.2.2.1 16 = .ok (.ireturn, 1) from by decide +kernel), ⟨.int, rfl, rfl⟩, rfl, rfl⟩, Or.inr ⟨_, h, ⟨rfl, rfl⟩⟩⟩

theorem hL_pawl {hp : aH} {x y : Int32} {fs : List Value} {mc ms : Nat} {O : Option Value → aH → Prop} {X : String → aH → Prop} (hrc : hp[0]? = some (.inr (9, fs))) (hM : JMX M_F_pawl [.ref 0, .int x, .int y] hp mc ms O X) (hmc : mc ≤ 1) (hms : ms ≤ 6) (hO : ∀ v q, O v q → q.length = hp.length ∧ ∃ (y0 : Int32) (f : Nat → Int64), v = some (.int y0) ∧ hg q 48 = some (ox f)) (hX : ∀ E q, X E q → E = "java/lang/IndexOutOfBoundsException") : JH M_La_pawl [(0, 10, 13, 19)] [.ref 0, .int x, .int y, .ref 48] hp 1 6 (fun v q => (∃ (y0 : Int32) (q1 : aH) (f : Nat → Int64), O (some (.int y0)) q1 ∧ hg q1 48 = some (ox f) ∧ v = some (.int 0) ∧ q = q1.set 48 (ox (vp_updL f 0 y0.toInt64))) ∨ ∃ E, X E q ∧ ((E = "java/lang/IndexOutOfBoundsException" ∧ v = some (.int 1)))) := by
  refine JH.of (by decide +kernel) rfl (Nat.le_of_ble_eq_true rfl) ?_
  refine JT.go ok_La_pawl 5 (5, [(0, .ref 0), (1, .int x), (2, .int y), (3, .ref 48)], [.int y, .int x, .ref 0, .int 0, .ref 48], hp, 1, 6) rfl ?_
  refine JT.callX (rest := [.int 0, .ref 48]) s_La_pawl_5 0 [.int x, .int y] 9 fs _ rfl rfl rfl hrc (Nat.le_of_ble_eq_true rfl) hM hmc hms (fun v q h => (hO v q h).1) (fun v q h => ?_) (fun E q h => ?_)
  · obtain ⟨-, y0, f, rfl, hf⟩ := hO v q h
    refine JT.ofJ ?_
    refine J.gp ok_La_pawl 1 (9, [(0, .ref 0), (1, .int x), (2, .int y), (3, .ref 48)], [.long y0.toInt64, .int 0, .ref 48], q, _, _) rfl ?_
    refine J.lastB ok_La_pawl 10 0 rfl hf rfl (by decide) (by decide) ?_
    refine J.gp ok_La_pawl 2 (18, [(0, .ref 0), (1, .int x), (2, .int y), (3, .ref 48)], [.int 0], _, _, _) rfl ?_
    exact J.fin ⟨some (.int 0), Or.inl ⟨0, (show decode M_La_pawl.2.2.1 18 = .ok (.ireturn, 1) from by decide +kernel), ⟨.int, rfl, rfl⟩, rfl, rfl⟩, Or.inl ⟨y0, q, f, h, hf, rfl, rfl⟩⟩
  · have hE := hX E q h
    subst hE
    refine ⟨15, h_La_pawl_IOE, JT.ofJ ?_⟩
    refine J.gp ok_La_pawl 1 (16, [], [.int 1], _, _, _) rfl ?_
    exact J.fin ⟨some (.int 1), Or.inl ⟨1, (show decode M_La_pawl.2.2.1 16 = .ok (.ireturn, 1) from by decide +kernel), ⟨.int, rfl, rfl⟩, rfl, rfl⟩, Or.inr ⟨_, h, ⟨rfl, rfl⟩⟩⟩

theorem hL_setProgram {hp : aH} {x : Int32} {fs : List Value} {mc ms : Nat} {O : Option Value → aH → Prop} {X : String → aH → Prop} (hrc : hp[0]? = some (.inr (9, fs))) (hM : JMX M_F_setProgram [.ref 0, .int x] hp mc ms O X) (hmc : mc ≤ 1) (hms : ms ≤ 6) (hO : ∀ v q, O v q → q.length = hp.length ∧ ∃ (y0 : Int32) (f : Nat → Int64), v = some (.int y0) ∧ hg q 48 = some (ox f)) (hX : ∀ E q, X E q → E = "java/lang/IllegalArgumentException") : JH M_La_setProgram [(0, 9, 12, 13)] [.ref 0, .int x, .ref 48] hp 1 6 (fun v q => (∃ (y0 : Int32) (q1 : aH) (f : Nat → Int64), O (some (.int y0)) q1 ∧ hg q1 48 = some (ox f) ∧ v = some (.int 0) ∧ q = q1.set 48 (ox (vp_updL f 0 y0.toInt64))) ∨ ∃ E, X E q ∧ ((E = "java/lang/IllegalArgumentException" ∧ v = some (.int 1)))) := by
  refine JH.of (by decide +kernel) rfl (Nat.le_of_ble_eq_true rfl) ?_
  refine JT.go ok_La_setProgram 4 (4, [(0, .ref 0), (1, .int x), (2, .ref 48)], [.int x, .ref 0, .int 0, .ref 48], hp, 1, 6) rfl ?_
  refine JT.callX (rest := [.int 0, .ref 48]) s_La_setProgram_4 0 [.int x] 9 fs _ rfl rfl rfl hrc (Nat.le_of_ble_eq_true rfl) hM hmc hms (fun v q h => (hO v q h).1) (fun v q h => ?_) (fun E q h => ?_)
  · obtain ⟨-, y0, f, rfl, hf⟩ := hO v q h
    refine JT.ofJ ?_
    refine J.gp ok_La_setProgram 1 (8, [(0, .ref 0), (1, .int x), (2, .ref 48)], [.long y0.toInt64, .int 0, .ref 48], q, _, _) rfl ?_
    refine J.lastB ok_La_setProgram 9 0 rfl hf rfl (by decide) (by decide) ?_
    refine J.gp ok_La_setProgram 2 (16, [(0, .ref 0), (1, .int x), (2, .ref 48)], [.int 0], _, _, _) rfl ?_
    exact J.fin ⟨some (.int 0), Or.inl ⟨0, (show decode M_La_setProgram.2.2.1 16 = .ok (.ireturn, 1) from by decide +kernel), ⟨.int, rfl, rfl⟩, rfl, rfl⟩, Or.inl ⟨y0, q, f, h, hf, rfl, rfl⟩⟩
  · have hE := hX E q h
    subst hE
    refine ⟨13, h_La_setProgram_IAE, JT.ofJ ?_⟩
    refine J.gp ok_La_setProgram 1 (14, [], [.int 1], _, _, _) rfl ?_
    exact J.fin ⟨some (.int 1), Or.inl ⟨1, (show decode M_La_setProgram.2.2.1 14 = .ok (.ireturn, 1) from by decide +kernel), ⟨.int, rfl, rfl⟩, rfl, rfl⟩, Or.inr ⟨_, h, ⟨rfl, rfl⟩⟩⟩

theorem hL_restart {hp : aH} {x y : Int32} {fs : List Value} {mc ms : Nat} {O : Option Value → aH → Prop} {X : String → aH → Prop} (hrc : hp[0]? = some (.inr (9, fs))) (hM : JMX M_F_restart [.ref 0, .int x, .int y] hp mc ms O X) (hmc : mc ≤ 1) (hms : ms ≤ 6) (hO : ∀ v q, O v q → q.length = hp.length ∧ ∃ (y0 : Int32) (f : Nat → Int64), v = some (.int y0) ∧ hg q 48 = some (ox f)) (hX : ∀ E q, X E q → E = "java/lang/IndexOutOfBoundsException" ∨ E = "java/lang/IllegalArgumentException") : JH M_La_restart [(0, 10, 13, 19), (0, 10, 17, 13)] [.ref 0, .int x, .int y, .ref 48] hp 1 6 (fun v q => (∃ (y0 : Int32) (q1 : aH) (f : Nat → Int64), O (some (.int y0)) q1 ∧ hg q1 48 = some (ox f) ∧ v = some (.int 0) ∧ q = q1.set 48 (ox (vp_updL f 0 y0.toInt64))) ∨ ∃ E, X E q ∧ ((E = "java/lang/IndexOutOfBoundsException" ∧ v = some (.int 1)) ∨ (E = "java/lang/IllegalArgumentException" ∧ v = some (.int 2)))) := by
  refine JH.of (by decide +kernel) rfl (Nat.le_of_ble_eq_true rfl) ?_
  refine JT.go ok_La_restart 5 (5, [(0, .ref 0), (1, .int x), (2, .int y), (3, .ref 48)], [.int y, .int x, .ref 0, .int 0, .ref 48], hp, 1, 6) rfl ?_
  refine JT.callX (rest := [.int 0, .ref 48]) s_La_restart_5 0 [.int x, .int y] 9 fs _ rfl rfl rfl hrc (Nat.le_of_ble_eq_true rfl) hM hmc hms (fun v q h => (hO v q h).1) (fun v q h => ?_) (fun E q h => ?_)
  · obtain ⟨-, y0, f, rfl, hf⟩ := hO v q h
    refine JT.ofJ ?_
    refine J.gp ok_La_restart 1 (9, [(0, .ref 0), (1, .int x), (2, .int y), (3, .ref 48)], [.long y0.toInt64, .int 0, .ref 48], q, _, _) rfl ?_
    refine J.lastB ok_La_restart 10 0 rfl hf rfl (by decide) (by decide) ?_
    refine J.gp ok_La_restart 2 (22, [(0, .ref 0), (1, .int x), (2, .int y), (3, .ref 48)], [.int 0], _, _, _) rfl ?_
    exact J.fin ⟨some (.int 0), Or.inl ⟨0, (show decode M_La_restart.2.2.1 22 = .ok (.ireturn, 1) from by decide +kernel), ⟨.int, rfl, rfl⟩, rfl, rfl⟩, Or.inl ⟨y0, q, f, h, hf, rfl, rfl⟩⟩
  · have hE := hX E q h
    rcases hE with rfl | rfl
    · refine ⟨15, h_La_restart_IOE, JT.ofJ ?_⟩
      refine J.gp ok_La_restart 1 (16, [], [.int 1], _, _, _) rfl ?_
      exact J.fin ⟨some (.int 1), Or.inl ⟨1, (show decode M_La_restart.2.2.1 16 = .ok (.ireturn, 1) from by decide +kernel), ⟨.int, rfl, rfl⟩, rfl, rfl⟩, Or.inr ⟨_, h, (Or.inl ⟨rfl, rfl⟩)⟩⟩
    · refine ⟨19, h_La_restart_IAE, JT.ofJ ?_⟩
      refine J.gp ok_La_restart 1 (20, [], [.int 2], _, _, _) rfl ?_
      exact J.fin ⟨some (.int 2), Or.inl ⟨2, (show decode M_La_restart.2.2.1 20 = .ok (.ireturn, 1) from by decide +kernel), ⟨.int, rfl, rfl⟩, rfl, rfl⟩, Or.inr ⟨_, h, (Or.inr ⟨rfl, rfl⟩)⟩⟩

theorem hL_run {hp : aH} {x : Int32} {fs : List Value} {mc ms : Nat} {O : Option Value → aH → Prop} {X : String → aH → Prop} (hrc : hp[0]? = some (.inr (9, fs))) (hM : JMX M_F_run [.ref 0, .int x] hp mc ms O X) (hmc : mc ≤ 1) (hms : ms ≤ 6) (hO : ∀ v q, O v q → q.length = hp.length ∧ ∃ (y0 : Int32) (f : Nat → Int64), v = some (.int y0) ∧ hg q 48 = some (ox f)) (hX : ∀ E q, X E q → E = "java/lang/IllegalArgumentException" ∨ E = "java/lang/IllegalStateException") : JH M_La_run [(0, 9, 12, 13), (0, 9, 15, 38)] [.ref 0, .int x, .ref 48] hp 1 6 (fun v q => (∃ (y0 : Int32) (q1 : aH) (f : Nat → Int64), O (some (.int y0)) q1 ∧ hg q1 48 = some (ox f) ∧ v = some (.int 0) ∧ q = q1.set 48 (ox (vp_updL f 0 y0.toInt64))) ∨ ∃ E, X E q ∧ ((E = "java/lang/IllegalArgumentException" ∧ v = some (.int 1)) ∨ (E = "java/lang/IllegalStateException" ∧ v = some (.int 2)))) := by
  refine JH.of (by decide +kernel) rfl (Nat.le_of_ble_eq_true rfl) ?_
  refine JT.go ok_La_run 4 (4, [(0, .ref 0), (1, .int x), (2, .ref 48)], [.int x, .ref 0, .int 0, .ref 48], hp, 1, 6) rfl ?_
  refine JT.callX (rest := [.int 0, .ref 48]) s_La_run_4 0 [.int x] 9 fs _ rfl rfl rfl hrc (Nat.le_of_ble_eq_true rfl) hM hmc hms (fun v q h => (hO v q h).1) (fun v q h => ?_) (fun E q h => ?_)
  · obtain ⟨-, y0, f, rfl, hf⟩ := hO v q h
    refine JT.ofJ ?_
    refine J.gp ok_La_run 1 (8, [(0, .ref 0), (1, .int x), (2, .ref 48)], [.long y0.toInt64, .int 0, .ref 48], q, _, _) rfl ?_
    refine J.lastB ok_La_run 9 0 rfl hf rfl (by decide) (by decide) ?_
    refine J.gp ok_La_run 2 (19, [(0, .ref 0), (1, .int x), (2, .ref 48)], [.int 0], _, _, _) rfl ?_
    exact J.fin ⟨some (.int 0), Or.inl ⟨0, (show decode M_La_run.2.2.1 19 = .ok (.ireturn, 1) from by decide +kernel), ⟨.int, rfl, rfl⟩, rfl, rfl⟩, Or.inl ⟨y0, q, f, h, hf, rfl, rfl⟩⟩
  · have hE := hX E q h
    rcases hE with rfl | rfl
    · refine ⟨13, h_La_run_IAE, JT.ofJ ?_⟩
      refine J.gp ok_La_run 1 (14, [], [.int 1], _, _, _) rfl ?_
      exact J.fin ⟨some (.int 1), Or.inl ⟨1, (show decode M_La_run.2.2.1 14 = .ok (.ireturn, 1) from by decide +kernel), ⟨.int, rfl, rfl⟩, rfl, rfl⟩, Or.inr ⟨_, h, (Or.inl ⟨rfl, rfl⟩)⟩⟩
    · refine ⟨16, h_La_run_ISE, JT.ofJ ?_⟩
      refine J.gp ok_La_run 1 (17, [], [.int 2], _, _, _) rfl ?_
      exact J.fin ⟨some (.int 2), Or.inl ⟨2, (show decode M_La_run.2.2.1 17 = .ok (.ireturn, 1) from by decide +kernel), ⟨.int, rfl, rfl⟩, rfl, rfl⟩, Or.inr ⟨_, h, (Or.inr ⟨rfl, rfl⟩)⟩⟩

theorem hL_append {hp : aH} {x : Int32} {fs : List Value} {mc ms : Nat} {O : Option Value → aH → Prop} {X : String → aH → Prop} (hrc : hp[0]? = some (.inr (9, fs))) (hM : JMX M_F_append [.ref 0, .int x] hp mc ms O X) (hmc : mc ≤ 1) (hms : ms ≤ 6) (hO : ∀ v q, O v q → q.length = hp.length ∧ ∃ (y0 : Int32) (f : Nat → Int64), v = some (.int y0) ∧ hg q 48 = some (ox f)) (hX : ∀ E q, X E q → E = "java/lang/IllegalArgumentException" ∨ E = "java/lang/IllegalStateException") : JH M_La_append [(0, 9, 12, 13), (0, 9, 15, 38)] [.ref 0, .int x, .ref 48] hp 1 6 (fun v q => (∃ (y0 : Int32) (q1 : aH) (f : Nat → Int64), O (some (.int y0)) q1 ∧ hg q1 48 = some (ox f) ∧ v = some (.int 0) ∧ q = q1.set 48 (ox (vp_updL f 0 y0.toInt64))) ∨ ∃ E, X E q ∧ ((E = "java/lang/IllegalArgumentException" ∧ v = some (.int 1)) ∨ (E = "java/lang/IllegalStateException" ∧ v = some (.int 2)))) := by
  refine JH.of (by decide +kernel) rfl (Nat.le_of_ble_eq_true rfl) ?_
  refine JT.go ok_La_append 4 (4, [(0, .ref 0), (1, .int x), (2, .ref 48)], [.int x, .ref 0, .int 0, .ref 48], hp, 1, 6) rfl ?_
  refine JT.callX (rest := [.int 0, .ref 48]) s_La_append_4 0 [.int x] 9 fs _ rfl rfl rfl hrc (Nat.le_of_ble_eq_true rfl) hM hmc hms (fun v q h => (hO v q h).1) (fun v q h => ?_) (fun E q h => ?_)
  · obtain ⟨-, y0, f, rfl, hf⟩ := hO v q h
    refine JT.ofJ ?_
    refine J.gp ok_La_append 1 (8, [(0, .ref 0), (1, .int x), (2, .ref 48)], [.long y0.toInt64, .int 0, .ref 48], q, _, _) rfl ?_
    refine J.lastB ok_La_append 9 0 rfl hf rfl (by decide) (by decide) ?_
    refine J.gp ok_La_append 2 (19, [(0, .ref 0), (1, .int x), (2, .ref 48)], [.int 0], _, _, _) rfl ?_
    exact J.fin ⟨some (.int 0), Or.inl ⟨0, (show decode M_La_append.2.2.1 19 = .ok (.ireturn, 1) from by decide +kernel), ⟨.int, rfl, rfl⟩, rfl, rfl⟩, Or.inl ⟨y0, q, f, h, hf, rfl, rfl⟩⟩
  · have hE := hX E q h
    rcases hE with rfl | rfl
    · refine ⟨13, h_La_append_IAE, JT.ofJ ?_⟩
      refine J.gp ok_La_append 1 (14, [], [.int 1], _, _, _) rfl ?_
      exact J.fin ⟨some (.int 1), Or.inl ⟨1, (show decode M_La_append.2.2.1 14 = .ok (.ireturn, 1) from by decide +kernel), ⟨.int, rfl, rfl⟩, rfl, rfl⟩, Or.inr ⟨_, h, (Or.inl ⟨rfl, rfl⟩)⟩⟩
    · refine ⟨16, h_La_append_ISE, JT.ofJ ?_⟩
      refine J.gp ok_La_append 1 (17, [], [.int 2], _, _, _) rfl ?_
      exact J.fin ⟨some (.int 2), Or.inl ⟨2, (show decode M_La_append.2.2.1 17 = .ok (.ireturn, 1) from by decide +kernel), ⟨.int, rfl, rfl⟩, rfl, rfl⟩, Or.inr ⟨_, h, (Or.inr ⟨rfl, rfl⟩)⟩⟩

theorem hL_load {hp : aH} {fs : List Value} {mc ms : Nat} {O : Option Value → aH → Prop} {X : String → aH → Prop} (hrc : hp[0]? = some (.inr (9, fs))) (hM : JMX M_F_load [.ref 0] hp mc ms O X) (hmc : mc ≤ 1) (hms : ms ≤ 6) (hO : ∀ v q, O v q → q.length = hp.length ∧ ∃ (y0 : Int32) (f : Nat → Int64), v = some (.int y0) ∧ hg q 48 = some (ox f)) (hX : ∀ E q, X E q → E = "java/lang/IllegalArgumentException") : JH M_La_load [(0, 8, 11, 13)] [.ref 0, .ref 48] hp 1 6 (fun v q => (∃ (y0 : Int32) (q1 : aH) (f : Nat → Int64), O (some (.int y0)) q1 ∧ hg q1 48 = some (ox f) ∧ v = some (.int 0) ∧ q = q1.set 48 (ox (vp_updL f 0 y0.toInt64))) ∨ ∃ E, X E q ∧ ((E = "java/lang/IllegalArgumentException" ∧ v = some (.int 1)))) := by
  refine JH.of (by decide +kernel) rfl (Nat.le_of_ble_eq_true rfl) ?_
  refine JT.go ok_La_load 3 (3, [(0, .ref 0), (1, .ref 48)], [.ref 0, .int 0, .ref 48], hp, 1, 6) rfl ?_
  refine JT.callX (rest := [.int 0, .ref 48]) s_La_load_3 0 [] 9 fs _ rfl rfl rfl hrc (Nat.le_of_ble_eq_true rfl) hM hmc hms (fun v q h => (hO v q h).1) (fun v q h => ?_) (fun E q h => ?_)
  · obtain ⟨-, y0, f, rfl, hf⟩ := hO v q h
    refine JT.ofJ ?_
    refine J.gp ok_La_load 1 (7, [(0, .ref 0), (1, .ref 48)], [.long y0.toInt64, .int 0, .ref 48], q, _, _) rfl ?_
    refine J.lastB ok_La_load 8 0 rfl hf rfl (by decide) (by decide) ?_
    refine J.gp ok_La_load 2 (15, [(0, .ref 0), (1, .ref 48)], [.int 0], _, _, _) rfl ?_
    exact J.fin ⟨some (.int 0), Or.inl ⟨0, (show decode M_La_load.2.2.1 15 = .ok (.ireturn, 1) from by decide +kernel), ⟨.int, rfl, rfl⟩, rfl, rfl⟩, Or.inl ⟨y0, q, f, h, hf, rfl, rfl⟩⟩
  · have hE := hX E q h
    subst hE
    refine ⟨12, h_La_load_IAE, JT.ofJ ?_⟩
    refine J.gp ok_La_load 1 (13, [], [.int 1], _, _, _) rfl ?_
    exact J.fin ⟨some (.int 1), Or.inl ⟨1, (show decode M_La_load.2.2.1 13 = .ok (.ireturn, 1) from by decide +kernel), ⟨.int, rfl, rfl⟩, rfl, rfl⟩, Or.inr ⟨_, h, ⟨rfl, rfl⟩⟩⟩

theorem hL_cycle {hp : aH} {x : Int32} {fs : List Value} {mc ms : Nat} {O : Option Value → aH → Prop} {X : String → aH → Prop} (hrc : hp[0]? = some (.inr (9, fs))) (hM : JMX M_F_cycle [.ref 0, .int x] hp mc ms O X) (hmc : mc ≤ 1) (hms : ms ≤ 6) (hO : ∀ v q, O v q → q.length = hp.length ∧ ∃ (y0 : Int32) (f : Nat → Int64), v = some (.int y0) ∧ hg q 48 = some (ox f)) (hX : ∀ E q, X E q → E = "java/lang/IllegalArgumentException") : JH M_La_cycle [(0, 9, 12, 13)] [.ref 0, .int x, .ref 48] hp 1 6 (fun v q => (∃ (y0 : Int32) (q1 : aH) (f : Nat → Int64), O (some (.int y0)) q1 ∧ hg q1 48 = some (ox f) ∧ v = some (.int 0) ∧ q = q1.set 48 (ox (vp_updL f 0 y0.toInt64))) ∨ ∃ E, X E q ∧ ((E = "java/lang/IllegalArgumentException" ∧ v = some (.int 1)))) := by
  refine JH.of (by decide +kernel) rfl (Nat.le_of_ble_eq_true rfl) ?_
  refine JT.go ok_La_cycle 4 (4, [(0, .ref 0), (1, .int x), (2, .ref 48)], [.int x, .ref 0, .int 0, .ref 48], hp, 1, 6) rfl ?_
  refine JT.callX (rest := [.int 0, .ref 48]) s_La_cycle_4 0 [.int x] 9 fs _ rfl rfl rfl hrc (Nat.le_of_ble_eq_true rfl) hM hmc hms (fun v q h => (hO v q h).1) (fun v q h => ?_) (fun E q h => ?_)
  · obtain ⟨-, y0, f, rfl, hf⟩ := hO v q h
    refine JT.ofJ ?_
    refine J.gp ok_La_cycle 1 (8, [(0, .ref 0), (1, .int x), (2, .ref 48)], [.long y0.toInt64, .int 0, .ref 48], q, _, _) rfl ?_
    refine J.lastB ok_La_cycle 9 0 rfl hf rfl (by decide) (by decide) ?_
    refine J.gp ok_La_cycle 2 (16, [(0, .ref 0), (1, .int x), (2, .ref 48)], [.int 0], _, _, _) rfl ?_
    exact J.fin ⟨some (.int 0), Or.inl ⟨0, (show decode M_La_cycle.2.2.1 16 = .ok (.ireturn, 1) from by decide +kernel), ⟨.int, rfl, rfl⟩, rfl, rfl⟩, Or.inl ⟨y0, q, f, h, hf, rfl, rfl⟩⟩
  · have hE := hX E q h
    subst hE
    refine ⟨13, h_La_cycle_IAE, JT.ofJ ?_⟩
    refine J.gp ok_La_cycle 1 (14, [], [.int 1], _, _, _) rfl ?_
    exact J.fin ⟨some (.int 1), Or.inl ⟨1, (show decode M_La_cycle.2.2.1 14 = .ok (.ireturn, 1) from by decide +kernel), ⟨.int, rfl, rfl⟩, rfl, rfl⟩, Or.inr ⟨_, h, ⟨rfl, rfl⟩⟩⟩

theorem hL_chance {hp : aH} {x y : Int32} {fs : List Value} {mc ms : Nat} {O : Option Value → aH → Prop} {X : String → aH → Prop} (hrc : hp[0]? = some (.inr (9, fs))) (hM : JMX M_F_chance [.ref 0, .int x, .int y] hp mc ms O X) (hmc : mc ≤ 1) (hms : ms ≤ 6) (hO : ∀ v q, O v q → q.length = hp.length ∧ ∃ (y0 : Int64) (f : Nat → Int64), v = some (.long y0) ∧ hg q 48 = some (ox f)) (hX : ∀ E q, X E q → E = "java/lang/IllegalArgumentException" ∨ E = "java/lang/IndexOutOfBoundsException") : JH M_La_chance [(0, 9, 12, 13), (0, 9, 16, 19)] [.ref 0, .int x, .int y, .ref 48] hp 1 6 (fun v q => (∃ (y0 : Int64) (q1 : aH) (f : Nat → Int64), O (some (.long y0)) q1 ∧ hg q1 48 = some (ox f) ∧ v = some (.int 0) ∧ q = q1.set 48 (ox (vp_updL f 0 y0))) ∨ ∃ E, X E q ∧ ((E = "java/lang/IllegalArgumentException" ∧ v = some (.int 1)) ∨ (E = "java/lang/IndexOutOfBoundsException" ∧ v = some (.int 2)))) := by
  refine JH.of (by decide +kernel) rfl (Nat.le_of_ble_eq_true rfl) ?_
  refine JT.go ok_La_chance 5 (5, [(0, .ref 0), (1, .int x), (2, .int y), (3, .ref 48)], [.int y, .int x, .ref 0, .int 0, .ref 48], hp, 1, 6) rfl ?_
  refine JT.callX (rest := [.int 0, .ref 48]) s_La_chance_5 0 [.int x, .int y] 9 fs _ rfl rfl rfl hrc (Nat.le_of_ble_eq_true rfl) hM hmc hms (fun v q h => (hO v q h).1) (fun v q h => ?_) (fun E q h => ?_)
  · obtain ⟨-, y0, f, rfl, hf⟩ := hO v q h
    refine JT.ofJ ?_
    refine J.lastB ok_La_chance 9 0 rfl hf rfl (by decide) (by decide) ?_
    refine J.gp ok_La_chance 2 (21, [(0, .ref 0), (1, .int x), (2, .int y), (3, .ref 48)], [.int 0], _, _, _) rfl ?_
    exact J.fin ⟨some (.int 0), Or.inl ⟨0, (show decode M_La_chance.2.2.1 21 = .ok (.ireturn, 1) from by decide +kernel), ⟨.int, rfl, rfl⟩, rfl, rfl⟩, Or.inl ⟨y0, q, f, h, hf, rfl, rfl⟩⟩
  · have hE := hX E q h
    rcases hE with rfl | rfl
    · refine ⟨14, h_La_chance_IAE, JT.ofJ ?_⟩
      refine J.gp ok_La_chance 1 (15, [], [.int 1], _, _, _) rfl ?_
      exact J.fin ⟨some (.int 1), Or.inl ⟨1, (show decode M_La_chance.2.2.1 15 = .ok (.ireturn, 1) from by decide +kernel), ⟨.int, rfl, rfl⟩, rfl, rfl⟩, Or.inr ⟨_, h, (Or.inl ⟨rfl, rfl⟩)⟩⟩
    · refine ⟨18, h_La_chance_IOE, JT.ofJ ?_⟩
      refine J.gp ok_La_chance 1 (19, [], [.int 2], _, _, _) rfl ?_
      exact J.fin ⟨some (.int 2), Or.inl ⟨2, (show decode M_La_chance.2.2.1 19 = .ok (.ireturn, 1) from by decide +kernel), ⟨.int, rfl, rfl⟩, rfl, rfl⟩, Or.inr ⟨_, h, (Or.inr ⟨rfl, rfl⟩)⟩⟩

theorem hL_chanceOfGain {hp : aH} {x y : Int32} {fs : List Value} {mc ms : Nat} {O : Option Value → aH → Prop} {X : String → aH → Prop} (hrc : hp[0]? = some (.inr (9, fs))) (hM : JMX M_F_chanceOfGain [.ref 0, .int x, .int y] hp mc ms O X) (hmc : mc ≤ 1) (hms : ms ≤ 6) (hO : ∀ v q, O v q → q.length = hp.length ∧ ∃ (y0 : Int64) (f : Nat → Int64), v = some (.long y0) ∧ hg q 48 = some (ox f)) (hX : ∀ E q, X E q → E = "java/lang/IllegalArgumentException") : JH M_La_chanceOfGain [(0, 9, 12, 13)] [.ref 0, .int x, .int y, .ref 48] hp 1 6 (fun v q => (∃ (y0 : Int64) (q1 : aH) (f : Nat → Int64), O (some (.long y0)) q1 ∧ hg q1 48 = some (ox f) ∧ v = some (.int 0) ∧ q = q1.set 48 (ox (vp_updL f 0 y0))) ∨ ∃ E, X E q ∧ ((E = "java/lang/IllegalArgumentException" ∧ v = some (.int 1)))) := by
  refine JH.of (by decide +kernel) rfl (Nat.le_of_ble_eq_true rfl) ?_
  refine JT.go ok_La_chanceOfGain 5 (5, [(0, .ref 0), (1, .int x), (2, .int y), (3, .ref 48)], [.int y, .int x, .ref 0, .int 0, .ref 48], hp, 1, 6) rfl ?_
  refine JT.callX (rest := [.int 0, .ref 48]) s_La_chanceOfGain_5 0 [.int x, .int y] 9 fs _ rfl rfl rfl hrc (Nat.le_of_ble_eq_true rfl) hM hmc hms (fun v q h => (hO v q h).1) (fun v q h => ?_) (fun E q h => ?_)
  · obtain ⟨-, y0, f, rfl, hf⟩ := hO v q h
    refine JT.ofJ ?_
    refine J.lastB ok_La_chanceOfGain 9 0 rfl hf rfl (by decide) (by decide) ?_
    refine J.gp ok_La_chanceOfGain 2 (17, [(0, .ref 0), (1, .int x), (2, .int y), (3, .ref 48)], [.int 0], _, _, _) rfl ?_
    exact J.fin ⟨some (.int 0), Or.inl ⟨0, (show decode M_La_chanceOfGain.2.2.1 17 = .ok (.ireturn, 1) from by decide +kernel), ⟨.int, rfl, rfl⟩, rfl, rfl⟩, Or.inl ⟨y0, q, f, h, hf, rfl, rfl⟩⟩
  · have hE := hX E q h
    subst hE
    refine ⟨14, h_La_chanceOfGain_IAE, JT.ofJ ?_⟩
    refine J.gp ok_La_chanceOfGain 1 (15, [], [.int 1], _, _, _) rfl ?_
    exact J.fin ⟨some (.int 1), Or.inl ⟨1, (show decode M_La_chanceOfGain.2.2.1 15 = .ok (.ireturn, 1) from by decide +kernel), ⟨.int, rfl, rfl⟩, rfl, rfl⟩, Or.inr ⟨_, h, ⟨rfl, rfl⟩⟩⟩

theorem hL_game {hp : aH} {x y u z : Int32} {fs : List Value} {mc ms : Nat} {O : Option Value → aH → Prop} {X : String → aH → Prop} (hrc : hp[0]? = some (.inr (9, fs))) (hM : JMX M_F_game [.ref 0, .int x, .int y, .int u, .int z] hp mc ms O X) (hmc : mc ≤ 1) (hms : ms ≤ 6) (hO : ∀ v q, O v q → q.length = hp.length ∧ ∃ (y0 : Int64) (f : Nat → Int64), v = some (.long y0) ∧ hg q 48 = some (ox f)) (hX : ∀ E q, X E q → E = "java/lang/IllegalArgumentException") : JH M_La_game [(0, 13, 16, 13)] [.ref 0, .int x, .int y, .int u, .int z, .ref 48] hp 1 6 (fun v q => (∃ (y0 : Int64) (q1 : aH) (f : Nat → Int64), O (some (.long y0)) q1 ∧ hg q1 48 = some (ox f) ∧ v = some (.int 0) ∧ q = q1.set 48 (ox (vp_updL f 0 y0))) ∨ ∃ E, X E q ∧ ((E = "java/lang/IllegalArgumentException" ∧ v = some (.int 1)))) := by
  refine JH.of (by decide +kernel) rfl (Nat.le_of_ble_eq_true rfl) ?_
  refine JT.go ok_La_game 7 (9, [(0, .ref 0), (1, .int x), (2, .int y), (3, .int u), (4, .int z), (5, .ref 48)], [.int z, .int u, .int y, .int x, .ref 0, .int 0, .ref 48], hp, 1, 6) rfl ?_
  refine JT.callX (rest := [.int 0, .ref 48]) s_La_game_9 0 [.int x, .int y, .int u, .int z] 9 fs _ rfl rfl rfl hrc (Nat.le_of_ble_eq_true rfl) hM hmc hms (fun v q h => (hO v q h).1) (fun v q h => ?_) (fun E q h => ?_)
  · obtain ⟨-, y0, f, rfl, hf⟩ := hO v q h
    refine JT.ofJ ?_
    refine J.lastB ok_La_game 13 0 rfl hf rfl (by decide) (by decide) ?_
    refine J.gp ok_La_game 2 (21, [(0, .ref 0), (1, .int x), (2, .int y), (3, .int u), (4, .int z), (5, .ref 48)], [.int 0], _, _, _) rfl ?_
    exact J.fin ⟨some (.int 0), Or.inl ⟨0, (show decode M_La_game.2.2.1 21 = .ok (.ireturn, 1) from by decide +kernel), ⟨.int, rfl, rfl⟩, rfl, rfl⟩, Or.inl ⟨y0, q, f, h, hf, rfl, rfl⟩⟩
  · have hE := hX E q h
    subst hE
    refine ⟨18, h_La_game_IAE, JT.ofJ ?_⟩
    refine J.gp ok_La_game 1 (19, [], [.int 1], _, _, _) rfl ?_
    exact J.fin ⟨some (.int 1), Or.inl ⟨1, (show decode M_La_game.2.2.1 19 = .ok (.ireturn, 1) from by decide +kernel), ⟨.int, rfl, rfl⟩, rfl, rfl⟩, Or.inr ⟨_, h, ⟨rfl, rfl⟩⟩⟩

theorem hL_average {hp : aH} {x y : Int32} {fs : List Value} {mc ms : Nat} {O : Option Value → aH → Prop} {X : String → aH → Prop} (hrc : hp[0]? = some (.inr (9, fs))) (hM : JMX M_F_average [.ref 0, .int x, .int y] hp mc ms O X) (hmc : mc ≤ 1) (hms : ms ≤ 6) (hO : ∀ v q, O v q → q.length = hp.length ∧ ∃ (y0 : Int64) (f : Nat → Int64), v = some (.long y0) ∧ hg q 48 = some (ox f)) (hX : ∀ E q, X E q → E = "java/lang/IllegalArgumentException") : JH M_La_average [(0, 9, 12, 13)] [.ref 0, .int x, .int y, .ref 48] hp 1 6 (fun v q => (∃ (y0 : Int64) (q1 : aH) (f : Nat → Int64), O (some (.long y0)) q1 ∧ hg q1 48 = some (ox f) ∧ v = some (.int 0) ∧ q = q1.set 48 (ox (vp_updL f 0 y0))) ∨ ∃ E, X E q ∧ ((E = "java/lang/IllegalArgumentException" ∧ v = some (.int 1)))) := by
  refine JH.of (by decide +kernel) rfl (Nat.le_of_ble_eq_true rfl) ?_
  refine JT.go ok_La_average 5 (5, [(0, .ref 0), (1, .int x), (2, .int y), (3, .ref 48)], [.int y, .int x, .ref 0, .int 0, .ref 48], hp, 1, 6) rfl ?_
  refine JT.callX (rest := [.int 0, .ref 48]) s_La_average_5 0 [.int x, .int y] 9 fs _ rfl rfl rfl hrc (Nat.le_of_ble_eq_true rfl) hM hmc hms (fun v q h => (hO v q h).1) (fun v q h => ?_) (fun E q h => ?_)
  · obtain ⟨-, y0, f, rfl, hf⟩ := hO v q h
    refine JT.ofJ ?_
    refine J.lastB ok_La_average 9 0 rfl hf rfl (by decide) (by decide) ?_
    refine J.gp ok_La_average 2 (17, [(0, .ref 0), (1, .int x), (2, .int y), (3, .ref 48)], [.int 0], _, _, _) rfl ?_
    exact J.fin ⟨some (.int 0), Or.inl ⟨0, (show decode M_La_average.2.2.1 17 = .ok (.ireturn, 1) from by decide +kernel), ⟨.int, rfl, rfl⟩, rfl, rfl⟩, Or.inl ⟨y0, q, f, h, hf, rfl, rfl⟩⟩
  · have hE := hX E q h
    subst hE
    refine ⟨14, h_La_average_IAE, JT.ofJ ?_⟩
    refine J.gp ok_La_average 1 (15, [], [.int 1], _, _, _) rfl ?_
    exact J.fin ⟨some (.int 1), Or.inl ⟨1, (show decode M_La_average.2.2.1 15 = .ok (.ireturn, 1) from by decide +kernel), ⟨.int, rfl, rfl⟩, rfl, rfl⟩, Or.inr ⟨_, h, ⟨rfl, rfl⟩⟩⟩

theorem hL_share {hp : aH} {x y u : Int32} {fs : List Value} {mc ms : Nat} {O : Option Value → aH → Prop} {X : String → aH → Prop} (hrc : hp[0]? = some (.inr (9, fs))) (hM : JMX M_F_share [.ref 0, .int x, .int y, .int u] hp mc ms O X) (hmc : mc ≤ 1) (hms : ms ≤ 6) (hO : ∀ v q, O v q → q.length = hp.length ∧ ∃ (y0 : Int64) (f : Nat → Int64), v = some (.long y0) ∧ hg q 48 = some (ox f)) (hX : ∀ E q, X E q → E = "java/lang/IndexOutOfBoundsException" ∨ E = "java/lang/IllegalArgumentException") : JH M_La_share [(0, 11, 14, 19), (0, 11, 18, 13)] [.ref 0, .int x, .int y, .int u, .ref 48] hp 1 6 (fun v q => (∃ (y0 : Int64) (q1 : aH) (f : Nat → Int64), O (some (.long y0)) q1 ∧ hg q1 48 = some (ox f) ∧ v = some (.int 0) ∧ q = q1.set 48 (ox (vp_updL f 0 y0))) ∨ ∃ E, X E q ∧ ((E = "java/lang/IndexOutOfBoundsException" ∧ v = some (.int 1)) ∨ (E = "java/lang/IllegalArgumentException" ∧ v = some (.int 2)))) := by
  refine JH.of (by decide +kernel) rfl (Nat.le_of_ble_eq_true rfl) ?_
  refine JT.go ok_La_share 6 (7, [(0, .ref 0), (1, .int x), (2, .int y), (3, .int u), (4, .ref 48)], [.int u, .int y, .int x, .ref 0, .int 0, .ref 48], hp, 1, 6) rfl ?_
  refine JT.callX (rest := [.int 0, .ref 48]) s_La_share_7 0 [.int x, .int y, .int u] 9 fs _ rfl rfl rfl hrc (Nat.le_of_ble_eq_true rfl) hM hmc hms (fun v q h => (hO v q h).1) (fun v q h => ?_) (fun E q h => ?_)
  · obtain ⟨-, y0, f, rfl, hf⟩ := hO v q h
    refine JT.ofJ ?_
    refine J.lastB ok_La_share 11 0 rfl hf rfl (by decide) (by decide) ?_
    refine J.gp ok_La_share 2 (23, [(0, .ref 0), (1, .int x), (2, .int y), (3, .int u), (4, .ref 48)], [.int 0], _, _, _) rfl ?_
    exact J.fin ⟨some (.int 0), Or.inl ⟨0, (show decode M_La_share.2.2.1 23 = .ok (.ireturn, 1) from by decide +kernel), ⟨.int, rfl, rfl⟩, rfl, rfl⟩, Or.inl ⟨y0, q, f, h, hf, rfl, rfl⟩⟩
  · have hE := hX E q h
    rcases hE with rfl | rfl
    · refine ⟨16, h_La_share_IOE, JT.ofJ ?_⟩
      refine J.gp ok_La_share 1 (17, [], [.int 1], _, _, _) rfl ?_
      exact J.fin ⟨some (.int 1), Or.inl ⟨1, (show decode M_La_share.2.2.1 17 = .ok (.ireturn, 1) from by decide +kernel), ⟨.int, rfl, rfl⟩, rfl, rfl⟩, Or.inr ⟨_, h, (Or.inl ⟨rfl, rfl⟩)⟩⟩
    · refine ⟨20, h_La_share_IAE, JT.ofJ ?_⟩
      refine J.gp ok_La_share 1 (21, [], [.int 2], _, _, _) rfl ?_
      exact J.fin ⟨some (.int 2), Or.inl ⟨2, (show decode M_La_share.2.2.1 21 = .ok (.ireturn, 1) from by decide +kernel), ⟨.int, rfl, rfl⟩, rfl, rfl⟩, Or.inr ⟨_, h, (Or.inr ⟨rfl, rfl⟩)⟩⟩

theorem hL_classes {hp : aH} {x : Int32} {fs : List Value} {mc ms : Nat} {O : Option Value → aH → Prop} {X : String → aH → Prop} (hrc : hp[0]? = some (.inr (9, fs))) (hM : JMX M_F_classes [.ref 0, .int x] hp mc ms O X) (hmc : mc ≤ 1) (hms : ms ≤ 6) (hO : ∀ v q, O v q → q.length = hp.length ∧ ∃ (y0 : Int32) (f : Nat → Int64), v = some (.int y0) ∧ hg q 48 = some (ox f)) (hX : ∀ E q, X E q → E = "java/lang/IllegalArgumentException") : JH M_La_classes [(0, 9, 12, 13)] [.ref 0, .int x, .ref 48] hp 1 6 (fun v q => (∃ (y0 : Int32) (q1 : aH) (f : Nat → Int64), O (some (.int y0)) q1 ∧ hg q1 48 = some (ox f) ∧ v = some (.int 0) ∧ q = q1.set 48 (ox (vp_updL f 0 y0.toInt64))) ∨ ∃ E, X E q ∧ ((E = "java/lang/IllegalArgumentException" ∧ v = some (.int 1)))) := by
  refine JH.of (by decide +kernel) rfl (Nat.le_of_ble_eq_true rfl) ?_
  refine JT.go ok_La_classes 4 (4, [(0, .ref 0), (1, .int x), (2, .ref 48)], [.int x, .ref 0, .int 0, .ref 48], hp, 1, 6) rfl ?_
  refine JT.callX (rest := [.int 0, .ref 48]) s_La_classes_4 0 [.int x] 9 fs _ rfl rfl rfl hrc (Nat.le_of_ble_eq_true rfl) hM hmc hms (fun v q h => (hO v q h).1) (fun v q h => ?_) (fun E q h => ?_)
  · obtain ⟨-, y0, f, rfl, hf⟩ := hO v q h
    refine JT.ofJ ?_
    refine J.gp ok_La_classes 1 (8, [(0, .ref 0), (1, .int x), (2, .ref 48)], [.long y0.toInt64, .int 0, .ref 48], q, _, _) rfl ?_
    refine J.lastB ok_La_classes 9 0 rfl hf rfl (by decide) (by decide) ?_
    refine J.gp ok_La_classes 2 (16, [(0, .ref 0), (1, .int x), (2, .ref 48)], [.int 0], _, _, _) rfl ?_
    exact J.fin ⟨some (.int 0), Or.inl ⟨0, (show decode M_La_classes.2.2.1 16 = .ok (.ireturn, 1) from by decide +kernel), ⟨.int, rfl, rfl⟩, rfl, rfl⟩, Or.inl ⟨y0, q, f, h, hf, rfl, rfl⟩⟩
  · have hE := hX E q h
    subst hE
    refine ⟨13, h_La_classes_IAE, JT.ofJ ?_⟩
    refine J.gp ok_La_classes 1 (14, [], [.int 1], _, _, _) rfl ?_
    exact J.fin ⟨some (.int 1), Or.inl ⟨1, (show decode M_La_classes.2.2.1 14 = .ok (.ireturn, 1) from by decide +kernel), ⟨.int, rfl, rfl⟩, rfl, rfl⟩, Or.inr ⟨_, h, ⟨rfl, rfl⟩⟩⟩

theorem hL_compare {hp : aH} {x y : Int32} {fs : List Value} {mc ms : Nat} {O : Option Value → aH → Prop} {X : String → aH → Prop} (hrc : hp[0]? = some (.inr (9, fs))) (hM : JMX M_F_compare [.ref 0, .int x, .int y] hp mc ms O X) (hmc : mc ≤ 1) (hms : ms ≤ 6) (hO : ∀ v q, O v q → q.length = hp.length ∧ ∃ (y0 : Int32) (f : Nat → Int64), v = some (.int y0) ∧ hg q 48 = some (ox f)) (hX : ∀ E q, X E q → E = "java/lang/IllegalArgumentException" ∨ E = "java/lang/IllegalStateException") : JH M_La_compare [(0, 10, 13, 13), (0, 10, 17, 38)] [.ref 0, .int x, .int y, .ref 48] hp 1 6 (fun v q => (∃ (y0 : Int32) (q1 : aH) (f : Nat → Int64), O (some (.int y0)) q1 ∧ hg q1 48 = some (ox f) ∧ v = some (.int 0) ∧ q = q1.set 48 (ox (vp_updL f 0 y0.toInt64))) ∨ ∃ E, X E q ∧ ((E = "java/lang/IllegalArgumentException" ∧ v = some (.int 1)) ∨ (E = "java/lang/IllegalStateException" ∧ v = some (.int 2)))) := by
  refine JH.of (by decide +kernel) rfl (Nat.le_of_ble_eq_true rfl) ?_
  refine JT.go ok_La_compare 5 (5, [(0, .ref 0), (1, .int x), (2, .int y), (3, .ref 48)], [.int y, .int x, .ref 0, .int 0, .ref 48], hp, 1, 6) rfl ?_
  refine JT.callX (rest := [.int 0, .ref 48]) s_La_compare_5 0 [.int x, .int y] 9 fs _ rfl rfl rfl hrc (Nat.le_of_ble_eq_true rfl) hM hmc hms (fun v q h => (hO v q h).1) (fun v q h => ?_) (fun E q h => ?_)
  · obtain ⟨-, y0, f, rfl, hf⟩ := hO v q h
    refine JT.ofJ ?_
    refine J.gp ok_La_compare 1 (9, [(0, .ref 0), (1, .int x), (2, .int y), (3, .ref 48)], [.long y0.toInt64, .int 0, .ref 48], q, _, _) rfl ?_
    refine J.lastB ok_La_compare 10 0 rfl hf rfl (by decide) (by decide) ?_
    refine J.gp ok_La_compare 2 (22, [(0, .ref 0), (1, .int x), (2, .int y), (3, .ref 48)], [.int 0], _, _, _) rfl ?_
    exact J.fin ⟨some (.int 0), Or.inl ⟨0, (show decode M_La_compare.2.2.1 22 = .ok (.ireturn, 1) from by decide +kernel), ⟨.int, rfl, rfl⟩, rfl, rfl⟩, Or.inl ⟨y0, q, f, h, hf, rfl, rfl⟩⟩
  · have hE := hX E q h
    rcases hE with rfl | rfl
    · refine ⟨15, h_La_compare_IAE, JT.ofJ ?_⟩
      refine J.gp ok_La_compare 1 (16, [], [.int 1], _, _, _) rfl ?_
      exact J.fin ⟨some (.int 1), Or.inl ⟨1, (show decode M_La_compare.2.2.1 16 = .ok (.ireturn, 1) from by decide +kernel), ⟨.int, rfl, rfl⟩, rfl, rfl⟩, Or.inr ⟨_, h, (Or.inl ⟨rfl, rfl⟩)⟩⟩
    · refine ⟨19, h_La_compare_ISE, JT.ofJ ?_⟩
      refine J.gp ok_La_compare 1 (20, [], [.int 2], _, _, _) rfl ?_
      exact J.fin ⟨some (.int 2), Or.inl ⟨2, (show decode M_La_compare.2.2.1 20 = .ok (.ireturn, 1) from by decide +kernel), ⟨.int, rfl, rfl⟩, rfl, rfl⟩, Or.inr ⟨_, h, (Or.inr ⟨rfl, rfl⟩)⟩⟩

theorem hL_best {hp : aH} {x y : Int32} {fs : List Value} {mc ms : Nat} {O : Option Value → aH → Prop} {X : String → aH → Prop} (hrc : hp[0]? = some (.inr (9, fs))) (hM : JMX M_F_best [.ref 0, .int x, .int y] hp mc ms O X) (hmc : mc ≤ 1) (hms : ms ≤ 6) (hO : ∀ v q, O v q → q.length = hp.length ∧ ∃ (y0 : Int64) (f : Nat → Int64), v = some (.long y0) ∧ hg q 48 = some (ox f)) (hX : ∀ E q, X E q → E = "java/lang/IllegalArgumentException") : JH M_La_best [(0, 9, 12, 13)] [.ref 0, .int x, .int y, .ref 48] hp 1 6 (fun v q => (∃ (y0 : Int64) (q1 : aH) (f : Nat → Int64), O (some (.long y0)) q1 ∧ hg q1 48 = some (ox f) ∧ v = some (.int 0) ∧ q = q1.set 48 (ox (vp_updL f 0 y0))) ∨ ∃ E, X E q ∧ ((E = "java/lang/IllegalArgumentException" ∧ v = some (.int 1)))) := by
  refine JH.of (by decide +kernel) rfl (Nat.le_of_ble_eq_true rfl) ?_
  refine JT.go ok_La_best 5 (5, [(0, .ref 0), (1, .int x), (2, .int y), (3, .ref 48)], [.int y, .int x, .ref 0, .int 0, .ref 48], hp, 1, 6) rfl ?_
  refine JT.callX (rest := [.int 0, .ref 48]) s_La_best_5 0 [.int x, .int y] 9 fs _ rfl rfl rfl hrc (Nat.le_of_ble_eq_true rfl) hM hmc hms (fun v q h => (hO v q h).1) (fun v q h => ?_) (fun E q h => ?_)
  · obtain ⟨-, y0, f, rfl, hf⟩ := hO v q h
    refine JT.ofJ ?_
    refine J.lastB ok_La_best 9 0 rfl hf rfl (by decide) (by decide) ?_
    refine J.gp ok_La_best 2 (17, [(0, .ref 0), (1, .int x), (2, .int y), (3, .ref 48)], [.int 0], _, _, _) rfl ?_
    exact J.fin ⟨some (.int 0), Or.inl ⟨0, (show decode M_La_best.2.2.1 17 = .ok (.ireturn, 1) from by decide +kernel), ⟨.int, rfl, rfl⟩, rfl, rfl⟩, Or.inl ⟨y0, q, f, h, hf, rfl, rfl⟩⟩
  · have hE := hX E q h
    subst hE
    refine ⟨14, h_La_best_IAE, JT.ofJ ?_⟩
    refine J.gp ok_La_best 1 (15, [], [.int 1], _, _, _) rfl ?_
    exact J.fin ⟨some (.int 1), Or.inl ⟨1, (show decode M_La_best.2.2.1 15 = .ok (.ireturn, 1) from by decide +kernel), ⟨.int, rfl, rfl⟩, rfl, rfl⟩, Or.inr ⟨_, h, ⟨rfl, rfl⟩⟩⟩

theorem hL_count {hp : aH} {x : Int32} {fs : List Value} {mc ms : Nat} {O : Option Value → aH → Prop} {X : String → aH → Prop} (hrc : hp[0]? = some (.inr (9, fs))) (hM : JMX M_F_count [.ref 0, .int x] hp mc ms O X) (hmc : mc ≤ 1) (hms : ms ≤ 6) (hO : ∀ v q, O v q → q.length = hp.length ∧ ∃ (y0 : Int32) (f : Nat → Int64), v = some (.int y0) ∧ hg q 48 = some (ox f)) (hX : ∀ E q, X E q → E = "java/lang/IllegalArgumentException") : JH M_La_count [(0, 9, 12, 13)] [.ref 0, .int x, .ref 48] hp 1 6 (fun v q => (∃ (y0 : Int32) (q1 : aH) (f : Nat → Int64), O (some (.int y0)) q1 ∧ hg q1 48 = some (ox f) ∧ v = some (.int 0) ∧ q = q1.set 48 (ox (vp_updL f 0 y0.toInt64))) ∨ ∃ E, X E q ∧ ((E = "java/lang/IllegalArgumentException" ∧ v = some (.int 1)))) := by
  refine JH.of (by decide +kernel) rfl (Nat.le_of_ble_eq_true rfl) ?_
  refine JT.go ok_La_count 4 (4, [(0, .ref 0), (1, .int x), (2, .ref 48)], [.int x, .ref 0, .int 0, .ref 48], hp, 1, 6) rfl ?_
  refine JT.callX (rest := [.int 0, .ref 48]) s_La_count_4 0 [.int x] 9 fs _ rfl rfl rfl hrc (Nat.le_of_ble_eq_true rfl) hM hmc hms (fun v q h => (hO v q h).1) (fun v q h => ?_) (fun E q h => ?_)
  · obtain ⟨-, y0, f, rfl, hf⟩ := hO v q h
    refine JT.ofJ ?_
    refine J.gp ok_La_count 1 (8, [(0, .ref 0), (1, .int x), (2, .ref 48)], [.long y0.toInt64, .int 0, .ref 48], q, _, _) rfl ?_
    refine J.lastB ok_La_count 9 0 rfl hf rfl (by decide) (by decide) ?_
    refine J.gp ok_La_count 2 (16, [(0, .ref 0), (1, .int x), (2, .ref 48)], [.int 0], _, _, _) rfl ?_
    exact J.fin ⟨some (.int 0), Or.inl ⟨0, (show decode M_La_count.2.2.1 16 = .ok (.ireturn, 1) from by decide +kernel), ⟨.int, rfl, rfl⟩, rfl, rfl⟩, Or.inl ⟨y0, q, f, h, hf, rfl, rfl⟩⟩
  · have hE := hX E q h
    subst hE
    refine ⟨13, h_La_count_IAE, JT.ofJ ?_⟩
    refine J.gp ok_La_count 1 (14, [], [.int 1], _, _, _) rfl ?_
    exact J.fin ⟨some (.int 1), Or.inl ⟨1, (show decode M_La_count.2.2.1 14 = .ok (.ireturn, 1) from by decide +kernel), ⟨.int, rfl, rfl⟩, rfl, rfl⟩, Or.inr ⟨_, h, ⟨rfl, rfl⟩⟩⟩

theorem hL_table {hp : aH} {x y : Int32} {fs : List Value} {mc ms : Nat} {O : Option Value → aH → Prop} {X : String → aH → Prop} (hrc : hp[0]? = some (.inr (9, fs))) (hM : JMX M_F_table [.ref 0, .int x, .int y] hp mc ms O X) (hmc : mc ≤ 1) (hms : ms ≤ 6) (hO : ∀ v q, O v q → q.length = hp.length ∧ ∃ (y0 : Int32) (f : Nat → Int64), v = some (.int y0) ∧ hg q 48 = some (ox f)) (hX : ∀ E q, X E q → E = "java/lang/IndexOutOfBoundsException") : JH M_La_table [(0, 10, 13, 19)] [.ref 0, .int x, .int y, .ref 48] hp 1 6 (fun v q => (∃ (y0 : Int32) (q1 : aH) (f : Nat → Int64), O (some (.int y0)) q1 ∧ hg q1 48 = some (ox f) ∧ v = some (.int 0) ∧ q = q1.set 48 (ox (vp_updL f 0 y0.toInt64))) ∨ ∃ E, X E q ∧ ((E = "java/lang/IndexOutOfBoundsException" ∧ v = some (.int 1)))) := by
  refine JH.of (by decide +kernel) rfl (Nat.le_of_ble_eq_true rfl) ?_
  refine JT.go ok_La_table 5 (5, [(0, .ref 0), (1, .int x), (2, .int y), (3, .ref 48)], [.int y, .int x, .ref 0, .int 0, .ref 48], hp, 1, 6) rfl ?_
  refine JT.callX (rest := [.int 0, .ref 48]) s_La_table_5 0 [.int x, .int y] 9 fs _ rfl rfl rfl hrc (Nat.le_of_ble_eq_true rfl) hM hmc hms (fun v q h => (hO v q h).1) (fun v q h => ?_) (fun E q h => ?_)
  · obtain ⟨-, y0, f, rfl, hf⟩ := hO v q h
    refine JT.ofJ ?_
    refine J.gp ok_La_table 1 (9, [(0, .ref 0), (1, .int x), (2, .int y), (3, .ref 48)], [.long y0.toInt64, .int 0, .ref 48], q, _, _) rfl ?_
    refine J.lastB ok_La_table 10 0 rfl hf rfl (by decide) (by decide) ?_
    refine J.gp ok_La_table 2 (18, [(0, .ref 0), (1, .int x), (2, .int y), (3, .ref 48)], [.int 0], _, _, _) rfl ?_
    exact J.fin ⟨some (.int 0), Or.inl ⟨0, (show decode M_La_table.2.2.1 18 = .ok (.ireturn, 1) from by decide +kernel), ⟨.int, rfl, rfl⟩, rfl, rfl⟩, Or.inl ⟨y0, q, f, h, hf, rfl, rfl⟩⟩
  · have hE := hX E q h
    subst hE
    refine ⟨15, h_La_table_IOE, JT.ofJ ?_⟩
    refine J.gp ok_La_table 1 (16, [], [.int 1], _, _, _) rfl ?_
    exact J.fin ⟨some (.int 1), Or.inl ⟨1, (show decode M_La_table.2.2.1 16 = .ok (.ireturn, 1) from by decide +kernel), ⟨.int, rfl, rfl⟩, rfl, rfl⟩, Or.inr ⟨_, h, ⟨rfl, rfl⟩⟩⟩
