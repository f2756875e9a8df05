/-! THROWS: contracts that return or throw, the sites of throws, calls under a handler -/
theorem va_P_grow {D : va_G} {cl : List vw_C} {ws : va_W} {H H1 : Heap} (h : va_P D cl ws H) (hk : ∀ q : Nat, q < H.size → H1[q]? = H[q]?) : va_P D cl ws H1 := fun k q hq => (h k q hq).kept (hk _ (h k q hq).lt)
def thrW (own : String) (ik ic : Nat) (E : String) : List Cond := Cond.classLink own ik E :: Cond.initialized E :: vx_atS own ic E ["java/lang/RuntimeException", "java/lang/Exception"]
def dclW : List MethodName := [⟨"java/lang/RuntimeException", "<init>", "(Ljava/lang/String;)V"⟩, ⟨"java/lang/Exception", "<init>", "(Ljava/lang/String;)V"⟩, ⟨"java/lang/Throwable", "<init>", "(Ljava/lang/String;)V"⟩]
theorem dcl_of {x : MethodName} {b : ByteArray} {k : Nat} {r : Option FieldType} {args : Array Value} {s : State} (h1 : (Cond.instanceMethod x).before args s = true) (h2 : (Cond.code x b k r).before args s = true) : (Cond.declares x).before args s = true := by
  obtain ⟨m, meth, hn, hm, hst, -⟩ := Cond.instanceMethod_spec h1
  obtain ⟨meth', c, hm', -, -, -, -, -, -, hsig⟩ := Cond.code_spec hn h2
  cases hm.symm.trans hm'
  show (Cond.declares x).holds args s none s [] = true
  simp [Cond.holds, Cond.value, hn, hm, hst, hsig]
def thrOK (w : Cond) : Prop := (w ∈ aT ∨ ∃ x, w = Cond.declares x ∧ Cond.instanceMethod x ∈ aT ∧ ∃ b k r, Cond.code x b k r ∈ aT) ∧ vx_ot w = true
theorem dcl_in : ∀ x ∈ dclW, Cond.instanceMethod x ∈ aT ∧ ∃ b k r, Cond.code x b k r ∈ aT := by
  intro x hx
  rcases List.mem_cons.mp hx with e | hx
  · rw [e]; exact ⟨aT_in (List.mem_of_getElem? (i := 814) (by decide +kernel)) (by decide +kernel), _, _, _, (show Cond.code ⟨"java/lang/RuntimeException","<init>","(Ljava/lang/String;)V"⟩ prog_19_method_2_code 2 none ∈ aT from aT_in (List.mem_of_getElem? (i := 815) (by decide +kernel)) (by decide +kernel))⟩
  rcases List.mem_cons.mp hx with e | hx
  · rw [e]; exact ⟨aT_in (List.mem_of_getElem? (i := 817) (by decide +kernel)) (by decide +kernel), _, _, _, (show Cond.code ⟨"java/lang/Exception","<init>","(Ljava/lang/String;)V"⟩ prog_13_method_2_code 2 none ∈ aT from aT_in (List.mem_of_getElem? (i := 818) (by decide +kernel)) (by decide +kernel))⟩
  · rw [List.mem_singleton.mp hx]; exact ⟨aT_in (List.mem_of_getElem? (i := 820) (by decide +kernel)) (by decide +kernel), _, _, _, (show Cond.code ⟨"java/lang/Throwable","<init>","(Ljava/lang/String;)V"⟩ prog_21_method_2_code 2 none ∈ aT from aT_in (List.mem_of_getElem? (i := 821) (by decide +kernel)) (by decide +kernel))⟩
theorem thrW_in (ws : List Cond) (ps : List Nat) (hp : ws = ps.filterMap (fun i => lw_tbl[i]?)) (h : ws.all (fun w => (goodWord w || (nestW w || dclW.any (fun x => decide (w = Cond.declares x)))) && vx_ot w) = true) : ∀ w ∈ ws, thrOK w := by
  intro w hw
  have h1 := List.all_eq_true.mp h w hw
  obtain ⟨h2, h3⟩ := Bool.and_eq_true_iff.mp h1
  rw [hp] at hw
  obtain ⟨i, -, hi⟩ := List.mem_filterMap.mp hw
  have hm : w ∈ lw_tbl := List.mem_of_getElem? hi
  refine ⟨?_, h3⟩
  rcases Bool.or_eq_true_iff.mp h2 with g | g
  · exact Or.inl (aT_in hm g)
  · rcases Bool.or_eq_true_iff.mp g with g | g
    · exact Or.inl (aT_inN hm g)
    · obtain ⟨x, hx, hw⟩ := List.any_eq_true.mp g
      exact Or.inr ⟨x, of_decide_eq_true hw, dcl_in x hx⟩
theorem thrOK.at {w : Cond} (h : thrOK w) {args : Array Value} {s : State} (ht : ∀ w ∈ aT, w.before args s = true) : w.before args s = true := by
  rcases h.1 with g | ⟨x, e, h1, b, k, r, h2⟩
  · exact ht w g
  · rw [e]
    exact dcl_of (ht _ h1) (ht _ h2)
/-- a throw: new; dup; ldc; invokespecial; athrow -/
def aThr (M : aM) (pc : Nat) (E : String) : Prop := ∃ ik is ic text, Bundle.fit E = true ∧ (∀ w ∈ thrW M.2.1 ik ic E, thrOK w) ∧ (M.2.1, is, text) ∈ aStr ∧ decode M.2.2.1 pc = .ok (.new ik, 3) ∧ decode M.2.2.1 (pc + 3) = .ok (.dup, 1) ∧
  ((decode M.2.2.1 (pc + 4) = .ok (.ldc is, 2) ∧ decode M.2.2.1 (pc + 6) = .ok (.invokespecial ic, 3) ∧ decode M.2.2.1 (pc + 9) = .ok (.athrow, 1)) ∨ (decode M.2.2.1 (pc + 4) = .ok (.ldc_w is, 3) ∧ decode M.2.2.1 (pc + 7) = .ok (.invokespecial ic, 3) ∧ decode M.2.2.1 (pc + 10) = .ok (.athrow, 1))) ∧ 6 ≤ M.2.2.2.2.2.1 ∧ 82 ≤ M.2.2.2.2.2.2.1
def JX (M : aM) (sc : aScr) (S : aS) (O : Option Value → aH → Prop) (X : String → aH → Prop) : Prop := J M sc S (fun T => (∃ v, aRet M T v ∧ O v T.2.2.2.1) ∨ ∃ E, aThr M T.1 E ∧ T.2.2.1 = [] ∧ 1 ≤ T.2.2.2.2.1 ∧ 6 ≤ T.2.2.2.2.2 ∧ X E T.2.2.2.1)
theorem JX.ofR {M : aM} {sc : aScr} {S : aS} {O : Option Value → aH → Prop} {X : String → aH → Prop} (h : JR M sc S O) : JX M sc S O X := J.mono h (fun _ h => Or.inl h)
theorem JX.thr {M : aM} {sc : aScr} {pc : Nat} {lv : List (Nat × Value)} {hp : aH} {k n : Nat} {O : Option Value → aH → Prop} {X : String → aH → Prop} {E : String} (ht : aThr M pc E) (hk : 1 ≤ k) (hn : 6 ≤ n) (hX : X E hp) : JX M sc (pc, lv, [], hp, k, n) O X := J.fin (Or.inr ⟨E, ht, rfl, hk, hn, hX⟩)
theorem JX.iret {M : aM} {sc : aScr} {pc : Nat} {lv : List (Nat × Value)} {x : Int32} {hp : aH} {k n : Nat} {O : Option Value → aH → Prop} {X : String → aH → Prop} (ty : FieldType) (hd : decode M.2.2.1 pc = .ok (.ireturn, 1)) (hr : M.2.2.2.2.1 = some ty) (hn : narrow ty (.int x) = .int x) (hO : O (some (.int x)) hp) : JX M sc (pc, lv, [.int x], hp, k, n) O X := JX.ofR (JR.iret ty hd hr hn hO)
theorem JX.lret {M : aM} {sc : aScr} {pc : Nat} {lv : List (Nat × Value)} {x : Int64} {hp : aH} {k n : Nat} {O : Option Value → aH → Prop} {X : String → aH → Prop} (hd : decode M.2.2.1 pc = .ok (.lreturn, 1)) (hr : M.2.2.2.2.1 = some .long) (hO : O (some (.long x)) hp) : JX M sc (pc, lv, [.long x], hp, k, n) O X := JX.ofR (JR.lret hd hr hO)
def aXo (D : va_G) (ca : Nat → ClassId) (ad : Nat → Nat) (hp : aH) (sz : Nat) (X : String → aH → Prop) : String → State → State → Prop := fun E st t =>
  (∃ hp' ad', X E hp' ∧ aExt ad hp.length ad' hp'.length ∧ va_P D vwCl (wl ca ad' hp') t.heap ∧ va_D (va_A (wl ca ad hp) sz) (wl ca ad' hp')) ∧ va_F (va_A (wl ca ad hp) sz) st t
def JMX (M : aM) (av : List Value) (hp : aH) (mc ms : Nat) (O : Option Value → aH → Prop) (X : String → aH → Prop) : Prop :=
  ∀ l : Launch, l.stackTraces = false → ∀ (D : va_G) (ca : Nat → ClassId) (ad : Nat → Nat) (sz : Nat), vx_Met l M.1 (aWs M) (aRm M mc ms) (aPre D ca ad av hp sz) (fun _ => aPost D ca ad hp sz O) (aXo D ca ad hp sz X) mc ms (va_A (wl ca ad hp) sz)
theorem JMX.mono {M : aM} {av : List Value} {hp : aH} {mc ms : Nat} {O O' : Option Value → aH → Prop} {X X' : String → aH → Prop} (h : JMX M av hp mc ms O X) (hO : ∀ v q, O v q → O' v q) (hX : ∀ E q, X E q → X' E q) : JMX M av hp mc ms O' X' := by
  intro l hl D ca ad sz
  refine MetFree.mono (h l hl D ca ad sz) (fun _ _ q => q) (fun _ _ _ _ _ q => q) ?_
  rintro a st o t - (⟨⟨⟨v, e1, w, hp', ad', e2, h1, h2⟩, hF⟩, hL⟩ | ⟨q, e0, E, ce, L, ⟨⟨hp', ad', h1, h2⟩, hF⟩, h3⟩)
  · exact Or.inl ⟨⟨⟨v, e1, w, hp', ad', e2, hO _ _ h1, h2⟩, hF⟩, hL⟩
  · exact Or.inr ⟨q, e0, E, ce, L, ⟨⟨hp', ad', hX _ _ h1, h2⟩, hF⟩, h3⟩
theorem JMX.of {M : aM} {av : List Value} {hp : aH} {mc ms : Nat} {O : Option Value → aH → Prop} {X : String → aH → Prop} (hpl : plainName M.1.cls = true) (hown : M.2.1 = M.1.cls) (hsz : (lg_sl av).length ≤ M.2.2.2.1) (h : JX M none (0, lv_args 0 av, [], hp, mc, ms) O X) : JMX M av hp mc ms O X := by
  intro l hl D ca ad sz
  refine vx_ofW (cc := M.2.2.1) (maxL := M.2.2.2.1) (ret := M.2.2.2.2.1) hpl rfl ?_
  intro p e s m args below meth c s₁ B hml hnot hv
  obtain ⟨rfl, hsz', hP, hD0, hK, hE⟩ := hv
  have hts := atoms_spec (ws := aWs M) B.pre
  have hts2 : ∀ w ∈ aT, w.before (av.map (cvV ad)).toArray s = true := by
    intro w hw
    rcases List.mem_append.mp hw with g | g
    · exact hts w (List.mem_cons_of_mem _ g)
    · have hn := (List.mem_filter.mp g).2
      have := hE.2.2.2.1 w g
      cases w with
      | fieldLinkNest a i b n d x => exact va_Nw.use rfl this
      | methodLinkNest a i x y => exact va_Nw.use rfl this
      | castable a b => exact va_Nw.use rfl this
      | _ => cases hn
  have hown' : s.vm.findClass M.2.1 = some m.cls := by rw [hown]; exact findClass_of_methodNamed B.named
  have hname : meth.name = M.1.name := (name_of_methodNamed B.named B.method).1
  subst hsz'
  have hD := hD0.self (sz := s.heap.size)
  have hlv := lv_entry (av.map (cvV ad)) (n := M.2.2.2.1) (by rw [lg_sl_len]; exact hsz)
  rw [lv_args_cv] at hlv
  rw [lg_entry_eq]
  refine h p l e (aRm M mc ms) s m _ below meth c D ca (va_A (wl ca ad hp) s.heap.size) _ ⟨B.exec, B.bytes, hml, hown', hts2, B.notSynchronized, hname, B.returns, hl, Nat.le_refl _, Nat.le_refl _, hK, fun q hq => Or.inr hq, hE⟩ ad s.heap [] 0 0 _ ⟨hP, hD, va_S.rf, hlv, by show 0 + mc ≤ mc; omega, by show 0 + ms ≤ ms; omega, trivial⟩ ?_
  intro T ad' H' locs' cells' slots' ls' hT hx hd
  rcases hT with ⟨v, hret, hO⟩ | ⟨E, hthr, hst0, hk1, hn6, hXX⟩
  · obtain ⟨hP', hD', hS', hl', hc', hs', -⟩ := hd
    refine W.widen (k := mc) (n := ms) (by have : cells' + _ ≤ mc := hc'; omega) (by have : slots' + _ ≤ ms := hs'; omega) ?_
    have hq : ∀ (w : Option Value), v = w → ∀ (t : State), t.heap = H' → s.WarmedH t.vm → aPost D ca ad hp s.heap.size O s (.returned (w.map (cvV ad'))) t := by
      intro w hw t ht hW
      subst hw
      exact ⟨⟨_, rfl, v, T.2.2.2.1, ad', rfl, hO, hx, by rw [ht]; exact hP', hD'⟩, hS'.F ht⟩
    obtain ⟨pc, lv, st, hp', k, n⟩ := T
    rcases hret with ⟨x, h1, ⟨ty, h2, h3⟩, h4, h5⟩ | ⟨x, h1, h2, h4, h5⟩ | ⟨x, h1, h2, h4, h5⟩ | ⟨h1, h2, h4, h5⟩
    · dsimp only at h4
      subst h4
      exact vx_ret (W.zret (v := x) B.exec B.bytes (B.returns.trans h2) h3 (hq _ h5) hS'.2.2 h1)
    · dsimp only at h4
      subst h4
      exact vx_ret (W.lret (v := x) B.exec B.bytes (B.returns.trans h2) (hq _ h5) hS'.2.2 h1)
    · dsimp only at h4
      subst h4
      exact vx_ret (W.dret (v := x) (hlocks := B.notSynchronized) B.exec B.bytes (B.returns.trans h2) (hq _ h5) hS'.2.2 h1)
    · dsimp only at h4
      subst h4
      exact vx_ret (W.vret B.exec B.bytes (B.returns.trans h2) (hq _ h5) hS'.2.2 h1)
  · obtain ⟨hP', hD', hS', hl', hc', hs', -⟩ := hd
    obtain ⟨pc, lv, st, hp', k, n⟩ := T
    dsimp only at hst0 hk1 hn6 hc' hs' hthr hXX hx hP' hD' hl'
    subst hst0
    obtain ⟨ik, is, ic, text, hfit, hw, hstr, d0, d3, d47, hfr, hlo⟩ := hthr
    obtain ⟨sa, hsa⟩ := hE.2.2.1 _ hstr
    have hat : ∀ w ∈ thrW M.2.1 ik ic E, w.before (av.map (cvV ad)).toArray s = true := fun w hw' => (hw w hw').at hts2
    have hxx : ∀ t : State, s.vm.Alike t.vm → H'.size ≤ t.heap.size → (∀ q : Nat, q < H'.size → t.heap[q]? = H'[q]?) → aXo D ca ad hp s.heap.size X E s t := fun t _ h1 h2 =>
      ⟨⟨hp', ad', hXX, hx, va_P_grow hP' h2, hD'⟩, Nat.le_trans hS'.1 h1, fun q h3 h4 => by rw [h2 q (Nat.lt_of_lt_of_le h3 hS'.1)]; exact hS'.2.1 q h3 h4⟩
    have hcc : cells' + 1 ≤ mc := by have : cells' + k ≤ mc := hc'; omega
    have hss : slots' + 6 ≤ ms := by have : slots' + n ≤ ms := hs'; omega
    rcases d47 with ⟨d4, d6, d9⟩ | ⟨d4, d7, d10⟩
    · exact vx_throwS (rest := []) (names := ["java/lang/RuntimeException", "java/lang/Exception"]) B.exec B.bytes hl hown' hfit (by decide +kernel) (hat _ List.mem_cons_self) (hat _ (List.mem_cons_of_mem _ List.mem_cons_self)) hsa (fun w h => hat w (List.mem_cons_of_mem _ (List.mem_cons_of_mem _ h))) (fun w h => (hw w h).2) hE.1 hE.2.1 hS' (hl'.1.trans hml.symm) d0 d3 d4 d6 d9 (fun x h => (hnot x h).elim) (by show 5 < M.2.2.2.2.2.1; omega) (by show 0 + 82 ≤ M.2.2.2.2.2.2.1; omega) hcc hss B.notSynchronized hxx hS'.2.2 hcc hss
    · exact vx_throwSW (rest := []) (names := ["java/lang/RuntimeException", "java/lang/Exception"]) B.exec B.bytes hl hown' hfit (by decide +kernel) (hat _ List.mem_cons_self) (hat _ (List.mem_cons_of_mem _ List.mem_cons_self)) hsa (fun w h => hat w (List.mem_cons_of_mem _ (List.mem_cons_of_mem _ h))) (fun w h => (hw w h).2) hE.1 hE.2.1 hS' (hl'.1.trans hml.symm) d0 d3 d4 d7 d10 (fun x h => (hnot x h).elim) (by show 5 < M.2.2.2.2.2.1; omega) (by show 0 + 82 ≤ M.2.2.2.2.2.2.1; omega) hcc hss B.notSynchronized hxx hS'.2.2 hcc hss
/-- runs of a method with a table of handlers -/
abbrev aHh : Type := List (Nat × Nat × Nat × Nat)
def JT (M : aM) (hh : aHh) (sc : aScr) (S : aS) (Q : aS → Prop) : Prop :=
  ∀ (p : Program) (l : Launch) (e : Env) (R : Room) (s : State) (m : MethodId) (args : Array Value) (below : List Frame) (meth : Method) (c : Code) (D : va_G) (ca : Nat → ClassId) (A : Nat → Prop) (Z : State → Prop),
  aSt M p l R s m args meth c D ca A → c.exceptionTable.toList = tableOf hh → ∀ (ad : Nat → Nat) (H : Heap) (locs : List Loc) (cells slots : Nat) (ls : Array Slot), aDy M sc R s D ca A ad S H locs cells slots ls →
  (∀ (T : aS) (ad' : Nat → Nat) (H' : Heap) (locs' : List Loc) (cells' slots' : Nat) (ls' : Array Slot), Q T → aExt ad S.2.2.2.1.length ad' T.2.2.2.1.length → aDy M sc R s D ca A ad' T H' locs' cells' slots' ls' → W p l e R s m args below meth c H' locs' cells' slots' Z (aF m ls' ad' T)) →
  W p l e R s m args below meth c H locs cells slots Z (aF m ls ad S)
theorem JT.ofJ {M : aM} {hh : aHh} {sc : aScr} {S : aS} {Q : aS → Prop} (h : J M sc S Q) : JT M hh sc S Q :=
  fun p l e R s m args below meth c D ca A Z hs _ ad H locs cells slots ls hd kk => h p l e R s m args below meth c D ca A Z hs ad H locs cells slots ls hd kk
theorem JT.tr {M : aM} {hh : aHh} {sc : aScr} {S : aS} {Q Q' : aS → Prop} (h : J M sc S Q) (hq : ∀ T, Q T → JT M hh sc T Q') : JT M hh sc S Q' :=
  fun p l e R s m args below meth c D ca A Z hs ht ad H locs cells slots ls hd kk => h p l e R s m args below meth c D ca A Z hs ad H locs cells slots ls hd (fun T ad' H' locs' cells' slots' ls' hT hx hd' => hq T hT p l e R s m args below meth c D ca A Z hs ht ad' H' locs' cells' slots' ls' hd' (fun U ad2 H2 locs2 c2 s2 ls2 hU hx2 hd2 => kk U ad2 H2 locs2 c2 s2 ls2 hU (hx.tr hx2) hd2))
theorem JT.go {M : aM} {hh : aHh} {sc : aScr} (h : aTb M sc) (k : Nat) {S : aS} (T : aS) {Q : aS → Prop} (hk : mv M k S = some T) (kk : JT M hh sc T Q) : JT M hh sc S Q := JT.tr (J.gp h k (Q := fun U => U = T) T hk (J.fin rfl)) (fun U e => by rw [e]; exact kk)
/-- the handler that takes E, thrown at pc: it stores what it got; nx is behind that -/
def aHan (M : aM) (hh : aHh) (pc : Nat) (E : String) (nx : Nat) : Prop := ∃ pre x suf, tableOf hh = pre ++ x :: suf ∧ (∀ z ∈ pre, z.catchType ≠ 0 ∧ ∃ nm : String, Cond.classLink M.2.1 z.catchType nm ∈ aT ∧ (E, nm) ∈ aNC) ∧ covers x pc = true ∧ x.catchType ≠ 0 ∧ Cond.classLink M.2.1 x.catchType E ∈ aT ∧ Cond.castable E E ∈ aT ∧
  ((∃ k : Fin 4, decode M.2.2.1 x.handlerPc = .ok (.astore_n k, 1) ∧ (k : Nat) < M.2.2.2.1 ∧ nx = x.handlerPc + 1) ∨ ∃ i : Nat, decode M.2.2.1 x.handlerPc = .ok (.astore i, 2) ∧ i < M.2.2.2.1 ∧ nx = x.handlerPc + 2)
theorem JT.callX {M N : aM} {hh : aHh} {sc : aScr} {pc np : Nat} {lv : List (Nat × Value)} {rest : List Value} {hp : aH} {k n mc ms : Nat} {O : Option Value → aH → Prop} {X : String → aH → Prop} {Q : aS → Prop} (site : aSV M N pc np) (a : Nat) (av : List Value) (ci : Nat) (fs : List Value) (q : vw_C) (hnp : av.length = np) (hci : vwCl[ci]? = some q) (hq : q.1 = N.1.cls) (hrc : hp[a]? = some (.inr (ci, fs))) (hcat : (rest.map fun v => v.category).sum ≤ 8) (hM : JMX N (.ref a :: av) hp mc ms O X) (hmc : mc ≤ k) (hms : ms ≤ n) (hno : ∀ v hp', O v hp' → hp'.length = hp.length)
    (kk : ∀ v hp', O v hp' → JT M hh sc (pc + 3, lv, v.toList ++ rest, hp', k - mc, n - ms) Q)
    (kx : ∀ E hp', X E hp' → ∃ nx, aHan M hh pc E nx ∧ JT M hh sc (nx, [], [], hp', k - mc, n - ms) Q) : JT M hh sc (pc, lv, av.reverse ++ .ref a :: rest, hp, k, n) Q := by
  obtain ⟨idx, hdc, hlk0, hi, hse, hco, hini, hdd, hfr, hlo⟩ := site
  intro p l e R s m args below meth c D ca A Z hs htab ad H locs cells slots ls hd KK
  have hs0 := hs
  obtain ⟨hx, hb, hml, hown, hts, hlk, hnm, hrt, hst, hfR, hlR, hK, hA, hE⟩ := hs
  have hd0 := hd
  obtain ⟨hP, hD, hS, hl, hc, hsl, hX⟩ := hd
  dsimp only at hP hD hS hl hc hsl hX
  have htsG : ∀ w ∈ aG, w.before args s = true := fun w hw => hts w (aG_sub hw)
  have hF : ∀ q, va_A (wl ca ad hp) H.size q → A q := by
    intro q hq
    rcases hq with ⟨i, e9, hi⟩ | hq
    · exact hD.2 i _ hi
    · exact hA q (Nat.le_trans hS.1 hq)
  have hbl : ∀ (av : List Value), FrameBlind (aPre D ca ad av hp H.size) := by
    intro av a U g mk q
    obtain ⟨q0, q1, qP, qD, qK, qE⟩ := q
    exact ⟨q0, q1, qP, qD, va_K.moved (u := U) (U := U.calling g mk a) (Vm.Alike.refl U.vm) qK, qE.calling g mk a⟩
  have hpr : ∀ (av : List Value) (U : State), U.heap = H → s.WarmedH U.vm → aPre D ca ad av hp H.size (av.map (cvV ad)).toArray U := by
    intro av U hU hW
    exact ⟨rfl, by rw [hU], by rw [hU]; exact hP, hD.weaken (fun _ _ _ _ => trivial), va_K.moved hW.alike hK, hE.go hS hU hW hF⟩
  have hrv := va_recv (q0 := a) hK hP hci (wl_obj hrc)
  rw [hq] at hrv
  have hrun := vx_runV (e := e) (meth := meth) (below := below) (As := av.map (cvV ad)) (rest := rest.map (cvV ad)) (b := ad a) (C := N.1.cls) (own := M.2.1) (g := F0 m pc ls ((av.reverse ++ .ref a :: rest).map (cvV ad))) (Ts := aG) (n := np) ⟨hx, hb, hml, hown, htsG⟩ (hM l hst D ca ad H.size)
    ⟨callB_of np htsG (aWs_good N hco) rfl rfl rfl (htsG _ hini) (htsG _ hlk0) hdd ⟨Nat.le_trans hfr hfR, Nat.le_trans hlo hlR⟩, htsG _ hi, htsG _ hse⟩
    ⟨hbl _, hrv, fun U hU hW => hpr (.ref a :: av) U hU hW⟩ rfl (by rw [List.length_map]; exact hnp) hl.1
    (by show List.map (cvV ad) (av.reverse ++ .ref a :: rest) = _; rw [List.map_append, List.map_reverse]; rfl) (by show 2 * 0 + _ ≤ 8; rw [cv_cat]; omega) hdc (cells := cells) (slots := slots) (locs := locs) ⟨by have : cells + k ≤ R.cells := hc; omega, by have : slots + n ≤ R.slots := hsl; omega⟩
  intro T hT X0
  have hS2 : ∀ (st₀ t T' : State) (L : List Loc), st₀.heap = H → T'.heap = t.heap → (∀ q ∈ L, va_A (wl ca ad hp) H.size q.base) → va_F (va_A (wl ca ad hp) H.size) st₀ t → va_S A s.heap T'.heap (locs ++ L) := by
    intro st₀ t T' L h0 e1 hL hFF
    obtain ⟨hz, hk⟩ := hFF
    rw [h0] at hz hk
    exact ⟨Nat.le_trans hS.1 (by rw [e1]; exact hz), fun q h1 h2 => by
      rw [e1, hk q (Nat.lt_of_lt_of_le h1 hS.1) (fun z => h2 (hF q z))]
      exact hS.2.1 q h1 h2, fun q hq => by
      rcases List.mem_append.mp hq with h | h
      · exact hS.2.2 q h
      · exact hF _ (hL q h)⟩
  have hX2 : ∀ ad' n', aExt ad hp.length ad' n' → aX sc s A ad' := by
    intro ad' n' hx2
    unfold aX at hX ⊢
    split
    · trivial
    · dsimp only at hX
      rw [hx2.2.2 1000 (Or.inr rfl)]
      exact hX
  rcases hrun T hT X0 with ⟨v, st₀, t, T', L, h0, X', hL, e1, e2, ⟨⟨v', hv', w, hp', ad', hw, hO, hx2, hP1, hD1⟩, hFF⟩, stp⟩ | ⟨q9, st₀, t, T', L, E, ce, h0, X', hL, e1, e2, ⟨⟨hp', ad', hXX, hx2, hP1, hD1⟩, hFF⟩, hce, hcv, hcl, stp⟩
  · cases hv'
    subst hw
    have had : ad' = ad := hx2.2.1 (hno _ _ hO)
    have := kk w hp' hO p l e R s m args below meth c D ca A Z hs0 htab ad' T'.heap (locs ++ L) (cells + mc) (slots + ms) ls
      ⟨by rw [e1]; exact hP1, hD1.weaken (fun _ q _ hq => hF _ hq), hS2 _ _ _ _ h0 e1 hL hFF, by rw [had]; exact hl, by dsimp only; omega, by dsimp only; omega, hX2 _ _ hx2⟩
      (fun U ad2 H2 locs2 c2 s2 ls2 hU hx3 hd2 => KK U ad2 H2 locs2 c2 s2 ls2 hU (hx2.tr hx3) hd2)
    obtain ⟨t2, a1, b1⟩ := this T' rfl X'
    refine ⟨t2, stp t2 ?_, b1⟩
    have e3 : aF m ls ad' (pc + 3, lv, w.toList ++ rest, hp', k - mc, n - ms) = { (F0 m pc ls ((av.reverse ++ .ref a :: rest).map (cvV ad))) with pc := (F0 m pc ls ((av.reverse ++ .ref a :: rest).map (cvV ad))).pc + 3, stack := (Option.map (cvV ad') w).toList ++ rest.map (cvV ad) } := by
      show F0 m (pc + 3) ls ((w.toList ++ rest).map (cvV ad')) = F0 m (pc + 3) ls ((Option.map (cvV ad') w).toList ++ rest.map (cvV ad))
      rw [List.map_append, had]
      cases w <;> rfl
    rw [← e3]
    exact a1
  · obtain ⟨nx, ⟨pre, x, suf, hsp, hpre, hcov, hct, hlk1, hcas, hast⟩, hJ⟩ := kx E hp' hXX
    have hW : W p l e R s m args below meth c T'.heap (locs ++ L) (cells + mc) (slots + ms) Z (F0 m x.handlerPc ls [.ref q9]) := by
      have hJ2 : ∀ ls', lv_has ls' M.2.2.2.1 [] → W p l e R s m args below meth c T'.heap (locs ++ L) (cells + mc) (slots + ms) Z (F0 m nx ls' []) := by
        intro ls' hl'
        exact hJ p l e R s m args below meth c D ca A Z hs0 htab ad' T'.heap (locs ++ L) (cells + mc) (slots + ms) ls'
          ⟨by rw [e1]; exact hP1, hD1.weaken (fun _ q _ hq => hF _ hq), hS2 _ _ _ _ h0 e1 hL hFF, hl', by dsimp only; omega, by dsimp only; omega, hX2 _ _ hx2⟩
          (fun U ad2 H2 locs2 c2 s2 ls2 hU hx3 hd2 => KK U ad2 H2 locs2 c2 s2 ls2 hU (hx2.tr hx3) hd2)
      rcases hast with ⟨kf, h1, h2, rfl⟩ | ⟨i, h1, h2, rfl⟩
      · exact lv_astore_n hx hb h1 rfl (lv_sub hl [] rfl) h2 rfl (fun ls' h => hJ2 ls' (lv_sub h [] rfl))
      · exact lv_astore hx hb h1 (lv_sub hl [] rfl) h2 rfl (fun ls' h => hJ2 ls' (lv_sub h [] rfl))
    have := vx_catch (rest := rest.map (cvV ad)) (pc := pc) hown pre x suf (by rw [htab]; exact hsp) (fun z hz => Or.inr ⟨(hpre z hz).1, (hpre z hz).2.elim (fun nm h => ⟨nm, hts _ h.1, hE.2.2.2.2 _ h.2⟩)⟩) hcov hct (hts _ hlk1) (hts _ hcas) (by rw [e1]; exact hce) hcv hcl hW
    obtain ⟨t2, a1, b1⟩ := this T' rfl X'
    exact ⟨t2, stp.trans a1, b1⟩
/-- a contract of a method with handlers -/
abbrev aWsH (M : aM) (hh : aHh) : List Cond := Cond.codeWith M.1 M.2.2.1 M.2.2.2.1 M.2.2.2.2.1 hh :: aG
def JH (M : aM) (hh : aHh) (av : List Value) (hp : aH) (mc ms : Nat) (O : Option Value → aH → Prop) : Prop :=
  ∀ l : Launch, l.stackTraces = false → ∀ (D : va_G) (ca : Nat → ClassId) (ad : Nat → Nat) (sz : Nat), Met l M.1 (aWsH M hh) (aRm M mc ms) (aPre D ca ad av hp sz) (fun _ => aPost D ca ad hp sz O) mc ms (va_A (wl ca ad hp) sz)
theorem JH.of {M : aM} {hh : aHh} {av : List Value} {hp : aH} {mc ms : Nat} {O : Option Value → aH → Prop} (hpl : plainName M.1.cls = true) (hown : M.2.1 = M.1.cls) (hsz : (lg_sl av).length ≤ M.2.2.2.1) (h : JT M hh none (0, lv_args 0 av, [], hp, mc, ms) (fun T => ∃ v, aRet M T v ∧ O v T.2.2.2.1)) : JH M hh av hp mc ms O := by
  intro l hl D ca ad sz
  have hV : vx_Met l M.1 (aWsH M hh) (aRm M mc ms) (aPre D ca ad av hp sz) (fun _ => aPost D ca ad hp sz O) (fun _ _ _ => False) mc ms (va_A (wl ca ad hp) sz) := by
    refine vx_ofWH (hh := hh) (cc := M.2.2.1) (maxL := M.2.2.2.1) (ret := M.2.2.2.2.1) hpl rfl ?_
    intro p e s m args below meth c s₁ B hml hv
    obtain ⟨rfl, hsz', hP, hD0, hK, hE⟩ := hv
    have hts := atoms_spec (ws := aWsH M hh) B.pre
    have hts2 : ∀ w ∈ aT, w.before (av.map (cvV ad)).toArray s = true := by
      intro w hw
      rcases List.mem_append.mp hw with g | g
      · exact hts w (List.mem_cons_of_mem _ g)
      · have hn := (List.mem_filter.mp g).2
        have := hE.2.2.2.1 w g
        cases w with
        | fieldLinkNest a i b n d x => exact va_Nw.use rfl this
        | methodLinkNest a i x y => exact va_Nw.use rfl this
        | castable a b => exact va_Nw.use rfl this
        | _ => cases hn
    have hown' : s.vm.findClass M.2.1 = some m.cls := by rw [hown]; exact findClass_of_methodNamed B.named
    have hname : meth.name = M.1.name := (name_of_methodNamed B.named B.method).1
    subst hsz'
    have hD := hD0.self (sz := s.heap.size)
    have hlv := lv_entry (av.map (cvV ad)) (n := M.2.2.2.1) (by rw [lg_sl_len]; exact hsz)
    rw [lv_args_cv] at hlv
    rw [lg_entry_eq]
    refine h p l e (aRm M mc ms) s m _ below meth c D ca (va_A (wl ca ad hp) s.heap.size) _ ⟨B.exec, B.bytes, hml, hown', hts2, B.notSynchronized, hname, B.returns, hl, Nat.le_refl _, Nat.le_refl _, hK, fun q hq => Or.inr hq, hE⟩ (vx_table (x := M.1) B (hts _ List.mem_cons_self)) ad s.heap [] 0 0 _ ⟨hP, hD, va_S.rf, hlv, by show 0 + mc ≤ mc; omega, by show 0 + ms ≤ ms; omega, trivial⟩ ?_
    intro T ad' H' locs' cells' slots' ls' hT hx hd
    obtain ⟨v, hret, hO⟩ := hT
    obtain ⟨hP', hD', hS', hl', hc', hs', -⟩ := hd
    refine W.widen (k := mc) (n := ms) (by have : cells' + _ ≤ mc := hc'; omega) (by have : slots' + _ ≤ ms := hs'; omega) ?_
    have hq : ∀ (w : Option Value), v = w → ∀ (t : State), t.heap = H' → s.WarmedH t.vm → aPost D ca ad hp s.heap.size O s (.returned (w.map (cvV ad'))) t := by
      intro w hw t ht hW
      subst hw
      exact ⟨⟨_, rfl, v, T.2.2.2.1, ad', rfl, hO, hx, by rw [ht]; exact hP', hD'⟩, hS'.F ht⟩
    obtain ⟨pc, lv, st, hp', k, n⟩ := T
    rcases hret with ⟨x, h1, ⟨ty, h2, h3⟩, h4, h5⟩ | ⟨x, h1, h2, h4, h5⟩ | ⟨x, h1, h2, h4, h5⟩ | ⟨h1, h2, h4, h5⟩
    · dsimp only at h4
      subst h4
      exact vx_ret (W.zret (v := x) B.exec B.bytes (B.returns.trans h2) h3 (hq _ h5) hS'.2.2 h1)
    · dsimp only at h4
      subst h4
      exact vx_ret (W.lret (v := x) B.exec B.bytes (B.returns.trans h2) (hq _ h5) hS'.2.2 h1)
    · dsimp only at h4
      subst h4
      exact vx_ret (W.dret (v := x) (hlocks := B.notSynchronized) B.exec B.bytes (B.returns.trans h2) (hq _ h5) hS'.2.2 h1)
    · dsimp only at h4
      subst h4
      exact vx_ret (W.vret B.exec B.bytes (B.returns.trans h2) (hq _ h5) hS'.2.2 h1)
  refine MetFree.mono hV (fun _ _ q => q) (fun _ _ _ _ _ q => q) ?_
  rintro a st o t - (h | ⟨q, -, E, ce, L, hf, -⟩)
  · exact h
  · exact hf.elim
def aSSH (M N : aM) (hh : aHh) (pc np : Nat) : Prop := ∃ idx, decode M.2.2.1 pc = .ok (.invokestatic idx, 3) ∧ Cond.methodLink M.2.1 idx N.1 ∈ aG ∧ Cond.static N.1 ∈ aG ∧ Cond.codeWith N.1 N.2.2.1 N.2.2.2.1 N.2.2.2.2.1 hh ∈ aG ∧ Cond.initialized N.1.cls ∈ aG ∧ (N.1.cls ≠ "java/lang/invoke/MethodHandle" ∧ N.1.cls ≠ "java/lang/invoke/VarHandle" ∧ (parseMethodDescriptor N.1.desc).map (fun d => d.parameters.length) = some np) ∧ N.2.2.2.2.2.1 + 1 ≤ M.2.2.2.2.2.1 ∧ 8 + (N.2.2.2.1 + 11) + N.2.2.2.2.2.2.1 ≤ M.2.2.2.2.2.2.1
theorem J.callSH {M N : aM} {hh : aHh} {sc : aScr} {pc np : Nat} {lv : List (Nat × Value)} {rest : List Value} {hp : aH} {k n mc ms : Nat} {O : Option Value → aH → Prop} {Q : aS → Prop} (site : aSSH M N hh pc np) (av : List Value) (hnp : av.length = np) (hcat : (rest.map fun v => v.category).sum ≤ 8) (hM : JH N hh av hp mc ms O) (hmc : mc ≤ k) (hms : ms ≤ n) (hno : (∀ v hp', O v hp' → hp'.length = hp.length) ∨ (rfL hp.length lv && rest.all (rfV hp.length)) = true)
    (kk : ∀ v hp', O v hp' → J M sc (pc + 3, lv, v.toList ++ rest, hp', k - mc, n - ms) Q) : J M sc (pc, lv, av.reverse ++ rest, hp, k, n) Q := by
  obtain ⟨idx, hd, hl, hi, hco, hini, hdd, hfr, hlo⟩ := site
  refine aCall (fun p l e R s m args below meth c D ca A hs ad H locs cells slots ls hdy hF _ hbl hpr => ?_) hmc hms hno kk
  obtain ⟨hx, hb, hml, hown, hts, hlk, hnm, hrt, hst, hfR, hlR, hK, hA, hE⟩ := hs
  obtain ⟨hP, hD, hS, hlv, hc, hsl, hX⟩ := hdy
  have htsG : ∀ w ∈ aG, w.before args s = true := fun w hw => hts w (aG_sub hw)
  have hgo : GoodIn aG (va_wsS M.2.1 idx N.1 (aWsH N hh)) := aG_good (fun w hw => by
    rcases List.mem_append.mp hw with h | h
    · rcases List.mem_cons.mp h with e | h
      · rw [e]; exact hl
      · rcases List.mem_cons.mp h with e | h
        · rw [e]; exact hi
        · rw [List.mem_singleton.mp h]; exact hini
    · rcases List.mem_cons.mp h with e | h
      · rw [e]; exact hco
      · exact h)
  exact vx_runSW (As := av.map (cvV ad)) (rest := rest.map (cvV ad)) (own := M.2.1) (g := F0 m pc ls ((av.reverse ++ rest).map (cvV ad))) (Ts := aG) (n := np) ⟨hx, hb, hml, hown, htsG⟩ (hM l hst D ca ad H.size)
    (vx_cwSW np htsG hgo rfl rfl rfl hdd ⟨Nat.le_trans hfr hfR, Nat.le_trans hlo hlR⟩)
    ⟨hbl _, fun U hU hW => hpr av U hU hW⟩ rfl (by rw [List.length_map]; exact hnp) hlv.1
    (by show List.map (cvV ad) (av.reverse ++ rest) = _; rw [List.map_append, List.map_reverse]) (by show 2 * 0 + _ ≤ 8; rw [cv_cat]; omega) hd ⟨by have : cells + k ≤ R.cells := hc; omega, by have : slots + n ≤ R.slots := hsl; omega⟩

set_option maxRecDepth 100000 in
theorem tw_IAE : ∀ w ∈ thrW "FlashRatchet" 85 89 "java/lang/IllegalArgumentException", thrOK w := thrW_in _ [768, 91, 88, 790, 799, 803, 806, 808, 791, 792, 102, 103, 793, 798, 804, 824, 780, 825, 782, 826, 784, 794, 796, 786, 820, 821, 823, 786, 811, 812, 813, 814, 772, 814, 815, 816, 817, 774, 817, 818, 819, 820, 776, 810, 769, 770, 777, 778, 779, 781, 783, 785, 789, 788, 787] (by decide +kernel) (by decide +kernel)
theorem t_F_begin_9 : aThr M_F_begin 9 "java/lang/IllegalArgumentException" := ⟨85, 87, 89, "positions is not 2 to 4", by decide +kernel, tw_IAE, List.mem_filterMap.mpr ⟨.stringRef "FlashRatchet" 87 "positions is not 2 to 4", List.mem_of_getElem? (i := 809) (by decide +kernel), rfl⟩, (by decide +kernel), (by decide +kernel), Or.inl ⟨(by decide +kernel), (by decide +kernel), (by decide +kernel)⟩, Nat.le_of_ble_eq_true rfl, Nat.le_of_ble_eq_true rfl⟩
theorem t_F_setTable_58 : aThr M_F_setTable 58 "java/lang/IllegalArgumentException" := ⟨85, 114, 89, "back or forward is out of range", by decide +kernel, tw_IAE, List.mem_filterMap.mpr ⟨.stringRef "FlashRatchet" 114 "back or forward is out of range", List.mem_of_getElem? (i := 874) (by decide +kernel), rfl⟩, (by decide +kernel), (by decide +kernel), Or.inl ⟨(by decide +kernel), (by decide +kernel), (by decide +kernel)⟩, Nat.le_of_ble_eq_true rfl, Nat.le_of_ble_eq_true rfl⟩
theorem t_F_setProgram_7 : aThr M_F_setProgram 7 "java/lang/IllegalArgumentException" := ⟨85, 147, 89, "not the number of a program", by decide +kernel, tw_IAE, List.mem_filterMap.mpr ⟨.stringRef "FlashRatchet" 147 "not the number of a program", List.mem_of_getElem? (i := 911) (by decide +kernel), rfl⟩, (by decide +kernel), (by decide +kernel), Or.inl ⟨(by decide +kernel), (by decide +kernel), (by decide +kernel)⟩, Nat.le_of_ble_eq_true rfl, Nat.le_of_ble_eq_true rfl⟩
theorem t_F_restart_32 : aThr M_F_restart 32 "java/lang/IllegalArgumentException" := ⟨85, 152, 89, "seed is out of range", by decide +kernel, tw_IAE, List.mem_filterMap.mpr ⟨.stringRef "FlashRatchet" 152 "seed is out of range", List.mem_of_getElem? (i := 923) (by decide +kernel), rfl⟩, (by decide +kernel), (by decide +kernel), Or.inl ⟨(by decide +kernel), (by decide +kernel), (by decide +kernel)⟩, Nat.le_of_ble_eq_true rfl, Nat.le_of_ble_eq_true rfl⟩
theorem t_F_run_11 : aThr M_F_run 11 "java/lang/IllegalArgumentException" := ⟨85, 157, 89, "ticks is not 1 to 500", by decide +kernel, tw_IAE, List.mem_filterMap.mpr ⟨.stringRef "FlashRatchet" 157 "ticks is not 1 to 500", List.mem_of_getElem? (i := 932) (by decide +kernel), rfl⟩, (by decide +kernel), (by decide +kernel), Or.inl ⟨(by decide +kernel), (by decide +kernel), (by decide +kernel)⟩, Nat.le_of_ble_eq_true rfl, Nat.le_of_ble_eq_true rfl⟩
theorem t_F_append_11 : aThr M_F_append 11 "java/lang/IllegalArgumentException" := ⟨85, 172, 89, "code is not 33 to 126", by decide +kernel, tw_IAE, List.mem_filterMap.mpr ⟨.stringRef "FlashRatchet" 172 "code is not 33 to 126", List.mem_of_getElem? (i := 958) (by decide +kernel), rfl⟩, (by decide +kernel), (by decide +kernel), Or.inl ⟨(by decide +kernel), (by decide +kernel), (by decide +kernel)⟩, Nat.le_of_ble_eq_true rfl, Nat.le_of_ble_eq_true rfl⟩
theorem t_F_load_7 : aThr M_F_load 7 "java/lang/IllegalArgumentException" := ⟨85, 193, 89, "the buffer is not a complete text", by decide +kernel, tw_IAE, List.mem_filterMap.mpr ⟨.stringRef "FlashRatchet" 193 "the buffer is not a complete text", List.mem_of_getElem? (i := 977) (by decide +kernel), rfl⟩, (by decide +kernel), (by decide +kernel), Or.inl ⟨(by decide +kernel), (by decide +kernel), (by decide +kernel)⟩, Nat.le_of_ble_eq_true rfl, Nat.le_of_ble_eq_true rfl⟩
theorem t_F_cycle_9 : aThr M_F_cycle 9 "java/lang/IllegalArgumentException" := ⟨85, 201, 89, "what is not 0 to 2", by decide +kernel, tw_IAE, List.mem_filterMap.mpr ⟨.stringRef "FlashRatchet" 201 "what is not 0 to 2", List.mem_of_getElem? (i := 997) (by decide +kernel), rfl⟩, (by decide +kernel), (by decide +kernel), Or.inl ⟨(by decide +kernel), (by decide +kernel), (by decide +kernel)⟩, Nat.le_of_ble_eq_true rfl, Nat.le_of_ble_eq_true rfl⟩
theorem t_F_chance_10 : aThr M_F_chance 10 "java/lang/IllegalArgumentException" := ⟨85, 210, 89, "ticks is not 0 to 15", by decide +kernel, tw_IAE, List.mem_filterMap.mpr ⟨.stringRef "FlashRatchet" 210 "ticks is not 0 to 15", List.mem_of_getElem? (i := 1005) (by decide +kernel), rfl⟩, (by decide +kernel), (by decide +kernel), Or.inl ⟨(by decide +kernel), (by decide +kernel), (by decide +kernel)⟩, Nat.le_of_ble_eq_true rfl, Nat.le_of_ble_eq_true rfl⟩
theorem t_F_chanceOfGain_10 : aThr M_F_chanceOfGain 10 "java/lang/IllegalArgumentException" := ⟨85, 210, 89, "ticks is not 0 to 15", by decide +kernel, tw_IAE, List.mem_filterMap.mpr ⟨.stringRef "FlashRatchet" 210 "ticks is not 0 to 15", List.mem_of_getElem? (i := 1005) (by decide +kernel), rfl⟩, (by decide +kernel), (by decide +kernel), Or.inl ⟨(by decide +kernel), (by decide +kernel), (by decide +kernel)⟩, Nat.le_of_ble_eq_true rfl, Nat.le_of_ble_eq_true rfl⟩
theorem t_F_game_40 : aThr M_F_game 40 "java/lang/IllegalArgumentException" := ⟨85, 222, 89, "an argument is out of range", by decide +kernel, tw_IAE, List.mem_filterMap.mpr ⟨.stringRef "FlashRatchet" 222 "an argument is out of range", List.mem_of_getElem? (i := 1020) (by decide +kernel), rfl⟩, (by decide +kernel), (by decide +kernel), Or.inl ⟨(by decide +kernel), (by decide +kernel), (by decide +kernel)⟩, Nat.le_of_ble_eq_true rfl, Nat.le_of_ble_eq_true rfl⟩
theorem t_F_count_10 : aThr M_F_count 10 "java/lang/IllegalArgumentException" := ⟨85, 283, 89, "what is not 0 to 9", by decide +kernel, tw_IAE, List.mem_filterMap.mpr ⟨.stringRef "FlashRatchet" 283 "what is not 0 to 9", List.mem_of_getElem? (i := 1069) (by decide +kernel), rfl⟩, (by decide +kernel), (by decide +kernel), Or.inr ⟨(by decide +kernel), (by decide +kernel), (by decide +kernel)⟩, Nat.le_of_ble_eq_true rfl, Nat.le_of_ble_eq_true rfl⟩
set_option maxRecDepth 100000 in
theorem tw_IOE : ∀ w ∈ thrW "FlashRatchet" 109 113 "java/lang/IndexOutOfBoundsException", thrOK w := thrW_in _ [858, 92, 88, 790, 799, 803, 806, 808, 791, 792, 102, 103, 793, 798, 804, 824, 780, 825, 782, 826, 784, 794, 796, 786, 820, 821, 823, 786, 869, 870, 871, 814, 772, 814, 815, 816, 817, 774, 817, 818, 819, 820, 776, 868, 859, 860, 861, 802, 862, 863, 864, 865, 789, 788, 866] (by decide +kernel) (by decide +kernel)
theorem t_F_setTable_18 : aThr M_F_setTable 18 "java/lang/IndexOutOfBoundsException" := ⟨109, 111, 113, "no such lever or position", by decide +kernel, tw_IOE, List.mem_filterMap.mpr ⟨.stringRef "FlashRatchet" 111 "no such lever or position", List.mem_of_getElem? (i := 867) (by decide +kernel), rfl⟩, (by decide +kernel), (by decide +kernel), Or.inl ⟨(by decide +kernel), (by decide +kernel), (by decide +kernel)⟩, Nat.le_of_ble_eq_true rfl, Nat.le_of_ble_eq_true rfl⟩
theorem t_F_gear_7 : aThr M_F_gear 7 "java/lang/IndexOutOfBoundsException" := ⟨109, 124, 113, "no such lever", by decide +kernel, tw_IOE, List.mem_filterMap.mpr ⟨.stringRef "FlashRatchet" 124 "no such lever", List.mem_of_getElem? (i := 887) (by decide +kernel), rfl⟩, (by decide +kernel), (by decide +kernel), Or.inl ⟨(by decide +kernel), (by decide +kernel), (by decide +kernel)⟩, Nat.le_of_ble_eq_true rfl, Nat.le_of_ble_eq_true rfl⟩
theorem t_F_pawl_11 : aThr M_F_pawl 11 "java/lang/IndexOutOfBoundsException" := ⟨109, 139, 113, "no such position", by decide +kernel, tw_IOE, List.mem_filterMap.mpr ⟨.stringRef "FlashRatchet" 139 "no such position", List.mem_of_getElem? (i := 902) (by decide +kernel), rfl⟩, (by decide +kernel), (by decide +kernel), Or.inl ⟨(by decide +kernel), (by decide +kernel), (by decide +kernel)⟩, Nat.le_of_ble_eq_true rfl, Nat.le_of_ble_eq_true rfl⟩
theorem t_F_restart_11 : aThr M_F_restart 11 "java/lang/IndexOutOfBoundsException" := ⟨109, 139, 113, "no such position", by decide +kernel, tw_IOE, List.mem_filterMap.mpr ⟨.stringRef "FlashRatchet" 139 "no such position", List.mem_of_getElem? (i := 902) (by decide +kernel), rfl⟩, (by decide +kernel), (by decide +kernel), Or.inl ⟨(by decide +kernel), (by decide +kernel), (by decide +kernel)⟩, Nat.le_of_ble_eq_true rfl, Nat.le_of_ble_eq_true rfl⟩
theorem t_F_chance_31 : aThr M_F_chance 31 "java/lang/IndexOutOfBoundsException" := ⟨109, 139, 113, "no such position", by decide +kernel, tw_IOE, List.mem_filterMap.mpr ⟨.stringRef "FlashRatchet" 139 "no such position", List.mem_of_getElem? (i := 902) (by decide +kernel), rfl⟩, (by decide +kernel), (by decide +kernel), Or.inl ⟨(by decide +kernel), (by decide +kernel), (by decide +kernel)⟩, Nat.le_of_ble_eq_true rfl, Nat.le_of_ble_eq_true rfl⟩
theorem t_F_table_18 : aThr M_F_table 18 "java/lang/IndexOutOfBoundsException" := ⟨109, 111, 113, "no such lever or position", by decide +kernel, tw_IOE, List.mem_filterMap.mpr ⟨.stringRef "FlashRatchet" 111 "no such lever or position", List.mem_of_getElem? (i := 867) (by decide +kernel), rfl⟩, (by decide +kernel), (by decide +kernel), Or.inl ⟨(by decide +kernel), (by decide +kernel), (by decide +kernel)⟩, Nat.le_of_ble_eq_true rfl, Nat.le_of_ble_eq_true rfl⟩
set_option maxRecDepth 100000 in
theorem tw_ISE : ∀ w ∈ thrW "FlashRatchet" 163 167 "java/lang/IllegalStateException", thrOK w := thrW_in _ [934, 94, 88, 790, 799, 803, 806, 808, 791, 792, 102, 103, 793, 798, 804, 824, 780, 825, 782, 826, 784, 794, 796, 786, 820, 821, 823, 786, 945, 946, 947, 814, 772, 814, 815, 816, 817, 774, 817, 818, 819, 820, 776, 944, 935, 936, 937, 801, 938, 939, 940, 941, 789, 788, 942] (by decide +kernel) (by decide +kernel)
theorem t_F_run_35 : aThr M_F_run 35 "java/lang/IllegalStateException" := ⟨163, 165, 167, "more than 1000000 ticks", by decide +kernel, tw_ISE, List.mem_filterMap.mpr ⟨.stringRef "FlashRatchet" 165 "more than 1000000 ticks", List.mem_of_getElem? (i := 943) (by decide +kernel), rfl⟩, (by decide +kernel), (by decide +kernel), Or.inl ⟨(by decide +kernel), (by decide +kernel), (by decide +kernel)⟩, Nat.le_of_ble_eq_true rfl, Nat.le_of_ble_eq_true rfl⟩
theorem t_F_append_30 : aThr M_F_append 30 "java/lang/IllegalStateException" := ⟨163, 174, 167, "the buffer is full", by decide +kernel, tw_ISE, List.mem_filterMap.mpr ⟨.stringRef "FlashRatchet" 174 "the buffer is full", List.mem_of_getElem? (i := 959) (by decide +kernel), rfl⟩, (by decide +kernel), (by decide +kernel), Or.inl ⟨(by decide +kernel), (by decide +kernel), (by decide +kernel)⟩, Nat.le_of_ble_eq_true rfl, Nat.le_of_ble_eq_true rfl⟩
theorem h_La_table_IOE : aHan M_La_table [(0, 10, 13, 19)] 5 "java/lang/IndexOutOfBoundsException" 15 := ⟨[], ⟨0, 10, 13, 19⟩, [], rfl, (fun z h => absurd h List.not_mem_nil), by decide, by decide, aT_in (List.mem_of_getElem? (i := 848) (by decide +kernel)) (by decide +kernel), aT_inN (List.mem_of_getElem? (i := 860) (by decide +kernel)) (by decide +kernel), Or.inr ⟨4, by decide +kernel, by decide, rfl⟩⟩
theorem s_La_law_1475 {L : Nat} {xs : Nat → Int32} : aSSH (M_La_law L xs) M_La_table [(0, 10, 13, 19)] 1475 4 := ⟨167, (by first | (change decode code _ = _; decide +kernel) | (change _ < 9; decide) | decide +kernel), (show Cond.methodLink "FlashRatchetLaw" 167 ⟨"FlashRatchetLaw","table","(LFlashRatchet;II[J)I"⟩ ∈ aG from aG_in (List.mem_of_getElem? (i := 1070) (by decide +kernel)) (by decide +kernel)), (show Cond.static ⟨"FlashRatchetLaw","table","(LFlashRatchet;II[J)I"⟩ ∈ aG from aG_in (List.mem_of_getElem? (i := 1071) (by decide +kernel)) (by decide +kernel)), (show Cond.codeWith ⟨"FlashRatchetLaw","table","(LFlashRatchet;II[J)I"⟩ method_22_code 5 (Option.some ClassFile.FieldType.int) [(0, 10, 13, 19)] ∈ aG from aG_in (List.mem_of_getElem? (i := 1072) (by decide +kernel)) (by decide +kernel)), (show Cond.initialized "FlashRatchetLaw" ∈ aG from aG_in (List.mem_of_getElem? (i := 76) (by decide +kernel)) (by decide +kernel)), by decide +kernel, Nat.le_of_ble_eq_true rfl, Nat.le_of_ble_eq_true rfl⟩
