/-! CONTRACTS over abstract cells, and calls -/
theorem va_Nw_warm {w : Cond} (hn : nestW w = true) {s U : State} (hW : s.WarmedH U.vm) (h : va_Nw w s) : va_Nw w U := by
  cases w with
  | fieldLinkNest a i b n d x => exact va_Nw.warmF hW h
  | methodLinkNest a i x y => exact va_Nw.warmM hW h
  | castable a b => exact va_Nw.warmC hW h
  | _ => cases hn
theorem aE.go {s U : State} {A B : Nat → Prop} {H : Heap} {locs : List Loc} (h : aE s A) (hS : va_S A s.heap H locs) (hU : U.heap = H) (hW : s.WarmedH U.vm) (hB : ∀ q, B q → A q) : aE U B := by
  obtain ⟨h1, h2, h3, h4, h5⟩ := h
  refine ⟨?_, ?_, fun q hq => ?_, fun w hw => ?_, fun q hq => (h5 q hq).moved hW.alike⟩
  · rw [hU]
    exact vx_Zq.narrow (vx_Zq.moved hW.alike (vx_Zq.kept h1 (fun a g1 g2 => hS.2.1 a g1 g2))) hB
  · rw [hU]
    exact vx_Zq.narrow (vx_Zq.moved hW.alike (vx_Zq.kept h2 (fun a g1 g2 => hS.2.1 a g1 g2))) hB
  · obtain ⟨sa, hsa⟩ := h3 q hq
    exact ⟨sa, vk_R.warm hW hsa⟩
  · exact va_Nw_warm (List.mem_filter.mp hw).2 hW (h4 w hw)
theorem aE.calling {U : State} {A : Nat → Prop} (h : aE U A) (g : JFrame) (mk : MethodId) (a : Array Value) : aE (U.calling g mk a) A := by
  obtain ⟨h1, h2, h3, h4, h5⟩ := h
  refine ⟨vx_Zq.moved (u := U) (Vm.Alike.refl U.vm) h1, vx_Zq.moved (u := U) (Vm.Alike.refl U.vm) h2, fun q hq => ?_, fun w hw => ?_, fun q hq => (h5 q hq).moved (u := U) (U := U.calling g mk a) (Vm.Alike.refl U.vm)⟩
  · obtain ⟨sa, hsa⟩ := h3 q hq
    exact ⟨sa, vk_R.same (u := U) rfl hsa⟩
  · have hn := (List.mem_filter.mp hw).2
    have := h4 w hw
    cases w with
    | fieldLinkNest a i b n d x => exact va_Nw.same rfl (u := U) rfl this
    | methodLinkNest a i x y => exact va_Nw.same rfl (u := U) rfl this
    | castable a b => exact va_Nw.same rfl (u := U) rfl this
    | _ => cases hn
abbrev aWs (M : aM) : List Cond := Cond.code M.1 M.2.2.1 M.2.2.2.1 M.2.2.2.2.1 :: aG
def aRm (M : aM) (mc ms : Nat) : Room := { frames := M.2.2.2.2.2.1, cells := mc, slots := ms, locals := M.2.2.2.2.2.2.1 }
def aPre (D : va_G) (ca : Nat → ClassId) (ad : Nat → Nat) (av : List Value) (hp : aH) (sz : Nat) : Array Value → State → Prop := fun a U =>
  a = (av.map (cvV ad)).toArray ∧ U.heap.size = sz ∧ va_P D vwCl (wl ca ad hp) U.heap ∧ va_D (fun _ => True) (wl ca ad hp) ∧ va_K D vwCl [(ca 0, .int), (ca 1, .long)] U ∧ aE U (va_A (wl ca ad hp) sz)
def aPost (D : va_G) (ca : Nat → ClassId) (ad : Nat → Nat) (hp : aH) (sz : Nat) (O : Option Value → aH → Prop) : State → Outcome → State → Prop := fun st o t =>
  (∃ v, o = .returned v ∧ ∃ w hp' ad', v = Option.map (cvV ad') w ∧ O w hp' ∧ aExt ad hp.length ad' hp'.length ∧ va_P D vwCl (wl ca ad' hp') t.heap ∧ va_D (va_A (wl ca ad hp) sz) (wl ca ad' hp')) ∧ va_F (va_A (wl ca ad hp) sz) st t
def JM (M : aM) (av : List Value) (hp : aH) (mc ms : Nat) (O : Option Value → aH → Prop) : Prop :=
  ∀ l : Launch, l.stackTraces = false → ∀ (D : va_G) (ca : Nat → ClassId) (ad : Nat → Nat) (sz : Nat), Met l M.1 (aWs M) (aRm M mc ms) (aPre D ca ad av hp sz) (fun _ => aPost D ca ad hp sz O) mc ms (va_A (wl ca ad hp) sz)
theorem JM.mono {M : aM} {av : List Value} {hp : aH} {mc ms : Nat} {O O' : Option Value → aH → Prop} (h : JM M av hp mc ms O) (hO : ∀ v q, O v q → O' v q) : JM M av hp mc ms O' := by
  intro l hl D ca ad sz
  refine MetFree.mono (h l hl D ca ad sz) (fun _ _ q => q) (fun _ _ _ _ _ q => q) ?_
  rintro a st o t - ⟨⟨⟨v, e1, w, hp', ad', e2, h1, h2⟩, hF⟩, hL⟩
  exact ⟨⟨⟨v, e1, w, hp', ad', e2, hO _ _ h1, h2⟩, hF⟩, hL⟩
theorem lv_args_cv (ad : Nat → Nat) (av : List Value) (i : Nat) : lv_args i (av.map (cvV ad)) = cvL ad (lv_args i av) := by
  induction av generalizing i with
  | nil => rfl
  | cons v r ih =>
    show (i, cvV ad v) :: lv_args (if (cvV ad v).category = 2 then i + 2 else i + 1) (r.map (cvV ad)) = (i, cvV ad v) :: cvL ad (lv_args (if v.category = 2 then i + 2 else i + 1) r)
    rw [cvV_cat, ih]
theorem lg_sl_len (ad : Nat → Nat) (av : List Value) : (lg_sl (av.map (cvV ad))).length = (lg_sl av).length := by
  unfold lg_sl
  induction av with
  | nil => rfl
  | cons v r ih =>
    rw [List.map_cons, List.flatMap_cons, List.flatMap_cons, List.length_append, List.length_append, ih, cvV_cat]
    split <;> rfl
def aRet (M : aM) (S : aS) (v : Option Value) : Prop :=
  (∃ x, decode M.2.2.1 S.1 = .ok (.ireturn, 1) ∧ (∃ ty, M.2.2.2.2.1 = some ty ∧ narrow ty (.int x) = .int x) ∧ S.2.2.1 = [.int x] ∧ v = some (.int x)) ∨
  (∃ x, decode M.2.2.1 S.1 = .ok (.lreturn, 1) ∧ M.2.2.2.2.1 = some .long ∧ S.2.2.1 = [.long x] ∧ v = some (.long x)) ∨
  (∃ x, decode M.2.2.1 S.1 = .ok (.dreturn, 1) ∧ M.2.2.2.2.1 = some .double ∧ S.2.2.1 = [.double x] ∧ v = some (.double x)) ∨
  (decode M.2.2.1 S.1 = .ok (.return_, 1) ∧ M.2.2.2.2.1 = none ∧ S.2.2.1 = [] ∧ v = none)
/-- the run of a method's body, to its return -/
def JR (M : aM) (sc : aScr) (S : aS) (O : Option Value → aH → Prop) : Prop := J M sc S (fun T => ∃ v, aRet M T v ∧ O v T.2.2.2.1)
theorem JM.of {M : aM} {av : List Value} {hp : aH} {mc ms : Nat} {O : Option Value → aH → Prop} (hpl : plainName M.1.cls = true) (hown : M.2.1 = M.1.cls) (hsz : (lg_sl av).length ≤ M.2.2.2.1) (h : JR M none (0, lv_args 0 av, [], hp, mc, ms) O) : JM M av hp mc ms O := by
  intro l hl D ca ad sz
  refine Met.ofW (cc := M.2.2.1) (maxL := M.2.2.2.1) (ret := M.2.2.2.2.1) hpl rfl ?_
  intro p e s m args below meth c s₁ B hml hv
  obtain ⟨rfl, hsz', hP, hD0, hK, hE⟩ := hv
  have hts := atoms_spec (ws := aWs M) B.pre
  have hts2 : ∀ w ∈ aT, w.before (av.map (cvV ad)).toArray s = true := by
    intro w hw
    rcases List.mem_append.mp hw with g | g
    · exact hts w (List.mem_cons_of_mem _ g)
    · have hn := (List.mem_filter.mp g).2
      have := hE.2.2.2.1 w g
      cases w with
      | fieldLinkNest a i b n d x => exact va_Nw.use rfl this
      | methodLinkNest a i x y => exact va_Nw.use rfl this
      | castable a b => exact va_Nw.use rfl this
      | _ => cases hn
  have hown' : s.vm.findClass M.2.1 = some m.cls := by rw [hown]; exact findClass_of_methodNamed B.named
  have hname : meth.name = M.1.name := (name_of_methodNamed B.named B.method).1
  subst hsz'
  have hD := hD0.self (sz := s.heap.size)
  have hlv := lv_entry (av.map (cvV ad)) (n := M.2.2.2.1) (by rw [lg_sl_len]; exact hsz)
  rw [lv_args_cv] at hlv
  rw [lg_entry_eq]
  refine h p l e (aRm M mc ms) s m _ below meth c D ca (va_A (wl ca ad hp) s.heap.size) _ ⟨B.exec, B.bytes, hml, hown', hts2, B.notSynchronized, hname, B.returns, hl, Nat.le_refl _, Nat.le_refl _, hK, fun q hq => Or.inr hq, hE⟩ ad s.heap [] 0 0 _ ⟨hP, hD, va_S.rf, hlv, by show 0 + mc ≤ mc; omega, by show 0 + ms ≤ ms; omega, trivial⟩ ?_
  intro T ad' H' locs' cells' slots' ls' hT hx hd
  obtain ⟨v, hret, hO⟩ := hT
  obtain ⟨hP', hD', hS', hl', hc', hs', -⟩ := hd
  refine W.widen (k := mc) (n := ms) (by have : cells' + _ ≤ mc := hc'; omega) (by have : slots' + _ ≤ ms := hs'; omega) ?_
  have hq : ∀ (w : Option Value), v = w → ∀ (t : State), t.heap = H' → s.WarmedH t.vm → aPost D ca ad hp s.heap.size O s (.returned (w.map (cvV ad'))) t := by
    intro w hw t ht hW
    subst hw
    exact ⟨⟨_, rfl, v, T.2.2.2.1, ad', rfl, hO, hx, by rw [ht]; exact hP', hD'⟩, hS'.F ht⟩
  obtain ⟨pc, lv, st, hp', k, n⟩ := T
  rcases hret with ⟨x, h1, ⟨ty, h2, h3⟩, h4, h5⟩ | ⟨x, h1, h2, h4, h5⟩ | ⟨x, h1, h2, h4, h5⟩ | ⟨h1, h2, h4, h5⟩
  · dsimp only at h4
    subst h4
    exact W.zret (v := x) B.exec B.bytes (B.returns.trans h2) h3 (hq _ h5) hS'.2.2 h1
  · dsimp only at h4
    subst h4
    exact W.lret (v := x) B.exec B.bytes (B.returns.trans h2) (hq _ h5) hS'.2.2 h1
  · dsimp only at h4
    subst h4
    exact W.dret (v := x) (hlocks := B.notSynchronized) B.exec B.bytes (B.returns.trans h2) (hq _ h5) hS'.2.2 h1
  · dsimp only at h4
    subst h4
    exact W.vret B.exec B.bytes (B.returns.trans h2) (hq _ h5) hS'.2.2 h1
theorem JR.iret {M : aM} {sc : aScr} {pc : Nat} {lv : List (Nat × Value)} {x : Int32} {hp : aH} {k n : Nat} {O : Option Value → aH → Prop} (ty : FieldType) (hd : decode M.2.2.1 pc = .ok (.ireturn, 1)) (hr : M.2.2.2.2.1 = some ty) (hn : narrow ty (.int x) = .int x) (hO : O (some (.int x)) hp) : JR M sc (pc, lv, [.int x], hp, k, n) O := J.fin ⟨_, Or.inl ⟨x, hd, ⟨ty, hr, hn⟩, rfl, rfl⟩, hO⟩
theorem JR.lret {M : aM} {sc : aScr} {pc : Nat} {lv : List (Nat × Value)} {x : Int64} {hp : aH} {k n : Nat} {O : Option Value → aH → Prop} (hd : decode M.2.2.1 pc = .ok (.lreturn, 1)) (hr : M.2.2.2.2.1 = some .long) (hO : O (some (.long x)) hp) : JR M sc (pc, lv, [.long x], hp, k, n) O := J.fin ⟨_, Or.inr (Or.inl ⟨x, hd, hr, rfl, rfl⟩), hO⟩
theorem JR.dret {M : aM} {sc : aScr} {pc : Nat} {lv : List (Nat × Value)} {x : UInt64} {hp : aH} {k n : Nat} {O : Option Value → aH → Prop} (hd : decode M.2.2.1 pc = .ok (.dreturn, 1)) (hr : M.2.2.2.2.1 = some .double) (hO : O (some (.double x)) hp) : JR M sc (pc, lv, [.double x], hp, k, n) O := J.fin ⟨_, Or.inr (Or.inr (Or.inl ⟨x, hd, hr, rfl, rfl⟩)), hO⟩
theorem JR.vret {M : aM} {sc : aScr} {pc : Nat} {lv : List (Nat × Value)} {hp : aH} {k n : Nat} {O : Option Value → aH → Prop} (hd : decode M.2.2.1 pc = .ok (.return_, 1)) (hr : M.2.2.2.2.1 = none) (hO : O none hp) : JR M sc (pc, lv, [], hp, k, n) O := J.fin ⟨_, Or.inr (Or.inr (Or.inr ⟨hd, hr, rfl, rfl⟩)), hO⟩
/-- behind a call: what the callee says, and the caller's own frame -/
theorem aCall {M : aM} {sc : aScr} {pc : Nat} {lv : List (Nat × Value)} {st rest : List Value} {hp : aH} {k n mc ms : Nat} {O : Option Value → aH → Prop} {Q : aS → Prop}
    (hr : ∀ (p : Program) (l : Launch) (e : Env) (R : Room) (s : State) (m : MethodId) (args : Array Value) (below : List Frame) (meth : Method) (c : Code) (D : va_G) (ca : Nat → ClassId) (A : Nat → Prop), aSt M p l R s m args meth c D ca A → ∀ (ad : Nat → Nat) (H : Heap) (locs : List Loc) (cells slots : Nat) (ls : Array Slot), aDy M sc R s D ca A ad (pc, lv, st, hp, k, n) H locs cells slots ls →
      (∀ q, va_A (wl ca ad hp) H.size q → A q) → (∀ a U g mk, aPre D ca ad a hp H.size (a.map (cvV ad)).toArray U → aPre D ca ad a hp H.size (a.map (cvV ad)).toArray (U.calling g mk (a.map (cvV ad)).toArray)) → (∀ (av : List Value), FrameBlind (aPre D ca ad av hp H.size)) → (∀ (av : List Value) (U : State), U.heap = H → s.WarmedH U.vm → aPre D ca ad av hp H.size (av.map (cvV ad)).toArray U) →
      va_Run p l e R s m args below meth c H locs cells slots mc ms (F0 m pc ls (st.map (cvV ad))) (rest.map (cvV ad)) (aPost D ca ad hp H.size O) (va_A (wl ca ad hp) H.size))
    (hmc : mc ≤ k) (hms : ms ≤ n) (hno : (∀ v hp', O v hp' → hp'.length = hp.length) ∨ (rfL hp.length lv && rest.all (rfV hp.length)) = true)
    (kk : ∀ v hp', O v hp' → J M sc (pc + 3, lv, v.toList ++ rest, hp', k - mc, n - ms) Q) : J M sc (pc, lv, st, hp, k, n) Q := by
  intro p l e R s m args below meth c D ca A Z hs ad H locs cells slots ls hd KK
  have hs0 := hs
  obtain ⟨hx, hb, hml, hown, hts, hlk, hnm, hrt, hst, hfr, hlc, hK, hA, hE⟩ := hs
  have hd0 := hd
  obtain ⟨hP, hD, hS, hl, hc, hsl, hX⟩ := hd
  dsimp only at hP hD hS hl hc hsl hX
  have hF : ∀ q, va_A (wl ca ad hp) H.size q → A q := by
    intro q hq
    rcases hq with ⟨i, e9, hi⟩ | hq
    · exact hD.2 i _ hi
    · exact hA q (Nat.le_trans hS.1 hq)
  have hbl : ∀ (av : List Value), FrameBlind (aPre D ca ad av hp H.size) := by
    intro av a U g mk q
    obtain ⟨q0, q1, qP, qD, qK, qE⟩ := q
    exact ⟨q0, q1, qP, qD, va_K.moved (u := U) (U := U.calling g mk a) (Vm.Alike.refl U.vm) qK, qE.calling g mk a⟩
  have hpr : ∀ (av : List Value) (U : State), U.heap = H → s.WarmedH U.vm → aPre D ca ad av hp H.size (av.map (cvV ad)).toArray U := by
    intro av U hU hW
    exact ⟨rfl, by rw [hU], by rw [hU]; exact hP, hD.weaken (fun _ _ _ _ => trivial), va_K.moved hW.alike hK, hE.go hS hU hW hF⟩
  have hrun := hr p l e R s m args below meth c D ca A hs0 ad H locs cells slots ls hd0 hF (fun a U g mk q => hbl a _ U g mk q) hbl hpr
  intro T hT X
  obtain ⟨v, st₀, t, T', L, h0, X', hL, e1, e2, ⟨⟨v', hv', w, hp', ad', hw, hO, hx2, hP1, hD1⟩, hz, hk⟩, stp⟩ := hrun T hT X
  cases hv'
  subst hw
  rw [h0] at hz hk
  have hsame : cvL ad' lv = cvL ad lv ∧ rest.map (cvV ad') = rest.map (cvV ad) := by
    rcases hno with h | h
    · have := hx2.2.1 (h _ _ hO)
      rw [this]
      exact ⟨rfl, rfl⟩
    · obtain ⟨h1, h2⟩ := Bool.and_eq_true_iff.mp h
      exact ⟨rfL_same hx2.2.2 h1, rf_map hx2.2.2 h2⟩
  have hS2 : va_S A s.heap T'.heap (locs ++ L) := ⟨Nat.le_trans hS.1 (by rw [e1]; exact hz), fun q h1 h2 => by
      rw [e1, hk q (Nat.lt_of_lt_of_le h1 hS.1) (fun z => h2 (hF q z))]
      exact hS.2.1 q h1 h2, fun q hq => by
      rcases List.mem_append.mp hq with h | h
      · exact hS.2.2 q h
      · exact hF _ (hL q h)⟩
  have hX2 : aX sc s A ad' := by
    unfold aX at hX ⊢
    split
    · trivial
    · dsimp only at hX
      rw [hx2.2.2 1000 (Or.inr rfl)]
      exact hX
  have := kk w hp' hO p l e R s m args below meth c D ca A Z hs0 ad' T'.heap (locs ++ L) (cells + mc) (slots + ms) ls
    ⟨by rw [e1]; exact hP1, hD1.weaken (fun _ q _ hq => hF _ hq), hS2, by show lv_has ls M.2.2.2.1 (cvL ad' lv); rw [hsame.1]; exact hl, by dsimp only; omega, by dsimp only; omega, hX2⟩
    (fun U ad2 H2 locs2 c2 s2 ls2 hU hx3 hd2 => KK U ad2 H2 locs2 c2 s2 ls2 hU (hx2.tr hx3) hd2)
  obtain ⟨t2, a1, b1⟩ := this T' rfl X'
  refine ⟨t2, stp t2 ?_, b1⟩
  have e3 : aF m ls ad' (pc + 3, lv, w.toList ++ rest, hp', k - mc, n - ms) = { (F0 m pc ls (st.map (cvV ad))) with pc := (F0 m pc ls (st.map (cvV ad))).pc + 3, stack := (Option.map (cvV ad') w).toList ++ rest.map (cvV ad) } := by
    show F0 m (pc + 3) ls ((w.toList ++ rest).map (cvV ad')) = F0 m (pc + 3) ls ((Option.map (cvV ad') w).toList ++ rest.map (cvV ad))
    rw [List.map_append, hsame.2]
    cases w <;> rfl
  rw [← e3]
  exact a1
theorem aG_sub {w : Cond} (h : w ∈ aG) : w ∈ aT := List.mem_append_left _ h
theorem aWs_good (N : aM) (h : Cond.code N.1 N.2.2.1 N.2.2.2.1 N.2.2.2.2.1 ∈ aG) : GoodIn aG (aWs N) := aG_good (fun w hw => by
  rcases List.mem_cons.mp hw with e | e
  · rw [e]; exact h
  · exact e)
theorem cv_cat (ad : Nat → Nat) (l : List Value) : ((l.map (cvV ad)).map fun v => v.category) = l.map fun v => v.category := by
  induction l with
  | nil => rfl
  | cons v r ih => rw [List.map_cons, List.map_cons, List.map_cons, ih, cvV_cat]
/-- a site that calls N: what the callee's own words and room ask -/
def aSite (M N : aM) (np : Nat) : Prop := Cond.code N.1 N.2.2.1 N.2.2.2.1 N.2.2.2.2.1 ∈ aG ∧ Cond.initialized N.1.cls ∈ aG ∧ (N.1.cls ≠ "java/lang/invoke/MethodHandle" ∧ N.1.cls ≠ "java/lang/invoke/VarHandle" ∧ (parseMethodDescriptor N.1.desc).map (fun d => d.parameters.length) = some np) ∧ N.2.2.2.2.2.1 + 1 ≤ M.2.2.2.2.2.1 ∧ 8 + (N.2.2.2.1 + 11) + N.2.2.2.2.2.2.1 ≤ M.2.2.2.2.2.2.1
def aSV (M N : aM) (pc np : Nat) : Prop := ∃ idx, decode M.2.2.1 pc = .ok (.invokevirtual idx, 3) ∧ Cond.methodLink M.2.1 idx N.1 ∈ aG ∧ Cond.instanceMethod N.1 ∈ aG ∧ Cond.selects N.1.cls N.1 N.1 ∈ aG ∧ aSite M N np
def aSS (M N : aM) (pc np : Nat) : Prop := ∃ idx, decode M.2.2.1 pc = .ok (.invokestatic idx, 3) ∧ Cond.methodLink M.2.1 idx N.1 ∈ aG ∧ Cond.static N.1 ∈ aG ∧ aSite M N np
def aSSN (M N : aM) (pc np : Nat) : Prop := ∃ idx host, decode M.2.2.1 pc = .ok (.invokestatic idx, 3) ∧ Cond.methodLinkNest M.2.1 idx N.1 host ∈ aT ∧ Cond.static N.1 ∈ aG ∧ aSite M N np
def aSI (M N : aM) (pc np : Nat) : Prop := ∃ idx, decode M.2.2.1 pc = .ok (.invokespecial idx, 3) ∧ Cond.methodLink M.2.1 idx N.1 ∈ aG ∧ Cond.instanceMethod N.1 ∈ aG ∧ N.1.name = "<init>" ∧ N.2.2.2.2.1 = none ∧ aSite M N np
def aSIN (M N : aM) (pc np : Nat) : Prop := ∃ idx host, decode M.2.2.1 pc = .ok (.invokespecial idx, 3) ∧ Cond.methodLinkNest M.2.1 idx N.1 host ∈ aT ∧ Cond.instanceMethod N.1 ∈ aG ∧ N.1.name = "<init>" ∧ N.2.2.2.2.1 = none ∧ aSite M N np
theorem J.callV {M N : aM} {sc : aScr} {pc np : Nat} {lv : List (Nat × Value)} {rest : List Value} {hp : aH} {k n mc ms : Nat} {O : Option Value → aH → Prop} {Q : aS → Prop} (site : aSV M N pc np) (a : Nat) (av : List Value) (ci : Nat) (fs : List Value) (q : vw_C) (hnp : av.length = np) (hci : vwCl[ci]? = some q) (hq : q.1 = N.1.cls) (hrc : hp[a]? = some (.inr (ci, fs))) (hcat : (rest.map fun v => v.category).sum ≤ 8) (hM : JM N (.ref a :: av) hp mc ms O) (hmc : mc ≤ k) (hms : ms ≤ n) (hno : (∀ v hp', O v hp' → hp'.length = hp.length) ∨ (rfL hp.length lv && rest.all (rfV hp.length)) = true)
    (kk : ∀ v hp', O v hp' → J M sc (pc + 3, lv, v.toList ++ rest, hp', k - mc, n - ms) Q) : J M sc (pc, lv, av.reverse ++ .ref a :: rest, hp, k, n) Q := by
  obtain ⟨idx, hd, hl, hi, hse, hco, hini, hdd, hfr, hlo⟩ := site
  refine aCall (fun p l e R s m args below meth c D ca A hs ad H locs cells slots ls hdy hF _ hbl hpr => ?_) hmc hms hno kk
  obtain ⟨hx, hb, hml, hown, hts, hlk, hnm, hrt, hst, hfR, hlR, hK, hA, hE⟩ := hs
  obtain ⟨hP, hD, hS, hlv, hc, hsl, hX⟩ := hdy
  have htsG : ∀ w ∈ aG, w.before args s = true := fun w hw => hts w (aG_sub hw)
  have hrv := va_recv (q0 := a) hK hP hci (wl_obj hrc)
  rw [hq] at hrv
  exact va_runV (As := av.map (cvV ad)) (rest := rest.map (cvV ad)) (b := ad a) (C := N.1.cls) (own := M.2.1) (g := F0 m pc ls ((av.reverse ++ .ref a :: rest).map (cvV ad))) (Ts := aG) (n := np) ⟨hx, hb, hml, hown, htsG⟩ (hM l hst D ca ad H.size)
    ⟨callB_of np htsG (aWs_good N hco) rfl rfl rfl (htsG _ hini) (htsG _ hl) hdd ⟨Nat.le_trans hfr hfR, Nat.le_trans hlo hlR⟩, htsG _ hi, htsG _ hse⟩
    ⟨hbl _, hrv, fun U hU hW => hpr (.ref a :: av) U hU hW⟩ rfl (by rw [List.length_map]; exact hnp) hlv.1
    (by show List.map (cvV ad) (av.reverse ++ .ref a :: rest) = _; rw [List.map_append, List.map_reverse]; rfl) (by show 2 * 0 + _ ≤ 8; rw [cv_cat]; omega) hd ⟨by have : cells + k ≤ R.cells := hc; omega, by have : slots + n ≤ R.slots := hsl; omega⟩
theorem J.callS {M N : aM} {sc : aScr} {pc np : Nat} {lv : List (Nat × Value)} {rest : List Value} {hp : aH} {k n mc ms : Nat} {O : Option Value → aH → Prop} {Q : aS → Prop} (site : aSS M N pc np) (av : List Value) (hnp : av.length = np) (hcat : (rest.map fun v => v.category).sum ≤ 8) (hM : JM N av hp mc ms O) (hmc : mc ≤ k) (hms : ms ≤ n) (hno : (∀ v hp', O v hp' → hp'.length = hp.length) ∨ (rfL hp.length lv && rest.all (rfV hp.length)) = true)
    (kk : ∀ v hp', O v hp' → J M sc (pc + 3, lv, v.toList ++ rest, hp', k - mc, n - ms) Q) : J M sc (pc, lv, av.reverse ++ rest, hp, k, n) Q := by
  obtain ⟨idx, hd, hl, hi, hco, hini, hdd, hfr, hlo⟩ := site
  refine aCall (fun p l e R s m args below meth c D ca A hs ad H locs cells slots ls hdy hF _ hbl hpr => ?_) hmc hms hno kk
  obtain ⟨hx, hb, hml, hown, hts, hlk, hnm, hrt, hst, hfR, hlR, hK, hA, hE⟩ := hs
  obtain ⟨hP, hD, hS, hlv, hc, hsl, hX⟩ := hdy
  have htsG : ∀ w ∈ aG, w.before args s = true := fun w hw => hts w (aG_sub hw)
  exact va_runS (As := av.map (cvV ad)) (rest := rest.map (cvV ad)) (own := M.2.1) (g := F0 m pc ls ((av.reverse ++ rest).map (cvV ad))) (Ts := aG) (n := np) ⟨hx, hb, hml, hown, htsG⟩ (hM l hst D ca ad H.size)
    ⟨callB_of np htsG (aWs_good N hco) rfl rfl rfl (htsG _ hini) (htsG _ hl) hdd ⟨Nat.le_trans hfr hfR, Nat.le_trans hlo hlR⟩, htsG _ hi⟩
    ⟨hbl _, fun U hU hW => hpr av U hU hW⟩ rfl (by rw [List.length_map]; exact hnp) hlv.1
    (by show List.map (cvV ad) (av.reverse ++ rest) = _; rw [List.map_append, List.map_reverse]) (by show 2 * 0 + _ ≤ 8; rw [cv_cat]; omega) hd ⟨by have : cells + k ≤ R.cells := hc; omega, by have : slots + n ≤ R.slots := hsl; omega⟩
theorem J.callSN {M N : aM} {sc : aScr} {pc np : Nat} {lv : List (Nat × Value)} {rest : List Value} {hp : aH} {k n mc ms : Nat} {O : Option Value → aH → Prop} {Q : aS → Prop} (site : aSSN M N pc np) (av : List Value) (hnp : av.length = np) (hcat : (rest.map fun v => v.category).sum ≤ 8) (hM : JM N av hp mc ms O) (hmc : mc ≤ k) (hms : ms ≤ n) (hno : (∀ v hp', O v hp' → hp'.length = hp.length) ∨ (rfL hp.length lv && rest.all (rfV hp.length)) = true)
    (kk : ∀ v hp', O v hp' → J M sc (pc + 3, lv, v.toList ++ rest, hp', k - mc, n - ms) Q) : J M sc (pc, lv, av.reverse ++ rest, hp, k, n) Q := by
  obtain ⟨idx, host, hd, hl, hi, hco, hini, hdd, hfr, hlo⟩ := site
  refine aCall (fun p l e R s m args below meth c D ca A hs ad H locs cells slots ls hdy hF _ hbl hpr => ?_) hmc hms hno kk
  obtain ⟨hx, hb, hml, hown, hts, hlk, hnm, hrt, hst, hfR, hlR, hK, hA, hE⟩ := hs
  obtain ⟨hP, hD, hS, hlv, hc, hsl, hX⟩ := hdy
  have htsG : ∀ w ∈ aG, w.before args s = true := fun w hw => hts w (aG_sub hw)
  exact va_runSN (As := av.map (cvV ad)) (rest := rest.map (cvV ad)) (own := M.2.1) (g := F0 m pc ls ((av.reverse ++ rest).map (cvV ad))) (Ts := aG) (n := np) ⟨hx, hb, hml, hown, htsG⟩ (hM l hst D ca ad H.size)
    ⟨va_cnB np htsG (aWs_good N hco) rfl rfl rfl (va_Nw.of rfl (hts _ hl)) (htsG _ hini) hdd ⟨Nat.le_trans hfr hfR, Nat.le_trans hlo hlR⟩, htsG _ hi, trivial⟩
    ⟨hbl _, fun U hU hW => hpr av U hU hW⟩ rfl (by rw [List.length_map]; exact hnp) hlv.1
    (by show List.map (cvV ad) (av.reverse ++ rest) = _; rw [List.map_append, List.map_reverse]) (by show 2 * 0 + _ ≤ 8; rw [cv_cat]; omega) hd ⟨by have : cells + k ≤ R.cells := hc; omega, by have : slots + n ≤ R.slots := hsl; omega⟩
theorem J.callI {M N : aM} {sc : aScr} {pc np : Nat} {lv : List (Nat × Value)} {rest : List Value} {hp : aH} {k n mc ms : Nat} {O : Option Value → aH → Prop} {Q : aS → Prop} (site : aSI M N pc np) (a : Nat) (av : List Value) (hnp : av.length = np) (hcat : (rest.map fun v => v.category).sum ≤ 8) (hM : JM N (.ref a :: av) hp mc ms O) (hmc : mc ≤ k) (hms : ms ≤ n) (hno : (∀ v hp', O v hp' → hp'.length = hp.length) ∨ (rfL hp.length lv && rest.all (rfV hp.length)) = true)
    (kk : ∀ v hp', O v hp' → J M sc (pc + 3, lv, v.toList ++ rest, hp', k - mc, n - ms) Q) : J M sc (pc, lv, av.reverse ++ .ref a :: rest, hp, k, n) Q := by
  obtain ⟨idx, hd, hl, hi, hnm2, hret, hco, hini, hdd, hfr, hlo⟩ := site
  refine aCall (fun p l e R s m args below meth c D ca A hs ad H locs cells slots ls hdy hF _ hbl hpr => ?_) hmc hms hno kk
  obtain ⟨hx, hb, hml, hown, hts, hlk, hnm, hrt, hst, hfR, hlR, hK, hA, hE⟩ := hs
  obtain ⟨hP, hD, hS, hlv, hc, hsl, hX⟩ := hdy
  have htsG : ∀ w ∈ aG, w.before args s = true := fun w hw => hts w (aG_sub hw)
  have hgo := aWs_good N hco
  have hMM := hM l hst D ca ad H.size
  unfold aWs at hgo hMM
  rw [hret] at hgo hMM
  exact va_runI (As := av.map (cvV ad)) (rest := rest.map (cvV ad)) (b := ad a) (own := M.2.1) (g := F0 m pc ls ((av.reverse ++ .ref a :: rest).map (cvV ad))) (Ts := aG) (n := np) ⟨hx, hb, hml, hown, htsG⟩ hMM
    ⟨callB_of np htsG hgo rfl rfl rfl (htsG _ hini) (htsG _ hl) hdd ⟨Nat.le_trans hfr hfR, Nat.le_trans hlo hlR⟩, hnm2, htsG _ hi⟩
    ⟨hbl _, fun U hU hW => hpr (.ref a :: av) U hU hW⟩ rfl (by rw [List.length_map]; exact hnp) hlv.1
    (by show List.map (cvV ad) (av.reverse ++ .ref a :: rest) = _; rw [List.map_append, List.map_reverse]; rfl) (by show 2 * 0 + _ ≤ 8; rw [cv_cat]; omega) hd ⟨by have : cells + k ≤ R.cells := hc; omega, by have : slots + n ≤ R.slots := hsl; omega⟩
theorem J.callIN {M N : aM} {sc : aScr} {pc np : Nat} {lv : List (Nat × Value)} {rest : List Value} {hp : aH} {k n mc ms : Nat} {O : Option Value → aH → Prop} {Q : aS → Prop} (site : aSIN M N pc np) (a : Nat) (av : List Value) (hnp : av.length = np) (hcat : (rest.map fun v => v.category).sum ≤ 8) (hM : JM N (.ref a :: av) hp mc ms O) (hmc : mc ≤ k) (hms : ms ≤ n) (hno : (∀ v hp', O v hp' → hp'.length = hp.length) ∨ (rfL hp.length lv && rest.all (rfV hp.length)) = true)
    (kk : ∀ v hp', O v hp' → J M sc (pc + 3, lv, v.toList ++ rest, hp', k - mc, n - ms) Q) : J M sc (pc, lv, av.reverse ++ .ref a :: rest, hp, k, n) Q := by
  obtain ⟨idx, host, hd, hl, hi, hnm2, hret, hco, hini, hdd, hfr, hlo⟩ := site
  refine aCall (fun p l e R s m args below meth c D ca A hs ad H locs cells slots ls hdy hF _ hbl hpr => ?_) hmc hms hno kk
  obtain ⟨hx, hb, hml, hown, hts, hlk, hnm, hrt, hst, hfR, hlR, hK, hA, hE⟩ := hs
  obtain ⟨hP, hD, hS, hlv, hc, hsl, hX⟩ := hdy
  have htsG : ∀ w ∈ aG, w.before args s = true := fun w hw => hts w (aG_sub hw)
  have hgo := aWs_good N hco
  have hMM := hM l hst D ca ad H.size
  unfold aWs at hgo hMM
  rw [hret] at hgo hMM
  exact va_runIN (As := av.map (cvV ad)) (rest := rest.map (cvV ad)) (b := ad a) (own := M.2.1) (g := F0 m pc ls ((av.reverse ++ .ref a :: rest).map (cvV ad))) (Ts := aG) (n := np) ⟨hx, hb, hml, hown, htsG⟩ hMM
    ⟨va_cnB np htsG hgo rfl rfl rfl (va_Nw.of rfl (hts _ hl)) (htsG _ hini) hdd ⟨Nat.le_trans hfr hfR, Nat.le_trans hlo hlR⟩, hnm2, htsG _ hi⟩
    ⟨hbl _, fun U hU hW => hpr (.ref a :: av) U hU hW⟩ rfl (by rw [List.length_map]; exact hnp) hlv.1
    (by show List.map (cvV ad) (av.reverse ++ .ref a :: rest) = _; rw [List.map_append, List.map_reverse]; rfl) (by show 2 * 0 + _ ≤ 8; rw [cv_cat]; omega) hd ⟨by have : cells + k ≤ R.cells := hc; omega, by have : slots + n ≤ R.slots := hsl; omega⟩
