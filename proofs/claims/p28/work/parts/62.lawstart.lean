/-! THE CLAIM OUT OF ONE WALK OF THE LAW'S BODY. Your part is whole_start (and what it stands on); all else here is the same for every law, but numbers. -/
def R_law : String := "FlashRatchetLaw"
def lw_P (b : Addr) (xs : List Int32) (args : Array Value) (s : State) : Prop := args = #[.ref b] ∧ s.IntsAt b xs ∧ xs.length ≤ 260 ∧ (Jvm.Cond.and given_1 narrow_1).before args s = true
/-- what a walk over the start with the record d0 says of its end, said of the start itself -/
theorem lw_closed {s t : State} {o : Outcome} {d0 : Drawn} {L : List Loc} {k n : Nat} (hd0 : s.drawn.sameBut d0 lw_cs) (hv : ∃ v, o = .returned v) (hW : (s.setDrawn d0).WarmedH t.vm) (hs : (s.setDrawn d0).sameButNew ({ t with vm := s.vm } : State) L k n) : State.butDraws s t lw_cs (fun t1 => Framed s o t1 L k n) := by
  have h2 : t.drawn = d0 := congrArg State.drawn hs.1
  refine ⟨⟨hv, hW, State.sameButNew.setDrawn hs s.drawn⟩, ?_, by decide⟩
  rw [h2]
  exact hd0
def lw_Q (_ : Array Value) (s : State) (o : Outcome) (t : State) : Prop := o = .returned (some (.int 1)) ∧ State.butDraws s t lw_cs (fun t1 => Framed s o t1 [] 600104 7301314)
def lw_Z (below : List Frame) (a : Array Value) (s : State) : State → Prop := fun t => ∃ o, t.status = .running ∧ Ended t below o ∧ lw_Q a s o t
/-- the law's own end, with 1 on the stack, nothing written that was there before, its room as the claim has it; d0: the record of draws at this point (at the entry s.drawn: begin with 'refine W.base ?_' and 'have hd0 := Drawn.sameBut.refl s.drawn lw_cs') -/
theorem lw_ret {p : Program} {l : Launch} {e : Env} {s : State} {m : MethodId} {below : List Frame} {meth : Method} {c : Code} {b : Nat} {d0 : Drawn} (hd0 : s.drawn.sameBut d0 lw_cs) (hx : p.tables.exec = Jvm.exec) (hb : c.code = code) (hr : meth.sig.returnType = ret) (hlocks : meth.locks = false) {pc : Nat} {H : Heap} {ls : Array Slot} (hdg : decode code pc = .ok (.ireturn, 1)) : W p l e room_1 (s.setDrawn d0) m #[Value.ref b] below meth c H [] 600104 7301314 (lw_Z below #[Value.ref b] s) (F0 m pc ls [.int 1]) := by
  intro T hT X
  obtain ⟨fs, hret, hrun, hended, hW, hframe⟩ := X.leave (v := some (.int 1)) (hlocks := hlocks) (fun h => by rw [hr] at h; cases h)
  have hmeth' : T.vm.method? m = some meth := X.method'
  refine ⟨T.setFrames fs, ?_, .returned (some (.int 1)), hrun, hended, rfl, lw_closed hd0 ⟨_, rfl⟩ hW hframe⟩
  jvm_step X.here [X.here.top, hx, hb, hdg, hmeth', hr, ret, narrow_b1]
  (try refine ⟨rfl, ?_⟩); (try refine ⟨rfl, ?_⟩)
  first | (intro acts; rw [hret _ acts rfl rfl rfl]) | rw [hret _ _ rfl rfl rfl]
  exact Steps.refl _
/-- what holds at the law's entry: the machine, the code, the tables' words (any of lw_tbl by 'hts w (by decide +kernel)'), the script of L ints xs at the cell b, what the Statement gives of the start (any of its parts by flat_of_before) -/
def lw_At (p : Program) (s : State) (m : MethodId) (meth : Method) (c : Code) (b L : Nat) (xs : Nat → Int32) : Prop :=
  p.tables.exec = Jvm.exec ∧ c.code = code ∧ meth.sig.returnType = ret ∧ c.maxLocals = 5 ∧ s.vm.findClass R_law = some m.cls ∧ (∀ w ∈ lw_tbl, w.before #[Value.ref b] s = true) ∧ va_X b L xs s s.heap ∧ b < s.heap.size ∧ meth.locks = false ∧ (Jvm.Cond.and given_1 narrow_1).before #[Value.ref b] s = true

theorem law_known {s : State} {b : Nat} (hts : ∀ w ∈ aT, w.before #[Value.ref b] s = true) : ∃ (D : va_G) (ca : Nat → ClassId), va_K D vwCl [(ca 0, .int), (ca 1, .long)] s := by
  have hk : ∀ (k : Nat) (q : vw_C), vwCl[k]? = some q → ∃ (cC : ClassId) (iS : Nat → Nat), u_Kn s q.1 q.2.1 q.2.2 cC iS := by
    intro k q hq
    match k, hq with
    | 0, hq => cases hq; exact u_known (C := RX0) (T := TX0) (N := 5) (n := 5) hts in_X0 (hts _ (aG_sub wG_155))
    | 1, hq => cases hq; exact u_known (C := RX1) (T := TX1) (N := 2) (n := 2) hts in_X1 (hts _ (aG_sub wG_220))
    | 2, hq => cases hq; exact u_known (C := RX2) (T := TX2) (N := 9) (n := 9) hts in_X2 (hts _ (aG_sub wG_115))
    | 3, hq => cases hq; exact u_known (C := RX3) (T := TX3) (N := 12) (n := 12) hts in_X3 (hts _ (aG_sub wG_212))
    | 4, hq => cases hq; exact u_known (C := RX4) (T := TX4) (N := 1) (n := 1) hts in_X4 (hts _ (aG_sub wG_52))
    | 5, hq => cases hq; exact u_known (C := RX5) (T := TX5) (N := 2) (n := 2) hts in_X5 (hts _ (aG_sub wG_265))
    | 6, hq => cases hq; exact u_known (C := RX6) (T := TX6) (N := 8) (n := 8) hts in_X6 (hts _ (aG_sub wG_179))
    | 7, hq => cases hq; exact u_known (C := RX7) (T := TX7) (N := 5) (n := 5) hts in_X7 (hts _ (aG_sub wG_83))
    | 8, hq => cases hq; exact u_known (C := RX8) (T := TX8) (N := 5) (n := 5) hts in_X8 (hts _ (aG_sub wG_46))
    | 9, hq => cases hq; exact u_known (C := RX9) (T := TX9) (N := 11) (n := 11) hts in_X9 (hts _ (aG_sub wG_38))
    | k + 10, hq => exact absurd hq (by simp [vwCl])
  obtain ⟨c0, i0, -⟩ := hk 0 _ rfl
  have hc : ∀ k : Nat, ∃ x9 : ClassId × (Nat → Nat), ∀ q : vw_C, vwCl[k]? = some q → u_Kn s q.1 q.2.1 q.2.2 x9.1 x9.2 := by
    intro k
    cases h : vwCl[k]? with
    | none => exact ⟨(c0, i0), fun q hq => by cases hq⟩
    | some q =>
      obtain ⟨c1, i1, h1⟩ := hk k q h
      exact ⟨(c1, i1), fun q' hq => by cases hq; exact h1⟩
  have hg : ∃ g : Nat → ClassId × (Nat → Nat), ∀ (k : Nat) (q : vw_C), vwCl[k]? = some q → u_Kn s q.1 q.2.1 q.2.2 (g k).1 (g k).2 := ⟨fun k => Classical.choose (hc k), fun k => Classical.choose_spec (hc k)⟩
  obtain ⟨g, hg⟩ := hg
  obtain ⟨cI, kI, mI, a1, a2, a3⟩ := Cond.arrayClass_spec (hts _ (aG_sub wG_791))
  obtain ⟨cJ, kJ, mJ, b1, b2, b3⟩ := Cond.arrayClass_spec (hts _ (aG_sub wG_61))
  refine ⟨(fun k => (g k).1, fun k => (g k).2), fun k => if k = 0 then cI else cJ, hg, fun k q hq => ?_⟩
  match k, hq with
  | 0, hq =>
    cases hq
    exact ⟨fun n z => ⟨fun k h => (by cases h), kI, a2, mI, a3⟩, a1⟩
  | 1, hq =>
    cases hq
    exact ⟨fun n z => ⟨fun k h => (by cases h), kJ, b2, mJ, b3⟩, b1⟩
  | k + 2, hq => exact absurd hq (by simp)
theorem aT_tbl {w : Cond} (h : w ∈ aT) : w ∈ lw_tbl := by
  rcases List.mem_append.mp h with g | g
  · exact (List.mem_filter.mp g).1
  · exact (List.mem_filter.mp g).1
theorem aStr_own : aStr.all (fun q => decide (q.1 = "FlashRatchet")) = true := by decide +kernel
theorem law_E {s : State} {b : Nat} (hts : ∀ w ∈ lw_tbl, w.before #[Value.ref b] s = true) (hgv : (Jvm.Cond.and given_1 narrow_1).before #[Value.ref b] s = true) {cF : ClassId} (hF : s.vm.findClass "FlashRatchet" = some cF) : aE s (fun q => s.heap.size ≤ q) := by
  have hs := flat_of_before _ hgv
  refine ⟨vx_Zqof (hts _ (List.mem_of_getElem? (i := 347) (by decide +kernel))) (hts _ (List.mem_of_getElem? (i := 29) (by decide +kernel))) (hs _ (by decide +kernel)) (fun a h => Nat.not_le.mpr h), vx_Zqof (hts _ (List.mem_of_getElem? (i := 349) (by decide +kernel))) (hts _ (List.mem_of_getElem? (i := 29) (by decide +kernel))) (hs _ (by decide +kernel)) (fun a h => Nat.not_le.mpr h), fun q hq => ?_, fun w hw => ?_, ?_⟩
  · have ho : q.1 = "FlashRatchet" := of_decide_eq_true (List.all_eq_true.mp aStr_own q hq)
    obtain ⟨w, hw, he⟩ := List.mem_filterMap.mp hq
    have h1 := hts w hw
    cases w with
    | stringRef o k t =>
      cases he
      dsimp only at ho
      subst ho
      obtain ⟨kk, cf, i, a, -, -, -, -, -, hev⟩ := Cond.stringRef_spec hF h1
      exact ⟨a, vk_R.of h1 hev⟩
    | _ => cases he
  · have hm := List.mem_filter.mp hw
    have h := hts w hm.1
    have hn := hm.2
    cases w with
    | fieldLinkNest a i b n d x => exact va_Nw.of rfl h
    | methodLinkNest a i x y => exact va_Nw.of rfl h
    | castable a b => exact va_Nw.of rfl h
    | _ => cases hn
  · exact fun _ h => absurd h List.not_mem_nil
/-- from the entry, for every script of at most 260 ints, the law comes to its end with true -/
theorem whole_start (hd : DF) {p : Program} {e : Env} {s : State} {m : MethodId} {below : List Frame} {meth : Method} {c : Code} (l : Launch) (hflags : l.flags = flags0) {b L : Nat} {xs : Nat → Int32} (hL : L ≤ 260) (hnm : meth.name = x.name) (C0 : lw_At p s m meth c b L xs) : W p l e room_1 s m #[Value.ref b] below meth c s.heap [] 0 0 (lw_Z below #[Value.ref b] s) (entryFrame m ([Value.ref b] : List Value).toArray 5) := by
  obtain ⟨hx, hb, hr, hml, hown, hts, hX, hbl, hlocks, hgv⟩ := id C0
  have hst : l.stackTraces = false := by
    show (!l.flags.contains noTraceFlag) = false
    rw [hflags]
    decide +kernel
  have hts2 : ∀ w ∈ aT, w.before #[Value.ref b] s = true := fun w hw => hts w (aT_tbl hw)
  obtain ⟨D, ca, hK⟩ := law_known hts2
  have hE := law_E hts hgv (hK.1 9 _ rfl).2.1
  have hP : va_P D vwCl (wl ca (fun _ => b) []) s.heap := fun k q h => by cases h
  have hD : va_D (fun q : Nat => s.heap.size ≤ q) (wl ca (fun _ => b) []) := ⟨fun i j p q h => (by cases h), fun k q h => (by cases h)⟩
  have hl := lv_entry ([.ref b]) (n := 5) (Nat.le_of_ble_eq_true rfl)
  rw [lg_entry_eq]
  generalize (lg_sl ([.ref b]) ++ List.replicate (5 - (lg_sl ([.ref b])).length) Slot.unset).toArray = ls at hl ⊢
  have hl : lv_has ls 5 [(0, .ref b)] := hl
  refine law_run (L := L) (xs := xs) hd hL p l e room_1 s m #[Value.ref b] below meth c D ca (fun q => s.heap.size ≤ q) _ ⟨hx, hb, hml, hown, hts2, hlocks, hnm, hr, hst, Nat.le_of_ble_eq_true rfl, Nat.le_of_ble_eq_true rfl, hK, fun _ h => h, hE⟩ (fun _ => b) s.heap [] 0 0 ls ⟨hP, hD, va_S.rf, hl, Nat.le_of_ble_eq_true rfl, Nat.le_of_ble_eq_true rfl, ⟨hX, hbl, Nat.not_le.mpr hbl⟩⟩ (fun T ad' H' locs' cells' slots' ls' hT hx2 hd2 => ?_)
  obtain ⟨v, hret, hv⟩ := hT
  obtain ⟨pc, lv, st, hp', k, n⟩ := T
  obtain ⟨hP', hD', hS', hl', hc', hs', -⟩ := hd2
  dsimp only at hv hc' hs' hret
  refine va_forget (fun q hq => hS'.2.2 q hq) ?_
  refine W.widen (k := 600104) (n := 7301314) (by have : cells' + k ≤ 600104 := hc'; omega) (by have : slots' + n ≤ 7301314 := hs'; omega) ?_
  rcases hret with ⟨x9, h1, -, h4, h5⟩ | ⟨x9, h1, h2, h4, h5⟩ | ⟨x9, h1, h2, h4, h5⟩ | ⟨h1, h2, h4, h5⟩
  · dsimp only at h4
    subst h4
    have e9 : x9 = 1 := by
      rw [h5] at hv
      cases hv
      rfl
    subst e9
    refine W.base ?_
    exact lw_ret (Drawn.sameBut.refl s.drawn lw_cs) hx hb hr hlocks h1
  · rw [h5] at hv
    cases hv
  · rw [h5] at hv
    cases hv
  · rw [h5] at hv
    cases hv
