/-! THE ABSTRACT MACHINE: a method's run over abstract cells (references are places in a list), tied to the kit's rows once. J M sc S Q: from every machine state that matches S, a state that matches some T with Q T is reached. -/
abbrev aH : Type := List va_E
abbrev aS : Type := Nat × List (Nat × Value) × List Value × aH × Nat × Nat
abbrev aR : Type := aS ⊕ ((Prop × aS) ⊕ (Prop × aS × aS))
abbrev aI : Type := aS → Option aR
abbrev aM : Type := MethodName × String × ByteArray × Nat × Option FieldType × Nat × Nat × List (List (Nat × aI))
abbrev aScr : Type := Option (Nat × (Nat → Int32))
/-- the words that a call may hand on -/
def aG : List Cond := lw_tbl.filter goodWord
/-- the words of nest mates and casts: handed on as facts of the state -/
def nestW : Cond → Bool
  | .fieldLinkNest .. => true
  | .methodLinkNest .. => true
  | .castable .. => true
  | _ => false
def aN : List Cond := lw_tbl.filter nestW
def aT : List Cond := aG ++ aN
theorem aG_in {w : Cond} (h : w ∈ lw_tbl) (g : goodWord w = true) : w ∈ aG := List.mem_filter.mpr ⟨h, g⟩
theorem aT_in {w : Cond} (h : w ∈ lw_tbl) (g : goodWord w = true) : w ∈ aT := List.mem_append_left _ (aG_in h g)
theorem aT_inN {w : Cond} (h : w ∈ lw_tbl) (g : nestW w = true) : w ∈ aT := List.mem_append_right _ (List.mem_filter.mpr ⟨h, g⟩)
theorem aG_good {ws : List Cond} (h : ∀ w ∈ ws, w ∈ aG) : GoodIn aG ws := fun w hw => ⟨h w hw, good_of_word (List.mem_filter.mp (h w hw)).2⟩
/-- the pairs of classes of exceptions that aren't castable -/
def aNC : List (String × String) := []
def cvV (ad : Nat → Nat) : Value → Value
  | .ref k => .ref (ad k)
  | .int x => .int x
  | .long x => .long x
  | .float x => .float x
  | .double x => .double x
  | .null => .null
  | .retAddr x => .retAddr x
def cvE (ca : Nat → ClassId) (ad : Nat → Nat) : va_E → va_E
  | .inl (c, a) => .inl (ca c, a)
  | .inr (ci, fs) => .inr (ci, fs.map (cvV ad))
def wl (ca : Nat → ClassId) (ad : Nat → Nat) (hp : aH) : va_W := hp.mapIdx (fun i e => (ad i, cvE ca ad e))
def cvL (ad : Nat → Nat) (lv : List (Nat × Value)) : List (Nat × Value) := lv.map (fun q => (q.1, cvV ad q.2))
theorem cvV_cat (ad : Nat → Nat) (v : Value) : (cvV ad v).category = v.category := by cases v <;> rfl
theorem wl_get {ca : Nat → ClassId} {ad : Nat → Nat} {hp : aH} {k : Nat} {e : va_E} (h : hp[k]? = some e) : (wl ca ad hp)[k]? = some (ad k, cvE ca ad e) := by
  unfold wl
  rw [List.getElem?_mapIdx, h]
  rfl
theorem wl_set (ca : Nat → ClassId) (ad : Nat → Nat) (hp : aH) (k : Nat) (e : va_E) : (wl ca ad hp).set k (ad k, cvE ca ad e) = wl ca ad (hp.set k e) := by
  unfold wl
  apply List.ext_getElem?
  intro i
  rw [List.getElem?_set, List.getElem?_mapIdx, List.getElem?_mapIdx, List.getElem?_set]
  simp only [List.length_mapIdx]
  by_cases h : k = i
  · subst h
    by_cases h2 : k < hp.length
    · simp [h2]
    · simp [h2]
  · simp [h]
theorem wl_len (ca : Nat → ClassId) (ad : Nat → Nat) (hp : aH) : (wl ca ad hp).length = hp.length := by simp [wl]
theorem cvL_get {ad : Nat → Nat} {lv : List (Nat × Value)} {q : Nat × Value} (h : q ∈ lv) : (q.1, cvV ad q.2) ∈ cvL ad lv := List.mem_map.mpr ⟨q, h, rfl⟩
/-- the strings of the class's throws: own class, place, text -/
def aStr : List (String × Nat × String) := lw_tbl.filterMap (fun w => match w with | .stringRef o k t => some (o, k, t) | _ => none)
/-- what the tables and the launch say beside the words: the statics of Throwable, the strings -/
def aE (s : State) (A : Nat → Prop) : Prop := vx_Zq Bundle.tN "UNASSIGNED_STACK" Bundle.steD A s s.heap ∧ vx_Zq Bundle.tN "SUPPRESSED_SENTINEL" Bundle.listD A s s.heap ∧ (∀ q ∈ aStr, ∃ sa, vk_R q.1 q.2.1 q.2.2 sa s) ∧ (∀ w ∈ aN, va_Nw w s) ∧ ∀ q ∈ aNC, va_Nc q.1 q.2 s
def aX (sc : aScr) (s : State) (A : Nat → Prop) (ad : Nat → Nat) : Prop := match sc with
  | none => True
  | some (L, xs) => va_X (ad 1000) L xs s s.heap ∧ ad 1000 < s.heap.size ∧ ¬ A (ad 1000)
def aSt (M : aM) (p : Program) (l : Launch) (R : Room) (s : State) (m : MethodId) (args : Array Value) (meth : Method) (c : Code) (D : va_G) (ca : Nat → ClassId) (A : Nat → Prop) : Prop :=
  p.tables.exec = Jvm.exec ∧ c.code = M.2.2.1 ∧ c.maxLocals = M.2.2.2.1 ∧ s.vm.findClass M.2.1 = some m.cls ∧ (∀ w ∈ aT, w.before args s = true) ∧ meth.locks = false ∧ meth.name = M.1.name ∧ meth.sig.returnType = M.2.2.2.2.1 ∧ l.stackTraces = false ∧ M.2.2.2.2.2.1 ≤ R.frames ∧ M.2.2.2.2.2.2.1 ≤ R.locals ∧ va_K D vwCl [(ca 0, .int), (ca 1, .long)] s ∧ (∀ q, s.heap.size ≤ q → A q) ∧ aE s A
def aDy (M : aM) (sc : aScr) (R : Room) (s : State) (D : va_G) (ca : Nat → ClassId) (A : Nat → Prop) (ad : Nat → Nat) (S : aS) (H : Heap) (locs : List Loc) (cells slots : Nat) (ls : Array Slot) : Prop :=
  va_P D vwCl (wl ca ad S.2.2.2.1) H ∧ va_D A (wl ca ad S.2.2.2.1) ∧ va_S A s.heap H locs ∧ lv_has ls M.2.2.2.1 (cvL ad S.2.1) ∧ cells + S.2.2.2.2.1 ≤ R.cells ∧ slots + S.2.2.2.2.2 ≤ R.slots ∧ aX sc s A ad
def aExt (ad : Nat → Nat) (n : Nat) (ad' : Nat → Nat) (n' : Nat) : Prop := n ≤ n' ∧ (n' = n → ad' = ad) ∧ ∀ k, k < n ∨ k = 1000 → ad' k = ad k
theorem aExt.rf {ad : Nat → Nat} {n : Nat} : aExt ad n ad n := ⟨Nat.le_refl _, fun _ => rfl, fun _ _ => rfl⟩
theorem aExt.tr {a1 a2 a3 : Nat → Nat} {n1 n2 n3 : Nat} (h : aExt a1 n1 a2 n2) (g : aExt a2 n2 a3 n3) : aExt a1 n1 a3 n3 := by
  refine ⟨Nat.le_trans h.1 g.1, fun e => ?_, fun k hk => ?_⟩
  · have h1 := h.1
    have h2 := g.1
    rw [g.2.1 (by omega), h.2.1 (by omega)]
  · rw [g.2.2 k (by have := h.1; omega), h.2.2 k hk]
abbrev aF (m : MethodId) (ls : Array Slot) (ad : Nat → Nat) (S : aS) : JFrame := F0 m S.1 ls (S.2.2.1.map (cvV ad))
def J (M : aM) (sc : aScr) (S : aS) (Q : aS → Prop) : Prop :=
  ∀ (p : Program) (l : Launch) (e : Env) (R : Room) (s : State) (m : MethodId) (args : Array Value) (below : List Frame) (meth : Method) (c : Code) (D : va_G) (ca : Nat → ClassId) (A : Nat → Prop) (Z : State → Prop),
  aSt M p l R s m args meth c D ca A → ∀ (ad : Nat → Nat) (H : Heap) (locs : List Loc) (cells slots : Nat) (ls : Array Slot), aDy M sc R s D ca A ad S H locs cells slots ls →
  (∀ (T : aS) (ad' : Nat → Nat) (H' : Heap) (locs' : List Loc) (cells' slots' : Nat) (ls' : Array Slot), Q T → aExt ad S.2.2.2.1.length ad' T.2.2.2.1.length → aDy M sc R s D ca A ad' T H' locs' cells' slots' ls' → W p l e R s m args below meth c H' locs' cells' slots' Z (aF m ls' ad' T)) →
  W p l e R s m args below meth c H locs cells slots Z (aF m ls ad S)
theorem J.fin {M : aM} {sc : aScr} {S : aS} {Q : aS → Prop} (h : Q S) : J M sc S Q :=
  fun _ _ _ _ _ _ _ _ _ _ _ _ _ _ _ ad H locs cells slots ls hd kk => kk S ad H locs cells slots ls h aExt.rf hd
theorem J.mono {M : aM} {sc : aScr} {S : aS} {Q Q' : aS → Prop} (h : J M sc S Q) (hq : ∀ T, Q T → Q' T) : J M sc S Q' :=
  fun p l e R s m args below meth c D ca A Z hs ad H locs cells slots ls hd kk => h p l e R s m args below meth c D ca A Z hs ad H locs cells slots ls hd (fun T ad' H' locs' cells' slots' ls' hT => kk T ad' H' locs' cells' slots' ls' (hq T hT))
theorem J.tr {M : aM} {sc : aScr} {S : aS} {Q Q' : aS → Prop} (h : J M sc S Q) (hq : ∀ T, Q T → J M sc T Q') : J M sc S Q' :=
  fun p l e R s m args below meth c D ca A Z hs ad H locs cells slots ls hd kk => h p l e R s m args below meth c D ca A Z hs ad H locs cells slots ls hd (fun T ad' H' locs' cells' slots' ls' hT hx hd' => hq T hT p l e R s m args below meth c D ca A Z hs ad' H' locs' cells' slots' ls' hd' (fun U ad2 H2 locs2 c2 s2 ls2 hU hx2 hd2 => kk U ad2 H2 locs2 c2 s2 ls2 hU (hx.tr hx2) hd2))
/-- one step of the machine, as the rows have it -/
theorem aStep {M : aM} {sc : aScr} {S T : aS} (h : ∀ (p : Program) (l : Launch) (e : Env) (R : Room) (s : State) (m : MethodId) (args : Array Value) (below : List Frame) (meth : Method) (c : Code) (D : va_G) (ca : Nat → ClassId) (A : Nat → Prop) (Z : State → Prop),
  aSt M p l R s m args meth c D ca A → ∀ (ad : Nat → Nat) (H : Heap) (locs : List Loc) (cells slots : Nat) (ls : Array Slot), aDy M sc R s D ca A ad S H locs cells slots ls →
  (∀ (ad' : Nat → Nat) (H' : Heap) (locs' : List Loc) (cells' slots' : Nat) (ls' : Array Slot), aExt ad S.2.2.2.1.length ad' T.2.2.2.1.length → aDy M sc R s D ca A ad' T H' locs' cells' slots' ls' → W p l e R s m args below meth c H' locs' cells' slots' Z (aF m ls' ad' T)) →
  W p l e R s m args below meth c H locs cells slots Z (aF m ls ad S)) (Q : aS → Prop) (hJ : J M sc T Q) : J M sc S Q := by
  intro p l e R s m args below meth c D ca A Z hs ad H locs cells slots ls hd kk
  refine h p l e R s m args below meth c D ca A Z hs ad H locs cells slots ls hd (fun ad' H' locs' cells' slots' ls' hx hd' => ?_)
  exact hJ p l e R s m args below meth c D ca A Z hs ad' H' locs' cells' slots' ls' hd' (fun U ad2 H2 locs2 c2 s2 ls2 hU hx2 hd2 => kk U ad2 H2 locs2 c2 s2 ls2 hU (hx.tr hx2) hd2)
def aGood (M : aM) (sc : aScr) (S : aS) (r : aR) : Prop := match r with
  | .inl T => ∀ Q, J M sc T Q → J M sc S Q
  | .inr (.inl (g, T)) => g → ∀ Q, J M sc T Q → J M sc S Q
  | .inr (.inr (g, T, U)) => ∀ Q, (g → J M sc T Q) → (¬ g → J M sc U Q) → J M sc S Q
def aOk (M : aM) (sc : aScr) (pc : Nat) (f : aI) : Prop := ∀ lv st hp k n r, f (pc, lv, st, hp, k, n) = some r → aGood M sc (pc, lv, st, hp, k, n) r
def lkB : List (Nat × aI) → Nat → aI
  | [], _ => fun _ => none
  | (q, f) :: B, pc => bif Nat.beq q pc then f else lkB B pc
def nthB : List (List (Nat × aI)) → Nat → List (Nat × aI)
  | [], _ => []
  | B :: _, 0 => B
  | _ :: L, n + 1 => nthB L n
def stp (M : aM) (S : aS) : Option aR := lkB (nthB M.2.2.2.2.2.2.2 (S.1 / 16)) S.1 S
def mu (M : aM) : Nat → aS → Option aS
  | 0, S => some S
  | k + 1, S => match stp M S with
    | some (.inl T) => mu M k T
    | _ => none
def aTb (M : aM) (sc : aScr) : Prop := ∀ B ∈ M.2.2.2.2.2.2.2, ∀ q ∈ B, aOk M sc q.1 q.2
theorem nthB_mem {L : List (List (Nat × aI))} {n : Nat} : nthB L n = [] ∨ nthB L n ∈ L := by
  induction L generalizing n with
  | nil => exact Or.inl rfl
  | cons B L ih =>
    cases n with
    | zero => exact Or.inr List.mem_cons_self
    | succ n => exact (ih (n := n)).imp id (fun h => List.mem_cons_of_mem _ h)
theorem lkB_ok {M : aM} {sc : aScr} {B : List (Nat × aI)} (h : ∀ q ∈ B, aOk M sc q.1 q.2) (pc : Nat) : aOk M sc pc (lkB B pc) := by
  induction B with
  | nil => intro lv st hp k n r hr; cases hr
  | cons q B ih =>
    obtain ⟨q, f⟩ := q
    unfold lkB
    cases hq : Nat.beq q pc with
    | false => exact ih (fun x hx => h x (List.mem_cons_of_mem _ hx))
    | true =>
      have e := Nat.eq_of_beq_eq_true hq
      subst e
      exact h _ List.mem_cons_self
theorem stp_ok {M : aM} {sc : aScr} (h : aTb M sc) {S : aS} {r : aR} (hr : stp M S = some r) : aGood M sc S r := by
  obtain ⟨pc, lv, st, hp, k, n⟩ := S
  unfold stp at hr
  rcases nthB_mem (L := M.2.2.2.2.2.2.2) (n := pc / 16) with e | e
  · dsimp only at hr
    rw [e] at hr
    cases hr
  · exact lkB_ok (h _ e) pc lv st hp k n r hr
theorem J.go {M : aM} {sc : aScr} (h : aTb M sc) (k : Nat) {S : aS} (T : aS) {Q : aS → Prop} (hk : mu M k S = some T) (kk : J M sc T Q) : J M sc S Q := by
  induction k generalizing S with
  | zero =>
    cases hk
    exact kk
  | succ k ih =>
    unfold mu at hk
    cases hs : stp M S with
    | none => rw [hs] at hk; cases hk
    | some r =>
      rw [hs] at hk
      match r, hs, hk with
      | .inl U, hs, hk => exact stp_ok h hs Q (ih hk)
      | .inr _, hs, hk => cases hk
theorem J.ck {M : aM} {sc : aScr} (h : aTb M sc) {S : aS} {g : Prop} (T : aS) {Q : aS → Prop} (hk : stp M S = some (.inr (.inl (g, T)))) (hg : g) (kk : J M sc T Q) : J M sc S Q := stp_ok h hk hg Q kk
theorem J.br {M : aM} {sc : aScr} (h : aTb M sc) {S : aS} (g : Prop) (T U : aS) {Q : aS → Prop} (hk : stp M S = some (.inr (.inr (g, T, U)))) (kt : g → J M sc T Q) (kf : ¬ g → J M sc U Q) : J M sc S Q := stp_ok h hk Q kt kf
/-- fewer locals, in any order -/
theorem J.lv {M : aM} {sc : aScr} {pc : Nat} {lv st hp k n} (ks : List Nat) (lv' : List (Nat × Value)) {Q : aS → Prop} (hl : lv_pick lv ks = lv') (kk : J M sc (pc, lv', st, hp, k, n) Q) : J M sc (pc, lv, st, hp, k, n) Q := by
  intro p l e R s m args below meth c D ca A Z hs ad H locs cells slots ls hd kk2
  obtain ⟨h1, h2, h3, h4, h5⟩ := hd
  refine kk p l e R s m args below meth c D ca A Z hs ad H locs cells slots ls ⟨h1, h2, h3, ?_, h5⟩ kk2
  refine lv_sub h4 ks ?_
  subst hl
  show lv_pick (cvL ad lv) ks = cvL ad (lv_pick lv ks)
  unfold lv_pick cvL
  rw [List.map_filterMap]
  congr 1
  funext i
  rw [List.getElem?_map]
