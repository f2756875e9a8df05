/-! THE INSTRUCTIONS that read, write and make cells -/
def isI : Value → Bool
  | .int _ => true
  | _ => false
def isL : Value → Bool
  | .long _ => true
  | _ => false
def isA : Value → Bool
  | .ref _ => true
  | .null => true
  | _ => false
def isZ : Value → Bool
  | .int x => decide (x = 0) || decide (x = 1)
  | _ => false
theorem isI_ok (ad : Nat → Nat) (v : Value) (h : isI v = true) : narrow .int (cvV ad v) = cvV ad v ∧ fits .int (cvV ad v) = true := by cases v <;> first | exact ⟨rfl, rfl⟩ | cases h
theorem isL_ok (ad : Nat → Nat) (v : Value) (h : isL v = true) : narrow .long (cvV ad v) = cvV ad v ∧ fits .long (cvV ad v) = true := by cases v <;> first | exact ⟨rfl, rfl⟩ | cases h
theorem isA_ok (C : String) (ad : Nat → Nat) (v : Value) (h : isA v = true) : narrow (.object C) (cvV ad v) = cvV ad v ∧ fits (.object C) (cvV ad v) = true := by cases v <;> first | exact ⟨rfl, rfl⟩ | cases h
theorem isAA_ok (t : FieldType) (ad : Nat → Nat) (v : Value) (h : isA v = true) : narrow (.array t) (cvV ad v) = cvV ad v ∧ fits (.array t) (cvV ad v) = true := by cases v <;> first | exact ⟨rfl, rfl⟩ | cases h
theorem isZ_ok (ad : Nat → Nat) (v : Value) (h : isZ v = true) : narrow .boolean (cvV ad v) = cvV ad v ∧ fits .boolean (cvV ad v) = true := by
  cases v with
  | int x =>
    unfold isZ at h
    rcases Bool.or_eq_true_iff.mp h with h | h
    · have := of_decide_eq_true h
      subst this
      exact ⟨(by decide : narrow .boolean (.int 0) = .int 0), (by decide : fits .boolean (.int 0) = true)⟩
    · have := of_decide_eq_true h
      subst this
      exact ⟨(by decide : narrow .boolean (.int 1) = .int 1), (by decide : fits .boolean (.int 1) = true)⟩
  | _ => cases h
/-- a read: heap and locals stay -/
theorem aRd {M : aM} {sc : aScr} {pc : Nat} {lv : List (Nat × Value)} {st : List Value} {hp : aH} {k n : Nat} (pc' : Nat) (st' : List Value) (h : ∀ (p : Program) (l : Launch) (e : Env) (R : Room) (s : State) (m : MethodId) (args : Array Value) (below : List Frame) (meth : Method) (c : Code) (D : va_G) (ca : Nat → ClassId) (A : Nat → Prop) (Z : State → Prop) (H : Heap) (locs : List Loc) (cells slots : Nat) (ls : Array Slot) (ad : Nat → Nat), p.tables.exec = Jvm.exec → c.code = M.2.2.1 → s.vm.findClass M.2.1 = some m.cls → (∀ w ∈ aT, w.before args s = true) → va_K D vwCl [(ca 0, .int), (ca 1, .long)] s → va_P D vwCl (wl ca ad hp) H → va_S A s.heap H locs → aX sc s A ad → W p l e R s m args below meth c H locs cells slots Z (F0 m pc' ls (st'.map (cvV ad))) → W p l e R s m args below meth c H locs cells slots Z (F0 m pc ls (st.map (cvV ad)))) : ∀ Q, J M sc (pc', lv, st', hp, k, n) Q → J M sc (pc, lv, st, hp, k, n) Q :=
  aStep (fun p l e R s m args below meth c D ca A Z hs ad H locs cells slots ls hd kk => h p l e R s m args below meth c D ca A Z H locs cells slots ls ad hs.1 hs.2.1 hs.2.2.2.1 hs.2.2.2.2.1 hs.2.2.2.2.2.2.2.2.2.2.2.1 hd.1 hd.2.2.1 hd.2.2.2.2.2.2 (kk ad H locs cells slots ls aExt.rf hd))
/-- a write: one place of the heap changes -/
theorem aWr {M : aM} {sc : aScr} {pc : Nat} {lv : List (Nat × Value)} {st : List Value} {hp : aH} {k n : Nat} (pc' : Nat) (st' : List Value) (a : Nat) (e' : va_E) (h : ∀ (p : Program) (l : Launch) (e : Env) (R : Room) (s : State) (m : MethodId) (args : Array Value) (below : List Frame) (meth : Method) (c : Code) (D : va_G) (ca : Nat → ClassId) (A : Nat → Prop) (Z : State → Prop) (H : Heap) (locs : List Loc) (cells slots : Nat) (ls : Array Slot) (ad : Nat → Nat), p.tables.exec = Jvm.exec → c.code = M.2.2.1 → s.vm.findClass M.2.1 = some m.cls → meth.name = M.1.name → (∀ w ∈ aT, w.before args s = true) → va_K D vwCl [(ca 0, .int), (ca 1, .long)] s → va_P D vwCl (wl ca ad hp) H → va_D A (wl ca ad hp) → va_S A s.heap H locs → (∀ (H1 : Heap) (locs1 : List Loc), va_P D vwCl ((wl ca ad hp).set a (ad a, cvE ca ad e')) H1 → va_D A ((wl ca ad hp).set a (ad a, cvE ca ad e')) → va_S A s.heap H1 locs1 → W p l e R s m args below meth c H1 locs1 cells slots Z (F0 m pc' ls (st'.map (cvV ad)))) → W p l e R s m args below meth c H locs cells slots Z (F0 m pc ls (st.map (cvV ad)))) : ∀ Q, J M sc (pc', lv, st', hp.set a e', k, n) Q → J M sc (pc, lv, st, hp, k, n) Q := by
  refine aStep (fun p l e R s m args below meth c D ca A Z hs ad H locs cells slots ls hd kk => ?_)
  refine h p l e R s m args below meth c D ca A Z H locs cells slots ls ad hs.1 hs.2.1 hs.2.2.2.1 hs.2.2.2.2.2.2.1 hs.2.2.2.2.1 hs.2.2.2.2.2.2.2.2.2.2.2.1 hd.1 hd.2.1 hd.2.2.1 (fun H1 locs1 hP hD hS => ?_)
  rw [wl_set] at hP hD
  refine kk ad H1 locs1 cells slots ls ?_ ⟨hP, hD, hS, hd.2.2.2⟩
  dsimp only
  rw [List.length_set]
  exact aExt.rf
def f_get (ci k nx : Nat) : aI := fun S => match S.2.2.1 with
  | .ref a :: r => match hg S.2.2.2.1 a with
    | some (.inr (cj, fs)) => bif Nat.beq cj ci then (match ng fs k with
      | some v => some (.inl (nx, S.2.1, v :: r, S.2.2.2))
      | none => none) else none
    | _ => none
  | _ => none
def f_put (tst : Value → Bool) (ci k nx : Nat) : aI := fun S => match S.2.2.1 with
  | v :: .ref a :: r => match hg S.2.2.2.1 a with
    | some (.inr (cj, fs)) => bif Nat.beq cj ci && tst v then (match ng fs k with
      | some _ => some (.inl (nx, S.2.1, r, S.2.2.2.1.set a (.inr (ci, fs.set k v)), S.2.2.2.2))
      | none => none) else none
    | _ => none
  | _ => none
theorem fg_inv {ci k nx : Nat} {S : aS} {r : aR} (h : f_get ci k nx S = some r) : ∃ a rest fs v, S.2.2.1 = .ref a :: rest ∧ S.2.2.2.1[a]? = some (.inr (ci, fs)) ∧ fs[k]? = some v ∧ r = .inl (nx, S.2.1, v :: rest, S.2.2.2) := by
  unfold f_get at h
  split at h
  · rename_i a rest hst
    split at h
    · rename_i cj fs hh
      cases hc : Nat.beq cj ci with
      | false => rw [hc] at h; cases h
      | true =>
        rw [hc] at h
        have := Nat.eq_of_beq_eq_true hc
        subst this
        cases hv : ng fs k with
        | none => rw [hv] at h; cases h
        | some v =>
          rw [hv] at h
          cases h
          exact ⟨a, rest, fs, v, hst, by rw [← hg_eq]; exact hh, by rw [← ng_eq]; exact hv, rfl⟩
    · cases h
  · cases h
theorem fp_inv {tst : Value → Bool} {ci k nx : Nat} {S : aS} {r : aR} (h : f_put tst ci k nx S = some r) : ∃ a v rest fs, S.2.2.1 = v :: .ref a :: rest ∧ S.2.2.2.1[a]? = some (.inr (ci, fs)) ∧ k < fs.length ∧ tst v = true ∧ r = .inl (nx, S.2.1, rest, S.2.2.2.1.set a (.inr (ci, fs.set k v)), S.2.2.2.2) := by
  unfold f_put at h
  split at h
  · rename_i v a rest hst
    split at h
    · rename_i cj fs hh
      cases hc : Nat.beq cj ci && tst v with
      | false => rw [hc] at h; cases h
      | true =>
        rw [hc] at h
        obtain ⟨h1, h2⟩ := Bool.and_eq_true_iff.mp hc
        have := Nat.eq_of_beq_eq_true h1
        subst this
        cases hv : ng fs k with
        | none => rw [hv] at h; cases h
        | some u =>
          rw [hv] at h
          cases h
          rw [ng_eq] at hv
          exact ⟨a, v, rest, fs, hst, by rw [← hg_eq]; exact hh, (List.getElem?_eq_some_iff.mp hv).1, h2, rfl⟩
    · cases h
  · cases h
theorem wl_obj {ca : Nat → ClassId} {ad : Nat → Nat} {hp : aH} {a ci : Nat} {fs : List Value} (h : hp[a]? = some (.inr (ci, fs))) : (wl ca ad hp)[a]? = some (ad a, .inr (ci, fs.map (cvV ad))) := wl_get h
theorem ok_get {M : aM} {sc : aScr} {pc nx idx ci k N : Nat} {C : String} {T : u_T} (hd : decode M.2.2.1 pc = .ok (.getfield idx, 3)) (hc : vwCl[ci]? = some (C, T, N)) (hin : ∀ w ∈ u_ws C T N, w ∈ aT) (hk : k < N) (hl : Cond.fieldLink M.2.1 idx (T k).1 (T k).2.1 (T k).2.2.1 ∈ aT) (hn : nx = pc + 3) : aOk M sc pc (f_get ci k nx) := by
  subst hn
  intro lv st hp k' n r hr
  obtain ⟨a, rest, fs, v, h1, h2, h3, rfl⟩ := fg_inv hr
  dsimp only at h1 h2
  subst h1
  exact aRd _ _ (fun p l e R s m args below meth c D ca A Z H locs cells slots ls ad hx hb hown hts hK hP hS hX kk => va_get hx hb hts hin hown hK hP a (wl_obj h2) hc k hk (hts _ hl) (fun _ h9 => h9) (by rw [List.getElem?_map, h3]; rfl) hd kk)
theorem ok_getN {M : aM} {sc : aScr} {pc nx idx ci k N : Nat} {C host : String} {T : u_T} (hd : decode M.2.2.1 pc = .ok (.getfield idx, 3)) (hc : vwCl[ci]? = some (C, T, N)) (hin : ∀ w ∈ u_ws C T N, w ∈ aT) (hk : k < N) (hl : Cond.fieldLinkNest M.2.1 idx (T k).1 (T k).2.1 (T k).2.2.1 host ∈ aT) (hn : nx = pc + 3) : aOk M sc pc (f_get ci k nx) := by
  subst hn
  intro lv st hp k' n r hr
  obtain ⟨a, rest, fs, v, h1, h2, h3, rfl⟩ := fg_inv hr
  dsimp only at h1 h2
  subst h1
  exact aRd _ _ (fun p l e R s m args below meth c D ca A Z H locs cells slots ls ad hx hb hown hts hK hP hS hX kk => va_getN hx hb hts hin hown hK hP a (wl_obj h2) hc k hk (hts _ hl) (fun _ h9 => h9) (by rw [List.getElem?_map, h3]; rfl) hd kk)
theorem cvE_set (ca : Nat → ClassId) (ad : Nat → Nat) (ci k : Nat) (fs : List Value) (v : Value) : cvE ca ad (.inr (ci, fs.set k v)) = .inr (ci, (fs.map (cvV ad)).set k (cvV ad v)) := by
  unfold cvE
  dsimp only
  rw [List.map_set]
theorem ok_put {M : aM} {sc : aScr} {pc nx idx ci k N : Nat} {C : String} {T : u_T} {tst : Value → Bool} {ty : FieldType} (ty0 : Nat → FieldType) (hd : decode M.2.2.1 pc = .ok (.putfield idx, 3)) (hc : vwCl[ci]? = some (C, T, N)) (hin : ∀ w ∈ u_ws C T N, w ∈ aT) (hty : ∀ k, k < N → parseFieldDescriptor (T k).2.2.1 = some (ty0 k)) (hnm : ∀ a, a < N → ∀ b, b < N → a ≠ b → (T a).2.1 ≠ (T b).2.1) (hk : k < N) (hl : Cond.fieldLink M.2.1 idx (T k).1 (T k).2.1 (T k).2.2.1 ∈ aT) (hf : (T k).2.2.2 = false) (he : ty0 k = ty) (ht : ∀ ad v, tst v = true → narrow ty (cvV ad v) = cvV ad v ∧ fits ty (cvV ad v) = true) (hn : nx = pc + 3) : aOk M sc pc (f_put tst ci k nx) := by
  subst hn
  intro lv st hp k' n r hr
  obtain ⟨a, v, rest, fs, h1, h2, h3, h4, rfl⟩ := fp_inv hr
  dsimp only at h1 h2
  subst h1
  refine aWr _ _ a _ (fun p l e R s m args below meth c D ca A Z H locs cells slots ls ad hx hb hown hname hts hK hP hD hS kk => ?_)
  rw [cvE_set] at kk
  exact va_put hx hb hts hin ty0 hty hnm hown hK hP hD hS a (wl_obj h2) hc k hk (hts _ hl) (fun _ h9 => h9) hf (by rw [hty k hk, he]) (ht ad v h4).1 (ht ad v h4).2 (by rw [List.length_map]; exact h3) hd kk
theorem ok_putN {M : aM} {sc : aScr} {pc nx idx ci k N : Nat} {C host : String} {T : u_T} {tst : Value → Bool} {ty : FieldType} (ty0 : Nat → FieldType) (hd : decode M.2.2.1 pc = .ok (.putfield idx, 3)) (hc : vwCl[ci]? = some (C, T, N)) (hin : ∀ w ∈ u_ws C T N, w ∈ aT) (hty : ∀ k, k < N → parseFieldDescriptor (T k).2.2.1 = some (ty0 k)) (hnm : ∀ a, a < N → ∀ b, b < N → a ≠ b → (T a).2.1 ≠ (T b).2.1) (hk : k < N) (hl : Cond.fieldLinkNest M.2.1 idx (T k).1 (T k).2.1 (T k).2.2.1 host ∈ aT) (hf : (T k).2.2.2 = false) (he : ty0 k = ty) (ht : ∀ ad v, tst v = true → narrow ty (cvV ad v) = cvV ad v ∧ fits ty (cvV ad v) = true) (hn : nx = pc + 3) : aOk M sc pc (f_put tst ci k nx) := by
  subst hn
  intro lv st hp k' n r hr
  obtain ⟨a, v, rest, fs, h1, h2, h3, h4, rfl⟩ := fp_inv hr
  dsimp only at h1 h2
  subst h1
  refine aWr _ _ a _ (fun p l e R s m args below meth c D ca A Z H locs cells slots ls ad hx hb hown hname hts hK hP hD hS kk => ?_)
  rw [cvE_set] at kk
  exact va_putN hx hb hts hin ty0 hty hnm hown hK hP hD hS a (wl_obj h2) hc k hk (hts _ hl) (fun _ h9 => h9) hf (by rw [hty k hk, he]) (ht ad v h4).1 (ht ad v h4).2 (by rw [List.length_map]; exact h3) hd kk
theorem ok_putF {M : aM} {sc : aScr} {pc nx idx ci k N : Nat} {C : String} {T : u_T} {tst : Value → Bool} {ty : FieldType} (ty0 : Nat → FieldType) (hd : decode M.2.2.1 pc = .ok (.putfield idx, 3)) (hi : M.1.name = "<init>") (hdc : (T k).1 = M.2.1) (hc : vwCl[ci]? = some (C, T, N)) (hin : ∀ w ∈ u_ws C T N, w ∈ aT) (hty : ∀ k, k < N → parseFieldDescriptor (T k).2.2.1 = some (ty0 k)) (hnm : ∀ a, a < N → ∀ b, b < N → a ≠ b → (T a).2.1 ≠ (T b).2.1) (hk : k < N) (hl : Cond.fieldLink M.2.1 idx (T k).1 (T k).2.1 (T k).2.2.1 ∈ aT) (hf : (T k).2.2.2 = true) (he : ty0 k = ty) (ht : ∀ ad v, tst v = true → narrow ty (cvV ad v) = cvV ad v ∧ fits ty (cvV ad v) = true) (hn : nx = pc + 3) : aOk M sc pc (f_put tst ci k nx) := by
  subst hn
  intro lv st hp k' n r hr
  obtain ⟨a, v, rest, fs, h1, h2, h3, h4, rfl⟩ := fp_inv hr
  dsimp only at h1 h2
  subst h1
  refine aWr _ _ a _ (fun p l e R s m args below meth c D ca A Z H locs cells slots ls ad hx hb hown hname hts hK hP hD hS kk => ?_)
  rw [cvE_set] at kk
  exact va_putF hx hb hts hin ty0 hty hnm hown hK hP hD hS a (wl_obj h2) hc k hk (hts _ hl) (fun _ h9 => h9) hf (hname.trans hi) hdc (by rw [hty k hk, he]) (ht ad v h4).1 (ht ad v h4).2 (by rw [List.length_map]; exact h3) hd kk
def f_iald (nx : Nat) : aI := fun S => match S.2.2.1 with
  | .int i :: .ref a :: r => match hg S.2.2.2.1 a with
    | some (.inl (0, N, .inl f)) => some (.inr (.inl (vp_in i N, (nx, S.2.1, .int (f i.toNatClampNeg) :: r, S.2.2.2))))
    | _ => none
  | _ => none
def f_lald (nx : Nat) : aI := fun S => match S.2.2.1 with
  | .int i :: .ref a :: r => match hg S.2.2.2.1 a with
    | some (.inl (1, N, .inr (.inl f))) => some (.inr (.inl (vp_in i N, (nx, S.2.1, .long (f i.toNatClampNeg) :: r, S.2.2.2))))
    | _ => none
  | _ => none
def f_iast (nx : Nat) : aI := fun S => match S.2.2.1 with
  | .int x :: .int i :: .ref a :: r => match hg S.2.2.2.1 a with
    | some (.inl (0, N, .inl f)) => some (.inr (.inl (vp_in i N, (nx, S.2.1, r, S.2.2.2.1.set a (.inl (0, N, .inl (upd f i.toNatClampNeg x))), S.2.2.2.2))))
    | _ => none
  | _ => none
def f_last (nx : Nat) : aI := fun S => match S.2.2.1 with
  | .long x :: .int i :: .ref a :: r => match hg S.2.2.2.1 a with
    | some (.inl (1, N, .inr (.inl f))) => some (.inr (.inl (vp_in i N, (nx, S.2.1, r, S.2.2.2.1.set a (.inl (1, N, .inr (.inl (vp_updL f i.toNatClampNeg x)))), S.2.2.2.2))))
    | _ => none
  | _ => none
def f_alen (nx : Nat) : aI := fun S => match S.2.2.1 with
  | .ref a :: r => match hg S.2.2.2.1 a with
    | some (.inl (0, N, _)) => some (.inl (nx, S.2.1, .int (Int32.ofNat N) :: r, S.2.2.2))
    | some (.inl (1, N, _)) => some (.inl (nx, S.2.1, .int (Int32.ofNat N) :: r, S.2.2.2))
    | _ => none
  | _ => none
theorem ok_iald {M : aM} {sc : aScr} {pc nx : Nat} (hd : decode M.2.2.1 pc = .ok (.iaload, 1)) (hn : nx = pc + 1) : aOk M sc pc (f_iald nx) := by
  subst hn
  intro lv st hp k n r hr
  unfold f_iald at hr
  split at hr
  · rename_i i a rest hst
    split at hr
    · rename_i N f hh
      cases hr
      dsimp only at hst hh
      subst hst
      rw [hg_eq] at hh
      intro hin
      exact aRd _ _ (fun p l e R s m args below meth c D ca A Z H locs cells slots ls ad hx hb hown hts hK hP hS hX kk => va_iald hx hb hK hP a 0 (wl_get hh) rfl hin hd kk)
    · cases hr
  · cases hr
theorem ok_lald {M : aM} {sc : aScr} {pc nx : Nat} (hd : decode M.2.2.1 pc = .ok (.laload, 1)) (hn : nx = pc + 1) : aOk M sc pc (f_lald nx) := by
  subst hn
  intro lv st hp k n r hr
  unfold f_lald at hr
  split at hr
  · rename_i i a rest hst
    split at hr
    · rename_i N f hh
      cases hr
      dsimp only at hst hh
      subst hst
      rw [hg_eq] at hh
      intro hin
      exact aRd _ _ (fun p l e R s m args below meth c D ca A Z H locs cells slots ls ad hx hb hown hts hK hP hS hX kk => va_lald hx hb hK hP a 1 (wl_get hh) rfl hin hd kk)
    · cases hr
  · cases hr
theorem ok_iast {M : aM} {sc : aScr} {pc nx : Nat} (hd : decode M.2.2.1 pc = .ok (.iastore, 1)) (hn : nx = pc + 1) : aOk M sc pc (f_iast nx) := by
  subst hn
  intro lv st hp k n r hr
  unfold f_iast at hr
  split at hr
  · rename_i x i a rest hst
    split at hr
    · rename_i N f hh
      cases hr
      dsimp only at hst hh
      subst hst
      rw [hg_eq] at hh
      intro hin
      exact aWr _ _ a _ (fun p l e R s m args below meth c D ca A Z H locs cells slots ls ad hx hb hown hname hts hK hP hD hS kk => va_iast hx hb hK hP hD hS a 0 (wl_get hh) rfl hin hd kk)
    · cases hr
  · cases hr
theorem ok_last {M : aM} {sc : aScr} {pc nx : Nat} (hd : decode M.2.2.1 pc = .ok (.lastore, 1)) (hn : nx = pc + 1) : aOk M sc pc (f_last nx) := by
  subst hn
  intro lv st hp k n r hr
  unfold f_last at hr
  split at hr
  · rename_i x i a rest hst
    split at hr
    · rename_i N f hh
      cases hr
      dsimp only at hst hh
      subst hst
      rw [hg_eq] at hh
      intro hin
      exact aWr _ _ a _ (fun p l e R s m args below meth c D ca A Z H locs cells slots ls ad hx hb hown hname hts hK hP hD hS kk => va_last hx hb hK hP hD hS a 1 (wl_get hh) rfl hin hd kk)
    · cases hr
  · cases hr
theorem ok_alen {M : aM} {sc : aScr} {pc nx : Nat} (hd : decode M.2.2.1 pc = .ok (.arraylength, 1)) (hn : nx = pc + 1) : aOk M sc pc (f_alen nx) := by
  subst hn
  intro lv st hp k n r hr
  unfold f_alen at hr
  split at hr
  · rename_i a rest hst
    split at hr
    · rename_i N f hh
      cases hr
      dsimp only at hst hh
      subst hst
      rw [hg_eq] at hh
      exact aRd _ _ (fun p l e R s m args below meth c D ca A Z H locs cells slots ls ad hx hb hown hts hK hP hS hX kk => va_alen hx hb hK hP a 0 (wl_get hh) rfl rfl hd kk)
    · rename_i N f hh
      cases hr
      dsimp only at hst hh
      subst hst
      rw [hg_eq] at hh
      exact aRd _ _ (fun p l e R s m args below meth c D ca A Z H locs cells slots ls ad hx hb hown hts hK hP hS hX kk => va_alen hx hb hK hP a 1 (wl_get hh) rfl rfl hd kk)
    · cases hr
  · cases hr
/-- the law's script -/
def f_slen (L nx : Nat) : aI := fun S => match S.2.2.1 with
  | .ref 1000 :: r => some (.inl (nx, S.2.1, .int (Int32.ofNat L) :: r, S.2.2.2))
  | _ => none
def f_sld (L : Nat) (xs : Nat → Int32) (nx : Nat) : aI := fun S => match S.2.2.1 with
  | .int i :: .ref 1000 :: r => some (.inr (.inl (vp_in i L, (nx, S.2.1, .int (xs i.toNatClampNeg) :: r, S.2.2.2))))
  | _ => none
theorem ok_slen {M : aM} {L : Nat} {xs : Nat → Int32} {pc nx : Nat} (hd : decode M.2.2.1 pc = .ok (.arraylength, 1)) (hn : nx = pc + 1) : aOk M (some (L, xs)) pc (f_slen L nx) := by
  subst hn
  intro lv st hp k n r hr
  unfold f_slen at hr
  split at hr
  · rename_i rest hst
    cases hr
    dsimp only at hst
    subst hst
    exact aRd _ _ (fun p l e R s m args below meth c D ca A Z H locs cells slots ls ad hx hb hown hts hK hP hS hX kk => va_slen hx hb hX.1 hX.2.1 hX.2.2 hS hd kk)
  · cases hr
theorem ok_sld {M : aM} {L : Nat} {xs : Nat → Int32} {pc nx : Nat} (hd : decode M.2.2.1 pc = .ok (.iaload, 1)) (hn : nx = pc + 1) : aOk M (some (L, xs)) pc (f_sld L xs nx) := by
  subst hn
  intro lv st hp k n r hr
  unfold f_sld at hr
  split at hr
  · rename_i i rest hst
    cases hr
    dsimp only at hst
    subst hst
    intro hin
    exact aRd _ _ (fun p l e R s m args below meth c D ca A Z H locs cells slots ls ad hx hb hown hts hK hP hS hX kk => va_sld hx hb hX.1 hX.2.1 hX.2.2 hS hin hd kk)
  · cases hr
/-- Object's own constructor -/
def f_obj (nx : Nat) : aI := fun S => match S.2.2.1 with
  | [.ref _] => some (.inl (nx, S.2.1, [], S.2.2.2))
  | _ => none
theorem ok_obj {M : aM} {sc : aScr} {pc nx idx : Nat} (hd : decode M.2.2.1 pc = .ok (.invokespecial idx, 3)) (hl : Cond.methodLink M.2.1 idx Lib.objectInit ∈ aT) (hi : Cond.instanceMethod Lib.objectInit ∈ aT) (hc : Cond.code Lib.objectInit ⟨#[0xb1]⟩ 1 none ∈ aT) (hf : 1 ≤ M.2.2.2.2.2.1) (hlo : 12 ≤ M.2.2.2.2.2.2.1) (hn : nx = pc + 3) : aOk M sc pc (f_obj nx) := by
  subst hn
  intro lv st hp k n r hr
  unfold f_obj at hr
  split at hr
  · rename_i a hst
    cases hr
    dsimp only at hst
    subst hst
    refine aStep (fun p l e R s m args below meth c D ca A Z hs ad H locs cells slots ls hd' kk => ?_)
    obtain ⟨hx, hb, hml, hown, hts, -, -, -, -, hfr, hlc, -⟩ := hs
    refine W.objInit (rest := []) hx hb hown (hts _ hl) (hts _ hi) (hts _ hc) rfl (by rw [hml]; exact hd'.2.2.2.1.1) rfl hd (Nat.le_trans hf hfr) (by show 2 * 0 + 0 + 12 ≤ _; omega) ?_
    exact kk ad H locs cells slots ls aExt.rf hd'
  · cases hr
