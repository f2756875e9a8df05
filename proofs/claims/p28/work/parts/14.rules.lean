/-! RULES for the runs of methods: cuts at branches, checks, calls; contracts with one outcome; loops -/
def lk (M : aM) (pc : Nat) : aI := lkB (nthB M.2.2.2.2.2.2.2 (pc / 16)) pc
theorem J.at {M : aM} {sc : aScr} (h : aTb M sc) {S : aS} {r : aR} {f : aI} (hc : lk M S.1 = f) (hr : f S = some r) : aGood M sc S r := stp_ok h (by unfold stp; rw [show lkB (nthB M.2.2.2.2.2.2.2 (S.1 / 16)) S.1 = f from hc]; exact hr)
/-- k steps, written so that they reduce on written places -/
def stq (M : aM) : aS → Option aR
  | (pc, lv, st, hp, k, n) => lk M pc (pc, lv, st, hp, k, n)
def mv (M : aM) : Nat → aS → Option aS
  | 0, S => some S
  | k + 1, S => match stq M S with
    | some (.inl T) => mv M k T
    | _ => none
theorem stq_stp (M : aM) (S : aS) : stq M S = stp M S := rfl
theorem mv_mu (M : aM) (k : Nat) (S : aS) : mv M k S = mu M k S := by
  induction k generalizing S with
  | zero => rfl
  | succ k ih =>
    unfold mv mu
    rw [stq_stp]
    cases stp M S with
    | none => rfl
    | some r =>
      cases r with
      | inl T => exact ih T
      | inr _ => rfl
theorem J.gp {M : aM} {sc : aScr} (h : aTb M sc) (k : Nat) {S : aS} (T : aS) {Q : aS → Prop} (hk : mv M k S = some T) (kk : J M sc T Q) : J M sc S Q := J.go h k T (by rw [← mv_mu]; exact hk) kk
section
variable {M : aM} {sc : aScr} {pc : Nat} {lv : List (Nat × Value)} {r : List Value} {hp : aH} {k n : Nat} {Q : aS → Prop}
theorem J.ifB (h : aTb M sc) (g : Int32 → Prop) (pt nx : Nat) {x : Int32} (hc : lk M pc = f_if g pt nx) (kt : g x → J M sc (pt, lv, r, hp, k, n) Q) (kf : ¬ g x → J M sc (nx, lv, r, hp, k, n) Q) : J M sc (pc, lv, .int x :: r, hp, k, n) Q := (J.at h (S := (pc, lv, .int x :: r, hp, k, n)) hc rfl) Q kt kf
theorem J.icB (h : aTb M sc) (g : Int32 → Int32 → Prop) (pt nx : Nat) {x y : Int32} (hc : lk M pc = f_ic g pt nx) (kt : g x y → J M sc (pt, lv, r, hp, k, n) Q) (kf : ¬ g x y → J M sc (nx, lv, r, hp, k, n) Q) : J M sc (pc, lv, .int y :: .int x :: r, hp, k, n) Q := (J.at h (S := (pc, lv, .int y :: .int x :: r, hp, k, n)) hc rfl) Q kt kf
theorem J.ifT (h : aTb M sc) (g : Int32 → Prop) (pt nx : Nat) {x : Int32} (hc : lk M pc = f_if g pt nx) (hg : g x) (kt : J M sc (pt, lv, r, hp, k, n) Q) : J M sc (pc, lv, .int x :: r, hp, k, n) Q := J.ifB h g pt nx hc (fun _ => kt) (fun c => absurd hg c)
theorem J.ifF (h : aTb M sc) (g : Int32 → Prop) (pt nx : Nat) {x : Int32} (hc : lk M pc = f_if g pt nx) (hg : ¬ g x) (kf : J M sc (nx, lv, r, hp, k, n) Q) : J M sc (pc, lv, .int x :: r, hp, k, n) Q := J.ifB h g pt nx hc (fun c => absurd c hg) (fun _ => kf)
theorem J.icT (h : aTb M sc) (g : Int32 → Int32 → Prop) (pt nx : Nat) {x y : Int32} (hc : lk M pc = f_ic g pt nx) (hg : g x y) (kt : J M sc (pt, lv, r, hp, k, n) Q) : J M sc (pc, lv, .int y :: .int x :: r, hp, k, n) Q := J.icB h g pt nx hc (fun _ => kt) (fun c => absurd hg c)
theorem J.icF (h : aTb M sc) (g : Int32 → Int32 → Prop) (pt nx : Nat) {x y : Int32} (hc : lk M pc = f_ic g pt nx) (hg : ¬ g x y) (kf : J M sc (nx, lv, r, hp, k, n) Q) : J M sc (pc, lv, .int y :: .int x :: r, hp, k, n) Q := J.icB h g pt nx hc (fun c => absurd c hg) (fun _ => kf)
theorem J.swB (h : aTb M sc) (lo hi : Int) (tg : List Nat) (df t : Nat) {x : Int32} (hc : lk M pc = f_sw lo hi tg df) (ht : swT lo hi tg df x = t) (kk : J M sc (t, lv, r, hp, k, n) Q) : J M sc (pc, lv, .int x :: r, hp, k, n) Q := (J.at h (S := (pc, lv, .int x :: r, hp, k, n)) hc rfl) Q (by rw [ht]; exact kk)
theorem J.idivB (h : aTb M sc) (nx : Nat) {x y : Int32} (hc : lk M pc = f_idiv nx) (hg : ¬ y = 0) (kk : J M sc (nx, lv, .int (x / y) :: r, hp, k, n) Q) : J M sc (pc, lv, .int y :: .int x :: r, hp, k, n) Q := (J.at h (S := (pc, lv, .int y :: .int x :: r, hp, k, n)) hc rfl) hg Q kk
theorem J.iremB (h : aTb M sc) (nx : Nat) {x y : Int32} (hc : lk M pc = f_irem nx) (hg : ¬ y = 0) (kk : J M sc (nx, lv, .int (x - x / y * y) :: r, hp, k, n) Q) : J M sc (pc, lv, .int y :: .int x :: r, hp, k, n) Q := (J.at h (S := (pc, lv, .int y :: .int x :: r, hp, k, n)) hc rfl) hg Q kk
theorem J.ldivB (h : aTb M sc) (nx : Nat) {x y : Int64} (hc : lk M pc = f_ldiv nx) (hg : ¬ y = 0) (kk : J M sc (nx, lv, .long (x / y) :: r, hp, k, n) Q) : J M sc (pc, lv, .long y :: .long x :: r, hp, k, n) Q := (J.at h (S := (pc, lv, .long y :: .long x :: r, hp, k, n)) hc rfl) hg Q kk
theorem J.lremB (h : aTb M sc) (nx : Nat) {x y : Int64} (hc : lk M pc = f_lrem nx) (hg : ¬ y = 0) (kk : J M sc (nx, lv, .long (x - x / y * y) :: r, hp, k, n) Q) : J M sc (pc, lv, .long y :: .long x :: r, hp, k, n) Q := (J.at h (S := (pc, lv, .long y :: .long x :: r, hp, k, n)) hc rfl) hg Q kk
theorem J.ddivB (h : aTb M sc) (nx : Nat) {x y : UInt64} (hc : lk M pc = f_ddiv nx) (hg : vf_n64 (FP.ddiv x y)) (kk : J M sc (nx, lv, .double (FP.ddiv x y) :: r, hp, k, n) Q) : J M sc (pc, lv, .double y :: .double x :: r, hp, k, n) Q := (J.at h (S := (pc, lv, .double y :: .double x :: r, hp, k, n)) hc rfl) hg Q kk
theorem J.dmulB (h : aTb M sc) (nx : Nat) {x y : UInt64} (hc : lk M pc = f_dmul nx) (hg : vf_n64 (FP.dmul x y)) (kk : J M sc (nx, lv, .double (FP.dmul x y) :: r, hp, k, n) Q) : J M sc (pc, lv, .double y :: .double x :: r, hp, k, n) Q := (J.at h (S := (pc, lv, .double y :: .double x :: r, hp, k, n)) hc rfl) hg Q kk
theorem J.getH (h : aTb M sc) (kf nx : Nat) {ci a : Nat} {fs : List Value} {v : Value} (hc : lk M pc = f_get ci kf nx) (he : hg hp a = some (.inr (ci, fs))) (hv : ng fs kf = some v) (kk : J M sc (nx, lv, v :: r, hp, k, n) Q) : J M sc (pc, lv, .ref a :: r, hp, k, n) Q := by
  refine (J.at h (S := (pc, lv, .ref a :: r, hp, k, n)) (r := .inl (nx, lv, v :: r, hp, k, n)) hc ?_) Q kk
  unfold f_get
  dsimp only
  rw [he]
  dsimp only
  rw [Nat.beq_refl, hv]
  rfl
theorem J.putH (h : aTb M sc) (tst : Value → Bool) (kf nx : Nat) {ci a : Nat} {fs : List Value} {u v : Value} (hc : lk M pc = f_put tst ci kf nx) (he : hg hp a = some (.inr (ci, fs))) (hv : ng fs kf = some u) (ht : tst v = true) (kk : J M sc (nx, lv, r, hp.set a (.inr (ci, fs.set kf v)), k, n) Q) : J M sc (pc, lv, v :: .ref a :: r, hp, k, n) Q := by
  refine (J.at h (S := (pc, lv, v :: .ref a :: r, hp, k, n)) (r := .inl (nx, lv, r, hp.set a (.inr (ci, fs.set kf v)), k, n)) hc ?_) Q kk
  unfold f_put
  dsimp only
  rw [he]
  dsimp only
  rw [Nat.beq_refl, ht, hv]
  rfl
theorem J.alenL (h : aTb M sc) (nx : Nat) {a N : Nat} {f : Nat → Int64} (hc : lk M pc = f_alen nx) (he : hg hp a = some (.inl (1, N, .inr (.inl f)))) (kk : J M sc (nx, lv, .int (nI N) :: r, hp, k, n) Q) : J M sc (pc, lv, .ref a :: r, hp, k, n) Q := by
  refine (J.at h (S := (pc, lv, .ref a :: r, hp, k, n)) (r := .inl (nx, lv, .int (nI N) :: r, hp, k, n)) hc ?_) Q kk
  unfold f_alen
  dsimp only
  rw [he]
  rfl
theorem J.laldB (h : aTb M sc) (nx : Nat) {a N : Nat} {f : Nat → Int64} {i : Int32} (j : Nat) (hc : lk M pc = f_lald nx) (he : hg hp a = some (.inl (1, N, .inr (.inl f)))) (hi : i = nI j) (hj : j < N) (hN : N < 2 ^ 31) (kk : J M sc (nx, lv, .long (f j) :: r, hp, k, n) Q) : J M sc (pc, lv, .int i :: .ref a :: r, hp, k, n) Q := by
  subst hi
  refine (J.at h (S := (pc, lv, .int (nI j) :: .ref a :: r, hp, k, n)) (r := .inr (.inl (vp_in (nI j) N, (nx, lv, .long (f (nI j).toNatClampNeg) :: r, hp, k, n)))) hc ?_) (vp_in_nI hj hN) Q ?_
  · unfold f_lald
    dsimp only
    rw [he]
    rfl
  · rw [nI_clamp (Nat.lt_trans hj hN)]
    exact kk
theorem J.ialdB (h : aTb M sc) (nx : Nat) {a N : Nat} {f : Nat → Int32} {i : Int32} (j : Nat) (hc : lk M pc = f_iald nx) (he : hg hp a = some (.inl (0, N, .inl f))) (hi : i = nI j) (hj : j < N) (hN : N < 2 ^ 31) (kk : J M sc (nx, lv, .int (f j) :: r, hp, k, n) Q) : J M sc (pc, lv, .int i :: .ref a :: r, hp, k, n) Q := by
  subst hi
  refine (J.at h (S := (pc, lv, .int (nI j) :: .ref a :: r, hp, k, n)) (r := .inr (.inl (vp_in (nI j) N, (nx, lv, .int (f (nI j).toNatClampNeg) :: r, hp, k, n)))) hc ?_) (vp_in_nI hj hN) Q ?_
  · unfold f_iald
    dsimp only
    rw [he]
    rfl
  · rw [nI_clamp (Nat.lt_trans hj hN)]
    exact kk
theorem J.lastB (h : aTb M sc) (nx : Nat) {a N : Nat} {f : Nat → Int64} {i : Int32} {x : Int64} (j : Nat) (hc : lk M pc = f_last nx) (he : hg hp a = some (.inl (1, N, .inr (.inl f)))) (hi : i = nI j) (hj : j < N) (hN : N < 2 ^ 31) (kk : J M sc (nx, lv, r, hp.set a (.inl (1, N, .inr (.inl (vp_updL f j x)))), k, n) Q) : J M sc (pc, lv, .long x :: .int i :: .ref a :: r, hp, k, n) Q := by
  subst hi
  refine (J.at h (S := (pc, lv, .long x :: .int (nI j) :: .ref a :: r, hp, k, n)) (r := .inr (.inl (vp_in (nI j) N, (nx, lv, r, hp.set a (.inl (1, N, .inr (.inl (vp_updL f (nI j).toNatClampNeg x)))), k, n)))) hc ?_) (vp_in_nI hj hN) Q ?_
  · unfold f_last
    dsimp only
    rw [he]
    rfl
  · rw [nI_clamp (Nat.lt_trans hj hN)]
    exact kk
theorem J.iastB (h : aTb M sc) (nx : Nat) {a N : Nat} {f : Nat → Int32} {i : Int32} {x : Int32} (j : Nat) (hc : lk M pc = f_iast nx) (he : hg hp a = some (.inl (0, N, .inl f))) (hi : i = nI j) (hj : j < N) (hN : N < 2 ^ 31) (kk : J M sc (nx, lv, r, hp.set a (.inl (0, N, .inl (upd f j x))), k, n) Q) : J M sc (pc, lv, .int x :: .int i :: .ref a :: r, hp, k, n) Q := by
  subst hi
  refine (J.at h (S := (pc, lv, .int x :: .int (nI j) :: .ref a :: r, hp, k, n)) (r := .inr (.inl (vp_in (nI j) N, (nx, lv, r, hp.set a (.inl (0, N, .inl (upd f (nI j).toNatClampNeg x))), k, n)))) hc ?_) (vp_in_nI hj hN) Q ?_
  · unfold f_iast
    dsimp only
    rw [he]
    rfl
  · rw [nI_clamp (Nat.lt_trans hj hN)]
    exact kk
theorem J.sldB {L : Nat} {xs : Nat → Int32} (h : aTb M sc) (nx : Nat) {i : Int32} (j : Nat) (hc : lk M pc = f_sld L xs nx) (hi : i = nI j) (hj : j < L) (hL : L < 2 ^ 31) (kk : J M sc (nx, lv, .int (xs j) :: r, hp, k, n) Q) : J M sc (pc, lv, .int i :: .ref 1000 :: r, hp, k, n) Q := by
  subst hi
  refine (J.at h (S := (pc, lv, .int (nI j) :: .ref 1000 :: r, hp, k, n)) (r := .inr (.inl (vp_in (nI j) L, (nx, lv, .int (xs (nI j).toNatClampNeg) :: r, hp, k, n)))) hc rfl) (vp_in_nI hj hL) Q ?_
  rw [nI_clamp (Nat.lt_trans hj hL)]
  exact kk
theorem J.newB (h : aTb M sc) (nx : Nat) (ci N : Nat) (fs : List Value) (hc : lk M pc = f_new ci N fs nx) (hg : rfS hp.length lv r hp = true ∧ 1 ≤ k ∧ N ≤ n) (kk : J M sc (nx, lv, .ref hp.length :: r, hp ++ [.inr (ci, fs)], k - 1, n - N) Q) : J M sc (pc, lv, r, hp, k, n) Q := (J.at h (S := (pc, lv, r, hp, k, n)) hc rfl) hg Q kk
theorem J.newaB (h : aTb M sc) (nx : Nat) (t N : Nat) {i : Int32} (hc : lk M pc = f_newa t nx) (hi : i = nI N) (hN : N ≤ 100000) (hg : rfS hp.length lv r hp = true ∧ 1 ≤ k ∧ N ≤ n) (kk : J M sc (nx, lv, .ref hp.length :: r, hp ++ [bif Nat.beq t 0 then .inl (0, N, .inl (fun _ => 0)) else .inl (1, N, .inr (.inl (fun _ => 0)))], k - 1, n - N) Q) : J M sc (pc, lv, .int i :: r, hp, k, n) Q := by
  subst hi
  have e : (nI N).toNatClampNeg = N := nI_clamp (by omega)
  refine (J.at h (S := (pc, lv, .int (nI N) :: r, hp, k, n)) hc rfl) ⟨hg.1, ?_, by rw [e]; exact hN, hg.2.1, by rw [e]; exact hg.2.2⟩ Q ?_
  · exact nI_pos (by omega)
  · rw [e]
    exact kk
end
/-- a contract with one outcome, which makes no cell -/
def JE (M : aM) (av : List Value) (hp : aH) (v : Option Value) (q : aH) : Prop := JM M av hp 0 0 (fun v' q' => v' = v ∧ q' = q)
def OE (v : Option Value) (q : aH) : Option Value → aH → Prop := fun v' q' => v' = v ∧ q' = q
section
variable {M N : aM} {sc : aScr} {pc np : Nat} {lv : List (Nat × Value)} {rest : List Value} {hp q : aH} {k n : Nat} {Q : aS → Prop}
theorem J.callVE (site : aSV M N pc np) (nx a : Nat) (av : List Value) (ci : Nat) {fs : List Value} {qc : vw_C} {v : Option Value} (hM : JE N (.ref a :: av) hp v q) (hnx : pc + 3 = nx) (hnp : av.length = np) (hci : vwCl[ci]? = some qc) (hq : qc.1 = N.1.cls) (hrc : hg hp a = some (.inr (ci, fs))) (hcat : (rest.map fun v => v.category).sum ≤ 8) (hln : q.length = hp.length)
    (kk : J M sc (nx, lv, v.toList ++ rest, q, k, n) Q) : J M sc (pc, lv, av.reverse ++ .ref a :: rest, hp, k, n) Q :=
  J.callV site a av ci fs qc hnp hci hq (by rw [← hg_eq]; exact hrc) hcat hM (Nat.zero_le _) (Nat.zero_le _) (Or.inl (fun v' q' h => by rw [h.2]; exact hln)) (fun v' q' h => by rw [h.1, h.2, hnx]; exact kk)
theorem J.callSE (site : aSS M N pc np) (nx : Nat) (av : List Value) {v : Option Value} (hM : JE N av hp v q) (hnx : pc + 3 = nx) (hnp : av.length = np) (hcat : (rest.map fun v => v.category).sum ≤ 8) (hln : q.length = hp.length)
    (kk : J M sc (nx, lv, v.toList ++ rest, q, k, n) Q) : J M sc (pc, lv, av.reverse ++ rest, hp, k, n) Q :=
  J.callS site av hnp hcat hM (Nat.zero_le _) (Nat.zero_le _) (Or.inl (fun v' q' h => by rw [h.2]; exact hln)) (fun v' q' h => by rw [h.1, h.2, hnx]; exact kk)
theorem J.callSNE (site : aSSN M N pc np) (nx : Nat) (av : List Value) {v : Option Value} (hM : JE N av hp v q) (hnx : pc + 3 = nx) (hnp : av.length = np) (hcat : (rest.map fun v => v.category).sum ≤ 8) (hln : q.length = hp.length)
    (kk : J M sc (nx, lv, v.toList ++ rest, q, k, n) Q) : J M sc (pc, lv, av.reverse ++ rest, hp, k, n) Q :=
  J.callSN site av hnp hcat hM (Nat.zero_le _) (Nat.zero_le _) (Or.inl (fun v' q' h => by rw [h.2]; exact hln)) (fun v' q' h => by rw [h.1, h.2, hnx]; exact kk)
/-- a call whose outcome is one of many, the heap as long as before -/
theorem J.callVO (site : aSV M N pc np) (nx a : Nat) (av : List Value) (ci : Nat) {fs : List Value} {qc : vw_C} {O : Option Value → aH → Prop} (hM : JM N (.ref a :: av) hp 0 0 O) (hnx : pc + 3 = nx) (hnp : av.length = np) (hci : vwCl[ci]? = some qc) (hq : qc.1 = N.1.cls) (hrc : hg hp a = some (.inr (ci, fs))) (hcat : (rest.map fun v => v.category).sum ≤ 8) (hln : ∀ v q, O v q → q.length = hp.length)
    (kk : ∀ v q, O v q → J M sc (nx, lv, v.toList ++ rest, q, k, n) Q) : J M sc (pc, lv, av.reverse ++ .ref a :: rest, hp, k, n) Q :=
  J.callV site a av ci fs qc hnp hci hq (by rw [← hg_eq]; exact hrc) hcat hM (Nat.zero_le _) (Nat.zero_le _) (Or.inl hln) (fun v' q' h => by rw [hnx]; exact kk v' q' h)
end
/-- arrays that agree below their length are one cell -/
def eqE (e e' : va_E) : Prop := e = e' ∨ (∃ c n f f', e = .inl (c, n, .inr (.inl f)) ∧ e' = .inl (c, n, .inr (.inl f')) ∧ ∀ j, j < n → f j = f' j) ∨ ∃ c n f f', e = .inl (c, n, .inl f) ∧ e' = .inl (c, n, .inl f') ∧ ∀ j, j < n → f j = f' j
theorem arrV_ext {cA : ClassId} {n : Nat} {f f' : Nat → Value} (h : ∀ j, j < n → f j = f' j) : arrV cA n f = arrV cA n f' := by
  unfold arrV
  congr 1
  apply Array.ext
  · simp
  · intro i h1 h2
    simp at h1
    simp [h i h1]
theorem eqE_at {e e' : va_E} (h : eqE e e') {D : va_G} {cl : List vw_C} {ca : Nat → ClassId} {ad : Nat → Nat} {a : Nat} {H : Heap} (hp : va_at D cl (a, cvE ca ad e) H) : va_at D cl (a, cvE ca ad e') H := by
  rcases h with rfl | ⟨c, n, f, f', rfl, rfl, hf⟩ | ⟨c, n, f, f', rfl, rfl, hf⟩
  · exact hp
  · have h1 : H[a]? = some (arrV (ca c) n (fun j => .long (f j))) := hp
    have h2 : arrV (ca c) n (fun j => Value.long (f j)) = arrV (ca c) n (fun j => .long (f' j)) := arrV_ext (fun j hj => by rw [hf j hj])
    rw [h2] at h1
    exact h1
  · have h1 : H[a]? = some (arrV (ca c) n (fun j => .int (f j))) := hp
    have h2 : arrV (ca c) n (fun j => Value.int (f j)) = arrV (ca c) n (fun j => .int (f' j)) := arrV_ext (fun j hj => by rw [hf j hj])
    rw [h2] at h1
    exact h1
theorem J.hq {M : aM} {sc : aScr} {pc : Nat} {lv : List (Nat × Value)} {st : List Value} {hp : aH} (hp' : aH) {k n : Nat} {Q : aS → Prop} (hl : hp'.length = hp.length) (he : ∀ (i : Nat) (e e' : va_E), hp[i]? = some e → hp'[i]? = some e' → eqE e e') (kk : J M sc (pc, lv, st, hp', k, n) Q) : J M sc (pc, lv, st, hp, k, n) Q := by
  intro p l e R s m args below meth c D ca A Z hs ad H locs cells slots ls hd KK
  obtain ⟨hP, hD, hrest⟩ := hd
  dsimp only at hP hD hrest
  have hlen : ∀ i x, (wl ca ad hp')[i]? = some x → ∃ e e', hp[i]? = some e ∧ hp'[i]? = some e' ∧ x = (ad i, cvE ca ad e') := by
    intro i x hx
    unfold wl at hx
    rw [List.getElem?_mapIdx] at hx
    cases h2 : hp'[i]? with
    | none => rw [h2] at hx; cases hx
    | some e' =>
      rw [h2] at hx
      have hlt := (List.getElem?_eq_some_iff.mp h2).1
      cases h1 : hp[i]? with
      | none => have := List.getElem?_eq_none_iff.mp h1; omega
      | some e => cases hx; exact ⟨e, e', rfl, rfl, rfl⟩
  have hP2 : va_P D vwCl (wl ca ad hp') H := by
    intro i x hx
    obtain ⟨e1, e2, h1, h2, rfl⟩ := hlen i x hx
    exact eqE_at (he i e1 e2 h1 h2) (hP i _ (wl_get h1))
  have hD2 : va_D A (wl ca ad hp') := by
    refine ⟨fun i j x y hx hy hxy => ?_, fun i x hx => ?_⟩
    · obtain ⟨e1, e2, h1, h2, rfl⟩ := hlen i x hx
      obtain ⟨e3, e4, h3, h4, rfl⟩ := hlen j y hy
      exact hD.1 i j _ _ (wl_get h1) (wl_get h3) hxy
    · obtain ⟨e1, e2, h1, h2, rfl⟩ := hlen i x hx
      exact hD.2 i (ad i, cvE ca ad e1) (wl_get h1)
  refine kk p l e R s m args below meth c D ca A Z hs ad H locs cells slots ls ⟨hP2, hD2, hrest⟩ (fun T ad' H' locs' cells' slots' ls' hT hx hd2 => KK T ad' H' locs' cells' slots' ls' hT ?_ hd2)
  dsimp only at hx ⊢
  rw [hl] at hx
  exact hx
/-- loops: from the head at i to the head at b -/
theorem loopN {P : Nat → Prop} {b : Nat} (hb : P b) (hs : ∀ i, i < b → P (i + 1) → P i) (i : Nat) (hi : i ≤ b) : P i := by
  obtain ⟨d, rfl⟩ := Nat.exists_eq_add_of_le hi
  induction d generalizing i with
  | zero => exact hb
  | succ d ih =>
    refine hs i (by omega) (ih (i + 1) ?_ ?_ (by omega))
    · have : i + 1 + d = i + (d + 1) := by omega
      rw [this]; exact hb
    · intro j hj
      exact hs j (by omega)
/-- methods of the JDK's classes -/
theorem a_ofWF {l : Launch} {y : MethodName} {ws ws' : List Cond} {rm : Room} {Pc : Array Value → State → Prop} {Qc : Array Value → State → Outcome → State → Prop} {mc ms : Nat} {free : Addr → Prop} {cc : ByteArray} {maxL : Nat} {ret : Option FieldType}
    (hy : plainFor y = true) (hw : ws = Cond.code y cc maxL ret :: ws')
    (body : ∀ p e s m args below meth c s₁, BodyLoose p l y (headSpec ws rm) cc maxL ret e s m args below meth c s₁ → c.maxLocals = maxL → Pc args s →
      W p l e (headSpec ws rm).room s m args below meth c s.heap [] 0 0 (MQ below Qc args s mc ms free) (entryFrame m args maxL)) : Met l y ws rm Pc Qc mc ms free := by
  refine MetFree.of_bodySF (code := cc) (maxLocals := maxL) (ret := ret) hy ?_ ?_
  · intro args s m h hn
    obtain ⟨meth, c, h1, h2, h3, h4, h5, h6, -, -⟩ := Cond.code_spec hn (atoms_spec (ws := ws) h _ (by rw [hw]; exact List.mem_cons_self))
    exact ⟨meth, c, h1, h2, h3, h4, h5, h6⟩
  · intro p e s m args below meth c s₁ B hml hP _
    have hh0 : s₁.heap = s.heap := by rw [B.state]; rfl
    obtain ⟨t, a1, o, b1, b2, b3⟩ := body p e s m args below meth c s₁ B hml hP s₁ hh0 (Stand.of_body B)
    exact ⟨t, o, a1, b1, b2, ⟨b3.1, b3.2⟩⟩
theorem JM.ofF {M : aM} {av : List Value} {hp : aH} {mc ms : Nat} {O : Option Value → aH → Prop} (hpl : plainFor M.1 = true) (hown : M.2.1 = M.1.cls) (hsz : (lg_sl av).length ≤ M.2.2.2.1) (h : JR M none (0, lv_args 0 av, [], hp, mc, ms) O) : JM M av hp mc ms O := by
  intro l hl D ca ad sz
  refine a_ofWF (cc := M.2.2.1) (maxL := M.2.2.2.1) (ret := M.2.2.2.2.1) hpl rfl ?_
  intro p e s m args below meth c s₁ B hml hv
  obtain ⟨rfl, hsz', hP, hD0, hK, hE⟩ := hv
  have hts := atoms_spec (ws := aWs M) B.pre
  have hts2 : ∀ w ∈ aT, w.before (av.map (cvV ad)).toArray s = true := by
    intro w hw
    rcases List.mem_append.mp hw with g | g
    · exact hts w (List.mem_cons_of_mem _ g)
    · have hn := (List.mem_filter.mp g).2
      have := hE.2.2.2.1 w g
      cases w with
      | fieldLinkNest a i b n d x => exact va_Nw.use rfl this
      | methodLinkNest a i x y => exact va_Nw.use rfl this
      | castable a b => exact va_Nw.use rfl this
      | _ => cases hn
  have hown' : s.vm.findClass M.2.1 = some m.cls := by rw [hown]; exact findClass_of_methodNamed B.named
  have hname : meth.name = M.1.name := (name_of_methodNamed B.named B.method).1
  subst hsz'
  have hD := hD0.self (sz := s.heap.size)
  have hlv := lv_entry (av.map (cvV ad)) (n := M.2.2.2.1) (by rw [lg_sl_len]; exact hsz)
  rw [lv_args_cv] at hlv
  rw [lg_entry_eq]
  refine h p l e (aRm M mc ms) s m _ below meth c D ca (va_A (wl ca ad hp) s.heap.size) _ ⟨B.exec, B.bytes, hml, hown', hts2, B.notSynchronized, hname, B.returns, hl, Nat.le_refl _, Nat.le_refl _, hK, fun q hq => Or.inr hq, hE⟩ ad s.heap [] 0 0 _ ⟨hP, hD, va_S.rf, hlv, by show 0 + mc ≤ mc; omega, by show 0 + ms ≤ ms; omega, trivial⟩ ?_
  intro T ad' H' locs' cells' slots' ls' hT hx hd
  obtain ⟨v, hret, hO⟩ := hT
  obtain ⟨hP', hD', hS', hl', hc', hs', -⟩ := hd
  refine W.widen (k := mc) (n := ms) (by have : cells' + _ ≤ mc := hc'; omega) (by have : slots' + _ ≤ ms := hs'; omega) ?_
  have hq : ∀ (w : Option Value), v = w → ∀ (t : State), t.heap = H' → s.WarmedH t.vm → aPost D ca ad hp s.heap.size O s (.returned (w.map (cvV ad'))) t := by
    intro w hw t ht hW
    subst hw
    exact ⟨⟨_, rfl, v, T.2.2.2.1, ad', rfl, hO, hx, by rw [ht]; exact hP', hD'⟩, hS'.F ht⟩
  obtain ⟨pc, lv, st, hp', k, n⟩ := T
  rcases hret with ⟨x, h1, ⟨ty, h2, h3⟩, h4, h5⟩ | ⟨x, h1, h2, h4, h5⟩ | ⟨x, h1, h2, h4, h5⟩ | ⟨h1, h2, h4, h5⟩
  · dsimp only at h4
    subst h4
    exact W.zret (v := x) B.exec B.bytes (B.returns.trans h2) h3 (hq _ h5) hS'.2.2 h1
  · dsimp only at h4
    subst h4
    exact W.lret (v := x) B.exec B.bytes (B.returns.trans h2) (hq _ h5) hS'.2.2 h1
  · dsimp only at h4
    subst h4
    exact W.dret (v := x) (hlocks := B.notSynchronized) B.exec B.bytes (B.returns.trans h2) (hq _ h5) hS'.2.2 h1
  · dsimp only at h4
    subst h4
    exact W.vret B.exec B.bytes (B.returns.trans h2) (hq _ h5) hS'.2.2 h1
