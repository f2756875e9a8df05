/-! CELLS THAT ARE MADE: objects and arrays -/
def rfV (b : Nat) : Value → Bool
  | .ref k => Nat.blt k b || Nat.beq k 1000
  | _ => true
def rfE (b : Nat) : va_E → Bool
  | .inl _ => true
  | .inr (_, fs) => fs.all (rfV b)
def rfH (b : Nat) : aH → Bool
  | [] => true
  | e :: r => rfE b e && rfH b r
def rfL (b : Nat) : List (Nat × Value) → Bool
  | [] => true
  | q :: r => rfV b q.2 && rfL b r
def rfS (b : Nat) (lv : List (Nat × Value)) (st : List Value) (hp : aH) : Bool := Nat.blt b 1000 && (rfL b lv && (st.all (rfV b) && rfH b hp))
theorem rfV_same {b : Nat} {ad ad' : Nat → Nat} (h : ∀ k, k < b ∨ k = 1000 → ad' k = ad k) {v : Value} (hv : rfV b v = true) : cvV ad' v = cvV ad v := by
  cases v with
  | ref k =>
    unfold rfV at hv
    show Value.ref (ad' k) = Value.ref (ad k)
    rcases Bool.or_eq_true_iff.mp hv with g | g
    · rw [h k (Or.inl (Nat.blt_eq.mp g))]
    · rw [h k (Or.inr (Nat.eq_of_beq_eq_true g))]
  | _ => rfl
theorem rf_map {b : Nat} {ad ad' : Nat → Nat} (h : ∀ k, k < b ∨ k = 1000 → ad' k = ad k) {l : List Value} (hl : l.all (rfV b) = true) : l.map (cvV ad') = l.map (cvV ad) :=
  List.map_congr_left (fun v hv => rfV_same h (List.all_eq_true.mp hl v hv))
theorem rfE_same {b : Nat} {ca : Nat → ClassId} {ad ad' : Nat → Nat} (h : ∀ k, k < b ∨ k = 1000 → ad' k = ad k) {e : va_E} (he : rfE b e = true) : cvE ca ad' e = cvE ca ad e := by
  match e, he with
  | .inl _, _ => rfl
  | .inr (ci, fs), he =>
    show Sum.inr (ci, _) = Sum.inr (ci, _)
    rw [rf_map h he]
theorem rfL_same {b : Nat} {ad ad' : Nat → Nat} (h : ∀ k, k < b ∨ k = 1000 → ad' k = ad k) {lv : List (Nat × Value)} (hl : rfL b lv = true) : cvL ad' lv = cvL ad lv := by
  induction lv with
  | nil => rfl
  | cons q r ih =>
    obtain ⟨h1, h2⟩ := Bool.and_eq_true_iff.mp hl
    show (q.1, cvV ad' q.2) :: cvL ad' r = (q.1, cvV ad q.2) :: cvL ad r
    rw [rfV_same h h1, ih h2]
theorem rfH_get {b : Nat} {hp : aH} (h : rfH b hp = true) {k : Nat} {e : va_E} (hk : hp[k]? = some e) : rfE b e = true := by
  induction hp generalizing k with
  | nil => cases hk
  | cons x r ih =>
    obtain ⟨h1, h2⟩ := Bool.and_eq_true_iff.mp h
    cases k with
    | zero => cases hk; exact h1
    | succ k => exact ih h2 hk
theorem rfH_same {ca : Nat → ClassId} {ad ad' : Nat → Nat} {hp : aH} (h : ∀ k, k < hp.length ∨ k = 1000 → ad' k = ad k) (hl : rfH hp.length hp = true) : wl ca ad' hp = wl ca ad hp := by
  unfold wl
  apply List.ext_getElem?
  intro i
  rw [List.getElem?_mapIdx, List.getElem?_mapIdx]
  cases hi : hp[i]? with
  | none => rfl
  | some e =>
    have hlt := (List.getElem?_eq_some_iff.mp hi).1
    show some (ad' i, cvE ca ad' e) = some (ad i, cvE ca ad e)
    rw [h i (Or.inl hlt), rfE_same h (rfH_get hl hi)]
theorem wl_app (ca : Nat → ClassId) (ad : Nat → Nat) (hp : aH) (e : va_E) : wl ca ad (hp ++ [e]) = wl ca ad hp ++ [(ad hp.length, cvE ca ad e)] := by
  unfold wl
  rw [List.mapIdx_append]
  simp
theorem up_ext {ad : Nat → Nat} {n q : Nat} (hn : n < 1000) : aExt ad n (va_up ad n q) (n + 1) := by
  refine ⟨Nat.le_succ _, fun e => by omega, fun k hk => ?_⟩
  unfold va_up
  rw [if_neg (by omega)]
theorem rfS_inv {b : Nat} {lv : List (Nat × Value)} {st : List Value} {hp : aH} (h : rfS b lv st hp = true) : b < 1000 ∧ rfL b lv = true ∧ st.all (rfV b) = true ∧ rfH b hp = true := by
  obtain ⟨h1, h2⟩ := Bool.and_eq_true_iff.mp h
  obtain ⟨h3, h4⟩ := Bool.and_eq_true_iff.mp h2
  obtain ⟨h5, h6⟩ := Bool.and_eq_true_iff.mp h4
  exact ⟨Nat.blt_eq.mp h1, h3, h5, h6⟩
def noRf : Value → Bool
  | .ref _ => false
  | _ => true
theorem noRf_map {ad : Nat → Nat} {l : List Value} (h : l.all noRf = true) : l.map (cvV ad) = l := by
  induction l with
  | nil => rfl
  | cons v r ih =>
    obtain ⟨h1, h2⟩ := Bool.and_eq_true_iff.mp h
    rw [List.map_cons, ih h2]
    cases v <;> first | rfl | cases h1
def f_new (ci N : Nat) (fs : List Value) (nx : Nat) : aI := fun S => some (.inr (.inl (rfS S.2.2.2.1.length S.2.1 S.2.2.1 S.2.2.2.1 = true ∧ 1 ≤ S.2.2.2.2.1 ∧ N ≤ S.2.2.2.2.2, (nx, S.2.1, .ref S.2.2.2.1.length :: S.2.2.1, S.2.2.2.1 ++ [.inr (ci, fs)], S.2.2.2.2.1 - 1, S.2.2.2.2.2 - N))))
def f_newa (t : Nat) (nx : Nat) : aI := fun S => match S.2.2.1 with
  | .int i :: r => some (.inr (.inl (rfS S.2.2.2.1.length S.2.1 r S.2.2.2.1 = true ∧ ¬ i < 0 ∧ i.toNatClampNeg ≤ 100000 ∧ 1 ≤ S.2.2.2.2.1 ∧ i.toNatClampNeg ≤ S.2.2.2.2.2, (nx, S.2.1, .ref S.2.2.2.1.length :: r, S.2.2.2.1 ++ [bif Nat.beq t 0 then .inl (0, i.toNatClampNeg, .inl (fun _ => 0)) else .inl (1, i.toNatClampNeg, .inr (.inl (fun _ => 0)))], S.2.2.2.2.1 - 1, S.2.2.2.2.2 - i.toNatClampNeg))))
  | _ => none
theorem ok_new {M : aM} {sc : aScr} {pc nx idx ci N : Nat} {C : String} {T : u_T} {fs : List Value} (ty : Nat → FieldType) (hd : decode M.2.2.1 pc = .ok (.new idx, 3)) (hc : vwCl[ci]? = some (C, T, N)) (hin : ∀ w ∈ u_ws C T N, w ∈ aT) (hty : ∀ k, k < N → parseFieldDescriptor (T k).2.2.1 = some (ty k)) (hl : Cond.classLink M.2.1 idx C ∈ aT) (hi : Cond.instantiable C N ∈ aT) (hini : Cond.initialized C ∈ aT) (hfs : ∀ j, j < N → defaultValue (ty j) = vp_V fs j) (hno : fs.all noRf = true) (hn : nx = pc + 3) : aOk M sc pc (f_new ci N fs nx) := by
  subst hn
  intro lv st hp k n r hr
  cases hr
  intro hg Q hJ
  dsimp only at hg hJ
  obtain ⟨hrf, hk, hnn⟩ := hg
  obtain ⟨hb, r1, r2, r3⟩ := rfS_inv hrf
  refine aStep (fun p l e R s m args below meth c D ca A Z hs ad H locs cells slots ls hd' kk => ?_) Q hJ
  obtain ⟨hx, hbc, hml, hown, hts, -, -, -, -, hfr, hlc, hK, hA, hE⟩ := hs
  obtain ⟨hP, hD, hS, hlv, hce, hsl, hX⟩ := hd'
  dsimp only at hP hD hS hlv hce hsl hX kk
  refine va_new hx hbc hts hin ty hty hown (hts _ hl) (hts _ hi) (hts _ hini) hK hP hD hS hA hc hfs (by omega) (by omega) hd (fun q H1 hP1 hD1 hS1 => ?_)
  have hx2 := up_ext (ad := ad) (q := q) hb
  have hw : wl ca ad hp ++ [(q, .inr (ci, fs))] = wl ca (va_up ad hp.length q) (hp ++ [.inr (ci, fs)]) := by
    rw [wl_app, rfH_same hx2.2.2 r3]
    unfold cvE
    dsimp only
    rw [noRf_map hno]
    simp [va_up]
  rw [hw] at hP1 hD1
  have := kk (va_up ad hp.length q) H1 locs (cells + 1) (slots + N) ls (by rw [List.length_append]; exact hx2) ⟨hP1, hD1, hS1, by rw [rfL_same hx2.2.2 r1]; exact hlv, by dsimp only; omega, by dsimp only; omega, by
    unfold aX at hX ⊢
    split
    · trivial
    · dsimp only at hX
      rw [hx2.2.2 1000 (Or.inr rfl)]
      exact hX⟩
  refine W.eq ?_ this
  show F0 m (pc + 3) ls (.ref q :: st.map (cvV ad)) = F0 m (pc + 3) ls (.ref (va_up ad hp.length q hp.length) :: st.map (cvV (va_up ad hp.length q)))
  rw [rf_map hx2.2.2 r2]
  simp [va_up]
theorem ok_newa {M : aM} {sc : aScr} {pc nx t : Nat} {at' : ArrayType} (hd : decode M.2.2.1 pc = .ok (.newarray at', 2)) (ha : (at' = .int ∧ t = 0) ∨ (at' = .long ∧ t = 1)) (hw : Cond.arrayClass (newarray.typeOf at') ∈ aT) (hn : nx = pc + 2) : aOk M sc pc (f_newa t nx) := by
  subst hn
  intro lv st hp k n r hr
  unfold f_newa at hr
  split at hr
  · rename_i i rest hst
    cases hr
    dsimp only at hst
    subst hst
    intro hg Q hJ
    dsimp only at hg hJ
    obtain ⟨hrf, hi0, hi1, hk, hnn⟩ := hg
    obtain ⟨hb, r1, r2, r3⟩ := rfS_inv hrf
    refine aStep (fun p l e R s m args below meth c D ca A Z hs ad H locs cells slots ls hd' kk => ?_) Q hJ
    obtain ⟨hx, hbc, hml, hown, hts, -, -, -, -, hfr, hlc, hK, hA, hE⟩ := hs
    obtain ⟨hP, hD, hS, hlv, hce, hsl, hX⟩ := hd'
    dsimp only at hP hD hS hlv hce hsl hX kk
    have hX' : ∀ q, aX sc s A (va_up ad hp.length q) := by
      intro q
      unfold aX at hX ⊢
      split
      · trivial
      · dsimp only at hX
        rw [(up_ext (ad := ad) (q := q) hb).2.2 1000 (Or.inr rfl)]
        exact hX
    rcases ha with ⟨rfl, rfl⟩ | ⟨rfl, rfl⟩
    · refine va_newa (atype := .int) (ty := .int) (a0 := (i.toNatClampNeg, .inl (fun _ => 0))) hx hbc (hts _ hw) rfl hK hP hD hS hA (fun _ => rfl) hi0 rfl (by show i.toNatClampNeg * 4 ≤ _; omega) (by omega) (by omega) hd (fun q cA H1 hK1 hP1 hD1 hS1 => ?_)
      have hx2 := up_ext (ad := ad) (q := q) hb
      have hcA : cA = ca 0 := by
        have e1 := (hK1.2 2 (cA, .int) rfl).2
        have e2 := (hK1.2 0 (ca 0, .int) rfl).2
        exact Option.some.inj (e1.symm.trans e2)
      subst hcA
      have hwl : wl ca ad hp ++ [(q, .inl (ca 0, (i.toNatClampNeg, .inl (fun _ => 0))))] = wl ca (va_up ad hp.length q) (hp ++ [.inl (0, i.toNatClampNeg, .inl (fun _ => 0))]) := by
        rw [wl_app, rfH_same hx2.2.2 r3]
        simp [va_up, cvE]
      rw [hwl] at hP1 hD1
      have := kk (va_up ad hp.length q) H1 locs (cells + 1) (slots + i.toNatClampNeg) ls (by rw [List.length_append]; exact hx2) ⟨hP1, hD1, hS1, by rw [rfL_same hx2.2.2 r1]; exact hlv, by dsimp only; omega, by dsimp only; omega, hX' q⟩
      refine W.eq ?_ this
      show F0 m (pc + 2) ls (.ref q :: rest.map (cvV ad)) = F0 m (pc + 2) ls (.ref (va_up ad hp.length q hp.length) :: rest.map (cvV (va_up ad hp.length q)))
      rw [rf_map hx2.2.2 r2]
      simp [va_up]
    · refine va_newa (atype := .long) (ty := .long) (a0 := (i.toNatClampNeg, .inr (.inl (fun _ => 0)))) hx hbc (hts _ hw) rfl hK hP hD hS hA (fun _ => rfl) hi0 rfl (by show i.toNatClampNeg * 8 ≤ _; omega) (by omega) (by omega) hd (fun q cA H1 hK1 hP1 hD1 hS1 => ?_)
      have hx2 := up_ext (ad := ad) (q := q) hb
      have hcA : cA = ca 1 := by
        have e1 := (hK1.2 2 (cA, .long) rfl).2
        have e2 := (hK1.2 1 (ca 1, .long) rfl).2
        exact Option.some.inj (e1.symm.trans e2)
      subst hcA
      have hwl : wl ca ad hp ++ [(q, .inl (ca 1, (i.toNatClampNeg, .inr (.inl (fun _ => 0)))))] = wl ca (va_up ad hp.length q) (hp ++ [.inl (1, i.toNatClampNeg, .inr (.inl (fun _ => 0)))]) := by
        rw [wl_app, rfH_same hx2.2.2 r3]
        simp [va_up, cvE]
      rw [hwl] at hP1 hD1
      have := kk (va_up ad hp.length q) H1 locs (cells + 1) (slots + i.toNatClampNeg) ls (by rw [List.length_append]; exact hx2) ⟨hP1, hD1, hS1, by rw [rfL_same hx2.2.2 r1]; exact hlv, by dsimp only; omega, by dsimp only; omega, hX' q⟩
      refine W.eq ?_ this
      show F0 m (pc + 2) ls (.ref q :: rest.map (cvV ad)) = F0 m (pc + 2) ls (.ref (va_up ad hp.length q hp.length) :: rest.map (cvV (va_up ad hp.length q)))
      rw [rf_map hx2.2.2 r2]
      simp [va_up]
  · cases hr
