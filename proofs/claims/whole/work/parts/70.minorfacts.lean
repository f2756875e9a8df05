/-! THE FACTS OF NUMBERS: minors, told twice -/

theorem wF_20 {sl : Int64} {M : Gr} : wF 2 sl M 0 = mnM 2 sl (grd M) 0 := by
  simp [wF, detF, mnF, mnM, enF, enM, ixP, grd]
  try grind

theorem wF_21 {sl : Int64} {M : Gr} : wF 2 sl M 1 = mnM 2 sl (grd M) 1 := by
  simp [wF, detF, mnF, mnM, enF, enM, ixP, grd]
  try grind

theorem wF_30 {sl : Int64} {M : Gr} : wF 3 sl M 0 = mnM 3 sl (grd M) 0 := by
  simp [wF, detF, mnF, mnM, enF, enM, ixP, grd]
  try grind

theorem wF_31 {sl : Int64} {M : Gr} : wF 3 sl M 1 = mnM 3 sl (grd M) 1 := by
  simp [wF, detF, mnF, mnM, enF, enM, ixP, grd]
  try grind

theorem wF_32 {sl : Int64} {M : Gr} : wF 3 sl M 2 = mnM 3 sl (grd M) 2 := by
  simp [wF, detF, mnF, mnM, enF, enM, ixP, grd]
  try grind

theorem wF_40 {sl : Int64} {M : Gr} : wF 4 sl M 0 = mnM 4 sl (grd M) 0 := by
  simp [wF, detF, mnF, mnM, enF, enM, ixP, grd]
  try grind

theorem wF_41 {sl : Int64} {M : Gr} : wF 4 sl M 1 = mnM 4 sl (grd M) 1 := by
  simp [wF, detF, mnF, mnM, enF, enM, ixP, grd]
  try grind

theorem wF_42 {sl : Int64} {M : Gr} : wF 4 sl M 2 = mnM 4 sl (grd M) 2 := by
  simp [wF, detF, mnF, mnM, enF, enM, ixP, grd]
  try grind

theorem wF_43 {sl : Int64} {M : Gr} : wF 4 sl M 3 = mnM 4 sl (grd M) 3 := by
  simp [wF, detF, mnF, mnM, enF, enM, ixP, grd]
  try grind

theorem wF_mn {m p : Nat} {sl : Int64} {M : Gr} (hm : 2 ≤ m ∧ m ≤ 4) (hp : p < m) : wF m sl M p = mnM m sl (grd M) p := by
  match m, p, hm, hp with
  | 2, 0, _, _ => exact wF_20
  | 2, 1, _, _ => exact wF_21
  | 3, 0, _, _ => exact wF_30
  | 3, 1, _, _ => exact wF_31
  | 3, 2, _, _ => exact wF_32
  | 4, 0, _, _ => exact wF_40
  | 4, 1, _, _ => exact wF_41
  | 4, 2, _, _ => exact wF_42
  | 4, 3, _, _ => exact wF_43

theorem weQ_wv {m g w r p : Nat} {B F : Nat → Nat} (hm : 2 ≤ m ∧ m ≤ 4) (hBF : ∀ j, B j + F j ≤ 10) (hp : p < m) : weQ m g w B F r p = wvM m g w B F r p := by
  refine (wF_mn hm hp).trans (mnM_eq hm hp (fun i j hi hj => ?_))
  show (roN m g w B F r (plen r)).1 ((4 * i + j) / 4) ((4 * i + j) % 4) = (rvF m g w B F r ((4 * i + j) / 4) (plen r)).1 ((4 * i + j) % 4)
  rw [((roN_rv hBF (plen r)) ((4 * i + j) / 4) (by omega)).1]
theorem gaQ_ga {m g w r a : Nat} {B F : Nat → Nat} (hBF : ∀ j, B j + F j ≤ 10) (ha : a < m) : (roN m g w B F r (plen r)).2 a = gaM m g w B F r a := ((roN_rv hBF (plen r)) a ha).2
