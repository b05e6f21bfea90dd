/-! a RELAY cell at the client: unwrapping, knowing -/
def ub (S : xSt) (κ x : Nat) : xSt := sx (w_wrap S κ (S.1 170 x)) 170 x (ks (S.1 170 x) 14)
def um (V : xVt) (x : Nat) : xVt := vx (vbs V (wrapB V.2.2.2 (V.1 170 x) 14)) 170 x (ks (V.1 170 x) 14)
def uS (S : xSt) (κ c : Nat) : Nat → xSt
  | 0 => ub S κ (12 * c + 1)
  | 1 => ub (ub S κ (12 * c + 1)) κ (12 * c + 5)
  | _ => ub (ub (ub S κ (12 * c + 1)) κ (12 * c + 5)) κ (12 * c + 9)
def uV (V : xVt) (c : Nat) : Nat → xVt
  | 0 => um V (12 * c + 1)
  | 1 => um (um V (12 * c + 1)) (12 * c + 5)
  | _ => um (um (um V (12 * c + 1)) (12 * c + 5)) (12 * c + 9)
def knF (T : xSt) (κ x : Nat) : Option (Int32 × xSt) := if f_isKnownBy T κ (f_fed T κ (T.1 170 x)) = 0 then some (f_isKnownBy T κ (f_fed T κ (T.1 170 x)), T) else some (f_isKnownBy T κ (f_fed T κ (T.1 170 x)), sx T 170 x (f_fed T κ (T.1 170 x)))
theorem nlt {a b : Nat} (h : a < b) (hb : b < 2 ^ 31) : nI a < nI b := nI_lt h hb
theorem ik_eq {S : xSt} {c κ a : Nat} (ha : a < 3) (hd : S.2.1 κ 18 = nI a) (hh : f_hasHop S c (nI a) = 1) : f_isKnown S c κ = knF (uS S κ c a) κ (12 * c + 4 * a + 3) := by
  unfold f_isKnown
  rw [hd, bsm, hh, if_neg (show ¬ (1 : Int32) = 0 by decide), if_neg (nI_pos (show a < 2 ^ 31 by omega)), bsm]
  have hb3 : bnd (nI a) 3 := bn ha (by decide)
  have hcl : (nI a).toNatClampNeg = a := nI_clamp (by omega)
  rcases (by omega : a = 0 ∨ a = 1 ∨ a = 2) with q | q | q
  · subst q
    rw [if_pos (show nI 0 < 1 by decide), if_pos hb3, hcl, bsm, bsm]
    rfl
  · subst q
    rw [if_neg (show ¬ nI 1 < 1 by decide), bsm, if_pos (show nI 1 < 2 by decide), if_pos hb3, hcl, bsm, bsm]
    rfl
  · subst q
    rw [if_neg (show ¬ nI 2 < 1 by decide), bsm, if_neg (show ¬ nI 2 < 2 by decide), bsm, if_pos (show nI 2 < 3 by decide), if_pos hb3, hcl, bsm, bsm]
    rfl
theorem ub_rel {D : Nat} {S : xSt} {V : xVt} (h : Rel D S V) {κ : Nat} (x : Nat) (hκ : κ = S.2.2 20) (hB : byt (S.2.1 κ)) (hb : ∀ j, j < 14 → V.2.2.2 j = S.2.1 κ j) : Rel D (ub S κ x) (um V x) ∧ byt ((ub S κ x).2.1 κ) ∧ (∀ j, j < 14 → (um V x).2.2.2 j = (ub S κ x).2.1 κ j) ∧ (ub S κ x).2.1 κ 18 = S.2.1 κ 18 ∧ (ub S κ x).2.2 = S.2.2 ∧ (∀ r, r ≠ 170 → (ub S κ x).1 r = S.1 r) ∧ (um V x).2.1 = V.2.1 := by
  unfold ub um
  have e1 : (w_wrap S κ (S.1 170 x)).2.1 κ = wrapB (S.2.1 κ) (S.1 170 x) 14 := sr_rd _ _ _
  obtain ⟨L, hL⟩ := gen (ks (S.1 170 x) 14)
  rw [h.1, hL, sx2, vx2, e1]
  refine ⟨?_, hB.wrap _, ?_, ?_, rfl, fun r hr => ?_, rfl⟩
  · exact ((h.cell (f := wrapB (S.2.1 κ) (S.1 170 x) 14) hκ).free (r := 170) (i := x) (v := L) (Or.inl rfl)).b (wrapB V.2.2.2 (S.1 170 x) 14)
  · intro j hj
    show wrapB V.2.2.2 _ 14 j = _
    exact wr_cg _ hb j hj
  · unfold wrapB
    rw [if_neg (by decide)]
  · rw [sx1, u2r hr]
    rfl
theorem uS_rel {D : Nat} {S : xSt} {V : xVt} (h : Rel D S V) {κ : Nat} (c a : Nat) (hκ : κ = S.2.2 20) (hB : byt (S.2.1 κ)) (hb : ∀ j, j < 14 → V.2.2.2 j = S.2.1 κ j) : Rel D (uS S κ c a) (uV V c a) ∧ byt ((uS S κ c a).2.1 κ) ∧ (∀ j, j < 14 → (uV V c a).2.2.2 j = (uS S κ c a).2.1 κ j) ∧ (uS S κ c a).2.1 κ 18 = S.2.1 κ 18 ∧ (uS S κ c a).2.2 = S.2.2 ∧ (∀ r, r ≠ 170 → (uS S κ c a).1 r = S.1 r) ∧ (uV V c a).2.1 = V.2.1 := by
  obtain ⟨a1, a2, a3, a4, a5, a6, a7⟩ := ub_rel h (12 * c + 1) hκ hB hb
  obtain ⟨b1, b2, b3, b4, b5, b6, b7⟩ := ub_rel a1 (12 * c + 5) (by rw [a5]; exact hκ) a2 a3
  obtain ⟨c1, c2, c3, c4, c5, c6, c7⟩ := ub_rel b1 (12 * c + 9) (by rw [b5, a5]; exact hκ) b2 b3
  match a with
  | 0 => exact ⟨a1, a2, a3, a4, a5, a6, a7⟩
  | 1 => exact ⟨b1, b2, b3, b4.trans a4, b5.trans a5, fun r hr => (b6 r hr).trans (a6 r hr), b7.trans a7⟩
  | n + 2 => exact ⟨c1, c2, c3, (c4.trans b4).trans a4, (c5.trans b5).trans a5, fun r hr => ((c6 r hr).trans (b6 r hr)).trans (a6 r hr), (c7.trans b7).trans a7⟩
/-- whether a cell comes from the first hop, or the relay waited for -/
def fstV (X : Nat → Nat → Int32) (f : Int32) (c : Nat) : Int32 := (if (if (X 167 c) = 1 then (1 : Int32) else (if (X 167 c) = 2 then (1 : Int32) else 0)) = 0 then (0 : Int32) else (if (X 168 c) ≤ 0 then (if (X 171 c) = f then (1 : Int32) else 0) else (if (X 169 (3 * c)) = f then (1 : Int32) else 0)))
def tcT (W : xVt) (c x : Nat) (d : Int32) : Option xVt := if g_isKnown W (W.1 170 x) = 0 then ((g_closeNow W c).bind fun r => some r) else ((g_clientFollows (vx W 170 x (g_fed W (W.1 170 x))) c d).bind fun r => some r)
theorem v21 (V : xVt) (f : Nat → Int32) : (vbs V f).2.1 = V.2.1 := rfl
theorem vx21 (V : xVt) (r i : Nat) (v : Int32) : (vx V r i v).2.1 = V.2.1 := rfl
theorem tc_0 {V : xVt} {f : Int32} {c m : Nat} (h : ¬ fstV V.1 f c = 0) (e8 : V.1 168 c = nI m) (hm : 1 ≤ m) (hm3 : m ≤ 3) {a : Nat} (ha : m ≤ a) (ha2 : a < 2 ^ 30) (hf : V.2.1 165 27 = nI a) : g_toClient V f c 3 = (g_closeNow V c).bind fun r => some r := by
  unfold fstV at h
  unfold g_toClient
  rw [if_neg (show ¬ (3 : Int32) = 2 by decide), if_pos rfl, if_neg h, if_neg (show ¬ V.1 168 c ≤ 0 by rw [e8, show (0 : Int32) = nI 0 from rfl, nI_leI (by omega) (by decide)]; omega), if_neg (show ¬ V.2.1 165 27 < 0 by rw [hf]; exact nI_pos (by omega)), if_pos (show V.1 168 c ≤ V.2.1 165 27 by rw [e8, hf, nI_leI (by omega) (by omega)]; exact ha)]
theorem ixk {c a : Nat} (hc : c < 4) (ha : a < 3) : nI (12 * c) + (4 : Int32) * nI a + 3 = nI (12 * c + 4 * a + 3) ∧ bnd (nI (12 * c) + (4 : Int32) * nI a + 3) 48 ∧ (nI (12 * c) + (4 : Int32) * nI a + 3).toNatClampNeg = 12 * c + 4 * a + 3 := by
  have e : nI (12 * c) + (4 : Int32) * nI a + 3 = nI (12 * c + 4 * a + 3) := by rw [show (4 : Int32) = nI 4 from rfl, pk_mul, nI_add, show (3 : Int32) = nI 3 from rfl, nI_add]
  rw [e]
  exact ⟨rfl, bn (by omega) (by decide), nI_clamp (by omega)⟩
set_option maxRecDepth 100000 in
theorem tc_1 {V : xVt} {f : Int32} {c m : Nat} (hc : c < 4) (h : ¬ fstV V.1 f c = 0) (e8 : V.1 168 c = nI m) (hm3 : m ≤ 3) {a : Nat} (ha : a < m) (hf : V.2.1 165 27 = nI a) : g_toClient V f c 3 = tcT (uV V c a) c (12 * c + 4 * a + 3) (nI a) := by
  have n1 : ¬ V.1 168 c ≤ 0 := by
    rw [e8, show (0 : Int32) = nI 0 from rfl, nI_leI (by omega) (by decide)]
    omega
  have n2 : ¬ V.2.1 165 27 < 0 := by rw [hf]; exact nI_pos (by omega)
  have n3 : ¬ V.1 168 c ≤ V.2.1 165 27 := by
    rw [e8, hf, nI_leI (by omega) (by omega)]
    omega
  have n4 : ¬ nI m ≤ nI a := by
    rw [nI_leI (by omega) (by omega)]
    omega
  have ik := ixk hc (show a < 3 by omega)
  unfold fstV at h
  unfold g_toClient
  rw [if_neg (show ¬ (3 : Int32) = 2 by decide), if_pos rfl, if_neg h, if_neg n1, if_neg n2, if_neg n3, bsm, v21, vbs1, hf, e8]
  rcases (by omega : a = 0 ∨ a = 1 ∨ a = 2) with q | q | q
  · subst q
    rw [if_pos (show nI 0 < 1 by decide), if_neg n4, if_neg n4, if_pos ik.2.1, ik.2.2, bsm, bsm]
    rfl
  · subst q
    rw [if_neg (show ¬ nI 1 < 1 by decide), if_neg n4, bsm, v21, vx21, v21, vbs1, vx1, vbs1, hf, u2r (show 168 ≠ 170 by decide), e8, if_pos (show nI 1 < 2 by decide), if_neg n4, if_neg n4, if_pos ik.2.1, ik.2.2, bsm, bsm]
    rfl
  · subst q
    rw [if_neg (show ¬ nI 2 < 1 by decide), if_neg n4, bsm, v21, vx21, v21, vbs1, vx1, vbs1, hf, u2r (show 168 ≠ 170 by decide), e8, if_neg (show ¬ nI 2 < 2 by decide), if_neg n4, bsm, v21, vx21, v21, vx21, v21, hf, if_pos (show nI 2 < 3 by decide)]
    have e3 : ∀ (f1 : Nat → Int32) (x1 : Nat) (v1 : Int32) (f2 : Nat → Int32) (x2 : Nat) (v2 : Int32) (f3 : Nat → Int32), (vbs (vx (vbs (vx (vbs V f1) 170 x1 v1) f2) 170 x2 v2) f3).1 168 c = nI m := by
      intro f1 x1 v1 f2 x2 v2 f3
      rw [vbs1, vx1, u2r (show 168 ≠ 170 by decide), vbs1, vx1, u2r (show 168 ≠ 170 by decide), vbs1, e8]
    rw [e3, if_neg n4, if_neg n4, if_pos ik.2.1, ik.2.2, bsm, bsm]
    rfl
