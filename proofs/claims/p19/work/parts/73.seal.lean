/-! the client seals and sends -/
def vp (V : xVt) (p : (Nat → Nat → Int32) × (Nat → Int32)) : xVt := (p.1, V.2.1, V.2.2.1, p.2)
theorem kf_r {c j : Nat} {p : (Nat → Nat → Int32) × (Nat → Int32)} {r : Nat} (h : r ≠ 170) : (kf c j p).1 r = p.1 r := by
  unfold kf
  exact u2r h
theorem kw_r {c j : Nat} {p : (Nat → Nat → Int32) × (Nat → Int32)} {r : Nat} (h : r ≠ 170) : (kw c j p).1 r = p.1 r := by
  unfold kw
  exact u2r h
theorem kf_5 (c j : Nat) (p : (Nat → Nat → Int32) × (Nat → Int32)) : (kf c j p).1 165 = p.1 165 := kf_r (by decide)
theorem kw_5 (c j : Nat) (p : (Nat → Nat → Int32) × (Nat → Int32)) : (kw c j p).1 165 = p.1 165 := kw_r (by decide)
theorem seal_eq {S : xSt} {c h : Nat} (hh : h < 3) (a b k e g : Int32) (F : Nat → Int32) : f_sealTo (pS S (rw0 a b k e g F)) c (nI h) (kq S) = some (pS ((cs c h (S.1, F)).1, S.2) (rw0 a b k e (nI h) (cs c h (S.1, F)).2)) := by
  unfold f_sealTo
  rcases (by omega : h = 0 ∨ h = 1 ∨ h = 2) with q | q | q
  · subst q
    rw [if_pos (show nI 0 = 0 from rfl)]
    simp only [Option.bind_some]
    rw [sy_pS, up_18, pS_r (show 170 ≠ 165 by decide), kf_S (c := c) (j := 0) rfl (12 * c + 2) (by omega), pS_r (show 170 ≠ 165 by decide), kw_S (X := (kf c 0 (S.1, F)).1) (S := S) (c := c) (j := 0) (F := (kf c 0 (S.1, F)).2) rfl (kf_5 _ _ _) (12 * c) (by omega)]
    rfl
  · subst q
    rw [if_neg (show ¬ nI 1 = 0 by decide), if_pos (show nI 1 = 1 from rfl)]
    simp only [Option.bind_some]
    rw [sy_pS, up_18, pS_r (show 170 ≠ 165 by decide), kf_S (c := c) (j := 1) rfl (12 * c + 6) (by omega), pS_r (show 170 ≠ 165 by decide), kw_S (X := (kf c 1 (S.1, F)).1) (S := S) (c := c) (j := 1) (F := (kf c 1 (S.1, F)).2) rfl (kf_5 _ _ _) (12 * c + 4) (by omega), pS_r (show 170 ≠ 165 by decide), kw_S (X := (kw c 1 (kf c 1 (S.1, F))).1) (S := S) (c := c) (j := 0) (F := (kw c 1 (kf c 1 (S.1, F))).2) rfl ((kw_5 _ _ _).trans (kf_5 _ _ _)) (12 * c) (by omega)]
    rfl
  · subst q
    rw [if_neg (show ¬ nI 2 = 0 by decide), if_neg (show ¬ nI 2 = 1 by decide), if_pos (show nI 2 = 2 from rfl)]
    simp only [Option.bind_some]
    rw [sy_pS, up_18, pS_r (show 170 ≠ 165 by decide), kf_S (c := c) (j := 2) rfl (12 * c + 10) (by omega), pS_r (show 170 ≠ 165 by decide), kw_S (X := (kf c 2 (S.1, F)).1) (S := S) (c := c) (j := 2) (F := (kf c 2 (S.1, F)).2) rfl (kf_5 _ _ _) (12 * c + 8) (by omega), pS_r (show 170 ≠ 165 by decide), kw_S (X := (kw c 2 (kf c 2 (S.1, F))).1) (S := S) (c := c) (j := 1) (F := (kw c 2 (kf c 2 (S.1, F))).2) rfl ((kw_5 _ _ _).trans (kf_5 _ _ _)) (12 * c + 4) (by omega), pS_r (show 170 ≠ 165 by decide), kw_S (X := (kw c 1 (kw c 2 (kf c 2 (S.1, F)))).1) (S := S) (c := c) (j := 0) (F := (kw c 1 (kw c 2 (kf c 2 (S.1, F)))).2) rfl ((kw_5 _ _ _).trans ((kw_5 _ _ _).trans (kf_5 _ _ _))) (12 * c) (by omega)]
    rfl
theorem kf_V {V : xVt} {c j : Nat} (x : Nat) (hx : x = 12 * c + 4 * j + 2) : vx (g_putPair V 2 (ushr (g_fed V (V.1 170 x)) 16)) 170 x (g_fed V (V.1 170 x)) = vp V (kf c j (V.1, V.2.2.2)) := by
  subst hx
  unfold kf g_fed
  dsimp only
  obtain ⟨K, hK⟩ := gen (fd V.2.2.2 (V.1 170 (12 * c + 4 * j + 2)) 14)
  rw [hK, mpp_eq, chk_m]
  rfl
theorem kw_V {V : xVt} {p : (Nat → Nat → Int32) × (Nat → Int32)} {c j : Nat} (x : Nat) (hx : x = 12 * c + 4 * j) : vx (vbs (vp V p) (wrapB (vp V p).2.2.2 ((vp V p).1 170 x) 14)) 170 x (ks ((vp V p).1 170 x) 14) = vp V (kw c j p) := by
  subst hx
  rfl
theorem vp1 (V : xVt) (p : (Nat → Nat → Int32) × (Nat → Int32)) : (vp V p).1 = p.1 := rfl
theorem cs_eq {V : xVt} {n : Nat} (hn : n ≤ 20) (e1 : V.1 165 1 = nI n) {c h : Nat} (hh : h < 3) : g_clientSends V c (nI h) = some (pV (vp V (cs c h (V.1, V.2.2.2))) (rw0 0 (V.1 169 (3 * c)) (nI c) 3 (nI h) (cs c h (V.1, V.2.2.2)).2)) := by
  unfold g_clientSends g_seal
  rcases (by omega : h = 0 ∨ h = 1 ∨ h = 2) with q | q | q
  · subst q
    rw [if_pos (show nI 0 = 0 from rfl)]
    simp only [Option.bind_some]
    rw [kf_V (c := c) (j := 0) (12 * c + 2) (by omega), kw_V (c := c) (j := 0) (12 * c) (by omega), vbs1, vp1, ship_eq hn (by rw [vp1, kw_5, kf_5, e1])]
    rw [show (kf c 0 (V.1, V.2.2.2)).1 169 = V.1 169 from kf_r (by decide)]
    rfl
  · subst q
    rw [if_neg (show ¬ nI 1 = 0 by decide), if_pos (show nI 1 = 1 from rfl)]
    simp only [Option.bind_some]
    rw [kf_V (c := c) (j := 1) (12 * c + 6) (by omega), kw_V (c := c) (j := 1) (12 * c + 4) (by omega), kw_V (c := c) (j := 0) (12 * c) (by omega), vbs1, vp1, ship_eq hn (by rw [vp1, kw_5, kw_5, kf_5, e1])]
    rw [show (kw c 1 (kf c 1 (V.1, V.2.2.2))).1 169 = V.1 169 from (kw_r (by decide)).trans (kf_r (by decide))]
    rfl
  · subst q
    rw [if_neg (show ¬ nI 2 = 0 by decide), if_neg (show ¬ nI 2 = 1 by decide), if_pos (show nI 2 = 2 from rfl)]
    simp only [Option.bind_some]
    rw [kf_V (c := c) (j := 2) (12 * c + 10) (by omega), kw_V (c := c) (j := 2) (12 * c + 8) (by omega), kw_V (c := c) (j := 1) (12 * c + 4) (by omega), kw_V (c := c) (j := 0) (12 * c) (by omega), vbs1, vp1, ship_eq hn (by rw [vp1, kw_5, kw_5, kw_5, kf_5, e1])]
    rw [show (kw c 1 (kw c 2 (kf c 2 (V.1, V.2.2.2)))).1 169 = V.1 169 from (kw_r (by decide)).trans ((kw_r (by decide)).trans (kf_r (by decide)))]
    rfl
theorem kw_cg {c j : Nat} {X : Nat → Nat → Int32} {F G : Nat → Int32} (h : ∀ i, i < 14 → F i = G i) : (kw c j (X, F)).1 = (kw c j (X, G)).1 ∧ ∀ i, i < 14 → (kw c j (X, F)).2 i = (kw c j (X, G)).2 i := ⟨rfl, wr_cg _ h⟩
theorem kf_cg {c j : Nat} {X : Nat → Nat → Int32} {F G : Nat → Int32} (h : ∀ i, i < 14 → i ≠ 2 → i ≠ 3 → F i = G i) : (kf c j (X, F)).1 = (kf c j (X, G)).1 ∧ ∀ i, i < 14 → (kf c j (X, F)).2 i = (kf c j (X, G)).2 i := by
  have e := fd_cg2 (X 170 (12 * c + 4 * j + 2)) 14 h
  unfold kf
  dsimp only
  rw [e]
  exact ⟨rfl, chk_cg _ h⟩
theorem kw_cg2 {c j : Nat} {p q : (Nat → Nat → Int32) × (Nat → Int32)} (h : p.1 = q.1 ∧ ∀ i, i < 14 → p.2 i = q.2 i) : (kw c j p).1 = (kw c j q).1 ∧ ∀ i, i < 14 → (kw c j p).2 i = (kw c j q).2 i := by
  obtain ⟨X, F⟩ := p
  obtain ⟨X', G⟩ := q
  obtain ⟨rfl, h2⟩ := h
  exact kw_cg h2
theorem cs_cg {c h : Nat} {X : Nat → Nat → Int32} {F G : Nat → Int32} (hb : ∀ i, i < 14 → i ≠ 2 → i ≠ 3 → F i = G i) : (cs c h (X, F)).1 = (cs c h (X, G)).1 ∧ ∀ i, i < 14 → (cs c h (X, F)).2 i = (cs c h (X, G)).2 i := by
  match h with
  | 0 => exact kw_cg2 (kf_cg hb)
  | 1 => exact kw_cg2 (kw_cg2 (kf_cg hb))
  | n + 2 => exact kw_cg2 (kw_cg2 (kw_cg2 (kf_cg hb)))
theorem kw_u {c j : Nat} {p : (Nat → Nat → Int32) × (Nat → Int32)} {r i : Nat} {v : Int32} (h : r ≠ 170) : kw c j (xi_u2 p.1 r i v, p.2) = (xi_u2 (kw c j p).1 r i v, (kw c j p).2) := by
  unfold kw
  dsimp only
  rw [u2r (Ne.symm h), u2c (Or.inl h)]
theorem kf_u {c j : Nat} {p : (Nat → Nat → Int32) × (Nat → Int32)} {r i : Nat} {v : Int32} (h : r ≠ 170) : kf c j (xi_u2 p.1 r i v, p.2) = (xi_u2 (kf c j p).1 r i v, (kf c j p).2) := by
  unfold kf
  dsimp only
  rw [u2r (Ne.symm h), u2c (Or.inl h)]
theorem cs_u {c h : Nat} {X : Nat → Nat → Int32} {F : Nat → Int32} {r i : Nat} {v : Int32} (hr : r ≠ 170) : cs c h (xi_u2 X r i v, F) = (xi_u2 (cs c h (X, F)).1 r i v, (cs c h (X, F)).2) := by
  match h with
  | 0 =>
    show kw c 0 (kf c 0 _) = (xi_u2 (kw c 0 (kf c 0 _)).1 r i v, (kw c 0 (kf c 0 _)).2)
    rw [kf_u (p := (X, F)) hr, kw_u hr]
  | 1 =>
    show kw c 0 (kw c 1 (kf c 1 _)) = (xi_u2 (kw c 0 (kw c 1 (kf c 1 _))).1 r i v, (kw c 0 (kw c 1 (kf c 1 _))).2)
    rw [kf_u (p := (X, F)) hr, kw_u hr, kw_u hr]
  | n + 2 =>
    show kw c 0 (kw c 1 (kw c 2 (kf c 2 _))) = (xi_u2 (kw c 0 (kw c 1 (kw c 2 (kf c 2 _)))).1 r i v, (kw c 0 (kw c 1 (kw c 2 (kf c 2 _)))).2)
    rw [kf_u (p := (X, F)) hr, kw_u hr, kw_u hr, kw_u hr]
theorem vx_pV {V : xVt} {row : Nat → Int32} {r i : Nat} {v : Int32} (hr : r ≠ 165) : vx (pV V row) r i v = pV (vx V r i v) row := by
  have e : xi_u2 V.1 r i v 165 1 = V.1 165 1 := congrFun (u2r (Ne.symm hr)) 1
  simp only [pV, vx, pX_u hr, e]
/-- an update behind the sending may stand ahead of it -/
theorem vx_cs {V : xVt} {c h : Nat} {b : Nat → Int32} {row : Nat → Int32} {r i : Nat} {v : Int32} (hr : r ≠ 170 ∧ r ≠ 165) : vx (pV (vp V (cs c h (V.1, b))) row) r i v = pV (vp (vx V r i v) (cs c h (xi_u2 V.1 r i v, b))) row := by
  have e : cs c h (xi_u2 V.1 r i v, b) = (xi_u2 (cs c h (V.1, b)).1 r i v, (cs c h (V.1, b)).2) := cs_u hr.1
  rw [e, vx_pV hr.2]
  rfl
theorem Rel.p1 {D : Nat} {S : xSt} {V : xVt} {X : Nat → Nat → Int32} {b b' : Nat → Int32} (h : Rel D (X, S.2) (X, V.2.1, V.2.2.1, b)) (r i : Nat) (v : Int32) (hr : r = 170) : Rel D (xi_u2 X r i v, S.2) (xi_u2 X r i v, V.2.1, V.2.2.1, b') := Rel.own (h.free (r := r) (i := i) (v := v) (Or.inl hr)) rfl rfl rfl
theorem Rel.cs {D : Nat} {S : xSt} {V : xVt} (h : Rel D S V) (c k : Nat) (F : Nat → Int32) (b : Nat → Int32) : Rel D ((cs c k (S.1, F)).1, S.2) ((cs c k (S.1, F)).1, V.2.1, V.2.2.1, b) := by
  have h0 : Rel D (S.1, S.2) (S.1, V.2.1, V.2.2.1, b) := Rel.own h h.1.symm rfl rfl
  match k with
  | 0 => exact (h0.p1 (b' := b) 170 _ _ rfl).p1 170 _ _ rfl
  | 1 => exact ((h0.p1 (b' := b) 170 _ _ rfl).p1 (b' := b) 170 _ _ rfl).p1 170 _ _ rfl
  | n + 2 => exact (((h0.p1 (b' := b) 170 _ _ rfl).p1 (b' := b) 170 _ _ rfl).p1 (b' := b) 170 _ _ rfl).p1 170 _ _ rfl
theorem byt.kw {p : (Nat → Nat → Int32) × (Nat → Int32)} (h : byt p.2) (c j : Nat) : byt (kw c j p).2 := h.wrap _
theorem byt.cs {X : Nat → Nat → Int32} {F : Nat → Int32} (h : byt F) (c k : Nat) : byt (cs c k (X, F)).2 := by
  match k with
  | 0 => exact byt.kw (h.chk _) c 0
  | 1 => exact byt.kw (byt.kw (h.chk _) c 1) c 0
  | n + 2 => exact byt.kw (byt.kw (byt.kw (h.chk _) c 2) c 1) c 0
/-- the client's order: Rel at the end -/
theorem sim_seal {D : Nat} {S : xSt} {V : xVt} (h : Rel D S V) {c k : Nat} (hc : c < 4) (hk : k < 3) (hh : ∃ w : Nat, w < 4 ∧ S.1 169 (3 * c) = nI (w + 1)) {F b : Nat → Int32} (hF : byt F) (hb : ∀ i, i < 14 → i ≠ 2 → i ≠ 3 → b i = F i) :
    Rel D (pS ((cs c k (S.1, F)).1, S.2) (rw0 0 (S.1 169 (3 * c)) (nI c) 3 (nI k) (cs c k (S.1, F)).2)) (pV (vp V (cs c k (V.1, b))) (rw0 0 (V.1 169 (3 * c)) (nI c) 3 (nI k) (cs c k (V.1, b)).2)) := by
  have e1 := cs_cg (c := c) (h := k) (X := S.1) hb
  rw [h.1, rw_cg e1.2]
  unfold vp
  rw [e1.1]
  obtain ⟨w, hw, e⟩ := hh
  refine Rel.push (h.cs c k F _) (okc.mk' (fld.mk' ⟨0, by omega, rfl⟩ ⟨w + 1, by omega, e⟩ ⟨c, hc, rfl⟩ (by decide) ⟨k, by omega, rfl⟩) (hF.cs c k))
