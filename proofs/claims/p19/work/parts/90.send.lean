/-! create, close, truncate -/
theorem on_eq {S : xSt} {V : xVt} (e : V.1 = S.1) (c : Nat) : g_isOn V c = f_isLive S c := by
  unfold g_isOn f_isLive
  rw [e]
theorem anewX {D : Nat} {X : Nat → Nat → Int32} {c w : Nat} {x : Int32} (hw : w < 4) (hx : bnd x 65536) (h : CI D X c) : CI D (xi_u2 (xi_u2 (xi_u2 (xi_u2 (dropX (xi_u2 X 168 c 0) c 0) 176 c 0) 167 c 1) 171 c (nI (w + 1))) 172 c x) c := by
  obtain ⟨m, a1, a2, a3, a4, a5, a6, a7, a8⟩ := h
  have r1 : ∀ r, r ≠ 173 → r ≠ 175 → dropX (xi_u2 X 168 c 0) c 0 r = xi_u2 X 168 c 0 r := fun r q1 q2 => dropX_r ⟨q1, q2⟩
  refine ⟨0, ?_, by omega, fun _ => ⟨by omega, ⟨w, hw, ?_⟩, ?_⟩, fun q => ?_, fun q => ?_, fun q => absurd q (by omega), ?_, fun s hs => ?_⟩
  · rw [u2r (by decide), u2r (by decide), u2r (by decide), u2r (by decide), r1 168 (by decide) (by decide), u2_same]
    rfl
  · rw [u2r (by decide), u2_same]
  · rw [u2_same]
    exact hx
  · rw [u2r (by decide), u2r (by decide), u2_same] at q
    exact absurd rfl q
  · rw [u2r (by decide), u2r (by decide), u2_same] at q
    exact absurd q (by decide)
  · rw [u2r (by decide), u2r (by decide), u2r (by decide), u2_same]
    exact ⟨by decide, by decide⟩
  · obtain ⟨k, z, b1, b2, b3, b4, b5, b6⟩ := a8 s hs
    have e174 : xi_u2 X 168 c 0 174 (3 * c + s) = nI k := by rw [u2r (by decide)]; exact b1
    have g : (0 : Int32) ≤ xi_u2 X 168 c 0 174 (3 * c + s) := by rw [e174]; exact nI_ge0 (by omega)
    have d3 : dropX (xi_u2 X 168 c 0) c 0 173 (3 * c + s) = 0 := if_pos ⟨Or.inl rfl, by omega, by omega, g⟩
    have d5 : dropX (xi_u2 X 168 c 0) c 0 175 (3 * c + s) = 0 := if_pos ⟨Or.inr rfl, by omega, by omega, g⟩
    rw [u2r (show 173 ≠ 172 by decide), u2r (by decide), u2r (by decide), u2r (by decide), d3]
    rw [u2r (show 174 ≠ 172 by decide), u2r (by decide), u2r (by decide), u2r (by decide), r1 174 (by decide) (by decide), e174]
    rw [u2r (show 175 ≠ 172 by decide), u2r (by decide), u2r (by decide), u2r (by decide), d5]
    exact ⟨k, 0, rfl, b2, rfl, by omega, fun _ => rfl, fun q => absurd rfl q⟩
theorem Rel.anew {D : Nat} {S : xSt} {V V' : xVt} (h : Rel D S V) {c w : Nat} {x : Int32} (hc : c < 4) (hw : w < 4) (hx : bnd x 65536) {S' : xSt} (eS : S'.1 = xi_u2 (xi_u2 (xi_u2 (xi_u2 (dropX (xi_u2 S.1 168 c 0) c 0) 176 c 0) 167 c 1) 171 c (nI (w + 1))) 172 c x) (eS2 : S'.2 = S.2) (e1 : V'.1 = S'.1) (e3 : V'.2.1 186 = V.2.1 186) (e4 : V'.2.2.1 = V.2.2.1) : Rel D S' V' := by
  refine h.circ (c := c) (fun r hr => ?_) e1 eS2 e3 e4 (fun c' hc' hne => ?_) ?_
  · rw [eS, u2r (by omega), u2r (by omega), u2r (by omega), u2r (by omega), dropX_r (by omega), u2r (by omega)]
  · rw [eS]
    exact (((((((h.2.1 c' hc').uc hne (by decide)).ud hne).uc hne (by decide)).uc hne (by decide)).uc hne (by decide)).uc hne (by decide))
  · rw [eS]
    exact anewX hw hx (h.2.1 c hc)
theorem sim_create {D : Nat} {S : xSt} {V : xVt} (h : Rel D S V) (ci rl x : Int32) : AP D k3 (f_create S ci rl x) (g_create V ci rl x) := by
  have eV : V.1 = S.1 := h.1
  unfold f_create g_create
  simp only [bsm]
  rcases a_circ ci with ⟨e, q⟩ | ⟨e, q, c, hc, rfl⟩
  · rw [e, if_pos rfl, if_pos q]
    exact AP.err h (by decide) rfl
  rw [e, if_neg (show ¬ (1 : Int32) = 0 by decide), if_neg q]
  rcases a_rel rl with ⟨e1, q1⟩ | ⟨e1, q1, i, hi, rfl⟩
  · rw [e1, if_pos rfl, if_pos q1]
    exact AP.err h (by decide) rfl
  rw [e1, if_neg (show ¬ (1 : Int32) = 0 by decide), if_neg q1]
  rcases a_exp x with ⟨e2, q2⟩ | ⟨e2, q2, hx⟩
  · rw [e2, if_pos rfl, if_pos q2]
    exact AP.err h (by decide) rfl
  rw [e2, if_neg (show ¬ (1 : Int32) = 0 by decide), if_neg q2, if_pos (bn hc (by decide)), if_pos (bn hc (by decide)), nI_clamp (show c < 2 ^ 31 by omega), on_eq eV]
  rcases b_isLive (S := S) (c := c) rfl with hl | hl
  · rw [hl, if_neg (show ¬ (if (0 : Int32) = 0 then (1 : Int32) else 0) = 0 by decide), if_pos rfl]
    unfold f_startAnew
    rw [rz_some (a := 17) ⟨by decide, by decide⟩ hx]
    simp only [bsm]
    have hYb := rz_bnd (17 : Int32).toNatClampNeg x.toNatClampNeg
    obtain ⟨P, hP⟩ := gen (nI ((17 : Int32).toNatClampNeg ^ x.toNatClampNeg % 65521))
    rw [hP] at hYb ⊢
    obtain ⟨S2, hS2⟩ : ∃ S2 : xSt, S2 = f_waitFor (sx (dropX (sx S 168 c 0).1 c 0, (sx S 168 c 0).2) 176 c 0) c (nI (i + 1)) x := ⟨_, rfl⟩
    obtain ⟨W, hW⟩ : ∃ W : xVt, W = vbs (vx (vx (vx (vx (dropX (vx (vn V 165 0 0) 168 c 0).1 c 0, (vx (vn V 165 0 0) 168 c 0).2) 176 c 0) 171 c (nI (i + 1))) 172 c x) 167 c 1) zf := ⟨_, rfl⟩
    rw [← hS2, ← hW]
    have eS : S2.1 = xi_u2 (xi_u2 (xi_u2 (xi_u2 (dropX (xi_u2 S.1 168 c 0) c 0) 176 c 0) 167 c 1) 171 c (nI (i + 1))) 172 c x := by
      rw [hS2]
      unfold f_waitFor
      rw [sx1, sx1, sx1, sx1]
      rfl
    have R : Rel D S2 W := by
      refine h.anew hc hi hx eS (by rw [hS2]; rfl) ?_ ?_ (by rw [hW]; rfl)
      · rw [eS, hW, vbs1, vx1, vx1, vx1, vx1]
        show xi_u2 (xi_u2 (xi_u2 (xi_u2 (dropX (vx (vn V 165 0 0) 168 c 0).1 c 0) 176 c 0) 171 c (nI (i + 1))) 172 c x) 167 c 1 = _
        rw [vx1, vn1, eV, u2c (r := 172) (r' := 167) (Or.inl (by decide)), u2c (r := 171) (r' := 167) (Or.inl (by decide))]
      · rw [hW]
        show xi_u2 V.2.1 165 0 0 186 = V.2.1 186
        rw [u2r (by decide)]
    have hW0 : W.2.1 165 0 = 0 := by
      rw [hW]
      exact n0_rd V 0
    have hWb : W.2.2.2 = zf := by rw [hW]; rfl
    obtain ⟨n, hn, e9, -⟩ := R.2.2.2.2.2.1
    rw [add_eq R.SZ, mpp_eq, ship_eq hn (by rw [vbs1, R.1, e9]), vbsb, hWb]
    simp only [bsm]
    rw [pp_pS, up_rw (by decide), up_rw (by decide), (pair_hi hYb).1]
    have hbt : byt (up (up zf 0 (P >>> ((8 : Int32) &&& 31))) (0 + 1) (P &&& 255)) := (byt_0.put 0 ((pair_hi hYb).1 ▸ (pair_hi hYb).2)).put 1 (by_and _)
    have fin : Rel D (pS S2 (rw0 0 (nI (i + 1)) (nI c) 1 0 (up (up zf 0 (P >>> ((8 : Int32) &&& 31))) (0 + 1) (P &&& 255)))) (pV (vbs W (up (up zf 0 (P >>> ((8 : Int32) &&& 31))) (0 + 1) (P &&& 255))) (rw0 0 (nI (i + 1)) (nI c) 1 0 (up (up zf 0 (P >>> ((8 : Int32) &&& 31))) (0 + 1) (P &&& 255)))) := (R.b _).push (okc.mk' (fld.mk' ⟨0, by omega, rfl⟩ ⟨i + 1, by omega, rfl⟩ ⟨c, hc, rfl⟩ (by decide) ⟨0, by omega, rfl⟩) hbt)
    refine ⟨_, _, _, _, rfl, rfl, fin, Or.inl ⟨?_, hW0⟩⟩
    rw [fin.1]
  · rw [hl, if_pos (show (if (1 : Int32) = 0 then (1 : Int32) else 0) = 0 by decide), if_neg (show ¬ (1 : Int32) = 0 by decide)]
    exact AP.err h (by decide) rfl
theorem sim_close {D : Nat} {S : xSt} {V : xVt} (h : Rel D S V) (ci : Int32) : AN D k2 (f_close S ci) (g_close V ci) := by
  have eV : V.1 = S.1 := h.1
  unfold f_close g_close
  simp only [bsm]
  rcases a_circ ci with ⟨e, q⟩ | ⟨e, q, c, hc, rfl⟩
  · rw [e, if_pos rfl, if_pos q]
    exact AN.err h (by decide) rfl
  rw [e, if_neg (show ¬ (1 : Int32) = 0 by decide), if_neg q, if_pos (bn hc (by decide)), if_pos (bn hc (by decide)), nI_clamp (show c < 2 ^ 31 by omega), on_eq eV]
  rcases b_isLive (S := S) (c := c) rfl with hl | hl
  · rw [hl, if_pos rfl, if_pos rfl]
    exact AN.err h (by decide) rfl
  · rw [hl, if_neg (show ¬ (1 : Int32) = 0 by decide), if_neg (show ¬ (1 : Int32) = 0 by decide)]
    have hlive := live_eq hl
    have h0 := h.n0 0
    obtain ⟨w, hw, ew⟩ := first_ok h0 hc hlive
    obtain ⟨V1, e1, e2, e3⟩ := h0.destroy (f := 0) (t := f_firstRelay S c) (k := nI c) ⟨0, by omega, rfl⟩ ⟨w + 1, by omega, ew⟩ ⟨c, hc, rfl⟩
    obtain ⟨V2, f1, f2, f3⟩ := e3.closed hc
    have hS : f_shut S c = some (f_becomeClosed (pS S (rw0 0 (f_firstRelay S c) (nI c) 4 0 zf)) c) := by
      unfold f_shut
      rw [Option.bind_some, add_eq h.SZ, Option.bind_some, Option.bind_some]
    have hG : g_closeNow (vn V 165 0 0) c = some V2 := by
      unfold g_closeNow
      rw [show (vn V 165 0 0).1 = S.1 from eV, show (if S.1 168 c ≤ 0 then S.1 171 c else S.1 169 (3 * c)) = f_firstRelay S c from rfl, e1, Option.bind_some, f1, Option.bind_some]
    rw [hS, hG, bsm, bsm]
    exact ⟨_, _, _, rfl, rfl, f3, Or.inl ⟨rfl, by rw [f2, e2]; exact n0_rd V 0⟩⟩
