/-! extend -/
theorem CI.wait {D : Nat} {X : Nat → Nat → Int32} {c i m : Nat} {x : Int32} (hi : i < 4) (hx : bnd x 65536) (h : CI D X c) (e8 : X 168 c = nI m) (hm : m ≤ 2) : CI D (xi_u2 (xi_u2 (xi_u2 X 167 c 1) 171 c (nI (i + 1))) 172 c x) c := by
  have hr : ∀ r, r ≠ 167 → r ≠ 171 → r ≠ 172 → xi_u2 (xi_u2 (xi_u2 X 167 c 1) 171 c (nI (i + 1))) 172 c x r = X r := fun r q1 q2 q3 => by rw [u2r q3, u2r q2, u2r q1]
  have e7 : xi_u2 (xi_u2 (xi_u2 X 167 c 1) 171 c (nI (i + 1))) 172 c x 167 c = 1 := by rw [u2r (by decide), u2r (by decide), u2_same]
  have e1 : xi_u2 (xi_u2 (xi_u2 X 167 c 1) 171 c (nI (i + 1))) 172 c x 171 c = nI (i + 1) := by rw [u2r (by decide), u2_same]
  obtain ⟨m', a1, a2, a3, a4, a5, a6, a7, a8⟩ := h
  have em : m' = m := by
    rw [e8] at a1
    exact ((nI_eq (by omega) (by omega)).mp a1).symm
  subst em
  refine ⟨m', ?_, a2, fun _ => ⟨hm, ⟨i, hi, e1⟩, by rw [u2_same]; exact hx⟩, fun q => absurd e7 q, fun q => ?_, ?_, ?_, fun s hs => ?_⟩
  · rw [hr 168 (by decide) (by decide) (by decide)]; exact a1
  · rw [e7] at q
    exact absurd q (by decide)
  · rw [hr 169 (by decide) (by decide) (by decide)]; exact a6
  · rw [hr 176 (by decide) (by decide) (by decide)]; exact a7
  · rw [hr 173 (by decide) (by decide) (by decide), hr 174 (by decide) (by decide) (by decide), hr 175 (by decide) (by decide) (by decide)]
    exact a8 s hs
theorem Rel.wait {D : Nat} {S : xSt} {V : xVt} (h : Rel D S V) {c i m : Nat} {x : Int32} (hc : c < 4) (hi : i < 4) (hx : bnd x 65536) (e8 : S.1 168 c = nI m) (hm : m ≤ 2) : Rel D (f_waitFor S c (nI (i + 1)) x) (vx (vx (vx V 171 c (nI (i + 1))) 172 c x) 167 c 1) := by
  have eS : (f_waitFor S c (nI (i + 1)) x).1 = xi_u2 (xi_u2 (xi_u2 S.1 167 c 1) 171 c (nI (i + 1))) 172 c x := rfl
  refine h.circ (c := c) (fun r hr => ?_) ?_ rfl rfl rfl (fun c' hc' hne => ?_) ?_
  · rw [eS, u2r (by omega), u2r (by omega), u2r (by omega)]
  · rw [eS, vx1, vx1, vx1, h.1, u2c (r := 172) (r' := 167) (Or.inl (by decide)), u2c (r := 171) (r' := 167) (Or.inl (by decide))]
  · rw [eS]
    exact (((h.2.1 c' hc').uc hne (by decide)).uc hne (by decide)).uc hne (by decide)
  · rw [eS]
    exact (h.2.1 c hc).wait hi hx e8 hm
def extF (rl P : Int32) : Nat → Int32 := up (up (up (ordF 1 0 3) 7 rl) 8 (P >>> ((8 : Int32) &&& 31))) 9 (P &&& 255)
theorem extF_m (V : xVt) (rl P : Int32) : g_putPair (vb (vbs V (ordF 1 0 3)) 7 rl) 8 P = vbs V (extF rl P) := rfl
theorem ask_eq {S : xSt} {c i a : Nat} {x : Int32} (hz : SZ (f_waitFor S c (nI (i + 1)) x)) (hx : bnd x 65536) (e8 : S.1 168 c = nI (a + 1)) (ha : a < 3) : f_askForHop S c (nI (i + 1)) x = some (cT (f_waitFor S c (nI (i + 1)) x) c a (extF (nI (i + 1)) (nI ((17 : Int32).toNatClampNeg ^ x.toNatClampNeg % 65521)))) := by
  unfold f_askForHop
  rw [rz_some (a := 17) ⟨by decide, by decide⟩ hx]
  have hYb := rz_bnd (17 : Int32).toNatClampNeg x.toNatClampNeg
  obtain ⟨P, hP⟩ := gen (nI ((17 : Int32).toNatClampNeg ^ x.toNatClampNeg % 65521))
  rw [hP] at hYb ⊢
  have r8 : (f_waitFor S c (nI (i + 1)) x).1 168 c = nI (a + 1) := by
    unfold f_waitFor
    rw [sx1, u2r (by decide), sx1, u2r (by decide), sx1, u2r (by decide), e8]
  rw [bsm, ord_eq hz, bsm, bsm, bsm]
  dsimp only
  rw [sy_pS, pp_pS, up_rw (by decide), up_rw (by decide), up_rw (by decide), (pair_hi hYb).1, pS_r (by decide), r8, nI_pred, seal_eq ha, bsm]
  rfl
def fE (S : xSt) (c : Nat) (rl x : Int32) : Option ((Option Int32 ⊕ Nat) × xSt) := if (if (S.1 167 c) = 2 then (if 3 ≤ (S.1 168 c) then (0 : Int32) else 1) else 0) = 0 then (some (.inr 2, S)) else ((f_askForHop S c rl x).bind fun r2 => some (.inl (some (r2.1 165 1)), r2))
def gE (V : xVt) (X : Nat → Nat → Int32) (c : Nat) (rl x : Int32) : Option (Int32 × xVt) := if (X 167 c) = 2 then (if (X 168 c) = 3 then (some (0, (vn V 165 0 3))) else ((g_order (vn V 165 0 0) 1 0 3).bind fun r4 => (f_raise 17 x).bind fun r5 => (g_clientSends (g_putPair (vb r4 7 rl) 8 r5) c (((g_putPair (vb r4 7 rl) 8 r5).1 168 c) - 1)).bind fun r7 => some ((r7.1 165 1), (vx (vx (vx r7 171 c rl) 172 c x) 167 c 1)))) else (some (0, (vn V 165 0 3)))
theorem sim_E {D : Nat} {S : xSt} {V : xVt} (h : Rel D S V) {c i : Nat} {x : Int32} (hc : c < 4) (hi : i < 4) (hx : bnd x 65536) : AP D k3 (fE S c (nI (i + 1)) x) (gE V S.1 c (nI (i + 1)) x) := by
  have eV : V.1 = S.1 := h.1
  unfold fE gE
  by_cases h2 : S.1 167 c = 2
  case neg =>
    rw [if_neg h2, if_neg h2, if_pos rfl]
    exact AP.err h (by decide) rfl
  rw [if_pos h2, if_pos h2]
  obtain ⟨m, a1, a2, a3, a4, a5, a6, a7, a8⟩ := h.2.1 c hc
  have hm1 := a5 h2
  have e3 : 3 ≤ S.1 168 c ↔ S.1 168 c = 3 := by
    rw [a1, show (3 : Int32) = nI 3 from rfl, nI_leI (by omega) (by omega), nI_eq (by omega) (by omega)]
    omega
  by_cases h3 : S.1 168 c = 3
  · rw [if_pos (e3.mpr h3), if_pos rfl, if_pos h3]
    exact AP.err h (by decide) rfl
  rw [if_neg (fun q => h3 (e3.mp q)), if_neg (show ¬ (1 : Int32) = 0 by decide), if_neg h3]
  have hm2 : m ≤ 2 := by
    by_cases z : m = 3
    · rw [a1, z] at h3
      exact absurd rfl h3
    · omega
  obtain ⟨a, rfl⟩ : ∃ a, m = a + 1 := ⟨m - 1, by omega⟩
  have h0 := h.n0 0
  have R0 := h0.wait hc hi hx a1 hm2
  have hYb := rz_bnd (17 : Int32).toNatClampNeg x.toNatClampNeg
  rw [ask_eq R0.SZ hx a1 (by omega), bsm, ord_m, bsm, rz_some (a := 17) ⟨by decide, by decide⟩ hx, bsm]
  obtain ⟨P, hP⟩ := gen (nI ((17 : Int32).toNatClampNeg ^ x.toNatClampNeg % 65521))
  rw [hP] at hYb ⊢
  obtain ⟨n, hn, e9, -⟩ := h0.2.2.2.2.2.1
  have e8V : (vbs (vn V 165 0 0) (extF (nI (i + 1)) P)).1 168 c - 1 = nI a := by rw [vbs1, vn1, eV, a1, nI_pred]
  rw [extF_m, e8V, snd_cW hn (by rw [h0.1, e9]) (show a < 3 by omega)]
  have r9 : (f_waitFor S c (nI (i + 1)) x).1 169 (3 * c) = S.1 169 (3 * c) := by
    unfold f_waitFor
    rw [sx1, u2r (by decide), sx1, u2r (by decide), sx1, u2r (by decide)]
  have hF : byt (extF (nI (i + 1)) P) := (((byt.ord ⟨by decide, by decide⟩ ⟨by decide, by decide⟩ ⟨by decide, by decide⟩).put 7 (bn (show i + 1 < 256 by omega) (by decide))).put 8 ((pair_hi hYb).1 ▸ (pair_hi hYb).2)).put 9 (by_and _)
  have R := R0.cw hc (show a < 3 by omega) (by rw [r9]; exact a6 (by omega)) hF
  rw [← vx_cW (by decide) (by decide) (by decide), ← vx_cW (by decide) (by decide) (by decide), ← vx_cW (by decide) (by decide) (by decide)] at R
  refine ⟨_, _, _, _, rfl, rfl, R, Or.inl ⟨?_, n0_rd V 0⟩⟩
  rw [← R.1, vx1, u2r (by decide), vx1, u2r (by decide), vx1, u2r (by decide)]
theorem ixh {c : Nat} (hc : c < 4) (j : Nat) (hj : j < 3) : bnd ((3 : Int32) * nI c + nI j) 12 ∧ ((3 : Int32) * nI c + nI j).toNatClampNeg = 3 * c + j := by
  rw [show (3 : Int32) = nI 3 from rfl, pk_mul, nI_add]
  exact ⟨bn (by omega) (by decide), nI_clamp (by omega)⟩
theorem api_extend {D : Nat} {S : xSt} {V : xVt} (h : Rel D S V) (ci rl x : Int32) : AP D k3 (f_extend S ci rl x) (g_extend V ci rl x) := by
  have eV : V.1 = S.1 := h.1
  unfold f_extend g_extend
  simp only [bsm, n00]
  rcases a_circ ci with ⟨e, q⟩ | ⟨e, q, c, hc, rfl⟩
  · rw [e, if_pos rfl, if_pos q]
    exact AP.err h (by decide) rfl
  rw [e, if_neg (show ¬ (1 : Int32) = 0 by decide), if_neg q]
  rcases a_rel rl with ⟨e1, q1⟩ | ⟨e1, q1, i, hi, rfl⟩
  · rw [e1, if_pos rfl, if_pos q1]
    exact AP.err h (by decide) rfl
  rw [e1, if_neg (show ¬ (1 : Int32) = 0 by decide), if_neg q1]
  rcases a_exp x with ⟨e2, q2⟩ | ⟨e2, q2, hx⟩
  · rw [e2, if_pos rfl, if_pos q2]
    exact AP.err h (by decide) rfl
  rw [e2, if_neg (show ¬ (1 : Int32) = 0 by decide), if_neg q2, if_pos (bn hc (by decide)), if_pos (bn hc (by decide)), nI_clamp (show c < 2 ^ 31 by omega), eV]
  rw [if_pos (show bnd ((3 : Int32) * nI c + 0) 12 from (ixh hc 0 (by omega)).1), if_pos (show bnd ((3 : Int32) * nI c + 1) 12 from (ixh hc 1 (by omega)).1), if_pos (show bnd ((3 : Int32) * nI c + 2) 12 from (ixh hc 2 (by omega)).1), show ((3 : Int32) * nI c + 0).toNatClampNeg = 3 * c from (ixh hc 0 (by omega)).2, show ((3 : Int32) * nI c + 1).toNatClampNeg = 3 * c + 1 from (ixh hc 1 (by omega)).2, show ((3 : Int32) * nI c + 2).toNatClampNeg = 3 * c + 2 from (ixh hc 2 (by omega)).2]
  have T := sim_E h hc hi hx
  obtain ⟨m, e8, hm, -⟩ := (h.2.1 c hc).hops
  have n0 : ¬ (if (0 : Int32) = 0 then (1 : Int32) else 0) = 0 := by decide
  have n1 : (if (1 : Int32) = 0 then (1 : Int32) else 0) = 0 := by decide
  unfold f_goesThrough
  by_cases c0 : S.1 168 c ≤ 0
  · rw [if_pos c0, if_pos c0, bsm, if_neg n0]
    exact T
  rw [if_neg c0, if_neg c0]
  by_cases r0 : S.1 169 (3 * c) = nI (i + 1)
  · rw [if_pos r0, if_pos r0, bsm, if_pos n1]
    exact AP.err h (by decide) rfl
  rw [if_neg r0, if_neg r0]
  by_cases c1 : S.1 168 c ≤ 1
  · rw [if_pos c1, if_pos c1, bsm, if_neg n0]
    exact T
  rw [if_neg c1, if_neg c1]
  by_cases r1 : S.1 169 (3 * c + 1) = nI (i + 1)
  · rw [if_pos r1, if_pos r1, bsm, if_pos n1]
    exact AP.err h (by decide) rfl
  rw [if_neg r1, if_neg r1]
  by_cases c2 : S.1 168 c ≤ 2
  · rw [if_pos c2, if_pos c2, bsm, if_neg n0]
    exact T
  rw [if_neg c2, if_neg c2]
  by_cases r2 : S.1 169 (3 * c + 2) = nI (i + 1)
  · rw [if_pos r2, if_pos r2, bsm, if_pos n1]
    exact AP.err h (by decide) rfl
  rw [if_neg r2, if_neg r2]
  have c3 : S.1 168 c ≤ 3 := by
    rw [e8, show (3 : Int32) = nI 3 from rfl, nI_leI (by omega) (by omega)]
    exact hm
  rw [if_pos c3, if_pos c3, bsm, if_neg n0]
  exact T
