/-! send -/
theorem u2_self (X : Nat → Nat → Int32) (r i : Nat) : xi_u2 X r i (X r i) = X := by
  funext r' i'
  by_cases q : r' = r ∧ i' = i
  · rw [q.1, q.2, u2_same]
  · rw [u2_ne _ _ (by omega)]
theorem sx_self (S : xSt) (r i : Nat) : sx S r i (S.1 r i) = S := Prod.ext (u2_self S.1 r i) rfl
theorem vx_self (V : xVt) (r i : Nat) : vx V r i (V.1 r i) = V := Prod.ext (u2_self V.1 r i) rfl
theorem cT_r {S : xSt} {c a : Nat} {F : Nat → Int32} {r : Nat} (h0 : r ≠ 170) (h5 : r ≠ 165) : (cT S c a F).1 r = S.1 r := by
  unfold cT
  rw [pS_r h5]
  exact cs_r h0
theorem cW_r {V : xVt} {c a : Nat} {F : Nat → Int32} {r : Nat} (h0 : r ≠ 170) (h5 : r ≠ 165) : (cW V c a F).1 r = V.1 r := by
  have e : (cW V c a F).1 r = pX (cs c a (V.1, F)).1 r := rfl
  rw [e, pX_r h5]
  exact cs_r h0
theorem sfill_rw {a b c e g : Int32} {f : Nat → Int32} {v : Int32} {n : Nat} (hn : n ≤ 7) : sfill (rw0 a b c e g f) v n = rw0 a b c e g (sfill f v n) := by
  funext j
  unfold sfill rw0
  by_cases h : 7 ≤ j ∧ j < 7 + n
  · rw [if_pos h, if_pos (show j < 14 by omega)]
    exact (if_pos h).symm
  · rw [if_neg h]
    by_cases h2 : j < 14
    · rw [if_pos h2, if_pos h2]
      exact (if_neg h).symm
    · rw [if_neg h2, if_neg h2]
theorem byt.fill {f : Nat → Int32} (h : byt f) (v : Int32) (n : Nat) : byt (sfill f v n) := by
  intro i hi
  unfold sfill
  by_cases q : 7 ≤ i ∧ i < 7 + n
  · rw [if_pos q]
    exact by_and _
  · rw [if_neg q]
    exact h i hi
theorem Rel.set2 {D : Nat} {S : xSt} {V : xVt} (h : Rel D S V) {c t : Nat} (hc : c < 4) (ht : t < 3) {z : Int32} (hs : ∀ m, StI D m (S.1 173 (3 * c + t)) (S.1 174 (3 * c + t)) (S.1 175 (3 * c + t)) → StI (D + 1) m (S.1 173 (3 * c + t)) (S.1 174 (3 * c + t)) z) : Rel (D + 1) (sx S 175 (3 * c + t) z) (vx V 175 (3 * c + t) z) := by
  have R := h.set1 hc ht hs
  rw [sx_self, ← h.1, vx_self] at R
  exact R
theorem CI.win {D : Nat} {X : Nat → Nat → Int32} {c t : Nat} (hD : D < 90000) (h : CI D X c) (ht : t < 3) : X 175 (3 * c + t) ≤ 0 ↔ X 175 (3 * c + t) = 0 := by
  obtain ⟨m, a1, a2, a3, a4, a5, a6, a7, a8⟩ := h
  obtain ⟨k, z, b1, b2, b3, b4, b5, b6⟩ := a8 t ht
  rw [b3, show (0 : Int32) = nI 0 from rfl, nI_leI (by omega) (by omega), nI_eq (by omega) (by omega)]
  omega
theorem sendData_eq {S : xSt} (hz : SZ S) {c t k n : Nat} (ht : t < 3) (hk : k < 3) (hn : n ≤ 7) (e4 : S.1 174 (3 * c + t) = nI k) (v : Int32) : f_sendData S c (nI (t + 1)) (nI n) v = some (cT (sx S 175 (3 * c + t) (S.1 175 (3 * c + t) - 1)) c k (sfill (ordF 5 (nI (t + 1)) (nI n)) v n)) := by
  unfold f_sendData
  rw [ord_eq hz, bsm, if_pos (bn (show n < 8 by omega) (by decide)), nI_pred, if_pos (bn ht (by decide)), nI_clamp (show n < 2 ^ 31 by omega), nI_clamp (show t < 2 ^ 31 by omega)]
  dsimp only
  rw [sr_pS, pS_k, sfill_rw hn, pS_r (by decide), pS_r (by decide), sx_pS (by decide), e4, ← kq_sx (S := S) (r := 175) (i := 3 * c + t) (v := S.1 175 (3 * c + t) - 1) (by decide), seal_eq hk, bsm]
  unfold cT
  rw [sx1, u2r (show 169 ≠ 175 by decide)]
  rfl
theorem sim_send {D : Nat} (hD : D < 90000) {S : xSt} {V : xVt} (h : Rel D S V) (ci st n v : Int32) : AP (D + 1) k3 (f_send S ci st n v) (g_send V ci st n v) := by
  have hm := h.mono (show D ≤ D + 1 by omega)
  have eV : V.1 = S.1 := h.1
  unfold f_send g_send
  simp only [bsm, n00]
  rcases a_circ ci with ⟨e, q⟩ | ⟨e, q, c, hc, rfl⟩
  · rw [e, if_pos rfl, if_pos q]
    exact AP.err hm (by decide) rfl
  rw [e, if_neg (show ¬ (1 : Int32) = 0 by decide), if_neg q, show g_in st 1 3 = f_isStream st from rfl]
  rcases str st with hs | ⟨hs, t, ht, rfl⟩
  · rw [hs, if_pos rfl, if_pos rfl]
    exact AP.err hm (by decide) rfl
  rw [hs, if_neg (show ¬ (1 : Int32) = 0 by decide), if_neg (show ¬ (1 : Int32) = 0 by decide), show (if n < 0 then (0 : Int32) else (if 7 < n then (0 : Int32) else 1)) = g_in n 0 7 from rfl, show f_isByte v = g_in v 0 255 from rfl]
  rcases rng n 0 7 (by omega) (by omega) with ⟨e1, -⟩ | ⟨e1, -, -, n, -, hn, rfl⟩
  · rw [show g_in n 0 7 = 0 from e1, if_pos rfl, if_pos rfl]
    exact AP.err hm (by decide) rfl
  rw [show g_in (nI n) 0 7 = 1 from e1, if_neg (show ¬ (1 : Int32) = 0 by decide), if_neg (show ¬ (1 : Int32) = 0 by decide)]
  rcases rng v 0 255 (by omega) (by omega) with ⟨e2, -⟩ | ⟨e2, -⟩
  · rw [show g_in v 0 255 = 0 from e2, if_pos rfl, if_pos rfl]
    exact AP.err hm (by decide) rfl
  rw [show g_in v 0 255 = 1 from e2, if_neg (show ¬ (1 : Int32) = 0 by decide), if_neg (show ¬ (1 : Int32) = 0 by decide), if_pos (bn hc (by decide)), if_pos (ix3m hc ht).1, (ix3m hc ht).2, nI_pred, if_pos (bn ht (by decide)), nI_clamp (show c < 2 ^ 31 by omega), nI_clamp (show t < 2 ^ 31 by omega), eV]
  by_cases hx : S.1 173 (3 * c + t) = 2
  case neg =>
    rw [if_neg hx, if_pos rfl, if_neg hx]
    exact AP.err hm (by decide) rfl
  rw [if_pos hx, if_pos hx]
  have hw := (h.2.1 c hc).win hD ht
  by_cases hy : S.1 175 (3 * c + t) = 0
  · rw [if_pos (hw.mpr hy), if_pos rfl, if_pos hy]
    exact AP.err hm (by decide) rfl
  rw [if_neg (fun q => hy (hw.mp q)), if_neg (show ¬ (1 : Int32) = 0 by decide), if_neg hy, ord_m, bsm, if_pos (bn (show n < 8 by omega) (by decide)), if_pos (bn hc (by decide)), nI_clamp (show n < 2 ^ 31 by omega)]
  obtain ⟨k, hk, e4, hfst⟩ := (h.2.1 c hc).str ht (by rw [hx]; decide)
  have h0 := h.n0 0
  obtain ⟨m, hm20, e9, -⟩ := h0.2.2.2.2.2.1
  have e4V : (vbs (vbs (vn V 165 0 0) (ordF 5 (nI (t + 1)) (nI n))) (sfill (vbs (vn V 165 0 0) (ordF 5 (nI (t + 1)) (nI n))).2.2.2 v n)).1 174 (3 * c + t) = nI k := by rw [vbs1, vbs1, vn1, eV, e4]
  rw [e4V, vbsb, snd_cW (V := vbs (vn V 165 0 0) (ordF 5 (nI (t + 1)) (nI n))) hm20 (by rw [vbs1, h0.1, e9]) hk, sendData_eq h.SZ ht hk hn e4, bsm, cW_r (by decide) (by decide), vbs1, vn1, eV, vx_cW (by decide) (by decide) (by decide)]
  have R0 := (h0.b (ordF 5 (nI (t + 1)) (nI n))).set2 hc ht (z := S.1 175 (3 * c + t) - 1) (fun m ⟨k', z', b1, b2, b3, b4, b5, b6⟩ => by
    have z1 : z' ≠ 0 := by
      rintro rfl
      exact hy b3
    obtain ⟨z2, rfl⟩ : ∃ z2, z' = z2 + 1 := ⟨z' - 1, by omega⟩
    exact ⟨k', z2, b1, b2, by rw [b3, nI_pred], by omega, fun q => absurd (hx.symm.trans q) (by decide), b6⟩)
  have r9 : (sx S 175 (3 * c + t) (S.1 175 (3 * c + t) - 1)).1 169 (3 * c) = S.1 169 (3 * c) := by rw [sx1, u2r (by decide)]
  have R := R0.cw hc hk (by rw [r9]; exact hfst) (F := sfill (ordF 5 (nI (t + 1)) (nI n)) v n) ((byt.ord ⟨by decide, by decide⟩ (bn (show t + 1 < 256 by omega) (by decide)) (bn (show n < 256 by omega) (by decide))).fill v n)
  refine ⟨_, _, _, _, rfl, rfl, R, Or.inl ⟨?_, n0_rd V 0⟩⟩
  rw [cT_r (by decide) (by decide), sx1, u2_same]
