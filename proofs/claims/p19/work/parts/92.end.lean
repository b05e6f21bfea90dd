/-! orders by the face that set something else too: closed forms of the sending -/
def cT (S : xSt) (c a : Nat) (F : Nat → Int32) : xSt := pS ((cs c a (S.1, F)).1, S.2) (rw0 0 (S.1 169 (3 * c)) (nI c) 3 (nI a) (cs c a (S.1, F)).2)
def cW (V : xVt) (c a : Nat) (F : Nat → Int32) : xVt := pV (vp (vbs V F) (cs c a (V.1, F))) (rw0 0 (V.1 169 (3 * c)) (nI c) 3 (nI a) (cs c a (V.1, F)).2)
theorem Rel.cw {D : Nat} {S : xSt} {V : xVt} (h : Rel D S V) {c a : Nat} (hc : c < 4) (ha : a < 3) (hh : ∃ w : Nat, w < 4 ∧ S.1 169 (3 * c) = nI (w + 1)) {F : Nat → Int32} (hF : byt F) : Rel D (cT S c a F) (cW V c a F) := sim_seal (h.b F) hc ha hh (F := F) (b := F) hF (fun _ _ _ _ => rfl)
theorem vx_cW {V : xVt} {c a : Nat} {F : Nat → Int32} {r i : Nat} {v : Int32} (h0 : r ≠ 170) (h5 : r ≠ 165) (h9 : r ≠ 169) : vx (cW V c a F) r i v = cW (vx V r i v) c a F := by
  unfold cW
  rw [vx_pV h5, vx1, cs_u h0, u2r (Ne.symm h9)]
  rfl
theorem cW_n (V : xVt) (c a : Nat) (F : Nat → Int32) : (cW V c a F).2.1 = V.2.1 := rfl
theorem snd_cW {V : xVt} {n' : Nat} (hn : n' ≤ 20) (e : V.1 165 1 = nI n') {c a : Nat} (ha : a < 3) (F : Nat → Int32) {β : Type} (k : xVt → Option β) : (g_clientSends (vbs V F) c (nI a)).bind k = k (cW V c a F) := by
  rw [cs_eq (V := vbs V F) hn e ha, bsm]
  rfl
theorem ord_cW {V : xVt} {n' : Nat} (hn : n' ≤ 20) (e : V.1 165 1 = nI n') {c a : Nat} (ha : a < 3) (o s n : Int32) {β : Type} (k : xVt → Option β) : ((g_order V o s n).bind fun r => (g_clientSends r c (nI a)).bind k) = k (cW V c a (ordF o s n)) := by
  rw [ord_m, bsm, cs_eq (V := vbs V (ordF o s n)) hn e ha, bsm]
  rfl
theorem ord_cT {S : xSt} (hz : SZ S) {c a : Nat} (ha : a < 3) (o s n : Int32) : ((f_order S c o s n).bind fun r1 => (f_sealTo r1.2 c (nI a) r1.1).bind fun r2 => some r2) = some (cT S c a (ordF o s n)) := cl_S hz ha o s n
theorem ix3m {c t : Nat} (hc : c < 4) (ht : t < 3) : bnd ((3 : Int32) * nI c + nI (t + 1) - 1) 12 ∧ ((3 : Int32) * nI c + nI (t + 1) - 1).toNatClampNeg = 3 * c + t := by
  rw [show (3 : Int32) = nI 3 from rfl, pk_mul]
  exact (ix3 hc ht).2
theorem CI.str {D : Nat} {X : Nat → Nat → Int32} {c t : Nat} (h : CI D X c) (ht : t < 3) (hx : ¬ X 173 (3 * c + t) = 0) : ∃ k : Nat, k < 3 ∧ X 174 (3 * c + t) = nI k ∧ ∃ w : Nat, w < 4 ∧ X 169 (3 * c) = nI (w + 1) := by
  obtain ⟨m, a1, a2, a3, a4, a5, a6, a7, a8⟩ := h
  obtain ⟨k, z, b1, b2, b3, b4, b5, b6⟩ := a8 t ht
  exact ⟨k, by omega, b1, a6 (by have := (b6 hx).2; omega)⟩
theorem sim_end {D : Nat} {S : xSt} {V : xVt} (h : Rel D S V) (ci st : Int32) : AP (D + 1) k2 (f_end S ci st) (g_end V ci st) := by
  have hm := h.mono (show D ≤ D + 1 by omega)
  have eV : V.1 = S.1 := h.1
  unfold f_end g_end
  simp only [bsm, n00]
  rcases a_circ ci with ⟨e, q⟩ | ⟨e, q, c, hc, rfl⟩
  · rw [e, if_pos rfl, if_pos q]
    exact AP.err hm (by decide) rfl
  rw [e, if_neg (show ¬ (1 : Int32) = 0 by decide), if_neg q, show g_in st 1 3 = f_isStream st from rfl]
  rcases str st with hs | ⟨hs, t, ht, rfl⟩
  · rw [hs, if_pos rfl, if_pos rfl]
    exact AP.err hm (by decide) rfl
  rw [hs, if_neg (show ¬ (1 : Int32) = 0 by decide), if_neg (show ¬ (1 : Int32) = 0 by decide), if_pos (bn hc (by decide)), if_pos (ix3m hc ht).1, (ix3m hc ht).2, nI_pred, if_pos (bn ht (by decide)), nI_clamp (show c < 2 ^ 31 by omega), nI_clamp (show t < 2 ^ 31 by omega), eV]
  by_cases hx : S.1 173 (3 * c + t) = 0
  · rw [if_pos hx, if_pos rfl, if_pos hx]
    exact AP.err hm (by decide) rfl
  rw [if_neg hx, if_neg (show ¬ (1 : Int32) = 0 by decide), if_neg hx, ord_m, bsm, if_pos (bn hc (by decide))]
  obtain ⟨k, hk, e4, hfst⟩ := (h.2.1 c hc).str ht hx
  have h0 := h.n0 0
  obtain ⟨n, hn, e9, -⟩ := h0.2.2.2.2.2.1
  have e4V : (vbs (vn V 165 0 0) (ordF 6 (nI (t + 1)) 0)).1 174 (3 * c + t) = nI k := by rw [vbs1, vn1, eV, e4]
  rw [e4V, snd_cW hn (by rw [h0.1, e9]) hk]
  have R0 : Rel (D + 1) (f_become S c t 0 0) (vx (vx (vn V 165 0 0) 173 (3 * c + t) 0) 175 (3 * c + t) 0) := h0.set1 hc ht (fun m ⟨k', z', b1, b2, b3, b4, b5, b6⟩ => ⟨k', 0, b1, b2, rfl, by omega, fun _ => rfl, fun q => absurd rfl q⟩)
  have r9 : (f_become S c t 0 0).1 169 (3 * c) = S.1 169 (3 * c) := by
    unfold f_become
    rw [sx1, u2r (by decide), sx1, u2r (by decide)]
  have r4 : (f_become S c t 0 0).1 174 (3 * c + t) = nI k := by
    unfold f_become
    rw [sx1, u2r (by decide), sx1, u2r (by decide), e4]
  have hA : f_endStream S c (nI (t + 1)) = some (cT (f_become S c t 0 0) c k (ordF 6 (nI (t + 1)) 0)) := by
    unfold f_endStream
    rw [nI_pred, if_pos (bn ht (by decide)), nI_clamp (show t < 2 ^ 31 by omega), bsm, r4]
    exact ord_cT R0.SZ hk 6 (nI (t + 1)) 0
  rw [hA, bsm]
  have R := R0.cw hc hk (by rw [r9]; exact hfst) (F := ordF 6 (nI (t + 1)) 0) (byt.ord ⟨by decide, by decide⟩ (bn (show t + 1 < 256 by omega) (by decide)) ⟨by decide, by decide⟩)
  rw [← vx_cW (by decide) (by decide) (by decide), ← vx_cW (by decide) (by decide) (by decide)] at R
  exact ⟨_, _, _, _, rfl, rfl, R, Or.inl ⟨rfl, n0_rd V 0⟩⟩
