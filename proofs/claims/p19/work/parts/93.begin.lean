/-! begin -/
theorem CI.open3 {D : Nat} {X : Nat → Nat → Int32} {c t m a : Nat} (h : CI D X c) (ht : t < 3) (e8 : X 168 c = nI m) (hm : m ≤ 3) (ha : a < m) : CI D (xi_u2 (xi_u2 (xi_u2 X 174 (3 * c + t) (nI a)) 173 (3 * c + t) 1) 175 (3 * c + t) 0) c := by
  have hr : ∀ r, r ≠ 173 → r ≠ 174 → r ≠ 175 → xi_u2 (xi_u2 (xi_u2 X 174 (3 * c + t) (nI a)) 173 (3 * c + t) 1) 175 (3 * c + t) 0 r = X r := fun r q1 q2 q3 => by rw [u2r q3, u2r q1, u2r q2]
  obtain ⟨m', a1, a2, a3, a4, a5, a6, a7, a8⟩ := h
  have em : m' = m := by
    rw [e8] at a1
    exact ((nI_eq (by omega) (by omega)).mp a1).symm
  subst em
  refine ⟨m', ?_, a2, ?_, ?_, ?_, ?_, ?_, fun s hs => ?_⟩
  · rw [hr 168 (by decide) (by decide) (by decide)]; exact a1
  · rw [hr 167 (by decide) (by decide) (by decide), hr 171 (by decide) (by decide) (by decide), hr 172 (by decide) (by decide) (by decide)]; exact a3
  · rw [hr 167 (by decide) (by decide) (by decide), hr 171 (by decide) (by decide) (by decide)]; exact a4
  · rw [hr 167 (by decide) (by decide) (by decide)]; exact a5
  · rw [hr 169 (by decide) (by decide) (by decide)]; exact a6
  · rw [hr 176 (by decide) (by decide) (by decide)]; exact a7
  · by_cases q : s = t
    · subst q
      rw [u2r (show 173 ≠ 175 by decide), u2_same, u2r (show 174 ≠ 175 by decide), u2r (show 174 ≠ 173 by decide), u2_same, u2_same]
      exact ⟨a, 0, rfl, by omega, rfl, by omega, fun _ => rfl, fun _ => ⟨by decide, ha⟩⟩
    · rw [u2r (show 173 ≠ 175 by decide), u2i (by omega), u2r (show 173 ≠ 174 by decide), u2r (show 174 ≠ 175 by decide), u2r (show 174 ≠ 173 by decide), u2i (by omega), u2i (by omega), u2r (by decide), u2r (by decide)]
      exact a8 s hs
theorem Rel.open3 {D : Nat} {S : xSt} {V : xVt} (h : Rel D S V) {c t m a : Nat} (hc : c < 4) (ht : t < 3) (e8 : S.1 168 c = nI m) (hm : m ≤ 3) (ha : a < m) : Rel D (f_become (sx S 174 (3 * c + t) (nI a)) c t 1 0) (vx (vx (vx V 173 (3 * c + t) 1) 174 (3 * c + t) (nI a)) 175 (3 * c + t) 0) := by
  have eS : (f_become (sx S 174 (3 * c + t) (nI a)) c t 1 0).1 = xi_u2 (xi_u2 (xi_u2 S.1 174 (3 * c + t) (nI a)) 173 (3 * c + t) 1) 175 (3 * c + t) 0 := rfl
  refine h.circ (c := c) (fun r hr => ?_) ?_ rfl rfl rfl (fun c' hc' hne => ?_) ?_
  · rw [eS, u2r (by omega), u2r (by omega), u2r (by omega)]
  · rw [eS, vx1, vx1, vx1, h.1, u2c (r := 174) (r' := 173) (Or.inl (by decide))]
  · rw [eS]
    exact (((h.2.1 c' hc').us hne ht (by decide)).us hne ht (by decide)).us hne ht (by decide)
  · rw [eS]
    exact (h.2.1 c hc).open3 ht e8 hm ha
theorem CI.z0 {D : Nat} {X : Nat → Nat → Int32} {c t : Nat} (h : CI D X c) (ht : t < 3) : X 173 (3 * c + t) ≤ 0 ↔ X 173 (3 * c + t) = 0 := by
  obtain ⟨m, a1, a2, a3, a4, a5, a6, a7, a8⟩ := h
  obtain ⟨k, z, b1, b2, b3, b4, b5, b6⟩ := a8 t ht
  constructor
  · intro q
    by_cases hx : X 173 (3 * c + t) = 0
    · exact hx
    · have := (b6 hx).1
      rw [Int32.lt_iff_toInt_lt] at this
      rw [Int32.le_iff_toInt_le] at q
      omega
  · intro q
    rw [q]
    decide
theorem sim_begin {D : Nat} {S : xSt} {V : xVt} (h : Rel D S V) (ci st hp : Int32) : AN D k2 (f_begin S ci st hp) (g_begin V ci st hp) := by
  have eV : V.1 = S.1 := h.1
  unfold f_begin g_begin
  simp only [bsm, n00]
  rcases a_circ ci with ⟨e, q⟩ | ⟨e, q, c, hc, rfl⟩
  · rw [e, if_pos rfl, if_pos q]
    exact AN.err h (by decide) rfl
  rw [e, if_neg (show ¬ (1 : Int32) = 0 by decide), if_neg q, show g_in st 1 3 = f_isStream st from rfl]
  rcases str st with hs | ⟨hs, t, ht, rfl⟩
  · rw [hs, if_pos rfl, if_pos rfl]
    exact AN.err h (by decide) rfl
  rw [hs, if_neg (show ¬ (1 : Int32) = 0 by decide), if_neg (show ¬ (1 : Int32) = 0 by decide), if_pos (bn hc (by decide)), if_pos (bn hc (by decide)), (ix3m hc ht).2, nI_pred, nI_clamp (show c < 2 ^ 31 by omega), nI_clamp (show t < 2 ^ 31 by omega), eV]
  obtain ⟨m, e8, hm, hfst⟩ := (h.2.1 c hc).hops
  obtain ⟨hin, hex⟩ := hop_in e8 hm hp
  rw [hin]
  by_cases h2 : S.1 167 c = 2
  case neg =>
    rw [if_neg h2, if_neg h2, if_pos rfl]
    exact AN.err h (by decide) rfl
  rw [if_pos h2, if_pos h2]
  by_cases hh : f_hasHop S c hp = 0
  · rw [if_pos hh, if_pos hh, if_pos rfl]
    exact AN.err h (by decide) rfl
  rw [if_neg hh, if_neg hh, if_neg (show ¬ (1 : Int32) = 0 by decide), if_pos (ix3m hc ht).1, if_pos (bn ht (by decide))]
  obtain ⟨a, ha, rfl⟩ := hex hh
  have hz := (h.2.1 c hc).z0 ht
  by_cases hx : S.1 173 (3 * c + t) = 0
  case neg =>
    rw [if_neg hx, if_pos rfl, if_neg (fun q => hx (hz.mp q))]
    exact AN.err h (by decide) rfl
  rw [if_pos hx, if_neg (show ¬ (1 : Int32) = 0 by decide), if_pos (hz.mpr hx)]
  have h0 := h.n0 0
  have R0 := h0.open3 hc ht e8 hm ha
  obtain ⟨n, hn, e9, -⟩ := R0.2.2.2.2.2.1
  rw [ord_cW hn (by rw [R0.1, e9]) (show a < 3 by omega)]
  have hA : f_askForStream S c (nI (t + 1)) (nI a) = some (cT (f_become (sx S 174 (3 * c + t) (nI a)) c t 1 0) c a (ordF 3 (nI (t + 1)) 0)) := by
    unfold f_askForStream
    rw [nI_pred, if_pos (bn ht (by decide)), nI_clamp (show t < 2 ^ 31 by omega), bsm]
    exact ord_cT R0.SZ (show a < 3 by omega) 3 (nI (t + 1)) 0
  rw [hA, bsm]
  have r9 : (f_become (sx S 174 (3 * c + t) (nI a)) c t 1 0).1 169 (3 * c) = S.1 169 (3 * c) := by
    unfold f_become
    rw [sx1, u2r (by decide), sx1, u2r (by decide), sx1, u2r (by decide)]
  have R := R0.cw hc (show a < 3 by omega) (by rw [r9]; exact hfst (by omega)) (F := ordF 3 (nI (t + 1)) 0) (byt.ord ⟨by decide, by decide⟩ (bn (show t + 1 < 256 by omega) (by decide)) ⟨by decide, by decide⟩)
  exact ⟨_, _, _, rfl, rfl, R, Or.inl ⟨rfl, n0_rd V 0⟩⟩
