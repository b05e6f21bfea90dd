/-! the agreement at the client -/
/-- not by rfl: the kernel shall not compare two binds by unfolding -/
theorem bsm {α β : Type} (a : α) (k : α → Option β) : (some a).bind k = k a := by
  have h : ∀ o : Option α, o = some a → o.bind k = k a := by
    intro o ho
    rw [ho, Option.bind_some]
  exact h _ rfl
theorem hopX {D : Nat} {X : Nat → Nat → Int32} {c m w : Nat} {k0 k1 k2 k3 : Int32} (hm : m ≤ 2) (hw : w < 4) (h : CI D X c) (e8 : X 168 c = nI m) (hst : X 167 c = 1) : CI D (xi_u2 (xi_u2 (xi_u2 (xi_u2 (xi_u2 (xi_u2 (xi_u2 (xi_u2 X 170 (12 * c + 4 * m) k0) 170 (12 * c + 4 * m + 1) k1) 170 (12 * c + 4 * m + 2) k2) 170 (12 * c + 4 * m + 3) k3) 169 (3 * c + m) (nI (w + 1))) 168 c (nI m + 1)) 167 c 2) 171 c (-1)) c := by
  obtain ⟨m', a1, a2, a3, a4, a5, a6, a7, a8⟩ := h
  have hmm : m' = m := (nI_eq (by omega) (by omega)).mp (a1.symm.trans e8)
  subst hmm
  refine ⟨m' + 1, ?_, by omega, fun q => ?_, fun _ => ?_, fun _ => by omega, fun _ => ?_, ?_, fun s hs => ?_⟩
  · rw [u2r (by decide), u2r (by decide), u2_same, nI_1]
  · rw [u2r (by decide), u2_same] at q
    exact absurd q (by decide)
  · rw [u2_same]
  · rw [u2r (by decide), u2r (by decide), u2r (by decide), u2_at]
    by_cases q : m' = 0
    · rw [if_pos ⟨rfl, by omega⟩]
      exact ⟨w, hw, rfl⟩
    · rw [if_neg (by omega), u2r (by decide), u2r (by decide), u2r (by decide), u2r (by decide)]
      exact a6 (by omega)
  · rw [u2r (by decide), u2r (by decide), u2r (by decide), u2r (by decide), u2r (by decide), u2r (by decide), u2r (by decide), u2r (by decide)]
    exact a7
  · obtain ⟨k, z, b1, b2, b3, b4, b5, b6⟩ := a8 s hs
    rw [u2r (by decide), u2r (by decide), u2r (by decide), u2r (by decide), u2r (by decide), u2r (by decide), u2r (by decide), u2r (by decide)]
    rw [u2r (show 174 ≠ 171 by decide), u2r (by decide), u2r (by decide), u2r (by decide), u2r (by decide), u2r (by decide), u2r (by decide), u2r (by decide)]
    rw [u2r (show 175 ≠ 171 by decide), u2r (by decide), u2r (by decide), u2r (by decide), u2r (by decide), u2r (by decide), u2r (by decide), u2r (by decide)]
    exact ⟨k, z, b1, b2, b3, b4, b5, fun q => ⟨(b6 q).1, by have := (b6 q).2; omega⟩⟩
theorem Rel.hop {D : Nat} {S : xSt} {V V' : xVt} (h : Rel D S V) {c m w : Nat} {H : Int32} (hc : c < 4) (hm : m ≤ 2) (hw : w < 4) (a1 : S.1 168 c = nI m) (hst : S.1 167 c = 1) (e1 : V'.1 = xi_u2 (xi_u2 (xi_u2 (xi_u2 (xi_u2 (xi_u2 (xi_u2 (xi_u2 S.1 169 (3 * c + m) (nI (w + 1))) 170 (12 * c + 4 * m) (f_mix H 1)) 170 (12 * c + 4 * m + 1) (f_mix (f_mix H 1) 2)) 170 (12 * c + 4 * m + 2) (f_mix (f_mix (f_mix H 1) 2) 3)) 170 (12 * c + 4 * m + 3) (f_mix (f_mix (f_mix (f_mix H 1) 2) 3) 4)) 168 c (nI m + 1)) 171 c (-1)) 167 c 2) (e3 : V'.2.1 186 = V.2.1 186) (e4 : V'.2.2.1 = V.2.2.1) : Rel D (f_becomeReady (sx (sx (f_fillKeysC S c m H) 169 (3 * c + m) (nI (w + 1))) 168 c (nI m + 1)) c) V' := by
  obtain ⟨K0, h0⟩ := gen (f_mix H 1)
  obtain ⟨K1, h1⟩ := gen (f_mix (f_mix H 1) 2)
  obtain ⟨K2, h2⟩ := gen (f_mix (f_mix (f_mix H 1) 2) 3)
  obtain ⟨K3, h3⟩ := gen (f_mix (f_mix (f_mix (f_mix H 1) 2) 3) 4)
  unfold f_becomeReady f_fillKeysC
  rw [h3, h2, h1, h0] at e1 ⊢
  have hCI := h.2.1 c hc
  refine h.circ (c := c) (fun r hr => ?_) ?_ rfl e3 e4 (fun c' hc' hne => ?_) ?_
  · simp only [sx1]
    rw [u2r (by omega), u2r (by omega), u2r (by omega), u2r (by omega), u2r (by omega), u2r (by omega), u2r (by omega), u2r (by omega)]
  · rw [e1]
    simp only [sx1]
    rw [u2c (r := 171) (r' := 167) (Or.inl (by decide))]
    rw [u2c (X := S.1) (r := 169) (r' := 170) (i' := 12 * c + 4 * m) (Or.inl (by decide)), u2c (r := 169) (r' := 170) (i' := 12 * c + 4 * m + 1) (Or.inl (by decide)), u2c (r := 169) (r' := 170) (i' := 12 * c + 4 * m + 2) (Or.inl (by decide)), u2c (r := 169) (r' := 170) (i' := 12 * c + 4 * m + 3) (Or.inl (by decide))]
  · simp only [sx1]
    have k1 : CI D (xi_u2 (xi_u2 (xi_u2 (xi_u2 S.1 170 (12 * c + 4 * m) K0) 170 (12 * c + 4 * m + 1) K1) 170 (12 * c + 4 * m + 2) K2) 170 (12 * c + 4 * m + 3) K3) c' := (h.2.1 c' hc').rows (fun r q1 q2 q3 => by rw [u2r q3, u2r q3, u2r q3, u2r q3])
    exact ((((k1.us hne (by omega) (by decide)).uc hne (by decide)).uc hne (by decide)).uc hne (by decide))
  · simp only [sx1]
    exact hopX hm hw hCI a1 hst
theorem agN_186 (N : Nat → Nat → Int32) (H : Int32) : agN N H 186 = N 186 := by
  unfold agN
  rw [u2r (by decide), u2r (by decide), u2r (by decide), u2r (by decide), u2r (by decide)]
theorem own_ag {D : Nat} {S : xSt} {V : xVt} (h : Rel D S V) (H : Int32) : Rel D S (S.1, agN V.2.1 H, V.2.2) := Rel.own h h.1.symm (agN_186 V.2.1 H) rfl
theorem sim_meet {D : Nat} {S : xSt} {V : xVt} (h : Rel D S V) {c : Nat} (hc : c < 4) (hst : S.1 167 c = 1) {y tg : Int32} (hy : bnd y 65536) : SS D c (f_addsHop S c y tg) (g_meet V c y tg) := by
  have hCI := h.2.1 c hc
  obtain ⟨m, a1, a2, a3, a4, a5, a6, a7, a8⟩ := h.2.1 c hc
  obtain ⟨hm, ⟨w, hw, ew⟩, hex⟩ := a3 hst
  obtain ⟨b, a, r1, r2, r3, r4, r5⟩ := h.2.2.2.1 w hw
  have e171 : S.1 171 c - 1 = nI w := by rw [ew, nI_pred]
  unfold f_addsHop g_meet
  rw [h.1, rz_some hy hex]
  simp only [bsm]
  rw [e171, if_pos (bn hw (by decide)), nI_clamp (show w < 2 ^ 31 by omega), if_pos (by rw [ew]; exact bn (show w + 1 < 5 by omega) (by decide)), show (S.1 171 c).toNatClampNeg = w + 1 by rw [ew]; exact nI_clamp (by omega)]
  rw [rz_some (a := 17) (e := S.1 178 (w + 1)) ⟨by decide, by decide⟩ (by rw [r1]; exact bn r2 (by decide))]
  simp only [bsm]
  rw [show nI ((17 : Int32).toNatClampNeg ^ (S.1 178 (w + 1)).toNatClampNeg % 65521) = S.1 190 w by rw [r1, nI_clamp (show b < 2 ^ 31 by omega), r3, show (17 : Int32).toNatClampNeg = 17 from rfl]]
  rw [rz_some (a := S.1 190 w) (by rw [r3]; exact rz_bnd 17 b) hex, rz_some (a := 17) ⟨by decide, by decide⟩ hex]
  simp only [bsm]
  obtain ⟨A, hA⟩ := gen (nI (y.toNatClampNeg ^ (S.1 172 c).toNatClampNeg % 65521))
  obtain ⟨B, hB⟩ := gen (nI ((S.1 190 w).toNatClampNeg ^ (S.1 172 c).toNatClampNeg % 65521))
  obtain ⟨C, hC⟩ := gen (nI ((17 : Int32).toNatClampNeg ^ (S.1 172 c).toNatClampNeg % 65521))
  rw [hA, hB, hC, agree_eq]
  simp only [bsm]
  obtain ⟨H, hH⟩ := gen (f_shared A B C y (S.1 171 c))
  rw [hH, ag28, show f_tag H = ushr H 16 from rfl, h.1]
  by_cases q : ushr H 16 = tg
  · rw [if_pos q, if_pos q, a1, if_pos (bn (show m < 3 by omega) (by decide)), nI_clamp (show m < 2 ^ 31 by omega)]
    have e6 : (f_fillKeysC S c m H).1 168 c = nI m := by
      unfold f_fillKeysC
      simp only [sx1]
      rw [u2r (by decide), u2r (by decide), u2r (by decide), u2r (by decide), a1]
    have e7 : (f_fillKeysC S c m H).1 171 c = nI (w + 1) := by
      unfold f_fillKeysC
      simp only [sx1]
      rw [u2r (by decide), u2r (by decide), u2r (by decide), u2r (by decide), ew]
    rw [e6, e7, if_pos (bn (show m < 3 by omega) (by decide)), nI_clamp (show m < 2 ^ 31 by omega)]
    have i3 : nI (3 * c) + nI m = nI (3 * c + m) := nI_add _ _
    have i12 : nI (12 * c) + (4 : Int32) * nI m = nI (12 * c + 4 * m) := by rw [show (4 : Int32) = nI 4 from rfl, pk_mul, nI_add]
    have j0 : nI (12 * c + 4 * m) + 0 = nI (12 * c + 4 * m) := by rw [show (0 : Int32) = nI 0 from rfl, nI_add, Nat.add_zero]
    have j1 : nI (12 * c + 4 * m) + 1 = nI (12 * c + 4 * m + 1) := nI_add _ 1
    have j2 : nI (12 * c + 4 * m) + 2 = nI (12 * c + 4 * m + 2) := nI_add _ 2
    have j3 : nI (12 * c + 4 * m) + 3 = nI (12 * c + 4 * m + 3) := nI_add _ 3
    rw [i3, i12, j0, j1, j2, j3, if_pos (bn (show 3 * c + m < 12 by omega) (by decide)), if_pos (bn (show 12 * c + 4 * m < 48 by omega) (by decide)), if_pos (bn (show 12 * c + 4 * m + 1 < 48 by omega) (by decide)), if_pos (bn (show 12 * c + 4 * m + 2 < 48 by omega) (by decide)), if_pos (bn (show 12 * c + 4 * m + 3 < 48 by omega) (by decide))]
    rw [nI_clamp (show 3 * c + m < 2 ^ 31 by omega), nI_clamp (show 12 * c + 4 * m < 2 ^ 31 by omega), nI_clamp (show 12 * c + 4 * m + 1 < 2 ^ 31 by omega), nI_clamp (show 12 * c + 4 * m + 2 < 2 ^ 31 by omega), nI_clamp (show 12 * c + 4 * m + 3 < 2 ^ 31 by omega), ag0, ag1, ag2, ag3, ew]
    refine ⟨_, rfl, _, _, if_neg (show ¬ (1 : Int32) = 0 by decide), rfl, ?_⟩
    exact h.hop hc hm hw a1 hst (by simp only [vx1]) (agN_186 V.2.1 H) rfl
  · rw [if_neg q, if_neg q]
    exact SS.shut (own_ag h H) hc (Or.inl hst)
