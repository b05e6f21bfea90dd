/-! lose -/
theorem a_pos {n : Nat} (hn : n ≤ 20) (i : Int32) : (g_in i 0 (nI n - 1) = 0 ∧ (i < 0 ∨ nI n ≤ i)) ∨ (g_in i 0 (nI n - 1) = 1 ∧ ¬ (i < 0 ∨ nI n ≤ i) ∧ ∃ j : Nat, j < n ∧ i = nI j) := by
  unfold g_in
  by_cases h1 : i < 0
  · exact Or.inl ⟨if_pos h1, Or.inl h1⟩
  rw [if_neg h1]
  obtain ⟨j, hj, rfl⟩ := nI_of h1
  have e1 : nI n - 1 < nI j ↔ nI n ≤ nI j := by
    rw [nI_leI (by omega) hj, Int32.lt_iff_toInt_lt, nI_toInt hj]
    rcases Nat.eq_zero_or_pos n with q | q
    · subst q
      rw [show (nI 0 - 1).toInt = -1 from rfl]
      omega
    · obtain ⟨y, rfl⟩ : ∃ y, n = y + 1 := ⟨n - 1, by omega⟩
      rw [nI_pred, nI_toInt (by omega)]
      omega
  by_cases h2 : nI n ≤ nI j
  · exact Or.inl ⟨if_pos (e1.mpr h2), Or.inr h2⟩
  · refine Or.inr ⟨if_neg (fun q => h2 (e1.mp q)), fun q => q.elim h1 h2, j, ?_, rfl⟩
    rw [nI_leI (by omega) hj] at h2
    omega
theorem ixc {j k : Nat} (hj : j < 20) (hk : k < 19) : (19 : Int32) * nI j + nI k = nI (19 * j + k) ∧ bnd (nI (19 * j + k)) 380 ∧ (nI (19 * j + k)).toNatClampNeg = 19 * j + k ∧ (19 * j + k) / 19 = j ∧ (19 * j + k) % 19 = k := by
  refine ⟨by rw [show (19 : Int32) = nI 19 from rfl, pk_mul, nI_add], bn (by omega) (by decide), nI_clamp (by omega), by omega, by omega⟩
theorem api_lose {D : Nat} {S : xSt} {V : xVt} (h : Rel D S V) (i : Int32) : AP D k2 (f_lose S i) (g_lose V i) := by
  have eV : V.1 = S.1 := h.1
  unfold f_lose g_lose
  simp only [bsm]
  obtain ⟨n, hn, e, hcl⟩ := h.2.2.2.2.2.1
  rw [eV, e]
  rcases a_pos hn i with ⟨e1, q⟩ | ⟨e1, q, j, hj, rfl⟩
  · rw [e1, if_pos rfl, if_pos q]
    exact AP.err h (by decide) rfl
  obtain ⟨x1, x2, x3, x4, x5⟩ := ixc (j := j) (k := 3) (by omega) (by omega)
  rw [e1, if_neg (show ¬ (1 : Int32) = 0 by decide), if_neg q, show (19 : Int32) * nI j + 3 = nI (19 * j + 3) from x1, if_pos x2, x3, x4, x5]
  obtain ⟨y, rfl⟩ : ∃ y, n = y + 1 := ⟨n - 1, by omega⟩
  have hF := h.free (r := 165) (i := 4) (v := S.1 165 4 + 1) (Or.inr (Or.inr ⟨rfl, by decide⟩))
  have e' : (sx S 165 4 (S.1 165 4 + 1)).1 165 1 = nI (y + 1) := by rw [sx1, u2i (by decide), e]
  have h0 := h.n0 0
  rw [out_eq hF.2.2.2.2.1.1 (show j ≤ y by omega) (by omega) e', bsm, rem_eq (W := vn V 165 0 0) (show j ≤ y by omega) (by omega) (by rw [vn1, eV, e]), bsm]
  obtain ⟨ok, R⟩ := hF.out (W := vx (vn V 165 0 0) 165 4 (S.1 165 4 + 1)) (show j ≤ y by omega) (by omega) e' (by rw [vx1, vx1, vn1]) (by rw [vx21, vn21, u2r (by decide)]; rfl) rfl
  have eW : vx (vc (vx (vn V 165 0 0) 165 1 (nI y)) (cr (vn V 165 0 0).2.2.1 j y)) 165 4 ((vc (vx (vn V 165 0 0) 165 1 (nI y)) (cr (vn V 165 0 0).2.2.1 j y)).1 165 4 + 1) = vc (vx (vx (vn V 165 0 0) 165 4 (S.1 165 4 + 1)) 165 1 (nI y)) (cr (vx (vn V 165 0 0) 165 4 (S.1 165 4 + 1)).2.2.1 j y) := by
    refine Prod.ext ?_ rfl
    show xi_u2 (xi_u2 V.1 165 1 (nI y)) 165 4 (xi_u2 V.1 165 1 (nI y) 165 4 + 1) = xi_u2 (xi_u2 V.1 165 4 (S.1 165 4 + 1)) 165 1 (nI y)
    rw [u2i (show (4 : Nat) ≠ 1 by decide), eV, u2c (r := 165) (r' := 165) (i := 4) (i' := 1) (Or.inr (by decide))]
  rw [← eW] at R
  refine ⟨_, _, _, _, rfl, rfl, R, Or.inl ⟨?_, n0_rd V 0⟩⟩
  have := ok.2.1 17 (by omega) (by omega)
  show Sum.inl (some (S.2.1 (S.2.2 j) 17)) = Sum.inl (some (V.2.2.1 j 17))
  rw [show V.2.2.1 j 17 = S.2.1 (S.2.2 j) 17 from this]
