/-! readers -/
theorem AP.ok {D : Nat} {k : Nat → Int32} {S : xSt} {V : xVt} (h : Rel D S V) {b b' : Int32} (e : b = b') : AP D k (some (.inl (some b), S)) (some (b', vn V 165 0 0)) := ⟨_, _, _, _, rfl, rfl, h.n0 0, Or.inl ⟨by rw [e], n0_rd V 0⟩⟩
theorem a_idx (x : Int32) (hi : Nat) (L H : Int32) (hh : hi < 65535) (eL : L = nI hi) (eH : H = nI (hi + 1)) : (g_in x 0 L = 0 ∧ (x < 0 ∨ H ≤ x)) ∨ (g_in x 0 L = 1 ∧ ¬ (x < 0 ∨ H ≤ x) ∧ ∃ k : Nat, k ≤ hi ∧ x = nI k) := by
  subst eL eH
  rcases rng x 0 hi (by omega) (by omega) with ⟨e, q⟩ | ⟨e, q1, q2, k, l1, l2, l3⟩
  · refine Or.inl ⟨e, ?_⟩
    rcases q with q | q
    · exact Or.inl q
    · refine Or.inr ?_
      rw [Int32.lt_iff_toInt_lt, nI_toInt (by omega)] at q
      rw [Int32.le_iff_toInt_le, nI_toInt (by omega)]
      omega
  · refine Or.inr ⟨e, ?_, k, l2, l3⟩
    rintro (z | z)
    · exact q1 z
    · rw [l3, nI_leI (by omega) (by omega)] at z
      omega
theorem api_count {D : Nat} {S : xSt} {V : xVt} (h : Rel D S V) (wh : Int32) : AP D k2 (f_count S wh) (g_count V wh) := by
  have eV : V.1 = S.1 := h.1
  unfold f_count g_count g_out
  simp only [bsm]
  rcases a_idx wh 4 4 5 (by omega) rfl rfl with ⟨e, q⟩ | ⟨e, q, j, hj, rfl⟩
  · rw [e, if_pos rfl, if_pos q, if_neg (show ¬ (1 : Int32) = 0 by decide)]
    exact AP.err h (by decide) rfl
  rw [e, if_neg (show ¬ (1 : Int32) = 0 by decide), if_neg q, if_pos rfl]
  rcases (by omega : j = 0 ∨ j = 1 ∨ j = 2 ∨ j = 3 ∨ j = 4) with z | z | z | z | z <;> subst z
  · exact AP.ok h (by rw [← eV]; rfl)
  · exact AP.ok h (by rw [← eV]; rfl)
  · exact AP.ok h (by rw [← eV]; rfl)
  · exact AP.ok h (by rw [← eV]; rfl)
  · refine AP.ok h ?_
    unfold f_readyCircuits g_readies
    rw [vn1, eV]
theorem api_data {D : Nat} {S : xSt} {V : xVt} (h : Rel D S V) (ci i : Int32) : AP D k2 (f_data S ci i) (g_data V ci i) := by
  have eV : V.1 = S.1 := h.1
  unfold f_data g_data g_out
  simp only [bsm]
  rcases a_circ ci with ⟨e, q⟩ | ⟨e, q, c, hc, rfl⟩
  · rw [e, if_pos rfl, if_pos q, if_neg (show ¬ (1 : Int32) = 0 by decide)]
    exact AP.err h (by decide) rfl
  rw [e, if_neg (show ¬ (1 : Int32) = 0 by decide), if_neg q, if_pos rfl, if_pos (bn hc (by decide)), if_pos (bn hc (by decide)), nI_clamp (show c < 2 ^ 31 by omega), vn1, eV]
  obtain ⟨m, a1, a2, a3, a4, a5, a6, a7, a8⟩ := h.2.1 c hc
  obtain ⟨z, hz7, hz⟩ : ∃ z : Nat, z < 8 ∧ S.1 176 c = nI z := ⟨_, bnd_lt a7, nI_bnd a7 (by omega)⟩
  unfold g_in
  by_cases h1 : i < 0
  · rw [if_pos h1, if_pos h1, if_pos rfl]
    exact AP.ok h rfl
  rw [if_neg h1, if_neg h1]
  obtain ⟨j, hj, rfl⟩ := nI_of h1
  have e1 : S.1 176 c - 1 < nI j ↔ S.1 176 c ≤ nI j := by
    rw [hz, nI_leI (by omega) hj, Int32.lt_iff_toInt_lt, nI_toInt hj]
    rcases Nat.eq_zero_or_pos z with q | q
    · subst q
      rw [show (nI 0 - 1).toInt = -1 from rfl]
      omega
    · obtain ⟨y, rfl⟩ : ∃ y, z = y + 1 := ⟨z - 1, by omega⟩
      rw [nI_pred, nI_toInt (by omega)]
      omega
  by_cases h2 : S.1 176 c ≤ nI j
  · rw [if_pos (e1.mpr h2), if_pos rfl, if_pos h2]
    exact AP.ok h rfl
  rw [if_neg (fun q => h2 (e1.mp q)), if_neg (show ¬ (1 : Int32) = 0 by decide), if_neg h2]
  rw [hz, nI_leI (by omega) hj] at h2
  have hj7 : j < 7 := by omega
  have ej : (7 : Int32) * nI c + nI j = nI (7 * c + j) := by rw [show (7 : Int32) = nI 7 from rfl, pk_mul, nI_add]
  rw [if_pos (bn hj7 (by decide)), ej, if_pos (bn (show 7 * c + j < 28 by omega) (by decide)), nI_clamp (show j < 2 ^ 31 by omega), nI_clamp (show 7 * c + j < 2 ^ 31 by omega)]
  exact AP.ok h rfl
theorem hop_or {S : xSt} {c : Nat} {hp : Int32} : (hp < 0 ∨ S.1 168 c ≤ hp) ↔ f_hasHop S c hp = 0 := by
  unfold f_hasHop
  by_cases h1 : hp < 0
  · rw [if_pos h1]
    exact ⟨fun _ => rfl, fun _ => Or.inl h1⟩
  · rw [if_neg h1]
    by_cases h2 : S.1 168 c ≤ hp
    · rw [if_pos h2]
      exact ⟨fun _ => rfl, fun _ => Or.inr h2⟩
    · rw [if_neg h2]
      exact ⟨fun q => (q.elim h1 h2).elim, fun q => absurd q (by decide)⟩
theorem api_key {D : Nat} {S : xSt} {V : xVt} (h : Rel D S V) (ci hp k : Int32) : AP D k2 (f_key S ci hp k) (g_key V ci hp k) := by
  have eV : V.1 = S.1 := h.1
  unfold f_key g_key
  simp only [bsm]
  rcases a_circ ci with ⟨e, q⟩ | ⟨e, q, c, hc, rfl⟩
  · rw [e, if_pos rfl, if_pos q]
    exact AP.err h (by decide) rfl
  rw [e, if_neg (show ¬ (1 : Int32) = 0 by decide), if_neg (show ¬ (1 : Int32) = 0 by decide), if_neg q, if_pos (bn hc (by decide)), if_pos (bn hc (by decide)), nI_clamp (show c < 2 ^ 31 by omega), eV]
  obtain ⟨m, e8, hm, hfst⟩ := (h.2.1 c hc).hops
  obtain ⟨hin, hex⟩ := hop_in e8 hm hp
  rw [hin]
  by_cases hh : f_hasHop S c hp = 0
  · rw [if_pos hh, if_pos (hop_or.mpr hh)]
    exact AP.err h (by decide) rfl
  rw [if_neg hh, if_neg (fun z => hh (hop_or.mp z))]
  obtain ⟨a, ha, rfl⟩ := hex hh
  rcases a_idx k 3 3 4 (by omega) rfl rfl with ⟨e, q⟩ | ⟨e, q, j, hj, rfl⟩
  · rw [e, if_pos rfl, if_pos q]
    exact AP.err h (by decide) rfl
  have ek : (12 : Int32) * nI c + (4 : Int32) * nI a + nI j = nI (12 * c + 4 * a + j) := by rw [show (12 : Int32) = nI 12 from rfl, show (4 : Int32) = nI 4 from rfl, pk_mul, pk_mul, nI_add, nI_add]
  rw [e, if_neg (show ¬ (1 : Int32) = 0 by decide), if_neg q, if_pos (bn (show a < 3 by omega) (by decide)), if_pos (bn (show j < 4 by omega) (by decide)), ek, if_pos (bn (show 12 * c + 4 * a + j < 48 by omega) (by decide)), nI_clamp (show a < 2 ^ 31 by omega), nI_clamp (show j < 2 ^ 31 by omega), nI_clamp (show 12 * c + 4 * a + j < 2 ^ 31 by omega)]
  exact AP.ok h rfl
