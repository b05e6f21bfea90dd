theorem api_cell {D : Nat} {S : xSt} {V : xVt} (h : Rel D S V) (i wh : Int32) : AQ D k2 (f_cell S i wh) (g_cell V i wh) := by
  have eV : V.1 = S.1 := h.1
  unfold f_cell g_cell
  simp only [bsm]
  obtain ⟨n, hn, e, hcl⟩ := h.2.2.2.2.2.1
  rw [eV, e]
  rcases a_pos hn i with ⟨e1, q⟩ | ⟨e1, q, j, hj, rfl⟩
  · rw [e1, if_pos rfl, if_pos q]
    exact (AP.err h (by decide) rfl).q
  rw [e1, if_neg (show ¬ (1 : Int32) = 0 by decide), if_neg q]
  rcases a_idx wh 18 18 19 (by omega) rfl rfl with ⟨e2, q2⟩ | ⟨e2, q2, y, hy, rfl⟩
  · rw [e2, if_pos rfl, if_pos q2]
    exact (AP.err h (by decide) rfl).q
  obtain ⟨x1, x2, x3, x4, x5⟩ := ixc (j := j) (k := y) (by omega) (by omega)
  rw [e2, if_neg (show ¬ (1 : Int32) = 0 by decide), if_neg q2, if_pos (bn (show j < 20 by omega) (by decide)), nI_clamp (show j < 2 ^ 31 by omega), if_pos (h.2.2.2.2.1.1 j (by omega)).2, x1, if_pos x2, x3, x4, x5]
  by_cases c0 : nI y = 0
  · rw [if_pos c0]
    exact AQ.ok h
  rw [if_neg c0]
  by_cases c1 : nI y = 1
  · rw [if_pos c1]
    exact AQ.ok h
  rw [if_neg c1]
  by_cases c2 : nI y = 2
  · rw [if_pos c2]
    exact AQ.ok h
  rw [if_neg c2]
  by_cases c3 : nI y = 3
  · rw [if_pos c3]
    exact AQ.ok h
  rw [if_neg c3]
  by_cases c4 : nI y = 18
  · rw [if_pos c4]
    exact AQ.ok h
  rw [if_neg c4]
  have d0 : y ≠ 0 := fun z => c0 (by rw [z]; rfl)
  have d1 : y ≠ 1 := fun z => c1 (by rw [z]; rfl)
  have d2 : y ≠ 2 := fun z => c2 (by rw [z]; rfl)
  have d3 : y ≠ 3 := fun z => c3 (by rw [z]; rfl)
  have d4 : y ≠ 18 := fun z => c4 (by rw [z]; rfl)
  obtain ⟨u, rfl⟩ : ∃ u, y = u + 4 := ⟨y - 4, by omega⟩
  rw [show (4 : Int32) = nI 4 from rfl, sbw, if_pos (bn (show u < 14 by omega) (by decide))]
  exact AQ.ok h
