/-! readers: circuit, relay -/
theorem sbw (a b : Nat) : nI (a + b) - nI b = nI a := by rw [← nI_add, Int32.add_sub_cancel]
theorem ixw {x a b j lim : Nat} (hl : x + a < lim) (hlim : lim < 65536) (hj : j = a + b) (B : Int32) (eB : B = nI b) : bnd (nI x + nI j - B) lim ∧ (nI x + nI j - B).toNatClampNeg = x + a := by
  subst hj eB
  rw [nI_add, ← Nat.add_assoc, sbw]
  exact ⟨bn hl (by omega), nI_clamp (by omega)⟩
theorem hopc {D : Nat} {S : xSt} {V : xVt} (h : Rel D S V) {c a : Nat} (ha : a < 3) {b : Int32} : AP D k2 (if f_hasHop S c (nI a) = 0 then some (.inl (some (-1)), S) else some (.inl (some b), S)) (if S.1 168 c ≤ nI a then some (-1, vn V 165 0 0) else some (b, vn V 165 0 0)) := by
  by_cases q : S.1 168 c ≤ nI a
  · rw [if_pos q, if_pos (hop_or.mp (Or.inr q))]
    exact AP.ok h rfl
  · rw [if_neg q, if_neg (fun z => (hop_or.mpr z).elim (fun y => absurd (nI_ge0 (show a < 2 ^ 31 by omega)) (Int32.not_le.mpr y)) q)]
    exact AP.ok h rfl
theorem api_circuit {D : Nat} {S : xSt} {V : xVt} (h : Rel D S V) (ci wh : Int32) : AP D k2 (f_circuit S ci wh) (g_circuit V ci wh) := by
  have eV : V.1 = S.1 := h.1
  unfold f_circuit g_circuit
  simp only [bsm]
  rcases a_circ ci with ⟨e, q⟩ | ⟨e, q, c, hc, rfl⟩
  · rw [e, if_pos rfl, if_pos q]
    exact AP.err h (by decide) rfl
  have hb : bnd (nI c) 4 := bn hc (by decide)
  rw [e, if_neg (show ¬ (1 : Int32) = 0 by decide), if_neg q, eV]
  simp only [if_pos hb, nI_clamp (show c < 2 ^ 31 by omega)]
  rcases a_idx wh 11 11 12 (by omega) rfl rfl with ⟨e, q⟩ | ⟨e, q, j, hj, rfl⟩
  · rw [e, if_pos rfl, if_pos q]
    exact AP.err h (by decide) rfl
  rw [e, if_neg (show ¬ (1 : Int32) = 0 by decide), if_neg q, show (3 : Int32) * nI c = nI (3 * c) by rw [show (3 : Int32) = nI 3 from rfl, pk_mul]]
  rcases (by omega : j = 0 ∨ j = 1 ∨ j = 2 ∨ j = 3 ∨ j = 4 ∨ j = 5 ∨ j = 6 ∨ j = 7 ∨ j = 8 ∨ j = 9 ∨ j = 10 ∨ j = 11) with z | z | z | z | z | z | z | z | z | z | z | z <;> subst z
  · exact AP.ok h rfl
  · exact AP.ok h rfl
  · have i2 := ixw (x := 3 * c) (a := 0) (b := 2) (j := 2) (lim := 12) (by omega) (by omega) rfl 2 rfl
    rw [if_pos i2.1, i2.2]
    exact hopc h (a := 0) (by omega)
  · have i2 := ixw (x := 3 * c) (a := 1) (b := 2) (j := 3) (lim := 12) (by omega) (by omega) rfl 2 rfl
    rw [if_pos i2.1, i2.2]
    exact hopc h (a := 1) (by omega)
  · have i2 := ixw (x := 3 * c) (a := 2) (b := 2) (j := 4) (lim := 12) (by omega) (by omega) rfl 2 rfl
    rw [if_pos i2.1, i2.2]
    exact hopc h (a := 2) (by omega)
  · exact AP.ok h rfl
  · have i2 := ixw (x := 3 * c) (a := 0) (b := 6) (j := 6) (lim := 12) (by omega) (by omega) rfl 6 rfl
    rw [if_pos i2.1, i2.2]
    exact AP.ok h rfl
  · have i2 := ixw (x := 3 * c) (a := 1) (b := 6) (j := 7) (lim := 12) (by omega) (by omega) rfl 6 rfl
    rw [if_pos i2.1, i2.2]
    exact AP.ok h rfl
  · have i2 := ixw (x := 3 * c) (a := 2) (b := 6) (j := 8) (lim := 12) (by omega) (by omega) rfl 6 rfl
    rw [if_pos i2.1, i2.2]
    exact AP.ok h rfl
  · have i2 := ixw (x := 3 * c) (a := 0) (b := 9) (j := 9) (lim := 12) (by omega) (by omega) rfl 9 rfl
    rw [if_pos i2.1, i2.2]
    exact AP.ok h rfl
  · have i2 := ixw (x := 3 * c) (a := 1) (b := 9) (j := 10) (lim := 12) (by omega) (by omega) rfl 9 rfl
    rw [if_pos i2.1, i2.2]
    exact AP.ok h rfl
  · have i2 := ixw (x := 3 * c) (a := 2) (b := 9) (j := 11) (lim := 12) (by omega) (by omega) rfl 9 rfl
    rw [if_pos i2.1, i2.2]
    exact AP.ok h rfl
theorem bitc {D : Nat} {S : xSt} {V : xVt} (h : Rel D S V) {b : Int32} : AP D k2 (some (.inl (some (if b = 0 then (0 : Int32) else 1)), S)) (if b = 0 then some (0, vn V 165 0 0) else some (1, vn V 165 0 0)) := by
  by_cases q : b = 0
  · rw [if_pos q, if_pos q]
    exact AP.ok h rfl
  · rw [if_neg q, if_neg q]
    exact AP.ok h rfl
