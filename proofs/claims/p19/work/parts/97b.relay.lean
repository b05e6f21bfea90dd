theorem api_relay {D : Nat} {S : xSt} {V : xVt} (h : Rel D S V) (rl ci wh : Int32) : AP D k2 (f_relay S rl ci wh) (g_relay V rl ci wh) := by
  have eV : V.1 = S.1 := h.1
  unfold f_relay g_relay
  simp only [bsm]
  rcases a_rel rl with ⟨e1, q1⟩ | ⟨e1, q1, i, hi, rfl⟩
  · rw [e1, if_pos rfl, if_pos q1]
    exact AP.err h (by decide) rfl
  rw [e1, if_neg (show ¬ (1 : Int32) = 0 by decide), if_neg q1]
  rcases a_circ ci with ⟨e, q⟩ | ⟨e, q, c, hc, rfl⟩
  · rw [e, if_pos rfl, if_pos q]
    exact AP.err h (by decide) rfl
  rw [e, if_neg (show ¬ (1 : Int32) = 0 by decide), if_neg q, eV]
  rcases a_idx wh 10 10 11 (by omega) rfl rfl with ⟨e, q⟩ | ⟨e, q, j, hj, rfl⟩
  · rw [e, if_pos rfl, if_pos q]
    exact AP.err h (by decide) rfl
  rw [e, if_neg (show ¬ (1 : Int32) = 0 by decide), if_neg q, nI_pred, if_pos (bn hi (by decide)), if_pos (bn hi (by decide)), if_pos (bn hc (by decide)), if_pos (bn hc (by decide)), nI_clamp (show i < 2 ^ 31 by omega), nI_clamp (show c < 2 ^ 31 by omega), show 3 * (4 * i + c) = 12 * i + 3 * c by omega, show 4 * (4 * i + c) = 16 * i + 4 * c by omega]
  rcases (by omega : j = 0 ∨ j = 1 ∨ j = 2 ∨ j = 3 ∨ j = 4 ∨ j = 5 ∨ j = 6 ∨ j = 7 ∨ j = 8 ∨ j = 9 ∨ j = 10) with z | z | z | z | z | z | z | z | z | z | z <;> subst z
  · exact bitc h
  · exact AP.ok h rfl
  · exact AP.ok h rfl
  · exact AP.ok h rfl
  · have i2 := ixw (x := 12 * i + 3 * c) (a := 0) (b := 4) (j := 4) (lim := 48) (by omega) (by omega) rfl 4 rfl
    rw [if_pos i2.1, i2.2]
    exact bitc h
  · have i2 := ixw (x := 12 * i + 3 * c) (a := 1) (b := 4) (j := 5) (lim := 48) (by omega) (by omega) rfl 4 rfl
    rw [if_pos i2.1, i2.2]
    exact bitc h
  · have i2 := ixw (x := 12 * i + 3 * c) (a := 2) (b := 4) (j := 6) (lim := 48) (by omega) (by omega) rfl 4 rfl
    rw [if_pos i2.1, i2.2]
    exact bitc h
  · have i2 := ixw (x := 16 * i + 4 * c) (a := 0) (b := 7) (j := 7) (lim := 64) (by omega) (by omega) rfl 7 rfl
    rw [if_pos i2.1, i2.2]
    exact AP.ok h rfl
  · have i2 := ixw (x := 16 * i + 4 * c) (a := 1) (b := 7) (j := 8) (lim := 64) (by omega) (by omega) rfl 7 rfl
    rw [if_pos i2.1, i2.2]
    exact AP.ok h rfl
  · have i2 := ixw (x := 16 * i + 4 * c) (a := 2) (b := 7) (j := 9) (lim := 64) (by omega) (by omega) rfl 7 rfl
    rw [if_pos i2.1, i2.2]
    exact AP.ok h rfl
  · have i2 := ixw (x := 16 * i + 4 * c) (a := 3) (b := 7) (j := 10) (lim := 64) (by omega) (by omega) rfl 7 rfl
    rw [if_pos i2.1, i2.2]
    exact AP.ok h rfl
