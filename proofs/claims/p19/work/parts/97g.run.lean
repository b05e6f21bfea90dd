/-! deliver: up to t cells, k gone before -/
def f_run : Nat → Nat → xSt → Option (Nat × xSt)
  | 0, k, S => some (k, S)
  | t + 1, k, S => if S.1 165 1 ≤ 0 then some (k, S) else (f_step S).bind fun T => f_run t (k + 1) T
def g_run : Nat → Nat → xVt → Option (Nat × xVt)
  | 0, k, V => some (k, V)
  | t + 1, k, V => if V.1 165 1 ≤ 0 then some (k, V) else (g_step V).bind fun T => g_run t (k + 1) T
theorem sim_run {x : Int32} : ∀ (t : Nat) {D k : Nat} {S : xSt} {V : xVt}, Rel D S V → D + t ≤ 90000 → V.2.1 165 0 = x → ∃ j S' V', j ≤ k + t ∧ f_run t k S = some (j, S') ∧ g_run t k V = some (j, V') ∧ Rel (D + t) S' V' ∧ V'.2.1 165 0 = x := by
  intro t
  induction t with
  | zero => exact fun {D k S V} h _ hx => ⟨k, S, V, by omega, rfl, rfl, h, hx⟩
  | succ t ih =>
    intro D k S V h hD hx
    have eV : V.1 = S.1 := h.1
    unfold f_run g_run
    rw [eV]
    by_cases q : S.1 165 1 ≤ 0
    · rw [if_pos q, if_pos q]
      exact ⟨k, S, V, by omega, rfl, rfl, h.mono (by omega), hx⟩
    · rw [if_neg q, if_neg q]
      obtain ⟨n, hn, e, -⟩ := h.2.2.2.2.2.1
      have hn0 : n ≠ 0 := by
        rintro rfl
        exact q (by rw [e]; decide)
      obtain ⟨y, rfl⟩ : ∃ y, n = y + 1 := ⟨n - 1, by omega⟩
      obtain ⟨S1, V1, e1, e2, R⟩ := sim_step h (by omega) (show y < 20 by omega) e
      rw [e1, e2, bsm, bsm]
      obtain ⟨j, S', V', b0, b1, b2, b3, b4⟩ := ih (k := k + 1) R (by omega) (n_step hx V1 e2)
      exact ⟨j, S', V', by omega, b1, b2, by rw [show D + (t + 1) = D + 1 + t by omega]; exact b3, b4⟩
