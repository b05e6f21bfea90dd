/-! every script of at most 2560 ints -/
theorem law_runs (L : Nat) (hL : L ≤ 2560) (xs : Nat → Int32) : ∃ (n : Nat) (h' : xHp), xi_run n 12 177 (23, [(4, .int 0), (3, .ref 189), (2, .ref 165), (1, .ref 0), (0, .ref xi_scr)], []) (xi_hn 190 190 1841 (L + 1) xs) = some (.inl (some (.int 1)), h') ∧ hC h' ≤ 632981 ∧ hW h' ≤ 7197160 := by
  obtain ⟨n, h', e, c1, c2⟩ := law_run0 L hL xs
  exact ⟨n, h', e, by omega, by omega⟩
