/-! deliver, class -/
theorem lp_deliver (d : Nat) {w : xWd} {μ : Nat → Nat → Int32} {ρ : Nat → Nat → Int64} {m : Nat} (hm : m ≤ 100) : ∀ (t k : Nat) {S T : xSt} {j : Nat} {v : Int32} {κ : Nat}, κ < 22 → k + t = m → f_run t k S = some (j, T) → xe (d + 7) 81 (21, [(4, .int v), (2, .int (nI k)), (3, .ref (ja_L κ)), (0, .ref 0), (1, .int (nI m))], []) (hz w S μ ρ) (.inl (some (.int (nI j))), hz w T μ ρ) := by
  intro t
  induction t with
  | zero =>
    intro k S T j v κ hκ hk hE
    unfold f_run at hE
    cases hE
    refine xe_sn pg_81 2 (fr' := (23, [(4, .int v), (2, .int (nI k)), (3, .ref (ja_L κ)), (0, .ref 0), (1, .int (nI m))], [.int (nI m), .int (nI k)])) rfl ?_
    refine xe_c2t pg_81 116 rfl rfl ((nI_leI (show m < 2 ^ 31 by omega) (show k < 2 ^ 31 by omega)).mpr (by omega)) ?_
    refine xe_sn pg_81 1 (fr' := (117, [(4, .int v), (2, .int (nI k)), (3, .ref (ja_L κ)), (0, .ref 0), (1, .int (nI m))], [.int (nI k)])) rfl ?_
    exact xe_end pg_81 rfl
  | succ t ih =>
    intro k S T j v κ hκ hk hE
    unfold f_run at hE
    refine xe_sn pg_81 2 (fr' := (23, [(4, .int v), (2, .int (nI k)), (3, .ref (ja_L κ)), (0, .ref 0), (1, .int (nI m))], [.int (nI m), .int (nI k)])) rfl ?_
    refine xe_c2f pg_81 116 rfl rfl (fun q => absurd ((nI_leI (show m < 2 ^ 31 by omega) (show k < 2 ^ 31 by omega)).mp q) (by omega)) ?_
    refine xe_sn pg_81 1 (fr' := (27, [(4, .int v), (2, .int (nI k)), (3, .ref (ja_L κ)), (0, .ref 0), (1, .int (nI m))], [.ref 0])) rfl ?_
    refine xe_gr pg_81 1 rfl rfl rfl (kk1 k_O) rfl ?_
    refine ye_gi pg_81 (S.1 165 1) rfl rfl rfl (kk1 k_W) (l_size.rd _) ?_
    by_cases q : S.1 165 1 ≤ 0
    · rw [if_pos q] at hE
      cases hE
      refine xe_c1t pg_81 116 rfl rfl q ?_
      refine xe_sn pg_81 1 (fr' := (117, [(4, .int v), (2, .int (nI k)), (3, .ref (ja_L κ)), (0, .ref 0), (1, .int (nI m))], [.int (nI k)])) rfl ?_
      exact xe_end pg_81 rfl
    · rw [if_neg q] at hE
      obtain ⟨T1, e1, e2⟩ := Option.bind_eq_some_iff.mp hE
      refine xe_c1f pg_81 116 rfl rfl q ?_
      exact c_step1 d hκ e1 (fun v κ hκ => ih (k + 1) hκ (by omega) e2)
