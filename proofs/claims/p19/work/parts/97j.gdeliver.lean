/-! deliver, reference: the loop -/
theorem lp_gdeliver (d : Nat) {w : xWd} {S : xSt} {ρ : Nat → Nat → Int64} {m : Nat} (hm : m ≤ 100) : ∀ (t k : Nat) {V T : xVt} {j : Nat} {v3 v4 v5 v6 v7 : Int32}, V.2.1 165 0 = 0 → k + t = m → g_run t k V = some (j, T) → xe (d + 8) 148 (21, [(2, .int (nI k)), (7, .int v7), (6, .int v6), (5, .int v5), (4, .int v4), (3, .int v3), (0, .ref 165), (1, .int (nI m))], []) (hv w S V ρ) (.inl (some (.int (nI j))), hv w S T ρ) := by
  intro t
  induction t with
  | zero =>
    intro k V T j v3 v4 v5 v6 v7 hx hk hE
    unfold g_run at hE
    cases hE
    refine xe_sn pg_148 1 (fr' := (22, [(2, .int (nI k)), (7, .int v7), (6, .int v6), (5, .int v5), (4, .int v4), (3, .int v3), (0, .ref 165), (1, .int (nI m))], [.ref 165])) rfl ?_
    refine ze_gi pg_148 (V.2.1 165 0) rfl rfl rfl rfl ?_
    refine xe_c1f pg_148 163 rfl rfl (fun z => z hx) ?_
    refine xe_sn pg_148 2 (fr' := (30, [(2, .int (nI k)), (7, .int v7), (6, .int v6), (5, .int v5), (4, .int v4), (3, .int v3), (0, .ref 165), (1, .int (nI m))], [.int (nI m), .int (nI k)])) rfl ?_
    refine xe_c2t pg_148 163 rfl rfl ((nI_leI (show m < 2 ^ 31 by omega) (show k < 2 ^ 31 by omega)).mpr (by omega)) ?_
    refine xe_sn pg_148 1 (fr' := (164, [(2, .int (nI k)), (7, .int v7), (6, .int v6), (5, .int v5), (4, .int v4), (3, .int v3), (0, .ref 165), (1, .int (nI m))], [.int (nI k)])) rfl ?_
    exact xe_end pg_148 rfl
  | succ t ih =>
    intro k V T j v3 v4 v5 v6 v7 hx hk hE
    unfold g_run at hE
    refine xe_sn pg_148 1 (fr' := (22, [(2, .int (nI k)), (7, .int v7), (6, .int v6), (5, .int v5), (4, .int v4), (3, .int v3), (0, .ref 165), (1, .int (nI m))], [.ref 165])) rfl ?_
    refine ze_gi pg_148 (V.2.1 165 0) rfl rfl rfl rfl ?_
    refine xe_c1f pg_148 163 rfl rfl (fun z => z hx) ?_
    refine xe_sn pg_148 2 (fr' := (30, [(2, .int (nI k)), (7, .int v7), (6, .int v6), (5, .int v5), (4, .int v4), (3, .int v3), (0, .ref 165), (1, .int (nI m))], [.int (nI m), .int (nI k)])) rfl ?_
    refine xe_c2f pg_148 163 rfl rfl (fun q => absurd ((nI_leI (show m < 2 ^ 31 by omega) (show k < 2 ^ 31 by omega)).mp q) (by omega)) ?_
    refine xe_sn pg_148 1 (fr' := (34, [(2, .int (nI k)), (7, .int v7), (6, .int v6), (5, .int v5), (4, .int v4), (3, .int v3), (0, .ref 165), (1, .int (nI m))], [.ref 165])) rfl ?_
    refine ze_gi pg_148 (V.1 165 1) rfl rfl rfl rfl ?_
    by_cases q : V.1 165 1 ≤ 0
    · rw [if_pos q] at hE
      cases hE
      refine xe_c1t pg_148 163 rfl rfl q ?_
      refine xe_sn pg_148 1 (fr' := (164, [(2, .int (nI k)), (7, .int v7), (6, .int v6), (5, .int v5), (4, .int v4), (3, .int v3), (0, .ref 165), (1, .int (nI m))], [.int (nI k)])) rfl ?_
      exact xe_end pg_148 rfl
    · rw [if_neg q] at hE
      obtain ⟨T1, e1, e2⟩ := Option.bind_eq_some_iff.mp hE
      refine xe_c1f pg_148 163 rfl rfl q ?_
      exact cg_step1 d e1 (fun v3 v4 v5 v6 v7 => ih (k + 1) (n_step hx T1 e1) (by omega) e2)
