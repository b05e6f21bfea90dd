def g_deliver (V : xVt) (m : Int32) : Option (Int32 × xVt) := if g_in m 1 100 = 0 then some (0, vn V 165 0 1) else (g_run m.toNatClampNeg 0 (vn V 165 0 0)).bind fun r => some (nI r.1, r.2)
set_option maxRecDepth 100000 in
theorem cg_deliver (d : Nat) {w : xWd} {S : xSt} {V : xVt} {ρ : Nat → Nat → Int64} {m : Int32} {r : Int32 × xVt} (hE : g_deliver V m = some r) : xc (d + 8) 148 [.ref 165, .int m] (hv w S V ρ) (.inl (some (.int r.1)), hv w S r.2 ρ) := by
  unfold g_deliver at hE
  refine xe_sn pg_148 4 (fr' := (5, [(0, .ref 165), (1, .int m)], [.int 100, .int 1, .int m, .ref 165])) rfl ?_
  refine xe_callq pg_148 103 [.int m, .int 1, .int 100] (.inl (some (.int (g_in m 1 100)))) (8, [(0, .ref 165), (1, .int m)], [.int (g_in m 1 100), .ref 165]) rfl (fun _ => rfl) (cg_in _ (v := m) (l := 1) (h := 100) rfl) ?_
  by_cases h5 : g_in m 1 100 = 0
  · rw [if_pos h5] at hE
    cases hE
    refine xe_c1t pg_148 15 rfl rfl h5 ?_
    refine xe_sn pg_148 1 (fr' := (16, [(0, .ref 165), (1, .int m)], [.int 1, .ref 165])) rfl ?_
    refine ze_pn pg_148 rfl rfl ⟨rfl, rfl⟩ (Or.inl rfl) (by decide) ?_
    refine xe_sn pg_148 3 (fr' := (22, [(2, .int (nI 0)), (0, .ref 165), (1, .int m)], [.ref 165])) rfl ?_
    refine ze_gi pg_148 ((vn V 165 0 1).2.1 165 0) rfl rfl rfl rfl ?_
    refine xe_c1t pg_148 163 rfl rfl (fun z => absurd ((n0_rd V 1).symm.trans z) (by decide)) ?_
    refine xe_sn pg_148 1 (fr' := (164, [(2, .int (nI 0)), (0, .ref 165), (1, .int m)], [.int (nI 0)])) rfl ?_
    exact xe_end pg_148 rfl
  rw [if_neg h5] at hE
  obtain ⟨t, l1, l2, rfl⟩ : ∃ t : Nat, 1 ≤ t ∧ t ≤ 100 ∧ m = nI t := by
    rcases rng m 1 100 (by omega) (by omega) with ⟨e, -⟩ | ⟨-, -, -, t, l1, l2, l3⟩
    · exact absurd e h5
    · exact ⟨t, l1, l2, l3⟩
  rw [nI_clamp (show t < 2 ^ 31 by omega)] at hE
  obtain ⟨r', e1, e2⟩ := Option.bind_eq_some_iff.mp hE
  cases e2
  refine xe_c1f pg_148 15 rfl rfl h5 ?_
  refine xe_sn pg_148 2 (fr' := (16, [(0, .ref 165), (1, .int (nI t))], [.int 0, .ref 165])) rfl ?_
  refine ze_pn pg_148 rfl rfl ⟨rfl, rfl⟩ (Or.inl rfl) (by decide) ?_
  refine xe_sn pg_148 3 (fr' := (22, [(2, .int (nI 0)), (0, .ref 165), (1, .int (nI t))], [.ref 165])) rfl ?_
  obtain ⟨W, hW⟩ := gen (vn V 165 0 0)
  have hx : W.2.1 165 0 = 0 := by rw [← hW]; exact n0_rd V 0
  rw [hW] at e1 ⊢
  refine ze_gi pg_148 (W.2.1 165 0) rfl rfl rfl rfl ?_
  refine xe_c1f pg_148 163 rfl rfl (fun z => z hx) ?_
  obtain ⟨t, rfl⟩ : ∃ y, t = y + 1 := ⟨t - 1, by omega⟩
  unfold g_run at e1
  refine xe_sn pg_148 2 (fr' := (30, [(2, .int (nI 0)), (0, .ref 165), (1, .int (nI (t + 1)))], [.int (nI (t + 1)), .int (nI 0)])) rfl ?_
  refine xe_c2f pg_148 163 rfl rfl (fun q => absurd ((nI_leI (show t + 1 < 2 ^ 31 by omega) (show 0 < 2 ^ 31 by omega)).mp q) (by omega)) ?_
  refine xe_sn pg_148 1 (fr' := (34, [(2, .int (nI 0)), (0, .ref 165), (1, .int (nI (t + 1)))], [.ref 165])) rfl ?_
  refine ze_gi pg_148 (W.1 165 1) rfl rfl rfl rfl ?_
  by_cases q : W.1 165 1 ≤ 0
  · rw [if_pos q] at e1
    cases e1
    refine xe_c1t pg_148 163 rfl rfl q ?_
    refine xe_sn pg_148 1 (fr' := (164, [(2, .int (nI 0)), (0, .ref 165), (1, .int (nI (t + 1)))], [.int (nI 0)])) rfl ?_
    exact xe_end pg_148 rfl
  · rw [if_neg q] at e1
    obtain ⟨T1, e3, e4⟩ := Option.bind_eq_some_iff.mp e1
    refine xe_c1f pg_148 163 rfl rfl q ?_
    exact cg_step0 d e3 (fun v3 v4 v5 v6 v7 => lp_gdeliver d (by omega) t 1 (n_step hx T1 e3) (by omega) e4)
theorem api_deliver {D : Nat} (hD : D + 100 ≤ 90000) {S : xSt} {V : xVt} (h : Rel D S V) (m : Int32) : AP (D + 100) (fun _ => 1) (f_deliver S m) (g_deliver V m) := by
  unfold f_deliver g_deliver
  rw [show rg100 m = g_in m 1 100 from rfl]
  have hm := h.mono (show D ≤ D + 100 by omega)
  rcases rng m 1 100 (by omega) (by omega) with ⟨e, -⟩ | ⟨e, -, -, t, l1, l2, rfl⟩
  · rw [show g_in m 1 100 = 0 from e, if_pos rfl, if_pos rfl]
    exact AP.err hm (by decide) rfl
  · rw [show g_in (nI t) 1 100 = 1 from e, if_neg (show ¬ (1 : Int32) = 0 by decide), if_neg (show ¬ (1 : Int32) = 0 by decide), nI_clamp (show t < 2 ^ 31 by omega)]
    obtain ⟨j, S', V', b0, b1, b2, b3, b4⟩ := sim_run t (k := 0) (h.n0 0) (by omega) (n0_rd V 0)
    rw [b1, b2, bsm, bsm]
    exact ⟨_, _, _, _, rfl, rfl, b3.mono (by omega), Or.inl ⟨rfl, b4⟩⟩
