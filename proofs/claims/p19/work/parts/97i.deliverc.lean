def rg100 (m : Int32) : Int32 := if m < 1 then (0 : Int32) else (if 100 < m then (0 : Int32) else 1)
def f_deliver (S : xSt) (m : Int32) : Option ((Option Int32 ⊕ Nat) × xSt) := if rg100 m = 0 then some (.inr 1, S) else (f_run m.toNatClampNeg 0 S).bind fun r => some (.inl (some (nI r.1)), r.2)
set_option maxRecDepth 100000 in
theorem c_deliver (d : Nat) {w : xWd} {S : xSt} {μ : Nat → Nat → Int32} {ρ : Nat → Nat → Int64} {m : Int32} {o : Option Int32 ⊕ Nat} {T : xSt} (hE : f_deliver S m = some (o, T)) : xc (d + 7) 81 [.ref 0, .int m] (hz w S μ ρ) (rsl o, hz (wx o w) T μ ρ) := by
  unfold f_deliver at hE
  refine xe_sn pg_81 2 (fr' := (2, [(0, .ref 0), (1, .int m)], [.int 1, .int m])) rfl ?_
  refine xe_jn (fr' := (16, [(0, .ref 0), (1, .int m)], [.int (rg100 m)])) (fun J3 => ?_) ?_
  · by_cases h3 : m < 1
    · rw [show rg100 m = 0 from if_pos h3] at J3
      refine xe_c2t pg_81 15 rfl rfl h3 ?_
      refine xe_sn pg_81 1 (fr' := (16, [(0, .ref 0), (1, .int m)], [.int 0])) rfl ?_
      exact J3
    · refine xe_c2f pg_81 15 rfl rfl h3 ?_
      refine xe_sn pg_81 2 (fr' := (8, [(0, .ref 0), (1, .int m)], [.int 100, .int m])) rfl ?_
      by_cases h4 : 100 < m
      · rw [show rg100 m = 0 from (if_neg h3).trans (if_pos h4)] at J3
        refine xe_c2t pg_81 15 rfl rfl h4 ?_
        refine xe_sn pg_81 1 (fr' := (16, [(0, .ref 0), (1, .int m)], [.int 0])) rfl ?_
        exact J3
      · rw [show rg100 m = 1 from (if_neg h3).trans (if_neg h4)] at J3
        refine xe_c2f pg_81 15 rfl rfl h4 ?_
        refine xe_sn pg_81 2 (fr' := (16, [(0, .ref 0), (1, .int m)], [.int 1])) rfl ?_
        exact J3
  by_cases h5 : rg100 m = 0
  · rw [if_pos h5] at hE
    cases hE
    exact xe_callqx pg_81 97 [.int (rg100 m)] 1 rfl (fun _ => rfl) (c_checkArgument_bad _ (i := rg100 m) h5)
  rw [if_neg h5] at hE
  refine xe_callq pg_81 97 [.int (rg100 m)] (.inl none) (19, [(0, .ref 0), (1, .int m)], []) rfl (fun _ => rfl) (c_checkArgument_ok _ (i := rg100 m) h5) ?_
  obtain ⟨t, l1, l2, rfl⟩ : ∃ t : Nat, 1 ≤ t ∧ t ≤ 100 ∧ m = nI t := by
    rcases rng m 1 100 (by omega) (by omega) with ⟨e, -⟩ | ⟨-, -, -, t, l1, l2, l3⟩
    · exact absurd e h5
    · exact ⟨t, l1, l2, l3⟩
  rw [nI_clamp (show t < 2 ^ 31 by omega)] at hE
  obtain ⟨r, e1, e2⟩ := Option.bind_eq_some_iff.mp hE
  cases e2
  refine xe_sn pg_81 2 (fr' := (21, [(2, .int (nI 0)), (0, .ref 0), (1, .int (nI t))], [])) rfl ?_
  obtain ⟨t, rfl⟩ : ∃ y, t = y + 1 := ⟨t - 1, by omega⟩
  unfold f_run at e1
  refine xe_sn pg_81 2 (fr' := (23, [(2, .int (nI 0)), (0, .ref 0), (1, .int (nI (t + 1)))], [.int (nI (t + 1)), .int (nI 0)])) rfl ?_
  refine xe_c2f pg_81 116 rfl rfl (fun q => absurd ((nI_leI (show t + 1 < 2 ^ 31 by omega) (show 0 < 2 ^ 31 by omega)).mp q) (by omega)) ?_
  refine xe_sn pg_81 1 (fr' := (27, [(2, .int (nI 0)), (0, .ref 0), (1, .int (nI (t + 1)))], [.ref 0])) rfl ?_
  refine xe_gr pg_81 1 rfl rfl rfl (kk1 k_O) rfl ?_
  refine ye_gi pg_81 (S.1 165 1) rfl rfl rfl (kk1 k_W) (l_size.rd _) ?_
  by_cases q : S.1 165 1 ≤ 0
  · rw [if_pos q] at e1
    cases e1
    refine xe_c1t pg_81 116 rfl rfl q ?_
    refine xe_sn pg_81 1 (fr' := (117, [(2, .int (nI 0)), (0, .ref 0), (1, .int (nI (t + 1)))], [.int (nI 0)])) rfl ?_
    exact xe_end pg_81 rfl
  · rw [if_neg q] at e1
    obtain ⟨T1, e3, e4⟩ := Option.bind_eq_some_iff.mp e1
    refine xe_c1f pg_81 116 rfl rfl q ?_
    exact c_step0 d e3 (fun v κ hκ => lp_deliver d (by omega) t 1 hκ (by omega) e4)
