def f_step (S : xSt) : Option xSt := (f_takeOut S 0).bind fun r1 => if (r1.2.2.1 r1.1 15) = 0 then (if bnd (r1.2.2.1 r1.1 16) 4 then ((f_takes (sx r1.2 165 3 ((r1.2.1 165 3) + 1)) (r1.2.2.1 r1.1 16).toNatClampNeg r1.1).bind fun r2 => if r2.1 = 0 then (some (sx r2.2 165 5 ((r2.2.1 165 5) + 1))) else (some r2.2)) else none) else (if bnd ((r1.2.2.1 r1.1 15) - 1) 4 then ((f_rtakes (sx r1.2 165 3 ((r1.2.1 165 3) + 1)) ((r1.2.2.1 r1.1 15) - 1).toNatClampNeg r1.1).bind fun r3 => if r3.1 = 0 then (some (sx r3.2 165 5 ((r3.2.1 165 5) + 1))) else (some r3.2)) else none)

set_option maxRecDepth 100000 in
theorem c_step0 (d : Nat) {w : xWd} {S : xSt} {μ : Nat → Nat → Int32} {ρ : Nat → Nat → Int64} {k : Nat} {m : Int32} {T : xSt} {r : xRs} (hE : f_step S = some T) (hr : ∀ v κ, κ < 22 → xe (d + 7) 81 (21, [(4, .int v), (2, .int (nI (k + 1))), (3, .ref (ja_L κ)), (0, .ref 0), (1, .int m)], []) (hz w T μ ρ) r) : xe (d + 7) 81 (36, [(2, .int (nI k)), (0, .ref 0), (1, .int m)], []) (hz w S μ ρ) r := by
  unfold f_step at hE
  refine xe_sn pg_81 1 (fr' := (37, [(2, .int (nI k)), (0, .ref 0), (1, .int m)], [.ref 0])) rfl ?_
  refine xe_gr pg_81 1 rfl rfl rfl (kk1 k_O) rfl ?_
  refine xe_sn pg_81 1 (fr' := (41, [(2, .int (nI k)), (0, .ref 0), (1, .int m)], [.int 0, .ref 1])) rfl ?_
  obtain ⟨r1, e1, hE⟩ := Option.bind_eq_some_iff.mp hE
  refine xe_cv pg_81 69 pg_69 [.int 0] [] (some (.ref (ja_L r1.1))) rfl rfl rfl rfl ⟨Nat.le_of_ble_eq_true rfl, Nat.le_of_ble_eq_true rfl, Nat.le_of_ble_eq_true rfl⟩ ⟨rfl, rfl⟩ (kk2 k_W (by decide)) (c_takeOutO _ (i := 0)  e1) ?_
  refine xe_sn pg_81 3 (fr' := (47, [(3, .ref (ja_L r1.1)), (2, .int (nI k)), (0, .ref 0), (1, .int m)], [.ref 0, .ref 0])) rfl ?_
  refine ye_gi pg_81 (r1.2.1 165 3) rfl rfl rfl (kk1 k_O) (l_came.rd _) ?_
  refine xe_sn pg_81 2 (fr' := (52, [(3, .ref (ja_L r1.1)), (2, .int (nI k)), (0, .ref 0), (1, .int m)], [.int ((r1.2.1 165 3) + 1), .ref 0])) rfl ?_
  refine ye_px pg_81 rfl rfl ⟨rfl, rfl⟩ (Or.inl rfl) (kk1 k_O) l_came ?_
  refine xe_ni pg_81 k (k + 1) [(2, .int (nI (k + 1))), (3, .ref (ja_L r1.1)), (0, .ref 0), (1, .int m)] rfl rfl rfl rfl (nI_add _ 1) ?_
  refine xe_sn pg_81 1 (fr' := (59, [(2, .int (nI (k + 1))), (3, .ref (ja_L r1.1)), (0, .ref 0), (1, .int m)], [.ref (ja_L r1.1)])) rfl ?_
  refine ye_gi pg_81 (r1.2.2.1 r1.1 15) rfl rfl rfl (kk1 (k_L (t_takeOut e1))) ((show ly _ 2 r1.1 15 from l_L (t_takeOut e1) (by decide) (by decide)).rd _) ?_
  by_cases h1 : (r1.2.2.1 r1.1 15) = 0
  · rw [if_pos h1] at hE
    refine xe_c1f pg_81 81 rfl rfl (fun z => z h1) ?_
    refine xe_sn pg_81 1 (fr' := (66, [(2, .int (nI (k + 1))), (3, .ref (ja_L r1.1)), (0, .ref 0), (1, .int m)], [.ref 0])) rfl ?_
    refine xe_gr pg_81 120 rfl rfl rfl (kk1 k_O) rfl ?_
    refine xe_sn pg_81 1 (fr' := (70, [(2, .int (nI (k + 1))), (3, .ref (ja_L r1.1)), (0, .ref 0), (1, .int m)], [.ref (ja_L r1.1), .ref 120])) rfl ?_
    refine ye_gi pg_81 (r1.2.2.1 r1.1 16) rfl rfl rfl (kk1 (k_L (t_takeOut e1))) ((show ly _ 3 r1.1 16 from l_L (t_takeOut e1) (by decide) (by decide)).rd _) ?_
    by_cases g2 : bnd (r1.2.2.1 r1.1 16) 4
    case neg => rw [if_neg g2] at hE; cases hE
    rw [if_pos g2] at hE
    refine xe_al pg_81 (r1.2.2.1 r1.1 16).toNatClampNeg (ja_C (r1.2.2.1 r1.1 16).toNatClampNeg) rfl k_Cs ⟨by decide, by decide⟩ g2 rfl (r_Cs (bnd_lt g2) _) ?_
    refine xe_sn pg_81 1 (fr' := (75, [(2, .int (nI (k + 1))), (3, .ref (ja_L r1.1)), (0, .ref 0), (1, .int m)], [.ref (ja_L r1.1), .ref (ja_C (r1.2.2.1 r1.1 16).toNatClampNeg)])) rfl ?_
    obtain ⟨r2, e2, hE⟩ := Option.bind_eq_some_iff.mp hE
    refine xe_cv pg_81 32 pg_32 [.ref (ja_L r1.1)] [] (some (.int r2.1)) rfl rfl rfl rfl ⟨Nat.le_of_ble_eq_true rfl, Nat.le_of_ble_eq_true rfl, Nat.le_of_ble_eq_true rfl⟩ ⟨rfl, rfl⟩ (kk2 (k_C (bnd_lt g2)) (by decide)) (c_takes _ (c := (r1.2.2.1 r1.1 16).toNatClampNeg) (κ := r1.1) (bnd_lt g2) (t_takeOut e1) e2) ?_
    refine xe_sn pg_81 1 (fr' := (96, [(2, .int (nI (k + 1))), (3, .ref (ja_L r1.1)), (0, .ref 0), (1, .int m)], [.int r2.1])) rfl ?_
    refine xe_sn pg_81 2 (fr' := (100, [(4, .int r2.1), (2, .int (nI (k + 1))), (3, .ref (ja_L r1.1)), (0, .ref 0), (1, .int m)], [.int r2.1])) rfl ?_
    by_cases h3 : r2.1 = 0
    · rw [if_pos h3] at hE
      refine xe_c1f pg_81 113 rfl rfl (fun z => z h3) ?_
      refine xe_sn pg_81 2 (fr' := (105, [(4, .int r2.1), (2, .int (nI (k + 1))), (3, .ref (ja_L r1.1)), (0, .ref 0), (1, .int m)], [.ref 0, .ref 0])) rfl ?_
      refine ye_gi pg_81 (r2.2.1 165 5) rfl rfl rfl (kk1 k_O) (l_strays.rd _) ?_
      refine xe_sn pg_81 2 (fr' := (110, [(4, .int r2.1), (2, .int (nI (k + 1))), (3, .ref (ja_L r1.1)), (0, .ref 0), (1, .int m)], [.int ((r2.2.1 165 5) + 1), .ref 0])) rfl ?_
      refine ye_px pg_81 rfl rfl ⟨rfl, rfl⟩ (Or.inl rfl) (kk1 k_O) l_strays ?_
      refine xe_sn pg_81 1 (fr' := (21, [(4, .int r2.1), (2, .int (nI (k + 1))), (3, .ref (ja_L r1.1)), (0, .ref 0), (1, .int m)], [])) rfl ?_
      cases hE
      exact hr _ _ (t_takeOut e1)
    · rw [if_neg h3] at hE
      refine xe_c1t pg_81 113 rfl rfl h3 ?_
      refine xe_sn pg_81 1 (fr' := (21, [(4, .int r2.1), (2, .int (nI (k + 1))), (3, .ref (ja_L r1.1)), (0, .ref 0), (1, .int m)], [])) rfl ?_
      cases hE
      exact hr _ _ (t_takeOut e1)
  · rw [if_neg h1] at hE
    refine xe_c1t pg_81 81 rfl rfl h1 ?_
    refine xe_sn pg_81 1 (fr' := (82, [(2, .int (nI (k + 1))), (3, .ref (ja_L r1.1)), (0, .ref 0), (1, .int m)], [.ref 0])) rfl ?_
    refine xe_gr pg_81 47 rfl rfl rfl (kk1 k_O) rfl ?_
    refine xe_sn pg_81 1 (fr' := (86, [(2, .int (nI (k + 1))), (3, .ref (ja_L r1.1)), (0, .ref 0), (1, .int m)], [.ref (ja_L r1.1), .ref 47])) rfl ?_
    refine ye_gi pg_81 (r1.2.2.1 r1.1 15) rfl rfl rfl (kk1 (k_L (t_takeOut e1))) ((show ly _ 2 r1.1 15 from l_L (t_takeOut e1) (by decide) (by decide)).rd _) ?_
    refine xe_sn pg_81 2 (fr' := (91, [(2, .int (nI (k + 1))), (3, .ref (ja_L r1.1)), (0, .ref 0), (1, .int m)], [.int ((r1.2.2.1 r1.1 15) - 1), .ref 47])) rfl ?_
    by_cases g4 : bnd ((r1.2.2.1 r1.1 15) - 1) 4
    case neg => rw [if_neg g4] at hE; cases hE
    rw [if_pos g4] at hE
    refine xe_al pg_81 ((r1.2.2.1 r1.1 15) - 1).toNatClampNeg (ja_R ((r1.2.2.1 r1.1 15) - 1).toNatClampNeg) rfl k_Rs ⟨by decide, by decide⟩ g4 rfl (r_Rs (bnd_lt g4) _) ?_
    refine xe_sn pg_81 1 (fr' := (93, [(2, .int (nI (k + 1))), (3, .ref (ja_L r1.1)), (0, .ref 0), (1, .int m)], [.ref (ja_L r1.1), .ref (ja_R ((r1.2.2.1 r1.1 15) - 1).toNatClampNeg)])) rfl ?_
    obtain ⟨r3, e3, hE⟩ := Option.bind_eq_some_iff.mp hE
    refine xe_cv pg_81 65 pg_65 [.ref (ja_L r1.1)] [] (some (.int r3.1)) rfl rfl rfl rfl ⟨Nat.le_of_ble_eq_true rfl, Nat.le_of_ble_eq_true rfl, Nat.le_of_ble_eq_true rfl⟩ ⟨rfl, rfl⟩ (kk2 (k_R (bnd_lt g4)) (by decide)) (c_rtakes _ (i := ((r1.2.2.1 r1.1 15) - 1).toNatClampNeg) (κ := r1.1) (bnd_lt g4) (t_takeOut e1) e3) ?_
    refine xe_sn pg_81 2 (fr' := (100, [(4, .int r3.1), (2, .int (nI (k + 1))), (3, .ref (ja_L r1.1)), (0, .ref 0), (1, .int m)], [.int r3.1])) rfl ?_
    by_cases h5 : r3.1 = 0
    · rw [if_pos h5] at hE
      refine xe_c1f pg_81 113 rfl rfl (fun z => z h5) ?_
      refine xe_sn pg_81 2 (fr' := (105, [(4, .int r3.1), (2, .int (nI (k + 1))), (3, .ref (ja_L r1.1)), (0, .ref 0), (1, .int m)], [.ref 0, .ref 0])) rfl ?_
      refine ye_gi pg_81 (r3.2.1 165 5) rfl rfl rfl (kk1 k_O) (l_strays.rd _) ?_
      refine xe_sn pg_81 2 (fr' := (110, [(4, .int r3.1), (2, .int (nI (k + 1))), (3, .ref (ja_L r1.1)), (0, .ref 0), (1, .int m)], [.int ((r3.2.1 165 5) + 1), .ref 0])) rfl ?_
      refine ye_px pg_81 rfl rfl ⟨rfl, rfl⟩ (Or.inl rfl) (kk1 k_O) l_strays ?_
      refine xe_sn pg_81 1 (fr' := (21, [(4, .int r3.1), (2, .int (nI (k + 1))), (3, .ref (ja_L r1.1)), (0, .ref 0), (1, .int m)], [])) rfl ?_
      cases hE
      exact hr _ _ (t_takeOut e1)
    · rw [if_neg h5] at hE
      refine xe_c1t pg_81 113 rfl rfl h5 ?_
      refine xe_sn pg_81 1 (fr' := (21, [(4, .int r3.1), (2, .int (nI (k + 1))), (3, .ref (ja_L r1.1)), (0, .ref 0), (1, .int m)], [])) rfl ?_
      cases hE
      exact hr _ _ (t_takeOut e1)

set_option maxRecDepth 100000 in
theorem c_step1 (d : Nat) {w : xWd} {S : xSt} {μ : Nat → Nat → Int32} {ρ : Nat → Nat → Int64} {k : Nat} {m : Int32} {v : Int32} {κ : Nat} (hκ : κ < 22) {T : xSt} {r : xRs} (hE : f_step S = some T) (hr : ∀ v κ, κ < 22 → xe (d + 7) 81 (21, [(4, .int v), (2, .int (nI (k + 1))), (3, .ref (ja_L κ)), (0, .ref 0), (1, .int m)], []) (hz w T μ ρ) r) : xe (d + 7) 81 (36, [(4, .int v), (2, .int (nI k)), (3, .ref (ja_L κ)), (0, .ref 0), (1, .int m)], []) (hz w S μ ρ) r := by
  unfold f_step at hE
  refine xe_sn pg_81 1 (fr' := (37, [(4, .int v), (2, .int (nI k)), (3, .ref (ja_L κ)), (0, .ref 0), (1, .int m)], [.ref 0])) rfl ?_
  refine xe_gr pg_81 1 rfl rfl rfl (kk1 k_O) rfl ?_
  refine xe_sn pg_81 1 (fr' := (41, [(4, .int v), (2, .int (nI k)), (3, .ref (ja_L κ)), (0, .ref 0), (1, .int m)], [.int 0, .ref 1])) rfl ?_
  obtain ⟨r1, e1, hE⟩ := Option.bind_eq_some_iff.mp hE
  refine xe_cv pg_81 69 pg_69 [.int 0] [] (some (.ref (ja_L r1.1))) rfl rfl rfl rfl ⟨Nat.le_of_ble_eq_true rfl, Nat.le_of_ble_eq_true rfl, Nat.le_of_ble_eq_true rfl⟩ ⟨rfl, rfl⟩ (kk2 k_W (by decide)) (c_takeOutO _ (i := 0)  e1) ?_
  refine xe_sn pg_81 3 (fr' := (47, [(3, .ref (ja_L r1.1)), (4, .int v), (2, .int (nI k)), (0, .ref 0), (1, .int m)], [.ref 0, .ref 0])) rfl ?_
  refine ye_gi pg_81 (r1.2.1 165 3) rfl rfl rfl (kk1 k_O) (l_came.rd _) ?_
  refine xe_sn pg_81 2 (fr' := (52, [(3, .ref (ja_L r1.1)), (4, .int v), (2, .int (nI k)), (0, .ref 0), (1, .int m)], [.int ((r1.2.1 165 3) + 1), .ref 0])) rfl ?_
  refine ye_px pg_81 rfl rfl ⟨rfl, rfl⟩ (Or.inl rfl) (kk1 k_O) l_came ?_
  refine xe_ni pg_81 k (k + 1) [(2, .int (nI (k + 1))), (3, .ref (ja_L r1.1)), (4, .int v), (0, .ref 0), (1, .int m)] rfl rfl rfl rfl (nI_add _ 1) ?_
  refine xe_sn pg_81 1 (fr' := (59, [(2, .int (nI (k + 1))), (3, .ref (ja_L r1.1)), (4, .int v), (0, .ref 0), (1, .int m)], [.ref (ja_L r1.1)])) rfl ?_
  refine ye_gi pg_81 (r1.2.2.1 r1.1 15) rfl rfl rfl (kk1 (k_L (t_takeOut e1))) ((show ly _ 2 r1.1 15 from l_L (t_takeOut e1) (by decide) (by decide)).rd _) ?_
  by_cases h1 : (r1.2.2.1 r1.1 15) = 0
  · rw [if_pos h1] at hE
    refine xe_c1f pg_81 81 rfl rfl (fun z => z h1) ?_
    refine xe_sn pg_81 1 (fr' := (66, [(2, .int (nI (k + 1))), (3, .ref (ja_L r1.1)), (4, .int v), (0, .ref 0), (1, .int m)], [.ref 0])) rfl ?_
    refine xe_gr pg_81 120 rfl rfl rfl (kk1 k_O) rfl ?_
    refine xe_sn pg_81 1 (fr' := (70, [(2, .int (nI (k + 1))), (3, .ref (ja_L r1.1)), (4, .int v), (0, .ref 0), (1, .int m)], [.ref (ja_L r1.1), .ref 120])) rfl ?_
    refine ye_gi pg_81 (r1.2.2.1 r1.1 16) rfl rfl rfl (kk1 (k_L (t_takeOut e1))) ((show ly _ 3 r1.1 16 from l_L (t_takeOut e1) (by decide) (by decide)).rd _) ?_
    by_cases g2 : bnd (r1.2.2.1 r1.1 16) 4
    case neg => rw [if_neg g2] at hE; cases hE
    rw [if_pos g2] at hE
    refine xe_al pg_81 (r1.2.2.1 r1.1 16).toNatClampNeg (ja_C (r1.2.2.1 r1.1 16).toNatClampNeg) rfl k_Cs ⟨by decide, by decide⟩ g2 rfl (r_Cs (bnd_lt g2) _) ?_
    refine xe_sn pg_81 1 (fr' := (75, [(2, .int (nI (k + 1))), (3, .ref (ja_L r1.1)), (4, .int v), (0, .ref 0), (1, .int m)], [.ref (ja_L r1.1), .ref (ja_C (r1.2.2.1 r1.1 16).toNatClampNeg)])) rfl ?_
    obtain ⟨r2, e2, hE⟩ := Option.bind_eq_some_iff.mp hE
    refine xe_cv pg_81 32 pg_32 [.ref (ja_L r1.1)] [] (some (.int r2.1)) rfl rfl rfl rfl ⟨Nat.le_of_ble_eq_true rfl, Nat.le_of_ble_eq_true rfl, Nat.le_of_ble_eq_true rfl⟩ ⟨rfl, rfl⟩ (kk2 (k_C (bnd_lt g2)) (by decide)) (c_takes _ (c := (r1.2.2.1 r1.1 16).toNatClampNeg) (κ := r1.1) (bnd_lt g2) (t_takeOut e1) e2) ?_
    refine xe_sn pg_81 1 (fr' := (96, [(2, .int (nI (k + 1))), (3, .ref (ja_L r1.1)), (4, .int v), (0, .ref 0), (1, .int m)], [.int r2.1])) rfl ?_
    refine xe_sn pg_81 2 (fr' := (100, [(4, .int r2.1), (2, .int (nI (k + 1))), (3, .ref (ja_L r1.1)), (0, .ref 0), (1, .int m)], [.int r2.1])) rfl ?_
    by_cases h3 : r2.1 = 0
    · rw [if_pos h3] at hE
      refine xe_c1f pg_81 113 rfl rfl (fun z => z h3) ?_
      refine xe_sn pg_81 2 (fr' := (105, [(4, .int r2.1), (2, .int (nI (k + 1))), (3, .ref (ja_L r1.1)), (0, .ref 0), (1, .int m)], [.ref 0, .ref 0])) rfl ?_
      refine ye_gi pg_81 (r2.2.1 165 5) rfl rfl rfl (kk1 k_O) (l_strays.rd _) ?_
      refine xe_sn pg_81 2 (fr' := (110, [(4, .int r2.1), (2, .int (nI (k + 1))), (3, .ref (ja_L r1.1)), (0, .ref 0), (1, .int m)], [.int ((r2.2.1 165 5) + 1), .ref 0])) rfl ?_
      refine ye_px pg_81 rfl rfl ⟨rfl, rfl⟩ (Or.inl rfl) (kk1 k_O) l_strays ?_
      refine xe_sn pg_81 1 (fr' := (21, [(4, .int r2.1), (2, .int (nI (k + 1))), (3, .ref (ja_L r1.1)), (0, .ref 0), (1, .int m)], [])) rfl ?_
      cases hE
      exact hr _ _ (t_takeOut e1)
    · rw [if_neg h3] at hE
      refine xe_c1t pg_81 113 rfl rfl h3 ?_
      refine xe_sn pg_81 1 (fr' := (21, [(4, .int r2.1), (2, .int (nI (k + 1))), (3, .ref (ja_L r1.1)), (0, .ref 0), (1, .int m)], [])) rfl ?_
      cases hE
      exact hr _ _ (t_takeOut e1)
  · rw [if_neg h1] at hE
    refine xe_c1t pg_81 81 rfl rfl h1 ?_
    refine xe_sn pg_81 1 (fr' := (82, [(2, .int (nI (k + 1))), (3, .ref (ja_L r1.1)), (4, .int v), (0, .ref 0), (1, .int m)], [.ref 0])) rfl ?_
    refine xe_gr pg_81 47 rfl rfl rfl (kk1 k_O) rfl ?_
    refine xe_sn pg_81 1 (fr' := (86, [(2, .int (nI (k + 1))), (3, .ref (ja_L r1.1)), (4, .int v), (0, .ref 0), (1, .int m)], [.ref (ja_L r1.1), .ref 47])) rfl ?_
    refine ye_gi pg_81 (r1.2.2.1 r1.1 15) rfl rfl rfl (kk1 (k_L (t_takeOut e1))) ((show ly _ 2 r1.1 15 from l_L (t_takeOut e1) (by decide) (by decide)).rd _) ?_
    refine xe_sn pg_81 2 (fr' := (91, [(2, .int (nI (k + 1))), (3, .ref (ja_L r1.1)), (4, .int v), (0, .ref 0), (1, .int m)], [.int ((r1.2.2.1 r1.1 15) - 1), .ref 47])) rfl ?_
    by_cases g4 : bnd ((r1.2.2.1 r1.1 15) - 1) 4
    case neg => rw [if_neg g4] at hE; cases hE
    rw [if_pos g4] at hE
    refine xe_al pg_81 ((r1.2.2.1 r1.1 15) - 1).toNatClampNeg (ja_R ((r1.2.2.1 r1.1 15) - 1).toNatClampNeg) rfl k_Rs ⟨by decide, by decide⟩ g4 rfl (r_Rs (bnd_lt g4) _) ?_
    refine xe_sn pg_81 1 (fr' := (93, [(2, .int (nI (k + 1))), (3, .ref (ja_L r1.1)), (4, .int v), (0, .ref 0), (1, .int m)], [.ref (ja_L r1.1), .ref (ja_R ((r1.2.2.1 r1.1 15) - 1).toNatClampNeg)])) rfl ?_
    obtain ⟨r3, e3, hE⟩ := Option.bind_eq_some_iff.mp hE
    refine xe_cv pg_81 65 pg_65 [.ref (ja_L r1.1)] [] (some (.int r3.1)) rfl rfl rfl rfl ⟨Nat.le_of_ble_eq_true rfl, Nat.le_of_ble_eq_true rfl, Nat.le_of_ble_eq_true rfl⟩ ⟨rfl, rfl⟩ (kk2 (k_R (bnd_lt g4)) (by decide)) (c_rtakes _ (i := ((r1.2.2.1 r1.1 15) - 1).toNatClampNeg) (κ := r1.1) (bnd_lt g4) (t_takeOut e1) e3) ?_
    refine xe_sn pg_81 2 (fr' := (100, [(4, .int r3.1), (2, .int (nI (k + 1))), (3, .ref (ja_L r1.1)), (0, .ref 0), (1, .int m)], [.int r3.1])) rfl ?_
    by_cases h5 : r3.1 = 0
    · rw [if_pos h5] at hE
      refine xe_c1f pg_81 113 rfl rfl (fun z => z h5) ?_
      refine xe_sn pg_81 2 (fr' := (105, [(4, .int r3.1), (2, .int (nI (k + 1))), (3, .ref (ja_L r1.1)), (0, .ref 0), (1, .int m)], [.ref 0, .ref 0])) rfl ?_
      refine ye_gi pg_81 (r3.2.1 165 5) rfl rfl rfl (kk1 k_O) (l_strays.rd _) ?_
      refine xe_sn pg_81 2 (fr' := (110, [(4, .int r3.1), (2, .int (nI (k + 1))), (3, .ref (ja_L r1.1)), (0, .ref 0), (1, .int m)], [.int ((r3.2.1 165 5) + 1), .ref 0])) rfl ?_
      refine ye_px pg_81 rfl rfl ⟨rfl, rfl⟩ (Or.inl rfl) (kk1 k_O) l_strays ?_
      refine xe_sn pg_81 1 (fr' := (21, [(4, .int r3.1), (2, .int (nI (k + 1))), (3, .ref (ja_L r1.1)), (0, .ref 0), (1, .int m)], [])) rfl ?_
      cases hE
      exact hr _ _ (t_takeOut e1)
    · rw [if_neg h5] at hE
      refine xe_c1t pg_81 113 rfl rfl h5 ?_
      refine xe_sn pg_81 1 (fr' := (21, [(4, .int r3.1), (2, .int (nI (k + 1))), (3, .ref (ja_L r1.1)), (0, .ref 0), (1, .int m)], [])) rfl ?_
      cases hE
      exact hr _ _ (t_takeOut e1)

