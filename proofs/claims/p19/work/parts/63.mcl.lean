set_option maxRecDepth 100000 in
theorem lp_ofStream (d : Nat) {w : xWd} {S : xSt} {V : xVt} {ρ : Nat → Nat → Int64} {c : Nat} {t k o : Int32} (hc : c < 4) {m : Nat} (hm : m ≤ 7) (hdl : V.1 176 c = nI m) {r : xRs} (hr : xe d 125 (173, [(5, .int (nI m)), (4, .int t), (0, .ref 165), (1, .int (nI c)), (2, .int k), (3, .int o)], []) (hv w S (kfill V.1 c V.2.2.2 m, V.2) ρ) r) : ∀ j n, n + j = m → xe d 125 (134, [(5, .int (nI n)), (4, .int t), (0, .ref 165), (1, .int (nI c)), (2, .int k), (3, .int o)], []) (hv w S (kfill V.1 c V.2.2.2 n, V.2) ρ) r := by
  intro j
  induction j with
  | zero =>
    intro n hn
    rw [show n = m by omega]
    refine xe_sn pg_125 4 (fr' := (141, [(5, .int (nI m)), (4, .int t), (0, .ref 165), (1, .int (nI c)), (2, .int k), (3, .int o)], [.int (nI c), .ref 176, .int (nI m)])) rfl ?_
    refine ze_il pg_125 c ((kfill V.1 c V.2.2.2 m, V.2).1 176 c) rfl ⟨by decide, by decide⟩ rfl (bn (by omega) (by decide)) (bc (n := 4) (by omega) (by decide)) rfl ?_
    refine xe_eq _ (nI m) hdl ?_
    refine xe_c2t pg_125 173 rfl rfl (nq_ge m m (by omega) (by omega) (by omega)) ?_
    exact hr
  | succ j ih =>
    intro n hn
    refine xe_sn pg_125 4 (fr' := (141, [(5, .int (nI n)), (4, .int t), (0, .ref 165), (1, .int (nI c)), (2, .int k), (3, .int o)], [.int (nI c), .ref 176, .int (nI n)])) rfl ?_
    refine ze_il pg_125 c ((kfill V.1 c V.2.2.2 n, V.2).1 176 c) rfl ⟨by decide, by decide⟩ rfl (bn (by omega) (by decide)) (bc (n := 4) (by omega) (by decide)) rfl ?_
    refine xe_eq _ (nI m) hdl ?_
    refine xe_c2f pg_125 173 rfl rfl (nq_gen n m (by omega) (by omega) (by omega)) ?_
    refine xe_sn pg_125 4 (fr' := (152, [(5, .int (nI n)), (4, .int t), (0, .ref 165), (1, .int (nI c)), (2, .int k), (3, .int o)], [.int (nI c), .int 7, .ref 177])) rfl ?_
    refine xe_nm pg_125 7 c (7 * c) rfl (by omega) ?_
    refine xe_sn pg_125 1 (fr' := (155, [(5, .int (nI n)), (4, .int t), (0, .ref 165), (1, .int (nI c)), (2, .int k), (3, .int o)], [.int (nI n), .int (nI (7 * c)), .ref 177])) rfl ?_
    refine xe_na pg_125 (7 * c) n (7 * c + n) rfl (by omega) ?_
    refine xe_sn pg_125 4 (fr' := (164, [(5, .int (nI n)), (4, .int t), (0, .ref 165), (1, .int (nI c)), (2, .int k), (3, .int o)], [.int (nI n), .int 7, .ref 187, .int (nI (7 * c + n)), .ref 177])) rfl ?_
    refine xe_na pg_125 7 n (n + 7) rfl (by omega) ?_
    refine ze_ib pg_125 (n + 7) ((kfill V.1 c V.2.2.2 n, V.2).2.2.2 (n + 7)) rfl (by omega) (bn (by omega) (by decide)) (bc (n := 14) (by omega) (by decide)) rfl ?_
    refine ze_isx pg_125 (7 * c + n) rfl ⟨by decide, by decide⟩ rfl (bn (by omega) (by decide)) (bc (n := 28) (by omega) (by decide)) (by decide) ?_
    refine xe_ni pg_125 n (n + 1) [(5, .int (nI (n + 1))), (4, .int t), (0, .ref 165), (1, .int (nI c)), (2, .int k), (3, .int o)] rfl rfl rfl rfl (nI_add _ 1) ?_
    refine xe_sn pg_125 1 (fr' := (134, [(5, .int (nI (n + 1))), (4, .int t), (0, .ref 165), (1, .int (nI c)), (2, .int k), (3, .int o)], [])) rfl ?_
    rw [show vx (kfill V.1 c V.2.2.2 n, V.2) 177 (7 * c + n) (V.2.2.2 (n + 7)) = (kfill V.1 c V.2.2.2 (n + 1), V.2) from congrArg (fun z => (z, V.2)) (kfill_s V.1 c V.2.2.2 n)]
    exact ih (n + 1) (by omega)

def g_ofStream (V : xVt) (c : Nat) (k : Int32) (o : Int32) : Option xVt := (some (g_in (V.2.2.2 5) 1 3)).bind fun r1 => if r1 = 0 then (some V) else (if bnd (((nI (3 * c)) + (V.2.2.2 5)) - 1) 12 then (if (V.1 173 (((nI (3 * c)) + (V.2.2.2 5)) - 1).toNatClampNeg) = 0 then (some V) else (if (V.1 174 (((nI (3 * c)) + (V.2.2.2 5)) - 1).toNatClampNeg) = k then (if o = 4 then (if (V.1 173 (((nI (3 * c)) + (V.2.2.2 5)) - 1).toNatClampNeg) = 1 then (some (vx (vx V 173 (((nI (3 * c)) + (V.2.2.2 5)) - 1).toNatClampNeg 2) 175 (((nI (3 * c)) + (V.2.2.2 5)) - 1).toNatClampNeg 4)) else (some V)) else (if o = 5 then (if (V.1 173 (((nI (3 * c)) + (V.2.2.2 5)) - 1).toNatClampNeg) = 2 then (if bnd ((vx V 176 c (if 7 ≤ (V.2.2.2 6) then (7 : Int32) else (V.2.2.2 6))).1 176 c) 8 then (some (kfill (vx V 176 c (if 7 ≤ (V.2.2.2 6) then (7 : Int32) else (V.2.2.2 6))).1 c (vx V 176 c (if 7 ≤ (V.2.2.2 6) then (7 : Int32) else (V.2.2.2 6))).2.2.2 ((vx V 176 c (if 7 ≤ (V.2.2.2 6) then (7 : Int32) else (V.2.2.2 6))).1 176 c).toNatClampNeg, (vx V 176 c (if 7 ≤ (V.2.2.2 6) then (7 : Int32) else (V.2.2.2 6))).2)) else none) else (some V)) else (if o = 6 then (some (vx (vx V 173 (((nI (3 * c)) + (V.2.2.2 5)) - 1).toNatClampNeg 0) 175 (((nI (3 * c)) + (V.2.2.2 5)) - 1).toNatClampNeg 0)) else (if o = 7 then (if (V.1 173 (((nI (3 * c)) + (V.2.2.2 5)) - 1).toNatClampNeg) = 2 then (some (vx V 175 (((nI (3 * c)) + (V.2.2.2 5)) - 1).toNatClampNeg ((V.1 175 (((nI (3 * c)) + (V.2.2.2 5)) - 1).toNatClampNeg) + 2))) else (some V)) else (some V))))) else (some V))) else none)
set_option maxRecDepth 100000 in
theorem cg_ofStream (d : Nat) {w : xWd} {S : xSt} {V : xVt} {ρ : Nat → Nat → Int64} {c : Nat} {k : Int32} {o : Int32} (hc : c < 4) {r : xVt} (hE : (g_ofStream V c k o) = some r) : xc (d + 1) 125 [.ref 165, .int (nI c), .int k, .int o] (hv w S V ρ) (.inl (none), hv w S r ρ) := by
  unfold g_ofStream at hE
  refine xe_sn pg_125 2 (fr' := (2, [(0, .ref 165), (1, .int (nI c)), (2, .int k), (3, .int o)], [.int (nI c), .int 3])) rfl ?_
  refine xe_nm pg_125 3 c (3 * c) rfl (by omega) ?_
  refine xe_sn pg_125 3 (fr' := (8, [(0, .ref 165), (1, .int (nI c)), (2, .int k), (3, .int o)], [.int 5, .ref 187, .int (nI (3 * c))])) rfl ?_
  refine ze_ib pg_125 5 (V.2.2.2 5) rfl (by decide) ⟨by decide, by decide⟩ rfl rfl ?_
  refine xe_sn pg_125 7 (fr' := (19, [(4, .int (((nI (3 * c)) + (V.2.2.2 5)) - 1)), (0, .ref 165), (1, .int (nI c)), (2, .int k), (3, .int o)], [.int 5, .ref 187])) rfl ?_
  refine ze_ib pg_125 5 (V.2.2.2 5) rfl (by decide) ⟨by decide, by decide⟩ rfl rfl ?_
  refine xe_sn pg_125 2 (fr' := (22, [(4, .int (((nI (3 * c)) + (V.2.2.2 5)) - 1)), (0, .ref 165), (1, .int (nI c)), (2, .int k), (3, .int o)], [.int 3, .int 1, .int (V.2.2.2 5)])) rfl ?_
  obtain ⟨r1, e1, hE⟩ := Option.bind_eq_some_iff.mp hE
  refine xe_callq pg_125 103 [.int (V.2.2.2 5), .int 1, .int 3] (.inl (some (.int r1))) (25, [(4, .int (((nI (3 * c)) + (V.2.2.2 5)) - 1)), (0, .ref 165), (1, .int (nI c)), (2, .int k), (3, .int o)], [.int r1]) rfl (fun _ => rfl) (cg_in _ (v := (V.2.2.2 5)) (l := 1) (h := 3)  (Option.some.inj e1)) ?_
  by_cases h1 : r1 = 0
  · rw [if_pos h1] at hE
    refine xe_c1t pg_125 49 rfl rfl h1 ?_
    cases hE
    exact xe_end pg_125 rfl
  · rw [if_neg h1] at hE
    refine xe_c1f pg_125 49 rfl rfl h1 ?_
    refine xe_sn pg_125 3 (fr' := (34, [(4, .int (((nI (3 * c)) + (V.2.2.2 5)) - 1)), (0, .ref 165), (1, .int (nI c)), (2, .int k), (3, .int o)], [.int (((nI (3 * c)) + (V.2.2.2 5)) - 1), .ref 173])) rfl ?_
    by_cases g2 : bnd (((nI (3 * c)) + (V.2.2.2 5)) - 1) 12
    case neg => rw [if_neg g2] at hE; cases hE
    rw [if_pos g2] at hE
    refine ze_il pg_125 (((nI (3 * c)) + (V.2.2.2 5)) - 1).toNatClampNeg (V.1 173 (((nI (3 * c)) + (V.2.2.2 5)) - 1).toNatClampNeg) rfl ⟨by decide, by decide⟩ rfl g2 rfl rfl ?_
    by_cases h3 : (V.1 173 (((nI (3 * c)) + (V.2.2.2 5)) - 1).toNatClampNeg) = 0
    · rw [if_pos h3] at hE
      refine xe_c1t pg_125 49 rfl rfl h3 ?_
      cases hE
      exact xe_end pg_125 rfl
    · rw [if_neg h3] at hE
      refine xe_c1f pg_125 49 rfl rfl h3 ?_
      refine xe_sn pg_125 3 (fr' := (44, [(4, .int (((nI (3 * c)) + (V.2.2.2 5)) - 1)), (0, .ref 165), (1, .int (nI c)), (2, .int k), (3, .int o)], [.int (((nI (3 * c)) + (V.2.2.2 5)) - 1), .ref 174])) rfl ?_
      refine ze_il pg_125 (((nI (3 * c)) + (V.2.2.2 5)) - 1).toNatClampNeg (V.1 174 (((nI (3 * c)) + (V.2.2.2 5)) - 1).toNatClampNeg) rfl ⟨by decide, by decide⟩ rfl g2 rfl rfl ?_
      refine xe_sn pg_125 1 (fr' := (46, [(4, .int (((nI (3 * c)) + (V.2.2.2 5)) - 1)), (0, .ref 165), (1, .int (nI c)), (2, .int k), (3, .int o)], [.int k, .int (V.1 174 (((nI (3 * c)) + (V.2.2.2 5)) - 1).toNatClampNeg)])) rfl ?_
      by_cases h4 : (V.1 174 (((nI (3 * c)) + (V.2.2.2 5)) - 1).toNatClampNeg) = k
      · rw [if_pos h4] at hE
        refine xe_c2t pg_125 50 rfl rfl h4 ?_
        refine xe_sn pg_125 2 (fr' := (52, [(4, .int (((nI (3 * c)) + (V.2.2.2 5)) - 1)), (0, .ref 165), (1, .int (nI c)), (2, .int k), (3, .int o)], [.int 4, .int o])) rfl ?_
        by_cases h5 : o = 4
        · rw [if_pos h5] at hE
          refine xe_c2f pg_125 85 rfl rfl (fun z => z h5) ?_
          refine xe_sn pg_125 3 (fr' := (61, [(4, .int (((nI (3 * c)) + (V.2.2.2 5)) - 1)), (0, .ref 165), (1, .int (nI c)), (2, .int k), (3, .int o)], [.int (((nI (3 * c)) + (V.2.2.2 5)) - 1), .ref 173])) rfl ?_
          refine ze_il pg_125 (((nI (3 * c)) + (V.2.2.2 5)) - 1).toNatClampNeg (V.1 173 (((nI (3 * c)) + (V.2.2.2 5)) - 1).toNatClampNeg) rfl ⟨by decide, by decide⟩ rfl g2 rfl rfl ?_
          refine xe_sn pg_125 1 (fr' := (63, [(4, .int (((nI (3 * c)) + (V.2.2.2 5)) - 1)), (0, .ref 165), (1, .int (nI c)), (2, .int k), (3, .int o)], [.int 1, .int (V.1 173 (((nI (3 * c)) + (V.2.2.2 5)) - 1).toNatClampNeg)])) rfl ?_
          by_cases h6 : (V.1 173 (((nI (3 * c)) + (V.2.2.2 5)) - 1).toNatClampNeg) = 1
          · rw [if_pos h6] at hE
            refine xe_c2f pg_125 85 rfl rfl (fun z => z h6) ?_
            refine xe_sn pg_125 4 (fr' := (73, [(4, .int (((nI (3 * c)) + (V.2.2.2 5)) - 1)), (0, .ref 165), (1, .int (nI c)), (2, .int k), (3, .int o)], [.int 2, .int (((nI (3 * c)) + (V.2.2.2 5)) - 1), .ref 173])) rfl ?_
            refine ze_isx pg_125 (((nI (3 * c)) + (V.2.2.2 5)) - 1).toNatClampNeg rfl ⟨by decide, by decide⟩ rfl g2 rfl (by decide) ?_
            refine xe_sn pg_125 4 (fr' := (81, [(4, .int (((nI (3 * c)) + (V.2.2.2 5)) - 1)), (0, .ref 165), (1, .int (nI c)), (2, .int k), (3, .int o)], [.int 4, .int (((nI (3 * c)) + (V.2.2.2 5)) - 1), .ref 175])) rfl ?_
            refine ze_isx pg_125 (((nI (3 * c)) + (V.2.2.2 5)) - 1).toNatClampNeg rfl ⟨by decide, by decide⟩ rfl g2 rfl (by decide) ?_
            refine xe_sn pg_125 1 (fr' := (234, [(4, .int (((nI (3 * c)) + (V.2.2.2 5)) - 1)), (0, .ref 165), (1, .int (nI c)), (2, .int k), (3, .int o)], [])) rfl ?_
            cases hE
            exact xe_end pg_125 rfl
          · rw [if_neg h6] at hE
            refine xe_c2t pg_125 85 rfl rfl h6 ?_
            refine xe_sn pg_125 2 (fr' := (87, [(4, .int (((nI (3 * c)) + (V.2.2.2 5)) - 1)), (0, .ref 165), (1, .int (nI c)), (2, .int k), (3, .int o)], [.int 5, .int o])) rfl ?_
            refine xe_c2t pg_125 176 rfl rfl (fun z => absurd (h5.symm.trans z) (by decide)) ?_
            refine xe_sn pg_125 2 (fr' := (179, [(4, .int (((nI (3 * c)) + (V.2.2.2 5)) - 1)), (0, .ref 165), (1, .int (nI c)), (2, .int k), (3, .int o)], [.int 6, .int o])) rfl ?_
            refine xe_c2t pg_125 201 rfl rfl (fun z => absurd (h5.symm.trans z) (by decide)) ?_
            refine xe_sn pg_125 2 (fr' := (204, [(4, .int (((nI (3 * c)) + (V.2.2.2 5)) - 1)), (0, .ref 165), (1, .int (nI c)), (2, .int k), (3, .int o)], [.int 7, .int o])) rfl ?_
            refine xe_c2t pg_125 234 rfl rfl (fun z => absurd (h5.symm.trans z) (by decide)) ?_
            cases hE
            exact xe_end pg_125 rfl
        · rw [if_neg h5] at hE
          refine xe_c2t pg_125 85 rfl rfl h5 ?_
          refine xe_sn pg_125 2 (fr' := (87, [(4, .int (((nI (3 * c)) + (V.2.2.2 5)) - 1)), (0, .ref 165), (1, .int (nI c)), (2, .int k), (3, .int o)], [.int 5, .int o])) rfl ?_
          by_cases h7 : o = 5
          · rw [if_pos h7] at hE
            refine xe_c2f pg_125 176 rfl rfl (fun z => z h7) ?_
            refine xe_sn pg_125 3 (fr' := (96, [(4, .int (((nI (3 * c)) + (V.2.2.2 5)) - 1)), (0, .ref 165), (1, .int (nI c)), (2, .int k), (3, .int o)], [.int (((nI (3 * c)) + (V.2.2.2 5)) - 1), .ref 173])) rfl ?_
            refine ze_il pg_125 (((nI (3 * c)) + (V.2.2.2 5)) - 1).toNatClampNeg (V.1 173 (((nI (3 * c)) + (V.2.2.2 5)) - 1).toNatClampNeg) rfl ⟨by decide, by decide⟩ rfl g2 rfl rfl ?_
            refine xe_sn pg_125 1 (fr' := (98, [(4, .int (((nI (3 * c)) + (V.2.2.2 5)) - 1)), (0, .ref 165), (1, .int (nI c)), (2, .int k), (3, .int o)], [.int 2, .int (V.1 173 (((nI (3 * c)) + (V.2.2.2 5)) - 1).toNatClampNeg)])) rfl ?_
            by_cases h8 : (V.1 173 (((nI (3 * c)) + (V.2.2.2 5)) - 1).toNatClampNeg) = 2
            · rw [if_pos h8] at hE
              refine xe_c2f pg_125 176 rfl rfl (fun z => z h8) ?_
              refine xe_sn pg_125 6 (fr' := (112, [(4, .int (((nI (3 * c)) + (V.2.2.2 5)) - 1)), (0, .ref 165), (1, .int (nI c)), (2, .int k), (3, .int o)], [.int 6, .ref 187, .int (nI c), .ref 176])) rfl ?_
              refine ze_ib pg_125 6 (V.2.2.2 6) rfl (by decide) ⟨by decide, by decide⟩ rfl rfl ?_
              refine xe_sn pg_125 1 (fr' := (115, [(4, .int (((nI (3 * c)) + (V.2.2.2 5)) - 1)), (0, .ref 165), (1, .int (nI c)), (2, .int k), (3, .int o)], [.int 7, .int (V.2.2.2 6), .int (nI c), .ref 176])) rfl ?_
              refine xe_jn (fr' := (130, [(4, .int (((nI (3 * c)) + (V.2.2.2 5)) - 1)), (0, .ref 165), (1, .int (nI c)), (2, .int k), (3, .int o)], [.int (if 7 ≤ (V.2.2.2 6) then (7 : Int32) else (V.2.2.2 6)), .int (nI c), .ref 176])) (fun J9 => ?_) ?_
              · by_cases h9 : 7 ≤ (V.2.2.2 6)
                · rw [show (if 7 ≤ (V.2.2.2 6) then (7 : Int32) else (V.2.2.2 6)) = 7 from if_pos h9] at J9
                  refine xe_c2t pg_125 128 rfl rfl h9 ?_
                  refine xe_sn pg_125 1 (fr' := (130, [(4, .int (((nI (3 * c)) + (V.2.2.2 5)) - 1)), (0, .ref 165), (1, .int (nI c)), (2, .int k), (3, .int o)], [.int 7, .int (nI c), .ref 176])) rfl ?_
                  exact J9
                · rw [show (if 7 ≤ (V.2.2.2 6) then (7 : Int32) else (V.2.2.2 6)) = (V.2.2.2 6) from if_neg h9] at J9
                  refine xe_c2f pg_125 128 rfl rfl h9 ?_
                  refine xe_sn pg_125 3 (fr' := (124, [(4, .int (((nI (3 * c)) + (V.2.2.2 5)) - 1)), (0, .ref 165), (1, .int (nI c)), (2, .int k), (3, .int o)], [.int 6, .ref 187, .int (nI c), .ref 176])) rfl ?_
                  refine ze_ib pg_125 6 (V.2.2.2 6) rfl (by decide) ⟨by decide, by decide⟩ rfl rfl ?_
                  refine xe_sn pg_125 1 (fr' := (130, [(4, .int (((nI (3 * c)) + (V.2.2.2 5)) - 1)), (0, .ref 165), (1, .int (nI c)), (2, .int k), (3, .int o)], [.int (V.2.2.2 6), .int (nI c), .ref 176])) rfl ?_
                  exact J9
              refine ze_isx pg_125 c rfl ⟨by decide, by decide⟩ rfl (bn (by omega) (by decide)) (bc (n := 4) (by omega) (by decide)) (by decide) ?_
              refine xe_sn pg_125 2 (fr' := (134, [(5, .int 0), (4, .int (((nI (3 * c)) + (V.2.2.2 5)) - 1)), (0, .ref 165), (1, .int (nI c)), (2, .int k), (3, .int o)], [])) rfl ?_
              by_cases gdl : bnd ((vx V 176 c (if 7 ≤ (V.2.2.2 6) then (7 : Int32) else (V.2.2.2 6))).1 176 c) 8
              case neg => rw [if_neg gdl] at hE; cases hE
              rw [if_pos gdl] at hE
              have q9 := fun dd z z2 => lp_ofStream (r := z) dd (w := w) (S := S) (V := (vx V 176 c (if 7 ≤ (V.2.2.2 6) then (7 : Int32) else (V.2.2.2 6)))) (ρ := ρ) (c := c) (t := (((nI (3 * c)) + (V.2.2.2 5)) - 1)) (k := k) (o := o) hc (m := ((vx V 176 c (if 7 ≤ (V.2.2.2 6) then (7 : Int32) else (V.2.2.2 6))).1 176 c).toNatClampNeg) (by have := bnd_lt gdl; omega) (nI_bnd gdl (by omega)) z2 ((vx V 176 c (if 7 ≤ (V.2.2.2 6) then (7 : Int32) else (V.2.2.2 6))).1 176 c).toNatClampNeg 0 (by omega)
              rw [kfill_0] at q9
              refine q9 _ _ ?_
              refine xe_sn pg_125 1 (fr' := (234, [(5, .int (nI ((vx V 176 c (if 7 ≤ (V.2.2.2 6) then (7 : Int32) else (V.2.2.2 6))).1 176 c).toNatClampNeg)), (4, .int (((nI (3 * c)) + (V.2.2.2 5)) - 1)), (0, .ref 165), (1, .int (nI c)), (2, .int k), (3, .int o)], [])) rfl ?_
              cases hE
              exact xe_end pg_125 rfl
            · rw [if_neg h8] at hE
              refine xe_c2t pg_125 176 rfl rfl h8 ?_
              refine xe_sn pg_125 2 (fr' := (179, [(4, .int (((nI (3 * c)) + (V.2.2.2 5)) - 1)), (0, .ref 165), (1, .int (nI c)), (2, .int k), (3, .int o)], [.int 6, .int o])) rfl ?_
              refine xe_c2t pg_125 201 rfl rfl (fun z => absurd (h7.symm.trans z) (by decide)) ?_
              refine xe_sn pg_125 2 (fr' := (204, [(4, .int (((nI (3 * c)) + (V.2.2.2 5)) - 1)), (0, .ref 165), (1, .int (nI c)), (2, .int k), (3, .int o)], [.int 7, .int o])) rfl ?_
              refine xe_c2t pg_125 234 rfl rfl (fun z => absurd (h7.symm.trans z) (by decide)) ?_
              cases hE
              exact xe_end pg_125 rfl
          · rw [if_neg h7] at hE
            refine xe_c2t pg_125 176 rfl rfl h7 ?_
            refine xe_sn pg_125 2 (fr' := (179, [(4, .int (((nI (3 * c)) + (V.2.2.2 5)) - 1)), (0, .ref 165), (1, .int (nI c)), (2, .int k), (3, .int o)], [.int 6, .int o])) rfl ?_
            by_cases h10 : o = 6
            · rw [if_pos h10] at hE
              refine xe_c2f pg_125 201 rfl rfl (fun z => z h10) ?_
              refine xe_sn pg_125 4 (fr' := (189, [(4, .int (((nI (3 * c)) + (V.2.2.2 5)) - 1)), (0, .ref 165), (1, .int (nI c)), (2, .int k), (3, .int o)], [.int 0, .int (((nI (3 * c)) + (V.2.2.2 5)) - 1), .ref 173])) rfl ?_
              refine ze_isx pg_125 (((nI (3 * c)) + (V.2.2.2 5)) - 1).toNatClampNeg rfl ⟨by decide, by decide⟩ rfl g2 rfl (by decide) ?_
              refine xe_sn pg_125 4 (fr' := (197, [(4, .int (((nI (3 * c)) + (V.2.2.2 5)) - 1)), (0, .ref 165), (1, .int (nI c)), (2, .int k), (3, .int o)], [.int 0, .int (((nI (3 * c)) + (V.2.2.2 5)) - 1), .ref 175])) rfl ?_
              refine ze_isx pg_125 (((nI (3 * c)) + (V.2.2.2 5)) - 1).toNatClampNeg rfl ⟨by decide, by decide⟩ rfl g2 rfl (by decide) ?_
              refine xe_sn pg_125 1 (fr' := (234, [(4, .int (((nI (3 * c)) + (V.2.2.2 5)) - 1)), (0, .ref 165), (1, .int (nI c)), (2, .int k), (3, .int o)], [])) rfl ?_
              cases hE
              exact xe_end pg_125 rfl
            · rw [if_neg h10] at hE
              refine xe_c2t pg_125 201 rfl rfl h10 ?_
              refine xe_sn pg_125 2 (fr' := (204, [(4, .int (((nI (3 * c)) + (V.2.2.2 5)) - 1)), (0, .ref 165), (1, .int (nI c)), (2, .int k), (3, .int o)], [.int 7, .int o])) rfl ?_
              by_cases h11 : o = 7
              · rw [if_pos h11] at hE
                refine xe_c2f pg_125 234 rfl rfl (fun z => z h11) ?_
                refine xe_sn pg_125 3 (fr' := (213, [(4, .int (((nI (3 * c)) + (V.2.2.2 5)) - 1)), (0, .ref 165), (1, .int (nI c)), (2, .int k), (3, .int o)], [.int (((nI (3 * c)) + (V.2.2.2 5)) - 1), .ref 173])) rfl ?_
                refine ze_il pg_125 (((nI (3 * c)) + (V.2.2.2 5)) - 1).toNatClampNeg (V.1 173 (((nI (3 * c)) + (V.2.2.2 5)) - 1).toNatClampNeg) rfl ⟨by decide, by decide⟩ rfl g2 rfl rfl ?_
                refine xe_sn pg_125 1 (fr' := (215, [(4, .int (((nI (3 * c)) + (V.2.2.2 5)) - 1)), (0, .ref 165), (1, .int (nI c)), (2, .int k), (3, .int o)], [.int 2, .int (V.1 173 (((nI (3 * c)) + (V.2.2.2 5)) - 1).toNatClampNeg)])) rfl ?_
                by_cases h12 : (V.1 173 (((nI (3 * c)) + (V.2.2.2 5)) - 1).toNatClampNeg) = 2
                · rw [if_pos h12] at hE
                  refine xe_c2f pg_125 234 rfl rfl (fun z => z h12) ?_
                  refine xe_sn pg_125 6 (fr' := (230, [(4, .int (((nI (3 * c)) + (V.2.2.2 5)) - 1)), (0, .ref 165), (1, .int (nI c)), (2, .int k), (3, .int o)], [.int (((nI (3 * c)) + (V.2.2.2 5)) - 1), .ref 175, .int (((nI (3 * c)) + (V.2.2.2 5)) - 1), .ref 175])) rfl ?_
                  refine ze_il pg_125 (((nI (3 * c)) + (V.2.2.2 5)) - 1).toNatClampNeg (V.1 175 (((nI (3 * c)) + (V.2.2.2 5)) - 1).toNatClampNeg) rfl ⟨by decide, by decide⟩ rfl g2 rfl rfl ?_
                  refine xe_sn pg_125 2 (fr' := (233, [(4, .int (((nI (3 * c)) + (V.2.2.2 5)) - 1)), (0, .ref 165), (1, .int (nI c)), (2, .int k), (3, .int o)], [.int ((V.1 175 (((nI (3 * c)) + (V.2.2.2 5)) - 1).toNatClampNeg) + 2), .int (((nI (3 * c)) + (V.2.2.2 5)) - 1), .ref 175])) rfl ?_
                  refine ze_isx pg_125 (((nI (3 * c)) + (V.2.2.2 5)) - 1).toNatClampNeg rfl ⟨by decide, by decide⟩ rfl g2 rfl (by decide) ?_
                  cases hE
                  exact xe_end pg_125 rfl
                · rw [if_neg h12] at hE
                  refine xe_c2t pg_125 234 rfl rfl h12 ?_
                  cases hE
                  exact xe_end pg_125 rfl
              · rw [if_neg h11] at hE
                refine xe_c2t pg_125 234 rfl rfl h11 ?_
                cases hE
                exact xe_end pg_125 rfl
      · rw [if_neg h4] at hE
        refine xe_c2f pg_125 50 rfl rfl h4 ?_
        cases hE
        exact xe_end pg_125 rfl

def g_clientFollows (V : xVt) (c : Nat) (k : Int32) : Option xVt := if (V.2.2.2 4) = 2 then (if (V.1 167 c) = 1 then (if k = ((V.1 168 c) - 1) then ((some (g_pair V 7)).bind fun r1 => (some (g_pair V 9)).bind fun r2 => (g_meet V c r1 r2).bind fun r3 => some r3) else ((some (g_in (V.2.2.2 4) 4 7)).bind fun r4 => if r4 = 0 then ((g_closeNow V c).bind fun r5 => some r5) else ((g_ofStream V c k (V.2.2.2 4)).bind fun r6 => some r6))) else ((some (g_in (V.2.2.2 4) 4 7)).bind fun r7 => if r7 = 0 then ((g_closeNow V c).bind fun r8 => some r8) else ((g_ofStream V c k (V.2.2.2 4)).bind fun r9 => some r9))) else (if (V.2.2.2 4) = 9 then ((some (dropX (vx V 168 c (k + 1)).1 c (k + 1), (vx V 168 c (k + 1)).2)).bind fun r10 => some (vx (vx r10 167 c 2) 171 c (-1))) else ((some (g_in (V.2.2.2 4) 4 7)).bind fun r11 => if r11 = 0 then ((g_closeNow V c).bind fun r12 => some r12) else ((g_ofStream V c k (V.2.2.2 4)).bind fun r13 => some r13)))
set_option maxRecDepth 100000 in
theorem cg_clientFollows (d : Nat) {w : xWd} {S : xSt} {V : xVt} {ρ : Nat → Nat → Int64} {c : Nat} {k : Int32} (hc : c < 4) {r : xVt} (hE : (g_clientFollows V c k) = some r) : xc (d + 4) 126 [.ref 165, .int (nI c), .int k] (hv w S V ρ) (.inl (none), hv w S r ρ) := by
  unfold g_clientFollows at hE
  refine xe_sn pg_126 3 (fr' := (5, [(0, .ref 165), (1, .int (nI c)), (2, .int k)], [.int 4, .ref 187])) rfl ?_
  refine ze_ib pg_126 4 (V.2.2.2 4) rfl (by decide) ⟨by decide, by decide⟩ rfl rfl ?_
  refine xe_sn pg_126 3 (fr' := (9, [(3, .int (V.2.2.2 4)), (0, .ref 165), (1, .int (nI c)), (2, .int k)], [.int 2, .int (V.2.2.2 4)])) rfl ?_
  by_cases h1 : (V.2.2.2 4) = 2
  · rw [if_pos h1] at hE
    refine xe_c2f pg_126 54 rfl rfl (fun z => z h1) ?_
    refine xe_sn pg_126 3 (fr' := (17, [(3, .int (V.2.2.2 4)), (0, .ref 165), (1, .int (nI c)), (2, .int k)], [.int (nI c), .ref 167])) rfl ?_
    refine ze_il pg_126 c (V.1 167 c) rfl ⟨by decide, by decide⟩ rfl (bn (by omega) (by decide)) (bc (n := 4) (by omega) (by decide)) rfl ?_
    refine xe_sn pg_126 1 (fr' := (19, [(3, .int (V.2.2.2 4)), (0, .ref 165), (1, .int (nI c)), (2, .int k)], [.int 1, .int (V.1 167 c)])) rfl ?_
    by_cases h2 : (V.1 167 c) = 1
    · rw [if_pos h2] at hE
      refine xe_c2f pg_126 54 rfl rfl (fun z => z h2) ?_
      refine xe_sn pg_126 4 (fr' := (28, [(3, .int (V.2.2.2 4)), (0, .ref 165), (1, .int (nI c)), (2, .int k)], [.int (nI c), .ref 168, .int k])) rfl ?_
      refine ze_il pg_126 c (V.1 168 c) rfl ⟨by decide, by decide⟩ rfl (bn (by omega) (by decide)) (bc (n := 4) (by omega) (by decide)) rfl ?_
      refine xe_sn pg_126 2 (fr' := (31, [(3, .int (V.2.2.2 4)), (0, .ref 165), (1, .int (nI c)), (2, .int k)], [.int ((V.1 168 c) - 1), .int k])) rfl ?_
      by_cases h3 : k = ((V.1 168 c) - 1)
      · rw [if_pos h3] at hE
        refine xe_c2f pg_126 54 rfl rfl (fun z => z h3) ?_
        refine xe_sn pg_126 4 (fr' := (39, [(3, .int (V.2.2.2 4)), (0, .ref 165), (1, .int (nI c)), (2, .int k)], [.int 7, .ref 165, .int (nI c), .ref 165])) rfl ?_
        obtain ⟨r1, e1, hE⟩ := Option.bind_eq_some_iff.mp hE
        refine xe_cv pg_126 111 pg_111 [.int 7] [.int (nI c), .ref 165] (some (.int r1)) rfl rfl rfl rfl ⟨Nat.le_of_ble_eq_true rfl, Nat.le_of_ble_eq_true rfl, Nat.le_of_ble_eq_true rfl⟩ ⟨rfl, rfl⟩ ⟨by decide, rfl, by decide⟩ (cg_pair _ (k := 7) (by omega) (Option.some.inj e1)) ?_
        refine xe_sn pg_126 2 (fr' := (45, [(3, .int (V.2.2.2 4)), (0, .ref 165), (1, .int (nI c)), (2, .int k)], [.int 9, .ref 165, .int r1, .int (nI c), .ref 165])) rfl ?_
        obtain ⟨r2, e2, hE⟩ := Option.bind_eq_some_iff.mp hE
        refine xe_cv pg_126 111 pg_111 [.int 9] [.int r1, .int (nI c), .ref 165] (some (.int r2)) rfl rfl rfl rfl ⟨Nat.le_of_ble_eq_true rfl, Nat.le_of_ble_eq_true rfl, Nat.le_of_ble_eq_true rfl⟩ ⟨rfl, rfl⟩ ⟨by decide, rfl, by decide⟩ (cg_pair _ (k := 9) (by omega) (Option.some.inj e2)) ?_
        obtain ⟨r3, e3, hE⟩ := Option.bind_eq_some_iff.mp hE
        refine xe_cv pg_126 124 pg_124 [.int (nI c), .int r1, .int r2] [] (none) rfl rfl rfl rfl ⟨Nat.le_of_ble_eq_true rfl, Nat.le_of_ble_eq_true rfl, Nat.le_of_ble_eq_true rfl⟩ ⟨rfl, rfl⟩ ⟨by decide, rfl, by decide⟩ (cg_meet _ (c := c) (y := r1) (tg := r2) (by omega) e3) ?_
        refine xe_sn pg_126 1 (fr' := (119, [(3, .int (V.2.2.2 4)), (0, .ref 165), (1, .int (nI c)), (2, .int k)], [])) rfl ?_
        cases hE
        exact xe_end pg_126 rfl
      · rw [if_neg h3] at hE
        refine xe_c2t pg_126 54 rfl rfl h3 ?_
        refine xe_sn pg_126 2 (fr' := (57, [(3, .int (V.2.2.2 4)), (0, .ref 165), (1, .int (nI c)), (2, .int k)], [.int 9, .int (V.2.2.2 4)])) rfl ?_
        refine xe_c2t pg_126 94 rfl rfl (fun z => absurd (h1.symm.trans z) (by decide)) ?_
        refine xe_sn pg_126 3 (fr' := (98, [(3, .int (V.2.2.2 4)), (0, .ref 165), (1, .int (nI c)), (2, .int k)], [.int 7, .int 4, .int (V.2.2.2 4)])) rfl ?_
        obtain ⟨r4, e4, hE⟩ := Option.bind_eq_some_iff.mp hE
        refine xe_callq pg_126 103 [.int (V.2.2.2 4), .int 4, .int 7] (.inl (some (.int r4))) (101, [(3, .int (V.2.2.2 4)), (0, .ref 165), (1, .int (nI c)), (2, .int k)], [.int r4]) rfl (fun _ => rfl) (cg_in _ (v := (V.2.2.2 4)) (l := 4) (h := 7)  (Option.some.inj e4)) ?_
        by_cases h4 : r4 = 0
        · rw [if_pos h4] at hE
          refine xe_c1t pg_126 114 rfl rfl h4 ?_
          refine xe_sn pg_126 2 (fr' := (116, [(3, .int (V.2.2.2 4)), (0, .ref 165), (1, .int (nI c)), (2, .int k)], [.int (nI c), .ref 165])) rfl ?_
          obtain ⟨r5, e5, hE⟩ := Option.bind_eq_some_iff.mp hE
          refine xe_cv pg_126 122 pg_122 [.int (nI c)] [] (none) rfl rfl rfl rfl ⟨Nat.le_of_ble_eq_true rfl, Nat.le_of_ble_eq_true rfl, Nat.le_of_ble_eq_true rfl⟩ ⟨rfl, rfl⟩ ⟨by decide, rfl, by decide⟩ (cg_closeNow _ (c := c) (by omega) e5) ?_
          cases hE
          exact xe_end pg_126 rfl
        · rw [if_neg h4] at hE
          refine xe_c1f pg_126 114 rfl rfl h4 ?_
          refine xe_sn pg_126 4 (fr' := (108, [(3, .int (V.2.2.2 4)), (0, .ref 165), (1, .int (nI c)), (2, .int k)], [.int (V.2.2.2 4), .int k, .int (nI c), .ref 165])) rfl ?_
          obtain ⟨r6, e6, hE⟩ := Option.bind_eq_some_iff.mp hE
          refine xe_cv pg_126 125 pg_125 [.int (nI c), .int k, .int (V.2.2.2 4)] [] (none) rfl rfl rfl rfl ⟨Nat.le_of_ble_eq_true rfl, Nat.le_of_ble_eq_true rfl, Nat.le_of_ble_eq_true rfl⟩ ⟨rfl, rfl⟩ ⟨by decide, rfl, by decide⟩ (cg_ofStream _ (c := c) (k := k) (o := (V.2.2.2 4)) (by omega) e6) ?_
          refine xe_sn pg_126 1 (fr' := (119, [(3, .int (V.2.2.2 4)), (0, .ref 165), (1, .int (nI c)), (2, .int k)], [])) rfl ?_
          cases hE
          exact xe_end pg_126 rfl
    · rw [if_neg h2] at hE
      refine xe_c2t pg_126 54 rfl rfl h2 ?_
      refine xe_sn pg_126 2 (fr' := (57, [(3, .int (V.2.2.2 4)), (0, .ref 165), (1, .int (nI c)), (2, .int k)], [.int 9, .int (V.2.2.2 4)])) rfl ?_
      refine xe_c2t pg_126 94 rfl rfl (fun z => absurd (h1.symm.trans z) (by decide)) ?_
      refine xe_sn pg_126 3 (fr' := (98, [(3, .int (V.2.2.2 4)), (0, .ref 165), (1, .int (nI c)), (2, .int k)], [.int 7, .int 4, .int (V.2.2.2 4)])) rfl ?_
      obtain ⟨r7, e7, hE⟩ := Option.bind_eq_some_iff.mp hE
      refine xe_callq pg_126 103 [.int (V.2.2.2 4), .int 4, .int 7] (.inl (some (.int r7))) (101, [(3, .int (V.2.2.2 4)), (0, .ref 165), (1, .int (nI c)), (2, .int k)], [.int r7]) rfl (fun _ => rfl) (cg_in _ (v := (V.2.2.2 4)) (l := 4) (h := 7)  (Option.some.inj e7)) ?_
      by_cases h5 : r7 = 0
      · rw [if_pos h5] at hE
        refine xe_c1t pg_126 114 rfl rfl h5 ?_
        refine xe_sn pg_126 2 (fr' := (116, [(3, .int (V.2.2.2 4)), (0, .ref 165), (1, .int (nI c)), (2, .int k)], [.int (nI c), .ref 165])) rfl ?_
        obtain ⟨r8, e8, hE⟩ := Option.bind_eq_some_iff.mp hE
        refine xe_cv pg_126 122 pg_122 [.int (nI c)] [] (none) rfl rfl rfl rfl ⟨Nat.le_of_ble_eq_true rfl, Nat.le_of_ble_eq_true rfl, Nat.le_of_ble_eq_true rfl⟩ ⟨rfl, rfl⟩ ⟨by decide, rfl, by decide⟩ (cg_closeNow _ (c := c) (by omega) e8) ?_
        cases hE
        exact xe_end pg_126 rfl
      · rw [if_neg h5] at hE
        refine xe_c1f pg_126 114 rfl rfl h5 ?_
        refine xe_sn pg_126 4 (fr' := (108, [(3, .int (V.2.2.2 4)), (0, .ref 165), (1, .int (nI c)), (2, .int k)], [.int (V.2.2.2 4), .int k, .int (nI c), .ref 165])) rfl ?_
        obtain ⟨r9, e9, hE⟩ := Option.bind_eq_some_iff.mp hE
        refine xe_cv pg_126 125 pg_125 [.int (nI c), .int k, .int (V.2.2.2 4)] [] (none) rfl rfl rfl rfl ⟨Nat.le_of_ble_eq_true rfl, Nat.le_of_ble_eq_true rfl, Nat.le_of_ble_eq_true rfl⟩ ⟨rfl, rfl⟩ ⟨by decide, rfl, by decide⟩ (cg_ofStream _ (c := c) (k := k) (o := (V.2.2.2 4)) (by omega) e9) ?_
        refine xe_sn pg_126 1 (fr' := (119, [(3, .int (V.2.2.2 4)), (0, .ref 165), (1, .int (nI c)), (2, .int k)], [])) rfl ?_
        cases hE
        exact xe_end pg_126 rfl
  · rw [if_neg h1] at hE
    refine xe_c2t pg_126 54 rfl rfl h1 ?_
    refine xe_sn pg_126 2 (fr' := (57, [(3, .int (V.2.2.2 4)), (0, .ref 165), (1, .int (nI c)), (2, .int k)], [.int 9, .int (V.2.2.2 4)])) rfl ?_
    by_cases h6 : (V.2.2.2 4) = 9
    · rw [if_pos h6] at hE
      refine xe_c2f pg_126 94 rfl rfl (fun z => z h6) ?_
      refine xe_sn pg_126 6 (fr' := (68, [(3, .int (V.2.2.2 4)), (0, .ref 165), (1, .int (nI c)), (2, .int k)], [.int (k + 1), .int (nI c), .ref 168])) rfl ?_
      refine ze_isx pg_126 c rfl ⟨by decide, by decide⟩ rfl (bn (by omega) (by decide)) (bc (n := 4) (by omega) (by decide)) (by decide) ?_
      refine xe_sn pg_126 5 (fr' := (74, [(3, .int (V.2.2.2 4)), (0, .ref 165), (1, .int (nI c)), (2, .int k)], [.int (k + 1), .int (nI c), .ref 165])) rfl ?_
      obtain ⟨r10, e10, hE⟩ := Option.bind_eq_some_iff.mp hE
      have e10q := Option.some.inj e10
      refine xe_cv pg_126 120 pg_120 [.int (nI c), .int (k + 1)] [] (none) rfl rfl rfl rfl ⟨Nat.le_of_ble_eq_true rfl, Nat.le_of_ble_eq_true rfl, Nat.le_of_ble_eq_true rfl⟩ ⟨rfl, rfl⟩ ⟨by decide, rfl, by decide⟩ (e10q ▸ cg_drop _ (c := c) (hop := (k + 1)) (by omega)) ?_
      refine xe_sn pg_126 4 (fr' := (83, [(3, .int (V.2.2.2 4)), (0, .ref 165), (1, .int (nI c)), (2, .int k)], [.int 2, .int (nI c), .ref 167])) rfl ?_
      refine ze_isx pg_126 c rfl ⟨by decide, by decide⟩ rfl (bn (by omega) (by decide)) (bc (n := 4) (by omega) (by decide)) (by decide) ?_
      refine xe_sn pg_126 4 (fr' := (90, [(3, .int (V.2.2.2 4)), (0, .ref 165), (1, .int (nI c)), (2, .int k)], [.int (-1), .int (nI c), .ref 171])) rfl ?_
      refine ze_isx pg_126 c rfl ⟨by decide, by decide⟩ rfl (bn (by omega) (by decide)) (bc (n := 4) (by omega) (by decide)) (by decide) ?_
      refine xe_sn pg_126 1 (fr' := (119, [(3, .int (V.2.2.2 4)), (0, .ref 165), (1, .int (nI c)), (2, .int k)], [])) rfl ?_
      cases hE
      exact xe_end pg_126 rfl
    · rw [if_neg h6] at hE
      refine xe_c2t pg_126 94 rfl rfl h6 ?_
      refine xe_sn pg_126 3 (fr' := (98, [(3, .int (V.2.2.2 4)), (0, .ref 165), (1, .int (nI c)), (2, .int k)], [.int 7, .int 4, .int (V.2.2.2 4)])) rfl ?_
      obtain ⟨r11, e11, hE⟩ := Option.bind_eq_some_iff.mp hE
      refine xe_callq pg_126 103 [.int (V.2.2.2 4), .int 4, .int 7] (.inl (some (.int r11))) (101, [(3, .int (V.2.2.2 4)), (0, .ref 165), (1, .int (nI c)), (2, .int k)], [.int r11]) rfl (fun _ => rfl) (cg_in _ (v := (V.2.2.2 4)) (l := 4) (h := 7)  (Option.some.inj e11)) ?_
      by_cases h7 : r11 = 0
      · rw [if_pos h7] at hE
        refine xe_c1t pg_126 114 rfl rfl h7 ?_
        refine xe_sn pg_126 2 (fr' := (116, [(3, .int (V.2.2.2 4)), (0, .ref 165), (1, .int (nI c)), (2, .int k)], [.int (nI c), .ref 165])) rfl ?_
        obtain ⟨r12, e12, hE⟩ := Option.bind_eq_some_iff.mp hE
        refine xe_cv pg_126 122 pg_122 [.int (nI c)] [] (none) rfl rfl rfl rfl ⟨Nat.le_of_ble_eq_true rfl, Nat.le_of_ble_eq_true rfl, Nat.le_of_ble_eq_true rfl⟩ ⟨rfl, rfl⟩ ⟨by decide, rfl, by decide⟩ (cg_closeNow _ (c := c) (by omega) e12) ?_
        cases hE
        exact xe_end pg_126 rfl
      · rw [if_neg h7] at hE
        refine xe_c1f pg_126 114 rfl rfl h7 ?_
        refine xe_sn pg_126 4 (fr' := (108, [(3, .int (V.2.2.2 4)), (0, .ref 165), (1, .int (nI c)), (2, .int k)], [.int (V.2.2.2 4), .int k, .int (nI c), .ref 165])) rfl ?_
        obtain ⟨r13, e13, hE⟩ := Option.bind_eq_some_iff.mp hE
        refine xe_cv pg_126 125 pg_125 [.int (nI c), .int k, .int (V.2.2.2 4)] [] (none) rfl rfl rfl rfl ⟨Nat.le_of_ble_eq_true rfl, Nat.le_of_ble_eq_true rfl, Nat.le_of_ble_eq_true rfl⟩ ⟨rfl, rfl⟩ ⟨by decide, rfl, by decide⟩ (cg_ofStream _ (c := c) (k := k) (o := (V.2.2.2 4)) (by omega) e13) ?_
        refine xe_sn pg_126 1 (fr' := (119, [(3, .int (V.2.2.2 4)), (0, .ref 165), (1, .int (nI c)), (2, .int k)], [])) rfl ?_
        cases hE
        exact xe_end pg_126 rfl

def g_toClient (V : xVt) (f : Int32) (c : Nat) (cm : Int32) : Option xVt := if cm = 2 then (if (if (if (V.1 167 c) = 1 then (1 : Int32) else (if (V.1 167 c) = 2 then (1 : Int32) else 0)) = 0 then (0 : Int32) else (if (V.1 168 c) ≤ 0 then (if (V.1 171 c) = f then (1 : Int32) else 0) else (if (V.1 169 (3 * c)) = f then (1 : Int32) else 0))) = 0 then (some (vx V 165 5 ((V.1 165 5) + 1))) else (if (V.1 168 c) = 0 then ((some (g_pair V 0)).bind fun r1 => (some (g_pair V 2)).bind fun r2 => (g_meet V c r1 r2).bind fun r3 => some r3) else (some (vx V 165 5 ((V.1 165 5) + 1))))) else (if cm = 3 then (if (if (if (V.1 167 c) = 1 then (1 : Int32) else (if (V.1 167 c) = 2 then (1 : Int32) else 0)) = 0 then (0 : Int32) else (if (V.1 168 c) ≤ 0 then (if (V.1 171 c) = f then (1 : Int32) else 0) else (if (V.1 169 (3 * c)) = f then (1 : Int32) else 0))) = 0 then (some (vx V 165 5 ((V.1 165 5) + 1))) else (if (V.1 168 c) ≤ 0 then (some (vx V 165 5 ((V.1 165 5) + 1))) else (if (V.2.1 165 27) < 0 then (if (V.1 168 c) ≤ (V.2.1 165 27) then ((g_closeNow V c).bind fun r4 => some r4) else (if bnd (((nI (12 * c)) + ((4 : Int32) * (if (V.1 168 c) ≤ (V.2.1 165 27) then (0 : Int32) else (V.2.1 165 27)))) + 3) 48 then ((some (g_isKnown V (V.1 170 (((nI (12 * c)) + ((4 : Int32) * (if (V.1 168 c) ≤ (V.2.1 165 27) then (0 : Int32) else (V.2.1 165 27)))) + 3).toNatClampNeg))).bind fun r5 => if r5 = 0 then ((g_closeNow V c).bind fun r6 => some r6) else ((some (g_fed V (V.1 170 (((nI (12 * c)) + ((4 : Int32) * (if (V.1 168 c) ≤ (V.2.1 165 27) then (0 : Int32) else (V.2.1 165 27)))) + 3).toNatClampNeg))).bind fun r7 => (g_clientFollows (vx V 170 (((nI (12 * c)) + ((4 : Int32) * (if (V.1 168 c) ≤ (V.2.1 165 27) then (0 : Int32) else (V.2.1 165 27)))) + 3).toNatClampNeg r7) c (V.2.1 165 27)).bind fun r8 => some r8)) else none)) else (if (V.1 168 c) ≤ (V.2.1 165 27) then ((g_closeNow V c).bind fun r9 => some r9) else ((some (vbs V (wrapB V.2.2.2 (V.1 170 (12 * c + 1)) 14))).bind fun r10 => if (r10.2.1 165 27) < 1 then (if (r10.1 168 c) ≤ (r10.2.1 165 27) then ((g_closeNow (vx r10 170 (12 * c + 1) (ks (V.1 170 (12 * c + 1)) 14)) c).bind fun r11 => some r11) else (if bnd (((nI (12 * c)) + ((4 : Int32) * (if (r10.1 168 c) ≤ (r10.2.1 165 27) then (0 : Int32) else (r10.2.1 165 27)))) + 3) 48 then ((some (g_isKnown (vx r10 170 (12 * c + 1) (ks (V.1 170 (12 * c + 1)) 14)) ((vx r10 170 (12 * c + 1) (ks (V.1 170 (12 * c + 1)) 14)).1 170 (((nI (12 * c)) + ((4 : Int32) * (if (r10.1 168 c) ≤ (r10.2.1 165 27) then (0 : Int32) else (r10.2.1 165 27)))) + 3).toNatClampNeg))).bind fun r12 => if r12 = 0 then ((g_closeNow (vx r10 170 (12 * c + 1) (ks (V.1 170 (12 * c + 1)) 14)) c).bind fun r13 => some r13) else ((some (g_fed (vx r10 170 (12 * c + 1) (ks (V.1 170 (12 * c + 1)) 14)) ((vx r10 170 (12 * c + 1) (ks (V.1 170 (12 * c + 1)) 14)).1 170 (((nI (12 * c)) + ((4 : Int32) * (if (r10.1 168 c) ≤ (r10.2.1 165 27) then (0 : Int32) else (r10.2.1 165 27)))) + 3).toNatClampNeg))).bind fun r14 => (g_clientFollows (vx (vx r10 170 (12 * c + 1) (ks (V.1 170 (12 * c + 1)) 14)) 170 (((nI (12 * c)) + ((4 : Int32) * (if (r10.1 168 c) ≤ (r10.2.1 165 27) then (0 : Int32) else (r10.2.1 165 27)))) + 3).toNatClampNeg r14) c (r10.2.1 165 27)).bind fun r15 => some r15)) else none)) else (if (r10.1 168 c) ≤ (r10.2.1 165 27) then ((g_closeNow (vx r10 170 (12 * c + 1) (ks (V.1 170 (12 * c + 1)) 14)) c).bind fun r16 => some r16) else ((some (vbs (vx r10 170 (12 * c + 1) (ks (V.1 170 (12 * c + 1)) 14)) (wrapB (vx r10 170 (12 * c + 1) (ks (V.1 170 (12 * c + 1)) 14)).2.2.2 ((vx r10 170 (12 * c + 1) (ks (V.1 170 (12 * c + 1)) 14)).1 170 (12 * c + 5)) 14))).bind fun r17 => if (r17.2.1 165 27) < 2 then (if (r17.1 168 c) ≤ (r17.2.1 165 27) then ((g_closeNow (vx r17 170 (12 * c + 5) (ks ((vx r10 170 (12 * c + 1) (ks (V.1 170 (12 * c + 1)) 14)).1 170 (12 * c + 5)) 14)) c).bind fun r18 => some r18) else (if bnd (((nI (12 * c)) + ((4 : Int32) * (if (r17.1 168 c) ≤ (r17.2.1 165 27) then (0 : Int32) else (r17.2.1 165 27)))) + 3) 48 then ((some (g_isKnown (vx r17 170 (12 * c + 5) (ks ((vx r10 170 (12 * c + 1) (ks (V.1 170 (12 * c + 1)) 14)).1 170 (12 * c + 5)) 14)) ((vx r17 170 (12 * c + 5) (ks ((vx r10 170 (12 * c + 1) (ks (V.1 170 (12 * c + 1)) 14)).1 170 (12 * c + 5)) 14)).1 170 (((nI (12 * c)) + ((4 : Int32) * (if (r17.1 168 c) ≤ (r17.2.1 165 27) then (0 : Int32) else (r17.2.1 165 27)))) + 3).toNatClampNeg))).bind fun r19 => if r19 = 0 then ((g_closeNow (vx r17 170 (12 * c + 5) (ks ((vx r10 170 (12 * c + 1) (ks (V.1 170 (12 * c + 1)) 14)).1 170 (12 * c + 5)) 14)) c).bind fun r20 => some r20) else ((some (g_fed (vx r17 170 (12 * c + 5) (ks ((vx r10 170 (12 * c + 1) (ks (V.1 170 (12 * c + 1)) 14)).1 170 (12 * c + 5)) 14)) ((vx r17 170 (12 * c + 5) (ks ((vx r10 170 (12 * c + 1) (ks (V.1 170 (12 * c + 1)) 14)).1 170 (12 * c + 5)) 14)).1 170 (((nI (12 * c)) + ((4 : Int32) * (if (r17.1 168 c) ≤ (r17.2.1 165 27) then (0 : Int32) else (r17.2.1 165 27)))) + 3).toNatClampNeg))).bind fun r21 => (g_clientFollows (vx (vx r17 170 (12 * c + 5) (ks ((vx r10 170 (12 * c + 1) (ks (V.1 170 (12 * c + 1)) 14)).1 170 (12 * c + 5)) 14)) 170 (((nI (12 * c)) + ((4 : Int32) * (if (r17.1 168 c) ≤ (r17.2.1 165 27) then (0 : Int32) else (r17.2.1 165 27)))) + 3).toNatClampNeg r21) c (r17.2.1 165 27)).bind fun r22 => some r22)) else none)) else (if (r17.1 168 c) ≤ (r17.2.1 165 27) then ((g_closeNow (vx r17 170 (12 * c + 5) (ks ((vx r10 170 (12 * c + 1) (ks (V.1 170 (12 * c + 1)) 14)).1 170 (12 * c + 5)) 14)) c).bind fun r23 => some r23) else ((some (vbs (vx r17 170 (12 * c + 5) (ks ((vx r10 170 (12 * c + 1) (ks (V.1 170 (12 * c + 1)) 14)).1 170 (12 * c + 5)) 14)) (wrapB (vx r17 170 (12 * c + 5) (ks ((vx r10 170 (12 * c + 1) (ks (V.1 170 (12 * c + 1)) 14)).1 170 (12 * c + 5)) 14)).2.2.2 ((vx r17 170 (12 * c + 5) (ks ((vx r10 170 (12 * c + 1) (ks (V.1 170 (12 * c + 1)) 14)).1 170 (12 * c + 5)) 14)).1 170 (12 * c + 9)) 14))).bind fun r24 => if (r24.2.1 165 27) < 3 then (if (r24.1 168 c) ≤ (r24.2.1 165 27) then ((g_closeNow (vx r24 170 (12 * c + 9) (ks ((vx r17 170 (12 * c + 5) (ks ((vx r10 170 (12 * c + 1) (ks (V.1 170 (12 * c + 1)) 14)).1 170 (12 * c + 5)) 14)).1 170 (12 * c + 9)) 14)) c).bind fun r25 => some r25) else (if bnd (((nI (12 * c)) + ((4 : Int32) * (if (r24.1 168 c) ≤ (r24.2.1 165 27) then (0 : Int32) else (r24.2.1 165 27)))) + 3) 48 then ((some (g_isKnown (vx r24 170 (12 * c + 9) (ks ((vx r17 170 (12 * c + 5) (ks ((vx r10 170 (12 * c + 1) (ks (V.1 170 (12 * c + 1)) 14)).1 170 (12 * c + 5)) 14)).1 170 (12 * c + 9)) 14)) ((vx r24 170 (12 * c + 9) (ks ((vx r17 170 (12 * c + 5) (ks ((vx r10 170 (12 * c + 1) (ks (V.1 170 (12 * c + 1)) 14)).1 170 (12 * c + 5)) 14)).1 170 (12 * c + 9)) 14)).1 170 (((nI (12 * c)) + ((4 : Int32) * (if (r24.1 168 c) ≤ (r24.2.1 165 27) then (0 : Int32) else (r24.2.1 165 27)))) + 3).toNatClampNeg))).bind fun r26 => if r26 = 0 then ((g_closeNow (vx r24 170 (12 * c + 9) (ks ((vx r17 170 (12 * c + 5) (ks ((vx r10 170 (12 * c + 1) (ks (V.1 170 (12 * c + 1)) 14)).1 170 (12 * c + 5)) 14)).1 170 (12 * c + 9)) 14)) c).bind fun r27 => some r27) else ((some (g_fed (vx r24 170 (12 * c + 9) (ks ((vx r17 170 (12 * c + 5) (ks ((vx r10 170 (12 * c + 1) (ks (V.1 170 (12 * c + 1)) 14)).1 170 (12 * c + 5)) 14)).1 170 (12 * c + 9)) 14)) ((vx r24 170 (12 * c + 9) (ks ((vx r17 170 (12 * c + 5) (ks ((vx r10 170 (12 * c + 1) (ks (V.1 170 (12 * c + 1)) 14)).1 170 (12 * c + 5)) 14)).1 170 (12 * c + 9)) 14)).1 170 (((nI (12 * c)) + ((4 : Int32) * (if (r24.1 168 c) ≤ (r24.2.1 165 27) then (0 : Int32) else (r24.2.1 165 27)))) + 3).toNatClampNeg))).bind fun r28 => (g_clientFollows (vx (vx r24 170 (12 * c + 9) (ks ((vx r17 170 (12 * c + 5) (ks ((vx r10 170 (12 * c + 1) (ks (V.1 170 (12 * c + 1)) 14)).1 170 (12 * c + 5)) 14)).1 170 (12 * c + 9)) 14)) 170 (((nI (12 * c)) + ((4 : Int32) * (if (r24.1 168 c) ≤ (r24.2.1 165 27) then (0 : Int32) else (r24.2.1 165 27)))) + 3).toNatClampNeg r28) c (r24.2.1 165 27)).bind fun r29 => some r29)) else none)) else (if (r24.1 168 c) ≤ (r24.2.1 165 27) then ((g_closeNow (vx r24 170 (12 * c + 9) (ks ((vx r17 170 (12 * c + 5) (ks ((vx r10 170 (12 * c + 1) (ks (V.1 170 (12 * c + 1)) 14)).1 170 (12 * c + 5)) 14)).1 170 (12 * c + 9)) 14)) c).bind fun r30 => some r30) else none)))))))))) else (if cm = 4 then (if (if (if (V.1 167 c) = 1 then (1 : Int32) else (if (V.1 167 c) = 2 then (1 : Int32) else 0)) = 0 then (0 : Int32) else (if (V.1 168 c) ≤ 0 then (if (V.1 171 c) = f then (1 : Int32) else 0) else (if (V.1 169 (3 * c)) = f then (1 : Int32) else 0))) = 0 then (some (vx V 165 5 ((V.1 165 5) + 1))) else ((g_ended V c).bind fun r31 => some r31)) else (some (vx V 165 5 ((V.1 165 5) + 1)))))
set_option maxRecDepth 100000 in
theorem cg_toClient (d : Nat) {w : xWd} {S : xSt} {V : xVt} {ρ : Nat → Nat → Int64} {f : Int32} {c : Nat} {cm : Int32} (hc : c < 4) {r : xVt} (hE : (g_toClient V f c cm) = some r) : xc (d + 5) 127 [.ref 165, .int f, .int (nI c), .int cm] (hv w S V ρ) (.inl (none), hv w S r ρ) := by
  unfold g_toClient at hE
  refine xe_sn pg_127 3 (fr' := (5, [(0, .ref 165), (1, .int f), (2, .int (nI c)), (3, .int cm)], [.int (nI c), .ref 167])) rfl ?_
  refine ze_il pg_127 c (V.1 167 c) rfl ⟨by decide, by decide⟩ rfl (bn (by omega) (by decide)) (bc (n := 4) (by omega) (by decide)) rfl ?_
  refine xe_sn pg_127 1 (fr' := (7, [(0, .ref 165), (1, .int f), (2, .int (nI c)), (3, .int cm)], [.int 1, .int (V.1 167 c)])) rfl ?_
  refine xe_jn (fr' := (25, [(0, .ref 165), (1, .int f), (2, .int (nI c)), (3, .int cm)], [.int (if (V.1 167 c) = 1 then (1 : Int32) else (if (V.1 167 c) = 2 then (1 : Int32) else 0))])) (fun J1 => ?_) ?_
  · by_cases h1 : (V.1 167 c) = 1
    · rw [show (if (V.1 167 c) = 1 then (1 : Int32) else (if (V.1 167 c) = 2 then (1 : Int32) else 0)) = 1 from if_pos h1] at J1
      refine xe_c2t pg_127 20 rfl rfl h1 ?_
      refine xe_sn pg_127 2 (fr' := (25, [(0, .ref 165), (1, .int f), (2, .int (nI c)), (3, .int cm)], [.int 1])) rfl ?_
      exact J1
    · rw [show (if (V.1 167 c) = 1 then (1 : Int32) else (if (V.1 167 c) = 2 then (1 : Int32) else 0)) = (if (V.1 167 c) = 2 then (1 : Int32) else 0) from if_neg h1] at J1
      refine xe_c2f pg_127 20 rfl rfl h1 ?_
      refine xe_sn pg_127 3 (fr' := (15, [(0, .ref 165), (1, .int f), (2, .int (nI c)), (3, .int cm)], [.int (nI c), .ref 167])) rfl ?_
      refine ze_il pg_127 c (V.1 167 c) rfl ⟨by decide, by decide⟩ rfl (bn (by omega) (by decide)) (bc (n := 4) (by omega) (by decide)) rfl ?_
      refine xe_sn pg_127 1 (fr' := (17, [(0, .ref 165), (1, .int f), (2, .int (nI c)), (3, .int cm)], [.int 2, .int (V.1 167 c)])) rfl ?_
      refine xe_jn (fr' := (25, [(0, .ref 165), (1, .int f), (2, .int (nI c)), (3, .int cm)], [.int (if (V.1 167 c) = 2 then (1 : Int32) else 0)])) (fun J2 => ?_) ?_
      · by_cases h2 : (V.1 167 c) = 2
        · rw [show (if (V.1 167 c) = 2 then (1 : Int32) else 0) = 1 from if_pos h2] at J2
          refine xe_c2f pg_127 24 rfl rfl (fun z => z h2) ?_
          refine xe_sn pg_127 2 (fr' := (25, [(0, .ref 165), (1, .int f), (2, .int (nI c)), (3, .int cm)], [.int 1])) rfl ?_
          exact J2
        · rw [show (if (V.1 167 c) = 2 then (1 : Int32) else 0) = 0 from if_neg h2] at J2
          refine xe_c2t pg_127 24 rfl rfl h2 ?_
          refine xe_sn pg_127 1 (fr' := (25, [(0, .ref 165), (1, .int f), (2, .int (nI c)), (3, .int cm)], [.int 0])) rfl ?_
          exact J2
      exact J1
  refine xe_sn pg_127 2 (fr' := (29, [(4, .int (if (V.1 167 c) = 1 then (1 : Int32) else (if (V.1 167 c) = 2 then (1 : Int32) else 0))), (0, .ref 165), (1, .int f), (2, .int (nI c)), (3, .int cm)], [.int (if (V.1 167 c) = 1 then (1 : Int32) else (if (V.1 167 c) = 2 then (1 : Int32) else 0))])) rfl ?_
  refine xe_jn (fr' := (71, [(4, .int (if (V.1 167 c) = 1 then (1 : Int32) else (if (V.1 167 c) = 2 then (1 : Int32) else 0))), (0, .ref 165), (1, .int f), (2, .int (nI c)), (3, .int cm)], [.int (if (if (V.1 167 c) = 1 then (1 : Int32) else (if (V.1 167 c) = 2 then (1 : Int32) else 0)) = 0 then (0 : Int32) else (if (V.1 168 c) ≤ 0 then (if (V.1 171 c) = f then (1 : Int32) else 0) else (if (V.1 169 (3 * c)) = f then (1 : Int32) else 0)))])) (fun J3 => ?_) ?_
  · by_cases h3 : (if (V.1 167 c) = 1 then (1 : Int32) else (if (V.1 167 c) = 2 then (1 : Int32) else 0)) = 0
    · rw [show (if (if (V.1 167 c) = 1 then (1 : Int32) else (if (V.1 167 c) = 2 then (1 : Int32) else 0)) = 0 then (0 : Int32) else (if (V.1 168 c) ≤ 0 then (if (V.1 171 c) = f then (1 : Int32) else 0) else (if (V.1 169 (3 * c)) = f then (1 : Int32) else 0))) = 0 from if_pos h3] at J3
      refine xe_c1t pg_127 70 rfl rfl h3 ?_
      refine xe_sn pg_127 1 (fr' := (71, [(4, .int (if (V.1 167 c) = 1 then (1 : Int32) else (if (V.1 167 c) = 2 then (1 : Int32) else 0))), (0, .ref 165), (1, .int f), (2, .int (nI c)), (3, .int cm)], [.int 0])) rfl ?_
      exact J3
    · rw [show (if (if (V.1 167 c) = 1 then (1 : Int32) else (if (V.1 167 c) = 2 then (1 : Int32) else 0)) = 0 then (0 : Int32) else (if (V.1 168 c) ≤ 0 then (if (V.1 171 c) = f then (1 : Int32) else 0) else (if (V.1 169 (3 * c)) = f then (1 : Int32) else 0))) = (if (V.1 168 c) ≤ 0 then (if (V.1 171 c) = f then (1 : Int32) else 0) else (if (V.1 169 (3 * c)) = f then (1 : Int32) else 0)) from if_neg h3] at J3
      refine xe_c1f pg_127 70 rfl rfl h3 ?_
      refine xe_sn pg_127 3 (fr' := (37, [(4, .int (if (V.1 167 c) = 1 then (1 : Int32) else (if (V.1 167 c) = 2 then (1 : Int32) else 0))), (0, .ref 165), (1, .int f), (2, .int (nI c)), (3, .int cm)], [.int (nI c), .ref 168])) rfl ?_
      refine ze_il pg_127 c (V.1 168 c) rfl ⟨by decide, by decide⟩ rfl (bn (by omega) (by decide)) (bc (n := 4) (by omega) (by decide)) rfl ?_
      refine xe_jn (fr' := (71, [(4, .int (if (V.1 167 c) = 1 then (1 : Int32) else (if (V.1 167 c) = 2 then (1 : Int32) else 0))), (0, .ref 165), (1, .int f), (2, .int (nI c)), (3, .int cm)], [.int (if (V.1 168 c) ≤ 0 then (if (V.1 171 c) = f then (1 : Int32) else 0) else (if (V.1 169 (3 * c)) = f then (1 : Int32) else 0))])) (fun J4 => ?_) ?_
      · by_cases h4 : (V.1 168 c) ≤ 0
        · rw [show (if (V.1 168 c) ≤ 0 then (if (V.1 171 c) = f then (1 : Int32) else 0) else (if (V.1 169 (3 * c)) = f then (1 : Int32) else 0)) = (if (V.1 171 c) = f then (1 : Int32) else 0) from if_pos h4] at J4
          refine xe_c1t pg_127 56 rfl rfl h4 ?_
          refine xe_sn pg_127 3 (fr' := (61, [(4, .int (if (V.1 167 c) = 1 then (1 : Int32) else (if (V.1 167 c) = 2 then (1 : Int32) else 0))), (0, .ref 165), (1, .int f), (2, .int (nI c)), (3, .int cm)], [.int (nI c), .ref 171])) rfl ?_
          refine ze_il pg_127 c (V.1 171 c) rfl ⟨by decide, by decide⟩ rfl (bn (by omega) (by decide)) (bc (n := 4) (by omega) (by decide)) rfl ?_
          refine xe_sn pg_127 1 (fr' := (63, [(4, .int (if (V.1 167 c) = 1 then (1 : Int32) else (if (V.1 167 c) = 2 then (1 : Int32) else 0))), (0, .ref 165), (1, .int f), (2, .int (nI c)), (3, .int cm)], [.int f, .int (V.1 171 c)])) rfl ?_
          refine xe_jn (fr' := (71, [(4, .int (if (V.1 167 c) = 1 then (1 : Int32) else (if (V.1 167 c) = 2 then (1 : Int32) else 0))), (0, .ref 165), (1, .int f), (2, .int (nI c)), (3, .int cm)], [.int (if (V.1 171 c) = f then (1 : Int32) else 0)])) (fun J5 => ?_) ?_
          · by_cases h5 : (V.1 171 c) = f
            · rw [show (if (V.1 171 c) = f then (1 : Int32) else 0) = 1 from if_pos h5] at J5
              refine xe_c2f pg_127 70 rfl rfl (fun z => z h5) ?_
              refine xe_sn pg_127 2 (fr' := (71, [(4, .int (if (V.1 167 c) = 1 then (1 : Int32) else (if (V.1 167 c) = 2 then (1 : Int32) else 0))), (0, .ref 165), (1, .int f), (2, .int (nI c)), (3, .int cm)], [.int 1])) rfl ?_
              exact J5
            · rw [show (if (V.1 171 c) = f then (1 : Int32) else 0) = 0 from if_neg h5] at J5
              refine xe_c2t pg_127 70 rfl rfl h5 ?_
              refine xe_sn pg_127 1 (fr' := (71, [(4, .int (if (V.1 167 c) = 1 then (1 : Int32) else (if (V.1 167 c) = 2 then (1 : Int32) else 0))), (0, .ref 165), (1, .int f), (2, .int (nI c)), (3, .int cm)], [.int 0])) rfl ?_
              exact J5
          exact J4
        · rw [show (if (V.1 168 c) ≤ 0 then (if (V.1 171 c) = f then (1 : Int32) else 0) else (if (V.1 169 (3 * c)) = f then (1 : Int32) else 0)) = (if (V.1 169 (3 * c)) = f then (1 : Int32) else 0) from if_neg h4] at J4
          refine xe_c1f pg_127 56 rfl rfl h4 ?_
          refine xe_sn pg_127 4 (fr' := (47, [(4, .int (if (V.1 167 c) = 1 then (1 : Int32) else (if (V.1 167 c) = 2 then (1 : Int32) else 0))), (0, .ref 165), (1, .int f), (2, .int (nI c)), (3, .int cm)], [.int (nI c), .int 3, .ref 169])) rfl ?_
          refine xe_nm pg_127 3 c (3 * c) rfl (by omega) ?_
          refine ze_il pg_127 (3 * c) (V.1 169 (3 * c)) rfl ⟨by decide, by decide⟩ rfl (bn (by omega) (by decide)) (bc (n := 12) (by omega) (by decide)) rfl ?_
          refine xe_sn pg_127 1 (fr' := (50, [(4, .int (if (V.1 167 c) = 1 then (1 : Int32) else (if (V.1 167 c) = 2 then (1 : Int32) else 0))), (0, .ref 165), (1, .int f), (2, .int (nI c)), (3, .int cm)], [.int f, .int (V.1 169 (3 * c))])) rfl ?_
          refine xe_jn (fr' := (71, [(4, .int (if (V.1 167 c) = 1 then (1 : Int32) else (if (V.1 167 c) = 2 then (1 : Int32) else 0))), (0, .ref 165), (1, .int f), (2, .int (nI c)), (3, .int cm)], [.int (if (V.1 169 (3 * c)) = f then (1 : Int32) else 0)])) (fun J6 => ?_) ?_
          · by_cases h6 : (V.1 169 (3 * c)) = f
            · rw [show (if (V.1 169 (3 * c)) = f then (1 : Int32) else 0) = 1 from if_pos h6] at J6
              refine xe_c2f pg_127 70 rfl rfl (fun z => z h6) ?_
              refine xe_sn pg_127 1 (fr' := (66, [(4, .int (if (V.1 167 c) = 1 then (1 : Int32) else (if (V.1 167 c) = 2 then (1 : Int32) else 0))), (0, .ref 165), (1, .int f), (2, .int (nI c)), (3, .int cm)], [])) rfl ?_
              refine xe_sn pg_127 2 (fr' := (71, [(4, .int (if (V.1 167 c) = 1 then (1 : Int32) else (if (V.1 167 c) = 2 then (1 : Int32) else 0))), (0, .ref 165), (1, .int f), (2, .int (nI c)), (3, .int cm)], [.int 1])) rfl ?_
              exact J6
            · rw [show (if (V.1 169 (3 * c)) = f then (1 : Int32) else 0) = 0 from if_neg h6] at J6
              refine xe_c2t pg_127 70 rfl rfl h6 ?_
              refine xe_sn pg_127 1 (fr' := (71, [(4, .int (if (V.1 167 c) = 1 then (1 : Int32) else (if (V.1 167 c) = 2 then (1 : Int32) else 0))), (0, .ref 165), (1, .int f), (2, .int (nI c)), (3, .int cm)], [.int 0])) rfl ?_
              exact J6
          exact J4
      exact J3
  refine xe_sn pg_127 3 (fr' := (75, [(5, .int (if (if (V.1 167 c) = 1 then (1 : Int32) else (if (V.1 167 c) = 2 then (1 : Int32) else 0)) = 0 then (0 : Int32) else (if (V.1 168 c) ≤ 0 then (if (V.1 171 c) = f then (1 : Int32) else 0) else (if (V.1 169 (3 * c)) = f then (1 : Int32) else 0)))), (4, .int (if (V.1 167 c) = 1 then (1 : Int32) else (if (V.1 167 c) = 2 then (1 : Int32) else 0))), (0, .ref 165), (1, .int f), (2, .int (nI c)), (3, .int cm)], [.int 2, .int cm])) rfl ?_
  by_cases h7 : cm = 2
  · rw [if_pos h7] at hE
    refine xe_c2f pg_127 110 rfl rfl (fun z => z h7) ?_
    refine xe_sn pg_127 1 (fr' := (80, [(5, .int (if (if (V.1 167 c) = 1 then (1 : Int32) else (if (V.1 167 c) = 2 then (1 : Int32) else 0)) = 0 then (0 : Int32) else (if (V.1 168 c) ≤ 0 then (if (V.1 171 c) = f then (1 : Int32) else 0) else (if (V.1 169 (3 * c)) = f then (1 : Int32) else 0)))), (4, .int (if (V.1 167 c) = 1 then (1 : Int32) else (if (V.1 167 c) = 2 then (1 : Int32) else 0))), (0, .ref 165), (1, .int f), (2, .int (nI c)), (3, .int cm)], [.int (if (if (V.1 167 c) = 1 then (1 : Int32) else (if (V.1 167 c) = 2 then (1 : Int32) else 0)) = 0 then (0 : Int32) else (if (V.1 168 c) ≤ 0 then (if (V.1 171 c) = f then (1 : Int32) else 0) else (if (V.1 169 (3 * c)) = f then (1 : Int32) else 0)))])) rfl ?_
    by_cases h8 : (if (if (V.1 167 c) = 1 then (1 : Int32) else (if (V.1 167 c) = 2 then (1 : Int32) else 0)) = 0 then (0 : Int32) else (if (V.1 168 c) ≤ 0 then (if (V.1 171 c) = f then (1 : Int32) else 0) else (if (V.1 169 (3 * c)) = f then (1 : Int32) else 0))) = 0
    · rw [if_pos h8] at hE
      refine xe_c1t pg_127 110 rfl rfl h8 ?_
      refine xe_sn pg_127 2 (fr' := (112, [(5, .int (if (if (V.1 167 c) = 1 then (1 : Int32) else (if (V.1 167 c) = 2 then (1 : Int32) else 0)) = 0 then (0 : Int32) else (if (V.1 168 c) ≤ 0 then (if (V.1 171 c) = f then (1 : Int32) else 0) else (if (V.1 169 (3 * c)) = f then (1 : Int32) else 0)))), (4, .int (if (V.1 167 c) = 1 then (1 : Int32) else (if (V.1 167 c) = 2 then (1 : Int32) else 0))), (0, .ref 165), (1, .int f), (2, .int (nI c)), (3, .int cm)], [.int 3, .int cm])) rfl ?_
      refine xe_c2t pg_127 293 rfl rfl (fun z => absurd (h7.symm.trans z) (by decide)) ?_
      refine xe_sn pg_127 2 (fr' := (295, [(5, .int (if (if (V.1 167 c) = 1 then (1 : Int32) else (if (V.1 167 c) = 2 then (1 : Int32) else 0)) = 0 then (0 : Int32) else (if (V.1 168 c) ≤ 0 then (if (V.1 171 c) = f then (1 : Int32) else 0) else (if (V.1 169 (3 * c)) = f then (1 : Int32) else 0)))), (4, .int (if (V.1 167 c) = 1 then (1 : Int32) else (if (V.1 167 c) = 2 then (1 : Int32) else 0))), (0, .ref 165), (1, .int f), (2, .int (nI c)), (3, .int cm)], [.int 4, .int cm])) rfl ?_
      refine xe_c2t pg_127 311 rfl rfl (fun z => absurd (h7.symm.trans z) (by decide)) ?_
      refine xe_sn pg_127 2 (fr' := (313, [(5, .int (if (if (V.1 167 c) = 1 then (1 : Int32) else (if (V.1 167 c) = 2 then (1 : Int32) else 0)) = 0 then (0 : Int32) else (if (V.1 168 c) ≤ 0 then (if (V.1 171 c) = f then (1 : Int32) else 0) else (if (V.1 169 (3 * c)) = f then (1 : Int32) else 0)))), (4, .int (if (V.1 167 c) = 1 then (1 : Int32) else (if (V.1 167 c) = 2 then (1 : Int32) else 0))), (0, .ref 165), (1, .int f), (2, .int (nI c)), (3, .int cm)], [.ref 165, .ref 165])) rfl ?_
      refine ze_gi pg_127 (V.1 165 5) rfl rfl rfl rfl ?_
      refine xe_sn pg_127 2 (fr' := (318, [(5, .int (if (if (V.1 167 c) = 1 then (1 : Int32) else (if (V.1 167 c) = 2 then (1 : Int32) else 0)) = 0 then (0 : Int32) else (if (V.1 168 c) ≤ 0 then (if (V.1 171 c) = f then (1 : Int32) else 0) else (if (V.1 169 (3 * c)) = f then (1 : Int32) else 0)))), (4, .int (if (V.1 167 c) = 1 then (1 : Int32) else (if (V.1 167 c) = 2 then (1 : Int32) else 0))), (0, .ref 165), (1, .int f), (2, .int (nI c)), (3, .int cm)], [.int ((V.1 165 5) + 1), .ref 165])) rfl ?_
      refine ze_px pg_127 rfl rfl ⟨rfl, rfl⟩ (Or.inl rfl) (by decide) ?_
      cases hE
      exact xe_end pg_127 rfl
    · rw [if_neg h8] at hE
      refine xe_c1f pg_127 110 rfl rfl h8 ?_
      refine xe_sn pg_127 3 (fr' := (88, [(5, .int (if (if (V.1 167 c) = 1 then (1 : Int32) else (if (V.1 167 c) = 2 then (1 : Int32) else 0)) = 0 then (0 : Int32) else (if (V.1 168 c) ≤ 0 then (if (V.1 171 c) = f then (1 : Int32) else 0) else (if (V.1 169 (3 * c)) = f then (1 : Int32) else 0)))), (4, .int (if (V.1 167 c) = 1 then (1 : Int32) else (if (V.1 167 c) = 2 then (1 : Int32) else 0))), (0, .ref 165), (1, .int f), (2, .int (nI c)), (3, .int cm)], [.int (nI c), .ref 168])) rfl ?_
      refine ze_il pg_127 c (V.1 168 c) rfl ⟨by decide, by decide⟩ rfl (bn (by omega) (by decide)) (bc (n := 4) (by omega) (by decide)) rfl ?_
      by_cases h9 : (V.1 168 c) = 0
      · rw [if_pos h9] at hE
        refine xe_c1f pg_127 110 rfl rfl (fun z => z h9) ?_
        refine xe_sn pg_127 4 (fr' := (96, [(5, .int (if (if (V.1 167 c) = 1 then (1 : Int32) else (if (V.1 167 c) = 2 then (1 : Int32) else 0)) = 0 then (0 : Int32) else (if (V.1 168 c) ≤ 0 then (if (V.1 171 c) = f then (1 : Int32) else 0) else (if (V.1 169 (3 * c)) = f then (1 : Int32) else 0)))), (4, .int (if (V.1 167 c) = 1 then (1 : Int32) else (if (V.1 167 c) = 2 then (1 : Int32) else 0))), (0, .ref 165), (1, .int f), (2, .int (nI c)), (3, .int cm)], [.int 0, .ref 165, .int (nI c), .ref 165])) rfl ?_
        obtain ⟨r1, e1, hE⟩ := Option.bind_eq_some_iff.mp hE
        refine xe_cv pg_127 111 pg_111 [.int 0] [.int (nI c), .ref 165] (some (.int r1)) rfl rfl rfl rfl ⟨Nat.le_of_ble_eq_true rfl, Nat.le_of_ble_eq_true rfl, Nat.le_of_ble_eq_true rfl⟩ ⟨rfl, rfl⟩ ⟨by decide, rfl, by decide⟩ (cg_pair _ (k := 0) (by omega) (Option.some.inj e1)) ?_
        refine xe_sn pg_127 2 (fr' := (101, [(5, .int (if (if (V.1 167 c) = 1 then (1 : Int32) else (if (V.1 167 c) = 2 then (1 : Int32) else 0)) = 0 then (0 : Int32) else (if (V.1 168 c) ≤ 0 then (if (V.1 171 c) = f then (1 : Int32) else 0) else (if (V.1 169 (3 * c)) = f then (1 : Int32) else 0)))), (4, .int (if (V.1 167 c) = 1 then (1 : Int32) else (if (V.1 167 c) = 2 then (1 : Int32) else 0))), (0, .ref 165), (1, .int f), (2, .int (nI c)), (3, .int cm)], [.int 2, .ref 165, .int r1, .int (nI c), .ref 165])) rfl ?_
        obtain ⟨r2, e2, hE⟩ := Option.bind_eq_some_iff.mp hE
        refine xe_cv pg_127 111 pg_111 [.int 2] [.int r1, .int (nI c), .ref 165] (some (.int r2)) rfl rfl rfl rfl ⟨Nat.le_of_ble_eq_true rfl, Nat.le_of_ble_eq_true rfl, Nat.le_of_ble_eq_true rfl⟩ ⟨rfl, rfl⟩ ⟨by decide, rfl, by decide⟩ (cg_pair _ (k := 2) (by omega) (Option.some.inj e2)) ?_
        obtain ⟨r3, e3, hE⟩ := Option.bind_eq_some_iff.mp hE
        refine xe_cv pg_127 124 pg_124 [.int (nI c), .int r1, .int r2] [] (none) rfl rfl rfl rfl ⟨Nat.le_of_ble_eq_true rfl, Nat.le_of_ble_eq_true rfl, Nat.le_of_ble_eq_true rfl⟩ ⟨rfl, rfl⟩ ⟨by decide, rfl, by decide⟩ (cg_meet _ (c := c) (y := r1) (tg := r2) (by omega) e3) ?_
        refine xe_sn pg_127 1 (fr' := (321, [(5, .int (if (if (V.1 167 c) = 1 then (1 : Int32) else (if (V.1 167 c) = 2 then (1 : Int32) else 0)) = 0 then (0 : Int32) else (if (V.1 168 c) ≤ 0 then (if (V.1 171 c) = f then (1 : Int32) else 0) else (if (V.1 169 (3 * c)) = f then (1 : Int32) else 0)))), (4, .int (if (V.1 167 c) = 1 then (1 : Int32) else (if (V.1 167 c) = 2 then (1 : Int32) else 0))), (0, .ref 165), (1, .int f), (2, .int (nI c)), (3, .int cm)], [])) rfl ?_
        cases hE
        exact xe_end pg_127 rfl
      · rw [if_neg h9] at hE
        refine xe_c1t pg_127 110 rfl rfl h9 ?_
        refine xe_sn pg_127 2 (fr' := (112, [(5, .int (if (if (V.1 167 c) = 1 then (1 : Int32) else (if (V.1 167 c) = 2 then (1 : Int32) else 0)) = 0 then (0 : Int32) else (if (V.1 168 c) ≤ 0 then (if (V.1 171 c) = f then (1 : Int32) else 0) else (if (V.1 169 (3 * c)) = f then (1 : Int32) else 0)))), (4, .int (if (V.1 167 c) = 1 then (1 : Int32) else (if (V.1 167 c) = 2 then (1 : Int32) else 0))), (0, .ref 165), (1, .int f), (2, .int (nI c)), (3, .int cm)], [.int 3, .int cm])) rfl ?_
        refine xe_c2t pg_127 293 rfl rfl (fun z => absurd (h7.symm.trans z) (by decide)) ?_
        refine xe_sn pg_127 2 (fr' := (295, [(5, .int (if (if (V.1 167 c) = 1 then (1 : Int32) else (if (V.1 167 c) = 2 then (1 : Int32) else 0)) = 0 then (0 : Int32) else (if (V.1 168 c) ≤ 0 then (if (V.1 171 c) = f then (1 : Int32) else 0) else (if (V.1 169 (3 * c)) = f then (1 : Int32) else 0)))), (4, .int (if (V.1 167 c) = 1 then (1 : Int32) else (if (V.1 167 c) = 2 then (1 : Int32) else 0))), (0, .ref 165), (1, .int f), (2, .int (nI c)), (3, .int cm)], [.int 4, .int cm])) rfl ?_
        refine xe_c2t pg_127 311 rfl rfl (fun z => absurd (h7.symm.trans z) (by decide)) ?_
        refine xe_sn pg_127 2 (fr' := (313, [(5, .int (if (if (V.1 167 c) = 1 then (1 : Int32) else (if (V.1 167 c) = 2 then (1 : Int32) else 0)) = 0 then (0 : Int32) else (if (V.1 168 c) ≤ 0 then (if (V.1 171 c) = f then (1 : Int32) else 0) else (if (V.1 169 (3 * c)) = f then (1 : Int32) else 0)))), (4, .int (if (V.1 167 c) = 1 then (1 : Int32) else (if (V.1 167 c) = 2 then (1 : Int32) else 0))), (0, .ref 165), (1, .int f), (2, .int (nI c)), (3, .int cm)], [.ref 165, .ref 165])) rfl ?_
        refine ze_gi pg_127 (V.1 165 5) rfl rfl rfl rfl ?_
        refine xe_sn pg_127 2 (fr' := (318, [(5, .int (if (if (V.1 167 c) = 1 then (1 : Int32) else (if (V.1 167 c) = 2 then (1 : Int32) else 0)) = 0 then (0 : Int32) else (if (V.1 168 c) ≤ 0 then (if (V.1 171 c) = f then (1 : Int32) else 0) else (if (V.1 169 (3 * c)) = f then (1 : Int32) else 0)))), (4, .int (if (V.1 167 c) = 1 then (1 : Int32) else (if (V.1 167 c) = 2 then (1 : Int32) else 0))), (0, .ref 165), (1, .int f), (2, .int (nI c)), (3, .int cm)], [.int ((V.1 165 5) + 1), .ref 165])) rfl ?_
        refine ze_px pg_127 rfl rfl ⟨rfl, rfl⟩ (Or.inl rfl) (by decide) ?_
        cases hE
        exact xe_end pg_127 rfl
  · rw [if_neg h7] at hE
    refine xe_c2t pg_127 110 rfl rfl h7 ?_
    refine xe_sn pg_127 2 (fr' := (112, [(5, .int (if (if (V.1 167 c) = 1 then (1 : Int32) else (if (V.1 167 c) = 2 then (1 : Int32) else 0)) = 0 then (0 : Int32) else (if (V.1 168 c) ≤ 0 then (if (V.1 171 c) = f then (1 : Int32) else 0) else (if (V.1 169 (3 * c)) = f then (1 : Int32) else 0)))), (4, .int (if (V.1 167 c) = 1 then (1 : Int32) else (if (V.1 167 c) = 2 then (1 : Int32) else 0))), (0, .ref 165), (1, .int f), (2, .int (nI c)), (3, .int cm)], [.int 3, .int cm])) rfl ?_
    by_cases h10 : cm = 3
    · rw [if_pos h10] at hE
      refine xe_c2f pg_127 293 rfl rfl (fun z => z h10) ?_
      refine xe_sn pg_127 1 (fr' := (117, [(5, .int (if (if (V.1 167 c) = 1 then (1 : Int32) else (if (V.1 167 c) = 2 then (1 : Int32) else 0)) = 0 then (0 : Int32) else (if (V.1 168 c) ≤ 0 then (if (V.1 171 c) = f then (1 : Int32) else 0) else (if (V.1 169 (3 * c)) = f then (1 : Int32) else 0)))), (4, .int (if (V.1 167 c) = 1 then (1 : Int32) else (if (V.1 167 c) = 2 then (1 : Int32) else 0))), (0, .ref 165), (1, .int f), (2, .int (nI c)), (3, .int cm)], [.int (if (if (V.1 167 c) = 1 then (1 : Int32) else (if (V.1 167 c) = 2 then (1 : Int32) else 0)) = 0 then (0 : Int32) else (if (V.1 168 c) ≤ 0 then (if (V.1 171 c) = f then (1 : Int32) else 0) else (if (V.1 169 (3 * c)) = f then (1 : Int32) else 0)))])) rfl ?_
      by_cases h11 : (if (if (V.1 167 c) = 1 then (1 : Int32) else (if (V.1 167 c) = 2 then (1 : Int32) else 0)) = 0 then (0 : Int32) else (if (V.1 168 c) ≤ 0 then (if (V.1 171 c) = f then (1 : Int32) else 0) else (if (V.1 169 (3 * c)) = f then (1 : Int32) else 0))) = 0
      · rw [if_pos h11] at hE
        refine xe_c1t pg_127 293 rfl rfl h11 ?_
        refine xe_sn pg_127 2 (fr' := (295, [(5, .int (if (if (V.1 167 c) = 1 then (1 : Int32) else (if (V.1 167 c) = 2 then (1 : Int32) else 0)) = 0 then (0 : Int32) else (if (V.1 168 c) ≤ 0 then (if (V.1 171 c) = f then (1 : Int32) else 0) else (if (V.1 169 (3 * c)) = f then (1 : Int32) else 0)))), (4, .int (if (V.1 167 c) = 1 then (1 : Int32) else (if (V.1 167 c) = 2 then (1 : Int32) else 0))), (0, .ref 165), (1, .int f), (2, .int (nI c)), (3, .int cm)], [.int 4, .int cm])) rfl ?_
        refine xe_c2t pg_127 311 rfl rfl (fun z => absurd (h10.symm.trans z) (by decide)) ?_
        refine xe_sn pg_127 2 (fr' := (313, [(5, .int (if (if (V.1 167 c) = 1 then (1 : Int32) else (if (V.1 167 c) = 2 then (1 : Int32) else 0)) = 0 then (0 : Int32) else (if (V.1 168 c) ≤ 0 then (if (V.1 171 c) = f then (1 : Int32) else 0) else (if (V.1 169 (3 * c)) = f then (1 : Int32) else 0)))), (4, .int (if (V.1 167 c) = 1 then (1 : Int32) else (if (V.1 167 c) = 2 then (1 : Int32) else 0))), (0, .ref 165), (1, .int f), (2, .int (nI c)), (3, .int cm)], [.ref 165, .ref 165])) rfl ?_
        refine ze_gi pg_127 (V.1 165 5) rfl rfl rfl rfl ?_
        refine xe_sn pg_127 2 (fr' := (318, [(5, .int (if (if (V.1 167 c) = 1 then (1 : Int32) else (if (V.1 167 c) = 2 then (1 : Int32) else 0)) = 0 then (0 : Int32) else (if (V.1 168 c) ≤ 0 then (if (V.1 171 c) = f then (1 : Int32) else 0) else (if (V.1 169 (3 * c)) = f then (1 : Int32) else 0)))), (4, .int (if (V.1 167 c) = 1 then (1 : Int32) else (if (V.1 167 c) = 2 then (1 : Int32) else 0))), (0, .ref 165), (1, .int f), (2, .int (nI c)), (3, .int cm)], [.int ((V.1 165 5) + 1), .ref 165])) rfl ?_
        refine ze_px pg_127 rfl rfl ⟨rfl, rfl⟩ (Or.inl rfl) (by decide) ?_
        cases hE
        exact xe_end pg_127 rfl
      · rw [if_neg h11] at hE
        refine xe_c1f pg_127 293 rfl rfl h11 ?_
        refine xe_sn pg_127 3 (fr' := (125, [(5, .int (if (if (V.1 167 c) = 1 then (1 : Int32) else (if (V.1 167 c) = 2 then (1 : Int32) else 0)) = 0 then (0 : Int32) else (if (V.1 168 c) ≤ 0 then (if (V.1 171 c) = f then (1 : Int32) else 0) else (if (V.1 169 (3 * c)) = f then (1 : Int32) else 0)))), (4, .int (if (V.1 167 c) = 1 then (1 : Int32) else (if (V.1 167 c) = 2 then (1 : Int32) else 0))), (0, .ref 165), (1, .int f), (2, .int (nI c)), (3, .int cm)], [.int (nI c), .ref 168])) rfl ?_
        refine ze_il pg_127 c (V.1 168 c) rfl ⟨by decide, by decide⟩ rfl (bn (by omega) (by decide)) (bc (n := 4) (by omega) (by decide)) rfl ?_
        by_cases h12 : (V.1 168 c) ≤ 0
        · rw [if_pos h12] at hE
          refine xe_c1t pg_127 293 rfl rfl h12 ?_
          refine xe_sn pg_127 2 (fr' := (295, [(5, .int (if (if (V.1 167 c) = 1 then (1 : Int32) else (if (V.1 167 c) = 2 then (1 : Int32) else 0)) = 0 then (0 : Int32) else (if (V.1 168 c) ≤ 0 then (if (V.1 171 c) = f then (1 : Int32) else 0) else (if (V.1 169 (3 * c)) = f then (1 : Int32) else 0)))), (4, .int (if (V.1 167 c) = 1 then (1 : Int32) else (if (V.1 167 c) = 2 then (1 : Int32) else 0))), (0, .ref 165), (1, .int f), (2, .int (nI c)), (3, .int cm)], [.int 4, .int cm])) rfl ?_
          refine xe_c2t pg_127 311 rfl rfl (fun z => absurd (h10.symm.trans z) (by decide)) ?_
          refine xe_sn pg_127 2 (fr' := (313, [(5, .int (if (if (V.1 167 c) = 1 then (1 : Int32) else (if (V.1 167 c) = 2 then (1 : Int32) else 0)) = 0 then (0 : Int32) else (if (V.1 168 c) ≤ 0 then (if (V.1 171 c) = f then (1 : Int32) else 0) else (if (V.1 169 (3 * c)) = f then (1 : Int32) else 0)))), (4, .int (if (V.1 167 c) = 1 then (1 : Int32) else (if (V.1 167 c) = 2 then (1 : Int32) else 0))), (0, .ref 165), (1, .int f), (2, .int (nI c)), (3, .int cm)], [.ref 165, .ref 165])) rfl ?_
          refine ze_gi pg_127 (V.1 165 5) rfl rfl rfl rfl ?_
          refine xe_sn pg_127 2 (fr' := (318, [(5, .int (if (if (V.1 167 c) = 1 then (1 : Int32) else (if (V.1 167 c) = 2 then (1 : Int32) else 0)) = 0 then (0 : Int32) else (if (V.1 168 c) ≤ 0 then (if (V.1 171 c) = f then (1 : Int32) else 0) else (if (V.1 169 (3 * c)) = f then (1 : Int32) else 0)))), (4, .int (if (V.1 167 c) = 1 then (1 : Int32) else (if (V.1 167 c) = 2 then (1 : Int32) else 0))), (0, .ref 165), (1, .int f), (2, .int (nI c)), (3, .int cm)], [.int ((V.1 165 5) + 1), .ref 165])) rfl ?_
          refine ze_px pg_127 rfl rfl ⟨rfl, rfl⟩ (Or.inl rfl) (by decide) ?_
          cases hE
          exact xe_end pg_127 rfl
        · rw [if_neg h12] at hE
          refine xe_c1f pg_127 293 rfl rfl h12 ?_
          refine xe_sn pg_127 4 (fr' := (135, [(6, .int 0), (5, .int (if (if (V.1 167 c) = 1 then (1 : Int32) else (if (V.1 167 c) = 2 then (1 : Int32) else 0)) = 0 then (0 : Int32) else (if (V.1 168 c) ≤ 0 then (if (V.1 171 c) = f then (1 : Int32) else 0) else (if (V.1 169 (3 * c)) = f then (1 : Int32) else 0)))), (4, .int (if (V.1 167 c) = 1 then (1 : Int32) else (if (V.1 167 c) = 2 then (1 : Int32) else 0))), (0, .ref 165), (1, .int f), (2, .int (nI c)), (3, .int cm)], [.ref 165, .int 0])) rfl ?_
          refine ze_gi pg_127 (V.2.1 165 27) rfl rfl rfl rfl ?_
          by_cases h13 : (V.2.1 165 27) < 0
          · rw [if_pos h13] at hE
            refine xe_c2t pg_127 196 rfl rfl h13 ?_
            refine xe_sn pg_127 2 (fr' := (199, [(6, .int 0), (5, .int (if (if (V.1 167 c) = 1 then (1 : Int32) else (if (V.1 167 c) = 2 then (1 : Int32) else 0)) = 0 then (0 : Int32) else (if (V.1 168 c) ≤ 0 then (if (V.1 171 c) = f then (1 : Int32) else 0) else (if (V.1 169 (3 * c)) = f then (1 : Int32) else 0)))), (4, .int (if (V.1 167 c) = 1 then (1 : Int32) else (if (V.1 167 c) = 2 then (1 : Int32) else 0))), (0, .ref 165), (1, .int f), (2, .int (nI c)), (3, .int cm)], [.int (nI c), .int 12])) rfl ?_
            refine xe_nm pg_127 12 c (12 * c) rfl (by omega) ?_
            refine xe_sn pg_127 2 (fr' := (202, [(6, .int 0), (5, .int (if (if (V.1 167 c) = 1 then (1 : Int32) else (if (V.1 167 c) = 2 then (1 : Int32) else 0)) = 0 then (0 : Int32) else (if (V.1 168 c) ≤ 0 then (if (V.1 171 c) = f then (1 : Int32) else 0) else (if (V.1 169 (3 * c)) = f then (1 : Int32) else 0)))), (4, .int (if (V.1 167 c) = 1 then (1 : Int32) else (if (V.1 167 c) = 2 then (1 : Int32) else 0))), (0, .ref 165), (1, .int f), (2, .int (nI c)), (3, .int cm)], [.ref 165, .int 4, .int (nI (12 * c))])) rfl ?_
            refine ze_gi pg_127 (V.2.1 165 27) rfl rfl rfl rfl ?_
            refine xe_sn pg_127 3 (fr' := (210, [(6, .int 0), (5, .int (if (if (V.1 167 c) = 1 then (1 : Int32) else (if (V.1 167 c) = 2 then (1 : Int32) else 0)) = 0 then (0 : Int32) else (if (V.1 168 c) ≤ 0 then (if (V.1 171 c) = f then (1 : Int32) else 0) else (if (V.1 169 (3 * c)) = f then (1 : Int32) else 0)))), (4, .int (if (V.1 167 c) = 1 then (1 : Int32) else (if (V.1 167 c) = 2 then (1 : Int32) else 0))), (0, .ref 165), (1, .int f), (2, .int (nI c)), (3, .int cm)], [.int (nI c), .ref 168, .int (V.2.1 165 27), .int 4, .int (nI (12 * c))])) rfl ?_
            refine ze_il pg_127 c (V.1 168 c) rfl ⟨by decide, by decide⟩ rfl (bn (by omega) (by decide)) (bc (n := 4) (by omega) (by decide)) rfl ?_
            refine xe_jn (fr' := (222, [(6, .int 0), (5, .int (if (if (V.1 167 c) = 1 then (1 : Int32) else (if (V.1 167 c) = 2 then (1 : Int32) else 0)) = 0 then (0 : Int32) else (if (V.1 168 c) ≤ 0 then (if (V.1 171 c) = f then (1 : Int32) else 0) else (if (V.1 169 (3 * c)) = f then (1 : Int32) else 0)))), (4, .int (if (V.1 167 c) = 1 then (1 : Int32) else (if (V.1 167 c) = 2 then (1 : Int32) else 0))), (0, .ref 165), (1, .int f), (2, .int (nI c)), (3, .int cm)], [.int (if (V.1 168 c) ≤ (V.2.1 165 27) then (0 : Int32) else (V.2.1 165 27)), .int 4, .int (nI (12 * c))])) (fun J14 => ?_) ?_
            · by_cases h14 : (V.1 168 c) ≤ (V.2.1 165 27)
              · rw [show (if (V.1 168 c) ≤ (V.2.1 165 27) then (0 : Int32) else (V.2.1 165 27)) = 0 from if_pos h14] at J14
                refine xe_c2t pg_127 221 rfl rfl h14 ?_
                refine xe_sn pg_127 1 (fr' := (222, [(6, .int 0), (5, .int (if (if (V.1 167 c) = 1 then (1 : Int32) else (if (V.1 167 c) = 2 then (1 : Int32) else 0)) = 0 then (0 : Int32) else (if (V.1 168 c) ≤ 0 then (if (V.1 171 c) = f then (1 : Int32) else 0) else (if (V.1 169 (3 * c)) = f then (1 : Int32) else 0)))), (4, .int (if (V.1 167 c) = 1 then (1 : Int32) else (if (V.1 167 c) = 2 then (1 : Int32) else 0))), (0, .ref 165), (1, .int f), (2, .int (nI c)), (3, .int cm)], [.int 0, .int 4, .int (nI (12 * c))])) rfl ?_
                exact J14
              · rw [show (if (V.1 168 c) ≤ (V.2.1 165 27) then (0 : Int32) else (V.2.1 165 27)) = (V.2.1 165 27) from if_neg h14] at J14
                refine xe_c2f pg_127 221 rfl rfl h14 ?_
                refine xe_sn pg_127 1 (fr' := (215, [(6, .int 0), (5, .int (if (if (V.1 167 c) = 1 then (1 : Int32) else (if (V.1 167 c) = 2 then (1 : Int32) else 0)) = 0 then (0 : Int32) else (if (V.1 168 c) ≤ 0 then (if (V.1 171 c) = f then (1 : Int32) else 0) else (if (V.1 169 (3 * c)) = f then (1 : Int32) else 0)))), (4, .int (if (V.1 167 c) = 1 then (1 : Int32) else (if (V.1 167 c) = 2 then (1 : Int32) else 0))), (0, .ref 165), (1, .int f), (2, .int (nI c)), (3, .int cm)], [.ref 165, .int 4, .int (nI (12 * c))])) rfl ?_
                refine ze_gi pg_127 (V.2.1 165 27) rfl rfl rfl rfl ?_
                refine xe_sn pg_127 1 (fr' := (222, [(6, .int 0), (5, .int (if (if (V.1 167 c) = 1 then (1 : Int32) else (if (V.1 167 c) = 2 then (1 : Int32) else 0)) = 0 then (0 : Int32) else (if (V.1 168 c) ≤ 0 then (if (V.1 171 c) = f then (1 : Int32) else 0) else (if (V.1 169 (3 * c)) = f then (1 : Int32) else 0)))), (4, .int (if (V.1 167 c) = 1 then (1 : Int32) else (if (V.1 167 c) = 2 then (1 : Int32) else 0))), (0, .ref 165), (1, .int f), (2, .int (nI c)), (3, .int cm)], [.int (V.2.1 165 27), .int 4, .int (nI (12 * c))])) rfl ?_
                exact J14
            refine xe_sn pg_127 6 (fr' := (229, [(6, .int (((nI (12 * c)) + ((4 : Int32) * (if (V.1 168 c) ≤ (V.2.1 165 27) then (0 : Int32) else (V.2.1 165 27)))) + 3)), (5, .int (if (if (V.1 167 c) = 1 then (1 : Int32) else (if (V.1 167 c) = 2 then (1 : Int32) else 0)) = 0 then (0 : Int32) else (if (V.1 168 c) ≤ 0 then (if (V.1 171 c) = f then (1 : Int32) else 0) else (if (V.1 169 (3 * c)) = f then (1 : Int32) else 0)))), (4, .int (if (V.1 167 c) = 1 then (1 : Int32) else (if (V.1 167 c) = 2 then (1 : Int32) else 0))), (0, .ref 165), (1, .int f), (2, .int (nI c)), (3, .int cm)], [.ref 165])) rfl ?_
            refine ze_gi pg_127 (V.2.1 165 27) rfl rfl rfl rfl ?_
            refine xe_sn pg_127 3 (fr' := (237, [(6, .int (((nI (12 * c)) + ((4 : Int32) * (if (V.1 168 c) ≤ (V.2.1 165 27) then (0 : Int32) else (V.2.1 165 27)))) + 3)), (5, .int (if (if (V.1 167 c) = 1 then (1 : Int32) else (if (V.1 167 c) = 2 then (1 : Int32) else 0)) = 0 then (0 : Int32) else (if (V.1 168 c) ≤ 0 then (if (V.1 171 c) = f then (1 : Int32) else 0) else (if (V.1 169 (3 * c)) = f then (1 : Int32) else 0)))), (4, .int (if (V.1 167 c) = 1 then (1 : Int32) else (if (V.1 167 c) = 2 then (1 : Int32) else 0))), (0, .ref 165), (1, .int f), (2, .int (nI c)), (3, .int cm)], [.int (nI c), .ref 168, .int (V.2.1 165 27)])) rfl ?_
            refine ze_il pg_127 c (V.1 168 c) rfl ⟨by decide, by decide⟩ rfl (bn (by omega) (by decide)) (bc (n := 4) (by omega) (by decide)) rfl ?_
            by_cases h15 : (V.1 168 c) ≤ (V.2.1 165 27)
            · rw [if_pos h15] at hE
              refine xe_c2t pg_127 285 rfl rfl h15 ?_
              refine xe_sn pg_127 2 (fr' := (287, [(6, .int (((nI (12 * c)) + ((4 : Int32) * (if (V.1 168 c) ≤ (V.2.1 165 27) then (0 : Int32) else (V.2.1 165 27)))) + 3)), (5, .int (if (if (V.1 167 c) = 1 then (1 : Int32) else (if (V.1 167 c) = 2 then (1 : Int32) else 0)) = 0 then (0 : Int32) else (if (V.1 168 c) ≤ 0 then (if (V.1 171 c) = f then (1 : Int32) else 0) else (if (V.1 169 (3 * c)) = f then (1 : Int32) else 0)))), (4, .int (if (V.1 167 c) = 1 then (1 : Int32) else (if (V.1 167 c) = 2 then (1 : Int32) else 0))), (0, .ref 165), (1, .int f), (2, .int (nI c)), (3, .int cm)], [.int (nI c), .ref 165])) rfl ?_
              obtain ⟨r4, e4, hE⟩ := Option.bind_eq_some_iff.mp hE
              refine xe_cv pg_127 122 pg_122 [.int (nI c)] [] (none) rfl rfl rfl rfl ⟨Nat.le_of_ble_eq_true rfl, Nat.le_of_ble_eq_true rfl, Nat.le_of_ble_eq_true rfl⟩ ⟨rfl, rfl⟩ ⟨by decide, rfl, by decide⟩ (cg_closeNow _ (c := c) (by omega) e4) ?_
              refine xe_sn pg_127 1 (fr' := (321, [(6, .int (((nI (12 * c)) + ((4 : Int32) * (if (V.1 168 c) ≤ (V.2.1 165 27) then (0 : Int32) else (V.2.1 165 27)))) + 3)), (5, .int (if (if (V.1 167 c) = 1 then (1 : Int32) else (if (V.1 167 c) = 2 then (1 : Int32) else 0)) = 0 then (0 : Int32) else (if (V.1 168 c) ≤ 0 then (if (V.1 171 c) = f then (1 : Int32) else 0) else (if (V.1 169 (3 * c)) = f then (1 : Int32) else 0)))), (4, .int (if (V.1 167 c) = 1 then (1 : Int32) else (if (V.1 167 c) = 2 then (1 : Int32) else 0))), (0, .ref 165), (1, .int f), (2, .int (nI c)), (3, .int cm)], [])) rfl ?_
              cases hE
              exact xe_end pg_127 rfl
            · rw [if_neg h15] at hE
              refine xe_c2f pg_127 285 rfl rfl h15 ?_
              refine xe_sn pg_127 4 (fr' := (248, [(6, .int (((nI (12 * c)) + ((4 : Int32) * (if (V.1 168 c) ≤ (V.2.1 165 27) then (0 : Int32) else (V.2.1 165 27)))) + 3)), (5, .int (if (if (V.1 167 c) = 1 then (1 : Int32) else (if (V.1 167 c) = 2 then (1 : Int32) else 0)) = 0 then (0 : Int32) else (if (V.1 168 c) ≤ 0 then (if (V.1 171 c) = f then (1 : Int32) else 0) else (if (V.1 169 (3 * c)) = f then (1 : Int32) else 0)))), (4, .int (if (V.1 167 c) = 1 then (1 : Int32) else (if (V.1 167 c) = 2 then (1 : Int32) else 0))), (0, .ref 165), (1, .int f), (2, .int (nI c)), (3, .int cm)], [.int (((nI (12 * c)) + ((4 : Int32) * (if (V.1 168 c) ≤ (V.2.1 165 27) then (0 : Int32) else (V.2.1 165 27)))) + 3), .ref 170, .ref 165])) rfl ?_
              by_cases g16 : bnd (((nI (12 * c)) + ((4 : Int32) * (if (V.1 168 c) ≤ (V.2.1 165 27) then (0 : Int32) else (V.2.1 165 27)))) + 3) 48
              case neg => rw [if_neg g16] at hE; cases hE
              rw [if_pos g16] at hE
              refine ze_il pg_127 (((nI (12 * c)) + ((4 : Int32) * (if (V.1 168 c) ≤ (V.2.1 165 27) then (0 : Int32) else (V.2.1 165 27)))) + 3).toNatClampNeg (V.1 170 (((nI (12 * c)) + ((4 : Int32) * (if (V.1 168 c) ≤ (V.2.1 165 27) then (0 : Int32) else (V.2.1 165 27)))) + 3).toNatClampNeg) rfl ⟨by decide, by decide⟩ rfl g16 rfl rfl ?_
              obtain ⟨r5, e5, hE⟩ := Option.bind_eq_some_iff.mp hE
              refine xe_cv pg_127 116 pg_116 [.int (V.1 170 (((nI (12 * c)) + ((4 : Int32) * (if (V.1 168 c) ≤ (V.2.1 165 27) then (0 : Int32) else (V.2.1 165 27)))) + 3).toNatClampNeg)] [] (some (.int r5)) rfl rfl rfl rfl ⟨Nat.le_of_ble_eq_true rfl, Nat.le_of_ble_eq_true rfl, Nat.le_of_ble_eq_true rfl⟩ ⟨rfl, rfl⟩ ⟨by decide, rfl, by decide⟩ (cg_isKnown _ (key := (V.1 170 (((nI (12 * c)) + ((4 : Int32) * (if (V.1 168 c) ≤ (V.2.1 165 27) then (0 : Int32) else (V.2.1 165 27)))) + 3).toNatClampNeg))  (Option.some.inj e5)) ?_
              by_cases h17 : r5 = 0
              · rw [if_pos h17] at hE
                refine xe_c1t pg_127 285 rfl rfl h17 ?_
                refine xe_sn pg_127 2 (fr' := (287, [(6, .int (((nI (12 * c)) + ((4 : Int32) * (if (V.1 168 c) ≤ (V.2.1 165 27) then (0 : Int32) else (V.2.1 165 27)))) + 3)), (5, .int (if (if (V.1 167 c) = 1 then (1 : Int32) else (if (V.1 167 c) = 2 then (1 : Int32) else 0)) = 0 then (0 : Int32) else (if (V.1 168 c) ≤ 0 then (if (V.1 171 c) = f then (1 : Int32) else 0) else (if (V.1 169 (3 * c)) = f then (1 : Int32) else 0)))), (4, .int (if (V.1 167 c) = 1 then (1 : Int32) else (if (V.1 167 c) = 2 then (1 : Int32) else 0))), (0, .ref 165), (1, .int f), (2, .int (nI c)), (3, .int cm)], [.int (nI c), .ref 165])) rfl ?_
                obtain ⟨r6, e6, hE⟩ := Option.bind_eq_some_iff.mp hE
                refine xe_cv pg_127 122 pg_122 [.int (nI c)] [] (none) rfl rfl rfl rfl ⟨Nat.le_of_ble_eq_true rfl, Nat.le_of_ble_eq_true rfl, Nat.le_of_ble_eq_true rfl⟩ ⟨rfl, rfl⟩ ⟨by decide, rfl, by decide⟩ (cg_closeNow _ (c := c) (by omega) e6) ?_
                refine xe_sn pg_127 1 (fr' := (321, [(6, .int (((nI (12 * c)) + ((4 : Int32) * (if (V.1 168 c) ≤ (V.2.1 165 27) then (0 : Int32) else (V.2.1 165 27)))) + 3)), (5, .int (if (if (V.1 167 c) = 1 then (1 : Int32) else (if (V.1 167 c) = 2 then (1 : Int32) else 0)) = 0 then (0 : Int32) else (if (V.1 168 c) ≤ 0 then (if (V.1 171 c) = f then (1 : Int32) else 0) else (if (V.1 169 (3 * c)) = f then (1 : Int32) else 0)))), (4, .int (if (V.1 167 c) = 1 then (1 : Int32) else (if (V.1 167 c) = 2 then (1 : Int32) else 0))), (0, .ref 165), (1, .int f), (2, .int (nI c)), (3, .int cm)], [])) rfl ?_
                cases hE
                exact xe_end pg_127 rfl
              · rw [if_neg h17] at hE
                refine xe_c1f pg_127 285 rfl rfl h17 ?_
                refine xe_sn pg_127 7 (fr' := (268, [(6, .int (((nI (12 * c)) + ((4 : Int32) * (if (V.1 168 c) ≤ (V.2.1 165 27) then (0 : Int32) else (V.2.1 165 27)))) + 3)), (5, .int (if (if (V.1 167 c) = 1 then (1 : Int32) else (if (V.1 167 c) = 2 then (1 : Int32) else 0)) = 0 then (0 : Int32) else (if (V.1 168 c) ≤ 0 then (if (V.1 171 c) = f then (1 : Int32) else 0) else (if (V.1 169 (3 * c)) = f then (1 : Int32) else 0)))), (4, .int (if (V.1 167 c) = 1 then (1 : Int32) else (if (V.1 167 c) = 2 then (1 : Int32) else 0))), (0, .ref 165), (1, .int f), (2, .int (nI c)), (3, .int cm)], [.int (((nI (12 * c)) + ((4 : Int32) * (if (V.1 168 c) ≤ (V.2.1 165 27) then (0 : Int32) else (V.2.1 165 27)))) + 3), .ref 170, .ref 165, .int (((nI (12 * c)) + ((4 : Int32) * (if (V.1 168 c) ≤ (V.2.1 165 27) then (0 : Int32) else (V.2.1 165 27)))) + 3), .ref 170])) rfl ?_
                refine ze_il pg_127 (((nI (12 * c)) + ((4 : Int32) * (if (V.1 168 c) ≤ (V.2.1 165 27) then (0 : Int32) else (V.2.1 165 27)))) + 3).toNatClampNeg (V.1 170 (((nI (12 * c)) + ((4 : Int32) * (if (V.1 168 c) ≤ (V.2.1 165 27) then (0 : Int32) else (V.2.1 165 27)))) + 3).toNatClampNeg) rfl ⟨by decide, by decide⟩ rfl g16 rfl rfl ?_
                obtain ⟨r7, e7, hE⟩ := Option.bind_eq_some_iff.mp hE
                refine xe_cv pg_127 110 pg_110 [.int (V.1 170 (((nI (12 * c)) + ((4 : Int32) * (if (V.1 168 c) ≤ (V.2.1 165 27) then (0 : Int32) else (V.2.1 165 27)))) + 3).toNatClampNeg)] [.int (((nI (12 * c)) + ((4 : Int32) * (if (V.1 168 c) ≤ (V.2.1 165 27) then (0 : Int32) else (V.2.1 165 27)))) + 3), .ref 170] (some (.int r7)) rfl rfl rfl rfl ⟨Nat.le_of_ble_eq_true rfl, Nat.le_of_ble_eq_true rfl, Nat.le_of_ble_eq_true rfl⟩ ⟨rfl, rfl⟩ ⟨by decide, rfl, by decide⟩ (cg_fed _ (key := (V.1 170 (((nI (12 * c)) + ((4 : Int32) * (if (V.1 168 c) ≤ (V.2.1 165 27) then (0 : Int32) else (V.2.1 165 27)))) + 3).toNatClampNeg))  (Option.some.inj e7)) ?_
                refine ze_isx pg_127 (((nI (12 * c)) + ((4 : Int32) * (if (V.1 168 c) ≤ (V.2.1 165 27) then (0 : Int32) else (V.2.1 165 27)))) + 3).toNatClampNeg rfl ⟨by decide, by decide⟩ rfl g16 rfl (by decide) ?_
                refine xe_sn pg_127 3 (fr' := (276, [(6, .int (((nI (12 * c)) + ((4 : Int32) * (if (V.1 168 c) ≤ (V.2.1 165 27) then (0 : Int32) else (V.2.1 165 27)))) + 3)), (5, .int (if (if (V.1 167 c) = 1 then (1 : Int32) else (if (V.1 167 c) = 2 then (1 : Int32) else 0)) = 0 then (0 : Int32) else (if (V.1 168 c) ≤ 0 then (if (V.1 171 c) = f then (1 : Int32) else 0) else (if (V.1 169 (3 * c)) = f then (1 : Int32) else 0)))), (4, .int (if (V.1 167 c) = 1 then (1 : Int32) else (if (V.1 167 c) = 2 then (1 : Int32) else 0))), (0, .ref 165), (1, .int f), (2, .int (nI c)), (3, .int cm)], [.ref 165, .int (nI c), .ref 165])) rfl ?_
                refine ze_gi pg_127 (V.2.1 165 27) rfl rfl rfl rfl ?_
                obtain ⟨r8, e8, hE⟩ := Option.bind_eq_some_iff.mp hE
                refine xe_cv pg_127 126 pg_126 [.int (nI c), .int (V.2.1 165 27)] [] (none) rfl rfl rfl rfl ⟨Nat.le_of_ble_eq_true rfl, Nat.le_of_ble_eq_true rfl, Nat.le_of_ble_eq_true rfl⟩ ⟨rfl, rfl⟩ ⟨by decide, rfl, by decide⟩ (cg_clientFollows _ (c := c) (k := (V.2.1 165 27)) (by omega) e8) ?_
                refine xe_sn pg_127 1 (fr' := (290, [(6, .int (((nI (12 * c)) + ((4 : Int32) * (if (V.1 168 c) ≤ (V.2.1 165 27) then (0 : Int32) else (V.2.1 165 27)))) + 3)), (5, .int (if (if (V.1 167 c) = 1 then (1 : Int32) else (if (V.1 167 c) = 2 then (1 : Int32) else 0)) = 0 then (0 : Int32) else (if (V.1 168 c) ≤ 0 then (if (V.1 171 c) = f then (1 : Int32) else 0) else (if (V.1 169 (3 * c)) = f then (1 : Int32) else 0)))), (4, .int (if (V.1 167 c) = 1 then (1 : Int32) else (if (V.1 167 c) = 2 then (1 : Int32) else 0))), (0, .ref 165), (1, .int f), (2, .int (nI c)), (3, .int cm)], [])) rfl ?_
                refine xe_sn pg_127 1 (fr' := (321, [(6, .int (((nI (12 * c)) + ((4 : Int32) * (if (V.1 168 c) ≤ (V.2.1 165 27) then (0 : Int32) else (V.2.1 165 27)))) + 3)), (5, .int (if (if (V.1 167 c) = 1 then (1 : Int32) else (if (V.1 167 c) = 2 then (1 : Int32) else 0)) = 0 then (0 : Int32) else (if (V.1 168 c) ≤ 0 then (if (V.1 171 c) = f then (1 : Int32) else 0) else (if (V.1 169 (3 * c)) = f then (1 : Int32) else 0)))), (4, .int (if (V.1 167 c) = 1 then (1 : Int32) else (if (V.1 167 c) = 2 then (1 : Int32) else 0))), (0, .ref 165), (1, .int f), (2, .int (nI c)), (3, .int cm)], [])) rfl ?_
                cases hE
                exact xe_end pg_127 rfl
          · rw [if_neg h13] at hE
            refine xe_c2f pg_127 196 rfl rfl h13 ?_
            refine xe_sn pg_127 1 (fr' := (142, [(6, .int 0), (5, .int (if (if (V.1 167 c) = 1 then (1 : Int32) else (if (V.1 167 c) = 2 then (1 : Int32) else 0)) = 0 then (0 : Int32) else (if (V.1 168 c) ≤ 0 then (if (V.1 171 c) = f then (1 : Int32) else 0) else (if (V.1 169 (3 * c)) = f then (1 : Int32) else 0)))), (4, .int (if (V.1 167 c) = 1 then (1 : Int32) else (if (V.1 167 c) = 2 then (1 : Int32) else 0))), (0, .ref 165), (1, .int f), (2, .int (nI c)), (3, .int cm)], [.ref 165])) rfl ?_
            refine ze_gi pg_127 (V.2.1 165 27) rfl rfl rfl rfl ?_
            refine xe_sn pg_127 3 (fr' := (150, [(6, .int 0), (5, .int (if (if (V.1 167 c) = 1 then (1 : Int32) else (if (V.1 167 c) = 2 then (1 : Int32) else 0)) = 0 then (0 : Int32) else (if (V.1 168 c) ≤ 0 then (if (V.1 171 c) = f then (1 : Int32) else 0) else (if (V.1 169 (3 * c)) = f then (1 : Int32) else 0)))), (4, .int (if (V.1 167 c) = 1 then (1 : Int32) else (if (V.1 167 c) = 2 then (1 : Int32) else 0))), (0, .ref 165), (1, .int f), (2, .int (nI c)), (3, .int cm)], [.int (nI c), .ref 168, .int (V.2.1 165 27)])) rfl ?_
            refine ze_il pg_127 c (V.1 168 c) rfl ⟨by decide, by decide⟩ rfl (bn (by omega) (by decide)) (bc (n := 4) (by omega) (by decide)) rfl ?_
            by_cases h18 : (V.1 168 c) ≤ (V.2.1 165 27)
            · rw [if_pos h18] at hE
              refine xe_c2t pg_127 196 rfl rfl h18 ?_
              refine xe_sn pg_127 2 (fr' := (199, [(6, .int 0), (5, .int (if (if (V.1 167 c) = 1 then (1 : Int32) else (if (V.1 167 c) = 2 then (1 : Int32) else 0)) = 0 then (0 : Int32) else (if (V.1 168 c) ≤ 0 then (if (V.1 171 c) = f then (1 : Int32) else 0) else (if (V.1 169 (3 * c)) = f then (1 : Int32) else 0)))), (4, .int (if (V.1 167 c) = 1 then (1 : Int32) else (if (V.1 167 c) = 2 then (1 : Int32) else 0))), (0, .ref 165), (1, .int f), (2, .int (nI c)), (3, .int cm)], [.int (nI c), .int 12])) rfl ?_
              refine xe_nm pg_127 12 c (12 * c) rfl (by omega) ?_
              refine xe_sn pg_127 2 (fr' := (202, [(6, .int 0), (5, .int (if (if (V.1 167 c) = 1 then (1 : Int32) else (if (V.1 167 c) = 2 then (1 : Int32) else 0)) = 0 then (0 : Int32) else (if (V.1 168 c) ≤ 0 then (if (V.1 171 c) = f then (1 : Int32) else 0) else (if (V.1 169 (3 * c)) = f then (1 : Int32) else 0)))), (4, .int (if (V.1 167 c) = 1 then (1 : Int32) else (if (V.1 167 c) = 2 then (1 : Int32) else 0))), (0, .ref 165), (1, .int f), (2, .int (nI c)), (3, .int cm)], [.ref 165, .int 4, .int (nI (12 * c))])) rfl ?_
              refine ze_gi pg_127 (V.2.1 165 27) rfl rfl rfl rfl ?_
              refine xe_sn pg_127 3 (fr' := (210, [(6, .int 0), (5, .int (if (if (V.1 167 c) = 1 then (1 : Int32) else (if (V.1 167 c) = 2 then (1 : Int32) else 0)) = 0 then (0 : Int32) else (if (V.1 168 c) ≤ 0 then (if (V.1 171 c) = f then (1 : Int32) else 0) else (if (V.1 169 (3 * c)) = f then (1 : Int32) else 0)))), (4, .int (if (V.1 167 c) = 1 then (1 : Int32) else (if (V.1 167 c) = 2 then (1 : Int32) else 0))), (0, .ref 165), (1, .int f), (2, .int (nI c)), (3, .int cm)], [.int (nI c), .ref 168, .int (V.2.1 165 27), .int 4, .int (nI (12 * c))])) rfl ?_
              refine ze_il pg_127 c (V.1 168 c) rfl ⟨by decide, by decide⟩ rfl (bn (by omega) (by decide)) (bc (n := 4) (by omega) (by decide)) rfl ?_
              refine xe_c2t pg_127 221 rfl rfl h18 ?_
              refine xe_sn pg_127 2 (fr' := (223, [(6, .int 0), (5, .int (if (if (V.1 167 c) = 1 then (1 : Int32) else (if (V.1 167 c) = 2 then (1 : Int32) else 0)) = 0 then (0 : Int32) else (if (V.1 168 c) ≤ 0 then (if (V.1 171 c) = f then (1 : Int32) else 0) else (if (V.1 169 (3 * c)) = f then (1 : Int32) else 0)))), (4, .int (if (V.1 167 c) = 1 then (1 : Int32) else (if (V.1 167 c) = 2 then (1 : Int32) else 0))), (0, .ref 165), (1, .int f), (2, .int (nI c)), (3, .int cm)], [.int 0, .int (nI (12 * c))])) rfl ?_
              refine xe_na pg_127 (12 * c) 0 (12 * c) rfl (by omega) ?_
              refine xe_sn pg_127 1 (fr' := (225, [(6, .int 0), (5, .int (if (if (V.1 167 c) = 1 then (1 : Int32) else (if (V.1 167 c) = 2 then (1 : Int32) else 0)) = 0 then (0 : Int32) else (if (V.1 168 c) ≤ 0 then (if (V.1 171 c) = f then (1 : Int32) else 0) else (if (V.1 169 (3 * c)) = f then (1 : Int32) else 0)))), (4, .int (if (V.1 167 c) = 1 then (1 : Int32) else (if (V.1 167 c) = 2 then (1 : Int32) else 0))), (0, .ref 165), (1, .int f), (2, .int (nI c)), (3, .int cm)], [.int 3, .int (nI (12 * c))])) rfl ?_
              refine xe_na pg_127 (12 * c) 3 (12 * c + 3) rfl (by omega) ?_
              refine xe_sn pg_127 2 (fr' := (229, [(6, .int (nI (12 * c + 3))), (5, .int (if (if (V.1 167 c) = 1 then (1 : Int32) else (if (V.1 167 c) = 2 then (1 : Int32) else 0)) = 0 then (0 : Int32) else (if (V.1 168 c) ≤ 0 then (if (V.1 171 c) = f then (1 : Int32) else 0) else (if (V.1 169 (3 * c)) = f then (1 : Int32) else 0)))), (4, .int (if (V.1 167 c) = 1 then (1 : Int32) else (if (V.1 167 c) = 2 then (1 : Int32) else 0))), (0, .ref 165), (1, .int f), (2, .int (nI c)), (3, .int cm)], [.ref 165])) rfl ?_
              refine ze_gi pg_127 (V.2.1 165 27) rfl rfl rfl rfl ?_
              refine xe_sn pg_127 3 (fr' := (237, [(6, .int (nI (12 * c + 3))), (5, .int (if (if (V.1 167 c) = 1 then (1 : Int32) else (if (V.1 167 c) = 2 then (1 : Int32) else 0)) = 0 then (0 : Int32) else (if (V.1 168 c) ≤ 0 then (if (V.1 171 c) = f then (1 : Int32) else 0) else (if (V.1 169 (3 * c)) = f then (1 : Int32) else 0)))), (4, .int (if (V.1 167 c) = 1 then (1 : Int32) else (if (V.1 167 c) = 2 then (1 : Int32) else 0))), (0, .ref 165), (1, .int f), (2, .int (nI c)), (3, .int cm)], [.int (nI c), .ref 168, .int (V.2.1 165 27)])) rfl ?_
              refine ze_il pg_127 c (V.1 168 c) rfl ⟨by decide, by decide⟩ rfl (bn (by omega) (by decide)) (bc (n := 4) (by omega) (by decide)) rfl ?_
              refine xe_c2t pg_127 285 rfl rfl h18 ?_
              refine xe_sn pg_127 2 (fr' := (287, [(6, .int (nI (12 * c + 3))), (5, .int (if (if (V.1 167 c) = 1 then (1 : Int32) else (if (V.1 167 c) = 2 then (1 : Int32) else 0)) = 0 then (0 : Int32) else (if (V.1 168 c) ≤ 0 then (if (V.1 171 c) = f then (1 : Int32) else 0) else (if (V.1 169 (3 * c)) = f then (1 : Int32) else 0)))), (4, .int (if (V.1 167 c) = 1 then (1 : Int32) else (if (V.1 167 c) = 2 then (1 : Int32) else 0))), (0, .ref 165), (1, .int f), (2, .int (nI c)), (3, .int cm)], [.int (nI c), .ref 165])) rfl ?_
              obtain ⟨r9, e9, hE⟩ := Option.bind_eq_some_iff.mp hE
              refine xe_cv pg_127 122 pg_122 [.int (nI c)] [] (none) rfl rfl rfl rfl ⟨Nat.le_of_ble_eq_true rfl, Nat.le_of_ble_eq_true rfl, Nat.le_of_ble_eq_true rfl⟩ ⟨rfl, rfl⟩ ⟨by decide, rfl, by decide⟩ (cg_closeNow _ (c := c) (by omega) e9) ?_
              refine xe_sn pg_127 1 (fr' := (321, [(6, .int (nI (12 * c + 3))), (5, .int (if (if (V.1 167 c) = 1 then (1 : Int32) else (if (V.1 167 c) = 2 then (1 : Int32) else 0)) = 0 then (0 : Int32) else (if (V.1 168 c) ≤ 0 then (if (V.1 171 c) = f then (1 : Int32) else 0) else (if (V.1 169 (3 * c)) = f then (1 : Int32) else 0)))), (4, .int (if (V.1 167 c) = 1 then (1 : Int32) else (if (V.1 167 c) = 2 then (1 : Int32) else 0))), (0, .ref 165), (1, .int f), (2, .int (nI c)), (3, .int cm)], [])) rfl ?_
              cases hE
              exact xe_end pg_127 rfl
            · rw [if_neg h18] at hE
              refine xe_c2f pg_127 196 rfl rfl h18 ?_
              refine xe_sn pg_127 4 (fr' := (161, [(6, .int 0), (5, .int (if (if (V.1 167 c) = 1 then (1 : Int32) else (if (V.1 167 c) = 2 then (1 : Int32) else 0)) = 0 then (0 : Int32) else (if (V.1 168 c) ≤ 0 then (if (V.1 171 c) = f then (1 : Int32) else 0) else (if (V.1 169 (3 * c)) = f then (1 : Int32) else 0)))), (4, .int (if (V.1 167 c) = 1 then (1 : Int32) else (if (V.1 167 c) = 2 then (1 : Int32) else 0))), (0, .ref 165), (1, .int f), (2, .int (nI c)), (3, .int cm)], [.int (nI c), .int 12, .ref 170])) rfl ?_
              refine xe_nm pg_127 12 c (12 * c) rfl (by omega) ?_
              refine xe_sn pg_127 3 (fr' := (166, [(6, .int 0), (5, .int (if (if (V.1 167 c) = 1 then (1 : Int32) else (if (V.1 167 c) = 2 then (1 : Int32) else 0)) = 0 then (0 : Int32) else (if (V.1 168 c) ≤ 0 then (if (V.1 171 c) = f then (1 : Int32) else 0) else (if (V.1 169 (3 * c)) = f then (1 : Int32) else 0)))), (4, .int (if (V.1 167 c) = 1 then (1 : Int32) else (if (V.1 167 c) = 2 then (1 : Int32) else 0))), (0, .ref 165), (1, .int f), (2, .int (nI c)), (3, .int cm)], [.int 0, .int (nI (12 * c)), .ref 170])) rfl ?_
              refine xe_na pg_127 (12 * c) 0 (12 * c) rfl (by omega) ?_
              refine xe_sn pg_127 1 (fr' := (168, [(6, .int 0), (5, .int (if (if (V.1 167 c) = 1 then (1 : Int32) else (if (V.1 167 c) = 2 then (1 : Int32) else 0)) = 0 then (0 : Int32) else (if (V.1 168 c) ≤ 0 then (if (V.1 171 c) = f then (1 : Int32) else 0) else (if (V.1 169 (3 * c)) = f then (1 : Int32) else 0)))), (4, .int (if (V.1 167 c) = 1 then (1 : Int32) else (if (V.1 167 c) = 2 then (1 : Int32) else 0))), (0, .ref 165), (1, .int f), (2, .int (nI c)), (3, .int cm)], [.int 1, .int (nI (12 * c)), .ref 170])) rfl ?_
              refine xe_na pg_127 (12 * c) 1 (12 * c + 1) rfl (by omega) ?_
              refine xe_sn pg_127 5 (fr' := (177, [(6, .int 0), (5, .int (if (if (V.1 167 c) = 1 then (1 : Int32) else (if (V.1 167 c) = 2 then (1 : Int32) else 0)) = 0 then (0 : Int32) else (if (V.1 168 c) ≤ 0 then (if (V.1 171 c) = f then (1 : Int32) else 0) else (if (V.1 169 (3 * c)) = f then (1 : Int32) else 0)))), (4, .int (if (V.1 167 c) = 1 then (1 : Int32) else (if (V.1 167 c) = 2 then (1 : Int32) else 0))), (0, .ref 165), (1, .int f), (2, .int (nI c)), (3, .int cm)], [.int (nI c), .int 12, .ref 170, .ref 165, .int (nI (12 * c + 1)), .ref 170])) rfl ?_
              refine xe_nm pg_127 12 c (12 * c) rfl (by omega) ?_
              refine xe_sn pg_127 3 (fr' := (182, [(6, .int 0), (5, .int (if (if (V.1 167 c) = 1 then (1 : Int32) else (if (V.1 167 c) = 2 then (1 : Int32) else 0)) = 0 then (0 : Int32) else (if (V.1 168 c) ≤ 0 then (if (V.1 171 c) = f then (1 : Int32) else 0) else (if (V.1 169 (3 * c)) = f then (1 : Int32) else 0)))), (4, .int (if (V.1 167 c) = 1 then (1 : Int32) else (if (V.1 167 c) = 2 then (1 : Int32) else 0))), (0, .ref 165), (1, .int f), (2, .int (nI c)), (3, .int cm)], [.int 0, .int (nI (12 * c)), .ref 170, .ref 165, .int (nI (12 * c + 1)), .ref 170])) rfl ?_
              refine xe_na pg_127 (12 * c) 0 (12 * c) rfl (by omega) ?_
              refine xe_sn pg_127 1 (fr' := (184, [(6, .int 0), (5, .int (if (if (V.1 167 c) = 1 then (1 : Int32) else (if (V.1 167 c) = 2 then (1 : Int32) else 0)) = 0 then (0 : Int32) else (if (V.1 168 c) ≤ 0 then (if (V.1 171 c) = f then (1 : Int32) else 0) else (if (V.1 169 (3 * c)) = f then (1 : Int32) else 0)))), (4, .int (if (V.1 167 c) = 1 then (1 : Int32) else (if (V.1 167 c) = 2 then (1 : Int32) else 0))), (0, .ref 165), (1, .int f), (2, .int (nI c)), (3, .int cm)], [.int 1, .int (nI (12 * c)), .ref 170, .ref 165, .int (nI (12 * c + 1)), .ref 170])) rfl ?_
              refine xe_na pg_127 (12 * c) 1 (12 * c + 1) rfl (by omega) ?_
              refine ze_il pg_127 (12 * c + 1) (V.1 170 (12 * c + 1)) rfl ⟨by decide, by decide⟩ rfl (bn (by omega) (by decide)) (bc (n := 48) (by omega) (by decide)) rfl ?_
              obtain ⟨r10, e10, hE⟩ := Option.bind_eq_some_iff.mp hE
              have e10q := Option.some.inj e10
              refine xe_cv pg_127 109 pg_109 [.int (V.1 170 (12 * c + 1))] [.int (nI (12 * c + 1)), .ref 170] (some (.int (ks (V.1 170 (12 * c + 1)) 14))) rfl rfl rfl rfl ⟨Nat.le_of_ble_eq_true rfl, Nat.le_of_ble_eq_true rfl, Nat.le_of_ble_eq_true rfl⟩ ⟨rfl, rfl⟩ ⟨by decide, rfl, by decide⟩ (e10q ▸ cg_wrap _ (key := (V.1 170 (12 * c + 1))) ) ?_
              refine ze_isx pg_127 (12 * c + 1) rfl ⟨by decide, by decide⟩ rfl (bn (by omega) (by decide)) (bc (n := 48) (by omega) (by decide)) (by decide) ?_
              refine xe_sn pg_127 2 (fr' := (132, [(6, .int 1), (5, .int (if (if (V.1 167 c) = 1 then (1 : Int32) else (if (V.1 167 c) = 2 then (1 : Int32) else 0)) = 0 then (0 : Int32) else (if (V.1 168 c) ≤ 0 then (if (V.1 171 c) = f then (1 : Int32) else 0) else (if (V.1 169 (3 * c)) = f then (1 : Int32) else 0)))), (4, .int (if (V.1 167 c) = 1 then (1 : Int32) else (if (V.1 167 c) = 2 then (1 : Int32) else 0))), (0, .ref 165), (1, .int f), (2, .int (nI c)), (3, .int cm)], [])) rfl ?_
              refine xe_sn pg_127 2 (fr' := (135, [(6, .int 1), (5, .int (if (if (V.1 167 c) = 1 then (1 : Int32) else (if (V.1 167 c) = 2 then (1 : Int32) else 0)) = 0 then (0 : Int32) else (if (V.1 168 c) ≤ 0 then (if (V.1 171 c) = f then (1 : Int32) else 0) else (if (V.1 169 (3 * c)) = f then (1 : Int32) else 0)))), (4, .int (if (V.1 167 c) = 1 then (1 : Int32) else (if (V.1 167 c) = 2 then (1 : Int32) else 0))), (0, .ref 165), (1, .int f), (2, .int (nI c)), (3, .int cm)], [.ref 165, .int 1])) rfl ?_
              refine ze_gi pg_127 (r10.2.1 165 27) rfl rfl rfl rfl ?_
              by_cases h19 : (r10.2.1 165 27) < 1
              · rw [if_pos h19] at hE
                refine xe_c2t pg_127 196 rfl rfl h19 ?_
                refine xe_sn pg_127 2 (fr' := (199, [(6, .int 1), (5, .int (if (if (V.1 167 c) = 1 then (1 : Int32) else (if (V.1 167 c) = 2 then (1 : Int32) else 0)) = 0 then (0 : Int32) else (if (V.1 168 c) ≤ 0 then (if (V.1 171 c) = f then (1 : Int32) else 0) else (if (V.1 169 (3 * c)) = f then (1 : Int32) else 0)))), (4, .int (if (V.1 167 c) = 1 then (1 : Int32) else (if (V.1 167 c) = 2 then (1 : Int32) else 0))), (0, .ref 165), (1, .int f), (2, .int (nI c)), (3, .int cm)], [.int (nI c), .int 12])) rfl ?_
                refine xe_nm pg_127 12 c (12 * c) rfl (by omega) ?_
                refine xe_sn pg_127 2 (fr' := (202, [(6, .int 1), (5, .int (if (if (V.1 167 c) = 1 then (1 : Int32) else (if (V.1 167 c) = 2 then (1 : Int32) else 0)) = 0 then (0 : Int32) else (if (V.1 168 c) ≤ 0 then (if (V.1 171 c) = f then (1 : Int32) else 0) else (if (V.1 169 (3 * c)) = f then (1 : Int32) else 0)))), (4, .int (if (V.1 167 c) = 1 then (1 : Int32) else (if (V.1 167 c) = 2 then (1 : Int32) else 0))), (0, .ref 165), (1, .int f), (2, .int (nI c)), (3, .int cm)], [.ref 165, .int 4, .int (nI (12 * c))])) rfl ?_
                refine ze_gi pg_127 (r10.2.1 165 27) rfl rfl rfl rfl ?_
                refine xe_sn pg_127 3 (fr' := (210, [(6, .int 1), (5, .int (if (if (V.1 167 c) = 1 then (1 : Int32) else (if (V.1 167 c) = 2 then (1 : Int32) else 0)) = 0 then (0 : Int32) else (if (V.1 168 c) ≤ 0 then (if (V.1 171 c) = f then (1 : Int32) else 0) else (if (V.1 169 (3 * c)) = f then (1 : Int32) else 0)))), (4, .int (if (V.1 167 c) = 1 then (1 : Int32) else (if (V.1 167 c) = 2 then (1 : Int32) else 0))), (0, .ref 165), (1, .int f), (2, .int (nI c)), (3, .int cm)], [.int (nI c), .ref 168, .int (r10.2.1 165 27), .int 4, .int (nI (12 * c))])) rfl ?_
                refine ze_il pg_127 c (r10.1 168 c) rfl ⟨by decide, by decide⟩ rfl (bn (by omega) (by decide)) (bc (n := 4) (by omega) (by decide)) rfl ?_
                refine xe_jn (fr' := (222, [(6, .int 1), (5, .int (if (if (V.1 167 c) = 1 then (1 : Int32) else (if (V.1 167 c) = 2 then (1 : Int32) else 0)) = 0 then (0 : Int32) else (if (V.1 168 c) ≤ 0 then (if (V.1 171 c) = f then (1 : Int32) else 0) else (if (V.1 169 (3 * c)) = f then (1 : Int32) else 0)))), (4, .int (if (V.1 167 c) = 1 then (1 : Int32) else (if (V.1 167 c) = 2 then (1 : Int32) else 0))), (0, .ref 165), (1, .int f), (2, .int (nI c)), (3, .int cm)], [.int (if (r10.1 168 c) ≤ (r10.2.1 165 27) then (0 : Int32) else (r10.2.1 165 27)), .int 4, .int (nI (12 * c))])) (fun J20 => ?_) ?_
                · by_cases h20 : (r10.1 168 c) ≤ (r10.2.1 165 27)
                  · rw [show (if (r10.1 168 c) ≤ (r10.2.1 165 27) then (0 : Int32) else (r10.2.1 165 27)) = 0 from if_pos h20] at J20
                    refine xe_c2t pg_127 221 rfl rfl h20 ?_
                    refine xe_sn pg_127 1 (fr' := (222, [(6, .int 1), (5, .int (if (if (V.1 167 c) = 1 then (1 : Int32) else (if (V.1 167 c) = 2 then (1 : Int32) else 0)) = 0 then (0 : Int32) else (if (V.1 168 c) ≤ 0 then (if (V.1 171 c) = f then (1 : Int32) else 0) else (if (V.1 169 (3 * c)) = f then (1 : Int32) else 0)))), (4, .int (if (V.1 167 c) = 1 then (1 : Int32) else (if (V.1 167 c) = 2 then (1 : Int32) else 0))), (0, .ref 165), (1, .int f), (2, .int (nI c)), (3, .int cm)], [.int 0, .int 4, .int (nI (12 * c))])) rfl ?_
                    exact J20
                  · rw [show (if (r10.1 168 c) ≤ (r10.2.1 165 27) then (0 : Int32) else (r10.2.1 165 27)) = (r10.2.1 165 27) from if_neg h20] at J20
                    refine xe_c2f pg_127 221 rfl rfl h20 ?_
                    refine xe_sn pg_127 1 (fr' := (215, [(6, .int 1), (5, .int (if (if (V.1 167 c) = 1 then (1 : Int32) else (if (V.1 167 c) = 2 then (1 : Int32) else 0)) = 0 then (0 : Int32) else (if (V.1 168 c) ≤ 0 then (if (V.1 171 c) = f then (1 : Int32) else 0) else (if (V.1 169 (3 * c)) = f then (1 : Int32) else 0)))), (4, .int (if (V.1 167 c) = 1 then (1 : Int32) else (if (V.1 167 c) = 2 then (1 : Int32) else 0))), (0, .ref 165), (1, .int f), (2, .int (nI c)), (3, .int cm)], [.ref 165, .int 4, .int (nI (12 * c))])) rfl ?_
                    refine ze_gi pg_127 (r10.2.1 165 27) rfl rfl rfl rfl ?_
                    refine xe_sn pg_127 1 (fr' := (222, [(6, .int 1), (5, .int (if (if (V.1 167 c) = 1 then (1 : Int32) else (if (V.1 167 c) = 2 then (1 : Int32) else 0)) = 0 then (0 : Int32) else (if (V.1 168 c) ≤ 0 then (if (V.1 171 c) = f then (1 : Int32) else 0) else (if (V.1 169 (3 * c)) = f then (1 : Int32) else 0)))), (4, .int (if (V.1 167 c) = 1 then (1 : Int32) else (if (V.1 167 c) = 2 then (1 : Int32) else 0))), (0, .ref 165), (1, .int f), (2, .int (nI c)), (3, .int cm)], [.int (r10.2.1 165 27), .int 4, .int (nI (12 * c))])) rfl ?_
                    exact J20
                refine xe_sn pg_127 6 (fr' := (229, [(6, .int (((nI (12 * c)) + ((4 : Int32) * (if (r10.1 168 c) ≤ (r10.2.1 165 27) then (0 : Int32) else (r10.2.1 165 27)))) + 3)), (5, .int (if (if (V.1 167 c) = 1 then (1 : Int32) else (if (V.1 167 c) = 2 then (1 : Int32) else 0)) = 0 then (0 : Int32) else (if (V.1 168 c) ≤ 0 then (if (V.1 171 c) = f then (1 : Int32) else 0) else (if (V.1 169 (3 * c)) = f then (1 : Int32) else 0)))), (4, .int (if (V.1 167 c) = 1 then (1 : Int32) else (if (V.1 167 c) = 2 then (1 : Int32) else 0))), (0, .ref 165), (1, .int f), (2, .int (nI c)), (3, .int cm)], [.ref 165])) rfl ?_
                refine ze_gi pg_127 (r10.2.1 165 27) rfl rfl rfl rfl ?_
                refine xe_sn pg_127 3 (fr' := (237, [(6, .int (((nI (12 * c)) + ((4 : Int32) * (if (r10.1 168 c) ≤ (r10.2.1 165 27) then (0 : Int32) else (r10.2.1 165 27)))) + 3)), (5, .int (if (if (V.1 167 c) = 1 then (1 : Int32) else (if (V.1 167 c) = 2 then (1 : Int32) else 0)) = 0 then (0 : Int32) else (if (V.1 168 c) ≤ 0 then (if (V.1 171 c) = f then (1 : Int32) else 0) else (if (V.1 169 (3 * c)) = f then (1 : Int32) else 0)))), (4, .int (if (V.1 167 c) = 1 then (1 : Int32) else (if (V.1 167 c) = 2 then (1 : Int32) else 0))), (0, .ref 165), (1, .int f), (2, .int (nI c)), (3, .int cm)], [.int (nI c), .ref 168, .int (r10.2.1 165 27)])) rfl ?_
                refine ze_il pg_127 c (r10.1 168 c) rfl ⟨by decide, by decide⟩ rfl (bn (by omega) (by decide)) (bc (n := 4) (by omega) (by decide)) rfl ?_
                by_cases h21 : (r10.1 168 c) ≤ (r10.2.1 165 27)
                · rw [if_pos h21] at hE
                  refine xe_c2t pg_127 285 rfl rfl h21 ?_
                  refine xe_sn pg_127 2 (fr' := (287, [(6, .int (((nI (12 * c)) + ((4 : Int32) * (if (r10.1 168 c) ≤ (r10.2.1 165 27) then (0 : Int32) else (r10.2.1 165 27)))) + 3)), (5, .int (if (if (V.1 167 c) = 1 then (1 : Int32) else (if (V.1 167 c) = 2 then (1 : Int32) else 0)) = 0 then (0 : Int32) else (if (V.1 168 c) ≤ 0 then (if (V.1 171 c) = f then (1 : Int32) else 0) else (if (V.1 169 (3 * c)) = f then (1 : Int32) else 0)))), (4, .int (if (V.1 167 c) = 1 then (1 : Int32) else (if (V.1 167 c) = 2 then (1 : Int32) else 0))), (0, .ref 165), (1, .int f), (2, .int (nI c)), (3, .int cm)], [.int (nI c), .ref 165])) rfl ?_
                  obtain ⟨r11, e11, hE⟩ := Option.bind_eq_some_iff.mp hE
                  refine xe_cv pg_127 122 pg_122 [.int (nI c)] [] (none) rfl rfl rfl rfl ⟨Nat.le_of_ble_eq_true rfl, Nat.le_of_ble_eq_true rfl, Nat.le_of_ble_eq_true rfl⟩ ⟨rfl, rfl⟩ ⟨by decide, rfl, by decide⟩ (cg_closeNow _ (c := c) (by omega) e11) ?_
                  refine xe_sn pg_127 1 (fr' := (321, [(6, .int (((nI (12 * c)) + ((4 : Int32) * (if (r10.1 168 c) ≤ (r10.2.1 165 27) then (0 : Int32) else (r10.2.1 165 27)))) + 3)), (5, .int (if (if (V.1 167 c) = 1 then (1 : Int32) else (if (V.1 167 c) = 2 then (1 : Int32) else 0)) = 0 then (0 : Int32) else (if (V.1 168 c) ≤ 0 then (if (V.1 171 c) = f then (1 : Int32) else 0) else (if (V.1 169 (3 * c)) = f then (1 : Int32) else 0)))), (4, .int (if (V.1 167 c) = 1 then (1 : Int32) else (if (V.1 167 c) = 2 then (1 : Int32) else 0))), (0, .ref 165), (1, .int f), (2, .int (nI c)), (3, .int cm)], [])) rfl ?_
                  cases hE
                  exact xe_end pg_127 rfl
                · rw [if_neg h21] at hE
                  refine xe_c2f pg_127 285 rfl rfl h21 ?_
                  refine xe_sn pg_127 4 (fr' := (248, [(6, .int (((nI (12 * c)) + ((4 : Int32) * (if (r10.1 168 c) ≤ (r10.2.1 165 27) then (0 : Int32) else (r10.2.1 165 27)))) + 3)), (5, .int (if (if (V.1 167 c) = 1 then (1 : Int32) else (if (V.1 167 c) = 2 then (1 : Int32) else 0)) = 0 then (0 : Int32) else (if (V.1 168 c) ≤ 0 then (if (V.1 171 c) = f then (1 : Int32) else 0) else (if (V.1 169 (3 * c)) = f then (1 : Int32) else 0)))), (4, .int (if (V.1 167 c) = 1 then (1 : Int32) else (if (V.1 167 c) = 2 then (1 : Int32) else 0))), (0, .ref 165), (1, .int f), (2, .int (nI c)), (3, .int cm)], [.int (((nI (12 * c)) + ((4 : Int32) * (if (r10.1 168 c) ≤ (r10.2.1 165 27) then (0 : Int32) else (r10.2.1 165 27)))) + 3), .ref 170, .ref 165])) rfl ?_
                  by_cases g22 : bnd (((nI (12 * c)) + ((4 : Int32) * (if (r10.1 168 c) ≤ (r10.2.1 165 27) then (0 : Int32) else (r10.2.1 165 27)))) + 3) 48
                  case neg => rw [if_neg g22] at hE; cases hE
                  rw [if_pos g22] at hE
                  refine ze_il pg_127 (((nI (12 * c)) + ((4 : Int32) * (if (r10.1 168 c) ≤ (r10.2.1 165 27) then (0 : Int32) else (r10.2.1 165 27)))) + 3).toNatClampNeg ((vx r10 170 (12 * c + 1) (ks (V.1 170 (12 * c + 1)) 14)).1 170 (((nI (12 * c)) + ((4 : Int32) * (if (r10.1 168 c) ≤ (r10.2.1 165 27) then (0 : Int32) else (r10.2.1 165 27)))) + 3).toNatClampNeg) rfl ⟨by decide, by decide⟩ rfl g22 rfl rfl ?_
                  obtain ⟨r12, e12, hE⟩ := Option.bind_eq_some_iff.mp hE
                  refine xe_cv pg_127 116 pg_116 [.int ((vx r10 170 (12 * c + 1) (ks (V.1 170 (12 * c + 1)) 14)).1 170 (((nI (12 * c)) + ((4 : Int32) * (if (r10.1 168 c) ≤ (r10.2.1 165 27) then (0 : Int32) else (r10.2.1 165 27)))) + 3).toNatClampNeg)] [] (some (.int r12)) rfl rfl rfl rfl ⟨Nat.le_of_ble_eq_true rfl, Nat.le_of_ble_eq_true rfl, Nat.le_of_ble_eq_true rfl⟩ ⟨rfl, rfl⟩ ⟨by decide, rfl, by decide⟩ (cg_isKnown _ (key := ((vx r10 170 (12 * c + 1) (ks (V.1 170 (12 * c + 1)) 14)).1 170 (((nI (12 * c)) + ((4 : Int32) * (if (r10.1 168 c) ≤ (r10.2.1 165 27) then (0 : Int32) else (r10.2.1 165 27)))) + 3).toNatClampNeg))  (Option.some.inj e12)) ?_
                  by_cases h23 : r12 = 0
                  · rw [if_pos h23] at hE
                    refine xe_c1t pg_127 285 rfl rfl h23 ?_
                    refine xe_sn pg_127 2 (fr' := (287, [(6, .int (((nI (12 * c)) + ((4 : Int32) * (if (r10.1 168 c) ≤ (r10.2.1 165 27) then (0 : Int32) else (r10.2.1 165 27)))) + 3)), (5, .int (if (if (V.1 167 c) = 1 then (1 : Int32) else (if (V.1 167 c) = 2 then (1 : Int32) else 0)) = 0 then (0 : Int32) else (if (V.1 168 c) ≤ 0 then (if (V.1 171 c) = f then (1 : Int32) else 0) else (if (V.1 169 (3 * c)) = f then (1 : Int32) else 0)))), (4, .int (if (V.1 167 c) = 1 then (1 : Int32) else (if (V.1 167 c) = 2 then (1 : Int32) else 0))), (0, .ref 165), (1, .int f), (2, .int (nI c)), (3, .int cm)], [.int (nI c), .ref 165])) rfl ?_
                    obtain ⟨r13, e13, hE⟩ := Option.bind_eq_some_iff.mp hE
                    refine xe_cv pg_127 122 pg_122 [.int (nI c)] [] (none) rfl rfl rfl rfl ⟨Nat.le_of_ble_eq_true rfl, Nat.le_of_ble_eq_true rfl, Nat.le_of_ble_eq_true rfl⟩ ⟨rfl, rfl⟩ ⟨by decide, rfl, by decide⟩ (cg_closeNow _ (c := c) (by omega) e13) ?_
                    refine xe_sn pg_127 1 (fr' := (321, [(6, .int (((nI (12 * c)) + ((4 : Int32) * (if (r10.1 168 c) ≤ (r10.2.1 165 27) then (0 : Int32) else (r10.2.1 165 27)))) + 3)), (5, .int (if (if (V.1 167 c) = 1 then (1 : Int32) else (if (V.1 167 c) = 2 then (1 : Int32) else 0)) = 0 then (0 : Int32) else (if (V.1 168 c) ≤ 0 then (if (V.1 171 c) = f then (1 : Int32) else 0) else (if (V.1 169 (3 * c)) = f then (1 : Int32) else 0)))), (4, .int (if (V.1 167 c) = 1 then (1 : Int32) else (if (V.1 167 c) = 2 then (1 : Int32) else 0))), (0, .ref 165), (1, .int f), (2, .int (nI c)), (3, .int cm)], [])) rfl ?_
                    cases hE
                    exact xe_end pg_127 rfl
                  · rw [if_neg h23] at hE
                    refine xe_c1f pg_127 285 rfl rfl h23 ?_
                    refine xe_sn pg_127 7 (fr' := (268, [(6, .int (((nI (12 * c)) + ((4 : Int32) * (if (r10.1 168 c) ≤ (r10.2.1 165 27) then (0 : Int32) else (r10.2.1 165 27)))) + 3)), (5, .int (if (if (V.1 167 c) = 1 then (1 : Int32) else (if (V.1 167 c) = 2 then (1 : Int32) else 0)) = 0 then (0 : Int32) else (if (V.1 168 c) ≤ 0 then (if (V.1 171 c) = f then (1 : Int32) else 0) else (if (V.1 169 (3 * c)) = f then (1 : Int32) else 0)))), (4, .int (if (V.1 167 c) = 1 then (1 : Int32) else (if (V.1 167 c) = 2 then (1 : Int32) else 0))), (0, .ref 165), (1, .int f), (2, .int (nI c)), (3, .int cm)], [.int (((nI (12 * c)) + ((4 : Int32) * (if (r10.1 168 c) ≤ (r10.2.1 165 27) then (0 : Int32) else (r10.2.1 165 27)))) + 3), .ref 170, .ref 165, .int (((nI (12 * c)) + ((4 : Int32) * (if (r10.1 168 c) ≤ (r10.2.1 165 27) then (0 : Int32) else (r10.2.1 165 27)))) + 3), .ref 170])) rfl ?_
                    refine ze_il pg_127 (((nI (12 * c)) + ((4 : Int32) * (if (r10.1 168 c) ≤ (r10.2.1 165 27) then (0 : Int32) else (r10.2.1 165 27)))) + 3).toNatClampNeg ((vx r10 170 (12 * c + 1) (ks (V.1 170 (12 * c + 1)) 14)).1 170 (((nI (12 * c)) + ((4 : Int32) * (if (r10.1 168 c) ≤ (r10.2.1 165 27) then (0 : Int32) else (r10.2.1 165 27)))) + 3).toNatClampNeg) rfl ⟨by decide, by decide⟩ rfl g22 rfl rfl ?_
                    obtain ⟨r14, e14, hE⟩ := Option.bind_eq_some_iff.mp hE
                    refine xe_cv pg_127 110 pg_110 [.int ((vx r10 170 (12 * c + 1) (ks (V.1 170 (12 * c + 1)) 14)).1 170 (((nI (12 * c)) + ((4 : Int32) * (if (r10.1 168 c) ≤ (r10.2.1 165 27) then (0 : Int32) else (r10.2.1 165 27)))) + 3).toNatClampNeg)] [.int (((nI (12 * c)) + ((4 : Int32) * (if (r10.1 168 c) ≤ (r10.2.1 165 27) then (0 : Int32) else (r10.2.1 165 27)))) + 3), .ref 170] (some (.int r14)) rfl rfl rfl rfl ⟨Nat.le_of_ble_eq_true rfl, Nat.le_of_ble_eq_true rfl, Nat.le_of_ble_eq_true rfl⟩ ⟨rfl, rfl⟩ ⟨by decide, rfl, by decide⟩ (cg_fed _ (key := ((vx r10 170 (12 * c + 1) (ks (V.1 170 (12 * c + 1)) 14)).1 170 (((nI (12 * c)) + ((4 : Int32) * (if (r10.1 168 c) ≤ (r10.2.1 165 27) then (0 : Int32) else (r10.2.1 165 27)))) + 3).toNatClampNeg))  (Option.some.inj e14)) ?_
                    refine ze_isx pg_127 (((nI (12 * c)) + ((4 : Int32) * (if (r10.1 168 c) ≤ (r10.2.1 165 27) then (0 : Int32) else (r10.2.1 165 27)))) + 3).toNatClampNeg rfl ⟨by decide, by decide⟩ rfl g22 rfl (by decide) ?_
                    refine xe_sn pg_127 3 (fr' := (276, [(6, .int (((nI (12 * c)) + ((4 : Int32) * (if (r10.1 168 c) ≤ (r10.2.1 165 27) then (0 : Int32) else (r10.2.1 165 27)))) + 3)), (5, .int (if (if (V.1 167 c) = 1 then (1 : Int32) else (if (V.1 167 c) = 2 then (1 : Int32) else 0)) = 0 then (0 : Int32) else (if (V.1 168 c) ≤ 0 then (if (V.1 171 c) = f then (1 : Int32) else 0) else (if (V.1 169 (3 * c)) = f then (1 : Int32) else 0)))), (4, .int (if (V.1 167 c) = 1 then (1 : Int32) else (if (V.1 167 c) = 2 then (1 : Int32) else 0))), (0, .ref 165), (1, .int f), (2, .int (nI c)), (3, .int cm)], [.ref 165, .int (nI c), .ref 165])) rfl ?_
                    refine ze_gi pg_127 (r10.2.1 165 27) rfl rfl rfl rfl ?_
                    obtain ⟨r15, e15, hE⟩ := Option.bind_eq_some_iff.mp hE
                    refine xe_cv pg_127 126 pg_126 [.int (nI c), .int (r10.2.1 165 27)] [] (none) rfl rfl rfl rfl ⟨Nat.le_of_ble_eq_true rfl, Nat.le_of_ble_eq_true rfl, Nat.le_of_ble_eq_true rfl⟩ ⟨rfl, rfl⟩ ⟨by decide, rfl, by decide⟩ (cg_clientFollows _ (c := c) (k := (r10.2.1 165 27)) (by omega) e15) ?_
                    refine xe_sn pg_127 1 (fr' := (290, [(6, .int (((nI (12 * c)) + ((4 : Int32) * (if (r10.1 168 c) ≤ (r10.2.1 165 27) then (0 : Int32) else (r10.2.1 165 27)))) + 3)), (5, .int (if (if (V.1 167 c) = 1 then (1 : Int32) else (if (V.1 167 c) = 2 then (1 : Int32) else 0)) = 0 then (0 : Int32) else (if (V.1 168 c) ≤ 0 then (if (V.1 171 c) = f then (1 : Int32) else 0) else (if (V.1 169 (3 * c)) = f then (1 : Int32) else 0)))), (4, .int (if (V.1 167 c) = 1 then (1 : Int32) else (if (V.1 167 c) = 2 then (1 : Int32) else 0))), (0, .ref 165), (1, .int f), (2, .int (nI c)), (3, .int cm)], [])) rfl ?_
                    refine xe_sn pg_127 1 (fr' := (321, [(6, .int (((nI (12 * c)) + ((4 : Int32) * (if (r10.1 168 c) ≤ (r10.2.1 165 27) then (0 : Int32) else (r10.2.1 165 27)))) + 3)), (5, .int (if (if (V.1 167 c) = 1 then (1 : Int32) else (if (V.1 167 c) = 2 then (1 : Int32) else 0)) = 0 then (0 : Int32) else (if (V.1 168 c) ≤ 0 then (if (V.1 171 c) = f then (1 : Int32) else 0) else (if (V.1 169 (3 * c)) = f then (1 : Int32) else 0)))), (4, .int (if (V.1 167 c) = 1 then (1 : Int32) else (if (V.1 167 c) = 2 then (1 : Int32) else 0))), (0, .ref 165), (1, .int f), (2, .int (nI c)), (3, .int cm)], [])) rfl ?_
                    cases hE
                    exact xe_end pg_127 rfl
              · rw [if_neg h19] at hE
                refine xe_c2f pg_127 196 rfl rfl h19 ?_
                refine xe_sn pg_127 1 (fr' := (142, [(6, .int 1), (5, .int (if (if (V.1 167 c) = 1 then (1 : Int32) else (if (V.1 167 c) = 2 then (1 : Int32) else 0)) = 0 then (0 : Int32) else (if (V.1 168 c) ≤ 0 then (if (V.1 171 c) = f then (1 : Int32) else 0) else (if (V.1 169 (3 * c)) = f then (1 : Int32) else 0)))), (4, .int (if (V.1 167 c) = 1 then (1 : Int32) else (if (V.1 167 c) = 2 then (1 : Int32) else 0))), (0, .ref 165), (1, .int f), (2, .int (nI c)), (3, .int cm)], [.ref 165])) rfl ?_
                refine ze_gi pg_127 (r10.2.1 165 27) rfl rfl rfl rfl ?_
                refine xe_sn pg_127 3 (fr' := (150, [(6, .int 1), (5, .int (if (if (V.1 167 c) = 1 then (1 : Int32) else (if (V.1 167 c) = 2 then (1 : Int32) else 0)) = 0 then (0 : Int32) else (if (V.1 168 c) ≤ 0 then (if (V.1 171 c) = f then (1 : Int32) else 0) else (if (V.1 169 (3 * c)) = f then (1 : Int32) else 0)))), (4, .int (if (V.1 167 c) = 1 then (1 : Int32) else (if (V.1 167 c) = 2 then (1 : Int32) else 0))), (0, .ref 165), (1, .int f), (2, .int (nI c)), (3, .int cm)], [.int (nI c), .ref 168, .int (r10.2.1 165 27)])) rfl ?_
                refine ze_il pg_127 c (r10.1 168 c) rfl ⟨by decide, by decide⟩ rfl (bn (by omega) (by decide)) (bc (n := 4) (by omega) (by decide)) rfl ?_
                by_cases h24 : (r10.1 168 c) ≤ (r10.2.1 165 27)
                · rw [if_pos h24] at hE
                  refine xe_c2t pg_127 196 rfl rfl h24 ?_
                  refine xe_sn pg_127 2 (fr' := (199, [(6, .int 1), (5, .int (if (if (V.1 167 c) = 1 then (1 : Int32) else (if (V.1 167 c) = 2 then (1 : Int32) else 0)) = 0 then (0 : Int32) else (if (V.1 168 c) ≤ 0 then (if (V.1 171 c) = f then (1 : Int32) else 0) else (if (V.1 169 (3 * c)) = f then (1 : Int32) else 0)))), (4, .int (if (V.1 167 c) = 1 then (1 : Int32) else (if (V.1 167 c) = 2 then (1 : Int32) else 0))), (0, .ref 165), (1, .int f), (2, .int (nI c)), (3, .int cm)], [.int (nI c), .int 12])) rfl ?_
                  refine xe_nm pg_127 12 c (12 * c) rfl (by omega) ?_
                  refine xe_sn pg_127 2 (fr' := (202, [(6, .int 1), (5, .int (if (if (V.1 167 c) = 1 then (1 : Int32) else (if (V.1 167 c) = 2 then (1 : Int32) else 0)) = 0 then (0 : Int32) else (if (V.1 168 c) ≤ 0 then (if (V.1 171 c) = f then (1 : Int32) else 0) else (if (V.1 169 (3 * c)) = f then (1 : Int32) else 0)))), (4, .int (if (V.1 167 c) = 1 then (1 : Int32) else (if (V.1 167 c) = 2 then (1 : Int32) else 0))), (0, .ref 165), (1, .int f), (2, .int (nI c)), (3, .int cm)], [.ref 165, .int 4, .int (nI (12 * c))])) rfl ?_
                  refine ze_gi pg_127 (r10.2.1 165 27) rfl rfl rfl rfl ?_
                  refine xe_sn pg_127 3 (fr' := (210, [(6, .int 1), (5, .int (if (if (V.1 167 c) = 1 then (1 : Int32) else (if (V.1 167 c) = 2 then (1 : Int32) else 0)) = 0 then (0 : Int32) else (if (V.1 168 c) ≤ 0 then (if (V.1 171 c) = f then (1 : Int32) else 0) else (if (V.1 169 (3 * c)) = f then (1 : Int32) else 0)))), (4, .int (if (V.1 167 c) = 1 then (1 : Int32) else (if (V.1 167 c) = 2 then (1 : Int32) else 0))), (0, .ref 165), (1, .int f), (2, .int (nI c)), (3, .int cm)], [.int (nI c), .ref 168, .int (r10.2.1 165 27), .int 4, .int (nI (12 * c))])) rfl ?_
                  refine ze_il pg_127 c (r10.1 168 c) rfl ⟨by decide, by decide⟩ rfl (bn (by omega) (by decide)) (bc (n := 4) (by omega) (by decide)) rfl ?_
                  refine xe_c2t pg_127 221 rfl rfl h24 ?_
                  refine xe_sn pg_127 2 (fr' := (223, [(6, .int 1), (5, .int (if (if (V.1 167 c) = 1 then (1 : Int32) else (if (V.1 167 c) = 2 then (1 : Int32) else 0)) = 0 then (0 : Int32) else (if (V.1 168 c) ≤ 0 then (if (V.1 171 c) = f then (1 : Int32) else 0) else (if (V.1 169 (3 * c)) = f then (1 : Int32) else 0)))), (4, .int (if (V.1 167 c) = 1 then (1 : Int32) else (if (V.1 167 c) = 2 then (1 : Int32) else 0))), (0, .ref 165), (1, .int f), (2, .int (nI c)), (3, .int cm)], [.int 0, .int (nI (12 * c))])) rfl ?_
                  refine xe_na pg_127 (12 * c) 0 (12 * c) rfl (by omega) ?_
                  refine xe_sn pg_127 1 (fr' := (225, [(6, .int 1), (5, .int (if (if (V.1 167 c) = 1 then (1 : Int32) else (if (V.1 167 c) = 2 then (1 : Int32) else 0)) = 0 then (0 : Int32) else (if (V.1 168 c) ≤ 0 then (if (V.1 171 c) = f then (1 : Int32) else 0) else (if (V.1 169 (3 * c)) = f then (1 : Int32) else 0)))), (4, .int (if (V.1 167 c) = 1 then (1 : Int32) else (if (V.1 167 c) = 2 then (1 : Int32) else 0))), (0, .ref 165), (1, .int f), (2, .int (nI c)), (3, .int cm)], [.int 3, .int (nI (12 * c))])) rfl ?_
                  refine xe_na pg_127 (12 * c) 3 (12 * c + 3) rfl (by omega) ?_
                  refine xe_sn pg_127 2 (fr' := (229, [(6, .int (nI (12 * c + 3))), (5, .int (if (if (V.1 167 c) = 1 then (1 : Int32) else (if (V.1 167 c) = 2 then (1 : Int32) else 0)) = 0 then (0 : Int32) else (if (V.1 168 c) ≤ 0 then (if (V.1 171 c) = f then (1 : Int32) else 0) else (if (V.1 169 (3 * c)) = f then (1 : Int32) else 0)))), (4, .int (if (V.1 167 c) = 1 then (1 : Int32) else (if (V.1 167 c) = 2 then (1 : Int32) else 0))), (0, .ref 165), (1, .int f), (2, .int (nI c)), (3, .int cm)], [.ref 165])) rfl ?_
                  refine ze_gi pg_127 (r10.2.1 165 27) rfl rfl rfl rfl ?_
                  refine xe_sn pg_127 3 (fr' := (237, [(6, .int (nI (12 * c + 3))), (5, .int (if (if (V.1 167 c) = 1 then (1 : Int32) else (if (V.1 167 c) = 2 then (1 : Int32) else 0)) = 0 then (0 : Int32) else (if (V.1 168 c) ≤ 0 then (if (V.1 171 c) = f then (1 : Int32) else 0) else (if (V.1 169 (3 * c)) = f then (1 : Int32) else 0)))), (4, .int (if (V.1 167 c) = 1 then (1 : Int32) else (if (V.1 167 c) = 2 then (1 : Int32) else 0))), (0, .ref 165), (1, .int f), (2, .int (nI c)), (3, .int cm)], [.int (nI c), .ref 168, .int (r10.2.1 165 27)])) rfl ?_
                  refine ze_il pg_127 c (r10.1 168 c) rfl ⟨by decide, by decide⟩ rfl (bn (by omega) (by decide)) (bc (n := 4) (by omega) (by decide)) rfl ?_
                  refine xe_c2t pg_127 285 rfl rfl h24 ?_
                  refine xe_sn pg_127 2 (fr' := (287, [(6, .int (nI (12 * c + 3))), (5, .int (if (if (V.1 167 c) = 1 then (1 : Int32) else (if (V.1 167 c) = 2 then (1 : Int32) else 0)) = 0 then (0 : Int32) else (if (V.1 168 c) ≤ 0 then (if (V.1 171 c) = f then (1 : Int32) else 0) else (if (V.1 169 (3 * c)) = f then (1 : Int32) else 0)))), (4, .int (if (V.1 167 c) = 1 then (1 : Int32) else (if (V.1 167 c) = 2 then (1 : Int32) else 0))), (0, .ref 165), (1, .int f), (2, .int (nI c)), (3, .int cm)], [.int (nI c), .ref 165])) rfl ?_
                  obtain ⟨r16, e16, hE⟩ := Option.bind_eq_some_iff.mp hE
                  refine xe_cv pg_127 122 pg_122 [.int (nI c)] [] (none) rfl rfl rfl rfl ⟨Nat.le_of_ble_eq_true rfl, Nat.le_of_ble_eq_true rfl, Nat.le_of_ble_eq_true rfl⟩ ⟨rfl, rfl⟩ ⟨by decide, rfl, by decide⟩ (cg_closeNow _ (c := c) (by omega) e16) ?_
                  refine xe_sn pg_127 1 (fr' := (321, [(6, .int (nI (12 * c + 3))), (5, .int (if (if (V.1 167 c) = 1 then (1 : Int32) else (if (V.1 167 c) = 2 then (1 : Int32) else 0)) = 0 then (0 : Int32) else (if (V.1 168 c) ≤ 0 then (if (V.1 171 c) = f then (1 : Int32) else 0) else (if (V.1 169 (3 * c)) = f then (1 : Int32) else 0)))), (4, .int (if (V.1 167 c) = 1 then (1 : Int32) else (if (V.1 167 c) = 2 then (1 : Int32) else 0))), (0, .ref 165), (1, .int f), (2, .int (nI c)), (3, .int cm)], [])) rfl ?_
                  cases hE
                  exact xe_end pg_127 rfl
                · rw [if_neg h24] at hE
                  refine xe_c2f pg_127 196 rfl rfl h24 ?_
                  refine xe_sn pg_127 4 (fr' := (161, [(6, .int 1), (5, .int (if (if (V.1 167 c) = 1 then (1 : Int32) else (if (V.1 167 c) = 2 then (1 : Int32) else 0)) = 0 then (0 : Int32) else (if (V.1 168 c) ≤ 0 then (if (V.1 171 c) = f then (1 : Int32) else 0) else (if (V.1 169 (3 * c)) = f then (1 : Int32) else 0)))), (4, .int (if (V.1 167 c) = 1 then (1 : Int32) else (if (V.1 167 c) = 2 then (1 : Int32) else 0))), (0, .ref 165), (1, .int f), (2, .int (nI c)), (3, .int cm)], [.int (nI c), .int 12, .ref 170])) rfl ?_
                  refine xe_nm pg_127 12 c (12 * c) rfl (by omega) ?_
                  refine xe_sn pg_127 3 (fr' := (166, [(6, .int 1), (5, .int (if (if (V.1 167 c) = 1 then (1 : Int32) else (if (V.1 167 c) = 2 then (1 : Int32) else 0)) = 0 then (0 : Int32) else (if (V.1 168 c) ≤ 0 then (if (V.1 171 c) = f then (1 : Int32) else 0) else (if (V.1 169 (3 * c)) = f then (1 : Int32) else 0)))), (4, .int (if (V.1 167 c) = 1 then (1 : Int32) else (if (V.1 167 c) = 2 then (1 : Int32) else 0))), (0, .ref 165), (1, .int f), (2, .int (nI c)), (3, .int cm)], [.int 4, .int (nI (12 * c)), .ref 170])) rfl ?_
                  refine xe_na pg_127 (12 * c) 4 (12 * c + 4) rfl (by omega) ?_
                  refine xe_sn pg_127 1 (fr' := (168, [(6, .int 1), (5, .int (if (if (V.1 167 c) = 1 then (1 : Int32) else (if (V.1 167 c) = 2 then (1 : Int32) else 0)) = 0 then (0 : Int32) else (if (V.1 168 c) ≤ 0 then (if (V.1 171 c) = f then (1 : Int32) else 0) else (if (V.1 169 (3 * c)) = f then (1 : Int32) else 0)))), (4, .int (if (V.1 167 c) = 1 then (1 : Int32) else (if (V.1 167 c) = 2 then (1 : Int32) else 0))), (0, .ref 165), (1, .int f), (2, .int (nI c)), (3, .int cm)], [.int 1, .int (nI (12 * c + 4)), .ref 170])) rfl ?_
                  refine xe_na pg_127 (12 * c + 4) 1 (12 * c + 5) rfl (by omega) ?_
                  refine xe_sn pg_127 5 (fr' := (177, [(6, .int 1), (5, .int (if (if (V.1 167 c) = 1 then (1 : Int32) else (if (V.1 167 c) = 2 then (1 : Int32) else 0)) = 0 then (0 : Int32) else (if (V.1 168 c) ≤ 0 then (if (V.1 171 c) = f then (1 : Int32) else 0) else (if (V.1 169 (3 * c)) = f then (1 : Int32) else 0)))), (4, .int (if (V.1 167 c) = 1 then (1 : Int32) else (if (V.1 167 c) = 2 then (1 : Int32) else 0))), (0, .ref 165), (1, .int f), (2, .int (nI c)), (3, .int cm)], [.int (nI c), .int 12, .ref 170, .ref 165, .int (nI (12 * c + 5)), .ref 170])) rfl ?_
                  refine xe_nm pg_127 12 c (12 * c) rfl (by omega) ?_
                  refine xe_sn pg_127 3 (fr' := (182, [(6, .int 1), (5, .int (if (if (V.1 167 c) = 1 then (1 : Int32) else (if (V.1 167 c) = 2 then (1 : Int32) else 0)) = 0 then (0 : Int32) else (if (V.1 168 c) ≤ 0 then (if (V.1 171 c) = f then (1 : Int32) else 0) else (if (V.1 169 (3 * c)) = f then (1 : Int32) else 0)))), (4, .int (if (V.1 167 c) = 1 then (1 : Int32) else (if (V.1 167 c) = 2 then (1 : Int32) else 0))), (0, .ref 165), (1, .int f), (2, .int (nI c)), (3, .int cm)], [.int 4, .int (nI (12 * c)), .ref 170, .ref 165, .int (nI (12 * c + 5)), .ref 170])) rfl ?_
                  refine xe_na pg_127 (12 * c) 4 (12 * c + 4) rfl (by omega) ?_
                  refine xe_sn pg_127 1 (fr' := (184, [(6, .int 1), (5, .int (if (if (V.1 167 c) = 1 then (1 : Int32) else (if (V.1 167 c) = 2 then (1 : Int32) else 0)) = 0 then (0 : Int32) else (if (V.1 168 c) ≤ 0 then (if (V.1 171 c) = f then (1 : Int32) else 0) else (if (V.1 169 (3 * c)) = f then (1 : Int32) else 0)))), (4, .int (if (V.1 167 c) = 1 then (1 : Int32) else (if (V.1 167 c) = 2 then (1 : Int32) else 0))), (0, .ref 165), (1, .int f), (2, .int (nI c)), (3, .int cm)], [.int 1, .int (nI (12 * c + 4)), .ref 170, .ref 165, .int (nI (12 * c + 5)), .ref 170])) rfl ?_
                  refine xe_na pg_127 (12 * c + 4) 1 (12 * c + 5) rfl (by omega) ?_
                  refine ze_il pg_127 (12 * c + 5) ((vx r10 170 (12 * c + 1) (ks (V.1 170 (12 * c + 1)) 14)).1 170 (12 * c + 5)) rfl ⟨by decide, by decide⟩ rfl (bn (by omega) (by decide)) (bc (n := 48) (by omega) (by decide)) rfl ?_
                  obtain ⟨r17, e17, hE⟩ := Option.bind_eq_some_iff.mp hE
                  have e17q := Option.some.inj e17
                  refine xe_cv pg_127 109 pg_109 [.int ((vx r10 170 (12 * c + 1) (ks (V.1 170 (12 * c + 1)) 14)).1 170 (12 * c + 5))] [.int (nI (12 * c + 5)), .ref 170] (some (.int (ks ((vx r10 170 (12 * c + 1) (ks (V.1 170 (12 * c + 1)) 14)).1 170 (12 * c + 5)) 14))) rfl rfl rfl rfl ⟨Nat.le_of_ble_eq_true rfl, Nat.le_of_ble_eq_true rfl, Nat.le_of_ble_eq_true rfl⟩ ⟨rfl, rfl⟩ ⟨by decide, rfl, by decide⟩ (e17q ▸ cg_wrap _ (key := ((vx r10 170 (12 * c + 1) (ks (V.1 170 (12 * c + 1)) 14)).1 170 (12 * c + 5))) ) ?_
                  refine ze_isx pg_127 (12 * c + 5) rfl ⟨by decide, by decide⟩ rfl (bn (by omega) (by decide)) (bc (n := 48) (by omega) (by decide)) (by decide) ?_
                  refine xe_sn pg_127 2 (fr' := (132, [(6, .int 2), (5, .int (if (if (V.1 167 c) = 1 then (1 : Int32) else (if (V.1 167 c) = 2 then (1 : Int32) else 0)) = 0 then (0 : Int32) else (if (V.1 168 c) ≤ 0 then (if (V.1 171 c) = f then (1 : Int32) else 0) else (if (V.1 169 (3 * c)) = f then (1 : Int32) else 0)))), (4, .int (if (V.1 167 c) = 1 then (1 : Int32) else (if (V.1 167 c) = 2 then (1 : Int32) else 0))), (0, .ref 165), (1, .int f), (2, .int (nI c)), (3, .int cm)], [])) rfl ?_
                  refine xe_sn pg_127 2 (fr' := (135, [(6, .int 2), (5, .int (if (if (V.1 167 c) = 1 then (1 : Int32) else (if (V.1 167 c) = 2 then (1 : Int32) else 0)) = 0 then (0 : Int32) else (if (V.1 168 c) ≤ 0 then (if (V.1 171 c) = f then (1 : Int32) else 0) else (if (V.1 169 (3 * c)) = f then (1 : Int32) else 0)))), (4, .int (if (V.1 167 c) = 1 then (1 : Int32) else (if (V.1 167 c) = 2 then (1 : Int32) else 0))), (0, .ref 165), (1, .int f), (2, .int (nI c)), (3, .int cm)], [.ref 165, .int 2])) rfl ?_
                  refine ze_gi pg_127 (r17.2.1 165 27) rfl rfl rfl rfl ?_
                  by_cases h25 : (r17.2.1 165 27) < 2
                  · rw [if_pos h25] at hE
                    refine xe_c2t pg_127 196 rfl rfl h25 ?_
                    refine xe_sn pg_127 2 (fr' := (199, [(6, .int 2), (5, .int (if (if (V.1 167 c) = 1 then (1 : Int32) else (if (V.1 167 c) = 2 then (1 : Int32) else 0)) = 0 then (0 : Int32) else (if (V.1 168 c) ≤ 0 then (if (V.1 171 c) = f then (1 : Int32) else 0) else (if (V.1 169 (3 * c)) = f then (1 : Int32) else 0)))), (4, .int (if (V.1 167 c) = 1 then (1 : Int32) else (if (V.1 167 c) = 2 then (1 : Int32) else 0))), (0, .ref 165), (1, .int f), (2, .int (nI c)), (3, .int cm)], [.int (nI c), .int 12])) rfl ?_
                    refine xe_nm pg_127 12 c (12 * c) rfl (by omega) ?_
                    refine xe_sn pg_127 2 (fr' := (202, [(6, .int 2), (5, .int (if (if (V.1 167 c) = 1 then (1 : Int32) else (if (V.1 167 c) = 2 then (1 : Int32) else 0)) = 0 then (0 : Int32) else (if (V.1 168 c) ≤ 0 then (if (V.1 171 c) = f then (1 : Int32) else 0) else (if (V.1 169 (3 * c)) = f then (1 : Int32) else 0)))), (4, .int (if (V.1 167 c) = 1 then (1 : Int32) else (if (V.1 167 c) = 2 then (1 : Int32) else 0))), (0, .ref 165), (1, .int f), (2, .int (nI c)), (3, .int cm)], [.ref 165, .int 4, .int (nI (12 * c))])) rfl ?_
                    refine ze_gi pg_127 (r17.2.1 165 27) rfl rfl rfl rfl ?_
                    refine xe_sn pg_127 3 (fr' := (210, [(6, .int 2), (5, .int (if (if (V.1 167 c) = 1 then (1 : Int32) else (if (V.1 167 c) = 2 then (1 : Int32) else 0)) = 0 then (0 : Int32) else (if (V.1 168 c) ≤ 0 then (if (V.1 171 c) = f then (1 : Int32) else 0) else (if (V.1 169 (3 * c)) = f then (1 : Int32) else 0)))), (4, .int (if (V.1 167 c) = 1 then (1 : Int32) else (if (V.1 167 c) = 2 then (1 : Int32) else 0))), (0, .ref 165), (1, .int f), (2, .int (nI c)), (3, .int cm)], [.int (nI c), .ref 168, .int (r17.2.1 165 27), .int 4, .int (nI (12 * c))])) rfl ?_
                    refine ze_il pg_127 c (r17.1 168 c) rfl ⟨by decide, by decide⟩ rfl (bn (by omega) (by decide)) (bc (n := 4) (by omega) (by decide)) rfl ?_
                    refine xe_jn (fr' := (222, [(6, .int 2), (5, .int (if (if (V.1 167 c) = 1 then (1 : Int32) else (if (V.1 167 c) = 2 then (1 : Int32) else 0)) = 0 then (0 : Int32) else (if (V.1 168 c) ≤ 0 then (if (V.1 171 c) = f then (1 : Int32) else 0) else (if (V.1 169 (3 * c)) = f then (1 : Int32) else 0)))), (4, .int (if (V.1 167 c) = 1 then (1 : Int32) else (if (V.1 167 c) = 2 then (1 : Int32) else 0))), (0, .ref 165), (1, .int f), (2, .int (nI c)), (3, .int cm)], [.int (if (r17.1 168 c) ≤ (r17.2.1 165 27) then (0 : Int32) else (r17.2.1 165 27)), .int 4, .int (nI (12 * c))])) (fun J26 => ?_) ?_
                    · by_cases h26 : (r17.1 168 c) ≤ (r17.2.1 165 27)
                      · rw [show (if (r17.1 168 c) ≤ (r17.2.1 165 27) then (0 : Int32) else (r17.2.1 165 27)) = 0 from if_pos h26] at J26
                        refine xe_c2t pg_127 221 rfl rfl h26 ?_
                        refine xe_sn pg_127 1 (fr' := (222, [(6, .int 2), (5, .int (if (if (V.1 167 c) = 1 then (1 : Int32) else (if (V.1 167 c) = 2 then (1 : Int32) else 0)) = 0 then (0 : Int32) else (if (V.1 168 c) ≤ 0 then (if (V.1 171 c) = f then (1 : Int32) else 0) else (if (V.1 169 (3 * c)) = f then (1 : Int32) else 0)))), (4, .int (if (V.1 167 c) = 1 then (1 : Int32) else (if (V.1 167 c) = 2 then (1 : Int32) else 0))), (0, .ref 165), (1, .int f), (2, .int (nI c)), (3, .int cm)], [.int 0, .int 4, .int (nI (12 * c))])) rfl ?_
                        exact J26
                      · rw [show (if (r17.1 168 c) ≤ (r17.2.1 165 27) then (0 : Int32) else (r17.2.1 165 27)) = (r17.2.1 165 27) from if_neg h26] at J26
                        refine xe_c2f pg_127 221 rfl rfl h26 ?_
                        refine xe_sn pg_127 1 (fr' := (215, [(6, .int 2), (5, .int (if (if (V.1 167 c) = 1 then (1 : Int32) else (if (V.1 167 c) = 2 then (1 : Int32) else 0)) = 0 then (0 : Int32) else (if (V.1 168 c) ≤ 0 then (if (V.1 171 c) = f then (1 : Int32) else 0) else (if (V.1 169 (3 * c)) = f then (1 : Int32) else 0)))), (4, .int (if (V.1 167 c) = 1 then (1 : Int32) else (if (V.1 167 c) = 2 then (1 : Int32) else 0))), (0, .ref 165), (1, .int f), (2, .int (nI c)), (3, .int cm)], [.ref 165, .int 4, .int (nI (12 * c))])) rfl ?_
                        refine ze_gi pg_127 (r17.2.1 165 27) rfl rfl rfl rfl ?_
                        refine xe_sn pg_127 1 (fr' := (222, [(6, .int 2), (5, .int (if (if (V.1 167 c) = 1 then (1 : Int32) else (if (V.1 167 c) = 2 then (1 : Int32) else 0)) = 0 then (0 : Int32) else (if (V.1 168 c) ≤ 0 then (if (V.1 171 c) = f then (1 : Int32) else 0) else (if (V.1 169 (3 * c)) = f then (1 : Int32) else 0)))), (4, .int (if (V.1 167 c) = 1 then (1 : Int32) else (if (V.1 167 c) = 2 then (1 : Int32) else 0))), (0, .ref 165), (1, .int f), (2, .int (nI c)), (3, .int cm)], [.int (r17.2.1 165 27), .int 4, .int (nI (12 * c))])) rfl ?_
                        exact J26
                    refine xe_sn pg_127 6 (fr' := (229, [(6, .int (((nI (12 * c)) + ((4 : Int32) * (if (r17.1 168 c) ≤ (r17.2.1 165 27) then (0 : Int32) else (r17.2.1 165 27)))) + 3)), (5, .int (if (if (V.1 167 c) = 1 then (1 : Int32) else (if (V.1 167 c) = 2 then (1 : Int32) else 0)) = 0 then (0 : Int32) else (if (V.1 168 c) ≤ 0 then (if (V.1 171 c) = f then (1 : Int32) else 0) else (if (V.1 169 (3 * c)) = f then (1 : Int32) else 0)))), (4, .int (if (V.1 167 c) = 1 then (1 : Int32) else (if (V.1 167 c) = 2 then (1 : Int32) else 0))), (0, .ref 165), (1, .int f), (2, .int (nI c)), (3, .int cm)], [.ref 165])) rfl ?_
                    refine ze_gi pg_127 (r17.2.1 165 27) rfl rfl rfl rfl ?_
                    refine xe_sn pg_127 3 (fr' := (237, [(6, .int (((nI (12 * c)) + ((4 : Int32) * (if (r17.1 168 c) ≤ (r17.2.1 165 27) then (0 : Int32) else (r17.2.1 165 27)))) + 3)), (5, .int (if (if (V.1 167 c) = 1 then (1 : Int32) else (if (V.1 167 c) = 2 then (1 : Int32) else 0)) = 0 then (0 : Int32) else (if (V.1 168 c) ≤ 0 then (if (V.1 171 c) = f then (1 : Int32) else 0) else (if (V.1 169 (3 * c)) = f then (1 : Int32) else 0)))), (4, .int (if (V.1 167 c) = 1 then (1 : Int32) else (if (V.1 167 c) = 2 then (1 : Int32) else 0))), (0, .ref 165), (1, .int f), (2, .int (nI c)), (3, .int cm)], [.int (nI c), .ref 168, .int (r17.2.1 165 27)])) rfl ?_
                    refine ze_il pg_127 c (r17.1 168 c) rfl ⟨by decide, by decide⟩ rfl (bn (by omega) (by decide)) (bc (n := 4) (by omega) (by decide)) rfl ?_
                    by_cases h27 : (r17.1 168 c) ≤ (r17.2.1 165 27)
                    · rw [if_pos h27] at hE
                      refine xe_c2t pg_127 285 rfl rfl h27 ?_
                      refine xe_sn pg_127 2 (fr' := (287, [(6, .int (((nI (12 * c)) + ((4 : Int32) * (if (r17.1 168 c) ≤ (r17.2.1 165 27) then (0 : Int32) else (r17.2.1 165 27)))) + 3)), (5, .int (if (if (V.1 167 c) = 1 then (1 : Int32) else (if (V.1 167 c) = 2 then (1 : Int32) else 0)) = 0 then (0 : Int32) else (if (V.1 168 c) ≤ 0 then (if (V.1 171 c) = f then (1 : Int32) else 0) else (if (V.1 169 (3 * c)) = f then (1 : Int32) else 0)))), (4, .int (if (V.1 167 c) = 1 then (1 : Int32) else (if (V.1 167 c) = 2 then (1 : Int32) else 0))), (0, .ref 165), (1, .int f), (2, .int (nI c)), (3, .int cm)], [.int (nI c), .ref 165])) rfl ?_
                      obtain ⟨r18, e18, hE⟩ := Option.bind_eq_some_iff.mp hE
                      refine xe_cv pg_127 122 pg_122 [.int (nI c)] [] (none) rfl rfl rfl rfl ⟨Nat.le_of_ble_eq_true rfl, Nat.le_of_ble_eq_true rfl, Nat.le_of_ble_eq_true rfl⟩ ⟨rfl, rfl⟩ ⟨by decide, rfl, by decide⟩ (cg_closeNow _ (c := c) (by omega) e18) ?_
                      refine xe_sn pg_127 1 (fr' := (321, [(6, .int (((nI (12 * c)) + ((4 : Int32) * (if (r17.1 168 c) ≤ (r17.2.1 165 27) then (0 : Int32) else (r17.2.1 165 27)))) + 3)), (5, .int (if (if (V.1 167 c) = 1 then (1 : Int32) else (if (V.1 167 c) = 2 then (1 : Int32) else 0)) = 0 then (0 : Int32) else (if (V.1 168 c) ≤ 0 then (if (V.1 171 c) = f then (1 : Int32) else 0) else (if (V.1 169 (3 * c)) = f then (1 : Int32) else 0)))), (4, .int (if (V.1 167 c) = 1 then (1 : Int32) else (if (V.1 167 c) = 2 then (1 : Int32) else 0))), (0, .ref 165), (1, .int f), (2, .int (nI c)), (3, .int cm)], [])) rfl ?_
                      cases hE
                      exact xe_end pg_127 rfl
                    · rw [if_neg h27] at hE
                      refine xe_c2f pg_127 285 rfl rfl h27 ?_
                      refine xe_sn pg_127 4 (fr' := (248, [(6, .int (((nI (12 * c)) + ((4 : Int32) * (if (r17.1 168 c) ≤ (r17.2.1 165 27) then (0 : Int32) else (r17.2.1 165 27)))) + 3)), (5, .int (if (if (V.1 167 c) = 1 then (1 : Int32) else (if (V.1 167 c) = 2 then (1 : Int32) else 0)) = 0 then (0 : Int32) else (if (V.1 168 c) ≤ 0 then (if (V.1 171 c) = f then (1 : Int32) else 0) else (if (V.1 169 (3 * c)) = f then (1 : Int32) else 0)))), (4, .int (if (V.1 167 c) = 1 then (1 : Int32) else (if (V.1 167 c) = 2 then (1 : Int32) else 0))), (0, .ref 165), (1, .int f), (2, .int (nI c)), (3, .int cm)], [.int (((nI (12 * c)) + ((4 : Int32) * (if (r17.1 168 c) ≤ (r17.2.1 165 27) then (0 : Int32) else (r17.2.1 165 27)))) + 3), .ref 170, .ref 165])) rfl ?_
                      by_cases g28 : bnd (((nI (12 * c)) + ((4 : Int32) * (if (r17.1 168 c) ≤ (r17.2.1 165 27) then (0 : Int32) else (r17.2.1 165 27)))) + 3) 48
                      case neg => rw [if_neg g28] at hE; cases hE
                      rw [if_pos g28] at hE
                      refine ze_il pg_127 (((nI (12 * c)) + ((4 : Int32) * (if (r17.1 168 c) ≤ (r17.2.1 165 27) then (0 : Int32) else (r17.2.1 165 27)))) + 3).toNatClampNeg ((vx r17 170 (12 * c + 5) (ks ((vx r10 170 (12 * c + 1) (ks (V.1 170 (12 * c + 1)) 14)).1 170 (12 * c + 5)) 14)).1 170 (((nI (12 * c)) + ((4 : Int32) * (if (r17.1 168 c) ≤ (r17.2.1 165 27) then (0 : Int32) else (r17.2.1 165 27)))) + 3).toNatClampNeg) rfl ⟨by decide, by decide⟩ rfl g28 rfl rfl ?_
                      obtain ⟨r19, e19, hE⟩ := Option.bind_eq_some_iff.mp hE
                      refine xe_cv pg_127 116 pg_116 [.int ((vx r17 170 (12 * c + 5) (ks ((vx r10 170 (12 * c + 1) (ks (V.1 170 (12 * c + 1)) 14)).1 170 (12 * c + 5)) 14)).1 170 (((nI (12 * c)) + ((4 : Int32) * (if (r17.1 168 c) ≤ (r17.2.1 165 27) then (0 : Int32) else (r17.2.1 165 27)))) + 3).toNatClampNeg)] [] (some (.int r19)) rfl rfl rfl rfl ⟨Nat.le_of_ble_eq_true rfl, Nat.le_of_ble_eq_true rfl, Nat.le_of_ble_eq_true rfl⟩ ⟨rfl, rfl⟩ ⟨by decide, rfl, by decide⟩ (cg_isKnown _ (key := ((vx r17 170 (12 * c + 5) (ks ((vx r10 170 (12 * c + 1) (ks (V.1 170 (12 * c + 1)) 14)).1 170 (12 * c + 5)) 14)).1 170 (((nI (12 * c)) + ((4 : Int32) * (if (r17.1 168 c) ≤ (r17.2.1 165 27) then (0 : Int32) else (r17.2.1 165 27)))) + 3).toNatClampNeg))  (Option.some.inj e19)) ?_
                      by_cases h29 : r19 = 0
                      · rw [if_pos h29] at hE
                        refine xe_c1t pg_127 285 rfl rfl h29 ?_
                        refine xe_sn pg_127 2 (fr' := (287, [(6, .int (((nI (12 * c)) + ((4 : Int32) * (if (r17.1 168 c) ≤ (r17.2.1 165 27) then (0 : Int32) else (r17.2.1 165 27)))) + 3)), (5, .int (if (if (V.1 167 c) = 1 then (1 : Int32) else (if (V.1 167 c) = 2 then (1 : Int32) else 0)) = 0 then (0 : Int32) else (if (V.1 168 c) ≤ 0 then (if (V.1 171 c) = f then (1 : Int32) else 0) else (if (V.1 169 (3 * c)) = f then (1 : Int32) else 0)))), (4, .int (if (V.1 167 c) = 1 then (1 : Int32) else (if (V.1 167 c) = 2 then (1 : Int32) else 0))), (0, .ref 165), (1, .int f), (2, .int (nI c)), (3, .int cm)], [.int (nI c), .ref 165])) rfl ?_
                        obtain ⟨r20, e20, hE⟩ := Option.bind_eq_some_iff.mp hE
                        refine xe_cv pg_127 122 pg_122 [.int (nI c)] [] (none) rfl rfl rfl rfl ⟨Nat.le_of_ble_eq_true rfl, Nat.le_of_ble_eq_true rfl, Nat.le_of_ble_eq_true rfl⟩ ⟨rfl, rfl⟩ ⟨by decide, rfl, by decide⟩ (cg_closeNow _ (c := c) (by omega) e20) ?_
                        refine xe_sn pg_127 1 (fr' := (321, [(6, .int (((nI (12 * c)) + ((4 : Int32) * (if (r17.1 168 c) ≤ (r17.2.1 165 27) then (0 : Int32) else (r17.2.1 165 27)))) + 3)), (5, .int (if (if (V.1 167 c) = 1 then (1 : Int32) else (if (V.1 167 c) = 2 then (1 : Int32) else 0)) = 0 then (0 : Int32) else (if (V.1 168 c) ≤ 0 then (if (V.1 171 c) = f then (1 : Int32) else 0) else (if (V.1 169 (3 * c)) = f then (1 : Int32) else 0)))), (4, .int (if (V.1 167 c) = 1 then (1 : Int32) else (if (V.1 167 c) = 2 then (1 : Int32) else 0))), (0, .ref 165), (1, .int f), (2, .int (nI c)), (3, .int cm)], [])) rfl ?_
                        cases hE
                        exact xe_end pg_127 rfl
                      · rw [if_neg h29] at hE
                        refine xe_c1f pg_127 285 rfl rfl h29 ?_
                        refine xe_sn pg_127 7 (fr' := (268, [(6, .int (((nI (12 * c)) + ((4 : Int32) * (if (r17.1 168 c) ≤ (r17.2.1 165 27) then (0 : Int32) else (r17.2.1 165 27)))) + 3)), (5, .int (if (if (V.1 167 c) = 1 then (1 : Int32) else (if (V.1 167 c) = 2 then (1 : Int32) else 0)) = 0 then (0 : Int32) else (if (V.1 168 c) ≤ 0 then (if (V.1 171 c) = f then (1 : Int32) else 0) else (if (V.1 169 (3 * c)) = f then (1 : Int32) else 0)))), (4, .int (if (V.1 167 c) = 1 then (1 : Int32) else (if (V.1 167 c) = 2 then (1 : Int32) else 0))), (0, .ref 165), (1, .int f), (2, .int (nI c)), (3, .int cm)], [.int (((nI (12 * c)) + ((4 : Int32) * (if (r17.1 168 c) ≤ (r17.2.1 165 27) then (0 : Int32) else (r17.2.1 165 27)))) + 3), .ref 170, .ref 165, .int (((nI (12 * c)) + ((4 : Int32) * (if (r17.1 168 c) ≤ (r17.2.1 165 27) then (0 : Int32) else (r17.2.1 165 27)))) + 3), .ref 170])) rfl ?_
                        refine ze_il pg_127 (((nI (12 * c)) + ((4 : Int32) * (if (r17.1 168 c) ≤ (r17.2.1 165 27) then (0 : Int32) else (r17.2.1 165 27)))) + 3).toNatClampNeg ((vx r17 170 (12 * c + 5) (ks ((vx r10 170 (12 * c + 1) (ks (V.1 170 (12 * c + 1)) 14)).1 170 (12 * c + 5)) 14)).1 170 (((nI (12 * c)) + ((4 : Int32) * (if (r17.1 168 c) ≤ (r17.2.1 165 27) then (0 : Int32) else (r17.2.1 165 27)))) + 3).toNatClampNeg) rfl ⟨by decide, by decide⟩ rfl g28 rfl rfl ?_
                        obtain ⟨r21, e21, hE⟩ := Option.bind_eq_some_iff.mp hE
                        refine xe_cv pg_127 110 pg_110 [.int ((vx r17 170 (12 * c + 5) (ks ((vx r10 170 (12 * c + 1) (ks (V.1 170 (12 * c + 1)) 14)).1 170 (12 * c + 5)) 14)).1 170 (((nI (12 * c)) + ((4 : Int32) * (if (r17.1 168 c) ≤ (r17.2.1 165 27) then (0 : Int32) else (r17.2.1 165 27)))) + 3).toNatClampNeg)] [.int (((nI (12 * c)) + ((4 : Int32) * (if (r17.1 168 c) ≤ (r17.2.1 165 27) then (0 : Int32) else (r17.2.1 165 27)))) + 3), .ref 170] (some (.int r21)) rfl rfl rfl rfl ⟨Nat.le_of_ble_eq_true rfl, Nat.le_of_ble_eq_true rfl, Nat.le_of_ble_eq_true rfl⟩ ⟨rfl, rfl⟩ ⟨by decide, rfl, by decide⟩ (cg_fed _ (key := ((vx r17 170 (12 * c + 5) (ks ((vx r10 170 (12 * c + 1) (ks (V.1 170 (12 * c + 1)) 14)).1 170 (12 * c + 5)) 14)).1 170 (((nI (12 * c)) + ((4 : Int32) * (if (r17.1 168 c) ≤ (r17.2.1 165 27) then (0 : Int32) else (r17.2.1 165 27)))) + 3).toNatClampNeg))  (Option.some.inj e21)) ?_
                        refine ze_isx pg_127 (((nI (12 * c)) + ((4 : Int32) * (if (r17.1 168 c) ≤ (r17.2.1 165 27) then (0 : Int32) else (r17.2.1 165 27)))) + 3).toNatClampNeg rfl ⟨by decide, by decide⟩ rfl g28 rfl (by decide) ?_
                        refine xe_sn pg_127 3 (fr' := (276, [(6, .int (((nI (12 * c)) + ((4 : Int32) * (if (r17.1 168 c) ≤ (r17.2.1 165 27) then (0 : Int32) else (r17.2.1 165 27)))) + 3)), (5, .int (if (if (V.1 167 c) = 1 then (1 : Int32) else (if (V.1 167 c) = 2 then (1 : Int32) else 0)) = 0 then (0 : Int32) else (if (V.1 168 c) ≤ 0 then (if (V.1 171 c) = f then (1 : Int32) else 0) else (if (V.1 169 (3 * c)) = f then (1 : Int32) else 0)))), (4, .int (if (V.1 167 c) = 1 then (1 : Int32) else (if (V.1 167 c) = 2 then (1 : Int32) else 0))), (0, .ref 165), (1, .int f), (2, .int (nI c)), (3, .int cm)], [.ref 165, .int (nI c), .ref 165])) rfl ?_
                        refine ze_gi pg_127 (r17.2.1 165 27) rfl rfl rfl rfl ?_
                        obtain ⟨r22, e22, hE⟩ := Option.bind_eq_some_iff.mp hE
                        refine xe_cv pg_127 126 pg_126 [.int (nI c), .int (r17.2.1 165 27)] [] (none) rfl rfl rfl rfl ⟨Nat.le_of_ble_eq_true rfl, Nat.le_of_ble_eq_true rfl, Nat.le_of_ble_eq_true rfl⟩ ⟨rfl, rfl⟩ ⟨by decide, rfl, by decide⟩ (cg_clientFollows _ (c := c) (k := (r17.2.1 165 27)) (by omega) e22) ?_
                        refine xe_sn pg_127 1 (fr' := (290, [(6, .int (((nI (12 * c)) + ((4 : Int32) * (if (r17.1 168 c) ≤ (r17.2.1 165 27) then (0 : Int32) else (r17.2.1 165 27)))) + 3)), (5, .int (if (if (V.1 167 c) = 1 then (1 : Int32) else (if (V.1 167 c) = 2 then (1 : Int32) else 0)) = 0 then (0 : Int32) else (if (V.1 168 c) ≤ 0 then (if (V.1 171 c) = f then (1 : Int32) else 0) else (if (V.1 169 (3 * c)) = f then (1 : Int32) else 0)))), (4, .int (if (V.1 167 c) = 1 then (1 : Int32) else (if (V.1 167 c) = 2 then (1 : Int32) else 0))), (0, .ref 165), (1, .int f), (2, .int (nI c)), (3, .int cm)], [])) rfl ?_
                        refine xe_sn pg_127 1 (fr' := (321, [(6, .int (((nI (12 * c)) + ((4 : Int32) * (if (r17.1 168 c) ≤ (r17.2.1 165 27) then (0 : Int32) else (r17.2.1 165 27)))) + 3)), (5, .int (if (if (V.1 167 c) = 1 then (1 : Int32) else (if (V.1 167 c) = 2 then (1 : Int32) else 0)) = 0 then (0 : Int32) else (if (V.1 168 c) ≤ 0 then (if (V.1 171 c) = f then (1 : Int32) else 0) else (if (V.1 169 (3 * c)) = f then (1 : Int32) else 0)))), (4, .int (if (V.1 167 c) = 1 then (1 : Int32) else (if (V.1 167 c) = 2 then (1 : Int32) else 0))), (0, .ref 165), (1, .int f), (2, .int (nI c)), (3, .int cm)], [])) rfl ?_
                        cases hE
                        exact xe_end pg_127 rfl
                  · rw [if_neg h25] at hE
                    refine xe_c2f pg_127 196 rfl rfl h25 ?_
                    refine xe_sn pg_127 1 (fr' := (142, [(6, .int 2), (5, .int (if (if (V.1 167 c) = 1 then (1 : Int32) else (if (V.1 167 c) = 2 then (1 : Int32) else 0)) = 0 then (0 : Int32) else (if (V.1 168 c) ≤ 0 then (if (V.1 171 c) = f then (1 : Int32) else 0) else (if (V.1 169 (3 * c)) = f then (1 : Int32) else 0)))), (4, .int (if (V.1 167 c) = 1 then (1 : Int32) else (if (V.1 167 c) = 2 then (1 : Int32) else 0))), (0, .ref 165), (1, .int f), (2, .int (nI c)), (3, .int cm)], [.ref 165])) rfl ?_
                    refine ze_gi pg_127 (r17.2.1 165 27) rfl rfl rfl rfl ?_
                    refine xe_sn pg_127 3 (fr' := (150, [(6, .int 2), (5, .int (if (if (V.1 167 c) = 1 then (1 : Int32) else (if (V.1 167 c) = 2 then (1 : Int32) else 0)) = 0 then (0 : Int32) else (if (V.1 168 c) ≤ 0 then (if (V.1 171 c) = f then (1 : Int32) else 0) else (if (V.1 169 (3 * c)) = f then (1 : Int32) else 0)))), (4, .int (if (V.1 167 c) = 1 then (1 : Int32) else (if (V.1 167 c) = 2 then (1 : Int32) else 0))), (0, .ref 165), (1, .int f), (2, .int (nI c)), (3, .int cm)], [.int (nI c), .ref 168, .int (r17.2.1 165 27)])) rfl ?_
                    refine ze_il pg_127 c (r17.1 168 c) rfl ⟨by decide, by decide⟩ rfl (bn (by omega) (by decide)) (bc (n := 4) (by omega) (by decide)) rfl ?_
                    by_cases h30 : (r17.1 168 c) ≤ (r17.2.1 165 27)
                    · rw [if_pos h30] at hE
                      refine xe_c2t pg_127 196 rfl rfl h30 ?_
                      refine xe_sn pg_127 2 (fr' := (199, [(6, .int 2), (5, .int (if (if (V.1 167 c) = 1 then (1 : Int32) else (if (V.1 167 c) = 2 then (1 : Int32) else 0)) = 0 then (0 : Int32) else (if (V.1 168 c) ≤ 0 then (if (V.1 171 c) = f then (1 : Int32) else 0) else (if (V.1 169 (3 * c)) = f then (1 : Int32) else 0)))), (4, .int (if (V.1 167 c) = 1 then (1 : Int32) else (if (V.1 167 c) = 2 then (1 : Int32) else 0))), (0, .ref 165), (1, .int f), (2, .int (nI c)), (3, .int cm)], [.int (nI c), .int 12])) rfl ?_
                      refine xe_nm pg_127 12 c (12 * c) rfl (by omega) ?_
                      refine xe_sn pg_127 2 (fr' := (202, [(6, .int 2), (5, .int (if (if (V.1 167 c) = 1 then (1 : Int32) else (if (V.1 167 c) = 2 then (1 : Int32) else 0)) = 0 then (0 : Int32) else (if (V.1 168 c) ≤ 0 then (if (V.1 171 c) = f then (1 : Int32) else 0) else (if (V.1 169 (3 * c)) = f then (1 : Int32) else 0)))), (4, .int (if (V.1 167 c) = 1 then (1 : Int32) else (if (V.1 167 c) = 2 then (1 : Int32) else 0))), (0, .ref 165), (1, .int f), (2, .int (nI c)), (3, .int cm)], [.ref 165, .int 4, .int (nI (12 * c))])) rfl ?_
                      refine ze_gi pg_127 (r17.2.1 165 27) rfl rfl rfl rfl ?_
                      refine xe_sn pg_127 3 (fr' := (210, [(6, .int 2), (5, .int (if (if (V.1 167 c) = 1 then (1 : Int32) else (if (V.1 167 c) = 2 then (1 : Int32) else 0)) = 0 then (0 : Int32) else (if (V.1 168 c) ≤ 0 then (if (V.1 171 c) = f then (1 : Int32) else 0) else (if (V.1 169 (3 * c)) = f then (1 : Int32) else 0)))), (4, .int (if (V.1 167 c) = 1 then (1 : Int32) else (if (V.1 167 c) = 2 then (1 : Int32) else 0))), (0, .ref 165), (1, .int f), (2, .int (nI c)), (3, .int cm)], [.int (nI c), .ref 168, .int (r17.2.1 165 27), .int 4, .int (nI (12 * c))])) rfl ?_
                      refine ze_il pg_127 c (r17.1 168 c) rfl ⟨by decide, by decide⟩ rfl (bn (by omega) (by decide)) (bc (n := 4) (by omega) (by decide)) rfl ?_
                      refine xe_c2t pg_127 221 rfl rfl h30 ?_
                      refine xe_sn pg_127 2 (fr' := (223, [(6, .int 2), (5, .int (if (if (V.1 167 c) = 1 then (1 : Int32) else (if (V.1 167 c) = 2 then (1 : Int32) else 0)) = 0 then (0 : Int32) else (if (V.1 168 c) ≤ 0 then (if (V.1 171 c) = f then (1 : Int32) else 0) else (if (V.1 169 (3 * c)) = f then (1 : Int32) else 0)))), (4, .int (if (V.1 167 c) = 1 then (1 : Int32) else (if (V.1 167 c) = 2 then (1 : Int32) else 0))), (0, .ref 165), (1, .int f), (2, .int (nI c)), (3, .int cm)], [.int 0, .int (nI (12 * c))])) rfl ?_
                      refine xe_na pg_127 (12 * c) 0 (12 * c) rfl (by omega) ?_
                      refine xe_sn pg_127 1 (fr' := (225, [(6, .int 2), (5, .int (if (if (V.1 167 c) = 1 then (1 : Int32) else (if (V.1 167 c) = 2 then (1 : Int32) else 0)) = 0 then (0 : Int32) else (if (V.1 168 c) ≤ 0 then (if (V.1 171 c) = f then (1 : Int32) else 0) else (if (V.1 169 (3 * c)) = f then (1 : Int32) else 0)))), (4, .int (if (V.1 167 c) = 1 then (1 : Int32) else (if (V.1 167 c) = 2 then (1 : Int32) else 0))), (0, .ref 165), (1, .int f), (2, .int (nI c)), (3, .int cm)], [.int 3, .int (nI (12 * c))])) rfl ?_
                      refine xe_na pg_127 (12 * c) 3 (12 * c + 3) rfl (by omega) ?_
                      refine xe_sn pg_127 2 (fr' := (229, [(6, .int (nI (12 * c + 3))), (5, .int (if (if (V.1 167 c) = 1 then (1 : Int32) else (if (V.1 167 c) = 2 then (1 : Int32) else 0)) = 0 then (0 : Int32) else (if (V.1 168 c) ≤ 0 then (if (V.1 171 c) = f then (1 : Int32) else 0) else (if (V.1 169 (3 * c)) = f then (1 : Int32) else 0)))), (4, .int (if (V.1 167 c) = 1 then (1 : Int32) else (if (V.1 167 c) = 2 then (1 : Int32) else 0))), (0, .ref 165), (1, .int f), (2, .int (nI c)), (3, .int cm)], [.ref 165])) rfl ?_
                      refine ze_gi pg_127 (r17.2.1 165 27) rfl rfl rfl rfl ?_
                      refine xe_sn pg_127 3 (fr' := (237, [(6, .int (nI (12 * c + 3))), (5, .int (if (if (V.1 167 c) = 1 then (1 : Int32) else (if (V.1 167 c) = 2 then (1 : Int32) else 0)) = 0 then (0 : Int32) else (if (V.1 168 c) ≤ 0 then (if (V.1 171 c) = f then (1 : Int32) else 0) else (if (V.1 169 (3 * c)) = f then (1 : Int32) else 0)))), (4, .int (if (V.1 167 c) = 1 then (1 : Int32) else (if (V.1 167 c) = 2 then (1 : Int32) else 0))), (0, .ref 165), (1, .int f), (2, .int (nI c)), (3, .int cm)], [.int (nI c), .ref 168, .int (r17.2.1 165 27)])) rfl ?_
                      refine ze_il pg_127 c (r17.1 168 c) rfl ⟨by decide, by decide⟩ rfl (bn (by omega) (by decide)) (bc (n := 4) (by omega) (by decide)) rfl ?_
                      refine xe_c2t pg_127 285 rfl rfl h30 ?_
                      refine xe_sn pg_127 2 (fr' := (287, [(6, .int (nI (12 * c + 3))), (5, .int (if (if (V.1 167 c) = 1 then (1 : Int32) else (if (V.1 167 c) = 2 then (1 : Int32) else 0)) = 0 then (0 : Int32) else (if (V.1 168 c) ≤ 0 then (if (V.1 171 c) = f then (1 : Int32) else 0) else (if (V.1 169 (3 * c)) = f then (1 : Int32) else 0)))), (4, .int (if (V.1 167 c) = 1 then (1 : Int32) else (if (V.1 167 c) = 2 then (1 : Int32) else 0))), (0, .ref 165), (1, .int f), (2, .int (nI c)), (3, .int cm)], [.int (nI c), .ref 165])) rfl ?_
                      obtain ⟨r23, e23, hE⟩ := Option.bind_eq_some_iff.mp hE
                      refine xe_cv pg_127 122 pg_122 [.int (nI c)] [] (none) rfl rfl rfl rfl ⟨Nat.le_of_ble_eq_true rfl, Nat.le_of_ble_eq_true rfl, Nat.le_of_ble_eq_true rfl⟩ ⟨rfl, rfl⟩ ⟨by decide, rfl, by decide⟩ (cg_closeNow _ (c := c) (by omega) e23) ?_
                      refine xe_sn pg_127 1 (fr' := (321, [(6, .int (nI (12 * c + 3))), (5, .int (if (if (V.1 167 c) = 1 then (1 : Int32) else (if (V.1 167 c) = 2 then (1 : Int32) else 0)) = 0 then (0 : Int32) else (if (V.1 168 c) ≤ 0 then (if (V.1 171 c) = f then (1 : Int32) else 0) else (if (V.1 169 (3 * c)) = f then (1 : Int32) else 0)))), (4, .int (if (V.1 167 c) = 1 then (1 : Int32) else (if (V.1 167 c) = 2 then (1 : Int32) else 0))), (0, .ref 165), (1, .int f), (2, .int (nI c)), (3, .int cm)], [])) rfl ?_
                      cases hE
                      exact xe_end pg_127 rfl
                    · rw [if_neg h30] at hE
                      refine xe_c2f pg_127 196 rfl rfl h30 ?_
                      refine xe_sn pg_127 4 (fr' := (161, [(6, .int 2), (5, .int (if (if (V.1 167 c) = 1 then (1 : Int32) else (if (V.1 167 c) = 2 then (1 : Int32) else 0)) = 0 then (0 : Int32) else (if (V.1 168 c) ≤ 0 then (if (V.1 171 c) = f then (1 : Int32) else 0) else (if (V.1 169 (3 * c)) = f then (1 : Int32) else 0)))), (4, .int (if (V.1 167 c) = 1 then (1 : Int32) else (if (V.1 167 c) = 2 then (1 : Int32) else 0))), (0, .ref 165), (1, .int f), (2, .int (nI c)), (3, .int cm)], [.int (nI c), .int 12, .ref 170])) rfl ?_
                      refine xe_nm pg_127 12 c (12 * c) rfl (by omega) ?_
                      refine xe_sn pg_127 3 (fr' := (166, [(6, .int 2), (5, .int (if (if (V.1 167 c) = 1 then (1 : Int32) else (if (V.1 167 c) = 2 then (1 : Int32) else 0)) = 0 then (0 : Int32) else (if (V.1 168 c) ≤ 0 then (if (V.1 171 c) = f then (1 : Int32) else 0) else (if (V.1 169 (3 * c)) = f then (1 : Int32) else 0)))), (4, .int (if (V.1 167 c) = 1 then (1 : Int32) else (if (V.1 167 c) = 2 then (1 : Int32) else 0))), (0, .ref 165), (1, .int f), (2, .int (nI c)), (3, .int cm)], [.int 8, .int (nI (12 * c)), .ref 170])) rfl ?_
                      refine xe_na pg_127 (12 * c) 8 (12 * c + 8) rfl (by omega) ?_
                      refine xe_sn pg_127 1 (fr' := (168, [(6, .int 2), (5, .int (if (if (V.1 167 c) = 1 then (1 : Int32) else (if (V.1 167 c) = 2 then (1 : Int32) else 0)) = 0 then (0 : Int32) else (if (V.1 168 c) ≤ 0 then (if (V.1 171 c) = f then (1 : Int32) else 0) else (if (V.1 169 (3 * c)) = f then (1 : Int32) else 0)))), (4, .int (if (V.1 167 c) = 1 then (1 : Int32) else (if (V.1 167 c) = 2 then (1 : Int32) else 0))), (0, .ref 165), (1, .int f), (2, .int (nI c)), (3, .int cm)], [.int 1, .int (nI (12 * c + 8)), .ref 170])) rfl ?_
                      refine xe_na pg_127 (12 * c + 8) 1 (12 * c + 9) rfl (by omega) ?_
                      refine xe_sn pg_127 5 (fr' := (177, [(6, .int 2), (5, .int (if (if (V.1 167 c) = 1 then (1 : Int32) else (if (V.1 167 c) = 2 then (1 : Int32) else 0)) = 0 then (0 : Int32) else (if (V.1 168 c) ≤ 0 then (if (V.1 171 c) = f then (1 : Int32) else 0) else (if (V.1 169 (3 * c)) = f then (1 : Int32) else 0)))), (4, .int (if (V.1 167 c) = 1 then (1 : Int32) else (if (V.1 167 c) = 2 then (1 : Int32) else 0))), (0, .ref 165), (1, .int f), (2, .int (nI c)), (3, .int cm)], [.int (nI c), .int 12, .ref 170, .ref 165, .int (nI (12 * c + 9)), .ref 170])) rfl ?_
                      refine xe_nm pg_127 12 c (12 * c) rfl (by omega) ?_
                      refine xe_sn pg_127 3 (fr' := (182, [(6, .int 2), (5, .int (if (if (V.1 167 c) = 1 then (1 : Int32) else (if (V.1 167 c) = 2 then (1 : Int32) else 0)) = 0 then (0 : Int32) else (if (V.1 168 c) ≤ 0 then (if (V.1 171 c) = f then (1 : Int32) else 0) else (if (V.1 169 (3 * c)) = f then (1 : Int32) else 0)))), (4, .int (if (V.1 167 c) = 1 then (1 : Int32) else (if (V.1 167 c) = 2 then (1 : Int32) else 0))), (0, .ref 165), (1, .int f), (2, .int (nI c)), (3, .int cm)], [.int 8, .int (nI (12 * c)), .ref 170, .ref 165, .int (nI (12 * c + 9)), .ref 170])) rfl ?_
                      refine xe_na pg_127 (12 * c) 8 (12 * c + 8) rfl (by omega) ?_
                      refine xe_sn pg_127 1 (fr' := (184, [(6, .int 2), (5, .int (if (if (V.1 167 c) = 1 then (1 : Int32) else (if (V.1 167 c) = 2 then (1 : Int32) else 0)) = 0 then (0 : Int32) else (if (V.1 168 c) ≤ 0 then (if (V.1 171 c) = f then (1 : Int32) else 0) else (if (V.1 169 (3 * c)) = f then (1 : Int32) else 0)))), (4, .int (if (V.1 167 c) = 1 then (1 : Int32) else (if (V.1 167 c) = 2 then (1 : Int32) else 0))), (0, .ref 165), (1, .int f), (2, .int (nI c)), (3, .int cm)], [.int 1, .int (nI (12 * c + 8)), .ref 170, .ref 165, .int (nI (12 * c + 9)), .ref 170])) rfl ?_
                      refine xe_na pg_127 (12 * c + 8) 1 (12 * c + 9) rfl (by omega) ?_
                      refine ze_il pg_127 (12 * c + 9) ((vx r17 170 (12 * c + 5) (ks ((vx r10 170 (12 * c + 1) (ks (V.1 170 (12 * c + 1)) 14)).1 170 (12 * c + 5)) 14)).1 170 (12 * c + 9)) rfl ⟨by decide, by decide⟩ rfl (bn (by omega) (by decide)) (bc (n := 48) (by omega) (by decide)) rfl ?_
                      obtain ⟨r24, e24, hE⟩ := Option.bind_eq_some_iff.mp hE
                      have e24q := Option.some.inj e24
                      refine xe_cv pg_127 109 pg_109 [.int ((vx r17 170 (12 * c + 5) (ks ((vx r10 170 (12 * c + 1) (ks (V.1 170 (12 * c + 1)) 14)).1 170 (12 * c + 5)) 14)).1 170 (12 * c + 9))] [.int (nI (12 * c + 9)), .ref 170] (some (.int (ks ((vx r17 170 (12 * c + 5) (ks ((vx r10 170 (12 * c + 1) (ks (V.1 170 (12 * c + 1)) 14)).1 170 (12 * c + 5)) 14)).1 170 (12 * c + 9)) 14))) rfl rfl rfl rfl ⟨Nat.le_of_ble_eq_true rfl, Nat.le_of_ble_eq_true rfl, Nat.le_of_ble_eq_true rfl⟩ ⟨rfl, rfl⟩ ⟨by decide, rfl, by decide⟩ (e24q ▸ cg_wrap _ (key := ((vx r17 170 (12 * c + 5) (ks ((vx r10 170 (12 * c + 1) (ks (V.1 170 (12 * c + 1)) 14)).1 170 (12 * c + 5)) 14)).1 170 (12 * c + 9))) ) ?_
                      refine ze_isx pg_127 (12 * c + 9) rfl ⟨by decide, by decide⟩ rfl (bn (by omega) (by decide)) (bc (n := 48) (by omega) (by decide)) (by decide) ?_
                      refine xe_sn pg_127 2 (fr' := (132, [(6, .int 3), (5, .int (if (if (V.1 167 c) = 1 then (1 : Int32) else (if (V.1 167 c) = 2 then (1 : Int32) else 0)) = 0 then (0 : Int32) else (if (V.1 168 c) ≤ 0 then (if (V.1 171 c) = f then (1 : Int32) else 0) else (if (V.1 169 (3 * c)) = f then (1 : Int32) else 0)))), (4, .int (if (V.1 167 c) = 1 then (1 : Int32) else (if (V.1 167 c) = 2 then (1 : Int32) else 0))), (0, .ref 165), (1, .int f), (2, .int (nI c)), (3, .int cm)], [])) rfl ?_
                      refine xe_sn pg_127 2 (fr' := (135, [(6, .int 3), (5, .int (if (if (V.1 167 c) = 1 then (1 : Int32) else (if (V.1 167 c) = 2 then (1 : Int32) else 0)) = 0 then (0 : Int32) else (if (V.1 168 c) ≤ 0 then (if (V.1 171 c) = f then (1 : Int32) else 0) else (if (V.1 169 (3 * c)) = f then (1 : Int32) else 0)))), (4, .int (if (V.1 167 c) = 1 then (1 : Int32) else (if (V.1 167 c) = 2 then (1 : Int32) else 0))), (0, .ref 165), (1, .int f), (2, .int (nI c)), (3, .int cm)], [.ref 165, .int 3])) rfl ?_
                      refine ze_gi pg_127 (r24.2.1 165 27) rfl rfl rfl rfl ?_
                      by_cases h31 : (r24.2.1 165 27) < 3
                      · rw [if_pos h31] at hE
                        refine xe_c2t pg_127 196 rfl rfl h31 ?_
                        refine xe_sn pg_127 2 (fr' := (199, [(6, .int 3), (5, .int (if (if (V.1 167 c) = 1 then (1 : Int32) else (if (V.1 167 c) = 2 then (1 : Int32) else 0)) = 0 then (0 : Int32) else (if (V.1 168 c) ≤ 0 then (if (V.1 171 c) = f then (1 : Int32) else 0) else (if (V.1 169 (3 * c)) = f then (1 : Int32) else 0)))), (4, .int (if (V.1 167 c) = 1 then (1 : Int32) else (if (V.1 167 c) = 2 then (1 : Int32) else 0))), (0, .ref 165), (1, .int f), (2, .int (nI c)), (3, .int cm)], [.int (nI c), .int 12])) rfl ?_
                        refine xe_nm pg_127 12 c (12 * c) rfl (by omega) ?_
                        refine xe_sn pg_127 2 (fr' := (202, [(6, .int 3), (5, .int (if (if (V.1 167 c) = 1 then (1 : Int32) else (if (V.1 167 c) = 2 then (1 : Int32) else 0)) = 0 then (0 : Int32) else (if (V.1 168 c) ≤ 0 then (if (V.1 171 c) = f then (1 : Int32) else 0) else (if (V.1 169 (3 * c)) = f then (1 : Int32) else 0)))), (4, .int (if (V.1 167 c) = 1 then (1 : Int32) else (if (V.1 167 c) = 2 then (1 : Int32) else 0))), (0, .ref 165), (1, .int f), (2, .int (nI c)), (3, .int cm)], [.ref 165, .int 4, .int (nI (12 * c))])) rfl ?_
                        refine ze_gi pg_127 (r24.2.1 165 27) rfl rfl rfl rfl ?_
                        refine xe_sn pg_127 3 (fr' := (210, [(6, .int 3), (5, .int (if (if (V.1 167 c) = 1 then (1 : Int32) else (if (V.1 167 c) = 2 then (1 : Int32) else 0)) = 0 then (0 : Int32) else (if (V.1 168 c) ≤ 0 then (if (V.1 171 c) = f then (1 : Int32) else 0) else (if (V.1 169 (3 * c)) = f then (1 : Int32) else 0)))), (4, .int (if (V.1 167 c) = 1 then (1 : Int32) else (if (V.1 167 c) = 2 then (1 : Int32) else 0))), (0, .ref 165), (1, .int f), (2, .int (nI c)), (3, .int cm)], [.int (nI c), .ref 168, .int (r24.2.1 165 27), .int 4, .int (nI (12 * c))])) rfl ?_
                        refine ze_il pg_127 c (r24.1 168 c) rfl ⟨by decide, by decide⟩ rfl (bn (by omega) (by decide)) (bc (n := 4) (by omega) (by decide)) rfl ?_
                        refine xe_jn (fr' := (222, [(6, .int 3), (5, .int (if (if (V.1 167 c) = 1 then (1 : Int32) else (if (V.1 167 c) = 2 then (1 : Int32) else 0)) = 0 then (0 : Int32) else (if (V.1 168 c) ≤ 0 then (if (V.1 171 c) = f then (1 : Int32) else 0) else (if (V.1 169 (3 * c)) = f then (1 : Int32) else 0)))), (4, .int (if (V.1 167 c) = 1 then (1 : Int32) else (if (V.1 167 c) = 2 then (1 : Int32) else 0))), (0, .ref 165), (1, .int f), (2, .int (nI c)), (3, .int cm)], [.int (if (r24.1 168 c) ≤ (r24.2.1 165 27) then (0 : Int32) else (r24.2.1 165 27)), .int 4, .int (nI (12 * c))])) (fun J32 => ?_) ?_
                        · by_cases h32 : (r24.1 168 c) ≤ (r24.2.1 165 27)
                          · rw [show (if (r24.1 168 c) ≤ (r24.2.1 165 27) then (0 : Int32) else (r24.2.1 165 27)) = 0 from if_pos h32] at J32
                            refine xe_c2t pg_127 221 rfl rfl h32 ?_
                            refine xe_sn pg_127 1 (fr' := (222, [(6, .int 3), (5, .int (if (if (V.1 167 c) = 1 then (1 : Int32) else (if (V.1 167 c) = 2 then (1 : Int32) else 0)) = 0 then (0 : Int32) else (if (V.1 168 c) ≤ 0 then (if (V.1 171 c) = f then (1 : Int32) else 0) else (if (V.1 169 (3 * c)) = f then (1 : Int32) else 0)))), (4, .int (if (V.1 167 c) = 1 then (1 : Int32) else (if (V.1 167 c) = 2 then (1 : Int32) else 0))), (0, .ref 165), (1, .int f), (2, .int (nI c)), (3, .int cm)], [.int 0, .int 4, .int (nI (12 * c))])) rfl ?_
                            exact J32
                          · rw [show (if (r24.1 168 c) ≤ (r24.2.1 165 27) then (0 : Int32) else (r24.2.1 165 27)) = (r24.2.1 165 27) from if_neg h32] at J32
                            refine xe_c2f pg_127 221 rfl rfl h32 ?_
                            refine xe_sn pg_127 1 (fr' := (215, [(6, .int 3), (5, .int (if (if (V.1 167 c) = 1 then (1 : Int32) else (if (V.1 167 c) = 2 then (1 : Int32) else 0)) = 0 then (0 : Int32) else (if (V.1 168 c) ≤ 0 then (if (V.1 171 c) = f then (1 : Int32) else 0) else (if (V.1 169 (3 * c)) = f then (1 : Int32) else 0)))), (4, .int (if (V.1 167 c) = 1 then (1 : Int32) else (if (V.1 167 c) = 2 then (1 : Int32) else 0))), (0, .ref 165), (1, .int f), (2, .int (nI c)), (3, .int cm)], [.ref 165, .int 4, .int (nI (12 * c))])) rfl ?_
                            refine ze_gi pg_127 (r24.2.1 165 27) rfl rfl rfl rfl ?_
                            refine xe_sn pg_127 1 (fr' := (222, [(6, .int 3), (5, .int (if (if (V.1 167 c) = 1 then (1 : Int32) else (if (V.1 167 c) = 2 then (1 : Int32) else 0)) = 0 then (0 : Int32) else (if (V.1 168 c) ≤ 0 then (if (V.1 171 c) = f then (1 : Int32) else 0) else (if (V.1 169 (3 * c)) = f then (1 : Int32) else 0)))), (4, .int (if (V.1 167 c) = 1 then (1 : Int32) else (if (V.1 167 c) = 2 then (1 : Int32) else 0))), (0, .ref 165), (1, .int f), (2, .int (nI c)), (3, .int cm)], [.int (r24.2.1 165 27), .int 4, .int (nI (12 * c))])) rfl ?_
                            exact J32
                        refine xe_sn pg_127 6 (fr' := (229, [(6, .int (((nI (12 * c)) + ((4 : Int32) * (if (r24.1 168 c) ≤ (r24.2.1 165 27) then (0 : Int32) else (r24.2.1 165 27)))) + 3)), (5, .int (if (if (V.1 167 c) = 1 then (1 : Int32) else (if (V.1 167 c) = 2 then (1 : Int32) else 0)) = 0 then (0 : Int32) else (if (V.1 168 c) ≤ 0 then (if (V.1 171 c) = f then (1 : Int32) else 0) else (if (V.1 169 (3 * c)) = f then (1 : Int32) else 0)))), (4, .int (if (V.1 167 c) = 1 then (1 : Int32) else (if (V.1 167 c) = 2 then (1 : Int32) else 0))), (0, .ref 165), (1, .int f), (2, .int (nI c)), (3, .int cm)], [.ref 165])) rfl ?_
                        refine ze_gi pg_127 (r24.2.1 165 27) rfl rfl rfl rfl ?_
                        refine xe_sn pg_127 3 (fr' := (237, [(6, .int (((nI (12 * c)) + ((4 : Int32) * (if (r24.1 168 c) ≤ (r24.2.1 165 27) then (0 : Int32) else (r24.2.1 165 27)))) + 3)), (5, .int (if (if (V.1 167 c) = 1 then (1 : Int32) else (if (V.1 167 c) = 2 then (1 : Int32) else 0)) = 0 then (0 : Int32) else (if (V.1 168 c) ≤ 0 then (if (V.1 171 c) = f then (1 : Int32) else 0) else (if (V.1 169 (3 * c)) = f then (1 : Int32) else 0)))), (4, .int (if (V.1 167 c) = 1 then (1 : Int32) else (if (V.1 167 c) = 2 then (1 : Int32) else 0))), (0, .ref 165), (1, .int f), (2, .int (nI c)), (3, .int cm)], [.int (nI c), .ref 168, .int (r24.2.1 165 27)])) rfl ?_
                        refine ze_il pg_127 c (r24.1 168 c) rfl ⟨by decide, by decide⟩ rfl (bn (by omega) (by decide)) (bc (n := 4) (by omega) (by decide)) rfl ?_
                        by_cases h33 : (r24.1 168 c) ≤ (r24.2.1 165 27)
                        · rw [if_pos h33] at hE
                          refine xe_c2t pg_127 285 rfl rfl h33 ?_
                          refine xe_sn pg_127 2 (fr' := (287, [(6, .int (((nI (12 * c)) + ((4 : Int32) * (if (r24.1 168 c) ≤ (r24.2.1 165 27) then (0 : Int32) else (r24.2.1 165 27)))) + 3)), (5, .int (if (if (V.1 167 c) = 1 then (1 : Int32) else (if (V.1 167 c) = 2 then (1 : Int32) else 0)) = 0 then (0 : Int32) else (if (V.1 168 c) ≤ 0 then (if (V.1 171 c) = f then (1 : Int32) else 0) else (if (V.1 169 (3 * c)) = f then (1 : Int32) else 0)))), (4, .int (if (V.1 167 c) = 1 then (1 : Int32) else (if (V.1 167 c) = 2 then (1 : Int32) else 0))), (0, .ref 165), (1, .int f), (2, .int (nI c)), (3, .int cm)], [.int (nI c), .ref 165])) rfl ?_
                          obtain ⟨r25, e25, hE⟩ := Option.bind_eq_some_iff.mp hE
                          refine xe_cv pg_127 122 pg_122 [.int (nI c)] [] (none) rfl rfl rfl rfl ⟨Nat.le_of_ble_eq_true rfl, Nat.le_of_ble_eq_true rfl, Nat.le_of_ble_eq_true rfl⟩ ⟨rfl, rfl⟩ ⟨by decide, rfl, by decide⟩ (cg_closeNow _ (c := c) (by omega) e25) ?_
                          refine xe_sn pg_127 1 (fr' := (321, [(6, .int (((nI (12 * c)) + ((4 : Int32) * (if (r24.1 168 c) ≤ (r24.2.1 165 27) then (0 : Int32) else (r24.2.1 165 27)))) + 3)), (5, .int (if (if (V.1 167 c) = 1 then (1 : Int32) else (if (V.1 167 c) = 2 then (1 : Int32) else 0)) = 0 then (0 : Int32) else (if (V.1 168 c) ≤ 0 then (if (V.1 171 c) = f then (1 : Int32) else 0) else (if (V.1 169 (3 * c)) = f then (1 : Int32) else 0)))), (4, .int (if (V.1 167 c) = 1 then (1 : Int32) else (if (V.1 167 c) = 2 then (1 : Int32) else 0))), (0, .ref 165), (1, .int f), (2, .int (nI c)), (3, .int cm)], [])) rfl ?_
                          cases hE
                          exact xe_end pg_127 rfl
                        · rw [if_neg h33] at hE
                          refine xe_c2f pg_127 285 rfl rfl h33 ?_
                          refine xe_sn pg_127 4 (fr' := (248, [(6, .int (((nI (12 * c)) + ((4 : Int32) * (if (r24.1 168 c) ≤ (r24.2.1 165 27) then (0 : Int32) else (r24.2.1 165 27)))) + 3)), (5, .int (if (if (V.1 167 c) = 1 then (1 : Int32) else (if (V.1 167 c) = 2 then (1 : Int32) else 0)) = 0 then (0 : Int32) else (if (V.1 168 c) ≤ 0 then (if (V.1 171 c) = f then (1 : Int32) else 0) else (if (V.1 169 (3 * c)) = f then (1 : Int32) else 0)))), (4, .int (if (V.1 167 c) = 1 then (1 : Int32) else (if (V.1 167 c) = 2 then (1 : Int32) else 0))), (0, .ref 165), (1, .int f), (2, .int (nI c)), (3, .int cm)], [.int (((nI (12 * c)) + ((4 : Int32) * (if (r24.1 168 c) ≤ (r24.2.1 165 27) then (0 : Int32) else (r24.2.1 165 27)))) + 3), .ref 170, .ref 165])) rfl ?_
                          by_cases g34 : bnd (((nI (12 * c)) + ((4 : Int32) * (if (r24.1 168 c) ≤ (r24.2.1 165 27) then (0 : Int32) else (r24.2.1 165 27)))) + 3) 48
                          case neg => rw [if_neg g34] at hE; cases hE
                          rw [if_pos g34] at hE
                          refine ze_il pg_127 (((nI (12 * c)) + ((4 : Int32) * (if (r24.1 168 c) ≤ (r24.2.1 165 27) then (0 : Int32) else (r24.2.1 165 27)))) + 3).toNatClampNeg ((vx r24 170 (12 * c + 9) (ks ((vx r17 170 (12 * c + 5) (ks ((vx r10 170 (12 * c + 1) (ks (V.1 170 (12 * c + 1)) 14)).1 170 (12 * c + 5)) 14)).1 170 (12 * c + 9)) 14)).1 170 (((nI (12 * c)) + ((4 : Int32) * (if (r24.1 168 c) ≤ (r24.2.1 165 27) then (0 : Int32) else (r24.2.1 165 27)))) + 3).toNatClampNeg) rfl ⟨by decide, by decide⟩ rfl g34 rfl rfl ?_
                          obtain ⟨r26, e26, hE⟩ := Option.bind_eq_some_iff.mp hE
                          refine xe_cv pg_127 116 pg_116 [.int ((vx r24 170 (12 * c + 9) (ks ((vx r17 170 (12 * c + 5) (ks ((vx r10 170 (12 * c + 1) (ks (V.1 170 (12 * c + 1)) 14)).1 170 (12 * c + 5)) 14)).1 170 (12 * c + 9)) 14)).1 170 (((nI (12 * c)) + ((4 : Int32) * (if (r24.1 168 c) ≤ (r24.2.1 165 27) then (0 : Int32) else (r24.2.1 165 27)))) + 3).toNatClampNeg)] [] (some (.int r26)) rfl rfl rfl rfl ⟨Nat.le_of_ble_eq_true rfl, Nat.le_of_ble_eq_true rfl, Nat.le_of_ble_eq_true rfl⟩ ⟨rfl, rfl⟩ ⟨by decide, rfl, by decide⟩ (cg_isKnown _ (key := ((vx r24 170 (12 * c + 9) (ks ((vx r17 170 (12 * c + 5) (ks ((vx r10 170 (12 * c + 1) (ks (V.1 170 (12 * c + 1)) 14)).1 170 (12 * c + 5)) 14)).1 170 (12 * c + 9)) 14)).1 170 (((nI (12 * c)) + ((4 : Int32) * (if (r24.1 168 c) ≤ (r24.2.1 165 27) then (0 : Int32) else (r24.2.1 165 27)))) + 3).toNatClampNeg))  (Option.some.inj e26)) ?_
                          by_cases h35 : r26 = 0
                          · rw [if_pos h35] at hE
                            refine xe_c1t pg_127 285 rfl rfl h35 ?_
                            refine xe_sn pg_127 2 (fr' := (287, [(6, .int (((nI (12 * c)) + ((4 : Int32) * (if (r24.1 168 c) ≤ (r24.2.1 165 27) then (0 : Int32) else (r24.2.1 165 27)))) + 3)), (5, .int (if (if (V.1 167 c) = 1 then (1 : Int32) else (if (V.1 167 c) = 2 then (1 : Int32) else 0)) = 0 then (0 : Int32) else (if (V.1 168 c) ≤ 0 then (if (V.1 171 c) = f then (1 : Int32) else 0) else (if (V.1 169 (3 * c)) = f then (1 : Int32) else 0)))), (4, .int (if (V.1 167 c) = 1 then (1 : Int32) else (if (V.1 167 c) = 2 then (1 : Int32) else 0))), (0, .ref 165), (1, .int f), (2, .int (nI c)), (3, .int cm)], [.int (nI c), .ref 165])) rfl ?_
                            obtain ⟨r27, e27, hE⟩ := Option.bind_eq_some_iff.mp hE
                            refine xe_cv pg_127 122 pg_122 [.int (nI c)] [] (none) rfl rfl rfl rfl ⟨Nat.le_of_ble_eq_true rfl, Nat.le_of_ble_eq_true rfl, Nat.le_of_ble_eq_true rfl⟩ ⟨rfl, rfl⟩ ⟨by decide, rfl, by decide⟩ (cg_closeNow _ (c := c) (by omega) e27) ?_
                            refine xe_sn pg_127 1 (fr' := (321, [(6, .int (((nI (12 * c)) + ((4 : Int32) * (if (r24.1 168 c) ≤ (r24.2.1 165 27) then (0 : Int32) else (r24.2.1 165 27)))) + 3)), (5, .int (if (if (V.1 167 c) = 1 then (1 : Int32) else (if (V.1 167 c) = 2 then (1 : Int32) else 0)) = 0 then (0 : Int32) else (if (V.1 168 c) ≤ 0 then (if (V.1 171 c) = f then (1 : Int32) else 0) else (if (V.1 169 (3 * c)) = f then (1 : Int32) else 0)))), (4, .int (if (V.1 167 c) = 1 then (1 : Int32) else (if (V.1 167 c) = 2 then (1 : Int32) else 0))), (0, .ref 165), (1, .int f), (2, .int (nI c)), (3, .int cm)], [])) rfl ?_
                            cases hE
                            exact xe_end pg_127 rfl
                          · rw [if_neg h35] at hE
                            refine xe_c1f pg_127 285 rfl rfl h35 ?_
                            refine xe_sn pg_127 7 (fr' := (268, [(6, .int (((nI (12 * c)) + ((4 : Int32) * (if (r24.1 168 c) ≤ (r24.2.1 165 27) then (0 : Int32) else (r24.2.1 165 27)))) + 3)), (5, .int (if (if (V.1 167 c) = 1 then (1 : Int32) else (if (V.1 167 c) = 2 then (1 : Int32) else 0)) = 0 then (0 : Int32) else (if (V.1 168 c) ≤ 0 then (if (V.1 171 c) = f then (1 : Int32) else 0) else (if (V.1 169 (3 * c)) = f then (1 : Int32) else 0)))), (4, .int (if (V.1 167 c) = 1 then (1 : Int32) else (if (V.1 167 c) = 2 then (1 : Int32) else 0))), (0, .ref 165), (1, .int f), (2, .int (nI c)), (3, .int cm)], [.int (((nI (12 * c)) + ((4 : Int32) * (if (r24.1 168 c) ≤ (r24.2.1 165 27) then (0 : Int32) else (r24.2.1 165 27)))) + 3), .ref 170, .ref 165, .int (((nI (12 * c)) + ((4 : Int32) * (if (r24.1 168 c) ≤ (r24.2.1 165 27) then (0 : Int32) else (r24.2.1 165 27)))) + 3), .ref 170])) rfl ?_
                            refine ze_il pg_127 (((nI (12 * c)) + ((4 : Int32) * (if (r24.1 168 c) ≤ (r24.2.1 165 27) then (0 : Int32) else (r24.2.1 165 27)))) + 3).toNatClampNeg ((vx r24 170 (12 * c + 9) (ks ((vx r17 170 (12 * c + 5) (ks ((vx r10 170 (12 * c + 1) (ks (V.1 170 (12 * c + 1)) 14)).1 170 (12 * c + 5)) 14)).1 170 (12 * c + 9)) 14)).1 170 (((nI (12 * c)) + ((4 : Int32) * (if (r24.1 168 c) ≤ (r24.2.1 165 27) then (0 : Int32) else (r24.2.1 165 27)))) + 3).toNatClampNeg) rfl ⟨by decide, by decide⟩ rfl g34 rfl rfl ?_
                            obtain ⟨r28, e28, hE⟩ := Option.bind_eq_some_iff.mp hE
                            refine xe_cv pg_127 110 pg_110 [.int ((vx r24 170 (12 * c + 9) (ks ((vx r17 170 (12 * c + 5) (ks ((vx r10 170 (12 * c + 1) (ks (V.1 170 (12 * c + 1)) 14)).1 170 (12 * c + 5)) 14)).1 170 (12 * c + 9)) 14)).1 170 (((nI (12 * c)) + ((4 : Int32) * (if (r24.1 168 c) ≤ (r24.2.1 165 27) then (0 : Int32) else (r24.2.1 165 27)))) + 3).toNatClampNeg)] [.int (((nI (12 * c)) + ((4 : Int32) * (if (r24.1 168 c) ≤ (r24.2.1 165 27) then (0 : Int32) else (r24.2.1 165 27)))) + 3), .ref 170] (some (.int r28)) rfl rfl rfl rfl ⟨Nat.le_of_ble_eq_true rfl, Nat.le_of_ble_eq_true rfl, Nat.le_of_ble_eq_true rfl⟩ ⟨rfl, rfl⟩ ⟨by decide, rfl, by decide⟩ (cg_fed _ (key := ((vx r24 170 (12 * c + 9) (ks ((vx r17 170 (12 * c + 5) (ks ((vx r10 170 (12 * c + 1) (ks (V.1 170 (12 * c + 1)) 14)).1 170 (12 * c + 5)) 14)).1 170 (12 * c + 9)) 14)).1 170 (((nI (12 * c)) + ((4 : Int32) * (if (r24.1 168 c) ≤ (r24.2.1 165 27) then (0 : Int32) else (r24.2.1 165 27)))) + 3).toNatClampNeg))  (Option.some.inj e28)) ?_
                            refine ze_isx pg_127 (((nI (12 * c)) + ((4 : Int32) * (if (r24.1 168 c) ≤ (r24.2.1 165 27) then (0 : Int32) else (r24.2.1 165 27)))) + 3).toNatClampNeg rfl ⟨by decide, by decide⟩ rfl g34 rfl (by decide) ?_
                            refine xe_sn pg_127 3 (fr' := (276, [(6, .int (((nI (12 * c)) + ((4 : Int32) * (if (r24.1 168 c) ≤ (r24.2.1 165 27) then (0 : Int32) else (r24.2.1 165 27)))) + 3)), (5, .int (if (if (V.1 167 c) = 1 then (1 : Int32) else (if (V.1 167 c) = 2 then (1 : Int32) else 0)) = 0 then (0 : Int32) else (if (V.1 168 c) ≤ 0 then (if (V.1 171 c) = f then (1 : Int32) else 0) else (if (V.1 169 (3 * c)) = f then (1 : Int32) else 0)))), (4, .int (if (V.1 167 c) = 1 then (1 : Int32) else (if (V.1 167 c) = 2 then (1 : Int32) else 0))), (0, .ref 165), (1, .int f), (2, .int (nI c)), (3, .int cm)], [.ref 165, .int (nI c), .ref 165])) rfl ?_
                            refine ze_gi pg_127 (r24.2.1 165 27) rfl rfl rfl rfl ?_
                            obtain ⟨r29, e29, hE⟩ := Option.bind_eq_some_iff.mp hE
                            refine xe_cv pg_127 126 pg_126 [.int (nI c), .int (r24.2.1 165 27)] [] (none) rfl rfl rfl rfl ⟨Nat.le_of_ble_eq_true rfl, Nat.le_of_ble_eq_true rfl, Nat.le_of_ble_eq_true rfl⟩ ⟨rfl, rfl⟩ ⟨by decide, rfl, by decide⟩ (cg_clientFollows _ (c := c) (k := (r24.2.1 165 27)) (by omega) e29) ?_
                            refine xe_sn pg_127 1 (fr' := (290, [(6, .int (((nI (12 * c)) + ((4 : Int32) * (if (r24.1 168 c) ≤ (r24.2.1 165 27) then (0 : Int32) else (r24.2.1 165 27)))) + 3)), (5, .int (if (if (V.1 167 c) = 1 then (1 : Int32) else (if (V.1 167 c) = 2 then (1 : Int32) else 0)) = 0 then (0 : Int32) else (if (V.1 168 c) ≤ 0 then (if (V.1 171 c) = f then (1 : Int32) else 0) else (if (V.1 169 (3 * c)) = f then (1 : Int32) else 0)))), (4, .int (if (V.1 167 c) = 1 then (1 : Int32) else (if (V.1 167 c) = 2 then (1 : Int32) else 0))), (0, .ref 165), (1, .int f), (2, .int (nI c)), (3, .int cm)], [])) rfl ?_
                            refine xe_sn pg_127 1 (fr' := (321, [(6, .int (((nI (12 * c)) + ((4 : Int32) * (if (r24.1 168 c) ≤ (r24.2.1 165 27) then (0 : Int32) else (r24.2.1 165 27)))) + 3)), (5, .int (if (if (V.1 167 c) = 1 then (1 : Int32) else (if (V.1 167 c) = 2 then (1 : Int32) else 0)) = 0 then (0 : Int32) else (if (V.1 168 c) ≤ 0 then (if (V.1 171 c) = f then (1 : Int32) else 0) else (if (V.1 169 (3 * c)) = f then (1 : Int32) else 0)))), (4, .int (if (V.1 167 c) = 1 then (1 : Int32) else (if (V.1 167 c) = 2 then (1 : Int32) else 0))), (0, .ref 165), (1, .int f), (2, .int (nI c)), (3, .int cm)], [])) rfl ?_
                            cases hE
                            exact xe_end pg_127 rfl
                      · rw [if_neg h31] at hE
                        refine xe_c2f pg_127 196 rfl rfl h31 ?_
                        refine xe_sn pg_127 1 (fr' := (142, [(6, .int 3), (5, .int (if (if (V.1 167 c) = 1 then (1 : Int32) else (if (V.1 167 c) = 2 then (1 : Int32) else 0)) = 0 then (0 : Int32) else (if (V.1 168 c) ≤ 0 then (if (V.1 171 c) = f then (1 : Int32) else 0) else (if (V.1 169 (3 * c)) = f then (1 : Int32) else 0)))), (4, .int (if (V.1 167 c) = 1 then (1 : Int32) else (if (V.1 167 c) = 2 then (1 : Int32) else 0))), (0, .ref 165), (1, .int f), (2, .int (nI c)), (3, .int cm)], [.ref 165])) rfl ?_
                        refine ze_gi pg_127 (r24.2.1 165 27) rfl rfl rfl rfl ?_
                        refine xe_sn pg_127 3 (fr' := (150, [(6, .int 3), (5, .int (if (if (V.1 167 c) = 1 then (1 : Int32) else (if (V.1 167 c) = 2 then (1 : Int32) else 0)) = 0 then (0 : Int32) else (if (V.1 168 c) ≤ 0 then (if (V.1 171 c) = f then (1 : Int32) else 0) else (if (V.1 169 (3 * c)) = f then (1 : Int32) else 0)))), (4, .int (if (V.1 167 c) = 1 then (1 : Int32) else (if (V.1 167 c) = 2 then (1 : Int32) else 0))), (0, .ref 165), (1, .int f), (2, .int (nI c)), (3, .int cm)], [.int (nI c), .ref 168, .int (r24.2.1 165 27)])) rfl ?_
                        refine ze_il pg_127 c (r24.1 168 c) rfl ⟨by decide, by decide⟩ rfl (bn (by omega) (by decide)) (bc (n := 4) (by omega) (by decide)) rfl ?_
                        by_cases h36 : (r24.1 168 c) ≤ (r24.2.1 165 27)
                        · rw [if_pos h36] at hE
                          refine xe_c2t pg_127 196 rfl rfl h36 ?_
                          refine xe_sn pg_127 2 (fr' := (199, [(6, .int 3), (5, .int (if (if (V.1 167 c) = 1 then (1 : Int32) else (if (V.1 167 c) = 2 then (1 : Int32) else 0)) = 0 then (0 : Int32) else (if (V.1 168 c) ≤ 0 then (if (V.1 171 c) = f then (1 : Int32) else 0) else (if (V.1 169 (3 * c)) = f then (1 : Int32) else 0)))), (4, .int (if (V.1 167 c) = 1 then (1 : Int32) else (if (V.1 167 c) = 2 then (1 : Int32) else 0))), (0, .ref 165), (1, .int f), (2, .int (nI c)), (3, .int cm)], [.int (nI c), .int 12])) rfl ?_
                          refine xe_nm pg_127 12 c (12 * c) rfl (by omega) ?_
                          refine xe_sn pg_127 2 (fr' := (202, [(6, .int 3), (5, .int (if (if (V.1 167 c) = 1 then (1 : Int32) else (if (V.1 167 c) = 2 then (1 : Int32) else 0)) = 0 then (0 : Int32) else (if (V.1 168 c) ≤ 0 then (if (V.1 171 c) = f then (1 : Int32) else 0) else (if (V.1 169 (3 * c)) = f then (1 : Int32) else 0)))), (4, .int (if (V.1 167 c) = 1 then (1 : Int32) else (if (V.1 167 c) = 2 then (1 : Int32) else 0))), (0, .ref 165), (1, .int f), (2, .int (nI c)), (3, .int cm)], [.ref 165, .int 4, .int (nI (12 * c))])) rfl ?_
                          refine ze_gi pg_127 (r24.2.1 165 27) rfl rfl rfl rfl ?_
                          refine xe_sn pg_127 3 (fr' := (210, [(6, .int 3), (5, .int (if (if (V.1 167 c) = 1 then (1 : Int32) else (if (V.1 167 c) = 2 then (1 : Int32) else 0)) = 0 then (0 : Int32) else (if (V.1 168 c) ≤ 0 then (if (V.1 171 c) = f then (1 : Int32) else 0) else (if (V.1 169 (3 * c)) = f then (1 : Int32) else 0)))), (4, .int (if (V.1 167 c) = 1 then (1 : Int32) else (if (V.1 167 c) = 2 then (1 : Int32) else 0))), (0, .ref 165), (1, .int f), (2, .int (nI c)), (3, .int cm)], [.int (nI c), .ref 168, .int (r24.2.1 165 27), .int 4, .int (nI (12 * c))])) rfl ?_
                          refine ze_il pg_127 c (r24.1 168 c) rfl ⟨by decide, by decide⟩ rfl (bn (by omega) (by decide)) (bc (n := 4) (by omega) (by decide)) rfl ?_
                          refine xe_c2t pg_127 221 rfl rfl h36 ?_
                          refine xe_sn pg_127 2 (fr' := (223, [(6, .int 3), (5, .int (if (if (V.1 167 c) = 1 then (1 : Int32) else (if (V.1 167 c) = 2 then (1 : Int32) else 0)) = 0 then (0 : Int32) else (if (V.1 168 c) ≤ 0 then (if (V.1 171 c) = f then (1 : Int32) else 0) else (if (V.1 169 (3 * c)) = f then (1 : Int32) else 0)))), (4, .int (if (V.1 167 c) = 1 then (1 : Int32) else (if (V.1 167 c) = 2 then (1 : Int32) else 0))), (0, .ref 165), (1, .int f), (2, .int (nI c)), (3, .int cm)], [.int 0, .int (nI (12 * c))])) rfl ?_
                          refine xe_na pg_127 (12 * c) 0 (12 * c) rfl (by omega) ?_
                          refine xe_sn pg_127 1 (fr' := (225, [(6, .int 3), (5, .int (if (if (V.1 167 c) = 1 then (1 : Int32) else (if (V.1 167 c) = 2 then (1 : Int32) else 0)) = 0 then (0 : Int32) else (if (V.1 168 c) ≤ 0 then (if (V.1 171 c) = f then (1 : Int32) else 0) else (if (V.1 169 (3 * c)) = f then (1 : Int32) else 0)))), (4, .int (if (V.1 167 c) = 1 then (1 : Int32) else (if (V.1 167 c) = 2 then (1 : Int32) else 0))), (0, .ref 165), (1, .int f), (2, .int (nI c)), (3, .int cm)], [.int 3, .int (nI (12 * c))])) rfl ?_
                          refine xe_na pg_127 (12 * c) 3 (12 * c + 3) rfl (by omega) ?_
                          refine xe_sn pg_127 2 (fr' := (229, [(6, .int (nI (12 * c + 3))), (5, .int (if (if (V.1 167 c) = 1 then (1 : Int32) else (if (V.1 167 c) = 2 then (1 : Int32) else 0)) = 0 then (0 : Int32) else (if (V.1 168 c) ≤ 0 then (if (V.1 171 c) = f then (1 : Int32) else 0) else (if (V.1 169 (3 * c)) = f then (1 : Int32) else 0)))), (4, .int (if (V.1 167 c) = 1 then (1 : Int32) else (if (V.1 167 c) = 2 then (1 : Int32) else 0))), (0, .ref 165), (1, .int f), (2, .int (nI c)), (3, .int cm)], [.ref 165])) rfl ?_
                          refine ze_gi pg_127 (r24.2.1 165 27) rfl rfl rfl rfl ?_
                          refine xe_sn pg_127 3 (fr' := (237, [(6, .int (nI (12 * c + 3))), (5, .int (if (if (V.1 167 c) = 1 then (1 : Int32) else (if (V.1 167 c) = 2 then (1 : Int32) else 0)) = 0 then (0 : Int32) else (if (V.1 168 c) ≤ 0 then (if (V.1 171 c) = f then (1 : Int32) else 0) else (if (V.1 169 (3 * c)) = f then (1 : Int32) else 0)))), (4, .int (if (V.1 167 c) = 1 then (1 : Int32) else (if (V.1 167 c) = 2 then (1 : Int32) else 0))), (0, .ref 165), (1, .int f), (2, .int (nI c)), (3, .int cm)], [.int (nI c), .ref 168, .int (r24.2.1 165 27)])) rfl ?_
                          refine ze_il pg_127 c (r24.1 168 c) rfl ⟨by decide, by decide⟩ rfl (bn (by omega) (by decide)) (bc (n := 4) (by omega) (by decide)) rfl ?_
                          refine xe_c2t pg_127 285 rfl rfl h36 ?_
                          refine xe_sn pg_127 2 (fr' := (287, [(6, .int (nI (12 * c + 3))), (5, .int (if (if (V.1 167 c) = 1 then (1 : Int32) else (if (V.1 167 c) = 2 then (1 : Int32) else 0)) = 0 then (0 : Int32) else (if (V.1 168 c) ≤ 0 then (if (V.1 171 c) = f then (1 : Int32) else 0) else (if (V.1 169 (3 * c)) = f then (1 : Int32) else 0)))), (4, .int (if (V.1 167 c) = 1 then (1 : Int32) else (if (V.1 167 c) = 2 then (1 : Int32) else 0))), (0, .ref 165), (1, .int f), (2, .int (nI c)), (3, .int cm)], [.int (nI c), .ref 165])) rfl ?_
                          obtain ⟨r30, e30, hE⟩ := Option.bind_eq_some_iff.mp hE
                          refine xe_cv pg_127 122 pg_122 [.int (nI c)] [] (none) rfl rfl rfl rfl ⟨Nat.le_of_ble_eq_true rfl, Nat.le_of_ble_eq_true rfl, Nat.le_of_ble_eq_true rfl⟩ ⟨rfl, rfl⟩ ⟨by decide, rfl, by decide⟩ (cg_closeNow _ (c := c) (by omega) e30) ?_
                          refine xe_sn pg_127 1 (fr' := (321, [(6, .int (nI (12 * c + 3))), (5, .int (if (if (V.1 167 c) = 1 then (1 : Int32) else (if (V.1 167 c) = 2 then (1 : Int32) else 0)) = 0 then (0 : Int32) else (if (V.1 168 c) ≤ 0 then (if (V.1 171 c) = f then (1 : Int32) else 0) else (if (V.1 169 (3 * c)) = f then (1 : Int32) else 0)))), (4, .int (if (V.1 167 c) = 1 then (1 : Int32) else (if (V.1 167 c) = 2 then (1 : Int32) else 0))), (0, .ref 165), (1, .int f), (2, .int (nI c)), (3, .int cm)], [])) rfl ?_
                          cases hE
                          exact xe_end pg_127 rfl
                        · rw [if_neg h36] at hE
                          refine xe_c2f pg_127 196 rfl rfl h36 ?_
                          cases hE
    · rw [if_neg h10] at hE
      refine xe_c2t pg_127 293 rfl rfl h10 ?_
      refine xe_sn pg_127 2 (fr' := (295, [(5, .int (if (if (V.1 167 c) = 1 then (1 : Int32) else (if (V.1 167 c) = 2 then (1 : Int32) else 0)) = 0 then (0 : Int32) else (if (V.1 168 c) ≤ 0 then (if (V.1 171 c) = f then (1 : Int32) else 0) else (if (V.1 169 (3 * c)) = f then (1 : Int32) else 0)))), (4, .int (if (V.1 167 c) = 1 then (1 : Int32) else (if (V.1 167 c) = 2 then (1 : Int32) else 0))), (0, .ref 165), (1, .int f), (2, .int (nI c)), (3, .int cm)], [.int 4, .int cm])) rfl ?_
      by_cases h37 : cm = 4
      · rw [if_pos h37] at hE
        refine xe_c2f pg_127 311 rfl rfl (fun z => z h37) ?_
        refine xe_sn pg_127 1 (fr' := (300, [(5, .int (if (if (V.1 167 c) = 1 then (1 : Int32) else (if (V.1 167 c) = 2 then (1 : Int32) else 0)) = 0 then (0 : Int32) else (if (V.1 168 c) ≤ 0 then (if (V.1 171 c) = f then (1 : Int32) else 0) else (if (V.1 169 (3 * c)) = f then (1 : Int32) else 0)))), (4, .int (if (V.1 167 c) = 1 then (1 : Int32) else (if (V.1 167 c) = 2 then (1 : Int32) else 0))), (0, .ref 165), (1, .int f), (2, .int (nI c)), (3, .int cm)], [.int (if (if (V.1 167 c) = 1 then (1 : Int32) else (if (V.1 167 c) = 2 then (1 : Int32) else 0)) = 0 then (0 : Int32) else (if (V.1 168 c) ≤ 0 then (if (V.1 171 c) = f then (1 : Int32) else 0) else (if (V.1 169 (3 * c)) = f then (1 : Int32) else 0)))])) rfl ?_
        by_cases h38 : (if (if (V.1 167 c) = 1 then (1 : Int32) else (if (V.1 167 c) = 2 then (1 : Int32) else 0)) = 0 then (0 : Int32) else (if (V.1 168 c) ≤ 0 then (if (V.1 171 c) = f then (1 : Int32) else 0) else (if (V.1 169 (3 * c)) = f then (1 : Int32) else 0))) = 0
        · rw [if_pos h38] at hE
          refine xe_c1t pg_127 311 rfl rfl h38 ?_
          refine xe_sn pg_127 2 (fr' := (313, [(5, .int (if (if (V.1 167 c) = 1 then (1 : Int32) else (if (V.1 167 c) = 2 then (1 : Int32) else 0)) = 0 then (0 : Int32) else (if (V.1 168 c) ≤ 0 then (if (V.1 171 c) = f then (1 : Int32) else 0) else (if (V.1 169 (3 * c)) = f then (1 : Int32) else 0)))), (4, .int (if (V.1 167 c) = 1 then (1 : Int32) else (if (V.1 167 c) = 2 then (1 : Int32) else 0))), (0, .ref 165), (1, .int f), (2, .int (nI c)), (3, .int cm)], [.ref 165, .ref 165])) rfl ?_
          refine ze_gi pg_127 (V.1 165 5) rfl rfl rfl rfl ?_
          refine xe_sn pg_127 2 (fr' := (318, [(5, .int (if (if (V.1 167 c) = 1 then (1 : Int32) else (if (V.1 167 c) = 2 then (1 : Int32) else 0)) = 0 then (0 : Int32) else (if (V.1 168 c) ≤ 0 then (if (V.1 171 c) = f then (1 : Int32) else 0) else (if (V.1 169 (3 * c)) = f then (1 : Int32) else 0)))), (4, .int (if (V.1 167 c) = 1 then (1 : Int32) else (if (V.1 167 c) = 2 then (1 : Int32) else 0))), (0, .ref 165), (1, .int f), (2, .int (nI c)), (3, .int cm)], [.int ((V.1 165 5) + 1), .ref 165])) rfl ?_
          refine ze_px pg_127 rfl rfl ⟨rfl, rfl⟩ (Or.inl rfl) (by decide) ?_
          cases hE
          exact xe_end pg_127 rfl
        · rw [if_neg h38] at hE
          refine xe_c1f pg_127 311 rfl rfl h38 ?_
          refine xe_sn pg_127 2 (fr' := (305, [(5, .int (if (if (V.1 167 c) = 1 then (1 : Int32) else (if (V.1 167 c) = 2 then (1 : Int32) else 0)) = 0 then (0 : Int32) else (if (V.1 168 c) ≤ 0 then (if (V.1 171 c) = f then (1 : Int32) else 0) else (if (V.1 169 (3 * c)) = f then (1 : Int32) else 0)))), (4, .int (if (V.1 167 c) = 1 then (1 : Int32) else (if (V.1 167 c) = 2 then (1 : Int32) else 0))), (0, .ref 165), (1, .int f), (2, .int (nI c)), (3, .int cm)], [.int (nI c), .ref 165])) rfl ?_
          obtain ⟨r31, e31, hE⟩ := Option.bind_eq_some_iff.mp hE
          refine xe_cv pg_127 121 pg_121 [.int (nI c)] [] (none) rfl rfl rfl rfl ⟨Nat.le_of_ble_eq_true rfl, Nat.le_of_ble_eq_true rfl, Nat.le_of_ble_eq_true rfl⟩ ⟨rfl, rfl⟩ ⟨by decide, rfl, by decide⟩ (cg_ended _ (c := c) (by omega) e31) ?_
          refine xe_sn pg_127 1 (fr' := (321, [(5, .int (if (if (V.1 167 c) = 1 then (1 : Int32) else (if (V.1 167 c) = 2 then (1 : Int32) else 0)) = 0 then (0 : Int32) else (if (V.1 168 c) ≤ 0 then (if (V.1 171 c) = f then (1 : Int32) else 0) else (if (V.1 169 (3 * c)) = f then (1 : Int32) else 0)))), (4, .int (if (V.1 167 c) = 1 then (1 : Int32) else (if (V.1 167 c) = 2 then (1 : Int32) else 0))), (0, .ref 165), (1, .int f), (2, .int (nI c)), (3, .int cm)], [])) rfl ?_
          cases hE
          exact xe_end pg_127 rfl
      · rw [if_neg h37] at hE
        refine xe_c2t pg_127 311 rfl rfl h37 ?_
        refine xe_sn pg_127 2 (fr' := (313, [(5, .int (if (if (V.1 167 c) = 1 then (1 : Int32) else (if (V.1 167 c) = 2 then (1 : Int32) else 0)) = 0 then (0 : Int32) else (if (V.1 168 c) ≤ 0 then (if (V.1 171 c) = f then (1 : Int32) else 0) else (if (V.1 169 (3 * c)) = f then (1 : Int32) else 0)))), (4, .int (if (V.1 167 c) = 1 then (1 : Int32) else (if (V.1 167 c) = 2 then (1 : Int32) else 0))), (0, .ref 165), (1, .int f), (2, .int (nI c)), (3, .int cm)], [.ref 165, .ref 165])) rfl ?_
        refine ze_gi pg_127 (V.1 165 5) rfl rfl rfl rfl ?_
        refine xe_sn pg_127 2 (fr' := (318, [(5, .int (if (if (V.1 167 c) = 1 then (1 : Int32) else (if (V.1 167 c) = 2 then (1 : Int32) else 0)) = 0 then (0 : Int32) else (if (V.1 168 c) ≤ 0 then (if (V.1 171 c) = f then (1 : Int32) else 0) else (if (V.1 169 (3 * c)) = f then (1 : Int32) else 0)))), (4, .int (if (V.1 167 c) = 1 then (1 : Int32) else (if (V.1 167 c) = 2 then (1 : Int32) else 0))), (0, .ref 165), (1, .int f), (2, .int (nI c)), (3, .int cm)], [.int ((V.1 165 5) + 1), .ref 165])) rfl ?_
        refine ze_px pg_127 rfl rfl ⟨rfl, rfl⟩ (Or.inl rfl) (by decide) ?_
        cases hE
        exact xe_end pg_127 rfl

