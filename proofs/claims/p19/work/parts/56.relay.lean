def f_followData (S : xSt) (i : Nat) (c : Nat) (κ : Nat) (s : Int32) : Option xSt := (f_isOpen S i c s).bind fun r1 => if r1 = 0 then ((f_orderBack S i c 6 s 0).bind fun r2 => (some (f_sealBack r2.2 i c r2.1)).bind fun r3 => some r3) else ((f_orderBack S i c 5 s (S.2.1 κ 6)).bind fun r4 => if ¬ r4.1 = κ then (if bnd (f_dataLength r4.2 κ) 8 then ((some (f_sealBack (sr r4.2 r4.1 (dfill (r4.2.2.1 r4.1) (r4.2.2.1 κ) (f_dataLength r4.2 κ).toNatClampNeg)) i c r4.1)).bind fun r5 => if bnd (s - 1) 3 then (if (rem ((r5.1 191 (3 * (4 * i + c) + (s - 1).toNatClampNeg)) + 1) 2) = 0 then ((f_orderBack (sx r5 191 (3 * (4 * i + c) + (s - 1).toNatClampNeg) ((r5.1 191 (3 * (4 * i + c) + (s - 1).toNatClampNeg)) + 1)) i c 7 s 0).bind fun r6 => (some (f_sealBack r6.2 i c r6.1)).bind fun r7 => some r7) else (some (sx r5 191 (3 * (4 * i + c) + (s - 1).toNatClampNeg) ((r5.1 191 (3 * (4 * i + c) + (s - 1).toNatClampNeg)) + 1)))) else none) else none) else none)
set_option maxRecDepth 100000 in
theorem c_followData (d : Nat) {w : xWd} {S : xSt} {μ : Nat → Nat → Int32} {ρ : Nat → Nat → Int64} {i : Nat} {c : Nat} {κ : Nat} {s : Int32} (hi : i < 4) (hc : c < 4) (hκ : κ < 22) {r : xSt} (hE : (f_followData S i c κ s) = some r) : xc (d + 3) 57 [.ref (ja_P i c), .ref (ja_L κ), .int s] (hz w S μ ρ) (.inl (none), hz w r μ ρ) := by
  unfold f_followData at hE
  refine xe_sn pg_57 2 (fr' := (2, [(0, .ref (ja_P i c)), (1, .ref (ja_L κ)), (2, .int s)], [.int s, .ref (ja_P i c)])) rfl ?_
  obtain ⟨r1, e1, hE⟩ := Option.bind_eq_some_iff.mp hE
  refine xe_cv pg_57 59 pg_59 [.int s] [] (some (.int r1)) rfl rfl rfl rfl ⟨Nat.le_of_ble_eq_true rfl, Nat.le_of_ble_eq_true rfl, Nat.le_of_ble_eq_true rfl⟩ ⟨rfl, rfl⟩ (kk2 (k_P hi hc) (by decide)) (c_isOpen _ (i := i) (c := c) (s := s) hi hc e1) ?_
  by_cases h1 : r1 = 0
  · rw [if_pos h1] at hE
    refine xe_c1f pg_57 21 rfl rfl (fun z => z h1) ?_
    refine xe_sn pg_57 5 (fr' := (14, [(0, .ref (ja_P i c)), (1, .ref (ja_L κ)), (2, .int s)], [.int 0, .int s, .int 6, .ref (ja_P i c), .ref (ja_P i c)])) rfl ?_
    obtain ⟨r2, e2, hE⟩ := Option.bind_eq_some_iff.mp hE
    refine xe_cv pg_57 60 pg_60 [.int 6, .int s, .int 0] [.ref (ja_P i c)] (some (.ref (ja_L r2.1))) rfl rfl rfl rfl ⟨Nat.le_of_ble_eq_true rfl, Nat.le_of_ble_eq_true rfl, Nat.le_of_ble_eq_true rfl⟩ ⟨rfl, rfl⟩ (kk2 (k_P hi hc) (by decide)) (c_orderBack _ (i := i) (c := c) (o := 6) (s := s) (n := 0) hi hc e2) ?_
    obtain ⟨r3, e3, hE⟩ := Option.bind_eq_some_iff.mp hE
    refine xe_cv pg_57 61 pg_61 [.ref (ja_L r2.1)] [] (none) rfl rfl rfl rfl ⟨Nat.le_of_ble_eq_true rfl, Nat.le_of_ble_eq_true rfl, Nat.le_of_ble_eq_true rfl⟩ ⟨rfl, rfl⟩ (kk2 (k_P hi hc) (by decide)) (c_sealBack _ (i := i) (c := c) (κ := r2.1) hi hc (t_orderBack e2) (Option.some.inj e3)) ?_
    cases hE
    exact xe_end pg_57 rfl
  · rw [if_neg h1] at hE
    refine xe_c1t pg_57 21 rfl rfl h1 ?_
    refine xe_sn pg_57 4 (fr' := (25, [(0, .ref (ja_P i c)), (1, .ref (ja_L κ)), (2, .int s)], [.ref (ja_L κ), .int s, .int 5, .ref (ja_P i c)])) rfl ?_
    refine xe_gr pg_57 (ja_B κ) rfl rfl rfl (kk1 (k_L hκ)) (r_L0 hκ _) ?_
    refine xe_sn pg_57 1 (fr' := (30, [(0, .ref (ja_P i c)), (1, .ref (ja_L κ)), (2, .int s)], [.int 6, .ref (ja_B κ), .int s, .int 5, .ref (ja_P i c)])) rfl ?_
    refine ye_il pg_57 6 (S.2.1 κ 6) rfl (k_B hκ) ⟨by decide, by decide⟩ rfl ((l_B hκ (k := 6) (by decide)).rd _) ?_
    obtain ⟨r4, e4, hE⟩ := Option.bind_eq_some_iff.mp hE
    refine xe_cv pg_57 60 pg_60 [.int 5, .int s, .int (S.2.1 κ 6)] [] (some (.ref (ja_L r4.1))) rfl rfl rfl rfl ⟨Nat.le_of_ble_eq_true rfl, Nat.le_of_ble_eq_true rfl, Nat.le_of_ble_eq_true rfl⟩ ⟨rfl, rfl⟩ (kk2 (k_P hi hc) (by decide)) (c_orderBack _ (i := i) (c := c) (o := 5) (s := s) (n := (S.2.1 κ 6)) hi hc e4) ?_
    refine xe_sn pg_57 3 (fr' := (39, [(4, .int 7), (3, .ref (ja_L r4.1)), (0, .ref (ja_P i c)), (1, .ref (ja_L κ)), (2, .int s)], [])) rfl ?_
    by_cases gne : ¬ r4.1 = κ
    case neg => rw [if_neg gne] at hE; cases hE
    rw [if_pos gne] at hE
    by_cases gdl : bnd (f_dataLength r4.2 κ) 8
    case neg => rw [if_neg gdl] at hE; cases hE
    rw [if_pos gdl] at hE
    have q9 := fun dd z z2 => lp_followData (r := z) dd (w := w) (S := r4.2) (μ := μ) (ρ := ρ) (s := s) hi hc hκ (t_orderBack e4) gne (m := (f_dataLength r4.2 κ).toNatClampNeg) (by have := bnd_lt gdl; omega) (nI_bnd gdl (by omega)) z2 (f_dataLength r4.2 κ).toNatClampNeg 0 (by omega)
    rw [dfill_0, sr_self] at q9
    refine q9 _ _ ?_
    refine xe_sn pg_57 2 (fr' := (77, [(4, .int (nI ((f_dataLength r4.2 κ).toNatClampNeg + 7))), (3, .ref (ja_L r4.1)), (0, .ref (ja_P i c)), (1, .ref (ja_L κ)), (2, .int s)], [.ref (ja_L r4.1), .ref (ja_P i c)])) rfl ?_
    obtain ⟨r5, e5, hE⟩ := Option.bind_eq_some_iff.mp hE
    refine xe_cv pg_57 61 pg_61 [.ref (ja_L r4.1)] [] (none) rfl rfl rfl rfl ⟨Nat.le_of_ble_eq_true rfl, Nat.le_of_ble_eq_true rfl, Nat.le_of_ble_eq_true rfl⟩ ⟨rfl, rfl⟩ (kk2 (k_P hi hc) (by decide)) (c_sealBack _ (i := i) (c := c) (κ := r4.1) hi hc (t_orderBack e4) (Option.some.inj e5)) ?_
    refine xe_sn pg_57 1 (fr' := (81, [(4, .int (nI ((f_dataLength r4.2 κ).toNatClampNeg + 7))), (3, .ref (ja_L r4.1)), (0, .ref (ja_P i c)), (1, .ref (ja_L κ)), (2, .int s)], [.ref (ja_P i c)])) rfl ?_
    refine xe_gr pg_57 (ja_N i c) rfl rfl rfl (kk1 (k_P hi hc)) (r_P6 hi hc _) ?_
    refine xe_sn pg_57 4 (fr' := (88, [(4, .int (nI ((f_dataLength r4.2 κ).toNatClampNeg + 7))), (3, .ref (ja_L r4.1)), (0, .ref (ja_P i c)), (1, .ref (ja_L κ)), (2, .int s)], [.int (s - 1), .ref (ja_N i c), .int (s - 1), .ref (ja_N i c)])) rfl ?_
    by_cases g2 : bnd (s - 1) 3
    case neg => rw [if_neg g2] at hE; cases hE
    rw [if_pos g2] at hE
    refine ye_il pg_57 (s - 1).toNatClampNeg (r5.1 191 (3 * (4 * i + c) + (s - 1).toNatClampNeg)) rfl (k_N hi hc) g2 rfl ((l_N hi hc (k := (s - 1).toNatClampNeg) (bnd_lt g2)).rd _) ?_
    refine xe_sn pg_57 2 (fr' := (91, [(4, .int (nI ((f_dataLength r4.2 κ).toNatClampNeg + 7))), (3, .ref (ja_L r4.1)), (0, .ref (ja_P i c)), (1, .ref (ja_L κ)), (2, .int s)], [.int ((r5.1 191 (3 * (4 * i + c) + (s - 1).toNatClampNeg)) + 1), .int (s - 1), .ref (ja_N i c)])) rfl ?_
    refine ye_is pg_57 (s - 1).toNatClampNeg rfl (k_N hi hc) g2 rfl (l_N hi hc (k := (s - 1).toNatClampNeg) (bnd_lt g2)) ?_
    refine xe_sn pg_57 1 (fr' := (93, [(4, .int (nI ((f_dataLength r4.2 κ).toNatClampNeg + 7))), (3, .ref (ja_L r4.1)), (0, .ref (ja_P i c)), (1, .ref (ja_L κ)), (2, .int s)], [.ref (ja_P i c)])) rfl ?_
    refine xe_gr pg_57 (ja_N i c) rfl rfl rfl (kk1 (k_P hi hc)) (r_P6 hi hc _) ?_
    refine xe_sn pg_57 3 (fr' := (99, [(4, .int (nI ((f_dataLength r4.2 κ).toNatClampNeg + 7))), (3, .ref (ja_L r4.1)), (0, .ref (ja_P i c)), (1, .ref (ja_L κ)), (2, .int s)], [.int (s - 1), .ref (ja_N i c)])) rfl ?_
    refine ye_il pg_57 (s - 1).toNatClampNeg ((r5.1 191 (3 * (4 * i + c) + (s - 1).toNatClampNeg)) + 1) rfl (k_N hi hc) g2 rfl (((l_N hi hc (k := (s - 1).toNatClampNeg) (bnd_lt g2)).rd _).trans (u2_same r5.1 191 (3 * (4 * i + c) + (s - 1).toNatClampNeg) ((r5.1 191 (3 * (4 * i + c) + (s - 1).toNatClampNeg)) + 1))) ?_
    refine xe_sn pg_57 2 (fr' := (102, [(4, .int (nI ((f_dataLength r4.2 κ).toNatClampNeg + 7))), (3, .ref (ja_L r4.1)), (0, .ref (ja_P i c)), (1, .ref (ja_L κ)), (2, .int s)], [.int (rem ((r5.1 191 (3 * (4 * i + c) + (s - 1).toNatClampNeg)) + 1) 2)])) rfl ?_
    by_cases h3 : (rem ((r5.1 191 (3 * (4 * i + c) + (s - 1).toNatClampNeg)) + 1) 2) = 0
    · rw [if_pos h3] at hE
      refine xe_c1f pg_57 117 rfl rfl (fun z => z h3) ?_
      refine xe_sn pg_57 5 (fr' := (111, [(4, .int (nI ((f_dataLength r4.2 κ).toNatClampNeg + 7))), (3, .ref (ja_L r4.1)), (0, .ref (ja_P i c)), (1, .ref (ja_L κ)), (2, .int s)], [.int 0, .int s, .int 7, .ref (ja_P i c), .ref (ja_P i c)])) rfl ?_
      obtain ⟨r6, e6, hE⟩ := Option.bind_eq_some_iff.mp hE
      refine xe_cv pg_57 60 pg_60 [.int 7, .int s, .int 0] [.ref (ja_P i c)] (some (.ref (ja_L r6.1))) rfl rfl rfl rfl ⟨Nat.le_of_ble_eq_true rfl, Nat.le_of_ble_eq_true rfl, Nat.le_of_ble_eq_true rfl⟩ ⟨rfl, rfl⟩ (kk2 (k_P hi hc) (by decide)) (c_orderBack _ (i := i) (c := c) (o := 7) (s := s) (n := 0) hi hc e6) ?_
      obtain ⟨r7, e7, hE⟩ := Option.bind_eq_some_iff.mp hE
      refine xe_cv pg_57 61 pg_61 [.ref (ja_L r6.1)] [] (none) rfl rfl rfl rfl ⟨Nat.le_of_ble_eq_true rfl, Nat.le_of_ble_eq_true rfl, Nat.le_of_ble_eq_true rfl⟩ ⟨rfl, rfl⟩ (kk2 (k_P hi hc) (by decide)) (c_sealBack _ (i := i) (c := c) (κ := r6.1) hi hc (t_orderBack e6) (Option.some.inj e7)) ?_
      cases hE
      exact xe_end pg_57 rfl
    · rw [if_neg h3] at hE
      refine xe_c1t pg_57 117 rfl rfl h3 ?_
      cases hE
      exact xe_end pg_57 rfl

def f_pfollows (S : xSt) (i : Nat) (c : Nat) (κ : Nat) : Option (Int32 × xSt) := if (S.2.1 κ 4) = 1 then ((f_followsExtend S i c κ).bind fun r1 => some (r1.1, r1.2)) else (if (S.2.1 κ 4) = 2 then (some (0, S)) else (if (S.2.1 κ 4) = 3 then ((f_followBegin S i c (S.2.1 κ 5)).bind fun r2 => some (1, r2)) else (if (S.2.1 κ 4) = 4 then (some (0, S)) else (if (S.2.1 κ 4) = 5 then ((f_followData S i c κ (S.2.1 κ 5)).bind fun r3 => some (1, r3)) else (if (S.2.1 κ 4) = 6 then ((f_isOpen S i c (S.2.1 κ 5)).bind fun r4 => if r4 = 0 then (some (1, S)) else (if bnd ((S.2.1 κ 5) - 1) 3 then (some (1, (sx S 185 (3 * (4 * i + c) + ((S.2.1 κ 5) - 1).toNatClampNeg) 0))) else none)) else (if (S.2.1 κ 4) = 7 then (some (0, S)) else (if (S.2.1 κ 4) = 8 then ((f_followTruncate S i c).bind fun r5 => some (1, r5)) else (some (0, S)))))))))
set_option maxRecDepth 100000 in
theorem c_pfollows (d : Nat) {w : xWd} {S : xSt} {μ : Nat → Nat → Int32} {ρ : Nat → Nat → Int64} {i : Nat} {c : Nat} {κ : Nat} (hi : i < 4) (hc : c < 4) (hκ : κ < 22) {r : Int32 × xSt} (hE : (f_pfollows S i c κ) = some r) : xc (d + 4) 54 [.ref (ja_P i c), .ref (ja_L κ)] (hz w S μ ρ) (.inl (some (.int r.1)), hz w r.2 μ ρ) := by
  unfold f_pfollows at hE
  refine xe_sn pg_54 1 (fr' := (1, [(0, .ref (ja_P i c)), (1, .ref (ja_L κ))], [.ref (ja_L κ)])) rfl ?_
  refine xe_gr pg_54 (ja_B κ) rfl rfl rfl (kk1 (k_L hκ)) (r_L0 hκ _) ?_
  refine xe_sn pg_54 1 (fr' := (5, [(0, .ref (ja_P i c)), (1, .ref (ja_L κ))], [.int 5, .ref (ja_B κ)])) rfl ?_
  refine ye_il pg_54 5 (S.2.1 κ 5) rfl (k_B hκ) ⟨by decide, by decide⟩ rfl ((l_B hκ (k := 5) (by decide)).rd _) ?_
  refine xe_sn pg_54 2 (fr' := (8, [(2, .int (S.2.1 κ 5)), (0, .ref (ja_P i c)), (1, .ref (ja_L κ))], [.ref (ja_L κ)])) rfl ?_
  refine xe_gr pg_54 (ja_B κ) rfl rfl rfl (kk1 (k_L hκ)) (r_L0 hκ _) ?_
  refine xe_sn pg_54 1 (fr' := (12, [(2, .int (S.2.1 κ 5)), (0, .ref (ja_P i c)), (1, .ref (ja_L κ))], [.int 4, .ref (ja_B κ)])) rfl ?_
  refine ye_il pg_54 4 (S.2.1 κ 4) rfl (k_B hκ) ⟨by decide, by decide⟩ rfl ((l_B hκ (k := 4) (by decide)).rd _) ?_
  by_cases h1 : (S.2.1 κ 4) = 1
  · rw [if_pos h1] at hE
    refine xe_sw pg_54 60 h1 rfl ?_
    refine xe_sn pg_54 2 (fr' := (62, [(2, .int (S.2.1 κ 5)), (0, .ref (ja_P i c)), (1, .ref (ja_L κ))], [.ref (ja_L κ), .ref (ja_P i c)])) rfl ?_
    obtain ⟨r1, e1, hE⟩ := Option.bind_eq_some_iff.mp hE
    refine xe_cv pg_54 55 pg_55 [.ref (ja_L κ)] [] (some (.int r1.1)) rfl rfl rfl rfl ⟨Nat.le_of_ble_eq_true rfl, Nat.le_of_ble_eq_true rfl, Nat.le_of_ble_eq_true rfl⟩ ⟨rfl, rfl⟩ (kk2 (k_P hi hc) (by decide)) (c_followsExtend _ (i := i) (c := c) (κ := κ) hi hc hκ e1) ?_
    cases hE
    exact xe_rb pg_54 rfl rfl (b_followsExtend e1)
  · rw [if_neg h1] at hE
    by_cases h2 : (S.2.1 κ 4) = 2
    · rw [if_pos h2] at hE
      refine xe_sw pg_54 106 h2 rfl ?_
      refine xe_sn pg_54 1 (fr' := (107, [(2, .int (S.2.1 κ 5)), (0, .ref (ja_P i c)), (1, .ref (ja_L κ))], [.int 0])) rfl ?_
      cases hE
      exact xe_end pg_54 rfl
    · rw [if_neg h2] at hE
      by_cases h3 : (S.2.1 κ 4) = 3
      · rw [if_pos h3] at hE
        refine xe_sw pg_54 66 h3 rfl ?_
        refine xe_sn pg_54 2 (fr' := (68, [(2, .int (S.2.1 κ 5)), (0, .ref (ja_P i c)), (1, .ref (ja_L κ))], [.int (S.2.1 κ 5), .ref (ja_P i c)])) rfl ?_
        obtain ⟨r2, e2, hE⟩ := Option.bind_eq_some_iff.mp hE
        refine xe_cv pg_54 56 pg_56 [.int (S.2.1 κ 5)] [] (none) rfl rfl rfl rfl ⟨Nat.le_of_ble_eq_true rfl, Nat.le_of_ble_eq_true rfl, Nat.le_of_ble_eq_true rfl⟩ ⟨rfl, rfl⟩ (kk2 (k_P hi hc) (by decide)) (c_followBegin _ (i := i) (c := c) (s := (S.2.1 κ 5)) hi hc e2) ?_
        refine xe_sn pg_54 1 (fr' := (72, [(2, .int (S.2.1 κ 5)), (0, .ref (ja_P i c)), (1, .ref (ja_L κ))], [.int 1])) rfl ?_
        cases hE
        exact xe_end pg_54 rfl
      · rw [if_neg h3] at hE
        by_cases h4 : (S.2.1 κ 4) = 4
        · rw [if_pos h4] at hE
          refine xe_sw pg_54 106 h4 rfl ?_
          refine xe_sn pg_54 1 (fr' := (107, [(2, .int (S.2.1 κ 5)), (0, .ref (ja_P i c)), (1, .ref (ja_L κ))], [.int 0])) rfl ?_
          cases hE
          exact xe_end pg_54 rfl
        · rw [if_neg h4] at hE
          by_cases h5 : (S.2.1 κ 4) = 5
          · rw [if_pos h5] at hE
            refine xe_sw pg_54 73 h5 rfl ?_
            refine xe_sn pg_54 3 (fr' := (76, [(2, .int (S.2.1 κ 5)), (0, .ref (ja_P i c)), (1, .ref (ja_L κ))], [.int (S.2.1 κ 5), .ref (ja_L κ), .ref (ja_P i c)])) rfl ?_
            obtain ⟨r3, e3, hE⟩ := Option.bind_eq_some_iff.mp hE
            refine xe_cv pg_54 57 pg_57 [.ref (ja_L κ), .int (S.2.1 κ 5)] [] (none) rfl rfl rfl rfl ⟨Nat.le_of_ble_eq_true rfl, Nat.le_of_ble_eq_true rfl, Nat.le_of_ble_eq_true rfl⟩ ⟨rfl, rfl⟩ (kk2 (k_P hi hc) (by decide)) (c_followData _ (i := i) (c := c) (κ := κ) (s := (S.2.1 κ 5)) hi hc hκ e3) ?_
            refine xe_sn pg_54 1 (fr' := (80, [(2, .int (S.2.1 κ 5)), (0, .ref (ja_P i c)), (1, .ref (ja_L κ))], [.int 1])) rfl ?_
            cases hE
            exact xe_end pg_54 rfl
          · rw [if_neg h5] at hE
            by_cases h6 : (S.2.1 κ 4) = 6
            · rw [if_pos h6] at hE
              refine xe_sw pg_54 81 h6 rfl ?_
              refine xe_sn pg_54 2 (fr' := (83, [(2, .int (S.2.1 κ 5)), (0, .ref (ja_P i c)), (1, .ref (ja_L κ))], [.int (S.2.1 κ 5), .ref (ja_P i c)])) rfl ?_
              obtain ⟨r4, e4, hE⟩ := Option.bind_eq_some_iff.mp hE
              refine xe_cv pg_54 59 pg_59 [.int (S.2.1 κ 5)] [] (some (.int r4)) rfl rfl rfl rfl ⟨Nat.le_of_ble_eq_true rfl, Nat.le_of_ble_eq_true rfl, Nat.le_of_ble_eq_true rfl⟩ ⟨rfl, rfl⟩ (kk2 (k_P hi hc) (by decide)) (c_isOpen _ (i := i) (c := c) (s := (S.2.1 κ 5)) hi hc e4) ?_
              by_cases h7 : r4 = 0
              · rw [if_pos h7] at hE
                refine xe_c1t pg_54 98 rfl rfl h7 ?_
                refine xe_sn pg_54 1 (fr' := (99, [(2, .int (S.2.1 κ 5)), (0, .ref (ja_P i c)), (1, .ref (ja_L κ))], [.int 1])) rfl ?_
                cases hE
                exact xe_end pg_54 rfl
              · rw [if_neg h7] at hE
                refine xe_c1f pg_54 98 rfl rfl h7 ?_
                refine xe_sn pg_54 1 (fr' := (90, [(2, .int (S.2.1 κ 5)), (0, .ref (ja_P i c)), (1, .ref (ja_L κ))], [.ref (ja_P i c)])) rfl ?_
                refine xe_gr pg_54 (ja_O i c) rfl rfl rfl (kk1 (k_P hi hc)) (r_P1 hi hc _) ?_
                refine xe_sn pg_54 4 (fr' := (97, [(2, .int (S.2.1 κ 5)), (0, .ref (ja_P i c)), (1, .ref (ja_L κ))], [.int 0, .int ((S.2.1 κ 5) - 1), .ref (ja_O i c)])) rfl ?_
                by_cases g8 : bnd ((S.2.1 κ 5) - 1) 3
                case neg => rw [if_neg g8] at hE; cases hE
                rw [if_pos g8] at hE
                refine ye_bs pg_54 ((S.2.1 κ 5) - 1).toNatClampNeg rfl (k_Op hi hc) g8 rfl (Or.inl rfl) (l_O hi hc (k := ((S.2.1 κ 5) - 1).toNatClampNeg) (bnd_lt g8)) ?_
                refine xe_sn pg_54 1 (fr' := (99, [(2, .int (S.2.1 κ 5)), (0, .ref (ja_P i c)), (1, .ref (ja_L κ))], [.int 1])) rfl ?_
                cases hE
                exact xe_end pg_54 rfl
            · rw [if_neg h6] at hE
              by_cases h9 : (S.2.1 κ 4) = 7
              · rw [if_pos h9] at hE
                refine xe_sw pg_54 106 h9 rfl ?_
                refine xe_sn pg_54 1 (fr' := (107, [(2, .int (S.2.1 κ 5)), (0, .ref (ja_P i c)), (1, .ref (ja_L κ))], [.int 0])) rfl ?_
                cases hE
                exact xe_end pg_54 rfl
              · rw [if_neg h9] at hE
                by_cases h10 : (S.2.1 κ 4) = 8
                · rw [if_pos h10] at hE
                  refine xe_sw pg_54 100 h10 rfl ?_
                  refine xe_sn pg_54 1 (fr' := (101, [(2, .int (S.2.1 κ 5)), (0, .ref (ja_P i c)), (1, .ref (ja_L κ))], [.ref (ja_P i c)])) rfl ?_
                  obtain ⟨r5, e5, hE⟩ := Option.bind_eq_some_iff.mp hE
                  refine xe_cv pg_54 58 pg_58 [] [] (none) rfl rfl rfl rfl ⟨Nat.le_of_ble_eq_true rfl, Nat.le_of_ble_eq_true rfl, Nat.le_of_ble_eq_true rfl⟩ ⟨rfl, rfl⟩ (kk2 (k_P hi hc) (by decide)) (c_followTruncate _ (i := i) (c := c) hi hc e5) ?_
                  refine xe_sn pg_54 1 (fr' := (105, [(2, .int (S.2.1 κ 5)), (0, .ref (ja_P i c)), (1, .ref (ja_L κ))], [.int 1])) rfl ?_
                  cases hE
                  exact xe_end pg_54 rfl
                · rw [if_neg h10] at hE
                  refine xe_tsd pg_54 106 rfl rfl (sw_out 1 8 (by decide) (by decide) (fun j hj1 hj2 => ?_)) ?_
                  · rcases (by omega : j = 1 ∨ j = 2 ∨ j = 3 ∨ j = 4 ∨ j = 5 ∨ j = 6 ∨ j = 7 ∨ j = 8) with e | e | e | e | e | e | e | e <;> subst e <;> assumption
                  refine xe_sn pg_54 1 (fr' := (107, [(2, .int (S.2.1 κ 5)), (0, .ref (ja_P i c)), (1, .ref (ja_L κ))], [.int 0])) rfl ?_
                  cases hE
                  exact xe_end pg_54 rfl
theorem b_pfollows {S : xSt} {i : Nat} {c : Nat} {κ : Nat} {r : Int32 × xSt} (hE : (f_pfollows S i c κ) = some r) : r.1 = 0 ∨ r.1 = 1 := by
  unfold f_pfollows at hE
  by_cases h1 : (S.2.1 κ 4) = 1
  · rw [if_pos h1] at hE
    obtain ⟨r1, e1, hE⟩ := Option.bind_eq_some_iff.mp hE
    cases hE
    exact (b_followsExtend e1)
  · rw [if_neg h1] at hE
    by_cases h2 : (S.2.1 κ 4) = 2
    · rw [if_pos h2] at hE
      cases hE
      exact Or.inl rfl
    · rw [if_neg h2] at hE
      by_cases h3 : (S.2.1 κ 4) = 3
      · rw [if_pos h3] at hE
        obtain ⟨r2, e2, hE⟩ := Option.bind_eq_some_iff.mp hE
        cases hE
        exact Or.inr rfl
      · rw [if_neg h3] at hE
        by_cases h4 : (S.2.1 κ 4) = 4
        · rw [if_pos h4] at hE
          cases hE
          exact Or.inl rfl
        · rw [if_neg h4] at hE
          by_cases h5 : (S.2.1 κ 4) = 5
          · rw [if_pos h5] at hE
            obtain ⟨r3, e3, hE⟩ := Option.bind_eq_some_iff.mp hE
            cases hE
            exact Or.inr rfl
          · rw [if_neg h5] at hE
            by_cases h6 : (S.2.1 κ 4) = 6
            · rw [if_pos h6] at hE
              obtain ⟨r4, e4, hE⟩ := Option.bind_eq_some_iff.mp hE
              by_cases h7 : r4 = 0
              · rw [if_pos h7] at hE
                cases hE
                exact Or.inr rfl
              · rw [if_neg h7] at hE
                by_cases g8 : bnd ((S.2.1 κ 5) - 1) 3
                · rw [if_pos g8] at hE
                  cases hE
                  exact Or.inr rfl
                · rw [if_neg g8] at hE
                  cases hE
            · rw [if_neg h6] at hE
              by_cases h9 : (S.2.1 κ 4) = 7
              · rw [if_pos h9] at hE
                cases hE
                exact Or.inl rfl
              · rw [if_neg h9] at hE
                by_cases h10 : (S.2.1 κ 4) = 8
                · rw [if_pos h10] at hE
                  obtain ⟨r5, e5, hE⟩ := Option.bind_eq_some_iff.mp hE
                  cases hE
                  exact Or.inr rfl
                · rw [if_neg h10] at hE
                  cases hE
                  exact Or.inl rfl

def f_ptakesRelay (S : xSt) (i : Nat) (c : Nat) (κ : Nat) : Option (Int32 × xSt) := if (S.1 180 (4 * i + c)) = 0 then (some (0, S)) else (if (S.2.1 κ 14) = (S.1 181 (4 * i + c)) then ((some (w_wrap S κ (S.1 184 (16 * i + 4 * c)))).bind fun r1 => if (r1.2.1 κ 18) = 0 then ((some (f_pisKnown (sx r1 184 (16 * i + 4 * c) (ks (S.1 184 (16 * i + 4 * c)) 14)) i c κ)).bind fun r2 => if r2.1 = 0 then ((f_tearDown r2.2 i c).bind fun r3 => some (1, r3)) else ((f_pfollows r2.2 i c κ).bind fun r4 => if (if r4.1 = 0 then (0 : Int32) else 1) = 0 then ((f_tearDown r4.2 i c).bind fun r5 => some (1, r5)) else (some (1, r4.2)))) else ((f_goesForward (sx r1 184 (16 * i + 4 * c) (ks (S.1 184 (16 * i + 4 * c)) 14)) i c κ).bind fun r6 => if r6.1 = 0 then ((f_tearDown r6.2 i c).bind fun r7 => some (1, r7)) else (some (1, r6.2)))) else (if (S.2.1 κ 14) = (S.1 182 (4 * i + c)) then ((some (w_wrap S κ (S.1 184 (16 * i + 4 * c + 1)))).bind fun r8 => (f_relayOn (sx r8 184 (16 * i + 4 * c + 1) (ks (S.1 184 (16 * i + 4 * c + 1)) 14)) i c κ (r8.1 181 (4 * i + c)) ((r8.2.1 κ 18) + 1)).bind fun r9 => some (1, r9)) else (some (0, S))))
set_option maxRecDepth 100000 in
theorem c_ptakesRelay (d : Nat) {w : xWd} {S : xSt} {μ : Nat → Nat → Int32} {ρ : Nat → Nat → Int64} {i : Nat} {c : Nat} {κ : Nat} (hi : i < 4) (hc : c < 4) (hκ : κ < 22) {r : Int32 × xSt} (hE : (f_ptakesRelay S i c κ) = some r) : xc (d + 5) 50 [.ref (ja_P i c), .ref (ja_L κ)] (hz w S μ ρ) (.inl (some (.int r.1)), hz w r.2 μ ρ) := by
  unfold f_ptakesRelay at hE
  refine xe_sn pg_50 1 (fr' := (1, [(0, .ref (ja_P i c)), (1, .ref (ja_L κ))], [.ref (ja_P i c)])) rfl ?_
  refine ye_gi pg_50 (S.1 180 (4 * i + c)) rfl rfl rfl (kk1 (k_P hi hc)) ((show lx _ 2 180 _ from lx_ix (4 * i + c) (l_P hi hc (by decide) (by decide)) (by omega)).rd _) ?_
  by_cases h1 : (S.1 180 (4 * i + c)) = 0
  · rw [if_pos h1] at hE
    refine xe_c1f pg_50 9 rfl rfl (fun z => z h1) ?_
    refine xe_sn pg_50 1 (fr' := (8, [(0, .ref (ja_P i c)), (1, .ref (ja_L κ))], [.int 0])) rfl ?_
    cases hE
    exact xe_end pg_50 rfl
  · rw [if_neg h1] at hE
    refine xe_c1t pg_50 9 rfl rfl h1 ?_
    refine xe_sn pg_50 1 (fr' := (10, [(0, .ref (ja_P i c)), (1, .ref (ja_L κ))], [.ref (ja_L κ)])) rfl ?_
    refine ye_gi pg_50 (S.2.1 κ 14) rfl rfl rfl (kk1 (k_L hκ)) ((show ly _ 1 κ 14 from l_L hκ (by decide) (by decide)).rd _) ?_
    refine xe_sn pg_50 1 (fr' := (14, [(0, .ref (ja_P i c)), (1, .ref (ja_L κ))], [.ref (ja_P i c), .int (S.2.1 κ 14)])) rfl ?_
    refine ye_gi pg_50 (S.1 181 (4 * i + c)) rfl rfl rfl (kk1 (k_P hi hc)) ((show lx _ 3 181 _ from lx_ix (4 * i + c) (l_P hi hc (by decide) (by decide)) (by omega)).rd _) ?_
    by_cases h2 : (S.2.1 κ 14) = (S.1 181 (4 * i + c))
    · rw [if_pos h2] at hE
      refine xe_c2f pg_50 83 rfl rfl (fun z => z h2) ?_
      refine xe_sn pg_50 1 (fr' := (21, [(0, .ref (ja_P i c)), (1, .ref (ja_L κ))], [.ref (ja_P i c)])) rfl ?_
      refine xe_gr pg_50 (ja_K i c) rfl rfl rfl (kk1 (k_P hi hc)) (r_P0 hi hc _) ?_
      refine xe_sn pg_50 3 (fr' := (27, [(0, .ref (ja_P i c)), (1, .ref (ja_L κ))], [.ref (ja_P i c), .ref (ja_L κ), .int 0, .ref (ja_K i c)])) rfl ?_
      refine xe_gr pg_50 (ja_K i c) rfl rfl rfl (kk1 (k_P hi hc)) (r_P0 hi hc _) ?_
      refine xe_sn pg_50 1 (fr' := (31, [(0, .ref (ja_P i c)), (1, .ref (ja_L κ))], [.int 0, .ref (ja_K i c), .ref (ja_L κ), .int 0, .ref (ja_K i c)])) rfl ?_
      refine ye_il pg_50 0 (S.1 184 (16 * i + 4 * c)) rfl (k_K hi hc) ⟨by decide, by decide⟩ rfl ((lx_ix (16 * i + 4 * c) (l_K hi hc (k := 0) (by decide)) (by omega)).rd _) ?_
      obtain ⟨r1, e1, hE⟩ := Option.bind_eq_some_iff.mp hE
      have e1q := Option.some.inj e1
      refine xe_cv pg_50 12 pg_12 [.int (S.1 184 (16 * i + 4 * c))] [.int 0, .ref (ja_K i c)] (some (.int (ks (S.1 184 (16 * i + 4 * c)) 14))) rfl rfl rfl rfl ⟨Nat.le_of_ble_eq_true rfl, Nat.le_of_ble_eq_true rfl, Nat.le_of_ble_eq_true rfl⟩ ⟨rfl, rfl⟩ (kk2 (k_L hκ) (by decide)) (e1q ▸ c_wrap _ (κ := κ) (key := (S.1 184 (16 * i + 4 * c))) hκ) ?_
      refine ye_is pg_50 0 rfl (k_K hi hc) ⟨by decide, by decide⟩ rfl (lx_ix (16 * i + 4 * c) (l_K hi hc (k := 0) (by decide)) (by omega)) ?_
      refine xe_sn pg_50 1 (fr' := (37, [(0, .ref (ja_P i c)), (1, .ref (ja_L κ))], [.ref (ja_L κ)])) rfl ?_
      refine ye_gi pg_50 (r1.2.1 κ 18) rfl rfl rfl (kk1 (k_L hκ)) ((show ly _ 5 κ 18 from l_L hκ (by decide) (by decide)).rd _) ?_
      by_cases h3 : (r1.2.1 κ 18) = 0
      · rw [if_pos h3] at hE
        refine xe_c1f pg_50 67 rfl rfl (fun z => z h3) ?_
        refine xe_sn pg_50 2 (fr' := (45, [(0, .ref (ja_P i c)), (1, .ref (ja_L κ))], [.ref (ja_L κ), .ref (ja_P i c)])) rfl ?_
        obtain ⟨r2, e2, hE⟩ := Option.bind_eq_some_iff.mp hE
        refine xe_cv pg_50 52 pg_52 [.ref (ja_L κ)] [] (some (.int r2.1)) rfl rfl rfl rfl ⟨Nat.le_of_ble_eq_true rfl, Nat.le_of_ble_eq_true rfl, Nat.le_of_ble_eq_true rfl⟩ ⟨rfl, rfl⟩ (kk2 (k_P hi hc) (by decide)) (c_pisKnown _ (i := i) (c := c) (κ := κ) hi hc hκ (Option.some.inj e2)) ?_
        by_cases h4 : r2.1 = 0
        · rw [if_pos h4] at hE
          refine xe_c1t pg_50 63 rfl rfl h4 ?_
          refine xe_sn pg_50 2 (fr' := (72, [(0, .ref (ja_P i c)), (1, .ref (ja_L κ))], [.int 0])) rfl ?_
          refine xe_sn pg_50 4 (fr' := (78, [(2, .int 0), (0, .ref (ja_P i c)), (1, .ref (ja_L κ))], [.ref (ja_P i c)])) rfl ?_
          obtain ⟨r3, e3, hE⟩ := Option.bind_eq_some_iff.mp hE
          refine xe_cv pg_50 46 pg_46 [] [] (none) rfl rfl rfl rfl ⟨Nat.le_of_ble_eq_true rfl, Nat.le_of_ble_eq_true rfl, Nat.le_of_ble_eq_true rfl⟩ ⟨rfl, rfl⟩ (kk2 (k_P hi hc) (by decide)) (c_tearDown _ (i := i) (c := c) hi hc e3) ?_
          refine xe_sn pg_50 1 (fr' := (82, [(2, .int 0), (0, .ref (ja_P i c)), (1, .ref (ja_L κ))], [.int 1])) rfl ?_
          cases hE
          exact xe_end pg_50 rfl
        · rw [if_neg h4] at hE
          refine xe_c1f pg_50 63 rfl rfl h4 ?_
          refine xe_sn pg_50 2 (fr' := (53, [(0, .ref (ja_P i c)), (1, .ref (ja_L κ))], [.ref (ja_L κ), .ref (ja_P i c)])) rfl ?_
          obtain ⟨r4, e4, hE⟩ := Option.bind_eq_some_iff.mp hE
          refine xe_cv pg_50 54 pg_54 [.ref (ja_L κ)] [] (some (.int r4.1)) rfl rfl rfl rfl ⟨Nat.le_of_ble_eq_true rfl, Nat.le_of_ble_eq_true rfl, Nat.le_of_ble_eq_true rfl⟩ ⟨rfl, rfl⟩ (kk2 (k_P hi hc) (by decide)) (c_pfollows _ (i := i) (c := c) (κ := κ) hi hc hκ e4) ?_
          refine xe_jn (fr' := (72, [(0, .ref (ja_P i c)), (1, .ref (ja_L κ))], [.int (if r4.1 = 0 then (0 : Int32) else 1)])) (fun J5 => ?_) ?_
          · by_cases h5 : r4.1 = 0
            · rw [show (if r4.1 = 0 then (0 : Int32) else 1) = 0 from if_pos h5] at J5
              refine xe_c1t pg_50 63 rfl rfl h5 ?_
              refine xe_sn pg_50 2 (fr' := (72, [(0, .ref (ja_P i c)), (1, .ref (ja_L κ))], [.int 0])) rfl ?_
              exact J5
            · rw [show (if r4.1 = 0 then (0 : Int32) else 1) = 1 from if_neg h5] at J5
              refine xe_c1f pg_50 63 rfl rfl h5 ?_
              refine xe_sn pg_50 2 (fr' := (72, [(0, .ref (ja_P i c)), (1, .ref (ja_L κ))], [.int 1])) rfl ?_
              exact J5
          refine xe_sn pg_50 2 (fr' := (74, [(2, .int (if r4.1 = 0 then (0 : Int32) else 1)), (0, .ref (ja_P i c)), (1, .ref (ja_L κ))], [.int (if r4.1 = 0 then (0 : Int32) else 1)])) rfl ?_
          by_cases h6 : (if r4.1 = 0 then (0 : Int32) else 1) = 0
          · rw [if_pos h6] at hE
            refine xe_c1f pg_50 81 rfl rfl (fun z => z h6) ?_
            refine xe_sn pg_50 1 (fr' := (78, [(2, .int (if r4.1 = 0 then (0 : Int32) else 1)), (0, .ref (ja_P i c)), (1, .ref (ja_L κ))], [.ref (ja_P i c)])) rfl ?_
            obtain ⟨r5, e5, hE⟩ := Option.bind_eq_some_iff.mp hE
            refine xe_cv pg_50 46 pg_46 [] [] (none) rfl rfl rfl rfl ⟨Nat.le_of_ble_eq_true rfl, Nat.le_of_ble_eq_true rfl, Nat.le_of_ble_eq_true rfl⟩ ⟨rfl, rfl⟩ (kk2 (k_P hi hc) (by decide)) (c_tearDown _ (i := i) (c := c) hi hc e5) ?_
            refine xe_sn pg_50 1 (fr' := (82, [(2, .int (if r4.1 = 0 then (0 : Int32) else 1)), (0, .ref (ja_P i c)), (1, .ref (ja_L κ))], [.int 1])) rfl ?_
            cases hE
            exact xe_end pg_50 rfl
          · rw [if_neg h6] at hE
            refine xe_c1t pg_50 81 rfl rfl h6 ?_
            refine xe_sn pg_50 1 (fr' := (82, [(2, .int (if r4.1 = 0 then (0 : Int32) else 1)), (0, .ref (ja_P i c)), (1, .ref (ja_L κ))], [.int 1])) rfl ?_
            cases hE
            exact xe_end pg_50 rfl
      · rw [if_neg h3] at hE
        refine xe_c1t pg_50 67 rfl rfl h3 ?_
        refine xe_sn pg_50 2 (fr' := (69, [(0, .ref (ja_P i c)), (1, .ref (ja_L κ))], [.ref (ja_L κ), .ref (ja_P i c)])) rfl ?_
        obtain ⟨r6, e6, hE⟩ := Option.bind_eq_some_iff.mp hE
        refine xe_cv pg_50 51 pg_51 [.ref (ja_L κ)] [] (some (.int r6.1)) rfl rfl rfl rfl ⟨Nat.le_of_ble_eq_true rfl, Nat.le_of_ble_eq_true rfl, Nat.le_of_ble_eq_true rfl⟩ ⟨rfl, rfl⟩ (kk2 (k_P hi hc) (by decide)) (c_goesForward _ (i := i) (c := c) (κ := κ) hi hc hκ e6) ?_
        refine xe_sn pg_50 2 (fr' := (74, [(2, .int r6.1), (0, .ref (ja_P i c)), (1, .ref (ja_L κ))], [.int r6.1])) rfl ?_
        by_cases h7 : r6.1 = 0
        · rw [if_pos h7] at hE
          refine xe_c1f pg_50 81 rfl rfl (fun z => z h7) ?_
          refine xe_sn pg_50 1 (fr' := (78, [(2, .int r6.1), (0, .ref (ja_P i c)), (1, .ref (ja_L κ))], [.ref (ja_P i c)])) rfl ?_
          obtain ⟨r7, e7, hE⟩ := Option.bind_eq_some_iff.mp hE
          refine xe_cv pg_50 46 pg_46 [] [] (none) rfl rfl rfl rfl ⟨Nat.le_of_ble_eq_true rfl, Nat.le_of_ble_eq_true rfl, Nat.le_of_ble_eq_true rfl⟩ ⟨rfl, rfl⟩ (kk2 (k_P hi hc) (by decide)) (c_tearDown _ (i := i) (c := c) hi hc e7) ?_
          refine xe_sn pg_50 1 (fr' := (82, [(2, .int r6.1), (0, .ref (ja_P i c)), (1, .ref (ja_L κ))], [.int 1])) rfl ?_
          cases hE
          exact xe_end pg_50 rfl
        · rw [if_neg h7] at hE
          refine xe_c1t pg_50 81 rfl rfl h7 ?_
          refine xe_sn pg_50 1 (fr' := (82, [(2, .int r6.1), (0, .ref (ja_P i c)), (1, .ref (ja_L κ))], [.int 1])) rfl ?_
          cases hE
          exact xe_end pg_50 rfl
    · rw [if_neg h2] at hE
      refine xe_c2t pg_50 83 rfl rfl h2 ?_
      refine xe_sn pg_50 1 (fr' := (84, [(0, .ref (ja_P i c)), (1, .ref (ja_L κ))], [.ref (ja_L κ)])) rfl ?_
      refine ye_gi pg_50 (S.2.1 κ 14) rfl rfl rfl (kk1 (k_L hκ)) ((show ly _ 1 κ 14 from l_L hκ (by decide) (by decide)).rd _) ?_
      refine xe_sn pg_50 1 (fr' := (88, [(0, .ref (ja_P i c)), (1, .ref (ja_L κ))], [.ref (ja_P i c), .int (S.2.1 κ 14)])) rfl ?_
      refine ye_gi pg_50 (S.1 182 (4 * i + c)) rfl rfl rfl (kk1 (k_P hi hc)) ((show lx _ 4 182 _ from lx_ix (4 * i + c) (l_P hi hc (by decide) (by decide)) (by omega)).rd _) ?_
      by_cases h8 : (S.2.1 κ 14) = (S.1 182 (4 * i + c))
      · rw [if_pos h8] at hE
        refine xe_c2f pg_50 127 rfl rfl (fun z => z h8) ?_
        refine xe_sn pg_50 1 (fr' := (95, [(0, .ref (ja_P i c)), (1, .ref (ja_L κ))], [.ref (ja_P i c)])) rfl ?_
        refine xe_gr pg_50 (ja_K i c) rfl rfl rfl (kk1 (k_P hi hc)) (r_P0 hi hc _) ?_
        refine xe_sn pg_50 3 (fr' := (101, [(0, .ref (ja_P i c)), (1, .ref (ja_L κ))], [.ref (ja_P i c), .ref (ja_L κ), .int 1, .ref (ja_K i c)])) rfl ?_
        refine xe_gr pg_50 (ja_K i c) rfl rfl rfl (kk1 (k_P hi hc)) (r_P0 hi hc _) ?_
        refine xe_sn pg_50 1 (fr' := (105, [(0, .ref (ja_P i c)), (1, .ref (ja_L κ))], [.int 1, .ref (ja_K i c), .ref (ja_L κ), .int 1, .ref (ja_K i c)])) rfl ?_
        refine ye_il pg_50 1 (S.1 184 (16 * i + 4 * c + 1)) rfl (k_K hi hc) ⟨by decide, by decide⟩ rfl ((lx_ix (16 * i + 4 * c + 1) (l_K hi hc (k := 1) (by decide)) (by omega)).rd _) ?_
        obtain ⟨r8, e8, hE⟩ := Option.bind_eq_some_iff.mp hE
        have e8q := Option.some.inj e8
        refine xe_cv pg_50 12 pg_12 [.int (S.1 184 (16 * i + 4 * c + 1))] [.int 1, .ref (ja_K i c)] (some (.int (ks (S.1 184 (16 * i + 4 * c + 1)) 14))) rfl rfl rfl rfl ⟨Nat.le_of_ble_eq_true rfl, Nat.le_of_ble_eq_true rfl, Nat.le_of_ble_eq_true rfl⟩ ⟨rfl, rfl⟩ (kk2 (k_L hκ) (by decide)) (e8q ▸ c_wrap _ (κ := κ) (key := (S.1 184 (16 * i + 4 * c + 1))) hκ) ?_
        refine ye_is pg_50 1 rfl (k_K hi hc) ⟨by decide, by decide⟩ rfl (lx_ix (16 * i + 4 * c + 1) (l_K hi hc (k := 1) (by decide)) (by omega)) ?_
        refine xe_sn pg_50 3 (fr' := (113, [(0, .ref (ja_P i c)), (1, .ref (ja_L κ))], [.ref (ja_P i c), .ref (ja_L κ), .ref (ja_P i c)])) rfl ?_
        refine ye_gi pg_50 (r8.1 181 (4 * i + c)) rfl rfl rfl (kk1 (k_P hi hc)) ((show lx _ 3 181 _ from lx_ix (4 * i + c) (l_P hi hc (by decide) (by decide)) (by omega)).rd _) ?_
        refine xe_sn pg_50 1 (fr' := (117, [(0, .ref (ja_P i c)), (1, .ref (ja_L κ))], [.ref (ja_L κ), .int (r8.1 181 (4 * i + c)), .ref (ja_L κ), .ref (ja_P i c)])) rfl ?_
        refine ye_gi pg_50 (r8.2.1 κ 18) rfl rfl rfl (kk1 (k_L hκ)) ((show ly _ 5 κ 18 from l_L hκ (by decide) (by decide)).rd _) ?_
        refine xe_sn pg_50 2 (fr' := (122, [(0, .ref (ja_P i c)), (1, .ref (ja_L κ))], [.int ((r8.2.1 κ 18) + 1), .int (r8.1 181 (4 * i + c)), .ref (ja_L κ), .ref (ja_P i c)])) rfl ?_
        obtain ⟨r9, e9, hE⟩ := Option.bind_eq_some_iff.mp hE
        refine xe_cv pg_50 53 pg_53 [.ref (ja_L κ), .int (r8.1 181 (4 * i + c)), .int ((r8.2.1 κ 18) + 1)] [] (none) rfl rfl rfl rfl ⟨Nat.le_of_ble_eq_true rfl, Nat.le_of_ble_eq_true rfl, Nat.le_of_ble_eq_true rfl⟩ ⟨rfl, rfl⟩ (kk2 (k_P hi hc) (by decide)) (c_relayOn _ (i := i) (c := c) (κ := κ) (to := (r8.1 181 (4 * i + c))) (di := ((r8.2.1 κ 18) + 1)) hi hc hκ e9) ?_
        refine xe_sn pg_50 1 (fr' := (126, [(0, .ref (ja_P i c)), (1, .ref (ja_L κ))], [.int 1])) rfl ?_
        cases hE
        exact xe_end pg_50 rfl
      · rw [if_neg h8] at hE
        refine xe_c2t pg_50 127 rfl rfl h8 ?_
        refine xe_sn pg_50 1 (fr' := (128, [(0, .ref (ja_P i c)), (1, .ref (ja_L κ))], [.int 0])) rfl ?_
        cases hE
        exact xe_end pg_50 rfl
theorem b_ptakesRelay {S : xSt} {i : Nat} {c : Nat} {κ : Nat} {r : Int32 × xSt} (hE : (f_ptakesRelay S i c κ) = some r) : r.1 = 0 ∨ r.1 = 1 := by
  unfold f_ptakesRelay at hE
  by_cases h1 : (S.1 180 (4 * i + c)) = 0
  · rw [if_pos h1] at hE
    cases hE
    exact Or.inl rfl
  · rw [if_neg h1] at hE
    by_cases h2 : (S.2.1 κ 14) = (S.1 181 (4 * i + c))
    · rw [if_pos h2] at hE
      obtain ⟨r1, e1, hE⟩ := Option.bind_eq_some_iff.mp hE
      by_cases h3 : (r1.2.1 κ 18) = 0
      · rw [if_pos h3] at hE
        obtain ⟨r2, e2, hE⟩ := Option.bind_eq_some_iff.mp hE
        by_cases h4 : r2.1 = 0
        · rw [if_pos h4] at hE
          obtain ⟨r3, e3, hE⟩ := Option.bind_eq_some_iff.mp hE
          cases hE
          exact Or.inr rfl
        · rw [if_neg h4] at hE
          obtain ⟨r4, e4, hE⟩ := Option.bind_eq_some_iff.mp hE
          by_cases h6 : (if r4.1 = 0 then (0 : Int32) else 1) = 0
          · rw [if_pos h6] at hE
            obtain ⟨r5, e5, hE⟩ := Option.bind_eq_some_iff.mp hE
            cases hE
            exact Or.inr rfl
          · rw [if_neg h6] at hE
            cases hE
            exact Or.inr rfl
      · rw [if_neg h3] at hE
        obtain ⟨r6, e6, hE⟩ := Option.bind_eq_some_iff.mp hE
        by_cases h7 : r6.1 = 0
        · rw [if_pos h7] at hE
          obtain ⟨r7, e7, hE⟩ := Option.bind_eq_some_iff.mp hE
          cases hE
          exact Or.inr rfl
        · rw [if_neg h7] at hE
          cases hE
          exact Or.inr rfl
    · rw [if_neg h2] at hE
      by_cases h8 : (S.2.1 κ 14) = (S.1 182 (4 * i + c))
      · rw [if_pos h8] at hE
        obtain ⟨r8, e8, hE⟩ := Option.bind_eq_some_iff.mp hE
        obtain ⟨r9, e9, hE⟩ := Option.bind_eq_some_iff.mp hE
        cases hE
        exact Or.inr rfl
      · rw [if_neg h8] at hE
        cases hE
        exact Or.inl rfl

