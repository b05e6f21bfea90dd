def f_addsHop (S : xSt) (c : Nat) (y : Int32) (tg : Int32) : Option (Int32 × xSt) := (f_raise y (S.1 172 c)).bind fun r1 => if bnd ((S.1 171 c) - 1) 4 then ((f_raise (S.1 190 ((S.1 171 c) - 1).toNatClampNeg) (S.1 172 c)).bind fun r2 => (f_raise 17 (S.1 172 c)).bind fun r3 => (some (f_shared r1 r2 r3 y (S.1 171 c))).bind fun r4 => (some (f_tag r4)).bind fun r5 => if r5 = tg then (if bnd (S.1 168 c) 3 then ((some (f_fillKeysC S c (S.1 168 c).toNatClampNeg r4)).bind fun r6 => if bnd (r6.1 168 c) 3 then ((some (f_becomeReady (sx (sx r6 169 (3 * c + (r6.1 168 c).toNatClampNeg) (r6.1 171 c)) 168 c ((r6.1 168 c) + 1)) c)).bind fun r7 => some (1, r7)) else none) else none) else (some (0, S))) else none
set_option maxRecDepth 100000 in
theorem c_addsHop (d : Nat) {w : xWd} {S : xSt} {μ : Nat → Nat → Int32} {ρ : Nat → Nat → Int64} {c : Nat} {y : Int32} {tg : Int32} (hc : c < 4) {r : Int32 × xSt} (hE : (f_addsHop S c y tg) = some r) : xc (d + 2) 35 [.ref (ja_C c), .int y, .int tg] (hz w S μ ρ) (.inl (some (.int r.1)), hz w r.2 μ ρ) := by
  unfold f_addsHop at hE
  refine xe_sn pg_35 2 (fr' := (2, [(0, .ref (ja_C c)), (1, .int y), (2, .int tg)], [.ref (ja_C c), .int y])) rfl ?_
  refine ye_gi pg_35 (S.1 172 c) rfl rfl rfl (kk1 (k_C hc)) ((l_C8 hc).rd _) ?_
  obtain ⟨r1, e1, hE⟩ := Option.bind_eq_some_iff.mp hE
  refine xe_callq pg_35 0 [.int y, .int (S.1 172 c)] (.inl (some (.int r1))) (8, [(0, .ref (ja_C c)), (1, .int y), (2, .int tg)], [.int r1]) rfl (fun _ => rfl) (c_raiseO _ (a := y) (e := (S.1 172 c))  e1) ?_
  refine xe_sn pg_35 2 (fr' := (10, [(3, .int r1), (0, .ref (ja_C c)), (1, .int y), (2, .int tg)], [.ref (ja_C c)])) rfl ?_
  refine xe_gr pg_35 47 rfl rfl rfl (kk1 (k_C hc)) (r_C11 hc _) ?_
  refine xe_sn pg_35 1 (fr' := (14, [(3, .int r1), (0, .ref (ja_C c)), (1, .int y), (2, .int tg)], [.ref (ja_C c), .ref 47])) rfl ?_
  refine ye_gi pg_35 (S.1 171 c) rfl rfl rfl (kk1 (k_C hc)) ((l_C7 hc).rd _) ?_
  refine xe_sn pg_35 2 (fr' := (19, [(3, .int r1), (0, .ref (ja_C c)), (1, .int y), (2, .int tg)], [.int ((S.1 171 c) - 1), .ref 47])) rfl ?_
  by_cases g1 : bnd ((S.1 171 c) - 1) 4
  case neg => rw [if_neg g1] at hE; cases hE
  rw [if_pos g1] at hE
  refine xe_al pg_35 ((S.1 171 c) - 1).toNatClampNeg (ja_R ((S.1 171 c) - 1).toNatClampNeg) rfl k_Rs ⟨by decide, by decide⟩ g1 rfl (r_Rs (bnd_lt g1) _) ?_
  refine ye_gi pg_35 (S.1 190 ((S.1 171 c) - 1).toNatClampNeg) rfl rfl rfl (kk1 (k_R (bnd_lt g1))) ((l_R1 (bnd_lt g1)).rd _) ?_
  refine xe_sn pg_35 1 (fr' := (24, [(3, .int r1), (0, .ref (ja_C c)), (1, .int y), (2, .int tg)], [.ref (ja_C c), .int (S.1 190 ((S.1 171 c) - 1).toNatClampNeg)])) rfl ?_
  refine ye_gi pg_35 (S.1 172 c) rfl rfl rfl (kk1 (k_C hc)) ((l_C8 hc).rd _) ?_
  obtain ⟨r2, e2, hE⟩ := Option.bind_eq_some_iff.mp hE
  refine xe_callq pg_35 0 [.int (S.1 190 ((S.1 171 c) - 1).toNatClampNeg), .int (S.1 172 c)] (.inl (some (.int r2))) (30, [(3, .int r1), (0, .ref (ja_C c)), (1, .int y), (2, .int tg)], [.int r2]) rfl (fun _ => rfl) (c_raiseO _ (a := (S.1 190 ((S.1 171 c) - 1).toNatClampNeg)) (e := (S.1 172 c))  e2) ?_
  refine xe_sn pg_35 5 (fr' := (38, [(4, .int r2), (3, .int r1), (0, .ref (ja_C c)), (1, .int y), (2, .int tg)], [.ref (ja_C c), .int 17, .int r2, .int r1])) rfl ?_
  refine ye_gi pg_35 (S.1 172 c) rfl rfl rfl (kk1 (k_C hc)) ((l_C8 hc).rd _) ?_
  obtain ⟨r3, e3, hE⟩ := Option.bind_eq_some_iff.mp hE
  refine xe_callq pg_35 0 [.int 17, .int (S.1 172 c)] (.inl (some (.int r3))) (44, [(4, .int r2), (3, .int r1), (0, .ref (ja_C c)), (1, .int y), (2, .int tg)], [.int r3, .int r2, .int r1]) rfl (fun _ => rfl) (c_raiseO _ (a := 17) (e := (S.1 172 c))  e3) ?_
  refine xe_sn pg_35 2 (fr' := (46, [(4, .int r2), (3, .int r1), (0, .ref (ja_C c)), (1, .int y), (2, .int tg)], [.ref (ja_C c), .int y, .int r3, .int r2, .int r1])) rfl ?_
  refine ye_gi pg_35 (S.1 171 c) rfl rfl rfl (kk1 (k_C hc)) ((l_C7 hc).rd _) ?_
  obtain ⟨r4, e4, hE⟩ := Option.bind_eq_some_iff.mp hE
  refine xe_callq pg_35 2 [.int r1, .int r2, .int r3, .int y, .int (S.1 171 c)] (.inl (some (.int r4))) (52, [(4, .int r2), (3, .int r1), (0, .ref (ja_C c)), (1, .int y), (2, .int tg)], [.int r4]) rfl (fun _ => rfl) (c_shared _ (s := r1) (t := r2) (u := r3) (y := y) (n := (S.1 171 c))  (Option.some.inj e4)) ?_
  refine xe_sn pg_35 2 (fr' := (56, [(5, .int r4), (4, .int r2), (3, .int r1), (0, .ref (ja_C c)), (1, .int y), (2, .int tg)], [.int r4])) rfl ?_
  obtain ⟨r5, e5, hE⟩ := Option.bind_eq_some_iff.mp hE
  refine xe_callq pg_35 3 [.int r4] (.inl (some (.int r5))) (59, [(5, .int r4), (4, .int r2), (3, .int r1), (0, .ref (ja_C c)), (1, .int y), (2, .int tg)], [.int r5]) rfl (fun _ => rfl) (c_tag _ (x := r4)  (Option.some.inj e5)) ?_
  refine xe_sn pg_35 1 (fr' := (60, [(5, .int r4), (4, .int r2), (3, .int r1), (0, .ref (ja_C c)), (1, .int y), (2, .int tg)], [.int tg, .int r5])) rfl ?_
  by_cases h2 : r5 = tg
  · rw [if_pos h2] at hE
    refine xe_c2t pg_35 65 rfl rfl h2 ?_
    refine xe_sn pg_35 1 (fr' := (66, [(5, .int r4), (4, .int r2), (3, .int r1), (0, .ref (ja_C c)), (1, .int y), (2, .int tg)], [.ref (ja_C c)])) rfl ?_
    refine xe_gr pg_35 (ja_G c) rfl rfl rfl (kk1 (k_C hc)) (r_C1 hc _) ?_
    refine xe_sn pg_35 1 (fr' := (70, [(5, .int r4), (4, .int r2), (3, .int r1), (0, .ref (ja_C c)), (1, .int y), (2, .int tg)], [.ref (ja_C c), .ref (ja_G c)])) rfl ?_
    refine ye_gi pg_35 (S.1 168 c) rfl rfl rfl (kk1 (k_C hc)) ((l_C6 hc).rd _) ?_
    by_cases g3 : bnd (S.1 168 c) 3
    case neg => rw [if_neg g3] at hE; cases hE
    rw [if_pos g3] at hE
    refine xe_al pg_35 (S.1 168 c).toNatClampNeg (ja_J c (S.1 168 c).toNatClampNeg) rfl (k_G hc) ⟨by decide, by decide⟩ g3 rfl (r_G hc (bnd_lt g3) _) ?_
    refine xe_sn pg_35 1 (fr' := (76, [(5, .int r4), (4, .int r2), (3, .int r1), (0, .ref (ja_C c)), (1, .int y), (2, .int tg)], [.int r4, .ref (ja_J c (S.1 168 c).toNatClampNeg)])) rfl ?_
    obtain ⟨r6, e6, hE⟩ := Option.bind_eq_some_iff.mp hE
    refine xe_callq pg_35 4 [.ref (ja_J c (S.1 168 c).toNatClampNeg), .int r4] (.inl (none)) (79, [(5, .int r4), (4, .int r2), (3, .int r1), (0, .ref (ja_C c)), (1, .int y), (2, .int tg)], []) rfl (fun _ => rfl) (c_fillKeysC _ (c := c) (j := (S.1 168 c).toNatClampNeg) (h0 := r4) hc (bnd_lt g3) (Option.some.inj e6)) ?_
    refine xe_sn pg_35 1 (fr' := (80, [(5, .int r4), (4, .int r2), (3, .int r1), (0, .ref (ja_C c)), (1, .int y), (2, .int tg)], [.ref (ja_C c)])) rfl ?_
    refine xe_gr pg_35 (ja_H c) rfl rfl rfl (kk1 (k_C hc)) (r_C0 hc _) ?_
    refine xe_sn pg_35 1 (fr' := (84, [(5, .int r4), (4, .int r2), (3, .int r1), (0, .ref (ja_C c)), (1, .int y), (2, .int tg)], [.ref (ja_C c), .ref (ja_H c)])) rfl ?_
    refine ye_gi pg_35 (r6.1 168 c) rfl rfl rfl (kk1 (k_C hc)) ((l_C6 hc).rd _) ?_
    refine xe_sn pg_35 1 (fr' := (88, [(5, .int r4), (4, .int r2), (3, .int r1), (0, .ref (ja_C c)), (1, .int y), (2, .int tg)], [.ref (ja_C c), .int (r6.1 168 c), .ref (ja_H c)])) rfl ?_
    refine ye_gi pg_35 (r6.1 171 c) rfl rfl rfl (kk1 (k_C hc)) ((l_C7 hc).rd _) ?_
    by_cases g4 : bnd (r6.1 168 c) 3
    case neg => rw [if_neg g4] at hE; cases hE
    rw [if_pos g4] at hE
    refine ye_is pg_35 (r6.1 168 c).toNatClampNeg rfl (k_H hc) g4 rfl (l_H hc (k := (r6.1 168 c).toNatClampNeg) (bnd_lt g4)) ?_
    refine xe_sn pg_35 2 (fr' := (94, [(5, .int r4), (4, .int r2), (3, .int r1), (0, .ref (ja_C c)), (1, .int y), (2, .int tg)], [.ref (ja_C c), .ref (ja_C c)])) rfl ?_
    refine ye_gi pg_35 (r6.1 168 c) rfl rfl rfl (kk1 (k_C hc)) ((l_C6 hc).rd _) ?_
    refine xe_sn pg_35 2 (fr' := (99, [(5, .int r4), (4, .int r2), (3, .int r1), (0, .ref (ja_C c)), (1, .int y), (2, .int tg)], [.int ((r6.1 168 c) + 1), .ref (ja_C c)])) rfl ?_
    refine ye_px pg_35 rfl rfl ⟨rfl, rfl⟩ (Or.inl rfl) (kk1 (k_C hc)) (l_C6 hc) ?_
    refine xe_sn pg_35 1 (fr' := (103, [(5, .int r4), (4, .int r2), (3, .int r1), (0, .ref (ja_C c)), (1, .int y), (2, .int tg)], [.ref (ja_C c)])) rfl ?_
    obtain ⟨r7, e7, hE⟩ := Option.bind_eq_some_iff.mp hE
    refine xe_cv pg_35 36 pg_36 [] [] (none) rfl rfl rfl rfl ⟨Nat.le_of_ble_eq_true rfl, Nat.le_of_ble_eq_true rfl, Nat.le_of_ble_eq_true rfl⟩ ⟨rfl, rfl⟩ (kk2 (k_C hc) (by decide)) (c_becomeReady _ (c := c) hc (Option.some.inj e7)) ?_
    refine xe_sn pg_35 1 (fr' := (107, [(5, .int r4), (4, .int r2), (3, .int r1), (0, .ref (ja_C c)), (1, .int y), (2, .int tg)], [.int 1])) rfl ?_
    cases hE
    exact xe_end pg_35 rfl
  · rw [if_neg h2] at hE
    refine xe_c2f pg_35 65 rfl rfl h2 ?_
    refine xe_sn pg_35 1 (fr' := (64, [(5, .int r4), (4, .int r2), (3, .int r1), (0, .ref (ja_C c)), (1, .int y), (2, .int tg)], [.int 0])) rfl ?_
    cases hE
    exact xe_end pg_35 rfl
theorem b_addsHop {S : xSt} {c : Nat} {y : Int32} {tg : Int32} {r : Int32 × xSt} (hE : (f_addsHop S c y tg) = some r) : r.1 = 0 ∨ r.1 = 1 := by
  unfold f_addsHop at hE
  obtain ⟨r1, e1, hE⟩ := Option.bind_eq_some_iff.mp hE
  by_cases g1 : bnd ((S.1 171 c) - 1) 4
  · rw [if_pos g1] at hE
    obtain ⟨r2, e2, hE⟩ := Option.bind_eq_some_iff.mp hE
    obtain ⟨r3, e3, hE⟩ := Option.bind_eq_some_iff.mp hE
    obtain ⟨r4, e4, hE⟩ := Option.bind_eq_some_iff.mp hE
    obtain ⟨r5, e5, hE⟩ := Option.bind_eq_some_iff.mp hE
    by_cases h2 : r5 = tg
    · rw [if_pos h2] at hE
      by_cases g3 : bnd (S.1 168 c) 3
      · rw [if_pos g3] at hE
        obtain ⟨r6, e6, hE⟩ := Option.bind_eq_some_iff.mp hE
        by_cases g4 : bnd (r6.1 168 c) 3
        · rw [if_pos g4] at hE
          obtain ⟨r7, e7, hE⟩ := Option.bind_eq_some_iff.mp hE
          cases hE
          exact Or.inr rfl
        · rw [if_neg g4] at hE
          cases hE
      · rw [if_neg g3] at hE
        cases hE
    · rw [if_neg h2] at hE
      cases hE
      exact Or.inl rfl
  · rw [if_neg g1] at hE
    cases hE

def f_takesCreated (S : xSt) (c : Nat) (κ : Nat) : Option (Int32 × xSt) := if (S.1 168 c) ≤ 0 then ((some (f_pair S κ 0)).bind fun r1 => (some (f_pair S κ 2)).bind fun r2 => (f_addsHop S c r1 r2).bind fun r3 => if r3.1 = 0 then ((f_shut r3.2 c).bind fun r4 => some (1, r4)) else (some (1, r3.2))) else (some (0, S))
set_option maxRecDepth 100000 in
theorem c_takesCreated (d : Nat) {w : xWd} {S : xSt} {μ : Nat → Nat → Int32} {ρ : Nat → Nat → Int64} {c : Nat} {κ : Nat} (hc : c < 4) (hκ : κ < 22) {r : Int32 × xSt} (hE : (f_takesCreated S c κ) = some r) : xc (d + 4) 33 [.ref (ja_C c), .ref (ja_L κ)] (hz w S μ ρ) (.inl (some (.int r.1)), hz w r.2 μ ρ) := by
  unfold f_takesCreated at hE
  refine xe_sn pg_33 1 (fr' := (1, [(0, .ref (ja_C c)), (1, .ref (ja_L κ))], [.ref (ja_C c)])) rfl ?_
  refine ye_gi pg_33 (S.1 168 c) rfl rfl rfl (kk1 (k_C hc)) ((l_C6 hc).rd _) ?_
  by_cases h1 : (S.1 168 c) ≤ 0
  · rw [if_pos h1] at hE
    refine xe_c1t pg_33 9 rfl rfl h1 ?_
    refine xe_sn pg_33 3 (fr' := (12, [(0, .ref (ja_C c)), (1, .ref (ja_L κ))], [.int 0, .ref (ja_L κ), .ref (ja_C c)])) rfl ?_
    obtain ⟨r1, e1, hE⟩ := Option.bind_eq_some_iff.mp hE
    refine xe_cv pg_33 9 pg_9 [.int 0] [.ref (ja_C c)] (some (.int r1)) rfl rfl rfl rfl ⟨Nat.le_of_ble_eq_true rfl, Nat.le_of_ble_eq_true rfl, Nat.le_of_ble_eq_true rfl⟩ ⟨rfl, rfl⟩ (kk2 (k_L hκ) (by decide)) (c_pair _ (κ := κ) (k := 0) hκ (by omega) (Option.some.inj e1)) ?_
    refine xe_sn pg_33 2 (fr' := (17, [(0, .ref (ja_C c)), (1, .ref (ja_L κ))], [.int 2, .ref (ja_L κ), .int r1, .ref (ja_C c)])) rfl ?_
    obtain ⟨r2, e2, hE⟩ := Option.bind_eq_some_iff.mp hE
    refine xe_cv pg_33 9 pg_9 [.int 2] [.int r1, .ref (ja_C c)] (some (.int r2)) rfl rfl rfl rfl ⟨Nat.le_of_ble_eq_true rfl, Nat.le_of_ble_eq_true rfl, Nat.le_of_ble_eq_true rfl⟩ ⟨rfl, rfl⟩ (kk2 (k_L hκ) (by decide)) (c_pair _ (κ := κ) (k := 2) hκ (by omega) (Option.some.inj e2)) ?_
    obtain ⟨r3, e3, hE⟩ := Option.bind_eq_some_iff.mp hE
    refine xe_cv pg_33 35 pg_35 [.int r1, .int r2] [] (some (.int r3.1)) rfl rfl rfl rfl ⟨Nat.le_of_ble_eq_true rfl, Nat.le_of_ble_eq_true rfl, Nat.le_of_ble_eq_true rfl⟩ ⟨rfl, rfl⟩ (kk2 (k_C hc) (by decide)) (c_addsHop _ (c := c) (y := r1) (tg := r2) hc e3) ?_
    by_cases h2 : r3.1 = 0
    · rw [if_pos h2] at hE
      refine xe_c1f pg_33 30 rfl rfl (fun z => z h2) ?_
      refine xe_sn pg_33 1 (fr' := (27, [(0, .ref (ja_C c)), (1, .ref (ja_L κ))], [.ref (ja_C c)])) rfl ?_
      obtain ⟨r4, e4, hE⟩ := Option.bind_eq_some_iff.mp hE
      refine xe_cv pg_33 29 pg_29 [] [] (none) rfl rfl rfl rfl ⟨Nat.le_of_ble_eq_true rfl, Nat.le_of_ble_eq_true rfl, Nat.le_of_ble_eq_true rfl⟩ ⟨rfl, rfl⟩ (kk2 (k_C hc) (by decide)) (c_shut _ (c := c) hc e4) ?_
      refine xe_sn pg_33 1 (fr' := (31, [(0, .ref (ja_C c)), (1, .ref (ja_L κ))], [.int 1])) rfl ?_
      cases hE
      exact xe_end pg_33 rfl
    · rw [if_neg h2] at hE
      refine xe_c1t pg_33 30 rfl rfl h2 ?_
      refine xe_sn pg_33 1 (fr' := (31, [(0, .ref (ja_C c)), (1, .ref (ja_L κ))], [.int 1])) rfl ?_
      cases hE
      exact xe_end pg_33 rfl
  · rw [if_neg h1] at hE
    refine xe_c1f pg_33 9 rfl rfl h1 ?_
    refine xe_sn pg_33 1 (fr' := (8, [(0, .ref (ja_C c)), (1, .ref (ja_L κ))], [.int 0])) rfl ?_
    cases hE
    exact xe_end pg_33 rfl
theorem b_takesCreated {S : xSt} {c : Nat} {κ : Nat} {r : Int32 × xSt} (hE : (f_takesCreated S c κ) = some r) : r.1 = 0 ∨ r.1 = 1 := by
  unfold f_takesCreated at hE
  by_cases h1 : (S.1 168 c) ≤ 0
  · rw [if_pos h1] at hE
    obtain ⟨r1, e1, hE⟩ := Option.bind_eq_some_iff.mp hE
    obtain ⟨r2, e2, hE⟩ := Option.bind_eq_some_iff.mp hE
    obtain ⟨r3, e3, hE⟩ := Option.bind_eq_some_iff.mp hE
    by_cases h2 : r3.1 = 0
    · rw [if_pos h2] at hE
      obtain ⟨r4, e4, hE⟩ := Option.bind_eq_some_iff.mp hE
      cases hE
      exact Or.inr rfl
    · rw [if_neg h2] at hE
      cases hE
      exact Or.inr rfl
  · rw [if_neg h1] at hE
    cases hE
    exact Or.inl rfl

def f_isKnown (S : xSt) (c : Nat) (κ : Nat) : Option (Int32 × xSt) := (some (f_hasHop S c (S.2.1 κ 18))).bind fun r1 => if r1 = 0 then (some (0, S)) else (if (S.2.1 κ 18) < 0 then (if bnd (S.2.1 κ 18) 3 then ((some (f_fed S κ (S.1 170 (12 * c + 4 * (S.2.1 κ 18).toNatClampNeg + 3)))).bind fun r2 => (some (f_isKnownBy S κ r2)).bind fun r3 => if r3 = 0 then (some (r3, S)) else (some (r3, (sx S 170 (12 * c + 4 * (S.2.1 κ 18).toNatClampNeg + 3) r2)))) else none) else ((some (w_wrap S κ (S.1 170 (12 * c + 1)))).bind fun r4 => if (S.2.1 κ 18) < 1 then (if bnd (S.2.1 κ 18) 3 then ((some (f_fed (sx r4 170 (12 * c + 1) (ks (S.1 170 (12 * c + 1)) 14)) κ ((sx r4 170 (12 * c + 1) (ks (S.1 170 (12 * c + 1)) 14)).1 170 (12 * c + 4 * (S.2.1 κ 18).toNatClampNeg + 3)))).bind fun r5 => (some (f_isKnownBy (sx r4 170 (12 * c + 1) (ks (S.1 170 (12 * c + 1)) 14)) κ r5)).bind fun r6 => if r6 = 0 then (some (r6, (sx r4 170 (12 * c + 1) (ks (S.1 170 (12 * c + 1)) 14)))) else (some (r6, (sx (sx r4 170 (12 * c + 1) (ks (S.1 170 (12 * c + 1)) 14)) 170 (12 * c + 4 * (S.2.1 κ 18).toNatClampNeg + 3) r5)))) else none) else ((some (w_wrap (sx r4 170 (12 * c + 1) (ks (S.1 170 (12 * c + 1)) 14)) κ ((sx r4 170 (12 * c + 1) (ks (S.1 170 (12 * c + 1)) 14)).1 170 (12 * c + 5)))).bind fun r7 => if (S.2.1 κ 18) < 2 then (if bnd (S.2.1 κ 18) 3 then ((some (f_fed (sx r7 170 (12 * c + 5) (ks ((sx r4 170 (12 * c + 1) (ks (S.1 170 (12 * c + 1)) 14)).1 170 (12 * c + 5)) 14)) κ ((sx r7 170 (12 * c + 5) (ks ((sx r4 170 (12 * c + 1) (ks (S.1 170 (12 * c + 1)) 14)).1 170 (12 * c + 5)) 14)).1 170 (12 * c + 4 * (S.2.1 κ 18).toNatClampNeg + 3)))).bind fun r8 => (some (f_isKnownBy (sx r7 170 (12 * c + 5) (ks ((sx r4 170 (12 * c + 1) (ks (S.1 170 (12 * c + 1)) 14)).1 170 (12 * c + 5)) 14)) κ r8)).bind fun r9 => if r9 = 0 then (some (r9, (sx r7 170 (12 * c + 5) (ks ((sx r4 170 (12 * c + 1) (ks (S.1 170 (12 * c + 1)) 14)).1 170 (12 * c + 5)) 14)))) else (some (r9, (sx (sx r7 170 (12 * c + 5) (ks ((sx r4 170 (12 * c + 1) (ks (S.1 170 (12 * c + 1)) 14)).1 170 (12 * c + 5)) 14)) 170 (12 * c + 4 * (S.2.1 κ 18).toNatClampNeg + 3) r8)))) else none) else ((some (w_wrap (sx r7 170 (12 * c + 5) (ks ((sx r4 170 (12 * c + 1) (ks (S.1 170 (12 * c + 1)) 14)).1 170 (12 * c + 5)) 14)) κ ((sx r7 170 (12 * c + 5) (ks ((sx r4 170 (12 * c + 1) (ks (S.1 170 (12 * c + 1)) 14)).1 170 (12 * c + 5)) 14)).1 170 (12 * c + 9)))).bind fun r10 => if (S.2.1 κ 18) < 3 then (if bnd (S.2.1 κ 18) 3 then ((some (f_fed (sx r10 170 (12 * c + 9) (ks ((sx r7 170 (12 * c + 5) (ks ((sx r4 170 (12 * c + 1) (ks (S.1 170 (12 * c + 1)) 14)).1 170 (12 * c + 5)) 14)).1 170 (12 * c + 9)) 14)) κ ((sx r10 170 (12 * c + 9) (ks ((sx r7 170 (12 * c + 5) (ks ((sx r4 170 (12 * c + 1) (ks (S.1 170 (12 * c + 1)) 14)).1 170 (12 * c + 5)) 14)).1 170 (12 * c + 9)) 14)).1 170 (12 * c + 4 * (S.2.1 κ 18).toNatClampNeg + 3)))).bind fun r11 => (some (f_isKnownBy (sx r10 170 (12 * c + 9) (ks ((sx r7 170 (12 * c + 5) (ks ((sx r4 170 (12 * c + 1) (ks (S.1 170 (12 * c + 1)) 14)).1 170 (12 * c + 5)) 14)).1 170 (12 * c + 9)) 14)) κ r11)).bind fun r12 => if r12 = 0 then (some (r12, (sx r10 170 (12 * c + 9) (ks ((sx r7 170 (12 * c + 5) (ks ((sx r4 170 (12 * c + 1) (ks (S.1 170 (12 * c + 1)) 14)).1 170 (12 * c + 5)) 14)).1 170 (12 * c + 9)) 14)))) else (some (r12, (sx (sx r10 170 (12 * c + 9) (ks ((sx r7 170 (12 * c + 5) (ks ((sx r4 170 (12 * c + 1) (ks (S.1 170 (12 * c + 1)) 14)).1 170 (12 * c + 5)) 14)).1 170 (12 * c + 9)) 14)) 170 (12 * c + 4 * (S.2.1 κ 18).toNatClampNeg + 3) r11)))) else none) else none))))
set_option maxRecDepth 100000 in
theorem c_isKnown (d : Nat) {w : xWd} {S : xSt} {μ : Nat → Nat → Int32} {ρ : Nat → Nat → Int64} {c : Nat} {κ : Nat} (hc : c < 4) (hκ : κ < 22) {r : Int32 × xSt} (hE : (f_isKnown S c κ) = some r) : xc (d + 2) 37 [.ref (ja_C c), .ref (ja_L κ)] (hz w S μ ρ) (.inl (some (.int r.1)), hz w r.2 μ ρ) := by
  unfold f_isKnown at hE
  refine xe_sn pg_37 1 (fr' := (1, [(0, .ref (ja_C c)), (1, .ref (ja_L κ))], [.ref (ja_L κ)])) rfl ?_
  refine ye_gi pg_37 (S.2.1 κ 18) rfl rfl rfl (kk1 (k_L hκ)) ((show ly _ 5 κ 18 from l_L hκ (by decide) (by decide)).rd _) ?_
  refine xe_sn pg_37 3 (fr' := (7, [(2, .int (S.2.1 κ 18)), (0, .ref (ja_C c)), (1, .ref (ja_L κ))], [.int (S.2.1 κ 18), .ref (ja_C c)])) rfl ?_
  obtain ⟨r1, e1, hE⟩ := Option.bind_eq_some_iff.mp hE
  refine xe_cv pg_37 17 pg_17 [.int (S.2.1 κ 18)] [] (some (.int r1)) rfl rfl rfl rfl ⟨Nat.le_of_ble_eq_true rfl, Nat.le_of_ble_eq_true rfl, Nat.le_of_ble_eq_true rfl⟩ ⟨rfl, rfl⟩ (kk2 (k_C hc) (by decide)) (c_hasHop _ (c := c) (k := (S.2.1 κ 18)) hc (Option.some.inj e1)) ?_
  by_cases h1 : r1 = 0
  · rw [if_pos h1] at hE
    refine xe_c1f pg_37 15 rfl rfl (fun z => z h1) ?_
    refine xe_sn pg_37 1 (fr' := (14, [(2, .int (S.2.1 κ 18)), (0, .ref (ja_C c)), (1, .ref (ja_L κ))], [.int 0])) rfl ?_
    cases hE
    exact xe_end pg_37 rfl
  · rw [if_neg h1] at hE
    refine xe_c1t pg_37 15 rfl rfl h1 ?_
    refine xe_sn pg_37 4 (fr' := (19, [(3, .int 0), (2, .int (S.2.1 κ 18)), (0, .ref (ja_C c)), (1, .ref (ja_L κ))], [.int (S.2.1 κ 18), .int 0])) rfl ?_
    by_cases h2 : (S.2.1 κ 18) < 0
    · rw [if_pos h2] at hE
      refine xe_c2t pg_37 48 rfl rfl h2 ?_
      refine xe_sn pg_37 2 (fr' := (50, [(3, .int 0), (2, .int (S.2.1 κ 18)), (0, .ref (ja_C c)), (1, .ref (ja_L κ))], [.ref (ja_C c), .ref (ja_L κ)])) rfl ?_
      refine xe_gr pg_37 (ja_G c) rfl rfl rfl (kk1 (k_C hc)) (r_C1 hc _) ?_
      refine xe_sn pg_37 1 (fr' := (54, [(3, .int 0), (2, .int (S.2.1 κ 18)), (0, .ref (ja_C c)), (1, .ref (ja_L κ))], [.int (S.2.1 κ 18), .ref (ja_G c), .ref (ja_L κ)])) rfl ?_
      by_cases g3 : bnd (S.2.1 κ 18) 3
      case neg => rw [if_neg g3] at hE; cases hE
      rw [if_pos g3] at hE
      refine xe_al pg_37 (S.2.1 κ 18).toNatClampNeg (ja_J c (S.2.1 κ 18).toNatClampNeg) rfl (k_G hc) ⟨by decide, by decide⟩ g3 rfl (r_G hc (bnd_lt g3) _) ?_
      refine xe_sn pg_37 1 (fr' := (56, [(3, .int 0), (2, .int (S.2.1 κ 18)), (0, .ref (ja_C c)), (1, .ref (ja_L κ))], [.int 3, .ref (ja_J c (S.2.1 κ 18).toNatClampNeg), .ref (ja_L κ)])) rfl ?_
      refine ye_il pg_37 3 (S.1 170 (12 * c + 4 * (S.2.1 κ 18).toNatClampNeg + 3)) rfl (k_J hc (bnd_lt g3)) ⟨by decide, by decide⟩ rfl ((l_J hc (bnd_lt g3) (k := 3) (by decide)).rd _) ?_
      obtain ⟨r2, e2, hE⟩ := Option.bind_eq_some_iff.mp hE
      refine xe_cv pg_37 13 pg_13 [.int (S.1 170 (12 * c + 4 * (S.2.1 κ 18).toNatClampNeg + 3))] [] (some (.int r2)) rfl rfl rfl rfl ⟨Nat.le_of_ble_eq_true rfl, Nat.le_of_ble_eq_true rfl, Nat.le_of_ble_eq_true rfl⟩ ⟨rfl, rfl⟩ (kk2 (k_L hκ) (by decide)) (c_fed _ (κ := κ) (key := (S.1 170 (12 * c + 4 * (S.2.1 κ 18).toNatClampNeg + 3))) hκ (Option.some.inj e2)) ?_
      refine xe_sn pg_37 3 (fr' := (63, [(3, .int r2), (2, .int (S.2.1 κ 18)), (0, .ref (ja_C c)), (1, .ref (ja_L κ))], [.int r2, .ref (ja_L κ)])) rfl ?_
      obtain ⟨r3, e3, hE⟩ := Option.bind_eq_some_iff.mp hE
      refine xe_cv pg_37 14 pg_14 [.int r2] [] (some (.int r3)) rfl rfl rfl rfl ⟨Nat.le_of_ble_eq_true rfl, Nat.le_of_ble_eq_true rfl, Nat.le_of_ble_eq_true rfl⟩ ⟨rfl, rfl⟩ (kk2 (k_L hκ) (by decide)) (c_isKnownBy _ (κ := κ) (k := r2) hκ (Option.some.inj e3)) ?_
      refine xe_sn pg_37 2 (fr' := (70, [(4, .int r3), (3, .int r2), (2, .int (S.2.1 κ 18)), (0, .ref (ja_C c)), (1, .ref (ja_L κ))], [.int r3])) rfl ?_
      by_cases h4 : r3 = 0
      · rw [if_pos h4] at hE
        refine xe_c1t pg_37 82 rfl rfl h4 ?_
        refine xe_sn pg_37 1 (fr' := (84, [(4, .int r3), (3, .int r2), (2, .int (S.2.1 κ 18)), (0, .ref (ja_C c)), (1, .ref (ja_L κ))], [.int r3])) rfl ?_
        cases hE
        exact xe_rb pg_37 rfl rfl (b_isKnownBy (Option.some.inj e3))
      · rw [if_neg h4] at hE
        refine xe_c1f pg_37 82 rfl rfl h4 ?_
        refine xe_sn pg_37 1 (fr' := (74, [(4, .int r3), (3, .int r2), (2, .int (S.2.1 κ 18)), (0, .ref (ja_C c)), (1, .ref (ja_L κ))], [.ref (ja_C c)])) rfl ?_
        refine xe_gr pg_37 (ja_G c) rfl rfl rfl (kk1 (k_C hc)) (r_C1 hc _) ?_
        refine xe_sn pg_37 1 (fr' := (78, [(4, .int r3), (3, .int r2), (2, .int (S.2.1 κ 18)), (0, .ref (ja_C c)), (1, .ref (ja_L κ))], [.int (S.2.1 κ 18), .ref (ja_G c)])) rfl ?_
        refine xe_al pg_37 (S.2.1 κ 18).toNatClampNeg (ja_J c (S.2.1 κ 18).toNatClampNeg) rfl (k_G hc) ⟨by decide, by decide⟩ g3 rfl (r_G hc (bnd_lt g3) _) ?_
        refine xe_sn pg_37 2 (fr' := (81, [(4, .int r3), (3, .int r2), (2, .int (S.2.1 κ 18)), (0, .ref (ja_C c)), (1, .ref (ja_L κ))], [.int r2, .int 3, .ref (ja_J c (S.2.1 κ 18).toNatClampNeg)])) rfl ?_
        refine ye_is pg_37 3 rfl (k_J hc (bnd_lt g3)) ⟨by decide, by decide⟩ rfl (l_J hc (bnd_lt g3) (k := 3) (by decide)) ?_
        refine xe_sn pg_37 1 (fr' := (84, [(4, .int r3), (3, .int r2), (2, .int (S.2.1 κ 18)), (0, .ref (ja_C c)), (1, .ref (ja_L κ))], [.int r3])) rfl ?_
        cases hE
        exact xe_rb pg_37 rfl rfl (b_isKnownBy (Option.some.inj e3))
    · rw [if_neg h2] at hE
      refine xe_c2f pg_37 48 rfl rfl h2 ?_
      refine xe_sn pg_37 1 (fr' := (23, [(3, .int 0), (2, .int (S.2.1 κ 18)), (0, .ref (ja_C c)), (1, .ref (ja_L κ))], [.ref (ja_C c)])) rfl ?_
      refine xe_gr pg_37 (ja_G c) rfl rfl rfl (kk1 (k_C hc)) (r_C1 hc _) ?_
      refine xe_sn pg_37 1 (fr' := (27, [(3, .int 0), (2, .int (S.2.1 κ 18)), (0, .ref (ja_C c)), (1, .ref (ja_L κ))], [.int 0, .ref (ja_G c)])) rfl ?_
      refine xe_al pg_37 0 (ja_J c 0) rfl (k_G hc) ⟨by decide, by decide⟩ ⟨by decide, by decide⟩ rfl (r_G hc (by decide) _) ?_
      refine xe_sn pg_37 3 (fr' := (31, [(3, .int 0), (2, .int (S.2.1 κ 18)), (0, .ref (ja_C c)), (1, .ref (ja_L κ))], [.ref (ja_C c), .ref (ja_L κ), .int 1, .ref (ja_J c 0)])) rfl ?_
      refine xe_gr pg_37 (ja_G c) rfl rfl rfl (kk1 (k_C hc)) (r_C1 hc _) ?_
      refine xe_sn pg_37 1 (fr' := (35, [(3, .int 0), (2, .int (S.2.1 κ 18)), (0, .ref (ja_C c)), (1, .ref (ja_L κ))], [.int 0, .ref (ja_G c), .ref (ja_L κ), .int 1, .ref (ja_J c 0)])) rfl ?_
      refine xe_al pg_37 0 (ja_J c 0) rfl (k_G hc) ⟨by decide, by decide⟩ ⟨by decide, by decide⟩ rfl (r_G hc (by decide) _) ?_
      refine xe_sn pg_37 1 (fr' := (37, [(3, .int 0), (2, .int (S.2.1 κ 18)), (0, .ref (ja_C c)), (1, .ref (ja_L κ))], [.int 1, .ref (ja_J c 0), .ref (ja_L κ), .int 1, .ref (ja_J c 0)])) rfl ?_
      refine ye_il pg_37 1 (S.1 170 (12 * c + 1)) rfl (k_J hc (by decide)) ⟨by decide, by decide⟩ rfl ((lx_ix (12 * c + 1) (l_J hc (by decide) (k := 1) (by decide)) (by omega)).rd _) ?_
      obtain ⟨r4, e4, hE⟩ := Option.bind_eq_some_iff.mp hE
      have e4q := Option.some.inj e4
      refine xe_cv pg_37 12 pg_12 [.int (S.1 170 (12 * c + 1))] [.int 1, .ref (ja_J c 0)] (some (.int (ks (S.1 170 (12 * c + 1)) 14))) rfl rfl rfl rfl ⟨Nat.le_of_ble_eq_true rfl, Nat.le_of_ble_eq_true rfl, Nat.le_of_ble_eq_true rfl⟩ ⟨rfl, rfl⟩ (kk2 (k_L hκ) (by decide)) (e4q ▸ c_wrap _ (κ := κ) (key := (S.1 170 (12 * c + 1))) hκ) ?_
      refine ye_is pg_37 1 rfl (k_J hc (by decide)) ⟨by decide, by decide⟩ rfl (lx_ix (12 * c + 1) (l_J hc (by decide) (k := 1) (by decide)) (by omega)) ?_
      refine xe_sn pg_37 2 (fr' := (17, [(3, .int 1), (2, .int (S.2.1 κ 18)), (0, .ref (ja_C c)), (1, .ref (ja_L κ))], [])) rfl ?_
      refine xe_sn pg_37 2 (fr' := (19, [(3, .int 1), (2, .int (S.2.1 κ 18)), (0, .ref (ja_C c)), (1, .ref (ja_L κ))], [.int (S.2.1 κ 18), .int 1])) rfl ?_
      by_cases h5 : (S.2.1 κ 18) < 1
      · rw [if_pos h5] at hE
        refine xe_c2t pg_37 48 rfl rfl h5 ?_
        refine xe_sn pg_37 2 (fr' := (50, [(3, .int 1), (2, .int (S.2.1 κ 18)), (0, .ref (ja_C c)), (1, .ref (ja_L κ))], [.ref (ja_C c), .ref (ja_L κ)])) rfl ?_
        refine xe_gr pg_37 (ja_G c) rfl rfl rfl (kk1 (k_C hc)) (r_C1 hc _) ?_
        refine xe_sn pg_37 1 (fr' := (54, [(3, .int 1), (2, .int (S.2.1 κ 18)), (0, .ref (ja_C c)), (1, .ref (ja_L κ))], [.int (S.2.1 κ 18), .ref (ja_G c), .ref (ja_L κ)])) rfl ?_
        by_cases g6 : bnd (S.2.1 κ 18) 3
        case neg => rw [if_neg g6] at hE; cases hE
        rw [if_pos g6] at hE
        refine xe_al pg_37 (S.2.1 κ 18).toNatClampNeg (ja_J c (S.2.1 κ 18).toNatClampNeg) rfl (k_G hc) ⟨by decide, by decide⟩ g6 rfl (r_G hc (bnd_lt g6) _) ?_
        refine xe_sn pg_37 1 (fr' := (56, [(3, .int 1), (2, .int (S.2.1 κ 18)), (0, .ref (ja_C c)), (1, .ref (ja_L κ))], [.int 3, .ref (ja_J c (S.2.1 κ 18).toNatClampNeg), .ref (ja_L κ)])) rfl ?_
        refine ye_il pg_37 3 ((sx r4 170 (12 * c + 1) (ks (S.1 170 (12 * c + 1)) 14)).1 170 (12 * c + 4 * (S.2.1 κ 18).toNatClampNeg + 3)) rfl (k_J hc (bnd_lt g6)) ⟨by decide, by decide⟩ rfl ((l_J hc (bnd_lt g6) (k := 3) (by decide)).rd _) ?_
        obtain ⟨r5, e5, hE⟩ := Option.bind_eq_some_iff.mp hE
        refine xe_cv pg_37 13 pg_13 [.int ((sx r4 170 (12 * c + 1) (ks (S.1 170 (12 * c + 1)) 14)).1 170 (12 * c + 4 * (S.2.1 κ 18).toNatClampNeg + 3))] [] (some (.int r5)) rfl rfl rfl rfl ⟨Nat.le_of_ble_eq_true rfl, Nat.le_of_ble_eq_true rfl, Nat.le_of_ble_eq_true rfl⟩ ⟨rfl, rfl⟩ (kk2 (k_L hκ) (by decide)) (c_fed _ (κ := κ) (key := ((sx r4 170 (12 * c + 1) (ks (S.1 170 (12 * c + 1)) 14)).1 170 (12 * c + 4 * (S.2.1 κ 18).toNatClampNeg + 3))) hκ (Option.some.inj e5)) ?_
        refine xe_sn pg_37 3 (fr' := (63, [(3, .int r5), (2, .int (S.2.1 κ 18)), (0, .ref (ja_C c)), (1, .ref (ja_L κ))], [.int r5, .ref (ja_L κ)])) rfl ?_
        obtain ⟨r6, e6, hE⟩ := Option.bind_eq_some_iff.mp hE
        refine xe_cv pg_37 14 pg_14 [.int r5] [] (some (.int r6)) rfl rfl rfl rfl ⟨Nat.le_of_ble_eq_true rfl, Nat.le_of_ble_eq_true rfl, Nat.le_of_ble_eq_true rfl⟩ ⟨rfl, rfl⟩ (kk2 (k_L hκ) (by decide)) (c_isKnownBy _ (κ := κ) (k := r5) hκ (Option.some.inj e6)) ?_
        refine xe_sn pg_37 2 (fr' := (70, [(4, .int r6), (3, .int r5), (2, .int (S.2.1 κ 18)), (0, .ref (ja_C c)), (1, .ref (ja_L κ))], [.int r6])) rfl ?_
        by_cases h7 : r6 = 0
        · rw [if_pos h7] at hE
          refine xe_c1t pg_37 82 rfl rfl h7 ?_
          refine xe_sn pg_37 1 (fr' := (84, [(4, .int r6), (3, .int r5), (2, .int (S.2.1 κ 18)), (0, .ref (ja_C c)), (1, .ref (ja_L κ))], [.int r6])) rfl ?_
          cases hE
          exact xe_rb pg_37 rfl rfl (b_isKnownBy (Option.some.inj e6))
        · rw [if_neg h7] at hE
          refine xe_c1f pg_37 82 rfl rfl h7 ?_
          refine xe_sn pg_37 1 (fr' := (74, [(4, .int r6), (3, .int r5), (2, .int (S.2.1 κ 18)), (0, .ref (ja_C c)), (1, .ref (ja_L κ))], [.ref (ja_C c)])) rfl ?_
          refine xe_gr pg_37 (ja_G c) rfl rfl rfl (kk1 (k_C hc)) (r_C1 hc _) ?_
          refine xe_sn pg_37 1 (fr' := (78, [(4, .int r6), (3, .int r5), (2, .int (S.2.1 κ 18)), (0, .ref (ja_C c)), (1, .ref (ja_L κ))], [.int (S.2.1 κ 18), .ref (ja_G c)])) rfl ?_
          refine xe_al pg_37 (S.2.1 κ 18).toNatClampNeg (ja_J c (S.2.1 κ 18).toNatClampNeg) rfl (k_G hc) ⟨by decide, by decide⟩ g6 rfl (r_G hc (bnd_lt g6) _) ?_
          refine xe_sn pg_37 2 (fr' := (81, [(4, .int r6), (3, .int r5), (2, .int (S.2.1 κ 18)), (0, .ref (ja_C c)), (1, .ref (ja_L κ))], [.int r5, .int 3, .ref (ja_J c (S.2.1 κ 18).toNatClampNeg)])) rfl ?_
          refine ye_is pg_37 3 rfl (k_J hc (bnd_lt g6)) ⟨by decide, by decide⟩ rfl (l_J hc (bnd_lt g6) (k := 3) (by decide)) ?_
          refine xe_sn pg_37 1 (fr' := (84, [(4, .int r6), (3, .int r5), (2, .int (S.2.1 κ 18)), (0, .ref (ja_C c)), (1, .ref (ja_L κ))], [.int r6])) rfl ?_
          cases hE
          exact xe_rb pg_37 rfl rfl (b_isKnownBy (Option.some.inj e6))
      · rw [if_neg h5] at hE
        refine xe_c2f pg_37 48 rfl rfl h5 ?_
        refine xe_sn pg_37 1 (fr' := (23, [(3, .int 1), (2, .int (S.2.1 κ 18)), (0, .ref (ja_C c)), (1, .ref (ja_L κ))], [.ref (ja_C c)])) rfl ?_
        refine xe_gr pg_37 (ja_G c) rfl rfl rfl (kk1 (k_C hc)) (r_C1 hc _) ?_
        refine xe_sn pg_37 1 (fr' := (27, [(3, .int 1), (2, .int (S.2.1 κ 18)), (0, .ref (ja_C c)), (1, .ref (ja_L κ))], [.int 1, .ref (ja_G c)])) rfl ?_
        refine xe_al pg_37 1 (ja_J c 1) rfl (k_G hc) ⟨by decide, by decide⟩ ⟨by decide, by decide⟩ rfl (r_G hc (by decide) _) ?_
        refine xe_sn pg_37 3 (fr' := (31, [(3, .int 1), (2, .int (S.2.1 κ 18)), (0, .ref (ja_C c)), (1, .ref (ja_L κ))], [.ref (ja_C c), .ref (ja_L κ), .int 1, .ref (ja_J c 1)])) rfl ?_
        refine xe_gr pg_37 (ja_G c) rfl rfl rfl (kk1 (k_C hc)) (r_C1 hc _) ?_
        refine xe_sn pg_37 1 (fr' := (35, [(3, .int 1), (2, .int (S.2.1 κ 18)), (0, .ref (ja_C c)), (1, .ref (ja_L κ))], [.int 1, .ref (ja_G c), .ref (ja_L κ), .int 1, .ref (ja_J c 1)])) rfl ?_
        refine xe_al pg_37 1 (ja_J c 1) rfl (k_G hc) ⟨by decide, by decide⟩ ⟨by decide, by decide⟩ rfl (r_G hc (by decide) _) ?_
        refine xe_sn pg_37 1 (fr' := (37, [(3, .int 1), (2, .int (S.2.1 κ 18)), (0, .ref (ja_C c)), (1, .ref (ja_L κ))], [.int 1, .ref (ja_J c 1), .ref (ja_L κ), .int 1, .ref (ja_J c 1)])) rfl ?_
        refine ye_il pg_37 1 ((sx r4 170 (12 * c + 1) (ks (S.1 170 (12 * c + 1)) 14)).1 170 (12 * c + 5)) rfl (k_J hc (by decide)) ⟨by decide, by decide⟩ rfl ((lx_ix (12 * c + 5) (l_J hc (by decide) (k := 1) (by decide)) (by omega)).rd _) ?_
        obtain ⟨r7, e7, hE⟩ := Option.bind_eq_some_iff.mp hE
        have e7q := Option.some.inj e7
        refine xe_cv pg_37 12 pg_12 [.int ((sx r4 170 (12 * c + 1) (ks (S.1 170 (12 * c + 1)) 14)).1 170 (12 * c + 5))] [.int 1, .ref (ja_J c 1)] (some (.int (ks ((sx r4 170 (12 * c + 1) (ks (S.1 170 (12 * c + 1)) 14)).1 170 (12 * c + 5)) 14))) rfl rfl rfl rfl ⟨Nat.le_of_ble_eq_true rfl, Nat.le_of_ble_eq_true rfl, Nat.le_of_ble_eq_true rfl⟩ ⟨rfl, rfl⟩ (kk2 (k_L hκ) (by decide)) (e7q ▸ c_wrap _ (κ := κ) (key := ((sx r4 170 (12 * c + 1) (ks (S.1 170 (12 * c + 1)) 14)).1 170 (12 * c + 5))) hκ) ?_
        refine ye_is pg_37 1 rfl (k_J hc (by decide)) ⟨by decide, by decide⟩ rfl (lx_ix (12 * c + 5) (l_J hc (by decide) (k := 1) (by decide)) (by omega)) ?_
        refine xe_sn pg_37 2 (fr' := (17, [(3, .int 2), (2, .int (S.2.1 κ 18)), (0, .ref (ja_C c)), (1, .ref (ja_L κ))], [])) rfl ?_
        refine xe_sn pg_37 2 (fr' := (19, [(3, .int 2), (2, .int (S.2.1 κ 18)), (0, .ref (ja_C c)), (1, .ref (ja_L κ))], [.int (S.2.1 κ 18), .int 2])) rfl ?_
        by_cases h8 : (S.2.1 κ 18) < 2
        · rw [if_pos h8] at hE
          refine xe_c2t pg_37 48 rfl rfl h8 ?_
          refine xe_sn pg_37 2 (fr' := (50, [(3, .int 2), (2, .int (S.2.1 κ 18)), (0, .ref (ja_C c)), (1, .ref (ja_L κ))], [.ref (ja_C c), .ref (ja_L κ)])) rfl ?_
          refine xe_gr pg_37 (ja_G c) rfl rfl rfl (kk1 (k_C hc)) (r_C1 hc _) ?_
          refine xe_sn pg_37 1 (fr' := (54, [(3, .int 2), (2, .int (S.2.1 κ 18)), (0, .ref (ja_C c)), (1, .ref (ja_L κ))], [.int (S.2.1 κ 18), .ref (ja_G c), .ref (ja_L κ)])) rfl ?_
          by_cases g9 : bnd (S.2.1 κ 18) 3
          case neg => rw [if_neg g9] at hE; cases hE
          rw [if_pos g9] at hE
          refine xe_al pg_37 (S.2.1 κ 18).toNatClampNeg (ja_J c (S.2.1 κ 18).toNatClampNeg) rfl (k_G hc) ⟨by decide, by decide⟩ g9 rfl (r_G hc (bnd_lt g9) _) ?_
          refine xe_sn pg_37 1 (fr' := (56, [(3, .int 2), (2, .int (S.2.1 κ 18)), (0, .ref (ja_C c)), (1, .ref (ja_L κ))], [.int 3, .ref (ja_J c (S.2.1 κ 18).toNatClampNeg), .ref (ja_L κ)])) rfl ?_
          refine ye_il pg_37 3 ((sx r7 170 (12 * c + 5) (ks ((sx r4 170 (12 * c + 1) (ks (S.1 170 (12 * c + 1)) 14)).1 170 (12 * c + 5)) 14)).1 170 (12 * c + 4 * (S.2.1 κ 18).toNatClampNeg + 3)) rfl (k_J hc (bnd_lt g9)) ⟨by decide, by decide⟩ rfl ((l_J hc (bnd_lt g9) (k := 3) (by decide)).rd _) ?_
          obtain ⟨r8, e8, hE⟩ := Option.bind_eq_some_iff.mp hE
          refine xe_cv pg_37 13 pg_13 [.int ((sx r7 170 (12 * c + 5) (ks ((sx r4 170 (12 * c + 1) (ks (S.1 170 (12 * c + 1)) 14)).1 170 (12 * c + 5)) 14)).1 170 (12 * c + 4 * (S.2.1 κ 18).toNatClampNeg + 3))] [] (some (.int r8)) rfl rfl rfl rfl ⟨Nat.le_of_ble_eq_true rfl, Nat.le_of_ble_eq_true rfl, Nat.le_of_ble_eq_true rfl⟩ ⟨rfl, rfl⟩ (kk2 (k_L hκ) (by decide)) (c_fed _ (κ := κ) (key := ((sx r7 170 (12 * c + 5) (ks ((sx r4 170 (12 * c + 1) (ks (S.1 170 (12 * c + 1)) 14)).1 170 (12 * c + 5)) 14)).1 170 (12 * c + 4 * (S.2.1 κ 18).toNatClampNeg + 3))) hκ (Option.some.inj e8)) ?_
          refine xe_sn pg_37 3 (fr' := (63, [(3, .int r8), (2, .int (S.2.1 κ 18)), (0, .ref (ja_C c)), (1, .ref (ja_L κ))], [.int r8, .ref (ja_L κ)])) rfl ?_
          obtain ⟨r9, e9, hE⟩ := Option.bind_eq_some_iff.mp hE
          refine xe_cv pg_37 14 pg_14 [.int r8] [] (some (.int r9)) rfl rfl rfl rfl ⟨Nat.le_of_ble_eq_true rfl, Nat.le_of_ble_eq_true rfl, Nat.le_of_ble_eq_true rfl⟩ ⟨rfl, rfl⟩ (kk2 (k_L hκ) (by decide)) (c_isKnownBy _ (κ := κ) (k := r8) hκ (Option.some.inj e9)) ?_
          refine xe_sn pg_37 2 (fr' := (70, [(4, .int r9), (3, .int r8), (2, .int (S.2.1 κ 18)), (0, .ref (ja_C c)), (1, .ref (ja_L κ))], [.int r9])) rfl ?_
          by_cases h10 : r9 = 0
          · rw [if_pos h10] at hE
            refine xe_c1t pg_37 82 rfl rfl h10 ?_
            refine xe_sn pg_37 1 (fr' := (84, [(4, .int r9), (3, .int r8), (2, .int (S.2.1 κ 18)), (0, .ref (ja_C c)), (1, .ref (ja_L κ))], [.int r9])) rfl ?_
            cases hE
            exact xe_rb pg_37 rfl rfl (b_isKnownBy (Option.some.inj e9))
          · rw [if_neg h10] at hE
            refine xe_c1f pg_37 82 rfl rfl h10 ?_
            refine xe_sn pg_37 1 (fr' := (74, [(4, .int r9), (3, .int r8), (2, .int (S.2.1 κ 18)), (0, .ref (ja_C c)), (1, .ref (ja_L κ))], [.ref (ja_C c)])) rfl ?_
            refine xe_gr pg_37 (ja_G c) rfl rfl rfl (kk1 (k_C hc)) (r_C1 hc _) ?_
            refine xe_sn pg_37 1 (fr' := (78, [(4, .int r9), (3, .int r8), (2, .int (S.2.1 κ 18)), (0, .ref (ja_C c)), (1, .ref (ja_L κ))], [.int (S.2.1 κ 18), .ref (ja_G c)])) rfl ?_
            refine xe_al pg_37 (S.2.1 κ 18).toNatClampNeg (ja_J c (S.2.1 κ 18).toNatClampNeg) rfl (k_G hc) ⟨by decide, by decide⟩ g9 rfl (r_G hc (bnd_lt g9) _) ?_
            refine xe_sn pg_37 2 (fr' := (81, [(4, .int r9), (3, .int r8), (2, .int (S.2.1 κ 18)), (0, .ref (ja_C c)), (1, .ref (ja_L κ))], [.int r8, .int 3, .ref (ja_J c (S.2.1 κ 18).toNatClampNeg)])) rfl ?_
            refine ye_is pg_37 3 rfl (k_J hc (bnd_lt g9)) ⟨by decide, by decide⟩ rfl (l_J hc (bnd_lt g9) (k := 3) (by decide)) ?_
            refine xe_sn pg_37 1 (fr' := (84, [(4, .int r9), (3, .int r8), (2, .int (S.2.1 κ 18)), (0, .ref (ja_C c)), (1, .ref (ja_L κ))], [.int r9])) rfl ?_
            cases hE
            exact xe_rb pg_37 rfl rfl (b_isKnownBy (Option.some.inj e9))
        · rw [if_neg h8] at hE
          refine xe_c2f pg_37 48 rfl rfl h8 ?_
          refine xe_sn pg_37 1 (fr' := (23, [(3, .int 2), (2, .int (S.2.1 κ 18)), (0, .ref (ja_C c)), (1, .ref (ja_L κ))], [.ref (ja_C c)])) rfl ?_
          refine xe_gr pg_37 (ja_G c) rfl rfl rfl (kk1 (k_C hc)) (r_C1 hc _) ?_
          refine xe_sn pg_37 1 (fr' := (27, [(3, .int 2), (2, .int (S.2.1 κ 18)), (0, .ref (ja_C c)), (1, .ref (ja_L κ))], [.int 2, .ref (ja_G c)])) rfl ?_
          refine xe_al pg_37 2 (ja_J c 2) rfl (k_G hc) ⟨by decide, by decide⟩ ⟨by decide, by decide⟩ rfl (r_G hc (by decide) _) ?_
          refine xe_sn pg_37 3 (fr' := (31, [(3, .int 2), (2, .int (S.2.1 κ 18)), (0, .ref (ja_C c)), (1, .ref (ja_L κ))], [.ref (ja_C c), .ref (ja_L κ), .int 1, .ref (ja_J c 2)])) rfl ?_
          refine xe_gr pg_37 (ja_G c) rfl rfl rfl (kk1 (k_C hc)) (r_C1 hc _) ?_
          refine xe_sn pg_37 1 (fr' := (35, [(3, .int 2), (2, .int (S.2.1 κ 18)), (0, .ref (ja_C c)), (1, .ref (ja_L κ))], [.int 2, .ref (ja_G c), .ref (ja_L κ), .int 1, .ref (ja_J c 2)])) rfl ?_
          refine xe_al pg_37 2 (ja_J c 2) rfl (k_G hc) ⟨by decide, by decide⟩ ⟨by decide, by decide⟩ rfl (r_G hc (by decide) _) ?_
          refine xe_sn pg_37 1 (fr' := (37, [(3, .int 2), (2, .int (S.2.1 κ 18)), (0, .ref (ja_C c)), (1, .ref (ja_L κ))], [.int 1, .ref (ja_J c 2), .ref (ja_L κ), .int 1, .ref (ja_J c 2)])) rfl ?_
          refine ye_il pg_37 1 ((sx r7 170 (12 * c + 5) (ks ((sx r4 170 (12 * c + 1) (ks (S.1 170 (12 * c + 1)) 14)).1 170 (12 * c + 5)) 14)).1 170 (12 * c + 9)) rfl (k_J hc (by decide)) ⟨by decide, by decide⟩ rfl ((lx_ix (12 * c + 9) (l_J hc (by decide) (k := 1) (by decide)) (by omega)).rd _) ?_
          obtain ⟨r10, e10, hE⟩ := Option.bind_eq_some_iff.mp hE
          have e10q := Option.some.inj e10
          refine xe_cv pg_37 12 pg_12 [.int ((sx r7 170 (12 * c + 5) (ks ((sx r4 170 (12 * c + 1) (ks (S.1 170 (12 * c + 1)) 14)).1 170 (12 * c + 5)) 14)).1 170 (12 * c + 9))] [.int 1, .ref (ja_J c 2)] (some (.int (ks ((sx r7 170 (12 * c + 5) (ks ((sx r4 170 (12 * c + 1) (ks (S.1 170 (12 * c + 1)) 14)).1 170 (12 * c + 5)) 14)).1 170 (12 * c + 9)) 14))) rfl rfl rfl rfl ⟨Nat.le_of_ble_eq_true rfl, Nat.le_of_ble_eq_true rfl, Nat.le_of_ble_eq_true rfl⟩ ⟨rfl, rfl⟩ (kk2 (k_L hκ) (by decide)) (e10q ▸ c_wrap _ (κ := κ) (key := ((sx r7 170 (12 * c + 5) (ks ((sx r4 170 (12 * c + 1) (ks (S.1 170 (12 * c + 1)) 14)).1 170 (12 * c + 5)) 14)).1 170 (12 * c + 9))) hκ) ?_
          refine ye_is pg_37 1 rfl (k_J hc (by decide)) ⟨by decide, by decide⟩ rfl (lx_ix (12 * c + 9) (l_J hc (by decide) (k := 1) (by decide)) (by omega)) ?_
          refine xe_sn pg_37 2 (fr' := (17, [(3, .int 3), (2, .int (S.2.1 κ 18)), (0, .ref (ja_C c)), (1, .ref (ja_L κ))], [])) rfl ?_
          refine xe_sn pg_37 2 (fr' := (19, [(3, .int 3), (2, .int (S.2.1 κ 18)), (0, .ref (ja_C c)), (1, .ref (ja_L κ))], [.int (S.2.1 κ 18), .int 3])) rfl ?_
          by_cases h11 : (S.2.1 κ 18) < 3
          · rw [if_pos h11] at hE
            refine xe_c2t pg_37 48 rfl rfl h11 ?_
            refine xe_sn pg_37 2 (fr' := (50, [(3, .int 3), (2, .int (S.2.1 κ 18)), (0, .ref (ja_C c)), (1, .ref (ja_L κ))], [.ref (ja_C c), .ref (ja_L κ)])) rfl ?_
            refine xe_gr pg_37 (ja_G c) rfl rfl rfl (kk1 (k_C hc)) (r_C1 hc _) ?_
            refine xe_sn pg_37 1 (fr' := (54, [(3, .int 3), (2, .int (S.2.1 κ 18)), (0, .ref (ja_C c)), (1, .ref (ja_L κ))], [.int (S.2.1 κ 18), .ref (ja_G c), .ref (ja_L κ)])) rfl ?_
            by_cases g12 : bnd (S.2.1 κ 18) 3
            case neg => rw [if_neg g12] at hE; cases hE
            rw [if_pos g12] at hE
            refine xe_al pg_37 (S.2.1 κ 18).toNatClampNeg (ja_J c (S.2.1 κ 18).toNatClampNeg) rfl (k_G hc) ⟨by decide, by decide⟩ g12 rfl (r_G hc (bnd_lt g12) _) ?_
            refine xe_sn pg_37 1 (fr' := (56, [(3, .int 3), (2, .int (S.2.1 κ 18)), (0, .ref (ja_C c)), (1, .ref (ja_L κ))], [.int 3, .ref (ja_J c (S.2.1 κ 18).toNatClampNeg), .ref (ja_L κ)])) rfl ?_
            refine ye_il pg_37 3 ((sx r10 170 (12 * c + 9) (ks ((sx r7 170 (12 * c + 5) (ks ((sx r4 170 (12 * c + 1) (ks (S.1 170 (12 * c + 1)) 14)).1 170 (12 * c + 5)) 14)).1 170 (12 * c + 9)) 14)).1 170 (12 * c + 4 * (S.2.1 κ 18).toNatClampNeg + 3)) rfl (k_J hc (bnd_lt g12)) ⟨by decide, by decide⟩ rfl ((l_J hc (bnd_lt g12) (k := 3) (by decide)).rd _) ?_
            obtain ⟨r11, e11, hE⟩ := Option.bind_eq_some_iff.mp hE
            refine xe_cv pg_37 13 pg_13 [.int ((sx r10 170 (12 * c + 9) (ks ((sx r7 170 (12 * c + 5) (ks ((sx r4 170 (12 * c + 1) (ks (S.1 170 (12 * c + 1)) 14)).1 170 (12 * c + 5)) 14)).1 170 (12 * c + 9)) 14)).1 170 (12 * c + 4 * (S.2.1 κ 18).toNatClampNeg + 3))] [] (some (.int r11)) rfl rfl rfl rfl ⟨Nat.le_of_ble_eq_true rfl, Nat.le_of_ble_eq_true rfl, Nat.le_of_ble_eq_true rfl⟩ ⟨rfl, rfl⟩ (kk2 (k_L hκ) (by decide)) (c_fed _ (κ := κ) (key := ((sx r10 170 (12 * c + 9) (ks ((sx r7 170 (12 * c + 5) (ks ((sx r4 170 (12 * c + 1) (ks (S.1 170 (12 * c + 1)) 14)).1 170 (12 * c + 5)) 14)).1 170 (12 * c + 9)) 14)).1 170 (12 * c + 4 * (S.2.1 κ 18).toNatClampNeg + 3))) hκ (Option.some.inj e11)) ?_
            refine xe_sn pg_37 3 (fr' := (63, [(3, .int r11), (2, .int (S.2.1 κ 18)), (0, .ref (ja_C c)), (1, .ref (ja_L κ))], [.int r11, .ref (ja_L κ)])) rfl ?_
            obtain ⟨r12, e12, hE⟩ := Option.bind_eq_some_iff.mp hE
            refine xe_cv pg_37 14 pg_14 [.int r11] [] (some (.int r12)) rfl rfl rfl rfl ⟨Nat.le_of_ble_eq_true rfl, Nat.le_of_ble_eq_true rfl, Nat.le_of_ble_eq_true rfl⟩ ⟨rfl, rfl⟩ (kk2 (k_L hκ) (by decide)) (c_isKnownBy _ (κ := κ) (k := r11) hκ (Option.some.inj e12)) ?_
            refine xe_sn pg_37 2 (fr' := (70, [(4, .int r12), (3, .int r11), (2, .int (S.2.1 κ 18)), (0, .ref (ja_C c)), (1, .ref (ja_L κ))], [.int r12])) rfl ?_
            by_cases h13 : r12 = 0
            · rw [if_pos h13] at hE
              refine xe_c1t pg_37 82 rfl rfl h13 ?_
              refine xe_sn pg_37 1 (fr' := (84, [(4, .int r12), (3, .int r11), (2, .int (S.2.1 κ 18)), (0, .ref (ja_C c)), (1, .ref (ja_L κ))], [.int r12])) rfl ?_
              cases hE
              exact xe_rb pg_37 rfl rfl (b_isKnownBy (Option.some.inj e12))
            · rw [if_neg h13] at hE
              refine xe_c1f pg_37 82 rfl rfl h13 ?_
              refine xe_sn pg_37 1 (fr' := (74, [(4, .int r12), (3, .int r11), (2, .int (S.2.1 κ 18)), (0, .ref (ja_C c)), (1, .ref (ja_L κ))], [.ref (ja_C c)])) rfl ?_
              refine xe_gr pg_37 (ja_G c) rfl rfl rfl (kk1 (k_C hc)) (r_C1 hc _) ?_
              refine xe_sn pg_37 1 (fr' := (78, [(4, .int r12), (3, .int r11), (2, .int (S.2.1 κ 18)), (0, .ref (ja_C c)), (1, .ref (ja_L κ))], [.int (S.2.1 κ 18), .ref (ja_G c)])) rfl ?_
              refine xe_al pg_37 (S.2.1 κ 18).toNatClampNeg (ja_J c (S.2.1 κ 18).toNatClampNeg) rfl (k_G hc) ⟨by decide, by decide⟩ g12 rfl (r_G hc (bnd_lt g12) _) ?_
              refine xe_sn pg_37 2 (fr' := (81, [(4, .int r12), (3, .int r11), (2, .int (S.2.1 κ 18)), (0, .ref (ja_C c)), (1, .ref (ja_L κ))], [.int r11, .int 3, .ref (ja_J c (S.2.1 κ 18).toNatClampNeg)])) rfl ?_
              refine ye_is pg_37 3 rfl (k_J hc (bnd_lt g12)) ⟨by decide, by decide⟩ rfl (l_J hc (bnd_lt g12) (k := 3) (by decide)) ?_
              refine xe_sn pg_37 1 (fr' := (84, [(4, .int r12), (3, .int r11), (2, .int (S.2.1 κ 18)), (0, .ref (ja_C c)), (1, .ref (ja_L κ))], [.int r12])) rfl ?_
              cases hE
              exact xe_rb pg_37 rfl rfl (b_isKnownBy (Option.some.inj e12))
          · rw [if_neg h11] at hE
            refine xe_c2f pg_37 48 rfl rfl h11 ?_
            refine xe_sn pg_37 1 (fr' := (23, [(3, .int 3), (2, .int (S.2.1 κ 18)), (0, .ref (ja_C c)), (1, .ref (ja_L κ))], [.ref (ja_C c)])) rfl ?_
            refine xe_gr pg_37 (ja_G c) rfl rfl rfl (kk1 (k_C hc)) (r_C1 hc _) ?_
            refine xe_sn pg_37 1 (fr' := (27, [(3, .int 3), (2, .int (S.2.1 κ 18)), (0, .ref (ja_C c)), (1, .ref (ja_L κ))], [.int 3, .ref (ja_G c)])) rfl ?_
            cases hE
theorem b_isKnown {S : xSt} {c : Nat} {κ : Nat} {r : Int32 × xSt} (hE : (f_isKnown S c κ) = some r) : r.1 = 0 ∨ r.1 = 1 := by
  unfold f_isKnown at hE
  obtain ⟨r1, e1, hE⟩ := Option.bind_eq_some_iff.mp hE
  by_cases h1 : r1 = 0
  · rw [if_pos h1] at hE
    cases hE
    exact Or.inl rfl
  · rw [if_neg h1] at hE
    by_cases h2 : (S.2.1 κ 18) < 0
    · rw [if_pos h2] at hE
      by_cases g3 : bnd (S.2.1 κ 18) 3
      · rw [if_pos g3] at hE
        obtain ⟨r2, e2, hE⟩ := Option.bind_eq_some_iff.mp hE
        obtain ⟨r3, e3, hE⟩ := Option.bind_eq_some_iff.mp hE
        by_cases h4 : r3 = 0
        · rw [if_pos h4] at hE
          cases hE
          exact (b_isKnownBy (Option.some.inj e3))
        · rw [if_neg h4] at hE
          cases hE
          exact (b_isKnownBy (Option.some.inj e3))
      · rw [if_neg g3] at hE
        cases hE
    · rw [if_neg h2] at hE
      obtain ⟨r4, e4, hE⟩ := Option.bind_eq_some_iff.mp hE
      by_cases h5 : (S.2.1 κ 18) < 1
      · rw [if_pos h5] at hE
        by_cases g6 : bnd (S.2.1 κ 18) 3
        · rw [if_pos g6] at hE
          obtain ⟨r5, e5, hE⟩ := Option.bind_eq_some_iff.mp hE
          obtain ⟨r6, e6, hE⟩ := Option.bind_eq_some_iff.mp hE
          by_cases h7 : r6 = 0
          · rw [if_pos h7] at hE
            cases hE
            exact (b_isKnownBy (Option.some.inj e6))
          · rw [if_neg h7] at hE
            cases hE
            exact (b_isKnownBy (Option.some.inj e6))
        · rw [if_neg g6] at hE
          cases hE
      · rw [if_neg h5] at hE
        obtain ⟨r7, e7, hE⟩ := Option.bind_eq_some_iff.mp hE
        by_cases h8 : (S.2.1 κ 18) < 2
        · rw [if_pos h8] at hE
          by_cases g9 : bnd (S.2.1 κ 18) 3
          · rw [if_pos g9] at hE
            obtain ⟨r8, e8, hE⟩ := Option.bind_eq_some_iff.mp hE
            obtain ⟨r9, e9, hE⟩ := Option.bind_eq_some_iff.mp hE
            by_cases h10 : r9 = 0
            · rw [if_pos h10] at hE
              cases hE
              exact (b_isKnownBy (Option.some.inj e9))
            · rw [if_neg h10] at hE
              cases hE
              exact (b_isKnownBy (Option.some.inj e9))
          · rw [if_neg g9] at hE
            cases hE
        · rw [if_neg h8] at hE
          obtain ⟨r10, e10, hE⟩ := Option.bind_eq_some_iff.mp hE
          by_cases h11 : (S.2.1 κ 18) < 3
          · rw [if_pos h11] at hE
            by_cases g12 : bnd (S.2.1 κ 18) 3
            · rw [if_pos g12] at hE
              obtain ⟨r11, e11, hE⟩ := Option.bind_eq_some_iff.mp hE
              obtain ⟨r12, e12, hE⟩ := Option.bind_eq_some_iff.mp hE
              by_cases h13 : r12 = 0
              · rw [if_pos h13] at hE
                cases hE
                exact (b_isKnownBy (Option.some.inj e12))
              · rw [if_neg h13] at hE
                cases hE
                exact (b_isKnownBy (Option.some.inj e12))
            · rw [if_neg g12] at hE
              cases hE
          · rw [if_neg h11] at hE
            cases hE

def f_keepLatest (S : xSt) (c : Nat) (κ : Nat) : Option xSt := (some (f_dataLength S κ)).bind fun r1 => if bnd ((sx S 176 c r1).1 176 c) 8 then (some (kfill (sx S 176 c r1).1 c ((sx S 176 c r1).2.1 κ) ((sx S 176 c r1).1 176 c).toNatClampNeg, (sx S 176 c r1).2)) else none
set_option maxRecDepth 100000 in
theorem c_keepLatest (d : Nat) {w : xWd} {S : xSt} {μ : Nat → Nat → Int32} {ρ : Nat → Nat → Int64} {c : Nat} {κ : Nat} (hc : c < 4) (hκ : κ < 22) {r : xSt} (hE : (f_keepLatest S c κ) = some r) : xc (d + 1) 40 [.ref (ja_C c), .ref (ja_L κ)] (hz w S μ ρ) (.inl (none), hz w r μ ρ) := by
  unfold f_keepLatest at hE
  refine xe_sn pg_40 2 (fr' := (2, [(0, .ref (ja_C c)), (1, .ref (ja_L κ))], [.ref (ja_L κ), .ref (ja_C c)])) rfl ?_
  obtain ⟨r1, e1, hE⟩ := Option.bind_eq_some_iff.mp hE
  refine xe_cv pg_40 11 pg_11 [] [.ref (ja_C c)] (some (.int r1)) rfl rfl rfl rfl ⟨Nat.le_of_ble_eq_true rfl, Nat.le_of_ble_eq_true rfl, Nat.le_of_ble_eq_true rfl⟩ ⟨rfl, rfl⟩ (kk2 (k_L hκ) (by decide)) (c_dataLength _ (κ := κ) hκ (Option.some.inj e1)) ?_
  refine ye_px pg_40 rfl rfl ⟨rfl, rfl⟩ (Or.inl rfl) (kk1 (k_C hc)) (l_C4 hc) ?_
  refine xe_sn pg_40 2 (fr' := (10, [(2, .int 0), (0, .ref (ja_C c)), (1, .ref (ja_L κ))], [])) rfl ?_
  by_cases gdl : bnd ((sx S 176 c r1).1 176 c) 8
  case neg => rw [if_neg gdl] at hE; cases hE
  rw [if_pos gdl] at hE
  have q9 := fun dd z z2 => lp_keepLatest (r := z) dd (w := w) (S := (sx S 176 c r1)) (μ := μ) (ρ := ρ) hc hκ (m := ((sx S 176 c r1).1 176 c).toNatClampNeg) (by have := bnd_lt gdl; omega) (nI_bnd gdl (by omega)) z2 ((sx S 176 c r1).1 176 c).toNatClampNeg 0 (by omega)
  rw [kfill_0] at q9
  refine q9 _ _ ?_
  cases hE
  exact xe_end pg_40 rfl

def f_followOfStream (S : xSt) (c : Nat) (κ : Nat) (hop : Int32) : Option xSt := (some (f_isStream (S.2.1 κ 5))).bind fun r1 => if r1 = 0 then (some S) else (if bnd ((S.2.1 κ 5) - 1) 3 then (if (S.1 174 (3 * c + ((S.2.1 κ 5) - 1).toNatClampNeg)) = hop then (if (S.2.1 κ 4) = 6 then ((some (f_become S c ((S.2.1 κ 5) - 1).toNatClampNeg 0 0)).bind fun r2 => some r2) else (if (S.2.1 κ 4) = 4 then (if (S.1 173 (3 * c + ((S.2.1 κ 5) - 1).toNatClampNeg)) = 1 then ((some (f_become S c ((S.2.1 κ 5) - 1).toNatClampNeg 2 4)).bind fun r3 => some r3) else (some S)) else (if (S.2.1 κ 4) = 5 then (if (S.1 173 (3 * c + ((S.2.1 κ 5) - 1).toNatClampNeg)) = 2 then ((f_keepLatest S c κ).bind fun r4 => some r4) else (some S)) else (if (S.2.1 κ 4) = 7 then (if (S.1 173 (3 * c + ((S.2.1 κ 5) - 1).toNatClampNeg)) = 2 then (some (sx S 175 (3 * c + ((S.2.1 κ 5) - 1).toNatClampNeg) ((S.1 175 (3 * c + ((S.2.1 κ 5) - 1).toNatClampNeg)) + 2))) else (some S)) else (some S))))) else (some S)) else none)
set_option maxRecDepth 100000 in
theorem c_followOfStream (d : Nat) {w : xWd} {S : xSt} {μ : Nat → Nat → Int32} {ρ : Nat → Nat → Int64} {c : Nat} {κ : Nat} {hop : Int32} (hc : c < 4) (hκ : κ < 22) {r : xSt} (hE : (f_followOfStream S c κ hop) = some r) : xc (d + 2) 39 [.ref (ja_C c), .ref (ja_L κ), .int hop] (hz w S μ ρ) (.inl (none), hz w r μ ρ) := by
  unfold f_followOfStream at hE
  refine xe_sn pg_39 1 (fr' := (1, [(0, .ref (ja_C c)), (1, .ref (ja_L κ)), (2, .int hop)], [.ref (ja_L κ)])) rfl ?_
  refine xe_gr pg_39 (ja_B κ) rfl rfl rfl (kk1 (k_L hκ)) (r_L0 hκ _) ?_
  refine xe_sn pg_39 1 (fr' := (5, [(0, .ref (ja_C c)), (1, .ref (ja_L κ)), (2, .int hop)], [.int 5, .ref (ja_B κ)])) rfl ?_
  refine ye_il pg_39 5 (S.2.1 κ 5) rfl (k_B hκ) ⟨by decide, by decide⟩ rfl ((l_B hκ (k := 5) (by decide)).rd _) ?_
  refine xe_sn pg_39 2 (fr' := (8, [(3, .int (S.2.1 κ 5)), (0, .ref (ja_C c)), (1, .ref (ja_L κ)), (2, .int hop)], [.int (S.2.1 κ 5)])) rfl ?_
  obtain ⟨r1, e1, hE⟩ := Option.bind_eq_some_iff.mp hE
  refine xe_callq pg_39 100 [.int (S.2.1 κ 5)] (.inl (some (.int r1))) (11, [(3, .int (S.2.1 κ 5)), (0, .ref (ja_C c)), (1, .ref (ja_L κ)), (2, .int hop)], [.int r1]) rfl (fun _ => rfl) (c_isStream _ (x := (S.2.1 κ 5))  (Option.some.inj e1)) ?_
  by_cases h1 : r1 = 0
  · rw [if_pos h1] at hE
    refine xe_c1t pg_39 29 rfl rfl h1 ?_
    cases hE
    exact xe_end pg_39 rfl
  · rw [if_neg h1] at hE
    refine xe_c1f pg_39 29 rfl rfl h1 ?_
    refine xe_sn pg_39 1 (fr' := (15, [(3, .int (S.2.1 κ 5)), (0, .ref (ja_C c)), (1, .ref (ja_L κ)), (2, .int hop)], [.ref (ja_C c)])) rfl ?_
    refine xe_gr pg_39 (ja_V c) rfl rfl rfl (kk1 (k_C hc)) (r_C2 hc _) ?_
    refine xe_sn pg_39 3 (fr' := (21, [(3, .int (S.2.1 κ 5)), (0, .ref (ja_C c)), (1, .ref (ja_L κ)), (2, .int hop)], [.int ((S.2.1 κ 5) - 1), .ref (ja_V c)])) rfl ?_
    by_cases g2 : bnd ((S.2.1 κ 5) - 1) 3
    case neg => rw [if_neg g2] at hE; cases hE
    rw [if_pos g2] at hE
    refine xe_al pg_39 ((S.2.1 κ 5) - 1).toNatClampNeg (ja_S c ((S.2.1 κ 5) - 1).toNatClampNeg) rfl (k_V hc) ⟨by decide, by decide⟩ g2 rfl (r_V hc (bnd_lt g2) _) ?_
    refine ye_gi pg_39 (S.1 174 (3 * c + ((S.2.1 κ 5) - 1).toNatClampNeg)) rfl rfl rfl (kk1 (k_S hc (bnd_lt g2))) ((show lx _ 1 174 _ from l_S hc (bnd_lt g2) (by decide)).rd _) ?_
    refine xe_sn pg_39 1 (fr' := (26, [(3, .int (S.2.1 κ 5)), (0, .ref (ja_C c)), (1, .ref (ja_L κ)), (2, .int hop)], [.int hop, .int (S.1 174 (3 * c + ((S.2.1 κ 5) - 1).toNatClampNeg))])) rfl ?_
    by_cases h3 : (S.1 174 (3 * c + ((S.2.1 κ 5) - 1).toNatClampNeg)) = hop
    · rw [if_pos h3] at hE
      refine xe_c2t pg_39 30 rfl rfl h3 ?_
      refine xe_sn pg_39 1 (fr' := (31, [(3, .int (S.2.1 κ 5)), (0, .ref (ja_C c)), (1, .ref (ja_L κ)), (2, .int hop)], [.ref (ja_C c)])) rfl ?_
      refine xe_gr pg_39 (ja_V c) rfl rfl rfl (kk1 (k_C hc)) (r_C2 hc _) ?_
      refine xe_sn pg_39 3 (fr' := (37, [(3, .int (S.2.1 κ 5)), (0, .ref (ja_C c)), (1, .ref (ja_L κ)), (2, .int hop)], [.int ((S.2.1 κ 5) - 1), .ref (ja_V c)])) rfl ?_
      refine xe_al pg_39 ((S.2.1 κ 5) - 1).toNatClampNeg (ja_S c ((S.2.1 κ 5) - 1).toNatClampNeg) rfl (k_V hc) ⟨by decide, by decide⟩ g2 rfl (r_V hc (bnd_lt g2) _) ?_
      refine xe_sn pg_39 2 (fr' := (41, [(4, .ref (ja_S c ((S.2.1 κ 5) - 1).toNatClampNeg)), (3, .int (S.2.1 κ 5)), (0, .ref (ja_C c)), (1, .ref (ja_L κ)), (2, .int hop)], [.ref (ja_L κ)])) rfl ?_
      refine xe_gr pg_39 (ja_B κ) rfl rfl rfl (kk1 (k_L hκ)) (r_L0 hκ _) ?_
      refine xe_sn pg_39 1 (fr' := (45, [(4, .ref (ja_S c ((S.2.1 κ 5) - 1).toNatClampNeg)), (3, .int (S.2.1 κ 5)), (0, .ref (ja_C c)), (1, .ref (ja_L κ)), (2, .int hop)], [.int 4, .ref (ja_B κ)])) rfl ?_
      refine ye_il pg_39 4 (S.2.1 κ 4) rfl (k_B hκ) ⟨by decide, by decide⟩ rfl ((l_B hκ (k := 4) (by decide)).rd _) ?_
      refine xe_sn pg_39 3 (fr' := (52, [(5, .int (S.2.1 κ 4)), (4, .ref (ja_S c ((S.2.1 κ 5) - 1).toNatClampNeg)), (3, .int (S.2.1 κ 5)), (0, .ref (ja_C c)), (1, .ref (ja_L κ)), (2, .int hop)], [.int 6, .int (S.2.1 κ 4)])) rfl ?_
      by_cases h4 : (S.2.1 κ 4) = 6
      · rw [if_pos h4] at hE
        refine xe_c2f pg_39 65 rfl rfl (fun z => z h4) ?_
        refine xe_sn pg_39 3 (fr' := (59, [(5, .int (S.2.1 κ 4)), (4, .ref (ja_S c ((S.2.1 κ 5) - 1).toNatClampNeg)), (3, .int (S.2.1 κ 5)), (0, .ref (ja_C c)), (1, .ref (ja_L κ)), (2, .int hop)], [.int 0, .int 0, .ref (ja_S c ((S.2.1 κ 5) - 1).toNatClampNeg)])) rfl ?_
        obtain ⟨r2, e2, hE⟩ := Option.bind_eq_some_iff.mp hE
        refine xe_cv pg_39 71 pg_71 [.int 0, .int 0] [] (none) rfl rfl rfl rfl ⟨Nat.le_of_ble_eq_true rfl, Nat.le_of_ble_eq_true rfl, Nat.le_of_ble_eq_true rfl⟩ ⟨rfl, rfl⟩ (kk2 (k_S hc (bnd_lt g2)) (by decide)) (c_become _ (c := c) (s := ((S.2.1 κ 5) - 1).toNatClampNeg) (a := 0) (b := 0) hc (bnd_lt g2) (Option.some.inj e2)) ?_
        refine xe_sn pg_39 1 (fr' := (140, [(5, .int (S.2.1 κ 4)), (4, .ref (ja_S c ((S.2.1 κ 5) - 1).toNatClampNeg)), (3, .int (S.2.1 κ 5)), (0, .ref (ja_C c)), (1, .ref (ja_L κ)), (2, .int hop)], [])) rfl ?_
        cases hE
        exact xe_end pg_39 rfl
      · rw [if_neg h4] at hE
        refine xe_c2t pg_39 65 rfl rfl h4 ?_
        refine xe_sn pg_39 2 (fr' := (68, [(5, .int (S.2.1 κ 4)), (4, .ref (ja_S c ((S.2.1 κ 5) - 1).toNatClampNeg)), (3, .int (S.2.1 κ 5)), (0, .ref (ja_C c)), (1, .ref (ja_L κ)), (2, .int hop)], [.int 4, .int (S.2.1 κ 4)])) rfl ?_
        by_cases h5 : (S.2.1 κ 4) = 4
        · rw [if_pos h5] at hE
          refine xe_c2f pg_39 90 rfl rfl (fun z => z h5) ?_
          refine xe_sn pg_39 1 (fr' := (73, [(5, .int (S.2.1 κ 4)), (4, .ref (ja_S c ((S.2.1 κ 5) - 1).toNatClampNeg)), (3, .int (S.2.1 κ 5)), (0, .ref (ja_C c)), (1, .ref (ja_L κ)), (2, .int hop)], [.ref (ja_S c ((S.2.1 κ 5) - 1).toNatClampNeg)])) rfl ?_
          refine ye_gi pg_39 (S.1 173 (3 * c + ((S.2.1 κ 5) - 1).toNatClampNeg)) rfl rfl rfl (kk1 (k_S hc (bnd_lt g2))) ((show lx _ 0 173 _ from l_S hc (bnd_lt g2) (by decide)).rd _) ?_
          refine xe_sn pg_39 1 (fr' := (77, [(5, .int (S.2.1 κ 4)), (4, .ref (ja_S c ((S.2.1 κ 5) - 1).toNatClampNeg)), (3, .int (S.2.1 κ 5)), (0, .ref (ja_C c)), (1, .ref (ja_L κ)), (2, .int hop)], [.int 1, .int (S.1 173 (3 * c + ((S.2.1 κ 5) - 1).toNatClampNeg))])) rfl ?_
          by_cases h6 : (S.1 173 (3 * c + ((S.2.1 κ 5) - 1).toNatClampNeg)) = 1
          · rw [if_pos h6] at hE
            refine xe_c2f pg_39 90 rfl rfl (fun z => z h6) ?_
            refine xe_sn pg_39 3 (fr' := (84, [(5, .int (S.2.1 κ 4)), (4, .ref (ja_S c ((S.2.1 κ 5) - 1).toNatClampNeg)), (3, .int (S.2.1 κ 5)), (0, .ref (ja_C c)), (1, .ref (ja_L κ)), (2, .int hop)], [.int 4, .int 2, .ref (ja_S c ((S.2.1 κ 5) - 1).toNatClampNeg)])) rfl ?_
            obtain ⟨r3, e3, hE⟩ := Option.bind_eq_some_iff.mp hE
            refine xe_cv pg_39 71 pg_71 [.int 2, .int 4] [] (none) rfl rfl rfl rfl ⟨Nat.le_of_ble_eq_true rfl, Nat.le_of_ble_eq_true rfl, Nat.le_of_ble_eq_true rfl⟩ ⟨rfl, rfl⟩ (kk2 (k_S hc (bnd_lt g2)) (by decide)) (c_become _ (c := c) (s := ((S.2.1 κ 5) - 1).toNatClampNeg) (a := 2) (b := 4) hc (bnd_lt g2) (Option.some.inj e3)) ?_
            refine xe_sn pg_39 1 (fr' := (140, [(5, .int (S.2.1 κ 4)), (4, .ref (ja_S c ((S.2.1 κ 5) - 1).toNatClampNeg)), (3, .int (S.2.1 κ 5)), (0, .ref (ja_C c)), (1, .ref (ja_L κ)), (2, .int hop)], [])) rfl ?_
            cases hE
            exact xe_end pg_39 rfl
          · rw [if_neg h6] at hE
            refine xe_c2t pg_39 90 rfl rfl h6 ?_
            refine xe_sn pg_39 2 (fr' := (93, [(5, .int (S.2.1 κ 4)), (4, .ref (ja_S c ((S.2.1 κ 5) - 1).toNatClampNeg)), (3, .int (S.2.1 κ 5)), (0, .ref (ja_C c)), (1, .ref (ja_L κ)), (2, .int hop)], [.int 5, .int (S.2.1 κ 4)])) rfl ?_
            refine xe_c2t pg_39 113 rfl rfl (fun z => absurd (h5.symm.trans z) (by decide)) ?_
            refine xe_sn pg_39 2 (fr' := (117, [(5, .int (S.2.1 κ 4)), (4, .ref (ja_S c ((S.2.1 κ 5) - 1).toNatClampNeg)), (3, .int (S.2.1 κ 5)), (0, .ref (ja_C c)), (1, .ref (ja_L κ)), (2, .int hop)], [.int 7, .int (S.2.1 κ 4)])) rfl ?_
            refine xe_c2t pg_39 140 rfl rfl (fun z => absurd (h5.symm.trans z) (by decide)) ?_
            cases hE
            exact xe_end pg_39 rfl
        · rw [if_neg h5] at hE
          refine xe_c2t pg_39 90 rfl rfl h5 ?_
          refine xe_sn pg_39 2 (fr' := (93, [(5, .int (S.2.1 κ 4)), (4, .ref (ja_S c ((S.2.1 κ 5) - 1).toNatClampNeg)), (3, .int (S.2.1 κ 5)), (0, .ref (ja_C c)), (1, .ref (ja_L κ)), (2, .int hop)], [.int 5, .int (S.2.1 κ 4)])) rfl ?_
          by_cases h7 : (S.2.1 κ 4) = 5
          · rw [if_pos h7] at hE
            refine xe_c2f pg_39 113 rfl rfl (fun z => z h7) ?_
            refine xe_sn pg_39 1 (fr' := (98, [(5, .int (S.2.1 κ 4)), (4, .ref (ja_S c ((S.2.1 κ 5) - 1).toNatClampNeg)), (3, .int (S.2.1 κ 5)), (0, .ref (ja_C c)), (1, .ref (ja_L κ)), (2, .int hop)], [.ref (ja_S c ((S.2.1 κ 5) - 1).toNatClampNeg)])) rfl ?_
            refine ye_gi pg_39 (S.1 173 (3 * c + ((S.2.1 κ 5) - 1).toNatClampNeg)) rfl rfl rfl (kk1 (k_S hc (bnd_lt g2))) ((show lx _ 0 173 _ from l_S hc (bnd_lt g2) (by decide)).rd _) ?_
            refine xe_sn pg_39 1 (fr' := (102, [(5, .int (S.2.1 κ 4)), (4, .ref (ja_S c ((S.2.1 κ 5) - 1).toNatClampNeg)), (3, .int (S.2.1 κ 5)), (0, .ref (ja_C c)), (1, .ref (ja_L κ)), (2, .int hop)], [.int 2, .int (S.1 173 (3 * c + ((S.2.1 κ 5) - 1).toNatClampNeg))])) rfl ?_
            by_cases h8 : (S.1 173 (3 * c + ((S.2.1 κ 5) - 1).toNatClampNeg)) = 2
            · rw [if_pos h8] at hE
              refine xe_c2f pg_39 113 rfl rfl (fun z => z h8) ?_
              refine xe_sn pg_39 2 (fr' := (107, [(5, .int (S.2.1 κ 4)), (4, .ref (ja_S c ((S.2.1 κ 5) - 1).toNatClampNeg)), (3, .int (S.2.1 κ 5)), (0, .ref (ja_C c)), (1, .ref (ja_L κ)), (2, .int hop)], [.ref (ja_L κ), .ref (ja_C c)])) rfl ?_
              obtain ⟨r4, e4, hE⟩ := Option.bind_eq_some_iff.mp hE
              refine xe_cv pg_39 40 pg_40 [.ref (ja_L κ)] [] (none) rfl rfl rfl rfl ⟨Nat.le_of_ble_eq_true rfl, Nat.le_of_ble_eq_true rfl, Nat.le_of_ble_eq_true rfl⟩ ⟨rfl, rfl⟩ (kk2 (k_C hc) (by decide)) (c_keepLatest _ (c := c) (κ := κ) hc hκ e4) ?_
              refine xe_sn pg_39 1 (fr' := (140, [(5, .int (S.2.1 κ 4)), (4, .ref (ja_S c ((S.2.1 κ 5) - 1).toNatClampNeg)), (3, .int (S.2.1 κ 5)), (0, .ref (ja_C c)), (1, .ref (ja_L κ)), (2, .int hop)], [])) rfl ?_
              cases hE
              exact xe_end pg_39 rfl
            · rw [if_neg h8] at hE
              refine xe_c2t pg_39 113 rfl rfl h8 ?_
              refine xe_sn pg_39 2 (fr' := (117, [(5, .int (S.2.1 κ 4)), (4, .ref (ja_S c ((S.2.1 κ 5) - 1).toNatClampNeg)), (3, .int (S.2.1 κ 5)), (0, .ref (ja_C c)), (1, .ref (ja_L κ)), (2, .int hop)], [.int 7, .int (S.2.1 κ 4)])) rfl ?_
              refine xe_c2t pg_39 140 rfl rfl (fun z => absurd (h7.symm.trans z) (by decide)) ?_
              cases hE
              exact xe_end pg_39 rfl
          · rw [if_neg h7] at hE
            refine xe_c2t pg_39 113 rfl rfl h7 ?_
            refine xe_sn pg_39 2 (fr' := (117, [(5, .int (S.2.1 κ 4)), (4, .ref (ja_S c ((S.2.1 κ 5) - 1).toNatClampNeg)), (3, .int (S.2.1 κ 5)), (0, .ref (ja_C c)), (1, .ref (ja_L κ)), (2, .int hop)], [.int 7, .int (S.2.1 κ 4)])) rfl ?_
            by_cases h9 : (S.2.1 κ 4) = 7
            · rw [if_pos h9] at hE
              refine xe_c2f pg_39 140 rfl rfl (fun z => z h9) ?_
              refine xe_sn pg_39 1 (fr' := (122, [(5, .int (S.2.1 κ 4)), (4, .ref (ja_S c ((S.2.1 κ 5) - 1).toNatClampNeg)), (3, .int (S.2.1 κ 5)), (0, .ref (ja_C c)), (1, .ref (ja_L κ)), (2, .int hop)], [.ref (ja_S c ((S.2.1 κ 5) - 1).toNatClampNeg)])) rfl ?_
              refine ye_gi pg_39 (S.1 173 (3 * c + ((S.2.1 κ 5) - 1).toNatClampNeg)) rfl rfl rfl (kk1 (k_S hc (bnd_lt g2))) ((show lx _ 0 173 _ from l_S hc (bnd_lt g2) (by decide)).rd _) ?_
              refine xe_sn pg_39 1 (fr' := (126, [(5, .int (S.2.1 κ 4)), (4, .ref (ja_S c ((S.2.1 κ 5) - 1).toNatClampNeg)), (3, .int (S.2.1 κ 5)), (0, .ref (ja_C c)), (1, .ref (ja_L κ)), (2, .int hop)], [.int 2, .int (S.1 173 (3 * c + ((S.2.1 κ 5) - 1).toNatClampNeg))])) rfl ?_
              by_cases h10 : (S.1 173 (3 * c + ((S.2.1 κ 5) - 1).toNatClampNeg)) = 2
              · rw [if_pos h10] at hE
                refine xe_c2f pg_39 140 rfl rfl (fun z => z h10) ?_
                refine xe_sn pg_39 2 (fr' := (132, [(5, .int (S.2.1 κ 4)), (4, .ref (ja_S c ((S.2.1 κ 5) - 1).toNatClampNeg)), (3, .int (S.2.1 κ 5)), (0, .ref (ja_C c)), (1, .ref (ja_L κ)), (2, .int hop)], [.ref (ja_S c ((S.2.1 κ 5) - 1).toNatClampNeg), .ref (ja_S c ((S.2.1 κ 5) - 1).toNatClampNeg)])) rfl ?_
                refine ye_gi pg_39 (S.1 175 (3 * c + ((S.2.1 κ 5) - 1).toNatClampNeg)) rfl rfl rfl (kk1 (k_S hc (bnd_lt g2))) ((show lx _ 2 175 _ from l_S hc (bnd_lt g2) (by decide)).rd _) ?_
                refine xe_sn pg_39 2 (fr' := (137, [(5, .int (S.2.1 κ 4)), (4, .ref (ja_S c ((S.2.1 κ 5) - 1).toNatClampNeg)), (3, .int (S.2.1 κ 5)), (0, .ref (ja_C c)), (1, .ref (ja_L κ)), (2, .int hop)], [.int ((S.1 175 (3 * c + ((S.2.1 κ 5) - 1).toNatClampNeg)) + 2), .ref (ja_S c ((S.2.1 κ 5) - 1).toNatClampNeg)])) rfl ?_
                refine ye_px pg_39 rfl rfl ⟨rfl, rfl⟩ (Or.inl rfl) (kk1 (k_S hc (bnd_lt g2))) (show lx _ 2 175 _ from l_S hc (bnd_lt g2) (by decide)) ?_
                cases hE
                exact xe_end pg_39 rfl
              · rw [if_neg h10] at hE
                refine xe_c2t pg_39 140 rfl rfl h10 ?_
                cases hE
                exact xe_end pg_39 rfl
            · rw [if_neg h9] at hE
              refine xe_c2t pg_39 140 rfl rfl h9 ?_
              cases hE
              exact xe_end pg_39 rfl
    · rw [if_neg h3] at hE
      refine xe_c2f pg_39 30 rfl rfl h3 ?_
      cases hE
      exact xe_end pg_39 rfl

def f_follows (S : xSt) (c : Nat) (κ : Nat) (hop : Int32) : Option (Int32 × xSt) := if (S.2.1 κ 4) = 2 then (if (S.1 167 c) = 1 then (if hop = ((S.1 168 c) - 1) then ((some (f_pair S κ 7)).bind fun r1 => (some (f_pair S κ 9)).bind fun r2 => (f_addsHop S c r1 r2).bind fun r3 => some ((if r3.1 = 0 then (0 : Int32) else 1), r3.2)) else (some (0, S))) else (some (0, S))) else (if (S.2.1 κ 4) = 3 then (some (0, S)) else (if (S.2.1 κ 4) = 4 then ((f_followOfStream S c κ hop).bind fun r4 => some (1, r4)) else (if (S.2.1 κ 4) = 5 then ((f_followOfStream S c κ hop).bind fun r5 => some (1, r5)) else (if (S.2.1 κ 4) = 6 then ((f_followOfStream S c κ hop).bind fun r6 => some (1, r6)) else (if (S.2.1 κ 4) = 7 then ((f_followOfStream S c κ hop).bind fun r7 => some (1, r7)) else (if (S.2.1 κ 4) = 8 then (some (0, S)) else (if (S.2.1 κ 4) = 9 then ((some (dropX (sx S 168 c (hop + 1)).1 c (hop + 1), (sx S 168 c (hop + 1)).2)).bind fun r8 => (some (f_becomeReady r8 c)).bind fun r9 => some (1, r9)) else (some (0, S)))))))))
set_option maxRecDepth 100000 in
theorem c_follows (d : Nat) {w : xWd} {S : xSt} {μ : Nat → Nat → Int32} {ρ : Nat → Nat → Int64} {c : Nat} {κ : Nat} {hop : Int32} (hc : c < 4) (hκ : κ < 22) {r : Int32 × xSt} (hE : (f_follows S c κ hop) = some r) : xc (d + 3) 38 [.ref (ja_C c), .ref (ja_L κ), .int hop] (hz w S μ ρ) (.inl (some (.int r.1)), hz w r.2 μ ρ) := by
  unfold f_follows at hE
  refine xe_sn pg_38 1 (fr' := (1, [(0, .ref (ja_C c)), (1, .ref (ja_L κ)), (2, .int hop)], [.ref (ja_L κ)])) rfl ?_
  refine xe_gr pg_38 (ja_B κ) rfl rfl rfl (kk1 (k_L hκ)) (r_L0 hκ _) ?_
  refine xe_sn pg_38 1 (fr' := (5, [(0, .ref (ja_C c)), (1, .ref (ja_L κ)), (2, .int hop)], [.int 4, .ref (ja_B κ)])) rfl ?_
  refine ye_il pg_38 4 (S.2.1 κ 4) rfl (k_B hκ) ⟨by decide, by decide⟩ rfl ((l_B hκ (k := 4) (by decide)).rd _) ?_
  by_cases h1 : (S.2.1 κ 4) = 2
  · rw [if_pos h1] at hE
    refine xe_sw pg_38 52 h1 rfl ?_
    refine xe_sn pg_38 1 (fr' := (53, [(0, .ref (ja_C c)), (1, .ref (ja_L κ)), (2, .int hop)], [.ref (ja_C c)])) rfl ?_
    refine ye_gi pg_38 (S.1 167 c) rfl rfl rfl (kk1 (k_C hc)) ((l_C5 hc).rd _) ?_
    refine xe_sn pg_38 1 (fr' := (57, [(0, .ref (ja_C c)), (1, .ref (ja_L κ)), (2, .int hop)], [.int 1, .int (S.1 167 c)])) rfl ?_
    by_cases h2 : (S.1 167 c) = 1
    · rw [if_pos h2] at hE
      refine xe_c2f pg_38 93 rfl rfl (fun z => z h2) ?_
      refine xe_sn pg_38 2 (fr' := (62, [(0, .ref (ja_C c)), (1, .ref (ja_L κ)), (2, .int hop)], [.ref (ja_C c), .int hop])) rfl ?_
      refine ye_gi pg_38 (S.1 168 c) rfl rfl rfl (kk1 (k_C hc)) ((l_C6 hc).rd _) ?_
      refine xe_sn pg_38 2 (fr' := (67, [(0, .ref (ja_C c)), (1, .ref (ja_L κ)), (2, .int hop)], [.int ((S.1 168 c) - 1), .int hop])) rfl ?_
      by_cases h3 : hop = ((S.1 168 c) - 1)
      · rw [if_pos h3] at hE
        refine xe_c2f pg_38 93 rfl rfl (fun z => z h3) ?_
        refine xe_sn pg_38 3 (fr' := (74, [(0, .ref (ja_C c)), (1, .ref (ja_L κ)), (2, .int hop)], [.int 7, .ref (ja_L κ), .ref (ja_C c)])) rfl ?_
        obtain ⟨r1, e1, hE⟩ := Option.bind_eq_some_iff.mp hE
        refine xe_cv pg_38 9 pg_9 [.int 7] [.ref (ja_C c)] (some (.int r1)) rfl rfl rfl rfl ⟨Nat.le_of_ble_eq_true rfl, Nat.le_of_ble_eq_true rfl, Nat.le_of_ble_eq_true rfl⟩ ⟨rfl, rfl⟩ (kk2 (k_L hκ) (by decide)) (c_pair _ (κ := κ) (k := 7) hκ (by omega) (Option.some.inj e1)) ?_
        refine xe_sn pg_38 2 (fr' := (80, [(0, .ref (ja_C c)), (1, .ref (ja_L κ)), (2, .int hop)], [.int 9, .ref (ja_L κ), .int r1, .ref (ja_C c)])) rfl ?_
        obtain ⟨r2, e2, hE⟩ := Option.bind_eq_some_iff.mp hE
        refine xe_cv pg_38 9 pg_9 [.int 9] [.int r1, .ref (ja_C c)] (some (.int r2)) rfl rfl rfl rfl ⟨Nat.le_of_ble_eq_true rfl, Nat.le_of_ble_eq_true rfl, Nat.le_of_ble_eq_true rfl⟩ ⟨rfl, rfl⟩ (kk2 (k_L hκ) (by decide)) (c_pair _ (κ := κ) (k := 9) hκ (by omega) (Option.some.inj e2)) ?_
        obtain ⟨r3, e3, hE⟩ := Option.bind_eq_some_iff.mp hE
        refine xe_cv pg_38 35 pg_35 [.int r1, .int r2] [] (some (.int r3.1)) rfl rfl rfl rfl ⟨Nat.le_of_ble_eq_true rfl, Nat.le_of_ble_eq_true rfl, Nat.le_of_ble_eq_true rfl⟩ ⟨rfl, rfl⟩ (kk2 (k_C hc) (by decide)) (c_addsHop _ (c := c) (y := r1) (tg := r2) hc e3) ?_
        refine xe_jn (fr' := (94, [(0, .ref (ja_C c)), (1, .ref (ja_L κ)), (2, .int hop)], [.int (if r3.1 = 0 then (0 : Int32) else 1)])) (fun J4 => ?_) ?_
        · by_cases h4 : r3.1 = 0
          · rw [show (if r3.1 = 0 then (0 : Int32) else 1) = 0 from if_pos h4] at J4
            refine xe_c1t pg_38 93 rfl rfl h4 ?_
            refine xe_sn pg_38 1 (fr' := (94, [(0, .ref (ja_C c)), (1, .ref (ja_L κ)), (2, .int hop)], [.int 0])) rfl ?_
            exact J4
          · rw [show (if r3.1 = 0 then (0 : Int32) else 1) = 1 from if_neg h4] at J4
            refine xe_c1f pg_38 93 rfl rfl h4 ?_
            refine xe_sn pg_38 2 (fr' := (94, [(0, .ref (ja_C c)), (1, .ref (ja_L κ)), (2, .int hop)], [.int 1])) rfl ?_
            exact J4
        cases hE
        exact xe_rb pg_38 rfl rfl (ite_b (Or.inl rfl) (Or.inr rfl))
      · rw [if_neg h3] at hE
        refine xe_c2t pg_38 93 rfl rfl h3 ?_
        refine xe_sn pg_38 1 (fr' := (94, [(0, .ref (ja_C c)), (1, .ref (ja_L κ)), (2, .int hop)], [.int 0])) rfl ?_
        cases hE
        exact xe_end pg_38 rfl
    · rw [if_neg h2] at hE
      refine xe_c2t pg_38 93 rfl rfl h2 ?_
      refine xe_sn pg_38 1 (fr' := (94, [(0, .ref (ja_C c)), (1, .ref (ja_L κ)), (2, .int hop)], [.int 0])) rfl ?_
      cases hE
      exact xe_end pg_38 rfl
  · rw [if_neg h1] at hE
    by_cases h5 : (S.2.1 κ 4) = 3
    · rw [if_pos h5] at hE
      refine xe_sw pg_38 124 h5 rfl ?_
      refine xe_sn pg_38 1 (fr' := (125, [(0, .ref (ja_C c)), (1, .ref (ja_L κ)), (2, .int hop)], [.int 0])) rfl ?_
      cases hE
      exact xe_end pg_38 rfl
    · rw [if_neg h5] at hE
      by_cases h6 : (S.2.1 κ 4) = 4
      · rw [if_pos h6] at hE
        refine xe_sw pg_38 95 h6 rfl ?_
        refine xe_sn pg_38 3 (fr' := (98, [(0, .ref (ja_C c)), (1, .ref (ja_L κ)), (2, .int hop)], [.int hop, .ref (ja_L κ), .ref (ja_C c)])) rfl ?_
        obtain ⟨r4, e4, hE⟩ := Option.bind_eq_some_iff.mp hE
        refine xe_cv pg_38 39 pg_39 [.ref (ja_L κ), .int hop] [] (none) rfl rfl rfl rfl ⟨Nat.le_of_ble_eq_true rfl, Nat.le_of_ble_eq_true rfl, Nat.le_of_ble_eq_true rfl⟩ ⟨rfl, rfl⟩ (kk2 (k_C hc) (by decide)) (c_followOfStream _ (c := c) (κ := κ) (hop := hop) hc hκ e4) ?_
        refine xe_sn pg_38 1 (fr' := (102, [(0, .ref (ja_C c)), (1, .ref (ja_L κ)), (2, .int hop)], [.int 1])) rfl ?_
        cases hE
        exact xe_end pg_38 rfl
      · rw [if_neg h6] at hE
        by_cases h7 : (S.2.1 κ 4) = 5
        · rw [if_pos h7] at hE
          refine xe_sw pg_38 95 h7 rfl ?_
          refine xe_sn pg_38 3 (fr' := (98, [(0, .ref (ja_C c)), (1, .ref (ja_L κ)), (2, .int hop)], [.int hop, .ref (ja_L κ), .ref (ja_C c)])) rfl ?_
          obtain ⟨r5, e5, hE⟩ := Option.bind_eq_some_iff.mp hE
          refine xe_cv pg_38 39 pg_39 [.ref (ja_L κ), .int hop] [] (none) rfl rfl rfl rfl ⟨Nat.le_of_ble_eq_true rfl, Nat.le_of_ble_eq_true rfl, Nat.le_of_ble_eq_true rfl⟩ ⟨rfl, rfl⟩ (kk2 (k_C hc) (by decide)) (c_followOfStream _ (c := c) (κ := κ) (hop := hop) hc hκ e5) ?_
          refine xe_sn pg_38 1 (fr' := (102, [(0, .ref (ja_C c)), (1, .ref (ja_L κ)), (2, .int hop)], [.int 1])) rfl ?_
          cases hE
          exact xe_end pg_38 rfl
        · rw [if_neg h7] at hE
          by_cases h8 : (S.2.1 κ 4) = 6
          · rw [if_pos h8] at hE
            refine xe_sw pg_38 95 h8 rfl ?_
            refine xe_sn pg_38 3 (fr' := (98, [(0, .ref (ja_C c)), (1, .ref (ja_L κ)), (2, .int hop)], [.int hop, .ref (ja_L κ), .ref (ja_C c)])) rfl ?_
            obtain ⟨r6, e6, hE⟩ := Option.bind_eq_some_iff.mp hE
            refine xe_cv pg_38 39 pg_39 [.ref (ja_L κ), .int hop] [] (none) rfl rfl rfl rfl ⟨Nat.le_of_ble_eq_true rfl, Nat.le_of_ble_eq_true rfl, Nat.le_of_ble_eq_true rfl⟩ ⟨rfl, rfl⟩ (kk2 (k_C hc) (by decide)) (c_followOfStream _ (c := c) (κ := κ) (hop := hop) hc hκ e6) ?_
            refine xe_sn pg_38 1 (fr' := (102, [(0, .ref (ja_C c)), (1, .ref (ja_L κ)), (2, .int hop)], [.int 1])) rfl ?_
            cases hE
            exact xe_end pg_38 rfl
          · rw [if_neg h8] at hE
            by_cases h9 : (S.2.1 κ 4) = 7
            · rw [if_pos h9] at hE
              refine xe_sw pg_38 95 h9 rfl ?_
              refine xe_sn pg_38 3 (fr' := (98, [(0, .ref (ja_C c)), (1, .ref (ja_L κ)), (2, .int hop)], [.int hop, .ref (ja_L κ), .ref (ja_C c)])) rfl ?_
              obtain ⟨r7, e7, hE⟩ := Option.bind_eq_some_iff.mp hE
              refine xe_cv pg_38 39 pg_39 [.ref (ja_L κ), .int hop] [] (none) rfl rfl rfl rfl ⟨Nat.le_of_ble_eq_true rfl, Nat.le_of_ble_eq_true rfl, Nat.le_of_ble_eq_true rfl⟩ ⟨rfl, rfl⟩ (kk2 (k_C hc) (by decide)) (c_followOfStream _ (c := c) (κ := κ) (hop := hop) hc hκ e7) ?_
              refine xe_sn pg_38 1 (fr' := (102, [(0, .ref (ja_C c)), (1, .ref (ja_L κ)), (2, .int hop)], [.int 1])) rfl ?_
              cases hE
              exact xe_end pg_38 rfl
            · rw [if_neg h9] at hE
              by_cases h10 : (S.2.1 κ 4) = 8
              · rw [if_pos h10] at hE
                refine xe_sw pg_38 124 h10 rfl ?_
                refine xe_sn pg_38 1 (fr' := (125, [(0, .ref (ja_C c)), (1, .ref (ja_L κ)), (2, .int hop)], [.int 0])) rfl ?_
                cases hE
                exact xe_end pg_38 rfl
              · rw [if_neg h10] at hE
                by_cases h11 : (S.2.1 κ 4) = 9
                · rw [if_pos h11] at hE
                  refine xe_sw pg_38 103 h11 rfl ?_
                  refine xe_sn pg_38 4 (fr' := (107, [(0, .ref (ja_C c)), (1, .ref (ja_L κ)), (2, .int hop)], [.int (hop + 1), .ref (ja_C c)])) rfl ?_
                  refine ye_px pg_38 rfl rfl ⟨rfl, rfl⟩ (Or.inl rfl) (kk1 (k_C hc)) (l_C6 hc) ?_
                  refine xe_sn pg_38 2 (fr' := (112, [(0, .ref (ja_C c)), (1, .ref (ja_L κ)), (2, .int hop)], [.ref (ja_C c), .ref (ja_C c)])) rfl ?_
                  refine ye_gi pg_38 (hop + 1) rfl rfl rfl (kk1 (k_C hc)) (((l_C6 hc).rd _).trans (u2_same S.1 168 c (hop + 1))) ?_
                  obtain ⟨r8, e8, hE⟩ := Option.bind_eq_some_iff.mp hE
                  have e8q := Option.some.inj e8
                  refine xe_cv pg_38 31 pg_31 [.int (hop + 1)] [] (none) rfl rfl rfl rfl ⟨Nat.le_of_ble_eq_true rfl, Nat.le_of_ble_eq_true rfl, Nat.le_of_ble_eq_true rfl⟩ ⟨rfl, rfl⟩ (kk2 (k_C hc) (by decide)) (e8q ▸ c_drop _ (c := c) (hop := (hop + 1)) hc) ?_
                  refine xe_sn pg_38 1 (fr' := (119, [(0, .ref (ja_C c)), (1, .ref (ja_L κ)), (2, .int hop)], [.ref (ja_C c)])) rfl ?_
                  obtain ⟨r9, e9, hE⟩ := Option.bind_eq_some_iff.mp hE
                  refine xe_cv pg_38 36 pg_36 [] [] (none) rfl rfl rfl rfl ⟨Nat.le_of_ble_eq_true rfl, Nat.le_of_ble_eq_true rfl, Nat.le_of_ble_eq_true rfl⟩ ⟨rfl, rfl⟩ (kk2 (k_C hc) (by decide)) (c_becomeReady _ (c := c) hc (Option.some.inj e9)) ?_
                  refine xe_sn pg_38 1 (fr' := (123, [(0, .ref (ja_C c)), (1, .ref (ja_L κ)), (2, .int hop)], [.int 1])) rfl ?_
                  cases hE
                  exact xe_end pg_38 rfl
                · rw [if_neg h11] at hE
                  refine xe_tsd pg_38 124 rfl rfl (sw_out 2 9 (by decide) (by decide) (fun j hj1 hj2 => ?_)) ?_
                  · rcases (by omega : j = 2 ∨ j = 3 ∨ j = 4 ∨ j = 5 ∨ j = 6 ∨ j = 7 ∨ j = 8 ∨ j = 9) with e | e | e | e | e | e | e | e <;> subst e <;> assumption
                  refine xe_sn pg_38 1 (fr' := (125, [(0, .ref (ja_C c)), (1, .ref (ja_L κ)), (2, .int hop)], [.int 0])) rfl ?_
                  cases hE
                  exact xe_end pg_38 rfl
theorem b_follows {S : xSt} {c : Nat} {κ : Nat} {hop : Int32} {r : Int32 × xSt} (hE : (f_follows S c κ hop) = some r) : r.1 = 0 ∨ r.1 = 1 := by
  unfold f_follows at hE
  by_cases h1 : (S.2.1 κ 4) = 2
  · rw [if_pos h1] at hE
    by_cases h2 : (S.1 167 c) = 1
    · rw [if_pos h2] at hE
      by_cases h3 : hop = ((S.1 168 c) - 1)
      · rw [if_pos h3] at hE
        obtain ⟨r1, e1, hE⟩ := Option.bind_eq_some_iff.mp hE
        obtain ⟨r2, e2, hE⟩ := Option.bind_eq_some_iff.mp hE
        obtain ⟨r3, e3, hE⟩ := Option.bind_eq_some_iff.mp hE
        cases hE
        exact (ite_b (Or.inl rfl) (Or.inr rfl))
      · rw [if_neg h3] at hE
        cases hE
        exact Or.inl rfl
    · rw [if_neg h2] at hE
      cases hE
      exact Or.inl rfl
  · rw [if_neg h1] at hE
    by_cases h5 : (S.2.1 κ 4) = 3
    · rw [if_pos h5] at hE
      cases hE
      exact Or.inl rfl
    · rw [if_neg h5] at hE
      by_cases h6 : (S.2.1 κ 4) = 4
      · rw [if_pos h6] at hE
        obtain ⟨r4, e4, hE⟩ := Option.bind_eq_some_iff.mp hE
        cases hE
        exact Or.inr rfl
      · rw [if_neg h6] at hE
        by_cases h7 : (S.2.1 κ 4) = 5
        · rw [if_pos h7] at hE
          obtain ⟨r5, e5, hE⟩ := Option.bind_eq_some_iff.mp hE
          cases hE
          exact Or.inr rfl
        · rw [if_neg h7] at hE
          by_cases h8 : (S.2.1 κ 4) = 6
          · rw [if_pos h8] at hE
            obtain ⟨r6, e6, hE⟩ := Option.bind_eq_some_iff.mp hE
            cases hE
            exact Or.inr rfl
          · rw [if_neg h8] at hE
            by_cases h9 : (S.2.1 κ 4) = 7
            · rw [if_pos h9] at hE
              obtain ⟨r7, e7, hE⟩ := Option.bind_eq_some_iff.mp hE
              cases hE
              exact Or.inr rfl
            · rw [if_neg h9] at hE
              by_cases h10 : (S.2.1 κ 4) = 8
              · rw [if_pos h10] at hE
                cases hE
                exact Or.inl rfl
              · rw [if_neg h10] at hE
                by_cases h11 : (S.2.1 κ 4) = 9
                · rw [if_pos h11] at hE
                  obtain ⟨r8, e8, hE⟩ := Option.bind_eq_some_iff.mp hE
                  obtain ⟨r9, e9, hE⟩ := Option.bind_eq_some_iff.mp hE
                  cases hE
                  exact Or.inr rfl
                · rw [if_neg h11] at hE
                  cases hE
                  exact Or.inl rfl

def f_takesRelay (S : xSt) (c : Nat) (κ : Nat) : Option (Int32 × xSt) := if (S.1 168 c) = 0 then (some (0, S)) else ((f_isKnown S c κ).bind fun r1 => if r1.1 = 0 then ((f_shut r1.2 c).bind fun r2 => some (1, r2)) else ((f_follows r1.2 c κ (r1.2.2.1 κ 18)).bind fun r3 => if r3.1 = 0 then ((f_shut r3.2 c).bind fun r4 => some (1, r4)) else (some (1, r3.2))))
set_option maxRecDepth 100000 in
theorem c_takesRelay (d : Nat) {w : xWd} {S : xSt} {μ : Nat → Nat → Int32} {ρ : Nat → Nat → Int64} {c : Nat} {κ : Nat} (hc : c < 4) (hκ : κ < 22) {r : Int32 × xSt} (hE : (f_takesRelay S c κ) = some r) : xc (d + 4) 34 [.ref (ja_C c), .ref (ja_L κ)] (hz w S μ ρ) (.inl (some (.int r.1)), hz w r.2 μ ρ) := by
  unfold f_takesRelay at hE
  refine xe_sn pg_34 1 (fr' := (1, [(0, .ref (ja_C c)), (1, .ref (ja_L κ))], [.ref (ja_C c)])) rfl ?_
  refine ye_gi pg_34 (S.1 168 c) rfl rfl rfl (kk1 (k_C hc)) ((l_C6 hc).rd _) ?_
  by_cases h1 : (S.1 168 c) = 0
  · rw [if_pos h1] at hE
    refine xe_c1f pg_34 9 rfl rfl (fun z => z h1) ?_
    refine xe_sn pg_34 1 (fr' := (8, [(0, .ref (ja_C c)), (1, .ref (ja_L κ))], [.int 0])) rfl ?_
    cases hE
    exact xe_end pg_34 rfl
  · rw [if_neg h1] at hE
    refine xe_c1t pg_34 9 rfl rfl h1 ?_
    refine xe_sn pg_34 2 (fr' := (11, [(0, .ref (ja_C c)), (1, .ref (ja_L κ))], [.ref (ja_L κ), .ref (ja_C c)])) rfl ?_
    obtain ⟨r1, e1, hE⟩ := Option.bind_eq_some_iff.mp hE
    refine xe_cv pg_34 37 pg_37 [.ref (ja_L κ)] [] (some (.int r1.1)) rfl rfl rfl rfl ⟨Nat.le_of_ble_eq_true rfl, Nat.le_of_ble_eq_true rfl, Nat.le_of_ble_eq_true rfl⟩ ⟨rfl, rfl⟩ (kk2 (k_C hc) (by decide)) (c_isKnown _ (c := c) (κ := κ) hc hκ e1) ?_
    by_cases h2 : r1.1 = 0
    · rw [if_pos h2] at hE
      refine xe_c1t pg_34 29 rfl rfl h2 ?_
      refine xe_sn pg_34 1 (fr' := (30, [(0, .ref (ja_C c)), (1, .ref (ja_L κ))], [.ref (ja_C c)])) rfl ?_
      obtain ⟨r2, e2, hE⟩ := Option.bind_eq_some_iff.mp hE
      refine xe_cv pg_34 29 pg_29 [] [] (none) rfl rfl rfl rfl ⟨Nat.le_of_ble_eq_true rfl, Nat.le_of_ble_eq_true rfl, Nat.le_of_ble_eq_true rfl⟩ ⟨rfl, rfl⟩ (kk2 (k_C hc) (by decide)) (c_shut _ (c := c) hc e2) ?_
      refine xe_sn pg_34 1 (fr' := (34, [(0, .ref (ja_C c)), (1, .ref (ja_L κ))], [.int 1])) rfl ?_
      cases hE
      exact xe_end pg_34 rfl
    · rw [if_neg h2] at hE
      refine xe_c1f pg_34 29 rfl rfl h2 ?_
      refine xe_sn pg_34 3 (fr' := (20, [(0, .ref (ja_C c)), (1, .ref (ja_L κ))], [.ref (ja_L κ), .ref (ja_L κ), .ref (ja_C c)])) rfl ?_
      refine ye_gi pg_34 (r1.2.2.1 κ 18) rfl rfl rfl (kk1 (k_L hκ)) ((show ly _ 5 κ 18 from l_L hκ (by decide) (by decide)).rd _) ?_
      obtain ⟨r3, e3, hE⟩ := Option.bind_eq_some_iff.mp hE
      refine xe_cv pg_34 38 pg_38 [.ref (ja_L κ), .int (r1.2.2.1 κ 18)] [] (some (.int r3.1)) rfl rfl rfl rfl ⟨Nat.le_of_ble_eq_true rfl, Nat.le_of_ble_eq_true rfl, Nat.le_of_ble_eq_true rfl⟩ ⟨rfl, rfl⟩ (kk2 (k_C hc) (by decide)) (c_follows _ (c := c) (κ := κ) (hop := (r1.2.2.1 κ 18)) hc hκ e3) ?_
      by_cases h3 : r3.1 = 0
      · rw [if_pos h3] at hE
        refine xe_c1f pg_34 33 rfl rfl (fun z => z h3) ?_
        refine xe_sn pg_34 1 (fr' := (30, [(0, .ref (ja_C c)), (1, .ref (ja_L κ))], [.ref (ja_C c)])) rfl ?_
        obtain ⟨r4, e4, hE⟩ := Option.bind_eq_some_iff.mp hE
        refine xe_cv pg_34 29 pg_29 [] [] (none) rfl rfl rfl rfl ⟨Nat.le_of_ble_eq_true rfl, Nat.le_of_ble_eq_true rfl, Nat.le_of_ble_eq_true rfl⟩ ⟨rfl, rfl⟩ (kk2 (k_C hc) (by decide)) (c_shut _ (c := c) hc e4) ?_
        refine xe_sn pg_34 1 (fr' := (34, [(0, .ref (ja_C c)), (1, .ref (ja_L κ))], [.int 1])) rfl ?_
        cases hE
        exact xe_end pg_34 rfl
      · rw [if_neg h3] at hE
        refine xe_c1t pg_34 33 rfl rfl h3 ?_
        refine xe_sn pg_34 1 (fr' := (34, [(0, .ref (ja_C c)), (1, .ref (ja_L κ))], [.int 1])) rfl ?_
        cases hE
        exact xe_end pg_34 rfl
theorem b_takesRelay {S : xSt} {c : Nat} {κ : Nat} {r : Int32 × xSt} (hE : (f_takesRelay S c κ) = some r) : r.1 = 0 ∨ r.1 = 1 := by
  unfold f_takesRelay at hE
  by_cases h1 : (S.1 168 c) = 0
  · rw [if_pos h1] at hE
    cases hE
    exact Or.inl rfl
  · rw [if_neg h1] at hE
    obtain ⟨r1, e1, hE⟩ := Option.bind_eq_some_iff.mp hE
    by_cases h2 : r1.1 = 0
    · rw [if_pos h2] at hE
      obtain ⟨r2, e2, hE⟩ := Option.bind_eq_some_iff.mp hE
      cases hE
      exact Or.inr rfl
    · rw [if_neg h2] at hE
      obtain ⟨r3, e3, hE⟩ := Option.bind_eq_some_iff.mp hE
      by_cases h3 : r3.1 = 0
      · rw [if_pos h3] at hE
        obtain ⟨r4, e4, hE⟩ := Option.bind_eq_some_iff.mp hE
        cases hE
        exact Or.inr rfl
      · rw [if_neg h3] at hE
        cases hE
        exact Or.inr rfl

def f_takes (S : xSt) (c : Nat) (κ : Nat) : Option (Int32 × xSt) := (some (f_isLive S c)).bind fun r1 => if r1 = 0 then (some (0, S)) else ((some (f_firstRelay S c)).bind fun r2 => if (S.2.1 κ 14) = r2 then (if (S.2.1 κ 17) = 2 then ((f_takesCreated S c κ).bind fun r3 => some (r3.1, r3.2)) else (if (S.2.1 κ 17) = 3 then ((f_takesRelay S c κ).bind fun r4 => some (r4.1, r4.2)) else (if (S.2.1 κ 17) = 4 then ((some (f_becomeClosed S c)).bind fun r5 => some (1, r5)) else (some (0, S))))) else (some (0, S)))
set_option maxRecDepth 100000 in
theorem c_takes (d : Nat) {w : xWd} {S : xSt} {μ : Nat → Nat → Int32} {ρ : Nat → Nat → Int64} {c : Nat} {κ : Nat} (hc : c < 4) (hκ : κ < 22) {r : Int32 × xSt} (hE : (f_takes S c κ) = some r) : xc (d + 5) 32 [.ref (ja_C c), .ref (ja_L κ)] (hz w S μ ρ) (.inl (some (.int r.1)), hz w r.2 μ ρ) := by
  unfold f_takes at hE
  refine xe_sn pg_32 1 (fr' := (1, [(0, .ref (ja_C c)), (1, .ref (ja_L κ))], [.ref (ja_C c)])) rfl ?_
  obtain ⟨r1, e1, hE⟩ := Option.bind_eq_some_iff.mp hE
  refine xe_cv pg_32 16 pg_16 [] [] (some (.int r1)) rfl rfl rfl rfl ⟨Nat.le_of_ble_eq_true rfl, Nat.le_of_ble_eq_true rfl, Nat.le_of_ble_eq_true rfl⟩ ⟨rfl, rfl⟩ (kk2 (k_C hc) (by decide)) (c_isLive _ (c := c) hc (Option.some.inj e1)) ?_
  by_cases h1 : r1 = 0
  · rw [if_pos h1] at hE
    refine xe_c1t pg_32 18 rfl rfl h1 ?_
    refine xe_sn pg_32 1 (fr' := (19, [(0, .ref (ja_C c)), (1, .ref (ja_L κ))], [.int 0])) rfl ?_
    cases hE
    exact xe_end pg_32 rfl
  · rw [if_neg h1] at hE
    refine xe_c1f pg_32 18 rfl rfl h1 ?_
    refine xe_sn pg_32 1 (fr' := (8, [(0, .ref (ja_C c)), (1, .ref (ja_L κ))], [.ref (ja_L κ)])) rfl ?_
    refine ye_gi pg_32 (S.2.1 κ 14) rfl rfl rfl (kk1 (k_L hκ)) ((show ly _ 1 κ 14 from l_L hκ (by decide) (by decide)).rd _) ?_
    refine xe_sn pg_32 1 (fr' := (12, [(0, .ref (ja_C c)), (1, .ref (ja_L κ))], [.ref (ja_C c), .int (S.2.1 κ 14)])) rfl ?_
    obtain ⟨r2, e2, hE⟩ := Option.bind_eq_some_iff.mp hE
    refine xe_cv pg_32 28 pg_28 [] [.int (S.2.1 κ 14)] (some (.int r2)) rfl rfl rfl rfl ⟨Nat.le_of_ble_eq_true rfl, Nat.le_of_ble_eq_true rfl, Nat.le_of_ble_eq_true rfl⟩ ⟨rfl, rfl⟩ (kk2 (k_C hc) (by decide)) (c_firstRelay _ (c := c) hc (Option.some.inj e2)) ?_
    by_cases h2 : (S.2.1 κ 14) = r2
    · rw [if_pos h2] at hE
      refine xe_c2t pg_32 20 rfl rfl h2 ?_
      refine xe_sn pg_32 1 (fr' := (21, [(0, .ref (ja_C c)), (1, .ref (ja_L κ))], [.ref (ja_L κ)])) rfl ?_
      refine ye_gi pg_32 (S.2.1 κ 17) rfl rfl rfl (kk1 (k_L hκ)) ((show ly _ 4 κ 17 from l_L hκ (by decide) (by decide)).rd _) ?_
      by_cases h3 : (S.2.1 κ 17) = 2
      · rw [if_pos h3] at hE
        refine xe_sw pg_32 52 h3 rfl ?_
        refine xe_sn pg_32 2 (fr' := (54, [(0, .ref (ja_C c)), (1, .ref (ja_L κ))], [.ref (ja_L κ), .ref (ja_C c)])) rfl ?_
        obtain ⟨r3, e3, hE⟩ := Option.bind_eq_some_iff.mp hE
        refine xe_cv pg_32 33 pg_33 [.ref (ja_L κ)] [] (some (.int r3.1)) rfl rfl rfl rfl ⟨Nat.le_of_ble_eq_true rfl, Nat.le_of_ble_eq_true rfl, Nat.le_of_ble_eq_true rfl⟩ ⟨rfl, rfl⟩ (kk2 (k_C hc) (by decide)) (c_takesCreated _ (c := c) (κ := κ) hc hκ e3) ?_
        cases hE
        exact xe_rb pg_32 rfl rfl (b_takesCreated e3)
      · rw [if_neg h3] at hE
        by_cases h4 : (S.2.1 κ 17) = 3
        · rw [if_pos h4] at hE
          refine xe_sw pg_32 58 h4 rfl ?_
          refine xe_sn pg_32 2 (fr' := (60, [(0, .ref (ja_C c)), (1, .ref (ja_L κ))], [.ref (ja_L κ), .ref (ja_C c)])) rfl ?_
          obtain ⟨r4, e4, hE⟩ := Option.bind_eq_some_iff.mp hE
          refine xe_cv pg_32 34 pg_34 [.ref (ja_L κ)] [] (some (.int r4.1)) rfl rfl rfl rfl ⟨Nat.le_of_ble_eq_true rfl, Nat.le_of_ble_eq_true rfl, Nat.le_of_ble_eq_true rfl⟩ ⟨rfl, rfl⟩ (kk2 (k_C hc) (by decide)) (c_takesRelay _ (c := c) (κ := κ) hc hκ e4) ?_
          cases hE
          exact xe_rb pg_32 rfl rfl (b_takesRelay e4)
        · rw [if_neg h4] at hE
          by_cases h5 : (S.2.1 κ 17) = 4
          · rw [if_pos h5] at hE
            refine xe_sw pg_32 64 h5 rfl ?_
            refine xe_sn pg_32 1 (fr' := (65, [(0, .ref (ja_C c)), (1, .ref (ja_L κ))], [.ref (ja_C c)])) rfl ?_
            obtain ⟨r5, e5, hE⟩ := Option.bind_eq_some_iff.mp hE
            refine xe_cv pg_32 30 pg_30 [] [] (none) rfl rfl rfl rfl ⟨Nat.le_of_ble_eq_true rfl, Nat.le_of_ble_eq_true rfl, Nat.le_of_ble_eq_true rfl⟩ ⟨rfl, rfl⟩ (kk2 (k_C hc) (by decide)) (c_becomeClosed _ (c := c) hc (Option.some.inj e5)) ?_
            refine xe_sn pg_32 1 (fr' := (69, [(0, .ref (ja_C c)), (1, .ref (ja_L κ))], [.int 1])) rfl ?_
            cases hE
            exact xe_end pg_32 rfl
          · rw [if_neg h5] at hE
            refine xe_tsd pg_32 70 rfl rfl (sw_out 2 4 (by decide) (by decide) (fun j hj1 hj2 => ?_)) ?_
            · rcases (by omega : j = 2 ∨ j = 3 ∨ j = 4) with e | e | e <;> subst e <;> assumption
            refine xe_sn pg_32 1 (fr' := (71, [(0, .ref (ja_C c)), (1, .ref (ja_L κ))], [.int 0])) rfl ?_
            cases hE
            exact xe_end pg_32 rfl
    · rw [if_neg h2] at hE
      refine xe_c2f pg_32 20 rfl rfl h2 ?_
      refine xe_sn pg_32 1 (fr' := (19, [(0, .ref (ja_C c)), (1, .ref (ja_L κ))], [.int 0])) rfl ?_
      cases hE
      exact xe_end pg_32 rfl
theorem b_takes {S : xSt} {c : Nat} {κ : Nat} {r : Int32 × xSt} (hE : (f_takes S c κ) = some r) : r.1 = 0 ∨ r.1 = 1 := by
  unfold f_takes at hE
  obtain ⟨r1, e1, hE⟩ := Option.bind_eq_some_iff.mp hE
  by_cases h1 : r1 = 0
  · rw [if_pos h1] at hE
    cases hE
    exact Or.inl rfl
  · rw [if_neg h1] at hE
    obtain ⟨r2, e2, hE⟩ := Option.bind_eq_some_iff.mp hE
    by_cases h2 : (S.2.1 κ 14) = r2
    · rw [if_pos h2] at hE
      by_cases h3 : (S.2.1 κ 17) = 2
      · rw [if_pos h3] at hE
        obtain ⟨r3, e3, hE⟩ := Option.bind_eq_some_iff.mp hE
        cases hE
        exact (b_takesCreated e3)
      · rw [if_neg h3] at hE
        by_cases h4 : (S.2.1 κ 17) = 3
        · rw [if_pos h4] at hE
          obtain ⟨r4, e4, hE⟩ := Option.bind_eq_some_iff.mp hE
          cases hE
          exact (b_takesRelay e4)
        · rw [if_neg h4] at hE
          by_cases h5 : (S.2.1 κ 17) = 4
          · rw [if_pos h5] at hE
            obtain ⟨r5, e5, hE⟩ := Option.bind_eq_some_iff.mp hE
            cases hE
            exact Or.inr rfl
          · rw [if_neg h5] at hE
            cases hE
            exact Or.inl rfl
    · rw [if_neg h2] at hE
      cases hE
      exact Or.inl rfl

def f_rtakes (S : xSt) (i : Nat) (κ : Nat) : Option (Int32 × xSt) := if bnd (S.2.1 κ 16) 4 then (if (S.2.1 κ 17) = 1 then ((f_takesCreate S i κ (S.2.1 κ 16).toNatClampNeg).bind fun r1 => some (r1.1, r1.2)) else (if (S.2.1 κ 17) = 2 then ((f_ptakesCreated S i (S.2.1 κ 16).toNatClampNeg κ).bind fun r2 => some (r2.1, r2.2)) else (if (S.2.1 κ 17) = 3 then ((f_ptakesRelay S i (S.2.1 κ 16).toNatClampNeg κ).bind fun r3 => some (r3.1, r3.2)) else ((f_ptakesDestroy S i (S.2.1 κ 16).toNatClampNeg κ).bind fun r4 => some (r4.1, r4.2))))) else none
set_option maxRecDepth 100000 in
theorem c_rtakes (d : Nat) {w : xWd} {S : xSt} {μ : Nat → Nat → Int32} {ρ : Nat → Nat → Int64} {i : Nat} {κ : Nat} (hi : i < 4) (hκ : κ < 22) {r : Int32 × xSt} (hE : (f_rtakes S i κ) = some r) : xc (d + 6) 65 [.ref (ja_R i), .ref (ja_L κ)] (hz w S μ ρ) (.inl (some (.int r.1)), hz w r.2 μ ρ) := by
  unfold f_rtakes at hE
  refine xe_sn pg_65 1 (fr' := (1, [(0, .ref (ja_R i)), (1, .ref (ja_L κ))], [.ref (ja_R i)])) rfl ?_
  refine xe_gr pg_65 (ja_Q i) rfl rfl rfl (kk1 (k_R hi)) (r_R0 hi _) ?_
  refine xe_sn pg_65 1 (fr' := (5, [(0, .ref (ja_R i)), (1, .ref (ja_L κ))], [.ref (ja_L κ), .ref (ja_Q i)])) rfl ?_
  refine ye_gi pg_65 (S.2.1 κ 16) rfl rfl rfl (kk1 (k_L hκ)) ((show ly _ 3 κ 16 from l_L hκ (by decide) (by decide)).rd _) ?_
  by_cases g1 : bnd (S.2.1 κ 16) 4
  case neg => rw [if_neg g1] at hE; cases hE
  rw [if_pos g1] at hE
  refine xe_al pg_65 (S.2.1 κ 16).toNatClampNeg (ja_P i (S.2.1 κ 16).toNatClampNeg) rfl (k_Q hi) ⟨by decide, by decide⟩ g1 rfl (r_Q hi (bnd_lt g1) _) ?_
  refine xe_sn pg_65 2 (fr' := (11, [(2, .ref (ja_P i (S.2.1 κ 16).toNatClampNeg)), (0, .ref (ja_R i)), (1, .ref (ja_L κ))], [.ref (ja_L κ)])) rfl ?_
  refine ye_gi pg_65 (S.2.1 κ 17) rfl rfl rfl (kk1 (k_L hκ)) ((show ly _ 4 κ 17 from l_L hκ (by decide) (by decide)).rd _) ?_
  by_cases h2 : (S.2.1 κ 17) = 1
  · rw [if_pos h2] at hE
    refine xe_sw pg_65 40 h2 rfl ?_
    refine xe_sn pg_65 3 (fr' := (43, [(2, .ref (ja_P i (S.2.1 κ 16).toNatClampNeg)), (0, .ref (ja_R i)), (1, .ref (ja_L κ))], [.ref (ja_P i (S.2.1 κ 16).toNatClampNeg), .ref (ja_L κ), .ref (ja_R i)])) rfl ?_
    obtain ⟨r1, e1, hE⟩ := Option.bind_eq_some_iff.mp hE
    refine xe_cv pg_65 66 pg_66 [.ref (ja_L κ), .ref (ja_P i (S.2.1 κ 16).toNatClampNeg)] [] (some (.int r1.1)) rfl rfl rfl rfl ⟨Nat.le_of_ble_eq_true rfl, Nat.le_of_ble_eq_true rfl, Nat.le_of_ble_eq_true rfl⟩ ⟨rfl, rfl⟩ (kk2 (k_R hi) (by decide)) (c_takesCreate _ (i := i) (κ := κ) (c := (S.2.1 κ 16).toNatClampNeg) hi hκ (bnd_lt g1) e1) ?_
    cases hE
    exact xe_rb pg_65 rfl rfl (b_takesCreate e1)
  · rw [if_neg h2] at hE
    by_cases h3 : (S.2.1 κ 17) = 2
    · rw [if_pos h3] at hE
      refine xe_sw pg_65 47 h3 rfl ?_
      refine xe_sn pg_65 2 (fr' := (49, [(2, .ref (ja_P i (S.2.1 κ 16).toNatClampNeg)), (0, .ref (ja_R i)), (1, .ref (ja_L κ))], [.ref (ja_L κ), .ref (ja_P i (S.2.1 κ 16).toNatClampNeg)])) rfl ?_
      obtain ⟨r2, e2, hE⟩ := Option.bind_eq_some_iff.mp hE
      refine xe_cv pg_65 47 pg_47 [.ref (ja_L κ)] [] (some (.int r2.1)) rfl rfl rfl rfl ⟨Nat.le_of_ble_eq_true rfl, Nat.le_of_ble_eq_true rfl, Nat.le_of_ble_eq_true rfl⟩ ⟨rfl, rfl⟩ (kk2 (k_P hi (bnd_lt g1)) (by decide)) (c_ptakesCreated _ (i := i) (c := (S.2.1 κ 16).toNatClampNeg) (κ := κ) hi (bnd_lt g1) hκ e2) ?_
      cases hE
      exact xe_rb pg_65 rfl rfl (b_ptakesCreated e2)
    · rw [if_neg h3] at hE
      by_cases h4 : (S.2.1 κ 17) = 3
      · rw [if_pos h4] at hE
        refine xe_sw pg_65 53 h4 rfl ?_
        refine xe_sn pg_65 2 (fr' := (55, [(2, .ref (ja_P i (S.2.1 κ 16).toNatClampNeg)), (0, .ref (ja_R i)), (1, .ref (ja_L κ))], [.ref (ja_L κ), .ref (ja_P i (S.2.1 κ 16).toNatClampNeg)])) rfl ?_
        obtain ⟨r3, e3, hE⟩ := Option.bind_eq_some_iff.mp hE
        refine xe_cv pg_65 50 pg_50 [.ref (ja_L κ)] [] (some (.int r3.1)) rfl rfl rfl rfl ⟨Nat.le_of_ble_eq_true rfl, Nat.le_of_ble_eq_true rfl, Nat.le_of_ble_eq_true rfl⟩ ⟨rfl, rfl⟩ (kk2 (k_P hi (bnd_lt g1)) (by decide)) (c_ptakesRelay _ (i := i) (c := (S.2.1 κ 16).toNatClampNeg) (κ := κ) hi (bnd_lt g1) hκ e3) ?_
        cases hE
        exact xe_rb pg_65 rfl rfl (b_ptakesRelay e3)
      · rw [if_neg h4] at hE
        refine xe_tsd pg_65 59 rfl rfl (sw_out 1 3 (by decide) (by decide) (fun j hj1 hj2 => ?_)) ?_
        · rcases (by omega : j = 1 ∨ j = 2 ∨ j = 3) with e | e | e <;> subst e <;> assumption
        refine xe_sn pg_65 2 (fr' := (61, [(2, .ref (ja_P i (S.2.1 κ 16).toNatClampNeg)), (0, .ref (ja_R i)), (1, .ref (ja_L κ))], [.ref (ja_L κ), .ref (ja_P i (S.2.1 κ 16).toNatClampNeg)])) rfl ?_
        obtain ⟨r4, e4, hE⟩ := Option.bind_eq_some_iff.mp hE
        refine xe_cv pg_65 48 pg_48 [.ref (ja_L κ)] [] (some (.int r4.1)) rfl rfl rfl rfl ⟨Nat.le_of_ble_eq_true rfl, Nat.le_of_ble_eq_true rfl, Nat.le_of_ble_eq_true rfl⟩ ⟨rfl, rfl⟩ (kk2 (k_P hi (bnd_lt g1)) (by decide)) (c_ptakesDestroy _ (i := i) (c := (S.2.1 κ 16).toNatClampNeg) (κ := κ) hi (bnd_lt g1) hκ e4) ?_
        cases hE
        exact xe_rb pg_65 rfl rfl (b_ptakesDestroy e4)
theorem b_rtakes {S : xSt} {i : Nat} {κ : Nat} {r : Int32 × xSt} (hE : (f_rtakes S i κ) = some r) : r.1 = 0 ∨ r.1 = 1 := by
  unfold f_rtakes at hE
  by_cases g1 : bnd (S.2.1 κ 16) 4
  · rw [if_pos g1] at hE
    by_cases h2 : (S.2.1 κ 17) = 1
    · rw [if_pos h2] at hE
      obtain ⟨r1, e1, hE⟩ := Option.bind_eq_some_iff.mp hE
      cases hE
      exact (b_takesCreate e1)
    · rw [if_neg h2] at hE
      by_cases h3 : (S.2.1 κ 17) = 2
      · rw [if_pos h3] at hE
        obtain ⟨r2, e2, hE⟩ := Option.bind_eq_some_iff.mp hE
        cases hE
        exact (b_ptakesCreated e2)
      · rw [if_neg h3] at hE
        by_cases h4 : (S.2.1 κ 17) = 3
        · rw [if_pos h4] at hE
          obtain ⟨r3, e3, hE⟩ := Option.bind_eq_some_iff.mp hE
          cases hE
          exact (b_ptakesRelay e3)
        · rw [if_neg h4] at hE
          obtain ⟨r4, e4, hE⟩ := Option.bind_eq_some_iff.mp hE
          cases hE
          exact (b_ptakesDestroy e4)
  · rw [if_neg g1] at hE
    cases hE

