def f_goesThrough (S : xSt) (c : Nat) (rl : Int32) : Option Int32 := if (S.1 168 c) ≤ 0 then (some 0) else (if (S.1 169 (3 * c)) = rl then (some 1) else (if (S.1 168 c) ≤ 1 then (some 0) else (if (S.1 169 (3 * c + 1)) = rl then (some 1) else (if (S.1 168 c) ≤ 2 then (some 0) else (if (S.1 169 (3 * c + 2)) = rl then (some 1) else (if (S.1 168 c) ≤ 3 then (some 0) else none))))))
set_option maxRecDepth 100000 in
theorem c_goesThrough (d : Nat) {w : xWd} {S : xSt} {μ : Nat → Nat → Int32} {ρ : Nat → Nat → Int64} {c : Nat} {rl : Int32} (hc : c < 4) {r : Int32} (hE : (f_goesThrough S c rl) = some r) : xc (d) 18 [.ref (ja_C c), .int rl] (hz w S μ ρ) (.inl (some (.int r)), hz w S μ ρ) := by
  unfold f_goesThrough at hE
  refine xe_sn pg_18 4 (fr' := (4, [(2, .int 0), (0, .ref (ja_C c)), (1, .int rl)], [.ref (ja_C c), .int 0])) rfl ?_
  refine ye_gi pg_18 (S.1 168 c) rfl rfl rfl (kk1 (k_C hc)) ((l_C6 hc).rd _) ?_
  by_cases h1 : (S.1 168 c) ≤ 0
  · rw [if_pos h1] at hE
    refine xe_c2t pg_18 28 rfl rfl h1 ?_
    refine xe_sn pg_18 1 (fr' := (29, [(2, .int 0), (0, .ref (ja_C c)), (1, .int rl)], [.int 0])) rfl ?_
    cases hE
    exact xe_end pg_18 rfl
  · rw [if_neg h1] at hE
    refine xe_c2f pg_18 28 rfl rfl h1 ?_
    refine xe_sn pg_18 1 (fr' := (11, [(2, .int 0), (0, .ref (ja_C c)), (1, .int rl)], [.ref (ja_C c)])) rfl ?_
    refine xe_gr pg_18 (ja_H c) rfl rfl rfl (kk1 (k_C hc)) (r_C0 hc _) ?_
    refine xe_sn pg_18 1 (fr' := (15, [(2, .int 0), (0, .ref (ja_C c)), (1, .int rl)], [.int 0, .ref (ja_H c)])) rfl ?_
    refine ye_il pg_18 0 (S.1 169 (3 * c)) rfl (k_H hc) ⟨by decide, by decide⟩ rfl ((lx_ix (3 * c) (l_H hc (k := 0) (by decide)) (by omega)).rd _) ?_
    refine xe_sn pg_18 1 (fr' := (17, [(2, .int 0), (0, .ref (ja_C c)), (1, .int rl)], [.int rl, .int (S.1 169 (3 * c))])) rfl ?_
    by_cases h2 : (S.1 169 (3 * c)) = rl
    · rw [if_pos h2] at hE
      refine xe_c2f pg_18 22 rfl rfl (fun z => z h2) ?_
      refine xe_sn pg_18 1 (fr' := (21, [(2, .int 0), (0, .ref (ja_C c)), (1, .int rl)], [.int 1])) rfl ?_
      cases hE
      exact xe_end pg_18 rfl
    · rw [if_neg h2] at hE
      refine xe_c2t pg_18 22 rfl rfl h2 ?_
      refine xe_sn pg_18 2 (fr' := (2, [(2, .int 1), (0, .ref (ja_C c)), (1, .int rl)], [])) rfl ?_
      refine xe_sn pg_18 2 (fr' := (4, [(2, .int 1), (0, .ref (ja_C c)), (1, .int rl)], [.ref (ja_C c), .int 1])) rfl ?_
      refine ye_gi pg_18 (S.1 168 c) rfl rfl rfl (kk1 (k_C hc)) ((l_C6 hc).rd _) ?_
      by_cases h3 : (S.1 168 c) ≤ 1
      · rw [if_pos h3] at hE
        refine xe_c2t pg_18 28 rfl rfl h3 ?_
        refine xe_sn pg_18 1 (fr' := (29, [(2, .int 1), (0, .ref (ja_C c)), (1, .int rl)], [.int 0])) rfl ?_
        cases hE
        exact xe_end pg_18 rfl
      · rw [if_neg h3] at hE
        refine xe_c2f pg_18 28 rfl rfl h3 ?_
        refine xe_sn pg_18 1 (fr' := (11, [(2, .int 1), (0, .ref (ja_C c)), (1, .int rl)], [.ref (ja_C c)])) rfl ?_
        refine xe_gr pg_18 (ja_H c) rfl rfl rfl (kk1 (k_C hc)) (r_C0 hc _) ?_
        refine xe_sn pg_18 1 (fr' := (15, [(2, .int 1), (0, .ref (ja_C c)), (1, .int rl)], [.int 1, .ref (ja_H c)])) rfl ?_
        refine ye_il pg_18 1 (S.1 169 (3 * c + 1)) rfl (k_H hc) ⟨by decide, by decide⟩ rfl ((lx_ix (3 * c + 1) (l_H hc (k := 1) (by decide)) (by omega)).rd _) ?_
        refine xe_sn pg_18 1 (fr' := (17, [(2, .int 1), (0, .ref (ja_C c)), (1, .int rl)], [.int rl, .int (S.1 169 (3 * c + 1))])) rfl ?_
        by_cases h4 : (S.1 169 (3 * c + 1)) = rl
        · rw [if_pos h4] at hE
          refine xe_c2f pg_18 22 rfl rfl (fun z => z h4) ?_
          refine xe_sn pg_18 1 (fr' := (21, [(2, .int 1), (0, .ref (ja_C c)), (1, .int rl)], [.int 1])) rfl ?_
          cases hE
          exact xe_end pg_18 rfl
        · rw [if_neg h4] at hE
          refine xe_c2t pg_18 22 rfl rfl h4 ?_
          refine xe_sn pg_18 2 (fr' := (2, [(2, .int 2), (0, .ref (ja_C c)), (1, .int rl)], [])) rfl ?_
          refine xe_sn pg_18 2 (fr' := (4, [(2, .int 2), (0, .ref (ja_C c)), (1, .int rl)], [.ref (ja_C c), .int 2])) rfl ?_
          refine ye_gi pg_18 (S.1 168 c) rfl rfl rfl (kk1 (k_C hc)) ((l_C6 hc).rd _) ?_
          by_cases h5 : (S.1 168 c) ≤ 2
          · rw [if_pos h5] at hE
            refine xe_c2t pg_18 28 rfl rfl h5 ?_
            refine xe_sn pg_18 1 (fr' := (29, [(2, .int 2), (0, .ref (ja_C c)), (1, .int rl)], [.int 0])) rfl ?_
            cases hE
            exact xe_end pg_18 rfl
          · rw [if_neg h5] at hE
            refine xe_c2f pg_18 28 rfl rfl h5 ?_
            refine xe_sn pg_18 1 (fr' := (11, [(2, .int 2), (0, .ref (ja_C c)), (1, .int rl)], [.ref (ja_C c)])) rfl ?_
            refine xe_gr pg_18 (ja_H c) rfl rfl rfl (kk1 (k_C hc)) (r_C0 hc _) ?_
            refine xe_sn pg_18 1 (fr' := (15, [(2, .int 2), (0, .ref (ja_C c)), (1, .int rl)], [.int 2, .ref (ja_H c)])) rfl ?_
            refine ye_il pg_18 2 (S.1 169 (3 * c + 2)) rfl (k_H hc) ⟨by decide, by decide⟩ rfl ((lx_ix (3 * c + 2) (l_H hc (k := 2) (by decide)) (by omega)).rd _) ?_
            refine xe_sn pg_18 1 (fr' := (17, [(2, .int 2), (0, .ref (ja_C c)), (1, .int rl)], [.int rl, .int (S.1 169 (3 * c + 2))])) rfl ?_
            by_cases h6 : (S.1 169 (3 * c + 2)) = rl
            · rw [if_pos h6] at hE
              refine xe_c2f pg_18 22 rfl rfl (fun z => z h6) ?_
              refine xe_sn pg_18 1 (fr' := (21, [(2, .int 2), (0, .ref (ja_C c)), (1, .int rl)], [.int 1])) rfl ?_
              cases hE
              exact xe_end pg_18 rfl
            · rw [if_neg h6] at hE
              refine xe_c2t pg_18 22 rfl rfl h6 ?_
              refine xe_sn pg_18 2 (fr' := (2, [(2, .int 3), (0, .ref (ja_C c)), (1, .int rl)], [])) rfl ?_
              refine xe_sn pg_18 2 (fr' := (4, [(2, .int 3), (0, .ref (ja_C c)), (1, .int rl)], [.ref (ja_C c), .int 3])) rfl ?_
              refine ye_gi pg_18 (S.1 168 c) rfl rfl rfl (kk1 (k_C hc)) ((l_C6 hc).rd _) ?_
              by_cases h7 : (S.1 168 c) ≤ 3
              · rw [if_pos h7] at hE
                refine xe_c2t pg_18 28 rfl rfl h7 ?_
                refine xe_sn pg_18 1 (fr' := (29, [(2, .int 3), (0, .ref (ja_C c)), (1, .int rl)], [.int 0])) rfl ?_
                cases hE
                exact xe_end pg_18 rfl
              · rw [if_neg h7] at hE
                refine xe_c2f pg_18 28 rfl rfl h7 ?_
                refine xe_sn pg_18 1 (fr' := (11, [(2, .int 3), (0, .ref (ja_C c)), (1, .int rl)], [.ref (ja_C c)])) rfl ?_
                refine xe_gr pg_18 (ja_H c) rfl rfl rfl (kk1 (k_C hc)) (r_C0 hc _) ?_
                refine xe_sn pg_18 1 (fr' := (15, [(2, .int 3), (0, .ref (ja_C c)), (1, .int rl)], [.int 3, .ref (ja_H c)])) rfl ?_
                cases hE
theorem b_goesThrough {S : xSt} {c : Nat} {rl : Int32} {r : Int32} (hE : (f_goesThrough S c rl) = some r) : r = 0 ∨ r = 1 := by
  unfold f_goesThrough at hE
  by_cases h1 : (S.1 168 c) ≤ 0
  · rw [if_pos h1] at hE
    cases hE
    exact Or.inl rfl
  · rw [if_neg h1] at hE
    by_cases h2 : (S.1 169 (3 * c)) = rl
    · rw [if_pos h2] at hE
      cases hE
      exact Or.inr rfl
    · rw [if_neg h2] at hE
      by_cases h3 : (S.1 168 c) ≤ 1
      · rw [if_pos h3] at hE
        cases hE
        exact Or.inl rfl
      · rw [if_neg h3] at hE
        by_cases h4 : (S.1 169 (3 * c + 1)) = rl
        · rw [if_pos h4] at hE
          cases hE
          exact Or.inr rfl
        · rw [if_neg h4] at hE
          by_cases h5 : (S.1 168 c) ≤ 2
          · rw [if_pos h5] at hE
            cases hE
            exact Or.inl rfl
          · rw [if_neg h5] at hE
            by_cases h6 : (S.1 169 (3 * c + 2)) = rl
            · rw [if_pos h6] at hE
              cases hE
              exact Or.inr rfl
            · rw [if_neg h6] at hE
              by_cases h7 : (S.1 168 c) ≤ 3
              · rw [if_pos h7] at hE
                cases hE
                exact Or.inl rfl
              · rw [if_neg h7] at hE
                cases hE

def f_order (S : xSt) (c : Nat) (o : Int32) (s : Int32) (n : Int32) : Option (Nat × xSt) := (f_add S 0 (S.1 169 (3 * c)) (nI c) 3).bind fun r1 => (some (f_writeOrder r1.2 r1.1 o s n)).bind fun r2 => some (r1.1, r2)
set_option maxRecDepth 100000 in
theorem c_order (d : Nat) {w : xWd} {S : xSt} {μ : Nat → Nat → Int32} {ρ : Nat → Nat → Int64} {c : Nat} {o : Int32} {s : Int32} {n : Int32} (hc : c < 4) {r : Nat × xSt} (hE : (f_order S c o s n) = some r) : xc (d + 2) 26 [.ref (ja_C c), .int o, .int s, .int n] (hz w S μ ρ) (.inl (some (.ref (ja_L r.1))), hz w r.2 μ ρ) := by
  unfold f_order at hE
  refine xe_sn pg_26 1 (fr' := (1, [(0, .ref (ja_C c)), (1, .int o), (2, .int s), (3, .int n)], [.ref (ja_C c)])) rfl ?_
  refine xe_gr pg_26 1 rfl rfl rfl (kk1 (k_C hc)) (r_C10 hc _) ?_
  refine xe_sn pg_26 2 (fr' := (6, [(0, .ref (ja_C c)), (1, .int o), (2, .int s), (3, .int n)], [.ref (ja_C c), .int 0, .ref 1])) rfl ?_
  refine xe_gr pg_26 (ja_H c) rfl rfl rfl (kk1 (k_C hc)) (r_C0 hc _) ?_
  refine xe_sn pg_26 1 (fr' := (10, [(0, .ref (ja_C c)), (1, .int o), (2, .int s), (3, .int n)], [.int 0, .ref (ja_H c), .int 0, .ref 1])) rfl ?_
  refine ye_il pg_26 0 (S.1 169 (3 * c)) rfl (k_H hc) ⟨by decide, by decide⟩ rfl ((lx_ix (3 * c) (l_H hc (k := 0) (by decide)) (by omega)).rd _) ?_
  refine xe_sn pg_26 1 (fr' := (12, [(0, .ref (ja_C c)), (1, .int o), (2, .int s), (3, .int n)], [.ref (ja_C c), .int (S.1 169 (3 * c)), .int 0, .ref 1])) rfl ?_
  refine ye_gi pg_26 (nI c) rfl rfl rfl (kk1 (k_C hc)) (c_C9 hc _) ?_
  refine xe_sn pg_26 1 (fr' := (16, [(0, .ref (ja_C c)), (1, .int o), (2, .int s), (3, .int n)], [.int 3, .int (nI c), .int (S.1 169 (3 * c)), .int 0, .ref 1])) rfl ?_
  obtain ⟨r1, e1, hE⟩ := Option.bind_eq_some_iff.mp hE
  refine xe_cv pg_26 68 pg_68 [.int 0, .int (S.1 169 (3 * c)), .int (nI c), .int 3] [] (some (.ref (ja_L r1.1))) rfl rfl rfl rfl ⟨Nat.le_of_ble_eq_true rfl, Nat.le_of_ble_eq_true rfl, Nat.le_of_ble_eq_true rfl⟩ ⟨rfl, rfl⟩ (kk2 k_W (by decide)) (c_add _ (a := 0) (b := (S.1 169 (3 * c))) (c := (nI c)) (e := 3)  e1) ?_
  refine xe_sn pg_26 5 (fr' := (26, [(4, .ref (ja_L r1.1)), (0, .ref (ja_C c)), (1, .int o), (2, .int s), (3, .int n)], [.int n, .int s, .int o, .ref (ja_L r1.1)])) rfl ?_
  obtain ⟨r2, e2, hE⟩ := Option.bind_eq_some_iff.mp hE
  refine xe_cv pg_26 7 pg_7 [.int o, .int s, .int n] [] (none) rfl rfl rfl rfl ⟨Nat.le_of_ble_eq_true rfl, Nat.le_of_ble_eq_true rfl, Nat.le_of_ble_eq_true rfl⟩ ⟨rfl, rfl⟩ (kk2 (k_L (t_add e1)) (by decide)) (c_writeOrder _ (κ := r1.1) (o := o) (s := s) (n := n) (t_add e1) (Option.some.inj e2)) ?_
  refine xe_sn pg_26 1 (fr' := (31, [(4, .ref (ja_L r1.1)), (0, .ref (ja_C c)), (1, .int o), (2, .int s), (3, .int n)], [.ref (ja_L r1.1)])) rfl ?_
  cases hE
  exact xe_end pg_26 rfl
theorem t_order {S : xSt} {c : Nat} {o : Int32} {s : Int32} {n : Int32} {r : Nat × xSt} (hE : (f_order S c o s n) = some r) : r.1 < 22 := by
  unfold f_order at hE
  obtain ⟨r1, e1, hE⟩ := Option.bind_eq_some_iff.mp hE
  obtain ⟨r2, e2, hE⟩ := Option.bind_eq_some_iff.mp hE
  cases hE
  exact (show r1.1 < 22 from (t_add e1))

def f_sealTo (S : xSt) (c : Nat) (hop : Int32) (κ : Nat) : Option xSt := if hop = 0 then ((some (f_fed (sy S κ 18 0) κ (S.1 170 (12 * c + 2)))).bind fun r1 => (some (f_putPair (sx (sy S κ 18 0) 170 (12 * c + 2) r1) κ 2 (ushr r1 16))).bind fun r2 => (some (w_wrap r2 κ (r2.1 170 (12 * c)))).bind fun r3 => some (sx r3 170 (12 * c) (ks (r2.1 170 (12 * c)) 14))) else (if hop = 1 then ((some (f_fed (sy S κ 18 1) κ (S.1 170 (12 * c + 6)))).bind fun r4 => (some (f_putPair (sx (sy S κ 18 1) 170 (12 * c + 6) r4) κ 2 (ushr r4 16))).bind fun r5 => (some (w_wrap r5 κ (r5.1 170 (12 * c + 4)))).bind fun r6 => (some (w_wrap (sx r6 170 (12 * c + 4) (ks (r5.1 170 (12 * c + 4)) 14)) κ ((sx r6 170 (12 * c + 4) (ks (r5.1 170 (12 * c + 4)) 14)).1 170 (12 * c)))).bind fun r7 => some (sx r7 170 (12 * c) (ks ((sx r6 170 (12 * c + 4) (ks (r5.1 170 (12 * c + 4)) 14)).1 170 (12 * c)) 14))) else (if hop = 2 then ((some (f_fed (sy S κ 18 2) κ (S.1 170 (12 * c + 10)))).bind fun r8 => (some (f_putPair (sx (sy S κ 18 2) 170 (12 * c + 10) r8) κ 2 (ushr r8 16))).bind fun r9 => (some (w_wrap r9 κ (r9.1 170 (12 * c + 8)))).bind fun r10 => (some (w_wrap (sx r10 170 (12 * c + 8) (ks (r9.1 170 (12 * c + 8)) 14)) κ ((sx r10 170 (12 * c + 8) (ks (r9.1 170 (12 * c + 8)) 14)).1 170 (12 * c + 4)))).bind fun r11 => (some (w_wrap (sx r11 170 (12 * c + 4) (ks ((sx r10 170 (12 * c + 8) (ks (r9.1 170 (12 * c + 8)) 14)).1 170 (12 * c + 4)) 14)) κ ((sx r11 170 (12 * c + 4) (ks ((sx r10 170 (12 * c + 8) (ks (r9.1 170 (12 * c + 8)) 14)).1 170 (12 * c + 4)) 14)).1 170 (12 * c)))).bind fun r12 => some (sx r12 170 (12 * c) (ks ((sx r11 170 (12 * c + 4) (ks ((sx r10 170 (12 * c + 8) (ks (r9.1 170 (12 * c + 8)) 14)).1 170 (12 * c + 4)) 14)).1 170 (12 * c)) 14))) else none))
set_option maxRecDepth 100000 in
theorem c_sealTo (d : Nat) {w : xWd} {S : xSt} {μ : Nat → Nat → Int32} {ρ : Nat → Nat → Int64} {c : Nat} {hop : Int32} {κ : Nat} (hc : c < 4) (hκ : κ < 22) {r : xSt} (hE : (f_sealTo S c hop κ) = some r) : xc (d + 2) 27 [.ref (ja_C c), .int hop, .ref (ja_L κ)] (hz w S μ ρ) (.inl (none), hz w r μ ρ) := by
  unfold f_sealTo at hE
  by_cases h1 : hop = 0
  · rw [if_pos h1] at hE
    subst h1
    refine xe_sn pg_27 2 (fr' := (2, [(0, .ref (ja_C c)), (1, .int 0), (2, .ref (ja_L κ))], [.int 0, .ref (ja_L κ)])) rfl ?_
    refine ye_py pg_27 rfl rfl ⟨rfl, rfl⟩ (Or.inl rfl) (kk1 (k_L hκ)) (show ly _ 5 κ 18 from l_L hκ (by decide) (by decide)) ?_
    refine xe_sn pg_27 2 (fr' := (7, [(0, .ref (ja_C c)), (1, .int 0), (2, .ref (ja_L κ))], [.ref (ja_C c), .ref (ja_L κ)])) rfl ?_
    refine xe_gr pg_27 (ja_G c) rfl rfl rfl (kk1 (k_C hc)) (r_C1 hc _) ?_
    refine xe_sn pg_27 1 (fr' := (11, [(0, .ref (ja_C c)), (1, .int 0), (2, .ref (ja_L κ))], [.int 0, .ref (ja_G c), .ref (ja_L κ)])) rfl ?_
    refine xe_al pg_27 0 (ja_J c 0) rfl (k_G hc) ⟨by decide, by decide⟩ ⟨by decide, by decide⟩ rfl (r_G hc (by decide) _) ?_
    refine xe_sn pg_27 1 (fr' := (13, [(0, .ref (ja_C c)), (1, .int 0), (2, .ref (ja_L κ))], [.int 2, .ref (ja_J c 0), .ref (ja_L κ)])) rfl ?_
    refine ye_il pg_27 2 (S.1 170 (12 * c + 2)) rfl (k_J hc (by decide)) ⟨by decide, by decide⟩ rfl ((lx_ix (12 * c + 2) (l_J hc (by decide) (k := 2) (by decide)) (by omega)).rd _) ?_
    obtain ⟨r1, e1, hE⟩ := Option.bind_eq_some_iff.mp hE
    refine xe_cv pg_27 13 pg_13 [.int (S.1 170 (12 * c + 2))] [] (some (.int r1)) rfl rfl rfl rfl ⟨Nat.le_of_ble_eq_true rfl, Nat.le_of_ble_eq_true rfl, Nat.le_of_ble_eq_true rfl⟩ ⟨rfl, rfl⟩ (kk2 (k_L hκ) (by decide)) (c_fed _ (κ := κ) (key := (S.1 170 (12 * c + 2))) hκ (Option.some.inj e1)) ?_
    refine xe_sn pg_27 2 (fr' := (19, [(3, .int r1), (0, .ref (ja_C c)), (1, .int 0), (2, .ref (ja_L κ))], [.ref (ja_C c)])) rfl ?_
    refine xe_gr pg_27 (ja_G c) rfl rfl rfl (kk1 (k_C hc)) (r_C1 hc _) ?_
    refine xe_sn pg_27 1 (fr' := (23, [(3, .int r1), (0, .ref (ja_C c)), (1, .int 0), (2, .ref (ja_L κ))], [.int 0, .ref (ja_G c)])) rfl ?_
    refine xe_al pg_27 0 (ja_J c 0) rfl (k_G hc) ⟨by decide, by decide⟩ ⟨by decide, by decide⟩ rfl (r_G hc (by decide) _) ?_
    refine xe_sn pg_27 2 (fr' := (26, [(3, .int r1), (0, .ref (ja_C c)), (1, .int 0), (2, .ref (ja_L κ))], [.int r1, .int 2, .ref (ja_J c 0)])) rfl ?_
    refine ye_is pg_27 2 rfl (k_J hc (by decide)) ⟨by decide, by decide⟩ rfl (lx_ix (12 * c + 2) (l_J hc (by decide) (k := 2) (by decide)) (by omega)) ?_
    refine xe_sn pg_27 5 (fr' := (33, [(3, .int r1), (0, .ref (ja_C c)), (1, .int 0), (2, .ref (ja_L κ))], [.int (ushr r1 16), .int 2, .ref (ja_L κ)])) rfl ?_
    obtain ⟨r2, e2, hE⟩ := Option.bind_eq_some_iff.mp hE
    refine xe_cv pg_27 10 pg_10 [.int 2, .int (ushr r1 16)] [] (none) rfl rfl rfl rfl ⟨Nat.le_of_ble_eq_true rfl, Nat.le_of_ble_eq_true rfl, Nat.le_of_ble_eq_true rfl⟩ ⟨rfl, rfl⟩ (kk2 (k_L hκ) (by decide)) (c_putPair _ (κ := κ) (k := 2) (v := (ushr r1 16)) hκ (by omega) (Option.some.inj e2)) ?_
    refine xe_sn pg_27 5 (fr' := (45, [(4, .int 0), (3, .int r1), (0, .ref (ja_C c)), (1, .int 0), (2, .ref (ja_L κ))], [.ref (ja_C c)])) rfl ?_
    refine xe_gr pg_27 (ja_G c) rfl rfl rfl (kk1 (k_C hc)) (r_C1 hc _) ?_
    refine xe_sn pg_27 1 (fr' := (50, [(4, .int 0), (3, .int r1), (0, .ref (ja_C c)), (1, .int 0), (2, .ref (ja_L κ))], [.int 0, .ref (ja_G c)])) rfl ?_
    refine xe_al pg_27 0 (ja_J c 0) rfl (k_G hc) ⟨by decide, by decide⟩ ⟨by decide, by decide⟩ rfl (r_G hc (by decide) _) ?_
    refine xe_sn pg_27 3 (fr' := (54, [(4, .int 0), (3, .int r1), (0, .ref (ja_C c)), (1, .int 0), (2, .ref (ja_L κ))], [.ref (ja_C c), .ref (ja_L κ), .int 0, .ref (ja_J c 0)])) rfl ?_
    refine xe_gr pg_27 (ja_G c) rfl rfl rfl (kk1 (k_C hc)) (r_C1 hc _) ?_
    refine xe_sn pg_27 1 (fr' := (59, [(4, .int 0), (3, .int r1), (0, .ref (ja_C c)), (1, .int 0), (2, .ref (ja_L κ))], [.int 0, .ref (ja_G c), .ref (ja_L κ), .int 0, .ref (ja_J c 0)])) rfl ?_
    refine xe_al pg_27 0 (ja_J c 0) rfl (k_G hc) ⟨by decide, by decide⟩ ⟨by decide, by decide⟩ rfl (r_G hc (by decide) _) ?_
    refine xe_sn pg_27 1 (fr' := (61, [(4, .int 0), (3, .int r1), (0, .ref (ja_C c)), (1, .int 0), (2, .ref (ja_L κ))], [.int 0, .ref (ja_J c 0), .ref (ja_L κ), .int 0, .ref (ja_J c 0)])) rfl ?_
    refine ye_il pg_27 0 (r2.1 170 (12 * c)) rfl (k_J hc (by decide)) ⟨by decide, by decide⟩ rfl ((lx_ix (12 * c) (l_J hc (by decide) (k := 0) (by decide)) (by omega)).rd _) ?_
    obtain ⟨r3, e3, hE⟩ := Option.bind_eq_some_iff.mp hE
    have e3q := Option.some.inj e3
    refine xe_cv pg_27 12 pg_12 [.int (r2.1 170 (12 * c))] [.int 0, .ref (ja_J c 0)] (some (.int (ks (r2.1 170 (12 * c)) 14))) rfl rfl rfl rfl ⟨Nat.le_of_ble_eq_true rfl, Nat.le_of_ble_eq_true rfl, Nat.le_of_ble_eq_true rfl⟩ ⟨rfl, rfl⟩ (kk2 (k_L hκ) (by decide)) (e3q ▸ c_wrap _ (κ := κ) (key := (r2.1 170 (12 * c))) hκ) ?_
    refine ye_is pg_27 0 rfl (k_J hc (by decide)) ⟨by decide, by decide⟩ rfl (lx_ix (12 * c) (l_J hc (by decide) (k := 0) (by decide)) (by omega)) ?_
    refine xe_sn pg_27 2 (fr' := (39, [(4, .int (-1)), (3, .int r1), (0, .ref (ja_C c)), (1, .int 0), (2, .ref (ja_L κ))], [])) rfl ?_
    refine xe_sn pg_27 2 (fr' := (72, [(4, .int (-1)), (3, .int r1), (0, .ref (ja_C c)), (1, .int 0), (2, .ref (ja_L κ))], [])) rfl ?_
    cases hE
    exact xe_end pg_27 rfl
  · rw [if_neg h1] at hE
    by_cases h2 : hop = 1
    · rw [if_pos h2] at hE
      subst h2
      refine xe_sn pg_27 2 (fr' := (2, [(0, .ref (ja_C c)), (1, .int 1), (2, .ref (ja_L κ))], [.int 1, .ref (ja_L κ)])) rfl ?_
      refine ye_py pg_27 rfl rfl ⟨rfl, rfl⟩ (Or.inl rfl) (kk1 (k_L hκ)) (show ly _ 5 κ 18 from l_L hκ (by decide) (by decide)) ?_
      refine xe_sn pg_27 2 (fr' := (7, [(0, .ref (ja_C c)), (1, .int 1), (2, .ref (ja_L κ))], [.ref (ja_C c), .ref (ja_L κ)])) rfl ?_
      refine xe_gr pg_27 (ja_G c) rfl rfl rfl (kk1 (k_C hc)) (r_C1 hc _) ?_
      refine xe_sn pg_27 1 (fr' := (11, [(0, .ref (ja_C c)), (1, .int 1), (2, .ref (ja_L κ))], [.int 1, .ref (ja_G c), .ref (ja_L κ)])) rfl ?_
      refine xe_al pg_27 1 (ja_J c 1) rfl (k_G hc) ⟨by decide, by decide⟩ ⟨by decide, by decide⟩ rfl (r_G hc (by decide) _) ?_
      refine xe_sn pg_27 1 (fr' := (13, [(0, .ref (ja_C c)), (1, .int 1), (2, .ref (ja_L κ))], [.int 2, .ref (ja_J c 1), .ref (ja_L κ)])) rfl ?_
      refine ye_il pg_27 2 (S.1 170 (12 * c + 6)) rfl (k_J hc (by decide)) ⟨by decide, by decide⟩ rfl ((lx_ix (12 * c + 6) (l_J hc (by decide) (k := 2) (by decide)) (by omega)).rd _) ?_
      obtain ⟨r4, e4, hE⟩ := Option.bind_eq_some_iff.mp hE
      refine xe_cv pg_27 13 pg_13 [.int (S.1 170 (12 * c + 6))] [] (some (.int r4)) rfl rfl rfl rfl ⟨Nat.le_of_ble_eq_true rfl, Nat.le_of_ble_eq_true rfl, Nat.le_of_ble_eq_true rfl⟩ ⟨rfl, rfl⟩ (kk2 (k_L hκ) (by decide)) (c_fed _ (κ := κ) (key := (S.1 170 (12 * c + 6))) hκ (Option.some.inj e4)) ?_
      refine xe_sn pg_27 2 (fr' := (19, [(3, .int r4), (0, .ref (ja_C c)), (1, .int 1), (2, .ref (ja_L κ))], [.ref (ja_C c)])) rfl ?_
      refine xe_gr pg_27 (ja_G c) rfl rfl rfl (kk1 (k_C hc)) (r_C1 hc _) ?_
      refine xe_sn pg_27 1 (fr' := (23, [(3, .int r4), (0, .ref (ja_C c)), (1, .int 1), (2, .ref (ja_L κ))], [.int 1, .ref (ja_G c)])) rfl ?_
      refine xe_al pg_27 1 (ja_J c 1) rfl (k_G hc) ⟨by decide, by decide⟩ ⟨by decide, by decide⟩ rfl (r_G hc (by decide) _) ?_
      refine xe_sn pg_27 2 (fr' := (26, [(3, .int r4), (0, .ref (ja_C c)), (1, .int 1), (2, .ref (ja_L κ))], [.int r4, .int 2, .ref (ja_J c 1)])) rfl ?_
      refine ye_is pg_27 2 rfl (k_J hc (by decide)) ⟨by decide, by decide⟩ rfl (lx_ix (12 * c + 6) (l_J hc (by decide) (k := 2) (by decide)) (by omega)) ?_
      refine xe_sn pg_27 5 (fr' := (33, [(3, .int r4), (0, .ref (ja_C c)), (1, .int 1), (2, .ref (ja_L κ))], [.int (ushr r4 16), .int 2, .ref (ja_L κ)])) rfl ?_
      obtain ⟨r5, e5, hE⟩ := Option.bind_eq_some_iff.mp hE
      refine xe_cv pg_27 10 pg_10 [.int 2, .int (ushr r4 16)] [] (none) rfl rfl rfl rfl ⟨Nat.le_of_ble_eq_true rfl, Nat.le_of_ble_eq_true rfl, Nat.le_of_ble_eq_true rfl⟩ ⟨rfl, rfl⟩ (kk2 (k_L hκ) (by decide)) (c_putPair _ (κ := κ) (k := 2) (v := (ushr r4 16)) hκ (by omega) (Option.some.inj e5)) ?_
      refine xe_sn pg_27 5 (fr' := (45, [(4, .int 1), (3, .int r4), (0, .ref (ja_C c)), (1, .int 1), (2, .ref (ja_L κ))], [.ref (ja_C c)])) rfl ?_
      refine xe_gr pg_27 (ja_G c) rfl rfl rfl (kk1 (k_C hc)) (r_C1 hc _) ?_
      refine xe_sn pg_27 1 (fr' := (50, [(4, .int 1), (3, .int r4), (0, .ref (ja_C c)), (1, .int 1), (2, .ref (ja_L κ))], [.int 1, .ref (ja_G c)])) rfl ?_
      refine xe_al pg_27 1 (ja_J c 1) rfl (k_G hc) ⟨by decide, by decide⟩ ⟨by decide, by decide⟩ rfl (r_G hc (by decide) _) ?_
      refine xe_sn pg_27 3 (fr' := (54, [(4, .int 1), (3, .int r4), (0, .ref (ja_C c)), (1, .int 1), (2, .ref (ja_L κ))], [.ref (ja_C c), .ref (ja_L κ), .int 0, .ref (ja_J c 1)])) rfl ?_
      refine xe_gr pg_27 (ja_G c) rfl rfl rfl (kk1 (k_C hc)) (r_C1 hc _) ?_
      refine xe_sn pg_27 1 (fr' := (59, [(4, .int 1), (3, .int r4), (0, .ref (ja_C c)), (1, .int 1), (2, .ref (ja_L κ))], [.int 1, .ref (ja_G c), .ref (ja_L κ), .int 0, .ref (ja_J c 1)])) rfl ?_
      refine xe_al pg_27 1 (ja_J c 1) rfl (k_G hc) ⟨by decide, by decide⟩ ⟨by decide, by decide⟩ rfl (r_G hc (by decide) _) ?_
      refine xe_sn pg_27 1 (fr' := (61, [(4, .int 1), (3, .int r4), (0, .ref (ja_C c)), (1, .int 1), (2, .ref (ja_L κ))], [.int 0, .ref (ja_J c 1), .ref (ja_L κ), .int 0, .ref (ja_J c 1)])) rfl ?_
      refine ye_il pg_27 0 (r5.1 170 (12 * c + 4)) rfl (k_J hc (by decide)) ⟨by decide, by decide⟩ rfl ((lx_ix (12 * c + 4) (l_J hc (by decide) (k := 0) (by decide)) (by omega)).rd _) ?_
      obtain ⟨r6, e6, hE⟩ := Option.bind_eq_some_iff.mp hE
      have e6q := Option.some.inj e6
      refine xe_cv pg_27 12 pg_12 [.int (r5.1 170 (12 * c + 4))] [.int 0, .ref (ja_J c 1)] (some (.int (ks (r5.1 170 (12 * c + 4)) 14))) rfl rfl rfl rfl ⟨Nat.le_of_ble_eq_true rfl, Nat.le_of_ble_eq_true rfl, Nat.le_of_ble_eq_true rfl⟩ ⟨rfl, rfl⟩ (kk2 (k_L hκ) (by decide)) (e6q ▸ c_wrap _ (κ := κ) (key := (r5.1 170 (12 * c + 4))) hκ) ?_
      refine ye_is pg_27 0 rfl (k_J hc (by decide)) ⟨by decide, by decide⟩ rfl (lx_ix (12 * c + 4) (l_J hc (by decide) (k := 0) (by decide)) (by omega)) ?_
      refine xe_sn pg_27 2 (fr' := (39, [(4, .int 0), (3, .int r4), (0, .ref (ja_C c)), (1, .int 1), (2, .ref (ja_L κ))], [])) rfl ?_
      refine xe_sn pg_27 3 (fr' := (45, [(4, .int 0), (3, .int r4), (0, .ref (ja_C c)), (1, .int 1), (2, .ref (ja_L κ))], [.ref (ja_C c)])) rfl ?_
      refine xe_gr pg_27 (ja_G c) rfl rfl rfl (kk1 (k_C hc)) (r_C1 hc _) ?_
      refine xe_sn pg_27 1 (fr' := (50, [(4, .int 0), (3, .int r4), (0, .ref (ja_C c)), (1, .int 1), (2, .ref (ja_L κ))], [.int 0, .ref (ja_G c)])) rfl ?_
      refine xe_al pg_27 0 (ja_J c 0) rfl (k_G hc) ⟨by decide, by decide⟩ ⟨by decide, by decide⟩ rfl (r_G hc (by decide) _) ?_
      refine xe_sn pg_27 3 (fr' := (54, [(4, .int 0), (3, .int r4), (0, .ref (ja_C c)), (1, .int 1), (2, .ref (ja_L κ))], [.ref (ja_C c), .ref (ja_L κ), .int 0, .ref (ja_J c 0)])) rfl ?_
      refine xe_gr pg_27 (ja_G c) rfl rfl rfl (kk1 (k_C hc)) (r_C1 hc _) ?_
      refine xe_sn pg_27 1 (fr' := (59, [(4, .int 0), (3, .int r4), (0, .ref (ja_C c)), (1, .int 1), (2, .ref (ja_L κ))], [.int 0, .ref (ja_G c), .ref (ja_L κ), .int 0, .ref (ja_J c 0)])) rfl ?_
      refine xe_al pg_27 0 (ja_J c 0) rfl (k_G hc) ⟨by decide, by decide⟩ ⟨by decide, by decide⟩ rfl (r_G hc (by decide) _) ?_
      refine xe_sn pg_27 1 (fr' := (61, [(4, .int 0), (3, .int r4), (0, .ref (ja_C c)), (1, .int 1), (2, .ref (ja_L κ))], [.int 0, .ref (ja_J c 0), .ref (ja_L κ), .int 0, .ref (ja_J c 0)])) rfl ?_
      refine ye_il pg_27 0 ((sx r6 170 (12 * c + 4) (ks (r5.1 170 (12 * c + 4)) 14)).1 170 (12 * c)) rfl (k_J hc (by decide)) ⟨by decide, by decide⟩ rfl ((lx_ix (12 * c) (l_J hc (by decide) (k := 0) (by decide)) (by omega)).rd _) ?_
      obtain ⟨r7, e7, hE⟩ := Option.bind_eq_some_iff.mp hE
      have e7q := Option.some.inj e7
      refine xe_cv pg_27 12 pg_12 [.int ((sx r6 170 (12 * c + 4) (ks (r5.1 170 (12 * c + 4)) 14)).1 170 (12 * c))] [.int 0, .ref (ja_J c 0)] (some (.int (ks ((sx r6 170 (12 * c + 4) (ks (r5.1 170 (12 * c + 4)) 14)).1 170 (12 * c)) 14))) rfl rfl rfl rfl ⟨Nat.le_of_ble_eq_true rfl, Nat.le_of_ble_eq_true rfl, Nat.le_of_ble_eq_true rfl⟩ ⟨rfl, rfl⟩ (kk2 (k_L hκ) (by decide)) (e7q ▸ c_wrap _ (κ := κ) (key := ((sx r6 170 (12 * c + 4) (ks (r5.1 170 (12 * c + 4)) 14)).1 170 (12 * c))) hκ) ?_
      refine ye_is pg_27 0 rfl (k_J hc (by decide)) ⟨by decide, by decide⟩ rfl (lx_ix (12 * c) (l_J hc (by decide) (k := 0) (by decide)) (by omega)) ?_
      refine xe_sn pg_27 2 (fr' := (39, [(4, .int (-1)), (3, .int r4), (0, .ref (ja_C c)), (1, .int 1), (2, .ref (ja_L κ))], [])) rfl ?_
      refine xe_sn pg_27 2 (fr' := (72, [(4, .int (-1)), (3, .int r4), (0, .ref (ja_C c)), (1, .int 1), (2, .ref (ja_L κ))], [])) rfl ?_
      cases hE
      exact xe_end pg_27 rfl
    · rw [if_neg h2] at hE
      by_cases h3 : hop = 2
      · rw [if_pos h3] at hE
        subst h3
        refine xe_sn pg_27 2 (fr' := (2, [(0, .ref (ja_C c)), (1, .int 2), (2, .ref (ja_L κ))], [.int 2, .ref (ja_L κ)])) rfl ?_
        refine ye_py pg_27 rfl rfl ⟨rfl, rfl⟩ (Or.inl rfl) (kk1 (k_L hκ)) (show ly _ 5 κ 18 from l_L hκ (by decide) (by decide)) ?_
        refine xe_sn pg_27 2 (fr' := (7, [(0, .ref (ja_C c)), (1, .int 2), (2, .ref (ja_L κ))], [.ref (ja_C c), .ref (ja_L κ)])) rfl ?_
        refine xe_gr pg_27 (ja_G c) rfl rfl rfl (kk1 (k_C hc)) (r_C1 hc _) ?_
        refine xe_sn pg_27 1 (fr' := (11, [(0, .ref (ja_C c)), (1, .int 2), (2, .ref (ja_L κ))], [.int 2, .ref (ja_G c), .ref (ja_L κ)])) rfl ?_
        refine xe_al pg_27 2 (ja_J c 2) rfl (k_G hc) ⟨by decide, by decide⟩ ⟨by decide, by decide⟩ rfl (r_G hc (by decide) _) ?_
        refine xe_sn pg_27 1 (fr' := (13, [(0, .ref (ja_C c)), (1, .int 2), (2, .ref (ja_L κ))], [.int 2, .ref (ja_J c 2), .ref (ja_L κ)])) rfl ?_
        refine ye_il pg_27 2 (S.1 170 (12 * c + 10)) rfl (k_J hc (by decide)) ⟨by decide, by decide⟩ rfl ((lx_ix (12 * c + 10) (l_J hc (by decide) (k := 2) (by decide)) (by omega)).rd _) ?_
        obtain ⟨r8, e8, hE⟩ := Option.bind_eq_some_iff.mp hE
        refine xe_cv pg_27 13 pg_13 [.int (S.1 170 (12 * c + 10))] [] (some (.int r8)) rfl rfl rfl rfl ⟨Nat.le_of_ble_eq_true rfl, Nat.le_of_ble_eq_true rfl, Nat.le_of_ble_eq_true rfl⟩ ⟨rfl, rfl⟩ (kk2 (k_L hκ) (by decide)) (c_fed _ (κ := κ) (key := (S.1 170 (12 * c + 10))) hκ (Option.some.inj e8)) ?_
        refine xe_sn pg_27 2 (fr' := (19, [(3, .int r8), (0, .ref (ja_C c)), (1, .int 2), (2, .ref (ja_L κ))], [.ref (ja_C c)])) rfl ?_
        refine xe_gr pg_27 (ja_G c) rfl rfl rfl (kk1 (k_C hc)) (r_C1 hc _) ?_
        refine xe_sn pg_27 1 (fr' := (23, [(3, .int r8), (0, .ref (ja_C c)), (1, .int 2), (2, .ref (ja_L κ))], [.int 2, .ref (ja_G c)])) rfl ?_
        refine xe_al pg_27 2 (ja_J c 2) rfl (k_G hc) ⟨by decide, by decide⟩ ⟨by decide, by decide⟩ rfl (r_G hc (by decide) _) ?_
        refine xe_sn pg_27 2 (fr' := (26, [(3, .int r8), (0, .ref (ja_C c)), (1, .int 2), (2, .ref (ja_L κ))], [.int r8, .int 2, .ref (ja_J c 2)])) rfl ?_
        refine ye_is pg_27 2 rfl (k_J hc (by decide)) ⟨by decide, by decide⟩ rfl (lx_ix (12 * c + 10) (l_J hc (by decide) (k := 2) (by decide)) (by omega)) ?_
        refine xe_sn pg_27 5 (fr' := (33, [(3, .int r8), (0, .ref (ja_C c)), (1, .int 2), (2, .ref (ja_L κ))], [.int (ushr r8 16), .int 2, .ref (ja_L κ)])) rfl ?_
        obtain ⟨r9, e9, hE⟩ := Option.bind_eq_some_iff.mp hE
        refine xe_cv pg_27 10 pg_10 [.int 2, .int (ushr r8 16)] [] (none) rfl rfl rfl rfl ⟨Nat.le_of_ble_eq_true rfl, Nat.le_of_ble_eq_true rfl, Nat.le_of_ble_eq_true rfl⟩ ⟨rfl, rfl⟩ (kk2 (k_L hκ) (by decide)) (c_putPair _ (κ := κ) (k := 2) (v := (ushr r8 16)) hκ (by omega) (Option.some.inj e9)) ?_
        refine xe_sn pg_27 5 (fr' := (45, [(4, .int 2), (3, .int r8), (0, .ref (ja_C c)), (1, .int 2), (2, .ref (ja_L κ))], [.ref (ja_C c)])) rfl ?_
        refine xe_gr pg_27 (ja_G c) rfl rfl rfl (kk1 (k_C hc)) (r_C1 hc _) ?_
        refine xe_sn pg_27 1 (fr' := (50, [(4, .int 2), (3, .int r8), (0, .ref (ja_C c)), (1, .int 2), (2, .ref (ja_L κ))], [.int 2, .ref (ja_G c)])) rfl ?_
        refine xe_al pg_27 2 (ja_J c 2) rfl (k_G hc) ⟨by decide, by decide⟩ ⟨by decide, by decide⟩ rfl (r_G hc (by decide) _) ?_
        refine xe_sn pg_27 3 (fr' := (54, [(4, .int 2), (3, .int r8), (0, .ref (ja_C c)), (1, .int 2), (2, .ref (ja_L κ))], [.ref (ja_C c), .ref (ja_L κ), .int 0, .ref (ja_J c 2)])) rfl ?_
        refine xe_gr pg_27 (ja_G c) rfl rfl rfl (kk1 (k_C hc)) (r_C1 hc _) ?_
        refine xe_sn pg_27 1 (fr' := (59, [(4, .int 2), (3, .int r8), (0, .ref (ja_C c)), (1, .int 2), (2, .ref (ja_L κ))], [.int 2, .ref (ja_G c), .ref (ja_L κ), .int 0, .ref (ja_J c 2)])) rfl ?_
        refine xe_al pg_27 2 (ja_J c 2) rfl (k_G hc) ⟨by decide, by decide⟩ ⟨by decide, by decide⟩ rfl (r_G hc (by decide) _) ?_
        refine xe_sn pg_27 1 (fr' := (61, [(4, .int 2), (3, .int r8), (0, .ref (ja_C c)), (1, .int 2), (2, .ref (ja_L κ))], [.int 0, .ref (ja_J c 2), .ref (ja_L κ), .int 0, .ref (ja_J c 2)])) rfl ?_
        refine ye_il pg_27 0 (r9.1 170 (12 * c + 8)) rfl (k_J hc (by decide)) ⟨by decide, by decide⟩ rfl ((lx_ix (12 * c + 8) (l_J hc (by decide) (k := 0) (by decide)) (by omega)).rd _) ?_
        obtain ⟨r10, e10, hE⟩ := Option.bind_eq_some_iff.mp hE
        have e10q := Option.some.inj e10
        refine xe_cv pg_27 12 pg_12 [.int (r9.1 170 (12 * c + 8))] [.int 0, .ref (ja_J c 2)] (some (.int (ks (r9.1 170 (12 * c + 8)) 14))) rfl rfl rfl rfl ⟨Nat.le_of_ble_eq_true rfl, Nat.le_of_ble_eq_true rfl, Nat.le_of_ble_eq_true rfl⟩ ⟨rfl, rfl⟩ (kk2 (k_L hκ) (by decide)) (e10q ▸ c_wrap _ (κ := κ) (key := (r9.1 170 (12 * c + 8))) hκ) ?_
        refine ye_is pg_27 0 rfl (k_J hc (by decide)) ⟨by decide, by decide⟩ rfl (lx_ix (12 * c + 8) (l_J hc (by decide) (k := 0) (by decide)) (by omega)) ?_
        refine xe_sn pg_27 2 (fr' := (39, [(4, .int 1), (3, .int r8), (0, .ref (ja_C c)), (1, .int 2), (2, .ref (ja_L κ))], [])) rfl ?_
        refine xe_sn pg_27 3 (fr' := (45, [(4, .int 1), (3, .int r8), (0, .ref (ja_C c)), (1, .int 2), (2, .ref (ja_L κ))], [.ref (ja_C c)])) rfl ?_
        refine xe_gr pg_27 (ja_G c) rfl rfl rfl (kk1 (k_C hc)) (r_C1 hc _) ?_
        refine xe_sn pg_27 1 (fr' := (50, [(4, .int 1), (3, .int r8), (0, .ref (ja_C c)), (1, .int 2), (2, .ref (ja_L κ))], [.int 1, .ref (ja_G c)])) rfl ?_
        refine xe_al pg_27 1 (ja_J c 1) rfl (k_G hc) ⟨by decide, by decide⟩ ⟨by decide, by decide⟩ rfl (r_G hc (by decide) _) ?_
        refine xe_sn pg_27 3 (fr' := (54, [(4, .int 1), (3, .int r8), (0, .ref (ja_C c)), (1, .int 2), (2, .ref (ja_L κ))], [.ref (ja_C c), .ref (ja_L κ), .int 0, .ref (ja_J c 1)])) rfl ?_
        refine xe_gr pg_27 (ja_G c) rfl rfl rfl (kk1 (k_C hc)) (r_C1 hc _) ?_
        refine xe_sn pg_27 1 (fr' := (59, [(4, .int 1), (3, .int r8), (0, .ref (ja_C c)), (1, .int 2), (2, .ref (ja_L κ))], [.int 1, .ref (ja_G c), .ref (ja_L κ), .int 0, .ref (ja_J c 1)])) rfl ?_
        refine xe_al pg_27 1 (ja_J c 1) rfl (k_G hc) ⟨by decide, by decide⟩ ⟨by decide, by decide⟩ rfl (r_G hc (by decide) _) ?_
        refine xe_sn pg_27 1 (fr' := (61, [(4, .int 1), (3, .int r8), (0, .ref (ja_C c)), (1, .int 2), (2, .ref (ja_L κ))], [.int 0, .ref (ja_J c 1), .ref (ja_L κ), .int 0, .ref (ja_J c 1)])) rfl ?_
        refine ye_il pg_27 0 ((sx r10 170 (12 * c + 8) (ks (r9.1 170 (12 * c + 8)) 14)).1 170 (12 * c + 4)) rfl (k_J hc (by decide)) ⟨by decide, by decide⟩ rfl ((lx_ix (12 * c + 4) (l_J hc (by decide) (k := 0) (by decide)) (by omega)).rd _) ?_
        obtain ⟨r11, e11, hE⟩ := Option.bind_eq_some_iff.mp hE
        have e11q := Option.some.inj e11
        refine xe_cv pg_27 12 pg_12 [.int ((sx r10 170 (12 * c + 8) (ks (r9.1 170 (12 * c + 8)) 14)).1 170 (12 * c + 4))] [.int 0, .ref (ja_J c 1)] (some (.int (ks ((sx r10 170 (12 * c + 8) (ks (r9.1 170 (12 * c + 8)) 14)).1 170 (12 * c + 4)) 14))) rfl rfl rfl rfl ⟨Nat.le_of_ble_eq_true rfl, Nat.le_of_ble_eq_true rfl, Nat.le_of_ble_eq_true rfl⟩ ⟨rfl, rfl⟩ (kk2 (k_L hκ) (by decide)) (e11q ▸ c_wrap _ (κ := κ) (key := ((sx r10 170 (12 * c + 8) (ks (r9.1 170 (12 * c + 8)) 14)).1 170 (12 * c + 4))) hκ) ?_
        refine ye_is pg_27 0 rfl (k_J hc (by decide)) ⟨by decide, by decide⟩ rfl (lx_ix (12 * c + 4) (l_J hc (by decide) (k := 0) (by decide)) (by omega)) ?_
        refine xe_sn pg_27 2 (fr' := (39, [(4, .int 0), (3, .int r8), (0, .ref (ja_C c)), (1, .int 2), (2, .ref (ja_L κ))], [])) rfl ?_
        refine xe_sn pg_27 3 (fr' := (45, [(4, .int 0), (3, .int r8), (0, .ref (ja_C c)), (1, .int 2), (2, .ref (ja_L κ))], [.ref (ja_C c)])) rfl ?_
        refine xe_gr pg_27 (ja_G c) rfl rfl rfl (kk1 (k_C hc)) (r_C1 hc _) ?_
        refine xe_sn pg_27 1 (fr' := (50, [(4, .int 0), (3, .int r8), (0, .ref (ja_C c)), (1, .int 2), (2, .ref (ja_L κ))], [.int 0, .ref (ja_G c)])) rfl ?_
        refine xe_al pg_27 0 (ja_J c 0) rfl (k_G hc) ⟨by decide, by decide⟩ ⟨by decide, by decide⟩ rfl (r_G hc (by decide) _) ?_
        refine xe_sn pg_27 3 (fr' := (54, [(4, .int 0), (3, .int r8), (0, .ref (ja_C c)), (1, .int 2), (2, .ref (ja_L κ))], [.ref (ja_C c), .ref (ja_L κ), .int 0, .ref (ja_J c 0)])) rfl ?_
        refine xe_gr pg_27 (ja_G c) rfl rfl rfl (kk1 (k_C hc)) (r_C1 hc _) ?_
        refine xe_sn pg_27 1 (fr' := (59, [(4, .int 0), (3, .int r8), (0, .ref (ja_C c)), (1, .int 2), (2, .ref (ja_L κ))], [.int 0, .ref (ja_G c), .ref (ja_L κ), .int 0, .ref (ja_J c 0)])) rfl ?_
        refine xe_al pg_27 0 (ja_J c 0) rfl (k_G hc) ⟨by decide, by decide⟩ ⟨by decide, by decide⟩ rfl (r_G hc (by decide) _) ?_
        refine xe_sn pg_27 1 (fr' := (61, [(4, .int 0), (3, .int r8), (0, .ref (ja_C c)), (1, .int 2), (2, .ref (ja_L κ))], [.int 0, .ref (ja_J c 0), .ref (ja_L κ), .int 0, .ref (ja_J c 0)])) rfl ?_
        refine ye_il pg_27 0 ((sx r11 170 (12 * c + 4) (ks ((sx r10 170 (12 * c + 8) (ks (r9.1 170 (12 * c + 8)) 14)).1 170 (12 * c + 4)) 14)).1 170 (12 * c)) rfl (k_J hc (by decide)) ⟨by decide, by decide⟩ rfl ((lx_ix (12 * c) (l_J hc (by decide) (k := 0) (by decide)) (by omega)).rd _) ?_
        obtain ⟨r12, e12, hE⟩ := Option.bind_eq_some_iff.mp hE
        have e12q := Option.some.inj e12
        refine xe_cv pg_27 12 pg_12 [.int ((sx r11 170 (12 * c + 4) (ks ((sx r10 170 (12 * c + 8) (ks (r9.1 170 (12 * c + 8)) 14)).1 170 (12 * c + 4)) 14)).1 170 (12 * c))] [.int 0, .ref (ja_J c 0)] (some (.int (ks ((sx r11 170 (12 * c + 4) (ks ((sx r10 170 (12 * c + 8) (ks (r9.1 170 (12 * c + 8)) 14)).1 170 (12 * c + 4)) 14)).1 170 (12 * c)) 14))) rfl rfl rfl rfl ⟨Nat.le_of_ble_eq_true rfl, Nat.le_of_ble_eq_true rfl, Nat.le_of_ble_eq_true rfl⟩ ⟨rfl, rfl⟩ (kk2 (k_L hκ) (by decide)) (e12q ▸ c_wrap _ (κ := κ) (key := ((sx r11 170 (12 * c + 4) (ks ((sx r10 170 (12 * c + 8) (ks (r9.1 170 (12 * c + 8)) 14)).1 170 (12 * c + 4)) 14)).1 170 (12 * c))) hκ) ?_
        refine ye_is pg_27 0 rfl (k_J hc (by decide)) ⟨by decide, by decide⟩ rfl (lx_ix (12 * c) (l_J hc (by decide) (k := 0) (by decide)) (by omega)) ?_
        refine xe_sn pg_27 2 (fr' := (39, [(4, .int (-1)), (3, .int r8), (0, .ref (ja_C c)), (1, .int 2), (2, .ref (ja_L κ))], [])) rfl ?_
        refine xe_sn pg_27 2 (fr' := (72, [(4, .int (-1)), (3, .int r8), (0, .ref (ja_C c)), (1, .int 2), (2, .ref (ja_L κ))], [])) rfl ?_
        cases hE
        exact xe_end pg_27 rfl
      · rw [if_neg h3] at hE
        cases hE

def f_startAnew (S : xSt) (c : Nat) (rl : Int32) (x : Int32) : Option xSt := (some (dropX (sx S 168 c 0).1 c 0, (sx S 168 c 0).2)).bind fun r1 => (some (f_waitFor (sx r1 176 c 0) c rl x)).bind fun r2 => (f_add r2 0 rl (nI c) 1).bind fun r3 => (f_raise 17 x).bind fun r4 => (some (f_putPair r3.2 r3.1 0 r4)).bind fun r5 => some r5
set_option maxRecDepth 100000 in
theorem c_startAnew (d : Nat) {w : xWd} {S : xSt} {μ : Nat → Nat → Int32} {ρ : Nat → Nat → Int64} {c : Nat} {rl : Int32} {x : Int32} (hc : c < 4) {r : xSt} (hE : (f_startAnew S c rl x) = some r) : xc (d + 2) 19 [.ref (ja_C c), .int rl, .int x] (hz w S μ ρ) (.inl (none), hz w r μ ρ) := by
  unfold f_startAnew at hE
  refine xe_sn pg_19 2 (fr' := (2, [(0, .ref (ja_C c)), (1, .int rl), (2, .int x)], [.int 0, .ref (ja_C c)])) rfl ?_
  refine ye_px pg_19 rfl rfl ⟨rfl, rfl⟩ (Or.inl rfl) (kk1 (k_C hc)) (l_C6 hc) ?_
  refine xe_sn pg_19 2 (fr' := (7, [(0, .ref (ja_C c)), (1, .int rl), (2, .int x)], [.int 0, .ref (ja_C c)])) rfl ?_
  obtain ⟨r1, e1, hE⟩ := Option.bind_eq_some_iff.mp hE
  have e1q := Option.some.inj e1
  refine xe_cv pg_19 31 pg_31 [.int 0] [] (none) rfl rfl rfl rfl ⟨Nat.le_of_ble_eq_true rfl, Nat.le_of_ble_eq_true rfl, Nat.le_of_ble_eq_true rfl⟩ ⟨rfl, rfl⟩ (kk2 (k_C hc) (by decide)) (e1q ▸ c_drop _ (c := c) (hop := 0) hc) ?_
  refine xe_sn pg_19 2 (fr' := (12, [(0, .ref (ja_C c)), (1, .int rl), (2, .int x)], [.int 0, .ref (ja_C c)])) rfl ?_
  refine ye_px pg_19 rfl rfl ⟨rfl, rfl⟩ (Or.inl rfl) (kk1 (k_C hc)) (l_C4 hc) ?_
  refine xe_sn pg_19 3 (fr' := (18, [(0, .ref (ja_C c)), (1, .int rl), (2, .int x)], [.int x, .int rl, .ref (ja_C c)])) rfl ?_
  obtain ⟨r2, e2, hE⟩ := Option.bind_eq_some_iff.mp hE
  refine xe_cv pg_19 21 pg_21 [.int rl, .int x] [] (none) rfl rfl rfl rfl ⟨Nat.le_of_ble_eq_true rfl, Nat.le_of_ble_eq_true rfl, Nat.le_of_ble_eq_true rfl⟩ ⟨rfl, rfl⟩ (kk2 (k_C hc) (by decide)) (c_waitFor _ (c := c) (rl := rl) (x := x) hc (Option.some.inj e2)) ?_
  refine xe_sn pg_19 1 (fr' := (22, [(0, .ref (ja_C c)), (1, .int rl), (2, .int x)], [.ref (ja_C c)])) rfl ?_
  refine xe_gr pg_19 1 rfl rfl rfl (kk1 (k_C hc)) (r_C10 hc _) ?_
  refine xe_sn pg_19 3 (fr' := (28, [(0, .ref (ja_C c)), (1, .int rl), (2, .int x)], [.ref (ja_C c), .int rl, .int 0, .ref 1])) rfl ?_
  refine ye_gi pg_19 (nI c) rfl rfl rfl (kk1 (k_C hc)) (c_C9 hc _) ?_
  refine xe_sn pg_19 1 (fr' := (32, [(0, .ref (ja_C c)), (1, .int rl), (2, .int x)], [.int 1, .int (nI c), .int rl, .int 0, .ref 1])) rfl ?_
  obtain ⟨r3, e3, hE⟩ := Option.bind_eq_some_iff.mp hE
  refine xe_cv pg_19 68 pg_68 [.int 0, .int rl, .int (nI c), .int 1] [] (some (.ref (ja_L r3.1))) rfl rfl rfl rfl ⟨Nat.le_of_ble_eq_true rfl, Nat.le_of_ble_eq_true rfl, Nat.le_of_ble_eq_true rfl⟩ ⟨rfl, rfl⟩ (kk2 k_W (by decide)) (c_add _ (a := 0) (b := rl) (c := (nI c)) (e := 1)  e3) ?_
  refine xe_sn pg_19 3 (fr' := (39, [(0, .ref (ja_C c)), (1, .int rl), (2, .int x)], [.int x, .int 17, .int 0, .ref (ja_L r3.1)])) rfl ?_
  obtain ⟨r4, e4, hE⟩ := Option.bind_eq_some_iff.mp hE
  refine xe_callq pg_19 0 [.int 17, .int x] (.inl (some (.int r4))) (42, [(0, .ref (ja_C c)), (1, .int rl), (2, .int x)], [.int r4, .int 0, .ref (ja_L r3.1)]) rfl (fun _ => rfl) (c_raiseO _ (a := 17) (e := x)  e4) ?_
  obtain ⟨r5, e5, hE⟩ := Option.bind_eq_some_iff.mp hE
  refine xe_cv pg_19 10 pg_10 [.int 0, .int r4] [] (none) rfl rfl rfl rfl ⟨Nat.le_of_ble_eq_true rfl, Nat.le_of_ble_eq_true rfl, Nat.le_of_ble_eq_true rfl⟩ ⟨rfl, rfl⟩ (kk2 (k_L (t_add e3)) (by decide)) (c_putPair _ (κ := r3.1) (k := 0) (v := r4) (t_add e3) (by omega) (Option.some.inj e5)) ?_
  cases hE
  exact xe_end pg_19 rfl

def f_askForHop (S : xSt) (c : Nat) (rl : Int32) (x : Int32) : Option xSt := (some (f_waitFor S c rl x)).bind fun r1 => (f_order r1 c 1 0 3).bind fun r2 => (f_raise 17 x).bind fun r3 => (some (f_putPair (sy r2.2 r2.1 7 rl) r2.1 8 r3)).bind fun r4 => (f_sealTo r4 c ((r4.1 168 c) - 1) r2.1).bind fun r5 => some r5
set_option maxRecDepth 100000 in
theorem c_askForHop (d : Nat) {w : xWd} {S : xSt} {μ : Nat → Nat → Int32} {ρ : Nat → Nat → Int64} {c : Nat} {rl : Int32} {x : Int32} (hc : c < 4) {r : xSt} (hE : (f_askForHop S c rl x) = some r) : xc (d + 3) 20 [.ref (ja_C c), .int rl, .int x] (hz w S μ ρ) (.inl (none), hz w r μ ρ) := by
  unfold f_askForHop at hE
  refine xe_sn pg_20 3 (fr' := (3, [(0, .ref (ja_C c)), (1, .int rl), (2, .int x)], [.int x, .int rl, .ref (ja_C c)])) rfl ?_
  obtain ⟨r1, e1, hE⟩ := Option.bind_eq_some_iff.mp hE
  refine xe_cv pg_20 21 pg_21 [.int rl, .int x] [] (none) rfl rfl rfl rfl ⟨Nat.le_of_ble_eq_true rfl, Nat.le_of_ble_eq_true rfl, Nat.le_of_ble_eq_true rfl⟩ ⟨rfl, rfl⟩ (kk2 (k_C hc) (by decide)) (c_waitFor _ (c := c) (rl := rl) (x := x) hc (Option.some.inj e1)) ?_
  refine xe_sn pg_20 4 (fr' := (10, [(0, .ref (ja_C c)), (1, .int rl), (2, .int x)], [.int 3, .int 0, .int 1, .ref (ja_C c)])) rfl ?_
  obtain ⟨r2, e2, hE⟩ := Option.bind_eq_some_iff.mp hE
  refine xe_cv pg_20 26 pg_26 [.int 1, .int 0, .int 3] [] (some (.ref (ja_L r2.1))) rfl rfl rfl rfl ⟨Nat.le_of_ble_eq_true rfl, Nat.le_of_ble_eq_true rfl, Nat.le_of_ble_eq_true rfl⟩ ⟨rfl, rfl⟩ (kk2 (k_C hc) (by decide)) (c_order _ (c := c) (o := 1) (s := 0) (n := 3) hc e2) ?_
  refine xe_sn pg_20 2 (fr' := (15, [(3, .ref (ja_L r2.1)), (0, .ref (ja_C c)), (1, .int rl), (2, .int x)], [.ref (ja_L r2.1)])) rfl ?_
  refine xe_gr pg_20 (ja_B r2.1) rfl rfl rfl (kk1 (k_L (t_order e2))) (r_L0 (t_order e2) _) ?_
  refine xe_sn pg_20 2 (fr' := (21, [(3, .ref (ja_L r2.1)), (0, .ref (ja_C c)), (1, .int rl), (2, .int x)], [.int rl, .int 7, .ref (ja_B r2.1)])) rfl ?_
  refine ye_iy pg_20 7 rfl (k_B (t_order e2)) ⟨by decide, by decide⟩ rfl (l_B (t_order e2) (k := 7) (by decide)) ?_
  refine xe_sn pg_20 4 (fr' := (28, [(3, .ref (ja_L r2.1)), (0, .ref (ja_C c)), (1, .int rl), (2, .int x)], [.int x, .int 17, .int 8, .ref (ja_L r2.1)])) rfl ?_
  obtain ⟨r3, e3, hE⟩ := Option.bind_eq_some_iff.mp hE
  refine xe_callq pg_20 0 [.int 17, .int x] (.inl (some (.int r3))) (31, [(3, .ref (ja_L r2.1)), (0, .ref (ja_C c)), (1, .int rl), (2, .int x)], [.int r3, .int 8, .ref (ja_L r2.1)]) rfl (fun _ => rfl) (c_raiseO _ (a := 17) (e := x)  e3) ?_
  obtain ⟨r4, e4, hE⟩ := Option.bind_eq_some_iff.mp hE
  refine xe_cv pg_20 10 pg_10 [.int 8, .int r3] [] (none) rfl rfl rfl rfl ⟨Nat.le_of_ble_eq_true rfl, Nat.le_of_ble_eq_true rfl, Nat.le_of_ble_eq_true rfl⟩ ⟨rfl, rfl⟩ (kk2 (k_L (t_order e2)) (by decide)) (c_putPair _ (κ := r2.1) (k := 8) (v := r3) (t_order e2) (by omega) (Option.some.inj e4)) ?_
  refine xe_sn pg_20 2 (fr' := (36, [(3, .ref (ja_L r2.1)), (0, .ref (ja_C c)), (1, .int rl), (2, .int x)], [.ref (ja_C c), .ref (ja_C c)])) rfl ?_
  refine ye_gi pg_20 (r4.1 168 c) rfl rfl rfl (kk1 (k_C hc)) ((l_C6 hc).rd _) ?_
  refine xe_sn pg_20 3 (fr' := (42, [(3, .ref (ja_L r2.1)), (0, .ref (ja_C c)), (1, .int rl), (2, .int x)], [.ref (ja_L r2.1), .int ((r4.1 168 c) - 1), .ref (ja_C c)])) rfl ?_
  obtain ⟨r5, e5, hE⟩ := Option.bind_eq_some_iff.mp hE
  refine xe_cv pg_20 27 pg_27 [.int ((r4.1 168 c) - 1), .ref (ja_L r2.1)] [] (none) rfl rfl rfl rfl ⟨Nat.le_of_ble_eq_true rfl, Nat.le_of_ble_eq_true rfl, Nat.le_of_ble_eq_true rfl⟩ ⟨rfl, rfl⟩ (kk2 (k_C hc) (by decide)) (c_sealTo _ (c := c) (hop := ((r4.1 168 c) - 1)) (κ := r2.1) hc (t_order e2) e5) ?_
  cases hE
  exact xe_end pg_20 rfl

def f_askForStream (S : xSt) (c : Nat) (s : Int32) (hop : Int32) : Option xSt := if bnd (s - 1) 3 then ((some (f_become (sx S 174 (3 * c + (s - 1).toNatClampNeg) hop) c (s - 1).toNatClampNeg 1 0)).bind fun r1 => (f_order r1 c 3 s 0).bind fun r2 => (f_sealTo r2.2 c hop r2.1).bind fun r3 => some r3) else none
set_option maxRecDepth 100000 in
theorem c_askForStream (d : Nat) {w : xWd} {S : xSt} {μ : Nat → Nat → Int32} {ρ : Nat → Nat → Int64} {c : Nat} {s : Int32} {hop : Int32} (hc : c < 4) {r : xSt} (hE : (f_askForStream S c s hop) = some r) : xc (d + 3) 22 [.ref (ja_C c), .int s, .int hop] (hz w S μ ρ) (.inl (none), hz w r μ ρ) := by
  unfold f_askForStream at hE
  refine xe_sn pg_22 1 (fr' := (1, [(0, .ref (ja_C c)), (1, .int s), (2, .int hop)], [.ref (ja_C c)])) rfl ?_
  refine xe_gr pg_22 (ja_V c) rfl rfl rfl (kk1 (k_C hc)) (r_C2 hc _) ?_
  refine xe_sn pg_22 3 (fr' := (7, [(0, .ref (ja_C c)), (1, .int s), (2, .int hop)], [.int (s - 1), .ref (ja_V c)])) rfl ?_
  by_cases g1 : bnd (s - 1) 3
  case neg => rw [if_neg g1] at hE; cases hE
  rw [if_pos g1] at hE
  refine xe_al pg_22 (s - 1).toNatClampNeg (ja_S c (s - 1).toNatClampNeg) rfl (k_V hc) ⟨by decide, by decide⟩ g1 rfl (r_V hc (bnd_lt g1) _) ?_
  refine xe_sn pg_22 1 (fr' := (9, [(0, .ref (ja_C c)), (1, .int s), (2, .int hop)], [.int hop, .ref (ja_S c (s - 1).toNatClampNeg)])) rfl ?_
  refine ye_px pg_22 rfl rfl ⟨rfl, rfl⟩ (Or.inl rfl) (kk1 (k_S hc (bnd_lt g1))) (show lx _ 1 174 _ from l_S hc (bnd_lt g1) (by decide)) ?_
  refine xe_sn pg_22 1 (fr' := (13, [(0, .ref (ja_C c)), (1, .int s), (2, .int hop)], [.ref (ja_C c)])) rfl ?_
  refine xe_gr pg_22 (ja_V c) rfl rfl rfl (kk1 (k_C hc)) (r_C2 hc _) ?_
  refine xe_sn pg_22 3 (fr' := (19, [(0, .ref (ja_C c)), (1, .int s), (2, .int hop)], [.int (s - 1), .ref (ja_V c)])) rfl ?_
  refine xe_al pg_22 (s - 1).toNatClampNeg (ja_S c (s - 1).toNatClampNeg) rfl (k_V hc) ⟨by decide, by decide⟩ g1 rfl (r_V hc (bnd_lt g1) _) ?_
  refine xe_sn pg_22 2 (fr' := (22, [(0, .ref (ja_C c)), (1, .int s), (2, .int hop)], [.int 0, .int 1, .ref (ja_S c (s - 1).toNatClampNeg)])) rfl ?_
  obtain ⟨r1, e1, hE⟩ := Option.bind_eq_some_iff.mp hE
  refine xe_cv pg_22 71 pg_71 [.int 1, .int 0] [] (none) rfl rfl rfl rfl ⟨Nat.le_of_ble_eq_true rfl, Nat.le_of_ble_eq_true rfl, Nat.le_of_ble_eq_true rfl⟩ ⟨rfl, rfl⟩ (kk2 (k_S hc (bnd_lt g1)) (by decide)) (c_become _ (c := c) (s := (s - 1).toNatClampNeg) (a := 1) (b := 0) hc (bnd_lt g1) (Option.some.inj e1)) ?_
  refine xe_sn pg_22 6 (fr' := (31, [(0, .ref (ja_C c)), (1, .int s), (2, .int hop)], [.int 0, .int s, .int 3, .ref (ja_C c), .int hop, .ref (ja_C c)])) rfl ?_
  obtain ⟨r2, e2, hE⟩ := Option.bind_eq_some_iff.mp hE
  refine xe_cv pg_22 26 pg_26 [.int 3, .int s, .int 0] [.int hop, .ref (ja_C c)] (some (.ref (ja_L r2.1))) rfl rfl rfl rfl ⟨Nat.le_of_ble_eq_true rfl, Nat.le_of_ble_eq_true rfl, Nat.le_of_ble_eq_true rfl⟩ ⟨rfl, rfl⟩ (kk2 (k_C hc) (by decide)) (c_order _ (c := c) (o := 3) (s := s) (n := 0) hc e2) ?_
  obtain ⟨r3, e3, hE⟩ := Option.bind_eq_some_iff.mp hE
  refine xe_cv pg_22 27 pg_27 [.int hop, .ref (ja_L r2.1)] [] (none) rfl rfl rfl rfl ⟨Nat.le_of_ble_eq_true rfl, Nat.le_of_ble_eq_true rfl, Nat.le_of_ble_eq_true rfl⟩ ⟨rfl, rfl⟩ (kk2 (k_C hc) (by decide)) (c_sealTo _ (c := c) (hop := hop) (κ := r2.1) hc (t_order e2) e3) ?_
  cases hE
  exact xe_end pg_22 rfl

def f_sendData (S : xSt) (c : Nat) (s : Int32) (n : Int32) (v : Int32) : Option xSt := (f_order S c 5 s n).bind fun r1 => if bnd n 8 then (if bnd (s - 1) 3 then ((f_sealTo (sx (sr r1.2 r1.1 (sfill (r1.2.2.1 r1.1) v n.toNatClampNeg)) 175 (3 * c + (s - 1).toNatClampNeg) (((sr r1.2 r1.1 (sfill (r1.2.2.1 r1.1) v n.toNatClampNeg)).1 175 (3 * c + (s - 1).toNatClampNeg)) - 1)) c ((sr r1.2 r1.1 (sfill (r1.2.2.1 r1.1) v n.toNatClampNeg)).1 174 (3 * c + (s - 1).toNatClampNeg)) r1.1).bind fun r2 => some r2) else none) else none
set_option maxRecDepth 100000 in
theorem c_sendData (d : Nat) {w : xWd} {S : xSt} {μ : Nat → Nat → Int32} {ρ : Nat → Nat → Int64} {c : Nat} {s : Int32} {n : Int32} {v : Int32} (hc : c < 4) {r : xSt} (hE : (f_sendData S c s n v) = some r) : xc (d + 3) 23 [.ref (ja_C c), .int s, .int n, .int v] (hz w S μ ρ) (.inl (none), hz w r μ ρ) := by
  unfold f_sendData at hE
  refine xe_sn pg_23 4 (fr' := (4, [(0, .ref (ja_C c)), (1, .int s), (2, .int n), (3, .int v)], [.int n, .int s, .int 5, .ref (ja_C c)])) rfl ?_
  obtain ⟨r1, e1, hE⟩ := Option.bind_eq_some_iff.mp hE
  refine xe_cv pg_23 26 pg_26 [.int 5, .int s, .int n] [] (some (.ref (ja_L r1.1))) rfl rfl rfl rfl ⟨Nat.le_of_ble_eq_true rfl, Nat.le_of_ble_eq_true rfl, Nat.le_of_ble_eq_true rfl⟩ ⟨rfl, rfl⟩ (kk2 (k_C hc) (by decide)) (c_order _ (c := c) (o := 5) (s := s) (n := n) hc e1) ?_
  refine xe_sn pg_23 3 (fr' := (12, [(5, .int 0), (4, .ref (ja_L r1.1)), (0, .ref (ja_C c)), (1, .int s), (2, .int n), (3, .int v)], [])) rfl ?_
  by_cases gn : bnd n 8
  case neg => rw [if_neg gn] at hE; cases hE
  rw [if_pos gn] at hE
  have q9 := fun dd z z2 => lp_sendData (r := z) dd (w := w) (S := r1.2) (μ := μ) (ρ := ρ) (s := s) (v := v) hc (t_order e1) (m := n.toNatClampNeg) (by have := bnd_lt gn; omega) z2 n.toNatClampNeg 0 (by omega)
  rw [sfill_0, sr_self, ← nI_bnd gn (by omega)] at q9
  refine q9 _ _ ?_
  refine xe_sn pg_23 1 (fr' := (44, [(5, .int n), (4, .ref (ja_L r1.1)), (0, .ref (ja_C c)), (1, .int s), (2, .int n), (3, .int v)], [.ref (ja_C c)])) rfl ?_
  refine xe_gr pg_23 (ja_V c) rfl rfl rfl (kk1 (k_C hc)) (r_C2 hc _) ?_
  refine xe_sn pg_23 3 (fr' := (50, [(5, .int n), (4, .ref (ja_L r1.1)), (0, .ref (ja_C c)), (1, .int s), (2, .int n), (3, .int v)], [.int (s - 1), .ref (ja_V c)])) rfl ?_
  by_cases g1 : bnd (s - 1) 3
  case neg => rw [if_neg g1] at hE; cases hE
  rw [if_pos g1] at hE
  refine xe_al pg_23 (s - 1).toNatClampNeg (ja_S c (s - 1).toNatClampNeg) rfl (k_V hc) ⟨by decide, by decide⟩ g1 rfl (r_V hc (bnd_lt g1) _) ?_
  refine xe_sn pg_23 1 (fr' := (52, [(5, .int n), (4, .ref (ja_L r1.1)), (0, .ref (ja_C c)), (1, .int s), (2, .int n), (3, .int v)], [.ref (ja_S c (s - 1).toNatClampNeg), .ref (ja_S c (s - 1).toNatClampNeg)])) rfl ?_
  refine ye_gi pg_23 ((sr r1.2 r1.1 (sfill (r1.2.2.1 r1.1) v n.toNatClampNeg)).1 175 (3 * c + (s - 1).toNatClampNeg)) rfl rfl rfl (kk1 (k_S hc (bnd_lt g1))) ((show lx _ 2 175 _ from l_S hc (bnd_lt g1) (by decide)).rd _) ?_
  refine xe_sn pg_23 2 (fr' := (57, [(5, .int n), (4, .ref (ja_L r1.1)), (0, .ref (ja_C c)), (1, .int s), (2, .int n), (3, .int v)], [.int (((sr r1.2 r1.1 (sfill (r1.2.2.1 r1.1) v n.toNatClampNeg)).1 175 (3 * c + (s - 1).toNatClampNeg)) - 1), .ref (ja_S c (s - 1).toNatClampNeg)])) rfl ?_
  refine ye_px pg_23 rfl rfl ⟨rfl, rfl⟩ (Or.inl rfl) (kk1 (k_S hc (bnd_lt g1))) (show lx _ 2 175 _ from l_S hc (bnd_lt g1) (by decide)) ?_
  refine xe_sn pg_23 2 (fr' := (62, [(5, .int n), (4, .ref (ja_L r1.1)), (0, .ref (ja_C c)), (1, .int s), (2, .int n), (3, .int v)], [.ref (ja_C c), .ref (ja_C c)])) rfl ?_
  refine xe_gr pg_23 (ja_V c) rfl rfl rfl (kk1 (k_C hc)) (r_C2 hc _) ?_
  refine xe_sn pg_23 3 (fr' := (68, [(5, .int n), (4, .ref (ja_L r1.1)), (0, .ref (ja_C c)), (1, .int s), (2, .int n), (3, .int v)], [.int (s - 1), .ref (ja_V c), .ref (ja_C c)])) rfl ?_
  refine xe_al pg_23 (s - 1).toNatClampNeg (ja_S c (s - 1).toNatClampNeg) rfl (k_V hc) ⟨by decide, by decide⟩ g1 rfl (r_V hc (bnd_lt g1) _) ?_
  refine ye_gi pg_23 ((sr r1.2 r1.1 (sfill (r1.2.2.1 r1.1) v n.toNatClampNeg)).1 174 (3 * c + (s - 1).toNatClampNeg)) rfl rfl rfl (kk1 (k_S hc (bnd_lt g1))) ((show lx _ 1 174 _ from l_S hc (bnd_lt g1) (by decide)).rd _) ?_
  refine xe_sn pg_23 1 (fr' := (74, [(5, .int n), (4, .ref (ja_L r1.1)), (0, .ref (ja_C c)), (1, .int s), (2, .int n), (3, .int v)], [.ref (ja_L r1.1), .int ((sr r1.2 r1.1 (sfill (r1.2.2.1 r1.1) v n.toNatClampNeg)).1 174 (3 * c + (s - 1).toNatClampNeg)), .ref (ja_C c)])) rfl ?_
  obtain ⟨r2, e2, hE⟩ := Option.bind_eq_some_iff.mp hE
  refine xe_cv pg_23 27 pg_27 [.int ((sr r1.2 r1.1 (sfill (r1.2.2.1 r1.1) v n.toNatClampNeg)).1 174 (3 * c + (s - 1).toNatClampNeg)), .ref (ja_L r1.1)] [] (none) rfl rfl rfl rfl ⟨Nat.le_of_ble_eq_true rfl, Nat.le_of_ble_eq_true rfl, Nat.le_of_ble_eq_true rfl⟩ ⟨rfl, rfl⟩ (kk2 (k_C hc) (by decide)) (c_sealTo _ (c := c) (hop := ((sr r1.2 r1.1 (sfill (r1.2.2.1 r1.1) v n.toNatClampNeg)).1 174 (3 * c + (s - 1).toNatClampNeg))) (κ := r1.1) hc (t_order e1) e2) ?_
  cases hE
  exact xe_end pg_23 rfl

def f_endStream (S : xSt) (c : Nat) (s : Int32) : Option xSt := if bnd (s - 1) 3 then ((some (f_become S c (s - 1).toNatClampNeg 0 0)).bind fun r1 => (f_order r1 c 6 s 0).bind fun r2 => (f_sealTo r2.2 c (r1.1 174 (3 * c + (s - 1).toNatClampNeg)) r2.1).bind fun r3 => some r3) else none
set_option maxRecDepth 100000 in
theorem c_endStream (d : Nat) {w : xWd} {S : xSt} {μ : Nat → Nat → Int32} {ρ : Nat → Nat → Int64} {c : Nat} {s : Int32} (hc : c < 4) {r : xSt} (hE : (f_endStream S c s) = some r) : xc (d + 3) 24 [.ref (ja_C c), .int s] (hz w S μ ρ) (.inl (none), hz w r μ ρ) := by
  unfold f_endStream at hE
  refine xe_sn pg_24 1 (fr' := (1, [(0, .ref (ja_C c)), (1, .int s)], [.ref (ja_C c)])) rfl ?_
  refine xe_gr pg_24 (ja_V c) rfl rfl rfl (kk1 (k_C hc)) (r_C2 hc _) ?_
  refine xe_sn pg_24 3 (fr' := (7, [(0, .ref (ja_C c)), (1, .int s)], [.int (s - 1), .ref (ja_V c)])) rfl ?_
  by_cases g1 : bnd (s - 1) 3
  case neg => rw [if_neg g1] at hE; cases hE
  rw [if_pos g1] at hE
  refine xe_al pg_24 (s - 1).toNatClampNeg (ja_S c (s - 1).toNatClampNeg) rfl (k_V hc) ⟨by decide, by decide⟩ g1 rfl (r_V hc (bnd_lt g1) _) ?_
  refine xe_sn pg_24 2 (fr' := (10, [(0, .ref (ja_C c)), (1, .int s)], [.int 0, .int 0, .ref (ja_S c (s - 1).toNatClampNeg)])) rfl ?_
  obtain ⟨r1, e1, hE⟩ := Option.bind_eq_some_iff.mp hE
  refine xe_cv pg_24 71 pg_71 [.int 0, .int 0] [] (none) rfl rfl rfl rfl ⟨Nat.le_of_ble_eq_true rfl, Nat.le_of_ble_eq_true rfl, Nat.le_of_ble_eq_true rfl⟩ ⟨rfl, rfl⟩ (kk2 (k_S hc (bnd_lt g1)) (by decide)) (c_become _ (c := c) (s := (s - 1).toNatClampNeg) (a := 0) (b := 0) hc (bnd_lt g1) (Option.some.inj e1)) ?_
  refine xe_sn pg_24 2 (fr' := (15, [(0, .ref (ja_C c)), (1, .int s)], [.ref (ja_C c), .ref (ja_C c)])) rfl ?_
  refine xe_gr pg_24 (ja_V c) rfl rfl rfl (kk1 (k_C hc)) (r_C2 hc _) ?_
  refine xe_sn pg_24 3 (fr' := (21, [(0, .ref (ja_C c)), (1, .int s)], [.int (s - 1), .ref (ja_V c), .ref (ja_C c)])) rfl ?_
  refine xe_al pg_24 (s - 1).toNatClampNeg (ja_S c (s - 1).toNatClampNeg) rfl (k_V hc) ⟨by decide, by decide⟩ g1 rfl (r_V hc (bnd_lt g1) _) ?_
  refine ye_gi pg_24 (r1.1 174 (3 * c + (s - 1).toNatClampNeg)) rfl rfl rfl (kk1 (k_S hc (bnd_lt g1))) ((show lx _ 1 174 _ from l_S hc (bnd_lt g1) (by decide)).rd _) ?_
  refine xe_sn pg_24 4 (fr' := (30, [(0, .ref (ja_C c)), (1, .int s)], [.int 0, .int s, .int 6, .ref (ja_C c), .int (r1.1 174 (3 * c + (s - 1).toNatClampNeg)), .ref (ja_C c)])) rfl ?_
  obtain ⟨r2, e2, hE⟩ := Option.bind_eq_some_iff.mp hE
  refine xe_cv pg_24 26 pg_26 [.int 6, .int s, .int 0] [.int (r1.1 174 (3 * c + (s - 1).toNatClampNeg)), .ref (ja_C c)] (some (.ref (ja_L r2.1))) rfl rfl rfl rfl ⟨Nat.le_of_ble_eq_true rfl, Nat.le_of_ble_eq_true rfl, Nat.le_of_ble_eq_true rfl⟩ ⟨rfl, rfl⟩ (kk2 (k_C hc) (by decide)) (c_order _ (c := c) (o := 6) (s := s) (n := 0) hc e2) ?_
  obtain ⟨r3, e3, hE⟩ := Option.bind_eq_some_iff.mp hE
  refine xe_cv pg_24 27 pg_27 [.int (r1.1 174 (3 * c + (s - 1).toNatClampNeg)), .ref (ja_L r2.1)] [] (none) rfl rfl rfl rfl ⟨Nat.le_of_ble_eq_true rfl, Nat.le_of_ble_eq_true rfl, Nat.le_of_ble_eq_true rfl⟩ ⟨rfl, rfl⟩ (kk2 (k_C hc) (by decide)) (c_sealTo _ (c := c) (hop := (r1.1 174 (3 * c + (s - 1).toNatClampNeg))) (κ := r2.1) hc (t_order e2) e3) ?_
  cases hE
  exact xe_end pg_24 rfl

def f_askToTruncate (S : xSt) (c : Nat) (hop : Int32) : Option xSt := (f_order S c 8 0 0).bind fun r1 => (f_sealTo r1.2 c hop r1.1).bind fun r2 => some r2
set_option maxRecDepth 100000 in
theorem c_askToTruncate (d : Nat) {w : xWd} {S : xSt} {μ : Nat → Nat → Int32} {ρ : Nat → Nat → Int64} {c : Nat} {hop : Int32} (hc : c < 4) {r : xSt} (hE : (f_askToTruncate S c hop) = some r) : xc (d + 3) 25 [.ref (ja_C c), .int hop] (hz w S μ ρ) (.inl (none), hz w r μ ρ) := by
  unfold f_askToTruncate at hE
  refine xe_sn pg_25 6 (fr' := (7, [(0, .ref (ja_C c)), (1, .int hop)], [.int 0, .int 0, .int 8, .ref (ja_C c), .int hop, .ref (ja_C c)])) rfl ?_
  obtain ⟨r1, e1, hE⟩ := Option.bind_eq_some_iff.mp hE
  refine xe_cv pg_25 26 pg_26 [.int 8, .int 0, .int 0] [.int hop, .ref (ja_C c)] (some (.ref (ja_L r1.1))) rfl rfl rfl rfl ⟨Nat.le_of_ble_eq_true rfl, Nat.le_of_ble_eq_true rfl, Nat.le_of_ble_eq_true rfl⟩ ⟨rfl, rfl⟩ (kk2 (k_C hc) (by decide)) (c_order _ (c := c) (o := 8) (s := 0) (n := 0) hc e1) ?_
  obtain ⟨r2, e2, hE⟩ := Option.bind_eq_some_iff.mp hE
  refine xe_cv pg_25 27 pg_27 [.int hop, .ref (ja_L r1.1)] [] (none) rfl rfl rfl rfl ⟨Nat.le_of_ble_eq_true rfl, Nat.le_of_ble_eq_true rfl, Nat.le_of_ble_eq_true rfl⟩ ⟨rfl, rfl⟩ (kk2 (k_C hc) (by decide)) (c_sealTo _ (c := c) (hop := hop) (κ := r1.1) hc (t_order e1) e2) ?_
  cases hE
  exact xe_end pg_25 rfl

def f_becomeClosed (S : xSt) (c : Nat) : xSt := (dropX (sx (sx S 167 c 3) 171 c (-1)).1 c 0, (sx (sx S 167 c 3) 171 c (-1)).2)
set_option maxRecDepth 100000 in
theorem c_becomeClosed (d : Nat) {w : xWd} {S : xSt} {μ : Nat → Nat → Int32} {ρ : Nat → Nat → Int64} {c : Nat} (hc : c < 4) {r : xSt} (hE : (f_becomeClosed S c) = r) : xc (d + 2) 30 [.ref (ja_C c)] (hz w S μ ρ) (.inl (none), hz w r μ ρ) := by
  unfold f_becomeClosed at hE
  refine xe_sn pg_30 2 (fr' := (2, [(0, .ref (ja_C c))], [.int 3, .ref (ja_C c)])) rfl ?_
  refine ye_px pg_30 rfl rfl ⟨rfl, rfl⟩ (Or.inl rfl) (kk1 (k_C hc)) (l_C5 hc) ?_
  refine xe_sn pg_30 2 (fr' := (7, [(0, .ref (ja_C c))], [.int (-1), .ref (ja_C c)])) rfl ?_
  refine ye_px pg_30 rfl rfl ⟨rfl, rfl⟩ (Or.inl rfl) (kk1 (k_C hc)) (l_C7 hc) ?_
  refine xe_sn pg_30 2 (fr' := (12, [(0, .ref (ja_C c))], [.int 0, .ref (ja_C c)])) rfl ?_
  refine xe_cv pg_30 31 pg_31 [.int 0] [] (none) rfl rfl rfl rfl ⟨Nat.le_of_ble_eq_true rfl, Nat.le_of_ble_eq_true rfl, Nat.le_of_ble_eq_true rfl⟩ ⟨rfl, rfl⟩ (kk2 (k_C hc) (by decide)) (c_drop _ (c := c) (hop := 0) hc) ?_
  subst hE
  exact xe_end pg_30 rfl

def f_shut (S : xSt) (c : Nat) : Option xSt := (some (f_firstRelay S c)).bind fun r1 => (f_add S 0 r1 (nI c) 4).bind fun r2 => (some (f_becomeClosed r2.2 c)).bind fun r3 => some r3
set_option maxRecDepth 100000 in
theorem c_shut (d : Nat) {w : xWd} {S : xSt} {μ : Nat → Nat → Int32} {ρ : Nat → Nat → Int64} {c : Nat} (hc : c < 4) {r : xSt} (hE : (f_shut S c) = some r) : xc (d + 3) 29 [.ref (ja_C c)] (hz w S μ ρ) (.inl (none), hz w r μ ρ) := by
  unfold f_shut at hE
  refine xe_sn pg_29 1 (fr' := (1, [(0, .ref (ja_C c))], [.ref (ja_C c)])) rfl ?_
  refine xe_gr pg_29 1 rfl rfl rfl (kk1 (k_C hc)) (r_C10 hc _) ?_
  refine xe_sn pg_29 2 (fr' := (6, [(0, .ref (ja_C c))], [.ref (ja_C c), .int 0, .ref 1])) rfl ?_
  obtain ⟨r1, e1, hE⟩ := Option.bind_eq_some_iff.mp hE
  refine xe_cv pg_29 28 pg_28 [] [.int 0, .ref 1] (some (.int r1)) rfl rfl rfl rfl ⟨Nat.le_of_ble_eq_true rfl, Nat.le_of_ble_eq_true rfl, Nat.le_of_ble_eq_true rfl⟩ ⟨rfl, rfl⟩ (kk2 (k_C hc) (by decide)) (c_firstRelay _ (c := c) hc (Option.some.inj e1)) ?_
  refine xe_sn pg_29 1 (fr' := (10, [(0, .ref (ja_C c))], [.ref (ja_C c), .int r1, .int 0, .ref 1])) rfl ?_
  refine ye_gi pg_29 (nI c) rfl rfl rfl (kk1 (k_C hc)) (c_C9 hc _) ?_
  refine xe_sn pg_29 1 (fr' := (14, [(0, .ref (ja_C c))], [.int 4, .int (nI c), .int r1, .int 0, .ref 1])) rfl ?_
  obtain ⟨r2, e2, hE⟩ := Option.bind_eq_some_iff.mp hE
  refine xe_cv pg_29 68 pg_68 [.int 0, .int r1, .int (nI c), .int 4] [] (some (.ref (ja_L r2.1))) rfl rfl rfl rfl ⟨Nat.le_of_ble_eq_true rfl, Nat.le_of_ble_eq_true rfl, Nat.le_of_ble_eq_true rfl⟩ ⟨rfl, rfl⟩ (kk2 k_W (by decide)) (c_add _ (a := 0) (b := r1) (c := (nI c)) (e := 4)  e2) ?_
  refine xe_sn pg_29 2 (fr' := (19, [(0, .ref (ja_C c))], [.ref (ja_C c)])) rfl ?_
  obtain ⟨r3, e3, hE⟩ := Option.bind_eq_some_iff.mp hE
  refine xe_cv pg_29 30 pg_30 [] [] (none) rfl rfl rfl rfl ⟨Nat.le_of_ble_eq_true rfl, Nat.le_of_ble_eq_true rfl, Nat.le_of_ble_eq_true rfl⟩ ⟨rfl, rfl⟩ (kk2 (k_C hc) (by decide)) (c_becomeClosed _ (c := c) hc (Option.some.inj e3)) ?_
  cases hE
  exact xe_end pg_29 rfl

