/-! relays -/
def f_takeSecret (S : xSt) (i : Nat) (b : Int32) : Option xSt := (f_raise 17 b).bind fun r1 => some (sx (sx S 178 (i + 1) b) 190 i r1)
set_option maxRecDepth 100000 in
theorem c_takeSecret (d : Nat) {w : xWd} {S : xSt} {μ : Nat → Nat → Int32} {ρ : Nat → Nat → Int64} {i : Nat} {b : Int32} (hi : i < 4) {r : xSt} (hE : (f_takeSecret S i b) = some r) : xc (d + 1) 63 [.ref (ja_R i), .int b] (hz w S μ ρ) (.inl (none), hz w r μ ρ) := by
  unfold f_takeSecret at hE
  refine xe_sn pg_63 2 (fr' := (2, [(0, .ref (ja_R i)), (1, .int b)], [.int b, .ref (ja_R i)])) rfl ?_
  refine ye_px pg_63 rfl rfl ⟨rfl, rfl⟩ (Or.inl rfl) (kk1 (k_R hi)) (l_R4 hi) ?_
  refine xe_sn pg_63 3 (fr' := (9, [(0, .ref (ja_R i)), (1, .int b)], [.int b, .int 17, .ref (ja_R i)])) rfl ?_
  obtain ⟨r1, e1, hE⟩ := Option.bind_eq_some_iff.mp hE
  refine xe_callq pg_63 0 [.int 17, .int b] (.inl (some (.int r1))) (12, [(0, .ref (ja_R i)), (1, .int b)], [.int r1, .ref (ja_R i)]) rfl (fun _ => rfl) (c_raiseO _ (a := 17) (e := b)  e1) ?_
  refine ye_px pg_63 rfl rfl ⟨rfl, rfl⟩ (Or.inl rfl) (kk1 (k_R hi)) (l_R1 hi) ?_
  cases hE
  exact xe_end pg_63 rfl

def f_hasPassage (S : xSt) (i : Nat) : Int32 := if (S.1 180 (4 * i)) = 0 then (if (S.1 180 (4 * i + 1)) = 0 then (if (S.1 180 (4 * i + 2)) = 0 then (if (S.1 180 (4 * i + 3)) = 0 then 0 else 1) else 1) else 1) else 1
set_option maxRecDepth 100000 in
theorem c_hasPassage (d : Nat) {w : xWd} {S : xSt} {μ : Nat → Nat → Int32} {ρ : Nat → Nat → Int64} {i : Nat} (hi : i < 4) {r : Int32} (hE : (f_hasPassage S i) = r) : xc (d) 64 [.ref (ja_R i)] (hz w S μ ρ) (.inl (some (.int r)), hz w S μ ρ) := by
  unfold f_hasPassage at hE
  refine xe_sn pg_64 6 (fr' := (8, [(1, .int 0), (0, .ref (ja_R i))], [.ref (ja_R i)])) rfl ?_
  refine xe_gr pg_64 (ja_Q i) rfl rfl rfl (kk1 (k_R hi)) (r_R0 hi _) ?_
  refine xe_sn pg_64 1 (fr' := (12, [(1, .int 0), (0, .ref (ja_R i))], [.int 0, .ref (ja_Q i)])) rfl ?_
  refine xe_al pg_64 0 (ja_P i 0) rfl (k_Q hi) ⟨by decide, by decide⟩ ⟨by decide, by decide⟩ rfl (r_Q hi (by decide) _) ?_
  refine ye_gi pg_64 (S.1 180 (4 * i)) rfl rfl rfl (kk1 (k_P hi (by decide))) ((show lx _ 2 180 _ from lx_ix (4 * i) (l_P hi (by decide) (by decide) (by decide)) (by omega)).rd _) ?_
  by_cases h1 : (S.1 180 (4 * i)) = 0
  · rw [if_pos h1] at hE
    refine xe_c1t pg_64 21 rfl rfl h1 ?_
    refine xe_sn pg_64 2 (fr' := (2, [(1, .int 1), (0, .ref (ja_R i))], [])) rfl ?_
    refine xe_sn pg_64 4 (fr' := (8, [(1, .int 1), (0, .ref (ja_R i))], [.ref (ja_R i)])) rfl ?_
    refine xe_gr pg_64 (ja_Q i) rfl rfl rfl (kk1 (k_R hi)) (r_R0 hi _) ?_
    refine xe_sn pg_64 1 (fr' := (12, [(1, .int 1), (0, .ref (ja_R i))], [.int 1, .ref (ja_Q i)])) rfl ?_
    refine xe_al pg_64 1 (ja_P i 1) rfl (k_Q hi) ⟨by decide, by decide⟩ ⟨by decide, by decide⟩ rfl (r_Q hi (by decide) _) ?_
    refine ye_gi pg_64 (S.1 180 (4 * i + 1)) rfl rfl rfl (kk1 (k_P hi (by decide))) ((show lx _ 2 180 _ from lx_ix (4 * i + 1) (l_P hi (by decide) (by decide) (by decide)) (by omega)).rd _) ?_
    by_cases h2 : (S.1 180 (4 * i + 1)) = 0
    · rw [if_pos h2] at hE
      refine xe_c1t pg_64 21 rfl rfl h2 ?_
      refine xe_sn pg_64 2 (fr' := (2, [(1, .int 2), (0, .ref (ja_R i))], [])) rfl ?_
      refine xe_sn pg_64 4 (fr' := (8, [(1, .int 2), (0, .ref (ja_R i))], [.ref (ja_R i)])) rfl ?_
      refine xe_gr pg_64 (ja_Q i) rfl rfl rfl (kk1 (k_R hi)) (r_R0 hi _) ?_
      refine xe_sn pg_64 1 (fr' := (12, [(1, .int 2), (0, .ref (ja_R i))], [.int 2, .ref (ja_Q i)])) rfl ?_
      refine xe_al pg_64 2 (ja_P i 2) rfl (k_Q hi) ⟨by decide, by decide⟩ ⟨by decide, by decide⟩ rfl (r_Q hi (by decide) _) ?_
      refine ye_gi pg_64 (S.1 180 (4 * i + 2)) rfl rfl rfl (kk1 (k_P hi (by decide))) ((show lx _ 2 180 _ from lx_ix (4 * i + 2) (l_P hi (by decide) (by decide) (by decide)) (by omega)).rd _) ?_
      by_cases h3 : (S.1 180 (4 * i + 2)) = 0
      · rw [if_pos h3] at hE
        refine xe_c1t pg_64 21 rfl rfl h3 ?_
        refine xe_sn pg_64 2 (fr' := (2, [(1, .int 3), (0, .ref (ja_R i))], [])) rfl ?_
        refine xe_sn pg_64 4 (fr' := (8, [(1, .int 3), (0, .ref (ja_R i))], [.ref (ja_R i)])) rfl ?_
        refine xe_gr pg_64 (ja_Q i) rfl rfl rfl (kk1 (k_R hi)) (r_R0 hi _) ?_
        refine xe_sn pg_64 1 (fr' := (12, [(1, .int 3), (0, .ref (ja_R i))], [.int 3, .ref (ja_Q i)])) rfl ?_
        refine xe_al pg_64 3 (ja_P i 3) rfl (k_Q hi) ⟨by decide, by decide⟩ ⟨by decide, by decide⟩ rfl (r_Q hi (by decide) _) ?_
        refine ye_gi pg_64 (S.1 180 (4 * i + 3)) rfl rfl rfl (kk1 (k_P hi (by decide))) ((show lx _ 2 180 _ from lx_ix (4 * i + 3) (l_P hi (by decide) (by decide) (by decide)) (by omega)).rd _) ?_
        by_cases h4 : (S.1 180 (4 * i + 3)) = 0
        · rw [if_pos h4] at hE
          refine xe_c1t pg_64 21 rfl rfl h4 ?_
          refine xe_sn pg_64 2 (fr' := (2, [(1, .int 4), (0, .ref (ja_R i))], [])) rfl ?_
          refine xe_sn pg_64 4 (fr' := (28, [(1, .int 4), (0, .ref (ja_R i))], [.int 0])) rfl ?_
          subst hE
          exact xe_end pg_64 rfl
        · rw [if_neg h4] at hE
          refine xe_c1f pg_64 21 rfl rfl h4 ?_
          refine xe_sn pg_64 1 (fr' := (20, [(1, .int 3), (0, .ref (ja_R i))], [.int 1])) rfl ?_
          subst hE
          exact xe_end pg_64 rfl
      · rw [if_neg h3] at hE
        refine xe_c1f pg_64 21 rfl rfl h3 ?_
        refine xe_sn pg_64 1 (fr' := (20, [(1, .int 2), (0, .ref (ja_R i))], [.int 1])) rfl ?_
        subst hE
        exact xe_end pg_64 rfl
    · rw [if_neg h2] at hE
      refine xe_c1f pg_64 21 rfl rfl h2 ?_
      refine xe_sn pg_64 1 (fr' := (20, [(1, .int 1), (0, .ref (ja_R i))], [.int 1])) rfl ?_
      subst hE
      exact xe_end pg_64 rfl
  · rw [if_neg h1] at hE
    refine xe_c1f pg_64 21 rfl rfl h1 ?_
    refine xe_sn pg_64 1 (fr' := (20, [(1, .int 0), (0, .ref (ja_R i))], [.int 1])) rfl ?_
    subst hE
    exact xe_end pg_64 rfl
theorem b_hasPassage {S : xSt} {i : Nat} {r : Int32} (hE : (f_hasPassage S i) = r) : r = 0 ∨ r = 1 := by
  unfold f_hasPassage at hE
  by_cases h1 : (S.1 180 (4 * i)) = 0
  · rw [if_pos h1] at hE
    by_cases h2 : (S.1 180 (4 * i + 1)) = 0
    · rw [if_pos h2] at hE
      by_cases h3 : (S.1 180 (4 * i + 2)) = 0
      · rw [if_pos h3] at hE
        by_cases h4 : (S.1 180 (4 * i + 3)) = 0
        · rw [if_pos h4] at hE
          subst hE
          exact Or.inl rfl
        · rw [if_neg h4] at hE
          subst hE
          exact Or.inr rfl
      · rw [if_neg h3] at hE
        subst hE
        exact Or.inr rfl
    · rw [if_neg h2] at hE
      subst hE
      exact Or.inr rfl
  · rw [if_neg h1] at hE
    subst hE
    exact Or.inr rfl

def f_takesCreate (S : xSt) (i : Nat) (κ : Nat) (c : Nat) : Option (Int32 × xSt) := if (S.1 180 (4 * i + c)) = 0 then ((some (f_pair S κ 0)).bind fun r1 => if r1 = 0 then ((f_add S (nI (i + 1)) (S.2.1 κ 14) (S.2.1 κ 16) 4).bind fun r2 => some (1, r2.2)) else (if r1 < 65521 then ((f_raise 17 ((1 : Int32) + (rem (((r1 * 31) + (nI (977 * i + 977))) + (S.1 179 (i + 1))) 65519))).bind fun r3 => (f_raise r1 ((1 : Int32) + (rem (((r1 * 31) + (nI (977 * i + 977))) + (S.1 179 (i + 1))) 65519))).bind fun r4 => (f_raise r1 (S.1 178 (i + 1))).bind fun r5 => (some (f_shared r4 r5 r1 r3 (nI (i + 1)))).bind fun r6 => (some (f_start (sx S 179 (i + 1) ((S.1 179 (i + 1)) + 1)) i c (S.2.1 κ 14) r6)).bind fun r7 => (f_add r7 (nI (i + 1)) (r7.2.1 κ 14) (r7.2.1 κ 16) 2).bind fun r8 => (some (f_putPair r8.2 r8.1 0 r3)).bind fun r9 => (some (f_tag r6)).bind fun r10 => (some (f_putPair r9 r8.1 2 r10)).bind fun r11 => some (1, r11)) else ((f_add S (nI (i + 1)) (S.2.1 κ 14) (S.2.1 κ 16) 4).bind fun r12 => some (1, r12.2)))) else (some (0, S))
set_option maxRecDepth 100000 in
theorem c_takesCreate (d : Nat) {w : xWd} {S : xSt} {μ : Nat → Nat → Int32} {ρ : Nat → Nat → Int64} {i : Nat} {κ : Nat} {c : Nat} (hi : i < 4) (hκ : κ < 22) (hc : c < 4) {r : Int32 × xSt} (hE : (f_takesCreate S i κ c) = some r) : xc (d + 3) 66 [.ref (ja_R i), .ref (ja_L κ), .ref (ja_P i c)] (hz w S μ ρ) (.inl (some (.int r.1)), hz w r.2 μ ρ) := by
  unfold f_takesCreate at hE
  refine xe_sn pg_66 1 (fr' := (1, [(0, .ref (ja_R i)), (1, .ref (ja_L κ)), (2, .ref (ja_P i c))], [.ref (ja_P i c)])) rfl ?_
  refine ye_gi pg_66 (S.1 180 (4 * i + c)) rfl rfl rfl (kk1 (k_P hi hc)) ((show lx _ 2 180 _ from lx_ix (4 * i + c) (l_P hi hc (by decide) (by decide)) (by omega)).rd _) ?_
  by_cases h1 : (S.1 180 (4 * i + c)) = 0
  · rw [if_pos h1] at hE
    refine xe_c1t pg_66 9 rfl rfl h1 ?_
    refine xe_sn pg_66 2 (fr' := (11, [(0, .ref (ja_R i)), (1, .ref (ja_L κ)), (2, .ref (ja_P i c))], [.int 0, .ref (ja_L κ)])) rfl ?_
    obtain ⟨r1, e1, hE⟩ := Option.bind_eq_some_iff.mp hE
    refine xe_cv pg_66 9 pg_9 [.int 0] [] (some (.int r1)) rfl rfl rfl rfl ⟨Nat.le_of_ble_eq_true rfl, Nat.le_of_ble_eq_true rfl, Nat.le_of_ble_eq_true rfl⟩ ⟨rfl, rfl⟩ (kk2 (k_L hκ) (by decide)) (c_pair _ (κ := κ) (k := 0) hκ (by omega) (Option.some.inj e1)) ?_
    refine xe_sn pg_66 2 (fr' := (16, [(3, .int r1), (0, .ref (ja_R i)), (1, .ref (ja_L κ)), (2, .ref (ja_P i c))], [.int r1])) rfl ?_
    by_cases h2 : r1 = 0
    · rw [if_pos h2] at hE
      refine xe_c1t pg_66 25 rfl rfl h2 ?_
      refine xe_sn pg_66 1 (fr' := (26, [(3, .int r1), (0, .ref (ja_R i)), (1, .ref (ja_L κ)), (2, .ref (ja_P i c))], [.ref (ja_R i)])) rfl ?_
      refine xe_gr pg_66 1 rfl rfl rfl (kk1 (k_R hi)) (r_R3 hi _) ?_
      refine xe_sn pg_66 1 (fr' := (30, [(3, .int r1), (0, .ref (ja_R i)), (1, .ref (ja_L κ)), (2, .ref (ja_P i c))], [.ref (ja_R i), .ref 1])) rfl ?_
      refine ye_gi pg_66 (nI (i + 1)) rfl rfl rfl (kk1 (k_R hi)) (c_R2 hi _) ?_
      refine xe_sn pg_66 1 (fr' := (34, [(3, .int r1), (0, .ref (ja_R i)), (1, .ref (ja_L κ)), (2, .ref (ja_P i c))], [.ref (ja_L κ), .int (nI (i + 1)), .ref 1])) rfl ?_
      refine ye_gi pg_66 (S.2.1 κ 14) rfl rfl rfl (kk1 (k_L hκ)) ((show ly _ 1 κ 14 from l_L hκ (by decide) (by decide)).rd _) ?_
      refine xe_sn pg_66 1 (fr' := (38, [(3, .int r1), (0, .ref (ja_R i)), (1, .ref (ja_L κ)), (2, .ref (ja_P i c))], [.ref (ja_L κ), .int (S.2.1 κ 14), .int (nI (i + 1)), .ref 1])) rfl ?_
      refine ye_gi pg_66 (S.2.1 κ 16) rfl rfl rfl (kk1 (k_L hκ)) ((show ly _ 3 κ 16 from l_L hκ (by decide) (by decide)).rd _) ?_
      refine xe_sn pg_66 1 (fr' := (42, [(3, .int r1), (0, .ref (ja_R i)), (1, .ref (ja_L κ)), (2, .ref (ja_P i c))], [.int 4, .int (S.2.1 κ 16), .int (S.2.1 κ 14), .int (nI (i + 1)), .ref 1])) rfl ?_
      obtain ⟨r2, e2, hE⟩ := Option.bind_eq_some_iff.mp hE
      refine xe_cv pg_66 68 pg_68 [.int (nI (i + 1)), .int (S.2.1 κ 14), .int (S.2.1 κ 16), .int 4] [] (some (.ref (ja_L r2.1))) rfl rfl rfl rfl ⟨Nat.le_of_ble_eq_true rfl, Nat.le_of_ble_eq_true rfl, Nat.le_of_ble_eq_true rfl⟩ ⟨rfl, rfl⟩ (kk2 k_W (by decide)) (c_add _ (a := (nI (i + 1))) (b := (S.2.1 κ 14)) (c := (S.2.1 κ 16)) (e := 4)  e2) ?_
      refine xe_sn pg_66 2 (fr' := (47, [(3, .int r1), (0, .ref (ja_R i)), (1, .ref (ja_L κ)), (2, .ref (ja_P i c))], [.int 1])) rfl ?_
      cases hE
      exact xe_end pg_66 rfl
    · rw [if_neg h2] at hE
      refine xe_c1f pg_66 25 rfl rfl h2 ?_
      refine xe_sn pg_66 2 (fr' := (22, [(3, .int r1), (0, .ref (ja_R i)), (1, .ref (ja_L κ)), (2, .ref (ja_P i c))], [.int 65521, .int r1])) rfl ?_
      by_cases h3 : r1 < 65521
      · rw [if_pos h3] at hE
        refine xe_c2t pg_66 48 rfl rfl h3 ?_
        refine xe_sn pg_66 6 (fr' := (57, [(3, .int r1), (0, .ref (ja_R i)), (1, .ref (ja_L κ)), (2, .ref (ja_P i c))], [.ref (ja_R i), .int 977, .int (r1 * 31), .int 1])) rfl ?_
        refine ye_gi pg_66 (nI (i + 1)) rfl rfl rfl (kk1 (k_R hi)) (c_R2 hi _) ?_
        refine xe_nm pg_66 977 (i + 1) (977 * i + 977) rfl (by omega) ?_
        refine xe_sn pg_66 2 (fr' := (63, [(3, .int r1), (0, .ref (ja_R i)), (1, .ref (ja_L κ)), (2, .ref (ja_P i c))], [.ref (ja_R i), .int ((r1 * 31) + (nI (977 * i + 977))), .int 1])) rfl ?_
        refine ye_gi pg_66 (S.1 179 (i + 1)) rfl rfl rfl (kk1 (k_R hi)) ((l_R5 hi).rd _) ?_
        refine xe_sn pg_66 7 (fr' := (75, [(4, .int ((1 : Int32) + (rem (((r1 * 31) + (nI (977 * i + 977))) + (S.1 179 (i + 1))) 65519))), (3, .int r1), (0, .ref (ja_R i)), (1, .ref (ja_L κ)), (2, .ref (ja_P i c))], [.ref (ja_R i), .ref (ja_R i)])) rfl ?_
        refine ye_gi pg_66 (S.1 179 (i + 1)) rfl rfl rfl (kk1 (k_R hi)) ((l_R5 hi).rd _) ?_
        refine xe_sn pg_66 2 (fr' := (80, [(4, .int ((1 : Int32) + (rem (((r1 * 31) + (nI (977 * i + 977))) + (S.1 179 (i + 1))) 65519))), (3, .int r1), (0, .ref (ja_R i)), (1, .ref (ja_L κ)), (2, .ref (ja_P i c))], [.int ((S.1 179 (i + 1)) + 1), .ref (ja_R i)])) rfl ?_
        refine ye_px pg_66 rfl rfl ⟨rfl, rfl⟩ (Or.inl rfl) (kk1 (k_R hi)) (l_R5 hi) ?_
        refine xe_sn pg_66 2 (fr' := (87, [(4, .int ((1 : Int32) + (rem (((r1 * 31) + (nI (977 * i + 977))) + (S.1 179 (i + 1))) 65519))), (3, .int r1), (0, .ref (ja_R i)), (1, .ref (ja_L κ)), (2, .ref (ja_P i c))], [.int ((1 : Int32) + (rem (((r1 * 31) + (nI (977 * i + 977))) + (S.1 179 (i + 1))) 65519)), .int 17])) rfl ?_
        obtain ⟨r3, e3, hE⟩ := Option.bind_eq_some_iff.mp hE
        refine xe_callq pg_66 0 [.int 17, .int ((1 : Int32) + (rem (((r1 * 31) + (nI (977 * i + 977))) + (S.1 179 (i + 1))) 65519))] (.inl (some (.int r3))) (90, [(4, .int ((1 : Int32) + (rem (((r1 * 31) + (nI (977 * i + 977))) + (S.1 179 (i + 1))) 65519))), (3, .int r1), (0, .ref (ja_R i)), (1, .ref (ja_L κ)), (2, .ref (ja_P i c))], [.int r3]) rfl (fun _ => rfl) (c_raiseO _ (a := 17) (e := ((1 : Int32) + (rem (((r1 * 31) + (nI (977 * i + 977))) + (S.1 179 (i + 1))) 65519)))  e3) ?_
        refine xe_sn pg_66 3 (fr' := (95, [(5, .int r3), (4, .int ((1 : Int32) + (rem (((r1 * 31) + (nI (977 * i + 977))) + (S.1 179 (i + 1))) 65519))), (3, .int r1), (0, .ref (ja_R i)), (1, .ref (ja_L κ)), (2, .ref (ja_P i c))], [.int ((1 : Int32) + (rem (((r1 * 31) + (nI (977 * i + 977))) + (S.1 179 (i + 1))) 65519)), .int r1])) rfl ?_
        obtain ⟨r4, e4, hE⟩ := Option.bind_eq_some_iff.mp hE
        refine xe_callq pg_66 0 [.int r1, .int ((1 : Int32) + (rem (((r1 * 31) + (nI (977 * i + 977))) + (S.1 179 (i + 1))) 65519))] (.inl (some (.int r4))) (98, [(5, .int r3), (4, .int ((1 : Int32) + (rem (((r1 * 31) + (nI (977 * i + 977))) + (S.1 179 (i + 1))) 65519))), (3, .int r1), (0, .ref (ja_R i)), (1, .ref (ja_L κ)), (2, .ref (ja_P i c))], [.int r4]) rfl (fun _ => rfl) (c_raiseO _ (a := r1) (e := ((1 : Int32) + (rem (((r1 * 31) + (nI (977 * i + 977))) + (S.1 179 (i + 1))) 65519)))  e4) ?_
        refine xe_sn pg_66 2 (fr' := (100, [(5, .int r3), (4, .int ((1 : Int32) + (rem (((r1 * 31) + (nI (977 * i + 977))) + (S.1 179 (i + 1))) 65519))), (3, .int r1), (0, .ref (ja_R i)), (1, .ref (ja_L κ)), (2, .ref (ja_P i c))], [.ref (ja_R i), .int r1, .int r4])) rfl ?_
        refine ye_gi pg_66 (S.1 178 (i + 1)) rfl rfl rfl (kk1 (k_R hi)) ((l_R4 hi).rd _) ?_
        obtain ⟨r5, e5, hE⟩ := Option.bind_eq_some_iff.mp hE
        refine xe_callq pg_66 0 [.int r1, .int (S.1 178 (i + 1))] (.inl (some (.int r5))) (106, [(5, .int r3), (4, .int ((1 : Int32) + (rem (((r1 * 31) + (nI (977 * i + 977))) + (S.1 179 (i + 1))) 65519))), (3, .int r1), (0, .ref (ja_R i)), (1, .ref (ja_L κ)), (2, .ref (ja_P i c))], [.int r5, .int r4]) rfl (fun _ => rfl) (c_raiseO _ (a := r1) (e := (S.1 178 (i + 1)))  e5) ?_
        refine xe_sn pg_66 3 (fr' := (110, [(5, .int r3), (4, .int ((1 : Int32) + (rem (((r1 * 31) + (nI (977 * i + 977))) + (S.1 179 (i + 1))) 65519))), (3, .int r1), (0, .ref (ja_R i)), (1, .ref (ja_L κ)), (2, .ref (ja_P i c))], [.ref (ja_R i), .int r3, .int r1, .int r5, .int r4])) rfl ?_
        refine ye_gi pg_66 (nI (i + 1)) rfl rfl rfl (kk1 (k_R hi)) (c_R2 hi _) ?_
        obtain ⟨r6, e6, hE⟩ := Option.bind_eq_some_iff.mp hE
        refine xe_callq pg_66 2 [.int r4, .int r5, .int r1, .int r3, .int (nI (i + 1))] (.inl (some (.int r6))) (116, [(5, .int r3), (4, .int ((1 : Int32) + (rem (((r1 * 31) + (nI (977 * i + 977))) + (S.1 179 (i + 1))) 65519))), (3, .int r1), (0, .ref (ja_R i)), (1, .ref (ja_L κ)), (2, .ref (ja_P i c))], [.int r6]) rfl (fun _ => rfl) (c_shared _ (s := r4) (t := r5) (u := r1) (y := r3) (n := (nI (i + 1)))  (Option.some.inj e6)) ?_
        refine xe_sn pg_66 3 (fr' := (120, [(6, .int r6), (5, .int r3), (4, .int ((1 : Int32) + (rem (((r1 * 31) + (nI (977 * i + 977))) + (S.1 179 (i + 1))) 65519))), (3, .int r1), (0, .ref (ja_R i)), (1, .ref (ja_L κ)), (2, .ref (ja_P i c))], [.ref (ja_L κ), .ref (ja_P i c)])) rfl ?_
        refine ye_gi pg_66 (S.2.1 κ 14) rfl rfl rfl (kk1 (k_L hκ)) ((show ly _ 1 κ 14 from l_L hκ (by decide) (by decide)).rd _) ?_
        refine xe_sn pg_66 1 (fr' := (125, [(6, .int r6), (5, .int r3), (4, .int ((1 : Int32) + (rem (((r1 * 31) + (nI (977 * i + 977))) + (S.1 179 (i + 1))) 65519))), (3, .int r1), (0, .ref (ja_R i)), (1, .ref (ja_L κ)), (2, .ref (ja_P i c))], [.int r6, .int (S.2.1 κ 14), .ref (ja_P i c)])) rfl ?_
        obtain ⟨r7, e7, hE⟩ := Option.bind_eq_some_iff.mp hE
        refine xe_cv pg_66 42 pg_42 [.int (S.2.1 κ 14), .int r6] [] (none) rfl rfl rfl rfl ⟨Nat.le_of_ble_eq_true rfl, Nat.le_of_ble_eq_true rfl, Nat.le_of_ble_eq_true rfl⟩ ⟨rfl, rfl⟩ (kk2 (k_P hi hc) (by decide)) (c_start _ (i := i) (c := c) (f := (S.2.1 κ 14)) (h0 := r6) hi hc (Option.some.inj e7)) ?_
        refine xe_sn pg_66 1 (fr' := (129, [(6, .int r6), (5, .int r3), (4, .int ((1 : Int32) + (rem (((r1 * 31) + (nI (977 * i + 977))) + (S.1 179 (i + 1))) 65519))), (3, .int r1), (0, .ref (ja_R i)), (1, .ref (ja_L κ)), (2, .ref (ja_P i c))], [.ref (ja_R i)])) rfl ?_
        refine xe_gr pg_66 1 rfl rfl rfl (kk1 (k_R hi)) (r_R3 hi _) ?_
        refine xe_sn pg_66 1 (fr' := (133, [(6, .int r6), (5, .int r3), (4, .int ((1 : Int32) + (rem (((r1 * 31) + (nI (977 * i + 977))) + (S.1 179 (i + 1))) 65519))), (3, .int r1), (0, .ref (ja_R i)), (1, .ref (ja_L κ)), (2, .ref (ja_P i c))], [.ref (ja_R i), .ref 1])) rfl ?_
        refine ye_gi pg_66 (nI (i + 1)) rfl rfl rfl (kk1 (k_R hi)) (c_R2 hi _) ?_
        refine xe_sn pg_66 1 (fr' := (137, [(6, .int r6), (5, .int r3), (4, .int ((1 : Int32) + (rem (((r1 * 31) + (nI (977 * i + 977))) + (S.1 179 (i + 1))) 65519))), (3, .int r1), (0, .ref (ja_R i)), (1, .ref (ja_L κ)), (2, .ref (ja_P i c))], [.ref (ja_L κ), .int (nI (i + 1)), .ref 1])) rfl ?_
        refine ye_gi pg_66 (r7.2.1 κ 14) rfl rfl rfl (kk1 (k_L hκ)) ((show ly _ 1 κ 14 from l_L hκ (by decide) (by decide)).rd _) ?_
        refine xe_sn pg_66 1 (fr' := (141, [(6, .int r6), (5, .int r3), (4, .int ((1 : Int32) + (rem (((r1 * 31) + (nI (977 * i + 977))) + (S.1 179 (i + 1))) 65519))), (3, .int r1), (0, .ref (ja_R i)), (1, .ref (ja_L κ)), (2, .ref (ja_P i c))], [.ref (ja_L κ), .int (r7.2.1 κ 14), .int (nI (i + 1)), .ref 1])) rfl ?_
        refine ye_gi pg_66 (r7.2.1 κ 16) rfl rfl rfl (kk1 (k_L hκ)) ((show ly _ 3 κ 16 from l_L hκ (by decide) (by decide)).rd _) ?_
        refine xe_sn pg_66 1 (fr' := (145, [(6, .int r6), (5, .int r3), (4, .int ((1 : Int32) + (rem (((r1 * 31) + (nI (977 * i + 977))) + (S.1 179 (i + 1))) 65519))), (3, .int r1), (0, .ref (ja_R i)), (1, .ref (ja_L κ)), (2, .ref (ja_P i c))], [.int 2, .int (r7.2.1 κ 16), .int (r7.2.1 κ 14), .int (nI (i + 1)), .ref 1])) rfl ?_
        obtain ⟨r8, e8, hE⟩ := Option.bind_eq_some_iff.mp hE
        refine xe_cv pg_66 68 pg_68 [.int (nI (i + 1)), .int (r7.2.1 κ 14), .int (r7.2.1 κ 16), .int 2] [] (some (.ref (ja_L r8.1))) rfl rfl rfl rfl ⟨Nat.le_of_ble_eq_true rfl, Nat.le_of_ble_eq_true rfl, Nat.le_of_ble_eq_true rfl⟩ ⟨rfl, rfl⟩ (kk2 k_W (by decide)) (c_add _ (a := (nI (i + 1))) (b := (r7.2.1 κ 14)) (c := (r7.2.1 κ 16)) (e := 2)  e8) ?_
        refine xe_sn pg_66 4 (fr' := (155, [(7, .ref (ja_L r8.1)), (6, .int r6), (5, .int r3), (4, .int ((1 : Int32) + (rem (((r1 * 31) + (nI (977 * i + 977))) + (S.1 179 (i + 1))) 65519))), (3, .int r1), (0, .ref (ja_R i)), (1, .ref (ja_L κ)), (2, .ref (ja_P i c))], [.int r3, .int 0, .ref (ja_L r8.1)])) rfl ?_
        obtain ⟨r9, e9, hE⟩ := Option.bind_eq_some_iff.mp hE
        refine xe_cv pg_66 10 pg_10 [.int 0, .int r3] [] (none) rfl rfl rfl rfl ⟨Nat.le_of_ble_eq_true rfl, Nat.le_of_ble_eq_true rfl, Nat.le_of_ble_eq_true rfl⟩ ⟨rfl, rfl⟩ (kk2 (k_L (t_add e8)) (by decide)) (c_putPair _ (κ := r8.1) (k := 0) (v := r3) (t_add e8) (by omega) (Option.some.inj e9)) ?_
        refine xe_sn pg_66 3 (fr' := (163, [(7, .ref (ja_L r8.1)), (6, .int r6), (5, .int r3), (4, .int ((1 : Int32) + (rem (((r1 * 31) + (nI (977 * i + 977))) + (S.1 179 (i + 1))) 65519))), (3, .int r1), (0, .ref (ja_R i)), (1, .ref (ja_L κ)), (2, .ref (ja_P i c))], [.int r6, .int 2, .ref (ja_L r8.1)])) rfl ?_
        obtain ⟨r10, e10, hE⟩ := Option.bind_eq_some_iff.mp hE
        refine xe_callq pg_66 3 [.int r6] (.inl (some (.int r10))) (166, [(7, .ref (ja_L r8.1)), (6, .int r6), (5, .int r3), (4, .int ((1 : Int32) + (rem (((r1 * 31) + (nI (977 * i + 977))) + (S.1 179 (i + 1))) 65519))), (3, .int r1), (0, .ref (ja_R i)), (1, .ref (ja_L κ)), (2, .ref (ja_P i c))], [.int r10, .int 2, .ref (ja_L r8.1)]) rfl (fun _ => rfl) (c_tag _ (x := r6)  (Option.some.inj e10)) ?_
        obtain ⟨r11, e11, hE⟩ := Option.bind_eq_some_iff.mp hE
        refine xe_cv pg_66 10 pg_10 [.int 2, .int r10] [] (none) rfl rfl rfl rfl ⟨Nat.le_of_ble_eq_true rfl, Nat.le_of_ble_eq_true rfl, Nat.le_of_ble_eq_true rfl⟩ ⟨rfl, rfl⟩ (kk2 (k_L (t_add e8)) (by decide)) (c_putPair _ (κ := r8.1) (k := 2) (v := r10) (t_add e8) (by omega) (Option.some.inj e11)) ?_
        refine xe_sn pg_66 1 (fr' := (170, [(7, .ref (ja_L r8.1)), (6, .int r6), (5, .int r3), (4, .int ((1 : Int32) + (rem (((r1 * 31) + (nI (977 * i + 977))) + (S.1 179 (i + 1))) 65519))), (3, .int r1), (0, .ref (ja_R i)), (1, .ref (ja_L κ)), (2, .ref (ja_P i c))], [.int 1])) rfl ?_
        cases hE
        exact xe_end pg_66 rfl
      · rw [if_neg h3] at hE
        refine xe_c2f pg_66 48 rfl rfl h3 ?_
        refine xe_sn pg_66 1 (fr' := (26, [(3, .int r1), (0, .ref (ja_R i)), (1, .ref (ja_L κ)), (2, .ref (ja_P i c))], [.ref (ja_R i)])) rfl ?_
        refine xe_gr pg_66 1 rfl rfl rfl (kk1 (k_R hi)) (r_R3 hi _) ?_
        refine xe_sn pg_66 1 (fr' := (30, [(3, .int r1), (0, .ref (ja_R i)), (1, .ref (ja_L κ)), (2, .ref (ja_P i c))], [.ref (ja_R i), .ref 1])) rfl ?_
        refine ye_gi pg_66 (nI (i + 1)) rfl rfl rfl (kk1 (k_R hi)) (c_R2 hi _) ?_
        refine xe_sn pg_66 1 (fr' := (34, [(3, .int r1), (0, .ref (ja_R i)), (1, .ref (ja_L κ)), (2, .ref (ja_P i c))], [.ref (ja_L κ), .int (nI (i + 1)), .ref 1])) rfl ?_
        refine ye_gi pg_66 (S.2.1 κ 14) rfl rfl rfl (kk1 (k_L hκ)) ((show ly _ 1 κ 14 from l_L hκ (by decide) (by decide)).rd _) ?_
        refine xe_sn pg_66 1 (fr' := (38, [(3, .int r1), (0, .ref (ja_R i)), (1, .ref (ja_L κ)), (2, .ref (ja_P i c))], [.ref (ja_L κ), .int (S.2.1 κ 14), .int (nI (i + 1)), .ref 1])) rfl ?_
        refine ye_gi pg_66 (S.2.1 κ 16) rfl rfl rfl (kk1 (k_L hκ)) ((show ly _ 3 κ 16 from l_L hκ (by decide) (by decide)).rd _) ?_
        refine xe_sn pg_66 1 (fr' := (42, [(3, .int r1), (0, .ref (ja_R i)), (1, .ref (ja_L κ)), (2, .ref (ja_P i c))], [.int 4, .int (S.2.1 κ 16), .int (S.2.1 κ 14), .int (nI (i + 1)), .ref 1])) rfl ?_
        obtain ⟨r12, e12, hE⟩ := Option.bind_eq_some_iff.mp hE
        refine xe_cv pg_66 68 pg_68 [.int (nI (i + 1)), .int (S.2.1 κ 14), .int (S.2.1 κ 16), .int 4] [] (some (.ref (ja_L r12.1))) rfl rfl rfl rfl ⟨Nat.le_of_ble_eq_true rfl, Nat.le_of_ble_eq_true rfl, Nat.le_of_ble_eq_true rfl⟩ ⟨rfl, rfl⟩ (kk2 k_W (by decide)) (c_add _ (a := (nI (i + 1))) (b := (S.2.1 κ 14)) (c := (S.2.1 κ 16)) (e := 4)  e12) ?_
        refine xe_sn pg_66 2 (fr' := (47, [(3, .int r1), (0, .ref (ja_R i)), (1, .ref (ja_L κ)), (2, .ref (ja_P i c))], [.int 1])) rfl ?_
        cases hE
        exact xe_end pg_66 rfl
  · rw [if_neg h1] at hE
    refine xe_c1f pg_66 9 rfl rfl h1 ?_
    refine xe_sn pg_66 1 (fr' := (8, [(0, .ref (ja_R i)), (1, .ref (ja_L κ)), (2, .ref (ja_P i c))], [.int 0])) rfl ?_
    cases hE
    exact xe_end pg_66 rfl
theorem b_takesCreate {S : xSt} {i : Nat} {κ : Nat} {c : Nat} {r : Int32 × xSt} (hE : (f_takesCreate S i κ c) = some r) : r.1 = 0 ∨ r.1 = 1 := by
  unfold f_takesCreate at hE
  by_cases h1 : (S.1 180 (4 * i + c)) = 0
  · rw [if_pos h1] at hE
    obtain ⟨r1, e1, hE⟩ := Option.bind_eq_some_iff.mp hE
    by_cases h2 : r1 = 0
    · rw [if_pos h2] at hE
      obtain ⟨r2, e2, hE⟩ := Option.bind_eq_some_iff.mp hE
      cases hE
      exact Or.inr rfl
    · rw [if_neg h2] at hE
      by_cases h3 : r1 < 65521
      · rw [if_pos h3] at hE
        obtain ⟨r3, e3, hE⟩ := Option.bind_eq_some_iff.mp hE
        obtain ⟨r4, e4, hE⟩ := Option.bind_eq_some_iff.mp hE
        obtain ⟨r5, e5, hE⟩ := Option.bind_eq_some_iff.mp hE
        obtain ⟨r6, e6, hE⟩ := Option.bind_eq_some_iff.mp hE
        obtain ⟨r7, e7, hE⟩ := Option.bind_eq_some_iff.mp hE
        obtain ⟨r8, e8, hE⟩ := Option.bind_eq_some_iff.mp hE
        obtain ⟨r9, e9, hE⟩ := Option.bind_eq_some_iff.mp hE
        obtain ⟨r10, e10, hE⟩ := Option.bind_eq_some_iff.mp hE
        obtain ⟨r11, e11, hE⟩ := Option.bind_eq_some_iff.mp hE
        cases hE
        exact Or.inr rfl
      · rw [if_neg h3] at hE
        obtain ⟨r12, e12, hE⟩ := Option.bind_eq_some_iff.mp hE
        cases hE
        exact Or.inr rfl
  · rw [if_neg h1] at hE
    cases hE
    exact Or.inl rfl

