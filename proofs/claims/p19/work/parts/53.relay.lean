/-! a circuit at a relay -/
def f_destroyNext (S : xSt) (i : Nat) (c : Nat) : Option xSt := (some (f_next S i c)).bind fun r1 => if r1 = (-1) then (some S) else ((some (f_next S i c)).bind fun r2 => (f_add S (nI (i + 1)) r2 (nI c) 4).bind fun r3 => some r3.2)
set_option maxRecDepth 100000 in
theorem c_destroyNext (d : Nat) {w : xWd} {S : xSt} {μ : Nat → Nat → Int32} {ρ : Nat → Nat → Int64} {i : Nat} {c : Nat} (hi : i < 4) (hc : c < 4) {r : xSt} (hE : (f_destroyNext S i c) = some r) : xc (d + 2) 45 [.ref (ja_P i c)] (hz w S μ ρ) (.inl (none), hz w r μ ρ) := by
  unfold f_destroyNext at hE
  refine xe_sn pg_45 1 (fr' := (1, [(0, .ref (ja_P i c))], [.ref (ja_P i c)])) rfl ?_
  obtain ⟨r1, e1, hE⟩ := Option.bind_eq_some_iff.mp hE
  refine xe_cv pg_45 44 pg_44 [] [] (some (.int r1)) rfl rfl rfl rfl ⟨Nat.le_of_ble_eq_true rfl, Nat.le_of_ble_eq_true rfl, Nat.le_of_ble_eq_true rfl⟩ ⟨rfl, rfl⟩ (kk2 (k_P hi hc) (by decide)) (c_next _ (i := i) (c := c) hi hc (Option.some.inj e1)) ?_
  refine xe_sn pg_45 1 (fr' := (5, [(0, .ref (ja_P i c))], [.int (-1), .int r1])) rfl ?_
  by_cases h1 : r1 = (-1)
  · rw [if_pos h1] at hE
    refine xe_c2t pg_45 29 rfl rfl h1 ?_
    cases hE
    exact xe_end pg_45 rfl
  · rw [if_neg h1] at hE
    refine xe_c2f pg_45 29 rfl rfl h1 ?_
    refine xe_sn pg_45 1 (fr' := (9, [(0, .ref (ja_P i c))], [.ref (ja_P i c)])) rfl ?_
    refine xe_gr pg_45 1 rfl rfl rfl (kk1 (k_P hi hc)) (r_P9 hi hc _) ?_
    refine xe_sn pg_45 1 (fr' := (13, [(0, .ref (ja_P i c))], [.ref (ja_P i c), .ref 1])) rfl ?_
    refine ye_gi pg_45 (nI (i + 1)) rfl rfl rfl (kk1 (k_P hi hc)) (c_P7 hi hc _) ?_
    refine xe_sn pg_45 1 (fr' := (17, [(0, .ref (ja_P i c))], [.ref (ja_P i c), .int (nI (i + 1)), .ref 1])) rfl ?_
    obtain ⟨r2, e2, hE⟩ := Option.bind_eq_some_iff.mp hE
    refine xe_cv pg_45 44 pg_44 [] [.int (nI (i + 1)), .ref 1] (some (.int r2)) rfl rfl rfl rfl ⟨Nat.le_of_ble_eq_true rfl, Nat.le_of_ble_eq_true rfl, Nat.le_of_ble_eq_true rfl⟩ ⟨rfl, rfl⟩ (kk2 (k_P hi hc) (by decide)) (c_next _ (i := i) (c := c) hi hc (Option.some.inj e2)) ?_
    refine xe_sn pg_45 1 (fr' := (21, [(0, .ref (ja_P i c))], [.ref (ja_P i c), .int r2, .int (nI (i + 1)), .ref 1])) rfl ?_
    refine ye_gi pg_45 (nI c) rfl rfl rfl (kk1 (k_P hi hc)) (c_P8 hi hc _) ?_
    refine xe_sn pg_45 1 (fr' := (25, [(0, .ref (ja_P i c))], [.int 4, .int (nI c), .int r2, .int (nI (i + 1)), .ref 1])) rfl ?_
    obtain ⟨r3, e3, hE⟩ := Option.bind_eq_some_iff.mp hE
    refine xe_cv pg_45 68 pg_68 [.int (nI (i + 1)), .int r2, .int (nI c), .int 4] [] (some (.ref (ja_L r3.1))) rfl rfl rfl rfl ⟨Nat.le_of_ble_eq_true rfl, Nat.le_of_ble_eq_true rfl, Nat.le_of_ble_eq_true rfl⟩ ⟨rfl, rfl⟩ (kk2 k_W (by decide)) (c_add _ (a := (nI (i + 1))) (b := r2) (c := (nI c)) (e := 4)  e3) ?_
    refine xe_sn pg_45 1 (fr' := (29, [(0, .ref (ja_P i c))], [])) rfl ?_
    cases hE
    exact xe_end pg_45 rfl

def f_tearDown (S : xSt) (i : Nat) (c : Nat) : Option xSt := (f_add S (nI (i + 1)) (S.1 181 (4 * i + c)) (nI c) 4).bind fun r1 => (f_destroyNext r1.2 i c).bind fun r2 => (some (f_vanish r2 i c)).bind fun r3 => some r3
set_option maxRecDepth 100000 in
theorem c_tearDown (d : Nat) {w : xWd} {S : xSt} {μ : Nat → Nat → Int32} {ρ : Nat → Nat → Int64} {i : Nat} {c : Nat} (hi : i < 4) (hc : c < 4) {r : xSt} (hE : (f_tearDown S i c) = some r) : xc (d + 3) 46 [.ref (ja_P i c)] (hz w S μ ρ) (.inl (none), hz w r μ ρ) := by
  unfold f_tearDown at hE
  refine xe_sn pg_46 1 (fr' := (1, [(0, .ref (ja_P i c))], [.ref (ja_P i c)])) rfl ?_
  refine xe_gr pg_46 1 rfl rfl rfl (kk1 (k_P hi hc)) (r_P9 hi hc _) ?_
  refine xe_sn pg_46 1 (fr' := (5, [(0, .ref (ja_P i c))], [.ref (ja_P i c), .ref 1])) rfl ?_
  refine ye_gi pg_46 (nI (i + 1)) rfl rfl rfl (kk1 (k_P hi hc)) (c_P7 hi hc _) ?_
  refine xe_sn pg_46 1 (fr' := (9, [(0, .ref (ja_P i c))], [.ref (ja_P i c), .int (nI (i + 1)), .ref 1])) rfl ?_
  refine ye_gi pg_46 (S.1 181 (4 * i + c)) rfl rfl rfl (kk1 (k_P hi hc)) ((show lx _ 3 181 _ from lx_ix (4 * i + c) (l_P hi hc (by decide) (by decide)) (by omega)).rd _) ?_
  refine xe_sn pg_46 1 (fr' := (13, [(0, .ref (ja_P i c))], [.ref (ja_P i c), .int (S.1 181 (4 * i + c)), .int (nI (i + 1)), .ref 1])) rfl ?_
  refine ye_gi pg_46 (nI c) rfl rfl rfl (kk1 (k_P hi hc)) (c_P8 hi hc _) ?_
  refine xe_sn pg_46 1 (fr' := (17, [(0, .ref (ja_P i c))], [.int 4, .int (nI c), .int (S.1 181 (4 * i + c)), .int (nI (i + 1)), .ref 1])) rfl ?_
  obtain ⟨r1, e1, hE⟩ := Option.bind_eq_some_iff.mp hE
  refine xe_cv pg_46 68 pg_68 [.int (nI (i + 1)), .int (S.1 181 (4 * i + c)), .int (nI c), .int 4] [] (some (.ref (ja_L r1.1))) rfl rfl rfl rfl ⟨Nat.le_of_ble_eq_true rfl, Nat.le_of_ble_eq_true rfl, Nat.le_of_ble_eq_true rfl⟩ ⟨rfl, rfl⟩ (kk2 k_W (by decide)) (c_add _ (a := (nI (i + 1))) (b := (S.1 181 (4 * i + c))) (c := (nI c)) (e := 4)  e1) ?_
  refine xe_sn pg_46 2 (fr' := (22, [(0, .ref (ja_P i c))], [.ref (ja_P i c)])) rfl ?_
  obtain ⟨r2, e2, hE⟩ := Option.bind_eq_some_iff.mp hE
  refine xe_cv pg_46 45 pg_45 [] [] (none) rfl rfl rfl rfl ⟨Nat.le_of_ble_eq_true rfl, Nat.le_of_ble_eq_true rfl, Nat.le_of_ble_eq_true rfl⟩ ⟨rfl, rfl⟩ (kk2 (k_P hi hc) (by decide)) (c_destroyNext _ (i := i) (c := c) hi hc e2) ?_
  refine xe_sn pg_46 1 (fr' := (26, [(0, .ref (ja_P i c))], [.ref (ja_P i c)])) rfl ?_
  obtain ⟨r3, e3, hE⟩ := Option.bind_eq_some_iff.mp hE
  refine xe_cv pg_46 43 pg_43 [] [] (none) rfl rfl rfl rfl ⟨Nat.le_of_ble_eq_true rfl, Nat.le_of_ble_eq_true rfl, Nat.le_of_ble_eq_true rfl⟩ ⟨rfl, rfl⟩ (kk2 (k_P hi hc) (by decide)) (c_vanish _ (i := i) (c := c) hi hc (Option.some.inj e3)) ?_
  cases hE
  exact xe_end pg_46 rfl

def f_orderBack (S : xSt) (i : Nat) (c : Nat) (o : Int32) (s : Int32) (n : Int32) : Option (Nat × xSt) := (f_add S (nI (i + 1)) (S.1 181 (4 * i + c)) (nI c) 3).bind fun r1 => (some (f_writeOrder r1.2 r1.1 o s n)).bind fun r2 => some (r1.1, r2)
set_option maxRecDepth 100000 in
theorem c_orderBack (d : Nat) {w : xWd} {S : xSt} {μ : Nat → Nat → Int32} {ρ : Nat → Nat → Int64} {i : Nat} {c : Nat} {o : Int32} {s : Int32} {n : Int32} (hi : i < 4) (hc : c < 4) {r : Nat × xSt} (hE : (f_orderBack S i c o s n) = some r) : xc (d + 2) 60 [.ref (ja_P i c), .int o, .int s, .int n] (hz w S μ ρ) (.inl (some (.ref (ja_L r.1))), hz w r.2 μ ρ) := by
  unfold f_orderBack at hE
  refine xe_sn pg_60 1 (fr' := (1, [(0, .ref (ja_P i c)), (1, .int o), (2, .int s), (3, .int n)], [.ref (ja_P i c)])) rfl ?_
  refine xe_gr pg_60 1 rfl rfl rfl (kk1 (k_P hi hc)) (r_P9 hi hc _) ?_
  refine xe_sn pg_60 1 (fr' := (5, [(0, .ref (ja_P i c)), (1, .int o), (2, .int s), (3, .int n)], [.ref (ja_P i c), .ref 1])) rfl ?_
  refine ye_gi pg_60 (nI (i + 1)) rfl rfl rfl (kk1 (k_P hi hc)) (c_P7 hi hc _) ?_
  refine xe_sn pg_60 1 (fr' := (9, [(0, .ref (ja_P i c)), (1, .int o), (2, .int s), (3, .int n)], [.ref (ja_P i c), .int (nI (i + 1)), .ref 1])) rfl ?_
  refine ye_gi pg_60 (S.1 181 (4 * i + c)) rfl rfl rfl (kk1 (k_P hi hc)) ((show lx _ 3 181 _ from lx_ix (4 * i + c) (l_P hi hc (by decide) (by decide)) (by omega)).rd _) ?_
  refine xe_sn pg_60 1 (fr' := (13, [(0, .ref (ja_P i c)), (1, .int o), (2, .int s), (3, .int n)], [.ref (ja_P i c), .int (S.1 181 (4 * i + c)), .int (nI (i + 1)), .ref 1])) rfl ?_
  refine ye_gi pg_60 (nI c) rfl rfl rfl (kk1 (k_P hi hc)) (c_P8 hi hc _) ?_
  refine xe_sn pg_60 1 (fr' := (17, [(0, .ref (ja_P i c)), (1, .int o), (2, .int s), (3, .int n)], [.int 3, .int (nI c), .int (S.1 181 (4 * i + c)), .int (nI (i + 1)), .ref 1])) rfl ?_
  obtain ⟨r1, e1, hE⟩ := Option.bind_eq_some_iff.mp hE
  refine xe_cv pg_60 68 pg_68 [.int (nI (i + 1)), .int (S.1 181 (4 * i + c)), .int (nI c), .int 3] [] (some (.ref (ja_L r1.1))) rfl rfl rfl rfl ⟨Nat.le_of_ble_eq_true rfl, Nat.le_of_ble_eq_true rfl, Nat.le_of_ble_eq_true rfl⟩ ⟨rfl, rfl⟩ (kk2 k_W (by decide)) (c_add _ (a := (nI (i + 1))) (b := (S.1 181 (4 * i + c))) (c := (nI c)) (e := 3)  e1) ?_
  refine xe_sn pg_60 5 (fr' := (27, [(4, .ref (ja_L r1.1)), (0, .ref (ja_P i c)), (1, .int o), (2, .int s), (3, .int n)], [.int n, .int s, .int o, .ref (ja_L r1.1)])) rfl ?_
  obtain ⟨r2, e2, hE⟩ := Option.bind_eq_some_iff.mp hE
  refine xe_cv pg_60 7 pg_7 [.int o, .int s, .int n] [] (none) rfl rfl rfl rfl ⟨Nat.le_of_ble_eq_true rfl, Nat.le_of_ble_eq_true rfl, Nat.le_of_ble_eq_true rfl⟩ ⟨rfl, rfl⟩ (kk2 (k_L (t_add e1)) (by decide)) (c_writeOrder _ (κ := r1.1) (o := o) (s := s) (n := n) (t_add e1) (Option.some.inj e2)) ?_
  refine xe_sn pg_60 1 (fr' := (32, [(4, .ref (ja_L r1.1)), (0, .ref (ja_P i c)), (1, .int o), (2, .int s), (3, .int n)], [.ref (ja_L r1.1)])) rfl ?_
  cases hE
  exact xe_end pg_60 rfl
theorem t_orderBack {S : xSt} {i : Nat} {c : Nat} {o : Int32} {s : Int32} {n : Int32} {r : Nat × xSt} (hE : (f_orderBack S i c o s n) = some r) : r.1 < 22 := by
  unfold f_orderBack at hE
  obtain ⟨r1, e1, hE⟩ := Option.bind_eq_some_iff.mp hE
  obtain ⟨r2, e2, hE⟩ := Option.bind_eq_some_iff.mp hE
  cases hE
  exact (show r1.1 < 22 from (t_add e1))

def f_sealBack (S : xSt) (i : Nat) (c : Nat) (κ : Nat) : xSt := (sx (w_wrap (f_putPair (sx S 184 (16 * i + 4 * c + 3) (f_fed S κ (S.1 184 (16 * i + 4 * c + 3)))) κ 2 (ushr (f_fed S κ (S.1 184 (16 * i + 4 * c + 3))) 16)) κ ((f_putPair (sx S 184 (16 * i + 4 * c + 3) (f_fed S κ (S.1 184 (16 * i + 4 * c + 3)))) κ 2 (ushr (f_fed S κ (S.1 184 (16 * i + 4 * c + 3))) 16)).1 184 (16 * i + 4 * c + 1))) 184 (16 * i + 4 * c + 1) (ks ((f_putPair (sx S 184 (16 * i + 4 * c + 3) (f_fed S κ (S.1 184 (16 * i + 4 * c + 3)))) κ 2 (ushr (f_fed S κ (S.1 184 (16 * i + 4 * c + 3))) 16)).1 184 (16 * i + 4 * c + 1)) 14))
set_option maxRecDepth 100000 in
theorem c_sealBack (d : Nat) {w : xWd} {S : xSt} {μ : Nat → Nat → Int32} {ρ : Nat → Nat → Int64} {i : Nat} {c : Nat} {κ : Nat} (hi : i < 4) (hc : c < 4) (hκ : κ < 22) {r : xSt} (hE : (f_sealBack S i c κ) = r) : xc (d + 2) 61 [.ref (ja_P i c), .ref (ja_L κ)] (hz w S μ ρ) (.inl (none), hz w r μ ρ) := by
  unfold f_sealBack at hE
  refine xe_sn pg_61 1 (fr' := (1, [(0, .ref (ja_P i c)), (1, .ref (ja_L κ))], [.ref (ja_P i c)])) rfl ?_
  refine xe_gr pg_61 (ja_K i c) rfl rfl rfl (kk1 (k_P hi hc)) (r_P0 hi hc _) ?_
  refine xe_sn pg_61 3 (fr' := (7, [(0, .ref (ja_P i c)), (1, .ref (ja_L κ))], [.ref (ja_P i c), .ref (ja_L κ), .int 3, .ref (ja_K i c)])) rfl ?_
  refine xe_gr pg_61 (ja_K i c) rfl rfl rfl (kk1 (k_P hi hc)) (r_P0 hi hc _) ?_
  refine xe_sn pg_61 1 (fr' := (11, [(0, .ref (ja_P i c)), (1, .ref (ja_L κ))], [.int 3, .ref (ja_K i c), .ref (ja_L κ), .int 3, .ref (ja_K i c)])) rfl ?_
  refine ye_il pg_61 3 (S.1 184 (16 * i + 4 * c + 3)) rfl (k_K hi hc) ⟨by decide, by decide⟩ rfl ((lx_ix (16 * i + 4 * c + 3) (l_K hi hc (k := 3) (by decide)) (by omega)).rd _) ?_
  refine xe_cv pg_61 13 pg_13 [.int (S.1 184 (16 * i + 4 * c + 3))] [.int 3, .ref (ja_K i c)] (some (.int (f_fed S κ (S.1 184 (16 * i + 4 * c + 3))))) rfl rfl rfl rfl ⟨Nat.le_of_ble_eq_true rfl, Nat.le_of_ble_eq_true rfl, Nat.le_of_ble_eq_true rfl⟩ ⟨rfl, rfl⟩ (kk2 (k_L hκ) (by decide)) (c_fed _ (κ := κ) (key := (S.1 184 (16 * i + 4 * c + 3))) hκ rfl) ?_
  refine ye_is pg_61 3 rfl (k_K hi hc) ⟨by decide, by decide⟩ rfl (lx_ix (16 * i + 4 * c + 3) (l_K hi hc (k := 3) (by decide)) (by omega)) ?_
  refine xe_sn pg_61 3 (fr' := (19, [(0, .ref (ja_P i c)), (1, .ref (ja_L κ))], [.ref (ja_P i c), .int 2, .ref (ja_L κ)])) rfl ?_
  refine xe_gr pg_61 (ja_K i c) rfl rfl rfl (kk1 (k_P hi hc)) (r_P0 hi hc _) ?_
  refine xe_sn pg_61 1 (fr' := (23, [(0, .ref (ja_P i c)), (1, .ref (ja_L κ))], [.int 3, .ref (ja_K i c), .int 2, .ref (ja_L κ)])) rfl ?_
  refine ye_il pg_61 3 (f_fed S κ (S.1 184 (16 * i + 4 * c + 3))) rfl (k_K hi hc) ⟨by decide, by decide⟩ rfl (((lx_ix (16 * i + 4 * c + 3) (l_K hi hc (k := 3) (by decide)) (by omega)).rd _).trans (u2_same S.1 184 (16 * i + 4 * c + 3) (f_fed S κ (S.1 184 (16 * i + 4 * c + 3))))) ?_
  refine xe_sn pg_61 2 (fr' := (27, [(0, .ref (ja_P i c)), (1, .ref (ja_L κ))], [.int (ushr (f_fed S κ (S.1 184 (16 * i + 4 * c + 3))) 16), .int 2, .ref (ja_L κ)])) rfl ?_
  refine xe_cv pg_61 10 pg_10 [.int 2, .int (ushr (f_fed S κ (S.1 184 (16 * i + 4 * c + 3))) 16)] [] (none) rfl rfl rfl rfl ⟨Nat.le_of_ble_eq_true rfl, Nat.le_of_ble_eq_true rfl, Nat.le_of_ble_eq_true rfl⟩ ⟨rfl, rfl⟩ (kk2 (k_L hκ) (by decide)) (c_putPair _ (κ := κ) (k := 2) (v := (ushr (f_fed S κ (S.1 184 (16 * i + 4 * c + 3))) 16)) hκ (by omega) rfl) ?_
  refine xe_sn pg_61 1 (fr' := (31, [(0, .ref (ja_P i c)), (1, .ref (ja_L κ))], [.ref (ja_P i c)])) rfl ?_
  refine xe_gr pg_61 (ja_K i c) rfl rfl rfl (kk1 (k_P hi hc)) (r_P0 hi hc _) ?_
  refine xe_sn pg_61 3 (fr' := (37, [(0, .ref (ja_P i c)), (1, .ref (ja_L κ))], [.ref (ja_P i c), .ref (ja_L κ), .int 1, .ref (ja_K i c)])) rfl ?_
  refine xe_gr pg_61 (ja_K i c) rfl rfl rfl (kk1 (k_P hi hc)) (r_P0 hi hc _) ?_
  refine xe_sn pg_61 1 (fr' := (41, [(0, .ref (ja_P i c)), (1, .ref (ja_L κ))], [.int 1, .ref (ja_K i c), .ref (ja_L κ), .int 1, .ref (ja_K i c)])) rfl ?_
  refine ye_il pg_61 1 ((f_putPair (sx S 184 (16 * i + 4 * c + 3) (f_fed S κ (S.1 184 (16 * i + 4 * c + 3)))) κ 2 (ushr (f_fed S κ (S.1 184 (16 * i + 4 * c + 3))) 16)).1 184 (16 * i + 4 * c + 1)) rfl (k_K hi hc) ⟨by decide, by decide⟩ rfl ((lx_ix (16 * i + 4 * c + 1) (l_K hi hc (k := 1) (by decide)) (by omega)).rd _) ?_
  refine xe_cv pg_61 12 pg_12 [.int ((f_putPair (sx S 184 (16 * i + 4 * c + 3) (f_fed S κ (S.1 184 (16 * i + 4 * c + 3)))) κ 2 (ushr (f_fed S κ (S.1 184 (16 * i + 4 * c + 3))) 16)).1 184 (16 * i + 4 * c + 1))] [.int 1, .ref (ja_K i c)] (some (.int (ks ((f_putPair (sx S 184 (16 * i + 4 * c + 3) (f_fed S κ (S.1 184 (16 * i + 4 * c + 3)))) κ 2 (ushr (f_fed S κ (S.1 184 (16 * i + 4 * c + 3))) 16)).1 184 (16 * i + 4 * c + 1)) 14))) rfl rfl rfl rfl ⟨Nat.le_of_ble_eq_true rfl, Nat.le_of_ble_eq_true rfl, Nat.le_of_ble_eq_true rfl⟩ ⟨rfl, rfl⟩ (kk2 (k_L hκ) (by decide)) (c_wrap _ (κ := κ) (key := ((f_putPair (sx S 184 (16 * i + 4 * c + 3) (f_fed S κ (S.1 184 (16 * i + 4 * c + 3)))) κ 2 (ushr (f_fed S κ (S.1 184 (16 * i + 4 * c + 3))) 16)).1 184 (16 * i + 4 * c + 1))) hκ) ?_
  refine ye_is pg_61 1 rfl (k_K hi hc) ⟨by decide, by decide⟩ rfl (lx_ix (16 * i + 4 * c + 1) (l_K hi hc (k := 1) (by decide)) (by omega)) ?_
  subst hE
  exact xe_end pg_61 rfl

def f_ptakesCreated (S : xSt) (i : Nat) (c : Nat) (κ : Nat) : Option (Int32 × xSt) := if (S.1 180 (4 * i + c)) = 0 then (some (0, S)) else (if (S.2.1 κ 14) = (S.1 183 (4 * i + c)) then ((f_orderBack (sx (sx S 182 (4 * i + c) (S.1 183 (4 * i + c))) 183 (4 * i + c) (-1)) i c 2 0 4).bind fun r1 => (some (f_pair r1.2 κ 0)).bind fun r2 => (some (f_putPair r1.2 r1.1 7 r2)).bind fun r3 => (some (f_pair r3 κ 2)).bind fun r4 => (some (f_putPair r3 r1.1 9 r4)).bind fun r5 => (some (f_sealBack r5 i c r1.1)).bind fun r6 => some (1, r6)) else (some (0, S)))
set_option maxRecDepth 100000 in
theorem c_ptakesCreated (d : Nat) {w : xWd} {S : xSt} {μ : Nat → Nat → Int32} {ρ : Nat → Nat → Int64} {i : Nat} {c : Nat} {κ : Nat} (hi : i < 4) (hc : c < 4) (hκ : κ < 22) {r : Int32 × xSt} (hE : (f_ptakesCreated S i c κ) = some r) : xc (d + 3) 47 [.ref (ja_P i c), .ref (ja_L κ)] (hz w S μ ρ) (.inl (some (.int r.1)), hz w r.2 μ ρ) := by
  unfold f_ptakesCreated at hE
  refine xe_sn pg_47 1 (fr' := (1, [(0, .ref (ja_P i c)), (1, .ref (ja_L κ))], [.ref (ja_P i c)])) rfl ?_
  refine ye_gi pg_47 (S.1 180 (4 * i + c)) rfl rfl rfl (kk1 (k_P hi hc)) ((show lx _ 2 180 _ from lx_ix (4 * i + c) (l_P hi hc (by decide) (by decide)) (by omega)).rd _) ?_
  by_cases h1 : (S.1 180 (4 * i + c)) = 0
  · rw [if_pos h1] at hE
    refine xe_c1t pg_47 18 rfl rfl h1 ?_
    refine xe_sn pg_47 1 (fr' := (19, [(0, .ref (ja_P i c)), (1, .ref (ja_L κ))], [.int 0])) rfl ?_
    cases hE
    exact xe_end pg_47 rfl
  · rw [if_neg h1] at hE
    refine xe_c1f pg_47 18 rfl rfl h1 ?_
    refine xe_sn pg_47 1 (fr' := (8, [(0, .ref (ja_P i c)), (1, .ref (ja_L κ))], [.ref (ja_L κ)])) rfl ?_
    refine ye_gi pg_47 (S.2.1 κ 14) rfl rfl rfl (kk1 (k_L hκ)) ((show ly _ 1 κ 14 from l_L hκ (by decide) (by decide)).rd _) ?_
    refine xe_sn pg_47 1 (fr' := (12, [(0, .ref (ja_P i c)), (1, .ref (ja_L κ))], [.ref (ja_P i c), .int (S.2.1 κ 14)])) rfl ?_
    refine ye_gi pg_47 (S.1 183 (4 * i + c)) rfl rfl rfl (kk1 (k_P hi hc)) ((show lx _ 5 183 _ from lx_ix (4 * i + c) (l_P hi hc (by decide) (by decide)) (by omega)).rd _) ?_
    by_cases h2 : (S.2.1 κ 14) = (S.1 183 (4 * i + c))
    · rw [if_pos h2] at hE
      refine xe_c2t pg_47 20 rfl rfl h2 ?_
      refine xe_sn pg_47 2 (fr' := (22, [(0, .ref (ja_P i c)), (1, .ref (ja_L κ))], [.ref (ja_P i c), .ref (ja_P i c)])) rfl ?_
      refine ye_gi pg_47 (S.1 183 (4 * i + c)) rfl rfl rfl (kk1 (k_P hi hc)) ((show lx _ 5 183 _ from lx_ix (4 * i + c) (l_P hi hc (by decide) (by decide)) (by omega)).rd _) ?_
      refine ye_px pg_47 rfl rfl ⟨rfl, rfl⟩ (Or.inl rfl) (kk1 (k_P hi hc)) (show lx _ 4 182 _ from lx_ix (4 * i + c) (l_P hi hc (by decide) (by decide)) (by omega)) ?_
      refine xe_sn pg_47 2 (fr' := (30, [(0, .ref (ja_P i c)), (1, .ref (ja_L κ))], [.int (-1), .ref (ja_P i c)])) rfl ?_
      refine ye_px pg_47 rfl rfl ⟨rfl, rfl⟩ (Or.inl rfl) (kk1 (k_P hi hc)) (show lx _ 5 183 _ from lx_ix (4 * i + c) (l_P hi hc (by decide) (by decide)) (by omega)) ?_
      refine xe_sn pg_47 4 (fr' := (37, [(0, .ref (ja_P i c)), (1, .ref (ja_L κ))], [.int 4, .int 0, .int 2, .ref (ja_P i c)])) rfl ?_
      obtain ⟨r1, e1, hE⟩ := Option.bind_eq_some_iff.mp hE
      refine xe_cv pg_47 60 pg_60 [.int 2, .int 0, .int 4] [] (some (.ref (ja_L r1.1))) rfl rfl rfl rfl ⟨Nat.le_of_ble_eq_true rfl, Nat.le_of_ble_eq_true rfl, Nat.le_of_ble_eq_true rfl⟩ ⟨rfl, rfl⟩ (kk2 (k_P hi hc) (by decide)) (c_orderBack _ (i := i) (c := c) (o := 2) (s := 0) (n := 4) hi hc e1) ?_
      refine xe_sn pg_47 5 (fr' := (46, [(2, .ref (ja_L r1.1)), (0, .ref (ja_P i c)), (1, .ref (ja_L κ))], [.int 0, .ref (ja_L κ), .int 7, .ref (ja_L r1.1)])) rfl ?_
      obtain ⟨r2, e2, hE⟩ := Option.bind_eq_some_iff.mp hE
      refine xe_cv pg_47 9 pg_9 [.int 0] [.int 7, .ref (ja_L r1.1)] (some (.int r2)) rfl rfl rfl rfl ⟨Nat.le_of_ble_eq_true rfl, Nat.le_of_ble_eq_true rfl, Nat.le_of_ble_eq_true rfl⟩ ⟨rfl, rfl⟩ (kk2 (k_L hκ) (by decide)) (c_pair _ (κ := κ) (k := 0) hκ (by omega) (Option.some.inj e2)) ?_
      obtain ⟨r3, e3, hE⟩ := Option.bind_eq_some_iff.mp hE
      refine xe_cv pg_47 10 pg_10 [.int 7, .int r2] [] (none) rfl rfl rfl rfl ⟨Nat.le_of_ble_eq_true rfl, Nat.le_of_ble_eq_true rfl, Nat.le_of_ble_eq_true rfl⟩ ⟨rfl, rfl⟩ (kk2 (k_L (t_orderBack e1)) (by decide)) (c_putPair _ (κ := r1.1) (k := 7) (v := r2) (t_orderBack e1) (by omega) (Option.some.inj e3)) ?_
      refine xe_sn pg_47 4 (fr' := (57, [(2, .ref (ja_L r1.1)), (0, .ref (ja_P i c)), (1, .ref (ja_L κ))], [.int 2, .ref (ja_L κ), .int 9, .ref (ja_L r1.1)])) rfl ?_
      obtain ⟨r4, e4, hE⟩ := Option.bind_eq_some_iff.mp hE
      refine xe_cv pg_47 9 pg_9 [.int 2] [.int 9, .ref (ja_L r1.1)] (some (.int r4)) rfl rfl rfl rfl ⟨Nat.le_of_ble_eq_true rfl, Nat.le_of_ble_eq_true rfl, Nat.le_of_ble_eq_true rfl⟩ ⟨rfl, rfl⟩ (kk2 (k_L hκ) (by decide)) (c_pair _ (κ := κ) (k := 2) hκ (by omega) (Option.some.inj e4)) ?_
      obtain ⟨r5, e5, hE⟩ := Option.bind_eq_some_iff.mp hE
      refine xe_cv pg_47 10 pg_10 [.int 9, .int r4] [] (none) rfl rfl rfl rfl ⟨Nat.le_of_ble_eq_true rfl, Nat.le_of_ble_eq_true rfl, Nat.le_of_ble_eq_true rfl⟩ ⟨rfl, rfl⟩ (kk2 (k_L (t_orderBack e1)) (by decide)) (c_putPair _ (κ := r1.1) (k := 9) (v := r4) (t_orderBack e1) (by omega) (Option.some.inj e5)) ?_
      refine xe_sn pg_47 2 (fr' := (65, [(2, .ref (ja_L r1.1)), (0, .ref (ja_P i c)), (1, .ref (ja_L κ))], [.ref (ja_L r1.1), .ref (ja_P i c)])) rfl ?_
      obtain ⟨r6, e6, hE⟩ := Option.bind_eq_some_iff.mp hE
      refine xe_cv pg_47 61 pg_61 [.ref (ja_L r1.1)] [] (none) rfl rfl rfl rfl ⟨Nat.le_of_ble_eq_true rfl, Nat.le_of_ble_eq_true rfl, Nat.le_of_ble_eq_true rfl⟩ ⟨rfl, rfl⟩ (kk2 (k_P hi hc) (by decide)) (c_sealBack _ (i := i) (c := c) (κ := r1.1) hi hc (t_orderBack e1) (Option.some.inj e6)) ?_
      refine xe_sn pg_47 1 (fr' := (69, [(2, .ref (ja_L r1.1)), (0, .ref (ja_P i c)), (1, .ref (ja_L κ))], [.int 1])) rfl ?_
      cases hE
      exact xe_end pg_47 rfl
    · rw [if_neg h2] at hE
      refine xe_c2f pg_47 20 rfl rfl h2 ?_
      refine xe_sn pg_47 1 (fr' := (19, [(0, .ref (ja_P i c)), (1, .ref (ja_L κ))], [.int 0])) rfl ?_
      cases hE
      exact xe_end pg_47 rfl
theorem b_ptakesCreated {S : xSt} {i : Nat} {c : Nat} {κ : Nat} {r : Int32 × xSt} (hE : (f_ptakesCreated S i c κ) = some r) : r.1 = 0 ∨ r.1 = 1 := by
  unfold f_ptakesCreated at hE
  by_cases h1 : (S.1 180 (4 * i + c)) = 0
  · rw [if_pos h1] at hE
    cases hE
    exact Or.inl rfl
  · rw [if_neg h1] at hE
    by_cases h2 : (S.2.1 κ 14) = (S.1 183 (4 * i + c))
    · rw [if_pos h2] at hE
      obtain ⟨r1, e1, hE⟩ := Option.bind_eq_some_iff.mp hE
      obtain ⟨r2, e2, hE⟩ := Option.bind_eq_some_iff.mp hE
      obtain ⟨r3, e3, hE⟩ := Option.bind_eq_some_iff.mp hE
      obtain ⟨r4, e4, hE⟩ := Option.bind_eq_some_iff.mp hE
      obtain ⟨r5, e5, hE⟩ := Option.bind_eq_some_iff.mp hE
      obtain ⟨r6, e6, hE⟩ := Option.bind_eq_some_iff.mp hE
      cases hE
      exact Or.inr rfl
    · rw [if_neg h2] at hE
      cases hE
      exact Or.inl rfl

def f_passOn (S : xSt) (i : Nat) (c : Nat) (κ : Nat) (to : Int32) : Option xSt := if to = (-1) then (some S) else ((f_add S (nI (i + 1)) to (nI c) (S.2.1 κ 17)).bind fun r1 => (some (w_cpy r1.2 r1.1 κ)).bind fun r2 => some r2)
set_option maxRecDepth 100000 in
theorem c_passOn (d : Nat) {w : xWd} {S : xSt} {μ : Nat → Nat → Int32} {ρ : Nat → Nat → Int64} {i : Nat} {c : Nat} {κ : Nat} {to : Int32} (hi : i < 4) (hc : c < 4) (hκ : κ < 22) {r : xSt} (hE : (f_passOn S i c κ to) = some r) : xc (d + 2) 49 [.ref (ja_P i c), .ref (ja_L κ), .int to] (hz w S μ ρ) (.inl (none), hz w r μ ρ) := by
  unfold f_passOn at hE
  refine xe_sn pg_49 2 (fr' := (2, [(0, .ref (ja_P i c)), (1, .ref (ja_L κ)), (2, .int to)], [.int (-1), .int to])) rfl ?_
  by_cases h1 : to = (-1)
  · rw [if_pos h1] at hE
    refine xe_c2t pg_49 29 rfl rfl h1 ?_
    cases hE
    exact xe_end pg_49 rfl
  · rw [if_neg h1] at hE
    refine xe_c2f pg_49 29 rfl rfl h1 ?_
    refine xe_sn pg_49 1 (fr' := (6, [(0, .ref (ja_P i c)), (1, .ref (ja_L κ)), (2, .int to)], [.ref (ja_P i c)])) rfl ?_
    refine xe_gr pg_49 1 rfl rfl rfl (kk1 (k_P hi hc)) (r_P9 hi hc _) ?_
    refine xe_sn pg_49 1 (fr' := (10, [(0, .ref (ja_P i c)), (1, .ref (ja_L κ)), (2, .int to)], [.ref (ja_P i c), .ref 1])) rfl ?_
    refine ye_gi pg_49 (nI (i + 1)) rfl rfl rfl (kk1 (k_P hi hc)) (c_P7 hi hc _) ?_
    refine xe_sn pg_49 2 (fr' := (15, [(0, .ref (ja_P i c)), (1, .ref (ja_L κ)), (2, .int to)], [.ref (ja_P i c), .int to, .int (nI (i + 1)), .ref 1])) rfl ?_
    refine ye_gi pg_49 (nI c) rfl rfl rfl (kk1 (k_P hi hc)) (c_P8 hi hc _) ?_
    refine xe_sn pg_49 1 (fr' := (19, [(0, .ref (ja_P i c)), (1, .ref (ja_L κ)), (2, .int to)], [.ref (ja_L κ), .int (nI c), .int to, .int (nI (i + 1)), .ref 1])) rfl ?_
    refine ye_gi pg_49 (S.2.1 κ 17) rfl rfl rfl (kk1 (k_L hκ)) ((show ly _ 4 κ 17 from l_L hκ (by decide) (by decide)).rd _) ?_
    obtain ⟨r1, e1, hE⟩ := Option.bind_eq_some_iff.mp hE
    refine xe_cv pg_49 68 pg_68 [.int (nI (i + 1)), .int to, .int (nI c), .int (S.2.1 κ 17)] [] (some (.ref (ja_L r1.1))) rfl rfl rfl rfl ⟨Nat.le_of_ble_eq_true rfl, Nat.le_of_ble_eq_true rfl, Nat.le_of_ble_eq_true rfl⟩ ⟨rfl, rfl⟩ (kk2 k_W (by decide)) (c_add _ (a := (nI (i + 1))) (b := to) (c := (nI c)) (e := (S.2.1 κ 17))  e1) ?_
    refine xe_sn pg_49 1 (fr' := (26, [(0, .ref (ja_P i c)), (1, .ref (ja_L κ)), (2, .int to)], [.ref (ja_L κ), .ref (ja_L r1.1)])) rfl ?_
    obtain ⟨r2, e2, hE⟩ := Option.bind_eq_some_iff.mp hE
    have e2q := Option.some.inj e2
    refine xe_cv pg_49 8 pg_8 [.ref (ja_L κ)] [] (none) rfl rfl rfl rfl ⟨Nat.le_of_ble_eq_true rfl, Nat.le_of_ble_eq_true rfl, Nat.le_of_ble_eq_true rfl⟩ ⟨rfl, rfl⟩ (kk2 (k_L (t_add e1)) (by decide)) (e2q ▸ c_copyBytes _ (κ := r1.1) (κf := κ) (t_add e1) hκ) ?_
    cases hE
    exact xe_end pg_49 rfl

def f_ptakesDestroy (S : xSt) (i : Nat) (c : Nat) (κ : Nat) : Option (Int32 × xSt) := if (S.1 180 (4 * i + c)) = 0 then (some (0, S)) else (if (S.2.1 κ 14) = (S.1 181 (4 * i + c)) then ((some (f_next S i c)).bind fun r1 => (f_passOn S i c κ r1).bind fun r2 => (some (f_vanish r2 i c)).bind fun r3 => some (1, r3)) else (if (S.2.1 κ 14) = (S.1 182 (4 * i + c)) then ((f_passOn S i c κ (S.1 181 (4 * i + c))).bind fun r4 => (some (f_vanish r4 i c)).bind fun r5 => some (1, r5)) else (if (S.2.1 κ 14) = (S.1 183 (4 * i + c)) then ((f_passOn S i c κ (S.1 181 (4 * i + c))).bind fun r6 => (some (f_vanish r6 i c)).bind fun r7 => some (1, r7)) else (some (0, S)))))
set_option maxRecDepth 100000 in
theorem c_ptakesDestroy (d : Nat) {w : xWd} {S : xSt} {μ : Nat → Nat → Int32} {ρ : Nat → Nat → Int64} {i : Nat} {c : Nat} {κ : Nat} (hi : i < 4) (hc : c < 4) (hκ : κ < 22) {r : Int32 × xSt} (hE : (f_ptakesDestroy S i c κ) = some r) : xc (d + 3) 48 [.ref (ja_P i c), .ref (ja_L κ)] (hz w S μ ρ) (.inl (some (.int r.1)), hz w r.2 μ ρ) := by
  unfold f_ptakesDestroy at hE
  refine xe_sn pg_48 1 (fr' := (1, [(0, .ref (ja_P i c)), (1, .ref (ja_L κ))], [.ref (ja_P i c)])) rfl ?_
  refine ye_gi pg_48 (S.1 180 (4 * i + c)) rfl rfl rfl (kk1 (k_P hi hc)) ((show lx _ 2 180 _ from lx_ix (4 * i + c) (l_P hi hc (by decide) (by decide)) (by omega)).rd _) ?_
  by_cases h1 : (S.1 180 (4 * i + c)) = 0
  · rw [if_pos h1] at hE
    refine xe_c1f pg_48 9 rfl rfl (fun z => z h1) ?_
    refine xe_sn pg_48 1 (fr' := (8, [(0, .ref (ja_P i c)), (1, .ref (ja_L κ))], [.int 0])) rfl ?_
    cases hE
    exact xe_end pg_48 rfl
  · rw [if_neg h1] at hE
    refine xe_c1t pg_48 9 rfl rfl h1 ?_
    refine xe_sn pg_48 1 (fr' := (10, [(0, .ref (ja_P i c)), (1, .ref (ja_L κ))], [.ref (ja_L κ)])) rfl ?_
    refine ye_gi pg_48 (S.2.1 κ 14) rfl rfl rfl (kk1 (k_L hκ)) ((show ly _ 1 κ 14 from l_L hκ (by decide) (by decide)).rd _) ?_
    refine xe_sn pg_48 1 (fr' := (14, [(0, .ref (ja_P i c)), (1, .ref (ja_L κ))], [.ref (ja_P i c), .int (S.2.1 κ 14)])) rfl ?_
    refine ye_gi pg_48 (S.1 181 (4 * i + c)) rfl rfl rfl (kk1 (k_P hi hc)) ((show lx _ 3 181 _ from lx_ix (4 * i + c) (l_P hi hc (by decide) (by decide)) (by omega)).rd _) ?_
    by_cases h2 : (S.2.1 κ 14) = (S.1 181 (4 * i + c))
    · rw [if_pos h2] at hE
      refine xe_c2f pg_48 32 rfl rfl (fun z => z h2) ?_
      refine xe_sn pg_48 3 (fr' := (23, [(0, .ref (ja_P i c)), (1, .ref (ja_L κ))], [.ref (ja_P i c), .ref (ja_L κ), .ref (ja_P i c)])) rfl ?_
      obtain ⟨r1, e1, hE⟩ := Option.bind_eq_some_iff.mp hE
      refine xe_cv pg_48 44 pg_44 [] [.ref (ja_L κ), .ref (ja_P i c)] (some (.int r1)) rfl rfl rfl rfl ⟨Nat.le_of_ble_eq_true rfl, Nat.le_of_ble_eq_true rfl, Nat.le_of_ble_eq_true rfl⟩ ⟨rfl, rfl⟩ (kk2 (k_P hi hc) (by decide)) (c_next _ (i := i) (c := c) hi hc (Option.some.inj e1)) ?_
      obtain ⟨r2, e2, hE⟩ := Option.bind_eq_some_iff.mp hE
      refine xe_cv pg_48 49 pg_49 [.ref (ja_L κ), .int r1] [] (none) rfl rfl rfl rfl ⟨Nat.le_of_ble_eq_true rfl, Nat.le_of_ble_eq_true rfl, Nat.le_of_ble_eq_true rfl⟩ ⟨rfl, rfl⟩ (kk2 (k_P hi hc) (by decide)) (c_passOn _ (i := i) (c := c) (κ := κ) (to := r1) hi hc hκ e2) ?_
      refine xe_sn pg_48 1 (fr' := (68, [(0, .ref (ja_P i c)), (1, .ref (ja_L κ))], [])) rfl ?_
      refine xe_sn pg_48 1 (fr' := (69, [(0, .ref (ja_P i c)), (1, .ref (ja_L κ))], [.ref (ja_P i c)])) rfl ?_
      obtain ⟨r3, e3, hE⟩ := Option.bind_eq_some_iff.mp hE
      refine xe_cv pg_48 43 pg_43 [] [] (none) rfl rfl rfl rfl ⟨Nat.le_of_ble_eq_true rfl, Nat.le_of_ble_eq_true rfl, Nat.le_of_ble_eq_true rfl⟩ ⟨rfl, rfl⟩ (kk2 (k_P hi hc) (by decide)) (c_vanish _ (i := i) (c := c) hi hc (Option.some.inj e3)) ?_
      refine xe_sn pg_48 1 (fr' := (73, [(0, .ref (ja_P i c)), (1, .ref (ja_L κ))], [.int 1])) rfl ?_
      cases hE
      exact xe_end pg_48 rfl
    · rw [if_neg h2] at hE
      refine xe_c2t pg_48 32 rfl rfl h2 ?_
      refine xe_sn pg_48 1 (fr' := (33, [(0, .ref (ja_P i c)), (1, .ref (ja_L κ))], [.ref (ja_L κ)])) rfl ?_
      refine ye_gi pg_48 (S.2.1 κ 14) rfl rfl rfl (kk1 (k_L hκ)) ((show ly _ 1 κ 14 from l_L hκ (by decide) (by decide)).rd _) ?_
      refine xe_sn pg_48 1 (fr' := (37, [(0, .ref (ja_P i c)), (1, .ref (ja_L κ))], [.ref (ja_P i c), .int (S.2.1 κ 14)])) rfl ?_
      refine ye_gi pg_48 (S.1 182 (4 * i + c)) rfl rfl rfl (kk1 (k_P hi hc)) ((show lx _ 4 182 _ from lx_ix (4 * i + c) (l_P hi hc (by decide) (by decide)) (by omega)).rd _) ?_
      by_cases h3 : (S.2.1 κ 14) = (S.1 182 (4 * i + c))
      · rw [if_pos h3] at hE
        refine xe_c2t pg_48 54 rfl rfl h3 ?_
        refine xe_sn pg_48 3 (fr' := (57, [(0, .ref (ja_P i c)), (1, .ref (ja_L κ))], [.ref (ja_P i c), .ref (ja_L κ), .ref (ja_P i c)])) rfl ?_
        refine ye_gi pg_48 (S.1 181 (4 * i + c)) rfl rfl rfl (kk1 (k_P hi hc)) ((show lx _ 3 181 _ from lx_ix (4 * i + c) (l_P hi hc (by decide) (by decide)) (by omega)).rd _) ?_
        obtain ⟨r4, e4, hE⟩ := Option.bind_eq_some_iff.mp hE
        refine xe_cv pg_48 49 pg_49 [.ref (ja_L κ), .int (S.1 181 (4 * i + c))] [] (none) rfl rfl rfl rfl ⟨Nat.le_of_ble_eq_true rfl, Nat.le_of_ble_eq_true rfl, Nat.le_of_ble_eq_true rfl⟩ ⟨rfl, rfl⟩ (kk2 (k_P hi hc) (by decide)) (c_passOn _ (i := i) (c := c) (κ := κ) (to := (S.1 181 (4 * i + c))) hi hc hκ e4) ?_
        refine xe_sn pg_48 1 (fr' := (68, [(0, .ref (ja_P i c)), (1, .ref (ja_L κ))], [])) rfl ?_
        refine xe_sn pg_48 1 (fr' := (69, [(0, .ref (ja_P i c)), (1, .ref (ja_L κ))], [.ref (ja_P i c)])) rfl ?_
        obtain ⟨r5, e5, hE⟩ := Option.bind_eq_some_iff.mp hE
        refine xe_cv pg_48 43 pg_43 [] [] (none) rfl rfl rfl rfl ⟨Nat.le_of_ble_eq_true rfl, Nat.le_of_ble_eq_true rfl, Nat.le_of_ble_eq_true rfl⟩ ⟨rfl, rfl⟩ (kk2 (k_P hi hc) (by decide)) (c_vanish _ (i := i) (c := c) hi hc (Option.some.inj e5)) ?_
        refine xe_sn pg_48 1 (fr' := (73, [(0, .ref (ja_P i c)), (1, .ref (ja_L κ))], [.int 1])) rfl ?_
        cases hE
        exact xe_end pg_48 rfl
      · rw [if_neg h3] at hE
        refine xe_c2f pg_48 54 rfl rfl h3 ?_
        refine xe_sn pg_48 1 (fr' := (44, [(0, .ref (ja_P i c)), (1, .ref (ja_L κ))], [.ref (ja_L κ)])) rfl ?_
        refine ye_gi pg_48 (S.2.1 κ 14) rfl rfl rfl (kk1 (k_L hκ)) ((show ly _ 1 κ 14 from l_L hκ (by decide) (by decide)).rd _) ?_
        refine xe_sn pg_48 1 (fr' := (48, [(0, .ref (ja_P i c)), (1, .ref (ja_L κ))], [.ref (ja_P i c), .int (S.2.1 κ 14)])) rfl ?_
        refine ye_gi pg_48 (S.1 183 (4 * i + c)) rfl rfl rfl (kk1 (k_P hi hc)) ((show lx _ 5 183 _ from lx_ix (4 * i + c) (l_P hi hc (by decide) (by decide)) (by omega)).rd _) ?_
        by_cases h4 : (S.2.1 κ 14) = (S.1 183 (4 * i + c))
        · rw [if_pos h4] at hE
          refine xe_c2f pg_48 66 rfl rfl (fun z => z h4) ?_
          refine xe_sn pg_48 3 (fr' := (57, [(0, .ref (ja_P i c)), (1, .ref (ja_L κ))], [.ref (ja_P i c), .ref (ja_L κ), .ref (ja_P i c)])) rfl ?_
          refine ye_gi pg_48 (S.1 181 (4 * i + c)) rfl rfl rfl (kk1 (k_P hi hc)) ((show lx _ 3 181 _ from lx_ix (4 * i + c) (l_P hi hc (by decide) (by decide)) (by omega)).rd _) ?_
          obtain ⟨r6, e6, hE⟩ := Option.bind_eq_some_iff.mp hE
          refine xe_cv pg_48 49 pg_49 [.ref (ja_L κ), .int (S.1 181 (4 * i + c))] [] (none) rfl rfl rfl rfl ⟨Nat.le_of_ble_eq_true rfl, Nat.le_of_ble_eq_true rfl, Nat.le_of_ble_eq_true rfl⟩ ⟨rfl, rfl⟩ (kk2 (k_P hi hc) (by decide)) (c_passOn _ (i := i) (c := c) (κ := κ) (to := (S.1 181 (4 * i + c))) hi hc hκ e6) ?_
          refine xe_sn pg_48 1 (fr' := (68, [(0, .ref (ja_P i c)), (1, .ref (ja_L κ))], [])) rfl ?_
          refine xe_sn pg_48 1 (fr' := (69, [(0, .ref (ja_P i c)), (1, .ref (ja_L κ))], [.ref (ja_P i c)])) rfl ?_
          obtain ⟨r7, e7, hE⟩ := Option.bind_eq_some_iff.mp hE
          refine xe_cv pg_48 43 pg_43 [] [] (none) rfl rfl rfl rfl ⟨Nat.le_of_ble_eq_true rfl, Nat.le_of_ble_eq_true rfl, Nat.le_of_ble_eq_true rfl⟩ ⟨rfl, rfl⟩ (kk2 (k_P hi hc) (by decide)) (c_vanish _ (i := i) (c := c) hi hc (Option.some.inj e7)) ?_
          refine xe_sn pg_48 1 (fr' := (73, [(0, .ref (ja_P i c)), (1, .ref (ja_L κ))], [.int 1])) rfl ?_
          cases hE
          exact xe_end pg_48 rfl
        · rw [if_neg h4] at hE
          refine xe_c2t pg_48 66 rfl rfl h4 ?_
          refine xe_sn pg_48 1 (fr' := (67, [(0, .ref (ja_P i c)), (1, .ref (ja_L κ))], [.int 0])) rfl ?_
          cases hE
          exact xe_end pg_48 rfl
theorem b_ptakesDestroy {S : xSt} {i : Nat} {c : Nat} {κ : Nat} {r : Int32 × xSt} (hE : (f_ptakesDestroy S i c κ) = some r) : r.1 = 0 ∨ r.1 = 1 := by
  unfold f_ptakesDestroy at hE
  by_cases h1 : (S.1 180 (4 * i + c)) = 0
  · rw [if_pos h1] at hE
    cases hE
    exact Or.inl rfl
  · rw [if_neg h1] at hE
    by_cases h2 : (S.2.1 κ 14) = (S.1 181 (4 * i + c))
    · rw [if_pos h2] at hE
      obtain ⟨r1, e1, hE⟩ := Option.bind_eq_some_iff.mp hE
      obtain ⟨r2, e2, hE⟩ := Option.bind_eq_some_iff.mp hE
      obtain ⟨r3, e3, hE⟩ := Option.bind_eq_some_iff.mp hE
      cases hE
      exact Or.inr rfl
    · rw [if_neg h2] at hE
      by_cases h3 : (S.2.1 κ 14) = (S.1 182 (4 * i + c))
      · rw [if_pos h3] at hE
        obtain ⟨r4, e4, hE⟩ := Option.bind_eq_some_iff.mp hE
        obtain ⟨r5, e5, hE⟩ := Option.bind_eq_some_iff.mp hE
        cases hE
        exact Or.inr rfl
      · rw [if_neg h3] at hE
        by_cases h4 : (S.2.1 κ 14) = (S.1 183 (4 * i + c))
        · rw [if_pos h4] at hE
          obtain ⟨r6, e6, hE⟩ := Option.bind_eq_some_iff.mp hE
          obtain ⟨r7, e7, hE⟩ := Option.bind_eq_some_iff.mp hE
          cases hE
          exact Or.inr rfl
        · rw [if_neg h4] at hE
          cases hE
          exact Or.inl rfl

def f_relayOn (S : xSt) (i : Nat) (c : Nat) (κ : Nat) (to : Int32) (di : Int32) : Option xSt := (f_add S (nI (i + 1)) to (nI c) 3).bind fun r1 => (some (w_cpy r1.2 r1.1 κ)).bind fun r2 => some (sy r2 r1.1 18 di)
set_option maxRecDepth 100000 in
theorem c_relayOn (d : Nat) {w : xWd} {S : xSt} {μ : Nat → Nat → Int32} {ρ : Nat → Nat → Int64} {i : Nat} {c : Nat} {κ : Nat} {to : Int32} {di : Int32} (hi : i < 4) (hc : c < 4) (hκ : κ < 22) {r : xSt} (hE : (f_relayOn S i c κ to di) = some r) : xc (d + 2) 53 [.ref (ja_P i c), .ref (ja_L κ), .int to, .int di] (hz w S μ ρ) (.inl (none), hz w r μ ρ) := by
  unfold f_relayOn at hE
  refine xe_sn pg_53 1 (fr' := (1, [(0, .ref (ja_P i c)), (1, .ref (ja_L κ)), (2, .int to), (3, .int di)], [.ref (ja_P i c)])) rfl ?_
  refine xe_gr pg_53 1 rfl rfl rfl (kk1 (k_P hi hc)) (r_P9 hi hc _) ?_
  refine xe_sn pg_53 1 (fr' := (5, [(0, .ref (ja_P i c)), (1, .ref (ja_L κ)), (2, .int to), (3, .int di)], [.ref (ja_P i c), .ref 1])) rfl ?_
  refine ye_gi pg_53 (nI (i + 1)) rfl rfl rfl (kk1 (k_P hi hc)) (c_P7 hi hc _) ?_
  refine xe_sn pg_53 2 (fr' := (10, [(0, .ref (ja_P i c)), (1, .ref (ja_L κ)), (2, .int to), (3, .int di)], [.ref (ja_P i c), .int to, .int (nI (i + 1)), .ref 1])) rfl ?_
  refine ye_gi pg_53 (nI c) rfl rfl rfl (kk1 (k_P hi hc)) (c_P8 hi hc _) ?_
  refine xe_sn pg_53 1 (fr' := (14, [(0, .ref (ja_P i c)), (1, .ref (ja_L κ)), (2, .int to), (3, .int di)], [.int 3, .int (nI c), .int to, .int (nI (i + 1)), .ref 1])) rfl ?_
  obtain ⟨r1, e1, hE⟩ := Option.bind_eq_some_iff.mp hE
  refine xe_cv pg_53 68 pg_68 [.int (nI (i + 1)), .int to, .int (nI c), .int 3] [] (some (.ref (ja_L r1.1))) rfl rfl rfl rfl ⟨Nat.le_of_ble_eq_true rfl, Nat.le_of_ble_eq_true rfl, Nat.le_of_ble_eq_true rfl⟩ ⟨rfl, rfl⟩ (kk2 k_W (by decide)) (c_add _ (a := (nI (i + 1))) (b := to) (c := (nI c)) (e := 3)  e1) ?_
  refine xe_sn pg_53 3 (fr' := (22, [(4, .ref (ja_L r1.1)), (0, .ref (ja_P i c)), (1, .ref (ja_L κ)), (2, .int to), (3, .int di)], [.ref (ja_L κ), .ref (ja_L r1.1)])) rfl ?_
  obtain ⟨r2, e2, hE⟩ := Option.bind_eq_some_iff.mp hE
  have e2q := Option.some.inj e2
  refine xe_cv pg_53 8 pg_8 [.ref (ja_L κ)] [] (none) rfl rfl rfl rfl ⟨Nat.le_of_ble_eq_true rfl, Nat.le_of_ble_eq_true rfl, Nat.le_of_ble_eq_true rfl⟩ ⟨rfl, rfl⟩ (kk2 (k_L (t_add e1)) (by decide)) (e2q ▸ c_copyBytes _ (κ := r1.1) (κf := κ) (t_add e1) hκ) ?_
  refine xe_sn pg_53 2 (fr' := (28, [(4, .ref (ja_L r1.1)), (0, .ref (ja_P i c)), (1, .ref (ja_L κ)), (2, .int to), (3, .int di)], [.int di, .ref (ja_L r1.1)])) rfl ?_
  refine ye_py pg_53 rfl rfl ⟨rfl, rfl⟩ (Or.inl rfl) (kk1 (k_L (t_add e1))) (show ly _ 5 r1.1 18 from l_L (t_add e1) (by decide) (by decide)) ?_
  cases hE
  exact xe_end pg_53 rfl

def f_goesForward (S : xSt) (i : Nat) (c : Nat) (κ : Nat) : Option (Int32 × xSt) := if (S.1 182 (4 * i + c)) = (-1) then (some (0, S)) else ((f_relayOn S i c κ (S.1 182 (4 * i + c)) ((S.2.1 κ 18) - 1)).bind fun r1 => some (1, r1))
set_option maxRecDepth 100000 in
theorem c_goesForward (d : Nat) {w : xWd} {S : xSt} {μ : Nat → Nat → Int32} {ρ : Nat → Nat → Int64} {i : Nat} {c : Nat} {κ : Nat} (hi : i < 4) (hc : c < 4) (hκ : κ < 22) {r : Int32 × xSt} (hE : (f_goesForward S i c κ) = some r) : xc (d + 3) 51 [.ref (ja_P i c), .ref (ja_L κ)] (hz w S μ ρ) (.inl (some (.int r.1)), hz w r.2 μ ρ) := by
  unfold f_goesForward at hE
  refine xe_sn pg_51 1 (fr' := (1, [(0, .ref (ja_P i c)), (1, .ref (ja_L κ))], [.ref (ja_P i c)])) rfl ?_
  refine ye_gi pg_51 (S.1 182 (4 * i + c)) rfl rfl rfl (kk1 (k_P hi hc)) ((show lx _ 4 182 _ from lx_ix (4 * i + c) (l_P hi hc (by decide) (by decide)) (by omega)).rd _) ?_
  refine xe_sn pg_51 1 (fr' := (5, [(0, .ref (ja_P i c)), (1, .ref (ja_L κ))], [.int (-1), .int (S.1 182 (4 * i + c))])) rfl ?_
  by_cases h1 : (S.1 182 (4 * i + c)) = (-1)
  · rw [if_pos h1] at hE
    refine xe_c2f pg_51 10 rfl rfl (fun z => z h1) ?_
    refine xe_sn pg_51 1 (fr' := (9, [(0, .ref (ja_P i c)), (1, .ref (ja_L κ))], [.int 0])) rfl ?_
    cases hE
    exact xe_end pg_51 rfl
  · rw [if_neg h1] at hE
    refine xe_c2t pg_51 10 rfl rfl h1 ?_
    refine xe_sn pg_51 3 (fr' := (13, [(0, .ref (ja_P i c)), (1, .ref (ja_L κ))], [.ref (ja_P i c), .ref (ja_L κ), .ref (ja_P i c)])) rfl ?_
    refine ye_gi pg_51 (S.1 182 (4 * i + c)) rfl rfl rfl (kk1 (k_P hi hc)) ((show lx _ 4 182 _ from lx_ix (4 * i + c) (l_P hi hc (by decide) (by decide)) (by omega)).rd _) ?_
    refine xe_sn pg_51 1 (fr' := (17, [(0, .ref (ja_P i c)), (1, .ref (ja_L κ))], [.ref (ja_L κ), .int (S.1 182 (4 * i + c)), .ref (ja_L κ), .ref (ja_P i c)])) rfl ?_
    refine ye_gi pg_51 (S.2.1 κ 18) rfl rfl rfl (kk1 (k_L hκ)) ((show ly _ 5 κ 18 from l_L hκ (by decide) (by decide)).rd _) ?_
    refine xe_sn pg_51 2 (fr' := (22, [(0, .ref (ja_P i c)), (1, .ref (ja_L κ))], [.int ((S.2.1 κ 18) - 1), .int (S.1 182 (4 * i + c)), .ref (ja_L κ), .ref (ja_P i c)])) rfl ?_
    obtain ⟨r1, e1, hE⟩ := Option.bind_eq_some_iff.mp hE
    refine xe_cv pg_51 53 pg_53 [.ref (ja_L κ), .int (S.1 182 (4 * i + c)), .int ((S.2.1 κ 18) - 1)] [] (none) rfl rfl rfl rfl ⟨Nat.le_of_ble_eq_true rfl, Nat.le_of_ble_eq_true rfl, Nat.le_of_ble_eq_true rfl⟩ ⟨rfl, rfl⟩ (kk2 (k_P hi hc) (by decide)) (c_relayOn _ (i := i) (c := c) (κ := κ) (to := (S.1 182 (4 * i + c))) (di := ((S.2.1 κ 18) - 1)) hi hc hκ e1) ?_
    refine xe_sn pg_51 1 (fr' := (26, [(0, .ref (ja_P i c)), (1, .ref (ja_L κ))], [.int 1])) rfl ?_
    cases hE
    exact xe_end pg_51 rfl
theorem b_goesForward {S : xSt} {i : Nat} {c : Nat} {κ : Nat} {r : Int32 × xSt} (hE : (f_goesForward S i c κ) = some r) : r.1 = 0 ∨ r.1 = 1 := by
  unfold f_goesForward at hE
  by_cases h1 : (S.1 182 (4 * i + c)) = (-1)
  · rw [if_pos h1] at hE
    cases hE
    exact Or.inl rfl
  · rw [if_neg h1] at hE
    obtain ⟨r1, e1, hE⟩ := Option.bind_eq_some_iff.mp hE
    cases hE
    exact Or.inr rfl

def f_pisKnown (S : xSt) (i : Nat) (c : Nat) (κ : Nat) : Int32 × xSt := if (f_isKnownBy S κ (f_fed S κ (S.1 184 (16 * i + 4 * c + 2)))) = 0 then ((f_isKnownBy S κ (f_fed S κ (S.1 184 (16 * i + 4 * c + 2)))), S) else ((f_isKnownBy S κ (f_fed S κ (S.1 184 (16 * i + 4 * c + 2)))), (sx S 184 (16 * i + 4 * c + 2) (f_fed S κ (S.1 184 (16 * i + 4 * c + 2)))))
set_option maxRecDepth 100000 in
theorem c_pisKnown (d : Nat) {w : xWd} {S : xSt} {μ : Nat → Nat → Int32} {ρ : Nat → Nat → Int64} {i : Nat} {c : Nat} {κ : Nat} (hi : i < 4) (hc : c < 4) (hκ : κ < 22) {r : Int32 × xSt} (hE : (f_pisKnown S i c κ) = r) : xc (d + 2) 52 [.ref (ja_P i c), .ref (ja_L κ)] (hz w S μ ρ) (.inl (some (.int r.1)), hz w r.2 μ ρ) := by
  unfold f_pisKnown at hE
  refine xe_sn pg_52 2 (fr' := (2, [(0, .ref (ja_P i c)), (1, .ref (ja_L κ))], [.ref (ja_P i c), .ref (ja_L κ)])) rfl ?_
  refine xe_gr pg_52 (ja_K i c) rfl rfl rfl (kk1 (k_P hi hc)) (r_P0 hi hc _) ?_
  refine xe_sn pg_52 1 (fr' := (6, [(0, .ref (ja_P i c)), (1, .ref (ja_L κ))], [.int 2, .ref (ja_K i c), .ref (ja_L κ)])) rfl ?_
  refine ye_il pg_52 2 (S.1 184 (16 * i + 4 * c + 2)) rfl (k_K hi hc) ⟨by decide, by decide⟩ rfl ((lx_ix (16 * i + 4 * c + 2) (l_K hi hc (k := 2) (by decide)) (by omega)).rd _) ?_
  refine xe_cv pg_52 13 pg_13 [.int (S.1 184 (16 * i + 4 * c + 2))] [] (some (.int (f_fed S κ (S.1 184 (16 * i + 4 * c + 2))))) rfl rfl rfl rfl ⟨Nat.le_of_ble_eq_true rfl, Nat.le_of_ble_eq_true rfl, Nat.le_of_ble_eq_true rfl⟩ ⟨rfl, rfl⟩ (kk2 (k_L hκ) (by decide)) (c_fed _ (κ := κ) (key := (S.1 184 (16 * i + 4 * c + 2))) hκ rfl) ?_
  refine xe_sn pg_52 3 (fr' := (13, [(2, .int (f_fed S κ (S.1 184 (16 * i + 4 * c + 2)))), (0, .ref (ja_P i c)), (1, .ref (ja_L κ))], [.int (f_fed S κ (S.1 184 (16 * i + 4 * c + 2))), .ref (ja_L κ)])) rfl ?_
  refine xe_cv pg_52 14 pg_14 [.int (f_fed S κ (S.1 184 (16 * i + 4 * c + 2)))] [] (some (.int (f_isKnownBy S κ (f_fed S κ (S.1 184 (16 * i + 4 * c + 2)))))) rfl rfl rfl rfl ⟨Nat.le_of_ble_eq_true rfl, Nat.le_of_ble_eq_true rfl, Nat.le_of_ble_eq_true rfl⟩ ⟨rfl, rfl⟩ (kk2 (k_L hκ) (by decide)) (c_isKnownBy _ (κ := κ) (k := (f_fed S κ (S.1 184 (16 * i + 4 * c + 2)))) hκ rfl) ?_
  refine xe_sn pg_52 2 (fr' := (18, [(3, .int (f_isKnownBy S κ (f_fed S κ (S.1 184 (16 * i + 4 * c + 2))))), (2, .int (f_fed S κ (S.1 184 (16 * i + 4 * c + 2)))), (0, .ref (ja_P i c)), (1, .ref (ja_L κ))], [.int (f_isKnownBy S κ (f_fed S κ (S.1 184 (16 * i + 4 * c + 2))))])) rfl ?_
  by_cases h1 : (f_isKnownBy S κ (f_fed S κ (S.1 184 (16 * i + 4 * c + 2)))) = 0
  · rw [if_pos h1] at hE
    refine xe_c1t pg_52 28 rfl rfl h1 ?_
    refine xe_sn pg_52 1 (fr' := (29, [(3, .int (f_isKnownBy S κ (f_fed S κ (S.1 184 (16 * i + 4 * c + 2))))), (2, .int (f_fed S κ (S.1 184 (16 * i + 4 * c + 2)))), (0, .ref (ja_P i c)), (1, .ref (ja_L κ))], [.int (f_isKnownBy S κ (f_fed S κ (S.1 184 (16 * i + 4 * c + 2))))])) rfl ?_
    subst hE
    exact xe_rb pg_52 rfl rfl (b_isKnownBy rfl)
  · rw [if_neg h1] at hE
    refine xe_c1f pg_52 28 rfl rfl h1 ?_
    refine xe_sn pg_52 1 (fr' := (22, [(3, .int (f_isKnownBy S κ (f_fed S κ (S.1 184 (16 * i + 4 * c + 2))))), (2, .int (f_fed S κ (S.1 184 (16 * i + 4 * c + 2)))), (0, .ref (ja_P i c)), (1, .ref (ja_L κ))], [.ref (ja_P i c)])) rfl ?_
    refine xe_gr pg_52 (ja_K i c) rfl rfl rfl (kk1 (k_P hi hc)) (r_P0 hi hc _) ?_
    refine xe_sn pg_52 2 (fr' := (27, [(3, .int (f_isKnownBy S κ (f_fed S κ (S.1 184 (16 * i + 4 * c + 2))))), (2, .int (f_fed S κ (S.1 184 (16 * i + 4 * c + 2)))), (0, .ref (ja_P i c)), (1, .ref (ja_L κ))], [.int (f_fed S κ (S.1 184 (16 * i + 4 * c + 2))), .int 2, .ref (ja_K i c)])) rfl ?_
    refine ye_is pg_52 2 rfl (k_K hi hc) ⟨by decide, by decide⟩ rfl (lx_ix (16 * i + 4 * c + 2) (l_K hi hc (k := 2) (by decide)) (by omega)) ?_
    refine xe_sn pg_52 1 (fr' := (29, [(3, .int (f_isKnownBy S κ (f_fed S κ (S.1 184 (16 * i + 4 * c + 2))))), (2, .int (f_fed S κ (S.1 184 (16 * i + 4 * c + 2)))), (0, .ref (ja_P i c)), (1, .ref (ja_L κ))], [.int (f_isKnownBy S κ (f_fed S κ (S.1 184 (16 * i + 4 * c + 2))))])) rfl ?_
    subst hE
    exact xe_rb pg_52 rfl rfl (b_isKnownBy rfl)
theorem b_pisKnown {S : xSt} {i : Nat} {c : Nat} {κ : Nat} {r : Int32 × xSt} (hE : (f_pisKnown S i c κ) = r) : r.1 = 0 ∨ r.1 = 1 := by
  unfold f_pisKnown at hE
  by_cases h1 : (f_isKnownBy S κ (f_fed S κ (S.1 184 (16 * i + 4 * c + 2)))) = 0
  · rw [if_pos h1] at hE
    subst hE
    exact (b_isKnownBy rfl)
  · rw [if_neg h1] at hE
    subst hE
    exact (b_isKnownBy rfl)

def f_followTruncate (S : xSt) (i : Nat) (c : Nat) : Option xSt := (f_destroyNext S i c).bind fun r1 => (f_orderBack (sx (sx r1 182 (4 * i + c) (-1)) 183 (4 * i + c) (-1)) i c 9 0 0).bind fun r2 => (some (f_sealBack r2.2 i c r2.1)).bind fun r3 => some r3
set_option maxRecDepth 100000 in
theorem c_followTruncate (d : Nat) {w : xWd} {S : xSt} {μ : Nat → Nat → Int32} {ρ : Nat → Nat → Int64} {i : Nat} {c : Nat} (hi : i < 4) (hc : c < 4) {r : xSt} (hE : (f_followTruncate S i c) = some r) : xc (d + 3) 58 [.ref (ja_P i c)] (hz w S μ ρ) (.inl (none), hz w r μ ρ) := by
  unfold f_followTruncate at hE
  refine xe_sn pg_58 1 (fr' := (1, [(0, .ref (ja_P i c))], [.ref (ja_P i c)])) rfl ?_
  obtain ⟨r1, e1, hE⟩ := Option.bind_eq_some_iff.mp hE
  refine xe_cv pg_58 45 pg_45 [] [] (none) rfl rfl rfl rfl ⟨Nat.le_of_ble_eq_true rfl, Nat.le_of_ble_eq_true rfl, Nat.le_of_ble_eq_true rfl⟩ ⟨rfl, rfl⟩ (kk2 (k_P hi hc) (by decide)) (c_destroyNext _ (i := i) (c := c) hi hc e1) ?_
  refine xe_sn pg_58 2 (fr' := (6, [(0, .ref (ja_P i c))], [.int (-1), .ref (ja_P i c)])) rfl ?_
  refine ye_px pg_58 rfl rfl ⟨rfl, rfl⟩ (Or.inl rfl) (kk1 (k_P hi hc)) (show lx _ 4 182 _ from lx_ix (4 * i + c) (l_P hi hc (by decide) (by decide)) (by omega)) ?_
  refine xe_sn pg_58 2 (fr' := (11, [(0, .ref (ja_P i c))], [.int (-1), .ref (ja_P i c)])) rfl ?_
  refine ye_px pg_58 rfl rfl ⟨rfl, rfl⟩ (Or.inl rfl) (kk1 (k_P hi hc)) (show lx _ 5 183 _ from lx_ix (4 * i + c) (l_P hi hc (by decide) (by decide)) (by omega)) ?_
  refine xe_sn pg_58 5 (fr' := (20, [(0, .ref (ja_P i c))], [.int 0, .int 0, .int 9, .ref (ja_P i c), .ref (ja_P i c)])) rfl ?_
  obtain ⟨r2, e2, hE⟩ := Option.bind_eq_some_iff.mp hE
  refine xe_cv pg_58 60 pg_60 [.int 9, .int 0, .int 0] [.ref (ja_P i c)] (some (.ref (ja_L r2.1))) rfl rfl rfl rfl ⟨Nat.le_of_ble_eq_true rfl, Nat.le_of_ble_eq_true rfl, Nat.le_of_ble_eq_true rfl⟩ ⟨rfl, rfl⟩ (kk2 (k_P hi hc) (by decide)) (c_orderBack _ (i := i) (c := c) (o := 9) (s := 0) (n := 0) hi hc e2) ?_
  obtain ⟨r3, e3, hE⟩ := Option.bind_eq_some_iff.mp hE
  refine xe_cv pg_58 61 pg_61 [.ref (ja_L r2.1)] [] (none) rfl rfl rfl rfl ⟨Nat.le_of_ble_eq_true rfl, Nat.le_of_ble_eq_true rfl, Nat.le_of_ble_eq_true rfl⟩ ⟨rfl, rfl⟩ (kk2 (k_P hi hc) (by decide)) (c_sealBack _ (i := i) (c := c) (κ := r2.1) hi hc (t_orderBack e2) (Option.some.inj e3)) ?_
  cases hE
  exact xe_end pg_58 rfl

def f_followBegin (S : xSt) (i : Nat) (c : Nat) (s : Int32) : Option xSt := (some (f_isStream s)).bind fun r1 => if r1 = 0 then ((f_orderBack S i c 6 s 0).bind fun r2 => (some (f_sealBack r2.2 i c r2.1)).bind fun r3 => some r3) else (if bnd (s - 1) 3 then (if (S.1 185 (3 * (4 * i + c) + (s - 1).toNatClampNeg)) = 0 then ((f_orderBack (sx (sx S 185 (3 * (4 * i + c) + (s - 1).toNatClampNeg) 1) 191 (3 * (4 * i + c) + (s - 1).toNatClampNeg) 0) i c 4 s 0).bind fun r4 => (some (f_sealBack r4.2 i c r4.1)).bind fun r5 => some r5) else ((f_orderBack S i c 6 s 0).bind fun r6 => (some (f_sealBack r6.2 i c r6.1)).bind fun r7 => some r7)) else none)
set_option maxRecDepth 100000 in
theorem c_followBegin (d : Nat) {w : xWd} {S : xSt} {μ : Nat → Nat → Int32} {ρ : Nat → Nat → Int64} {i : Nat} {c : Nat} {s : Int32} (hi : i < 4) (hc : c < 4) {r : xSt} (hE : (f_followBegin S i c s) = some r) : xc (d + 3) 56 [.ref (ja_P i c), .int s] (hz w S μ ρ) (.inl (none), hz w r μ ρ) := by
  unfold f_followBegin at hE
  refine xe_sn pg_56 1 (fr' := (1, [(0, .ref (ja_P i c)), (1, .int s)], [.int s])) rfl ?_
  obtain ⟨r1, e1, hE⟩ := Option.bind_eq_some_iff.mp hE
  refine xe_callq pg_56 100 [.int s] (.inl (some (.int r1))) (4, [(0, .ref (ja_P i c)), (1, .int s)], [.int r1]) rfl (fun _ => rfl) (c_isStream _ (x := s)  (Option.some.inj e1)) ?_
  by_cases h1 : r1 = 0
  · rw [if_pos h1] at hE
    refine xe_c1t pg_56 18 rfl rfl h1 ?_
    refine xe_sn pg_56 5 (fr' := (24, [(0, .ref (ja_P i c)), (1, .int s)], [.int 0, .int s, .int 6, .ref (ja_P i c), .ref (ja_P i c)])) rfl ?_
    obtain ⟨r2, e2, hE⟩ := Option.bind_eq_some_iff.mp hE
    refine xe_cv pg_56 60 pg_60 [.int 6, .int s, .int 0] [.ref (ja_P i c)] (some (.ref (ja_L r2.1))) rfl rfl rfl rfl ⟨Nat.le_of_ble_eq_true rfl, Nat.le_of_ble_eq_true rfl, Nat.le_of_ble_eq_true rfl⟩ ⟨rfl, rfl⟩ (kk2 (k_P hi hc) (by decide)) (c_orderBack _ (i := i) (c := c) (o := 6) (s := s) (n := 0) hi hc e2) ?_
    obtain ⟨r3, e3, hE⟩ := Option.bind_eq_some_iff.mp hE
    refine xe_cv pg_56 61 pg_61 [.ref (ja_L r2.1)] [] (none) rfl rfl rfl rfl ⟨Nat.le_of_ble_eq_true rfl, Nat.le_of_ble_eq_true rfl, Nat.le_of_ble_eq_true rfl⟩ ⟨rfl, rfl⟩ (kk2 (k_P hi hc) (by decide)) (c_sealBack _ (i := i) (c := c) (κ := r2.1) hi hc (t_orderBack e2) (Option.some.inj e3)) ?_
    cases hE
    exact xe_end pg_56 rfl
  · rw [if_neg h1] at hE
    refine xe_c1f pg_56 18 rfl rfl h1 ?_
    refine xe_sn pg_56 1 (fr' := (8, [(0, .ref (ja_P i c)), (1, .int s)], [.ref (ja_P i c)])) rfl ?_
    refine xe_gr pg_56 (ja_O i c) rfl rfl rfl (kk1 (k_P hi hc)) (r_P1 hi hc _) ?_
    refine xe_sn pg_56 3 (fr' := (14, [(0, .ref (ja_P i c)), (1, .int s)], [.int (s - 1), .ref (ja_O i c)])) rfl ?_
    by_cases g2 : bnd (s - 1) 3
    case neg => rw [if_neg g2] at hE; cases hE
    rw [if_pos g2] at hE
    refine ye_bl pg_56 (s - 1).toNatClampNeg (S.1 185 (3 * (4 * i + c) + (s - 1).toNatClampNeg)) rfl (k_Op hi hc) g2 rfl ((l_O hi hc (k := (s - 1).toNatClampNeg) (bnd_lt g2)).rd _) ?_
    by_cases h3 : (S.1 185 (3 * (4 * i + c) + (s - 1).toNatClampNeg)) = 0
    · rw [if_pos h3] at hE
      refine xe_c1t pg_56 31 rfl rfl h3 ?_
      refine xe_sn pg_56 1 (fr' := (32, [(0, .ref (ja_P i c)), (1, .int s)], [.ref (ja_P i c)])) rfl ?_
      refine xe_gr pg_56 (ja_O i c) rfl rfl rfl (kk1 (k_P hi hc)) (r_P1 hi hc _) ?_
      refine xe_sn pg_56 4 (fr' := (39, [(0, .ref (ja_P i c)), (1, .int s)], [.int 1, .int (s - 1), .ref (ja_O i c)])) rfl ?_
      refine ye_bs pg_56 (s - 1).toNatClampNeg rfl (k_Op hi hc) g2 rfl (Or.inr rfl) (l_O hi hc (k := (s - 1).toNatClampNeg) (bnd_lt g2)) ?_
      refine xe_sn pg_56 1 (fr' := (41, [(0, .ref (ja_P i c)), (1, .int s)], [.ref (ja_P i c)])) rfl ?_
      refine xe_gr pg_56 (ja_N i c) rfl rfl rfl (kk1 (k_P hi hc)) (r_P6 hi hc _) ?_
      refine xe_sn pg_56 4 (fr' := (48, [(0, .ref (ja_P i c)), (1, .int s)], [.int 0, .int (s - 1), .ref (ja_N i c)])) rfl ?_
      refine ye_is pg_56 (s - 1).toNatClampNeg rfl (k_N hi hc) g2 rfl (l_N hi hc (k := (s - 1).toNatClampNeg) (bnd_lt g2)) ?_
      refine xe_sn pg_56 5 (fr' := (54, [(0, .ref (ja_P i c)), (1, .int s)], [.int 0, .int s, .int 4, .ref (ja_P i c), .ref (ja_P i c)])) rfl ?_
      obtain ⟨r4, e4, hE⟩ := Option.bind_eq_some_iff.mp hE
      refine xe_cv pg_56 60 pg_60 [.int 4, .int s, .int 0] [.ref (ja_P i c)] (some (.ref (ja_L r4.1))) rfl rfl rfl rfl ⟨Nat.le_of_ble_eq_true rfl, Nat.le_of_ble_eq_true rfl, Nat.le_of_ble_eq_true rfl⟩ ⟨rfl, rfl⟩ (kk2 (k_P hi hc) (by decide)) (c_orderBack _ (i := i) (c := c) (o := 4) (s := s) (n := 0) hi hc e4) ?_
      obtain ⟨r5, e5, hE⟩ := Option.bind_eq_some_iff.mp hE
      refine xe_cv pg_56 61 pg_61 [.ref (ja_L r4.1)] [] (none) rfl rfl rfl rfl ⟨Nat.le_of_ble_eq_true rfl, Nat.le_of_ble_eq_true rfl, Nat.le_of_ble_eq_true rfl⟩ ⟨rfl, rfl⟩ (kk2 (k_P hi hc) (by decide)) (c_sealBack _ (i := i) (c := c) (κ := r4.1) hi hc (t_orderBack e4) (Option.some.inj e5)) ?_
      cases hE
      exact xe_end pg_56 rfl
    · rw [if_neg h3] at hE
      refine xe_c1f pg_56 31 rfl rfl h3 ?_
      refine xe_sn pg_56 5 (fr' := (24, [(0, .ref (ja_P i c)), (1, .int s)], [.int 0, .int s, .int 6, .ref (ja_P i c), .ref (ja_P i c)])) rfl ?_
      obtain ⟨r6, e6, hE⟩ := Option.bind_eq_some_iff.mp hE
      refine xe_cv pg_56 60 pg_60 [.int 6, .int s, .int 0] [.ref (ja_P i c)] (some (.ref (ja_L r6.1))) rfl rfl rfl rfl ⟨Nat.le_of_ble_eq_true rfl, Nat.le_of_ble_eq_true rfl, Nat.le_of_ble_eq_true rfl⟩ ⟨rfl, rfl⟩ (kk2 (k_P hi hc) (by decide)) (c_orderBack _ (i := i) (c := c) (o := 6) (s := s) (n := 0) hi hc e6) ?_
      obtain ⟨r7, e7, hE⟩ := Option.bind_eq_some_iff.mp hE
      refine xe_cv pg_56 61 pg_61 [.ref (ja_L r6.1)] [] (none) rfl rfl rfl rfl ⟨Nat.le_of_ble_eq_true rfl, Nat.le_of_ble_eq_true rfl, Nat.le_of_ble_eq_true rfl⟩ ⟨rfl, rfl⟩ (kk2 (k_P hi hc) (by decide)) (c_sealBack _ (i := i) (c := c) (κ := r6.1) hi hc (t_orderBack e6) (Option.some.inj e7)) ?_
      cases hE
      exact xe_end pg_56 rfl

def f_followsExtend (S : xSt) (i : Nat) (c : Nat) (κ : Nat) : Option (Int32 × xSt) := if (if (S.2.1 κ 7) < 1 then (0 : Int32) else (if 4 < (S.2.1 κ 7) then (0 : Int32) else (if (S.2.1 κ 7) = (nI (i + 1)) then (0 : Int32) else (if (S.2.1 κ 7) = (S.1 181 (4 * i + c)) then (0 : Int32) else 1)))) = 0 then (some (0, S)) else ((some (f_next S i c)).bind fun r1 => if r1 = (-1) then ((f_add S (nI (i + 1)) (S.2.1 κ 7) (nI c) 1).bind fun r2 => (some (f_pair r2.2 κ 8)).bind fun r3 => (some (f_putPair r2.2 r2.1 0 r3)).bind fun r4 => some (1, (sx r4 183 (4 * i + c) (S.2.1 κ 7)))) else (some (0, S)))
set_option maxRecDepth 100000 in
theorem c_followsExtend (d : Nat) {w : xWd} {S : xSt} {μ : Nat → Nat → Int32} {ρ : Nat → Nat → Int64} {i : Nat} {c : Nat} {κ : Nat} (hi : i < 4) (hc : c < 4) (hκ : κ < 22) {r : Int32 × xSt} (hE : (f_followsExtend S i c κ) = some r) : xc (d + 2) 55 [.ref (ja_P i c), .ref (ja_L κ)] (hz w S μ ρ) (.inl (some (.int r.1)), hz w r.2 μ ρ) := by
  unfold f_followsExtend at hE
  refine xe_sn pg_55 1 (fr' := (1, [(0, .ref (ja_P i c)), (1, .ref (ja_L κ))], [.ref (ja_L κ)])) rfl ?_
  refine xe_gr pg_55 (ja_B κ) rfl rfl rfl (kk1 (k_L hκ)) (r_L0 hκ _) ?_
  refine xe_sn pg_55 1 (fr' := (6, [(0, .ref (ja_P i c)), (1, .ref (ja_L κ))], [.int 7, .ref (ja_B κ)])) rfl ?_
  refine ye_il pg_55 7 (S.2.1 κ 7) rfl (k_B hκ) ⟨by decide, by decide⟩ rfl ((l_B hκ (k := 7) (by decide)).rd _) ?_
  refine xe_sn pg_55 3 (fr' := (10, [(2, .int (S.2.1 κ 7)), (0, .ref (ja_P i c)), (1, .ref (ja_L κ))], [.int 1, .int (S.2.1 κ 7)])) rfl ?_
  refine xe_jn (fr' := (39, [(2, .int (S.2.1 κ 7)), (0, .ref (ja_P i c)), (1, .ref (ja_L κ))], [.int (if (S.2.1 κ 7) < 1 then (0 : Int32) else (if 4 < (S.2.1 κ 7) then (0 : Int32) else (if (S.2.1 κ 7) = (nI (i + 1)) then (0 : Int32) else (if (S.2.1 κ 7) = (S.1 181 (4 * i + c)) then (0 : Int32) else 1))))])) (fun J1 => ?_) ?_
  · by_cases h1 : (S.2.1 κ 7) < 1
    · rw [show (if (S.2.1 κ 7) < 1 then (0 : Int32) else (if 4 < (S.2.1 κ 7) then (0 : Int32) else (if (S.2.1 κ 7) = (nI (i + 1)) then (0 : Int32) else (if (S.2.1 κ 7) = (S.1 181 (4 * i + c)) then (0 : Int32) else 1)))) = 0 from if_pos h1] at J1
      refine xe_c2t pg_55 38 rfl rfl h1 ?_
      refine xe_sn pg_55 1 (fr' := (39, [(2, .int (S.2.1 κ 7)), (0, .ref (ja_P i c)), (1, .ref (ja_L κ))], [.int 0])) rfl ?_
      exact J1
    · rw [show (if (S.2.1 κ 7) < 1 then (0 : Int32) else (if 4 < (S.2.1 κ 7) then (0 : Int32) else (if (S.2.1 κ 7) = (nI (i + 1)) then (0 : Int32) else (if (S.2.1 κ 7) = (S.1 181 (4 * i + c)) then (0 : Int32) else 1)))) = (if 4 < (S.2.1 κ 7) then (0 : Int32) else (if (S.2.1 κ 7) = (nI (i + 1)) then (0 : Int32) else (if (S.2.1 κ 7) = (S.1 181 (4 * i + c)) then (0 : Int32) else 1))) from if_neg h1] at J1
      refine xe_c2f pg_55 38 rfl rfl h1 ?_
      refine xe_sn pg_55 2 (fr' := (15, [(2, .int (S.2.1 κ 7)), (0, .ref (ja_P i c)), (1, .ref (ja_L κ))], [.int 4, .int (S.2.1 κ 7)])) rfl ?_
      refine xe_jn (fr' := (39, [(2, .int (S.2.1 κ 7)), (0, .ref (ja_P i c)), (1, .ref (ja_L κ))], [.int (if 4 < (S.2.1 κ 7) then (0 : Int32) else (if (S.2.1 κ 7) = (nI (i + 1)) then (0 : Int32) else (if (S.2.1 κ 7) = (S.1 181 (4 * i + c)) then (0 : Int32) else 1)))])) (fun J2 => ?_) ?_
      · by_cases h2 : 4 < (S.2.1 κ 7)
        · rw [show (if 4 < (S.2.1 κ 7) then (0 : Int32) else (if (S.2.1 κ 7) = (nI (i + 1)) then (0 : Int32) else (if (S.2.1 κ 7) = (S.1 181 (4 * i + c)) then (0 : Int32) else 1))) = 0 from if_pos h2] at J2
          refine xe_c2t pg_55 38 rfl rfl h2 ?_
          refine xe_sn pg_55 1 (fr' := (39, [(2, .int (S.2.1 κ 7)), (0, .ref (ja_P i c)), (1, .ref (ja_L κ))], [.int 0])) rfl ?_
          exact J2
        · rw [show (if 4 < (S.2.1 κ 7) then (0 : Int32) else (if (S.2.1 κ 7) = (nI (i + 1)) then (0 : Int32) else (if (S.2.1 κ 7) = (S.1 181 (4 * i + c)) then (0 : Int32) else 1))) = (if (S.2.1 κ 7) = (nI (i + 1)) then (0 : Int32) else (if (S.2.1 κ 7) = (S.1 181 (4 * i + c)) then (0 : Int32) else 1)) from if_neg h2] at J2
          refine xe_c2f pg_55 38 rfl rfl h2 ?_
          refine xe_sn pg_55 2 (fr' := (20, [(2, .int (S.2.1 κ 7)), (0, .ref (ja_P i c)), (1, .ref (ja_L κ))], [.ref (ja_P i c), .int (S.2.1 κ 7)])) rfl ?_
          refine ye_gi pg_55 (nI (i + 1)) rfl rfl rfl (kk1 (k_P hi hc)) (c_P7 hi hc _) ?_
          refine xe_jn (fr' := (39, [(2, .int (S.2.1 κ 7)), (0, .ref (ja_P i c)), (1, .ref (ja_L κ))], [.int (if (S.2.1 κ 7) = (nI (i + 1)) then (0 : Int32) else (if (S.2.1 κ 7) = (S.1 181 (4 * i + c)) then (0 : Int32) else 1))])) (fun J3 => ?_) ?_
          · by_cases h3 : (S.2.1 κ 7) = (nI (i + 1))
            · rw [show (if (S.2.1 κ 7) = (nI (i + 1)) then (0 : Int32) else (if (S.2.1 κ 7) = (S.1 181 (4 * i + c)) then (0 : Int32) else 1)) = 0 from if_pos h3] at J3
              refine xe_c2t pg_55 38 rfl rfl h3 ?_
              refine xe_sn pg_55 1 (fr' := (39, [(2, .int (S.2.1 κ 7)), (0, .ref (ja_P i c)), (1, .ref (ja_L κ))], [.int 0])) rfl ?_
              exact J3
            · rw [show (if (S.2.1 κ 7) = (nI (i + 1)) then (0 : Int32) else (if (S.2.1 κ 7) = (S.1 181 (4 * i + c)) then (0 : Int32) else 1)) = (if (S.2.1 κ 7) = (S.1 181 (4 * i + c)) then (0 : Int32) else 1) from if_neg h3] at J3
              refine xe_c2f pg_55 38 rfl rfl h3 ?_
              refine xe_sn pg_55 2 (fr' := (28, [(2, .int (S.2.1 κ 7)), (0, .ref (ja_P i c)), (1, .ref (ja_L κ))], [.ref (ja_P i c), .int (S.2.1 κ 7)])) rfl ?_
              refine ye_gi pg_55 (S.1 181 (4 * i + c)) rfl rfl rfl (kk1 (k_P hi hc)) ((show lx _ 3 181 _ from lx_ix (4 * i + c) (l_P hi hc (by decide) (by decide)) (by omega)).rd _) ?_
              refine xe_jn (fr' := (39, [(2, .int (S.2.1 κ 7)), (0, .ref (ja_P i c)), (1, .ref (ja_L κ))], [.int (if (S.2.1 κ 7) = (S.1 181 (4 * i + c)) then (0 : Int32) else 1)])) (fun J4 => ?_) ?_
              · by_cases h4 : (S.2.1 κ 7) = (S.1 181 (4 * i + c))
                · rw [show (if (S.2.1 κ 7) = (S.1 181 (4 * i + c)) then (0 : Int32) else 1) = 0 from if_pos h4] at J4
                  refine xe_c2t pg_55 38 rfl rfl h4 ?_
                  refine xe_sn pg_55 1 (fr' := (39, [(2, .int (S.2.1 κ 7)), (0, .ref (ja_P i c)), (1, .ref (ja_L κ))], [.int 0])) rfl ?_
                  exact J4
                · rw [show (if (S.2.1 κ 7) = (S.1 181 (4 * i + c)) then (0 : Int32) else 1) = 1 from if_neg h4] at J4
                  refine xe_c2f pg_55 38 rfl rfl h4 ?_
                  refine xe_sn pg_55 2 (fr' := (39, [(2, .int (S.2.1 κ 7)), (0, .ref (ja_P i c)), (1, .ref (ja_L κ))], [.int 1])) rfl ?_
                  exact J4
              exact J3
          exact J2
      exact J1
  refine xe_sn pg_55 2 (fr' := (41, [(3, .int (if (S.2.1 κ 7) < 1 then (0 : Int32) else (if 4 < (S.2.1 κ 7) then (0 : Int32) else (if (S.2.1 κ 7) = (nI (i + 1)) then (0 : Int32) else (if (S.2.1 κ 7) = (S.1 181 (4 * i + c)) then (0 : Int32) else 1))))), (2, .int (S.2.1 κ 7)), (0, .ref (ja_P i c)), (1, .ref (ja_L κ))], [.int (if (S.2.1 κ 7) < 1 then (0 : Int32) else (if 4 < (S.2.1 κ 7) then (0 : Int32) else (if (S.2.1 κ 7) = (nI (i + 1)) then (0 : Int32) else (if (S.2.1 κ 7) = (S.1 181 (4 * i + c)) then (0 : Int32) else 1))))])) rfl ?_
  by_cases h5 : (if (S.2.1 κ 7) < 1 then (0 : Int32) else (if 4 < (S.2.1 κ 7) then (0 : Int32) else (if (S.2.1 κ 7) = (nI (i + 1)) then (0 : Int32) else (if (S.2.1 κ 7) = (S.1 181 (4 * i + c)) then (0 : Int32) else 1)))) = 0
  · rw [if_pos h5] at hE
    refine xe_c1t pg_55 52 rfl rfl h5 ?_
    refine xe_sn pg_55 1 (fr' := (53, [(3, .int (if (S.2.1 κ 7) < 1 then (0 : Int32) else (if 4 < (S.2.1 κ 7) then (0 : Int32) else (if (S.2.1 κ 7) = (nI (i + 1)) then (0 : Int32) else (if (S.2.1 κ 7) = (S.1 181 (4 * i + c)) then (0 : Int32) else 1))))), (2, .int (S.2.1 κ 7)), (0, .ref (ja_P i c)), (1, .ref (ja_L κ))], [.int 0])) rfl ?_
    cases hE
    exact xe_end pg_55 rfl
  · rw [if_neg h5] at hE
    refine xe_c1f pg_55 52 rfl rfl h5 ?_
    refine xe_sn pg_55 1 (fr' := (45, [(3, .int (if (S.2.1 κ 7) < 1 then (0 : Int32) else (if 4 < (S.2.1 κ 7) then (0 : Int32) else (if (S.2.1 κ 7) = (nI (i + 1)) then (0 : Int32) else (if (S.2.1 κ 7) = (S.1 181 (4 * i + c)) then (0 : Int32) else 1))))), (2, .int (S.2.1 κ 7)), (0, .ref (ja_P i c)), (1, .ref (ja_L κ))], [.ref (ja_P i c)])) rfl ?_
    obtain ⟨r1, e1, hE⟩ := Option.bind_eq_some_iff.mp hE
    refine xe_cv pg_55 44 pg_44 [] [] (some (.int r1)) rfl rfl rfl rfl ⟨Nat.le_of_ble_eq_true rfl, Nat.le_of_ble_eq_true rfl, Nat.le_of_ble_eq_true rfl⟩ ⟨rfl, rfl⟩ (kk2 (k_P hi hc) (by decide)) (c_next _ (i := i) (c := c) hi hc (Option.some.inj e1)) ?_
    refine xe_sn pg_55 1 (fr' := (49, [(3, .int (if (S.2.1 κ 7) < 1 then (0 : Int32) else (if 4 < (S.2.1 κ 7) then (0 : Int32) else (if (S.2.1 κ 7) = (nI (i + 1)) then (0 : Int32) else (if (S.2.1 κ 7) = (S.1 181 (4 * i + c)) then (0 : Int32) else 1))))), (2, .int (S.2.1 κ 7)), (0, .ref (ja_P i c)), (1, .ref (ja_L κ))], [.int (-1), .int r1])) rfl ?_
    by_cases h6 : r1 = (-1)
    · rw [if_pos h6] at hE
      refine xe_c2t pg_55 54 rfl rfl h6 ?_
      refine xe_sn pg_55 1 (fr' := (55, [(3, .int (if (S.2.1 κ 7) < 1 then (0 : Int32) else (if 4 < (S.2.1 κ 7) then (0 : Int32) else (if (S.2.1 κ 7) = (nI (i + 1)) then (0 : Int32) else (if (S.2.1 κ 7) = (S.1 181 (4 * i + c)) then (0 : Int32) else 1))))), (2, .int (S.2.1 κ 7)), (0, .ref (ja_P i c)), (1, .ref (ja_L κ))], [.ref (ja_P i c)])) rfl ?_
      refine xe_gr pg_55 1 rfl rfl rfl (kk1 (k_P hi hc)) (r_P9 hi hc _) ?_
      refine xe_sn pg_55 1 (fr' := (59, [(3, .int (if (S.2.1 κ 7) < 1 then (0 : Int32) else (if 4 < (S.2.1 κ 7) then (0 : Int32) else (if (S.2.1 κ 7) = (nI (i + 1)) then (0 : Int32) else (if (S.2.1 κ 7) = (S.1 181 (4 * i + c)) then (0 : Int32) else 1))))), (2, .int (S.2.1 κ 7)), (0, .ref (ja_P i c)), (1, .ref (ja_L κ))], [.ref (ja_P i c), .ref 1])) rfl ?_
      refine ye_gi pg_55 (nI (i + 1)) rfl rfl rfl (kk1 (k_P hi hc)) (c_P7 hi hc _) ?_
      refine xe_sn pg_55 2 (fr' := (64, [(3, .int (if (S.2.1 κ 7) < 1 then (0 : Int32) else (if 4 < (S.2.1 κ 7) then (0 : Int32) else (if (S.2.1 κ 7) = (nI (i + 1)) then (0 : Int32) else (if (S.2.1 κ 7) = (S.1 181 (4 * i + c)) then (0 : Int32) else 1))))), (2, .int (S.2.1 κ 7)), (0, .ref (ja_P i c)), (1, .ref (ja_L κ))], [.ref (ja_P i c), .int (S.2.1 κ 7), .int (nI (i + 1)), .ref 1])) rfl ?_
      refine ye_gi pg_55 (nI c) rfl rfl rfl (kk1 (k_P hi hc)) (c_P8 hi hc _) ?_
      refine xe_sn pg_55 1 (fr' := (68, [(3, .int (if (S.2.1 κ 7) < 1 then (0 : Int32) else (if 4 < (S.2.1 κ 7) then (0 : Int32) else (if (S.2.1 κ 7) = (nI (i + 1)) then (0 : Int32) else (if (S.2.1 κ 7) = (S.1 181 (4 * i + c)) then (0 : Int32) else 1))))), (2, .int (S.2.1 κ 7)), (0, .ref (ja_P i c)), (1, .ref (ja_L κ))], [.int 1, .int (nI c), .int (S.2.1 κ 7), .int (nI (i + 1)), .ref 1])) rfl ?_
      obtain ⟨r2, e2, hE⟩ := Option.bind_eq_some_iff.mp hE
      refine xe_cv pg_55 68 pg_68 [.int (nI (i + 1)), .int (S.2.1 κ 7), .int (nI c), .int 1] [] (some (.ref (ja_L r2.1))) rfl rfl rfl rfl ⟨Nat.le_of_ble_eq_true rfl, Nat.le_of_ble_eq_true rfl, Nat.le_of_ble_eq_true rfl⟩ ⟨rfl, rfl⟩ (kk2 k_W (by decide)) (c_add _ (a := (nI (i + 1))) (b := (S.2.1 κ 7)) (c := (nI c)) (e := 1)  e2) ?_
      refine xe_sn pg_55 3 (fr' := (75, [(3, .int (if (S.2.1 κ 7) < 1 then (0 : Int32) else (if 4 < (S.2.1 κ 7) then (0 : Int32) else (if (S.2.1 κ 7) = (nI (i + 1)) then (0 : Int32) else (if (S.2.1 κ 7) = (S.1 181 (4 * i + c)) then (0 : Int32) else 1))))), (2, .int (S.2.1 κ 7)), (0, .ref (ja_P i c)), (1, .ref (ja_L κ))], [.int 8, .ref (ja_L κ), .int 0, .ref (ja_L r2.1)])) rfl ?_
      obtain ⟨r3, e3, hE⟩ := Option.bind_eq_some_iff.mp hE
      refine xe_cv pg_55 9 pg_9 [.int 8] [.int 0, .ref (ja_L r2.1)] (some (.int r3)) rfl rfl rfl rfl ⟨Nat.le_of_ble_eq_true rfl, Nat.le_of_ble_eq_true rfl, Nat.le_of_ble_eq_true rfl⟩ ⟨rfl, rfl⟩ (kk2 (k_L hκ) (by decide)) (c_pair _ (κ := κ) (k := 8) hκ (by omega) (Option.some.inj e3)) ?_
      obtain ⟨r4, e4, hE⟩ := Option.bind_eq_some_iff.mp hE
      refine xe_cv pg_55 10 pg_10 [.int 0, .int r3] [] (none) rfl rfl rfl rfl ⟨Nat.le_of_ble_eq_true rfl, Nat.le_of_ble_eq_true rfl, Nat.le_of_ble_eq_true rfl⟩ ⟨rfl, rfl⟩ (kk2 (k_L (t_add e2)) (by decide)) (c_putPair _ (κ := r2.1) (k := 0) (v := r3) (t_add e2) (by omega) (Option.some.inj e4)) ?_
      refine xe_sn pg_55 2 (fr' := (83, [(3, .int (if (S.2.1 κ 7) < 1 then (0 : Int32) else (if 4 < (S.2.1 κ 7) then (0 : Int32) else (if (S.2.1 κ 7) = (nI (i + 1)) then (0 : Int32) else (if (S.2.1 κ 7) = (S.1 181 (4 * i + c)) then (0 : Int32) else 1))))), (2, .int (S.2.1 κ 7)), (0, .ref (ja_P i c)), (1, .ref (ja_L κ))], [.int (S.2.1 κ 7), .ref (ja_P i c)])) rfl ?_
      refine ye_px pg_55 rfl rfl ⟨rfl, rfl⟩ (Or.inl rfl) (kk1 (k_P hi hc)) (show lx _ 5 183 _ from lx_ix (4 * i + c) (l_P hi hc (by decide) (by decide)) (by omega)) ?_
      refine xe_sn pg_55 1 (fr' := (87, [(3, .int (if (S.2.1 κ 7) < 1 then (0 : Int32) else (if 4 < (S.2.1 κ 7) then (0 : Int32) else (if (S.2.1 κ 7) = (nI (i + 1)) then (0 : Int32) else (if (S.2.1 κ 7) = (S.1 181 (4 * i + c)) then (0 : Int32) else 1))))), (2, .int (S.2.1 κ 7)), (0, .ref (ja_P i c)), (1, .ref (ja_L κ))], [.int 1])) rfl ?_
      cases hE
      exact xe_end pg_55 rfl
    · rw [if_neg h6] at hE
      refine xe_c2f pg_55 54 rfl rfl h6 ?_
      refine xe_sn pg_55 1 (fr' := (53, [(3, .int (if (S.2.1 κ 7) < 1 then (0 : Int32) else (if 4 < (S.2.1 κ 7) then (0 : Int32) else (if (S.2.1 κ 7) = (nI (i + 1)) then (0 : Int32) else (if (S.2.1 κ 7) = (S.1 181 (4 * i + c)) then (0 : Int32) else 1))))), (2, .int (S.2.1 κ 7)), (0, .ref (ja_P i c)), (1, .ref (ja_L κ))], [.int 0])) rfl ?_
      cases hE
      exact xe_end pg_55 rfl
theorem b_followsExtend {S : xSt} {i : Nat} {c : Nat} {κ : Nat} {r : Int32 × xSt} (hE : (f_followsExtend S i c κ) = some r) : r.1 = 0 ∨ r.1 = 1 := by
  unfold f_followsExtend at hE
  by_cases h5 : (if (S.2.1 κ 7) < 1 then (0 : Int32) else (if 4 < (S.2.1 κ 7) then (0 : Int32) else (if (S.2.1 κ 7) = (nI (i + 1)) then (0 : Int32) else (if (S.2.1 κ 7) = (S.1 181 (4 * i + c)) then (0 : Int32) else 1)))) = 0
  · rw [if_pos h5] at hE
    cases hE
    exact Or.inl rfl
  · rw [if_neg h5] at hE
    obtain ⟨r1, e1, hE⟩ := Option.bind_eq_some_iff.mp hE
    by_cases h6 : r1 = (-1)
    · rw [if_pos h6] at hE
      obtain ⟨r2, e2, hE⟩ := Option.bind_eq_some_iff.mp hE
      obtain ⟨r3, e3, hE⟩ := Option.bind_eq_some_iff.mp hE
      obtain ⟨r4, e4, hE⟩ := Option.bind_eq_some_iff.mp hE
      cases hE
      exact Or.inr rfl
    · rw [if_neg h6] at hE
      cases hE
      exact Or.inl rfl

