def g_isOn (V : xVt) (c : Nat) : Int32 := (if (V.1 167 c) = 1 then (1 : Int32) else (if (V.1 167 c) = 2 then (1 : Int32) else 0))
set_option maxRecDepth 100000 in
theorem cg_isOn (d : Nat) {w : xWd} {S : xSt} {V : xVt} {ρ : Nat → Nat → Int64} {c : Nat} (hc : c < 4) {r : Int32} (hE : (g_isOn V c) = r) : xc (d) 145 [.ref 165, .int (nI c)] (hv w S V ρ) (.inl (some (.int r)), hv w S V ρ) := by
  unfold g_isOn at hE
  refine xe_sn pg_145 3 (fr' := (5, [(0, .ref 165), (1, .int (nI c))], [.int (nI c), .ref 167])) rfl ?_
  refine ze_il pg_145 c (V.1 167 c) rfl ⟨by decide, by decide⟩ rfl (bn (by omega) (by decide)) (bc (n := 4) (by omega) (by decide)) rfl ?_
  refine xe_sn pg_145 1 (fr' := (7, [(0, .ref 165), (1, .int (nI c))], [.int 1, .int (V.1 167 c)])) rfl ?_
  refine xe_jn (fr' := (25, [(0, .ref 165), (1, .int (nI c))], [.int (if (V.1 167 c) = 1 then (1 : Int32) else (if (V.1 167 c) = 2 then (1 : Int32) else 0))])) (fun J1 => ?_) ?_
  · by_cases h1 : (V.1 167 c) = 1
    · rw [show (if (V.1 167 c) = 1 then (1 : Int32) else (if (V.1 167 c) = 2 then (1 : Int32) else 0)) = 1 from if_pos h1] at J1
      refine xe_c2t pg_145 20 rfl rfl h1 ?_
      refine xe_sn pg_145 2 (fr' := (25, [(0, .ref 165), (1, .int (nI c))], [.int 1])) rfl ?_
      exact J1
    · rw [show (if (V.1 167 c) = 1 then (1 : Int32) else (if (V.1 167 c) = 2 then (1 : Int32) else 0)) = (if (V.1 167 c) = 2 then (1 : Int32) else 0) from if_neg h1] at J1
      refine xe_c2f pg_145 20 rfl rfl h1 ?_
      refine xe_sn pg_145 3 (fr' := (15, [(0, .ref 165), (1, .int (nI c))], [.int (nI c), .ref 167])) rfl ?_
      refine ze_il pg_145 c (V.1 167 c) rfl ⟨by decide, by decide⟩ rfl (bn (by omega) (by decide)) (bc (n := 4) (by omega) (by decide)) rfl ?_
      refine xe_sn pg_145 1 (fr' := (17, [(0, .ref 165), (1, .int (nI c))], [.int 2, .int (V.1 167 c)])) rfl ?_
      refine xe_jn (fr' := (25, [(0, .ref 165), (1, .int (nI c))], [.int (if (V.1 167 c) = 2 then (1 : Int32) else 0)])) (fun J2 => ?_) ?_
      · by_cases h2 : (V.1 167 c) = 2
        · rw [show (if (V.1 167 c) = 2 then (1 : Int32) else 0) = 1 from if_pos h2] at J2
          refine xe_c2f pg_145 24 rfl rfl (fun z => z h2) ?_
          refine xe_sn pg_145 2 (fr' := (25, [(0, .ref 165), (1, .int (nI c))], [.int 1])) rfl ?_
          exact J2
        · rw [show (if (V.1 167 c) = 2 then (1 : Int32) else 0) = 0 from if_neg h2] at J2
          refine xe_c2t pg_145 24 rfl rfl h2 ?_
          refine xe_sn pg_145 1 (fr' := (25, [(0, .ref 165), (1, .int (nI c))], [.int 0])) rfl ?_
          exact J2
      exact J1
  subst hE
  exact xe_rb pg_145 rfl rfl (ite_b (Or.inr rfl) (ite_b (Or.inr rfl) (Or.inl rfl)))
theorem bg_isOn {V : xVt} {c : Nat} {r : Int32} (hE : (g_isOn V c) = r) : r = 0 ∨ r = 1 := by
  unfold g_isOn at hE
  subst hE
  exact (ite_b (Or.inr rfl) (ite_b (Or.inr rfl) (Or.inl rfl)))

def g_ended (V : xVt) (c : Nat) : Option xVt := (some (dropX (vx (vx V 167 c 3) 171 c (-1)).1 c 0, (vx (vx V 167 c 3) 171 c (-1)).2)).bind fun r1 => some r1
set_option maxRecDepth 100000 in
theorem cg_ended (d : Nat) {w : xWd} {S : xSt} {V : xVt} {ρ : Nat → Nat → Int64} {c : Nat} (hc : c < 4) {r : xVt} (hE : (g_ended V c) = some r) : xc (d + 1) 121 [.ref 165, .int (nI c)] (hv w S V ρ) (.inl (none), hv w S r ρ) := by
  unfold g_ended at hE
  refine xe_sn pg_121 4 (fr' := (6, [(0, .ref 165), (1, .int (nI c))], [.int 3, .int (nI c), .ref 167])) rfl ?_
  refine ze_isx pg_121 c rfl ⟨by decide, by decide⟩ rfl (bn (by omega) (by decide)) (bc (n := 4) (by omega) (by decide)) (by decide) ?_
  refine xe_sn pg_121 4 (fr' := (13, [(0, .ref 165), (1, .int (nI c))], [.int (-1), .int (nI c), .ref 171])) rfl ?_
  refine ze_isx pg_121 c rfl ⟨by decide, by decide⟩ rfl (bn (by omega) (by decide)) (bc (n := 4) (by omega) (by decide)) (by decide) ?_
  refine xe_sn pg_121 3 (fr' := (17, [(0, .ref 165), (1, .int (nI c))], [.int 0, .int (nI c), .ref 165])) rfl ?_
  obtain ⟨r1, e1, hE⟩ := Option.bind_eq_some_iff.mp hE
  have e1q := Option.some.inj e1
  refine xe_cv pg_121 120 pg_120 [.int (nI c), .int 0] [] (none) rfl rfl rfl rfl ⟨Nat.le_of_ble_eq_true rfl, Nat.le_of_ble_eq_true rfl, Nat.le_of_ble_eq_true rfl⟩ ⟨rfl, rfl⟩ ⟨by decide, rfl, by decide⟩ (e1q ▸ cg_drop _ (c := c) (hop := 0) (by omega)) ?_
  cases hE
  exact xe_end pg_121 rfl

def g_closeNow (V : xVt) (c : Nat) : Option xVt := (g_destroy V 0 (if (V.1 168 c) ≤ 0 then (V.1 171 c) else (V.1 169 (3 * c))) (nI c)).bind fun r1 => (g_ended r1 c).bind fun r2 => some r2
set_option maxRecDepth 100000 in
theorem cg_closeNow (d : Nat) {w : xWd} {S : xSt} {V : xVt} {ρ : Nat → Nat → Int64} {c : Nat} (hc : c < 4) {r : xVt} (hE : (g_closeNow V c) = some r) : xc (d + 2) 122 [.ref 165, .int (nI c)] (hv w S V ρ) (.inl (none), hv w S r ρ) := by
  unfold g_closeNow at hE
  refine xe_sn pg_122 3 (fr' := (5, [(0, .ref 165), (1, .int (nI c))], [.int (nI c), .ref 168])) rfl ?_
  refine ze_il pg_122 c (V.1 168 c) rfl ⟨by decide, by decide⟩ rfl (bn (by omega) (by decide)) (bc (n := 4) (by omega) (by decide)) rfl ?_
  refine xe_jn (fr' := (26, [(0, .ref 165), (1, .int (nI c))], [.int (if (V.1 168 c) ≤ 0 then (V.1 171 c) else (V.1 169 (3 * c)))])) (fun J1 => ?_) ?_
  · by_cases h1 : (V.1 168 c) ≤ 0
    · rw [show (if (V.1 168 c) ≤ 0 then (V.1 171 c) else (V.1 169 (3 * c))) = (V.1 171 c) from if_pos h1] at J1
      refine xe_c1t pg_122 20 rfl rfl h1 ?_
      refine xe_sn pg_122 3 (fr' := (25, [(0, .ref 165), (1, .int (nI c))], [.int (nI c), .ref 171])) rfl ?_
      refine ze_il pg_122 c (V.1 171 c) rfl ⟨by decide, by decide⟩ rfl (bn (by omega) (by decide)) (bc (n := 4) (by omega) (by decide)) rfl ?_
      exact J1
    · rw [show (if (V.1 168 c) ≤ 0 then (V.1 171 c) else (V.1 169 (3 * c))) = (V.1 169 (3 * c)) from if_neg h1] at J1
      refine xe_c1f pg_122 20 rfl rfl h1 ?_
      refine xe_sn pg_122 4 (fr' := (15, [(0, .ref 165), (1, .int (nI c))], [.int (nI c), .int 3, .ref 169])) rfl ?_
      refine xe_nm pg_122 3 c (3 * c) rfl (by omega) ?_
      refine ze_il pg_122 (3 * c) (V.1 169 (3 * c)) rfl ⟨by decide, by decide⟩ rfl (bn (by omega) (by decide)) (bc (n := 12) (by omega) (by decide)) rfl ?_
      refine xe_sn pg_122 1 (fr' := (26, [(0, .ref 165), (1, .int (nI c))], [.int (V.1 169 (3 * c))])) rfl ?_
      exact J1
  refine xe_sn pg_122 5 (fr' := (31, [(2, .int (if (V.1 168 c) ≤ 0 then (V.1 171 c) else (V.1 169 (3 * c)))), (0, .ref 165), (1, .int (nI c))], [.int (nI c), .int (if (V.1 168 c) ≤ 0 then (V.1 171 c) else (V.1 169 (3 * c))), .int 0, .ref 165])) rfl ?_
  obtain ⟨r1, e1, hE⟩ := Option.bind_eq_some_iff.mp hE
  refine xe_cv pg_122 118 pg_118 [.int 0, .int (if (V.1 168 c) ≤ 0 then (V.1 171 c) else (V.1 169 (3 * c))), .int (nI c)] [] (none) rfl rfl rfl rfl ⟨Nat.le_of_ble_eq_true rfl, Nat.le_of_ble_eq_true rfl, Nat.le_of_ble_eq_true rfl⟩ ⟨rfl, rfl⟩ ⟨by decide, rfl, by decide⟩ (cg_destroy _ (f := 0) (t := (if (V.1 168 c) ≤ 0 then (V.1 171 c) else (V.1 169 (3 * c)))) (c := (nI c))  e1) ?_
  refine xe_sn pg_122 2 (fr' := (36, [(2, .int (if (V.1 168 c) ≤ 0 then (V.1 171 c) else (V.1 169 (3 * c)))), (0, .ref 165), (1, .int (nI c))], [.int (nI c), .ref 165])) rfl ?_
  obtain ⟨r2, e2, hE⟩ := Option.bind_eq_some_iff.mp hE
  refine xe_cv pg_122 121 pg_121 [.int (nI c)] [] (none) rfl rfl rfl rfl ⟨Nat.le_of_ble_eq_true rfl, Nat.le_of_ble_eq_true rfl, Nat.le_of_ble_eq_true rfl⟩ ⟨rfl, rfl⟩ ⟨by decide, rfl, by decide⟩ (cg_ended _ (c := c) (by omega) e2) ?_
  cases hE
  exact xe_end pg_122 rfl

def g_clientSends (V : xVt) (c : Nat) (k : Int32) : Option xVt := if k = 0 then ((g_seal V (V.1 170 (12 * c + 2))).bind fun r1 => (some (vbs (vx r1.2 170 (12 * c + 2) r1.1) (wrapB (vx r1.2 170 (12 * c + 2) r1.1).2.2.2 ((vx r1.2 170 (12 * c + 2) r1.1).1 170 (12 * c)) 14))).bind fun r2 => (g_ship (vx r2 170 (12 * c) (ks ((vx r1.2 170 (12 * c + 2) r1.1).1 170 (12 * c)) 14)) 0 (r2.1 169 (3 * c)) (nI c) 3 0).bind fun r3 => some r3) else (if k = 1 then ((g_seal V (V.1 170 (12 * c + 6))).bind fun r4 => (some (vbs (vx r4.2 170 (12 * c + 6) r4.1) (wrapB (vx r4.2 170 (12 * c + 6) r4.1).2.2.2 ((vx r4.2 170 (12 * c + 6) r4.1).1 170 (12 * c + 4)) 14))).bind fun r5 => (some (vbs (vx r5 170 (12 * c + 4) (ks ((vx r4.2 170 (12 * c + 6) r4.1).1 170 (12 * c + 4)) 14)) (wrapB (vx r5 170 (12 * c + 4) (ks ((vx r4.2 170 (12 * c + 6) r4.1).1 170 (12 * c + 4)) 14)).2.2.2 ((vx r5 170 (12 * c + 4) (ks ((vx r4.2 170 (12 * c + 6) r4.1).1 170 (12 * c + 4)) 14)).1 170 (12 * c)) 14))).bind fun r6 => (g_ship (vx r6 170 (12 * c) (ks ((vx r5 170 (12 * c + 4) (ks ((vx r4.2 170 (12 * c + 6) r4.1).1 170 (12 * c + 4)) 14)).1 170 (12 * c)) 14)) 0 (r6.1 169 (3 * c)) (nI c) 3 1).bind fun r7 => some r7) else (if k = 2 then ((g_seal V (V.1 170 (12 * c + 10))).bind fun r8 => (some (vbs (vx r8.2 170 (12 * c + 10) r8.1) (wrapB (vx r8.2 170 (12 * c + 10) r8.1).2.2.2 ((vx r8.2 170 (12 * c + 10) r8.1).1 170 (12 * c + 8)) 14))).bind fun r9 => (some (vbs (vx r9 170 (12 * c + 8) (ks ((vx r8.2 170 (12 * c + 10) r8.1).1 170 (12 * c + 8)) 14)) (wrapB (vx r9 170 (12 * c + 8) (ks ((vx r8.2 170 (12 * c + 10) r8.1).1 170 (12 * c + 8)) 14)).2.2.2 ((vx r9 170 (12 * c + 8) (ks ((vx r8.2 170 (12 * c + 10) r8.1).1 170 (12 * c + 8)) 14)).1 170 (12 * c + 4)) 14))).bind fun r10 => (some (vbs (vx r10 170 (12 * c + 4) (ks ((vx r9 170 (12 * c + 8) (ks ((vx r8.2 170 (12 * c + 10) r8.1).1 170 (12 * c + 8)) 14)).1 170 (12 * c + 4)) 14)) (wrapB (vx r10 170 (12 * c + 4) (ks ((vx r9 170 (12 * c + 8) (ks ((vx r8.2 170 (12 * c + 10) r8.1).1 170 (12 * c + 8)) 14)).1 170 (12 * c + 4)) 14)).2.2.2 ((vx r10 170 (12 * c + 4) (ks ((vx r9 170 (12 * c + 8) (ks ((vx r8.2 170 (12 * c + 10) r8.1).1 170 (12 * c + 8)) 14)).1 170 (12 * c + 4)) 14)).1 170 (12 * c)) 14))).bind fun r11 => (g_ship (vx r11 170 (12 * c) (ks ((vx r10 170 (12 * c + 4) (ks ((vx r9 170 (12 * c + 8) (ks ((vx r8.2 170 (12 * c + 10) r8.1).1 170 (12 * c + 8)) 14)).1 170 (12 * c + 4)) 14)).1 170 (12 * c)) 14)) 0 (r11.1 169 (3 * c)) (nI c) 3 2).bind fun r12 => some r12) else none))
set_option maxRecDepth 100000 in
theorem cg_clientSends (d : Nat) {w : xWd} {S : xSt} {V : xVt} {ρ : Nat → Nat → Int64} {c : Nat} {k : Int32} (hc : c < 4) {r : xVt} (hE : (g_clientSends V c k) = some r) : xc (d + 3) 123 [.ref 165, .int (nI c), .int k] (hv w S V ρ) (.inl (none), hv w S r ρ) := by
  unfold g_clientSends at hE
  by_cases h1 : k = 0
  · rw [if_pos h1] at hE
    subst h1
    refine xe_sn pg_123 2 (fr' := (3, [(0, .ref 165), (1, .int (nI c)), (2, .int 0)], [.int (nI c), .int 12])) rfl ?_
    refine xe_nm pg_123 12 c (12 * c) rfl (by omega) ?_
    refine xe_sn pg_123 3 (fr' := (7, [(0, .ref 165), (1, .int (nI c)), (2, .int 0)], [.int 0, .int (nI (12 * c))])) rfl ?_
    refine xe_na pg_123 (12 * c) 0 (12 * c) rfl (by omega) ?_
    refine xe_sn pg_123 5 (fr' := (15, [(3, .int (nI (12 * c))), (0, .ref 165), (1, .int (nI c)), (2, .int 0)], [.int 2, .int (nI (12 * c)), .ref 170])) rfl ?_
    refine xe_na pg_123 (12 * c) 2 (12 * c + 2) rfl (by omega) ?_
    refine xe_sn pg_123 5 (fr' := (23, [(3, .int (nI (12 * c))), (0, .ref 165), (1, .int (nI c)), (2, .int 0)], [.int 2, .int (nI (12 * c)), .ref 170, .ref 165, .int (nI (12 * c + 2)), .ref 170])) rfl ?_
    refine xe_na pg_123 (12 * c) 2 (12 * c + 2) rfl (by omega) ?_
    refine ze_il pg_123 (12 * c + 2) (V.1 170 (12 * c + 2)) rfl ⟨by decide, by decide⟩ rfl (bn (by omega) (by decide)) (bc (n := 48) (by omega) (by decide)) rfl ?_
    obtain ⟨r1, e1, hE⟩ := Option.bind_eq_some_iff.mp hE
    refine xe_cv pg_123 115 pg_115 [.int (V.1 170 (12 * c + 2))] [.int (nI (12 * c + 2)), .ref 170] (some (.int r1.1)) rfl rfl rfl rfl ⟨Nat.le_of_ble_eq_true rfl, Nat.le_of_ble_eq_true rfl, Nat.le_of_ble_eq_true rfl⟩ ⟨rfl, rfl⟩ ⟨by decide, rfl, by decide⟩ (cg_seal _ (key := (V.1 170 (12 * c + 2)))  e1) ?_
    refine ze_isx pg_123 (12 * c + 2) rfl ⟨by decide, by decide⟩ rfl (bn (by omega) (by decide)) (bc (n := 48) (by omega) (by decide)) (by decide) ?_
    refine xe_sn pg_123 8 (fr' := (44, [(4, .int 0), (3, .int (nI (12 * c))), (0, .ref 165), (1, .int (nI c)), (2, .int 0)], [.int (nI c), .int 12, .ref 170])) rfl ?_
    refine xe_nm pg_123 12 c (12 * c) rfl (by omega) ?_
    refine xe_sn pg_123 3 (fr' := (49, [(4, .int 0), (3, .int (nI (12 * c))), (0, .ref 165), (1, .int (nI c)), (2, .int 0)], [.int 0, .int (nI (12 * c)), .ref 170])) rfl ?_
    refine xe_na pg_123 (12 * c) 0 (12 * c) rfl (by omega) ?_
    refine xe_sn pg_123 5 (fr' := (58, [(4, .int 0), (3, .int (nI (12 * c))), (0, .ref 165), (1, .int (nI c)), (2, .int 0)], [.int (nI c), .int 12, .ref 170, .ref 165, .int (nI (12 * c)), .ref 170])) rfl ?_
    refine xe_nm pg_123 12 c (12 * c) rfl (by omega) ?_
    refine xe_sn pg_123 3 (fr' := (63, [(4, .int 0), (3, .int (nI (12 * c))), (0, .ref 165), (1, .int (nI c)), (2, .int 0)], [.int 0, .int (nI (12 * c)), .ref 170, .ref 165, .int (nI (12 * c)), .ref 170])) rfl ?_
    refine xe_na pg_123 (12 * c) 0 (12 * c) rfl (by omega) ?_
    refine ze_il pg_123 (12 * c) ((vx r1.2 170 (12 * c + 2) r1.1).1 170 (12 * c)) rfl ⟨by decide, by decide⟩ rfl (bn (by omega) (by decide)) (bc (n := 48) (by omega) (by decide)) rfl ?_
    obtain ⟨r2, e2, hE⟩ := Option.bind_eq_some_iff.mp hE
    have e2q := Option.some.inj e2
    refine xe_cv pg_123 109 pg_109 [.int ((vx r1.2 170 (12 * c + 2) r1.1).1 170 (12 * c))] [.int (nI (12 * c)), .ref 170] (some (.int (ks ((vx r1.2 170 (12 * c + 2) r1.1).1 170 (12 * c)) 14))) rfl rfl rfl rfl ⟨Nat.le_of_ble_eq_true rfl, Nat.le_of_ble_eq_true rfl, Nat.le_of_ble_eq_true rfl⟩ ⟨rfl, rfl⟩ ⟨by decide, rfl, by decide⟩ (e2q ▸ cg_wrap _ (key := ((vx r1.2 170 (12 * c + 2) r1.1).1 170 (12 * c))) ) ?_
    refine ze_isx pg_123 (12 * c) rfl ⟨by decide, by decide⟩ rfl (bn (by omega) (by decide)) (bc (n := 48) (by omega) (by decide)) (by decide) ?_
    refine xe_sn pg_123 2 (fr' := (32, [(4, .int (-1)), (3, .int (nI (12 * c))), (0, .ref 165), (1, .int (nI c)), (2, .int 0)], [])) rfl ?_
    refine xe_sn pg_123 8 (fr' := (83, [(4, .int (-1)), (3, .int (nI (12 * c))), (0, .ref 165), (1, .int (nI c)), (2, .int 0)], [.int (nI c), .int 3, .ref 169, .int 0, .ref 165])) rfl ?_
    refine xe_nm pg_123 3 c (3 * c) rfl (by omega) ?_
    refine ze_il pg_123 (3 * c) (r2.1 169 (3 * c)) rfl ⟨by decide, by decide⟩ rfl (bn (by omega) (by decide)) (bc (n := 12) (by omega) (by decide)) rfl ?_
    refine xe_sn pg_123 3 (fr' := (88, [(4, .int (-1)), (3, .int (nI (12 * c))), (0, .ref 165), (1, .int (nI c)), (2, .int 0)], [.int 0, .int 3, .int (nI c), .int (r2.1 169 (3 * c)), .int 0, .ref 165])) rfl ?_
    obtain ⟨r3, e3, hE⟩ := Option.bind_eq_some_iff.mp hE
    refine xe_cv pg_123 117 pg_117 [.int 0, .int (r2.1 169 (3 * c)), .int (nI c), .int 3, .int 0] [] (none) rfl rfl rfl rfl ⟨Nat.le_of_ble_eq_true rfl, Nat.le_of_ble_eq_true rfl, Nat.le_of_ble_eq_true rfl⟩ ⟨rfl, rfl⟩ ⟨by decide, rfl, by decide⟩ (cg_ship _ (a := 0) (b := (r2.1 169 (3 * c))) (c := (nI c)) (e := 3) (g := 0)  e3) ?_
    cases hE
    exact xe_end pg_123 rfl
  · rw [if_neg h1] at hE
    by_cases h2 : k = 1
    · rw [if_pos h2] at hE
      subst h2
      refine xe_sn pg_123 2 (fr' := (3, [(0, .ref 165), (1, .int (nI c)), (2, .int 1)], [.int (nI c), .int 12])) rfl ?_
      refine xe_nm pg_123 12 c (12 * c) rfl (by omega) ?_
      refine xe_sn pg_123 3 (fr' := (7, [(0, .ref 165), (1, .int (nI c)), (2, .int 1)], [.int 4, .int (nI (12 * c))])) rfl ?_
      refine xe_na pg_123 (12 * c) 4 (12 * c + 4) rfl (by omega) ?_
      refine xe_sn pg_123 5 (fr' := (15, [(3, .int (nI (12 * c + 4))), (0, .ref 165), (1, .int (nI c)), (2, .int 1)], [.int 2, .int (nI (12 * c + 4)), .ref 170])) rfl ?_
      refine xe_na pg_123 (12 * c + 4) 2 (12 * c + 6) rfl (by omega) ?_
      refine xe_sn pg_123 5 (fr' := (23, [(3, .int (nI (12 * c + 4))), (0, .ref 165), (1, .int (nI c)), (2, .int 1)], [.int 2, .int (nI (12 * c + 4)), .ref 170, .ref 165, .int (nI (12 * c + 6)), .ref 170])) rfl ?_
      refine xe_na pg_123 (12 * c + 4) 2 (12 * c + 6) rfl (by omega) ?_
      refine ze_il pg_123 (12 * c + 6) (V.1 170 (12 * c + 6)) rfl ⟨by decide, by decide⟩ rfl (bn (by omega) (by decide)) (bc (n := 48) (by omega) (by decide)) rfl ?_
      obtain ⟨r4, e4, hE⟩ := Option.bind_eq_some_iff.mp hE
      refine xe_cv pg_123 115 pg_115 [.int (V.1 170 (12 * c + 6))] [.int (nI (12 * c + 6)), .ref 170] (some (.int r4.1)) rfl rfl rfl rfl ⟨Nat.le_of_ble_eq_true rfl, Nat.le_of_ble_eq_true rfl, Nat.le_of_ble_eq_true rfl⟩ ⟨rfl, rfl⟩ ⟨by decide, rfl, by decide⟩ (cg_seal _ (key := (V.1 170 (12 * c + 6)))  e4) ?_
      refine ze_isx pg_123 (12 * c + 6) rfl ⟨by decide, by decide⟩ rfl (bn (by omega) (by decide)) (bc (n := 48) (by omega) (by decide)) (by decide) ?_
      refine xe_sn pg_123 8 (fr' := (44, [(4, .int 1), (3, .int (nI (12 * c + 4))), (0, .ref 165), (1, .int (nI c)), (2, .int 1)], [.int (nI c), .int 12, .ref 170])) rfl ?_
      refine xe_nm pg_123 12 c (12 * c) rfl (by omega) ?_
      refine xe_sn pg_123 3 (fr' := (49, [(4, .int 1), (3, .int (nI (12 * c + 4))), (0, .ref 165), (1, .int (nI c)), (2, .int 1)], [.int 4, .int (nI (12 * c)), .ref 170])) rfl ?_
      refine xe_na pg_123 (12 * c) 4 (12 * c + 4) rfl (by omega) ?_
      refine xe_sn pg_123 5 (fr' := (58, [(4, .int 1), (3, .int (nI (12 * c + 4))), (0, .ref 165), (1, .int (nI c)), (2, .int 1)], [.int (nI c), .int 12, .ref 170, .ref 165, .int (nI (12 * c + 4)), .ref 170])) rfl ?_
      refine xe_nm pg_123 12 c (12 * c) rfl (by omega) ?_
      refine xe_sn pg_123 3 (fr' := (63, [(4, .int 1), (3, .int (nI (12 * c + 4))), (0, .ref 165), (1, .int (nI c)), (2, .int 1)], [.int 4, .int (nI (12 * c)), .ref 170, .ref 165, .int (nI (12 * c + 4)), .ref 170])) rfl ?_
      refine xe_na pg_123 (12 * c) 4 (12 * c + 4) rfl (by omega) ?_
      refine ze_il pg_123 (12 * c + 4) ((vx r4.2 170 (12 * c + 6) r4.1).1 170 (12 * c + 4)) rfl ⟨by decide, by decide⟩ rfl (bn (by omega) (by decide)) (bc (n := 48) (by omega) (by decide)) rfl ?_
      obtain ⟨r5, e5, hE⟩ := Option.bind_eq_some_iff.mp hE
      have e5q := Option.some.inj e5
      refine xe_cv pg_123 109 pg_109 [.int ((vx r4.2 170 (12 * c + 6) r4.1).1 170 (12 * c + 4))] [.int (nI (12 * c + 4)), .ref 170] (some (.int (ks ((vx r4.2 170 (12 * c + 6) r4.1).1 170 (12 * c + 4)) 14))) rfl rfl rfl rfl ⟨Nat.le_of_ble_eq_true rfl, Nat.le_of_ble_eq_true rfl, Nat.le_of_ble_eq_true rfl⟩ ⟨rfl, rfl⟩ ⟨by decide, rfl, by decide⟩ (e5q ▸ cg_wrap _ (key := ((vx r4.2 170 (12 * c + 6) r4.1).1 170 (12 * c + 4))) ) ?_
      refine ze_isx pg_123 (12 * c + 4) rfl ⟨by decide, by decide⟩ rfl (bn (by omega) (by decide)) (bc (n := 48) (by omega) (by decide)) (by decide) ?_
      refine xe_sn pg_123 2 (fr' := (32, [(4, .int 0), (3, .int (nI (12 * c + 4))), (0, .ref 165), (1, .int (nI c)), (2, .int 1)], [])) rfl ?_
      refine xe_sn pg_123 6 (fr' := (44, [(4, .int 0), (3, .int (nI (12 * c + 4))), (0, .ref 165), (1, .int (nI c)), (2, .int 1)], [.int (nI c), .int 12, .ref 170])) rfl ?_
      refine xe_nm pg_123 12 c (12 * c) rfl (by omega) ?_
      refine xe_sn pg_123 3 (fr' := (49, [(4, .int 0), (3, .int (nI (12 * c + 4))), (0, .ref 165), (1, .int (nI c)), (2, .int 1)], [.int 0, .int (nI (12 * c)), .ref 170])) rfl ?_
      refine xe_na pg_123 (12 * c) 0 (12 * c) rfl (by omega) ?_
      refine xe_sn pg_123 5 (fr' := (58, [(4, .int 0), (3, .int (nI (12 * c + 4))), (0, .ref 165), (1, .int (nI c)), (2, .int 1)], [.int (nI c), .int 12, .ref 170, .ref 165, .int (nI (12 * c)), .ref 170])) rfl ?_
      refine xe_nm pg_123 12 c (12 * c) rfl (by omega) ?_
      refine xe_sn pg_123 3 (fr' := (63, [(4, .int 0), (3, .int (nI (12 * c + 4))), (0, .ref 165), (1, .int (nI c)), (2, .int 1)], [.int 0, .int (nI (12 * c)), .ref 170, .ref 165, .int (nI (12 * c)), .ref 170])) rfl ?_
      refine xe_na pg_123 (12 * c) 0 (12 * c) rfl (by omega) ?_
      refine ze_il pg_123 (12 * c) ((vx r5 170 (12 * c + 4) (ks ((vx r4.2 170 (12 * c + 6) r4.1).1 170 (12 * c + 4)) 14)).1 170 (12 * c)) rfl ⟨by decide, by decide⟩ rfl (bn (by omega) (by decide)) (bc (n := 48) (by omega) (by decide)) rfl ?_
      obtain ⟨r6, e6, hE⟩ := Option.bind_eq_some_iff.mp hE
      have e6q := Option.some.inj e6
      refine xe_cv pg_123 109 pg_109 [.int ((vx r5 170 (12 * c + 4) (ks ((vx r4.2 170 (12 * c + 6) r4.1).1 170 (12 * c + 4)) 14)).1 170 (12 * c))] [.int (nI (12 * c)), .ref 170] (some (.int (ks ((vx r5 170 (12 * c + 4) (ks ((vx r4.2 170 (12 * c + 6) r4.1).1 170 (12 * c + 4)) 14)).1 170 (12 * c)) 14))) rfl rfl rfl rfl ⟨Nat.le_of_ble_eq_true rfl, Nat.le_of_ble_eq_true rfl, Nat.le_of_ble_eq_true rfl⟩ ⟨rfl, rfl⟩ ⟨by decide, rfl, by decide⟩ (e6q ▸ cg_wrap _ (key := ((vx r5 170 (12 * c + 4) (ks ((vx r4.2 170 (12 * c + 6) r4.1).1 170 (12 * c + 4)) 14)).1 170 (12 * c))) ) ?_
      refine ze_isx pg_123 (12 * c) rfl ⟨by decide, by decide⟩ rfl (bn (by omega) (by decide)) (bc (n := 48) (by omega) (by decide)) (by decide) ?_
      refine xe_sn pg_123 2 (fr' := (32, [(4, .int (-1)), (3, .int (nI (12 * c + 4))), (0, .ref 165), (1, .int (nI c)), (2, .int 1)], [])) rfl ?_
      refine xe_sn pg_123 8 (fr' := (83, [(4, .int (-1)), (3, .int (nI (12 * c + 4))), (0, .ref 165), (1, .int (nI c)), (2, .int 1)], [.int (nI c), .int 3, .ref 169, .int 0, .ref 165])) rfl ?_
      refine xe_nm pg_123 3 c (3 * c) rfl (by omega) ?_
      refine ze_il pg_123 (3 * c) (r6.1 169 (3 * c)) rfl ⟨by decide, by decide⟩ rfl (bn (by omega) (by decide)) (bc (n := 12) (by omega) (by decide)) rfl ?_
      refine xe_sn pg_123 3 (fr' := (88, [(4, .int (-1)), (3, .int (nI (12 * c + 4))), (0, .ref 165), (1, .int (nI c)), (2, .int 1)], [.int 1, .int 3, .int (nI c), .int (r6.1 169 (3 * c)), .int 0, .ref 165])) rfl ?_
      obtain ⟨r7, e7, hE⟩ := Option.bind_eq_some_iff.mp hE
      refine xe_cv pg_123 117 pg_117 [.int 0, .int (r6.1 169 (3 * c)), .int (nI c), .int 3, .int 1] [] (none) rfl rfl rfl rfl ⟨Nat.le_of_ble_eq_true rfl, Nat.le_of_ble_eq_true rfl, Nat.le_of_ble_eq_true rfl⟩ ⟨rfl, rfl⟩ ⟨by decide, rfl, by decide⟩ (cg_ship _ (a := 0) (b := (r6.1 169 (3 * c))) (c := (nI c)) (e := 3) (g := 1)  e7) ?_
      cases hE
      exact xe_end pg_123 rfl
    · rw [if_neg h2] at hE
      by_cases h3 : k = 2
      · rw [if_pos h3] at hE
        subst h3
        refine xe_sn pg_123 2 (fr' := (3, [(0, .ref 165), (1, .int (nI c)), (2, .int 2)], [.int (nI c), .int 12])) rfl ?_
        refine xe_nm pg_123 12 c (12 * c) rfl (by omega) ?_
        refine xe_sn pg_123 3 (fr' := (7, [(0, .ref 165), (1, .int (nI c)), (2, .int 2)], [.int 8, .int (nI (12 * c))])) rfl ?_
        refine xe_na pg_123 (12 * c) 8 (12 * c + 8) rfl (by omega) ?_
        refine xe_sn pg_123 5 (fr' := (15, [(3, .int (nI (12 * c + 8))), (0, .ref 165), (1, .int (nI c)), (2, .int 2)], [.int 2, .int (nI (12 * c + 8)), .ref 170])) rfl ?_
        refine xe_na pg_123 (12 * c + 8) 2 (12 * c + 10) rfl (by omega) ?_
        refine xe_sn pg_123 5 (fr' := (23, [(3, .int (nI (12 * c + 8))), (0, .ref 165), (1, .int (nI c)), (2, .int 2)], [.int 2, .int (nI (12 * c + 8)), .ref 170, .ref 165, .int (nI (12 * c + 10)), .ref 170])) rfl ?_
        refine xe_na pg_123 (12 * c + 8) 2 (12 * c + 10) rfl (by omega) ?_
        refine ze_il pg_123 (12 * c + 10) (V.1 170 (12 * c + 10)) rfl ⟨by decide, by decide⟩ rfl (bn (by omega) (by decide)) (bc (n := 48) (by omega) (by decide)) rfl ?_
        obtain ⟨r8, e8, hE⟩ := Option.bind_eq_some_iff.mp hE
        refine xe_cv pg_123 115 pg_115 [.int (V.1 170 (12 * c + 10))] [.int (nI (12 * c + 10)), .ref 170] (some (.int r8.1)) rfl rfl rfl rfl ⟨Nat.le_of_ble_eq_true rfl, Nat.le_of_ble_eq_true rfl, Nat.le_of_ble_eq_true rfl⟩ ⟨rfl, rfl⟩ ⟨by decide, rfl, by decide⟩ (cg_seal _ (key := (V.1 170 (12 * c + 10)))  e8) ?_
        refine ze_isx pg_123 (12 * c + 10) rfl ⟨by decide, by decide⟩ rfl (bn (by omega) (by decide)) (bc (n := 48) (by omega) (by decide)) (by decide) ?_
        refine xe_sn pg_123 8 (fr' := (44, [(4, .int 2), (3, .int (nI (12 * c + 8))), (0, .ref 165), (1, .int (nI c)), (2, .int 2)], [.int (nI c), .int 12, .ref 170])) rfl ?_
        refine xe_nm pg_123 12 c (12 * c) rfl (by omega) ?_
        refine xe_sn pg_123 3 (fr' := (49, [(4, .int 2), (3, .int (nI (12 * c + 8))), (0, .ref 165), (1, .int (nI c)), (2, .int 2)], [.int 8, .int (nI (12 * c)), .ref 170])) rfl ?_
        refine xe_na pg_123 (12 * c) 8 (12 * c + 8) rfl (by omega) ?_
        refine xe_sn pg_123 5 (fr' := (58, [(4, .int 2), (3, .int (nI (12 * c + 8))), (0, .ref 165), (1, .int (nI c)), (2, .int 2)], [.int (nI c), .int 12, .ref 170, .ref 165, .int (nI (12 * c + 8)), .ref 170])) rfl ?_
        refine xe_nm pg_123 12 c (12 * c) rfl (by omega) ?_
        refine xe_sn pg_123 3 (fr' := (63, [(4, .int 2), (3, .int (nI (12 * c + 8))), (0, .ref 165), (1, .int (nI c)), (2, .int 2)], [.int 8, .int (nI (12 * c)), .ref 170, .ref 165, .int (nI (12 * c + 8)), .ref 170])) rfl ?_
        refine xe_na pg_123 (12 * c) 8 (12 * c + 8) rfl (by omega) ?_
        refine ze_il pg_123 (12 * c + 8) ((vx r8.2 170 (12 * c + 10) r8.1).1 170 (12 * c + 8)) rfl ⟨by decide, by decide⟩ rfl (bn (by omega) (by decide)) (bc (n := 48) (by omega) (by decide)) rfl ?_
        obtain ⟨r9, e9, hE⟩ := Option.bind_eq_some_iff.mp hE
        have e9q := Option.some.inj e9
        refine xe_cv pg_123 109 pg_109 [.int ((vx r8.2 170 (12 * c + 10) r8.1).1 170 (12 * c + 8))] [.int (nI (12 * c + 8)), .ref 170] (some (.int (ks ((vx r8.2 170 (12 * c + 10) r8.1).1 170 (12 * c + 8)) 14))) rfl rfl rfl rfl ⟨Nat.le_of_ble_eq_true rfl, Nat.le_of_ble_eq_true rfl, Nat.le_of_ble_eq_true rfl⟩ ⟨rfl, rfl⟩ ⟨by decide, rfl, by decide⟩ (e9q ▸ cg_wrap _ (key := ((vx r8.2 170 (12 * c + 10) r8.1).1 170 (12 * c + 8))) ) ?_
        refine ze_isx pg_123 (12 * c + 8) rfl ⟨by decide, by decide⟩ rfl (bn (by omega) (by decide)) (bc (n := 48) (by omega) (by decide)) (by decide) ?_
        refine xe_sn pg_123 2 (fr' := (32, [(4, .int 1), (3, .int (nI (12 * c + 8))), (0, .ref 165), (1, .int (nI c)), (2, .int 2)], [])) rfl ?_
        refine xe_sn pg_123 6 (fr' := (44, [(4, .int 1), (3, .int (nI (12 * c + 8))), (0, .ref 165), (1, .int (nI c)), (2, .int 2)], [.int (nI c), .int 12, .ref 170])) rfl ?_
        refine xe_nm pg_123 12 c (12 * c) rfl (by omega) ?_
        refine xe_sn pg_123 3 (fr' := (49, [(4, .int 1), (3, .int (nI (12 * c + 8))), (0, .ref 165), (1, .int (nI c)), (2, .int 2)], [.int 4, .int (nI (12 * c)), .ref 170])) rfl ?_
        refine xe_na pg_123 (12 * c) 4 (12 * c + 4) rfl (by omega) ?_
        refine xe_sn pg_123 5 (fr' := (58, [(4, .int 1), (3, .int (nI (12 * c + 8))), (0, .ref 165), (1, .int (nI c)), (2, .int 2)], [.int (nI c), .int 12, .ref 170, .ref 165, .int (nI (12 * c + 4)), .ref 170])) rfl ?_
        refine xe_nm pg_123 12 c (12 * c) rfl (by omega) ?_
        refine xe_sn pg_123 3 (fr' := (63, [(4, .int 1), (3, .int (nI (12 * c + 8))), (0, .ref 165), (1, .int (nI c)), (2, .int 2)], [.int 4, .int (nI (12 * c)), .ref 170, .ref 165, .int (nI (12 * c + 4)), .ref 170])) rfl ?_
        refine xe_na pg_123 (12 * c) 4 (12 * c + 4) rfl (by omega) ?_
        refine ze_il pg_123 (12 * c + 4) ((vx r9 170 (12 * c + 8) (ks ((vx r8.2 170 (12 * c + 10) r8.1).1 170 (12 * c + 8)) 14)).1 170 (12 * c + 4)) rfl ⟨by decide, by decide⟩ rfl (bn (by omega) (by decide)) (bc (n := 48) (by omega) (by decide)) rfl ?_
        obtain ⟨r10, e10, hE⟩ := Option.bind_eq_some_iff.mp hE
        have e10q := Option.some.inj e10
        refine xe_cv pg_123 109 pg_109 [.int ((vx r9 170 (12 * c + 8) (ks ((vx r8.2 170 (12 * c + 10) r8.1).1 170 (12 * c + 8)) 14)).1 170 (12 * c + 4))] [.int (nI (12 * c + 4)), .ref 170] (some (.int (ks ((vx r9 170 (12 * c + 8) (ks ((vx r8.2 170 (12 * c + 10) r8.1).1 170 (12 * c + 8)) 14)).1 170 (12 * c + 4)) 14))) rfl rfl rfl rfl ⟨Nat.le_of_ble_eq_true rfl, Nat.le_of_ble_eq_true rfl, Nat.le_of_ble_eq_true rfl⟩ ⟨rfl, rfl⟩ ⟨by decide, rfl, by decide⟩ (e10q ▸ cg_wrap _ (key := ((vx r9 170 (12 * c + 8) (ks ((vx r8.2 170 (12 * c + 10) r8.1).1 170 (12 * c + 8)) 14)).1 170 (12 * c + 4))) ) ?_
        refine ze_isx pg_123 (12 * c + 4) rfl ⟨by decide, by decide⟩ rfl (bn (by omega) (by decide)) (bc (n := 48) (by omega) (by decide)) (by decide) ?_
        refine xe_sn pg_123 2 (fr' := (32, [(4, .int 0), (3, .int (nI (12 * c + 8))), (0, .ref 165), (1, .int (nI c)), (2, .int 2)], [])) rfl ?_
        refine xe_sn pg_123 6 (fr' := (44, [(4, .int 0), (3, .int (nI (12 * c + 8))), (0, .ref 165), (1, .int (nI c)), (2, .int 2)], [.int (nI c), .int 12, .ref 170])) rfl ?_
        refine xe_nm pg_123 12 c (12 * c) rfl (by omega) ?_
        refine xe_sn pg_123 3 (fr' := (49, [(4, .int 0), (3, .int (nI (12 * c + 8))), (0, .ref 165), (1, .int (nI c)), (2, .int 2)], [.int 0, .int (nI (12 * c)), .ref 170])) rfl ?_
        refine xe_na pg_123 (12 * c) 0 (12 * c) rfl (by omega) ?_
        refine xe_sn pg_123 5 (fr' := (58, [(4, .int 0), (3, .int (nI (12 * c + 8))), (0, .ref 165), (1, .int (nI c)), (2, .int 2)], [.int (nI c), .int 12, .ref 170, .ref 165, .int (nI (12 * c)), .ref 170])) rfl ?_
        refine xe_nm pg_123 12 c (12 * c) rfl (by omega) ?_
        refine xe_sn pg_123 3 (fr' := (63, [(4, .int 0), (3, .int (nI (12 * c + 8))), (0, .ref 165), (1, .int (nI c)), (2, .int 2)], [.int 0, .int (nI (12 * c)), .ref 170, .ref 165, .int (nI (12 * c)), .ref 170])) rfl ?_
        refine xe_na pg_123 (12 * c) 0 (12 * c) rfl (by omega) ?_
        refine ze_il pg_123 (12 * c) ((vx r10 170 (12 * c + 4) (ks ((vx r9 170 (12 * c + 8) (ks ((vx r8.2 170 (12 * c + 10) r8.1).1 170 (12 * c + 8)) 14)).1 170 (12 * c + 4)) 14)).1 170 (12 * c)) rfl ⟨by decide, by decide⟩ rfl (bn (by omega) (by decide)) (bc (n := 48) (by omega) (by decide)) rfl ?_
        obtain ⟨r11, e11, hE⟩ := Option.bind_eq_some_iff.mp hE
        have e11q := Option.some.inj e11
        refine xe_cv pg_123 109 pg_109 [.int ((vx r10 170 (12 * c + 4) (ks ((vx r9 170 (12 * c + 8) (ks ((vx r8.2 170 (12 * c + 10) r8.1).1 170 (12 * c + 8)) 14)).1 170 (12 * c + 4)) 14)).1 170 (12 * c))] [.int (nI (12 * c)), .ref 170] (some (.int (ks ((vx r10 170 (12 * c + 4) (ks ((vx r9 170 (12 * c + 8) (ks ((vx r8.2 170 (12 * c + 10) r8.1).1 170 (12 * c + 8)) 14)).1 170 (12 * c + 4)) 14)).1 170 (12 * c)) 14))) rfl rfl rfl rfl ⟨Nat.le_of_ble_eq_true rfl, Nat.le_of_ble_eq_true rfl, Nat.le_of_ble_eq_true rfl⟩ ⟨rfl, rfl⟩ ⟨by decide, rfl, by decide⟩ (e11q ▸ cg_wrap _ (key := ((vx r10 170 (12 * c + 4) (ks ((vx r9 170 (12 * c + 8) (ks ((vx r8.2 170 (12 * c + 10) r8.1).1 170 (12 * c + 8)) 14)).1 170 (12 * c + 4)) 14)).1 170 (12 * c))) ) ?_
        refine ze_isx pg_123 (12 * c) rfl ⟨by decide, by decide⟩ rfl (bn (by omega) (by decide)) (bc (n := 48) (by omega) (by decide)) (by decide) ?_
        refine xe_sn pg_123 2 (fr' := (32, [(4, .int (-1)), (3, .int (nI (12 * c + 8))), (0, .ref 165), (1, .int (nI c)), (2, .int 2)], [])) rfl ?_
        refine xe_sn pg_123 8 (fr' := (83, [(4, .int (-1)), (3, .int (nI (12 * c + 8))), (0, .ref 165), (1, .int (nI c)), (2, .int 2)], [.int (nI c), .int 3, .ref 169, .int 0, .ref 165])) rfl ?_
        refine xe_nm pg_123 3 c (3 * c) rfl (by omega) ?_
        refine ze_il pg_123 (3 * c) (r11.1 169 (3 * c)) rfl ⟨by decide, by decide⟩ rfl (bn (by omega) (by decide)) (bc (n := 12) (by omega) (by decide)) rfl ?_
        refine xe_sn pg_123 3 (fr' := (88, [(4, .int (-1)), (3, .int (nI (12 * c + 8))), (0, .ref 165), (1, .int (nI c)), (2, .int 2)], [.int 2, .int 3, .int (nI c), .int (r11.1 169 (3 * c)), .int 0, .ref 165])) rfl ?_
        obtain ⟨r12, e12, hE⟩ := Option.bind_eq_some_iff.mp hE
        refine xe_cv pg_123 117 pg_117 [.int 0, .int (r11.1 169 (3 * c)), .int (nI c), .int 3, .int 2] [] (none) rfl rfl rfl rfl ⟨Nat.le_of_ble_eq_true rfl, Nat.le_of_ble_eq_true rfl, Nat.le_of_ble_eq_true rfl⟩ ⟨rfl, rfl⟩ ⟨by decide, rfl, by decide⟩ (cg_ship _ (a := 0) (b := (r11.1 169 (3 * c))) (c := (nI c)) (e := 3) (g := 2)  e12) ?_
        cases hE
        exact xe_end pg_123 rfl
      · rw [if_neg h3] at hE
        cases hE

def g_meet (V : xVt) (c : Nat) (y : Int32) (tg : Int32) : Option xVt := (f_raise y (V.1 172 c)).bind fun r1 => if bnd (V.1 171 c) 5 then ((f_raise 17 (V.1 178 (V.1 171 c).toNatClampNeg)).bind fun r2 => (f_raise r2 (V.1 172 c)).bind fun r3 => (f_raise 17 (V.1 172 c)).bind fun r4 => (g_agree V r1 r3 r4 y (V.1 171 c)).bind fun r5 => if (r5.2.1 165 28) = tg then (if bnd ((nI (3 * c)) + (r5.1 168 c)) 12 then (if bnd (((nI (12 * c)) + ((4 : Int32) * (r5.1 168 c))) + 0) 48 then (if bnd (((nI (12 * c)) + ((4 : Int32) * (r5.1 168 c))) + 1) 48 then (if bnd (((nI (12 * c)) + ((4 : Int32) * (r5.1 168 c))) + 2) 48 then (if bnd (((nI (12 * c)) + ((4 : Int32) * (r5.1 168 c))) + 3) 48 then (some (vx (vx (vx (vx (vx (vx (vx (vx r5 169 ((nI (3 * c)) + (r5.1 168 c)).toNatClampNeg (V.1 171 c)) 170 (((nI (12 * c)) + ((4 : Int32) * (r5.1 168 c))) + 0).toNatClampNeg (r5.2.1 188 0)) 170 (((nI (12 * c)) + ((4 : Int32) * (r5.1 168 c))) + 1).toNatClampNeg (r5.2.1 188 1)) 170 (((nI (12 * c)) + ((4 : Int32) * (r5.1 168 c))) + 2).toNatClampNeg (r5.2.1 188 2)) 170 (((nI (12 * c)) + ((4 : Int32) * (r5.1 168 c))) + 3).toNatClampNeg (r5.2.1 188 3)) 168 c ((r5.1 168 c) + 1)) 171 c (-1)) 167 c 2)) else none) else none) else none) else none) else none) else ((g_closeNow r5 c).bind fun r6 => some r6)) else none
set_option maxRecDepth 100000 in
theorem cg_meet (d : Nat) {w : xWd} {S : xSt} {V : xVt} {ρ : Nat → Nat → Int64} {c : Nat} {y : Int32} {tg : Int32} (hc : c < 4) {r : xVt} (hE : (g_meet V c y tg) = some r) : xc (d + 3) 124 [.ref 165, .int (nI c), .int y, .int tg] (hv w S V ρ) (.inl (none), hv w S r ρ) := by
  unfold g_meet at hE
  refine xe_sn pg_124 3 (fr' := (5, [(0, .ref 165), (1, .int (nI c)), (2, .int y), (3, .int tg)], [.int (nI c), .ref 171])) rfl ?_
  refine ze_il pg_124 c (V.1 171 c) rfl ⟨by decide, by decide⟩ rfl (bn (by omega) (by decide)) (bc (n := 4) (by omega) (by decide)) rfl ?_
  refine xe_sn pg_124 4 (fr' := (13, [(4, .int (V.1 171 c)), (0, .ref 165), (1, .int (nI c)), (2, .int y), (3, .int tg)], [.int (nI c), .ref 172])) rfl ?_
  refine ze_il pg_124 c (V.1 172 c) rfl ⟨by decide, by decide⟩ rfl (bn (by omega) (by decide)) (bc (n := 4) (by omega) (by decide)) rfl ?_
  refine xe_sn pg_124 4 (fr' := (20, [(5, .int (V.1 172 c)), (4, .int (V.1 171 c)), (0, .ref 165), (1, .int (nI c)), (2, .int y), (3, .int tg)], [.int (V.1 172 c), .int y, .ref 165])) rfl ?_
  obtain ⟨r1, e1, hE⟩ := Option.bind_eq_some_iff.mp hE
  refine xe_callq pg_124 106 [.int y, .int (V.1 172 c)] (.inl (some (.int r1))) (23, [(5, .int (V.1 172 c)), (4, .int (V.1 171 c)), (0, .ref 165), (1, .int (nI c)), (2, .int y), (3, .int tg)], [.int r1, .ref 165]) rfl (fun _ => rfl) (cg_raiseO _ (a := y) (e := (V.1 172 c))  e1) ?_
  refine xe_sn pg_124 4 (fr' := (31, [(5, .int (V.1 172 c)), (4, .int (V.1 171 c)), (0, .ref 165), (1, .int (nI c)), (2, .int y), (3, .int tg)], [.int (V.1 171 c), .ref 178, .int 17, .int r1, .ref 165])) rfl ?_
  by_cases g1 : bnd (V.1 171 c) 5
  case neg => rw [if_neg g1] at hE; cases hE
  rw [if_pos g1] at hE
  refine ze_il pg_124 (V.1 171 c).toNatClampNeg (V.1 178 (V.1 171 c).toNatClampNeg) rfl ⟨by decide, by decide⟩ rfl g1 rfl rfl ?_
  obtain ⟨r2, e2, hE⟩ := Option.bind_eq_some_iff.mp hE
  refine xe_callq pg_124 106 [.int 17, .int (V.1 178 (V.1 171 c).toNatClampNeg)] (.inl (some (.int r2))) (35, [(5, .int (V.1 172 c)), (4, .int (V.1 171 c)), (0, .ref 165), (1, .int (nI c)), (2, .int y), (3, .int tg)], [.int r2, .int r1, .ref 165]) rfl (fun _ => rfl) (cg_raiseO _ (a := 17) (e := (V.1 178 (V.1 171 c).toNatClampNeg))  e2) ?_
  refine xe_sn pg_124 1 (fr' := (37, [(5, .int (V.1 172 c)), (4, .int (V.1 171 c)), (0, .ref 165), (1, .int (nI c)), (2, .int y), (3, .int tg)], [.int (V.1 172 c), .int r2, .int r1, .ref 165])) rfl ?_
  obtain ⟨r3, e3, hE⟩ := Option.bind_eq_some_iff.mp hE
  refine xe_callq pg_124 106 [.int r2, .int (V.1 172 c)] (.inl (some (.int r3))) (40, [(5, .int (V.1 172 c)), (4, .int (V.1 171 c)), (0, .ref 165), (1, .int (nI c)), (2, .int y), (3, .int tg)], [.int r3, .int r1, .ref 165]) rfl (fun _ => rfl) (cg_raiseO _ (a := r2) (e := (V.1 172 c))  e3) ?_
  refine xe_sn pg_124 2 (fr' := (44, [(5, .int (V.1 172 c)), (4, .int (V.1 171 c)), (0, .ref 165), (1, .int (nI c)), (2, .int y), (3, .int tg)], [.int (V.1 172 c), .int 17, .int r3, .int r1, .ref 165])) rfl ?_
  obtain ⟨r4, e4, hE⟩ := Option.bind_eq_some_iff.mp hE
  refine xe_callq pg_124 106 [.int 17, .int (V.1 172 c)] (.inl (some (.int r4))) (47, [(5, .int (V.1 172 c)), (4, .int (V.1 171 c)), (0, .ref 165), (1, .int (nI c)), (2, .int y), (3, .int tg)], [.int r4, .int r3, .int r1, .ref 165]) rfl (fun _ => rfl) (cg_raiseO _ (a := 17) (e := (V.1 172 c))  e4) ?_
  refine xe_sn pg_124 2 (fr' := (50, [(5, .int (V.1 172 c)), (4, .int (V.1 171 c)), (0, .ref 165), (1, .int (nI c)), (2, .int y), (3, .int tg)], [.int (V.1 171 c), .int y, .int r4, .int r3, .int r1, .ref 165])) rfl ?_
  obtain ⟨r5, e5, hE⟩ := Option.bind_eq_some_iff.mp hE
  refine xe_cv pg_124 108 pg_108 [.int r1, .int r3, .int r4, .int y, .int (V.1 171 c)] [] (none) rfl rfl rfl rfl ⟨Nat.le_of_ble_eq_true rfl, Nat.le_of_ble_eq_true rfl, Nat.le_of_ble_eq_true rfl⟩ ⟨rfl, rfl⟩ ⟨by decide, rfl, by decide⟩ (cg_agree _ (s := r1) (t := r3) (x := r4) (y := y) (n := (V.1 171 c))  e5) ?_
  refine xe_sn pg_124 1 (fr' := (54, [(5, .int (V.1 172 c)), (4, .int (V.1 171 c)), (0, .ref 165), (1, .int (nI c)), (2, .int y), (3, .int tg)], [.ref 165])) rfl ?_
  refine ze_gi pg_124 (r5.2.1 165 28) rfl rfl rfl rfl ?_
  refine xe_sn pg_124 1 (fr' := (58, [(5, .int (V.1 172 c)), (4, .int (V.1 171 c)), (0, .ref 165), (1, .int (nI c)), (2, .int y), (3, .int tg)], [.int tg, .int (r5.2.1 165 28)])) rfl ?_
  by_cases h2 : (r5.2.1 165 28) = tg
  · rw [if_pos h2] at hE
    refine xe_c2t pg_124 67 rfl rfl h2 ?_
    refine xe_sn pg_124 4 (fr' := (73, [(5, .int (V.1 172 c)), (4, .int (V.1 171 c)), (0, .ref 165), (1, .int (nI c)), (2, .int y), (3, .int tg)], [.int (nI c), .int 3, .ref 169])) rfl ?_
    refine xe_nm pg_124 3 c (3 * c) rfl (by omega) ?_
    refine xe_sn pg_124 3 (fr' := (79, [(5, .int (V.1 172 c)), (4, .int (V.1 171 c)), (0, .ref 165), (1, .int (nI c)), (2, .int y), (3, .int tg)], [.int (nI c), .ref 168, .int (nI (3 * c)), .ref 169])) rfl ?_
    refine ze_il pg_124 c (r5.1 168 c) rfl ⟨by decide, by decide⟩ rfl (bn (by omega) (by decide)) (bc (n := 4) (by omega) (by decide)) rfl ?_
    refine xe_sn pg_124 2 (fr' := (83, [(5, .int (V.1 172 c)), (4, .int (V.1 171 c)), (0, .ref 165), (1, .int (nI c)), (2, .int y), (3, .int tg)], [.int (V.1 171 c), .int ((nI (3 * c)) + (r5.1 168 c)), .ref 169])) rfl ?_
    by_cases g3 : bnd ((nI (3 * c)) + (r5.1 168 c)) 12
    case neg => rw [if_neg g3] at hE; cases hE
    rw [if_pos g3] at hE
    refine ze_isx pg_124 ((nI (3 * c)) + (r5.1 168 c)).toNatClampNeg rfl ⟨by decide, by decide⟩ rfl g3 rfl (by decide) ?_
    refine xe_sn pg_124 9 (fr' := (100, [(6, .int 0), (5, .int (V.1 172 c)), (4, .int (V.1 171 c)), (0, .ref 165), (1, .int (nI c)), (2, .int y), (3, .int tg)], [.int (nI c), .int 12, .ref 170])) rfl ?_
    refine xe_nm pg_124 12 c (12 * c) rfl (by omega) ?_
    refine xe_sn pg_124 4 (fr' := (107, [(6, .int 0), (5, .int (V.1 172 c)), (4, .int (V.1 171 c)), (0, .ref 165), (1, .int (nI c)), (2, .int y), (3, .int tg)], [.int (nI c), .ref 168, .int 4, .int (nI (12 * c)), .ref 170])) rfl ?_
    refine ze_il pg_124 c (r5.1 168 c) rfl ⟨by decide, by decide⟩ rfl (bn (by omega) (by decide)) (bc (n := 4) (by omega) (by decide)) rfl ?_
    refine xe_sn pg_124 7 (fr' := (119, [(6, .int 0), (5, .int (V.1 172 c)), (4, .int (V.1 171 c)), (0, .ref 165), (1, .int (nI c)), (2, .int y), (3, .int tg)], [.int 0, .ref 188, .int (((nI (12 * c)) + ((4 : Int32) * (r5.1 168 c))) + 0), .ref 170])) rfl ?_
    refine ze_il pg_124 0 (r5.2.1 188 0) rfl ⟨by decide, by decide⟩ rfl ⟨by decide, by decide⟩ rfl rfl ?_
    by_cases g4 : bnd (((nI (12 * c)) + ((4 : Int32) * (r5.1 168 c))) + 0) 48
    case neg => rw [if_neg g4] at hE; cases hE
    rw [if_pos g4] at hE
    refine ze_isx pg_124 (((nI (12 * c)) + ((4 : Int32) * (r5.1 168 c))) + 0).toNatClampNeg rfl ⟨by decide, by decide⟩ rfl g4 rfl (by decide) ?_
    refine xe_sn pg_124 2 (fr' := (87, [(6, .int 1), (5, .int (V.1 172 c)), (4, .int (V.1 171 c)), (0, .ref 165), (1, .int (nI c)), (2, .int y), (3, .int tg)], [])) rfl ?_
    refine xe_sn pg_124 7 (fr' := (100, [(6, .int 1), (5, .int (V.1 172 c)), (4, .int (V.1 171 c)), (0, .ref 165), (1, .int (nI c)), (2, .int y), (3, .int tg)], [.int (nI c), .int 12, .ref 170])) rfl ?_
    refine xe_nm pg_124 12 c (12 * c) rfl (by omega) ?_
    refine xe_sn pg_124 4 (fr' := (107, [(6, .int 1), (5, .int (V.1 172 c)), (4, .int (V.1 171 c)), (0, .ref 165), (1, .int (nI c)), (2, .int y), (3, .int tg)], [.int (nI c), .ref 168, .int 4, .int (nI (12 * c)), .ref 170])) rfl ?_
    refine ze_il pg_124 c (r5.1 168 c) rfl ⟨by decide, by decide⟩ rfl (bn (by omega) (by decide)) (bc (n := 4) (by omega) (by decide)) rfl ?_
    refine xe_sn pg_124 7 (fr' := (119, [(6, .int 1), (5, .int (V.1 172 c)), (4, .int (V.1 171 c)), (0, .ref 165), (1, .int (nI c)), (2, .int y), (3, .int tg)], [.int 1, .ref 188, .int (((nI (12 * c)) + ((4 : Int32) * (r5.1 168 c))) + 1), .ref 170])) rfl ?_
    refine ze_il pg_124 1 (r5.2.1 188 1) rfl ⟨by decide, by decide⟩ rfl ⟨by decide, by decide⟩ rfl rfl ?_
    by_cases g5 : bnd (((nI (12 * c)) + ((4 : Int32) * (r5.1 168 c))) + 1) 48
    case neg => rw [if_neg g5] at hE; cases hE
    rw [if_pos g5] at hE
    refine ze_isx pg_124 (((nI (12 * c)) + ((4 : Int32) * (r5.1 168 c))) + 1).toNatClampNeg rfl ⟨by decide, by decide⟩ rfl g5 rfl (by decide) ?_
    refine xe_sn pg_124 2 (fr' := (87, [(6, .int 2), (5, .int (V.1 172 c)), (4, .int (V.1 171 c)), (0, .ref 165), (1, .int (nI c)), (2, .int y), (3, .int tg)], [])) rfl ?_
    refine xe_sn pg_124 7 (fr' := (100, [(6, .int 2), (5, .int (V.1 172 c)), (4, .int (V.1 171 c)), (0, .ref 165), (1, .int (nI c)), (2, .int y), (3, .int tg)], [.int (nI c), .int 12, .ref 170])) rfl ?_
    refine xe_nm pg_124 12 c (12 * c) rfl (by omega) ?_
    refine xe_sn pg_124 4 (fr' := (107, [(6, .int 2), (5, .int (V.1 172 c)), (4, .int (V.1 171 c)), (0, .ref 165), (1, .int (nI c)), (2, .int y), (3, .int tg)], [.int (nI c), .ref 168, .int 4, .int (nI (12 * c)), .ref 170])) rfl ?_
    refine ze_il pg_124 c (r5.1 168 c) rfl ⟨by decide, by decide⟩ rfl (bn (by omega) (by decide)) (bc (n := 4) (by omega) (by decide)) rfl ?_
    refine xe_sn pg_124 7 (fr' := (119, [(6, .int 2), (5, .int (V.1 172 c)), (4, .int (V.1 171 c)), (0, .ref 165), (1, .int (nI c)), (2, .int y), (3, .int tg)], [.int 2, .ref 188, .int (((nI (12 * c)) + ((4 : Int32) * (r5.1 168 c))) + 2), .ref 170])) rfl ?_
    refine ze_il pg_124 2 (r5.2.1 188 2) rfl ⟨by decide, by decide⟩ rfl ⟨by decide, by decide⟩ rfl rfl ?_
    by_cases g6 : bnd (((nI (12 * c)) + ((4 : Int32) * (r5.1 168 c))) + 2) 48
    case neg => rw [if_neg g6] at hE; cases hE
    rw [if_pos g6] at hE
    refine ze_isx pg_124 (((nI (12 * c)) + ((4 : Int32) * (r5.1 168 c))) + 2).toNatClampNeg rfl ⟨by decide, by decide⟩ rfl g6 rfl (by decide) ?_
    refine xe_sn pg_124 2 (fr' := (87, [(6, .int 3), (5, .int (V.1 172 c)), (4, .int (V.1 171 c)), (0, .ref 165), (1, .int (nI c)), (2, .int y), (3, .int tg)], [])) rfl ?_
    refine xe_sn pg_124 7 (fr' := (100, [(6, .int 3), (5, .int (V.1 172 c)), (4, .int (V.1 171 c)), (0, .ref 165), (1, .int (nI c)), (2, .int y), (3, .int tg)], [.int (nI c), .int 12, .ref 170])) rfl ?_
    refine xe_nm pg_124 12 c (12 * c) rfl (by omega) ?_
    refine xe_sn pg_124 4 (fr' := (107, [(6, .int 3), (5, .int (V.1 172 c)), (4, .int (V.1 171 c)), (0, .ref 165), (1, .int (nI c)), (2, .int y), (3, .int tg)], [.int (nI c), .ref 168, .int 4, .int (nI (12 * c)), .ref 170])) rfl ?_
    refine ze_il pg_124 c (r5.1 168 c) rfl ⟨by decide, by decide⟩ rfl (bn (by omega) (by decide)) (bc (n := 4) (by omega) (by decide)) rfl ?_
    refine xe_sn pg_124 7 (fr' := (119, [(6, .int 3), (5, .int (V.1 172 c)), (4, .int (V.1 171 c)), (0, .ref 165), (1, .int (nI c)), (2, .int y), (3, .int tg)], [.int 3, .ref 188, .int (((nI (12 * c)) + ((4 : Int32) * (r5.1 168 c))) + 3), .ref 170])) rfl ?_
    refine ze_il pg_124 3 (r5.2.1 188 3) rfl ⟨by decide, by decide⟩ rfl ⟨by decide, by decide⟩ rfl rfl ?_
    by_cases g7 : bnd (((nI (12 * c)) + ((4 : Int32) * (r5.1 168 c))) + 3) 48
    case neg => rw [if_neg g7] at hE; cases hE
    rw [if_pos g7] at hE
    refine ze_isx pg_124 (((nI (12 * c)) + ((4 : Int32) * (r5.1 168 c))) + 3).toNatClampNeg rfl ⟨by decide, by decide⟩ rfl g7 rfl (by decide) ?_
    refine xe_sn pg_124 2 (fr' := (87, [(6, .int 4), (5, .int (V.1 172 c)), (4, .int (V.1 171 c)), (0, .ref 165), (1, .int (nI c)), (2, .int y), (3, .int tg)], [])) rfl ?_
    refine xe_sn pg_124 7 (fr' := (133, [(6, .int 4), (5, .int (V.1 172 c)), (4, .int (V.1 171 c)), (0, .ref 165), (1, .int (nI c)), (2, .int y), (3, .int tg)], [.int (nI c), .ref 168, .int (nI c), .ref 168])) rfl ?_
    refine ze_il pg_124 c (r5.1 168 c) rfl ⟨by decide, by decide⟩ rfl (bn (by omega) (by decide)) (bc (n := 4) (by omega) (by decide)) rfl ?_
    refine xe_sn pg_124 2 (fr' := (136, [(6, .int 4), (5, .int (V.1 172 c)), (4, .int (V.1 171 c)), (0, .ref 165), (1, .int (nI c)), (2, .int y), (3, .int tg)], [.int ((r5.1 168 c) + 1), .int (nI c), .ref 168])) rfl ?_
    refine ze_isx pg_124 c rfl ⟨by decide, by decide⟩ rfl (bn (by omega) (by decide)) (bc (n := 4) (by omega) (by decide)) (by decide) ?_
    refine xe_sn pg_124 4 (fr' := (143, [(6, .int 4), (5, .int (V.1 172 c)), (4, .int (V.1 171 c)), (0, .ref 165), (1, .int (nI c)), (2, .int y), (3, .int tg)], [.int (-1), .int (nI c), .ref 171])) rfl ?_
    refine ze_isx pg_124 c rfl ⟨by decide, by decide⟩ rfl (bn (by omega) (by decide)) (bc (n := 4) (by omega) (by decide)) (by decide) ?_
    refine xe_sn pg_124 4 (fr' := (150, [(6, .int 4), (5, .int (V.1 172 c)), (4, .int (V.1 171 c)), (0, .ref 165), (1, .int (nI c)), (2, .int y), (3, .int tg)], [.int 2, .int (nI c), .ref 167])) rfl ?_
    refine ze_isx pg_124 c rfl ⟨by decide, by decide⟩ rfl (bn (by omega) (by decide)) (bc (n := 4) (by omega) (by decide)) (by decide) ?_
    cases hE
    exact xe_end pg_124 rfl
  · rw [if_neg h2] at hE
    refine xe_c2f pg_124 67 rfl rfl h2 ?_
    refine xe_sn pg_124 2 (fr' := (63, [(5, .int (V.1 172 c)), (4, .int (V.1 171 c)), (0, .ref 165), (1, .int (nI c)), (2, .int y), (3, .int tg)], [.int (nI c), .ref 165])) rfl ?_
    obtain ⟨r6, e6, hE⟩ := Option.bind_eq_some_iff.mp hE
    refine xe_cv pg_124 122 pg_122 [.int (nI c)] [] (none) rfl rfl rfl rfl ⟨Nat.le_of_ble_eq_true rfl, Nat.le_of_ble_eq_true rfl, Nat.le_of_ble_eq_true rfl⟩ ⟨rfl, rfl⟩ ⟨by decide, rfl, by decide⟩ (cg_closeNow _ (c := c) (by omega) e6) ?_
    cases hE
    exact xe_end pg_124 rfl

