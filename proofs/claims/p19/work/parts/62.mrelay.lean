set_option maxRecDepth 100000 in
theorem cg_place (d : Nat) {w : xWd} {S : xSt} {V : xVt} {ρ : Nat → Nat → Int64} {i : Nat} {c : Nat} (hi : i < 4) (hc : c < 4) {r : Int32} (hE : nI (4 * i + c) = r) : xc d 128 [.ref 165, .int (nI (i + 1)), .int (nI c)] (hv w S V ρ) (.inl (some (.int r)), hv w S V ρ) := by
  subst hE
  refine xe_sn pg_128 3 (fr' := (3, [(0, .ref 165), (1, .int (nI (i + 1))), (2, .int (nI c))], [.int 1, .int (nI (i + 1)), .int 4])) rfl ?_
  refine xe_ns pg_128 (i + 1) 1 i rfl (by omega) ?_
  refine xe_nm pg_128 4 i (4 * i) rfl (by omega) ?_
  refine xe_sn pg_128 1 (fr' := (6, [(0, .ref 165), (1, .int (nI (i + 1))), (2, .int (nI c))], [.int (nI c), .int (nI (4 * i))])) rfl ?_
  refine xe_na pg_128 (4 * i) c (4 * i + c) rfl (by omega) ?_
  exact xe_end pg_128 rfl

def g_forget (V : xVt) (i : Nat) (c : Nat) : xVt := (vn (vx (vn (vx (vn (vx (vx (vx (vx (vx (vx (vx (vx (vx V 180 (4 * i + c) 0) 181 (4 * i + c) (-1)) 182 (4 * i + c) (-1)) 183 (4 * i + c) (-1)) 184 (16 * i + 4 * c) 0) 184 (16 * i + 4 * c + 1) 0) 184 (16 * i + 4 * c + 2) 0) 184 (16 * i + 4 * c + 3) 0) 185 (12 * i + 3 * c) 0) 186 (12 * i + 3 * c) 0) 185 (12 * i + 3 * c + 1) 0) 186 (12 * i + 3 * c + 1) 0) 185 (12 * i + 3 * c + 2) 0) 186 (12 * i + 3 * c + 2) 0)
set_option maxRecDepth 100000 in
theorem cg_forget (d : Nat) {w : xWd} {S : xSt} {V : xVt} {ρ : Nat → Nat → Int64} {i : Nat} {c : Nat} (hi : i < 4) (hc : c < 4) {r : xVt} (hE : (g_forget V i c) = r) : xc (d + 1) 129 [.ref 165, .int (nI (i + 1)), .int (nI c)] (hv w S V ρ) (.inl (none), hv w S r ρ) := by
  unfold g_forget at hE
  refine xe_sn pg_129 3 (fr' := (3, [(0, .ref 165), (1, .int (nI (i + 1))), (2, .int (nI c))], [.int (nI c), .int (nI (i + 1)), .ref 165])) rfl ?_
  refine xe_cv pg_129 128 pg_128 [.int (nI (i + 1)), .int (nI c)] [] (some (.int (nI (4 * i + c)))) rfl rfl rfl rfl ⟨Nat.le_of_ble_eq_true rfl, Nat.le_of_ble_eq_true rfl, Nat.le_of_ble_eq_true rfl⟩ ⟨rfl, rfl⟩ ⟨by decide, rfl, by decide⟩ (cg_place _ (i := i) (c := c) (by omega) (by omega) rfl) ?_
  refine xe_sn pg_129 5 (fr' := (13, [(3, .int (nI (4 * i + c))), (0, .ref 165), (1, .int (nI (i + 1))), (2, .int (nI c))], [.int 0, .int (nI (4 * i + c)), .ref 180])) rfl ?_
  refine ze_bsx pg_129 (4 * i + c) rfl ⟨by decide, by decide⟩ rfl (bn (by omega) (by decide)) (bc (n := 16) (by omega) (by decide)) (Or.inl rfl) (by decide) ?_
  refine xe_sn pg_129 4 (fr' := (20, [(3, .int (nI (4 * i + c))), (0, .ref 165), (1, .int (nI (i + 1))), (2, .int (nI c))], [.int (-1), .int (nI (4 * i + c)), .ref 181])) rfl ?_
  refine ze_isx pg_129 (4 * i + c) rfl ⟨by decide, by decide⟩ rfl (bn (by omega) (by decide)) (bc (n := 16) (by omega) (by decide)) (by decide) ?_
  refine xe_sn pg_129 4 (fr' := (27, [(3, .int (nI (4 * i + c))), (0, .ref 165), (1, .int (nI (i + 1))), (2, .int (nI c))], [.int (-1), .int (nI (4 * i + c)), .ref 182])) rfl ?_
  refine ze_isx pg_129 (4 * i + c) rfl ⟨by decide, by decide⟩ rfl (bn (by omega) (by decide)) (bc (n := 16) (by omega) (by decide)) (by decide) ?_
  refine xe_sn pg_129 4 (fr' := (34, [(3, .int (nI (4 * i + c))), (0, .ref 165), (1, .int (nI (i + 1))), (2, .int (nI c))], [.int (-1), .int (nI (4 * i + c)), .ref 183])) rfl ?_
  refine ze_isx pg_129 (4 * i + c) rfl ⟨by decide, by decide⟩ rfl (bn (by omega) (by decide)) (bc (n := 16) (by omega) (by decide)) (by decide) ?_
  refine xe_sn pg_129 9 (fr' := (50, [(4, .int 0), (3, .int (nI (4 * i + c))), (0, .ref 165), (1, .int (nI (i + 1))), (2, .int (nI c))], [.int (nI (4 * i + c)), .int 4, .ref 184])) rfl ?_
  refine xe_nm pg_129 4 (4 * i + c) (16 * i + 4 * c) rfl (by omega) ?_
  refine xe_sn pg_129 1 (fr' := (53, [(4, .int 0), (3, .int (nI (4 * i + c))), (0, .ref 165), (1, .int (nI (i + 1))), (2, .int (nI c))], [.int 0, .int (nI (16 * i + 4 * c)), .ref 184])) rfl ?_
  refine xe_na pg_129 (16 * i + 4 * c) 0 (16 * i + 4 * c) rfl (by omega) ?_
  refine xe_sn pg_129 1 (fr' := (55, [(4, .int 0), (3, .int (nI (4 * i + c))), (0, .ref 165), (1, .int (nI (i + 1))), (2, .int (nI c))], [.int 0, .int (nI (16 * i + 4 * c)), .ref 184])) rfl ?_
  refine ze_isx pg_129 (16 * i + 4 * c) rfl ⟨by decide, by decide⟩ rfl (bn (by omega) (by decide)) (bc (n := 64) (by omega) (by decide)) (by decide) ?_
  refine xe_sn pg_129 2 (fr' := (38, [(4, .int 1), (3, .int (nI (4 * i + c))), (0, .ref 165), (1, .int (nI (i + 1))), (2, .int (nI c))], [])) rfl ?_
  refine xe_sn pg_129 7 (fr' := (50, [(4, .int 1), (3, .int (nI (4 * i + c))), (0, .ref 165), (1, .int (nI (i + 1))), (2, .int (nI c))], [.int (nI (4 * i + c)), .int 4, .ref 184])) rfl ?_
  refine xe_nm pg_129 4 (4 * i + c) (16 * i + 4 * c) rfl (by omega) ?_
  refine xe_sn pg_129 1 (fr' := (53, [(4, .int 1), (3, .int (nI (4 * i + c))), (0, .ref 165), (1, .int (nI (i + 1))), (2, .int (nI c))], [.int 1, .int (nI (16 * i + 4 * c)), .ref 184])) rfl ?_
  refine xe_na pg_129 (16 * i + 4 * c) 1 (16 * i + 4 * c + 1) rfl (by omega) ?_
  refine xe_sn pg_129 1 (fr' := (55, [(4, .int 1), (3, .int (nI (4 * i + c))), (0, .ref 165), (1, .int (nI (i + 1))), (2, .int (nI c))], [.int 0, .int (nI (16 * i + 4 * c + 1)), .ref 184])) rfl ?_
  refine ze_isx pg_129 (16 * i + 4 * c + 1) rfl ⟨by decide, by decide⟩ rfl (bn (by omega) (by decide)) (bc (n := 64) (by omega) (by decide)) (by decide) ?_
  refine xe_sn pg_129 2 (fr' := (38, [(4, .int 2), (3, .int (nI (4 * i + c))), (0, .ref 165), (1, .int (nI (i + 1))), (2, .int (nI c))], [])) rfl ?_
  refine xe_sn pg_129 7 (fr' := (50, [(4, .int 2), (3, .int (nI (4 * i + c))), (0, .ref 165), (1, .int (nI (i + 1))), (2, .int (nI c))], [.int (nI (4 * i + c)), .int 4, .ref 184])) rfl ?_
  refine xe_nm pg_129 4 (4 * i + c) (16 * i + 4 * c) rfl (by omega) ?_
  refine xe_sn pg_129 1 (fr' := (53, [(4, .int 2), (3, .int (nI (4 * i + c))), (0, .ref 165), (1, .int (nI (i + 1))), (2, .int (nI c))], [.int 2, .int (nI (16 * i + 4 * c)), .ref 184])) rfl ?_
  refine xe_na pg_129 (16 * i + 4 * c) 2 (16 * i + 4 * c + 2) rfl (by omega) ?_
  refine xe_sn pg_129 1 (fr' := (55, [(4, .int 2), (3, .int (nI (4 * i + c))), (0, .ref 165), (1, .int (nI (i + 1))), (2, .int (nI c))], [.int 0, .int (nI (16 * i + 4 * c + 2)), .ref 184])) rfl ?_
  refine ze_isx pg_129 (16 * i + 4 * c + 2) rfl ⟨by decide, by decide⟩ rfl (bn (by omega) (by decide)) (bc (n := 64) (by omega) (by decide)) (by decide) ?_
  refine xe_sn pg_129 2 (fr' := (38, [(4, .int 3), (3, .int (nI (4 * i + c))), (0, .ref 165), (1, .int (nI (i + 1))), (2, .int (nI c))], [])) rfl ?_
  refine xe_sn pg_129 7 (fr' := (50, [(4, .int 3), (3, .int (nI (4 * i + c))), (0, .ref 165), (1, .int (nI (i + 1))), (2, .int (nI c))], [.int (nI (4 * i + c)), .int 4, .ref 184])) rfl ?_
  refine xe_nm pg_129 4 (4 * i + c) (16 * i + 4 * c) rfl (by omega) ?_
  refine xe_sn pg_129 1 (fr' := (53, [(4, .int 3), (3, .int (nI (4 * i + c))), (0, .ref 165), (1, .int (nI (i + 1))), (2, .int (nI c))], [.int 3, .int (nI (16 * i + 4 * c)), .ref 184])) rfl ?_
  refine xe_na pg_129 (16 * i + 4 * c) 3 (16 * i + 4 * c + 3) rfl (by omega) ?_
  refine xe_sn pg_129 1 (fr' := (55, [(4, .int 3), (3, .int (nI (4 * i + c))), (0, .ref 165), (1, .int (nI (i + 1))), (2, .int (nI c))], [.int 0, .int (nI (16 * i + 4 * c + 3)), .ref 184])) rfl ?_
  refine ze_isx pg_129 (16 * i + 4 * c + 3) rfl ⟨by decide, by decide⟩ rfl (bn (by omega) (by decide)) (bc (n := 64) (by omega) (by decide)) (by decide) ?_
  refine xe_sn pg_129 2 (fr' := (38, [(4, .int 4), (3, .int (nI (4 * i + c))), (0, .ref 165), (1, .int (nI (i + 1))), (2, .int (nI c))], [])) rfl ?_
  refine xe_sn pg_129 10 (fr' := (75, [(4, .int 0), (3, .int (nI (4 * i + c))), (0, .ref 165), (1, .int (nI (i + 1))), (2, .int (nI c))], [.ref 185])) rfl ?_
  refine xe_sn pg_129 2 (fr' := (77, [(4, .int 0), (3, .int (nI (4 * i + c))), (0, .ref 165), (1, .int (nI (i + 1))), (2, .int (nI c))], [.int (nI (4 * i + c)), .int 3, .ref 185])) rfl ?_
  refine xe_nm pg_129 3 (4 * i + c) (12 * i + 3 * c) rfl (by omega) ?_
  refine xe_sn pg_129 1 (fr' := (80, [(4, .int 0), (3, .int (nI (4 * i + c))), (0, .ref 165), (1, .int (nI (i + 1))), (2, .int (nI c))], [.int 0, .int (nI (12 * i + 3 * c)), .ref 185])) rfl ?_
  refine xe_na pg_129 (12 * i + 3 * c) 0 (12 * i + 3 * c) rfl (by omega) ?_
  refine xe_sn pg_129 1 (fr' := (82, [(4, .int 0), (3, .int (nI (4 * i + c))), (0, .ref 165), (1, .int (nI (i + 1))), (2, .int (nI c))], [.int 0, .int (nI (12 * i + 3 * c)), .ref 185])) rfl ?_
  refine ze_bsx pg_129 (12 * i + 3 * c) rfl ⟨by decide, by decide⟩ rfl (bn (by omega) (by decide)) (bc (n := 48) (by omega) (by decide)) (Or.inl rfl) (by decide) ?_
  refine xe_sn pg_129 4 (fr' := (89, [(4, .int 0), (3, .int (nI (4 * i + c))), (0, .ref 165), (1, .int (nI (i + 1))), (2, .int (nI c))], [.int (nI (4 * i + c)), .int 3, .ref 186])) rfl ?_
  refine xe_nm pg_129 3 (4 * i + c) (12 * i + 3 * c) rfl (by omega) ?_
  refine xe_sn pg_129 1 (fr' := (92, [(4, .int 0), (3, .int (nI (4 * i + c))), (0, .ref 165), (1, .int (nI (i + 1))), (2, .int (nI c))], [.int 0, .int (nI (12 * i + 3 * c)), .ref 186])) rfl ?_
  refine xe_na pg_129 (12 * i + 3 * c) 0 (12 * i + 3 * c) rfl (by omega) ?_
  refine xe_sn pg_129 1 (fr' := (94, [(4, .int 0), (3, .int (nI (4 * i + c))), (0, .ref 165), (1, .int (nI (i + 1))), (2, .int (nI c))], [.int 0, .int (nI (12 * i + 3 * c)), .ref 186])) rfl ?_
  refine ze_isn pg_129 (12 * i + 3 * c) rfl ⟨by decide, by decide⟩ rfl (bn (by omega) (by decide)) (bc (n := 48) (by omega) (by decide)) (by decide) ?_
  refine xe_sn pg_129 2 (fr' := (65, [(4, .int 1), (3, .int (nI (4 * i + c))), (0, .ref 165), (1, .int (nI (i + 1))), (2, .int (nI c))], [])) rfl ?_
  refine xe_sn pg_129 7 (fr' := (77, [(4, .int 1), (3, .int (nI (4 * i + c))), (0, .ref 165), (1, .int (nI (i + 1))), (2, .int (nI c))], [.int (nI (4 * i + c)), .int 3, .ref 185])) rfl ?_
  refine xe_nm pg_129 3 (4 * i + c) (12 * i + 3 * c) rfl (by omega) ?_
  refine xe_sn pg_129 1 (fr' := (80, [(4, .int 1), (3, .int (nI (4 * i + c))), (0, .ref 165), (1, .int (nI (i + 1))), (2, .int (nI c))], [.int 1, .int (nI (12 * i + 3 * c)), .ref 185])) rfl ?_
  refine xe_na pg_129 (12 * i + 3 * c) 1 (12 * i + 3 * c + 1) rfl (by omega) ?_
  refine xe_sn pg_129 1 (fr' := (82, [(4, .int 1), (3, .int (nI (4 * i + c))), (0, .ref 165), (1, .int (nI (i + 1))), (2, .int (nI c))], [.int 0, .int (nI (12 * i + 3 * c + 1)), .ref 185])) rfl ?_
  refine ze_bsx pg_129 (12 * i + 3 * c + 1) rfl ⟨by decide, by decide⟩ rfl (bn (by omega) (by decide)) (bc (n := 48) (by omega) (by decide)) (Or.inl rfl) (by decide) ?_
  refine xe_sn pg_129 4 (fr' := (89, [(4, .int 1), (3, .int (nI (4 * i + c))), (0, .ref 165), (1, .int (nI (i + 1))), (2, .int (nI c))], [.int (nI (4 * i + c)), .int 3, .ref 186])) rfl ?_
  refine xe_nm pg_129 3 (4 * i + c) (12 * i + 3 * c) rfl (by omega) ?_
  refine xe_sn pg_129 1 (fr' := (92, [(4, .int 1), (3, .int (nI (4 * i + c))), (0, .ref 165), (1, .int (nI (i + 1))), (2, .int (nI c))], [.int 1, .int (nI (12 * i + 3 * c)), .ref 186])) rfl ?_
  refine xe_na pg_129 (12 * i + 3 * c) 1 (12 * i + 3 * c + 1) rfl (by omega) ?_
  refine xe_sn pg_129 1 (fr' := (94, [(4, .int 1), (3, .int (nI (4 * i + c))), (0, .ref 165), (1, .int (nI (i + 1))), (2, .int (nI c))], [.int 0, .int (nI (12 * i + 3 * c + 1)), .ref 186])) rfl ?_
  refine ze_isn pg_129 (12 * i + 3 * c + 1) rfl ⟨by decide, by decide⟩ rfl (bn (by omega) (by decide)) (bc (n := 48) (by omega) (by decide)) (by decide) ?_
  refine xe_sn pg_129 2 (fr' := (65, [(4, .int 2), (3, .int (nI (4 * i + c))), (0, .ref 165), (1, .int (nI (i + 1))), (2, .int (nI c))], [])) rfl ?_
  refine xe_sn pg_129 7 (fr' := (77, [(4, .int 2), (3, .int (nI (4 * i + c))), (0, .ref 165), (1, .int (nI (i + 1))), (2, .int (nI c))], [.int (nI (4 * i + c)), .int 3, .ref 185])) rfl ?_
  refine xe_nm pg_129 3 (4 * i + c) (12 * i + 3 * c) rfl (by omega) ?_
  refine xe_sn pg_129 1 (fr' := (80, [(4, .int 2), (3, .int (nI (4 * i + c))), (0, .ref 165), (1, .int (nI (i + 1))), (2, .int (nI c))], [.int 2, .int (nI (12 * i + 3 * c)), .ref 185])) rfl ?_
  refine xe_na pg_129 (12 * i + 3 * c) 2 (12 * i + 3 * c + 2) rfl (by omega) ?_
  refine xe_sn pg_129 1 (fr' := (82, [(4, .int 2), (3, .int (nI (4 * i + c))), (0, .ref 165), (1, .int (nI (i + 1))), (2, .int (nI c))], [.int 0, .int (nI (12 * i + 3 * c + 2)), .ref 185])) rfl ?_
  refine ze_bsx pg_129 (12 * i + 3 * c + 2) rfl ⟨by decide, by decide⟩ rfl (bn (by omega) (by decide)) (bc (n := 48) (by omega) (by decide)) (Or.inl rfl) (by decide) ?_
  refine xe_sn pg_129 4 (fr' := (89, [(4, .int 2), (3, .int (nI (4 * i + c))), (0, .ref 165), (1, .int (nI (i + 1))), (2, .int (nI c))], [.int (nI (4 * i + c)), .int 3, .ref 186])) rfl ?_
  refine xe_nm pg_129 3 (4 * i + c) (12 * i + 3 * c) rfl (by omega) ?_
  refine xe_sn pg_129 1 (fr' := (92, [(4, .int 2), (3, .int (nI (4 * i + c))), (0, .ref 165), (1, .int (nI (i + 1))), (2, .int (nI c))], [.int 2, .int (nI (12 * i + 3 * c)), .ref 186])) rfl ?_
  refine xe_na pg_129 (12 * i + 3 * c) 2 (12 * i + 3 * c + 2) rfl (by omega) ?_
  refine xe_sn pg_129 1 (fr' := (94, [(4, .int 2), (3, .int (nI (4 * i + c))), (0, .ref 165), (1, .int (nI (i + 1))), (2, .int (nI c))], [.int 0, .int (nI (12 * i + 3 * c + 2)), .ref 186])) rfl ?_
  refine ze_isn pg_129 (12 * i + 3 * c + 2) rfl ⟨by decide, by decide⟩ rfl (bn (by omega) (by decide)) (bc (n := 48) (by omega) (by decide)) (by decide) ?_
  refine xe_sn pg_129 2 (fr' := (65, [(4, .int 3), (3, .int (nI (4 * i + c))), (0, .ref 165), (1, .int (nI (i + 1))), (2, .int (nI c))], [])) rfl ?_
  refine xe_sn pg_129 3 (fr' := (101, [(4, .int 3), (3, .int (nI (4 * i + c))), (0, .ref 165), (1, .int (nI (i + 1))), (2, .int (nI c))], [])) rfl ?_
  subst hE
  exact xe_end pg_129 rfl

def g_destroyOn (V : xVt) (i : Nat) (c : Nat) : Option xVt := if (if (V.1 182 (4 * i + c)) < 0 then (V.1 183 (4 * i + c)) else (V.1 182 (4 * i + c))) < 0 then (some V) else ((g_destroy V (nI (i + 1)) (if (V.1 182 (4 * i + c)) < 0 then (V.1 183 (4 * i + c)) else (V.1 182 (4 * i + c))) (nI c)).bind fun r1 => some r1)
set_option maxRecDepth 100000 in
theorem cg_destroyOn (d : Nat) {w : xWd} {S : xSt} {V : xVt} {ρ : Nat → Nat → Int64} {i : Nat} {c : Nat} (hi : i < 4) (hc : c < 4) {r : xVt} (hE : (g_destroyOn V i c) = some r) : xc (d + 2) 130 [.ref 165, .int (nI (i + 1)), .int (nI c)] (hv w S V ρ) (.inl (none), hv w S r ρ) := by
  unfold g_destroyOn at hE
  refine xe_sn pg_130 3 (fr' := (3, [(0, .ref 165), (1, .int (nI (i + 1))), (2, .int (nI c))], [.int (nI c), .int (nI (i + 1)), .ref 165])) rfl ?_
  refine xe_cv pg_130 128 pg_128 [.int (nI (i + 1)), .int (nI c)] [] (some (.int (nI (4 * i + c)))) rfl rfl rfl rfl ⟨Nat.le_of_ble_eq_true rfl, Nat.le_of_ble_eq_true rfl, Nat.le_of_ble_eq_true rfl⟩ ⟨rfl, rfl⟩ ⟨by decide, rfl, by decide⟩ (cg_place _ (i := i) (c := c) (by omega) (by omega) rfl) ?_
  refine xe_sn pg_130 4 (fr' := (12, [(3, .int (nI (4 * i + c))), (0, .ref 165), (1, .int (nI (i + 1))), (2, .int (nI c))], [.int (nI (4 * i + c)), .ref 182])) rfl ?_
  refine ze_il pg_130 (4 * i + c) (V.1 182 (4 * i + c)) rfl ⟨by decide, by decide⟩ rfl (bn (by omega) (by decide)) (bc (n := 16) (by omega) (by decide)) rfl ?_
  refine xe_jn (fr' := (31, [(3, .int (nI (4 * i + c))), (0, .ref 165), (1, .int (nI (i + 1))), (2, .int (nI c))], [.int (if (V.1 182 (4 * i + c)) < 0 then (V.1 183 (4 * i + c)) else (V.1 182 (4 * i + c)))])) (fun J1 => ?_) ?_
  · by_cases h1 : (V.1 182 (4 * i + c)) < 0
    · rw [show (if (V.1 182 (4 * i + c)) < 0 then (V.1 183 (4 * i + c)) else (V.1 182 (4 * i + c))) = (V.1 183 (4 * i + c)) from if_pos h1] at J1
      refine xe_c1t pg_130 25 rfl rfl h1 ?_
      refine xe_sn pg_130 3 (fr' := (30, [(3, .int (nI (4 * i + c))), (0, .ref 165), (1, .int (nI (i + 1))), (2, .int (nI c))], [.int (nI (4 * i + c)), .ref 183])) rfl ?_
      refine ze_il pg_130 (4 * i + c) (V.1 183 (4 * i + c)) rfl ⟨by decide, by decide⟩ rfl (bn (by omega) (by decide)) (bc (n := 16) (by omega) (by decide)) rfl ?_
      exact J1
    · rw [show (if (V.1 182 (4 * i + c)) < 0 then (V.1 183 (4 * i + c)) else (V.1 182 (4 * i + c))) = (V.1 182 (4 * i + c)) from if_neg h1] at J1
      refine xe_c1f pg_130 25 rfl rfl h1 ?_
      refine xe_sn pg_130 3 (fr' := (21, [(3, .int (nI (4 * i + c))), (0, .ref 165), (1, .int (nI (i + 1))), (2, .int (nI c))], [.int (nI (4 * i + c)), .ref 182])) rfl ?_
      refine ze_il pg_130 (4 * i + c) (V.1 182 (4 * i + c)) rfl ⟨by decide, by decide⟩ rfl (bn (by omega) (by decide)) (bc (n := 16) (by omega) (by decide)) rfl ?_
      refine xe_sn pg_130 1 (fr' := (31, [(3, .int (nI (4 * i + c))), (0, .ref 165), (1, .int (nI (i + 1))), (2, .int (nI c))], [.int (V.1 182 (4 * i + c))])) rfl ?_
      exact J1
  refine xe_sn pg_130 2 (fr' := (35, [(4, .int (if (V.1 182 (4 * i + c)) < 0 then (V.1 183 (4 * i + c)) else (V.1 182 (4 * i + c)))), (3, .int (nI (4 * i + c))), (0, .ref 165), (1, .int (nI (i + 1))), (2, .int (nI c))], [.int (if (V.1 182 (4 * i + c)) < 0 then (V.1 183 (4 * i + c)) else (V.1 182 (4 * i + c)))])) rfl ?_
  by_cases h2 : (if (V.1 182 (4 * i + c)) < 0 then (V.1 183 (4 * i + c)) else (V.1 182 (4 * i + c))) < 0
  · rw [if_pos h2] at hE
    refine xe_c1t pg_130 46 rfl rfl h2 ?_
    cases hE
    exact xe_end pg_130 rfl
  · rw [if_neg h2] at hE
    refine xe_c1f pg_130 46 rfl rfl h2 ?_
    refine xe_sn pg_130 4 (fr' := (43, [(4, .int (if (V.1 182 (4 * i + c)) < 0 then (V.1 183 (4 * i + c)) else (V.1 182 (4 * i + c)))), (3, .int (nI (4 * i + c))), (0, .ref 165), (1, .int (nI (i + 1))), (2, .int (nI c))], [.int (nI c), .int (if (V.1 182 (4 * i + c)) < 0 then (V.1 183 (4 * i + c)) else (V.1 182 (4 * i + c))), .int (nI (i + 1)), .ref 165])) rfl ?_
    obtain ⟨r1, e1, hE⟩ := Option.bind_eq_some_iff.mp hE
    refine xe_cv pg_130 118 pg_118 [.int (nI (i + 1)), .int (if (V.1 182 (4 * i + c)) < 0 then (V.1 183 (4 * i + c)) else (V.1 182 (4 * i + c))), .int (nI c)] [] (none) rfl rfl rfl rfl ⟨Nat.le_of_ble_eq_true rfl, Nat.le_of_ble_eq_true rfl, Nat.le_of_ble_eq_true rfl⟩ ⟨rfl, rfl⟩ ⟨by decide, rfl, by decide⟩ (cg_destroy _ (f := (nI (i + 1))) (t := (if (V.1 182 (4 * i + c)) < 0 then (V.1 183 (4 * i + c)) else (V.1 182 (4 * i + c)))) (c := (nI c))  e1) ?_
    cases hE
    exact xe_end pg_130 rfl

def g_tear (V : xVt) (i : Nat) (c : Nat) : Option xVt := (g_destroy V (nI (i + 1)) (V.1 181 (4 * i + c)) (nI c)).bind fun r1 => (g_destroyOn r1 i c).bind fun r2 => (some (g_forget r2 i c)).bind fun r3 => some r3
set_option maxRecDepth 100000 in
theorem cg_tear (d : Nat) {w : xWd} {S : xSt} {V : xVt} {ρ : Nat → Nat → Int64} {i : Nat} {c : Nat} (hi : i < 4) (hc : c < 4) {r : xVt} (hE : (g_tear V i c) = some r) : xc (d + 3) 131 [.ref 165, .int (nI (i + 1)), .int (nI c)] (hv w S V ρ) (.inl (none), hv w S r ρ) := by
  unfold g_tear at hE
  refine xe_sn pg_131 7 (fr' := (9, [(0, .ref 165), (1, .int (nI (i + 1))), (2, .int (nI c))], [.int (nI c), .int (nI (i + 1)), .ref 165, .ref 181, .int (nI (i + 1)), .ref 165])) rfl ?_
  refine xe_cv pg_131 128 pg_128 [.int (nI (i + 1)), .int (nI c)] [.ref 181, .int (nI (i + 1)), .ref 165] (some (.int (nI (4 * i + c)))) rfl rfl rfl rfl ⟨Nat.le_of_ble_eq_true rfl, Nat.le_of_ble_eq_true rfl, Nat.le_of_ble_eq_true rfl⟩ ⟨rfl, rfl⟩ ⟨by decide, rfl, by decide⟩ (cg_place _ (i := i) (c := c) (by omega) (by omega) rfl) ?_
  refine ze_il pg_131 (4 * i + c) (V.1 181 (4 * i + c)) rfl ⟨by decide, by decide⟩ rfl (bn (by omega) (by decide)) (bc (n := 16) (by omega) (by decide)) rfl ?_
  refine xe_sn pg_131 1 (fr' := (14, [(0, .ref 165), (1, .int (nI (i + 1))), (2, .int (nI c))], [.int (nI c), .int (V.1 181 (4 * i + c)), .int (nI (i + 1)), .ref 165])) rfl ?_
  obtain ⟨r1, e1, hE⟩ := Option.bind_eq_some_iff.mp hE
  refine xe_cv pg_131 118 pg_118 [.int (nI (i + 1)), .int (V.1 181 (4 * i + c)), .int (nI c)] [] (none) rfl rfl rfl rfl ⟨Nat.le_of_ble_eq_true rfl, Nat.le_of_ble_eq_true rfl, Nat.le_of_ble_eq_true rfl⟩ ⟨rfl, rfl⟩ ⟨by decide, rfl, by decide⟩ (cg_destroy _ (f := (nI (i + 1))) (t := (V.1 181 (4 * i + c))) (c := (nI c))  e1) ?_
  refine xe_sn pg_131 3 (fr' := (20, [(0, .ref 165), (1, .int (nI (i + 1))), (2, .int (nI c))], [.int (nI c), .int (nI (i + 1)), .ref 165])) rfl ?_
  obtain ⟨r2, e2, hE⟩ := Option.bind_eq_some_iff.mp hE
  refine xe_cv pg_131 130 pg_130 [.int (nI (i + 1)), .int (nI c)] [] (none) rfl rfl rfl rfl ⟨Nat.le_of_ble_eq_true rfl, Nat.le_of_ble_eq_true rfl, Nat.le_of_ble_eq_true rfl⟩ ⟨rfl, rfl⟩ ⟨by decide, rfl, by decide⟩ (cg_destroyOn _ (i := i) (c := c) (by omega) (by omega) e2) ?_
  refine xe_sn pg_131 3 (fr' := (26, [(0, .ref 165), (1, .int (nI (i + 1))), (2, .int (nI c))], [.int (nI c), .int (nI (i + 1)), .ref 165])) rfl ?_
  obtain ⟨r3, e3, hE⟩ := Option.bind_eq_some_iff.mp hE
  refine xe_cv pg_131 129 pg_129 [.int (nI (i + 1)), .int (nI c)] [] (none) rfl rfl rfl rfl ⟨Nat.le_of_ble_eq_true rfl, Nat.le_of_ble_eq_true rfl, Nat.le_of_ble_eq_true rfl⟩ ⟨rfl, rfl⟩ ⟨by decide, rfl, by decide⟩ (cg_forget _ (i := i) (c := c) (by omega) (by omega) (Option.some.inj e3)) ?_
  cases hE
  exact xe_end pg_131 rfl

def g_relaySends (V : xVt) (i : Nat) (c : Nat) : Option xVt := (g_seal V (V.1 184 (16 * i + 4 * c + 3))).bind fun r1 => (some (vbs (vx r1.2 184 (16 * i + 4 * c + 3) r1.1) (wrapB (vx r1.2 184 (16 * i + 4 * c + 3) r1.1).2.2.2 ((vx r1.2 184 (16 * i + 4 * c + 3) r1.1).1 184 (16 * i + 4 * c + 1)) 14))).bind fun r2 => (g_ship (vx r2 184 (16 * i + 4 * c + 1) (ks ((vx r1.2 184 (16 * i + 4 * c + 3) r1.1).1 184 (16 * i + 4 * c + 1)) 14)) (nI (i + 1)) (r2.1 181 (4 * i + c)) (nI c) 3 0).bind fun r3 => some r3
set_option maxRecDepth 100000 in
theorem cg_relaySends (d : Nat) {w : xWd} {S : xSt} {V : xVt} {ρ : Nat → Nat → Int64} {i : Nat} {c : Nat} (hi : i < 4) (hc : c < 4) {r : xVt} (hE : (g_relaySends V i c) = some r) : xc (d + 3) 132 [.ref 165, .int (nI (i + 1)), .int (nI c)] (hv w S V ρ) (.inl (none), hv w S r ρ) := by
  unfold g_relaySends at hE
  refine xe_sn pg_132 3 (fr' := (3, [(0, .ref 165), (1, .int (nI (i + 1))), (2, .int (nI c))], [.int (nI c), .int (nI (i + 1)), .ref 165])) rfl ?_
  refine xe_cv pg_132 128 pg_128 [.int (nI (i + 1)), .int (nI c)] [] (some (.int (nI (4 * i + c)))) rfl rfl rfl rfl ⟨Nat.le_of_ble_eq_true rfl, Nat.le_of_ble_eq_true rfl, Nat.le_of_ble_eq_true rfl⟩ ⟨rfl, rfl⟩ ⟨by decide, rfl, by decide⟩ (cg_place _ (i := i) (c := c) (by omega) (by omega) rfl) ?_
  refine xe_sn pg_132 5 (fr' := (13, [(3, .int (nI (4 * i + c))), (0, .ref 165), (1, .int (nI (i + 1))), (2, .int (nI c))], [.int (nI (4 * i + c)), .int 4, .ref 184])) rfl ?_
  refine xe_nm pg_132 4 (4 * i + c) (16 * i + 4 * c) rfl (by omega) ?_
  refine xe_sn pg_132 1 (fr' := (15, [(3, .int (nI (4 * i + c))), (0, .ref 165), (1, .int (nI (i + 1))), (2, .int (nI c))], [.int 3, .int (nI (16 * i + 4 * c)), .ref 184])) rfl ?_
  refine xe_na pg_132 (16 * i + 4 * c) 3 (16 * i + 4 * c + 3) rfl (by omega) ?_
  refine xe_sn pg_132 5 (fr' := (23, [(3, .int (nI (4 * i + c))), (0, .ref 165), (1, .int (nI (i + 1))), (2, .int (nI c))], [.int (nI (4 * i + c)), .int 4, .ref 184, .ref 165, .int (nI (16 * i + 4 * c + 3)), .ref 184])) rfl ?_
  refine xe_nm pg_132 4 (4 * i + c) (16 * i + 4 * c) rfl (by omega) ?_
  refine xe_sn pg_132 1 (fr' := (25, [(3, .int (nI (4 * i + c))), (0, .ref 165), (1, .int (nI (i + 1))), (2, .int (nI c))], [.int 3, .int (nI (16 * i + 4 * c)), .ref 184, .ref 165, .int (nI (16 * i + 4 * c + 3)), .ref 184])) rfl ?_
  refine xe_na pg_132 (16 * i + 4 * c) 3 (16 * i + 4 * c + 3) rfl (by omega) ?_
  refine ze_il pg_132 (16 * i + 4 * c + 3) (V.1 184 (16 * i + 4 * c + 3)) rfl ⟨by decide, by decide⟩ rfl (bn (by omega) (by decide)) (bc (n := 64) (by omega) (by decide)) rfl ?_
  obtain ⟨r1, e1, hE⟩ := Option.bind_eq_some_iff.mp hE
  refine xe_cv pg_132 115 pg_115 [.int (V.1 184 (16 * i + 4 * c + 3))] [.int (nI (16 * i + 4 * c + 3)), .ref 184] (some (.int r1.1)) rfl rfl rfl rfl ⟨Nat.le_of_ble_eq_true rfl, Nat.le_of_ble_eq_true rfl, Nat.le_of_ble_eq_true rfl⟩ ⟨rfl, rfl⟩ ⟨by decide, rfl, by decide⟩ (cg_seal _ (key := (V.1 184 (16 * i + 4 * c + 3)))  e1) ?_
  refine ze_isx pg_132 (16 * i + 4 * c + 3) rfl ⟨by decide, by decide⟩ rfl (bn (by omega) (by decide)) (bc (n := 64) (by omega) (by decide)) (by decide) ?_
  refine xe_sn pg_132 4 (fr' := (37, [(3, .int (nI (4 * i + c))), (0, .ref 165), (1, .int (nI (i + 1))), (2, .int (nI c))], [.int (nI (4 * i + c)), .int 4, .ref 184])) rfl ?_
  refine xe_nm pg_132 4 (4 * i + c) (16 * i + 4 * c) rfl (by omega) ?_
  refine xe_sn pg_132 1 (fr' := (39, [(3, .int (nI (4 * i + c))), (0, .ref 165), (1, .int (nI (i + 1))), (2, .int (nI c))], [.int 1, .int (nI (16 * i + 4 * c)), .ref 184])) rfl ?_
  refine xe_na pg_132 (16 * i + 4 * c) 1 (16 * i + 4 * c + 1) rfl (by omega) ?_
  refine xe_sn pg_132 5 (fr' := (47, [(3, .int (nI (4 * i + c))), (0, .ref 165), (1, .int (nI (i + 1))), (2, .int (nI c))], [.int (nI (4 * i + c)), .int 4, .ref 184, .ref 165, .int (nI (16 * i + 4 * c + 1)), .ref 184])) rfl ?_
  refine xe_nm pg_132 4 (4 * i + c) (16 * i + 4 * c) rfl (by omega) ?_
  refine xe_sn pg_132 1 (fr' := (49, [(3, .int (nI (4 * i + c))), (0, .ref 165), (1, .int (nI (i + 1))), (2, .int (nI c))], [.int 1, .int (nI (16 * i + 4 * c)), .ref 184, .ref 165, .int (nI (16 * i + 4 * c + 1)), .ref 184])) rfl ?_
  refine xe_na pg_132 (16 * i + 4 * c) 1 (16 * i + 4 * c + 1) rfl (by omega) ?_
  refine ze_il pg_132 (16 * i + 4 * c + 1) ((vx r1.2 184 (16 * i + 4 * c + 3) r1.1).1 184 (16 * i + 4 * c + 1)) rfl ⟨by decide, by decide⟩ rfl (bn (by omega) (by decide)) (bc (n := 64) (by omega) (by decide)) rfl ?_
  obtain ⟨r2, e2, hE⟩ := Option.bind_eq_some_iff.mp hE
  have e2q := Option.some.inj e2
  refine xe_cv pg_132 109 pg_109 [.int ((vx r1.2 184 (16 * i + 4 * c + 3) r1.1).1 184 (16 * i + 4 * c + 1))] [.int (nI (16 * i + 4 * c + 1)), .ref 184] (some (.int (ks ((vx r1.2 184 (16 * i + 4 * c + 3) r1.1).1 184 (16 * i + 4 * c + 1)) 14))) rfl rfl rfl rfl ⟨Nat.le_of_ble_eq_true rfl, Nat.le_of_ble_eq_true rfl, Nat.le_of_ble_eq_true rfl⟩ ⟨rfl, rfl⟩ ⟨by decide, rfl, by decide⟩ (e2q ▸ cg_wrap _ (key := ((vx r1.2 184 (16 * i + 4 * c + 3) r1.1).1 184 (16 * i + 4 * c + 1))) ) ?_
  refine ze_isx pg_132 (16 * i + 4 * c + 1) rfl ⟨by decide, by decide⟩ rfl (bn (by omega) (by decide)) (bc (n := 64) (by omega) (by decide)) (by decide) ?_
  refine xe_sn pg_132 5 (fr' := (62, [(3, .int (nI (4 * i + c))), (0, .ref 165), (1, .int (nI (i + 1))), (2, .int (nI c))], [.int (nI (4 * i + c)), .ref 181, .int (nI (i + 1)), .ref 165])) rfl ?_
  refine ze_il pg_132 (4 * i + c) (r2.1 181 (4 * i + c)) rfl ⟨by decide, by decide⟩ rfl (bn (by omega) (by decide)) (bc (n := 16) (by omega) (by decide)) rfl ?_
  refine xe_sn pg_132 3 (fr' := (66, [(3, .int (nI (4 * i + c))), (0, .ref 165), (1, .int (nI (i + 1))), (2, .int (nI c))], [.int 0, .int 3, .int (nI c), .int (r2.1 181 (4 * i + c)), .int (nI (i + 1)), .ref 165])) rfl ?_
  obtain ⟨r3, e3, hE⟩ := Option.bind_eq_some_iff.mp hE
  refine xe_cv pg_132 117 pg_117 [.int (nI (i + 1)), .int (r2.1 181 (4 * i + c)), .int (nI c), .int 3, .int 0] [] (none) rfl rfl rfl rfl ⟨Nat.le_of_ble_eq_true rfl, Nat.le_of_ble_eq_true rfl, Nat.le_of_ble_eq_true rfl⟩ ⟨rfl, rfl⟩ ⟨by decide, rfl, by decide⟩ (cg_ship _ (a := (nI (i + 1))) (b := (r2.1 181 (4 * i + c))) (c := (nI c)) (e := 3) (g := 0)  e3) ?_
  cases hE
  exact xe_end pg_132 rfl

def g_begun (V : xVt) (i : Nat) (f : Int32) (c : Nat) : Option xVt := (some (g_pair V 0)).bind fun r1 => (some (g_in r1 1 65520)).bind fun r2 => if r2 = 0 then ((g_destroy V (nI (i + 1)) f (nI c)).bind fun r3 => some r3) else ((some (g_forget V i c)).bind fun r4 => (f_raise r1 ((1 : Int32) + (rem (((r1 * 31) + (nI (977 * i + 977))) + (r4.1 179 (i + 1))) 65519))).bind fun r5 => (f_raise r1 (r4.1 178 (i + 1))).bind fun r6 => (f_raise 17 ((1 : Int32) + (rem (((r1 * 31) + (nI (977 * i + 977))) + (r4.1 179 (i + 1))) 65519))).bind fun r7 => (g_agree (vx (vx (vx r4 180 (4 * i + c) 1) 181 (4 * i + c) f) 179 (i + 1) ((r4.1 179 (i + 1)) + 1)) r5 r6 r1 r7 (nI (i + 1))).bind fun r8 => (some (vbs (vx (vx (vx (vx r8 184 (16 * i + 4 * c) (r8.2.1 188 0)) 184 (16 * i + 4 * c + 1) (r8.2.1 188 1)) 184 (16 * i + 4 * c + 2) (r8.2.1 188 2)) 184 (16 * i + 4 * c + 3) (r8.2.1 188 3)) zf)).bind fun r9 => (f_raise 17 ((1 : Int32) + (rem (((r1 * 31) + (nI (977 * i + 977))) + (r4.1 179 (i + 1))) 65519))).bind fun r10 => (some (g_putPair r9 0 r10)).bind fun r11 => (some (g_putPair r11 2 (r11.2.1 165 28))).bind fun r12 => (g_ship r12 (nI (i + 1)) f (nI c) 2 0).bind fun r13 => some r13)
set_option maxRecDepth 100000 in
theorem cg_begun (d : Nat) {w : xWd} {S : xSt} {V : xVt} {ρ : Nat → Nat → Int64} {i : Nat} {f : Int32} {c : Nat} (hi : i < 4) (hc : c < 4) {r : xVt} (hE : (g_begun V i f c) = some r) : xc (d + 2) 133 [.ref 165, .int (nI (i + 1)), .int f, .int (nI c)] (hv w S V ρ) (.inl (none), hv w S r ρ) := by
  unfold g_begun at hE
  refine xe_sn pg_133 2 (fr' := (2, [(0, .ref 165), (1, .int (nI (i + 1))), (2, .int f), (3, .int (nI c))], [.int 0, .ref 165])) rfl ?_
  obtain ⟨r1, e1, hE⟩ := Option.bind_eq_some_iff.mp hE
  refine xe_cv pg_133 111 pg_111 [.int 0] [] (some (.int r1)) rfl rfl rfl rfl ⟨Nat.le_of_ble_eq_true rfl, Nat.le_of_ble_eq_true rfl, Nat.le_of_ble_eq_true rfl⟩ ⟨rfl, rfl⟩ ⟨by decide, rfl, by decide⟩ (cg_pair _ (k := 0) (by omega) (Option.some.inj e1)) ?_
  refine xe_sn pg_133 4 (fr' := (12, [(4, .int r1), (0, .ref 165), (1, .int (nI (i + 1))), (2, .int f), (3, .int (nI c))], [.int 65520, .int 1, .int r1])) rfl ?_
  obtain ⟨r2, e2, hE⟩ := Option.bind_eq_some_iff.mp hE
  refine xe_callq pg_133 103 [.int r1, .int 1, .int 65520] (.inl (some (.int r2))) (15, [(4, .int r1), (0, .ref 165), (1, .int (nI (i + 1))), (2, .int f), (3, .int (nI c))], [.int r2]) rfl (fun _ => rfl) (cg_in _ (v := r1) (l := 1) (h := 65520)  (Option.some.inj e2)) ?_
  by_cases h1 : r2 = 0
  · rw [if_pos h1] at hE
    refine xe_c1f pg_133 26 rfl rfl (fun z => z h1) ?_
    refine xe_sn pg_133 4 (fr' := (22, [(4, .int r1), (0, .ref 165), (1, .int (nI (i + 1))), (2, .int f), (3, .int (nI c))], [.int (nI c), .int f, .int (nI (i + 1)), .ref 165])) rfl ?_
    obtain ⟨r3, e3, hE⟩ := Option.bind_eq_some_iff.mp hE
    refine xe_cv pg_133 118 pg_118 [.int (nI (i + 1)), .int f, .int (nI c)] [] (none) rfl rfl rfl rfl ⟨Nat.le_of_ble_eq_true rfl, Nat.le_of_ble_eq_true rfl, Nat.le_of_ble_eq_true rfl⟩ ⟨rfl, rfl⟩ ⟨by decide, rfl, by decide⟩ (cg_destroy _ (f := (nI (i + 1))) (t := f) (c := (nI c))  e3) ?_
    cases hE
    exact xe_end pg_133 rfl
  · rw [if_neg h1] at hE
    refine xe_c1t pg_133 26 rfl rfl h1 ?_
    refine xe_sn pg_133 3 (fr' := (29, [(4, .int r1), (0, .ref 165), (1, .int (nI (i + 1))), (2, .int f), (3, .int (nI c))], [.int (nI c), .int (nI (i + 1)), .ref 165])) rfl ?_
    refine xe_cv pg_133 128 pg_128 [.int (nI (i + 1)), .int (nI c)] [] (some (.int (nI (4 * i + c)))) rfl rfl rfl rfl ⟨Nat.le_of_ble_eq_true rfl, Nat.le_of_ble_eq_true rfl, Nat.le_of_ble_eq_true rfl⟩ ⟨rfl, rfl⟩ ⟨by decide, rfl, by decide⟩ (cg_place _ (i := i) (c := c) (by omega) (by omega) rfl) ?_
    refine xe_sn pg_133 4 (fr' := (37, [(5, .int (nI (4 * i + c))), (4, .int r1), (0, .ref 165), (1, .int (nI (i + 1))), (2, .int f), (3, .int (nI c))], [.int (nI c), .int (nI (i + 1)), .ref 165])) rfl ?_
    obtain ⟨r4, e4, hE⟩ := Option.bind_eq_some_iff.mp hE
    refine xe_cv pg_133 129 pg_129 [.int (nI (i + 1)), .int (nI c)] [] (none) rfl rfl rfl rfl ⟨Nat.le_of_ble_eq_true rfl, Nat.le_of_ble_eq_true rfl, Nat.le_of_ble_eq_true rfl⟩ ⟨rfl, rfl⟩ ⟨by decide, rfl, by decide⟩ (cg_forget _ (i := i) (c := c) (by omega) (by omega) (Option.some.inj e4)) ?_
    refine xe_sn pg_133 4 (fr' := (47, [(5, .int (nI (4 * i + c))), (4, .int r1), (0, .ref 165), (1, .int (nI (i + 1))), (2, .int f), (3, .int (nI c))], [.int 1, .int (nI (4 * i + c)), .ref 180])) rfl ?_
    refine ze_bsx pg_133 (4 * i + c) rfl ⟨by decide, by decide⟩ rfl (bn (by omega) (by decide)) (bc (n := 16) (by omega) (by decide)) (Or.inr rfl) (by decide) ?_
    refine xe_sn pg_133 4 (fr' := (55, [(5, .int (nI (4 * i + c))), (4, .int r1), (0, .ref 165), (1, .int (nI (i + 1))), (2, .int f), (3, .int (nI c))], [.int f, .int (nI (4 * i + c)), .ref 181])) rfl ?_
    refine ze_isx pg_133 (4 * i + c) rfl ⟨by decide, by decide⟩ rfl (bn (by omega) (by decide)) (bc (n := 16) (by omega) (by decide)) (by decide) ?_
    refine xe_sn pg_133 6 (fr' := (66, [(5, .int (nI (4 * i + c))), (4, .int r1), (0, .ref 165), (1, .int (nI (i + 1))), (2, .int f), (3, .int (nI c))], [.int (nI (i + 1)), .int 977, .int (r1 * 31), .int 1])) rfl ?_
    refine xe_nm pg_133 977 (i + 1) (977 * i + 977) rfl (by omega) ?_
    refine xe_sn pg_133 4 (fr' := (73, [(5, .int (nI (4 * i + c))), (4, .int r1), (0, .ref 165), (1, .int (nI (i + 1))), (2, .int f), (3, .int (nI c))], [.int (nI (i + 1)), .ref 179, .int ((r1 * 31) + (nI (977 * i + 977))), .int 1])) rfl ?_
    refine ze_il pg_133 (i + 1) (r4.1 179 (i + 1)) rfl ⟨by decide, by decide⟩ rfl (bn (by omega) (by decide)) (bc (n := 5) (by omega) (by decide)) rfl ?_
    refine xe_sn pg_133 9 (fr' := (87, [(6, .int ((1 : Int32) + (rem (((r1 * 31) + (nI (977 * i + 977))) + (r4.1 179 (i + 1))) 65519))), (5, .int (nI (4 * i + c))), (4, .int r1), (0, .ref 165), (1, .int (nI (i + 1))), (2, .int f), (3, .int (nI c))], [.int (nI (i + 1)), .ref 179, .int (nI (i + 1)), .ref 179])) rfl ?_
    refine ze_il pg_133 (i + 1) (r4.1 179 (i + 1)) rfl ⟨by decide, by decide⟩ rfl (bn (by omega) (by decide)) (bc (n := 5) (by omega) (by decide)) rfl ?_
    refine xe_sn pg_133 2 (fr' := (90, [(6, .int ((1 : Int32) + (rem (((r1 * 31) + (nI (977 * i + 977))) + (r4.1 179 (i + 1))) 65519))), (5, .int (nI (4 * i + c))), (4, .int r1), (0, .ref 165), (1, .int (nI (i + 1))), (2, .int f), (3, .int (nI c))], [.int ((r4.1 179 (i + 1)) + 1), .int (nI (i + 1)), .ref 179])) rfl ?_
    refine ze_isx pg_133 (i + 1) rfl ⟨by decide, by decide⟩ rfl (bn (by omega) (by decide)) (bc (n := 5) (by omega) (by decide)) (by decide) ?_
    refine xe_sn pg_133 3 (fr' := (96, [(6, .int ((1 : Int32) + (rem (((r1 * 31) + (nI (977 * i + 977))) + (r4.1 179 (i + 1))) 65519))), (5, .int (nI (4 * i + c))), (4, .int r1), (0, .ref 165), (1, .int (nI (i + 1))), (2, .int f), (3, .int (nI c))], [.int ((1 : Int32) + (rem (((r1 * 31) + (nI (977 * i + 977))) + (r4.1 179 (i + 1))) 65519)), .int r1, .ref 165])) rfl ?_
    obtain ⟨r5, e5, hE⟩ := Option.bind_eq_some_iff.mp hE
    refine xe_callq pg_133 106 [.int r1, .int ((1 : Int32) + (rem (((r1 * 31) + (nI (977 * i + 977))) + (r4.1 179 (i + 1))) 65519))] (.inl (some (.int r5))) (99, [(6, .int ((1 : Int32) + (rem (((r1 * 31) + (nI (977 * i + 977))) + (r4.1 179 (i + 1))) 65519))), (5, .int (nI (4 * i + c))), (4, .int r1), (0, .ref 165), (1, .int (nI (i + 1))), (2, .int f), (3, .int (nI c))], [.int r5, .ref 165]) rfl (fun _ => rfl) (cg_raiseO _ (a := r1) (e := ((1 : Int32) + (rem (((r1 * 31) + (nI (977 * i + 977))) + (r4.1 179 (i + 1))) 65519)))  e5) ?_
    refine xe_sn pg_133 4 (fr' := (106, [(6, .int ((1 : Int32) + (rem (((r1 * 31) + (nI (977 * i + 977))) + (r4.1 179 (i + 1))) 65519))), (5, .int (nI (4 * i + c))), (4, .int r1), (0, .ref 165), (1, .int (nI (i + 1))), (2, .int f), (3, .int (nI c))], [.int (nI (i + 1)), .ref 178, .int r1, .int r5, .ref 165])) rfl ?_
    refine ze_il pg_133 (i + 1) (r4.1 178 (i + 1)) rfl ⟨by decide, by decide⟩ rfl (bn (by omega) (by decide)) (bc (n := 5) (by omega) (by decide)) rfl ?_
    obtain ⟨r6, e6, hE⟩ := Option.bind_eq_some_iff.mp hE
    refine xe_callq pg_133 106 [.int r1, .int (r4.1 178 (i + 1))] (.inl (some (.int r6))) (110, [(6, .int ((1 : Int32) + (rem (((r1 * 31) + (nI (977 * i + 977))) + (r4.1 179 (i + 1))) 65519))), (5, .int (nI (4 * i + c))), (4, .int r1), (0, .ref 165), (1, .int (nI (i + 1))), (2, .int f), (3, .int (nI c))], [.int r6, .int r5, .ref 165]) rfl (fun _ => rfl) (cg_raiseO _ (a := r1) (e := (r4.1 178 (i + 1)))  e6) ?_
    refine xe_sn pg_133 3 (fr' := (116, [(6, .int ((1 : Int32) + (rem (((r1 * 31) + (nI (977 * i + 977))) + (r4.1 179 (i + 1))) 65519))), (5, .int (nI (4 * i + c))), (4, .int r1), (0, .ref 165), (1, .int (nI (i + 1))), (2, .int f), (3, .int (nI c))], [.int ((1 : Int32) + (rem (((r1 * 31) + (nI (977 * i + 977))) + (r4.1 179 (i + 1))) 65519)), .int 17, .int r1, .int r6, .int r5, .ref 165])) rfl ?_
    obtain ⟨r7, e7, hE⟩ := Option.bind_eq_some_iff.mp hE
    refine xe_callq pg_133 106 [.int 17, .int ((1 : Int32) + (rem (((r1 * 31) + (nI (977 * i + 977))) + (r4.1 179 (i + 1))) 65519))] (.inl (some (.int r7))) (119, [(6, .int ((1 : Int32) + (rem (((r1 * 31) + (nI (977 * i + 977))) + (r4.1 179 (i + 1))) 65519))), (5, .int (nI (4 * i + c))), (4, .int r1), (0, .ref 165), (1, .int (nI (i + 1))), (2, .int f), (3, .int (nI c))], [.int r7, .int r1, .int r6, .int r5, .ref 165]) rfl (fun _ => rfl) (cg_raiseO _ (a := 17) (e := ((1 : Int32) + (rem (((r1 * 31) + (nI (977 * i + 977))) + (r4.1 179 (i + 1))) 65519)))  e7) ?_
    refine xe_sn pg_133 1 (fr' := (120, [(6, .int ((1 : Int32) + (rem (((r1 * 31) + (nI (977 * i + 977))) + (r4.1 179 (i + 1))) 65519))), (5, .int (nI (4 * i + c))), (4, .int r1), (0, .ref 165), (1, .int (nI (i + 1))), (2, .int f), (3, .int (nI c))], [.int (nI (i + 1)), .int r7, .int r1, .int r6, .int r5, .ref 165])) rfl ?_
    obtain ⟨r8, e8, hE⟩ := Option.bind_eq_some_iff.mp hE
    refine xe_cv pg_133 108 pg_108 [.int r5, .int r6, .int r1, .int r7, .int (nI (i + 1))] [] (none) rfl rfl rfl rfl ⟨Nat.le_of_ble_eq_true rfl, Nat.le_of_ble_eq_true rfl, Nat.le_of_ble_eq_true rfl⟩ ⟨rfl, rfl⟩ ⟨by decide, rfl, by decide⟩ (cg_agree _ (s := r5) (t := r6) (x := r1) (y := r7) (n := (nI (i + 1)))  e8) ?_
    refine xe_sn pg_133 9 (fr' := (139, [(7, .int 0), (6, .int ((1 : Int32) + (rem (((r1 * 31) + (nI (977 * i + 977))) + (r4.1 179 (i + 1))) 65519))), (5, .int (nI (4 * i + c))), (4, .int r1), (0, .ref 165), (1, .int (nI (i + 1))), (2, .int f), (3, .int (nI c))], [.int (nI (4 * i + c)), .int 4, .ref 184])) rfl ?_
    refine xe_nm pg_133 4 (4 * i + c) (16 * i + 4 * c) rfl (by omega) ?_
    refine xe_sn pg_133 1 (fr' := (142, [(7, .int 0), (6, .int ((1 : Int32) + (rem (((r1 * 31) + (nI (977 * i + 977))) + (r4.1 179 (i + 1))) 65519))), (5, .int (nI (4 * i + c))), (4, .int r1), (0, .ref 165), (1, .int (nI (i + 1))), (2, .int f), (3, .int (nI c))], [.int 0, .int (nI (16 * i + 4 * c)), .ref 184])) rfl ?_
    refine xe_na pg_133 (16 * i + 4 * c) 0 (16 * i + 4 * c) rfl (by omega) ?_
    refine xe_sn pg_133 3 (fr' := (149, [(7, .int 0), (6, .int ((1 : Int32) + (rem (((r1 * 31) + (nI (977 * i + 977))) + (r4.1 179 (i + 1))) 65519))), (5, .int (nI (4 * i + c))), (4, .int r1), (0, .ref 165), (1, .int (nI (i + 1))), (2, .int f), (3, .int (nI c))], [.int 0, .ref 188, .int (nI (16 * i + 4 * c)), .ref 184])) rfl ?_
    refine ze_il pg_133 0 (r8.2.1 188 0) rfl ⟨by decide, by decide⟩ rfl ⟨by decide, by decide⟩ rfl rfl ?_
    refine ze_isx pg_133 (16 * i + 4 * c) rfl ⟨by decide, by decide⟩ rfl (bn (by omega) (by decide)) (bc (n := 64) (by omega) (by decide)) (by decide) ?_
    refine xe_sn pg_133 2 (fr' := (126, [(7, .int 1), (6, .int ((1 : Int32) + (rem (((r1 * 31) + (nI (977 * i + 977))) + (r4.1 179 (i + 1))) 65519))), (5, .int (nI (4 * i + c))), (4, .int r1), (0, .ref 165), (1, .int (nI (i + 1))), (2, .int f), (3, .int (nI c))], [])) rfl ?_
    refine xe_sn pg_133 7 (fr' := (139, [(7, .int 1), (6, .int ((1 : Int32) + (rem (((r1 * 31) + (nI (977 * i + 977))) + (r4.1 179 (i + 1))) 65519))), (5, .int (nI (4 * i + c))), (4, .int r1), (0, .ref 165), (1, .int (nI (i + 1))), (2, .int f), (3, .int (nI c))], [.int (nI (4 * i + c)), .int 4, .ref 184])) rfl ?_
    refine xe_nm pg_133 4 (4 * i + c) (16 * i + 4 * c) rfl (by omega) ?_
    refine xe_sn pg_133 1 (fr' := (142, [(7, .int 1), (6, .int ((1 : Int32) + (rem (((r1 * 31) + (nI (977 * i + 977))) + (r4.1 179 (i + 1))) 65519))), (5, .int (nI (4 * i + c))), (4, .int r1), (0, .ref 165), (1, .int (nI (i + 1))), (2, .int f), (3, .int (nI c))], [.int 1, .int (nI (16 * i + 4 * c)), .ref 184])) rfl ?_
    refine xe_na pg_133 (16 * i + 4 * c) 1 (16 * i + 4 * c + 1) rfl (by omega) ?_
    refine xe_sn pg_133 3 (fr' := (149, [(7, .int 1), (6, .int ((1 : Int32) + (rem (((r1 * 31) + (nI (977 * i + 977))) + (r4.1 179 (i + 1))) 65519))), (5, .int (nI (4 * i + c))), (4, .int r1), (0, .ref 165), (1, .int (nI (i + 1))), (2, .int f), (3, .int (nI c))], [.int 1, .ref 188, .int (nI (16 * i + 4 * c + 1)), .ref 184])) rfl ?_
    refine ze_il pg_133 1 (r8.2.1 188 1) rfl ⟨by decide, by decide⟩ rfl ⟨by decide, by decide⟩ rfl rfl ?_
    refine ze_isx pg_133 (16 * i + 4 * c + 1) rfl ⟨by decide, by decide⟩ rfl (bn (by omega) (by decide)) (bc (n := 64) (by omega) (by decide)) (by decide) ?_
    refine xe_sn pg_133 2 (fr' := (126, [(7, .int 2), (6, .int ((1 : Int32) + (rem (((r1 * 31) + (nI (977 * i + 977))) + (r4.1 179 (i + 1))) 65519))), (5, .int (nI (4 * i + c))), (4, .int r1), (0, .ref 165), (1, .int (nI (i + 1))), (2, .int f), (3, .int (nI c))], [])) rfl ?_
    refine xe_sn pg_133 7 (fr' := (139, [(7, .int 2), (6, .int ((1 : Int32) + (rem (((r1 * 31) + (nI (977 * i + 977))) + (r4.1 179 (i + 1))) 65519))), (5, .int (nI (4 * i + c))), (4, .int r1), (0, .ref 165), (1, .int (nI (i + 1))), (2, .int f), (3, .int (nI c))], [.int (nI (4 * i + c)), .int 4, .ref 184])) rfl ?_
    refine xe_nm pg_133 4 (4 * i + c) (16 * i + 4 * c) rfl (by omega) ?_
    refine xe_sn pg_133 1 (fr' := (142, [(7, .int 2), (6, .int ((1 : Int32) + (rem (((r1 * 31) + (nI (977 * i + 977))) + (r4.1 179 (i + 1))) 65519))), (5, .int (nI (4 * i + c))), (4, .int r1), (0, .ref 165), (1, .int (nI (i + 1))), (2, .int f), (3, .int (nI c))], [.int 2, .int (nI (16 * i + 4 * c)), .ref 184])) rfl ?_
    refine xe_na pg_133 (16 * i + 4 * c) 2 (16 * i + 4 * c + 2) rfl (by omega) ?_
    refine xe_sn pg_133 3 (fr' := (149, [(7, .int 2), (6, .int ((1 : Int32) + (rem (((r1 * 31) + (nI (977 * i + 977))) + (r4.1 179 (i + 1))) 65519))), (5, .int (nI (4 * i + c))), (4, .int r1), (0, .ref 165), (1, .int (nI (i + 1))), (2, .int f), (3, .int (nI c))], [.int 2, .ref 188, .int (nI (16 * i + 4 * c + 2)), .ref 184])) rfl ?_
    refine ze_il pg_133 2 (r8.2.1 188 2) rfl ⟨by decide, by decide⟩ rfl ⟨by decide, by decide⟩ rfl rfl ?_
    refine ze_isx pg_133 (16 * i + 4 * c + 2) rfl ⟨by decide, by decide⟩ rfl (bn (by omega) (by decide)) (bc (n := 64) (by omega) (by decide)) (by decide) ?_
    refine xe_sn pg_133 2 (fr' := (126, [(7, .int 3), (6, .int ((1 : Int32) + (rem (((r1 * 31) + (nI (977 * i + 977))) + (r4.1 179 (i + 1))) 65519))), (5, .int (nI (4 * i + c))), (4, .int r1), (0, .ref 165), (1, .int (nI (i + 1))), (2, .int f), (3, .int (nI c))], [])) rfl ?_
    refine xe_sn pg_133 7 (fr' := (139, [(7, .int 3), (6, .int ((1 : Int32) + (rem (((r1 * 31) + (nI (977 * i + 977))) + (r4.1 179 (i + 1))) 65519))), (5, .int (nI (4 * i + c))), (4, .int r1), (0, .ref 165), (1, .int (nI (i + 1))), (2, .int f), (3, .int (nI c))], [.int (nI (4 * i + c)), .int 4, .ref 184])) rfl ?_
    refine xe_nm pg_133 4 (4 * i + c) (16 * i + 4 * c) rfl (by omega) ?_
    refine xe_sn pg_133 1 (fr' := (142, [(7, .int 3), (6, .int ((1 : Int32) + (rem (((r1 * 31) + (nI (977 * i + 977))) + (r4.1 179 (i + 1))) 65519))), (5, .int (nI (4 * i + c))), (4, .int r1), (0, .ref 165), (1, .int (nI (i + 1))), (2, .int f), (3, .int (nI c))], [.int 3, .int (nI (16 * i + 4 * c)), .ref 184])) rfl ?_
    refine xe_na pg_133 (16 * i + 4 * c) 3 (16 * i + 4 * c + 3) rfl (by omega) ?_
    refine xe_sn pg_133 3 (fr' := (149, [(7, .int 3), (6, .int ((1 : Int32) + (rem (((r1 * 31) + (nI (977 * i + 977))) + (r4.1 179 (i + 1))) 65519))), (5, .int (nI (4 * i + c))), (4, .int r1), (0, .ref 165), (1, .int (nI (i + 1))), (2, .int f), (3, .int (nI c))], [.int 3, .ref 188, .int (nI (16 * i + 4 * c + 3)), .ref 184])) rfl ?_
    refine ze_il pg_133 3 (r8.2.1 188 3) rfl ⟨by decide, by decide⟩ rfl ⟨by decide, by decide⟩ rfl rfl ?_
    refine ze_isx pg_133 (16 * i + 4 * c + 3) rfl ⟨by decide, by decide⟩ rfl (bn (by omega) (by decide)) (bc (n := 64) (by omega) (by decide)) (by decide) ?_
    refine xe_sn pg_133 2 (fr' := (126, [(7, .int 4), (6, .int ((1 : Int32) + (rem (((r1 * 31) + (nI (977 * i + 977))) + (r4.1 179 (i + 1))) 65519))), (5, .int (nI (4 * i + c))), (4, .int r1), (0, .ref 165), (1, .int (nI (i + 1))), (2, .int f), (3, .int (nI c))], [])) rfl ?_
    refine xe_sn pg_133 4 (fr' := (158, [(7, .int 4), (6, .int ((1 : Int32) + (rem (((r1 * 31) + (nI (977 * i + 977))) + (r4.1 179 (i + 1))) 65519))), (5, .int (nI (4 * i + c))), (4, .int r1), (0, .ref 165), (1, .int (nI (i + 1))), (2, .int f), (3, .int (nI c))], [.ref 165])) rfl ?_
    obtain ⟨r9, e9, hE⟩ := Option.bind_eq_some_iff.mp hE
    have e9q := Option.some.inj e9
    refine xe_cv pg_133 113 pg_113 [] [] (none) rfl rfl rfl rfl ⟨Nat.le_of_ble_eq_true rfl, Nat.le_of_ble_eq_true rfl, Nat.le_of_ble_eq_true rfl⟩ ⟨rfl, rfl⟩ ⟨by decide, rfl, by decide⟩ (e9q ▸ cg_clr _ ) ?_
    refine xe_sn pg_133 4 (fr' := (167, [(7, .int 4), (6, .int ((1 : Int32) + (rem (((r1 * 31) + (nI (977 * i + 977))) + (r4.1 179 (i + 1))) 65519))), (5, .int (nI (4 * i + c))), (4, .int r1), (0, .ref 165), (1, .int (nI (i + 1))), (2, .int f), (3, .int (nI c))], [.int ((1 : Int32) + (rem (((r1 * 31) + (nI (977 * i + 977))) + (r4.1 179 (i + 1))) 65519)), .int 17, .int 0, .ref 165])) rfl ?_
    obtain ⟨r10, e10, hE⟩ := Option.bind_eq_some_iff.mp hE
    refine xe_callq pg_133 106 [.int 17, .int ((1 : Int32) + (rem (((r1 * 31) + (nI (977 * i + 977))) + (r4.1 179 (i + 1))) 65519))] (.inl (some (.int r10))) (170, [(7, .int 4), (6, .int ((1 : Int32) + (rem (((r1 * 31) + (nI (977 * i + 977))) + (r4.1 179 (i + 1))) 65519))), (5, .int (nI (4 * i + c))), (4, .int r1), (0, .ref 165), (1, .int (nI (i + 1))), (2, .int f), (3, .int (nI c))], [.int r10, .int 0, .ref 165]) rfl (fun _ => rfl) (cg_raiseO _ (a := 17) (e := ((1 : Int32) + (rem (((r1 * 31) + (nI (977 * i + 977))) + (r4.1 179 (i + 1))) 65519)))  e10) ?_
    obtain ⟨r11, e11, hE⟩ := Option.bind_eq_some_iff.mp hE
    refine xe_cv pg_133 112 pg_112 [.int 0, .int r10] [] (none) rfl rfl rfl rfl ⟨Nat.le_of_ble_eq_true rfl, Nat.le_of_ble_eq_true rfl, Nat.le_of_ble_eq_true rfl⟩ ⟨rfl, rfl⟩ ⟨by decide, rfl, by decide⟩ (cg_putPair _ (k := 0) (v := r10) (by omega) (Option.some.inj e11)) ?_
    refine xe_sn pg_133 3 (fr' := (176, [(7, .int 4), (6, .int ((1 : Int32) + (rem (((r1 * 31) + (nI (977 * i + 977))) + (r4.1 179 (i + 1))) 65519))), (5, .int (nI (4 * i + c))), (4, .int r1), (0, .ref 165), (1, .int (nI (i + 1))), (2, .int f), (3, .int (nI c))], [.ref 165, .int 2, .ref 165])) rfl ?_
    refine ze_gi pg_133 (r11.2.1 165 28) rfl rfl rfl rfl ?_
    obtain ⟨r12, e12, hE⟩ := Option.bind_eq_some_iff.mp hE
    refine xe_cv pg_133 112 pg_112 [.int 2, .int (r11.2.1 165 28)] [] (none) rfl rfl rfl rfl ⟨Nat.le_of_ble_eq_true rfl, Nat.le_of_ble_eq_true rfl, Nat.le_of_ble_eq_true rfl⟩ ⟨rfl, rfl⟩ ⟨by decide, rfl, by decide⟩ (cg_putPair _ (k := 2) (v := (r11.2.1 165 28)) (by omega) (Option.some.inj e12)) ?_
    refine xe_sn pg_133 6 (fr' := (188, [(7, .int 4), (6, .int ((1 : Int32) + (rem (((r1 * 31) + (nI (977 * i + 977))) + (r4.1 179 (i + 1))) 65519))), (5, .int (nI (4 * i + c))), (4, .int r1), (0, .ref 165), (1, .int (nI (i + 1))), (2, .int f), (3, .int (nI c))], [.int 0, .int 2, .int (nI c), .int f, .int (nI (i + 1)), .ref 165])) rfl ?_
    obtain ⟨r13, e13, hE⟩ := Option.bind_eq_some_iff.mp hE
    refine xe_cv pg_133 117 pg_117 [.int (nI (i + 1)), .int f, .int (nI c), .int 2, .int 0] [] (none) rfl rfl rfl rfl ⟨Nat.le_of_ble_eq_true rfl, Nat.le_of_ble_eq_true rfl, Nat.le_of_ble_eq_true rfl⟩ ⟨rfl, rfl⟩ ⟨by decide, rfl, by decide⟩ (cg_ship _ (a := (nI (i + 1))) (b := f) (c := (nI c)) (e := 2) (g := 0)  e13) ?_
    cases hE
    exact xe_end pg_133 rfl

def g_extendAt (V : xVt) (i : Nat) (c : Nat) : Option xVt := (some (g_pair V 8)).bind fun r1 => (some (g_isRelay (V.2.2.2 7))).bind fun r2 => if r2 = 0 then ((g_tear V i c).bind fun r3 => some r3) else (if (V.2.2.2 7) = (nI (i + 1)) then ((g_tear V i c).bind fun r4 => some r4) else (if (V.2.2.2 7) = (V.1 181 (4 * i + c)) then ((g_tear V i c).bind fun r5 => some r5) else (if 0 ≤ (V.1 182 (4 * i + c)) then ((g_tear V i c).bind fun r6 => some r6) else (if (V.1 183 (4 * i + c)) < 0 then ((some (vbs (vx V 183 (4 * i + c) (V.2.2.2 7)) zf)).bind fun r7 => (some (g_putPair r7 0 r1)).bind fun r8 => (g_ship r8 (nI (i + 1)) (V.2.2.2 7) (nI c) 1 0).bind fun r9 => some r9) else ((g_tear V i c).bind fun r10 => some r10)))))
set_option maxRecDepth 100000 in
theorem cg_extendAt (d : Nat) {w : xWd} {S : xSt} {V : xVt} {ρ : Nat → Nat → Int64} {i : Nat} {c : Nat} (hi : i < 4) (hc : c < 4) {r : xVt} (hE : (g_extendAt V i c) = some r) : xc (d + 4) 134 [.ref 165, .int (nI (i + 1)), .int (nI c)] (hv w S V ρ) (.inl (none), hv w S r ρ) := by
  unfold g_extendAt at hE
  refine xe_sn pg_134 3 (fr' := (3, [(0, .ref 165), (1, .int (nI (i + 1))), (2, .int (nI c))], [.int (nI c), .int (nI (i + 1)), .ref 165])) rfl ?_
  refine xe_cv pg_134 128 pg_128 [.int (nI (i + 1)), .int (nI c)] [] (some (.int (nI (4 * i + c)))) rfl rfl rfl rfl ⟨Nat.le_of_ble_eq_true rfl, Nat.le_of_ble_eq_true rfl, Nat.le_of_ble_eq_true rfl⟩ ⟨rfl, rfl⟩ ⟨by decide, rfl, by decide⟩ (cg_place _ (i := i) (c := c) (by omega) (by omega) rfl) ?_
  refine xe_sn pg_134 4 (fr' := (13, [(3, .int (nI (4 * i + c))), (0, .ref 165), (1, .int (nI (i + 1))), (2, .int (nI c))], [.int 7, .ref 187])) rfl ?_
  refine ze_ib pg_134 7 (V.2.2.2 7) rfl (by decide) ⟨by decide, by decide⟩ rfl rfl ?_
  refine xe_sn pg_134 3 (fr' := (19, [(4, .int (V.2.2.2 7)), (3, .int (nI (4 * i + c))), (0, .ref 165), (1, .int (nI (i + 1))), (2, .int (nI c))], [.int 8, .ref 165])) rfl ?_
  obtain ⟨r1, e1, hE⟩ := Option.bind_eq_some_iff.mp hE
  refine xe_cv pg_134 111 pg_111 [.int 8] [] (some (.int r1)) rfl rfl rfl rfl ⟨Nat.le_of_ble_eq_true rfl, Nat.le_of_ble_eq_true rfl, Nat.le_of_ble_eq_true rfl⟩ ⟨rfl, rfl⟩ ⟨by decide, rfl, by decide⟩ (cg_pair _ (k := 8) (by omega) (Option.some.inj e1)) ?_
  refine xe_sn pg_134 2 (fr' := (26, [(5, .int r1), (4, .int (V.2.2.2 7)), (3, .int (nI (4 * i + c))), (0, .ref 165), (1, .int (nI (i + 1))), (2, .int (nI c))], [.int (V.2.2.2 7)])) rfl ?_
  obtain ⟨r2, e2, hE⟩ := Option.bind_eq_some_iff.mp hE
  refine xe_callq pg_134 105 [.int (V.2.2.2 7)] (.inl (some (.int r2))) (29, [(5, .int r1), (4, .int (V.2.2.2 7)), (3, .int (nI (4 * i + c))), (0, .ref 165), (1, .int (nI (i + 1))), (2, .int (nI c))], [.int r2]) rfl (fun _ => rfl) (cg_isRelay _ (v := (V.2.2.2 7))  (Option.some.inj e2)) ?_
  by_cases h1 : r2 = 0
  · rw [if_pos h1] at hE
    refine xe_c1t pg_134 67 rfl rfl h1 ?_
    refine xe_sn pg_134 3 (fr' := (70, [(5, .int r1), (4, .int (V.2.2.2 7)), (3, .int (nI (4 * i + c))), (0, .ref 165), (1, .int (nI (i + 1))), (2, .int (nI c))], [.int (nI c), .int (nI (i + 1)), .ref 165])) rfl ?_
    obtain ⟨r3, e3, hE⟩ := Option.bind_eq_some_iff.mp hE
    refine xe_cv pg_134 131 pg_131 [.int (nI (i + 1)), .int (nI c)] [] (none) rfl rfl rfl rfl ⟨Nat.le_of_ble_eq_true rfl, Nat.le_of_ble_eq_true rfl, Nat.le_of_ble_eq_true rfl⟩ ⟨rfl, rfl⟩ ⟨by decide, rfl, by decide⟩ (cg_tear _ (i := i) (c := c) (by omega) (by omega) e3) ?_
    cases hE
    exact xe_end pg_134 rfl
  · rw [if_neg h1] at hE
    refine xe_c1f pg_134 67 rfl rfl h1 ?_
    refine xe_sn pg_134 2 (fr' := (35, [(5, .int r1), (4, .int (V.2.2.2 7)), (3, .int (nI (4 * i + c))), (0, .ref 165), (1, .int (nI (i + 1))), (2, .int (nI c))], [.int (nI (i + 1)), .int (V.2.2.2 7)])) rfl ?_
    by_cases h2 : (V.2.2.2 7) = (nI (i + 1))
    · rw [if_pos h2] at hE
      refine xe_c2t pg_134 67 rfl rfl h2 ?_
      refine xe_sn pg_134 3 (fr' := (70, [(5, .int r1), (4, .int (V.2.2.2 7)), (3, .int (nI (4 * i + c))), (0, .ref 165), (1, .int (nI (i + 1))), (2, .int (nI c))], [.int (nI c), .int (nI (i + 1)), .ref 165])) rfl ?_
      obtain ⟨r4, e4, hE⟩ := Option.bind_eq_some_iff.mp hE
      refine xe_cv pg_134 131 pg_131 [.int (nI (i + 1)), .int (nI c)] [] (none) rfl rfl rfl rfl ⟨Nat.le_of_ble_eq_true rfl, Nat.le_of_ble_eq_true rfl, Nat.le_of_ble_eq_true rfl⟩ ⟨rfl, rfl⟩ ⟨by decide, rfl, by decide⟩ (cg_tear _ (i := i) (c := c) (by omega) (by omega) e4) ?_
      cases hE
      exact xe_end pg_134 rfl
    · rw [if_neg h2] at hE
      refine xe_c2f pg_134 67 rfl rfl h2 ?_
      refine xe_sn pg_134 4 (fr' := (45, [(5, .int r1), (4, .int (V.2.2.2 7)), (3, .int (nI (4 * i + c))), (0, .ref 165), (1, .int (nI (i + 1))), (2, .int (nI c))], [.int (nI (4 * i + c)), .ref 181, .int (V.2.2.2 7)])) rfl ?_
      refine ze_il pg_134 (4 * i + c) (V.1 181 (4 * i + c)) rfl ⟨by decide, by decide⟩ rfl (bn (by omega) (by decide)) (bc (n := 16) (by omega) (by decide)) rfl ?_
      by_cases h3 : (V.2.2.2 7) = (V.1 181 (4 * i + c))
      · rw [if_pos h3] at hE
        refine xe_c2t pg_134 67 rfl rfl h3 ?_
        refine xe_sn pg_134 3 (fr' := (70, [(5, .int r1), (4, .int (V.2.2.2 7)), (3, .int (nI (4 * i + c))), (0, .ref 165), (1, .int (nI (i + 1))), (2, .int (nI c))], [.int (nI c), .int (nI (i + 1)), .ref 165])) rfl ?_
        obtain ⟨r5, e5, hE⟩ := Option.bind_eq_some_iff.mp hE
        refine xe_cv pg_134 131 pg_131 [.int (nI (i + 1)), .int (nI c)] [] (none) rfl rfl rfl rfl ⟨Nat.le_of_ble_eq_true rfl, Nat.le_of_ble_eq_true rfl, Nat.le_of_ble_eq_true rfl⟩ ⟨rfl, rfl⟩ ⟨by decide, rfl, by decide⟩ (cg_tear _ (i := i) (c := c) (by omega) (by omega) e5) ?_
        cases hE
        exact xe_end pg_134 rfl
      · rw [if_neg h3] at hE
        refine xe_c2f pg_134 67 rfl rfl h3 ?_
        refine xe_sn pg_134 3 (fr' := (54, [(5, .int r1), (4, .int (V.2.2.2 7)), (3, .int (nI (4 * i + c))), (0, .ref 165), (1, .int (nI (i + 1))), (2, .int (nI c))], [.int (nI (4 * i + c)), .ref 182])) rfl ?_
        refine ze_il pg_134 (4 * i + c) (V.1 182 (4 * i + c)) rfl ⟨by decide, by decide⟩ rfl (bn (by omega) (by decide)) (bc (n := 16) (by omega) (by decide)) rfl ?_
        by_cases h4 : 0 ≤ (V.1 182 (4 * i + c))
        · rw [if_pos h4] at hE
          refine xe_c1t pg_134 67 rfl rfl h4 ?_
          refine xe_sn pg_134 3 (fr' := (70, [(5, .int r1), (4, .int (V.2.2.2 7)), (3, .int (nI (4 * i + c))), (0, .ref 165), (1, .int (nI (i + 1))), (2, .int (nI c))], [.int (nI c), .int (nI (i + 1)), .ref 165])) rfl ?_
          obtain ⟨r6, e6, hE⟩ := Option.bind_eq_some_iff.mp hE
          refine xe_cv pg_134 131 pg_131 [.int (nI (i + 1)), .int (nI c)] [] (none) rfl rfl rfl rfl ⟨Nat.le_of_ble_eq_true rfl, Nat.le_of_ble_eq_true rfl, Nat.le_of_ble_eq_true rfl⟩ ⟨rfl, rfl⟩ ⟨by decide, rfl, by decide⟩ (cg_tear _ (i := i) (c := c) (by omega) (by omega) e6) ?_
          cases hE
          exact xe_end pg_134 rfl
        · rw [if_neg h4] at hE
          refine xe_c1f pg_134 67 rfl rfl h4 ?_
          refine xe_sn pg_134 3 (fr' := (63, [(5, .int r1), (4, .int (V.2.2.2 7)), (3, .int (nI (4 * i + c))), (0, .ref 165), (1, .int (nI (i + 1))), (2, .int (nI c))], [.int (nI (4 * i + c)), .ref 183])) rfl ?_
          refine ze_il pg_134 (4 * i + c) (V.1 183 (4 * i + c)) rfl ⟨by decide, by decide⟩ rfl (bn (by omega) (by decide)) (bc (n := 16) (by omega) (by decide)) rfl ?_
          by_cases h5 : (V.1 183 (4 * i + c)) < 0
          · rw [if_pos h5] at hE
            refine xe_c1t pg_134 74 rfl rfl h5 ?_
            refine xe_sn pg_134 4 (fr' := (81, [(5, .int r1), (4, .int (V.2.2.2 7)), (3, .int (nI (4 * i + c))), (0, .ref 165), (1, .int (nI (i + 1))), (2, .int (nI c))], [.int (V.2.2.2 7), .int (nI (4 * i + c)), .ref 183])) rfl ?_
            refine ze_isx pg_134 (4 * i + c) rfl ⟨by decide, by decide⟩ rfl (bn (by omega) (by decide)) (bc (n := 16) (by omega) (by decide)) (by decide) ?_
            refine xe_sn pg_134 1 (fr' := (83, [(5, .int r1), (4, .int (V.2.2.2 7)), (3, .int (nI (4 * i + c))), (0, .ref 165), (1, .int (nI (i + 1))), (2, .int (nI c))], [.ref 165])) rfl ?_
            obtain ⟨r7, e7, hE⟩ := Option.bind_eq_some_iff.mp hE
            have e7q := Option.some.inj e7
            refine xe_cv pg_134 113 pg_113 [] [] (none) rfl rfl rfl rfl ⟨Nat.le_of_ble_eq_true rfl, Nat.le_of_ble_eq_true rfl, Nat.le_of_ble_eq_true rfl⟩ ⟨rfl, rfl⟩ ⟨by decide, rfl, by decide⟩ (e7q ▸ cg_clr _ ) ?_
            refine xe_sn pg_134 3 (fr' := (90, [(5, .int r1), (4, .int (V.2.2.2 7)), (3, .int (nI (4 * i + c))), (0, .ref 165), (1, .int (nI (i + 1))), (2, .int (nI c))], [.int r1, .int 0, .ref 165])) rfl ?_
            obtain ⟨r8, e8, hE⟩ := Option.bind_eq_some_iff.mp hE
            refine xe_cv pg_134 112 pg_112 [.int 0, .int r1] [] (none) rfl rfl rfl rfl ⟨Nat.le_of_ble_eq_true rfl, Nat.le_of_ble_eq_true rfl, Nat.le_of_ble_eq_true rfl⟩ ⟨rfl, rfl⟩ ⟨by decide, rfl, by decide⟩ (cg_putPair _ (k := 0) (v := r1) (by omega) (Option.some.inj e8)) ?_
            refine xe_sn pg_134 6 (fr' := (100, [(5, .int r1), (4, .int (V.2.2.2 7)), (3, .int (nI (4 * i + c))), (0, .ref 165), (1, .int (nI (i + 1))), (2, .int (nI c))], [.int 0, .int 1, .int (nI c), .int (V.2.2.2 7), .int (nI (i + 1)), .ref 165])) rfl ?_
            obtain ⟨r9, e9, hE⟩ := Option.bind_eq_some_iff.mp hE
            refine xe_cv pg_134 117 pg_117 [.int (nI (i + 1)), .int (V.2.2.2 7), .int (nI c), .int 1, .int 0] [] (none) rfl rfl rfl rfl ⟨Nat.le_of_ble_eq_true rfl, Nat.le_of_ble_eq_true rfl, Nat.le_of_ble_eq_true rfl⟩ ⟨rfl, rfl⟩ ⟨by decide, rfl, by decide⟩ (cg_ship _ (a := (nI (i + 1))) (b := (V.2.2.2 7)) (c := (nI c)) (e := 1) (g := 0)  e9) ?_
            cases hE
            exact xe_end pg_134 rfl
          · rw [if_neg h5] at hE
            refine xe_c1f pg_134 74 rfl rfl h5 ?_
            refine xe_sn pg_134 3 (fr' := (70, [(5, .int r1), (4, .int (V.2.2.2 7)), (3, .int (nI (4 * i + c))), (0, .ref 165), (1, .int (nI (i + 1))), (2, .int (nI c))], [.int (nI c), .int (nI (i + 1)), .ref 165])) rfl ?_
            obtain ⟨r10, e10, hE⟩ := Option.bind_eq_some_iff.mp hE
            refine xe_cv pg_134 131 pg_131 [.int (nI (i + 1)), .int (nI c)] [] (none) rfl rfl rfl rfl ⟨Nat.le_of_ble_eq_true rfl, Nat.le_of_ble_eq_true rfl, Nat.le_of_ble_eq_true rfl⟩ ⟨rfl, rfl⟩ ⟨by decide, rfl, by decide⟩ (cg_tear _ (i := i) (c := c) (by omega) (by omega) e10) ?_
            cases hE
            exact xe_end pg_134 rfl

def g_dataAt (V : xVt) (i : Nat) (c : Nat) (s : Int32) (op : Int32) : Option xVt := if op = 0 then ((g_order V 6 s 0).bind fun r1 => (g_relaySends r1 i c).bind fun r2 => some r2) else ((g_relaySends (vb (vb (vb (vb (vb (vb (vb V 7 (if (V.2.2.2 6) ≤ 0 then (0 : Int32) else ((V.2.2.2 7) ^^^ 255))) 8 (if (V.2.2.2 6) ≤ 1 then (0 : Int32) else ((V.2.2.2 8) ^^^ 255))) 9 (if (V.2.2.2 6) ≤ 2 then (0 : Int32) else ((V.2.2.2 9) ^^^ 255))) 10 (if (V.2.2.2 6) ≤ 3 then (0 : Int32) else ((V.2.2.2 10) ^^^ 255))) 11 (if (V.2.2.2 6) ≤ 4 then (0 : Int32) else ((V.2.2.2 11) ^^^ 255))) 12 (if (V.2.2.2 6) ≤ 5 then (0 : Int32) else ((V.2.2.2 12) ^^^ 255))) 13 (if (V.2.2.2 6) ≤ 6 then (0 : Int32) else ((V.2.2.2 13) ^^^ 255))) i c).bind fun r3 => if bnd (((nI (12 * i + 3 * c)) + s) - 1) 48 then (if (rem ((r3.2.1 186 (((nI (12 * i + 3 * c)) + s) - 1).toNatClampNeg) + 1) 2) = 0 then ((g_order (vx (vn r3 186 (((nI (12 * i + 3 * c)) + s) - 1).toNatClampNeg ((r3.2.1 186 (((nI (12 * i + 3 * c)) + s) - 1).toNatClampNeg) + 1)) 191 (((nI (12 * i + 3 * c)) + s) - 1).toNatClampNeg ((r3.2.1 186 (((nI (12 * i + 3 * c)) + s) - 1).toNatClampNeg) + 1)) 7 s 0).bind fun r4 => (g_relaySends r4 i c).bind fun r5 => some r5) else (some (vx (vn r3 186 (((nI (12 * i + 3 * c)) + s) - 1).toNatClampNeg ((r3.2.1 186 (((nI (12 * i + 3 * c)) + s) - 1).toNatClampNeg) + 1)) 191 (((nI (12 * i + 3 * c)) + s) - 1).toNatClampNeg ((r3.2.1 186 (((nI (12 * i + 3 * c)) + s) - 1).toNatClampNeg) + 1)))) else none)
set_option maxRecDepth 100000 in
theorem cg_dataAt (d : Nat) {w : xWd} {S : xSt} {V : xVt} {ρ : Nat → Nat → Int64} {i : Nat} {c : Nat} {s : Int32} {op : Int32} (hi : i < 4) (hc : c < 4) {r : xVt} (hE : (g_dataAt V i c s op) = some r) : xc (d + 4) 135 [.ref 165, .int (nI (i + 1)), .int (nI c), .int s, .int op] (hv w S V ρ) (.inl (none), hv w S r ρ) := by
  unfold g_dataAt at hE
  refine xe_sn pg_135 4 (fr' := (4, [(0, .ref 165), (1, .int (nI (i + 1))), (2, .int (nI c)), (3, .int s), (4, .int op)], [.int (nI c), .int (nI (i + 1)), .ref 165, .int 3])) rfl ?_
  refine xe_cv pg_135 128 pg_128 [.int (nI (i + 1)), .int (nI c)] [.int 3] (some (.int (nI (4 * i + c)))) rfl rfl rfl rfl ⟨Nat.le_of_ble_eq_true rfl, Nat.le_of_ble_eq_true rfl, Nat.le_of_ble_eq_true rfl⟩ ⟨rfl, rfl⟩ ⟨by decide, rfl, by decide⟩ (cg_place _ (i := i) (c := c) (by omega) (by omega) rfl) ?_
  refine xe_nm pg_135 3 (4 * i + c) (12 * i + 3 * c) rfl (by omega) ?_
  refine xe_sn pg_135 6 (fr' := (16, [(5, .int (((nI (12 * i + 3 * c)) + s) - 1)), (0, .ref 165), (1, .int (nI (i + 1))), (2, .int (nI c)), (3, .int s), (4, .int op)], [.int op])) rfl ?_
  by_cases h1 : op = 0
  · rw [if_pos h1] at hE
    refine xe_c1f pg_135 34 rfl rfl (fun z => z h1) ?_
    refine xe_sn pg_135 4 (fr' := (24, [(5, .int (((nI (12 * i + 3 * c)) + s) - 1)), (0, .ref 165), (1, .int (nI (i + 1))), (2, .int (nI c)), (3, .int s), (4, .int op)], [.int 0, .int s, .int 6, .ref 165])) rfl ?_
    obtain ⟨r1, e1, hE⟩ := Option.bind_eq_some_iff.mp hE
    refine xe_cv pg_135 114 pg_114 [.int 6, .int s, .int 0] [] (none) rfl rfl rfl rfl ⟨Nat.le_of_ble_eq_true rfl, Nat.le_of_ble_eq_true rfl, Nat.le_of_ble_eq_true rfl⟩ ⟨rfl, rfl⟩ ⟨by decide, rfl, by decide⟩ (cg_order _ (o := 6) (s := s) (n := 0)  e1) ?_
    refine xe_sn pg_135 3 (fr' := (30, [(5, .int (((nI (12 * i + 3 * c)) + s) - 1)), (0, .ref 165), (1, .int (nI (i + 1))), (2, .int (nI c)), (3, .int s), (4, .int op)], [.int (nI c), .int (nI (i + 1)), .ref 165])) rfl ?_
    obtain ⟨r2, e2, hE⟩ := Option.bind_eq_some_iff.mp hE
    refine xe_cv pg_135 132 pg_132 [.int (nI (i + 1)), .int (nI c)] [] (none) rfl rfl rfl rfl ⟨Nat.le_of_ble_eq_true rfl, Nat.le_of_ble_eq_true rfl, Nat.le_of_ble_eq_true rfl⟩ ⟨rfl, rfl⟩ ⟨by decide, rfl, by decide⟩ (cg_relaySends _ (i := i) (c := c) (by omega) (by omega) e2) ?_
    cases hE
    exact xe_end pg_135 rfl
  · rw [if_neg h1] at hE
    refine xe_c1t pg_135 34 rfl rfl h1 ?_
    refine xe_sn pg_135 3 (fr' := (40, [(5, .int (((nI (12 * i + 3 * c)) + s) - 1)), (0, .ref 165), (1, .int (nI (i + 1))), (2, .int (nI c)), (3, .int s), (4, .int op)], [.int 6, .ref 187])) rfl ?_
    refine ze_ib pg_135 6 (V.2.2.2 6) rfl (by decide) ⟨by decide, by decide⟩ rfl rfl ?_
    refine xe_sn pg_135 10 (fr' := (61, [(7, .int 0), (6, .int (V.2.2.2 6)), (5, .int (((nI (12 * i + 3 * c)) + s) - 1)), (0, .ref 165), (1, .int (nI (i + 1))), (2, .int (nI c)), (3, .int s), (4, .int op)], [.int 0, .int 7, .ref 187])) rfl ?_
    refine xe_sn pg_135 3 (fr' := (66, [(7, .int 0), (6, .int (V.2.2.2 6)), (5, .int (((nI (12 * i + 3 * c)) + s) - 1)), (0, .ref 165), (1, .int (nI (i + 1))), (2, .int (nI c)), (3, .int s), (4, .int op)], [.int (V.2.2.2 6), .int 0, .int 7, .ref 187])) rfl ?_
    refine xe_jn (fr' := (87, [(7, .int 0), (6, .int (V.2.2.2 6)), (5, .int (((nI (12 * i + 3 * c)) + s) - 1)), (0, .ref 165), (1, .int (nI (i + 1))), (2, .int (nI c)), (3, .int s), (4, .int op)], [.int (if (V.2.2.2 6) ≤ 0 then (0 : Int32) else ((V.2.2.2 7) ^^^ 255)), .int 7, .ref 187])) (fun J2 => ?_) ?_
    · by_cases h2 : (V.2.2.2 6) ≤ 0
      · rw [show (if (V.2.2.2 6) ≤ 0 then (0 : Int32) else ((V.2.2.2 7) ^^^ 255)) = 0 from if_pos h2] at J2
        refine xe_c2t pg_135 86 rfl rfl h2 ?_
        refine xe_sn pg_135 1 (fr' := (87, [(7, .int 0), (6, .int (V.2.2.2 6)), (5, .int (((nI (12 * i + 3 * c)) + s) - 1)), (0, .ref 165), (1, .int (nI (i + 1))), (2, .int (nI c)), (3, .int s), (4, .int op)], [.int 0, .int 7, .ref 187])) rfl ?_
        exact J2
      · rw [show (if (V.2.2.2 6) ≤ 0 then (0 : Int32) else ((V.2.2.2 7) ^^^ 255)) = ((V.2.2.2 7) ^^^ 255) from if_neg h2] at J2
        refine xe_c2f pg_135 86 rfl rfl h2 ?_
        refine xe_sn pg_135 5 (fr' := (78, [(7, .int 0), (6, .int (V.2.2.2 6)), (5, .int (((nI (12 * i + 3 * c)) + s) - 1)), (0, .ref 165), (1, .int (nI (i + 1))), (2, .int (nI c)), (3, .int s), (4, .int op)], [.int 7, .ref 187, .int 7, .ref 187])) rfl ?_
        refine ze_ib pg_135 7 (V.2.2.2 7) rfl (by decide) ⟨by decide, by decide⟩ rfl rfl ?_
        refine xe_sn pg_135 3 (fr' := (87, [(7, .int 0), (6, .int (V.2.2.2 6)), (5, .int (((nI (12 * i + 3 * c)) + s) - 1)), (0, .ref 165), (1, .int (nI (i + 1))), (2, .int (nI c)), (3, .int s), (4, .int op)], [.int ((V.2.2.2 7) ^^^ 255), .int 7, .ref 187])) rfl ?_
        exact J2
    refine ze_sb pg_135 7 rfl (by decide) ⟨by decide, by decide⟩ rfl ?_
    refine xe_sn pg_135 2 (fr' := (46, [(7, .int 1), (6, .int (V.2.2.2 6)), (5, .int (((nI (12 * i + 3 * c)) + s) - 1)), (0, .ref 165), (1, .int (nI (i + 1))), (2, .int (nI c)), (3, .int s), (4, .int op)], [])) rfl ?_
    refine xe_sn pg_135 10 (fr' := (66, [(7, .int 1), (6, .int (V.2.2.2 6)), (5, .int (((nI (12 * i + 3 * c)) + s) - 1)), (0, .ref 165), (1, .int (nI (i + 1))), (2, .int (nI c)), (3, .int s), (4, .int op)], [.int (V.2.2.2 6), .int 1, .int 8, .ref 187])) rfl ?_
    refine xe_jn (fr' := (87, [(7, .int 1), (6, .int (V.2.2.2 6)), (5, .int (((nI (12 * i + 3 * c)) + s) - 1)), (0, .ref 165), (1, .int (nI (i + 1))), (2, .int (nI c)), (3, .int s), (4, .int op)], [.int (if (V.2.2.2 6) ≤ 1 then (0 : Int32) else ((V.2.2.2 8) ^^^ 255)), .int 8, .ref 187])) (fun J3 => ?_) ?_
    · by_cases h3 : (V.2.2.2 6) ≤ 1
      · rw [show (if (V.2.2.2 6) ≤ 1 then (0 : Int32) else ((V.2.2.2 8) ^^^ 255)) = 0 from if_pos h3] at J3
        refine xe_c2t pg_135 86 rfl rfl h3 ?_
        refine xe_sn pg_135 1 (fr' := (87, [(7, .int 1), (6, .int (V.2.2.2 6)), (5, .int (((nI (12 * i + 3 * c)) + s) - 1)), (0, .ref 165), (1, .int (nI (i + 1))), (2, .int (nI c)), (3, .int s), (4, .int op)], [.int 0, .int 8, .ref 187])) rfl ?_
        exact J3
      · rw [show (if (V.2.2.2 6) ≤ 1 then (0 : Int32) else ((V.2.2.2 8) ^^^ 255)) = ((V.2.2.2 8) ^^^ 255) from if_neg h3] at J3
        refine xe_c2f pg_135 86 rfl rfl h3 ?_
        refine xe_sn pg_135 5 (fr' := (78, [(7, .int 1), (6, .int (V.2.2.2 6)), (5, .int (((nI (12 * i + 3 * c)) + s) - 1)), (0, .ref 165), (1, .int (nI (i + 1))), (2, .int (nI c)), (3, .int s), (4, .int op)], [.int 8, .ref 187, .int 8, .ref 187])) rfl ?_
        refine ze_ib pg_135 8 (V.2.2.2 8) rfl (by decide) ⟨by decide, by decide⟩ rfl rfl ?_
        refine xe_sn pg_135 3 (fr' := (87, [(7, .int 1), (6, .int (V.2.2.2 6)), (5, .int (((nI (12 * i + 3 * c)) + s) - 1)), (0, .ref 165), (1, .int (nI (i + 1))), (2, .int (nI c)), (3, .int s), (4, .int op)], [.int ((V.2.2.2 8) ^^^ 255), .int 8, .ref 187])) rfl ?_
        exact J3
    refine ze_sb pg_135 8 rfl (by decide) ⟨by decide, by decide⟩ rfl ?_
    refine xe_sn pg_135 2 (fr' := (46, [(7, .int 2), (6, .int (V.2.2.2 6)), (5, .int (((nI (12 * i + 3 * c)) + s) - 1)), (0, .ref 165), (1, .int (nI (i + 1))), (2, .int (nI c)), (3, .int s), (4, .int op)], [])) rfl ?_
    refine xe_sn pg_135 10 (fr' := (66, [(7, .int 2), (6, .int (V.2.2.2 6)), (5, .int (((nI (12 * i + 3 * c)) + s) - 1)), (0, .ref 165), (1, .int (nI (i + 1))), (2, .int (nI c)), (3, .int s), (4, .int op)], [.int (V.2.2.2 6), .int 2, .int 9, .ref 187])) rfl ?_
    refine xe_jn (fr' := (87, [(7, .int 2), (6, .int (V.2.2.2 6)), (5, .int (((nI (12 * i + 3 * c)) + s) - 1)), (0, .ref 165), (1, .int (nI (i + 1))), (2, .int (nI c)), (3, .int s), (4, .int op)], [.int (if (V.2.2.2 6) ≤ 2 then (0 : Int32) else ((V.2.2.2 9) ^^^ 255)), .int 9, .ref 187])) (fun J4 => ?_) ?_
    · by_cases h4 : (V.2.2.2 6) ≤ 2
      · rw [show (if (V.2.2.2 6) ≤ 2 then (0 : Int32) else ((V.2.2.2 9) ^^^ 255)) = 0 from if_pos h4] at J4
        refine xe_c2t pg_135 86 rfl rfl h4 ?_
        refine xe_sn pg_135 1 (fr' := (87, [(7, .int 2), (6, .int (V.2.2.2 6)), (5, .int (((nI (12 * i + 3 * c)) + s) - 1)), (0, .ref 165), (1, .int (nI (i + 1))), (2, .int (nI c)), (3, .int s), (4, .int op)], [.int 0, .int 9, .ref 187])) rfl ?_
        exact J4
      · rw [show (if (V.2.2.2 6) ≤ 2 then (0 : Int32) else ((V.2.2.2 9) ^^^ 255)) = ((V.2.2.2 9) ^^^ 255) from if_neg h4] at J4
        refine xe_c2f pg_135 86 rfl rfl h4 ?_
        refine xe_sn pg_135 5 (fr' := (78, [(7, .int 2), (6, .int (V.2.2.2 6)), (5, .int (((nI (12 * i + 3 * c)) + s) - 1)), (0, .ref 165), (1, .int (nI (i + 1))), (2, .int (nI c)), (3, .int s), (4, .int op)], [.int 9, .ref 187, .int 9, .ref 187])) rfl ?_
        refine ze_ib pg_135 9 (V.2.2.2 9) rfl (by decide) ⟨by decide, by decide⟩ rfl rfl ?_
        refine xe_sn pg_135 3 (fr' := (87, [(7, .int 2), (6, .int (V.2.2.2 6)), (5, .int (((nI (12 * i + 3 * c)) + s) - 1)), (0, .ref 165), (1, .int (nI (i + 1))), (2, .int (nI c)), (3, .int s), (4, .int op)], [.int ((V.2.2.2 9) ^^^ 255), .int 9, .ref 187])) rfl ?_
        exact J4
    refine ze_sb pg_135 9 rfl (by decide) ⟨by decide, by decide⟩ rfl ?_
    refine xe_sn pg_135 2 (fr' := (46, [(7, .int 3), (6, .int (V.2.2.2 6)), (5, .int (((nI (12 * i + 3 * c)) + s) - 1)), (0, .ref 165), (1, .int (nI (i + 1))), (2, .int (nI c)), (3, .int s), (4, .int op)], [])) rfl ?_
    refine xe_sn pg_135 10 (fr' := (66, [(7, .int 3), (6, .int (V.2.2.2 6)), (5, .int (((nI (12 * i + 3 * c)) + s) - 1)), (0, .ref 165), (1, .int (nI (i + 1))), (2, .int (nI c)), (3, .int s), (4, .int op)], [.int (V.2.2.2 6), .int 3, .int 10, .ref 187])) rfl ?_
    refine xe_jn (fr' := (87, [(7, .int 3), (6, .int (V.2.2.2 6)), (5, .int (((nI (12 * i + 3 * c)) + s) - 1)), (0, .ref 165), (1, .int (nI (i + 1))), (2, .int (nI c)), (3, .int s), (4, .int op)], [.int (if (V.2.2.2 6) ≤ 3 then (0 : Int32) else ((V.2.2.2 10) ^^^ 255)), .int 10, .ref 187])) (fun J5 => ?_) ?_
    · by_cases h5 : (V.2.2.2 6) ≤ 3
      · rw [show (if (V.2.2.2 6) ≤ 3 then (0 : Int32) else ((V.2.2.2 10) ^^^ 255)) = 0 from if_pos h5] at J5
        refine xe_c2t pg_135 86 rfl rfl h5 ?_
        refine xe_sn pg_135 1 (fr' := (87, [(7, .int 3), (6, .int (V.2.2.2 6)), (5, .int (((nI (12 * i + 3 * c)) + s) - 1)), (0, .ref 165), (1, .int (nI (i + 1))), (2, .int (nI c)), (3, .int s), (4, .int op)], [.int 0, .int 10, .ref 187])) rfl ?_
        exact J5
      · rw [show (if (V.2.2.2 6) ≤ 3 then (0 : Int32) else ((V.2.2.2 10) ^^^ 255)) = ((V.2.2.2 10) ^^^ 255) from if_neg h5] at J5
        refine xe_c2f pg_135 86 rfl rfl h5 ?_
        refine xe_sn pg_135 5 (fr' := (78, [(7, .int 3), (6, .int (V.2.2.2 6)), (5, .int (((nI (12 * i + 3 * c)) + s) - 1)), (0, .ref 165), (1, .int (nI (i + 1))), (2, .int (nI c)), (3, .int s), (4, .int op)], [.int 10, .ref 187, .int 10, .ref 187])) rfl ?_
        refine ze_ib pg_135 10 (V.2.2.2 10) rfl (by decide) ⟨by decide, by decide⟩ rfl rfl ?_
        refine xe_sn pg_135 3 (fr' := (87, [(7, .int 3), (6, .int (V.2.2.2 6)), (5, .int (((nI (12 * i + 3 * c)) + s) - 1)), (0, .ref 165), (1, .int (nI (i + 1))), (2, .int (nI c)), (3, .int s), (4, .int op)], [.int ((V.2.2.2 10) ^^^ 255), .int 10, .ref 187])) rfl ?_
        exact J5
    refine ze_sb pg_135 10 rfl (by decide) ⟨by decide, by decide⟩ rfl ?_
    refine xe_sn pg_135 2 (fr' := (46, [(7, .int 4), (6, .int (V.2.2.2 6)), (5, .int (((nI (12 * i + 3 * c)) + s) - 1)), (0, .ref 165), (1, .int (nI (i + 1))), (2, .int (nI c)), (3, .int s), (4, .int op)], [])) rfl ?_
    refine xe_sn pg_135 10 (fr' := (66, [(7, .int 4), (6, .int (V.2.2.2 6)), (5, .int (((nI (12 * i + 3 * c)) + s) - 1)), (0, .ref 165), (1, .int (nI (i + 1))), (2, .int (nI c)), (3, .int s), (4, .int op)], [.int (V.2.2.2 6), .int 4, .int 11, .ref 187])) rfl ?_
    refine xe_jn (fr' := (87, [(7, .int 4), (6, .int (V.2.2.2 6)), (5, .int (((nI (12 * i + 3 * c)) + s) - 1)), (0, .ref 165), (1, .int (nI (i + 1))), (2, .int (nI c)), (3, .int s), (4, .int op)], [.int (if (V.2.2.2 6) ≤ 4 then (0 : Int32) else ((V.2.2.2 11) ^^^ 255)), .int 11, .ref 187])) (fun J6 => ?_) ?_
    · by_cases h6 : (V.2.2.2 6) ≤ 4
      · rw [show (if (V.2.2.2 6) ≤ 4 then (0 : Int32) else ((V.2.2.2 11) ^^^ 255)) = 0 from if_pos h6] at J6
        refine xe_c2t pg_135 86 rfl rfl h6 ?_
        refine xe_sn pg_135 1 (fr' := (87, [(7, .int 4), (6, .int (V.2.2.2 6)), (5, .int (((nI (12 * i + 3 * c)) + s) - 1)), (0, .ref 165), (1, .int (nI (i + 1))), (2, .int (nI c)), (3, .int s), (4, .int op)], [.int 0, .int 11, .ref 187])) rfl ?_
        exact J6
      · rw [show (if (V.2.2.2 6) ≤ 4 then (0 : Int32) else ((V.2.2.2 11) ^^^ 255)) = ((V.2.2.2 11) ^^^ 255) from if_neg h6] at J6
        refine xe_c2f pg_135 86 rfl rfl h6 ?_
        refine xe_sn pg_135 5 (fr' := (78, [(7, .int 4), (6, .int (V.2.2.2 6)), (5, .int (((nI (12 * i + 3 * c)) + s) - 1)), (0, .ref 165), (1, .int (nI (i + 1))), (2, .int (nI c)), (3, .int s), (4, .int op)], [.int 11, .ref 187, .int 11, .ref 187])) rfl ?_
        refine ze_ib pg_135 11 (V.2.2.2 11) rfl (by decide) ⟨by decide, by decide⟩ rfl rfl ?_
        refine xe_sn pg_135 3 (fr' := (87, [(7, .int 4), (6, .int (V.2.2.2 6)), (5, .int (((nI (12 * i + 3 * c)) + s) - 1)), (0, .ref 165), (1, .int (nI (i + 1))), (2, .int (nI c)), (3, .int s), (4, .int op)], [.int ((V.2.2.2 11) ^^^ 255), .int 11, .ref 187])) rfl ?_
        exact J6
    refine ze_sb pg_135 11 rfl (by decide) ⟨by decide, by decide⟩ rfl ?_
    refine xe_sn pg_135 2 (fr' := (46, [(7, .int 5), (6, .int (V.2.2.2 6)), (5, .int (((nI (12 * i + 3 * c)) + s) - 1)), (0, .ref 165), (1, .int (nI (i + 1))), (2, .int (nI c)), (3, .int s), (4, .int op)], [])) rfl ?_
    refine xe_sn pg_135 10 (fr' := (66, [(7, .int 5), (6, .int (V.2.2.2 6)), (5, .int (((nI (12 * i + 3 * c)) + s) - 1)), (0, .ref 165), (1, .int (nI (i + 1))), (2, .int (nI c)), (3, .int s), (4, .int op)], [.int (V.2.2.2 6), .int 5, .int 12, .ref 187])) rfl ?_
    refine xe_jn (fr' := (87, [(7, .int 5), (6, .int (V.2.2.2 6)), (5, .int (((nI (12 * i + 3 * c)) + s) - 1)), (0, .ref 165), (1, .int (nI (i + 1))), (2, .int (nI c)), (3, .int s), (4, .int op)], [.int (if (V.2.2.2 6) ≤ 5 then (0 : Int32) else ((V.2.2.2 12) ^^^ 255)), .int 12, .ref 187])) (fun J7 => ?_) ?_
    · by_cases h7 : (V.2.2.2 6) ≤ 5
      · rw [show (if (V.2.2.2 6) ≤ 5 then (0 : Int32) else ((V.2.2.2 12) ^^^ 255)) = 0 from if_pos h7] at J7
        refine xe_c2t pg_135 86 rfl rfl h7 ?_
        refine xe_sn pg_135 1 (fr' := (87, [(7, .int 5), (6, .int (V.2.2.2 6)), (5, .int (((nI (12 * i + 3 * c)) + s) - 1)), (0, .ref 165), (1, .int (nI (i + 1))), (2, .int (nI c)), (3, .int s), (4, .int op)], [.int 0, .int 12, .ref 187])) rfl ?_
        exact J7
      · rw [show (if (V.2.2.2 6) ≤ 5 then (0 : Int32) else ((V.2.2.2 12) ^^^ 255)) = ((V.2.2.2 12) ^^^ 255) from if_neg h7] at J7
        refine xe_c2f pg_135 86 rfl rfl h7 ?_
        refine xe_sn pg_135 5 (fr' := (78, [(7, .int 5), (6, .int (V.2.2.2 6)), (5, .int (((nI (12 * i + 3 * c)) + s) - 1)), (0, .ref 165), (1, .int (nI (i + 1))), (2, .int (nI c)), (3, .int s), (4, .int op)], [.int 12, .ref 187, .int 12, .ref 187])) rfl ?_
        refine ze_ib pg_135 12 (V.2.2.2 12) rfl (by decide) ⟨by decide, by decide⟩ rfl rfl ?_
        refine xe_sn pg_135 3 (fr' := (87, [(7, .int 5), (6, .int (V.2.2.2 6)), (5, .int (((nI (12 * i + 3 * c)) + s) - 1)), (0, .ref 165), (1, .int (nI (i + 1))), (2, .int (nI c)), (3, .int s), (4, .int op)], [.int ((V.2.2.2 12) ^^^ 255), .int 12, .ref 187])) rfl ?_
        exact J7
    refine ze_sb pg_135 12 rfl (by decide) ⟨by decide, by decide⟩ rfl ?_
    refine xe_sn pg_135 2 (fr' := (46, [(7, .int 6), (6, .int (V.2.2.2 6)), (5, .int (((nI (12 * i + 3 * c)) + s) - 1)), (0, .ref 165), (1, .int (nI (i + 1))), (2, .int (nI c)), (3, .int s), (4, .int op)], [])) rfl ?_
    refine xe_sn pg_135 10 (fr' := (66, [(7, .int 6), (6, .int (V.2.2.2 6)), (5, .int (((nI (12 * i + 3 * c)) + s) - 1)), (0, .ref 165), (1, .int (nI (i + 1))), (2, .int (nI c)), (3, .int s), (4, .int op)], [.int (V.2.2.2 6), .int 6, .int 13, .ref 187])) rfl ?_
    refine xe_jn (fr' := (87, [(7, .int 6), (6, .int (V.2.2.2 6)), (5, .int (((nI (12 * i + 3 * c)) + s) - 1)), (0, .ref 165), (1, .int (nI (i + 1))), (2, .int (nI c)), (3, .int s), (4, .int op)], [.int (if (V.2.2.2 6) ≤ 6 then (0 : Int32) else ((V.2.2.2 13) ^^^ 255)), .int 13, .ref 187])) (fun J8 => ?_) ?_
    · by_cases h8 : (V.2.2.2 6) ≤ 6
      · rw [show (if (V.2.2.2 6) ≤ 6 then (0 : Int32) else ((V.2.2.2 13) ^^^ 255)) = 0 from if_pos h8] at J8
        refine xe_c2t pg_135 86 rfl rfl h8 ?_
        refine xe_sn pg_135 1 (fr' := (87, [(7, .int 6), (6, .int (V.2.2.2 6)), (5, .int (((nI (12 * i + 3 * c)) + s) - 1)), (0, .ref 165), (1, .int (nI (i + 1))), (2, .int (nI c)), (3, .int s), (4, .int op)], [.int 0, .int 13, .ref 187])) rfl ?_
        exact J8
      · rw [show (if (V.2.2.2 6) ≤ 6 then (0 : Int32) else ((V.2.2.2 13) ^^^ 255)) = ((V.2.2.2 13) ^^^ 255) from if_neg h8] at J8
        refine xe_c2f pg_135 86 rfl rfl h8 ?_
        refine xe_sn pg_135 5 (fr' := (78, [(7, .int 6), (6, .int (V.2.2.2 6)), (5, .int (((nI (12 * i + 3 * c)) + s) - 1)), (0, .ref 165), (1, .int (nI (i + 1))), (2, .int (nI c)), (3, .int s), (4, .int op)], [.int 13, .ref 187, .int 13, .ref 187])) rfl ?_
        refine ze_ib pg_135 13 (V.2.2.2 13) rfl (by decide) ⟨by decide, by decide⟩ rfl rfl ?_
        refine xe_sn pg_135 3 (fr' := (87, [(7, .int 6), (6, .int (V.2.2.2 6)), (5, .int (((nI (12 * i + 3 * c)) + s) - 1)), (0, .ref 165), (1, .int (nI (i + 1))), (2, .int (nI c)), (3, .int s), (4, .int op)], [.int ((V.2.2.2 13) ^^^ 255), .int 13, .ref 187])) rfl ?_
        exact J8
    refine ze_sb pg_135 13 rfl (by decide) ⟨by decide, by decide⟩ rfl ?_
    refine xe_sn pg_135 2 (fr' := (46, [(7, .int 7), (6, .int (V.2.2.2 6)), (5, .int (((nI (12 * i + 3 * c)) + s) - 1)), (0, .ref 165), (1, .int (nI (i + 1))), (2, .int (nI c)), (3, .int s), (4, .int op)], [])) rfl ?_
    refine xe_sn pg_135 6 (fr' := (97, [(7, .int 7), (6, .int (V.2.2.2 6)), (5, .int (((nI (12 * i + 3 * c)) + s) - 1)), (0, .ref 165), (1, .int (nI (i + 1))), (2, .int (nI c)), (3, .int s), (4, .int op)], [.int (nI c), .int (nI (i + 1)), .ref 165])) rfl ?_
    obtain ⟨r3, e3, hE⟩ := Option.bind_eq_some_iff.mp hE
    refine xe_cv pg_135 132 pg_132 [.int (nI (i + 1)), .int (nI c)] [] (none) rfl rfl rfl rfl ⟨Nat.le_of_ble_eq_true rfl, Nat.le_of_ble_eq_true rfl, Nat.le_of_ble_eq_true rfl⟩ ⟨rfl, rfl⟩ ⟨by decide, rfl, by decide⟩ (cg_relaySends _ (i := i) (c := c) (by omega) (by omega) e3) ?_
    refine xe_sn pg_135 4 (fr' := (107, [(7, .int 7), (6, .int (V.2.2.2 6)), (5, .int (((nI (12 * i + 3 * c)) + s) - 1)), (0, .ref 165), (1, .int (nI (i + 1))), (2, .int (nI c)), (3, .int s), (4, .int op)], [.int (((nI (12 * i + 3 * c)) + s) - 1), .ref 186, .int (((nI (12 * i + 3 * c)) + s) - 1), .ref 186])) rfl ?_
    by_cases g9 : bnd (((nI (12 * i + 3 * c)) + s) - 1) 48
    case neg => rw [if_neg g9] at hE; cases hE
    rw [if_pos g9] at hE
    refine ze_il pg_135 (((nI (12 * i + 3 * c)) + s) - 1).toNatClampNeg (r3.2.1 186 (((nI (12 * i + 3 * c)) + s) - 1).toNatClampNeg) rfl ⟨by decide, by decide⟩ rfl g9 rfl rfl ?_
    refine xe_sn pg_135 2 (fr' := (110, [(7, .int 7), (6, .int (V.2.2.2 6)), (5, .int (((nI (12 * i + 3 * c)) + s) - 1)), (0, .ref 165), (1, .int (nI (i + 1))), (2, .int (nI c)), (3, .int s), (4, .int op)], [.int ((r3.2.1 186 (((nI (12 * i + 3 * c)) + s) - 1).toNatClampNeg) + 1), .int (((nI (12 * i + 3 * c)) + s) - 1), .ref 186])) rfl ?_
    refine ze_isn pg_135 (((nI (12 * i + 3 * c)) + s) - 1).toNatClampNeg rfl ⟨by decide, by decide⟩ rfl g9 rfl (by decide) ?_
    refine ze_gh 191 (((nI (12 * i + 3 * c)) + s) - 1).toNatClampNeg ((r3.2.1 186 (((nI (12 * i + 3 * c)) + s) - 1).toNatClampNeg) + 1) (Or.inr rfl) ?_
    refine xe_sn pg_135 3 (fr' := (117, [(7, .int 7), (6, .int (V.2.2.2 6)), (5, .int (((nI (12 * i + 3 * c)) + s) - 1)), (0, .ref 165), (1, .int (nI (i + 1))), (2, .int (nI c)), (3, .int s), (4, .int op)], [.int (((nI (12 * i + 3 * c)) + s) - 1), .ref 186])) rfl ?_
    refine ze_il pg_135 (((nI (12 * i + 3 * c)) + s) - 1).toNatClampNeg ((r3.2.1 186 (((nI (12 * i + 3 * c)) + s) - 1).toNatClampNeg) + 1) rfl ⟨by decide, by decide⟩ rfl g9 rfl ((gl_n (by decide) _).trans (u2_same r3.2.1 186 (((nI (12 * i + 3 * c)) + s) - 1).toNatClampNeg ((r3.2.1 186 (((nI (12 * i + 3 * c)) + s) - 1).toNatClampNeg) + 1))) ?_
    refine xe_sn pg_135 2 (fr' := (120, [(7, .int 7), (6, .int (V.2.2.2 6)), (5, .int (((nI (12 * i + 3 * c)) + s) - 1)), (0, .ref 165), (1, .int (nI (i + 1))), (2, .int (nI c)), (3, .int s), (4, .int op)], [.int (rem ((r3.2.1 186 (((nI (12 * i + 3 * c)) + s) - 1).toNatClampNeg) + 1) 2)])) rfl ?_
    by_cases h10 : (rem ((r3.2.1 186 (((nI (12 * i + 3 * c)) + s) - 1).toNatClampNeg) + 1) 2) = 0
    · rw [if_pos h10] at hE
      refine xe_c1f pg_135 137 rfl rfl (fun z => z h10) ?_
      refine xe_sn pg_135 4 (fr' := (128, [(7, .int 7), (6, .int (V.2.2.2 6)), (5, .int (((nI (12 * i + 3 * c)) + s) - 1)), (0, .ref 165), (1, .int (nI (i + 1))), (2, .int (nI c)), (3, .int s), (4, .int op)], [.int 0, .int s, .int 7, .ref 165])) rfl ?_
      obtain ⟨r4, e4, hE⟩ := Option.bind_eq_some_iff.mp hE
      refine xe_cv pg_135 114 pg_114 [.int 7, .int s, .int 0] [] (none) rfl rfl rfl rfl ⟨Nat.le_of_ble_eq_true rfl, Nat.le_of_ble_eq_true rfl, Nat.le_of_ble_eq_true rfl⟩ ⟨rfl, rfl⟩ ⟨by decide, rfl, by decide⟩ (cg_order _ (o := 7) (s := s) (n := 0)  e4) ?_
      refine xe_sn pg_135 3 (fr' := (134, [(7, .int 7), (6, .int (V.2.2.2 6)), (5, .int (((nI (12 * i + 3 * c)) + s) - 1)), (0, .ref 165), (1, .int (nI (i + 1))), (2, .int (nI c)), (3, .int s), (4, .int op)], [.int (nI c), .int (nI (i + 1)), .ref 165])) rfl ?_
      obtain ⟨r5, e5, hE⟩ := Option.bind_eq_some_iff.mp hE
      refine xe_cv pg_135 132 pg_132 [.int (nI (i + 1)), .int (nI c)] [] (none) rfl rfl rfl rfl ⟨Nat.le_of_ble_eq_true rfl, Nat.le_of_ble_eq_true rfl, Nat.le_of_ble_eq_true rfl⟩ ⟨rfl, rfl⟩ ⟨by decide, rfl, by decide⟩ (cg_relaySends _ (i := i) (c := c) (by omega) (by omega) e5) ?_
      cases hE
      exact xe_end pg_135 rfl
    · rw [if_neg h10] at hE
      refine xe_c1t pg_135 137 rfl rfl h10 ?_
      cases hE
      exact xe_end pg_135 rfl

def g_relayFollows (V : xVt) (i : Nat) (c : Nat) : Option xVt := (some (g_in (V.2.2.2 5) 1 3)).bind fun r1 => if r1 = 0 then (if (V.2.2.2 4) = 1 then ((g_extendAt V i c).bind fun r2 => some r2) else (if (V.2.2.2 4) = 2 then ((g_tear V i c).bind fun r3 => some r3) else (if (V.2.2.2 4) = 3 then ((g_order V 6 (V.2.2.2 5) 0).bind fun r4 => (g_relaySends r4 i c).bind fun r5 => some r5) else (if (V.2.2.2 4) = 4 then ((g_tear V i c).bind fun r6 => some r6) else (if (V.2.2.2 4) = 5 then ((g_dataAt V i c (V.2.2.2 5) 0).bind fun r7 => some r7) else (if (V.2.2.2 4) = 6 then (some V) else (if (V.2.2.2 4) = 7 then ((g_tear V i c).bind fun r8 => some r8) else (if (V.2.2.2 4) = 8 then ((g_destroyOn V i c).bind fun r9 => (g_order (vx (vx r9 182 (4 * i + c) (-1)) 183 (4 * i + c) (-1)) 9 0 0).bind fun r10 => (g_relaySends r10 i c).bind fun r11 => some r11) else ((g_tear V i c).bind fun r12 => some r12))))))))) else (if bnd (((nI (12 * i + 3 * c)) + (V.2.2.2 5)) - 1) 48 then (if (V.2.2.2 4) = 1 then ((g_extendAt V i c).bind fun r13 => some r13) else (if (V.2.2.2 4) = 2 then ((g_tear V i c).bind fun r14 => some r14) else (if (V.2.2.2 4) = 3 then (if (if (if (V.1 185 (((nI (12 * i + 3 * c)) + (V.2.2.2 5)) - 1).toNatClampNeg) = 0 then (0 : Int32) else 1) = 0 then (1 : Int32) else 0) = 0 then ((g_order V 6 (V.2.2.2 5) 0).bind fun r15 => (g_relaySends r15 i c).bind fun r16 => some r16) else ((g_order (vx (vn (vx V 185 (((nI (12 * i + 3 * c)) + (V.2.2.2 5)) - 1).toNatClampNeg 1) 186 (((nI (12 * i + 3 * c)) + (V.2.2.2 5)) - 1).toNatClampNeg 0) 191 (((nI (12 * i + 3 * c)) + (V.2.2.2 5)) - 1).toNatClampNeg 0) 4 (V.2.2.2 5) 0).bind fun r17 => (g_relaySends r17 i c).bind fun r18 => some r18)) else (if (V.2.2.2 4) = 4 then ((g_tear V i c).bind fun r19 => some r19) else (if (V.2.2.2 4) = 5 then ((g_dataAt V i c (V.2.2.2 5) (if (V.1 185 (((nI (12 * i + 3 * c)) + (V.2.2.2 5)) - 1).toNatClampNeg) = 0 then (0 : Int32) else 1)).bind fun r20 => some r20) else (if (V.2.2.2 4) = 6 then (if (if (V.1 185 (((nI (12 * i + 3 * c)) + (V.2.2.2 5)) - 1).toNatClampNeg) = 0 then (0 : Int32) else 1) = 0 then (some V) else (some (vx V 185 (((nI (12 * i + 3 * c)) + (V.2.2.2 5)) - 1).toNatClampNeg 0))) else (if (V.2.2.2 4) = 7 then ((g_tear V i c).bind fun r21 => some r21) else (if (V.2.2.2 4) = 8 then ((g_destroyOn V i c).bind fun r22 => (g_order (vx (vx r22 182 (4 * i + c) (-1)) 183 (4 * i + c) (-1)) 9 0 0).bind fun r23 => (g_relaySends r23 i c).bind fun r24 => some r24) else ((g_tear V i c).bind fun r25 => some r25))))))))) else none)
set_option maxRecDepth 100000 in
theorem cg_relayFollows (d : Nat) {w : xWd} {S : xSt} {V : xVt} {ρ : Nat → Nat → Int64} {i : Nat} {c : Nat} (hi : i < 4) (hc : c < 4) {r : xVt} (hE : (g_relayFollows V i c) = some r) : xc (d + 5) 136 [.ref 165, .int (nI (i + 1)), .int (nI c)] (hv w S V ρ) (.inl (none), hv w S r ρ) := by
  unfold g_relayFollows at hE
  refine xe_sn pg_136 3 (fr' := (3, [(0, .ref 165), (1, .int (nI (i + 1))), (2, .int (nI c))], [.int (nI c), .int (nI (i + 1)), .ref 165])) rfl ?_
  refine xe_cv pg_136 128 pg_128 [.int (nI (i + 1)), .int (nI c)] [] (some (.int (nI (4 * i + c)))) rfl rfl rfl rfl ⟨Nat.le_of_ble_eq_true rfl, Nat.le_of_ble_eq_true rfl, Nat.le_of_ble_eq_true rfl⟩ ⟨rfl, rfl⟩ ⟨by decide, rfl, by decide⟩ (cg_place _ (i := i) (c := c) (by omega) (by omega) rfl) ?_
  refine xe_sn pg_136 4 (fr' := (12, [(3, .int (nI (4 * i + c))), (0, .ref 165), (1, .int (nI (i + 1))), (2, .int (nI c))], [.int 5, .ref 187])) rfl ?_
  refine ze_ib pg_136 5 (V.2.2.2 5) rfl (by decide) ⟨by decide, by decide⟩ rfl rfl ?_
  refine xe_sn pg_136 4 (fr' := (19, [(4, .int (V.2.2.2 5)), (3, .int (nI (4 * i + c))), (0, .ref 165), (1, .int (nI (i + 1))), (2, .int (nI c))], [.int 3, .int 1, .int (V.2.2.2 5)])) rfl ?_
  obtain ⟨r1, e1, hE⟩ := Option.bind_eq_some_iff.mp hE
  refine xe_callq pg_136 103 [.int (V.2.2.2 5), .int 1, .int 3] (.inl (some (.int r1))) (22, [(4, .int (V.2.2.2 5)), (3, .int (nI (4 * i + c))), (0, .ref 165), (1, .int (nI (i + 1))), (2, .int (nI c))], [.int r1]) rfl (fun _ => rfl) (cg_in _ (v := (V.2.2.2 5)) (l := 1) (h := 3)  (Option.some.inj e1)) ?_
  refine xe_sn pg_136 2 (fr' := (26, [(5, .int r1), (4, .int (V.2.2.2 5)), (3, .int (nI (4 * i + c))), (0, .ref 165), (1, .int (nI (i + 1))), (2, .int (nI c))], [.int r1])) rfl ?_
  by_cases h1 : r1 = 0
  · rw [if_pos h1] at hE
    refine xe_c1t pg_136 58 rfl rfl h1 ?_
    refine xe_sn pg_136 5 (fr' := (66, [(6, .int 0), (5, .int r1), (4, .int (V.2.2.2 5)), (3, .int (nI (4 * i + c))), (0, .ref 165), (1, .int (nI (i + 1))), (2, .int (nI c))], [.int 4, .ref 187])) rfl ?_
    refine ze_ib pg_136 4 (V.2.2.2 4) rfl (by decide) ⟨by decide, by decide⟩ rfl rfl ?_
    by_cases h2 : (V.2.2.2 4) = 1
    · rw [if_pos h2] at hE
      refine xe_sw pg_136 112 h2 rfl ?_
      refine xe_sn pg_136 3 (fr' := (115, [(6, .int 0), (5, .int r1), (4, .int (V.2.2.2 5)), (3, .int (nI (4 * i + c))), (0, .ref 165), (1, .int (nI (i + 1))), (2, .int (nI c))], [.int (nI c), .int (nI (i + 1)), .ref 165])) rfl ?_
      obtain ⟨r2, e2, hE⟩ := Option.bind_eq_some_iff.mp hE
      refine xe_cv pg_136 134 pg_134 [.int (nI (i + 1)), .int (nI c)] [] (none) rfl rfl rfl rfl ⟨Nat.le_of_ble_eq_true rfl, Nat.le_of_ble_eq_true rfl, Nat.le_of_ble_eq_true rfl⟩ ⟨rfl, rfl⟩ ⟨by decide, rfl, by decide⟩ (cg_extendAt _ (i := i) (c := c) (by omega) (by omega) e2) ?_
      refine xe_sn pg_136 1 (fr' := (276, [(6, .int 0), (5, .int r1), (4, .int (V.2.2.2 5)), (3, .int (nI (4 * i + c))), (0, .ref 165), (1, .int (nI (i + 1))), (2, .int (nI c))], [])) rfl ?_
      cases hE
      exact xe_end pg_136 rfl
    · rw [if_neg h2] at hE
      by_cases h3 : (V.2.2.2 4) = 2
      · rw [if_pos h3] at hE
        refine xe_sw pg_136 270 h3 rfl ?_
        refine xe_sn pg_136 3 (fr' := (273, [(6, .int 0), (5, .int r1), (4, .int (V.2.2.2 5)), (3, .int (nI (4 * i + c))), (0, .ref 165), (1, .int (nI (i + 1))), (2, .int (nI c))], [.int (nI c), .int (nI (i + 1)), .ref 165])) rfl ?_
        obtain ⟨r3, e3, hE⟩ := Option.bind_eq_some_iff.mp hE
        refine xe_cv pg_136 131 pg_131 [.int (nI (i + 1)), .int (nI c)] [] (none) rfl rfl rfl rfl ⟨Nat.le_of_ble_eq_true rfl, Nat.le_of_ble_eq_true rfl, Nat.le_of_ble_eq_true rfl⟩ ⟨rfl, rfl⟩ ⟨by decide, rfl, by decide⟩ (cg_tear _ (i := i) (c := c) (by omega) (by omega) e3) ?_
        cases hE
        exact xe_end pg_136 rfl
      · rw [if_neg h3] at hE
        by_cases h4 : (V.2.2.2 4) = 3
        · rw [if_pos h4] at hE
          refine xe_sw pg_136 121 h4 rfl ?_
          refine xe_sn pg_136 1 (fr' := (123, [(6, .int 0), (5, .int r1), (4, .int (V.2.2.2 5)), (3, .int (nI (4 * i + c))), (0, .ref 165), (1, .int (nI (i + 1))), (2, .int (nI c))], [.int r1])) rfl ?_
          refine xe_c1t pg_136 135 rfl rfl h1 ?_
          refine xe_sn pg_136 10 (fr' := (186, [(7, .int 0), (6, .int 0), (5, .int r1), (4, .int (V.2.2.2 5)), (3, .int (nI (4 * i + c))), (0, .ref 165), (1, .int (nI (i + 1))), (2, .int (nI c))], [.int 0, .int (V.2.2.2 5), .int 6, .ref 165])) rfl ?_
          obtain ⟨r4, e4, hE⟩ := Option.bind_eq_some_iff.mp hE
          refine xe_cv pg_136 114 pg_114 [.int 6, .int (V.2.2.2 5), .int 0] [] (none) rfl rfl rfl rfl ⟨Nat.le_of_ble_eq_true rfl, Nat.le_of_ble_eq_true rfl, Nat.le_of_ble_eq_true rfl⟩ ⟨rfl, rfl⟩ ⟨by decide, rfl, by decide⟩ (cg_order _ (o := 6) (s := (V.2.2.2 5)) (n := 0)  e4) ?_
          refine xe_sn pg_136 3 (fr' := (192, [(7, .int 0), (6, .int 0), (5, .int r1), (4, .int (V.2.2.2 5)), (3, .int (nI (4 * i + c))), (0, .ref 165), (1, .int (nI (i + 1))), (2, .int (nI c))], [.int (nI c), .int (nI (i + 1)), .ref 165])) rfl ?_
          obtain ⟨r5, e5, hE⟩ := Option.bind_eq_some_iff.mp hE
          refine xe_cv pg_136 132 pg_132 [.int (nI (i + 1)), .int (nI c)] [] (none) rfl rfl rfl rfl ⟨Nat.le_of_ble_eq_true rfl, Nat.le_of_ble_eq_true rfl, Nat.le_of_ble_eq_true rfl⟩ ⟨rfl, rfl⟩ ⟨by decide, rfl, by decide⟩ (cg_relaySends _ (i := i) (c := c) (by omega) (by omega) e5) ?_
          refine xe_sn pg_136 1 (fr' := (276, [(7, .int 0), (6, .int 0), (5, .int r1), (4, .int (V.2.2.2 5)), (3, .int (nI (4 * i + c))), (0, .ref 165), (1, .int (nI (i + 1))), (2, .int (nI c))], [])) rfl ?_
          cases hE
          exact xe_end pg_136 rfl
        · rw [if_neg h4] at hE
          by_cases h5 : (V.2.2.2 4) = 4
          · rw [if_pos h5] at hE
            refine xe_sw pg_136 270 h5 rfl ?_
            refine xe_sn pg_136 3 (fr' := (273, [(6, .int 0), (5, .int r1), (4, .int (V.2.2.2 5)), (3, .int (nI (4 * i + c))), (0, .ref 165), (1, .int (nI (i + 1))), (2, .int (nI c))], [.int (nI c), .int (nI (i + 1)), .ref 165])) rfl ?_
            obtain ⟨r6, e6, hE⟩ := Option.bind_eq_some_iff.mp hE
            refine xe_cv pg_136 131 pg_131 [.int (nI (i + 1)), .int (nI c)] [] (none) rfl rfl rfl rfl ⟨Nat.le_of_ble_eq_true rfl, Nat.le_of_ble_eq_true rfl, Nat.le_of_ble_eq_true rfl⟩ ⟨rfl, rfl⟩ ⟨by decide, rfl, by decide⟩ (cg_tear _ (i := i) (c := c) (by omega) (by omega) e6) ?_
            cases hE
            exact xe_end pg_136 rfl
          · rw [if_neg h5] at hE
            by_cases h6 : (V.2.2.2 4) = 5
            · rw [if_pos h6] at hE
              refine xe_sw pg_136 198 h6 rfl ?_
              refine xe_sn pg_136 5 (fr' := (205, [(6, .int 0), (5, .int r1), (4, .int (V.2.2.2 5)), (3, .int (nI (4 * i + c))), (0, .ref 165), (1, .int (nI (i + 1))), (2, .int (nI c))], [.int 0, .int (V.2.2.2 5), .int (nI c), .int (nI (i + 1)), .ref 165])) rfl ?_
              obtain ⟨r7, e7, hE⟩ := Option.bind_eq_some_iff.mp hE
              refine xe_cv pg_136 135 pg_135 [.int (nI (i + 1)), .int (nI c), .int (V.2.2.2 5), .int 0] [] (none) rfl rfl rfl rfl ⟨Nat.le_of_ble_eq_true rfl, Nat.le_of_ble_eq_true rfl, Nat.le_of_ble_eq_true rfl⟩ ⟨rfl, rfl⟩ ⟨by decide, rfl, by decide⟩ (cg_dataAt _ (i := i) (c := c) (s := (V.2.2.2 5)) (op := 0) (by omega) (by omega) e7) ?_
              refine xe_sn pg_136 1 (fr' := (276, [(6, .int 0), (5, .int r1), (4, .int (V.2.2.2 5)), (3, .int (nI (4 * i + c))), (0, .ref 165), (1, .int (nI (i + 1))), (2, .int (nI c))], [])) rfl ?_
              cases hE
              exact xe_end pg_136 rfl
            · rw [if_neg h6] at hE
              by_cases h7 : (V.2.2.2 4) = 6
              · rw [if_pos h7] at hE
                refine xe_sw pg_136 211 h7 rfl ?_
                refine xe_sn pg_136 2 (fr' := (276, [(6, .int 0), (5, .int r1), (4, .int (V.2.2.2 5)), (3, .int (nI (4 * i + c))), (0, .ref 165), (1, .int (nI (i + 1))), (2, .int (nI c))], [])) rfl ?_
                cases hE
                exact xe_end pg_136 rfl
              · rw [if_neg h7] at hE
                by_cases h8 : (V.2.2.2 4) = 7
                · rw [if_pos h8] at hE
                  refine xe_sw pg_136 270 h8 rfl ?_
                  refine xe_sn pg_136 3 (fr' := (273, [(6, .int 0), (5, .int r1), (4, .int (V.2.2.2 5)), (3, .int (nI (4 * i + c))), (0, .ref 165), (1, .int (nI (i + 1))), (2, .int (nI c))], [.int (nI c), .int (nI (i + 1)), .ref 165])) rfl ?_
                  obtain ⟨r8, e8, hE⟩ := Option.bind_eq_some_iff.mp hE
                  refine xe_cv pg_136 131 pg_131 [.int (nI (i + 1)), .int (nI c)] [] (none) rfl rfl rfl rfl ⟨Nat.le_of_ble_eq_true rfl, Nat.le_of_ble_eq_true rfl, Nat.le_of_ble_eq_true rfl⟩ ⟨rfl, rfl⟩ ⟨by decide, rfl, by decide⟩ (cg_tear _ (i := i) (c := c) (by omega) (by omega) e8) ?_
                  cases hE
                  exact xe_end pg_136 rfl
                · rw [if_neg h8] at hE
                  by_cases h9 : (V.2.2.2 4) = 8
                  · rw [if_pos h9] at hE
                    refine xe_sw pg_136 233 h9 rfl ?_
                    refine xe_sn pg_136 3 (fr' := (236, [(6, .int 0), (5, .int r1), (4, .int (V.2.2.2 5)), (3, .int (nI (4 * i + c))), (0, .ref 165), (1, .int (nI (i + 1))), (2, .int (nI c))], [.int (nI c), .int (nI (i + 1)), .ref 165])) rfl ?_
                    obtain ⟨r9, e9, hE⟩ := Option.bind_eq_some_iff.mp hE
                    refine xe_cv pg_136 130 pg_130 [.int (nI (i + 1)), .int (nI c)] [] (none) rfl rfl rfl rfl ⟨Nat.le_of_ble_eq_true rfl, Nat.le_of_ble_eq_true rfl, Nat.le_of_ble_eq_true rfl⟩ ⟨rfl, rfl⟩ ⟨by decide, rfl, by decide⟩ (cg_destroyOn _ (i := i) (c := c) (by omega) (by omega) e9) ?_
                    refine xe_sn pg_136 4 (fr' := (245, [(6, .int 0), (5, .int r1), (4, .int (V.2.2.2 5)), (3, .int (nI (4 * i + c))), (0, .ref 165), (1, .int (nI (i + 1))), (2, .int (nI c))], [.int (-1), .int (nI (4 * i + c)), .ref 182])) rfl ?_
                    refine ze_isx pg_136 (4 * i + c) rfl ⟨by decide, by decide⟩ rfl (bn (by omega) (by decide)) (bc (n := 16) (by omega) (by decide)) (by decide) ?_
                    refine xe_sn pg_136 4 (fr' := (252, [(6, .int 0), (5, .int r1), (4, .int (V.2.2.2 5)), (3, .int (nI (4 * i + c))), (0, .ref 165), (1, .int (nI (i + 1))), (2, .int (nI c))], [.int (-1), .int (nI (4 * i + c)), .ref 183])) rfl ?_
                    refine ze_isx pg_136 (4 * i + c) rfl ⟨by decide, by decide⟩ rfl (bn (by omega) (by decide)) (bc (n := 16) (by omega) (by decide)) (by decide) ?_
                    refine xe_sn pg_136 4 (fr' := (258, [(6, .int 0), (5, .int r1), (4, .int (V.2.2.2 5)), (3, .int (nI (4 * i + c))), (0, .ref 165), (1, .int (nI (i + 1))), (2, .int (nI c))], [.int 0, .int 0, .int 9, .ref 165])) rfl ?_
                    obtain ⟨r10, e10, hE⟩ := Option.bind_eq_some_iff.mp hE
                    refine xe_cv pg_136 114 pg_114 [.int 9, .int 0, .int 0] [] (none) rfl rfl rfl rfl ⟨Nat.le_of_ble_eq_true rfl, Nat.le_of_ble_eq_true rfl, Nat.le_of_ble_eq_true rfl⟩ ⟨rfl, rfl⟩ ⟨by decide, rfl, by decide⟩ (cg_order _ (o := 9) (s := 0) (n := 0)  e10) ?_
                    refine xe_sn pg_136 3 (fr' := (264, [(6, .int 0), (5, .int r1), (4, .int (V.2.2.2 5)), (3, .int (nI (4 * i + c))), (0, .ref 165), (1, .int (nI (i + 1))), (2, .int (nI c))], [.int (nI c), .int (nI (i + 1)), .ref 165])) rfl ?_
                    obtain ⟨r11, e11, hE⟩ := Option.bind_eq_some_iff.mp hE
                    refine xe_cv pg_136 132 pg_132 [.int (nI (i + 1)), .int (nI c)] [] (none) rfl rfl rfl rfl ⟨Nat.le_of_ble_eq_true rfl, Nat.le_of_ble_eq_true rfl, Nat.le_of_ble_eq_true rfl⟩ ⟨rfl, rfl⟩ ⟨by decide, rfl, by decide⟩ (cg_relaySends _ (i := i) (c := c) (by omega) (by omega) e11) ?_
                    refine xe_sn pg_136 1 (fr' := (276, [(6, .int 0), (5, .int r1), (4, .int (V.2.2.2 5)), (3, .int (nI (4 * i + c))), (0, .ref 165), (1, .int (nI (i + 1))), (2, .int (nI c))], [])) rfl ?_
                    cases hE
                    exact xe_end pg_136 rfl
                  · rw [if_neg h9] at hE
                    refine xe_tsd pg_136 270 rfl rfl (sw_out 1 8 (by decide) (by decide) (fun j hj1 hj2 => ?_)) ?_
                    · rcases (by omega : j = 1 ∨ j = 2 ∨ j = 3 ∨ j = 4 ∨ j = 5 ∨ j = 6 ∨ j = 7 ∨ j = 8) with e | e | e | e | e | e | e | e <;> subst e <;> assumption
                    refine xe_sn pg_136 3 (fr' := (273, [(6, .int 0), (5, .int r1), (4, .int (V.2.2.2 5)), (3, .int (nI (4 * i + c))), (0, .ref 165), (1, .int (nI (i + 1))), (2, .int (nI c))], [.int (nI c), .int (nI (i + 1)), .ref 165])) rfl ?_
                    obtain ⟨r12, e12, hE⟩ := Option.bind_eq_some_iff.mp hE
                    refine xe_cv pg_136 131 pg_131 [.int (nI (i + 1)), .int (nI c)] [] (none) rfl rfl rfl rfl ⟨Nat.le_of_ble_eq_true rfl, Nat.le_of_ble_eq_true rfl, Nat.le_of_ble_eq_true rfl⟩ ⟨rfl, rfl⟩ ⟨by decide, rfl, by decide⟩ (cg_tear _ (i := i) (c := c) (by omega) (by omega) e12) ?_
                    cases hE
                    exact xe_end pg_136 rfl
  · rw [if_neg h1] at hE
    refine xe_c1f pg_136 58 rfl rfl h1 ?_
    refine xe_sn pg_136 4 (fr' := (35, [(5, .int r1), (4, .int (V.2.2.2 5)), (3, .int (nI (4 * i + c))), (0, .ref 165), (1, .int (nI (i + 1))), (2, .int (nI c))], [.int (nI (4 * i + c)), .int 3, .ref 185])) rfl ?_
    refine xe_nm pg_136 3 (4 * i + c) (12 * i + 3 * c) rfl (by omega) ?_
    refine xe_sn pg_136 1 (fr' := (38, [(5, .int r1), (4, .int (V.2.2.2 5)), (3, .int (nI (4 * i + c))), (0, .ref 165), (1, .int (nI (i + 1))), (2, .int (nI c))], [.int r1, .int (nI (12 * i + 3 * c)), .ref 185])) rfl ?_
    refine xe_c1f pg_136 46 rfl rfl h1 ?_
    refine xe_sn pg_136 2 (fr' := (47, [(5, .int r1), (4, .int (V.2.2.2 5)), (3, .int (nI (4 * i + c))), (0, .ref 165), (1, .int (nI (i + 1))), (2, .int (nI c))], [.int (V.2.2.2 5), .int (nI (12 * i + 3 * c)), .ref 185])) rfl ?_
    refine xe_sn pg_136 3 (fr' := (50, [(5, .int r1), (4, .int (V.2.2.2 5)), (3, .int (nI (4 * i + c))), (0, .ref 165), (1, .int (nI (i + 1))), (2, .int (nI c))], [.int (((nI (12 * i + 3 * c)) + (V.2.2.2 5)) - 1), .ref 185])) rfl ?_
    by_cases g10 : bnd (((nI (12 * i + 3 * c)) + (V.2.2.2 5)) - 1) 48
    case neg => rw [if_neg g10] at hE; cases hE
    rw [if_pos g10] at hE
    refine ze_bl pg_136 (((nI (12 * i + 3 * c)) + (V.2.2.2 5)) - 1).toNatClampNeg (V.1 185 (((nI (12 * i + 3 * c)) + (V.2.2.2 5)) - 1).toNatClampNeg) rfl ⟨by decide, by decide⟩ rfl g10 rfl rfl ?_
    refine xe_jn (fr' := (59, [(5, .int r1), (4, .int (V.2.2.2 5)), (3, .int (nI (4 * i + c))), (0, .ref 165), (1, .int (nI (i + 1))), (2, .int (nI c))], [.int (if (V.1 185 (((nI (12 * i + 3 * c)) + (V.2.2.2 5)) - 1).toNatClampNeg) = 0 then (0 : Int32) else 1)])) (fun J11 => ?_) ?_
    · by_cases h11 : (V.1 185 (((nI (12 * i + 3 * c)) + (V.2.2.2 5)) - 1).toNatClampNeg) = 0
      · rw [show (if (V.1 185 (((nI (12 * i + 3 * c)) + (V.2.2.2 5)) - 1).toNatClampNeg) = 0 then (0 : Int32) else 1) = 0 from if_pos h11] at J11
        refine xe_c1t pg_136 58 rfl rfl h11 ?_
        refine xe_sn pg_136 1 (fr' := (59, [(5, .int r1), (4, .int (V.2.2.2 5)), (3, .int (nI (4 * i + c))), (0, .ref 165), (1, .int (nI (i + 1))), (2, .int (nI c))], [.int 0])) rfl ?_
        exact J11
      · rw [show (if (V.1 185 (((nI (12 * i + 3 * c)) + (V.2.2.2 5)) - 1).toNatClampNeg) = 0 then (0 : Int32) else 1) = 1 from if_neg h11] at J11
        refine xe_c1f pg_136 58 rfl rfl h11 ?_
        refine xe_sn pg_136 2 (fr' := (59, [(5, .int r1), (4, .int (V.2.2.2 5)), (3, .int (nI (4 * i + c))), (0, .ref 165), (1, .int (nI (i + 1))), (2, .int (nI c))], [.int 1])) rfl ?_
        exact J11
    refine xe_sn pg_136 4 (fr' := (66, [(6, .int (if (V.1 185 (((nI (12 * i + 3 * c)) + (V.2.2.2 5)) - 1).toNatClampNeg) = 0 then (0 : Int32) else 1)), (5, .int r1), (4, .int (V.2.2.2 5)), (3, .int (nI (4 * i + c))), (0, .ref 165), (1, .int (nI (i + 1))), (2, .int (nI c))], [.int 4, .ref 187])) rfl ?_
    refine ze_ib pg_136 4 (V.2.2.2 4) rfl (by decide) ⟨by decide, by decide⟩ rfl rfl ?_
    by_cases h12 : (V.2.2.2 4) = 1
    · rw [if_pos h12] at hE
      refine xe_sw pg_136 112 h12 rfl ?_
      refine xe_sn pg_136 3 (fr' := (115, [(6, .int (if (V.1 185 (((nI (12 * i + 3 * c)) + (V.2.2.2 5)) - 1).toNatClampNeg) = 0 then (0 : Int32) else 1)), (5, .int r1), (4, .int (V.2.2.2 5)), (3, .int (nI (4 * i + c))), (0, .ref 165), (1, .int (nI (i + 1))), (2, .int (nI c))], [.int (nI c), .int (nI (i + 1)), .ref 165])) rfl ?_
      obtain ⟨r13, e13, hE⟩ := Option.bind_eq_some_iff.mp hE
      refine xe_cv pg_136 134 pg_134 [.int (nI (i + 1)), .int (nI c)] [] (none) rfl rfl rfl rfl ⟨Nat.le_of_ble_eq_true rfl, Nat.le_of_ble_eq_true rfl, Nat.le_of_ble_eq_true rfl⟩ ⟨rfl, rfl⟩ ⟨by decide, rfl, by decide⟩ (cg_extendAt _ (i := i) (c := c) (by omega) (by omega) e13) ?_
      refine xe_sn pg_136 1 (fr' := (276, [(6, .int (if (V.1 185 (((nI (12 * i + 3 * c)) + (V.2.2.2 5)) - 1).toNatClampNeg) = 0 then (0 : Int32) else 1)), (5, .int r1), (4, .int (V.2.2.2 5)), (3, .int (nI (4 * i + c))), (0, .ref 165), (1, .int (nI (i + 1))), (2, .int (nI c))], [])) rfl ?_
      cases hE
      exact xe_end pg_136 rfl
    · rw [if_neg h12] at hE
      by_cases h13 : (V.2.2.2 4) = 2
      · rw [if_pos h13] at hE
        refine xe_sw pg_136 270 h13 rfl ?_
        refine xe_sn pg_136 3 (fr' := (273, [(6, .int (if (V.1 185 (((nI (12 * i + 3 * c)) + (V.2.2.2 5)) - 1).toNatClampNeg) = 0 then (0 : Int32) else 1)), (5, .int r1), (4, .int (V.2.2.2 5)), (3, .int (nI (4 * i + c))), (0, .ref 165), (1, .int (nI (i + 1))), (2, .int (nI c))], [.int (nI c), .int (nI (i + 1)), .ref 165])) rfl ?_
        obtain ⟨r14, e14, hE⟩ := Option.bind_eq_some_iff.mp hE
        refine xe_cv pg_136 131 pg_131 [.int (nI (i + 1)), .int (nI c)] [] (none) rfl rfl rfl rfl ⟨Nat.le_of_ble_eq_true rfl, Nat.le_of_ble_eq_true rfl, Nat.le_of_ble_eq_true rfl⟩ ⟨rfl, rfl⟩ ⟨by decide, rfl, by decide⟩ (cg_tear _ (i := i) (c := c) (by omega) (by omega) e14) ?_
        cases hE
        exact xe_end pg_136 rfl
      · rw [if_neg h13] at hE
        by_cases h14 : (V.2.2.2 4) = 3
        · rw [if_pos h14] at hE
          refine xe_sw pg_136 121 h14 rfl ?_
          refine xe_sn pg_136 1 (fr' := (123, [(6, .int (if (V.1 185 (((nI (12 * i + 3 * c)) + (V.2.2.2 5)) - 1).toNatClampNeg) = 0 then (0 : Int32) else 1)), (5, .int r1), (4, .int (V.2.2.2 5)), (3, .int (nI (4 * i + c))), (0, .ref 165), (1, .int (nI (i + 1))), (2, .int (nI c))], [.int r1])) rfl ?_
          refine xe_c1f pg_136 135 rfl rfl h1 ?_
          refine xe_sn pg_136 1 (fr' := (128, [(6, .int (if (V.1 185 (((nI (12 * i + 3 * c)) + (V.2.2.2 5)) - 1).toNatClampNeg) = 0 then (0 : Int32) else 1)), (5, .int r1), (4, .int (V.2.2.2 5)), (3, .int (nI (4 * i + c))), (0, .ref 165), (1, .int (nI (i + 1))), (2, .int (nI c))], [.int (if (V.1 185 (((nI (12 * i + 3 * c)) + (V.2.2.2 5)) - 1).toNatClampNeg) = 0 then (0 : Int32) else 1)])) rfl ?_
          refine xe_jn (fr' := (136, [(6, .int (if (V.1 185 (((nI (12 * i + 3 * c)) + (V.2.2.2 5)) - 1).toNatClampNeg) = 0 then (0 : Int32) else 1)), (5, .int r1), (4, .int (V.2.2.2 5)), (3, .int (nI (4 * i + c))), (0, .ref 165), (1, .int (nI (i + 1))), (2, .int (nI c))], [.int (if (if (V.1 185 (((nI (12 * i + 3 * c)) + (V.2.2.2 5)) - 1).toNatClampNeg) = 0 then (0 : Int32) else 1) = 0 then (1 : Int32) else 0)])) (fun J15 => ?_) ?_
          · by_cases h15 : (if (V.1 185 (((nI (12 * i + 3 * c)) + (V.2.2.2 5)) - 1).toNatClampNeg) = 0 then (0 : Int32) else 1) = 0
            · rw [show (if (if (V.1 185 (((nI (12 * i + 3 * c)) + (V.2.2.2 5)) - 1).toNatClampNeg) = 0 then (0 : Int32) else 1) = 0 then (1 : Int32) else 0) = 1 from if_pos h15] at J15
              refine xe_c1f pg_136 135 rfl rfl (fun z => z h15) ?_
              refine xe_sn pg_136 2 (fr' := (136, [(6, .int (if (V.1 185 (((nI (12 * i + 3 * c)) + (V.2.2.2 5)) - 1).toNatClampNeg) = 0 then (0 : Int32) else 1)), (5, .int r1), (4, .int (V.2.2.2 5)), (3, .int (nI (4 * i + c))), (0, .ref 165), (1, .int (nI (i + 1))), (2, .int (nI c))], [.int 1])) rfl ?_
              exact J15
            · rw [show (if (if (V.1 185 (((nI (12 * i + 3 * c)) + (V.2.2.2 5)) - 1).toNatClampNeg) = 0 then (0 : Int32) else 1) = 0 then (1 : Int32) else 0) = 0 from if_neg h15] at J15
              refine xe_c1t pg_136 135 rfl rfl h15 ?_
              refine xe_sn pg_136 1 (fr' := (136, [(6, .int (if (V.1 185 (((nI (12 * i + 3 * c)) + (V.2.2.2 5)) - 1).toNatClampNeg) = 0 then (0 : Int32) else 1)), (5, .int r1), (4, .int (V.2.2.2 5)), (3, .int (nI (4 * i + c))), (0, .ref 165), (1, .int (nI (i + 1))), (2, .int (nI c))], [.int 0])) rfl ?_
              exact J15
          refine xe_sn pg_136 2 (fr' := (140, [(7, .int (if (if (V.1 185 (((nI (12 * i + 3 * c)) + (V.2.2.2 5)) - 1).toNatClampNeg) = 0 then (0 : Int32) else 1) = 0 then (1 : Int32) else 0)), (6, .int (if (V.1 185 (((nI (12 * i + 3 * c)) + (V.2.2.2 5)) - 1).toNatClampNeg) = 0 then (0 : Int32) else 1)), (5, .int r1), (4, .int (V.2.2.2 5)), (3, .int (nI (4 * i + c))), (0, .ref 165), (1, .int (nI (i + 1))), (2, .int (nI c))], [.int (if (if (V.1 185 (((nI (12 * i + 3 * c)) + (V.2.2.2 5)) - 1).toNatClampNeg) = 0 then (0 : Int32) else 1) = 0 then (1 : Int32) else 0)])) rfl ?_
          by_cases h16 : (if (if (V.1 185 (((nI (12 * i + 3 * c)) + (V.2.2.2 5)) - 1).toNatClampNeg) = 0 then (0 : Int32) else 1) = 0 then (1 : Int32) else 0) = 0
          · rw [if_pos h16] at hE
            refine xe_c1t pg_136 171 rfl rfl h16 ?_
            refine xe_sn pg_136 2 (fr' := (174, [(7, .int (if (if (V.1 185 (((nI (12 * i + 3 * c)) + (V.2.2.2 5)) - 1).toNatClampNeg) = 0 then (0 : Int32) else 1) = 0 then (1 : Int32) else 0)), (6, .int (if (V.1 185 (((nI (12 * i + 3 * c)) + (V.2.2.2 5)) - 1).toNatClampNeg) = 0 then (0 : Int32) else 1)), (5, .int r1), (4, .int (V.2.2.2 5)), (3, .int (nI (4 * i + c))), (0, .ref 165), (1, .int (nI (i + 1))), (2, .int (nI c))], [.int (if (if (V.1 185 (((nI (12 * i + 3 * c)) + (V.2.2.2 5)) - 1).toNatClampNeg) = 0 then (0 : Int32) else 1) = 0 then (1 : Int32) else 0), .ref 165])) rfl ?_
            refine xe_c1t pg_136 181 rfl rfl h16 ?_
            refine xe_sn pg_136 3 (fr' := (186, [(7, .int (if (if (V.1 185 (((nI (12 * i + 3 * c)) + (V.2.2.2 5)) - 1).toNatClampNeg) = 0 then (0 : Int32) else 1) = 0 then (1 : Int32) else 0)), (6, .int (if (V.1 185 (((nI (12 * i + 3 * c)) + (V.2.2.2 5)) - 1).toNatClampNeg) = 0 then (0 : Int32) else 1)), (5, .int r1), (4, .int (V.2.2.2 5)), (3, .int (nI (4 * i + c))), (0, .ref 165), (1, .int (nI (i + 1))), (2, .int (nI c))], [.int 0, .int (V.2.2.2 5), .int 6, .ref 165])) rfl ?_
            obtain ⟨r15, e15, hE⟩ := Option.bind_eq_some_iff.mp hE
            refine xe_cv pg_136 114 pg_114 [.int 6, .int (V.2.2.2 5), .int 0] [] (none) rfl rfl rfl rfl ⟨Nat.le_of_ble_eq_true rfl, Nat.le_of_ble_eq_true rfl, Nat.le_of_ble_eq_true rfl⟩ ⟨rfl, rfl⟩ ⟨by decide, rfl, by decide⟩ (cg_order _ (o := 6) (s := (V.2.2.2 5)) (n := 0)  e15) ?_
            refine xe_sn pg_136 3 (fr' := (192, [(7, .int (if (if (V.1 185 (((nI (12 * i + 3 * c)) + (V.2.2.2 5)) - 1).toNatClampNeg) = 0 then (0 : Int32) else 1) = 0 then (1 : Int32) else 0)), (6, .int (if (V.1 185 (((nI (12 * i + 3 * c)) + (V.2.2.2 5)) - 1).toNatClampNeg) = 0 then (0 : Int32) else 1)), (5, .int r1), (4, .int (V.2.2.2 5)), (3, .int (nI (4 * i + c))), (0, .ref 165), (1, .int (nI (i + 1))), (2, .int (nI c))], [.int (nI c), .int (nI (i + 1)), .ref 165])) rfl ?_
            obtain ⟨r16, e16, hE⟩ := Option.bind_eq_some_iff.mp hE
            refine xe_cv pg_136 132 pg_132 [.int (nI (i + 1)), .int (nI c)] [] (none) rfl rfl rfl rfl ⟨Nat.le_of_ble_eq_true rfl, Nat.le_of_ble_eq_true rfl, Nat.le_of_ble_eq_true rfl⟩ ⟨rfl, rfl⟩ ⟨by decide, rfl, by decide⟩ (cg_relaySends _ (i := i) (c := c) (by omega) (by omega) e16) ?_
            refine xe_sn pg_136 1 (fr' := (276, [(7, .int (if (if (V.1 185 (((nI (12 * i + 3 * c)) + (V.2.2.2 5)) - 1).toNatClampNeg) = 0 then (0 : Int32) else 1) = 0 then (1 : Int32) else 0)), (6, .int (if (V.1 185 (((nI (12 * i + 3 * c)) + (V.2.2.2 5)) - 1).toNatClampNeg) = 0 then (0 : Int32) else 1)), (5, .int r1), (4, .int (V.2.2.2 5)), (3, .int (nI (4 * i + c))), (0, .ref 165), (1, .int (nI (i + 1))), (2, .int (nI c))], [])) rfl ?_
            cases hE
            exact xe_end pg_136 rfl
          · rw [if_neg h16] at hE
            refine xe_c1f pg_136 171 rfl rfl h16 ?_
            refine xe_sn pg_136 4 (fr' := (149, [(7, .int (if (if (V.1 185 (((nI (12 * i + 3 * c)) + (V.2.2.2 5)) - 1).toNatClampNeg) = 0 then (0 : Int32) else 1) = 0 then (1 : Int32) else 0)), (6, .int (if (V.1 185 (((nI (12 * i + 3 * c)) + (V.2.2.2 5)) - 1).toNatClampNeg) = 0 then (0 : Int32) else 1)), (5, .int r1), (4, .int (V.2.2.2 5)), (3, .int (nI (4 * i + c))), (0, .ref 165), (1, .int (nI (i + 1))), (2, .int (nI c))], [.int (nI (4 * i + c)), .int 3, .ref 185])) rfl ?_
            refine xe_nm pg_136 3 (4 * i + c) (12 * i + 3 * c) rfl (by omega) ?_
            refine xe_sn pg_136 5 (fr' := (156, [(7, .int (if (if (V.1 185 (((nI (12 * i + 3 * c)) + (V.2.2.2 5)) - 1).toNatClampNeg) = 0 then (0 : Int32) else 1) = 0 then (1 : Int32) else 0)), (6, .int (if (V.1 185 (((nI (12 * i + 3 * c)) + (V.2.2.2 5)) - 1).toNatClampNeg) = 0 then (0 : Int32) else 1)), (5, .int r1), (4, .int (V.2.2.2 5)), (3, .int (nI (4 * i + c))), (0, .ref 165), (1, .int (nI (i + 1))), (2, .int (nI c))], [.int 1, .int (((nI (12 * i + 3 * c)) + (V.2.2.2 5)) - 1), .ref 185])) rfl ?_
            refine ze_bsx pg_136 (((nI (12 * i + 3 * c)) + (V.2.2.2 5)) - 1).toNatClampNeg rfl ⟨by decide, by decide⟩ rfl g10 rfl (Or.inr rfl) (by decide) ?_
            refine xe_sn pg_136 4 (fr' := (163, [(7, .int (if (if (V.1 185 (((nI (12 * i + 3 * c)) + (V.2.2.2 5)) - 1).toNatClampNeg) = 0 then (0 : Int32) else 1) = 0 then (1 : Int32) else 0)), (6, .int (if (V.1 185 (((nI (12 * i + 3 * c)) + (V.2.2.2 5)) - 1).toNatClampNeg) = 0 then (0 : Int32) else 1)), (5, .int r1), (4, .int (V.2.2.2 5)), (3, .int (nI (4 * i + c))), (0, .ref 165), (1, .int (nI (i + 1))), (2, .int (nI c))], [.int (nI (4 * i + c)), .int 3, .ref 186])) rfl ?_
            refine xe_nm pg_136 3 (4 * i + c) (12 * i + 3 * c) rfl (by omega) ?_
            refine xe_sn pg_136 5 (fr' := (170, [(7, .int (if (if (V.1 185 (((nI (12 * i + 3 * c)) + (V.2.2.2 5)) - 1).toNatClampNeg) = 0 then (0 : Int32) else 1) = 0 then (1 : Int32) else 0)), (6, .int (if (V.1 185 (((nI (12 * i + 3 * c)) + (V.2.2.2 5)) - 1).toNatClampNeg) = 0 then (0 : Int32) else 1)), (5, .int r1), (4, .int (V.2.2.2 5)), (3, .int (nI (4 * i + c))), (0, .ref 165), (1, .int (nI (i + 1))), (2, .int (nI c))], [.int 0, .int (((nI (12 * i + 3 * c)) + (V.2.2.2 5)) - 1), .ref 186])) rfl ?_
            refine ze_isn pg_136 (((nI (12 * i + 3 * c)) + (V.2.2.2 5)) - 1).toNatClampNeg rfl ⟨by decide, by decide⟩ rfl g10 rfl (by decide) ?_
            refine ze_gh 191 (((nI (12 * i + 3 * c)) + (V.2.2.2 5)) - 1).toNatClampNeg 0 (Or.inr rfl) ?_
            refine xe_sn pg_136 2 (fr' := (174, [(7, .int (if (if (V.1 185 (((nI (12 * i + 3 * c)) + (V.2.2.2 5)) - 1).toNatClampNeg) = 0 then (0 : Int32) else 1) = 0 then (1 : Int32) else 0)), (6, .int (if (V.1 185 (((nI (12 * i + 3 * c)) + (V.2.2.2 5)) - 1).toNatClampNeg) = 0 then (0 : Int32) else 1)), (5, .int r1), (4, .int (V.2.2.2 5)), (3, .int (nI (4 * i + c))), (0, .ref 165), (1, .int (nI (i + 1))), (2, .int (nI c))], [.int (if (if (V.1 185 (((nI (12 * i + 3 * c)) + (V.2.2.2 5)) - 1).toNatClampNeg) = 0 then (0 : Int32) else 1) = 0 then (1 : Int32) else 0), .ref 165])) rfl ?_
            refine xe_c1f pg_136 181 rfl rfl h16 ?_
            refine xe_sn pg_136 2 (fr' := (183, [(7, .int (if (if (V.1 185 (((nI (12 * i + 3 * c)) + (V.2.2.2 5)) - 1).toNatClampNeg) = 0 then (0 : Int32) else 1) = 0 then (1 : Int32) else 0)), (6, .int (if (V.1 185 (((nI (12 * i + 3 * c)) + (V.2.2.2 5)) - 1).toNatClampNeg) = 0 then (0 : Int32) else 1)), (5, .int r1), (4, .int (V.2.2.2 5)), (3, .int (nI (4 * i + c))), (0, .ref 165), (1, .int (nI (i + 1))), (2, .int (nI c))], [.int 4, .ref 165])) rfl ?_
            refine xe_sn pg_136 2 (fr' := (186, [(7, .int (if (if (V.1 185 (((nI (12 * i + 3 * c)) + (V.2.2.2 5)) - 1).toNatClampNeg) = 0 then (0 : Int32) else 1) = 0 then (1 : Int32) else 0)), (6, .int (if (V.1 185 (((nI (12 * i + 3 * c)) + (V.2.2.2 5)) - 1).toNatClampNeg) = 0 then (0 : Int32) else 1)), (5, .int r1), (4, .int (V.2.2.2 5)), (3, .int (nI (4 * i + c))), (0, .ref 165), (1, .int (nI (i + 1))), (2, .int (nI c))], [.int 0, .int (V.2.2.2 5), .int 4, .ref 165])) rfl ?_
            obtain ⟨r17, e17, hE⟩ := Option.bind_eq_some_iff.mp hE
            refine xe_cv pg_136 114 pg_114 [.int 4, .int (V.2.2.2 5), .int 0] [] (none) rfl rfl rfl rfl ⟨Nat.le_of_ble_eq_true rfl, Nat.le_of_ble_eq_true rfl, Nat.le_of_ble_eq_true rfl⟩ ⟨rfl, rfl⟩ ⟨by decide, rfl, by decide⟩ (cg_order _ (o := 4) (s := (V.2.2.2 5)) (n := 0)  e17) ?_
            refine xe_sn pg_136 3 (fr' := (192, [(7, .int (if (if (V.1 185 (((nI (12 * i + 3 * c)) + (V.2.2.2 5)) - 1).toNatClampNeg) = 0 then (0 : Int32) else 1) = 0 then (1 : Int32) else 0)), (6, .int (if (V.1 185 (((nI (12 * i + 3 * c)) + (V.2.2.2 5)) - 1).toNatClampNeg) = 0 then (0 : Int32) else 1)), (5, .int r1), (4, .int (V.2.2.2 5)), (3, .int (nI (4 * i + c))), (0, .ref 165), (1, .int (nI (i + 1))), (2, .int (nI c))], [.int (nI c), .int (nI (i + 1)), .ref 165])) rfl ?_
            obtain ⟨r18, e18, hE⟩ := Option.bind_eq_some_iff.mp hE
            refine xe_cv pg_136 132 pg_132 [.int (nI (i + 1)), .int (nI c)] [] (none) rfl rfl rfl rfl ⟨Nat.le_of_ble_eq_true rfl, Nat.le_of_ble_eq_true rfl, Nat.le_of_ble_eq_true rfl⟩ ⟨rfl, rfl⟩ ⟨by decide, rfl, by decide⟩ (cg_relaySends _ (i := i) (c := c) (by omega) (by omega) e18) ?_
            refine xe_sn pg_136 1 (fr' := (276, [(7, .int (if (if (V.1 185 (((nI (12 * i + 3 * c)) + (V.2.2.2 5)) - 1).toNatClampNeg) = 0 then (0 : Int32) else 1) = 0 then (1 : Int32) else 0)), (6, .int (if (V.1 185 (((nI (12 * i + 3 * c)) + (V.2.2.2 5)) - 1).toNatClampNeg) = 0 then (0 : Int32) else 1)), (5, .int r1), (4, .int (V.2.2.2 5)), (3, .int (nI (4 * i + c))), (0, .ref 165), (1, .int (nI (i + 1))), (2, .int (nI c))], [])) rfl ?_
            cases hE
            exact xe_end pg_136 rfl
        · rw [if_neg h14] at hE
          by_cases h17 : (V.2.2.2 4) = 4
          · rw [if_pos h17] at hE
            refine xe_sw pg_136 270 h17 rfl ?_
            refine xe_sn pg_136 3 (fr' := (273, [(6, .int (if (V.1 185 (((nI (12 * i + 3 * c)) + (V.2.2.2 5)) - 1).toNatClampNeg) = 0 then (0 : Int32) else 1)), (5, .int r1), (4, .int (V.2.2.2 5)), (3, .int (nI (4 * i + c))), (0, .ref 165), (1, .int (nI (i + 1))), (2, .int (nI c))], [.int (nI c), .int (nI (i + 1)), .ref 165])) rfl ?_
            obtain ⟨r19, e19, hE⟩ := Option.bind_eq_some_iff.mp hE
            refine xe_cv pg_136 131 pg_131 [.int (nI (i + 1)), .int (nI c)] [] (none) rfl rfl rfl rfl ⟨Nat.le_of_ble_eq_true rfl, Nat.le_of_ble_eq_true rfl, Nat.le_of_ble_eq_true rfl⟩ ⟨rfl, rfl⟩ ⟨by decide, rfl, by decide⟩ (cg_tear _ (i := i) (c := c) (by omega) (by omega) e19) ?_
            cases hE
            exact xe_end pg_136 rfl
          · rw [if_neg h17] at hE
            by_cases h18 : (V.2.2.2 4) = 5
            · rw [if_pos h18] at hE
              refine xe_sw pg_136 198 h18 rfl ?_
              refine xe_sn pg_136 5 (fr' := (205, [(6, .int (if (V.1 185 (((nI (12 * i + 3 * c)) + (V.2.2.2 5)) - 1).toNatClampNeg) = 0 then (0 : Int32) else 1)), (5, .int r1), (4, .int (V.2.2.2 5)), (3, .int (nI (4 * i + c))), (0, .ref 165), (1, .int (nI (i + 1))), (2, .int (nI c))], [.int (if (V.1 185 (((nI (12 * i + 3 * c)) + (V.2.2.2 5)) - 1).toNatClampNeg) = 0 then (0 : Int32) else 1), .int (V.2.2.2 5), .int (nI c), .int (nI (i + 1)), .ref 165])) rfl ?_
              obtain ⟨r20, e20, hE⟩ := Option.bind_eq_some_iff.mp hE
              refine xe_cv pg_136 135 pg_135 [.int (nI (i + 1)), .int (nI c), .int (V.2.2.2 5), .int (if (V.1 185 (((nI (12 * i + 3 * c)) + (V.2.2.2 5)) - 1).toNatClampNeg) = 0 then (0 : Int32) else 1)] [] (none) rfl rfl rfl rfl ⟨Nat.le_of_ble_eq_true rfl, Nat.le_of_ble_eq_true rfl, Nat.le_of_ble_eq_true rfl⟩ ⟨rfl, rfl⟩ ⟨by decide, rfl, by decide⟩ (cg_dataAt _ (i := i) (c := c) (s := (V.2.2.2 5)) (op := (if (V.1 185 (((nI (12 * i + 3 * c)) + (V.2.2.2 5)) - 1).toNatClampNeg) = 0 then (0 : Int32) else 1)) (by omega) (by omega) e20) ?_
              refine xe_sn pg_136 1 (fr' := (276, [(6, .int (if (V.1 185 (((nI (12 * i + 3 * c)) + (V.2.2.2 5)) - 1).toNatClampNeg) = 0 then (0 : Int32) else 1)), (5, .int r1), (4, .int (V.2.2.2 5)), (3, .int (nI (4 * i + c))), (0, .ref 165), (1, .int (nI (i + 1))), (2, .int (nI c))], [])) rfl ?_
              cases hE
              exact xe_end pg_136 rfl
            · rw [if_neg h18] at hE
              by_cases h19 : (V.2.2.2 4) = 6
              · rw [if_pos h19] at hE
                refine xe_sw pg_136 211 h19 rfl ?_
                refine xe_sn pg_136 1 (fr' := (213, [(6, .int (if (V.1 185 (((nI (12 * i + 3 * c)) + (V.2.2.2 5)) - 1).toNatClampNeg) = 0 then (0 : Int32) else 1)), (5, .int r1), (4, .int (V.2.2.2 5)), (3, .int (nI (4 * i + c))), (0, .ref 165), (1, .int (nI (i + 1))), (2, .int (nI c))], [.int (if (V.1 185 (((nI (12 * i + 3 * c)) + (V.2.2.2 5)) - 1).toNatClampNeg) = 0 then (0 : Int32) else 1)])) rfl ?_
                by_cases h20 : (if (V.1 185 (((nI (12 * i + 3 * c)) + (V.2.2.2 5)) - 1).toNatClampNeg) = 0 then (0 : Int32) else 1) = 0
                · rw [if_pos h20] at hE
                  refine xe_c1t pg_136 276 rfl rfl h20 ?_
                  cases hE
                  exact xe_end pg_136 rfl
                · rw [if_neg h20] at hE
                  refine xe_c1f pg_136 276 rfl rfl h20 ?_
                  refine xe_sn pg_136 4 (fr' := (222, [(6, .int (if (V.1 185 (((nI (12 * i + 3 * c)) + (V.2.2.2 5)) - 1).toNatClampNeg) = 0 then (0 : Int32) else 1)), (5, .int r1), (4, .int (V.2.2.2 5)), (3, .int (nI (4 * i + c))), (0, .ref 165), (1, .int (nI (i + 1))), (2, .int (nI c))], [.int (nI (4 * i + c)), .int 3, .ref 185])) rfl ?_
                  refine xe_nm pg_136 3 (4 * i + c) (12 * i + 3 * c) rfl (by omega) ?_
                  refine xe_sn pg_136 5 (fr' := (229, [(6, .int (if (V.1 185 (((nI (12 * i + 3 * c)) + (V.2.2.2 5)) - 1).toNatClampNeg) = 0 then (0 : Int32) else 1)), (5, .int r1), (4, .int (V.2.2.2 5)), (3, .int (nI (4 * i + c))), (0, .ref 165), (1, .int (nI (i + 1))), (2, .int (nI c))], [.int 0, .int (((nI (12 * i + 3 * c)) + (V.2.2.2 5)) - 1), .ref 185])) rfl ?_
                  refine ze_bsx pg_136 (((nI (12 * i + 3 * c)) + (V.2.2.2 5)) - 1).toNatClampNeg rfl ⟨by decide, by decide⟩ rfl g10 rfl (Or.inl rfl) (by decide) ?_
                  refine xe_sn pg_136 1 (fr' := (276, [(6, .int (if (V.1 185 (((nI (12 * i + 3 * c)) + (V.2.2.2 5)) - 1).toNatClampNeg) = 0 then (0 : Int32) else 1)), (5, .int r1), (4, .int (V.2.2.2 5)), (3, .int (nI (4 * i + c))), (0, .ref 165), (1, .int (nI (i + 1))), (2, .int (nI c))], [])) rfl ?_
                  cases hE
                  exact xe_end pg_136 rfl
              · rw [if_neg h19] at hE
                by_cases h21 : (V.2.2.2 4) = 7
                · rw [if_pos h21] at hE
                  refine xe_sw pg_136 270 h21 rfl ?_
                  refine xe_sn pg_136 3 (fr' := (273, [(6, .int (if (V.1 185 (((nI (12 * i + 3 * c)) + (V.2.2.2 5)) - 1).toNatClampNeg) = 0 then (0 : Int32) else 1)), (5, .int r1), (4, .int (V.2.2.2 5)), (3, .int (nI (4 * i + c))), (0, .ref 165), (1, .int (nI (i + 1))), (2, .int (nI c))], [.int (nI c), .int (nI (i + 1)), .ref 165])) rfl ?_
                  obtain ⟨r21, e21, hE⟩ := Option.bind_eq_some_iff.mp hE
                  refine xe_cv pg_136 131 pg_131 [.int (nI (i + 1)), .int (nI c)] [] (none) rfl rfl rfl rfl ⟨Nat.le_of_ble_eq_true rfl, Nat.le_of_ble_eq_true rfl, Nat.le_of_ble_eq_true rfl⟩ ⟨rfl, rfl⟩ ⟨by decide, rfl, by decide⟩ (cg_tear _ (i := i) (c := c) (by omega) (by omega) e21) ?_
                  cases hE
                  exact xe_end pg_136 rfl
                · rw [if_neg h21] at hE
                  by_cases h22 : (V.2.2.2 4) = 8
                  · rw [if_pos h22] at hE
                    refine xe_sw pg_136 233 h22 rfl ?_
                    refine xe_sn pg_136 3 (fr' := (236, [(6, .int (if (V.1 185 (((nI (12 * i + 3 * c)) + (V.2.2.2 5)) - 1).toNatClampNeg) = 0 then (0 : Int32) else 1)), (5, .int r1), (4, .int (V.2.2.2 5)), (3, .int (nI (4 * i + c))), (0, .ref 165), (1, .int (nI (i + 1))), (2, .int (nI c))], [.int (nI c), .int (nI (i + 1)), .ref 165])) rfl ?_
                    obtain ⟨r22, e22, hE⟩ := Option.bind_eq_some_iff.mp hE
                    refine xe_cv pg_136 130 pg_130 [.int (nI (i + 1)), .int (nI c)] [] (none) rfl rfl rfl rfl ⟨Nat.le_of_ble_eq_true rfl, Nat.le_of_ble_eq_true rfl, Nat.le_of_ble_eq_true rfl⟩ ⟨rfl, rfl⟩ ⟨by decide, rfl, by decide⟩ (cg_destroyOn _ (i := i) (c := c) (by omega) (by omega) e22) ?_
                    refine xe_sn pg_136 4 (fr' := (245, [(6, .int (if (V.1 185 (((nI (12 * i + 3 * c)) + (V.2.2.2 5)) - 1).toNatClampNeg) = 0 then (0 : Int32) else 1)), (5, .int r1), (4, .int (V.2.2.2 5)), (3, .int (nI (4 * i + c))), (0, .ref 165), (1, .int (nI (i + 1))), (2, .int (nI c))], [.int (-1), .int (nI (4 * i + c)), .ref 182])) rfl ?_
                    refine ze_isx pg_136 (4 * i + c) rfl ⟨by decide, by decide⟩ rfl (bn (by omega) (by decide)) (bc (n := 16) (by omega) (by decide)) (by decide) ?_
                    refine xe_sn pg_136 4 (fr' := (252, [(6, .int (if (V.1 185 (((nI (12 * i + 3 * c)) + (V.2.2.2 5)) - 1).toNatClampNeg) = 0 then (0 : Int32) else 1)), (5, .int r1), (4, .int (V.2.2.2 5)), (3, .int (nI (4 * i + c))), (0, .ref 165), (1, .int (nI (i + 1))), (2, .int (nI c))], [.int (-1), .int (nI (4 * i + c)), .ref 183])) rfl ?_
                    refine ze_isx pg_136 (4 * i + c) rfl ⟨by decide, by decide⟩ rfl (bn (by omega) (by decide)) (bc (n := 16) (by omega) (by decide)) (by decide) ?_
                    refine xe_sn pg_136 4 (fr' := (258, [(6, .int (if (V.1 185 (((nI (12 * i + 3 * c)) + (V.2.2.2 5)) - 1).toNatClampNeg) = 0 then (0 : Int32) else 1)), (5, .int r1), (4, .int (V.2.2.2 5)), (3, .int (nI (4 * i + c))), (0, .ref 165), (1, .int (nI (i + 1))), (2, .int (nI c))], [.int 0, .int 0, .int 9, .ref 165])) rfl ?_
                    obtain ⟨r23, e23, hE⟩ := Option.bind_eq_some_iff.mp hE
                    refine xe_cv pg_136 114 pg_114 [.int 9, .int 0, .int 0] [] (none) rfl rfl rfl rfl ⟨Nat.le_of_ble_eq_true rfl, Nat.le_of_ble_eq_true rfl, Nat.le_of_ble_eq_true rfl⟩ ⟨rfl, rfl⟩ ⟨by decide, rfl, by decide⟩ (cg_order _ (o := 9) (s := 0) (n := 0)  e23) ?_
                    refine xe_sn pg_136 3 (fr' := (264, [(6, .int (if (V.1 185 (((nI (12 * i + 3 * c)) + (V.2.2.2 5)) - 1).toNatClampNeg) = 0 then (0 : Int32) else 1)), (5, .int r1), (4, .int (V.2.2.2 5)), (3, .int (nI (4 * i + c))), (0, .ref 165), (1, .int (nI (i + 1))), (2, .int (nI c))], [.int (nI c), .int (nI (i + 1)), .ref 165])) rfl ?_
                    obtain ⟨r24, e24, hE⟩ := Option.bind_eq_some_iff.mp hE
                    refine xe_cv pg_136 132 pg_132 [.int (nI (i + 1)), .int (nI c)] [] (none) rfl rfl rfl rfl ⟨Nat.le_of_ble_eq_true rfl, Nat.le_of_ble_eq_true rfl, Nat.le_of_ble_eq_true rfl⟩ ⟨rfl, rfl⟩ ⟨by decide, rfl, by decide⟩ (cg_relaySends _ (i := i) (c := c) (by omega) (by omega) e24) ?_
                    refine xe_sn pg_136 1 (fr' := (276, [(6, .int (if (V.1 185 (((nI (12 * i + 3 * c)) + (V.2.2.2 5)) - 1).toNatClampNeg) = 0 then (0 : Int32) else 1)), (5, .int r1), (4, .int (V.2.2.2 5)), (3, .int (nI (4 * i + c))), (0, .ref 165), (1, .int (nI (i + 1))), (2, .int (nI c))], [])) rfl ?_
                    cases hE
                    exact xe_end pg_136 rfl
                  · rw [if_neg h22] at hE
                    refine xe_tsd pg_136 270 rfl rfl (sw_out 1 8 (by decide) (by decide) (fun j hj1 hj2 => ?_)) ?_
                    · rcases (by omega : j = 1 ∨ j = 2 ∨ j = 3 ∨ j = 4 ∨ j = 5 ∨ j = 6 ∨ j = 7 ∨ j = 8) with e | e | e | e | e | e | e | e <;> subst e <;> assumption
                    refine xe_sn pg_136 3 (fr' := (273, [(6, .int (if (V.1 185 (((nI (12 * i + 3 * c)) + (V.2.2.2 5)) - 1).toNatClampNeg) = 0 then (0 : Int32) else 1)), (5, .int r1), (4, .int (V.2.2.2 5)), (3, .int (nI (4 * i + c))), (0, .ref 165), (1, .int (nI (i + 1))), (2, .int (nI c))], [.int (nI c), .int (nI (i + 1)), .ref 165])) rfl ?_
                    obtain ⟨r25, e25, hE⟩ := Option.bind_eq_some_iff.mp hE
                    refine xe_cv pg_136 131 pg_131 [.int (nI (i + 1)), .int (nI c)] [] (none) rfl rfl rfl rfl ⟨Nat.le_of_ble_eq_true rfl, Nat.le_of_ble_eq_true rfl, Nat.le_of_ble_eq_true rfl⟩ ⟨rfl, rfl⟩ ⟨by decide, rfl, by decide⟩ (cg_tear _ (i := i) (c := c) (by omega) (by omega) e25) ?_
                    cases hE
                    exact xe_end pg_136 rfl

def g_relayed (V : xVt) (i : Nat) (f : Int32) (c : Nat) : Option xVt := if (V.1 180 (4 * i + c)) = 0 then (some (vx V 165 5 ((V.1 165 5) + 1))) else (if f = (V.1 181 (4 * i + c)) then ((some (vbs V (wrapB V.2.2.2 (V.1 184 (16 * i + 4 * c)) 14))).bind fun r1 => if (r1.2.1 165 27) = 0 then ((some (g_isKnown (vx r1 184 (16 * i + 4 * c) (ks (V.1 184 (16 * i + 4 * c)) 14)) ((vx r1 184 (16 * i + 4 * c) (ks (V.1 184 (16 * i + 4 * c)) 14)).1 184 (16 * i + 4 * c + 2)))).bind fun r2 => if r2 = 0 then (if (r1.2.1 165 27) ≤ 0 then ((g_tear (vx r1 184 (16 * i + 4 * c) (ks (V.1 184 (16 * i + 4 * c)) 14)) i c).bind fun r3 => some r3) else (if (r1.1 182 (4 * i + c)) < 0 then ((g_tear (vx r1 184 (16 * i + 4 * c) (ks (V.1 184 (16 * i + 4 * c)) 14)) i c).bind fun r4 => some r4) else ((g_ship (vx r1 184 (16 * i + 4 * c) (ks (V.1 184 (16 * i + 4 * c)) 14)) (nI (i + 1)) (r1.1 182 (4 * i + c)) (nI c) 3 ((r1.2.1 165 27) - 1)).bind fun r5 => some r5))) else ((some (g_fed (vx r1 184 (16 * i + 4 * c) (ks (V.1 184 (16 * i + 4 * c)) 14)) ((vx r1 184 (16 * i + 4 * c) (ks (V.1 184 (16 * i + 4 * c)) 14)).1 184 (16 * i + 4 * c + 2)))).bind fun r6 => (g_relayFollows (vx (vx r1 184 (16 * i + 4 * c) (ks (V.1 184 (16 * i + 4 * c)) 14)) 184 (16 * i + 4 * c + 2) r6) i c).bind fun r7 => some r7)) else (if (r1.2.1 165 27) ≤ 0 then ((g_tear (vx r1 184 (16 * i + 4 * c) (ks (V.1 184 (16 * i + 4 * c)) 14)) i c).bind fun r8 => some r8) else (if (r1.1 182 (4 * i + c)) < 0 then ((g_tear (vx r1 184 (16 * i + 4 * c) (ks (V.1 184 (16 * i + 4 * c)) 14)) i c).bind fun r9 => some r9) else ((g_ship (vx r1 184 (16 * i + 4 * c) (ks (V.1 184 (16 * i + 4 * c)) 14)) (nI (i + 1)) (r1.1 182 (4 * i + c)) (nI c) 3 ((r1.2.1 165 27) - 1)).bind fun r10 => some r10)))) else (if f = (V.1 182 (4 * i + c)) then ((some (vbs V (wrapB V.2.2.2 (V.1 184 (16 * i + 4 * c + 1)) 14))).bind fun r11 => (g_ship (vx r11 184 (16 * i + 4 * c + 1) (ks (V.1 184 (16 * i + 4 * c + 1)) 14)) (nI (i + 1)) (r11.1 181 (4 * i + c)) (nI c) 3 ((r11.2.1 165 27) + 1)).bind fun r12 => some r12) else (some (vx V 165 5 ((V.1 165 5) + 1)))))
set_option maxRecDepth 100000 in
theorem cg_relayed (d : Nat) {w : xWd} {S : xSt} {V : xVt} {ρ : Nat → Nat → Int64} {i : Nat} {f : Int32} {c : Nat} (hi : i < 4) (hc : c < 4) {r : xVt} (hE : (g_relayed V i f c) = some r) : xc (d + 6) 137 [.ref 165, .int (nI (i + 1)), .int f, .int (nI c)] (hv w S V ρ) (.inl (none), hv w S r ρ) := by
  unfold g_relayed at hE
  refine xe_sn pg_137 3 (fr' := (3, [(0, .ref 165), (1, .int (nI (i + 1))), (2, .int f), (3, .int (nI c))], [.int (nI c), .int (nI (i + 1)), .ref 165])) rfl ?_
  refine xe_cv pg_137 128 pg_128 [.int (nI (i + 1)), .int (nI c)] [] (some (.int (nI (4 * i + c)))) rfl rfl rfl rfl ⟨Nat.le_of_ble_eq_true rfl, Nat.le_of_ble_eq_true rfl, Nat.le_of_ble_eq_true rfl⟩ ⟨rfl, rfl⟩ ⟨by decide, rfl, by decide⟩ (cg_place _ (i := i) (c := c) (by omega) (by omega) rfl) ?_
  refine xe_sn pg_137 4 (fr' := (14, [(4, .int (nI (4 * i + c))), (0, .ref 165), (1, .int (nI (i + 1))), (2, .int f), (3, .int (nI c))], [.int (nI (4 * i + c)), .ref 180])) rfl ?_
  refine ze_bl pg_137 (4 * i + c) (V.1 180 (4 * i + c)) rfl ⟨by decide, by decide⟩ rfl (bn (by omega) (by decide)) (bc (n := 16) (by omega) (by decide)) rfl ?_
  by_cases h1 : (V.1 180 (4 * i + c)) = 0
  · rw [if_pos h1] at hE
    refine xe_c1t pg_137 160 rfl rfl h1 ?_
    refine xe_sn pg_137 3 (fr' := (166, [(4, .int (nI (4 * i + c))), (0, .ref 165), (1, .int (nI (i + 1))), (2, .int f), (3, .int (nI c))], [.int (nI (4 * i + c)), .ref 180])) rfl ?_
    refine ze_bl pg_137 (4 * i + c) (V.1 180 (4 * i + c)) rfl ⟨by decide, by decide⟩ rfl (bn (by omega) (by decide)) (bc (n := 16) (by omega) (by decide)) rfl ?_
    refine xe_c1t pg_137 230 rfl rfl h1 ?_
    refine xe_sn pg_137 2 (fr' := (232, [(4, .int (nI (4 * i + c))), (0, .ref 165), (1, .int (nI (i + 1))), (2, .int f), (3, .int (nI c))], [.ref 165, .ref 165])) rfl ?_
    refine ze_gi pg_137 (V.1 165 5) rfl rfl rfl rfl ?_
    refine xe_sn pg_137 2 (fr' := (237, [(4, .int (nI (4 * i + c))), (0, .ref 165), (1, .int (nI (i + 1))), (2, .int f), (3, .int (nI c))], [.int ((V.1 165 5) + 1), .ref 165])) rfl ?_
    refine ze_px pg_137 rfl rfl ⟨rfl, rfl⟩ (Or.inl rfl) (by decide) ?_
    cases hE
    exact xe_end pg_137 rfl
  · rw [if_neg h1] at hE
    refine xe_c1f pg_137 160 rfl rfl h1 ?_
    refine xe_sn pg_137 4 (fr' := (25, [(4, .int (nI (4 * i + c))), (0, .ref 165), (1, .int (nI (i + 1))), (2, .int f), (3, .int (nI c))], [.int (nI (4 * i + c)), .ref 181, .int f])) rfl ?_
    refine ze_il pg_137 (4 * i + c) (V.1 181 (4 * i + c)) rfl ⟨by decide, by decide⟩ rfl (bn (by omega) (by decide)) (bc (n := 16) (by omega) (by decide)) rfl ?_
    by_cases h2 : f = (V.1 181 (4 * i + c))
    · rw [if_pos h2] at hE
      refine xe_c2f pg_137 160 rfl rfl (fun z => z h2) ?_
      refine xe_sn pg_137 4 (fr' := (36, [(4, .int (nI (4 * i + c))), (0, .ref 165), (1, .int (nI (i + 1))), (2, .int f), (3, .int (nI c))], [.int (nI (4 * i + c)), .int 4, .ref 184])) rfl ?_
      refine xe_nm pg_137 4 (4 * i + c) (16 * i + 4 * c) rfl (by omega) ?_
      refine xe_sn pg_137 5 (fr' := (45, [(4, .int (nI (4 * i + c))), (0, .ref 165), (1, .int (nI (i + 1))), (2, .int f), (3, .int (nI c))], [.int (nI (4 * i + c)), .int 4, .ref 184, .ref 165, .int (nI (16 * i + 4 * c)), .ref 184])) rfl ?_
      refine xe_nm pg_137 4 (4 * i + c) (16 * i + 4 * c) rfl (by omega) ?_
      refine ze_il pg_137 (16 * i + 4 * c) (V.1 184 (16 * i + 4 * c)) rfl ⟨by decide, by decide⟩ rfl (bn (by omega) (by decide)) (bc (n := 64) (by omega) (by decide)) rfl ?_
      obtain ⟨r1, e1, hE⟩ := Option.bind_eq_some_iff.mp hE
      have e1q := Option.some.inj e1
      refine xe_cv pg_137 109 pg_109 [.int (V.1 184 (16 * i + 4 * c))] [.int (nI (16 * i + 4 * c)), .ref 184] (some (.int (ks (V.1 184 (16 * i + 4 * c)) 14))) rfl rfl rfl rfl ⟨Nat.le_of_ble_eq_true rfl, Nat.le_of_ble_eq_true rfl, Nat.le_of_ble_eq_true rfl⟩ ⟨rfl, rfl⟩ ⟨by decide, rfl, by decide⟩ (e1q ▸ cg_wrap _ (key := (V.1 184 (16 * i + 4 * c))) ) ?_
      refine ze_isx pg_137 (16 * i + 4 * c) rfl ⟨by decide, by decide⟩ rfl (bn (by omega) (by decide)) (bc (n := 64) (by omega) (by decide)) (by decide) ?_
      refine xe_sn pg_137 1 (fr' := (52, [(4, .int (nI (4 * i + c))), (0, .ref 165), (1, .int (nI (i + 1))), (2, .int f), (3, .int (nI c))], [.ref 165])) rfl ?_
      refine ze_gi pg_137 (r1.2.1 165 27) rfl rfl rfl rfl ?_
      by_cases h3 : (r1.2.1 165 27) = 0
      · rw [if_pos h3] at hE
        refine xe_c1f pg_137 111 rfl rfl (fun z => z h3) ?_
        refine xe_sn pg_137 5 (fr' := (66, [(4, .int (nI (4 * i + c))), (0, .ref 165), (1, .int (nI (i + 1))), (2, .int f), (3, .int (nI c))], [.int (nI (4 * i + c)), .int 4, .ref 184, .ref 165])) rfl ?_
        refine xe_nm pg_137 4 (4 * i + c) (16 * i + 4 * c) rfl (by omega) ?_
        refine xe_sn pg_137 1 (fr' := (68, [(4, .int (nI (4 * i + c))), (0, .ref 165), (1, .int (nI (i + 1))), (2, .int f), (3, .int (nI c))], [.int 2, .int (nI (16 * i + 4 * c)), .ref 184, .ref 165])) rfl ?_
        refine xe_na pg_137 (16 * i + 4 * c) 2 (16 * i + 4 * c + 2) rfl (by omega) ?_
        refine ze_il pg_137 (16 * i + 4 * c + 2) ((vx r1 184 (16 * i + 4 * c) (ks (V.1 184 (16 * i + 4 * c)) 14)).1 184 (16 * i + 4 * c + 2)) rfl ⟨by decide, by decide⟩ rfl (bn (by omega) (by decide)) (bc (n := 64) (by omega) (by decide)) rfl ?_
        obtain ⟨r2, e2, hE⟩ := Option.bind_eq_some_iff.mp hE
        refine xe_cv pg_137 116 pg_116 [.int ((vx r1 184 (16 * i + 4 * c) (ks (V.1 184 (16 * i + 4 * c)) 14)).1 184 (16 * i + 4 * c + 2))] [] (some (.int r2)) rfl rfl rfl rfl ⟨Nat.le_of_ble_eq_true rfl, Nat.le_of_ble_eq_true rfl, Nat.le_of_ble_eq_true rfl⟩ ⟨rfl, rfl⟩ ⟨by decide, rfl, by decide⟩ (cg_isKnown _ (key := ((vx r1 184 (16 * i + 4 * c) (ks (V.1 184 (16 * i + 4 * c)) 14)).1 184 (16 * i + 4 * c + 2)))  (Option.some.inj e2)) ?_
        by_cases h4 : r2 = 0
        · rw [if_pos h4] at hE
          refine xe_c1t pg_137 111 rfl rfl h4 ?_
          refine xe_sn pg_137 1 (fr' := (112, [(4, .int (nI (4 * i + c))), (0, .ref 165), (1, .int (nI (i + 1))), (2, .int f), (3, .int (nI c))], [.ref 165])) rfl ?_
          refine ze_gi pg_137 (r1.2.1 165 27) rfl rfl rfl rfl ?_
          by_cases h5 : (r1.2.1 165 27) ≤ 0
          · rw [if_pos h5] at hE
            refine xe_c1t pg_137 151 rfl rfl h5 ?_
            refine xe_sn pg_137 3 (fr' := (154, [(4, .int (nI (4 * i + c))), (0, .ref 165), (1, .int (nI (i + 1))), (2, .int f), (3, .int (nI c))], [.int (nI c), .int (nI (i + 1)), .ref 165])) rfl ?_
            obtain ⟨r3, e3, hE⟩ := Option.bind_eq_some_iff.mp hE
            refine xe_cv pg_137 131 pg_131 [.int (nI (i + 1)), .int (nI c)] [] (none) rfl rfl rfl rfl ⟨Nat.le_of_ble_eq_true rfl, Nat.le_of_ble_eq_true rfl, Nat.le_of_ble_eq_true rfl⟩ ⟨rfl, rfl⟩ ⟨by decide, rfl, by decide⟩ (cg_tear _ (i := i) (c := c) (by omega) (by omega) e3) ?_
            refine xe_sn pg_137 1 (fr' := (240, [(4, .int (nI (4 * i + c))), (0, .ref 165), (1, .int (nI (i + 1))), (2, .int f), (3, .int (nI c))], [])) rfl ?_
            cases hE
            exact xe_end pg_137 rfl
          · rw [if_neg h5] at hE
            refine xe_c1f pg_137 151 rfl rfl h5 ?_
            refine xe_sn pg_137 3 (fr' := (124, [(4, .int (nI (4 * i + c))), (0, .ref 165), (1, .int (nI (i + 1))), (2, .int f), (3, .int (nI c))], [.int (nI (4 * i + c)), .ref 182])) rfl ?_
            refine ze_il pg_137 (4 * i + c) (r1.1 182 (4 * i + c)) rfl ⟨by decide, by decide⟩ rfl (bn (by omega) (by decide)) (bc (n := 16) (by omega) (by decide)) rfl ?_
            by_cases h6 : (r1.1 182 (4 * i + c)) < 0
            · rw [if_pos h6] at hE
              refine xe_c1t pg_137 151 rfl rfl h6 ?_
              refine xe_sn pg_137 3 (fr' := (154, [(4, .int (nI (4 * i + c))), (0, .ref 165), (1, .int (nI (i + 1))), (2, .int f), (3, .int (nI c))], [.int (nI c), .int (nI (i + 1)), .ref 165])) rfl ?_
              obtain ⟨r4, e4, hE⟩ := Option.bind_eq_some_iff.mp hE
              refine xe_cv pg_137 131 pg_131 [.int (nI (i + 1)), .int (nI c)] [] (none) rfl rfl rfl rfl ⟨Nat.le_of_ble_eq_true rfl, Nat.le_of_ble_eq_true rfl, Nat.le_of_ble_eq_true rfl⟩ ⟨rfl, rfl⟩ ⟨by decide, rfl, by decide⟩ (cg_tear _ (i := i) (c := c) (by omega) (by omega) e4) ?_
              refine xe_sn pg_137 1 (fr' := (240, [(4, .int (nI (4 * i + c))), (0, .ref 165), (1, .int (nI (i + 1))), (2, .int f), (3, .int (nI c))], [])) rfl ?_
              cases hE
              exact xe_end pg_137 rfl
            · rw [if_neg h6] at hE
              refine xe_c1f pg_137 151 rfl rfl h6 ?_
              refine xe_sn pg_137 5 (fr' := (136, [(4, .int (nI (4 * i + c))), (0, .ref 165), (1, .int (nI (i + 1))), (2, .int f), (3, .int (nI c))], [.int (nI (4 * i + c)), .ref 182, .int (nI (i + 1)), .ref 165])) rfl ?_
              refine ze_il pg_137 (4 * i + c) (r1.1 182 (4 * i + c)) rfl ⟨by decide, by decide⟩ rfl (bn (by omega) (by decide)) (bc (n := 16) (by omega) (by decide)) rfl ?_
              refine xe_sn pg_137 3 (fr' := (140, [(4, .int (nI (4 * i + c))), (0, .ref 165), (1, .int (nI (i + 1))), (2, .int f), (3, .int (nI c))], [.ref 165, .int 3, .int (nI c), .int (r1.1 182 (4 * i + c)), .int (nI (i + 1)), .ref 165])) rfl ?_
              refine ze_gi pg_137 (r1.2.1 165 27) rfl rfl rfl rfl ?_
              refine xe_sn pg_137 2 (fr' := (145, [(4, .int (nI (4 * i + c))), (0, .ref 165), (1, .int (nI (i + 1))), (2, .int f), (3, .int (nI c))], [.int ((r1.2.1 165 27) - 1), .int 3, .int (nI c), .int (r1.1 182 (4 * i + c)), .int (nI (i + 1)), .ref 165])) rfl ?_
              obtain ⟨r5, e5, hE⟩ := Option.bind_eq_some_iff.mp hE
              refine xe_cv pg_137 117 pg_117 [.int (nI (i + 1)), .int (r1.1 182 (4 * i + c)), .int (nI c), .int 3, .int ((r1.2.1 165 27) - 1)] [] (none) rfl rfl rfl rfl ⟨Nat.le_of_ble_eq_true rfl, Nat.le_of_ble_eq_true rfl, Nat.le_of_ble_eq_true rfl⟩ ⟨rfl, rfl⟩ ⟨by decide, rfl, by decide⟩ (cg_ship _ (a := (nI (i + 1))) (b := (r1.1 182 (4 * i + c))) (c := (nI c)) (e := 3) (g := ((r1.2.1 165 27) - 1))  e5) ?_
              refine xe_sn pg_137 1 (fr' := (240, [(4, .int (nI (4 * i + c))), (0, .ref 165), (1, .int (nI (i + 1))), (2, .int f), (3, .int (nI c))], [])) rfl ?_
              cases hE
              exact xe_end pg_137 rfl
        · rw [if_neg h4] at hE
          refine xe_c1f pg_137 111 rfl rfl h4 ?_
          refine xe_sn pg_137 4 (fr' := (83, [(4, .int (nI (4 * i + c))), (0, .ref 165), (1, .int (nI (i + 1))), (2, .int f), (3, .int (nI c))], [.int (nI (4 * i + c)), .int 4, .ref 184])) rfl ?_
          refine xe_nm pg_137 4 (4 * i + c) (16 * i + 4 * c) rfl (by omega) ?_
          refine xe_sn pg_137 1 (fr' := (85, [(4, .int (nI (4 * i + c))), (0, .ref 165), (1, .int (nI (i + 1))), (2, .int f), (3, .int (nI c))], [.int 2, .int (nI (16 * i + 4 * c)), .ref 184])) rfl ?_
          refine xe_na pg_137 (16 * i + 4 * c) 2 (16 * i + 4 * c + 2) rfl (by omega) ?_
          refine xe_sn pg_137 5 (fr' := (94, [(4, .int (nI (4 * i + c))), (0, .ref 165), (1, .int (nI (i + 1))), (2, .int f), (3, .int (nI c))], [.int (nI (4 * i + c)), .int 4, .ref 184, .ref 165, .int (nI (16 * i + 4 * c + 2)), .ref 184])) rfl ?_
          refine xe_nm pg_137 4 (4 * i + c) (16 * i + 4 * c) rfl (by omega) ?_
          refine xe_sn pg_137 1 (fr' := (96, [(4, .int (nI (4 * i + c))), (0, .ref 165), (1, .int (nI (i + 1))), (2, .int f), (3, .int (nI c))], [.int 2, .int (nI (16 * i + 4 * c)), .ref 184, .ref 165, .int (nI (16 * i + 4 * c + 2)), .ref 184])) rfl ?_
          refine xe_na pg_137 (16 * i + 4 * c) 2 (16 * i + 4 * c + 2) rfl (by omega) ?_
          refine ze_il pg_137 (16 * i + 4 * c + 2) ((vx r1 184 (16 * i + 4 * c) (ks (V.1 184 (16 * i + 4 * c)) 14)).1 184 (16 * i + 4 * c + 2)) rfl ⟨by decide, by decide⟩ rfl (bn (by omega) (by decide)) (bc (n := 64) (by omega) (by decide)) rfl ?_
          obtain ⟨r6, e6, hE⟩ := Option.bind_eq_some_iff.mp hE
          refine xe_cv pg_137 110 pg_110 [.int ((vx r1 184 (16 * i + 4 * c) (ks (V.1 184 (16 * i + 4 * c)) 14)).1 184 (16 * i + 4 * c + 2))] [.int (nI (16 * i + 4 * c + 2)), .ref 184] (some (.int r6)) rfl rfl rfl rfl ⟨Nat.le_of_ble_eq_true rfl, Nat.le_of_ble_eq_true rfl, Nat.le_of_ble_eq_true rfl⟩ ⟨rfl, rfl⟩ ⟨by decide, rfl, by decide⟩ (cg_fed _ (key := ((vx r1 184 (16 * i + 4 * c) (ks (V.1 184 (16 * i + 4 * c)) 14)).1 184 (16 * i + 4 * c + 2)))  (Option.some.inj e6)) ?_
          refine ze_isx pg_137 (16 * i + 4 * c + 2) rfl ⟨by decide, by decide⟩ rfl (bn (by omega) (by decide)) (bc (n := 64) (by omega) (by decide)) (by decide) ?_
          refine xe_sn pg_137 3 (fr' := (105, [(4, .int (nI (4 * i + c))), (0, .ref 165), (1, .int (nI (i + 1))), (2, .int f), (3, .int (nI c))], [.int (nI c), .int (nI (i + 1)), .ref 165])) rfl ?_
          obtain ⟨r7, e7, hE⟩ := Option.bind_eq_some_iff.mp hE
          refine xe_cv pg_137 136 pg_136 [.int (nI (i + 1)), .int (nI c)] [] (none) rfl rfl rfl rfl ⟨Nat.le_of_ble_eq_true rfl, Nat.le_of_ble_eq_true rfl, Nat.le_of_ble_eq_true rfl⟩ ⟨rfl, rfl⟩ ⟨by decide, rfl, by decide⟩ (cg_relayFollows _ (i := i) (c := c) (by omega) (by omega) e7) ?_
          refine xe_sn pg_137 1 (fr' := (240, [(4, .int (nI (4 * i + c))), (0, .ref 165), (1, .int (nI (i + 1))), (2, .int f), (3, .int (nI c))], [])) rfl ?_
          cases hE
          exact xe_end pg_137 rfl
      · rw [if_neg h3] at hE
        refine xe_c1t pg_137 111 rfl rfl h3 ?_
        refine xe_sn pg_137 1 (fr' := (112, [(4, .int (nI (4 * i + c))), (0, .ref 165), (1, .int (nI (i + 1))), (2, .int f), (3, .int (nI c))], [.ref 165])) rfl ?_
        refine ze_gi pg_137 (r1.2.1 165 27) rfl rfl rfl rfl ?_
        by_cases h7 : (r1.2.1 165 27) ≤ 0
        · rw [if_pos h7] at hE
          refine xe_c1t pg_137 151 rfl rfl h7 ?_
          refine xe_sn pg_137 3 (fr' := (154, [(4, .int (nI (4 * i + c))), (0, .ref 165), (1, .int (nI (i + 1))), (2, .int f), (3, .int (nI c))], [.int (nI c), .int (nI (i + 1)), .ref 165])) rfl ?_
          obtain ⟨r8, e8, hE⟩ := Option.bind_eq_some_iff.mp hE
          refine xe_cv pg_137 131 pg_131 [.int (nI (i + 1)), .int (nI c)] [] (none) rfl rfl rfl rfl ⟨Nat.le_of_ble_eq_true rfl, Nat.le_of_ble_eq_true rfl, Nat.le_of_ble_eq_true rfl⟩ ⟨rfl, rfl⟩ ⟨by decide, rfl, by decide⟩ (cg_tear _ (i := i) (c := c) (by omega) (by omega) e8) ?_
          refine xe_sn pg_137 1 (fr' := (240, [(4, .int (nI (4 * i + c))), (0, .ref 165), (1, .int (nI (i + 1))), (2, .int f), (3, .int (nI c))], [])) rfl ?_
          cases hE
          exact xe_end pg_137 rfl
        · rw [if_neg h7] at hE
          refine xe_c1f pg_137 151 rfl rfl h7 ?_
          refine xe_sn pg_137 3 (fr' := (124, [(4, .int (nI (4 * i + c))), (0, .ref 165), (1, .int (nI (i + 1))), (2, .int f), (3, .int (nI c))], [.int (nI (4 * i + c)), .ref 182])) rfl ?_
          refine ze_il pg_137 (4 * i + c) (r1.1 182 (4 * i + c)) rfl ⟨by decide, by decide⟩ rfl (bn (by omega) (by decide)) (bc (n := 16) (by omega) (by decide)) rfl ?_
          by_cases h8 : (r1.1 182 (4 * i + c)) < 0
          · rw [if_pos h8] at hE
            refine xe_c1t pg_137 151 rfl rfl h8 ?_
            refine xe_sn pg_137 3 (fr' := (154, [(4, .int (nI (4 * i + c))), (0, .ref 165), (1, .int (nI (i + 1))), (2, .int f), (3, .int (nI c))], [.int (nI c), .int (nI (i + 1)), .ref 165])) rfl ?_
            obtain ⟨r9, e9, hE⟩ := Option.bind_eq_some_iff.mp hE
            refine xe_cv pg_137 131 pg_131 [.int (nI (i + 1)), .int (nI c)] [] (none) rfl rfl rfl rfl ⟨Nat.le_of_ble_eq_true rfl, Nat.le_of_ble_eq_true rfl, Nat.le_of_ble_eq_true rfl⟩ ⟨rfl, rfl⟩ ⟨by decide, rfl, by decide⟩ (cg_tear _ (i := i) (c := c) (by omega) (by omega) e9) ?_
            refine xe_sn pg_137 1 (fr' := (240, [(4, .int (nI (4 * i + c))), (0, .ref 165), (1, .int (nI (i + 1))), (2, .int f), (3, .int (nI c))], [])) rfl ?_
            cases hE
            exact xe_end pg_137 rfl
          · rw [if_neg h8] at hE
            refine xe_c1f pg_137 151 rfl rfl h8 ?_
            refine xe_sn pg_137 5 (fr' := (136, [(4, .int (nI (4 * i + c))), (0, .ref 165), (1, .int (nI (i + 1))), (2, .int f), (3, .int (nI c))], [.int (nI (4 * i + c)), .ref 182, .int (nI (i + 1)), .ref 165])) rfl ?_
            refine ze_il pg_137 (4 * i + c) (r1.1 182 (4 * i + c)) rfl ⟨by decide, by decide⟩ rfl (bn (by omega) (by decide)) (bc (n := 16) (by omega) (by decide)) rfl ?_
            refine xe_sn pg_137 3 (fr' := (140, [(4, .int (nI (4 * i + c))), (0, .ref 165), (1, .int (nI (i + 1))), (2, .int f), (3, .int (nI c))], [.ref 165, .int 3, .int (nI c), .int (r1.1 182 (4 * i + c)), .int (nI (i + 1)), .ref 165])) rfl ?_
            refine ze_gi pg_137 (r1.2.1 165 27) rfl rfl rfl rfl ?_
            refine xe_sn pg_137 2 (fr' := (145, [(4, .int (nI (4 * i + c))), (0, .ref 165), (1, .int (nI (i + 1))), (2, .int f), (3, .int (nI c))], [.int ((r1.2.1 165 27) - 1), .int 3, .int (nI c), .int (r1.1 182 (4 * i + c)), .int (nI (i + 1)), .ref 165])) rfl ?_
            obtain ⟨r10, e10, hE⟩ := Option.bind_eq_some_iff.mp hE
            refine xe_cv pg_137 117 pg_117 [.int (nI (i + 1)), .int (r1.1 182 (4 * i + c)), .int (nI c), .int 3, .int ((r1.2.1 165 27) - 1)] [] (none) rfl rfl rfl rfl ⟨Nat.le_of_ble_eq_true rfl, Nat.le_of_ble_eq_true rfl, Nat.le_of_ble_eq_true rfl⟩ ⟨rfl, rfl⟩ ⟨by decide, rfl, by decide⟩ (cg_ship _ (a := (nI (i + 1))) (b := (r1.1 182 (4 * i + c))) (c := (nI c)) (e := 3) (g := ((r1.2.1 165 27) - 1))  e10) ?_
            refine xe_sn pg_137 1 (fr' := (240, [(4, .int (nI (4 * i + c))), (0, .ref 165), (1, .int (nI (i + 1))), (2, .int f), (3, .int (nI c))], [])) rfl ?_
            cases hE
            exact xe_end pg_137 rfl
    · rw [if_neg h2] at hE
      refine xe_c2t pg_137 160 rfl rfl h2 ?_
      refine xe_sn pg_137 3 (fr' := (166, [(4, .int (nI (4 * i + c))), (0, .ref 165), (1, .int (nI (i + 1))), (2, .int f), (3, .int (nI c))], [.int (nI (4 * i + c)), .ref 180])) rfl ?_
      refine ze_bl pg_137 (4 * i + c) (V.1 180 (4 * i + c)) rfl ⟨by decide, by decide⟩ rfl (bn (by omega) (by decide)) (bc (n := 16) (by omega) (by decide)) rfl ?_
      refine xe_c1f pg_137 230 rfl rfl h1 ?_
      refine xe_sn pg_137 4 (fr' := (177, [(4, .int (nI (4 * i + c))), (0, .ref 165), (1, .int (nI (i + 1))), (2, .int f), (3, .int (nI c))], [.int (nI (4 * i + c)), .ref 182, .int f])) rfl ?_
      refine ze_il pg_137 (4 * i + c) (V.1 182 (4 * i + c)) rfl ⟨by decide, by decide⟩ rfl (bn (by omega) (by decide)) (bc (n := 16) (by omega) (by decide)) rfl ?_
      by_cases h9 : f = (V.1 182 (4 * i + c))
      · rw [if_pos h9] at hE
        refine xe_c2f pg_137 230 rfl rfl (fun z => z h9) ?_
        refine xe_sn pg_137 4 (fr' := (188, [(4, .int (nI (4 * i + c))), (0, .ref 165), (1, .int (nI (i + 1))), (2, .int f), (3, .int (nI c))], [.int (nI (4 * i + c)), .int 4, .ref 184])) rfl ?_
        refine xe_nm pg_137 4 (4 * i + c) (16 * i + 4 * c) rfl (by omega) ?_
        refine xe_sn pg_137 1 (fr' := (190, [(4, .int (nI (4 * i + c))), (0, .ref 165), (1, .int (nI (i + 1))), (2, .int f), (3, .int (nI c))], [.int 1, .int (nI (16 * i + 4 * c)), .ref 184])) rfl ?_
        refine xe_na pg_137 (16 * i + 4 * c) 1 (16 * i + 4 * c + 1) rfl (by omega) ?_
        refine xe_sn pg_137 5 (fr' := (199, [(4, .int (nI (4 * i + c))), (0, .ref 165), (1, .int (nI (i + 1))), (2, .int f), (3, .int (nI c))], [.int (nI (4 * i + c)), .int 4, .ref 184, .ref 165, .int (nI (16 * i + 4 * c + 1)), .ref 184])) rfl ?_
        refine xe_nm pg_137 4 (4 * i + c) (16 * i + 4 * c) rfl (by omega) ?_
        refine xe_sn pg_137 1 (fr' := (201, [(4, .int (nI (4 * i + c))), (0, .ref 165), (1, .int (nI (i + 1))), (2, .int f), (3, .int (nI c))], [.int 1, .int (nI (16 * i + 4 * c)), .ref 184, .ref 165, .int (nI (16 * i + 4 * c + 1)), .ref 184])) rfl ?_
        refine xe_na pg_137 (16 * i + 4 * c) 1 (16 * i + 4 * c + 1) rfl (by omega) ?_
        refine ze_il pg_137 (16 * i + 4 * c + 1) (V.1 184 (16 * i + 4 * c + 1)) rfl ⟨by decide, by decide⟩ rfl (bn (by omega) (by decide)) (bc (n := 64) (by omega) (by decide)) rfl ?_
        obtain ⟨r11, e11, hE⟩ := Option.bind_eq_some_iff.mp hE
        have e11q := Option.some.inj e11
        refine xe_cv pg_137 109 pg_109 [.int (V.1 184 (16 * i + 4 * c + 1))] [.int (nI (16 * i + 4 * c + 1)), .ref 184] (some (.int (ks (V.1 184 (16 * i + 4 * c + 1)) 14))) rfl rfl rfl rfl ⟨Nat.le_of_ble_eq_true rfl, Nat.le_of_ble_eq_true rfl, Nat.le_of_ble_eq_true rfl⟩ ⟨rfl, rfl⟩ ⟨by decide, rfl, by decide⟩ (e11q ▸ cg_wrap _ (key := (V.1 184 (16 * i + 4 * c + 1))) ) ?_
        refine ze_isx pg_137 (16 * i + 4 * c + 1) rfl ⟨by decide, by decide⟩ rfl (bn (by omega) (by decide)) (bc (n := 64) (by omega) (by decide)) (by decide) ?_
        refine xe_sn pg_137 5 (fr' := (215, [(4, .int (nI (4 * i + c))), (0, .ref 165), (1, .int (nI (i + 1))), (2, .int f), (3, .int (nI c))], [.int (nI (4 * i + c)), .ref 181, .int (nI (i + 1)), .ref 165])) rfl ?_
        refine ze_il pg_137 (4 * i + c) (r11.1 181 (4 * i + c)) rfl ⟨by decide, by decide⟩ rfl (bn (by omega) (by decide)) (bc (n := 16) (by omega) (by decide)) rfl ?_
        refine xe_sn pg_137 3 (fr' := (219, [(4, .int (nI (4 * i + c))), (0, .ref 165), (1, .int (nI (i + 1))), (2, .int f), (3, .int (nI c))], [.ref 165, .int 3, .int (nI c), .int (r11.1 181 (4 * i + c)), .int (nI (i + 1)), .ref 165])) rfl ?_
        refine ze_gi pg_137 (r11.2.1 165 27) rfl rfl rfl rfl ?_
        refine xe_sn pg_137 2 (fr' := (224, [(4, .int (nI (4 * i + c))), (0, .ref 165), (1, .int (nI (i + 1))), (2, .int f), (3, .int (nI c))], [.int ((r11.2.1 165 27) + 1), .int 3, .int (nI c), .int (r11.1 181 (4 * i + c)), .int (nI (i + 1)), .ref 165])) rfl ?_
        obtain ⟨r12, e12, hE⟩ := Option.bind_eq_some_iff.mp hE
        refine xe_cv pg_137 117 pg_117 [.int (nI (i + 1)), .int (r11.1 181 (4 * i + c)), .int (nI c), .int 3, .int ((r11.2.1 165 27) + 1)] [] (none) rfl rfl rfl rfl ⟨Nat.le_of_ble_eq_true rfl, Nat.le_of_ble_eq_true rfl, Nat.le_of_ble_eq_true rfl⟩ ⟨rfl, rfl⟩ ⟨by decide, rfl, by decide⟩ (cg_ship _ (a := (nI (i + 1))) (b := (r11.1 181 (4 * i + c))) (c := (nI c)) (e := 3) (g := ((r11.2.1 165 27) + 1))  e12) ?_
        refine xe_sn pg_137 1 (fr' := (240, [(4, .int (nI (4 * i + c))), (0, .ref 165), (1, .int (nI (i + 1))), (2, .int f), (3, .int (nI c))], [])) rfl ?_
        cases hE
        exact xe_end pg_137 rfl
      · rw [if_neg h9] at hE
        refine xe_c2t pg_137 230 rfl rfl h9 ?_
        refine xe_sn pg_137 2 (fr' := (232, [(4, .int (nI (4 * i + c))), (0, .ref 165), (1, .int (nI (i + 1))), (2, .int f), (3, .int (nI c))], [.ref 165, .ref 165])) rfl ?_
        refine ze_gi pg_137 (V.1 165 5) rfl rfl rfl rfl ?_
        refine xe_sn pg_137 2 (fr' := (237, [(4, .int (nI (4 * i + c))), (0, .ref 165), (1, .int (nI (i + 1))), (2, .int f), (3, .int (nI c))], [.int ((V.1 165 5) + 1), .ref 165])) rfl ?_
        refine ze_px pg_137 rfl rfl ⟨rfl, rfl⟩ (Or.inl rfl) (by decide) ?_
        cases hE
        exact xe_end pg_137 rfl

def g_toRelay (V : xVt) (i : Nat) (f : Int32) (c : Nat) (cm : Int32) : Option xVt := if cm = 1 then (if (V.1 180 (4 * i + c)) = 0 then ((g_begun V i f c).bind fun r1 => some r1) else (some (vx V 165 5 ((V.1 165 5) + 1)))) else (if cm = 2 then (if (V.1 180 (4 * i + c)) = 0 then (some (vx V 165 5 ((V.1 165 5) + 1))) else (if f = (V.1 183 (4 * i + c)) then ((some (g_pair V 0)).bind fun r2 => (some (g_pair V 2)).bind fun r3 => (g_order (vx (vx V 182 (4 * i + c) f) 183 (4 * i + c) (-1)) 2 0 4).bind fun r4 => (some (g_putPair r4 7 r2)).bind fun r5 => (some (g_putPair r5 9 r3)).bind fun r6 => (g_relaySends r6 i c).bind fun r7 => some r7) else (some (vx V 165 5 ((V.1 165 5) + 1))))) else (if cm = 3 then ((g_relayed V i f c).bind fun r8 => some r8) else (if cm = 4 then (if (V.1 180 (4 * i + c)) = 0 then (some (vx V 165 5 ((V.1 165 5) + 1))) else (if f = (V.1 181 (4 * i + c)) then ((g_destroyOn V i c).bind fun r9 => (some (g_forget r9 i c)).bind fun r10 => some r10) else (if f = (V.1 182 (4 * i + c)) then ((g_destroy V (nI (i + 1)) (V.1 181 (4 * i + c)) (nI c)).bind fun r11 => (some (g_forget r11 i c)).bind fun r12 => some r12) else (if f = (V.1 183 (4 * i + c)) then ((g_destroy V (nI (i + 1)) (V.1 181 (4 * i + c)) (nI c)).bind fun r13 => (some (g_forget r13 i c)).bind fun r14 => some r14) else (some (vx V 165 5 ((V.1 165 5) + 1))))))) else (some (vx V 165 5 ((V.1 165 5) + 1))))))
set_option maxRecDepth 100000 in
theorem cg_toRelay (d : Nat) {w : xWd} {S : xSt} {V : xVt} {ρ : Nat → Nat → Int64} {i : Nat} {f : Int32} {c : Nat} {cm : Int32} (hi : i < 4) (hc : c < 4) {r : xVt} (hE : (g_toRelay V i f c cm) = some r) : xc (d + 7) 138 [.ref 165, .int (nI (i + 1)), .int f, .int (nI c), .int cm] (hv w S V ρ) (.inl (none), hv w S r ρ) := by
  unfold g_toRelay at hE
  refine xe_sn pg_138 3 (fr' := (3, [(0, .ref 165), (1, .int (nI (i + 1))), (2, .int f), (3, .int (nI c)), (4, .int cm)], [.int (nI c), .int (nI (i + 1)), .ref 165])) rfl ?_
  refine xe_cv pg_138 128 pg_128 [.int (nI (i + 1)), .int (nI c)] [] (some (.int (nI (4 * i + c)))) rfl rfl rfl rfl ⟨Nat.le_of_ble_eq_true rfl, Nat.le_of_ble_eq_true rfl, Nat.le_of_ble_eq_true rfl⟩ ⟨rfl, rfl⟩ ⟨by decide, rfl, by decide⟩ (cg_place _ (i := i) (c := c) (by omega) (by omega) rfl) ?_
  refine xe_sn pg_138 3 (fr' := (11, [(5, .int (nI (4 * i + c))), (0, .ref 165), (1, .int (nI (i + 1))), (2, .int f), (3, .int (nI c)), (4, .int cm)], [.int 1, .int cm])) rfl ?_
  by_cases h1 : cm = 1
  · rw [if_pos h1] at hE
    refine xe_c2f pg_138 34 rfl rfl (fun z => z h1) ?_
    refine xe_sn pg_138 3 (fr' := (20, [(5, .int (nI (4 * i + c))), (0, .ref 165), (1, .int (nI (i + 1))), (2, .int f), (3, .int (nI c)), (4, .int cm)], [.int (nI (4 * i + c)), .ref 180])) rfl ?_
    refine ze_bl pg_138 (4 * i + c) (V.1 180 (4 * i + c)) rfl ⟨by decide, by decide⟩ rfl (bn (by omega) (by decide)) (bc (n := 16) (by omega) (by decide)) rfl ?_
    by_cases h2 : (V.1 180 (4 * i + c)) = 0
    · rw [if_pos h2] at hE
      refine xe_c1f pg_138 34 rfl rfl (fun z => z h2) ?_
      refine xe_sn pg_138 4 (fr' := (28, [(5, .int (nI (4 * i + c))), (0, .ref 165), (1, .int (nI (i + 1))), (2, .int f), (3, .int (nI c)), (4, .int cm)], [.int (nI c), .int f, .int (nI (i + 1)), .ref 165])) rfl ?_
      obtain ⟨r1, e1, hE⟩ := Option.bind_eq_some_iff.mp hE
      refine xe_cv pg_138 133 pg_133 [.int (nI (i + 1)), .int f, .int (nI c)] [] (none) rfl rfl rfl rfl ⟨Nat.le_of_ble_eq_true rfl, Nat.le_of_ble_eq_true rfl, Nat.le_of_ble_eq_true rfl⟩ ⟨rfl, rfl⟩ ⟨by decide, rfl, by decide⟩ (cg_begun _ (i := i) (f := f) (c := c) (by omega) (by omega) e1) ?_
      refine xe_sn pg_138 1 (fr' := (251, [(5, .int (nI (4 * i + c))), (0, .ref 165), (1, .int (nI (i + 1))), (2, .int f), (3, .int (nI c)), (4, .int cm)], [])) rfl ?_
      cases hE
      exact xe_end pg_138 rfl
    · rw [if_neg h2] at hE
      refine xe_c1t pg_138 34 rfl rfl h2 ?_
      refine xe_sn pg_138 2 (fr' := (37, [(5, .int (nI (4 * i + c))), (0, .ref 165), (1, .int (nI (i + 1))), (2, .int f), (3, .int (nI c)), (4, .int cm)], [.int 2, .int cm])) rfl ?_
      refine xe_c2t pg_138 123 rfl rfl (fun z => absurd (h1.symm.trans z) (by decide)) ?_
      refine xe_sn pg_138 2 (fr' := (126, [(5, .int (nI (4 * i + c))), (0, .ref 165), (1, .int (nI (i + 1))), (2, .int f), (3, .int (nI c)), (4, .int cm)], [.int 3, .int cm])) rfl ?_
      refine xe_c2t pg_138 139 rfl rfl (fun z => absurd (h1.symm.trans z) (by decide)) ?_
      refine xe_sn pg_138 2 (fr' := (142, [(5, .int (nI (4 * i + c))), (0, .ref 165), (1, .int (nI (i + 1))), (2, .int f), (3, .int (nI c)), (4, .int cm)], [.int 4, .int cm])) rfl ?_
      refine xe_c2t pg_138 181 rfl rfl (fun z => absurd (h1.symm.trans z) (by decide)) ?_
      refine xe_sn pg_138 2 (fr' := (184, [(5, .int (nI (4 * i + c))), (0, .ref 165), (1, .int (nI (i + 1))), (2, .int f), (3, .int (nI c)), (4, .int cm)], [.int 4, .int cm])) rfl ?_
      refine xe_c2t pg_138 241 rfl rfl (fun z => absurd (h1.symm.trans z) (by decide)) ?_
      refine xe_sn pg_138 2 (fr' := (243, [(5, .int (nI (4 * i + c))), (0, .ref 165), (1, .int (nI (i + 1))), (2, .int f), (3, .int (nI c)), (4, .int cm)], [.ref 165, .ref 165])) rfl ?_
      refine ze_gi pg_138 (V.1 165 5) rfl rfl rfl rfl ?_
      refine xe_sn pg_138 2 (fr' := (248, [(5, .int (nI (4 * i + c))), (0, .ref 165), (1, .int (nI (i + 1))), (2, .int f), (3, .int (nI c)), (4, .int cm)], [.int ((V.1 165 5) + 1), .ref 165])) rfl ?_
      refine ze_px pg_138 rfl rfl ⟨rfl, rfl⟩ (Or.inl rfl) (by decide) ?_
      cases hE
      exact xe_end pg_138 rfl
  · rw [if_neg h1] at hE
    refine xe_c2t pg_138 34 rfl rfl h1 ?_
    refine xe_sn pg_138 2 (fr' := (37, [(5, .int (nI (4 * i + c))), (0, .ref 165), (1, .int (nI (i + 1))), (2, .int f), (3, .int (nI c)), (4, .int cm)], [.int 2, .int cm])) rfl ?_
    by_cases h3 : cm = 2
    · rw [if_pos h3] at hE
      refine xe_c2f pg_138 123 rfl rfl (fun z => z h3) ?_
      refine xe_sn pg_138 3 (fr' := (46, [(5, .int (nI (4 * i + c))), (0, .ref 165), (1, .int (nI (i + 1))), (2, .int f), (3, .int (nI c)), (4, .int cm)], [.int (nI (4 * i + c)), .ref 180])) rfl ?_
      refine ze_bl pg_138 (4 * i + c) (V.1 180 (4 * i + c)) rfl ⟨by decide, by decide⟩ rfl (bn (by omega) (by decide)) (bc (n := 16) (by omega) (by decide)) rfl ?_
      by_cases h4 : (V.1 180 (4 * i + c)) = 0
      · rw [if_pos h4] at hE
        refine xe_c1t pg_138 123 rfl rfl h4 ?_
        refine xe_sn pg_138 2 (fr' := (126, [(5, .int (nI (4 * i + c))), (0, .ref 165), (1, .int (nI (i + 1))), (2, .int f), (3, .int (nI c)), (4, .int cm)], [.int 3, .int cm])) rfl ?_
        refine xe_c2t pg_138 139 rfl rfl (fun z => absurd (h3.symm.trans z) (by decide)) ?_
        refine xe_sn pg_138 2 (fr' := (142, [(5, .int (nI (4 * i + c))), (0, .ref 165), (1, .int (nI (i + 1))), (2, .int f), (3, .int (nI c)), (4, .int cm)], [.int 4, .int cm])) rfl ?_
        refine xe_c2t pg_138 181 rfl rfl (fun z => absurd (h3.symm.trans z) (by decide)) ?_
        refine xe_sn pg_138 2 (fr' := (184, [(5, .int (nI (4 * i + c))), (0, .ref 165), (1, .int (nI (i + 1))), (2, .int f), (3, .int (nI c)), (4, .int cm)], [.int 4, .int cm])) rfl ?_
        refine xe_c2t pg_138 241 rfl rfl (fun z => absurd (h3.symm.trans z) (by decide)) ?_
        refine xe_sn pg_138 2 (fr' := (243, [(5, .int (nI (4 * i + c))), (0, .ref 165), (1, .int (nI (i + 1))), (2, .int f), (3, .int (nI c)), (4, .int cm)], [.ref 165, .ref 165])) rfl ?_
        refine ze_gi pg_138 (V.1 165 5) rfl rfl rfl rfl ?_
        refine xe_sn pg_138 2 (fr' := (248, [(5, .int (nI (4 * i + c))), (0, .ref 165), (1, .int (nI (i + 1))), (2, .int f), (3, .int (nI c)), (4, .int cm)], [.int ((V.1 165 5) + 1), .ref 165])) rfl ?_
        refine ze_px pg_138 rfl rfl ⟨rfl, rfl⟩ (Or.inl rfl) (by decide) ?_
        cases hE
        exact xe_end pg_138 rfl
      · rw [if_neg h4] at hE
        refine xe_c1f pg_138 123 rfl rfl h4 ?_
        refine xe_sn pg_138 4 (fr' := (57, [(5, .int (nI (4 * i + c))), (0, .ref 165), (1, .int (nI (i + 1))), (2, .int f), (3, .int (nI c)), (4, .int cm)], [.int (nI (4 * i + c)), .ref 183, .int f])) rfl ?_
        refine ze_il pg_138 (4 * i + c) (V.1 183 (4 * i + c)) rfl ⟨by decide, by decide⟩ rfl (bn (by omega) (by decide)) (bc (n := 16) (by omega) (by decide)) rfl ?_
        by_cases h5 : f = (V.1 183 (4 * i + c))
        · rw [if_pos h5] at hE
          refine xe_c2f pg_138 123 rfl rfl (fun z => z h5) ?_
          refine xe_sn pg_138 2 (fr' := (63, [(5, .int (nI (4 * i + c))), (0, .ref 165), (1, .int (nI (i + 1))), (2, .int f), (3, .int (nI c)), (4, .int cm)], [.int 0, .ref 165])) rfl ?_
          obtain ⟨r2, e2, hE⟩ := Option.bind_eq_some_iff.mp hE
          refine xe_cv pg_138 111 pg_111 [.int 0] [] (some (.int r2)) rfl rfl rfl rfl ⟨Nat.le_of_ble_eq_true rfl, Nat.le_of_ble_eq_true rfl, Nat.le_of_ble_eq_true rfl⟩ ⟨rfl, rfl⟩ ⟨by decide, rfl, by decide⟩ (cg_pair _ (k := 0) (by omega) (Option.some.inj e2)) ?_
          refine xe_sn pg_138 3 (fr' := (70, [(6, .int r2), (5, .int (nI (4 * i + c))), (0, .ref 165), (1, .int (nI (i + 1))), (2, .int f), (3, .int (nI c)), (4, .int cm)], [.int 2, .ref 165])) rfl ?_
          obtain ⟨r3, e3, hE⟩ := Option.bind_eq_some_iff.mp hE
          refine xe_cv pg_138 111 pg_111 [.int 2] [] (some (.int r3)) rfl rfl rfl rfl ⟨Nat.le_of_ble_eq_true rfl, Nat.le_of_ble_eq_true rfl, Nat.le_of_ble_eq_true rfl⟩ ⟨rfl, rfl⟩ ⟨by decide, rfl, by decide⟩ (cg_pair _ (k := 2) (by omega) (Option.some.inj e3)) ?_
          refine xe_sn pg_138 5 (fr' := (82, [(7, .int r3), (6, .int r2), (5, .int (nI (4 * i + c))), (0, .ref 165), (1, .int (nI (i + 1))), (2, .int f), (3, .int (nI c)), (4, .int cm)], [.int f, .int (nI (4 * i + c)), .ref 182])) rfl ?_
          refine ze_isx pg_138 (4 * i + c) rfl ⟨by decide, by decide⟩ rfl (bn (by omega) (by decide)) (bc (n := 16) (by omega) (by decide)) (by decide) ?_
          refine xe_sn pg_138 4 (fr' := (90, [(7, .int r3), (6, .int r2), (5, .int (nI (4 * i + c))), (0, .ref 165), (1, .int (nI (i + 1))), (2, .int f), (3, .int (nI c)), (4, .int cm)], [.int (-1), .int (nI (4 * i + c)), .ref 183])) rfl ?_
          refine ze_isx pg_138 (4 * i + c) rfl ⟨by decide, by decide⟩ rfl (bn (by omega) (by decide)) (bc (n := 16) (by omega) (by decide)) (by decide) ?_
          refine xe_sn pg_138 4 (fr' := (95, [(7, .int r3), (6, .int r2), (5, .int (nI (4 * i + c))), (0, .ref 165), (1, .int (nI (i + 1))), (2, .int f), (3, .int (nI c)), (4, .int cm)], [.int 4, .int 0, .int 2, .ref 165])) rfl ?_
          obtain ⟨r4, e4, hE⟩ := Option.bind_eq_some_iff.mp hE
          refine xe_cv pg_138 114 pg_114 [.int 2, .int 0, .int 4] [] (none) rfl rfl rfl rfl ⟨Nat.le_of_ble_eq_true rfl, Nat.le_of_ble_eq_true rfl, Nat.le_of_ble_eq_true rfl⟩ ⟨rfl, rfl⟩ ⟨by decide, rfl, by decide⟩ (cg_order _ (o := 2) (s := 0) (n := 4)  e4) ?_
          refine xe_sn pg_138 3 (fr' := (103, [(7, .int r3), (6, .int r2), (5, .int (nI (4 * i + c))), (0, .ref 165), (1, .int (nI (i + 1))), (2, .int f), (3, .int (nI c)), (4, .int cm)], [.int r2, .int 7, .ref 165])) rfl ?_
          obtain ⟨r5, e5, hE⟩ := Option.bind_eq_some_iff.mp hE
          refine xe_cv pg_138 112 pg_112 [.int 7, .int r2] [] (none) rfl rfl rfl rfl ⟨Nat.le_of_ble_eq_true rfl, Nat.le_of_ble_eq_true rfl, Nat.le_of_ble_eq_true rfl⟩ ⟨rfl, rfl⟩ ⟨by decide, rfl, by decide⟩ (cg_putPair _ (k := 7) (v := r2) (by omega) (Option.some.inj e5)) ?_
          refine xe_sn pg_138 3 (fr' := (111, [(7, .int r3), (6, .int r2), (5, .int (nI (4 * i + c))), (0, .ref 165), (1, .int (nI (i + 1))), (2, .int f), (3, .int (nI c)), (4, .int cm)], [.int r3, .int 9, .ref 165])) rfl ?_
          obtain ⟨r6, e6, hE⟩ := Option.bind_eq_some_iff.mp hE
          refine xe_cv pg_138 112 pg_112 [.int 9, .int r3] [] (none) rfl rfl rfl rfl ⟨Nat.le_of_ble_eq_true rfl, Nat.le_of_ble_eq_true rfl, Nat.le_of_ble_eq_true rfl⟩ ⟨rfl, rfl⟩ ⟨by decide, rfl, by decide⟩ (cg_putPair _ (k := 9) (v := r3) (by omega) (Option.some.inj e6)) ?_
          refine xe_sn pg_138 3 (fr' := (117, [(7, .int r3), (6, .int r2), (5, .int (nI (4 * i + c))), (0, .ref 165), (1, .int (nI (i + 1))), (2, .int f), (3, .int (nI c)), (4, .int cm)], [.int (nI c), .int (nI (i + 1)), .ref 165])) rfl ?_
          obtain ⟨r7, e7, hE⟩ := Option.bind_eq_some_iff.mp hE
          refine xe_cv pg_138 132 pg_132 [.int (nI (i + 1)), .int (nI c)] [] (none) rfl rfl rfl rfl ⟨Nat.le_of_ble_eq_true rfl, Nat.le_of_ble_eq_true rfl, Nat.le_of_ble_eq_true rfl⟩ ⟨rfl, rfl⟩ ⟨by decide, rfl, by decide⟩ (cg_relaySends _ (i := i) (c := c) (by omega) (by omega) e7) ?_
          refine xe_sn pg_138 1 (fr' := (251, [(7, .int r3), (6, .int r2), (5, .int (nI (4 * i + c))), (0, .ref 165), (1, .int (nI (i + 1))), (2, .int f), (3, .int (nI c)), (4, .int cm)], [])) rfl ?_
          cases hE
          exact xe_end pg_138 rfl
        · rw [if_neg h5] at hE
          refine xe_c2t pg_138 123 rfl rfl h5 ?_
          refine xe_sn pg_138 2 (fr' := (126, [(5, .int (nI (4 * i + c))), (0, .ref 165), (1, .int (nI (i + 1))), (2, .int f), (3, .int (nI c)), (4, .int cm)], [.int 3, .int cm])) rfl ?_
          refine xe_c2t pg_138 139 rfl rfl (fun z => absurd (h3.symm.trans z) (by decide)) ?_
          refine xe_sn pg_138 2 (fr' := (142, [(5, .int (nI (4 * i + c))), (0, .ref 165), (1, .int (nI (i + 1))), (2, .int f), (3, .int (nI c)), (4, .int cm)], [.int 4, .int cm])) rfl ?_
          refine xe_c2t pg_138 181 rfl rfl (fun z => absurd (h3.symm.trans z) (by decide)) ?_
          refine xe_sn pg_138 2 (fr' := (184, [(5, .int (nI (4 * i + c))), (0, .ref 165), (1, .int (nI (i + 1))), (2, .int f), (3, .int (nI c)), (4, .int cm)], [.int 4, .int cm])) rfl ?_
          refine xe_c2t pg_138 241 rfl rfl (fun z => absurd (h3.symm.trans z) (by decide)) ?_
          refine xe_sn pg_138 2 (fr' := (243, [(5, .int (nI (4 * i + c))), (0, .ref 165), (1, .int (nI (i + 1))), (2, .int f), (3, .int (nI c)), (4, .int cm)], [.ref 165, .ref 165])) rfl ?_
          refine ze_gi pg_138 (V.1 165 5) rfl rfl rfl rfl ?_
          refine xe_sn pg_138 2 (fr' := (248, [(5, .int (nI (4 * i + c))), (0, .ref 165), (1, .int (nI (i + 1))), (2, .int f), (3, .int (nI c)), (4, .int cm)], [.int ((V.1 165 5) + 1), .ref 165])) rfl ?_
          refine ze_px pg_138 rfl rfl ⟨rfl, rfl⟩ (Or.inl rfl) (by decide) ?_
          cases hE
          exact xe_end pg_138 rfl
    · rw [if_neg h3] at hE
      refine xe_c2t pg_138 123 rfl rfl h3 ?_
      refine xe_sn pg_138 2 (fr' := (126, [(5, .int (nI (4 * i + c))), (0, .ref 165), (1, .int (nI (i + 1))), (2, .int f), (3, .int (nI c)), (4, .int cm)], [.int 3, .int cm])) rfl ?_
      by_cases h6 : cm = 3
      · rw [if_pos h6] at hE
        refine xe_c2f pg_138 139 rfl rfl (fun z => z h6) ?_
        refine xe_sn pg_138 4 (fr' := (133, [(5, .int (nI (4 * i + c))), (0, .ref 165), (1, .int (nI (i + 1))), (2, .int f), (3, .int (nI c)), (4, .int cm)], [.int (nI c), .int f, .int (nI (i + 1)), .ref 165])) rfl ?_
        obtain ⟨r8, e8, hE⟩ := Option.bind_eq_some_iff.mp hE
        refine xe_cv pg_138 137 pg_137 [.int (nI (i + 1)), .int f, .int (nI c)] [] (none) rfl rfl rfl rfl ⟨Nat.le_of_ble_eq_true rfl, Nat.le_of_ble_eq_true rfl, Nat.le_of_ble_eq_true rfl⟩ ⟨rfl, rfl⟩ ⟨by decide, rfl, by decide⟩ (cg_relayed _ (i := i) (f := f) (c := c) (by omega) (by omega) e8) ?_
        refine xe_sn pg_138 1 (fr' := (251, [(5, .int (nI (4 * i + c))), (0, .ref 165), (1, .int (nI (i + 1))), (2, .int f), (3, .int (nI c)), (4, .int cm)], [])) rfl ?_
        cases hE
        exact xe_end pg_138 rfl
      · rw [if_neg h6] at hE
        refine xe_c2t pg_138 139 rfl rfl h6 ?_
        refine xe_sn pg_138 2 (fr' := (142, [(5, .int (nI (4 * i + c))), (0, .ref 165), (1, .int (nI (i + 1))), (2, .int f), (3, .int (nI c)), (4, .int cm)], [.int 4, .int cm])) rfl ?_
        by_cases h7 : cm = 4
        · rw [if_pos h7] at hE
          refine xe_c2f pg_138 181 rfl rfl (fun z => z h7) ?_
          refine xe_sn pg_138 3 (fr' := (151, [(5, .int (nI (4 * i + c))), (0, .ref 165), (1, .int (nI (i + 1))), (2, .int f), (3, .int (nI c)), (4, .int cm)], [.int (nI (4 * i + c)), .ref 180])) rfl ?_
          refine ze_bl pg_138 (4 * i + c) (V.1 180 (4 * i + c)) rfl ⟨by decide, by decide⟩ rfl (bn (by omega) (by decide)) (bc (n := 16) (by omega) (by decide)) rfl ?_
          by_cases h8 : (V.1 180 (4 * i + c)) = 0
          · rw [if_pos h8] at hE
            refine xe_c1t pg_138 181 rfl rfl h8 ?_
            refine xe_sn pg_138 2 (fr' := (184, [(5, .int (nI (4 * i + c))), (0, .ref 165), (1, .int (nI (i + 1))), (2, .int f), (3, .int (nI c)), (4, .int cm)], [.int 4, .int cm])) rfl ?_
            refine xe_c2f pg_138 241 rfl rfl (fun z => z h7) ?_
            refine xe_sn pg_138 3 (fr' := (193, [(5, .int (nI (4 * i + c))), (0, .ref 165), (1, .int (nI (i + 1))), (2, .int f), (3, .int (nI c)), (4, .int cm)], [.int (nI (4 * i + c)), .ref 180])) rfl ?_
            refine ze_bl pg_138 (4 * i + c) (V.1 180 (4 * i + c)) rfl ⟨by decide, by decide⟩ rfl (bn (by omega) (by decide)) (bc (n := 16) (by omega) (by decide)) rfl ?_
            refine xe_c1t pg_138 241 rfl rfl h8 ?_
            refine xe_sn pg_138 2 (fr' := (243, [(5, .int (nI (4 * i + c))), (0, .ref 165), (1, .int (nI (i + 1))), (2, .int f), (3, .int (nI c)), (4, .int cm)], [.ref 165, .ref 165])) rfl ?_
            refine ze_gi pg_138 (V.1 165 5) rfl rfl rfl rfl ?_
            refine xe_sn pg_138 2 (fr' := (248, [(5, .int (nI (4 * i + c))), (0, .ref 165), (1, .int (nI (i + 1))), (2, .int f), (3, .int (nI c)), (4, .int cm)], [.int ((V.1 165 5) + 1), .ref 165])) rfl ?_
            refine ze_px pg_138 rfl rfl ⟨rfl, rfl⟩ (Or.inl rfl) (by decide) ?_
            cases hE
            exact xe_end pg_138 rfl
          · rw [if_neg h8] at hE
            refine xe_c1f pg_138 181 rfl rfl h8 ?_
            refine xe_sn pg_138 4 (fr' := (162, [(5, .int (nI (4 * i + c))), (0, .ref 165), (1, .int (nI (i + 1))), (2, .int f), (3, .int (nI c)), (4, .int cm)], [.int (nI (4 * i + c)), .ref 181, .int f])) rfl ?_
            refine ze_il pg_138 (4 * i + c) (V.1 181 (4 * i + c)) rfl ⟨by decide, by decide⟩ rfl (bn (by omega) (by decide)) (bc (n := 16) (by omega) (by decide)) rfl ?_
            by_cases h9 : f = (V.1 181 (4 * i + c))
            · rw [if_pos h9] at hE
              refine xe_c2f pg_138 181 rfl rfl (fun z => z h9) ?_
              refine xe_sn pg_138 3 (fr' := (169, [(5, .int (nI (4 * i + c))), (0, .ref 165), (1, .int (nI (i + 1))), (2, .int f), (3, .int (nI c)), (4, .int cm)], [.int (nI c), .int (nI (i + 1)), .ref 165])) rfl ?_
              obtain ⟨r9, e9, hE⟩ := Option.bind_eq_some_iff.mp hE
              refine xe_cv pg_138 130 pg_130 [.int (nI (i + 1)), .int (nI c)] [] (none) rfl rfl rfl rfl ⟨Nat.le_of_ble_eq_true rfl, Nat.le_of_ble_eq_true rfl, Nat.le_of_ble_eq_true rfl⟩ ⟨rfl, rfl⟩ ⟨by decide, rfl, by decide⟩ (cg_destroyOn _ (i := i) (c := c) (by omega) (by omega) e9) ?_
              refine xe_sn pg_138 3 (fr' := (175, [(5, .int (nI (4 * i + c))), (0, .ref 165), (1, .int (nI (i + 1))), (2, .int f), (3, .int (nI c)), (4, .int cm)], [.int (nI c), .int (nI (i + 1)), .ref 165])) rfl ?_
              obtain ⟨r10, e10, hE⟩ := Option.bind_eq_some_iff.mp hE
              refine xe_cv pg_138 129 pg_129 [.int (nI (i + 1)), .int (nI c)] [] (none) rfl rfl rfl rfl ⟨Nat.le_of_ble_eq_true rfl, Nat.le_of_ble_eq_true rfl, Nat.le_of_ble_eq_true rfl⟩ ⟨rfl, rfl⟩ ⟨by decide, rfl, by decide⟩ (cg_forget _ (i := i) (c := c) (by omega) (by omega) (Option.some.inj e10)) ?_
              refine xe_sn pg_138 1 (fr' := (251, [(5, .int (nI (4 * i + c))), (0, .ref 165), (1, .int (nI (i + 1))), (2, .int f), (3, .int (nI c)), (4, .int cm)], [])) rfl ?_
              cases hE
              exact xe_end pg_138 rfl
            · rw [if_neg h9] at hE
              refine xe_c2t pg_138 181 rfl rfl h9 ?_
              refine xe_sn pg_138 2 (fr' := (184, [(5, .int (nI (4 * i + c))), (0, .ref 165), (1, .int (nI (i + 1))), (2, .int f), (3, .int (nI c)), (4, .int cm)], [.int 4, .int cm])) rfl ?_
              refine xe_c2f pg_138 241 rfl rfl (fun z => z h7) ?_
              refine xe_sn pg_138 3 (fr' := (193, [(5, .int (nI (4 * i + c))), (0, .ref 165), (1, .int (nI (i + 1))), (2, .int f), (3, .int (nI c)), (4, .int cm)], [.int (nI (4 * i + c)), .ref 180])) rfl ?_
              refine ze_bl pg_138 (4 * i + c) (V.1 180 (4 * i + c)) rfl ⟨by decide, by decide⟩ rfl (bn (by omega) (by decide)) (bc (n := 16) (by omega) (by decide)) rfl ?_
              refine xe_c1f pg_138 241 rfl rfl h8 ?_
              refine xe_sn pg_138 4 (fr' := (204, [(5, .int (nI (4 * i + c))), (0, .ref 165), (1, .int (nI (i + 1))), (2, .int f), (3, .int (nI c)), (4, .int cm)], [.int (nI (4 * i + c)), .ref 182, .int f])) rfl ?_
              refine ze_il pg_138 (4 * i + c) (V.1 182 (4 * i + c)) rfl ⟨by decide, by decide⟩ rfl (bn (by omega) (by decide)) (bc (n := 16) (by omega) (by decide)) rfl ?_
              by_cases h10 : f = (V.1 182 (4 * i + c))
              · rw [if_pos h10] at hE
                refine xe_c2t pg_138 219 rfl rfl h10 ?_
                refine xe_sn pg_138 5 (fr' := (227, [(5, .int (nI (4 * i + c))), (0, .ref 165), (1, .int (nI (i + 1))), (2, .int f), (3, .int (nI c)), (4, .int cm)], [.int (nI (4 * i + c)), .ref 181, .int (nI (i + 1)), .ref 165])) rfl ?_
                refine ze_il pg_138 (4 * i + c) (V.1 181 (4 * i + c)) rfl ⟨by decide, by decide⟩ rfl (bn (by omega) (by decide)) (bc (n := 16) (by omega) (by decide)) rfl ?_
                refine xe_sn pg_138 1 (fr' := (229, [(5, .int (nI (4 * i + c))), (0, .ref 165), (1, .int (nI (i + 1))), (2, .int f), (3, .int (nI c)), (4, .int cm)], [.int (nI c), .int (V.1 181 (4 * i + c)), .int (nI (i + 1)), .ref 165])) rfl ?_
                obtain ⟨r11, e11, hE⟩ := Option.bind_eq_some_iff.mp hE
                refine xe_cv pg_138 118 pg_118 [.int (nI (i + 1)), .int (V.1 181 (4 * i + c)), .int (nI c)] [] (none) rfl rfl rfl rfl ⟨Nat.le_of_ble_eq_true rfl, Nat.le_of_ble_eq_true rfl, Nat.le_of_ble_eq_true rfl⟩ ⟨rfl, rfl⟩ ⟨by decide, rfl, by decide⟩ (cg_destroy _ (f := (nI (i + 1))) (t := (V.1 181 (4 * i + c))) (c := (nI c))  e11) ?_
                refine xe_sn pg_138 3 (fr' := (235, [(5, .int (nI (4 * i + c))), (0, .ref 165), (1, .int (nI (i + 1))), (2, .int f), (3, .int (nI c)), (4, .int cm)], [.int (nI c), .int (nI (i + 1)), .ref 165])) rfl ?_
                obtain ⟨r12, e12, hE⟩ := Option.bind_eq_some_iff.mp hE
                refine xe_cv pg_138 129 pg_129 [.int (nI (i + 1)), .int (nI c)] [] (none) rfl rfl rfl rfl ⟨Nat.le_of_ble_eq_true rfl, Nat.le_of_ble_eq_true rfl, Nat.le_of_ble_eq_true rfl⟩ ⟨rfl, rfl⟩ ⟨by decide, rfl, by decide⟩ (cg_forget _ (i := i) (c := c) (by omega) (by omega) (Option.some.inj e12)) ?_
                refine xe_sn pg_138 1 (fr' := (251, [(5, .int (nI (4 * i + c))), (0, .ref 165), (1, .int (nI (i + 1))), (2, .int f), (3, .int (nI c)), (4, .int cm)], [])) rfl ?_
                cases hE
                exact xe_end pg_138 rfl
              · rw [if_neg h10] at hE
                refine xe_c2f pg_138 219 rfl rfl h10 ?_
                refine xe_sn pg_138 4 (fr' := (215, [(5, .int (nI (4 * i + c))), (0, .ref 165), (1, .int (nI (i + 1))), (2, .int f), (3, .int (nI c)), (4, .int cm)], [.int (nI (4 * i + c)), .ref 183, .int f])) rfl ?_
                refine ze_il pg_138 (4 * i + c) (V.1 183 (4 * i + c)) rfl ⟨by decide, by decide⟩ rfl (bn (by omega) (by decide)) (bc (n := 16) (by omega) (by decide)) rfl ?_
                by_cases h11 : f = (V.1 183 (4 * i + c))
                · rw [if_pos h11] at hE
                  refine xe_c2f pg_138 241 rfl rfl (fun z => z h11) ?_
                  refine xe_sn pg_138 5 (fr' := (227, [(5, .int (nI (4 * i + c))), (0, .ref 165), (1, .int (nI (i + 1))), (2, .int f), (3, .int (nI c)), (4, .int cm)], [.int (nI (4 * i + c)), .ref 181, .int (nI (i + 1)), .ref 165])) rfl ?_
                  refine ze_il pg_138 (4 * i + c) (V.1 181 (4 * i + c)) rfl ⟨by decide, by decide⟩ rfl (bn (by omega) (by decide)) (bc (n := 16) (by omega) (by decide)) rfl ?_
                  refine xe_sn pg_138 1 (fr' := (229, [(5, .int (nI (4 * i + c))), (0, .ref 165), (1, .int (nI (i + 1))), (2, .int f), (3, .int (nI c)), (4, .int cm)], [.int (nI c), .int (V.1 181 (4 * i + c)), .int (nI (i + 1)), .ref 165])) rfl ?_
                  obtain ⟨r13, e13, hE⟩ := Option.bind_eq_some_iff.mp hE
                  refine xe_cv pg_138 118 pg_118 [.int (nI (i + 1)), .int (V.1 181 (4 * i + c)), .int (nI c)] [] (none) rfl rfl rfl rfl ⟨Nat.le_of_ble_eq_true rfl, Nat.le_of_ble_eq_true rfl, Nat.le_of_ble_eq_true rfl⟩ ⟨rfl, rfl⟩ ⟨by decide, rfl, by decide⟩ (cg_destroy _ (f := (nI (i + 1))) (t := (V.1 181 (4 * i + c))) (c := (nI c))  e13) ?_
                  refine xe_sn pg_138 3 (fr' := (235, [(5, .int (nI (4 * i + c))), (0, .ref 165), (1, .int (nI (i + 1))), (2, .int f), (3, .int (nI c)), (4, .int cm)], [.int (nI c), .int (nI (i + 1)), .ref 165])) rfl ?_
                  obtain ⟨r14, e14, hE⟩ := Option.bind_eq_some_iff.mp hE
                  refine xe_cv pg_138 129 pg_129 [.int (nI (i + 1)), .int (nI c)] [] (none) rfl rfl rfl rfl ⟨Nat.le_of_ble_eq_true rfl, Nat.le_of_ble_eq_true rfl, Nat.le_of_ble_eq_true rfl⟩ ⟨rfl, rfl⟩ ⟨by decide, rfl, by decide⟩ (cg_forget _ (i := i) (c := c) (by omega) (by omega) (Option.some.inj e14)) ?_
                  refine xe_sn pg_138 1 (fr' := (251, [(5, .int (nI (4 * i + c))), (0, .ref 165), (1, .int (nI (i + 1))), (2, .int f), (3, .int (nI c)), (4, .int cm)], [])) rfl ?_
                  cases hE
                  exact xe_end pg_138 rfl
                · rw [if_neg h11] at hE
                  refine xe_c2t pg_138 241 rfl rfl h11 ?_
                  refine xe_sn pg_138 2 (fr' := (243, [(5, .int (nI (4 * i + c))), (0, .ref 165), (1, .int (nI (i + 1))), (2, .int f), (3, .int (nI c)), (4, .int cm)], [.ref 165, .ref 165])) rfl ?_
                  refine ze_gi pg_138 (V.1 165 5) rfl rfl rfl rfl ?_
                  refine xe_sn pg_138 2 (fr' := (248, [(5, .int (nI (4 * i + c))), (0, .ref 165), (1, .int (nI (i + 1))), (2, .int f), (3, .int (nI c)), (4, .int cm)], [.int ((V.1 165 5) + 1), .ref 165])) rfl ?_
                  refine ze_px pg_138 rfl rfl ⟨rfl, rfl⟩ (Or.inl rfl) (by decide) ?_
                  cases hE
                  exact xe_end pg_138 rfl
        · rw [if_neg h7] at hE
          refine xe_c2t pg_138 181 rfl rfl h7 ?_
          refine xe_sn pg_138 2 (fr' := (184, [(5, .int (nI (4 * i + c))), (0, .ref 165), (1, .int (nI (i + 1))), (2, .int f), (3, .int (nI c)), (4, .int cm)], [.int 4, .int cm])) rfl ?_
          refine xe_c2t pg_138 241 rfl rfl h7 ?_
          refine xe_sn pg_138 2 (fr' := (243, [(5, .int (nI (4 * i + c))), (0, .ref 165), (1, .int (nI (i + 1))), (2, .int f), (3, .int (nI c)), (4, .int cm)], [.ref 165, .ref 165])) rfl ?_
          refine ze_gi pg_138 (V.1 165 5) rfl rfl rfl rfl ?_
          refine xe_sn pg_138 2 (fr' := (248, [(5, .int (nI (4 * i + c))), (0, .ref 165), (1, .int (nI (i + 1))), (2, .int f), (3, .int (nI c)), (4, .int cm)], [.int ((V.1 165 5) + 1), .ref 165])) rfl ?_
          refine ze_px pg_138 rfl rfl ⟨rfl, rfl⟩ (Or.inl rfl) (by decide) ?_
          cases hE
          exact xe_end pg_138 rfl

