/-! the row of cells by the face: damage, lose, cell, deliver -/
def g_remove (V : xVt) (i : Int32) : Option xVt := if bnd (V.1 165 1 - 1) 20 then (if bnd i 20 then (if i.toNatClampNeg ≤ (V.1 165 1 - 1).toNatClampNeg then some (vc (vx V 165 1 (V.1 165 1 - 1)) (cr V.2.2.1 i.toNatClampNeg (V.1 165 1 - 1).toNatClampNeg)) else none) else none) else none
theorem cg_removeO (d : Nat) {w : xWd} {S : xSt} {V : xVt} {ρ : Nat → Nat → Int64} {i : Int32} {r : xVt} (hE : g_remove V i = some r) : xc d 119 [.ref 165, .int i] (hv w S V ρ) (.inl none, hv w S r ρ) := by
  unfold g_remove at hE
  by_cases h1 : bnd (V.1 165 1 - 1) 20
  case neg => rw [if_neg h1] at hE; cases hE
  by_cases h2 : bnd i 20
  case neg => rw [if_pos h1, if_neg h2] at hE; cases hE
  by_cases h3 : i.toNatClampNeg ≤ (V.1 165 1 - 1).toNatClampNeg
  case neg => rw [if_pos h1, if_pos h2, if_neg h3] at hE; cases hE
  rw [if_pos h1, if_pos h2, if_pos h3] at hE
  cases hE
  have e1 := nI_bnd h1 (by omega)
  have e2 := nI_bnd h2 (by omega)
  have e3 : V.1 165 1 = nI ((V.1 165 1 - 1).toNatClampNeg + 1) := by
    rw [← nI_1, ← e1]
    exact (Int32.sub_add_cancel _ _).symm
  have k := cg_remove d (w := w) (S := S) (V := V) (ρ := ρ) (i := i.toNatClampNeg) (n := (V.1 165 1 - 1).toNatClampNeg) e3 h3 (bnd_lt h1)
  rw [← e1, ← e2] at k
  exact k
def g_damage (V : xVt) (i : Int32) (k : Int32) (mk : Int32) : Option (Int32 × xVt) := (some (g_in i 0 ((V.1 165 1) - 1))).bind fun r1 => if r1 = 0 then (some (0, (vn V 165 0 1))) else ((some (g_in k 0 13)).bind fun r2 => if r2 = 0 then (some (0, (vn V 165 0 1))) else ((some (g_in mk 0 255)).bind fun r3 => if r3 = 0 then (some (0, (vn V 165 0 2))) else (if bnd ((((19 : Int32) * i) + 4) + k) 380 then (some ((V.2.2.1 (((((19 : Int32) * i) + 4) + k).toNatClampNeg / 19) (pm (((((19 : Int32) * i) + 4) + k).toNatClampNeg % 19))), (vcs (vn V 165 0 0) (((((19 : Int32) * i) + 4) + k).toNatClampNeg / 19) (pm (((((19 : Int32) * i) + 4) + k).toNatClampNeg % 19)) ((V.2.2.1 (((((19 : Int32) * i) + 4) + k).toNatClampNeg / 19) (pm (((((19 : Int32) * i) + 4) + k).toNatClampNeg % 19))) ^^^ mk)))) else none)))
set_option maxRecDepth 100000 in
theorem cg_damage (d : Nat) {w : xWd} {S : xSt} {V : xVt} {ρ : Nat → Nat → Int64} {i : Int32} {k : Int32} {mk : Int32} {r : Int32 × xVt} (hE : (g_damage V i k mk) = some r) : xc (d + 1) 149 [.ref 165, .int i, .int k, .int mk] (hv w S V ρ) (.inl (some (.int r.1)), hv w S r.2 ρ) := by
  unfold g_damage at hE
  refine xe_sn pg_149 4 (fr' := (4, [(0, .ref 165), (1, .int i), (2, .int k), (3, .int mk)], [.ref 165, .int 0, .int i, .ref 165])) rfl ?_
  refine ze_gi pg_149 (V.1 165 1) rfl rfl rfl rfl ?_
  refine xe_sn pg_149 2 (fr' := (9, [(0, .ref 165), (1, .int i), (2, .int k), (3, .int mk)], [.int ((V.1 165 1) - 1), .int 0, .int i, .ref 165])) rfl ?_
  obtain ⟨r1, e1, hE⟩ := Option.bind_eq_some_iff.mp hE
  refine xe_callq pg_149 103 [.int i, .int 0, .int ((V.1 165 1) - 1)] (.inl (some (.int r1))) (12, [(0, .ref 165), (1, .int i), (2, .int k), (3, .int mk)], [.int r1, .ref 165]) rfl (fun _ => rfl) (cg_in _ (v := i) (l := 0) (h := ((V.1 165 1) - 1))  (Option.some.inj e1)) ?_
  by_cases h1 : r1 = 0
  · rw [if_pos h1] at hE
    refine xe_c1t pg_149 25 rfl rfl h1 ?_
    refine xe_sn pg_149 2 (fr' := (45, [(0, .ref 165), (1, .int i), (2, .int k), (3, .int mk)], [.int 1, .ref 165])) rfl ?_
    refine ze_pn pg_149 rfl rfl ⟨rfl, rfl⟩ (Or.inl rfl) (by decide) ?_
    refine xe_sn pg_149 1 (fr' := (49, [(0, .ref 165), (1, .int i), (2, .int k), (3, .int mk)], [.ref 165])) rfl ?_
    refine ze_gi pg_149 1 rfl rfl rfl rfl ?_
    refine xe_sn pg_149 2 (fr' := (56, [(0, .ref 165), (1, .int i), (2, .int k), (3, .int mk)], [.int 0])) rfl ?_
    cases hE
    exact xe_end pg_149 rfl
  · rw [if_neg h1] at hE
    refine xe_c1f pg_149 25 rfl rfl h1 ?_
    refine xe_sn pg_149 3 (fr' := (19, [(0, .ref 165), (1, .int i), (2, .int k), (3, .int mk)], [.int 13, .int 0, .int k, .ref 165])) rfl ?_
    obtain ⟨r2, e2, hE⟩ := Option.bind_eq_some_iff.mp hE
    refine xe_callq pg_149 103 [.int k, .int 0, .int 13] (.inl (some (.int r2))) (22, [(0, .ref 165), (1, .int i), (2, .int k), (3, .int mk)], [.int r2, .ref 165]) rfl (fun _ => rfl) (cg_in _ (v := k) (l := 0) (h := 13)  (Option.some.inj e2)) ?_
    by_cases h2 : r2 = 0
    · rw [if_pos h2] at hE
      refine xe_c1f pg_149 29 rfl rfl (fun z => z h2) ?_
      refine xe_sn pg_149 2 (fr' := (45, [(0, .ref 165), (1, .int i), (2, .int k), (3, .int mk)], [.int 1, .ref 165])) rfl ?_
      refine ze_pn pg_149 rfl rfl ⟨rfl, rfl⟩ (Or.inl rfl) (by decide) ?_
      refine xe_sn pg_149 1 (fr' := (49, [(0, .ref 165), (1, .int i), (2, .int k), (3, .int mk)], [.ref 165])) rfl ?_
      refine ze_gi pg_149 1 rfl rfl rfl rfl ?_
      refine xe_sn pg_149 2 (fr' := (56, [(0, .ref 165), (1, .int i), (2, .int k), (3, .int mk)], [.int 0])) rfl ?_
      cases hE
      exact xe_end pg_149 rfl
    · rw [if_neg h2] at hE
      refine xe_c1t pg_149 29 rfl rfl h2 ?_
      refine xe_sn pg_149 3 (fr' := (34, [(0, .ref 165), (1, .int i), (2, .int k), (3, .int mk)], [.int 255, .int 0, .int mk, .ref 165])) rfl ?_
      obtain ⟨r3, e3, hE⟩ := Option.bind_eq_some_iff.mp hE
      refine xe_callq pg_149 103 [.int mk, .int 0, .int 255] (.inl (some (.int r3))) (37, [(0, .ref 165), (1, .int i), (2, .int k), (3, .int mk)], [.int r3, .ref 165]) rfl (fun _ => rfl) (cg_in _ (v := mk) (l := 0) (h := 255)  (Option.some.inj e3)) ?_
      by_cases h3 : r3 = 0
      · rw [if_pos h3] at hE
        refine xe_c1f pg_149 44 rfl rfl (fun z => z h3) ?_
        refine xe_sn pg_149 2 (fr' := (45, [(0, .ref 165), (1, .int i), (2, .int k), (3, .int mk)], [.int 2, .ref 165])) rfl ?_
        refine ze_pn pg_149 rfl rfl ⟨rfl, rfl⟩ (Or.inl rfl) (by decide) ?_
        refine xe_sn pg_149 1 (fr' := (49, [(0, .ref 165), (1, .int i), (2, .int k), (3, .int mk)], [.ref 165])) rfl ?_
        refine ze_gi pg_149 2 rfl rfl rfl rfl ?_
        refine xe_sn pg_149 2 (fr' := (56, [(0, .ref 165), (1, .int i), (2, .int k), (3, .int mk)], [.int 0])) rfl ?_
        cases hE
        exact xe_end pg_149 rfl
      · rw [if_neg h3] at hE
        refine xe_c1t pg_149 44 rfl rfl h3 ?_
        refine xe_sn pg_149 1 (fr' := (45, [(0, .ref 165), (1, .int i), (2, .int k), (3, .int mk)], [.int 0, .ref 165])) rfl ?_
        refine ze_pn pg_149 rfl rfl ⟨rfl, rfl⟩ (Or.inl rfl) (by decide) ?_
        refine xe_sn pg_149 1 (fr' := (49, [(0, .ref 165), (1, .int i), (2, .int k), (3, .int mk)], [.ref 165])) rfl ?_
        refine ze_gi pg_149 0 rfl rfl rfl rfl ?_
        refine xe_sn pg_149 10 (fr' := (69, [(0, .ref 165), (1, .int i), (2, .int k), (3, .int mk)], [.int ((((19 : Int32) * i) + 4) + k), .ref 166])) rfl ?_
        by_cases g4 : bnd ((((19 : Int32) * i) + 4) + k) 380
        case neg => rw [if_neg g4] at hE; cases hE
        rw [if_pos g4] at hE
        have g4l := bnd_lt g4
        refine ze_ic pg_149 (((((19 : Int32) * i) + 4) + k).toNatClampNeg / 19) (((((19 : Int32) * i) + 4) + k).toNatClampNeg % 19) (V.2.2.1 (((((19 : Int32) * i) + 4) + k).toNatClampNeg / 19) (pm (((((19 : Int32) * i) + 4) + k).toNatClampNeg % 19))) rfl g4 rfl (by omega) (by omega) rfl ?_
        refine xe_sn pg_149 10 (fr' := (84, [(4, .int (V.2.2.1 (((((19 : Int32) * i) + 4) + k).toNatClampNeg / 19) (pm (((((19 : Int32) * i) + 4) + k).toNatClampNeg % 19)))), (0, .ref 165), (1, .int i), (2, .int k), (3, .int mk)], [.int ((((19 : Int32) * i) + 4) + k), .ref 166])) rfl ?_
        refine xe_sn pg_149 3 (fr' := (88, [(4, .int (V.2.2.1 (((((19 : Int32) * i) + 4) + k).toNatClampNeg / 19) (pm (((((19 : Int32) * i) + 4) + k).toNatClampNeg % 19)))), (0, .ref 165), (1, .int i), (2, .int k), (3, .int mk)], [.int ((V.2.2.1 (((((19 : Int32) * i) + 4) + k).toNatClampNeg / 19) (pm (((((19 : Int32) * i) + 4) + k).toNatClampNeg % 19))) ^^^ mk), .int ((((19 : Int32) * i) + 4) + k), .ref 166])) rfl ?_
        refine ze_sc pg_149 (((((19 : Int32) * i) + 4) + k).toNatClampNeg / 19) (((((19 : Int32) * i) + 4) + k).toNatClampNeg % 19) rfl g4 rfl (by omega) (by omega) ?_
        refine xe_sn pg_149 1 (fr' := (91, [(4, .int (V.2.2.1 (((((19 : Int32) * i) + 4) + k).toNatClampNeg / 19) (pm (((((19 : Int32) * i) + 4) + k).toNatClampNeg % 19)))), (0, .ref 165), (1, .int i), (2, .int k), (3, .int mk)], [.int (V.2.2.1 (((((19 : Int32) * i) + 4) + k).toNatClampNeg / 19) (pm (((((19 : Int32) * i) + 4) + k).toNatClampNeg % 19)))])) rfl ?_
        cases hE
        exact xe_end pg_149 rfl

def g_lose (V : xVt) (i : Int32) : Option (Int32 × xVt) := (some (g_in i 0 ((V.1 165 1) - 1))).bind fun r1 => if r1 = 0 then (some (0, (vn V 165 0 1))) else (if bnd (((19 : Int32) * i) + 3) 380 then ((g_remove (vn V 165 0 0) i).bind fun r2 => some ((V.2.2.1 ((((19 : Int32) * i) + 3).toNatClampNeg / 19) (pm ((((19 : Int32) * i) + 3).toNatClampNeg % 19))), (vx r2 165 4 ((r2.1 165 4) + 1)))) else none)
set_option maxRecDepth 100000 in
theorem cg_lose (d : Nat) {w : xWd} {S : xSt} {V : xVt} {ρ : Nat → Nat → Int64} {i : Int32} {r : Int32 × xVt} (hE : (g_lose V i) = some r) : xc (d + 1) 150 [.ref 165, .int i] (hv w S V ρ) (.inl (some (.int r.1)), hv w S r.2 ρ) := by
  unfold g_lose at hE
  refine xe_sn pg_150 4 (fr' := (4, [(0, .ref 165), (1, .int i)], [.ref 165, .int 0, .int i, .ref 165])) rfl ?_
  refine ze_gi pg_150 (V.1 165 1) rfl rfl rfl rfl ?_
  refine xe_sn pg_150 2 (fr' := (9, [(0, .ref 165), (1, .int i)], [.int ((V.1 165 1) - 1), .int 0, .int i, .ref 165])) rfl ?_
  obtain ⟨r1, e1, hE⟩ := Option.bind_eq_some_iff.mp hE
  refine xe_callq pg_150 103 [.int i, .int 0, .int ((V.1 165 1) - 1)] (.inl (some (.int r1))) (12, [(0, .ref 165), (1, .int i)], [.int r1, .ref 165]) rfl (fun _ => rfl) (cg_in _ (v := i) (l := 0) (h := ((V.1 165 1) - 1))  (Option.some.inj e1)) ?_
  by_cases h1 : r1 = 0
  · rw [if_pos h1] at hE
    refine xe_c1t pg_150 19 rfl rfl h1 ?_
    refine xe_sn pg_150 1 (fr' := (20, [(0, .ref 165), (1, .int i)], [.int 1, .ref 165])) rfl ?_
    refine ze_pn pg_150 rfl rfl ⟨rfl, rfl⟩ (Or.inl rfl) (by decide) ?_
    refine xe_sn pg_150 1 (fr' := (24, [(0, .ref 165), (1, .int i)], [.ref 165])) rfl ?_
    refine ze_gi pg_150 1 rfl rfl rfl rfl ?_
    refine xe_sn pg_150 2 (fr' := (31, [(0, .ref 165), (1, .int i)], [.int 0])) rfl ?_
    cases hE
    exact xe_end pg_150 rfl
  · rw [if_neg h1] at hE
    refine xe_c1f pg_150 19 rfl rfl h1 ?_
    refine xe_sn pg_150 2 (fr' := (20, [(0, .ref 165), (1, .int i)], [.int 0, .ref 165])) rfl ?_
    refine ze_pn pg_150 rfl rfl ⟨rfl, rfl⟩ (Or.inl rfl) (by decide) ?_
    refine xe_sn pg_150 1 (fr' := (24, [(0, .ref 165), (1, .int i)], [.ref 165])) rfl ?_
    refine ze_gi pg_150 0 rfl rfl rfl rfl ?_
    refine xe_sn pg_150 8 (fr' := (42, [(0, .ref 165), (1, .int i)], [.int (((19 : Int32) * i) + 3), .ref 166])) rfl ?_
    by_cases g2 : bnd (((19 : Int32) * i) + 3) 380
    case neg => rw [if_neg g2] at hE; cases hE
    rw [if_pos g2] at hE
    have g2l := bnd_lt g2
    refine ze_ic pg_150 ((((19 : Int32) * i) + 3).toNatClampNeg / 19) ((((19 : Int32) * i) + 3).toNatClampNeg % 19) (V.2.2.1 ((((19 : Int32) * i) + 3).toNatClampNeg / 19) (pm ((((19 : Int32) * i) + 3).toNatClampNeg % 19))) rfl g2 rfl (by omega) (by omega) rfl ?_
    refine xe_sn pg_150 3 (fr' := (46, [(2, .int (V.2.2.1 ((((19 : Int32) * i) + 3).toNatClampNeg / 19) (pm ((((19 : Int32) * i) + 3).toNatClampNeg % 19)))), (0, .ref 165), (1, .int i)], [.int i, .ref 165])) rfl ?_
    obtain ⟨r2, e2, hE⟩ := Option.bind_eq_some_iff.mp hE
    refine xe_cv pg_150 119 pg_119 [.int i] [] (none) rfl rfl rfl rfl ⟨Nat.le_of_ble_eq_true rfl, Nat.le_of_ble_eq_true rfl, Nat.le_of_ble_eq_true rfl⟩ ⟨rfl, rfl⟩ ⟨by decide, rfl, by decide⟩ (cg_removeO _ (i := i)  e2) ?_
    refine xe_sn pg_150 2 (fr' := (51, [(2, .int (V.2.2.1 ((((19 : Int32) * i) + 3).toNatClampNeg / 19) (pm ((((19 : Int32) * i) + 3).toNatClampNeg % 19)))), (0, .ref 165), (1, .int i)], [.ref 165, .ref 165])) rfl ?_
    refine ze_gi pg_150 (r2.1 165 4) rfl rfl rfl rfl ?_
    refine xe_sn pg_150 2 (fr' := (56, [(2, .int (V.2.2.1 ((((19 : Int32) * i) + 3).toNatClampNeg / 19) (pm ((((19 : Int32) * i) + 3).toNatClampNeg % 19)))), (0, .ref 165), (1, .int i)], [.int ((r2.1 165 4) + 1), .ref 165])) rfl ?_
    refine ze_px pg_150 rfl rfl ⟨rfl, rfl⟩ (Or.inl rfl) (by decide) ?_
    refine xe_sn pg_150 1 (fr' := (60, [(2, .int (V.2.2.1 ((((19 : Int32) * i) + 3).toNatClampNeg / 19) (pm ((((19 : Int32) * i) + 3).toNatClampNeg % 19)))), (0, .ref 165), (1, .int i)], [.int (V.2.2.1 ((((19 : Int32) * i) + 3).toNatClampNeg / 19) (pm ((((19 : Int32) * i) + 3).toNatClampNeg % 19)))])) rfl ?_
    cases hE
    exact xe_end pg_150 rfl

def g_cell (V : xVt) (i : Int32) (wh : Int32) : Option (Int32 × xVt) := (some (g_in i 0 ((V.1 165 1) - 1))).bind fun r1 => if r1 = 0 then (some (0, (vn V 165 0 1))) else ((some (g_in wh 0 18)).bind fun r2 => if r2 = 0 then (some (0, (vn V 165 0 1))) else (if bnd (((19 : Int32) * i) + wh) 380 then (some ((V.2.2.1 ((((19 : Int32) * i) + wh).toNatClampNeg / 19) (pm ((((19 : Int32) * i) + wh).toNatClampNeg % 19))), (vn V 165 0 0))) else none))
set_option maxRecDepth 100000 in
theorem cg_cell (d : Nat) {w : xWd} {S : xSt} {V : xVt} {ρ : Nat → Nat → Int64} {i : Int32} {wh : Int32} {r : Int32 × xVt} (hE : (g_cell V i wh) = some r) : xc (d + 1) 152 [.ref 165, .int i, .int wh] (hv w S V ρ) (.inl (some (.int r.1)), hv w S r.2 ρ) := by
  unfold g_cell at hE
  refine xe_sn pg_152 4 (fr' := (4, [(0, .ref 165), (1, .int i), (2, .int wh)], [.ref 165, .int 0, .int i, .ref 165])) rfl ?_
  refine ze_gi pg_152 (V.1 165 1) rfl rfl rfl rfl ?_
  refine xe_sn pg_152 2 (fr' := (9, [(0, .ref 165), (1, .int i), (2, .int wh)], [.int ((V.1 165 1) - 1), .int 0, .int i, .ref 165])) rfl ?_
  obtain ⟨r1, e1, hE⟩ := Option.bind_eq_some_iff.mp hE
  refine xe_callq pg_152 103 [.int i, .int 0, .int ((V.1 165 1) - 1)] (.inl (some (.int r1))) (12, [(0, .ref 165), (1, .int i), (2, .int wh)], [.int r1, .ref 165]) rfl (fun _ => rfl) (cg_in _ (v := i) (l := 0) (h := ((V.1 165 1) - 1))  (Option.some.inj e1)) ?_
  by_cases h1 : r1 = 0
  · rw [if_pos h1] at hE
    refine xe_c1t pg_152 29 rfl rfl h1 ?_
    refine xe_sn pg_152 1 (fr' := (30, [(0, .ref 165), (1, .int i), (2, .int wh)], [.int 0, .ref 165])) rfl ?_
    refine xe_cv pg_152 151 pg_151 [.int 0] [] (some (.int 1)) rfl rfl rfl rfl ⟨Nat.le_of_ble_eq_true rfl, Nat.le_of_ble_eq_true rfl, Nat.le_of_ble_eq_true rfl⟩ ⟨rfl, rfl⟩ ⟨by decide, rfl, by decide⟩ (cg_out0 _ ) ?_
    refine xe_sn pg_152 3 (fr' := (51, [(0, .ref 165), (1, .int i), (2, .int wh)], [.int 0])) rfl ?_
    cases hE
    exact xe_end pg_152 rfl
  · rw [if_neg h1] at hE
    refine xe_c1f pg_152 29 rfl rfl h1 ?_
    refine xe_sn pg_152 3 (fr' := (19, [(0, .ref 165), (1, .int i), (2, .int wh)], [.int 18, .int 0, .int wh, .ref 165])) rfl ?_
    obtain ⟨r2, e2, hE⟩ := Option.bind_eq_some_iff.mp hE
    refine xe_callq pg_152 103 [.int wh, .int 0, .int 18] (.inl (some (.int r2))) (22, [(0, .ref 165), (1, .int i), (2, .int wh)], [.int r2, .ref 165]) rfl (fun _ => rfl) (cg_in _ (v := wh) (l := 0) (h := 18)  (Option.some.inj e2)) ?_
    by_cases h2 : r2 = 0
    · rw [if_pos h2] at hE
      refine xe_c1t pg_152 29 rfl rfl h2 ?_
      refine xe_sn pg_152 1 (fr' := (30, [(0, .ref 165), (1, .int i), (2, .int wh)], [.int 0, .ref 165])) rfl ?_
      refine xe_cv pg_152 151 pg_151 [.int 0] [] (some (.int 1)) rfl rfl rfl rfl ⟨Nat.le_of_ble_eq_true rfl, Nat.le_of_ble_eq_true rfl, Nat.le_of_ble_eq_true rfl⟩ ⟨rfl, rfl⟩ ⟨by decide, rfl, by decide⟩ (cg_out0 _ ) ?_
      refine xe_sn pg_152 3 (fr' := (51, [(0, .ref 165), (1, .int i), (2, .int wh)], [.int 0])) rfl ?_
      cases hE
      exact xe_end pg_152 rfl
    · rw [if_neg h2] at hE
      refine xe_c1f pg_152 29 rfl rfl h2 ?_
      refine xe_sn pg_152 2 (fr' := (30, [(0, .ref 165), (1, .int i), (2, .int wh)], [.int 1, .ref 165])) rfl ?_
      refine xe_cv pg_152 151 pg_151 [.int 1] [] (some (.int 0)) rfl rfl rfl rfl ⟨Nat.le_of_ble_eq_true rfl, Nat.le_of_ble_eq_true rfl, Nat.le_of_ble_eq_true rfl⟩ ⟨rfl, rfl⟩ ⟨by decide, rfl, by decide⟩ (cg_out1 _ ) ?_
      refine xe_sn pg_152 8 (fr' := (50, [(0, .ref 165), (1, .int i), (2, .int wh)], [.int (((19 : Int32) * i) + wh), .ref 166])) rfl ?_
      by_cases g3 : bnd (((19 : Int32) * i) + wh) 380
      case neg => rw [if_neg g3] at hE; cases hE
      rw [if_pos g3] at hE
      have g3l := bnd_lt g3
      refine ze_ic pg_152 ((((19 : Int32) * i) + wh).toNatClampNeg / 19) ((((19 : Int32) * i) + wh).toNatClampNeg % 19) (V.2.2.1 ((((19 : Int32) * i) + wh).toNatClampNeg / 19) (pm ((((19 : Int32) * i) + wh).toNatClampNeg % 19))) rfl g3 rfl (by omega) (by omega) rfl ?_
      cases hE
      exact xe_end pg_152 rfl

def g_step (V : xVt) : Option xVt := (g_remove (vn (vb (vb (vb (vb (vb (vb (vb (vb (vb (vb (vb (vb (vb (vb V 0 (V.2.2.1 0 0)) 1 (V.2.2.1 0 1)) 2 (V.2.2.1 0 2)) 3 (V.2.2.1 0 3)) 4 (V.2.2.1 0 4)) 5 (V.2.2.1 0 5)) 6 (V.2.2.1 0 6)) 7 (V.2.2.1 0 7)) 8 (V.2.2.1 0 8)) 9 (V.2.2.1 0 9)) 10 (V.2.2.1 0 10)) 11 (V.2.2.1 0 11)) 12 (V.2.2.1 0 12)) 13 (V.2.2.1 0 13)) 165 27 (V.2.2.1 0 18)) 0).bind fun r1 => if (V.2.2.1 0 15) = 0 then (if bnd (V.2.2.1 0 16) 4 then ((g_toClient (vx r1 165 3 ((r1.1 165 3) + 1)) (V.2.2.1 0 14) (V.2.2.1 0 16).toNatClampNeg (V.2.2.1 0 17)).bind fun r2 => some r2) else none) else (if bnd ((V.2.2.1 0 15) - 1) 4 then (if bnd (V.2.2.1 0 16) 4 then ((g_toRelay (vx r1 165 3 ((r1.1 165 3) + 1)) ((V.2.2.1 0 15) - 1).toNatClampNeg (V.2.2.1 0 14) (V.2.2.1 0 16).toNatClampNeg (V.2.2.1 0 17)).bind fun r3 => some r3) else none) else none)

-- (21, [(2, .int (nI (k + 1))), (7, .int 14), (6, .int (V.2.2.1 0 17)), (5, .int (V.2.2.1 0 16)), (4, .int (V.2.2.1 0 15)), (3, .int (V.2.2.1 0 14)), (0, .ref 165), (1, .int m)], [])

set_option maxRecDepth 100000 in
theorem cg_step0 (d : Nat) {w : xWd} {S : xSt} {V : xVt} {ρ : Nat → Nat → Int64} {k : Nat} {m : Int32} {T : xVt} {r : xRs} (hE : g_step V = some T) (hr : ∀ v3 v4 v5 v6 v7, xe (d + 8) 148 (21, [(2, .int (nI (k + 1))), (7, .int v7), (6, .int v6), (5, .int v5), (4, .int v4), (3, .int v3), (0, .ref 165), (1, .int m)], []) (hv w S T ρ) r) : xe (d + 8) 148 (40, [(2, .int (nI k)), (0, .ref 165), (1, .int m)], []) (hv w S V ρ) r := by
  unfold g_step at hE
  refine xe_sn pg_148 3 (fr' := (45, [(2, .int (nI k)), (0, .ref 165), (1, .int m)], [.int 0, .ref 166])) rfl ?_
  refine ze_ic pg_148 0 0 (V.2.2.1 0 14) (j := 0) rfl ⟨by decide, by decide⟩ rfl (by omega) (by decide) rfl ?_
  refine xe_sn pg_148 4 (fr' := (52, [(3, .int (V.2.2.1 0 14)), (2, .int (nI k)), (0, .ref 165), (1, .int m)], [.int 1, .ref 166])) rfl ?_
  refine ze_ic pg_148 0 1 (V.2.2.1 0 15) (j := 1) rfl ⟨by decide, by decide⟩ rfl (by omega) (by decide) rfl ?_
  refine xe_sn pg_148 4 (fr' := (60, [(4, .int (V.2.2.1 0 15)), (3, .int (V.2.2.1 0 14)), (2, .int (nI k)), (0, .ref 165), (1, .int m)], [.int 2, .ref 166])) rfl ?_
  refine ze_ic pg_148 0 2 (V.2.2.1 0 16) (j := 2) rfl ⟨by decide, by decide⟩ rfl (by omega) (by decide) rfl ?_
  refine xe_sn pg_148 4 (fr' := (68, [(5, .int (V.2.2.1 0 16)), (4, .int (V.2.2.1 0 15)), (3, .int (V.2.2.1 0 14)), (2, .int (nI k)), (0, .ref 165), (1, .int m)], [.int 3, .ref 166])) rfl ?_
  refine ze_ic pg_148 0 3 (V.2.2.1 0 17) (j := 3) rfl ⟨by decide, by decide⟩ rfl (by omega) (by decide) rfl ?_
  refine xe_sn pg_148 10 (fr' := (88, [(7, .int 0), (6, .int (V.2.2.1 0 17)), (5, .int (V.2.2.1 0 16)), (4, .int (V.2.2.1 0 15)), (3, .int (V.2.2.1 0 14)), (2, .int (nI k)), (0, .ref 165), (1, .int m)], [.ref 165, .int 0, .ref 187])) rfl ?_
  refine xe_sn pg_148 4 (fr' := (95, [(7, .int 0), (6, .int (V.2.2.1 0 17)), (5, .int (V.2.2.1 0 16)), (4, .int (V.2.2.1 0 15)), (3, .int (V.2.2.1 0 14)), (2, .int (nI k)), (0, .ref 165), (1, .int m)], [.int 4, .ref 166, .int 0, .ref 187])) rfl ?_
  refine ze_ic pg_148 0 4 (V.2.2.1 0 0) (j := 4) rfl ⟨by decide, by decide⟩ rfl (by omega) (by decide) rfl ?_
  refine ze_sb pg_148 0 rfl (by decide) ⟨by decide, by decide⟩ rfl ?_
  refine xe_sn pg_148 2 (fr' := (74, [(7, .int 1), (6, .int (V.2.2.1 0 17)), (5, .int (V.2.2.1 0 16)), (4, .int (V.2.2.1 0 15)), (3, .int (V.2.2.1 0 14)), (2, .int (nI k)), (0, .ref 165), (1, .int m)], [])) rfl ?_
  refine xe_sn pg_148 10 (fr' := (94, [(7, .int 1), (6, .int (V.2.2.1 0 17)), (5, .int (V.2.2.1 0 16)), (4, .int (V.2.2.1 0 15)), (3, .int (V.2.2.1 0 14)), (2, .int (nI k)), (0, .ref 165), (1, .int m)], [.int 1, .int 4, .ref 166, .int 1, .ref 187])) rfl ?_
  refine xe_sn pg_148 1 (fr' := (95, [(7, .int 1), (6, .int (V.2.2.1 0 17)), (5, .int (V.2.2.1 0 16)), (4, .int (V.2.2.1 0 15)), (3, .int (V.2.2.1 0 14)), (2, .int (nI k)), (0, .ref 165), (1, .int m)], [.int 5, .ref 166, .int 1, .ref 187])) rfl ?_
  refine ze_ic pg_148 0 5 (V.2.2.1 0 1) (j := 5) rfl ⟨by decide, by decide⟩ rfl (by omega) (by decide) rfl ?_
  refine ze_sb pg_148 1 rfl (by decide) ⟨by decide, by decide⟩ rfl ?_
  refine xe_sn pg_148 2 (fr' := (74, [(7, .int 2), (6, .int (V.2.2.1 0 17)), (5, .int (V.2.2.1 0 16)), (4, .int (V.2.2.1 0 15)), (3, .int (V.2.2.1 0 14)), (2, .int (nI k)), (0, .ref 165), (1, .int m)], [])) rfl ?_
  refine xe_sn pg_148 10 (fr' := (94, [(7, .int 2), (6, .int (V.2.2.1 0 17)), (5, .int (V.2.2.1 0 16)), (4, .int (V.2.2.1 0 15)), (3, .int (V.2.2.1 0 14)), (2, .int (nI k)), (0, .ref 165), (1, .int m)], [.int 2, .int 4, .ref 166, .int 2, .ref 187])) rfl ?_
  refine xe_sn pg_148 1 (fr' := (95, [(7, .int 2), (6, .int (V.2.2.1 0 17)), (5, .int (V.2.2.1 0 16)), (4, .int (V.2.2.1 0 15)), (3, .int (V.2.2.1 0 14)), (2, .int (nI k)), (0, .ref 165), (1, .int m)], [.int 6, .ref 166, .int 2, .ref 187])) rfl ?_
  refine ze_ic pg_148 0 6 (V.2.2.1 0 2) (j := 6) rfl ⟨by decide, by decide⟩ rfl (by omega) (by decide) rfl ?_
  refine ze_sb pg_148 2 rfl (by decide) ⟨by decide, by decide⟩ rfl ?_
  refine xe_sn pg_148 2 (fr' := (74, [(7, .int 3), (6, .int (V.2.2.1 0 17)), (5, .int (V.2.2.1 0 16)), (4, .int (V.2.2.1 0 15)), (3, .int (V.2.2.1 0 14)), (2, .int (nI k)), (0, .ref 165), (1, .int m)], [])) rfl ?_
  refine xe_sn pg_148 10 (fr' := (94, [(7, .int 3), (6, .int (V.2.2.1 0 17)), (5, .int (V.2.2.1 0 16)), (4, .int (V.2.2.1 0 15)), (3, .int (V.2.2.1 0 14)), (2, .int (nI k)), (0, .ref 165), (1, .int m)], [.int 3, .int 4, .ref 166, .int 3, .ref 187])) rfl ?_
  refine xe_sn pg_148 1 (fr' := (95, [(7, .int 3), (6, .int (V.2.2.1 0 17)), (5, .int (V.2.2.1 0 16)), (4, .int (V.2.2.1 0 15)), (3, .int (V.2.2.1 0 14)), (2, .int (nI k)), (0, .ref 165), (1, .int m)], [.int 7, .ref 166, .int 3, .ref 187])) rfl ?_
  refine ze_ic pg_148 0 7 (V.2.2.1 0 3) (j := 7) rfl ⟨by decide, by decide⟩ rfl (by omega) (by decide) rfl ?_
  refine ze_sb pg_148 3 rfl (by decide) ⟨by decide, by decide⟩ rfl ?_
  refine xe_sn pg_148 2 (fr' := (74, [(7, .int 4), (6, .int (V.2.2.1 0 17)), (5, .int (V.2.2.1 0 16)), (4, .int (V.2.2.1 0 15)), (3, .int (V.2.2.1 0 14)), (2, .int (nI k)), (0, .ref 165), (1, .int m)], [])) rfl ?_
  refine xe_sn pg_148 10 (fr' := (94, [(7, .int 4), (6, .int (V.2.2.1 0 17)), (5, .int (V.2.2.1 0 16)), (4, .int (V.2.2.1 0 15)), (3, .int (V.2.2.1 0 14)), (2, .int (nI k)), (0, .ref 165), (1, .int m)], [.int 4, .int 4, .ref 166, .int 4, .ref 187])) rfl ?_
  refine xe_sn pg_148 1 (fr' := (95, [(7, .int 4), (6, .int (V.2.2.1 0 17)), (5, .int (V.2.2.1 0 16)), (4, .int (V.2.2.1 0 15)), (3, .int (V.2.2.1 0 14)), (2, .int (nI k)), (0, .ref 165), (1, .int m)], [.int 8, .ref 166, .int 4, .ref 187])) rfl ?_
  refine ze_ic pg_148 0 8 (V.2.2.1 0 4) (j := 8) rfl ⟨by decide, by decide⟩ rfl (by omega) (by decide) rfl ?_
  refine ze_sb pg_148 4 rfl (by decide) ⟨by decide, by decide⟩ rfl ?_
  refine xe_sn pg_148 2 (fr' := (74, [(7, .int 5), (6, .int (V.2.2.1 0 17)), (5, .int (V.2.2.1 0 16)), (4, .int (V.2.2.1 0 15)), (3, .int (V.2.2.1 0 14)), (2, .int (nI k)), (0, .ref 165), (1, .int m)], [])) rfl ?_
  refine xe_sn pg_148 10 (fr' := (94, [(7, .int 5), (6, .int (V.2.2.1 0 17)), (5, .int (V.2.2.1 0 16)), (4, .int (V.2.2.1 0 15)), (3, .int (V.2.2.1 0 14)), (2, .int (nI k)), (0, .ref 165), (1, .int m)], [.int 5, .int 4, .ref 166, .int 5, .ref 187])) rfl ?_
  refine xe_sn pg_148 1 (fr' := (95, [(7, .int 5), (6, .int (V.2.2.1 0 17)), (5, .int (V.2.2.1 0 16)), (4, .int (V.2.2.1 0 15)), (3, .int (V.2.2.1 0 14)), (2, .int (nI k)), (0, .ref 165), (1, .int m)], [.int 9, .ref 166, .int 5, .ref 187])) rfl ?_
  refine ze_ic pg_148 0 9 (V.2.2.1 0 5) (j := 9) rfl ⟨by decide, by decide⟩ rfl (by omega) (by decide) rfl ?_
  refine ze_sb pg_148 5 rfl (by decide) ⟨by decide, by decide⟩ rfl ?_
  refine xe_sn pg_148 2 (fr' := (74, [(7, .int 6), (6, .int (V.2.2.1 0 17)), (5, .int (V.2.2.1 0 16)), (4, .int (V.2.2.1 0 15)), (3, .int (V.2.2.1 0 14)), (2, .int (nI k)), (0, .ref 165), (1, .int m)], [])) rfl ?_
  refine xe_sn pg_148 10 (fr' := (94, [(7, .int 6), (6, .int (V.2.2.1 0 17)), (5, .int (V.2.2.1 0 16)), (4, .int (V.2.2.1 0 15)), (3, .int (V.2.2.1 0 14)), (2, .int (nI k)), (0, .ref 165), (1, .int m)], [.int 6, .int 4, .ref 166, .int 6, .ref 187])) rfl ?_
  refine xe_sn pg_148 1 (fr' := (95, [(7, .int 6), (6, .int (V.2.2.1 0 17)), (5, .int (V.2.2.1 0 16)), (4, .int (V.2.2.1 0 15)), (3, .int (V.2.2.1 0 14)), (2, .int (nI k)), (0, .ref 165), (1, .int m)], [.int 10, .ref 166, .int 6, .ref 187])) rfl ?_
  refine ze_ic pg_148 0 10 (V.2.2.1 0 6) (j := 10) rfl ⟨by decide, by decide⟩ rfl (by omega) (by decide) rfl ?_
  refine ze_sb pg_148 6 rfl (by decide) ⟨by decide, by decide⟩ rfl ?_
  refine xe_sn pg_148 2 (fr' := (74, [(7, .int 7), (6, .int (V.2.2.1 0 17)), (5, .int (V.2.2.1 0 16)), (4, .int (V.2.2.1 0 15)), (3, .int (V.2.2.1 0 14)), (2, .int (nI k)), (0, .ref 165), (1, .int m)], [])) rfl ?_
  refine xe_sn pg_148 10 (fr' := (94, [(7, .int 7), (6, .int (V.2.2.1 0 17)), (5, .int (V.2.2.1 0 16)), (4, .int (V.2.2.1 0 15)), (3, .int (V.2.2.1 0 14)), (2, .int (nI k)), (0, .ref 165), (1, .int m)], [.int 7, .int 4, .ref 166, .int 7, .ref 187])) rfl ?_
  refine xe_sn pg_148 1 (fr' := (95, [(7, .int 7), (6, .int (V.2.2.1 0 17)), (5, .int (V.2.2.1 0 16)), (4, .int (V.2.2.1 0 15)), (3, .int (V.2.2.1 0 14)), (2, .int (nI k)), (0, .ref 165), (1, .int m)], [.int 11, .ref 166, .int 7, .ref 187])) rfl ?_
  refine ze_ic pg_148 0 11 (V.2.2.1 0 7) (j := 11) rfl ⟨by decide, by decide⟩ rfl (by omega) (by decide) rfl ?_
  refine ze_sb pg_148 7 rfl (by decide) ⟨by decide, by decide⟩ rfl ?_
  refine xe_sn pg_148 2 (fr' := (74, [(7, .int 8), (6, .int (V.2.2.1 0 17)), (5, .int (V.2.2.1 0 16)), (4, .int (V.2.2.1 0 15)), (3, .int (V.2.2.1 0 14)), (2, .int (nI k)), (0, .ref 165), (1, .int m)], [])) rfl ?_
  refine xe_sn pg_148 10 (fr' := (94, [(7, .int 8), (6, .int (V.2.2.1 0 17)), (5, .int (V.2.2.1 0 16)), (4, .int (V.2.2.1 0 15)), (3, .int (V.2.2.1 0 14)), (2, .int (nI k)), (0, .ref 165), (1, .int m)], [.int 8, .int 4, .ref 166, .int 8, .ref 187])) rfl ?_
  refine xe_sn pg_148 1 (fr' := (95, [(7, .int 8), (6, .int (V.2.2.1 0 17)), (5, .int (V.2.2.1 0 16)), (4, .int (V.2.2.1 0 15)), (3, .int (V.2.2.1 0 14)), (2, .int (nI k)), (0, .ref 165), (1, .int m)], [.int 12, .ref 166, .int 8, .ref 187])) rfl ?_
  refine ze_ic pg_148 0 12 (V.2.2.1 0 8) (j := 12) rfl ⟨by decide, by decide⟩ rfl (by omega) (by decide) rfl ?_
  refine ze_sb pg_148 8 rfl (by decide) ⟨by decide, by decide⟩ rfl ?_
  refine xe_sn pg_148 2 (fr' := (74, [(7, .int 9), (6, .int (V.2.2.1 0 17)), (5, .int (V.2.2.1 0 16)), (4, .int (V.2.2.1 0 15)), (3, .int (V.2.2.1 0 14)), (2, .int (nI k)), (0, .ref 165), (1, .int m)], [])) rfl ?_
  refine xe_sn pg_148 10 (fr' := (94, [(7, .int 9), (6, .int (V.2.2.1 0 17)), (5, .int (V.2.2.1 0 16)), (4, .int (V.2.2.1 0 15)), (3, .int (V.2.2.1 0 14)), (2, .int (nI k)), (0, .ref 165), (1, .int m)], [.int 9, .int 4, .ref 166, .int 9, .ref 187])) rfl ?_
  refine xe_sn pg_148 1 (fr' := (95, [(7, .int 9), (6, .int (V.2.2.1 0 17)), (5, .int (V.2.2.1 0 16)), (4, .int (V.2.2.1 0 15)), (3, .int (V.2.2.1 0 14)), (2, .int (nI k)), (0, .ref 165), (1, .int m)], [.int 13, .ref 166, .int 9, .ref 187])) rfl ?_
  refine ze_ic pg_148 0 13 (V.2.2.1 0 9) (j := 13) rfl ⟨by decide, by decide⟩ rfl (by omega) (by decide) rfl ?_
  refine ze_sb pg_148 9 rfl (by decide) ⟨by decide, by decide⟩ rfl ?_
  refine xe_sn pg_148 2 (fr' := (74, [(7, .int 10), (6, .int (V.2.2.1 0 17)), (5, .int (V.2.2.1 0 16)), (4, .int (V.2.2.1 0 15)), (3, .int (V.2.2.1 0 14)), (2, .int (nI k)), (0, .ref 165), (1, .int m)], [])) rfl ?_
  refine xe_sn pg_148 10 (fr' := (94, [(7, .int 10), (6, .int (V.2.2.1 0 17)), (5, .int (V.2.2.1 0 16)), (4, .int (V.2.2.1 0 15)), (3, .int (V.2.2.1 0 14)), (2, .int (nI k)), (0, .ref 165), (1, .int m)], [.int 10, .int 4, .ref 166, .int 10, .ref 187])) rfl ?_
  refine xe_sn pg_148 1 (fr' := (95, [(7, .int 10), (6, .int (V.2.2.1 0 17)), (5, .int (V.2.2.1 0 16)), (4, .int (V.2.2.1 0 15)), (3, .int (V.2.2.1 0 14)), (2, .int (nI k)), (0, .ref 165), (1, .int m)], [.int 14, .ref 166, .int 10, .ref 187])) rfl ?_
  refine ze_ic pg_148 0 14 (V.2.2.1 0 10) (j := 14) rfl ⟨by decide, by decide⟩ rfl (by omega) (by decide) rfl ?_
  refine ze_sb pg_148 10 rfl (by decide) ⟨by decide, by decide⟩ rfl ?_
  refine xe_sn pg_148 2 (fr' := (74, [(7, .int 11), (6, .int (V.2.2.1 0 17)), (5, .int (V.2.2.1 0 16)), (4, .int (V.2.2.1 0 15)), (3, .int (V.2.2.1 0 14)), (2, .int (nI k)), (0, .ref 165), (1, .int m)], [])) rfl ?_
  refine xe_sn pg_148 10 (fr' := (94, [(7, .int 11), (6, .int (V.2.2.1 0 17)), (5, .int (V.2.2.1 0 16)), (4, .int (V.2.2.1 0 15)), (3, .int (V.2.2.1 0 14)), (2, .int (nI k)), (0, .ref 165), (1, .int m)], [.int 11, .int 4, .ref 166, .int 11, .ref 187])) rfl ?_
  refine xe_sn pg_148 1 (fr' := (95, [(7, .int 11), (6, .int (V.2.2.1 0 17)), (5, .int (V.2.2.1 0 16)), (4, .int (V.2.2.1 0 15)), (3, .int (V.2.2.1 0 14)), (2, .int (nI k)), (0, .ref 165), (1, .int m)], [.int 15, .ref 166, .int 11, .ref 187])) rfl ?_
  refine ze_ic pg_148 0 15 (V.2.2.1 0 11) (j := 15) rfl ⟨by decide, by decide⟩ rfl (by omega) (by decide) rfl ?_
  refine ze_sb pg_148 11 rfl (by decide) ⟨by decide, by decide⟩ rfl ?_
  refine xe_sn pg_148 2 (fr' := (74, [(7, .int 12), (6, .int (V.2.2.1 0 17)), (5, .int (V.2.2.1 0 16)), (4, .int (V.2.2.1 0 15)), (3, .int (V.2.2.1 0 14)), (2, .int (nI k)), (0, .ref 165), (1, .int m)], [])) rfl ?_
  refine xe_sn pg_148 10 (fr' := (94, [(7, .int 12), (6, .int (V.2.2.1 0 17)), (5, .int (V.2.2.1 0 16)), (4, .int (V.2.2.1 0 15)), (3, .int (V.2.2.1 0 14)), (2, .int (nI k)), (0, .ref 165), (1, .int m)], [.int 12, .int 4, .ref 166, .int 12, .ref 187])) rfl ?_
  refine xe_sn pg_148 1 (fr' := (95, [(7, .int 12), (6, .int (V.2.2.1 0 17)), (5, .int (V.2.2.1 0 16)), (4, .int (V.2.2.1 0 15)), (3, .int (V.2.2.1 0 14)), (2, .int (nI k)), (0, .ref 165), (1, .int m)], [.int 16, .ref 166, .int 12, .ref 187])) rfl ?_
  refine ze_ic pg_148 0 16 (V.2.2.1 0 12) (j := 16) rfl ⟨by decide, by decide⟩ rfl (by omega) (by decide) rfl ?_
  refine ze_sb pg_148 12 rfl (by decide) ⟨by decide, by decide⟩ rfl ?_
  refine xe_sn pg_148 2 (fr' := (74, [(7, .int 13), (6, .int (V.2.2.1 0 17)), (5, .int (V.2.2.1 0 16)), (4, .int (V.2.2.1 0 15)), (3, .int (V.2.2.1 0 14)), (2, .int (nI k)), (0, .ref 165), (1, .int m)], [])) rfl ?_
  refine xe_sn pg_148 10 (fr' := (94, [(7, .int 13), (6, .int (V.2.2.1 0 17)), (5, .int (V.2.2.1 0 16)), (4, .int (V.2.2.1 0 15)), (3, .int (V.2.2.1 0 14)), (2, .int (nI k)), (0, .ref 165), (1, .int m)], [.int 13, .int 4, .ref 166, .int 13, .ref 187])) rfl ?_
  refine xe_sn pg_148 1 (fr' := (95, [(7, .int 13), (6, .int (V.2.2.1 0 17)), (5, .int (V.2.2.1 0 16)), (4, .int (V.2.2.1 0 15)), (3, .int (V.2.2.1 0 14)), (2, .int (nI k)), (0, .ref 165), (1, .int m)], [.int 17, .ref 166, .int 13, .ref 187])) rfl ?_
  refine ze_ic pg_148 0 17 (V.2.2.1 0 13) (j := 17) rfl ⟨by decide, by decide⟩ rfl (by omega) (by decide) rfl ?_
  refine ze_sb pg_148 13 rfl (by decide) ⟨by decide, by decide⟩ rfl ?_
  refine xe_sn pg_148 2 (fr' := (74, [(7, .int 14), (6, .int (V.2.2.1 0 17)), (5, .int (V.2.2.1 0 16)), (4, .int (V.2.2.1 0 15)), (3, .int (V.2.2.1 0 14)), (2, .int (nI k)), (0, .ref 165), (1, .int m)], [])) rfl ?_
  refine xe_sn pg_148 7 (fr' := (110, [(7, .int 14), (6, .int (V.2.2.1 0 17)), (5, .int (V.2.2.1 0 16)), (4, .int (V.2.2.1 0 15)), (3, .int (V.2.2.1 0 14)), (2, .int (nI k)), (0, .ref 165), (1, .int m)], [.int 18, .ref 166, .ref 165])) rfl ?_
  refine ze_ic pg_148 0 18 (V.2.2.1 0 18) (j := 18) rfl ⟨by decide, by decide⟩ rfl (by omega) (by decide) rfl ?_
  refine ze_pn pg_148 rfl rfl ⟨rfl, rfl⟩ (Or.inl rfl) (by decide) ?_
  refine xe_sn pg_148 2 (fr' := (116, [(7, .int 14), (6, .int (V.2.2.1 0 17)), (5, .int (V.2.2.1 0 16)), (4, .int (V.2.2.1 0 15)), (3, .int (V.2.2.1 0 14)), (2, .int (nI k)), (0, .ref 165), (1, .int m)], [.int 0, .ref 165])) rfl ?_
  obtain ⟨r1, e1, hE⟩ := Option.bind_eq_some_iff.mp hE
  refine xe_cv pg_148 119 pg_119 [.int 0] [] (none) rfl rfl rfl rfl ⟨Nat.le_of_ble_eq_true rfl, Nat.le_of_ble_eq_true rfl, Nat.le_of_ble_eq_true rfl⟩ ⟨rfl, rfl⟩ ⟨by decide, rfl, by decide⟩ (cg_removeO _ (i := 0)  e1) ?_
  refine xe_sn pg_148 2 (fr' := (121, [(7, .int 14), (6, .int (V.2.2.1 0 17)), (5, .int (V.2.2.1 0 16)), (4, .int (V.2.2.1 0 15)), (3, .int (V.2.2.1 0 14)), (2, .int (nI k)), (0, .ref 165), (1, .int m)], [.ref 165, .ref 165])) rfl ?_
  refine ze_gi pg_148 (r1.1 165 3) rfl rfl rfl rfl ?_
  refine xe_sn pg_148 2 (fr' := (126, [(7, .int 14), (6, .int (V.2.2.1 0 17)), (5, .int (V.2.2.1 0 16)), (4, .int (V.2.2.1 0 15)), (3, .int (V.2.2.1 0 14)), (2, .int (nI k)), (0, .ref 165), (1, .int m)], [.int ((r1.1 165 3) + 1), .ref 165])) rfl ?_
  refine ze_px pg_148 rfl rfl ⟨rfl, rfl⟩ (Or.inl rfl) (by decide) ?_
  refine xe_ni pg_148 k (k + 1) [(2, .int (nI (k + 1))), (7, .int 14), (6, .int (V.2.2.1 0 17)), (5, .int (V.2.2.1 0 16)), (4, .int (V.2.2.1 0 15)), (3, .int (V.2.2.1 0 14)), (0, .ref 165), (1, .int m)] rfl rfl rfl rfl (nI_add _ 1) ?_
  refine xe_sn pg_148 1 (fr' := (134, [(2, .int (nI (k + 1))), (7, .int 14), (6, .int (V.2.2.1 0 17)), (5, .int (V.2.2.1 0 16)), (4, .int (V.2.2.1 0 15)), (3, .int (V.2.2.1 0 14)), (0, .ref 165), (1, .int m)], [.int (V.2.2.1 0 15)])) rfl ?_
  by_cases h1 : (V.2.2.1 0 15) = 0
  · rw [if_pos h1] at hE
    refine xe_c1f pg_148 149 rfl rfl (fun z => z h1) ?_
    refine xe_sn pg_148 4 (fr' := (143, [(2, .int (nI (k + 1))), (7, .int 14), (6, .int (V.2.2.1 0 17)), (5, .int (V.2.2.1 0 16)), (4, .int (V.2.2.1 0 15)), (3, .int (V.2.2.1 0 14)), (0, .ref 165), (1, .int m)], [.int (V.2.2.1 0 17), .int (V.2.2.1 0 16), .int (V.2.2.1 0 14), .ref 165])) rfl ?_
    by_cases g2 : bnd (V.2.2.1 0 16) 4
    case neg => rw [if_neg g2] at hE; cases hE
    rw [if_pos g2] at hE
    have g2l := bnd_lt g2
    obtain ⟨r2, e2, hE⟩ := Option.bind_eq_some_iff.mp hE
    refine xe_cv pg_148 127 pg_127 [.int (V.2.2.1 0 14), .int (V.2.2.1 0 16), .int (V.2.2.1 0 17)] [] (none) rfl rfl rfl rfl ⟨Nat.le_of_ble_eq_true rfl, Nat.le_of_ble_eq_true rfl, Nat.le_of_ble_eq_true rfl⟩ ⟨rfl, rfl⟩ ⟨by decide, rfl, by decide⟩ (co_P (P := fun z => xc _ 127 [.ref 165, .int (V.2.2.1 0 14), .int z, .int (V.2.2.1 0 17)] _ _) (nI_bnd g2 (by omega)) (cg_toClient _ (f := (V.2.2.1 0 14)) (c := (V.2.2.1 0 16).toNatClampNeg) (cm := (V.2.2.1 0 17)) (bnd_lt g2) e2)) ?_
    refine xe_sn pg_148 1 (fr' := (160, [(2, .int (nI (k + 1))), (7, .int 14), (6, .int (V.2.2.1 0 17)), (5, .int (V.2.2.1 0 16)), (4, .int (V.2.2.1 0 15)), (3, .int (V.2.2.1 0 14)), (0, .ref 165), (1, .int m)], [])) rfl ?_
    refine xe_sn pg_148 1 (fr' := (21, [(2, .int (nI (k + 1))), (7, .int 14), (6, .int (V.2.2.1 0 17)), (5, .int (V.2.2.1 0 16)), (4, .int (V.2.2.1 0 15)), (3, .int (V.2.2.1 0 14)), (0, .ref 165), (1, .int m)], [])) rfl ?_
    cases hE
    exact hr _ _ _ _ _
  · rw [if_neg h1] at hE
    refine xe_c1t pg_148 149 rfl rfl h1 ?_
    refine xe_sn pg_148 5 (fr' := (157, [(2, .int (nI (k + 1))), (7, .int 14), (6, .int (V.2.2.1 0 17)), (5, .int (V.2.2.1 0 16)), (4, .int (V.2.2.1 0 15)), (3, .int (V.2.2.1 0 14)), (0, .ref 165), (1, .int m)], [.int (V.2.2.1 0 17), .int (V.2.2.1 0 16), .int (V.2.2.1 0 14), .int (V.2.2.1 0 15), .ref 165])) rfl ?_
    by_cases g3 : bnd ((V.2.2.1 0 15) - 1) 4
    case neg => rw [if_neg g3] at hE; cases hE
    rw [if_pos g3] at hE
    have g3l := bnd_lt g3
    by_cases g4 : bnd (V.2.2.1 0 16) 4
    case neg => rw [if_neg g4] at hE; cases hE
    rw [if_pos g4] at hE
    have g4l := bnd_lt g4
    obtain ⟨r3, e3, hE⟩ := Option.bind_eq_some_iff.mp hE
    refine xe_cv pg_148 138 pg_138 [.int (V.2.2.1 0 15), .int (V.2.2.1 0 14), .int (V.2.2.1 0 16), .int (V.2.2.1 0 17)] [] (none) rfl rfl rfl rfl ⟨Nat.le_of_ble_eq_true rfl, Nat.le_of_ble_eq_true rfl, Nat.le_of_ble_eq_true rfl⟩ ⟨rfl, rfl⟩ ⟨by decide, rfl, by decide⟩ (co_P (P := fun z => xc _ 138 [.ref 165, .int (V.2.2.1 0 15), .int (V.2.2.1 0 14), .int z, .int (V.2.2.1 0 17)] _ _) (nI_bnd g4 (by omega)) (co_P (P := fun z => xc _ 138 [.ref 165, .int z, .int (V.2.2.1 0 14), .int _, .int (V.2.2.1 0 17)] _ _) (nI_bnd1 g3 (by omega)) (cg_toRelay _ (i := ((V.2.2.1 0 15) - 1).toNatClampNeg) (f := (V.2.2.1 0 14)) (c := (V.2.2.1 0 16).toNatClampNeg) (cm := (V.2.2.1 0 17)) (bnd_lt g3) (bnd_lt g4) e3))) ?_
    refine xe_sn pg_148 1 (fr' := (21, [(2, .int (nI (k + 1))), (7, .int 14), (6, .int (V.2.2.1 0 17)), (5, .int (V.2.2.1 0 16)), (4, .int (V.2.2.1 0 15)), (3, .int (V.2.2.1 0 14)), (0, .ref 165), (1, .int m)], [])) rfl ?_
    cases hE
    exact hr _ _ _ _ _

-- (21, [(2, .int (nI (k + 1))), (7, .int 14), (6, .int (V.2.2.1 0 17)), (5, .int (V.2.2.1 0 16)), (4, .int (V.2.2.1 0 15)), (3, .int (V.2.2.1 0 14)), (0, .ref 165), (1, .int m)], [])

set_option maxRecDepth 100000 in
theorem cg_step1 (d : Nat) {w : xWd} {S : xSt} {V : xVt} {ρ : Nat → Nat → Int64} {k : Nat} {m : Int32} {v3 v4 v5 v6 v7 : Int32} {T : xVt} {r : xRs} (hE : g_step V = some T) (hr : ∀ v3 v4 v5 v6 v7, xe (d + 8) 148 (21, [(2, .int (nI (k + 1))), (7, .int v7), (6, .int v6), (5, .int v5), (4, .int v4), (3, .int v3), (0, .ref 165), (1, .int m)], []) (hv w S T ρ) r) : xe (d + 8) 148 (40, [(2, .int (nI k)), (7, .int v7), (6, .int v6), (5, .int v5), (4, .int v4), (3, .int v3), (0, .ref 165), (1, .int m)], []) (hv w S V ρ) r := by
  unfold g_step at hE
  refine xe_sn pg_148 3 (fr' := (45, [(2, .int (nI k)), (7, .int v7), (6, .int v6), (5, .int v5), (4, .int v4), (3, .int v3), (0, .ref 165), (1, .int m)], [.int 0, .ref 166])) rfl ?_
  refine ze_ic pg_148 0 0 (V.2.2.1 0 14) (j := 0) rfl ⟨by decide, by decide⟩ rfl (by omega) (by decide) rfl ?_
  refine xe_sn pg_148 4 (fr' := (52, [(3, .int (V.2.2.1 0 14)), (2, .int (nI k)), (7, .int v7), (6, .int v6), (5, .int v5), (4, .int v4), (0, .ref 165), (1, .int m)], [.int 1, .ref 166])) rfl ?_
  refine ze_ic pg_148 0 1 (V.2.2.1 0 15) (j := 1) rfl ⟨by decide, by decide⟩ rfl (by omega) (by decide) rfl ?_
  refine xe_sn pg_148 4 (fr' := (60, [(4, .int (V.2.2.1 0 15)), (3, .int (V.2.2.1 0 14)), (2, .int (nI k)), (7, .int v7), (6, .int v6), (5, .int v5), (0, .ref 165), (1, .int m)], [.int 2, .ref 166])) rfl ?_
  refine ze_ic pg_148 0 2 (V.2.2.1 0 16) (j := 2) rfl ⟨by decide, by decide⟩ rfl (by omega) (by decide) rfl ?_
  refine xe_sn pg_148 4 (fr' := (68, [(5, .int (V.2.2.1 0 16)), (4, .int (V.2.2.1 0 15)), (3, .int (V.2.2.1 0 14)), (2, .int (nI k)), (7, .int v7), (6, .int v6), (0, .ref 165), (1, .int m)], [.int 3, .ref 166])) rfl ?_
  refine ze_ic pg_148 0 3 (V.2.2.1 0 17) (j := 3) rfl ⟨by decide, by decide⟩ rfl (by omega) (by decide) rfl ?_
  refine xe_sn pg_148 10 (fr' := (88, [(7, .int 0), (6, .int (V.2.2.1 0 17)), (5, .int (V.2.2.1 0 16)), (4, .int (V.2.2.1 0 15)), (3, .int (V.2.2.1 0 14)), (2, .int (nI k)), (0, .ref 165), (1, .int m)], [.ref 165, .int 0, .ref 187])) rfl ?_
  refine xe_sn pg_148 4 (fr' := (95, [(7, .int 0), (6, .int (V.2.2.1 0 17)), (5, .int (V.2.2.1 0 16)), (4, .int (V.2.2.1 0 15)), (3, .int (V.2.2.1 0 14)), (2, .int (nI k)), (0, .ref 165), (1, .int m)], [.int 4, .ref 166, .int 0, .ref 187])) rfl ?_
  refine ze_ic pg_148 0 4 (V.2.2.1 0 0) (j := 4) rfl ⟨by decide, by decide⟩ rfl (by omega) (by decide) rfl ?_
  refine ze_sb pg_148 0 rfl (by decide) ⟨by decide, by decide⟩ rfl ?_
  refine xe_sn pg_148 2 (fr' := (74, [(7, .int 1), (6, .int (V.2.2.1 0 17)), (5, .int (V.2.2.1 0 16)), (4, .int (V.2.2.1 0 15)), (3, .int (V.2.2.1 0 14)), (2, .int (nI k)), (0, .ref 165), (1, .int m)], [])) rfl ?_
  refine xe_sn pg_148 10 (fr' := (94, [(7, .int 1), (6, .int (V.2.2.1 0 17)), (5, .int (V.2.2.1 0 16)), (4, .int (V.2.2.1 0 15)), (3, .int (V.2.2.1 0 14)), (2, .int (nI k)), (0, .ref 165), (1, .int m)], [.int 1, .int 4, .ref 166, .int 1, .ref 187])) rfl ?_
  refine xe_sn pg_148 1 (fr' := (95, [(7, .int 1), (6, .int (V.2.2.1 0 17)), (5, .int (V.2.2.1 0 16)), (4, .int (V.2.2.1 0 15)), (3, .int (V.2.2.1 0 14)), (2, .int (nI k)), (0, .ref 165), (1, .int m)], [.int 5, .ref 166, .int 1, .ref 187])) rfl ?_
  refine ze_ic pg_148 0 5 (V.2.2.1 0 1) (j := 5) rfl ⟨by decide, by decide⟩ rfl (by omega) (by decide) rfl ?_
  refine ze_sb pg_148 1 rfl (by decide) ⟨by decide, by decide⟩ rfl ?_
  refine xe_sn pg_148 2 (fr' := (74, [(7, .int 2), (6, .int (V.2.2.1 0 17)), (5, .int (V.2.2.1 0 16)), (4, .int (V.2.2.1 0 15)), (3, .int (V.2.2.1 0 14)), (2, .int (nI k)), (0, .ref 165), (1, .int m)], [])) rfl ?_
  refine xe_sn pg_148 10 (fr' := (94, [(7, .int 2), (6, .int (V.2.2.1 0 17)), (5, .int (V.2.2.1 0 16)), (4, .int (V.2.2.1 0 15)), (3, .int (V.2.2.1 0 14)), (2, .int (nI k)), (0, .ref 165), (1, .int m)], [.int 2, .int 4, .ref 166, .int 2, .ref 187])) rfl ?_
  refine xe_sn pg_148 1 (fr' := (95, [(7, .int 2), (6, .int (V.2.2.1 0 17)), (5, .int (V.2.2.1 0 16)), (4, .int (V.2.2.1 0 15)), (3, .int (V.2.2.1 0 14)), (2, .int (nI k)), (0, .ref 165), (1, .int m)], [.int 6, .ref 166, .int 2, .ref 187])) rfl ?_
  refine ze_ic pg_148 0 6 (V.2.2.1 0 2) (j := 6) rfl ⟨by decide, by decide⟩ rfl (by omega) (by decide) rfl ?_
  refine ze_sb pg_148 2 rfl (by decide) ⟨by decide, by decide⟩ rfl ?_
  refine xe_sn pg_148 2 (fr' := (74, [(7, .int 3), (6, .int (V.2.2.1 0 17)), (5, .int (V.2.2.1 0 16)), (4, .int (V.2.2.1 0 15)), (3, .int (V.2.2.1 0 14)), (2, .int (nI k)), (0, .ref 165), (1, .int m)], [])) rfl ?_
  refine xe_sn pg_148 10 (fr' := (94, [(7, .int 3), (6, .int (V.2.2.1 0 17)), (5, .int (V.2.2.1 0 16)), (4, .int (V.2.2.1 0 15)), (3, .int (V.2.2.1 0 14)), (2, .int (nI k)), (0, .ref 165), (1, .int m)], [.int 3, .int 4, .ref 166, .int 3, .ref 187])) rfl ?_
  refine xe_sn pg_148 1 (fr' := (95, [(7, .int 3), (6, .int (V.2.2.1 0 17)), (5, .int (V.2.2.1 0 16)), (4, .int (V.2.2.1 0 15)), (3, .int (V.2.2.1 0 14)), (2, .int (nI k)), (0, .ref 165), (1, .int m)], [.int 7, .ref 166, .int 3, .ref 187])) rfl ?_
  refine ze_ic pg_148 0 7 (V.2.2.1 0 3) (j := 7) rfl ⟨by decide, by decide⟩ rfl (by omega) (by decide) rfl ?_
  refine ze_sb pg_148 3 rfl (by decide) ⟨by decide, by decide⟩ rfl ?_
  refine xe_sn pg_148 2 (fr' := (74, [(7, .int 4), (6, .int (V.2.2.1 0 17)), (5, .int (V.2.2.1 0 16)), (4, .int (V.2.2.1 0 15)), (3, .int (V.2.2.1 0 14)), (2, .int (nI k)), (0, .ref 165), (1, .int m)], [])) rfl ?_
  refine xe_sn pg_148 10 (fr' := (94, [(7, .int 4), (6, .int (V.2.2.1 0 17)), (5, .int (V.2.2.1 0 16)), (4, .int (V.2.2.1 0 15)), (3, .int (V.2.2.1 0 14)), (2, .int (nI k)), (0, .ref 165), (1, .int m)], [.int 4, .int 4, .ref 166, .int 4, .ref 187])) rfl ?_
  refine xe_sn pg_148 1 (fr' := (95, [(7, .int 4), (6, .int (V.2.2.1 0 17)), (5, .int (V.2.2.1 0 16)), (4, .int (V.2.2.1 0 15)), (3, .int (V.2.2.1 0 14)), (2, .int (nI k)), (0, .ref 165), (1, .int m)], [.int 8, .ref 166, .int 4, .ref 187])) rfl ?_
  refine ze_ic pg_148 0 8 (V.2.2.1 0 4) (j := 8) rfl ⟨by decide, by decide⟩ rfl (by omega) (by decide) rfl ?_
  refine ze_sb pg_148 4 rfl (by decide) ⟨by decide, by decide⟩ rfl ?_
  refine xe_sn pg_148 2 (fr' := (74, [(7, .int 5), (6, .int (V.2.2.1 0 17)), (5, .int (V.2.2.1 0 16)), (4, .int (V.2.2.1 0 15)), (3, .int (V.2.2.1 0 14)), (2, .int (nI k)), (0, .ref 165), (1, .int m)], [])) rfl ?_
  refine xe_sn pg_148 10 (fr' := (94, [(7, .int 5), (6, .int (V.2.2.1 0 17)), (5, .int (V.2.2.1 0 16)), (4, .int (V.2.2.1 0 15)), (3, .int (V.2.2.1 0 14)), (2, .int (nI k)), (0, .ref 165), (1, .int m)], [.int 5, .int 4, .ref 166, .int 5, .ref 187])) rfl ?_
  refine xe_sn pg_148 1 (fr' := (95, [(7, .int 5), (6, .int (V.2.2.1 0 17)), (5, .int (V.2.2.1 0 16)), (4, .int (V.2.2.1 0 15)), (3, .int (V.2.2.1 0 14)), (2, .int (nI k)), (0, .ref 165), (1, .int m)], [.int 9, .ref 166, .int 5, .ref 187])) rfl ?_
  refine ze_ic pg_148 0 9 (V.2.2.1 0 5) (j := 9) rfl ⟨by decide, by decide⟩ rfl (by omega) (by decide) rfl ?_
  refine ze_sb pg_148 5 rfl (by decide) ⟨by decide, by decide⟩ rfl ?_
  refine xe_sn pg_148 2 (fr' := (74, [(7, .int 6), (6, .int (V.2.2.1 0 17)), (5, .int (V.2.2.1 0 16)), (4, .int (V.2.2.1 0 15)), (3, .int (V.2.2.1 0 14)), (2, .int (nI k)), (0, .ref 165), (1, .int m)], [])) rfl ?_
  refine xe_sn pg_148 10 (fr' := (94, [(7, .int 6), (6, .int (V.2.2.1 0 17)), (5, .int (V.2.2.1 0 16)), (4, .int (V.2.2.1 0 15)), (3, .int (V.2.2.1 0 14)), (2, .int (nI k)), (0, .ref 165), (1, .int m)], [.int 6, .int 4, .ref 166, .int 6, .ref 187])) rfl ?_
  refine xe_sn pg_148 1 (fr' := (95, [(7, .int 6), (6, .int (V.2.2.1 0 17)), (5, .int (V.2.2.1 0 16)), (4, .int (V.2.2.1 0 15)), (3, .int (V.2.2.1 0 14)), (2, .int (nI k)), (0, .ref 165), (1, .int m)], [.int 10, .ref 166, .int 6, .ref 187])) rfl ?_
  refine ze_ic pg_148 0 10 (V.2.2.1 0 6) (j := 10) rfl ⟨by decide, by decide⟩ rfl (by omega) (by decide) rfl ?_
  refine ze_sb pg_148 6 rfl (by decide) ⟨by decide, by decide⟩ rfl ?_
  refine xe_sn pg_148 2 (fr' := (74, [(7, .int 7), (6, .int (V.2.2.1 0 17)), (5, .int (V.2.2.1 0 16)), (4, .int (V.2.2.1 0 15)), (3, .int (V.2.2.1 0 14)), (2, .int (nI k)), (0, .ref 165), (1, .int m)], [])) rfl ?_
  refine xe_sn pg_148 10 (fr' := (94, [(7, .int 7), (6, .int (V.2.2.1 0 17)), (5, .int (V.2.2.1 0 16)), (4, .int (V.2.2.1 0 15)), (3, .int (V.2.2.1 0 14)), (2, .int (nI k)), (0, .ref 165), (1, .int m)], [.int 7, .int 4, .ref 166, .int 7, .ref 187])) rfl ?_
  refine xe_sn pg_148 1 (fr' := (95, [(7, .int 7), (6, .int (V.2.2.1 0 17)), (5, .int (V.2.2.1 0 16)), (4, .int (V.2.2.1 0 15)), (3, .int (V.2.2.1 0 14)), (2, .int (nI k)), (0, .ref 165), (1, .int m)], [.int 11, .ref 166, .int 7, .ref 187])) rfl ?_
  refine ze_ic pg_148 0 11 (V.2.2.1 0 7) (j := 11) rfl ⟨by decide, by decide⟩ rfl (by omega) (by decide) rfl ?_
  refine ze_sb pg_148 7 rfl (by decide) ⟨by decide, by decide⟩ rfl ?_
  refine xe_sn pg_148 2 (fr' := (74, [(7, .int 8), (6, .int (V.2.2.1 0 17)), (5, .int (V.2.2.1 0 16)), (4, .int (V.2.2.1 0 15)), (3, .int (V.2.2.1 0 14)), (2, .int (nI k)), (0, .ref 165), (1, .int m)], [])) rfl ?_
  refine xe_sn pg_148 10 (fr' := (94, [(7, .int 8), (6, .int (V.2.2.1 0 17)), (5, .int (V.2.2.1 0 16)), (4, .int (V.2.2.1 0 15)), (3, .int (V.2.2.1 0 14)), (2, .int (nI k)), (0, .ref 165), (1, .int m)], [.int 8, .int 4, .ref 166, .int 8, .ref 187])) rfl ?_
  refine xe_sn pg_148 1 (fr' := (95, [(7, .int 8), (6, .int (V.2.2.1 0 17)), (5, .int (V.2.2.1 0 16)), (4, .int (V.2.2.1 0 15)), (3, .int (V.2.2.1 0 14)), (2, .int (nI k)), (0, .ref 165), (1, .int m)], [.int 12, .ref 166, .int 8, .ref 187])) rfl ?_
  refine ze_ic pg_148 0 12 (V.2.2.1 0 8) (j := 12) rfl ⟨by decide, by decide⟩ rfl (by omega) (by decide) rfl ?_
  refine ze_sb pg_148 8 rfl (by decide) ⟨by decide, by decide⟩ rfl ?_
  refine xe_sn pg_148 2 (fr' := (74, [(7, .int 9), (6, .int (V.2.2.1 0 17)), (5, .int (V.2.2.1 0 16)), (4, .int (V.2.2.1 0 15)), (3, .int (V.2.2.1 0 14)), (2, .int (nI k)), (0, .ref 165), (1, .int m)], [])) rfl ?_
  refine xe_sn pg_148 10 (fr' := (94, [(7, .int 9), (6, .int (V.2.2.1 0 17)), (5, .int (V.2.2.1 0 16)), (4, .int (V.2.2.1 0 15)), (3, .int (V.2.2.1 0 14)), (2, .int (nI k)), (0, .ref 165), (1, .int m)], [.int 9, .int 4, .ref 166, .int 9, .ref 187])) rfl ?_
  refine xe_sn pg_148 1 (fr' := (95, [(7, .int 9), (6, .int (V.2.2.1 0 17)), (5, .int (V.2.2.1 0 16)), (4, .int (V.2.2.1 0 15)), (3, .int (V.2.2.1 0 14)), (2, .int (nI k)), (0, .ref 165), (1, .int m)], [.int 13, .ref 166, .int 9, .ref 187])) rfl ?_
  refine ze_ic pg_148 0 13 (V.2.2.1 0 9) (j := 13) rfl ⟨by decide, by decide⟩ rfl (by omega) (by decide) rfl ?_
  refine ze_sb pg_148 9 rfl (by decide) ⟨by decide, by decide⟩ rfl ?_
  refine xe_sn pg_148 2 (fr' := (74, [(7, .int 10), (6, .int (V.2.2.1 0 17)), (5, .int (V.2.2.1 0 16)), (4, .int (V.2.2.1 0 15)), (3, .int (V.2.2.1 0 14)), (2, .int (nI k)), (0, .ref 165), (1, .int m)], [])) rfl ?_
  refine xe_sn pg_148 10 (fr' := (94, [(7, .int 10), (6, .int (V.2.2.1 0 17)), (5, .int (V.2.2.1 0 16)), (4, .int (V.2.2.1 0 15)), (3, .int (V.2.2.1 0 14)), (2, .int (nI k)), (0, .ref 165), (1, .int m)], [.int 10, .int 4, .ref 166, .int 10, .ref 187])) rfl ?_
  refine xe_sn pg_148 1 (fr' := (95, [(7, .int 10), (6, .int (V.2.2.1 0 17)), (5, .int (V.2.2.1 0 16)), (4, .int (V.2.2.1 0 15)), (3, .int (V.2.2.1 0 14)), (2, .int (nI k)), (0, .ref 165), (1, .int m)], [.int 14, .ref 166, .int 10, .ref 187])) rfl ?_
  refine ze_ic pg_148 0 14 (V.2.2.1 0 10) (j := 14) rfl ⟨by decide, by decide⟩ rfl (by omega) (by decide) rfl ?_
  refine ze_sb pg_148 10 rfl (by decide) ⟨by decide, by decide⟩ rfl ?_
  refine xe_sn pg_148 2 (fr' := (74, [(7, .int 11), (6, .int (V.2.2.1 0 17)), (5, .int (V.2.2.1 0 16)), (4, .int (V.2.2.1 0 15)), (3, .int (V.2.2.1 0 14)), (2, .int (nI k)), (0, .ref 165), (1, .int m)], [])) rfl ?_
  refine xe_sn pg_148 10 (fr' := (94, [(7, .int 11), (6, .int (V.2.2.1 0 17)), (5, .int (V.2.2.1 0 16)), (4, .int (V.2.2.1 0 15)), (3, .int (V.2.2.1 0 14)), (2, .int (nI k)), (0, .ref 165), (1, .int m)], [.int 11, .int 4, .ref 166, .int 11, .ref 187])) rfl ?_
  refine xe_sn pg_148 1 (fr' := (95, [(7, .int 11), (6, .int (V.2.2.1 0 17)), (5, .int (V.2.2.1 0 16)), (4, .int (V.2.2.1 0 15)), (3, .int (V.2.2.1 0 14)), (2, .int (nI k)), (0, .ref 165), (1, .int m)], [.int 15, .ref 166, .int 11, .ref 187])) rfl ?_
  refine ze_ic pg_148 0 15 (V.2.2.1 0 11) (j := 15) rfl ⟨by decide, by decide⟩ rfl (by omega) (by decide) rfl ?_
  refine ze_sb pg_148 11 rfl (by decide) ⟨by decide, by decide⟩ rfl ?_
  refine xe_sn pg_148 2 (fr' := (74, [(7, .int 12), (6, .int (V.2.2.1 0 17)), (5, .int (V.2.2.1 0 16)), (4, .int (V.2.2.1 0 15)), (3, .int (V.2.2.1 0 14)), (2, .int (nI k)), (0, .ref 165), (1, .int m)], [])) rfl ?_
  refine xe_sn pg_148 10 (fr' := (94, [(7, .int 12), (6, .int (V.2.2.1 0 17)), (5, .int (V.2.2.1 0 16)), (4, .int (V.2.2.1 0 15)), (3, .int (V.2.2.1 0 14)), (2, .int (nI k)), (0, .ref 165), (1, .int m)], [.int 12, .int 4, .ref 166, .int 12, .ref 187])) rfl ?_
  refine xe_sn pg_148 1 (fr' := (95, [(7, .int 12), (6, .int (V.2.2.1 0 17)), (5, .int (V.2.2.1 0 16)), (4, .int (V.2.2.1 0 15)), (3, .int (V.2.2.1 0 14)), (2, .int (nI k)), (0, .ref 165), (1, .int m)], [.int 16, .ref 166, .int 12, .ref 187])) rfl ?_
  refine ze_ic pg_148 0 16 (V.2.2.1 0 12) (j := 16) rfl ⟨by decide, by decide⟩ rfl (by omega) (by decide) rfl ?_
  refine ze_sb pg_148 12 rfl (by decide) ⟨by decide, by decide⟩ rfl ?_
  refine xe_sn pg_148 2 (fr' := (74, [(7, .int 13), (6, .int (V.2.2.1 0 17)), (5, .int (V.2.2.1 0 16)), (4, .int (V.2.2.1 0 15)), (3, .int (V.2.2.1 0 14)), (2, .int (nI k)), (0, .ref 165), (1, .int m)], [])) rfl ?_
  refine xe_sn pg_148 10 (fr' := (94, [(7, .int 13), (6, .int (V.2.2.1 0 17)), (5, .int (V.2.2.1 0 16)), (4, .int (V.2.2.1 0 15)), (3, .int (V.2.2.1 0 14)), (2, .int (nI k)), (0, .ref 165), (1, .int m)], [.int 13, .int 4, .ref 166, .int 13, .ref 187])) rfl ?_
  refine xe_sn pg_148 1 (fr' := (95, [(7, .int 13), (6, .int (V.2.2.1 0 17)), (5, .int (V.2.2.1 0 16)), (4, .int (V.2.2.1 0 15)), (3, .int (V.2.2.1 0 14)), (2, .int (nI k)), (0, .ref 165), (1, .int m)], [.int 17, .ref 166, .int 13, .ref 187])) rfl ?_
  refine ze_ic pg_148 0 17 (V.2.2.1 0 13) (j := 17) rfl ⟨by decide, by decide⟩ rfl (by omega) (by decide) rfl ?_
  refine ze_sb pg_148 13 rfl (by decide) ⟨by decide, by decide⟩ rfl ?_
  refine xe_sn pg_148 2 (fr' := (74, [(7, .int 14), (6, .int (V.2.2.1 0 17)), (5, .int (V.2.2.1 0 16)), (4, .int (V.2.2.1 0 15)), (3, .int (V.2.2.1 0 14)), (2, .int (nI k)), (0, .ref 165), (1, .int m)], [])) rfl ?_
  refine xe_sn pg_148 7 (fr' := (110, [(7, .int 14), (6, .int (V.2.2.1 0 17)), (5, .int (V.2.2.1 0 16)), (4, .int (V.2.2.1 0 15)), (3, .int (V.2.2.1 0 14)), (2, .int (nI k)), (0, .ref 165), (1, .int m)], [.int 18, .ref 166, .ref 165])) rfl ?_
  refine ze_ic pg_148 0 18 (V.2.2.1 0 18) (j := 18) rfl ⟨by decide, by decide⟩ rfl (by omega) (by decide) rfl ?_
  refine ze_pn pg_148 rfl rfl ⟨rfl, rfl⟩ (Or.inl rfl) (by decide) ?_
  refine xe_sn pg_148 2 (fr' := (116, [(7, .int 14), (6, .int (V.2.2.1 0 17)), (5, .int (V.2.2.1 0 16)), (4, .int (V.2.2.1 0 15)), (3, .int (V.2.2.1 0 14)), (2, .int (nI k)), (0, .ref 165), (1, .int m)], [.int 0, .ref 165])) rfl ?_
  obtain ⟨r1, e1, hE⟩ := Option.bind_eq_some_iff.mp hE
  refine xe_cv pg_148 119 pg_119 [.int 0] [] (none) rfl rfl rfl rfl ⟨Nat.le_of_ble_eq_true rfl, Nat.le_of_ble_eq_true rfl, Nat.le_of_ble_eq_true rfl⟩ ⟨rfl, rfl⟩ ⟨by decide, rfl, by decide⟩ (cg_removeO _ (i := 0)  e1) ?_
  refine xe_sn pg_148 2 (fr' := (121, [(7, .int 14), (6, .int (V.2.2.1 0 17)), (5, .int (V.2.2.1 0 16)), (4, .int (V.2.2.1 0 15)), (3, .int (V.2.2.1 0 14)), (2, .int (nI k)), (0, .ref 165), (1, .int m)], [.ref 165, .ref 165])) rfl ?_
  refine ze_gi pg_148 (r1.1 165 3) rfl rfl rfl rfl ?_
  refine xe_sn pg_148 2 (fr' := (126, [(7, .int 14), (6, .int (V.2.2.1 0 17)), (5, .int (V.2.2.1 0 16)), (4, .int (V.2.2.1 0 15)), (3, .int (V.2.2.1 0 14)), (2, .int (nI k)), (0, .ref 165), (1, .int m)], [.int ((r1.1 165 3) + 1), .ref 165])) rfl ?_
  refine ze_px pg_148 rfl rfl ⟨rfl, rfl⟩ (Or.inl rfl) (by decide) ?_
  refine xe_ni pg_148 k (k + 1) [(2, .int (nI (k + 1))), (7, .int 14), (6, .int (V.2.2.1 0 17)), (5, .int (V.2.2.1 0 16)), (4, .int (V.2.2.1 0 15)), (3, .int (V.2.2.1 0 14)), (0, .ref 165), (1, .int m)] rfl rfl rfl rfl (nI_add _ 1) ?_
  refine xe_sn pg_148 1 (fr' := (134, [(2, .int (nI (k + 1))), (7, .int 14), (6, .int (V.2.2.1 0 17)), (5, .int (V.2.2.1 0 16)), (4, .int (V.2.2.1 0 15)), (3, .int (V.2.2.1 0 14)), (0, .ref 165), (1, .int m)], [.int (V.2.2.1 0 15)])) rfl ?_
  by_cases h1 : (V.2.2.1 0 15) = 0
  · rw [if_pos h1] at hE
    refine xe_c1f pg_148 149 rfl rfl (fun z => z h1) ?_
    refine xe_sn pg_148 4 (fr' := (143, [(2, .int (nI (k + 1))), (7, .int 14), (6, .int (V.2.2.1 0 17)), (5, .int (V.2.2.1 0 16)), (4, .int (V.2.2.1 0 15)), (3, .int (V.2.2.1 0 14)), (0, .ref 165), (1, .int m)], [.int (V.2.2.1 0 17), .int (V.2.2.1 0 16), .int (V.2.2.1 0 14), .ref 165])) rfl ?_
    by_cases g2 : bnd (V.2.2.1 0 16) 4
    case neg => rw [if_neg g2] at hE; cases hE
    rw [if_pos g2] at hE
    have g2l := bnd_lt g2
    obtain ⟨r2, e2, hE⟩ := Option.bind_eq_some_iff.mp hE
    refine xe_cv pg_148 127 pg_127 [.int (V.2.2.1 0 14), .int (V.2.2.1 0 16), .int (V.2.2.1 0 17)] [] (none) rfl rfl rfl rfl ⟨Nat.le_of_ble_eq_true rfl, Nat.le_of_ble_eq_true rfl, Nat.le_of_ble_eq_true rfl⟩ ⟨rfl, rfl⟩ ⟨by decide, rfl, by decide⟩ (co_P (P := fun z => xc _ 127 [.ref 165, .int (V.2.2.1 0 14), .int z, .int (V.2.2.1 0 17)] _ _) (nI_bnd g2 (by omega)) (cg_toClient _ (f := (V.2.2.1 0 14)) (c := (V.2.2.1 0 16).toNatClampNeg) (cm := (V.2.2.1 0 17)) (bnd_lt g2) e2)) ?_
    refine xe_sn pg_148 1 (fr' := (160, [(2, .int (nI (k + 1))), (7, .int 14), (6, .int (V.2.2.1 0 17)), (5, .int (V.2.2.1 0 16)), (4, .int (V.2.2.1 0 15)), (3, .int (V.2.2.1 0 14)), (0, .ref 165), (1, .int m)], [])) rfl ?_
    refine xe_sn pg_148 1 (fr' := (21, [(2, .int (nI (k + 1))), (7, .int 14), (6, .int (V.2.2.1 0 17)), (5, .int (V.2.2.1 0 16)), (4, .int (V.2.2.1 0 15)), (3, .int (V.2.2.1 0 14)), (0, .ref 165), (1, .int m)], [])) rfl ?_
    cases hE
    exact hr _ _ _ _ _
  · rw [if_neg h1] at hE
    refine xe_c1t pg_148 149 rfl rfl h1 ?_
    refine xe_sn pg_148 5 (fr' := (157, [(2, .int (nI (k + 1))), (7, .int 14), (6, .int (V.2.2.1 0 17)), (5, .int (V.2.2.1 0 16)), (4, .int (V.2.2.1 0 15)), (3, .int (V.2.2.1 0 14)), (0, .ref 165), (1, .int m)], [.int (V.2.2.1 0 17), .int (V.2.2.1 0 16), .int (V.2.2.1 0 14), .int (V.2.2.1 0 15), .ref 165])) rfl ?_
    by_cases g3 : bnd ((V.2.2.1 0 15) - 1) 4
    case neg => rw [if_neg g3] at hE; cases hE
    rw [if_pos g3] at hE
    have g3l := bnd_lt g3
    by_cases g4 : bnd (V.2.2.1 0 16) 4
    case neg => rw [if_neg g4] at hE; cases hE
    rw [if_pos g4] at hE
    have g4l := bnd_lt g4
    obtain ⟨r3, e3, hE⟩ := Option.bind_eq_some_iff.mp hE
    refine xe_cv pg_148 138 pg_138 [.int (V.2.2.1 0 15), .int (V.2.2.1 0 14), .int (V.2.2.1 0 16), .int (V.2.2.1 0 17)] [] (none) rfl rfl rfl rfl ⟨Nat.le_of_ble_eq_true rfl, Nat.le_of_ble_eq_true rfl, Nat.le_of_ble_eq_true rfl⟩ ⟨rfl, rfl⟩ ⟨by decide, rfl, by decide⟩ (co_P (P := fun z => xc _ 138 [.ref 165, .int (V.2.2.1 0 15), .int (V.2.2.1 0 14), .int z, .int (V.2.2.1 0 17)] _ _) (nI_bnd g4 (by omega)) (co_P (P := fun z => xc _ 138 [.ref 165, .int z, .int (V.2.2.1 0 14), .int _, .int (V.2.2.1 0 17)] _ _) (nI_bnd1 g3 (by omega)) (cg_toRelay _ (i := ((V.2.2.1 0 15) - 1).toNatClampNeg) (f := (V.2.2.1 0 14)) (c := (V.2.2.1 0 16).toNatClampNeg) (cm := (V.2.2.1 0 17)) (bnd_lt g3) (bnd_lt g4) e3))) ?_
    refine xe_sn pg_148 1 (fr' := (21, [(2, .int (nI (k + 1))), (7, .int 14), (6, .int (V.2.2.1 0 17)), (5, .int (V.2.2.1 0 16)), (4, .int (V.2.2.1 0 15)), (3, .int (V.2.2.1 0 14)), (0, .ref 165), (1, .int m)], [])) rfl ?_
    cases hE
    exact hr _ _ _ _ _

