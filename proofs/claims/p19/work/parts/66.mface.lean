/-! the reference's face -/
theorem co_P {P : Int32 → Prop} {x y : Int32} (h : x = y) (k : P y) : P x := by
  rw [h]
  exact k
theorem nI_bnd1 {x : Int32} {n : Nat} (h : bnd (x - 1) n) (hn : n ≤ 65536) : x = nI ((x - 1).toNatClampNeg + 1) := by
  rw [← nI_1, ← nI_bnd h hn]
  exact (Int32.sub_add_cancel _ _).symm
theorem vbs_self (V : xVt) : vbs V V.2.2.2 = V := rfl
set_option maxRecDepth 100000 in
theorem lp_msend (d : Nat) {w : xWd} {S : xSt} {V : xVt} {ρ : Nat → Nat → Int64} {ci sr t v : Int32} {m : Nat} (hm : m ≤ 7) {r : xRs} (hr : xe d 143 (161, [(6, .int (nI m)), (5, .int t), (0, .ref 165), (1, .int ci), (2, .int sr), (3, .int (nI m)), (4, .int v)], []) (hv w S (vbs V (sfill V.2.2.2 v m)) ρ) r) : ∀ j n, n + j = m → xe d 143 (130, [(6, .int (nI n)), (5, .int t), (0, .ref 165), (1, .int ci), (2, .int sr), (3, .int (nI m)), (4, .int v)], []) (hv w S (vbs V (sfill V.2.2.2 v n)) ρ) r := by
  intro j
  induction j with
  | zero =>
    intro n hn
    rw [show n = m by omega]
    refine xe_sn pg_143 2 (fr' := (133, [(6, .int (nI m)), (5, .int t), (0, .ref 165), (1, .int ci), (2, .int sr), (3, .int (nI m)), (4, .int v)], [.int (nI m), .int (nI m)])) rfl ?_
    refine xe_c2t pg_143 161 rfl rfl (nq_ge m m (by omega) (by omega) (by omega)) ?_
    exact hr
  | succ j ih =>
    intro n hn
    refine xe_sn pg_143 2 (fr' := (133, [(6, .int (nI n)), (5, .int t), (0, .ref 165), (1, .int ci), (2, .int sr), (3, .int (nI m)), (4, .int v)], [.int (nI m), .int (nI n)])) rfl ?_
    refine xe_c2f pg_143 161 rfl rfl (nq_gen n m (by omega) (by omega) (by omega)) ?_
    refine xe_sn pg_143 4 (fr' := (144, [(6, .int (nI n)), (5, .int t), (0, .ref 165), (1, .int ci), (2, .int sr), (3, .int (nI m)), (4, .int v)], [.int (nI n), .int 7, .ref 187])) rfl ?_
    refine xe_na pg_143 7 n (n + 7) rfl (by omega) ?_
    refine xe_sn pg_143 5 (fr' := (154, [(6, .int (nI n)), (5, .int t), (0, .ref 165), (1, .int ci), (2, .int sr), (3, .int (nI m)), (4, .int v)], [.int ((v + (nI n)) &&& 255), .int (nI (n + 7)), .ref 187])) rfl ?_
    refine ze_sb pg_143 (n + 7) rfl (by omega) (bn (by omega) (by decide)) (bc (n := 14) (by omega) (by decide)) ?_
    refine xe_ni pg_143 n (n + 1) [(6, .int (nI (n + 1))), (5, .int t), (0, .ref 165), (1, .int ci), (2, .int sr), (3, .int (nI m)), (4, .int v)] rfl rfl rfl rfl (nI_add _ 1) ?_
    refine xe_sn pg_143 1 (fr' := (130, [(6, .int (nI (n + 1))), (5, .int t), (0, .ref 165), (1, .int ci), (2, .int sr), (3, .int (nI m)), (4, .int v)], [])) rfl ?_
    rw [show vb (vbs V (sfill V.2.2.2 v n)) (n + 7) ((v + nI n) &&& 255) = vbs V (sfill V.2.2.2 v (n + 1)) from congrArg (vbs V) (sfill_s V.2.2.2 v n)]
    exact ih (n + 1) (by omega)

def g_thrown (V : xVt) : Int32 := (V.2.1 165 0)

def g_out (V : xVt) (gd : Int32) : Int32 × xVt := if gd = 0 then (1, (vn V 165 0 1)) else (0, (vn V 165 0 0))
set_option maxRecDepth 100000 in
theorem cg_out (d : Nat) {w : xWd} {S : xSt} {V : xVt} {ρ : Nat → Nat → Int64} {gd : Int32} (hgd : gd = 0 ∨ gd = 1) {r : Int32 × xVt} (hE : (g_out V gd) = r) : xc (d) 151 [.ref 165, .int gd] (hv w S V ρ) (.inl (some (.int r.1)), hv w S r.2 ρ) := by
  unfold g_out at hE
  refine xe_sn pg_151 2 (fr' := (2, [(0, .ref 165), (1, .int gd)], [.int gd, .ref 165])) rfl ?_
  by_cases h1 : gd = 0
  · rw [if_pos h1] at hE
    refine xe_c1t pg_151 9 rfl rfl h1 ?_
    refine xe_sn pg_151 1 (fr' := (10, [(0, .ref 165), (1, .int gd)], [.int 1, .ref 165])) rfl ?_
    refine ze_pn pg_151 rfl rfl ⟨rfl, rfl⟩ (Or.inl rfl) (by decide) ?_
    refine xe_sn pg_151 1 (fr' := (14, [(0, .ref 165), (1, .int gd)], [.int gd])) rfl ?_
    refine xe_c1f pg_151 21 rfl rfl (fun z => z h1) ?_
    refine xe_sn pg_151 2 (fr' := (22, [(0, .ref 165), (1, .int gd)], [.int 1])) rfl ?_
    subst hE
    exact xe_end pg_151 rfl
  · rw [if_neg h1] at hE
    refine xe_c1f pg_151 9 rfl rfl h1 ?_
    refine xe_sn pg_151 2 (fr' := (10, [(0, .ref 165), (1, .int gd)], [.int 0, .ref 165])) rfl ?_
    refine ze_pn pg_151 rfl rfl ⟨rfl, rfl⟩ (Or.inl rfl) (by decide) ?_
    refine xe_sn pg_151 1 (fr' := (14, [(0, .ref 165), (1, .int gd)], [.int gd])) rfl ?_
    refine xe_c1t pg_151 21 rfl rfl h1 ?_
    refine xe_sn pg_151 1 (fr' := (22, [(0, .ref 165), (1, .int gd)], [.int 0])) rfl ?_
    subst hE
    exact xe_end pg_151 rfl
theorem bg_out {V : xVt} {gd : Int32} (hgd : gd = 0 ∨ gd = 1) {r : Int32 × xVt} (hE : (g_out V gd) = r) : r.1 = 0 ∨ r.1 = 1 := by
  unfold g_out at hE
  by_cases h1 : gd = 0
  · rw [if_pos h1] at hE
    subst hE
    exact Or.inr rfl
  · rw [if_neg h1] at hE
    subst hE
    exact Or.inl rfl

set_option maxRecDepth 100000 in
theorem cg_out0 (d : Nat) {w : xWd} {S : xSt} {V : xVt} {ρ : Nat → Nat → Int64} : xc d 151 [.ref 165, .int 0] (hv w S V ρ) (.inl (some (.int 1)), hv w S (vn V 165 0 1) ρ) := by
  refine xe_sn pg_151 4 (fr' := (10, [(0, .ref 165), (1, .int 0)], [.int 1, .ref 165])) rfl ?_
  refine ze_pn pg_151 rfl rfl ⟨rfl, rfl⟩ (Or.inl rfl) (by decide) ?_
  refine xe_sn pg_151 4 (fr' := (22, [(0, .ref 165), (1, .int 0)], [.int 1])) rfl ?_
  exact xe_end pg_151 rfl

set_option maxRecDepth 100000 in
theorem cg_out1 (d : Nat) {w : xWd} {S : xSt} {V : xVt} {ρ : Nat → Nat → Int64} : xc d 151 [.ref 165, .int 1] (hv w S V ρ) (.inl (some (.int 0)), hv w S (vn V 165 0 0) ρ) := by
  refine xe_sn pg_151 5 (fr' := (10, [(0, .ref 165), (1, .int 1)], [.int 0, .ref 165])) rfl ?_
  refine ze_pn pg_151 rfl rfl ⟨rfl, rfl⟩ (Or.inl rfl) (by decide) ?_
  refine xe_sn pg_151 3 (fr' := (22, [(0, .ref 165), (1, .int 1)], [.int 0])) rfl ?_
  exact xe_end pg_151 rfl

def g_readies (V : xVt) : Int32 := if (V.1 167 0) = 2 then (if (V.1 167 1) = 2 then (if (V.1 167 2) = 2 then (if (V.1 167 3) = 2 then 4 else 3) else (if (V.1 167 3) = 2 then 3 else 2)) else (if (V.1 167 2) = 2 then (if (V.1 167 3) = 2 then 3 else 2) else (if (V.1 167 3) = 2 then 2 else 1))) else (if (V.1 167 1) = 2 then (if (V.1 167 2) = 2 then (if (V.1 167 3) = 2 then 3 else 2) else (if (V.1 167 3) = 2 then 2 else 1)) else (if (V.1 167 2) = 2 then (if (V.1 167 3) = 2 then 2 else 1) else (if (V.1 167 3) = 2 then 1 else 0)))
set_option maxRecDepth 100000 in
theorem cg_readies (d : Nat) {w : xWd} {S : xSt} {V : xVt} {ρ : Nat → Nat → Int64} {r : Int32} (hE : (g_readies V) = r) : xc (d) 157 [.ref 165] (hv w S V ρ) (.inl (some (.int r)), hv w S V ρ) := by
  unfold g_readies at hE
  refine xe_sn pg_157 10 (fr' := (14, [(2, .int 0), (1, .int 0), (0, .ref 165)], [.int 0, .ref 167])) rfl ?_
  refine ze_il pg_157 0 (V.1 167 0) rfl ⟨by decide, by decide⟩ rfl ⟨by decide, by decide⟩ rfl rfl ?_
  refine xe_sn pg_157 1 (fr' := (16, [(2, .int 0), (1, .int 0), (0, .ref 165)], [.int 2, .int (V.1 167 0)])) rfl ?_
  by_cases h1 : (V.1 167 0) = 2
  · rw [if_pos h1] at hE
    refine xe_c2f pg_157 25 rfl rfl (fun z => z h1) ?_
    refine xe_sn pg_157 4 (fr' := (26, [(2, .int 0), (1, .int 0), (0, .ref 165)], [.int 1])) rfl ?_
    refine xe_sn pg_157 3 (fr' := (4, [(2, .int 1), (1, .int 1), (0, .ref 165)], [])) rfl ?_
    refine xe_sn pg_157 6 (fr' := (14, [(2, .int 1), (1, .int 1), (0, .ref 165)], [.int 1, .ref 167])) rfl ?_
    refine ze_il pg_157 1 (V.1 167 1) rfl ⟨by decide, by decide⟩ rfl ⟨by decide, by decide⟩ rfl rfl ?_
    refine xe_sn pg_157 1 (fr' := (16, [(2, .int 1), (1, .int 1), (0, .ref 165)], [.int 2, .int (V.1 167 1)])) rfl ?_
    by_cases h2 : (V.1 167 1) = 2
    · rw [if_pos h2] at hE
      refine xe_c2f pg_157 25 rfl rfl (fun z => z h2) ?_
      refine xe_sn pg_157 4 (fr' := (26, [(2, .int 1), (1, .int 1), (0, .ref 165)], [.int 2])) rfl ?_
      refine xe_sn pg_157 3 (fr' := (4, [(2, .int 2), (1, .int 2), (0, .ref 165)], [])) rfl ?_
      refine xe_sn pg_157 6 (fr' := (14, [(2, .int 2), (1, .int 2), (0, .ref 165)], [.int 2, .ref 167])) rfl ?_
      refine ze_il pg_157 2 (V.1 167 2) rfl ⟨by decide, by decide⟩ rfl ⟨by decide, by decide⟩ rfl rfl ?_
      refine xe_sn pg_157 1 (fr' := (16, [(2, .int 2), (1, .int 2), (0, .ref 165)], [.int 2, .int (V.1 167 2)])) rfl ?_
      by_cases h3 : (V.1 167 2) = 2
      · rw [if_pos h3] at hE
        refine xe_c2f pg_157 25 rfl rfl (fun z => z h3) ?_
        refine xe_sn pg_157 4 (fr' := (26, [(2, .int 2), (1, .int 2), (0, .ref 165)], [.int 3])) rfl ?_
        refine xe_sn pg_157 3 (fr' := (4, [(2, .int 3), (1, .int 3), (0, .ref 165)], [])) rfl ?_
        refine xe_sn pg_157 6 (fr' := (14, [(2, .int 3), (1, .int 3), (0, .ref 165)], [.int 3, .ref 167])) rfl ?_
        refine ze_il pg_157 3 (V.1 167 3) rfl ⟨by decide, by decide⟩ rfl ⟨by decide, by decide⟩ rfl rfl ?_
        refine xe_sn pg_157 1 (fr' := (16, [(2, .int 3), (1, .int 3), (0, .ref 165)], [.int 2, .int (V.1 167 3)])) rfl ?_
        by_cases h4 : (V.1 167 3) = 2
        · rw [if_pos h4] at hE
          refine xe_c2f pg_157 25 rfl rfl (fun z => z h4) ?_
          refine xe_sn pg_157 4 (fr' := (26, [(2, .int 3), (1, .int 3), (0, .ref 165)], [.int 4])) rfl ?_
          refine xe_sn pg_157 3 (fr' := (4, [(2, .int 4), (1, .int 4), (0, .ref 165)], [])) rfl ?_
          refine xe_sn pg_157 4 (fr' := (34, [(2, .int 4), (1, .int 4), (0, .ref 165)], [.int 4])) rfl ?_
          subst hE
          exact xe_end pg_157 rfl
        · rw [if_neg h4] at hE
          refine xe_c2t pg_157 25 rfl rfl h4 ?_
          refine xe_sn pg_157 4 (fr' := (4, [(2, .int 4), (1, .int 3), (0, .ref 165)], [])) rfl ?_
          refine xe_sn pg_157 4 (fr' := (34, [(2, .int 4), (1, .int 3), (0, .ref 165)], [.int 3])) rfl ?_
          subst hE
          exact xe_end pg_157 rfl
      · rw [if_neg h3] at hE
        refine xe_c2t pg_157 25 rfl rfl h3 ?_
        refine xe_sn pg_157 4 (fr' := (4, [(2, .int 3), (1, .int 2), (0, .ref 165)], [])) rfl ?_
        refine xe_sn pg_157 6 (fr' := (14, [(2, .int 3), (1, .int 2), (0, .ref 165)], [.int 3, .ref 167])) rfl ?_
        refine ze_il pg_157 3 (V.1 167 3) rfl ⟨by decide, by decide⟩ rfl ⟨by decide, by decide⟩ rfl rfl ?_
        refine xe_sn pg_157 1 (fr' := (16, [(2, .int 3), (1, .int 2), (0, .ref 165)], [.int 2, .int (V.1 167 3)])) rfl ?_
        by_cases h5 : (V.1 167 3) = 2
        · rw [if_pos h5] at hE
          refine xe_c2f pg_157 25 rfl rfl (fun z => z h5) ?_
          refine xe_sn pg_157 4 (fr' := (26, [(2, .int 3), (1, .int 2), (0, .ref 165)], [.int 3])) rfl ?_
          refine xe_sn pg_157 3 (fr' := (4, [(2, .int 4), (1, .int 3), (0, .ref 165)], [])) rfl ?_
          refine xe_sn pg_157 4 (fr' := (34, [(2, .int 4), (1, .int 3), (0, .ref 165)], [.int 3])) rfl ?_
          subst hE
          exact xe_end pg_157 rfl
        · rw [if_neg h5] at hE
          refine xe_c2t pg_157 25 rfl rfl h5 ?_
          refine xe_sn pg_157 4 (fr' := (4, [(2, .int 4), (1, .int 2), (0, .ref 165)], [])) rfl ?_
          refine xe_sn pg_157 4 (fr' := (34, [(2, .int 4), (1, .int 2), (0, .ref 165)], [.int 2])) rfl ?_
          subst hE
          exact xe_end pg_157 rfl
    · rw [if_neg h2] at hE
      refine xe_c2t pg_157 25 rfl rfl h2 ?_
      refine xe_sn pg_157 4 (fr' := (4, [(2, .int 2), (1, .int 1), (0, .ref 165)], [])) rfl ?_
      refine xe_sn pg_157 6 (fr' := (14, [(2, .int 2), (1, .int 1), (0, .ref 165)], [.int 2, .ref 167])) rfl ?_
      refine ze_il pg_157 2 (V.1 167 2) rfl ⟨by decide, by decide⟩ rfl ⟨by decide, by decide⟩ rfl rfl ?_
      refine xe_sn pg_157 1 (fr' := (16, [(2, .int 2), (1, .int 1), (0, .ref 165)], [.int 2, .int (V.1 167 2)])) rfl ?_
      by_cases h6 : (V.1 167 2) = 2
      · rw [if_pos h6] at hE
        refine xe_c2f pg_157 25 rfl rfl (fun z => z h6) ?_
        refine xe_sn pg_157 4 (fr' := (26, [(2, .int 2), (1, .int 1), (0, .ref 165)], [.int 2])) rfl ?_
        refine xe_sn pg_157 3 (fr' := (4, [(2, .int 3), (1, .int 2), (0, .ref 165)], [])) rfl ?_
        refine xe_sn pg_157 6 (fr' := (14, [(2, .int 3), (1, .int 2), (0, .ref 165)], [.int 3, .ref 167])) rfl ?_
        refine ze_il pg_157 3 (V.1 167 3) rfl ⟨by decide, by decide⟩ rfl ⟨by decide, by decide⟩ rfl rfl ?_
        refine xe_sn pg_157 1 (fr' := (16, [(2, .int 3), (1, .int 2), (0, .ref 165)], [.int 2, .int (V.1 167 3)])) rfl ?_
        by_cases h7 : (V.1 167 3) = 2
        · rw [if_pos h7] at hE
          refine xe_c2f pg_157 25 rfl rfl (fun z => z h7) ?_
          refine xe_sn pg_157 4 (fr' := (26, [(2, .int 3), (1, .int 2), (0, .ref 165)], [.int 3])) rfl ?_
          refine xe_sn pg_157 3 (fr' := (4, [(2, .int 4), (1, .int 3), (0, .ref 165)], [])) rfl ?_
          refine xe_sn pg_157 4 (fr' := (34, [(2, .int 4), (1, .int 3), (0, .ref 165)], [.int 3])) rfl ?_
          subst hE
          exact xe_end pg_157 rfl
        · rw [if_neg h7] at hE
          refine xe_c2t pg_157 25 rfl rfl h7 ?_
          refine xe_sn pg_157 4 (fr' := (4, [(2, .int 4), (1, .int 2), (0, .ref 165)], [])) rfl ?_
          refine xe_sn pg_157 4 (fr' := (34, [(2, .int 4), (1, .int 2), (0, .ref 165)], [.int 2])) rfl ?_
          subst hE
          exact xe_end pg_157 rfl
      · rw [if_neg h6] at hE
        refine xe_c2t pg_157 25 rfl rfl h6 ?_
        refine xe_sn pg_157 4 (fr' := (4, [(2, .int 3), (1, .int 1), (0, .ref 165)], [])) rfl ?_
        refine xe_sn pg_157 6 (fr' := (14, [(2, .int 3), (1, .int 1), (0, .ref 165)], [.int 3, .ref 167])) rfl ?_
        refine ze_il pg_157 3 (V.1 167 3) rfl ⟨by decide, by decide⟩ rfl ⟨by decide, by decide⟩ rfl rfl ?_
        refine xe_sn pg_157 1 (fr' := (16, [(2, .int 3), (1, .int 1), (0, .ref 165)], [.int 2, .int (V.1 167 3)])) rfl ?_
        by_cases h8 : (V.1 167 3) = 2
        · rw [if_pos h8] at hE
          refine xe_c2f pg_157 25 rfl rfl (fun z => z h8) ?_
          refine xe_sn pg_157 4 (fr' := (26, [(2, .int 3), (1, .int 1), (0, .ref 165)], [.int 2])) rfl ?_
          refine xe_sn pg_157 3 (fr' := (4, [(2, .int 4), (1, .int 2), (0, .ref 165)], [])) rfl ?_
          refine xe_sn pg_157 4 (fr' := (34, [(2, .int 4), (1, .int 2), (0, .ref 165)], [.int 2])) rfl ?_
          subst hE
          exact xe_end pg_157 rfl
        · rw [if_neg h8] at hE
          refine xe_c2t pg_157 25 rfl rfl h8 ?_
          refine xe_sn pg_157 4 (fr' := (4, [(2, .int 4), (1, .int 1), (0, .ref 165)], [])) rfl ?_
          refine xe_sn pg_157 4 (fr' := (34, [(2, .int 4), (1, .int 1), (0, .ref 165)], [.int 1])) rfl ?_
          subst hE
          exact xe_end pg_157 rfl
  · rw [if_neg h1] at hE
    refine xe_c2t pg_157 25 rfl rfl h1 ?_
    refine xe_sn pg_157 4 (fr' := (4, [(2, .int 1), (1, .int 0), (0, .ref 165)], [])) rfl ?_
    refine xe_sn pg_157 6 (fr' := (14, [(2, .int 1), (1, .int 0), (0, .ref 165)], [.int 1, .ref 167])) rfl ?_
    refine ze_il pg_157 1 (V.1 167 1) rfl ⟨by decide, by decide⟩ rfl ⟨by decide, by decide⟩ rfl rfl ?_
    refine xe_sn pg_157 1 (fr' := (16, [(2, .int 1), (1, .int 0), (0, .ref 165)], [.int 2, .int (V.1 167 1)])) rfl ?_
    by_cases h9 : (V.1 167 1) = 2
    · rw [if_pos h9] at hE
      refine xe_c2f pg_157 25 rfl rfl (fun z => z h9) ?_
      refine xe_sn pg_157 4 (fr' := (26, [(2, .int 1), (1, .int 0), (0, .ref 165)], [.int 1])) rfl ?_
      refine xe_sn pg_157 3 (fr' := (4, [(2, .int 2), (1, .int 1), (0, .ref 165)], [])) rfl ?_
      refine xe_sn pg_157 6 (fr' := (14, [(2, .int 2), (1, .int 1), (0, .ref 165)], [.int 2, .ref 167])) rfl ?_
      refine ze_il pg_157 2 (V.1 167 2) rfl ⟨by decide, by decide⟩ rfl ⟨by decide, by decide⟩ rfl rfl ?_
      refine xe_sn pg_157 1 (fr' := (16, [(2, .int 2), (1, .int 1), (0, .ref 165)], [.int 2, .int (V.1 167 2)])) rfl ?_
      by_cases h10 : (V.1 167 2) = 2
      · rw [if_pos h10] at hE
        refine xe_c2f pg_157 25 rfl rfl (fun z => z h10) ?_
        refine xe_sn pg_157 4 (fr' := (26, [(2, .int 2), (1, .int 1), (0, .ref 165)], [.int 2])) rfl ?_
        refine xe_sn pg_157 3 (fr' := (4, [(2, .int 3), (1, .int 2), (0, .ref 165)], [])) rfl ?_
        refine xe_sn pg_157 6 (fr' := (14, [(2, .int 3), (1, .int 2), (0, .ref 165)], [.int 3, .ref 167])) rfl ?_
        refine ze_il pg_157 3 (V.1 167 3) rfl ⟨by decide, by decide⟩ rfl ⟨by decide, by decide⟩ rfl rfl ?_
        refine xe_sn pg_157 1 (fr' := (16, [(2, .int 3), (1, .int 2), (0, .ref 165)], [.int 2, .int (V.1 167 3)])) rfl ?_
        by_cases h11 : (V.1 167 3) = 2
        · rw [if_pos h11] at hE
          refine xe_c2f pg_157 25 rfl rfl (fun z => z h11) ?_
          refine xe_sn pg_157 4 (fr' := (26, [(2, .int 3), (1, .int 2), (0, .ref 165)], [.int 3])) rfl ?_
          refine xe_sn pg_157 3 (fr' := (4, [(2, .int 4), (1, .int 3), (0, .ref 165)], [])) rfl ?_
          refine xe_sn pg_157 4 (fr' := (34, [(2, .int 4), (1, .int 3), (0, .ref 165)], [.int 3])) rfl ?_
          subst hE
          exact xe_end pg_157 rfl
        · rw [if_neg h11] at hE
          refine xe_c2t pg_157 25 rfl rfl h11 ?_
          refine xe_sn pg_157 4 (fr' := (4, [(2, .int 4), (1, .int 2), (0, .ref 165)], [])) rfl ?_
          refine xe_sn pg_157 4 (fr' := (34, [(2, .int 4), (1, .int 2), (0, .ref 165)], [.int 2])) rfl ?_
          subst hE
          exact xe_end pg_157 rfl
      · rw [if_neg h10] at hE
        refine xe_c2t pg_157 25 rfl rfl h10 ?_
        refine xe_sn pg_157 4 (fr' := (4, [(2, .int 3), (1, .int 1), (0, .ref 165)], [])) rfl ?_
        refine xe_sn pg_157 6 (fr' := (14, [(2, .int 3), (1, .int 1), (0, .ref 165)], [.int 3, .ref 167])) rfl ?_
        refine ze_il pg_157 3 (V.1 167 3) rfl ⟨by decide, by decide⟩ rfl ⟨by decide, by decide⟩ rfl rfl ?_
        refine xe_sn pg_157 1 (fr' := (16, [(2, .int 3), (1, .int 1), (0, .ref 165)], [.int 2, .int (V.1 167 3)])) rfl ?_
        by_cases h12 : (V.1 167 3) = 2
        · rw [if_pos h12] at hE
          refine xe_c2f pg_157 25 rfl rfl (fun z => z h12) ?_
          refine xe_sn pg_157 4 (fr' := (26, [(2, .int 3), (1, .int 1), (0, .ref 165)], [.int 2])) rfl ?_
          refine xe_sn pg_157 3 (fr' := (4, [(2, .int 4), (1, .int 2), (0, .ref 165)], [])) rfl ?_
          refine xe_sn pg_157 4 (fr' := (34, [(2, .int 4), (1, .int 2), (0, .ref 165)], [.int 2])) rfl ?_
          subst hE
          exact xe_end pg_157 rfl
        · rw [if_neg h12] at hE
          refine xe_c2t pg_157 25 rfl rfl h12 ?_
          refine xe_sn pg_157 4 (fr' := (4, [(2, .int 4), (1, .int 1), (0, .ref 165)], [])) rfl ?_
          refine xe_sn pg_157 4 (fr' := (34, [(2, .int 4), (1, .int 1), (0, .ref 165)], [.int 1])) rfl ?_
          subst hE
          exact xe_end pg_157 rfl
    · rw [if_neg h9] at hE
      refine xe_c2t pg_157 25 rfl rfl h9 ?_
      refine xe_sn pg_157 4 (fr' := (4, [(2, .int 2), (1, .int 0), (0, .ref 165)], [])) rfl ?_
      refine xe_sn pg_157 6 (fr' := (14, [(2, .int 2), (1, .int 0), (0, .ref 165)], [.int 2, .ref 167])) rfl ?_
      refine ze_il pg_157 2 (V.1 167 2) rfl ⟨by decide, by decide⟩ rfl ⟨by decide, by decide⟩ rfl rfl ?_
      refine xe_sn pg_157 1 (fr' := (16, [(2, .int 2), (1, .int 0), (0, .ref 165)], [.int 2, .int (V.1 167 2)])) rfl ?_
      by_cases h13 : (V.1 167 2) = 2
      · rw [if_pos h13] at hE
        refine xe_c2f pg_157 25 rfl rfl (fun z => z h13) ?_
        refine xe_sn pg_157 4 (fr' := (26, [(2, .int 2), (1, .int 0), (0, .ref 165)], [.int 1])) rfl ?_
        refine xe_sn pg_157 3 (fr' := (4, [(2, .int 3), (1, .int 1), (0, .ref 165)], [])) rfl ?_
        refine xe_sn pg_157 6 (fr' := (14, [(2, .int 3), (1, .int 1), (0, .ref 165)], [.int 3, .ref 167])) rfl ?_
        refine ze_il pg_157 3 (V.1 167 3) rfl ⟨by decide, by decide⟩ rfl ⟨by decide, by decide⟩ rfl rfl ?_
        refine xe_sn pg_157 1 (fr' := (16, [(2, .int 3), (1, .int 1), (0, .ref 165)], [.int 2, .int (V.1 167 3)])) rfl ?_
        by_cases h14 : (V.1 167 3) = 2
        · rw [if_pos h14] at hE
          refine xe_c2f pg_157 25 rfl rfl (fun z => z h14) ?_
          refine xe_sn pg_157 4 (fr' := (26, [(2, .int 3), (1, .int 1), (0, .ref 165)], [.int 2])) rfl ?_
          refine xe_sn pg_157 3 (fr' := (4, [(2, .int 4), (1, .int 2), (0, .ref 165)], [])) rfl ?_
          refine xe_sn pg_157 4 (fr' := (34, [(2, .int 4), (1, .int 2), (0, .ref 165)], [.int 2])) rfl ?_
          subst hE
          exact xe_end pg_157 rfl
        · rw [if_neg h14] at hE
          refine xe_c2t pg_157 25 rfl rfl h14 ?_
          refine xe_sn pg_157 4 (fr' := (4, [(2, .int 4), (1, .int 1), (0, .ref 165)], [])) rfl ?_
          refine xe_sn pg_157 4 (fr' := (34, [(2, .int 4), (1, .int 1), (0, .ref 165)], [.int 1])) rfl ?_
          subst hE
          exact xe_end pg_157 rfl
      · rw [if_neg h13] at hE
        refine xe_c2t pg_157 25 rfl rfl h13 ?_
        refine xe_sn pg_157 4 (fr' := (4, [(2, .int 3), (1, .int 0), (0, .ref 165)], [])) rfl ?_
        refine xe_sn pg_157 6 (fr' := (14, [(2, .int 3), (1, .int 0), (0, .ref 165)], [.int 3, .ref 167])) rfl ?_
        refine ze_il pg_157 3 (V.1 167 3) rfl ⟨by decide, by decide⟩ rfl ⟨by decide, by decide⟩ rfl rfl ?_
        refine xe_sn pg_157 1 (fr' := (16, [(2, .int 3), (1, .int 0), (0, .ref 165)], [.int 2, .int (V.1 167 3)])) rfl ?_
        by_cases h15 : (V.1 167 3) = 2
        · rw [if_pos h15] at hE
          refine xe_c2f pg_157 25 rfl rfl (fun z => z h15) ?_
          refine xe_sn pg_157 4 (fr' := (26, [(2, .int 3), (1, .int 0), (0, .ref 165)], [.int 1])) rfl ?_
          refine xe_sn pg_157 3 (fr' := (4, [(2, .int 4), (1, .int 1), (0, .ref 165)], [])) rfl ?_
          refine xe_sn pg_157 4 (fr' := (34, [(2, .int 4), (1, .int 1), (0, .ref 165)], [.int 1])) rfl ?_
          subst hE
          exact xe_end pg_157 rfl
        · rw [if_neg h15] at hE
          refine xe_c2t pg_157 25 rfl rfl h15 ?_
          refine xe_sn pg_157 4 (fr' := (4, [(2, .int 4), (1, .int 0), (0, .ref 165)], [])) rfl ?_
          refine xe_sn pg_157 4 (fr' := (34, [(2, .int 4), (1, .int 0), (0, .ref 165)], [.int 0])) rfl ?_
          subst hE
          exact xe_end pg_157 rfl

def g_secret (V : xVt) (rl : Int32) (b : Int32) : Option (Int32 × xVt) := (some (g_isRelay rl)).bind fun r1 => if r1 = 0 then (some (0, (vn V 165 0 1))) else ((some (g_in b 1 65519)).bind fun r2 => if r2 = 0 then (some (0, (vn V 165 0 2))) else (if bnd (rl - 1) 4 then (if (V.1 180 (4 * (rl - 1).toNatClampNeg)) = 0 then (if (V.1 180 (4 * (rl - 1).toNatClampNeg + 1)) = 0 then (if (V.1 180 (4 * (rl - 1).toNatClampNeg + 2)) = 0 then (if (V.1 180 (4 * (rl - 1).toNatClampNeg + 3)) = 0 then (if bnd rl 5 then ((f_raise 17 b).bind fun r3 => some (r3, (vx (vx (vn (vn (vn (vn (vn V 165 0 0) 165 0 0) 165 0 0) 165 0 0) 165 0 0) 178 rl.toNatClampNeg b) 190 (rl - 1).toNatClampNeg r3))) else none) else (some (0, (vn (vn (vn (vn (vn V 165 0 0) 165 0 0) 165 0 0) 165 0 0) 165 0 3)))) else (some (0, (vn (vn (vn (vn V 165 0 0) 165 0 0) 165 0 0) 165 0 3)))) else (some (0, (vn (vn (vn V 165 0 0) 165 0 0) 165 0 3)))) else (some (0, (vn (vn V 165 0 0) 165 0 3)))) else none))
set_option maxRecDepth 100000 in
theorem cg_secret (d : Nat) {w : xWd} {S : xSt} {V : xVt} {ρ : Nat → Nat → Int64} {rl : Int32} {b : Int32} {r : Int32 × xVt} (hE : (g_secret V rl b) = some r) : xc (d + 2) 139 [.ref 165, .int rl, .int b] (hv w S V ρ) (.inl (some (.int r.1)), hv w S r.2 ρ) := by
  unfold g_secret at hE
  refine xe_sn pg_139 2 (fr' := (2, [(0, .ref 165), (1, .int rl), (2, .int b)], [.int rl, .ref 165])) rfl ?_
  obtain ⟨r1, e1, hE⟩ := Option.bind_eq_some_iff.mp hE
  refine xe_callq pg_139 105 [.int rl] (.inl (some (.int r1))) (5, [(0, .ref 165), (1, .int rl), (2, .int b)], [.int r1, .ref 165]) rfl (fun _ => rfl) (cg_isRelay _ (v := rl)  (Option.some.inj e1)) ?_
  by_cases h1 : r1 = 0
  · rw [if_pos h1] at hE
    refine xe_c1f pg_139 12 rfl rfl (fun z => z h1) ?_
    refine xe_sn pg_139 2 (fr' := (27, [(0, .ref 165), (1, .int rl), (2, .int b)], [.int 1, .ref 165])) rfl ?_
    refine ze_pn pg_139 rfl rfl ⟨rfl, rfl⟩ (Or.inl rfl) (by decide) ?_
    refine xe_sn pg_139 6 (fr' := (38, [(3, .int 0), (0, .ref 165), (1, .int rl), (2, .int b)], [.ref 165])) rfl ?_
    refine ze_gi pg_139 1 rfl rfl rfl rfl ?_
    refine xe_sn pg_139 2 (fr' := (74, [(3, .int 0), (0, .ref 165), (1, .int rl), (2, .int b)], [.ref 165])) rfl ?_
    refine ze_gi pg_139 1 rfl rfl rfl rfl ?_
    refine xe_sn pg_139 2 (fr' := (81, [(3, .int 0), (0, .ref 165), (1, .int rl), (2, .int b)], [.int 0])) rfl ?_
    cases hE
    exact xe_end pg_139 rfl
  · rw [if_neg h1] at hE
    refine xe_c1t pg_139 12 rfl rfl h1 ?_
    refine xe_sn pg_139 3 (fr' := (16, [(0, .ref 165), (1, .int rl), (2, .int b)], [.int 65519, .int 1, .int b, .ref 165])) rfl ?_
    obtain ⟨r2, e2, hE⟩ := Option.bind_eq_some_iff.mp hE
    refine xe_callq pg_139 103 [.int b, .int 1, .int 65519] (.inl (some (.int r2))) (19, [(0, .ref 165), (1, .int rl), (2, .int b)], [.int r2, .ref 165]) rfl (fun _ => rfl) (cg_in _ (v := b) (l := 1) (h := 65519)  (Option.some.inj e2)) ?_
    by_cases h2 : r2 = 0
    · rw [if_pos h2] at hE
      refine xe_c1f pg_139 26 rfl rfl (fun z => z h2) ?_
      refine xe_sn pg_139 2 (fr' := (27, [(0, .ref 165), (1, .int rl), (2, .int b)], [.int 2, .ref 165])) rfl ?_
      refine ze_pn pg_139 rfl rfl ⟨rfl, rfl⟩ (Or.inl rfl) (by decide) ?_
      refine xe_sn pg_139 6 (fr' := (38, [(3, .int 0), (0, .ref 165), (1, .int rl), (2, .int b)], [.ref 165])) rfl ?_
      refine ze_gi pg_139 2 rfl rfl rfl rfl ?_
      refine xe_sn pg_139 2 (fr' := (74, [(3, .int 0), (0, .ref 165), (1, .int rl), (2, .int b)], [.ref 165])) rfl ?_
      refine ze_gi pg_139 2 rfl rfl rfl rfl ?_
      refine xe_sn pg_139 2 (fr' := (81, [(3, .int 0), (0, .ref 165), (1, .int rl), (2, .int b)], [.int 0])) rfl ?_
      cases hE
      exact xe_end pg_139 rfl
    · rw [if_neg h2] at hE
      refine xe_c1t pg_139 26 rfl rfl h2 ?_
      refine xe_sn pg_139 1 (fr' := (27, [(0, .ref 165), (1, .int rl), (2, .int b)], [.int 0, .ref 165])) rfl ?_
      refine ze_pn pg_139 rfl rfl ⟨rfl, rfl⟩ (Or.inl rfl) (by decide) ?_
      refine xe_sn pg_139 6 (fr' := (38, [(3, .int 0), (0, .ref 165), (1, .int rl), (2, .int b)], [.ref 165])) rfl ?_
      refine ze_gi pg_139 0 rfl rfl rfl rfl ?_
      refine xe_sn pg_139 7 (fr' := (52, [(3, .int 0), (0, .ref 165), (1, .int rl), (2, .int b)], [.int 0, .int rl, .ref 165, .ref 180, .ref 165])) rfl ?_
      by_cases g3 : bnd (rl - 1) 4
      case neg => rw [if_neg g3] at hE; cases hE
      rw [if_pos g3] at hE
      have g3l := bnd_lt g3
      refine xe_cv pg_139 128 pg_128 [.int rl, .int 0] [.ref 180, .ref 165] (some (.int (nI (4 * (rl - 1).toNatClampNeg)))) rfl rfl rfl rfl ⟨Nat.le_of_ble_eq_true rfl, Nat.le_of_ble_eq_true rfl, Nat.le_of_ble_eq_true rfl⟩ ⟨rfl, rfl⟩ ⟨by decide, rfl, by decide⟩ (co_P (P := fun z => xc _ 128 [.ref 165, .int z, .int 0] _ _) (nI_bnd1 g3 (by omega)) (cg_place _ (i := (rl - 1).toNatClampNeg) (c := 0) (bnd_lt g3) (by omega) rfl)) ?_
      refine ze_bl pg_139 (4 * (rl - 1).toNatClampNeg) (V.1 180 (4 * (rl - 1).toNatClampNeg)) rfl ⟨by decide, by decide⟩ rfl (bn (by omega) (by decide)) (bc (n := 16) (by omega) (by decide)) rfl ?_
      by_cases h4 : (V.1 180 (4 * (rl - 1).toNatClampNeg)) = 0
      · rw [if_pos h4] at hE
        refine xe_c1t pg_139 63 rfl rfl h4 ?_
        refine xe_sn pg_139 1 (fr' := (64, [(3, .int 0), (0, .ref 165), (1, .int rl), (2, .int b)], [.int 0, .ref 165])) rfl ?_
        refine ze_pn pg_139 rfl rfl ⟨rfl, rfl⟩ (Or.inl rfl) (by decide) ?_
        refine xe_sn pg_139 2 (fr' := (32, [(3, .int 1), (0, .ref 165), (1, .int rl), (2, .int b)], [])) rfl ?_
        refine xe_sn pg_139 4 (fr' := (38, [(3, .int 1), (0, .ref 165), (1, .int rl), (2, .int b)], [.ref 165])) rfl ?_
        refine ze_gi pg_139 0 rfl rfl rfl rfl ?_
        refine xe_sn pg_139 7 (fr' := (52, [(3, .int 1), (0, .ref 165), (1, .int rl), (2, .int b)], [.int 1, .int rl, .ref 165, .ref 180, .ref 165])) rfl ?_
        refine xe_cv pg_139 128 pg_128 [.int rl, .int 1] [.ref 180, .ref 165] (some (.int (nI (4 * (rl - 1).toNatClampNeg + 1)))) rfl rfl rfl rfl ⟨Nat.le_of_ble_eq_true rfl, Nat.le_of_ble_eq_true rfl, Nat.le_of_ble_eq_true rfl⟩ ⟨rfl, rfl⟩ ⟨by decide, rfl, by decide⟩ (co_P (P := fun z => xc _ 128 [.ref 165, .int z, .int 1] _ _) (nI_bnd1 g3 (by omega)) (cg_place _ (i := (rl - 1).toNatClampNeg) (c := 1) (bnd_lt g3) (by omega) rfl)) ?_
        refine ze_bl pg_139 (4 * (rl - 1).toNatClampNeg + 1) (V.1 180 (4 * (rl - 1).toNatClampNeg + 1)) rfl ⟨by decide, by decide⟩ rfl (bn (by omega) (by decide)) (bc (n := 16) (by omega) (by decide)) rfl ?_
        by_cases h5 : (V.1 180 (4 * (rl - 1).toNatClampNeg + 1)) = 0
        · rw [if_pos h5] at hE
          refine xe_c1t pg_139 63 rfl rfl h5 ?_
          refine xe_sn pg_139 1 (fr' := (64, [(3, .int 1), (0, .ref 165), (1, .int rl), (2, .int b)], [.int 0, .ref 165])) rfl ?_
          refine ze_pn pg_139 rfl rfl ⟨rfl, rfl⟩ (Or.inl rfl) (by decide) ?_
          refine xe_sn pg_139 2 (fr' := (32, [(3, .int 2), (0, .ref 165), (1, .int rl), (2, .int b)], [])) rfl ?_
          refine xe_sn pg_139 4 (fr' := (38, [(3, .int 2), (0, .ref 165), (1, .int rl), (2, .int b)], [.ref 165])) rfl ?_
          refine ze_gi pg_139 0 rfl rfl rfl rfl ?_
          refine xe_sn pg_139 7 (fr' := (52, [(3, .int 2), (0, .ref 165), (1, .int rl), (2, .int b)], [.int 2, .int rl, .ref 165, .ref 180, .ref 165])) rfl ?_
          refine xe_cv pg_139 128 pg_128 [.int rl, .int 2] [.ref 180, .ref 165] (some (.int (nI (4 * (rl - 1).toNatClampNeg + 2)))) rfl rfl rfl rfl ⟨Nat.le_of_ble_eq_true rfl, Nat.le_of_ble_eq_true rfl, Nat.le_of_ble_eq_true rfl⟩ ⟨rfl, rfl⟩ ⟨by decide, rfl, by decide⟩ (co_P (P := fun z => xc _ 128 [.ref 165, .int z, .int 2] _ _) (nI_bnd1 g3 (by omega)) (cg_place _ (i := (rl - 1).toNatClampNeg) (c := 2) (bnd_lt g3) (by omega) rfl)) ?_
          refine ze_bl pg_139 (4 * (rl - 1).toNatClampNeg + 2) (V.1 180 (4 * (rl - 1).toNatClampNeg + 2)) rfl ⟨by decide, by decide⟩ rfl (bn (by omega) (by decide)) (bc (n := 16) (by omega) (by decide)) rfl ?_
          by_cases h6 : (V.1 180 (4 * (rl - 1).toNatClampNeg + 2)) = 0
          · rw [if_pos h6] at hE
            refine xe_c1t pg_139 63 rfl rfl h6 ?_
            refine xe_sn pg_139 1 (fr' := (64, [(3, .int 2), (0, .ref 165), (1, .int rl), (2, .int b)], [.int 0, .ref 165])) rfl ?_
            refine ze_pn pg_139 rfl rfl ⟨rfl, rfl⟩ (Or.inl rfl) (by decide) ?_
            refine xe_sn pg_139 2 (fr' := (32, [(3, .int 3), (0, .ref 165), (1, .int rl), (2, .int b)], [])) rfl ?_
            refine xe_sn pg_139 4 (fr' := (38, [(3, .int 3), (0, .ref 165), (1, .int rl), (2, .int b)], [.ref 165])) rfl ?_
            refine ze_gi pg_139 0 rfl rfl rfl rfl ?_
            refine xe_sn pg_139 7 (fr' := (52, [(3, .int 3), (0, .ref 165), (1, .int rl), (2, .int b)], [.int 3, .int rl, .ref 165, .ref 180, .ref 165])) rfl ?_
            refine xe_cv pg_139 128 pg_128 [.int rl, .int 3] [.ref 180, .ref 165] (some (.int (nI (4 * (rl - 1).toNatClampNeg + 3)))) rfl rfl rfl rfl ⟨Nat.le_of_ble_eq_true rfl, Nat.le_of_ble_eq_true rfl, Nat.le_of_ble_eq_true rfl⟩ ⟨rfl, rfl⟩ ⟨by decide, rfl, by decide⟩ (co_P (P := fun z => xc _ 128 [.ref 165, .int z, .int 3] _ _) (nI_bnd1 g3 (by omega)) (cg_place _ (i := (rl - 1).toNatClampNeg) (c := 3) (bnd_lt g3) (by omega) rfl)) ?_
            refine ze_bl pg_139 (4 * (rl - 1).toNatClampNeg + 3) (V.1 180 (4 * (rl - 1).toNatClampNeg + 3)) rfl ⟨by decide, by decide⟩ rfl (bn (by omega) (by decide)) (bc (n := 16) (by omega) (by decide)) rfl ?_
            by_cases h7 : (V.1 180 (4 * (rl - 1).toNatClampNeg + 3)) = 0
            · rw [if_pos h7] at hE
              refine xe_c1t pg_139 63 rfl rfl h7 ?_
              refine xe_sn pg_139 1 (fr' := (64, [(3, .int 3), (0, .ref 165), (1, .int rl), (2, .int b)], [.int 0, .ref 165])) rfl ?_
              refine ze_pn pg_139 rfl rfl ⟨rfl, rfl⟩ (Or.inl rfl) (by decide) ?_
              refine xe_sn pg_139 2 (fr' := (32, [(3, .int 4), (0, .ref 165), (1, .int rl), (2, .int b)], [])) rfl ?_
              refine xe_sn pg_139 4 (fr' := (74, [(3, .int 4), (0, .ref 165), (1, .int rl), (2, .int b)], [.ref 165])) rfl ?_
              refine ze_gi pg_139 0 rfl rfl rfl rfl ?_
              refine xe_sn pg_139 5 (fr' := (88, [(3, .int 4), (0, .ref 165), (1, .int rl), (2, .int b)], [.int b, .int rl, .ref 178])) rfl ?_
              by_cases g8 : bnd rl 5
              case neg => rw [if_neg g8] at hE; cases hE
              rw [if_pos g8] at hE
              have g8l := bnd_lt g8
              refine ze_isx pg_139 rl.toNatClampNeg rfl ⟨by decide, by decide⟩ rfl g8 rfl (by decide) ?_
              refine xe_sn pg_139 2 (fr' := (92, [(3, .int 4), (0, .ref 165), (1, .int rl), (2, .int b)], [.int b, .int 17])) rfl ?_
              obtain ⟨r3, e3, hE⟩ := Option.bind_eq_some_iff.mp hE
              refine xe_callq pg_139 106 [.int 17, .int b] (.inl (some (.int r3))) (95, [(3, .int 4), (0, .ref 165), (1, .int rl), (2, .int b)], [.int r3]) rfl (fun _ => rfl) (cg_raiseO _ (a := 17) (e := b)  e3) ?_
              refine ze_gh 190 (rl - 1).toNatClampNeg r3 (Or.inl rfl) ?_
              cases hE
              exact xe_end pg_139 rfl
            · rw [if_neg h7] at hE
              refine xe_c1f pg_139 63 rfl rfl h7 ?_
              refine xe_sn pg_139 2 (fr' := (64, [(3, .int 3), (0, .ref 165), (1, .int rl), (2, .int b)], [.int 3, .ref 165])) rfl ?_
              refine ze_pn pg_139 rfl rfl ⟨rfl, rfl⟩ (Or.inl rfl) (by decide) ?_
              refine xe_sn pg_139 2 (fr' := (32, [(3, .int 4), (0, .ref 165), (1, .int rl), (2, .int b)], [])) rfl ?_
              refine xe_sn pg_139 4 (fr' := (74, [(3, .int 4), (0, .ref 165), (1, .int rl), (2, .int b)], [.ref 165])) rfl ?_
              refine ze_gi pg_139 3 rfl rfl rfl rfl ?_
              refine xe_sn pg_139 2 (fr' := (81, [(3, .int 4), (0, .ref 165), (1, .int rl), (2, .int b)], [.int 0])) rfl ?_
              cases hE
              exact xe_end pg_139 rfl
          · rw [if_neg h6] at hE
            refine xe_c1f pg_139 63 rfl rfl h6 ?_
            refine xe_sn pg_139 2 (fr' := (64, [(3, .int 2), (0, .ref 165), (1, .int rl), (2, .int b)], [.int 3, .ref 165])) rfl ?_
            refine ze_pn pg_139 rfl rfl ⟨rfl, rfl⟩ (Or.inl rfl) (by decide) ?_
            refine xe_sn pg_139 2 (fr' := (32, [(3, .int 3), (0, .ref 165), (1, .int rl), (2, .int b)], [])) rfl ?_
            refine xe_sn pg_139 4 (fr' := (38, [(3, .int 3), (0, .ref 165), (1, .int rl), (2, .int b)], [.ref 165])) rfl ?_
            refine ze_gi pg_139 3 rfl rfl rfl rfl ?_
            refine xe_sn pg_139 2 (fr' := (74, [(3, .int 3), (0, .ref 165), (1, .int rl), (2, .int b)], [.ref 165])) rfl ?_
            refine ze_gi pg_139 3 rfl rfl rfl rfl ?_
            refine xe_sn pg_139 2 (fr' := (81, [(3, .int 3), (0, .ref 165), (1, .int rl), (2, .int b)], [.int 0])) rfl ?_
            cases hE
            exact xe_end pg_139 rfl
        · rw [if_neg h5] at hE
          refine xe_c1f pg_139 63 rfl rfl h5 ?_
          refine xe_sn pg_139 2 (fr' := (64, [(3, .int 1), (0, .ref 165), (1, .int rl), (2, .int b)], [.int 3, .ref 165])) rfl ?_
          refine ze_pn pg_139 rfl rfl ⟨rfl, rfl⟩ (Or.inl rfl) (by decide) ?_
          refine xe_sn pg_139 2 (fr' := (32, [(3, .int 2), (0, .ref 165), (1, .int rl), (2, .int b)], [])) rfl ?_
          refine xe_sn pg_139 4 (fr' := (38, [(3, .int 2), (0, .ref 165), (1, .int rl), (2, .int b)], [.ref 165])) rfl ?_
          refine ze_gi pg_139 3 rfl rfl rfl rfl ?_
          refine xe_sn pg_139 2 (fr' := (74, [(3, .int 2), (0, .ref 165), (1, .int rl), (2, .int b)], [.ref 165])) rfl ?_
          refine ze_gi pg_139 3 rfl rfl rfl rfl ?_
          refine xe_sn pg_139 2 (fr' := (81, [(3, .int 2), (0, .ref 165), (1, .int rl), (2, .int b)], [.int 0])) rfl ?_
          cases hE
          exact xe_end pg_139 rfl
      · rw [if_neg h4] at hE
        refine xe_c1f pg_139 63 rfl rfl h4 ?_
        refine xe_sn pg_139 2 (fr' := (64, [(3, .int 0), (0, .ref 165), (1, .int rl), (2, .int b)], [.int 3, .ref 165])) rfl ?_
        refine ze_pn pg_139 rfl rfl ⟨rfl, rfl⟩ (Or.inl rfl) (by decide) ?_
        refine xe_sn pg_139 2 (fr' := (32, [(3, .int 1), (0, .ref 165), (1, .int rl), (2, .int b)], [])) rfl ?_
        refine xe_sn pg_139 4 (fr' := (38, [(3, .int 1), (0, .ref 165), (1, .int rl), (2, .int b)], [.ref 165])) rfl ?_
        refine ze_gi pg_139 3 rfl rfl rfl rfl ?_
        refine xe_sn pg_139 2 (fr' := (74, [(3, .int 1), (0, .ref 165), (1, .int rl), (2, .int b)], [.ref 165])) rfl ?_
        refine ze_gi pg_139 3 rfl rfl rfl rfl ?_
        refine xe_sn pg_139 2 (fr' := (81, [(3, .int 1), (0, .ref 165), (1, .int rl), (2, .int b)], [.int 0])) rfl ?_
        cases hE
        exact xe_end pg_139 rfl

def g_create (V : xVt) (ci : Int32) (rl : Int32) (x : Int32) : Option (Int32 × xVt) := (some (g_isCircuit ci)).bind fun r1 => if r1 = 0 then (some (0, (vn V 165 0 1))) else ((some (g_isRelay rl)).bind fun r2 => if r2 = 0 then (some (0, (vn V 165 0 1))) else ((some (g_in x 1 65519)).bind fun r3 => if r3 = 0 then (some (0, (vn V 165 0 2))) else (if bnd ci 4 then ((some (g_isOn V ci.toNatClampNeg)).bind fun r4 => if r4 = 0 then ((some (dropX (vx (vn V 165 0 0) 168 ci.toNatClampNeg 0).1 ci.toNatClampNeg 0, (vx (vn V 165 0 0) 168 ci.toNatClampNeg 0).2)).bind fun r5 => (some (vbs (vx (vx (vx (vx r5 176 ci.toNatClampNeg 0) 171 ci.toNatClampNeg rl) 172 ci.toNatClampNeg x) 167 ci.toNatClampNeg 1) zf)).bind fun r6 => (f_raise 17 x).bind fun r7 => (some (g_putPair r6 0 r7)).bind fun r8 => (g_ship r8 0 rl ci 1 0).bind fun r9 => some ((r9.1 165 1), r9)) else (some (0, (vn V 165 0 3)))) else none)))
set_option maxRecDepth 100000 in
theorem cg_create (d : Nat) {w : xWd} {S : xSt} {V : xVt} {ρ : Nat → Nat → Int64} {ci : Int32} {rl : Int32} {x : Int32} {r : Int32 × xVt} (hE : (g_create V ci rl x) = some r) : xc (d + 2) 140 [.ref 165, .int ci, .int rl, .int x] (hv w S V ρ) (.inl (some (.int r.1)), hv w S r.2 ρ) := by
  unfold g_create at hE
  refine xe_sn pg_140 2 (fr' := (2, [(0, .ref 165), (1, .int ci), (2, .int rl), (3, .int x)], [.int ci, .ref 165])) rfl ?_
  obtain ⟨r1, e1, hE⟩ := Option.bind_eq_some_iff.mp hE
  refine xe_callq pg_140 104 [.int ci] (.inl (some (.int r1))) (5, [(0, .ref 165), (1, .int ci), (2, .int rl), (3, .int x)], [.int r1, .ref 165]) rfl (fun _ => rfl) (cg_isCircuit _ (v := ci)  (Option.some.inj e1)) ?_
  by_cases h1 : r1 = 0
  · rw [if_pos h1] at hE
    refine xe_c1t pg_140 15 rfl rfl h1 ?_
    refine xe_sn pg_140 2 (fr' := (46, [(0, .ref 165), (1, .int ci), (2, .int rl), (3, .int x)], [.int 1, .ref 165])) rfl ?_
    refine ze_pn pg_140 rfl rfl ⟨rfl, rfl⟩ (Or.inl rfl) (by decide) ?_
    refine xe_sn pg_140 1 (fr' := (50, [(0, .ref 165), (1, .int ci), (2, .int rl), (3, .int x)], [.ref 165])) rfl ?_
    refine ze_gi pg_140 1 rfl rfl rfl rfl ?_
    refine xe_sn pg_140 2 (fr' := (57, [(0, .ref 165), (1, .int ci), (2, .int rl), (3, .int x)], [.int 0])) rfl ?_
    cases hE
    exact xe_end pg_140 rfl
  · rw [if_neg h1] at hE
    refine xe_c1f pg_140 15 rfl rfl h1 ?_
    refine xe_sn pg_140 1 (fr' := (9, [(0, .ref 165), (1, .int ci), (2, .int rl), (3, .int x)], [.int rl, .ref 165])) rfl ?_
    obtain ⟨r2, e2, hE⟩ := Option.bind_eq_some_iff.mp hE
    refine xe_callq pg_140 105 [.int rl] (.inl (some (.int r2))) (12, [(0, .ref 165), (1, .int ci), (2, .int rl), (3, .int x)], [.int r2, .ref 165]) rfl (fun _ => rfl) (cg_isRelay _ (v := rl)  (Option.some.inj e2)) ?_
    by_cases h2 : r2 = 0
    · rw [if_pos h2] at hE
      refine xe_c1f pg_140 19 rfl rfl (fun z => z h2) ?_
      refine xe_sn pg_140 2 (fr' := (46, [(0, .ref 165), (1, .int ci), (2, .int rl), (3, .int x)], [.int 1, .ref 165])) rfl ?_
      refine ze_pn pg_140 rfl rfl ⟨rfl, rfl⟩ (Or.inl rfl) (by decide) ?_
      refine xe_sn pg_140 1 (fr' := (50, [(0, .ref 165), (1, .int ci), (2, .int rl), (3, .int x)], [.ref 165])) rfl ?_
      refine ze_gi pg_140 1 rfl rfl rfl rfl ?_
      refine xe_sn pg_140 2 (fr' := (57, [(0, .ref 165), (1, .int ci), (2, .int rl), (3, .int x)], [.int 0])) rfl ?_
      cases hE
      exact xe_end pg_140 rfl
    · rw [if_neg h2] at hE
      refine xe_c1t pg_140 19 rfl rfl h2 ?_
      refine xe_sn pg_140 3 (fr' := (23, [(0, .ref 165), (1, .int ci), (2, .int rl), (3, .int x)], [.int 65519, .int 1, .int x, .ref 165])) rfl ?_
      obtain ⟨r3, e3, hE⟩ := Option.bind_eq_some_iff.mp hE
      refine xe_callq pg_140 103 [.int x, .int 1, .int 65519] (.inl (some (.int r3))) (26, [(0, .ref 165), (1, .int ci), (2, .int rl), (3, .int x)], [.int r3, .ref 165]) rfl (fun _ => rfl) (cg_in _ (v := x) (l := 1) (h := 65519)  (Option.some.inj e3)) ?_
      by_cases h3 : r3 = 0
      · rw [if_pos h3] at hE
        refine xe_c1f pg_140 33 rfl rfl (fun z => z h3) ?_
        refine xe_sn pg_140 2 (fr' := (46, [(0, .ref 165), (1, .int ci), (2, .int rl), (3, .int x)], [.int 2, .ref 165])) rfl ?_
        refine ze_pn pg_140 rfl rfl ⟨rfl, rfl⟩ (Or.inl rfl) (by decide) ?_
        refine xe_sn pg_140 1 (fr' := (50, [(0, .ref 165), (1, .int ci), (2, .int rl), (3, .int x)], [.ref 165])) rfl ?_
        refine ze_gi pg_140 2 rfl rfl rfl rfl ?_
        refine xe_sn pg_140 2 (fr' := (57, [(0, .ref 165), (1, .int ci), (2, .int rl), (3, .int x)], [.int 0])) rfl ?_
        cases hE
        exact xe_end pg_140 rfl
      · rw [if_neg h3] at hE
        refine xe_c1t pg_140 33 rfl rfl h3 ?_
        refine xe_sn pg_140 2 (fr' := (35, [(0, .ref 165), (1, .int ci), (2, .int rl), (3, .int x)], [.int ci, .ref 165, .ref 165])) rfl ?_
        by_cases g4 : bnd ci 4
        case neg => rw [if_neg g4] at hE; cases hE
        rw [if_pos g4] at hE
        have g4l := bnd_lt g4
        obtain ⟨r4, e4, hE⟩ := Option.bind_eq_some_iff.mp hE
        refine xe_cv pg_140 145 pg_145 [.int ci] [.ref 165] (some (.int r4)) rfl rfl rfl rfl ⟨Nat.le_of_ble_eq_true rfl, Nat.le_of_ble_eq_true rfl, Nat.le_of_ble_eq_true rfl⟩ ⟨rfl, rfl⟩ ⟨by decide, rfl, by decide⟩ (co_P (P := fun z => xc _ 145 [.ref 165, .int z] _ _) (nI_bnd g4 (by omega)) (cg_isOn _ (c := ci.toNatClampNeg) (bnd_lt g4) (Option.some.inj e4))) ?_
        by_cases h5 : r4 = 0
        · rw [if_pos h5] at hE
          refine xe_c1t pg_140 45 rfl rfl h5 ?_
          refine xe_sn pg_140 1 (fr' := (46, [(0, .ref 165), (1, .int ci), (2, .int rl), (3, .int x)], [.int 0, .ref 165])) rfl ?_
          refine ze_pn pg_140 rfl rfl ⟨rfl, rfl⟩ (Or.inl rfl) (by decide) ?_
          refine xe_sn pg_140 1 (fr' := (50, [(0, .ref 165), (1, .int ci), (2, .int rl), (3, .int x)], [.ref 165])) rfl ?_
          refine ze_gi pg_140 0 rfl rfl rfl rfl ?_
          refine xe_sn pg_140 5 (fr' := (64, [(0, .ref 165), (1, .int ci), (2, .int rl), (3, .int x)], [.int 0, .int ci, .ref 168])) rfl ?_
          refine ze_isx pg_140 ci.toNatClampNeg rfl ⟨by decide, by decide⟩ rfl g4 rfl (by decide) ?_
          refine xe_sn pg_140 3 (fr' := (68, [(0, .ref 165), (1, .int ci), (2, .int rl), (3, .int x)], [.int 0, .int ci, .ref 165])) rfl ?_
          obtain ⟨r5, e5, hE⟩ := Option.bind_eq_some_iff.mp hE
          have e5q := Option.some.inj e5
          refine xe_cv pg_140 120 pg_120 [.int ci, .int 0] [] (none) rfl rfl rfl rfl ⟨Nat.le_of_ble_eq_true rfl, Nat.le_of_ble_eq_true rfl, Nat.le_of_ble_eq_true rfl⟩ ⟨rfl, rfl⟩ ⟨by decide, rfl, by decide⟩ (co_P (P := fun z => xc _ 120 [.ref 165, .int z, .int 0] _ _) (nI_bnd g4 (by omega)) (e5q ▸ cg_drop _ (c := ci.toNatClampNeg) (hop := 0) (bnd_lt g4))) ?_
          refine xe_sn pg_140 4 (fr' := (77, [(0, .ref 165), (1, .int ci), (2, .int rl), (3, .int x)], [.int 0, .int ci, .ref 176])) rfl ?_
          refine ze_isx pg_140 ci.toNatClampNeg rfl ⟨by decide, by decide⟩ rfl g4 rfl (by decide) ?_
          refine xe_sn pg_140 4 (fr' := (84, [(0, .ref 165), (1, .int ci), (2, .int rl), (3, .int x)], [.int rl, .int ci, .ref 171])) rfl ?_
          refine ze_isx pg_140 ci.toNatClampNeg rfl ⟨by decide, by decide⟩ rfl g4 rfl (by decide) ?_
          refine xe_sn pg_140 4 (fr' := (91, [(0, .ref 165), (1, .int ci), (2, .int rl), (3, .int x)], [.int x, .int ci, .ref 172])) rfl ?_
          refine ze_isx pg_140 ci.toNatClampNeg rfl ⟨by decide, by decide⟩ rfl g4 rfl (by decide) ?_
          refine xe_sn pg_140 4 (fr' := (98, [(0, .ref 165), (1, .int ci), (2, .int rl), (3, .int x)], [.int 1, .int ci, .ref 167])) rfl ?_
          refine ze_isx pg_140 ci.toNatClampNeg rfl ⟨by decide, by decide⟩ rfl g4 rfl (by decide) ?_
          refine xe_sn pg_140 1 (fr' := (100, [(0, .ref 165), (1, .int ci), (2, .int rl), (3, .int x)], [.ref 165])) rfl ?_
          obtain ⟨r6, e6, hE⟩ := Option.bind_eq_some_iff.mp hE
          have e6q := Option.some.inj e6
          refine xe_cv pg_140 113 pg_113 [] [] (none) rfl rfl rfl rfl ⟨Nat.le_of_ble_eq_true rfl, Nat.le_of_ble_eq_true rfl, Nat.le_of_ble_eq_true rfl⟩ ⟨rfl, rfl⟩ ⟨by decide, rfl, by decide⟩ (e6q ▸ cg_clr _ ) ?_
          refine xe_sn pg_140 4 (fr' := (108, [(0, .ref 165), (1, .int ci), (2, .int rl), (3, .int x)], [.int x, .int 17, .int 0, .ref 165])) rfl ?_
          obtain ⟨r7, e7, hE⟩ := Option.bind_eq_some_iff.mp hE
          refine xe_callq pg_140 106 [.int 17, .int x] (.inl (some (.int r7))) (111, [(0, .ref 165), (1, .int ci), (2, .int rl), (3, .int x)], [.int r7, .int 0, .ref 165]) rfl (fun _ => rfl) (cg_raiseO _ (a := 17) (e := x)  e7) ?_
          obtain ⟨r8, e8, hE⟩ := Option.bind_eq_some_iff.mp hE
          refine xe_cv pg_140 112 pg_112 [.int 0, .int r7] [] (none) rfl rfl rfl rfl ⟨Nat.le_of_ble_eq_true rfl, Nat.le_of_ble_eq_true rfl, Nat.le_of_ble_eq_true rfl⟩ ⟨rfl, rfl⟩ ⟨by decide, rfl, by decide⟩ (cg_putPair _ (k := 0) (v := r7) (by omega) (Option.some.inj e8)) ?_
          refine xe_sn pg_140 6 (fr' := (120, [(0, .ref 165), (1, .int ci), (2, .int rl), (3, .int x)], [.int 0, .int 1, .int ci, .int rl, .int 0, .ref 165])) rfl ?_
          obtain ⟨r9, e9, hE⟩ := Option.bind_eq_some_iff.mp hE
          refine xe_cv pg_140 117 pg_117 [.int 0, .int rl, .int ci, .int 1, .int 0] [] (none) rfl rfl rfl rfl ⟨Nat.le_of_ble_eq_true rfl, Nat.le_of_ble_eq_true rfl, Nat.le_of_ble_eq_true rfl⟩ ⟨rfl, rfl⟩ ⟨by decide, rfl, by decide⟩ (cg_ship _ (a := 0) (b := rl) (c := ci) (e := 1) (g := 0)  e9) ?_
          refine xe_sn pg_140 1 (fr' := (124, [(0, .ref 165), (1, .int ci), (2, .int rl), (3, .int x)], [.ref 165])) rfl ?_
          refine ze_gi pg_140 (r9.1 165 1) rfl rfl rfl rfl ?_
          cases hE
          exact xe_end pg_140 rfl
        · rw [if_neg h5] at hE
          refine xe_c1f pg_140 45 rfl rfl h5 ?_
          refine xe_sn pg_140 2 (fr' := (46, [(0, .ref 165), (1, .int ci), (2, .int rl), (3, .int x)], [.int 3, .ref 165])) rfl ?_
          refine ze_pn pg_140 rfl rfl ⟨rfl, rfl⟩ (Or.inl rfl) (by decide) ?_
          refine xe_sn pg_140 1 (fr' := (50, [(0, .ref 165), (1, .int ci), (2, .int rl), (3, .int x)], [.ref 165])) rfl ?_
          refine ze_gi pg_140 3 rfl rfl rfl rfl ?_
          refine xe_sn pg_140 2 (fr' := (57, [(0, .ref 165), (1, .int ci), (2, .int rl), (3, .int x)], [.int 0])) rfl ?_
          cases hE
          exact xe_end pg_140 rfl

def g_extend (V : xVt) (ci : Int32) (rl : Int32) (x : Int32) : Option (Int32 × xVt) := (some (g_isCircuit ci)).bind fun r1 => if r1 = 0 then (some (0, (vn (vn V 165 0 1) 165 0 1))) else ((some (g_isRelay rl)).bind fun r2 => if r2 = 0 then (some (0, (vn (vn V 165 0 1) 165 0 1))) else ((some (g_in x 1 65519)).bind fun r3 => if r3 = 0 then (some (0, (vn (vn V 165 0 2) 165 0 2))) else (if bnd ci 4 then (if (V.1 168 ci.toNatClampNeg) ≤ 0 then (if (V.1 167 ci.toNatClampNeg) = 2 then (if (V.1 168 ci.toNatClampNeg) = 3 then (some (0, (vn (vn V 165 0 0) 165 0 3))) else ((g_order (vn (vn V 165 0 0) 165 0 0) 1 0 3).bind fun r4 => (f_raise 17 x).bind fun r5 => (some (g_putPair (vb r4 7 rl) 8 r5)).bind fun r6 => (g_clientSends r6 ci.toNatClampNeg ((r6.1 168 ci.toNatClampNeg) - 1)).bind fun r7 => some ((r7.1 165 1), (vx (vx (vx r7 171 ci.toNatClampNeg rl) 172 ci.toNatClampNeg x) 167 ci.toNatClampNeg 1)))) else (some (0, (vn (vn V 165 0 0) 165 0 3)))) else (if bnd (((3 : Int32) * ci) + 0) 12 then (if (V.1 169 (((3 : Int32) * ci) + 0).toNatClampNeg) = rl then (some (0, (vn (vn (vn V 165 0 0) 165 0 2) 165 0 2))) else (if (V.1 168 ci.toNatClampNeg) ≤ 1 then (if (V.1 167 ci.toNatClampNeg) = 2 then (if (V.1 168 ci.toNatClampNeg) = 3 then (some (0, (vn (vn (vn V 165 0 0) 165 0 0) 165 0 3))) else ((g_order (vn (vn (vn V 165 0 0) 165 0 0) 165 0 0) 1 0 3).bind fun r8 => (f_raise 17 x).bind fun r9 => (some (g_putPair (vb r8 7 rl) 8 r9)).bind fun r10 => (g_clientSends r10 ci.toNatClampNeg ((r10.1 168 ci.toNatClampNeg) - 1)).bind fun r11 => some ((r11.1 165 1), (vx (vx (vx r11 171 ci.toNatClampNeg rl) 172 ci.toNatClampNeg x) 167 ci.toNatClampNeg 1)))) else (some (0, (vn (vn (vn V 165 0 0) 165 0 0) 165 0 3)))) else (if bnd (((3 : Int32) * ci) + 1) 12 then (if (V.1 169 (((3 : Int32) * ci) + 1).toNatClampNeg) = rl then (some (0, (vn (vn (vn (vn V 165 0 0) 165 0 0) 165 0 2) 165 0 2))) else (if (V.1 168 ci.toNatClampNeg) ≤ 2 then (if (V.1 167 ci.toNatClampNeg) = 2 then (if (V.1 168 ci.toNatClampNeg) = 3 then (some (0, (vn (vn (vn (vn V 165 0 0) 165 0 0) 165 0 0) 165 0 3))) else ((g_order (vn (vn (vn (vn V 165 0 0) 165 0 0) 165 0 0) 165 0 0) 1 0 3).bind fun r12 => (f_raise 17 x).bind fun r13 => (some (g_putPair (vb r12 7 rl) 8 r13)).bind fun r14 => (g_clientSends r14 ci.toNatClampNeg ((r14.1 168 ci.toNatClampNeg) - 1)).bind fun r15 => some ((r15.1 165 1), (vx (vx (vx r15 171 ci.toNatClampNeg rl) 172 ci.toNatClampNeg x) 167 ci.toNatClampNeg 1)))) else (some (0, (vn (vn (vn (vn V 165 0 0) 165 0 0) 165 0 0) 165 0 3)))) else (if bnd (((3 : Int32) * ci) + 2) 12 then (if (V.1 169 (((3 : Int32) * ci) + 2).toNatClampNeg) = rl then (some (0, (vn (vn (vn (vn (vn V 165 0 0) 165 0 0) 165 0 0) 165 0 2) 165 0 2))) else (if (V.1 168 ci.toNatClampNeg) ≤ 3 then (if (V.1 167 ci.toNatClampNeg) = 2 then (if (V.1 168 ci.toNatClampNeg) = 3 then (some (0, (vn (vn (vn (vn (vn V 165 0 0) 165 0 0) 165 0 0) 165 0 0) 165 0 3))) else ((g_order (vn (vn (vn (vn (vn V 165 0 0) 165 0 0) 165 0 0) 165 0 0) 165 0 0) 1 0 3).bind fun r16 => (f_raise 17 x).bind fun r17 => (some (g_putPair (vb r16 7 rl) 8 r17)).bind fun r18 => (g_clientSends r18 ci.toNatClampNeg ((r18.1 168 ci.toNatClampNeg) - 1)).bind fun r19 => some ((r19.1 165 1), (vx (vx (vx r19 171 ci.toNatClampNeg rl) 172 ci.toNatClampNeg x) 167 ci.toNatClampNeg 1)))) else (some (0, (vn (vn (vn (vn (vn V 165 0 0) 165 0 0) 165 0 0) 165 0 0) 165 0 3)))) else none)) else none))) else none))) else none)) else none)))
set_option maxRecDepth 100000 in
theorem cg_extend (d : Nat) {w : xWd} {S : xSt} {V : xVt} {ρ : Nat → Nat → Int64} {ci : Int32} {rl : Int32} {x : Int32} {r : Int32 × xVt} (hE : (g_extend V ci rl x) = some r) : xc (d + 4) 141 [.ref 165, .int ci, .int rl, .int x] (hv w S V ρ) (.inl (some (.int r.1)), hv w S r.2 ρ) := by
  unfold g_extend at hE
  refine xe_sn pg_141 2 (fr' := (2, [(0, .ref 165), (1, .int ci), (2, .int rl), (3, .int x)], [.int ci, .ref 165])) rfl ?_
  obtain ⟨r1, e1, hE⟩ := Option.bind_eq_some_iff.mp hE
  refine xe_callq pg_141 104 [.int ci] (.inl (some (.int r1))) (5, [(0, .ref 165), (1, .int ci), (2, .int rl), (3, .int x)], [.int r1, .ref 165]) rfl (fun _ => rfl) (cg_isCircuit _ (v := ci)  (Option.some.inj e1)) ?_
  by_cases h1 : r1 = 0
  · rw [if_pos h1] at hE
    refine xe_c1t pg_141 15 rfl rfl h1 ?_
    refine xe_sn pg_141 2 (fr' := (34, [(0, .ref 165), (1, .int ci), (2, .int rl), (3, .int x)], [.int 1, .ref 165])) rfl ?_
    refine ze_pn pg_141 rfl rfl ⟨rfl, rfl⟩ (Or.inl rfl) (by decide) ?_
    refine xe_sn pg_141 3 (fr' := (41, [(4, .int 0), (0, .ref 165), (1, .int ci), (2, .int rl), (3, .int x)], [.ref 165])) rfl ?_
    refine ze_gi pg_141 1 rfl rfl rfl rfl ?_
    refine xe_sn pg_141 3 (fr' := (90, [(4, .int 0), (0, .ref 165), (1, .int ci), (2, .int rl), (3, .int x)], [.ref 165, .ref 165])) rfl ?_
    refine ze_gi pg_141 1 rfl rfl rfl rfl ?_
    refine xe_sn pg_141 2 (fr' := (121, [(4, .int 0), (0, .ref 165), (1, .int ci), (2, .int rl), (3, .int x)], [.ref 165, .ref 165])) rfl ?_
    refine ze_gi pg_141 1 rfl rfl rfl rfl ?_
    refine ze_pn pg_141 rfl rfl ⟨rfl, rfl⟩ (Or.inl rfl) (by decide) ?_
    refine xe_sn pg_141 1 (fr' := (128, [(4, .int 0), (0, .ref 165), (1, .int ci), (2, .int rl), (3, .int x)], [.ref 165])) rfl ?_
    refine ze_gi pg_141 1 rfl rfl rfl rfl ?_
    refine xe_sn pg_141 2 (fr' := (135, [(4, .int 0), (0, .ref 165), (1, .int ci), (2, .int rl), (3, .int x)], [.int 0])) rfl ?_
    cases hE
    exact xe_end pg_141 rfl
  · rw [if_neg h1] at hE
    refine xe_c1f pg_141 15 rfl rfl h1 ?_
    refine xe_sn pg_141 1 (fr' := (9, [(0, .ref 165), (1, .int ci), (2, .int rl), (3, .int x)], [.int rl, .ref 165])) rfl ?_
    obtain ⟨r2, e2, hE⟩ := Option.bind_eq_some_iff.mp hE
    refine xe_callq pg_141 105 [.int rl] (.inl (some (.int r2))) (12, [(0, .ref 165), (1, .int ci), (2, .int rl), (3, .int x)], [.int r2, .ref 165]) rfl (fun _ => rfl) (cg_isRelay _ (v := rl)  (Option.some.inj e2)) ?_
    by_cases h2 : r2 = 0
    · rw [if_pos h2] at hE
      refine xe_c1f pg_141 19 rfl rfl (fun z => z h2) ?_
      refine xe_sn pg_141 2 (fr' := (34, [(0, .ref 165), (1, .int ci), (2, .int rl), (3, .int x)], [.int 1, .ref 165])) rfl ?_
      refine ze_pn pg_141 rfl rfl ⟨rfl, rfl⟩ (Or.inl rfl) (by decide) ?_
      refine xe_sn pg_141 3 (fr' := (41, [(4, .int 0), (0, .ref 165), (1, .int ci), (2, .int rl), (3, .int x)], [.ref 165])) rfl ?_
      refine ze_gi pg_141 1 rfl rfl rfl rfl ?_
      refine xe_sn pg_141 3 (fr' := (90, [(4, .int 0), (0, .ref 165), (1, .int ci), (2, .int rl), (3, .int x)], [.ref 165, .ref 165])) rfl ?_
      refine ze_gi pg_141 1 rfl rfl rfl rfl ?_
      refine xe_sn pg_141 2 (fr' := (121, [(4, .int 0), (0, .ref 165), (1, .int ci), (2, .int rl), (3, .int x)], [.ref 165, .ref 165])) rfl ?_
      refine ze_gi pg_141 1 rfl rfl rfl rfl ?_
      refine ze_pn pg_141 rfl rfl ⟨rfl, rfl⟩ (Or.inl rfl) (by decide) ?_
      refine xe_sn pg_141 1 (fr' := (128, [(4, .int 0), (0, .ref 165), (1, .int ci), (2, .int rl), (3, .int x)], [.ref 165])) rfl ?_
      refine ze_gi pg_141 1 rfl rfl rfl rfl ?_
      refine xe_sn pg_141 2 (fr' := (135, [(4, .int 0), (0, .ref 165), (1, .int ci), (2, .int rl), (3, .int x)], [.int 0])) rfl ?_
      cases hE
      exact xe_end pg_141 rfl
    · rw [if_neg h2] at hE
      refine xe_c1t pg_141 19 rfl rfl h2 ?_
      refine xe_sn pg_141 3 (fr' := (23, [(0, .ref 165), (1, .int ci), (2, .int rl), (3, .int x)], [.int 65519, .int 1, .int x, .ref 165])) rfl ?_
      obtain ⟨r3, e3, hE⟩ := Option.bind_eq_some_iff.mp hE
      refine xe_callq pg_141 103 [.int x, .int 1, .int 65519] (.inl (some (.int r3))) (26, [(0, .ref 165), (1, .int ci), (2, .int rl), (3, .int x)], [.int r3, .ref 165]) rfl (fun _ => rfl) (cg_in _ (v := x) (l := 1) (h := 65519)  (Option.some.inj e3)) ?_
      by_cases h3 : r3 = 0
      · rw [if_pos h3] at hE
        refine xe_c1f pg_141 33 rfl rfl (fun z => z h3) ?_
        refine xe_sn pg_141 2 (fr' := (34, [(0, .ref 165), (1, .int ci), (2, .int rl), (3, .int x)], [.int 2, .ref 165])) rfl ?_
        refine ze_pn pg_141 rfl rfl ⟨rfl, rfl⟩ (Or.inl rfl) (by decide) ?_
        refine xe_sn pg_141 3 (fr' := (41, [(4, .int 0), (0, .ref 165), (1, .int ci), (2, .int rl), (3, .int x)], [.ref 165])) rfl ?_
        refine ze_gi pg_141 2 rfl rfl rfl rfl ?_
        refine xe_sn pg_141 3 (fr' := (90, [(4, .int 0), (0, .ref 165), (1, .int ci), (2, .int rl), (3, .int x)], [.ref 165, .ref 165])) rfl ?_
        refine ze_gi pg_141 2 rfl rfl rfl rfl ?_
        refine xe_sn pg_141 2 (fr' := (121, [(4, .int 0), (0, .ref 165), (1, .int ci), (2, .int rl), (3, .int x)], [.ref 165, .ref 165])) rfl ?_
        refine ze_gi pg_141 2 rfl rfl rfl rfl ?_
        refine ze_pn pg_141 rfl rfl ⟨rfl, rfl⟩ (Or.inl rfl) (by decide) ?_
        refine xe_sn pg_141 1 (fr' := (128, [(4, .int 0), (0, .ref 165), (1, .int ci), (2, .int rl), (3, .int x)], [.ref 165])) rfl ?_
        refine ze_gi pg_141 2 rfl rfl rfl rfl ?_
        refine xe_sn pg_141 2 (fr' := (135, [(4, .int 0), (0, .ref 165), (1, .int ci), (2, .int rl), (3, .int x)], [.int 0])) rfl ?_
        cases hE
        exact xe_end pg_141 rfl
      · rw [if_neg h3] at hE
        refine xe_c1t pg_141 33 rfl rfl h3 ?_
        refine xe_sn pg_141 1 (fr' := (34, [(0, .ref 165), (1, .int ci), (2, .int rl), (3, .int x)], [.int 0, .ref 165])) rfl ?_
        refine ze_pn pg_141 rfl rfl ⟨rfl, rfl⟩ (Or.inl rfl) (by decide) ?_
        refine xe_sn pg_141 3 (fr' := (41, [(4, .int 0), (0, .ref 165), (1, .int ci), (2, .int rl), (3, .int x)], [.ref 165])) rfl ?_
        refine ze_gi pg_141 0 rfl rfl rfl rfl ?_
        refine xe_sn pg_141 5 (fr' := (54, [(4, .int 0), (0, .ref 165), (1, .int ci), (2, .int rl), (3, .int x)], [.int ci, .ref 168, .int 0])) rfl ?_
        by_cases g4 : bnd ci 4
        case neg => rw [if_neg g4] at hE; cases hE
        rw [if_pos g4] at hE
        have g4l := bnd_lt g4
        refine ze_il pg_141 ci.toNatClampNeg (V.1 168 ci.toNatClampNeg) rfl ⟨by decide, by decide⟩ rfl g4 rfl rfl ?_
        by_cases h5 : (V.1 168 ci.toNatClampNeg) ≤ 0
        · rw [if_pos h5] at hE
          refine xe_c2t pg_141 88 rfl rfl h5 ?_
          refine xe_sn pg_141 2 (fr' := (90, [(4, .int 0), (0, .ref 165), (1, .int ci), (2, .int rl), (3, .int x)], [.ref 165, .ref 165])) rfl ?_
          refine ze_gi pg_141 0 rfl rfl rfl rfl ?_
          refine xe_sn pg_141 4 (fr' := (101, [(4, .int 0), (0, .ref 165), (1, .int ci), (2, .int rl), (3, .int x)], [.int ci, .ref 167, .ref 165])) rfl ?_
          refine ze_il pg_141 ci.toNatClampNeg (V.1 167 ci.toNatClampNeg) rfl ⟨by decide, by decide⟩ rfl g4 rfl rfl ?_
          refine xe_sn pg_141 1 (fr' := (103, [(4, .int 0), (0, .ref 165), (1, .int ci), (2, .int rl), (3, .int x)], [.int 2, .int (V.1 167 ci.toNatClampNeg), .ref 165])) rfl ?_
          by_cases h6 : (V.1 167 ci.toNatClampNeg) = 2
          · rw [if_pos h6] at hE
            refine xe_c2f pg_141 116 rfl rfl (fun z => z h6) ?_
            refine xe_sn pg_141 3 (fr' := (111, [(4, .int 0), (0, .ref 165), (1, .int ci), (2, .int rl), (3, .int x)], [.int ci, .ref 168, .ref 165])) rfl ?_
            refine ze_il pg_141 ci.toNatClampNeg (V.1 168 ci.toNatClampNeg) rfl ⟨by decide, by decide⟩ rfl g4 rfl rfl ?_
            refine xe_sn pg_141 1 (fr' := (113, [(4, .int 0), (0, .ref 165), (1, .int ci), (2, .int rl), (3, .int x)], [.int 3, .int (V.1 168 ci.toNatClampNeg), .ref 165])) rfl ?_
            by_cases h7 : (V.1 168 ci.toNatClampNeg) = 3
            · rw [if_pos h7] at hE
              refine xe_c2f pg_141 120 rfl rfl (fun z => z h7) ?_
              refine xe_sn pg_141 2 (fr' := (124, [(4, .int 0), (0, .ref 165), (1, .int ci), (2, .int rl), (3, .int x)], [.int 3, .ref 165])) rfl ?_
              refine ze_pn pg_141 rfl rfl ⟨rfl, rfl⟩ (Or.inl rfl) (by decide) ?_
              refine xe_sn pg_141 1 (fr' := (128, [(4, .int 0), (0, .ref 165), (1, .int ci), (2, .int rl), (3, .int x)], [.ref 165])) rfl ?_
              refine ze_gi pg_141 3 rfl rfl rfl rfl ?_
              refine xe_sn pg_141 2 (fr' := (135, [(4, .int 0), (0, .ref 165), (1, .int ci), (2, .int rl), (3, .int x)], [.int 0])) rfl ?_
              cases hE
              exact xe_end pg_141 rfl
            · rw [if_neg h7] at hE
              refine xe_c2t pg_141 120 rfl rfl h7 ?_
              refine xe_sn pg_141 1 (fr' := (121, [(4, .int 0), (0, .ref 165), (1, .int ci), (2, .int rl), (3, .int x)], [.ref 165, .ref 165])) rfl ?_
              refine ze_gi pg_141 0 rfl rfl rfl rfl ?_
              refine ze_pn pg_141 rfl rfl ⟨rfl, rfl⟩ (Or.inl rfl) (by decide) ?_
              refine xe_sn pg_141 1 (fr' := (128, [(4, .int 0), (0, .ref 165), (1, .int ci), (2, .int rl), (3, .int x)], [.ref 165])) rfl ?_
              refine ze_gi pg_141 0 rfl rfl rfl rfl ?_
              refine xe_sn pg_141 5 (fr' := (140, [(4, .int 0), (0, .ref 165), (1, .int ci), (2, .int rl), (3, .int x)], [.int 3, .int 0, .int 1, .ref 165])) rfl ?_
              obtain ⟨r4, e4, hE⟩ := Option.bind_eq_some_iff.mp hE
              refine xe_cv pg_141 114 pg_114 [.int 1, .int 0, .int 3] [] (none) rfl rfl rfl rfl ⟨Nat.le_of_ble_eq_true rfl, Nat.le_of_ble_eq_true rfl, Nat.le_of_ble_eq_true rfl⟩ ⟨rfl, rfl⟩ ⟨by decide, rfl, by decide⟩ (cg_order _ (o := 1) (s := 0) (n := 3)  e4) ?_
              refine xe_sn pg_141 4 (fr' := (150, [(4, .int 0), (0, .ref 165), (1, .int ci), (2, .int rl), (3, .int x)], [.int rl, .int 7, .ref 187])) rfl ?_
              refine ze_sb pg_141 7 rfl (by decide) ⟨by decide, by decide⟩ rfl ?_
              refine xe_sn pg_141 4 (fr' := (157, [(4, .int 0), (0, .ref 165), (1, .int ci), (2, .int rl), (3, .int x)], [.int x, .int 17, .int 8, .ref 165])) rfl ?_
              obtain ⟨r5, e5, hE⟩ := Option.bind_eq_some_iff.mp hE
              refine xe_callq pg_141 106 [.int 17, .int x] (.inl (some (.int r5))) (160, [(4, .int 0), (0, .ref 165), (1, .int ci), (2, .int rl), (3, .int x)], [.int r5, .int 8, .ref 165]) rfl (fun _ => rfl) (cg_raiseO _ (a := 17) (e := x)  e5) ?_
              obtain ⟨r6, e6, hE⟩ := Option.bind_eq_some_iff.mp hE
              refine xe_cv pg_141 112 pg_112 [.int 8, .int r5] [] (none) rfl rfl rfl rfl ⟨Nat.le_of_ble_eq_true rfl, Nat.le_of_ble_eq_true rfl, Nat.le_of_ble_eq_true rfl⟩ ⟨rfl, rfl⟩ ⟨by decide, rfl, by decide⟩ (cg_putPair _ (k := 8) (v := r5) (by omega) (Option.some.inj e6)) ?_
              refine xe_sn pg_141 5 (fr' := (170, [(4, .int 0), (0, .ref 165), (1, .int ci), (2, .int rl), (3, .int x)], [.int ci, .ref 168, .int ci, .ref 165])) rfl ?_
              refine ze_il pg_141 ci.toNatClampNeg (r6.1 168 ci.toNatClampNeg) rfl ⟨by decide, by decide⟩ rfl g4 rfl rfl ?_
              refine xe_sn pg_141 2 (fr' := (173, [(4, .int 0), (0, .ref 165), (1, .int ci), (2, .int rl), (3, .int x)], [.int ((r6.1 168 ci.toNatClampNeg) - 1), .int ci, .ref 165])) rfl ?_
              obtain ⟨r7, e7, hE⟩ := Option.bind_eq_some_iff.mp hE
              refine xe_cv pg_141 123 pg_123 [.int ci, .int ((r6.1 168 ci.toNatClampNeg) - 1)] [] (none) rfl rfl rfl rfl ⟨Nat.le_of_ble_eq_true rfl, Nat.le_of_ble_eq_true rfl, Nat.le_of_ble_eq_true rfl⟩ ⟨rfl, rfl⟩ ⟨by decide, rfl, by decide⟩ (co_P (P := fun z => xc _ 123 [.ref 165, .int z, .int ((r6.1 168 ci.toNatClampNeg) - 1)] _ _) (nI_bnd g4 (by omega)) (cg_clientSends _ (c := ci.toNatClampNeg) (k := ((r6.1 168 ci.toNatClampNeg) - 1)) (bnd_lt g4) e7)) ?_
              refine xe_sn pg_141 4 (fr' := (182, [(4, .int 0), (0, .ref 165), (1, .int ci), (2, .int rl), (3, .int x)], [.int rl, .int ci, .ref 171])) rfl ?_
              refine ze_isx pg_141 ci.toNatClampNeg rfl ⟨by decide, by decide⟩ rfl g4 rfl (by decide) ?_
              refine xe_sn pg_141 4 (fr' := (189, [(4, .int 0), (0, .ref 165), (1, .int ci), (2, .int rl), (3, .int x)], [.int x, .int ci, .ref 172])) rfl ?_
              refine ze_isx pg_141 ci.toNatClampNeg rfl ⟨by decide, by decide⟩ rfl g4 rfl (by decide) ?_
              refine xe_sn pg_141 4 (fr' := (196, [(4, .int 0), (0, .ref 165), (1, .int ci), (2, .int rl), (3, .int x)], [.int 1, .int ci, .ref 167])) rfl ?_
              refine ze_isx pg_141 ci.toNatClampNeg rfl ⟨by decide, by decide⟩ rfl g4 rfl (by decide) ?_
              refine xe_sn pg_141 1 (fr' := (198, [(4, .int 0), (0, .ref 165), (1, .int ci), (2, .int rl), (3, .int x)], [.ref 165])) rfl ?_
              refine ze_gi pg_141 (r7.1 165 1) rfl rfl rfl rfl ?_
              cases hE
              exact xe_end pg_141 rfl
          · rw [if_neg h6] at hE
            refine xe_c2t pg_141 116 rfl rfl h6 ?_
            refine xe_sn pg_141 2 (fr' := (124, [(4, .int 0), (0, .ref 165), (1, .int ci), (2, .int rl), (3, .int x)], [.int 3, .ref 165])) rfl ?_
            refine ze_pn pg_141 rfl rfl ⟨rfl, rfl⟩ (Or.inl rfl) (by decide) ?_
            refine xe_sn pg_141 1 (fr' := (128, [(4, .int 0), (0, .ref 165), (1, .int ci), (2, .int rl), (3, .int x)], [.ref 165])) rfl ?_
            refine ze_gi pg_141 3 rfl rfl rfl rfl ?_
            refine xe_sn pg_141 2 (fr' := (135, [(4, .int 0), (0, .ref 165), (1, .int ci), (2, .int rl), (3, .int x)], [.int 0])) rfl ?_
            cases hE
            exact xe_end pg_141 rfl
        · rw [if_neg h5] at hE
          refine xe_c2f pg_141 88 rfl rfl h5 ?_
          refine xe_sn pg_141 8 (fr' := (69, [(4, .int 0), (0, .ref 165), (1, .int ci), (2, .int rl), (3, .int x)], [.int (((3 : Int32) * ci) + 0), .ref 169, .ref 165])) rfl ?_
          by_cases g8 : bnd (((3 : Int32) * ci) + 0) 12
          case neg => rw [if_neg g8] at hE; cases hE
          rw [if_pos g8] at hE
          have g8l := bnd_lt g8
          refine ze_il pg_141 (((3 : Int32) * ci) + 0).toNatClampNeg (V.1 169 (((3 : Int32) * ci) + 0).toNatClampNeg) rfl ⟨by decide, by decide⟩ rfl g8 rfl rfl ?_
          refine xe_sn pg_141 1 (fr' := (71, [(4, .int 0), (0, .ref 165), (1, .int ci), (2, .int rl), (3, .int x)], [.int rl, .int (V.1 169 (((3 : Int32) * ci) + 0).toNatClampNeg), .ref 165])) rfl ?_
          by_cases h9 : (V.1 169 (((3 : Int32) * ci) + 0).toNatClampNeg) = rl
          · rw [if_pos h9] at hE
            refine xe_c2f pg_141 78 rfl rfl (fun z => z h9) ?_
            refine xe_sn pg_141 2 (fr' := (79, [(4, .int 0), (0, .ref 165), (1, .int ci), (2, .int rl), (3, .int x)], [.int 2, .ref 165])) rfl ?_
            refine ze_pn pg_141 rfl rfl ⟨rfl, rfl⟩ (Or.inl rfl) (by decide) ?_
            refine xe_sn pg_141 2 (fr' := (40, [(4, .int 1), (0, .ref 165), (1, .int ci), (2, .int rl), (3, .int x)], [])) rfl ?_
            refine xe_sn pg_141 1 (fr' := (41, [(4, .int 1), (0, .ref 165), (1, .int ci), (2, .int rl), (3, .int x)], [.ref 165])) rfl ?_
            refine ze_gi pg_141 2 rfl rfl rfl rfl ?_
            refine xe_sn pg_141 3 (fr' := (90, [(4, .int 1), (0, .ref 165), (1, .int ci), (2, .int rl), (3, .int x)], [.ref 165, .ref 165])) rfl ?_
            refine ze_gi pg_141 2 rfl rfl rfl rfl ?_
            refine xe_sn pg_141 2 (fr' := (121, [(4, .int 1), (0, .ref 165), (1, .int ci), (2, .int rl), (3, .int x)], [.ref 165, .ref 165])) rfl ?_
            refine ze_gi pg_141 2 rfl rfl rfl rfl ?_
            refine ze_pn pg_141 rfl rfl ⟨rfl, rfl⟩ (Or.inl rfl) (by decide) ?_
            refine xe_sn pg_141 1 (fr' := (128, [(4, .int 1), (0, .ref 165), (1, .int ci), (2, .int rl), (3, .int x)], [.ref 165])) rfl ?_
            refine ze_gi pg_141 2 rfl rfl rfl rfl ?_
            refine xe_sn pg_141 2 (fr' := (135, [(4, .int 1), (0, .ref 165), (1, .int ci), (2, .int rl), (3, .int x)], [.int 0])) rfl ?_
            cases hE
            exact xe_end pg_141 rfl
          · rw [if_neg h9] at hE
            refine xe_c2t pg_141 78 rfl rfl h9 ?_
            refine xe_sn pg_141 1 (fr' := (79, [(4, .int 0), (0, .ref 165), (1, .int ci), (2, .int rl), (3, .int x)], [.int 0, .ref 165])) rfl ?_
            refine ze_pn pg_141 rfl rfl ⟨rfl, rfl⟩ (Or.inl rfl) (by decide) ?_
            refine xe_sn pg_141 2 (fr' := (40, [(4, .int 1), (0, .ref 165), (1, .int ci), (2, .int rl), (3, .int x)], [])) rfl ?_
            refine xe_sn pg_141 1 (fr' := (41, [(4, .int 1), (0, .ref 165), (1, .int ci), (2, .int rl), (3, .int x)], [.ref 165])) rfl ?_
            refine ze_gi pg_141 0 rfl rfl rfl rfl ?_
            refine xe_sn pg_141 5 (fr' := (54, [(4, .int 1), (0, .ref 165), (1, .int ci), (2, .int rl), (3, .int x)], [.int ci, .ref 168, .int 1])) rfl ?_
            refine ze_il pg_141 ci.toNatClampNeg (V.1 168 ci.toNatClampNeg) rfl ⟨by decide, by decide⟩ rfl g4 rfl rfl ?_
            by_cases h10 : (V.1 168 ci.toNatClampNeg) ≤ 1
            · rw [if_pos h10] at hE
              refine xe_c2t pg_141 88 rfl rfl h10 ?_
              refine xe_sn pg_141 2 (fr' := (90, [(4, .int 1), (0, .ref 165), (1, .int ci), (2, .int rl), (3, .int x)], [.ref 165, .ref 165])) rfl ?_
              refine ze_gi pg_141 0 rfl rfl rfl rfl ?_
              refine xe_sn pg_141 4 (fr' := (101, [(4, .int 1), (0, .ref 165), (1, .int ci), (2, .int rl), (3, .int x)], [.int ci, .ref 167, .ref 165])) rfl ?_
              refine ze_il pg_141 ci.toNatClampNeg (V.1 167 ci.toNatClampNeg) rfl ⟨by decide, by decide⟩ rfl g4 rfl rfl ?_
              refine xe_sn pg_141 1 (fr' := (103, [(4, .int 1), (0, .ref 165), (1, .int ci), (2, .int rl), (3, .int x)], [.int 2, .int (V.1 167 ci.toNatClampNeg), .ref 165])) rfl ?_
              by_cases h11 : (V.1 167 ci.toNatClampNeg) = 2
              · rw [if_pos h11] at hE
                refine xe_c2f pg_141 116 rfl rfl (fun z => z h11) ?_
                refine xe_sn pg_141 3 (fr' := (111, [(4, .int 1), (0, .ref 165), (1, .int ci), (2, .int rl), (3, .int x)], [.int ci, .ref 168, .ref 165])) rfl ?_
                refine ze_il pg_141 ci.toNatClampNeg (V.1 168 ci.toNatClampNeg) rfl ⟨by decide, by decide⟩ rfl g4 rfl rfl ?_
                refine xe_sn pg_141 1 (fr' := (113, [(4, .int 1), (0, .ref 165), (1, .int ci), (2, .int rl), (3, .int x)], [.int 3, .int (V.1 168 ci.toNatClampNeg), .ref 165])) rfl ?_
                by_cases h12 : (V.1 168 ci.toNatClampNeg) = 3
                · rw [if_pos h12] at hE
                  refine xe_c2f pg_141 120 rfl rfl (fun z => z h12) ?_
                  refine xe_sn pg_141 2 (fr' := (124, [(4, .int 1), (0, .ref 165), (1, .int ci), (2, .int rl), (3, .int x)], [.int 3, .ref 165])) rfl ?_
                  refine ze_pn pg_141 rfl rfl ⟨rfl, rfl⟩ (Or.inl rfl) (by decide) ?_
                  refine xe_sn pg_141 1 (fr' := (128, [(4, .int 1), (0, .ref 165), (1, .int ci), (2, .int rl), (3, .int x)], [.ref 165])) rfl ?_
                  refine ze_gi pg_141 3 rfl rfl rfl rfl ?_
                  refine xe_sn pg_141 2 (fr' := (135, [(4, .int 1), (0, .ref 165), (1, .int ci), (2, .int rl), (3, .int x)], [.int 0])) rfl ?_
                  cases hE
                  exact xe_end pg_141 rfl
                · rw [if_neg h12] at hE
                  refine xe_c2t pg_141 120 rfl rfl h12 ?_
                  refine xe_sn pg_141 1 (fr' := (121, [(4, .int 1), (0, .ref 165), (1, .int ci), (2, .int rl), (3, .int x)], [.ref 165, .ref 165])) rfl ?_
                  refine ze_gi pg_141 0 rfl rfl rfl rfl ?_
                  refine ze_pn pg_141 rfl rfl ⟨rfl, rfl⟩ (Or.inl rfl) (by decide) ?_
                  refine xe_sn pg_141 1 (fr' := (128, [(4, .int 1), (0, .ref 165), (1, .int ci), (2, .int rl), (3, .int x)], [.ref 165])) rfl ?_
                  refine ze_gi pg_141 0 rfl rfl rfl rfl ?_
                  refine xe_sn pg_141 5 (fr' := (140, [(4, .int 1), (0, .ref 165), (1, .int ci), (2, .int rl), (3, .int x)], [.int 3, .int 0, .int 1, .ref 165])) rfl ?_
                  obtain ⟨r8, e8, hE⟩ := Option.bind_eq_some_iff.mp hE
                  refine xe_cv pg_141 114 pg_114 [.int 1, .int 0, .int 3] [] (none) rfl rfl rfl rfl ⟨Nat.le_of_ble_eq_true rfl, Nat.le_of_ble_eq_true rfl, Nat.le_of_ble_eq_true rfl⟩ ⟨rfl, rfl⟩ ⟨by decide, rfl, by decide⟩ (cg_order _ (o := 1) (s := 0) (n := 3)  e8) ?_
                  refine xe_sn pg_141 4 (fr' := (150, [(4, .int 1), (0, .ref 165), (1, .int ci), (2, .int rl), (3, .int x)], [.int rl, .int 7, .ref 187])) rfl ?_
                  refine ze_sb pg_141 7 rfl (by decide) ⟨by decide, by decide⟩ rfl ?_
                  refine xe_sn pg_141 4 (fr' := (157, [(4, .int 1), (0, .ref 165), (1, .int ci), (2, .int rl), (3, .int x)], [.int x, .int 17, .int 8, .ref 165])) rfl ?_
                  obtain ⟨r9, e9, hE⟩ := Option.bind_eq_some_iff.mp hE
                  refine xe_callq pg_141 106 [.int 17, .int x] (.inl (some (.int r9))) (160, [(4, .int 1), (0, .ref 165), (1, .int ci), (2, .int rl), (3, .int x)], [.int r9, .int 8, .ref 165]) rfl (fun _ => rfl) (cg_raiseO _ (a := 17) (e := x)  e9) ?_
                  obtain ⟨r10, e10, hE⟩ := Option.bind_eq_some_iff.mp hE
                  refine xe_cv pg_141 112 pg_112 [.int 8, .int r9] [] (none) rfl rfl rfl rfl ⟨Nat.le_of_ble_eq_true rfl, Nat.le_of_ble_eq_true rfl, Nat.le_of_ble_eq_true rfl⟩ ⟨rfl, rfl⟩ ⟨by decide, rfl, by decide⟩ (cg_putPair _ (k := 8) (v := r9) (by omega) (Option.some.inj e10)) ?_
                  refine xe_sn pg_141 5 (fr' := (170, [(4, .int 1), (0, .ref 165), (1, .int ci), (2, .int rl), (3, .int x)], [.int ci, .ref 168, .int ci, .ref 165])) rfl ?_
                  refine ze_il pg_141 ci.toNatClampNeg (r10.1 168 ci.toNatClampNeg) rfl ⟨by decide, by decide⟩ rfl g4 rfl rfl ?_
                  refine xe_sn pg_141 2 (fr' := (173, [(4, .int 1), (0, .ref 165), (1, .int ci), (2, .int rl), (3, .int x)], [.int ((r10.1 168 ci.toNatClampNeg) - 1), .int ci, .ref 165])) rfl ?_
                  obtain ⟨r11, e11, hE⟩ := Option.bind_eq_some_iff.mp hE
                  refine xe_cv pg_141 123 pg_123 [.int ci, .int ((r10.1 168 ci.toNatClampNeg) - 1)] [] (none) rfl rfl rfl rfl ⟨Nat.le_of_ble_eq_true rfl, Nat.le_of_ble_eq_true rfl, Nat.le_of_ble_eq_true rfl⟩ ⟨rfl, rfl⟩ ⟨by decide, rfl, by decide⟩ (co_P (P := fun z => xc _ 123 [.ref 165, .int z, .int ((r10.1 168 ci.toNatClampNeg) - 1)] _ _) (nI_bnd g4 (by omega)) (cg_clientSends _ (c := ci.toNatClampNeg) (k := ((r10.1 168 ci.toNatClampNeg) - 1)) (bnd_lt g4) e11)) ?_
                  refine xe_sn pg_141 4 (fr' := (182, [(4, .int 1), (0, .ref 165), (1, .int ci), (2, .int rl), (3, .int x)], [.int rl, .int ci, .ref 171])) rfl ?_
                  refine ze_isx pg_141 ci.toNatClampNeg rfl ⟨by decide, by decide⟩ rfl g4 rfl (by decide) ?_
                  refine xe_sn pg_141 4 (fr' := (189, [(4, .int 1), (0, .ref 165), (1, .int ci), (2, .int rl), (3, .int x)], [.int x, .int ci, .ref 172])) rfl ?_
                  refine ze_isx pg_141 ci.toNatClampNeg rfl ⟨by decide, by decide⟩ rfl g4 rfl (by decide) ?_
                  refine xe_sn pg_141 4 (fr' := (196, [(4, .int 1), (0, .ref 165), (1, .int ci), (2, .int rl), (3, .int x)], [.int 1, .int ci, .ref 167])) rfl ?_
                  refine ze_isx pg_141 ci.toNatClampNeg rfl ⟨by decide, by decide⟩ rfl g4 rfl (by decide) ?_
                  refine xe_sn pg_141 1 (fr' := (198, [(4, .int 1), (0, .ref 165), (1, .int ci), (2, .int rl), (3, .int x)], [.ref 165])) rfl ?_
                  refine ze_gi pg_141 (r11.1 165 1) rfl rfl rfl rfl ?_
                  cases hE
                  exact xe_end pg_141 rfl
              · rw [if_neg h11] at hE
                refine xe_c2t pg_141 116 rfl rfl h11 ?_
                refine xe_sn pg_141 2 (fr' := (124, [(4, .int 1), (0, .ref 165), (1, .int ci), (2, .int rl), (3, .int x)], [.int 3, .ref 165])) rfl ?_
                refine ze_pn pg_141 rfl rfl ⟨rfl, rfl⟩ (Or.inl rfl) (by decide) ?_
                refine xe_sn pg_141 1 (fr' := (128, [(4, .int 1), (0, .ref 165), (1, .int ci), (2, .int rl), (3, .int x)], [.ref 165])) rfl ?_
                refine ze_gi pg_141 3 rfl rfl rfl rfl ?_
                refine xe_sn pg_141 2 (fr' := (135, [(4, .int 1), (0, .ref 165), (1, .int ci), (2, .int rl), (3, .int x)], [.int 0])) rfl ?_
                cases hE
                exact xe_end pg_141 rfl
            · rw [if_neg h10] at hE
              refine xe_c2f pg_141 88 rfl rfl h10 ?_
              refine xe_sn pg_141 8 (fr' := (69, [(4, .int 1), (0, .ref 165), (1, .int ci), (2, .int rl), (3, .int x)], [.int (((3 : Int32) * ci) + 1), .ref 169, .ref 165])) rfl ?_
              by_cases g13 : bnd (((3 : Int32) * ci) + 1) 12
              case neg => rw [if_neg g13] at hE; cases hE
              rw [if_pos g13] at hE
              have g13l := bnd_lt g13
              refine ze_il pg_141 (((3 : Int32) * ci) + 1).toNatClampNeg (V.1 169 (((3 : Int32) * ci) + 1).toNatClampNeg) rfl ⟨by decide, by decide⟩ rfl g13 rfl rfl ?_
              refine xe_sn pg_141 1 (fr' := (71, [(4, .int 1), (0, .ref 165), (1, .int ci), (2, .int rl), (3, .int x)], [.int rl, .int (V.1 169 (((3 : Int32) * ci) + 1).toNatClampNeg), .ref 165])) rfl ?_
              by_cases h14 : (V.1 169 (((3 : Int32) * ci) + 1).toNatClampNeg) = rl
              · rw [if_pos h14] at hE
                refine xe_c2f pg_141 78 rfl rfl (fun z => z h14) ?_
                refine xe_sn pg_141 2 (fr' := (79, [(4, .int 1), (0, .ref 165), (1, .int ci), (2, .int rl), (3, .int x)], [.int 2, .ref 165])) rfl ?_
                refine ze_pn pg_141 rfl rfl ⟨rfl, rfl⟩ (Or.inl rfl) (by decide) ?_
                refine xe_sn pg_141 2 (fr' := (40, [(4, .int 2), (0, .ref 165), (1, .int ci), (2, .int rl), (3, .int x)], [])) rfl ?_
                refine xe_sn pg_141 1 (fr' := (41, [(4, .int 2), (0, .ref 165), (1, .int ci), (2, .int rl), (3, .int x)], [.ref 165])) rfl ?_
                refine ze_gi pg_141 2 rfl rfl rfl rfl ?_
                refine xe_sn pg_141 3 (fr' := (90, [(4, .int 2), (0, .ref 165), (1, .int ci), (2, .int rl), (3, .int x)], [.ref 165, .ref 165])) rfl ?_
                refine ze_gi pg_141 2 rfl rfl rfl rfl ?_
                refine xe_sn pg_141 2 (fr' := (121, [(4, .int 2), (0, .ref 165), (1, .int ci), (2, .int rl), (3, .int x)], [.ref 165, .ref 165])) rfl ?_
                refine ze_gi pg_141 2 rfl rfl rfl rfl ?_
                refine ze_pn pg_141 rfl rfl ⟨rfl, rfl⟩ (Or.inl rfl) (by decide) ?_
                refine xe_sn pg_141 1 (fr' := (128, [(4, .int 2), (0, .ref 165), (1, .int ci), (2, .int rl), (3, .int x)], [.ref 165])) rfl ?_
                refine ze_gi pg_141 2 rfl rfl rfl rfl ?_
                refine xe_sn pg_141 2 (fr' := (135, [(4, .int 2), (0, .ref 165), (1, .int ci), (2, .int rl), (3, .int x)], [.int 0])) rfl ?_
                cases hE
                exact xe_end pg_141 rfl
              · rw [if_neg h14] at hE
                refine xe_c2t pg_141 78 rfl rfl h14 ?_
                refine xe_sn pg_141 1 (fr' := (79, [(4, .int 1), (0, .ref 165), (1, .int ci), (2, .int rl), (3, .int x)], [.int 0, .ref 165])) rfl ?_
                refine ze_pn pg_141 rfl rfl ⟨rfl, rfl⟩ (Or.inl rfl) (by decide) ?_
                refine xe_sn pg_141 2 (fr' := (40, [(4, .int 2), (0, .ref 165), (1, .int ci), (2, .int rl), (3, .int x)], [])) rfl ?_
                refine xe_sn pg_141 1 (fr' := (41, [(4, .int 2), (0, .ref 165), (1, .int ci), (2, .int rl), (3, .int x)], [.ref 165])) rfl ?_
                refine ze_gi pg_141 0 rfl rfl rfl rfl ?_
                refine xe_sn pg_141 5 (fr' := (54, [(4, .int 2), (0, .ref 165), (1, .int ci), (2, .int rl), (3, .int x)], [.int ci, .ref 168, .int 2])) rfl ?_
                refine ze_il pg_141 ci.toNatClampNeg (V.1 168 ci.toNatClampNeg) rfl ⟨by decide, by decide⟩ rfl g4 rfl rfl ?_
                by_cases h15 : (V.1 168 ci.toNatClampNeg) ≤ 2
                · rw [if_pos h15] at hE
                  refine xe_c2t pg_141 88 rfl rfl h15 ?_
                  refine xe_sn pg_141 2 (fr' := (90, [(4, .int 2), (0, .ref 165), (1, .int ci), (2, .int rl), (3, .int x)], [.ref 165, .ref 165])) rfl ?_
                  refine ze_gi pg_141 0 rfl rfl rfl rfl ?_
                  refine xe_sn pg_141 4 (fr' := (101, [(4, .int 2), (0, .ref 165), (1, .int ci), (2, .int rl), (3, .int x)], [.int ci, .ref 167, .ref 165])) rfl ?_
                  refine ze_il pg_141 ci.toNatClampNeg (V.1 167 ci.toNatClampNeg) rfl ⟨by decide, by decide⟩ rfl g4 rfl rfl ?_
                  refine xe_sn pg_141 1 (fr' := (103, [(4, .int 2), (0, .ref 165), (1, .int ci), (2, .int rl), (3, .int x)], [.int 2, .int (V.1 167 ci.toNatClampNeg), .ref 165])) rfl ?_
                  by_cases h16 : (V.1 167 ci.toNatClampNeg) = 2
                  · rw [if_pos h16] at hE
                    refine xe_c2f pg_141 116 rfl rfl (fun z => z h16) ?_
                    refine xe_sn pg_141 3 (fr' := (111, [(4, .int 2), (0, .ref 165), (1, .int ci), (2, .int rl), (3, .int x)], [.int ci, .ref 168, .ref 165])) rfl ?_
                    refine ze_il pg_141 ci.toNatClampNeg (V.1 168 ci.toNatClampNeg) rfl ⟨by decide, by decide⟩ rfl g4 rfl rfl ?_
                    refine xe_sn pg_141 1 (fr' := (113, [(4, .int 2), (0, .ref 165), (1, .int ci), (2, .int rl), (3, .int x)], [.int 3, .int (V.1 168 ci.toNatClampNeg), .ref 165])) rfl ?_
                    by_cases h17 : (V.1 168 ci.toNatClampNeg) = 3
                    · rw [if_pos h17] at hE
                      refine xe_c2f pg_141 120 rfl rfl (fun z => z h17) ?_
                      refine xe_sn pg_141 2 (fr' := (124, [(4, .int 2), (0, .ref 165), (1, .int ci), (2, .int rl), (3, .int x)], [.int 3, .ref 165])) rfl ?_
                      refine ze_pn pg_141 rfl rfl ⟨rfl, rfl⟩ (Or.inl rfl) (by decide) ?_
                      refine xe_sn pg_141 1 (fr' := (128, [(4, .int 2), (0, .ref 165), (1, .int ci), (2, .int rl), (3, .int x)], [.ref 165])) rfl ?_
                      refine ze_gi pg_141 3 rfl rfl rfl rfl ?_
                      refine xe_sn pg_141 2 (fr' := (135, [(4, .int 2), (0, .ref 165), (1, .int ci), (2, .int rl), (3, .int x)], [.int 0])) rfl ?_
                      cases hE
                      exact xe_end pg_141 rfl
                    · rw [if_neg h17] at hE
                      refine xe_c2t pg_141 120 rfl rfl h17 ?_
                      refine xe_sn pg_141 1 (fr' := (121, [(4, .int 2), (0, .ref 165), (1, .int ci), (2, .int rl), (3, .int x)], [.ref 165, .ref 165])) rfl ?_
                      refine ze_gi pg_141 0 rfl rfl rfl rfl ?_
                      refine ze_pn pg_141 rfl rfl ⟨rfl, rfl⟩ (Or.inl rfl) (by decide) ?_
                      refine xe_sn pg_141 1 (fr' := (128, [(4, .int 2), (0, .ref 165), (1, .int ci), (2, .int rl), (3, .int x)], [.ref 165])) rfl ?_
                      refine ze_gi pg_141 0 rfl rfl rfl rfl ?_
                      refine xe_sn pg_141 5 (fr' := (140, [(4, .int 2), (0, .ref 165), (1, .int ci), (2, .int rl), (3, .int x)], [.int 3, .int 0, .int 1, .ref 165])) rfl ?_
                      obtain ⟨r12, e12, hE⟩ := Option.bind_eq_some_iff.mp hE
                      refine xe_cv pg_141 114 pg_114 [.int 1, .int 0, .int 3] [] (none) rfl rfl rfl rfl ⟨Nat.le_of_ble_eq_true rfl, Nat.le_of_ble_eq_true rfl, Nat.le_of_ble_eq_true rfl⟩ ⟨rfl, rfl⟩ ⟨by decide, rfl, by decide⟩ (cg_order _ (o := 1) (s := 0) (n := 3)  e12) ?_
                      refine xe_sn pg_141 4 (fr' := (150, [(4, .int 2), (0, .ref 165), (1, .int ci), (2, .int rl), (3, .int x)], [.int rl, .int 7, .ref 187])) rfl ?_
                      refine ze_sb pg_141 7 rfl (by decide) ⟨by decide, by decide⟩ rfl ?_
                      refine xe_sn pg_141 4 (fr' := (157, [(4, .int 2), (0, .ref 165), (1, .int ci), (2, .int rl), (3, .int x)], [.int x, .int 17, .int 8, .ref 165])) rfl ?_
                      obtain ⟨r13, e13, hE⟩ := Option.bind_eq_some_iff.mp hE
                      refine xe_callq pg_141 106 [.int 17, .int x] (.inl (some (.int r13))) (160, [(4, .int 2), (0, .ref 165), (1, .int ci), (2, .int rl), (3, .int x)], [.int r13, .int 8, .ref 165]) rfl (fun _ => rfl) (cg_raiseO _ (a := 17) (e := x)  e13) ?_
                      obtain ⟨r14, e14, hE⟩ := Option.bind_eq_some_iff.mp hE
                      refine xe_cv pg_141 112 pg_112 [.int 8, .int r13] [] (none) rfl rfl rfl rfl ⟨Nat.le_of_ble_eq_true rfl, Nat.le_of_ble_eq_true rfl, Nat.le_of_ble_eq_true rfl⟩ ⟨rfl, rfl⟩ ⟨by decide, rfl, by decide⟩ (cg_putPair _ (k := 8) (v := r13) (by omega) (Option.some.inj e14)) ?_
                      refine xe_sn pg_141 5 (fr' := (170, [(4, .int 2), (0, .ref 165), (1, .int ci), (2, .int rl), (3, .int x)], [.int ci, .ref 168, .int ci, .ref 165])) rfl ?_
                      refine ze_il pg_141 ci.toNatClampNeg (r14.1 168 ci.toNatClampNeg) rfl ⟨by decide, by decide⟩ rfl g4 rfl rfl ?_
                      refine xe_sn pg_141 2 (fr' := (173, [(4, .int 2), (0, .ref 165), (1, .int ci), (2, .int rl), (3, .int x)], [.int ((r14.1 168 ci.toNatClampNeg) - 1), .int ci, .ref 165])) rfl ?_
                      obtain ⟨r15, e15, hE⟩ := Option.bind_eq_some_iff.mp hE
                      refine xe_cv pg_141 123 pg_123 [.int ci, .int ((r14.1 168 ci.toNatClampNeg) - 1)] [] (none) rfl rfl rfl rfl ⟨Nat.le_of_ble_eq_true rfl, Nat.le_of_ble_eq_true rfl, Nat.le_of_ble_eq_true rfl⟩ ⟨rfl, rfl⟩ ⟨by decide, rfl, by decide⟩ (co_P (P := fun z => xc _ 123 [.ref 165, .int z, .int ((r14.1 168 ci.toNatClampNeg) - 1)] _ _) (nI_bnd g4 (by omega)) (cg_clientSends _ (c := ci.toNatClampNeg) (k := ((r14.1 168 ci.toNatClampNeg) - 1)) (bnd_lt g4) e15)) ?_
                      refine xe_sn pg_141 4 (fr' := (182, [(4, .int 2), (0, .ref 165), (1, .int ci), (2, .int rl), (3, .int x)], [.int rl, .int ci, .ref 171])) rfl ?_
                      refine ze_isx pg_141 ci.toNatClampNeg rfl ⟨by decide, by decide⟩ rfl g4 rfl (by decide) ?_
                      refine xe_sn pg_141 4 (fr' := (189, [(4, .int 2), (0, .ref 165), (1, .int ci), (2, .int rl), (3, .int x)], [.int x, .int ci, .ref 172])) rfl ?_
                      refine ze_isx pg_141 ci.toNatClampNeg rfl ⟨by decide, by decide⟩ rfl g4 rfl (by decide) ?_
                      refine xe_sn pg_141 4 (fr' := (196, [(4, .int 2), (0, .ref 165), (1, .int ci), (2, .int rl), (3, .int x)], [.int 1, .int ci, .ref 167])) rfl ?_
                      refine ze_isx pg_141 ci.toNatClampNeg rfl ⟨by decide, by decide⟩ rfl g4 rfl (by decide) ?_
                      refine xe_sn pg_141 1 (fr' := (198, [(4, .int 2), (0, .ref 165), (1, .int ci), (2, .int rl), (3, .int x)], [.ref 165])) rfl ?_
                      refine ze_gi pg_141 (r15.1 165 1) rfl rfl rfl rfl ?_
                      cases hE
                      exact xe_end pg_141 rfl
                  · rw [if_neg h16] at hE
                    refine xe_c2t pg_141 116 rfl rfl h16 ?_
                    refine xe_sn pg_141 2 (fr' := (124, [(4, .int 2), (0, .ref 165), (1, .int ci), (2, .int rl), (3, .int x)], [.int 3, .ref 165])) rfl ?_
                    refine ze_pn pg_141 rfl rfl ⟨rfl, rfl⟩ (Or.inl rfl) (by decide) ?_
                    refine xe_sn pg_141 1 (fr' := (128, [(4, .int 2), (0, .ref 165), (1, .int ci), (2, .int rl), (3, .int x)], [.ref 165])) rfl ?_
                    refine ze_gi pg_141 3 rfl rfl rfl rfl ?_
                    refine xe_sn pg_141 2 (fr' := (135, [(4, .int 2), (0, .ref 165), (1, .int ci), (2, .int rl), (3, .int x)], [.int 0])) rfl ?_
                    cases hE
                    exact xe_end pg_141 rfl
                · rw [if_neg h15] at hE
                  refine xe_c2f pg_141 88 rfl rfl h15 ?_
                  refine xe_sn pg_141 8 (fr' := (69, [(4, .int 2), (0, .ref 165), (1, .int ci), (2, .int rl), (3, .int x)], [.int (((3 : Int32) * ci) + 2), .ref 169, .ref 165])) rfl ?_
                  by_cases g18 : bnd (((3 : Int32) * ci) + 2) 12
                  case neg => rw [if_neg g18] at hE; cases hE
                  rw [if_pos g18] at hE
                  have g18l := bnd_lt g18
                  refine ze_il pg_141 (((3 : Int32) * ci) + 2).toNatClampNeg (V.1 169 (((3 : Int32) * ci) + 2).toNatClampNeg) rfl ⟨by decide, by decide⟩ rfl g18 rfl rfl ?_
                  refine xe_sn pg_141 1 (fr' := (71, [(4, .int 2), (0, .ref 165), (1, .int ci), (2, .int rl), (3, .int x)], [.int rl, .int (V.1 169 (((3 : Int32) * ci) + 2).toNatClampNeg), .ref 165])) rfl ?_
                  by_cases h19 : (V.1 169 (((3 : Int32) * ci) + 2).toNatClampNeg) = rl
                  · rw [if_pos h19] at hE
                    refine xe_c2f pg_141 78 rfl rfl (fun z => z h19) ?_
                    refine xe_sn pg_141 2 (fr' := (79, [(4, .int 2), (0, .ref 165), (1, .int ci), (2, .int rl), (3, .int x)], [.int 2, .ref 165])) rfl ?_
                    refine ze_pn pg_141 rfl rfl ⟨rfl, rfl⟩ (Or.inl rfl) (by decide) ?_
                    refine xe_sn pg_141 2 (fr' := (40, [(4, .int 3), (0, .ref 165), (1, .int ci), (2, .int rl), (3, .int x)], [])) rfl ?_
                    refine xe_sn pg_141 1 (fr' := (41, [(4, .int 3), (0, .ref 165), (1, .int ci), (2, .int rl), (3, .int x)], [.ref 165])) rfl ?_
                    refine ze_gi pg_141 2 rfl rfl rfl rfl ?_
                    refine xe_sn pg_141 3 (fr' := (90, [(4, .int 3), (0, .ref 165), (1, .int ci), (2, .int rl), (3, .int x)], [.ref 165, .ref 165])) rfl ?_
                    refine ze_gi pg_141 2 rfl rfl rfl rfl ?_
                    refine xe_sn pg_141 2 (fr' := (121, [(4, .int 3), (0, .ref 165), (1, .int ci), (2, .int rl), (3, .int x)], [.ref 165, .ref 165])) rfl ?_
                    refine ze_gi pg_141 2 rfl rfl rfl rfl ?_
                    refine ze_pn pg_141 rfl rfl ⟨rfl, rfl⟩ (Or.inl rfl) (by decide) ?_
                    refine xe_sn pg_141 1 (fr' := (128, [(4, .int 3), (0, .ref 165), (1, .int ci), (2, .int rl), (3, .int x)], [.ref 165])) rfl ?_
                    refine ze_gi pg_141 2 rfl rfl rfl rfl ?_
                    refine xe_sn pg_141 2 (fr' := (135, [(4, .int 3), (0, .ref 165), (1, .int ci), (2, .int rl), (3, .int x)], [.int 0])) rfl ?_
                    cases hE
                    exact xe_end pg_141 rfl
                  · rw [if_neg h19] at hE
                    refine xe_c2t pg_141 78 rfl rfl h19 ?_
                    refine xe_sn pg_141 1 (fr' := (79, [(4, .int 2), (0, .ref 165), (1, .int ci), (2, .int rl), (3, .int x)], [.int 0, .ref 165])) rfl ?_
                    refine ze_pn pg_141 rfl rfl ⟨rfl, rfl⟩ (Or.inl rfl) (by decide) ?_
                    refine xe_sn pg_141 2 (fr' := (40, [(4, .int 3), (0, .ref 165), (1, .int ci), (2, .int rl), (3, .int x)], [])) rfl ?_
                    refine xe_sn pg_141 1 (fr' := (41, [(4, .int 3), (0, .ref 165), (1, .int ci), (2, .int rl), (3, .int x)], [.ref 165])) rfl ?_
                    refine ze_gi pg_141 0 rfl rfl rfl rfl ?_
                    refine xe_sn pg_141 5 (fr' := (54, [(4, .int 3), (0, .ref 165), (1, .int ci), (2, .int rl), (3, .int x)], [.int ci, .ref 168, .int 3])) rfl ?_
                    refine ze_il pg_141 ci.toNatClampNeg (V.1 168 ci.toNatClampNeg) rfl ⟨by decide, by decide⟩ rfl g4 rfl rfl ?_
                    by_cases h20 : (V.1 168 ci.toNatClampNeg) ≤ 3
                    · rw [if_pos h20] at hE
                      refine xe_c2t pg_141 88 rfl rfl h20 ?_
                      refine xe_sn pg_141 2 (fr' := (90, [(4, .int 3), (0, .ref 165), (1, .int ci), (2, .int rl), (3, .int x)], [.ref 165, .ref 165])) rfl ?_
                      refine ze_gi pg_141 0 rfl rfl rfl rfl ?_
                      refine xe_sn pg_141 4 (fr' := (101, [(4, .int 3), (0, .ref 165), (1, .int ci), (2, .int rl), (3, .int x)], [.int ci, .ref 167, .ref 165])) rfl ?_
                      refine ze_il pg_141 ci.toNatClampNeg (V.1 167 ci.toNatClampNeg) rfl ⟨by decide, by decide⟩ rfl g4 rfl rfl ?_
                      refine xe_sn pg_141 1 (fr' := (103, [(4, .int 3), (0, .ref 165), (1, .int ci), (2, .int rl), (3, .int x)], [.int 2, .int (V.1 167 ci.toNatClampNeg), .ref 165])) rfl ?_
                      by_cases h21 : (V.1 167 ci.toNatClampNeg) = 2
                      · rw [if_pos h21] at hE
                        refine xe_c2f pg_141 116 rfl rfl (fun z => z h21) ?_
                        refine xe_sn pg_141 3 (fr' := (111, [(4, .int 3), (0, .ref 165), (1, .int ci), (2, .int rl), (3, .int x)], [.int ci, .ref 168, .ref 165])) rfl ?_
                        refine ze_il pg_141 ci.toNatClampNeg (V.1 168 ci.toNatClampNeg) rfl ⟨by decide, by decide⟩ rfl g4 rfl rfl ?_
                        refine xe_sn pg_141 1 (fr' := (113, [(4, .int 3), (0, .ref 165), (1, .int ci), (2, .int rl), (3, .int x)], [.int 3, .int (V.1 168 ci.toNatClampNeg), .ref 165])) rfl ?_
                        by_cases h22 : (V.1 168 ci.toNatClampNeg) = 3
                        · rw [if_pos h22] at hE
                          refine xe_c2f pg_141 120 rfl rfl (fun z => z h22) ?_
                          refine xe_sn pg_141 2 (fr' := (124, [(4, .int 3), (0, .ref 165), (1, .int ci), (2, .int rl), (3, .int x)], [.int 3, .ref 165])) rfl ?_
                          refine ze_pn pg_141 rfl rfl ⟨rfl, rfl⟩ (Or.inl rfl) (by decide) ?_
                          refine xe_sn pg_141 1 (fr' := (128, [(4, .int 3), (0, .ref 165), (1, .int ci), (2, .int rl), (3, .int x)], [.ref 165])) rfl ?_
                          refine ze_gi pg_141 3 rfl rfl rfl rfl ?_
                          refine xe_sn pg_141 2 (fr' := (135, [(4, .int 3), (0, .ref 165), (1, .int ci), (2, .int rl), (3, .int x)], [.int 0])) rfl ?_
                          cases hE
                          exact xe_end pg_141 rfl
                        · rw [if_neg h22] at hE
                          refine xe_c2t pg_141 120 rfl rfl h22 ?_
                          refine xe_sn pg_141 1 (fr' := (121, [(4, .int 3), (0, .ref 165), (1, .int ci), (2, .int rl), (3, .int x)], [.ref 165, .ref 165])) rfl ?_
                          refine ze_gi pg_141 0 rfl rfl rfl rfl ?_
                          refine ze_pn pg_141 rfl rfl ⟨rfl, rfl⟩ (Or.inl rfl) (by decide) ?_
                          refine xe_sn pg_141 1 (fr' := (128, [(4, .int 3), (0, .ref 165), (1, .int ci), (2, .int rl), (3, .int x)], [.ref 165])) rfl ?_
                          refine ze_gi pg_141 0 rfl rfl rfl rfl ?_
                          refine xe_sn pg_141 5 (fr' := (140, [(4, .int 3), (0, .ref 165), (1, .int ci), (2, .int rl), (3, .int x)], [.int 3, .int 0, .int 1, .ref 165])) rfl ?_
                          obtain ⟨r16, e16, hE⟩ := Option.bind_eq_some_iff.mp hE
                          refine xe_cv pg_141 114 pg_114 [.int 1, .int 0, .int 3] [] (none) rfl rfl rfl rfl ⟨Nat.le_of_ble_eq_true rfl, Nat.le_of_ble_eq_true rfl, Nat.le_of_ble_eq_true rfl⟩ ⟨rfl, rfl⟩ ⟨by decide, rfl, by decide⟩ (cg_order _ (o := 1) (s := 0) (n := 3)  e16) ?_
                          refine xe_sn pg_141 4 (fr' := (150, [(4, .int 3), (0, .ref 165), (1, .int ci), (2, .int rl), (3, .int x)], [.int rl, .int 7, .ref 187])) rfl ?_
                          refine ze_sb pg_141 7 rfl (by decide) ⟨by decide, by decide⟩ rfl ?_
                          refine xe_sn pg_141 4 (fr' := (157, [(4, .int 3), (0, .ref 165), (1, .int ci), (2, .int rl), (3, .int x)], [.int x, .int 17, .int 8, .ref 165])) rfl ?_
                          obtain ⟨r17, e17, hE⟩ := Option.bind_eq_some_iff.mp hE
                          refine xe_callq pg_141 106 [.int 17, .int x] (.inl (some (.int r17))) (160, [(4, .int 3), (0, .ref 165), (1, .int ci), (2, .int rl), (3, .int x)], [.int r17, .int 8, .ref 165]) rfl (fun _ => rfl) (cg_raiseO _ (a := 17) (e := x)  e17) ?_
                          obtain ⟨r18, e18, hE⟩ := Option.bind_eq_some_iff.mp hE
                          refine xe_cv pg_141 112 pg_112 [.int 8, .int r17] [] (none) rfl rfl rfl rfl ⟨Nat.le_of_ble_eq_true rfl, Nat.le_of_ble_eq_true rfl, Nat.le_of_ble_eq_true rfl⟩ ⟨rfl, rfl⟩ ⟨by decide, rfl, by decide⟩ (cg_putPair _ (k := 8) (v := r17) (by omega) (Option.some.inj e18)) ?_
                          refine xe_sn pg_141 5 (fr' := (170, [(4, .int 3), (0, .ref 165), (1, .int ci), (2, .int rl), (3, .int x)], [.int ci, .ref 168, .int ci, .ref 165])) rfl ?_
                          refine ze_il pg_141 ci.toNatClampNeg (r18.1 168 ci.toNatClampNeg) rfl ⟨by decide, by decide⟩ rfl g4 rfl rfl ?_
                          refine xe_sn pg_141 2 (fr' := (173, [(4, .int 3), (0, .ref 165), (1, .int ci), (2, .int rl), (3, .int x)], [.int ((r18.1 168 ci.toNatClampNeg) - 1), .int ci, .ref 165])) rfl ?_
                          obtain ⟨r19, e19, hE⟩ := Option.bind_eq_some_iff.mp hE
                          refine xe_cv pg_141 123 pg_123 [.int ci, .int ((r18.1 168 ci.toNatClampNeg) - 1)] [] (none) rfl rfl rfl rfl ⟨Nat.le_of_ble_eq_true rfl, Nat.le_of_ble_eq_true rfl, Nat.le_of_ble_eq_true rfl⟩ ⟨rfl, rfl⟩ ⟨by decide, rfl, by decide⟩ (co_P (P := fun z => xc _ 123 [.ref 165, .int z, .int ((r18.1 168 ci.toNatClampNeg) - 1)] _ _) (nI_bnd g4 (by omega)) (cg_clientSends _ (c := ci.toNatClampNeg) (k := ((r18.1 168 ci.toNatClampNeg) - 1)) (bnd_lt g4) e19)) ?_
                          refine xe_sn pg_141 4 (fr' := (182, [(4, .int 3), (0, .ref 165), (1, .int ci), (2, .int rl), (3, .int x)], [.int rl, .int ci, .ref 171])) rfl ?_
                          refine ze_isx pg_141 ci.toNatClampNeg rfl ⟨by decide, by decide⟩ rfl g4 rfl (by decide) ?_
                          refine xe_sn pg_141 4 (fr' := (189, [(4, .int 3), (0, .ref 165), (1, .int ci), (2, .int rl), (3, .int x)], [.int x, .int ci, .ref 172])) rfl ?_
                          refine ze_isx pg_141 ci.toNatClampNeg rfl ⟨by decide, by decide⟩ rfl g4 rfl (by decide) ?_
                          refine xe_sn pg_141 4 (fr' := (196, [(4, .int 3), (0, .ref 165), (1, .int ci), (2, .int rl), (3, .int x)], [.int 1, .int ci, .ref 167])) rfl ?_
                          refine ze_isx pg_141 ci.toNatClampNeg rfl ⟨by decide, by decide⟩ rfl g4 rfl (by decide) ?_
                          refine xe_sn pg_141 1 (fr' := (198, [(4, .int 3), (0, .ref 165), (1, .int ci), (2, .int rl), (3, .int x)], [.ref 165])) rfl ?_
                          refine ze_gi pg_141 (r19.1 165 1) rfl rfl rfl rfl ?_
                          cases hE
                          exact xe_end pg_141 rfl
                      · rw [if_neg h21] at hE
                        refine xe_c2t pg_141 116 rfl rfl h21 ?_
                        refine xe_sn pg_141 2 (fr' := (124, [(4, .int 3), (0, .ref 165), (1, .int ci), (2, .int rl), (3, .int x)], [.int 3, .ref 165])) rfl ?_
                        refine ze_pn pg_141 rfl rfl ⟨rfl, rfl⟩ (Or.inl rfl) (by decide) ?_
                        refine xe_sn pg_141 1 (fr' := (128, [(4, .int 3), (0, .ref 165), (1, .int ci), (2, .int rl), (3, .int x)], [.ref 165])) rfl ?_
                        refine ze_gi pg_141 3 rfl rfl rfl rfl ?_
                        refine xe_sn pg_141 2 (fr' := (135, [(4, .int 3), (0, .ref 165), (1, .int ci), (2, .int rl), (3, .int x)], [.int 0])) rfl ?_
                        cases hE
                        exact xe_end pg_141 rfl
                    · rw [if_neg h20] at hE
                      refine xe_c2f pg_141 88 rfl rfl h20 ?_
                      cases hE

def g_begin (V : xVt) (ci : Int32) (st : Int32) (hp : Int32) : Option xVt := (some (g_isCircuit ci)).bind fun r1 => if r1 = 0 then (some (vn (vn V 165 0 1) 165 0 1)) else ((some (g_in st 1 3)).bind fun r2 => if r2 = 0 then (some (vn (vn V 165 0 1) 165 0 1)) else (if bnd ci 4 then (if (V.1 167 ci.toNatClampNeg) = 2 then ((some (g_in hp 0 ((V.1 168 ci.toNatClampNeg) - 1))).bind fun r3 => if r3 = 0 then (some (vn (vn V 165 0 0) 165 0 2)) else (if bnd ((((3 : Int32) * ci) + st) - 1) 12 then (if (V.1 173 ((((3 : Int32) * ci) + st) - 1).toNatClampNeg) ≤ 0 then ((g_order (vx (vx (vx (vn (vn V 165 0 0) 165 0 0) 173 ((((3 : Int32) * ci) + st) - 1).toNatClampNeg 1) 174 ((((3 : Int32) * ci) + st) - 1).toNatClampNeg hp) 175 ((((3 : Int32) * ci) + st) - 1).toNatClampNeg 0) 3 st 0).bind fun r4 => (g_clientSends r4 ci.toNatClampNeg hp).bind fun r5 => some r5) else (some (vn (vn V 165 0 0) 165 0 2))) else none)) else (some (vn (vn V 165 0 0) 165 0 2))) else none))
set_option maxRecDepth 100000 in
theorem cg_begin (d : Nat) {w : xWd} {S : xSt} {V : xVt} {ρ : Nat → Nat → Int64} {ci : Int32} {st : Int32} {hp : Int32} {r : xVt} (hE : (g_begin V ci st hp) = some r) : xc (d + 4) 142 [.ref 165, .int ci, .int st, .int hp] (hv w S V ρ) (.inl (none), hv w S r ρ) := by
  unfold g_begin at hE
  refine xe_sn pg_142 2 (fr' := (2, [(0, .ref 165), (1, .int ci), (2, .int st), (3, .int hp)], [.int ci, .ref 165])) rfl ?_
  obtain ⟨r1, e1, hE⟩ := Option.bind_eq_some_iff.mp hE
  refine xe_callq pg_142 104 [.int ci] (.inl (some (.int r1))) (5, [(0, .ref 165), (1, .int ci), (2, .int st), (3, .int hp)], [.int r1, .ref 165]) rfl (fun _ => rfl) (cg_isCircuit _ (v := ci)  (Option.some.inj e1)) ?_
  by_cases h1 : r1 = 0
  · rw [if_pos h1] at hE
    refine xe_c1t pg_142 17 rfl rfl h1 ?_
    refine xe_sn pg_142 2 (fr' := (22, [(0, .ref 165), (1, .int ci), (2, .int st), (3, .int hp)], [.int 1, .ref 165])) rfl ?_
    refine ze_pn pg_142 rfl rfl ⟨rfl, rfl⟩ (Or.inl rfl) (by decide) ?_
    refine xe_sn pg_142 1 (fr' := (26, [(0, .ref 165), (1, .int ci), (2, .int st), (3, .int hp)], [.ref 165])) rfl ?_
    refine ze_gi pg_142 1 rfl rfl rfl rfl ?_
    refine xe_sn pg_142 5 (fr' := (47, [(4, .int 0), (0, .ref 165), (1, .int ci), (2, .int st), (3, .int hp)], [.ref 165, .ref 165])) rfl ?_
    refine ze_gi pg_142 1 rfl rfl rfl rfl ?_
    refine xe_sn pg_142 2 (fr' := (94, [(4, .int 0), (0, .ref 165), (1, .int ci), (2, .int st), (3, .int hp)], [.ref 165, .ref 165])) rfl ?_
    refine ze_gi pg_142 1 rfl rfl rfl rfl ?_
    refine ze_pn pg_142 rfl rfl ⟨rfl, rfl⟩ (Or.inl rfl) (by decide) ?_
    refine xe_sn pg_142 1 (fr' := (101, [(4, .int 0), (0, .ref 165), (1, .int ci), (2, .int st), (3, .int hp)], [.ref 165])) rfl ?_
    refine ze_gi pg_142 1 rfl rfl rfl rfl ?_
    refine xe_sn pg_142 1 (fr' := (144, [(4, .int 0), (0, .ref 165), (1, .int ci), (2, .int st), (3, .int hp)], [])) rfl ?_
    cases hE
    exact xe_end pg_142 rfl
  · rw [if_neg h1] at hE
    refine xe_c1f pg_142 17 rfl rfl h1 ?_
    refine xe_sn pg_142 3 (fr' := (11, [(0, .ref 165), (1, .int ci), (2, .int st), (3, .int hp)], [.int 3, .int 1, .int st, .ref 165])) rfl ?_
    obtain ⟨r2, e2, hE⟩ := Option.bind_eq_some_iff.mp hE
    refine xe_callq pg_142 103 [.int st, .int 1, .int 3] (.inl (some (.int r2))) (14, [(0, .ref 165), (1, .int ci), (2, .int st), (3, .int hp)], [.int r2, .ref 165]) rfl (fun _ => rfl) (cg_in _ (v := st) (l := 1) (h := 3)  (Option.some.inj e2)) ?_
    by_cases h2 : r2 = 0
    · rw [if_pos h2] at hE
      refine xe_c1f pg_142 21 rfl rfl (fun z => z h2) ?_
      refine xe_sn pg_142 2 (fr' := (22, [(0, .ref 165), (1, .int ci), (2, .int st), (3, .int hp)], [.int 1, .ref 165])) rfl ?_
      refine ze_pn pg_142 rfl rfl ⟨rfl, rfl⟩ (Or.inl rfl) (by decide) ?_
      refine xe_sn pg_142 1 (fr' := (26, [(0, .ref 165), (1, .int ci), (2, .int st), (3, .int hp)], [.ref 165])) rfl ?_
      refine ze_gi pg_142 1 rfl rfl rfl rfl ?_
      refine xe_sn pg_142 5 (fr' := (47, [(4, .int 0), (0, .ref 165), (1, .int ci), (2, .int st), (3, .int hp)], [.ref 165, .ref 165])) rfl ?_
      refine ze_gi pg_142 1 rfl rfl rfl rfl ?_
      refine xe_sn pg_142 2 (fr' := (94, [(4, .int 0), (0, .ref 165), (1, .int ci), (2, .int st), (3, .int hp)], [.ref 165, .ref 165])) rfl ?_
      refine ze_gi pg_142 1 rfl rfl rfl rfl ?_
      refine ze_pn pg_142 rfl rfl ⟨rfl, rfl⟩ (Or.inl rfl) (by decide) ?_
      refine xe_sn pg_142 1 (fr' := (101, [(4, .int 0), (0, .ref 165), (1, .int ci), (2, .int st), (3, .int hp)], [.ref 165])) rfl ?_
      refine ze_gi pg_142 1 rfl rfl rfl rfl ?_
      refine xe_sn pg_142 1 (fr' := (144, [(4, .int 0), (0, .ref 165), (1, .int ci), (2, .int st), (3, .int hp)], [])) rfl ?_
      cases hE
      exact xe_end pg_142 rfl
    · rw [if_neg h2] at hE
      refine xe_c1t pg_142 21 rfl rfl h2 ?_
      refine xe_sn pg_142 1 (fr' := (22, [(0, .ref 165), (1, .int ci), (2, .int st), (3, .int hp)], [.int 0, .ref 165])) rfl ?_
      refine ze_pn pg_142 rfl rfl ⟨rfl, rfl⟩ (Or.inl rfl) (by decide) ?_
      refine xe_sn pg_142 1 (fr' := (26, [(0, .ref 165), (1, .int ci), (2, .int st), (3, .int hp)], [.ref 165])) rfl ?_
      refine ze_gi pg_142 0 rfl rfl rfl rfl ?_
      refine xe_sn pg_142 9 (fr' := (43, [(0, .ref 165), (1, .int ci), (2, .int st), (3, .int hp)], [.int ((((3 : Int32) * ci) + st) - 1)])) rfl ?_
      refine xe_sn pg_142 3 (fr' := (47, [(4, .int ((((3 : Int32) * ci) + st) - 1)), (0, .ref 165), (1, .int ci), (2, .int st), (3, .int hp)], [.ref 165, .ref 165])) rfl ?_
      refine ze_gi pg_142 0 rfl rfl rfl rfl ?_
      refine xe_sn pg_142 4 (fr' := (58, [(4, .int ((((3 : Int32) * ci) + st) - 1)), (0, .ref 165), (1, .int ci), (2, .int st), (3, .int hp)], [.int ci, .ref 167, .ref 165])) rfl ?_
      by_cases g3 : bnd ci 4
      case neg => rw [if_neg g3] at hE; cases hE
      rw [if_pos g3] at hE
      have g3l := bnd_lt g3
      refine ze_il pg_142 ci.toNatClampNeg (V.1 167 ci.toNatClampNeg) rfl ⟨by decide, by decide⟩ rfl g3 rfl rfl ?_
      refine xe_sn pg_142 1 (fr' := (60, [(4, .int ((((3 : Int32) * ci) + st) - 1)), (0, .ref 165), (1, .int ci), (2, .int st), (3, .int hp)], [.int 2, .int (V.1 167 ci.toNatClampNeg), .ref 165])) rfl ?_
      by_cases h4 : (V.1 167 ci.toNatClampNeg) = 2
      · rw [if_pos h4] at hE
        refine xe_c2f pg_142 89 rfl rfl (fun z => z h4) ?_
        refine xe_sn pg_142 5 (fr' := (70, [(4, .int ((((3 : Int32) * ci) + st) - 1)), (0, .ref 165), (1, .int ci), (2, .int st), (3, .int hp)], [.int ci, .ref 168, .int 0, .int hp, .ref 165])) rfl ?_
        refine ze_il pg_142 ci.toNatClampNeg (V.1 168 ci.toNatClampNeg) rfl ⟨by decide, by decide⟩ rfl g3 rfl rfl ?_
        refine xe_sn pg_142 2 (fr' := (73, [(4, .int ((((3 : Int32) * ci) + st) - 1)), (0, .ref 165), (1, .int ci), (2, .int st), (3, .int hp)], [.int ((V.1 168 ci.toNatClampNeg) - 1), .int 0, .int hp, .ref 165])) rfl ?_
        obtain ⟨r3, e3, hE⟩ := Option.bind_eq_some_iff.mp hE
        refine xe_callq pg_142 103 [.int hp, .int 0, .int ((V.1 168 ci.toNatClampNeg) - 1)] (.inl (some (.int r3))) (76, [(4, .int ((((3 : Int32) * ci) + st) - 1)), (0, .ref 165), (1, .int ci), (2, .int st), (3, .int hp)], [.int r3, .ref 165]) rfl (fun _ => rfl) (cg_in _ (v := hp) (l := 0) (h := ((V.1 168 ci.toNatClampNeg) - 1))  (Option.some.inj e3)) ?_
        by_cases h5 : r3 = 0
        · rw [if_pos h5] at hE
          refine xe_c1t pg_142 89 rfl rfl h5 ?_
          refine xe_sn pg_142 2 (fr' := (97, [(4, .int ((((3 : Int32) * ci) + st) - 1)), (0, .ref 165), (1, .int ci), (2, .int st), (3, .int hp)], [.int 2, .ref 165])) rfl ?_
          refine ze_pn pg_142 rfl rfl ⟨rfl, rfl⟩ (Or.inl rfl) (by decide) ?_
          refine xe_sn pg_142 1 (fr' := (101, [(4, .int ((((3 : Int32) * ci) + st) - 1)), (0, .ref 165), (1, .int ci), (2, .int st), (3, .int hp)], [.ref 165])) rfl ?_
          refine ze_gi pg_142 2 rfl rfl rfl rfl ?_
          refine xe_sn pg_142 1 (fr' := (144, [(4, .int ((((3 : Int32) * ci) + st) - 1)), (0, .ref 165), (1, .int ci), (2, .int st), (3, .int hp)], [])) rfl ?_
          cases hE
          exact xe_end pg_142 rfl
        · rw [if_neg h5] at hE
          refine xe_c1f pg_142 89 rfl rfl h5 ?_
          refine xe_sn pg_142 3 (fr' := (85, [(4, .int ((((3 : Int32) * ci) + st) - 1)), (0, .ref 165), (1, .int ci), (2, .int st), (3, .int hp)], [.int ((((3 : Int32) * ci) + st) - 1), .ref 173, .ref 165])) rfl ?_
          by_cases g6 : bnd ((((3 : Int32) * ci) + st) - 1) 12
          case neg => rw [if_neg g6] at hE; cases hE
          rw [if_pos g6] at hE
          have g6l := bnd_lt g6
          refine ze_il pg_142 ((((3 : Int32) * ci) + st) - 1).toNatClampNeg (V.1 173 ((((3 : Int32) * ci) + st) - 1).toNatClampNeg) rfl ⟨by decide, by decide⟩ rfl g6 rfl rfl ?_
          by_cases h7 : (V.1 173 ((((3 : Int32) * ci) + st) - 1).toNatClampNeg) ≤ 0
          · rw [if_pos h7] at hE
            refine xe_c1t pg_142 93 rfl rfl h7 ?_
            refine xe_sn pg_142 1 (fr' := (94, [(4, .int ((((3 : Int32) * ci) + st) - 1)), (0, .ref 165), (1, .int ci), (2, .int st), (3, .int hp)], [.ref 165, .ref 165])) rfl ?_
            refine ze_gi pg_142 0 rfl rfl rfl rfl ?_
            refine ze_pn pg_142 rfl rfl ⟨rfl, rfl⟩ (Or.inl rfl) (by decide) ?_
            refine xe_sn pg_142 1 (fr' := (101, [(4, .int ((((3 : Int32) * ci) + st) - 1)), (0, .ref 165), (1, .int ci), (2, .int st), (3, .int hp)], [.ref 165])) rfl ?_
            refine ze_gi pg_142 0 rfl rfl rfl rfl ?_
            refine xe_sn pg_142 5 (fr' := (114, [(4, .int ((((3 : Int32) * ci) + st) - 1)), (0, .ref 165), (1, .int ci), (2, .int st), (3, .int hp)], [.int 1, .int ((((3 : Int32) * ci) + st) - 1), .ref 173])) rfl ?_
            refine ze_isx pg_142 ((((3 : Int32) * ci) + st) - 1).toNatClampNeg rfl ⟨by decide, by decide⟩ rfl g6 rfl (by decide) ?_
            refine xe_sn pg_142 4 (fr' := (122, [(4, .int ((((3 : Int32) * ci) + st) - 1)), (0, .ref 165), (1, .int ci), (2, .int st), (3, .int hp)], [.int hp, .int ((((3 : Int32) * ci) + st) - 1), .ref 174])) rfl ?_
            refine ze_isx pg_142 ((((3 : Int32) * ci) + st) - 1).toNatClampNeg rfl ⟨by decide, by decide⟩ rfl g6 rfl (by decide) ?_
            refine xe_sn pg_142 4 (fr' := (130, [(4, .int ((((3 : Int32) * ci) + st) - 1)), (0, .ref 165), (1, .int ci), (2, .int st), (3, .int hp)], [.int 0, .int ((((3 : Int32) * ci) + st) - 1), .ref 175])) rfl ?_
            refine ze_isx pg_142 ((((3 : Int32) * ci) + st) - 1).toNatClampNeg rfl ⟨by decide, by decide⟩ rfl g6 rfl (by decide) ?_
            refine xe_sn pg_142 4 (fr' := (135, [(4, .int ((((3 : Int32) * ci) + st) - 1)), (0, .ref 165), (1, .int ci), (2, .int st), (3, .int hp)], [.int 0, .int st, .int 3, .ref 165])) rfl ?_
            obtain ⟨r4, e4, hE⟩ := Option.bind_eq_some_iff.mp hE
            refine xe_cv pg_142 114 pg_114 [.int 3, .int st, .int 0] [] (none) rfl rfl rfl rfl ⟨Nat.le_of_ble_eq_true rfl, Nat.le_of_ble_eq_true rfl, Nat.le_of_ble_eq_true rfl⟩ ⟨rfl, rfl⟩ ⟨by decide, rfl, by decide⟩ (cg_order _ (o := 3) (s := st) (n := 0)  e4) ?_
            refine xe_sn pg_142 3 (fr' := (141, [(4, .int ((((3 : Int32) * ci) + st) - 1)), (0, .ref 165), (1, .int ci), (2, .int st), (3, .int hp)], [.int hp, .int ci, .ref 165])) rfl ?_
            obtain ⟨r5, e5, hE⟩ := Option.bind_eq_some_iff.mp hE
            refine xe_cv pg_142 123 pg_123 [.int ci, .int hp] [] (none) rfl rfl rfl rfl ⟨Nat.le_of_ble_eq_true rfl, Nat.le_of_ble_eq_true rfl, Nat.le_of_ble_eq_true rfl⟩ ⟨rfl, rfl⟩ ⟨by decide, rfl, by decide⟩ (co_P (P := fun z => xc _ 123 [.ref 165, .int z, .int hp] _ _) (nI_bnd g3 (by omega)) (cg_clientSends _ (c := ci.toNatClampNeg) (k := hp) (bnd_lt g3) e5)) ?_
            cases hE
            exact xe_end pg_142 rfl
          · rw [if_neg h7] at hE
            refine xe_c1f pg_142 93 rfl rfl h7 ?_
            refine xe_sn pg_142 2 (fr' := (97, [(4, .int ((((3 : Int32) * ci) + st) - 1)), (0, .ref 165), (1, .int ci), (2, .int st), (3, .int hp)], [.int 2, .ref 165])) rfl ?_
            refine ze_pn pg_142 rfl rfl ⟨rfl, rfl⟩ (Or.inl rfl) (by decide) ?_
            refine xe_sn pg_142 1 (fr' := (101, [(4, .int ((((3 : Int32) * ci) + st) - 1)), (0, .ref 165), (1, .int ci), (2, .int st), (3, .int hp)], [.ref 165])) rfl ?_
            refine ze_gi pg_142 2 rfl rfl rfl rfl ?_
            refine xe_sn pg_142 1 (fr' := (144, [(4, .int ((((3 : Int32) * ci) + st) - 1)), (0, .ref 165), (1, .int ci), (2, .int st), (3, .int hp)], [])) rfl ?_
            cases hE
            exact xe_end pg_142 rfl
      · rw [if_neg h4] at hE
        refine xe_c2t pg_142 89 rfl rfl h4 ?_
        refine xe_sn pg_142 2 (fr' := (97, [(4, .int ((((3 : Int32) * ci) + st) - 1)), (0, .ref 165), (1, .int ci), (2, .int st), (3, .int hp)], [.int 2, .ref 165])) rfl ?_
        refine ze_pn pg_142 rfl rfl ⟨rfl, rfl⟩ (Or.inl rfl) (by decide) ?_
        refine xe_sn pg_142 1 (fr' := (101, [(4, .int ((((3 : Int32) * ci) + st) - 1)), (0, .ref 165), (1, .int ci), (2, .int st), (3, .int hp)], [.ref 165])) rfl ?_
        refine ze_gi pg_142 2 rfl rfl rfl rfl ?_
        refine xe_sn pg_142 1 (fr' := (144, [(4, .int ((((3 : Int32) * ci) + st) - 1)), (0, .ref 165), (1, .int ci), (2, .int st), (3, .int hp)], [])) rfl ?_
        cases hE
        exact xe_end pg_142 rfl

def g_send (V : xVt) (ci : Int32) (st : Int32) (n : Int32) (v : Int32) : Option (Int32 × xVt) := (some (g_isCircuit ci)).bind fun r1 => if r1 = 0 then (some (0, (vn (vn V 165 0 1) 165 0 1))) else ((some (g_in st 1 3)).bind fun r2 => if r2 = 0 then (some (0, (vn (vn V 165 0 1) 165 0 1))) else ((some (g_in n 0 7)).bind fun r3 => if r3 = 0 then (some (0, (vn (vn V 165 0 2) 165 0 2))) else ((some (g_in v 0 255)).bind fun r4 => if r4 = 0 then (some (0, (vn (vn V 165 0 2) 165 0 2))) else (if bnd ((((3 : Int32) * ci) + st) - 1) 12 then (if (V.1 173 ((((3 : Int32) * ci) + st) - 1).toNatClampNeg) = 2 then (if (V.1 175 ((((3 : Int32) * ci) + st) - 1).toNatClampNeg) = 0 then (some (0, (vn (vn V 165 0 0) 165 0 3))) else ((g_order (vn (vn V 165 0 0) 165 0 0) 5 st n).bind fun r5 => if bnd n 8 then (if bnd ci 4 then ((g_clientSends (vbs r5 (sfill r5.2.2.2 v n.toNatClampNeg)) ci.toNatClampNeg ((vbs r5 (sfill r5.2.2.2 v n.toNatClampNeg)).1 174 ((((3 : Int32) * ci) + st) - 1).toNatClampNeg)).bind fun r6 => some (((r6.1 175 ((((3 : Int32) * ci) + st) - 1).toNatClampNeg) - 1), (vx r6 175 ((((3 : Int32) * ci) + st) - 1).toNatClampNeg ((r6.1 175 ((((3 : Int32) * ci) + st) - 1).toNatClampNeg) - 1)))) else none) else none)) else (some (0, (vn (vn V 165 0 0) 165 0 3)))) else none))))
set_option maxRecDepth 100000 in
theorem cg_send (d : Nat) {w : xWd} {S : xSt} {V : xVt} {ρ : Nat → Nat → Int64} {ci : Int32} {st : Int32} {n : Int32} {v : Int32} {r : Int32 × xVt} (hE : (g_send V ci st n v) = some r) : xc (d + 4) 143 [.ref 165, .int ci, .int st, .int n, .int v] (hv w S V ρ) (.inl (some (.int r.1)), hv w S r.2 ρ) := by
  unfold g_send at hE
  refine xe_sn pg_143 2 (fr' := (2, [(0, .ref 165), (1, .int ci), (2, .int st), (3, .int n), (4, .int v)], [.int ci, .ref 165])) rfl ?_
  obtain ⟨r1, e1, hE⟩ := Option.bind_eq_some_iff.mp hE
  refine xe_callq pg_143 104 [.int ci] (.inl (some (.int r1))) (5, [(0, .ref 165), (1, .int ci), (2, .int st), (3, .int n), (4, .int v)], [.int r1, .ref 165]) rfl (fun _ => rfl) (cg_isCircuit _ (v := ci)  (Option.some.inj e1)) ?_
  by_cases h1 : r1 = 0
  · rw [if_pos h1] at hE
    refine xe_c1t pg_143 17 rfl rfl h1 ?_
    refine xe_sn pg_143 2 (fr' := (48, [(0, .ref 165), (1, .int ci), (2, .int st), (3, .int n), (4, .int v)], [.int 1, .ref 165])) rfl ?_
    refine ze_pn pg_143 rfl rfl ⟨rfl, rfl⟩ (Or.inl rfl) (by decide) ?_
    refine xe_sn pg_143 1 (fr' := (52, [(0, .ref 165), (1, .int ci), (2, .int st), (3, .int n), (4, .int v)], [.ref 165])) rfl ?_
    refine ze_gi pg_143 1 rfl rfl rfl rfl ?_
    refine xe_sn pg_143 5 (fr' := (73, [(5, .int 0), (0, .ref 165), (1, .int ci), (2, .int st), (3, .int n), (4, .int v)], [.ref 165, .ref 165])) rfl ?_
    refine ze_gi pg_143 1 rfl rfl rfl rfl ?_
    refine xe_sn pg_143 2 (fr' := (105, [(5, .int 0), (0, .ref 165), (1, .int ci), (2, .int st), (3, .int n), (4, .int v)], [.ref 165, .ref 165])) rfl ?_
    refine ze_gi pg_143 1 rfl rfl rfl rfl ?_
    refine ze_pn pg_143 rfl rfl ⟨rfl, rfl⟩ (Or.inl rfl) (by decide) ?_
    refine xe_sn pg_143 1 (fr' := (112, [(5, .int 0), (0, .ref 165), (1, .int ci), (2, .int st), (3, .int n), (4, .int v)], [.ref 165])) rfl ?_
    refine ze_gi pg_143 1 rfl rfl rfl rfl ?_
    refine xe_sn pg_143 2 (fr' := (119, [(5, .int 0), (0, .ref 165), (1, .int ci), (2, .int st), (3, .int n), (4, .int v)], [.int 0])) rfl ?_
    cases hE
    exact xe_end pg_143 rfl
  · rw [if_neg h1] at hE
    refine xe_c1f pg_143 17 rfl rfl h1 ?_
    refine xe_sn pg_143 3 (fr' := (11, [(0, .ref 165), (1, .int ci), (2, .int st), (3, .int n), (4, .int v)], [.int 3, .int 1, .int st, .ref 165])) rfl ?_
    obtain ⟨r2, e2, hE⟩ := Option.bind_eq_some_iff.mp hE
    refine xe_callq pg_143 103 [.int st, .int 1, .int 3] (.inl (some (.int r2))) (14, [(0, .ref 165), (1, .int ci), (2, .int st), (3, .int n), (4, .int v)], [.int r2, .ref 165]) rfl (fun _ => rfl) (cg_in _ (v := st) (l := 1) (h := 3)  (Option.some.inj e2)) ?_
    by_cases h2 : r2 = 0
    · rw [if_pos h2] at hE
      refine xe_c1f pg_143 21 rfl rfl (fun z => z h2) ?_
      refine xe_sn pg_143 2 (fr' := (48, [(0, .ref 165), (1, .int ci), (2, .int st), (3, .int n), (4, .int v)], [.int 1, .ref 165])) rfl ?_
      refine ze_pn pg_143 rfl rfl ⟨rfl, rfl⟩ (Or.inl rfl) (by decide) ?_
      refine xe_sn pg_143 1 (fr' := (52, [(0, .ref 165), (1, .int ci), (2, .int st), (3, .int n), (4, .int v)], [.ref 165])) rfl ?_
      refine ze_gi pg_143 1 rfl rfl rfl rfl ?_
      refine xe_sn pg_143 5 (fr' := (73, [(5, .int 0), (0, .ref 165), (1, .int ci), (2, .int st), (3, .int n), (4, .int v)], [.ref 165, .ref 165])) rfl ?_
      refine ze_gi pg_143 1 rfl rfl rfl rfl ?_
      refine xe_sn pg_143 2 (fr' := (105, [(5, .int 0), (0, .ref 165), (1, .int ci), (2, .int st), (3, .int n), (4, .int v)], [.ref 165, .ref 165])) rfl ?_
      refine ze_gi pg_143 1 rfl rfl rfl rfl ?_
      refine ze_pn pg_143 rfl rfl ⟨rfl, rfl⟩ (Or.inl rfl) (by decide) ?_
      refine xe_sn pg_143 1 (fr' := (112, [(5, .int 0), (0, .ref 165), (1, .int ci), (2, .int st), (3, .int n), (4, .int v)], [.ref 165])) rfl ?_
      refine ze_gi pg_143 1 rfl rfl rfl rfl ?_
      refine xe_sn pg_143 2 (fr' := (119, [(5, .int 0), (0, .ref 165), (1, .int ci), (2, .int st), (3, .int n), (4, .int v)], [.int 0])) rfl ?_
      cases hE
      exact xe_end pg_143 rfl
    · rw [if_neg h2] at hE
      refine xe_c1t pg_143 21 rfl rfl h2 ?_
      refine xe_sn pg_143 3 (fr' := (25, [(0, .ref 165), (1, .int ci), (2, .int st), (3, .int n), (4, .int v)], [.int 7, .int 0, .int n, .ref 165])) rfl ?_
      obtain ⟨r3, e3, hE⟩ := Option.bind_eq_some_iff.mp hE
      refine xe_callq pg_143 103 [.int n, .int 0, .int 7] (.inl (some (.int r3))) (28, [(0, .ref 165), (1, .int ci), (2, .int st), (3, .int n), (4, .int v)], [.int r3, .ref 165]) rfl (fun _ => rfl) (cg_in _ (v := n) (l := 0) (h := 7)  (Option.some.inj e3)) ?_
      by_cases h3 : r3 = 0
      · rw [if_pos h3] at hE
        refine xe_c1t pg_143 43 rfl rfl h3 ?_
        refine xe_sn pg_143 2 (fr' := (48, [(0, .ref 165), (1, .int ci), (2, .int st), (3, .int n), (4, .int v)], [.int 2, .ref 165])) rfl ?_
        refine ze_pn pg_143 rfl rfl ⟨rfl, rfl⟩ (Or.inl rfl) (by decide) ?_
        refine xe_sn pg_143 1 (fr' := (52, [(0, .ref 165), (1, .int ci), (2, .int st), (3, .int n), (4, .int v)], [.ref 165])) rfl ?_
        refine ze_gi pg_143 2 rfl rfl rfl rfl ?_
        refine xe_sn pg_143 5 (fr' := (73, [(5, .int 0), (0, .ref 165), (1, .int ci), (2, .int st), (3, .int n), (4, .int v)], [.ref 165, .ref 165])) rfl ?_
        refine ze_gi pg_143 2 rfl rfl rfl rfl ?_
        refine xe_sn pg_143 2 (fr' := (105, [(5, .int 0), (0, .ref 165), (1, .int ci), (2, .int st), (3, .int n), (4, .int v)], [.ref 165, .ref 165])) rfl ?_
        refine ze_gi pg_143 2 rfl rfl rfl rfl ?_
        refine ze_pn pg_143 rfl rfl ⟨rfl, rfl⟩ (Or.inl rfl) (by decide) ?_
        refine xe_sn pg_143 1 (fr' := (112, [(5, .int 0), (0, .ref 165), (1, .int ci), (2, .int st), (3, .int n), (4, .int v)], [.ref 165])) rfl ?_
        refine ze_gi pg_143 2 rfl rfl rfl rfl ?_
        refine xe_sn pg_143 2 (fr' := (119, [(5, .int 0), (0, .ref 165), (1, .int ci), (2, .int st), (3, .int n), (4, .int v)], [.int 0])) rfl ?_
        cases hE
        exact xe_end pg_143 rfl
      · rw [if_neg h3] at hE
        refine xe_c1f pg_143 43 rfl rfl h3 ?_
        refine xe_sn pg_143 3 (fr' := (37, [(0, .ref 165), (1, .int ci), (2, .int st), (3, .int n), (4, .int v)], [.int 255, .int 0, .int v, .ref 165])) rfl ?_
        obtain ⟨r4, e4, hE⟩ := Option.bind_eq_some_iff.mp hE
        refine xe_callq pg_143 103 [.int v, .int 0, .int 255] (.inl (some (.int r4))) (40, [(0, .ref 165), (1, .int ci), (2, .int st), (3, .int n), (4, .int v)], [.int r4, .ref 165]) rfl (fun _ => rfl) (cg_in _ (v := v) (l := 0) (h := 255)  (Option.some.inj e4)) ?_
        by_cases h4 : r4 = 0
        · rw [if_pos h4] at hE
          refine xe_c1f pg_143 47 rfl rfl (fun z => z h4) ?_
          refine xe_sn pg_143 2 (fr' := (48, [(0, .ref 165), (1, .int ci), (2, .int st), (3, .int n), (4, .int v)], [.int 2, .ref 165])) rfl ?_
          refine ze_pn pg_143 rfl rfl ⟨rfl, rfl⟩ (Or.inl rfl) (by decide) ?_
          refine xe_sn pg_143 1 (fr' := (52, [(0, .ref 165), (1, .int ci), (2, .int st), (3, .int n), (4, .int v)], [.ref 165])) rfl ?_
          refine ze_gi pg_143 2 rfl rfl rfl rfl ?_
          refine xe_sn pg_143 5 (fr' := (73, [(5, .int 0), (0, .ref 165), (1, .int ci), (2, .int st), (3, .int n), (4, .int v)], [.ref 165, .ref 165])) rfl ?_
          refine ze_gi pg_143 2 rfl rfl rfl rfl ?_
          refine xe_sn pg_143 2 (fr' := (105, [(5, .int 0), (0, .ref 165), (1, .int ci), (2, .int st), (3, .int n), (4, .int v)], [.ref 165, .ref 165])) rfl ?_
          refine ze_gi pg_143 2 rfl rfl rfl rfl ?_
          refine ze_pn pg_143 rfl rfl ⟨rfl, rfl⟩ (Or.inl rfl) (by decide) ?_
          refine xe_sn pg_143 1 (fr' := (112, [(5, .int 0), (0, .ref 165), (1, .int ci), (2, .int st), (3, .int n), (4, .int v)], [.ref 165])) rfl ?_
          refine ze_gi pg_143 2 rfl rfl rfl rfl ?_
          refine xe_sn pg_143 2 (fr' := (119, [(5, .int 0), (0, .ref 165), (1, .int ci), (2, .int st), (3, .int n), (4, .int v)], [.int 0])) rfl ?_
          cases hE
          exact xe_end pg_143 rfl
        · rw [if_neg h4] at hE
          refine xe_c1t pg_143 47 rfl rfl h4 ?_
          refine xe_sn pg_143 1 (fr' := (48, [(0, .ref 165), (1, .int ci), (2, .int st), (3, .int n), (4, .int v)], [.int 0, .ref 165])) rfl ?_
          refine ze_pn pg_143 rfl rfl ⟨rfl, rfl⟩ (Or.inl rfl) (by decide) ?_
          refine xe_sn pg_143 1 (fr' := (52, [(0, .ref 165), (1, .int ci), (2, .int st), (3, .int n), (4, .int v)], [.ref 165])) rfl ?_
          refine ze_gi pg_143 0 rfl rfl rfl rfl ?_
          refine xe_sn pg_143 9 (fr' := (69, [(0, .ref 165), (1, .int ci), (2, .int st), (3, .int n), (4, .int v)], [.int ((((3 : Int32) * ci) + st) - 1)])) rfl ?_
          refine xe_sn pg_143 3 (fr' := (73, [(5, .int ((((3 : Int32) * ci) + st) - 1)), (0, .ref 165), (1, .int ci), (2, .int st), (3, .int n), (4, .int v)], [.ref 165, .ref 165])) rfl ?_
          refine ze_gi pg_143 0 rfl rfl rfl rfl ?_
          refine xe_sn pg_143 4 (fr' := (85, [(5, .int ((((3 : Int32) * ci) + st) - 1)), (0, .ref 165), (1, .int ci), (2, .int st), (3, .int n), (4, .int v)], [.int ((((3 : Int32) * ci) + st) - 1), .ref 173, .ref 165])) rfl ?_
          by_cases g5 : bnd ((((3 : Int32) * ci) + st) - 1) 12
          case neg => rw [if_neg g5] at hE; cases hE
          rw [if_pos g5] at hE
          have g5l := bnd_lt g5
          refine ze_il pg_143 ((((3 : Int32) * ci) + st) - 1).toNatClampNeg (V.1 173 ((((3 : Int32) * ci) + st) - 1).toNatClampNeg) rfl ⟨by decide, by decide⟩ rfl g5 rfl rfl ?_
          refine xe_sn pg_143 1 (fr' := (87, [(5, .int ((((3 : Int32) * ci) + st) - 1)), (0, .ref 165), (1, .int ci), (2, .int st), (3, .int n), (4, .int v)], [.int 2, .int (V.1 173 ((((3 : Int32) * ci) + st) - 1).toNatClampNeg), .ref 165])) rfl ?_
          by_cases h6 : (V.1 173 ((((3 : Int32) * ci) + st) - 1).toNatClampNeg) = 2
          · rw [if_pos h6] at hE
            refine xe_c2f pg_143 100 rfl rfl (fun z => z h6) ?_
            refine xe_sn pg_143 3 (fr' := (96, [(5, .int ((((3 : Int32) * ci) + st) - 1)), (0, .ref 165), (1, .int ci), (2, .int st), (3, .int n), (4, .int v)], [.int ((((3 : Int32) * ci) + st) - 1), .ref 175, .ref 165])) rfl ?_
            refine ze_il pg_143 ((((3 : Int32) * ci) + st) - 1).toNatClampNeg (V.1 175 ((((3 : Int32) * ci) + st) - 1).toNatClampNeg) rfl ⟨by decide, by decide⟩ rfl g5 rfl rfl ?_
            by_cases h7 : (V.1 175 ((((3 : Int32) * ci) + st) - 1).toNatClampNeg) = 0
            · rw [if_pos h7] at hE
              refine xe_c1f pg_143 104 rfl rfl (fun z => z h7) ?_
              refine xe_sn pg_143 2 (fr' := (108, [(5, .int ((((3 : Int32) * ci) + st) - 1)), (0, .ref 165), (1, .int ci), (2, .int st), (3, .int n), (4, .int v)], [.int 3, .ref 165])) rfl ?_
              refine ze_pn pg_143 rfl rfl ⟨rfl, rfl⟩ (Or.inl rfl) (by decide) ?_
              refine xe_sn pg_143 1 (fr' := (112, [(5, .int ((((3 : Int32) * ci) + st) - 1)), (0, .ref 165), (1, .int ci), (2, .int st), (3, .int n), (4, .int v)], [.ref 165])) rfl ?_
              refine ze_gi pg_143 3 rfl rfl rfl rfl ?_
              refine xe_sn pg_143 2 (fr' := (119, [(5, .int ((((3 : Int32) * ci) + st) - 1)), (0, .ref 165), (1, .int ci), (2, .int st), (3, .int n), (4, .int v)], [.int 0])) rfl ?_
              cases hE
              exact xe_end pg_143 rfl
            · rw [if_neg h7] at hE
              refine xe_c1t pg_143 104 rfl rfl h7 ?_
              refine xe_sn pg_143 1 (fr' := (105, [(5, .int ((((3 : Int32) * ci) + st) - 1)), (0, .ref 165), (1, .int ci), (2, .int st), (3, .int n), (4, .int v)], [.ref 165, .ref 165])) rfl ?_
              refine ze_gi pg_143 0 rfl rfl rfl rfl ?_
              refine ze_pn pg_143 rfl rfl ⟨rfl, rfl⟩ (Or.inl rfl) (by decide) ?_
              refine xe_sn pg_143 1 (fr' := (112, [(5, .int ((((3 : Int32) * ci) + st) - 1)), (0, .ref 165), (1, .int ci), (2, .int st), (3, .int n), (4, .int v)], [.ref 165])) rfl ?_
              refine ze_gi pg_143 0 rfl rfl rfl rfl ?_
              refine xe_sn pg_143 5 (fr' := (124, [(5, .int ((((3 : Int32) * ci) + st) - 1)), (0, .ref 165), (1, .int ci), (2, .int st), (3, .int n), (4, .int v)], [.int n, .int st, .int 5, .ref 165])) rfl ?_
              obtain ⟨r5, e5, hE⟩ := Option.bind_eq_some_iff.mp hE
              refine xe_cv pg_143 114 pg_114 [.int 5, .int st, .int n] [] (none) rfl rfl rfl rfl ⟨Nat.le_of_ble_eq_true rfl, Nat.le_of_ble_eq_true rfl, Nat.le_of_ble_eq_true rfl⟩ ⟨rfl, rfl⟩ ⟨by decide, rfl, by decide⟩ (cg_order _ (o := 5) (s := st) (n := n)  e5) ?_
              refine xe_sn pg_143 2 (fr' := (130, [(6, .int 0), (5, .int ((((3 : Int32) * ci) + st) - 1)), (0, .ref 165), (1, .int ci), (2, .int st), (3, .int n), (4, .int v)], [])) rfl ?_
              by_cases gn : bnd n 8
              case neg => rw [if_neg gn] at hE; cases hE
              rw [if_pos gn] at hE
              have gnl := bnd_lt gn
              have q9 := fun dd z z2 => lp_msend (r := z) dd (w := w) (S := S) (V := r5) (ρ := ρ) (ci := ci) (sr := st) (t := ((((3 : Int32) * ci) + st) - 1)) (v := v) (m := n.toNatClampNeg) (by have := bnd_lt gn; omega) z2 n.toNatClampNeg 0 (by omega)
              rw [sfill_0, vbs_self, ← nI_bnd gn (by omega)] at q9
              refine q9 _ _ ?_
              refine xe_sn pg_143 5 (fr' := (169, [(6, .int n), (5, .int ((((3 : Int32) * ci) + st) - 1)), (0, .ref 165), (1, .int ci), (2, .int st), (3, .int n), (4, .int v)], [.int ((((3 : Int32) * ci) + st) - 1), .ref 174, .int ci, .ref 165])) rfl ?_
              refine ze_il pg_143 ((((3 : Int32) * ci) + st) - 1).toNatClampNeg ((vbs r5 (sfill r5.2.2.2 v n.toNatClampNeg)).1 174 ((((3 : Int32) * ci) + st) - 1).toNatClampNeg) rfl ⟨by decide, by decide⟩ rfl g5 rfl rfl ?_
              by_cases g8 : bnd ci 4
              case neg => rw [if_neg g8] at hE; cases hE
              rw [if_pos g8] at hE
              have g8l := bnd_lt g8
              obtain ⟨r6, e6, hE⟩ := Option.bind_eq_some_iff.mp hE
              refine xe_cv pg_143 123 pg_123 [.int ci, .int ((vbs r5 (sfill r5.2.2.2 v n.toNatClampNeg)).1 174 ((((3 : Int32) * ci) + st) - 1).toNatClampNeg)] [] (none) rfl rfl rfl rfl ⟨Nat.le_of_ble_eq_true rfl, Nat.le_of_ble_eq_true rfl, Nat.le_of_ble_eq_true rfl⟩ ⟨rfl, rfl⟩ ⟨by decide, rfl, by decide⟩ (co_P (P := fun z => xc _ 123 [.ref 165, .int z, .int ((vbs r5 (sfill r5.2.2.2 v n.toNatClampNeg)).1 174 ((((3 : Int32) * ci) + st) - 1).toNatClampNeg)] _ _) (nI_bnd g8 (by omega)) (cg_clientSends _ (c := ci.toNatClampNeg) (k := ((vbs r5 (sfill r5.2.2.2 v n.toNatClampNeg)).1 174 ((((3 : Int32) * ci) + st) - 1).toNatClampNeg)) (bnd_lt g8) e6)) ?_
              refine xe_sn pg_143 4 (fr' := (180, [(6, .int n), (5, .int ((((3 : Int32) * ci) + st) - 1)), (0, .ref 165), (1, .int ci), (2, .int st), (3, .int n), (4, .int v)], [.int ((((3 : Int32) * ci) + st) - 1), .ref 175, .int ((((3 : Int32) * ci) + st) - 1), .ref 175])) rfl ?_
              refine ze_il pg_143 ((((3 : Int32) * ci) + st) - 1).toNatClampNeg (r6.1 175 ((((3 : Int32) * ci) + st) - 1).toNatClampNeg) rfl ⟨by decide, by decide⟩ rfl g5 rfl rfl ?_
              refine xe_sn pg_143 2 (fr' := (183, [(6, .int n), (5, .int ((((3 : Int32) * ci) + st) - 1)), (0, .ref 165), (1, .int ci), (2, .int st), (3, .int n), (4, .int v)], [.int ((r6.1 175 ((((3 : Int32) * ci) + st) - 1).toNatClampNeg) - 1), .int ((((3 : Int32) * ci) + st) - 1), .ref 175])) rfl ?_
              refine ze_isx pg_143 ((((3 : Int32) * ci) + st) - 1).toNatClampNeg rfl ⟨by decide, by decide⟩ rfl g5 rfl (by decide) ?_
              refine xe_sn pg_143 3 (fr' := (190, [(6, .int n), (5, .int ((((3 : Int32) * ci) + st) - 1)), (0, .ref 165), (1, .int ci), (2, .int st), (3, .int n), (4, .int v)], [.int ((((3 : Int32) * ci) + st) - 1), .ref 175])) rfl ?_
              refine ze_il pg_143 ((((3 : Int32) * ci) + st) - 1).toNatClampNeg ((r6.1 175 ((((3 : Int32) * ci) + st) - 1).toNatClampNeg) - 1) rfl ⟨by decide, by decide⟩ rfl g5 rfl ((gl_x (by decide) _).trans (u2_same r6.1 175 ((((3 : Int32) * ci) + st) - 1).toNatClampNeg ((r6.1 175 ((((3 : Int32) * ci) + st) - 1).toNatClampNeg) - 1))) ?_
              cases hE
              exact xe_end pg_143 rfl
          · rw [if_neg h6] at hE
            refine xe_c2t pg_143 100 rfl rfl h6 ?_
            refine xe_sn pg_143 2 (fr' := (108, [(5, .int ((((3 : Int32) * ci) + st) - 1)), (0, .ref 165), (1, .int ci), (2, .int st), (3, .int n), (4, .int v)], [.int 3, .ref 165])) rfl ?_
            refine ze_pn pg_143 rfl rfl ⟨rfl, rfl⟩ (Or.inl rfl) (by decide) ?_
            refine xe_sn pg_143 1 (fr' := (112, [(5, .int ((((3 : Int32) * ci) + st) - 1)), (0, .ref 165), (1, .int ci), (2, .int st), (3, .int n), (4, .int v)], [.ref 165])) rfl ?_
            refine ze_gi pg_143 3 rfl rfl rfl rfl ?_
            refine xe_sn pg_143 2 (fr' := (119, [(5, .int ((((3 : Int32) * ci) + st) - 1)), (0, .ref 165), (1, .int ci), (2, .int st), (3, .int n), (4, .int v)], [.int 0])) rfl ?_
            cases hE
            exact xe_end pg_143 rfl

def g_end (V : xVt) (ci : Int32) (st : Int32) : Option (Int32 × xVt) := (some (g_isCircuit ci)).bind fun r1 => if r1 = 0 then (some (0, (vn (vn V 165 0 1) 165 0 1))) else ((some (g_in st 1 3)).bind fun r2 => if r2 = 0 then (some (0, (vn (vn V 165 0 1) 165 0 1))) else (if bnd ((((3 : Int32) * ci) + st) - 1) 12 then (if (V.1 173 ((((3 : Int32) * ci) + st) - 1).toNatClampNeg) = 0 then (some (0, (vn (vn V 165 0 0) 165 0 2))) else ((g_order (vn (vn V 165 0 0) 165 0 0) 6 st 0).bind fun r3 => if bnd ci 4 then ((g_clientSends r3 ci.toNatClampNeg (r3.1 174 ((((3 : Int32) * ci) + st) - 1).toNatClampNeg)).bind fun r4 => some ((V.1 173 ((((3 : Int32) * ci) + st) - 1).toNatClampNeg), (vx (vx r4 173 ((((3 : Int32) * ci) + st) - 1).toNatClampNeg 0) 175 ((((3 : Int32) * ci) + st) - 1).toNatClampNeg 0))) else none)) else none))
set_option maxRecDepth 100000 in
theorem cg_end (d : Nat) {w : xWd} {S : xSt} {V : xVt} {ρ : Nat → Nat → Int64} {ci : Int32} {st : Int32} {r : Int32 × xVt} (hE : (g_end V ci st) = some r) : xc (d + 4) 144 [.ref 165, .int ci, .int st] (hv w S V ρ) (.inl (some (.int r.1)), hv w S r.2 ρ) := by
  unfold g_end at hE
  refine xe_sn pg_144 2 (fr' := (2, [(0, .ref 165), (1, .int ci), (2, .int st)], [.int ci, .ref 165])) rfl ?_
  obtain ⟨r1, e1, hE⟩ := Option.bind_eq_some_iff.mp hE
  refine xe_callq pg_144 104 [.int ci] (.inl (some (.int r1))) (5, [(0, .ref 165), (1, .int ci), (2, .int st)], [.int r1, .ref 165]) rfl (fun _ => rfl) (cg_isCircuit _ (v := ci)  (Option.some.inj e1)) ?_
  by_cases h1 : r1 = 0
  · rw [if_pos h1] at hE
    refine xe_c1t pg_144 17 rfl rfl h1 ?_
    refine xe_sn pg_144 2 (fr' := (22, [(0, .ref 165), (1, .int ci), (2, .int st)], [.int 1, .ref 165])) rfl ?_
    refine ze_pn pg_144 rfl rfl ⟨rfl, rfl⟩ (Or.inl rfl) (by decide) ?_
    refine xe_sn pg_144 1 (fr' := (26, [(0, .ref 165), (1, .int ci), (2, .int st)], [.ref 165])) rfl ?_
    refine ze_gi pg_144 1 rfl rfl rfl rfl ?_
    refine xe_sn pg_144 5 (fr' := (46, [(3, .int 0), (0, .ref 165), (1, .int ci), (2, .int st)], [.ref 165, .ref 165])) rfl ?_
    refine ze_gi pg_144 1 rfl rfl rfl rfl ?_
    refine xe_sn pg_144 2 (fr' := (66, [(3, .int 0), (0, .ref 165), (1, .int ci), (2, .int st)], [.ref 165, .ref 165])) rfl ?_
    refine ze_gi pg_144 1 rfl rfl rfl rfl ?_
    refine ze_pn pg_144 rfl rfl ⟨rfl, rfl⟩ (Or.inl rfl) (by decide) ?_
    refine xe_sn pg_144 1 (fr' := (73, [(3, .int 0), (0, .ref 165), (1, .int ci), (2, .int st)], [.ref 165])) rfl ?_
    refine ze_gi pg_144 1 rfl rfl rfl rfl ?_
    refine xe_sn pg_144 2 (fr' := (80, [(3, .int 0), (0, .ref 165), (1, .int ci), (2, .int st)], [.int 0])) rfl ?_
    cases hE
    exact xe_end pg_144 rfl
  · rw [if_neg h1] at hE
    refine xe_c1f pg_144 17 rfl rfl h1 ?_
    refine xe_sn pg_144 3 (fr' := (11, [(0, .ref 165), (1, .int ci), (2, .int st)], [.int 3, .int 1, .int st, .ref 165])) rfl ?_
    obtain ⟨r2, e2, hE⟩ := Option.bind_eq_some_iff.mp hE
    refine xe_callq pg_144 103 [.int st, .int 1, .int 3] (.inl (some (.int r2))) (14, [(0, .ref 165), (1, .int ci), (2, .int st)], [.int r2, .ref 165]) rfl (fun _ => rfl) (cg_in _ (v := st) (l := 1) (h := 3)  (Option.some.inj e2)) ?_
    by_cases h2 : r2 = 0
    · rw [if_pos h2] at hE
      refine xe_c1f pg_144 21 rfl rfl (fun z => z h2) ?_
      refine xe_sn pg_144 2 (fr' := (22, [(0, .ref 165), (1, .int ci), (2, .int st)], [.int 1, .ref 165])) rfl ?_
      refine ze_pn pg_144 rfl rfl ⟨rfl, rfl⟩ (Or.inl rfl) (by decide) ?_
      refine xe_sn pg_144 1 (fr' := (26, [(0, .ref 165), (1, .int ci), (2, .int st)], [.ref 165])) rfl ?_
      refine ze_gi pg_144 1 rfl rfl rfl rfl ?_
      refine xe_sn pg_144 5 (fr' := (46, [(3, .int 0), (0, .ref 165), (1, .int ci), (2, .int st)], [.ref 165, .ref 165])) rfl ?_
      refine ze_gi pg_144 1 rfl rfl rfl rfl ?_
      refine xe_sn pg_144 2 (fr' := (66, [(3, .int 0), (0, .ref 165), (1, .int ci), (2, .int st)], [.ref 165, .ref 165])) rfl ?_
      refine ze_gi pg_144 1 rfl rfl rfl rfl ?_
      refine ze_pn pg_144 rfl rfl ⟨rfl, rfl⟩ (Or.inl rfl) (by decide) ?_
      refine xe_sn pg_144 1 (fr' := (73, [(3, .int 0), (0, .ref 165), (1, .int ci), (2, .int st)], [.ref 165])) rfl ?_
      refine ze_gi pg_144 1 rfl rfl rfl rfl ?_
      refine xe_sn pg_144 2 (fr' := (80, [(3, .int 0), (0, .ref 165), (1, .int ci), (2, .int st)], [.int 0])) rfl ?_
      cases hE
      exact xe_end pg_144 rfl
    · rw [if_neg h2] at hE
      refine xe_c1t pg_144 21 rfl rfl h2 ?_
      refine xe_sn pg_144 1 (fr' := (22, [(0, .ref 165), (1, .int ci), (2, .int st)], [.int 0, .ref 165])) rfl ?_
      refine ze_pn pg_144 rfl rfl ⟨rfl, rfl⟩ (Or.inl rfl) (by decide) ?_
      refine xe_sn pg_144 1 (fr' := (26, [(0, .ref 165), (1, .int ci), (2, .int st)], [.ref 165])) rfl ?_
      refine ze_gi pg_144 0 rfl rfl rfl rfl ?_
      refine xe_sn pg_144 9 (fr' := (43, [(0, .ref 165), (1, .int ci), (2, .int st)], [.int ((((3 : Int32) * ci) + st) - 1)])) rfl ?_
      refine xe_sn pg_144 3 (fr' := (46, [(3, .int ((((3 : Int32) * ci) + st) - 1)), (0, .ref 165), (1, .int ci), (2, .int st)], [.ref 165, .ref 165])) rfl ?_
      refine ze_gi pg_144 0 rfl rfl rfl rfl ?_
      refine xe_sn pg_144 4 (fr' := (57, [(3, .int ((((3 : Int32) * ci) + st) - 1)), (0, .ref 165), (1, .int ci), (2, .int st)], [.int ((((3 : Int32) * ci) + st) - 1), .ref 173, .ref 165])) rfl ?_
      by_cases g3 : bnd ((((3 : Int32) * ci) + st) - 1) 12
      case neg => rw [if_neg g3] at hE; cases hE
      rw [if_pos g3] at hE
      have g3l := bnd_lt g3
      refine ze_il pg_144 ((((3 : Int32) * ci) + st) - 1).toNatClampNeg (V.1 173 ((((3 : Int32) * ci) + st) - 1).toNatClampNeg) rfl ⟨by decide, by decide⟩ rfl g3 rfl rfl ?_
      by_cases h4 : (V.1 173 ((((3 : Int32) * ci) + st) - 1).toNatClampNeg) = 0
      · rw [if_pos h4] at hE
        refine xe_c1f pg_144 65 rfl rfl (fun z => z h4) ?_
        refine xe_sn pg_144 2 (fr' := (69, [(3, .int ((((3 : Int32) * ci) + st) - 1)), (0, .ref 165), (1, .int ci), (2, .int st)], [.int 2, .ref 165])) rfl ?_
        refine ze_pn pg_144 rfl rfl ⟨rfl, rfl⟩ (Or.inl rfl) (by decide) ?_
        refine xe_sn pg_144 1 (fr' := (73, [(3, .int ((((3 : Int32) * ci) + st) - 1)), (0, .ref 165), (1, .int ci), (2, .int st)], [.ref 165])) rfl ?_
        refine ze_gi pg_144 2 rfl rfl rfl rfl ?_
        refine xe_sn pg_144 2 (fr' := (80, [(3, .int ((((3 : Int32) * ci) + st) - 1)), (0, .ref 165), (1, .int ci), (2, .int st)], [.int 0])) rfl ?_
        cases hE
        exact xe_end pg_144 rfl
      · rw [if_neg h4] at hE
        refine xe_c1t pg_144 65 rfl rfl h4 ?_
        refine xe_sn pg_144 1 (fr' := (66, [(3, .int ((((3 : Int32) * ci) + st) - 1)), (0, .ref 165), (1, .int ci), (2, .int st)], [.ref 165, .ref 165])) rfl ?_
        refine ze_gi pg_144 0 rfl rfl rfl rfl ?_
        refine ze_pn pg_144 rfl rfl ⟨rfl, rfl⟩ (Or.inl rfl) (by decide) ?_
        refine xe_sn pg_144 1 (fr' := (73, [(3, .int ((((3 : Int32) * ci) + st) - 1)), (0, .ref 165), (1, .int ci), (2, .int st)], [.ref 165])) rfl ?_
        refine ze_gi pg_144 0 rfl rfl rfl rfl ?_
        refine xe_sn pg_144 4 (fr' := (86, [(3, .int ((((3 : Int32) * ci) + st) - 1)), (0, .ref 165), (1, .int ci), (2, .int st)], [.int ((((3 : Int32) * ci) + st) - 1), .ref 173])) rfl ?_
        refine ze_il pg_144 ((((3 : Int32) * ci) + st) - 1).toNatClampNeg (V.1 173 ((((3 : Int32) * ci) + st) - 1).toNatClampNeg) rfl ⟨by decide, by decide⟩ rfl g3 rfl rfl ?_
        refine xe_sn pg_144 5 (fr' := (94, [(4, .int (V.1 173 ((((3 : Int32) * ci) + st) - 1).toNatClampNeg)), (3, .int ((((3 : Int32) * ci) + st) - 1)), (0, .ref 165), (1, .int ci), (2, .int st)], [.int 0, .int st, .int 6, .ref 165])) rfl ?_
        obtain ⟨r3, e3, hE⟩ := Option.bind_eq_some_iff.mp hE
        refine xe_cv pg_144 114 pg_114 [.int 6, .int st, .int 0] [] (none) rfl rfl rfl rfl ⟨Nat.le_of_ble_eq_true rfl, Nat.le_of_ble_eq_true rfl, Nat.le_of_ble_eq_true rfl⟩ ⟨rfl, rfl⟩ ⟨by decide, rfl, by decide⟩ (cg_order _ (o := 6) (s := st) (n := 0)  e3) ?_
        refine xe_sn pg_144 5 (fr' := (104, [(4, .int (V.1 173 ((((3 : Int32) * ci) + st) - 1).toNatClampNeg)), (3, .int ((((3 : Int32) * ci) + st) - 1)), (0, .ref 165), (1, .int ci), (2, .int st)], [.int ((((3 : Int32) * ci) + st) - 1), .ref 174, .int ci, .ref 165])) rfl ?_
        refine ze_il pg_144 ((((3 : Int32) * ci) + st) - 1).toNatClampNeg (r3.1 174 ((((3 : Int32) * ci) + st) - 1).toNatClampNeg) rfl ⟨by decide, by decide⟩ rfl g3 rfl rfl ?_
        by_cases g5 : bnd ci 4
        case neg => rw [if_neg g5] at hE; cases hE
        rw [if_pos g5] at hE
        have g5l := bnd_lt g5
        obtain ⟨r4, e4, hE⟩ := Option.bind_eq_some_iff.mp hE
        refine xe_cv pg_144 123 pg_123 [.int ci, .int (r3.1 174 ((((3 : Int32) * ci) + st) - 1).toNatClampNeg)] [] (none) rfl rfl rfl rfl ⟨Nat.le_of_ble_eq_true rfl, Nat.le_of_ble_eq_true rfl, Nat.le_of_ble_eq_true rfl⟩ ⟨rfl, rfl⟩ ⟨by decide, rfl, by decide⟩ (co_P (P := fun z => xc _ 123 [.ref 165, .int z, .int (r3.1 174 ((((3 : Int32) * ci) + st) - 1).toNatClampNeg)] _ _) (nI_bnd g5 (by omega)) (cg_clientSends _ (c := ci.toNatClampNeg) (k := (r3.1 174 ((((3 : Int32) * ci) + st) - 1).toNatClampNeg)) (bnd_lt g5) e4)) ?_
        refine xe_sn pg_144 4 (fr' := (114, [(4, .int (V.1 173 ((((3 : Int32) * ci) + st) - 1).toNatClampNeg)), (3, .int ((((3 : Int32) * ci) + st) - 1)), (0, .ref 165), (1, .int ci), (2, .int st)], [.int 0, .int ((((3 : Int32) * ci) + st) - 1), .ref 173])) rfl ?_
        refine ze_isx pg_144 ((((3 : Int32) * ci) + st) - 1).toNatClampNeg rfl ⟨by decide, by decide⟩ rfl g3 rfl (by decide) ?_
        refine xe_sn pg_144 4 (fr' := (121, [(4, .int (V.1 173 ((((3 : Int32) * ci) + st) - 1).toNatClampNeg)), (3, .int ((((3 : Int32) * ci) + st) - 1)), (0, .ref 165), (1, .int ci), (2, .int st)], [.int 0, .int ((((3 : Int32) * ci) + st) - 1), .ref 175])) rfl ?_
        refine ze_isx pg_144 ((((3 : Int32) * ci) + st) - 1).toNatClampNeg rfl ⟨by decide, by decide⟩ rfl g3 rfl (by decide) ?_
        refine xe_sn pg_144 1 (fr' := (124, [(4, .int (V.1 173 ((((3 : Int32) * ci) + st) - 1).toNatClampNeg)), (3, .int ((((3 : Int32) * ci) + st) - 1)), (0, .ref 165), (1, .int ci), (2, .int st)], [.int (V.1 173 ((((3 : Int32) * ci) + st) - 1).toNatClampNeg)])) rfl ?_
        cases hE
        exact xe_end pg_144 rfl

def g_truncate (V : xVt) (ci : Int32) (hp : Int32) : Option (Int32 × xVt) := (some (g_isCircuit ci)).bind fun r1 => if r1 = 0 then (some (0, (vn V 165 0 1))) else (if bnd ci 4 then ((some (g_isOn V ci.toNatClampNeg)).bind fun r2 => if r2 = 0 then (some (0, (vn V 165 0 2))) else ((some (g_in hp 0 ((V.1 168 ci.toNatClampNeg) - 1))).bind fun r3 => if r3 = 0 then (some (0, (vn V 165 0 2))) else ((g_order (vn V 165 0 0) 8 0 0).bind fun r4 => (g_clientSends r4 ci.toNatClampNeg hp).bind fun r5 => some ((r5.1 168 ci.toNatClampNeg), r5)))) else none)
set_option maxRecDepth 100000 in
theorem cg_truncate (d : Nat) {w : xWd} {S : xSt} {V : xVt} {ρ : Nat → Nat → Int64} {ci : Int32} {hp : Int32} {r : Int32 × xVt} (hE : (g_truncate V ci hp) = some r) : xc (d + 4) 146 [.ref 165, .int ci, .int hp] (hv w S V ρ) (.inl (some (.int r.1)), hv w S r.2 ρ) := by
  unfold g_truncate at hE
  refine xe_sn pg_146 2 (fr' := (2, [(0, .ref 165), (1, .int ci), (2, .int hp)], [.int ci, .ref 165])) rfl ?_
  obtain ⟨r1, e1, hE⟩ := Option.bind_eq_some_iff.mp hE
  refine xe_callq pg_146 104 [.int ci] (.inl (some (.int r1))) (5, [(0, .ref 165), (1, .int ci), (2, .int hp)], [.int r1, .ref 165]) rfl (fun _ => rfl) (cg_isCircuit _ (v := ci)  (Option.some.inj e1)) ?_
  by_cases h1 : r1 = 0
  · rw [if_pos h1] at hE
    refine xe_c1f pg_146 12 rfl rfl (fun z => z h1) ?_
    refine xe_sn pg_146 2 (fr' := (41, [(0, .ref 165), (1, .int ci), (2, .int hp)], [.int 1, .ref 165])) rfl ?_
    refine ze_pn pg_146 rfl rfl ⟨rfl, rfl⟩ (Or.inl rfl) (by decide) ?_
    refine xe_sn pg_146 1 (fr' := (45, [(0, .ref 165), (1, .int ci), (2, .int hp)], [.ref 165])) rfl ?_
    refine ze_gi pg_146 1 rfl rfl rfl rfl ?_
    refine xe_sn pg_146 2 (fr' := (52, [(0, .ref 165), (1, .int ci), (2, .int hp)], [.int 0])) rfl ?_
    cases hE
    exact xe_end pg_146 rfl
  · rw [if_neg h1] at hE
    refine xe_c1t pg_146 12 rfl rfl h1 ?_
    refine xe_sn pg_146 2 (fr' := (14, [(0, .ref 165), (1, .int ci), (2, .int hp)], [.int ci, .ref 165, .ref 165])) rfl ?_
    by_cases g2 : bnd ci 4
    case neg => rw [if_neg g2] at hE; cases hE
    rw [if_pos g2] at hE
    have g2l := bnd_lt g2
    obtain ⟨r2, e2, hE⟩ := Option.bind_eq_some_iff.mp hE
    refine xe_cv pg_146 145 pg_145 [.int ci] [.ref 165] (some (.int r2)) rfl rfl rfl rfl ⟨Nat.le_of_ble_eq_true rfl, Nat.le_of_ble_eq_true rfl, Nat.le_of_ble_eq_true rfl⟩ ⟨rfl, rfl⟩ ⟨by decide, rfl, by decide⟩ (co_P (P := fun z => xc _ 145 [.ref 165, .int z] _ _) (nI_bnd g2 (by omega)) (cg_isOn _ (c := ci.toNatClampNeg) (bnd_lt g2) (Option.some.inj e2))) ?_
    by_cases h3 : r2 = 0
    · rw [if_pos h3] at hE
      refine xe_c1t pg_146 36 rfl rfl h3 ?_
      refine xe_sn pg_146 2 (fr' := (41, [(0, .ref 165), (1, .int ci), (2, .int hp)], [.int 2, .ref 165])) rfl ?_
      refine ze_pn pg_146 rfl rfl ⟨rfl, rfl⟩ (Or.inl rfl) (by decide) ?_
      refine xe_sn pg_146 1 (fr' := (45, [(0, .ref 165), (1, .int ci), (2, .int hp)], [.ref 165])) rfl ?_
      refine ze_gi pg_146 2 rfl rfl rfl rfl ?_
      refine xe_sn pg_146 2 (fr' := (52, [(0, .ref 165), (1, .int ci), (2, .int hp)], [.int 0])) rfl ?_
      cases hE
      exact xe_end pg_146 rfl
    · rw [if_neg h3] at hE
      refine xe_c1f pg_146 36 rfl rfl h3 ?_
      refine xe_sn pg_146 5 (fr' := (27, [(0, .ref 165), (1, .int ci), (2, .int hp)], [.int ci, .ref 168, .int 0, .int hp, .ref 165])) rfl ?_
      refine ze_il pg_146 ci.toNatClampNeg (V.1 168 ci.toNatClampNeg) rfl ⟨by decide, by decide⟩ rfl g2 rfl rfl ?_
      refine xe_sn pg_146 2 (fr' := (30, [(0, .ref 165), (1, .int ci), (2, .int hp)], [.int ((V.1 168 ci.toNatClampNeg) - 1), .int 0, .int hp, .ref 165])) rfl ?_
      obtain ⟨r3, e3, hE⟩ := Option.bind_eq_some_iff.mp hE
      refine xe_callq pg_146 103 [.int hp, .int 0, .int ((V.1 168 ci.toNatClampNeg) - 1)] (.inl (some (.int r3))) (33, [(0, .ref 165), (1, .int ci), (2, .int hp)], [.int r3, .ref 165]) rfl (fun _ => rfl) (cg_in _ (v := hp) (l := 0) (h := ((V.1 168 ci.toNatClampNeg) - 1))  (Option.some.inj e3)) ?_
      by_cases h4 : r3 = 0
      · rw [if_pos h4] at hE
        refine xe_c1f pg_146 40 rfl rfl (fun z => z h4) ?_
        refine xe_sn pg_146 2 (fr' := (41, [(0, .ref 165), (1, .int ci), (2, .int hp)], [.int 2, .ref 165])) rfl ?_
        refine ze_pn pg_146 rfl rfl ⟨rfl, rfl⟩ (Or.inl rfl) (by decide) ?_
        refine xe_sn pg_146 1 (fr' := (45, [(0, .ref 165), (1, .int ci), (2, .int hp)], [.ref 165])) rfl ?_
        refine ze_gi pg_146 2 rfl rfl rfl rfl ?_
        refine xe_sn pg_146 2 (fr' := (52, [(0, .ref 165), (1, .int ci), (2, .int hp)], [.int 0])) rfl ?_
        cases hE
        exact xe_end pg_146 rfl
      · rw [if_neg h4] at hE
        refine xe_c1t pg_146 40 rfl rfl h4 ?_
        refine xe_sn pg_146 1 (fr' := (41, [(0, .ref 165), (1, .int ci), (2, .int hp)], [.int 0, .ref 165])) rfl ?_
        refine ze_pn pg_146 rfl rfl ⟨rfl, rfl⟩ (Or.inl rfl) (by decide) ?_
        refine xe_sn pg_146 1 (fr' := (45, [(0, .ref 165), (1, .int ci), (2, .int hp)], [.ref 165])) rfl ?_
        refine ze_gi pg_146 0 rfl rfl rfl rfl ?_
        refine xe_sn pg_146 5 (fr' := (58, [(0, .ref 165), (1, .int ci), (2, .int hp)], [.int 0, .int 0, .int 8, .ref 165])) rfl ?_
        obtain ⟨r4, e4, hE⟩ := Option.bind_eq_some_iff.mp hE
        refine xe_cv pg_146 114 pg_114 [.int 8, .int 0, .int 0] [] (none) rfl rfl rfl rfl ⟨Nat.le_of_ble_eq_true rfl, Nat.le_of_ble_eq_true rfl, Nat.le_of_ble_eq_true rfl⟩ ⟨rfl, rfl⟩ ⟨by decide, rfl, by decide⟩ (cg_order _ (o := 8) (s := 0) (n := 0)  e4) ?_
        refine xe_sn pg_146 3 (fr' := (64, [(0, .ref 165), (1, .int ci), (2, .int hp)], [.int hp, .int ci, .ref 165])) rfl ?_
        obtain ⟨r5, e5, hE⟩ := Option.bind_eq_some_iff.mp hE
        refine xe_cv pg_146 123 pg_123 [.int ci, .int hp] [] (none) rfl rfl rfl rfl ⟨Nat.le_of_ble_eq_true rfl, Nat.le_of_ble_eq_true rfl, Nat.le_of_ble_eq_true rfl⟩ ⟨rfl, rfl⟩ ⟨by decide, rfl, by decide⟩ (co_P (P := fun z => xc _ 123 [.ref 165, .int z, .int hp] _ _) (nI_bnd g2 (by omega)) (cg_clientSends _ (c := ci.toNatClampNeg) (k := hp) (bnd_lt g2) e5)) ?_
        refine xe_sn pg_146 3 (fr' := (72, [(0, .ref 165), (1, .int ci), (2, .int hp)], [.int ci, .ref 168])) rfl ?_
        refine ze_il pg_146 ci.toNatClampNeg (r5.1 168 ci.toNatClampNeg) rfl ⟨by decide, by decide⟩ rfl g2 rfl rfl ?_
        cases hE
        exact xe_end pg_146 rfl

def g_close (V : xVt) (ci : Int32) : Option xVt := (some (g_isCircuit ci)).bind fun r1 => if r1 = 0 then (some (vn V 165 0 1)) else (if bnd ci 4 then ((some (g_isOn V ci.toNatClampNeg)).bind fun r2 => if r2 = 0 then (some (vn V 165 0 2)) else ((g_closeNow (vn V 165 0 0) ci.toNatClampNeg).bind fun r3 => some r3)) else none)
set_option maxRecDepth 100000 in
theorem cg_close (d : Nat) {w : xWd} {S : xSt} {V : xVt} {ρ : Nat → Nat → Int64} {ci : Int32} {r : xVt} (hE : (g_close V ci) = some r) : xc (d + 3) 147 [.ref 165, .int ci] (hv w S V ρ) (.inl (none), hv w S r ρ) := by
  unfold g_close at hE
  refine xe_sn pg_147 2 (fr' := (2, [(0, .ref 165), (1, .int ci)], [.int ci, .ref 165])) rfl ?_
  obtain ⟨r1, e1, hE⟩ := Option.bind_eq_some_iff.mp hE
  refine xe_callq pg_147 104 [.int ci] (.inl (some (.int r1))) (5, [(0, .ref 165), (1, .int ci)], [.int r1, .ref 165]) rfl (fun _ => rfl) (cg_isCircuit _ (v := ci)  (Option.some.inj e1)) ?_
  by_cases h1 : r1 = 0
  · rw [if_pos h1] at hE
    refine xe_c1f pg_147 12 rfl rfl (fun z => z h1) ?_
    refine xe_sn pg_147 2 (fr' := (25, [(0, .ref 165), (1, .int ci)], [.int 1, .ref 165])) rfl ?_
    refine ze_pn pg_147 rfl rfl ⟨rfl, rfl⟩ (Or.inl rfl) (by decide) ?_
    refine xe_sn pg_147 1 (fr' := (29, [(0, .ref 165), (1, .int ci)], [.ref 165])) rfl ?_
    refine ze_gi pg_147 1 rfl rfl rfl rfl ?_
    refine xe_sn pg_147 1 (fr' := (40, [(0, .ref 165), (1, .int ci)], [])) rfl ?_
    cases hE
    exact xe_end pg_147 rfl
  · rw [if_neg h1] at hE
    refine xe_c1t pg_147 12 rfl rfl h1 ?_
    refine xe_sn pg_147 2 (fr' := (14, [(0, .ref 165), (1, .int ci)], [.int ci, .ref 165, .ref 165])) rfl ?_
    by_cases g2 : bnd ci 4
    case neg => rw [if_neg g2] at hE; cases hE
    rw [if_pos g2] at hE
    have g2l := bnd_lt g2
    obtain ⟨r2, e2, hE⟩ := Option.bind_eq_some_iff.mp hE
    refine xe_cv pg_147 145 pg_145 [.int ci] [.ref 165] (some (.int r2)) rfl rfl rfl rfl ⟨Nat.le_of_ble_eq_true rfl, Nat.le_of_ble_eq_true rfl, Nat.le_of_ble_eq_true rfl⟩ ⟨rfl, rfl⟩ ⟨by decide, rfl, by decide⟩ (co_P (P := fun z => xc _ 145 [.ref 165, .int z] _ _) (nI_bnd g2 (by omega)) (cg_isOn _ (c := ci.toNatClampNeg) (bnd_lt g2) (Option.some.inj e2))) ?_
    by_cases h3 : r2 = 0
    · rw [if_pos h3] at hE
      refine xe_c1f pg_147 24 rfl rfl (fun z => z h3) ?_
      refine xe_sn pg_147 2 (fr' := (25, [(0, .ref 165), (1, .int ci)], [.int 2, .ref 165])) rfl ?_
      refine ze_pn pg_147 rfl rfl ⟨rfl, rfl⟩ (Or.inl rfl) (by decide) ?_
      refine xe_sn pg_147 1 (fr' := (29, [(0, .ref 165), (1, .int ci)], [.ref 165])) rfl ?_
      refine ze_gi pg_147 2 rfl rfl rfl rfl ?_
      refine xe_sn pg_147 1 (fr' := (40, [(0, .ref 165), (1, .int ci)], [])) rfl ?_
      cases hE
      exact xe_end pg_147 rfl
    · rw [if_neg h3] at hE
      refine xe_c1t pg_147 24 rfl rfl h3 ?_
      refine xe_sn pg_147 1 (fr' := (25, [(0, .ref 165), (1, .int ci)], [.int 0, .ref 165])) rfl ?_
      refine ze_pn pg_147 rfl rfl ⟨rfl, rfl⟩ (Or.inl rfl) (by decide) ?_
      refine xe_sn pg_147 1 (fr' := (29, [(0, .ref 165), (1, .int ci)], [.ref 165])) rfl ?_
      refine ze_gi pg_147 0 rfl rfl rfl rfl ?_
      refine xe_sn pg_147 3 (fr' := (37, [(0, .ref 165), (1, .int ci)], [.int ci, .ref 165])) rfl ?_
      obtain ⟨r3, e3, hE⟩ := Option.bind_eq_some_iff.mp hE
      refine xe_cv pg_147 122 pg_122 [.int ci] [] (none) rfl rfl rfl rfl ⟨Nat.le_of_ble_eq_true rfl, Nat.le_of_ble_eq_true rfl, Nat.le_of_ble_eq_true rfl⟩ ⟨rfl, rfl⟩ ⟨by decide, rfl, by decide⟩ (co_P (P := fun z => xc _ 122 [.ref 165, .int z] _ _) (nI_bnd g2 (by omega)) (cg_closeNow _ (c := ci.toNatClampNeg) (bnd_lt g2) e3)) ?_
      cases hE
      exact xe_end pg_147 rfl

def g_circuit (V : xVt) (ci : Int32) (wh : Int32) : Option (Int32 × xVt) := (some (g_isCircuit ci)).bind fun r1 => if r1 = 0 then (some (0, (vn V 165 0 1))) else ((some (g_in wh 0 11)).bind fun r2 => if r2 = 0 then (some (0, (vn V 165 0 1))) else (if 2 ≤ wh then (if 5 ≤ wh then (if wh = 5 then (if bnd ci 4 then (some ((V.1 171 ci.toNatClampNeg), (vn V 165 0 0))) else none) else (if 9 ≤ wh then (if bnd ((((3 : Int32) * ci) + wh) - 9) 12 then (some ((V.1 175 ((((3 : Int32) * ci) + wh) - 9).toNatClampNeg), (vn V 165 0 0))) else none) else (if bnd ((((3 : Int32) * ci) + wh) - 6) 12 then (some ((V.1 173 ((((3 : Int32) * ci) + wh) - 6).toNatClampNeg), (vn V 165 0 0))) else none))) else (if bnd ci 4 then (if (V.1 168 ci.toNatClampNeg) ≤ (wh - 2) then (some ((-1), (vn V 165 0 0))) else (if bnd ((((3 : Int32) * ci) + wh) - 2) 12 then (some ((V.1 169 ((((3 : Int32) * ci) + wh) - 2).toNatClampNeg), (vn V 165 0 0))) else none)) else none)) else (if wh = 0 then (if bnd ci 4 then (some ((V.1 167 ci.toNatClampNeg), (vn V 165 0 0))) else none) else (if bnd ci 4 then (some ((V.1 168 ci.toNatClampNeg), (vn V 165 0 0))) else none))))
set_option maxRecDepth 100000 in
theorem cg_circuit (d : Nat) {w : xWd} {S : xSt} {V : xVt} {ρ : Nat → Nat → Int64} {ci : Int32} {wh : Int32} {r : Int32 × xVt} (hE : (g_circuit V ci wh) = some r) : xc (d + 2) 153 [.ref 165, .int ci, .int wh] (hv w S V ρ) (.inl (some (.int r.1)), hv w S r.2 ρ) := by
  unfold g_circuit at hE
  refine xe_sn pg_153 2 (fr' := (2, [(0, .ref 165), (1, .int ci), (2, .int wh)], [.int ci, .ref 165])) rfl ?_
  obtain ⟨r1, e1, hE⟩ := Option.bind_eq_some_iff.mp hE
  refine xe_callq pg_153 104 [.int ci] (.inl (some (.int r1))) (5, [(0, .ref 165), (1, .int ci), (2, .int wh)], [.int r1, .ref 165]) rfl (fun _ => rfl) (cg_isCircuit _ (v := ci)  (Option.some.inj e1)) ?_
  by_cases h1 : r1 = 0
  · rw [if_pos h1] at hE
    refine xe_c1t pg_153 22 rfl rfl h1 ?_
    refine xe_sn pg_153 1 (fr' := (23, [(0, .ref 165), (1, .int ci), (2, .int wh)], [.int 0, .ref 165])) rfl ?_
    refine xe_cv pg_153 151 pg_151 [.int 0] [] (some (.int 1)) rfl rfl rfl rfl ⟨Nat.le_of_ble_eq_true rfl, Nat.le_of_ble_eq_true rfl, Nat.le_of_ble_eq_true rfl⟩ ⟨rfl, rfl⟩ ⟨by decide, rfl, by decide⟩ (cg_out0 _ ) ?_
    refine xe_sn pg_153 2 (fr' := (30, [(0, .ref 165), (1, .int ci), (2, .int wh)], [.int 0])) rfl ?_
    cases hE
    exact xe_end pg_153 rfl
  · rw [if_neg h1] at hE
    refine xe_c1f pg_153 22 rfl rfl h1 ?_
    refine xe_sn pg_153 3 (fr' := (12, [(0, .ref 165), (1, .int ci), (2, .int wh)], [.int 11, .int 0, .int wh, .ref 165])) rfl ?_
    obtain ⟨r2, e2, hE⟩ := Option.bind_eq_some_iff.mp hE
    refine xe_callq pg_153 103 [.int wh, .int 0, .int 11] (.inl (some (.int r2))) (15, [(0, .ref 165), (1, .int ci), (2, .int wh)], [.int r2, .ref 165]) rfl (fun _ => rfl) (cg_in _ (v := wh) (l := 0) (h := 11)  (Option.some.inj e2)) ?_
    by_cases h2 : r2 = 0
    · rw [if_pos h2] at hE
      refine xe_c1t pg_153 22 rfl rfl h2 ?_
      refine xe_sn pg_153 1 (fr' := (23, [(0, .ref 165), (1, .int ci), (2, .int wh)], [.int 0, .ref 165])) rfl ?_
      refine xe_cv pg_153 151 pg_151 [.int 0] [] (some (.int 1)) rfl rfl rfl rfl ⟨Nat.le_of_ble_eq_true rfl, Nat.le_of_ble_eq_true rfl, Nat.le_of_ble_eq_true rfl⟩ ⟨rfl, rfl⟩ ⟨by decide, rfl, by decide⟩ (cg_out0 _ ) ?_
      refine xe_sn pg_153 2 (fr' := (30, [(0, .ref 165), (1, .int ci), (2, .int wh)], [.int 0])) rfl ?_
      cases hE
      exact xe_end pg_153 rfl
    · rw [if_neg h2] at hE
      refine xe_c1f pg_153 22 rfl rfl h2 ?_
      refine xe_sn pg_153 2 (fr' := (23, [(0, .ref 165), (1, .int ci), (2, .int wh)], [.int 1, .ref 165])) rfl ?_
      refine xe_cv pg_153 151 pg_151 [.int 1] [] (some (.int 0)) rfl rfl rfl rfl ⟨Nat.le_of_ble_eq_true rfl, Nat.le_of_ble_eq_true rfl, Nat.le_of_ble_eq_true rfl⟩ ⟨rfl, rfl⟩ ⟨by decide, rfl, by decide⟩ (cg_out1 _ ) ?_
      refine xe_sn pg_153 3 (fr' := (33, [(0, .ref 165), (1, .int ci), (2, .int wh)], [.int 2, .int wh])) rfl ?_
      by_cases h3 : 2 ≤ wh
      · rw [if_pos h3] at hE
        refine xe_c2t pg_153 56 rfl rfl h3 ?_
        refine xe_sn pg_153 2 (fr' := (58, [(0, .ref 165), (1, .int ci), (2, .int wh)], [.int 5, .int wh])) rfl ?_
        by_cases h4 : 5 ≤ wh
        · rw [if_pos h4] at hE
          refine xe_c2t pg_153 90 rfl rfl h4 ?_
          refine xe_sn pg_153 2 (fr' := (92, [(0, .ref 165), (1, .int ci), (2, .int wh)], [.int 5, .int wh])) rfl ?_
          by_cases h5 : wh = 5
          · rw [if_pos h5] at hE
            refine xe_c2f pg_153 104 rfl rfl (fun z => z h5) ?_
            refine xe_sn pg_153 3 (fr' := (100, [(0, .ref 165), (1, .int ci), (2, .int wh)], [.int ci, .ref 171])) rfl ?_
            by_cases g6 : bnd ci 4
            case neg => rw [if_neg g6] at hE; cases hE
            rw [if_pos g6] at hE
            have g6l := bnd_lt g6
            refine ze_il pg_153 ci.toNatClampNeg (V.1 171 ci.toNatClampNeg) rfl ⟨by decide, by decide⟩ rfl g6 rfl rfl ?_
            refine xe_sn pg_153 1 (fr' := (139, [(0, .ref 165), (1, .int ci), (2, .int wh)], [.int (V.1 171 ci.toNatClampNeg)])) rfl ?_
            cases hE
            exact xe_end pg_153 rfl
          · rw [if_neg h5] at hE
            refine xe_c2t pg_153 104 rfl rfl h5 ?_
            refine xe_sn pg_153 2 (fr' := (107, [(0, .ref 165), (1, .int ci), (2, .int wh)], [.int 9, .int wh])) rfl ?_
            by_cases h7 : 9 ≤ wh
            · rw [if_pos h7] at hE
              refine xe_c2t pg_153 126 rfl rfl h7 ?_
              refine xe_sn pg_153 9 (fr' := (138, [(0, .ref 165), (1, .int ci), (2, .int wh)], [.int ((((3 : Int32) * ci) + wh) - 9), .ref 175])) rfl ?_
              by_cases g8 : bnd ((((3 : Int32) * ci) + wh) - 9) 12
              case neg => rw [if_neg g8] at hE; cases hE
              rw [if_pos g8] at hE
              have g8l := bnd_lt g8
              refine ze_il pg_153 ((((3 : Int32) * ci) + wh) - 9).toNatClampNeg (V.1 175 ((((3 : Int32) * ci) + wh) - 9).toNatClampNeg) rfl ⟨by decide, by decide⟩ rfl g8 rfl rfl ?_
              cases hE
              exact xe_end pg_153 rfl
            · rw [if_neg h7] at hE
              refine xe_c2f pg_153 126 rfl rfl h7 ?_
              refine xe_sn pg_153 9 (fr' := (122, [(0, .ref 165), (1, .int ci), (2, .int wh)], [.int ((((3 : Int32) * ci) + wh) - 6), .ref 173])) rfl ?_
              by_cases g9 : bnd ((((3 : Int32) * ci) + wh) - 6) 12
              case neg => rw [if_neg g9] at hE; cases hE
              rw [if_pos g9] at hE
              have g9l := bnd_lt g9
              refine ze_il pg_153 ((((3 : Int32) * ci) + wh) - 6).toNatClampNeg (V.1 173 ((((3 : Int32) * ci) + wh) - 6).toNatClampNeg) rfl ⟨by decide, by decide⟩ rfl g9 rfl rfl ?_
              refine xe_sn pg_153 1 (fr' := (139, [(0, .ref 165), (1, .int ci), (2, .int wh)], [.int (V.1 173 ((((3 : Int32) * ci) + wh) - 6).toNatClampNeg)])) rfl ?_
              cases hE
              exact xe_end pg_153 rfl
        · rw [if_neg h4] at hE
          refine xe_c2f pg_153 90 rfl rfl h4 ?_
          refine xe_sn pg_153 6 (fr' := (69, [(0, .ref 165), (1, .int ci), (2, .int wh)], [.int ci, .ref 168, .int (wh - 2)])) rfl ?_
          by_cases g10 : bnd ci 4
          case neg => rw [if_neg g10] at hE; cases hE
          rw [if_pos g10] at hE
          have g10l := bnd_lt g10
          refine ze_il pg_153 ci.toNatClampNeg (V.1 168 ci.toNatClampNeg) rfl ⟨by decide, by decide⟩ rfl g10 rfl rfl ?_
          by_cases h11 : (V.1 168 ci.toNatClampNeg) ≤ (wh - 2)
          · rw [if_pos h11] at hE
            refine xe_c2t pg_153 88 rfl rfl h11 ?_
            refine xe_sn pg_153 1 (fr' := (89, [(0, .ref 165), (1, .int ci), (2, .int wh)], [.int (-1)])) rfl ?_
            cases hE
            exact xe_end pg_153 rfl
          · rw [if_neg h11] at hE
            refine xe_c2f pg_153 88 rfl rfl h11 ?_
            refine xe_sn pg_153 9 (fr' := (84, [(0, .ref 165), (1, .int ci), (2, .int wh)], [.int ((((3 : Int32) * ci) + wh) - 2), .ref 169])) rfl ?_
            by_cases g12 : bnd ((((3 : Int32) * ci) + wh) - 2) 12
            case neg => rw [if_neg g12] at hE; cases hE
            rw [if_pos g12] at hE
            have g12l := bnd_lt g12
            refine ze_il pg_153 ((((3 : Int32) * ci) + wh) - 2).toNatClampNeg (V.1 169 ((((3 : Int32) * ci) + wh) - 2).toNatClampNeg) rfl ⟨by decide, by decide⟩ rfl g12 rfl rfl ?_
            refine xe_sn pg_153 1 (fr' := (89, [(0, .ref 165), (1, .int ci), (2, .int wh)], [.int (V.1 169 ((((3 : Int32) * ci) + wh) - 2).toNatClampNeg)])) rfl ?_
            cases hE
            exact xe_end pg_153 rfl
      · rw [if_neg h3] at hE
        refine xe_c2f pg_153 56 rfl rfl h3 ?_
        refine xe_sn pg_153 1 (fr' := (37, [(0, .ref 165), (1, .int ci), (2, .int wh)], [.int wh])) rfl ?_
        by_cases h13 : wh = 0
        · rw [if_pos h13] at hE
          refine xe_c1f pg_153 49 rfl rfl (fun z => z h13) ?_
          refine xe_sn pg_153 3 (fr' := (45, [(0, .ref 165), (1, .int ci), (2, .int wh)], [.int ci, .ref 167])) rfl ?_
          by_cases g14 : bnd ci 4
          case neg => rw [if_neg g14] at hE; cases hE
          rw [if_pos g14] at hE
          have g14l := bnd_lt g14
          refine ze_il pg_153 ci.toNatClampNeg (V.1 167 ci.toNatClampNeg) rfl ⟨by decide, by decide⟩ rfl g14 rfl rfl ?_
          refine xe_sn pg_153 1 (fr' := (55, [(0, .ref 165), (1, .int ci), (2, .int wh)], [.int (V.1 167 ci.toNatClampNeg)])) rfl ?_
          cases hE
          exact xe_end pg_153 rfl
        · rw [if_neg h13] at hE
          refine xe_c1t pg_153 49 rfl rfl h13 ?_
          refine xe_sn pg_153 3 (fr' := (54, [(0, .ref 165), (1, .int ci), (2, .int wh)], [.int ci, .ref 168])) rfl ?_
          by_cases g15 : bnd ci 4
          case neg => rw [if_neg g15] at hE; cases hE
          rw [if_pos g15] at hE
          have g15l := bnd_lt g15
          refine ze_il pg_153 ci.toNatClampNeg (V.1 168 ci.toNatClampNeg) rfl ⟨by decide, by decide⟩ rfl g15 rfl rfl ?_
          cases hE
          exact xe_end pg_153 rfl

def g_key (V : xVt) (ci : Int32) (hp : Int32) (k : Int32) : Option (Int32 × xVt) := (some (g_isCircuit ci)).bind fun r1 => if r1 = 0 then (some (0, (vn V 165 0 1))) else ((some (g_isCircuit ci)).bind fun r2 => if r2 = 0 then ((some (g_in hp 0 ((V.1 168 0) - 1))).bind fun r3 => if r3 = 0 then (some (0, (vn V 165 0 1))) else ((some (g_in k 0 3)).bind fun r4 => if r4 = 0 then (some (0, (vn V 165 0 1))) else (if bnd ((((12 : Int32) * ci) + ((4 : Int32) * hp)) + k) 48 then (some ((V.1 170 ((((12 : Int32) * ci) + ((4 : Int32) * hp)) + k).toNatClampNeg), (vn V 165 0 0))) else none))) else (if bnd ci 4 then ((some (g_in hp 0 ((V.1 168 ci.toNatClampNeg) - 1))).bind fun r5 => if r5 = 0 then (some (0, (vn V 165 0 1))) else ((some (g_in k 0 3)).bind fun r6 => if r6 = 0 then (some (0, (vn V 165 0 1))) else (if bnd ((((12 : Int32) * ci) + ((4 : Int32) * hp)) + k) 48 then (some ((V.1 170 ((((12 : Int32) * ci) + ((4 : Int32) * hp)) + k).toNatClampNeg), (vn V 165 0 0))) else none))) else none))
set_option maxRecDepth 100000 in
theorem cg_key (d : Nat) {w : xWd} {S : xSt} {V : xVt} {ρ : Nat → Nat → Int64} {ci : Int32} {hp : Int32} {k : Int32} {r : Int32 × xVt} (hE : (g_key V ci hp k) = some r) : xc (d + 2) 154 [.ref 165, .int ci, .int hp, .int k] (hv w S V ρ) (.inl (some (.int r.1)), hv w S r.2 ρ) := by
  unfold g_key at hE
  refine xe_sn pg_154 2 (fr' := (2, [(0, .ref 165), (1, .int ci), (2, .int hp), (3, .int k)], [.int ci, .ref 165])) rfl ?_
  obtain ⟨r1, e1, hE⟩ := Option.bind_eq_some_iff.mp hE
  refine xe_callq pg_154 104 [.int ci] (.inl (some (.int r1))) (5, [(0, .ref 165), (1, .int ci), (2, .int hp), (3, .int k)], [.int r1, .ref 165]) rfl (fun _ => rfl) (cg_isCircuit _ (v := ci)  (Option.some.inj e1)) ?_
  by_cases h1 : r1 = 0
  · rw [if_pos h1] at hE
    refine xe_c1t pg_154 48 rfl rfl h1 ?_
    refine xe_sn pg_154 1 (fr' := (49, [(0, .ref 165), (1, .int ci), (2, .int hp), (3, .int k)], [.int 0, .ref 165])) rfl ?_
    refine xe_cv pg_154 151 pg_151 [.int 0] [] (some (.int 1)) rfl rfl rfl rfl ⟨Nat.le_of_ble_eq_true rfl, Nat.le_of_ble_eq_true rfl, Nat.le_of_ble_eq_true rfl⟩ ⟨rfl, rfl⟩ ⟨by decide, rfl, by decide⟩ (cg_out0 _ ) ?_
    refine xe_sn pg_154 3 (fr' := (74, [(0, .ref 165), (1, .int ci), (2, .int hp), (3, .int k)], [.int 0])) rfl ?_
    cases hE
    exact xe_end pg_154 rfl
  · rw [if_neg h1] at hE
    refine xe_c1f pg_154 48 rfl rfl h1 ?_
    refine xe_sn pg_154 5 (fr' := (15, [(0, .ref 165), (1, .int ci), (2, .int hp), (3, .int k)], [.int ci, .ref 168, .int 0, .int hp, .ref 165])) rfl ?_
    obtain ⟨r2, e2, hE⟩ := Option.bind_eq_some_iff.mp hE
    refine xe_callq pg_154 104 [.int ci] (.inl (some (.int r2))) (18, [(0, .ref 165), (1, .int ci), (2, .int hp), (3, .int k)], [.int r2, .ref 168, .int 0, .int hp, .ref 165]) rfl (fun _ => rfl) (cg_isCircuit _ (v := ci)  (Option.some.inj e2)) ?_
    by_cases h2 : r2 = 0
    · rw [if_pos h2] at hE
      refine xe_c1t pg_154 25 rfl rfl h2 ?_
      refine xe_sn pg_154 1 (fr' := (26, [(0, .ref 165), (1, .int ci), (2, .int hp), (3, .int k)], [.int 0, .ref 168, .int 0, .int hp, .ref 165])) rfl ?_
      refine ze_il pg_154 0 (V.1 168 0) rfl ⟨by decide, by decide⟩ rfl ⟨by decide, by decide⟩ rfl rfl ?_
      refine xe_sn pg_154 2 (fr' := (29, [(0, .ref 165), (1, .int ci), (2, .int hp), (3, .int k)], [.int ((V.1 168 0) - 1), .int 0, .int hp, .ref 165])) rfl ?_
      obtain ⟨r3, e3, hE⟩ := Option.bind_eq_some_iff.mp hE
      refine xe_callq pg_154 103 [.int hp, .int 0, .int ((V.1 168 0) - 1)] (.inl (some (.int r3))) (32, [(0, .ref 165), (1, .int ci), (2, .int hp), (3, .int k)], [.int r3, .ref 165]) rfl (fun _ => rfl) (cg_in _ (v := hp) (l := 0) (h := ((V.1 168 0) - 1))  (Option.some.inj e3)) ?_
      by_cases h3 : r3 = 0
      · rw [if_pos h3] at hE
        refine xe_c1t pg_154 48 rfl rfl h3 ?_
        refine xe_sn pg_154 1 (fr' := (49, [(0, .ref 165), (1, .int ci), (2, .int hp), (3, .int k)], [.int 0, .ref 165])) rfl ?_
        refine xe_cv pg_154 151 pg_151 [.int 0] [] (some (.int 1)) rfl rfl rfl rfl ⟨Nat.le_of_ble_eq_true rfl, Nat.le_of_ble_eq_true rfl, Nat.le_of_ble_eq_true rfl⟩ ⟨rfl, rfl⟩ ⟨by decide, rfl, by decide⟩ (cg_out0 _ ) ?_
        refine xe_sn pg_154 3 (fr' := (74, [(0, .ref 165), (1, .int ci), (2, .int hp), (3, .int k)], [.int 0])) rfl ?_
        cases hE
        exact xe_end pg_154 rfl
      · rw [if_neg h3] at hE
        refine xe_c1f pg_154 48 rfl rfl h3 ?_
        refine xe_sn pg_154 3 (fr' := (38, [(0, .ref 165), (1, .int ci), (2, .int hp), (3, .int k)], [.int 3, .int 0, .int k, .ref 165])) rfl ?_
        obtain ⟨r4, e4, hE⟩ := Option.bind_eq_some_iff.mp hE
        refine xe_callq pg_154 103 [.int k, .int 0, .int 3] (.inl (some (.int r4))) (41, [(0, .ref 165), (1, .int ci), (2, .int hp), (3, .int k)], [.int r4, .ref 165]) rfl (fun _ => rfl) (cg_in _ (v := k) (l := 0) (h := 3)  (Option.some.inj e4)) ?_
        by_cases h4 : r4 = 0
        · rw [if_pos h4] at hE
          refine xe_c1t pg_154 48 rfl rfl h4 ?_
          refine xe_sn pg_154 1 (fr' := (49, [(0, .ref 165), (1, .int ci), (2, .int hp), (3, .int k)], [.int 0, .ref 165])) rfl ?_
          refine xe_cv pg_154 151 pg_151 [.int 0] [] (some (.int 1)) rfl rfl rfl rfl ⟨Nat.le_of_ble_eq_true rfl, Nat.le_of_ble_eq_true rfl, Nat.le_of_ble_eq_true rfl⟩ ⟨rfl, rfl⟩ ⟨by decide, rfl, by decide⟩ (cg_out0 _ ) ?_
          refine xe_sn pg_154 3 (fr' := (74, [(0, .ref 165), (1, .int ci), (2, .int hp), (3, .int k)], [.int 0])) rfl ?_
          cases hE
          exact xe_end pg_154 rfl
        · rw [if_neg h4] at hE
          refine xe_c1f pg_154 48 rfl rfl h4 ?_
          refine xe_sn pg_154 2 (fr' := (49, [(0, .ref 165), (1, .int ci), (2, .int hp), (3, .int k)], [.int 1, .ref 165])) rfl ?_
          refine xe_cv pg_154 151 pg_151 [.int 1] [] (some (.int 0)) rfl rfl rfl rfl ⟨Nat.le_of_ble_eq_true rfl, Nat.le_of_ble_eq_true rfl, Nat.le_of_ble_eq_true rfl⟩ ⟨rfl, rfl⟩ ⟨by decide, rfl, by decide⟩ (cg_out1 _ ) ?_
          refine xe_sn pg_154 10 (fr' := (71, [(0, .ref 165), (1, .int ci), (2, .int hp), (3, .int k)], [.int (((12 : Int32) * ci) + ((4 : Int32) * hp)), .ref 170])) rfl ?_
          refine xe_sn pg_154 2 (fr' := (73, [(0, .ref 165), (1, .int ci), (2, .int hp), (3, .int k)], [.int ((((12 : Int32) * ci) + ((4 : Int32) * hp)) + k), .ref 170])) rfl ?_
          by_cases g5 : bnd ((((12 : Int32) * ci) + ((4 : Int32) * hp)) + k) 48
          case neg => rw [if_neg g5] at hE; cases hE
          rw [if_pos g5] at hE
          have g5l := bnd_lt g5
          refine ze_il pg_154 ((((12 : Int32) * ci) + ((4 : Int32) * hp)) + k).toNatClampNeg (V.1 170 ((((12 : Int32) * ci) + ((4 : Int32) * hp)) + k).toNatClampNeg) rfl ⟨by decide, by decide⟩ rfl g5 rfl rfl ?_
          cases hE
          exact xe_end pg_154 rfl
    · rw [if_neg h2] at hE
      refine xe_c1f pg_154 25 rfl rfl h2 ?_
      refine xe_sn pg_154 2 (fr' := (26, [(0, .ref 165), (1, .int ci), (2, .int hp), (3, .int k)], [.int ci, .ref 168, .int 0, .int hp, .ref 165])) rfl ?_
      by_cases g6 : bnd ci 4
      case neg => rw [if_neg g6] at hE; cases hE
      rw [if_pos g6] at hE
      have g6l := bnd_lt g6
      refine ze_il pg_154 ci.toNatClampNeg (V.1 168 ci.toNatClampNeg) rfl ⟨by decide, by decide⟩ rfl g6 rfl rfl ?_
      refine xe_sn pg_154 2 (fr' := (29, [(0, .ref 165), (1, .int ci), (2, .int hp), (3, .int k)], [.int ((V.1 168 ci.toNatClampNeg) - 1), .int 0, .int hp, .ref 165])) rfl ?_
      obtain ⟨r5, e5, hE⟩ := Option.bind_eq_some_iff.mp hE
      refine xe_callq pg_154 103 [.int hp, .int 0, .int ((V.1 168 ci.toNatClampNeg) - 1)] (.inl (some (.int r5))) (32, [(0, .ref 165), (1, .int ci), (2, .int hp), (3, .int k)], [.int r5, .ref 165]) rfl (fun _ => rfl) (cg_in _ (v := hp) (l := 0) (h := ((V.1 168 ci.toNatClampNeg) - 1))  (Option.some.inj e5)) ?_
      by_cases h7 : r5 = 0
      · rw [if_pos h7] at hE
        refine xe_c1t pg_154 48 rfl rfl h7 ?_
        refine xe_sn pg_154 1 (fr' := (49, [(0, .ref 165), (1, .int ci), (2, .int hp), (3, .int k)], [.int 0, .ref 165])) rfl ?_
        refine xe_cv pg_154 151 pg_151 [.int 0] [] (some (.int 1)) rfl rfl rfl rfl ⟨Nat.le_of_ble_eq_true rfl, Nat.le_of_ble_eq_true rfl, Nat.le_of_ble_eq_true rfl⟩ ⟨rfl, rfl⟩ ⟨by decide, rfl, by decide⟩ (cg_out0 _ ) ?_
        refine xe_sn pg_154 3 (fr' := (74, [(0, .ref 165), (1, .int ci), (2, .int hp), (3, .int k)], [.int 0])) rfl ?_
        cases hE
        exact xe_end pg_154 rfl
      · rw [if_neg h7] at hE
        refine xe_c1f pg_154 48 rfl rfl h7 ?_
        refine xe_sn pg_154 3 (fr' := (38, [(0, .ref 165), (1, .int ci), (2, .int hp), (3, .int k)], [.int 3, .int 0, .int k, .ref 165])) rfl ?_
        obtain ⟨r6, e6, hE⟩ := Option.bind_eq_some_iff.mp hE
        refine xe_callq pg_154 103 [.int k, .int 0, .int 3] (.inl (some (.int r6))) (41, [(0, .ref 165), (1, .int ci), (2, .int hp), (3, .int k)], [.int r6, .ref 165]) rfl (fun _ => rfl) (cg_in _ (v := k) (l := 0) (h := 3)  (Option.some.inj e6)) ?_
        by_cases h8 : r6 = 0
        · rw [if_pos h8] at hE
          refine xe_c1t pg_154 48 rfl rfl h8 ?_
          refine xe_sn pg_154 1 (fr' := (49, [(0, .ref 165), (1, .int ci), (2, .int hp), (3, .int k)], [.int 0, .ref 165])) rfl ?_
          refine xe_cv pg_154 151 pg_151 [.int 0] [] (some (.int 1)) rfl rfl rfl rfl ⟨Nat.le_of_ble_eq_true rfl, Nat.le_of_ble_eq_true rfl, Nat.le_of_ble_eq_true rfl⟩ ⟨rfl, rfl⟩ ⟨by decide, rfl, by decide⟩ (cg_out0 _ ) ?_
          refine xe_sn pg_154 3 (fr' := (74, [(0, .ref 165), (1, .int ci), (2, .int hp), (3, .int k)], [.int 0])) rfl ?_
          cases hE
          exact xe_end pg_154 rfl
        · rw [if_neg h8] at hE
          refine xe_c1f pg_154 48 rfl rfl h8 ?_
          refine xe_sn pg_154 2 (fr' := (49, [(0, .ref 165), (1, .int ci), (2, .int hp), (3, .int k)], [.int 1, .ref 165])) rfl ?_
          refine xe_cv pg_154 151 pg_151 [.int 1] [] (some (.int 0)) rfl rfl rfl rfl ⟨Nat.le_of_ble_eq_true rfl, Nat.le_of_ble_eq_true rfl, Nat.le_of_ble_eq_true rfl⟩ ⟨rfl, rfl⟩ ⟨by decide, rfl, by decide⟩ (cg_out1 _ ) ?_
          refine xe_sn pg_154 10 (fr' := (71, [(0, .ref 165), (1, .int ci), (2, .int hp), (3, .int k)], [.int (((12 : Int32) * ci) + ((4 : Int32) * hp)), .ref 170])) rfl ?_
          refine xe_sn pg_154 2 (fr' := (73, [(0, .ref 165), (1, .int ci), (2, .int hp), (3, .int k)], [.int ((((12 : Int32) * ci) + ((4 : Int32) * hp)) + k), .ref 170])) rfl ?_
          by_cases g9 : bnd ((((12 : Int32) * ci) + ((4 : Int32) * hp)) + k) 48
          case neg => rw [if_neg g9] at hE; cases hE
          rw [if_pos g9] at hE
          have g9l := bnd_lt g9
          refine ze_il pg_154 ((((12 : Int32) * ci) + ((4 : Int32) * hp)) + k).toNatClampNeg (V.1 170 ((((12 : Int32) * ci) + ((4 : Int32) * hp)) + k).toNatClampNeg) rfl ⟨by decide, by decide⟩ rfl g9 rfl rfl ?_
          cases hE
          exact xe_end pg_154 rfl

def g_relay (V : xVt) (rl : Int32) (ci : Int32) (wh : Int32) : Option (Int32 × xVt) := (some (g_isRelay rl)).bind fun r1 => if r1 = 0 then (some (0, (vn V 165 0 1))) else ((some (g_isCircuit ci)).bind fun r2 => if r2 = 0 then (some (0, (vn V 165 0 1))) else ((some (g_in wh 0 10)).bind fun r3 => if r3 = 0 then (some (0, (vn V 165 0 1))) else (if bnd (rl - 1) 4 then (if bnd ci 4 then (if wh = 0 then (if (V.1 180 (4 * (rl - 1).toNatClampNeg + ci.toNatClampNeg)) = 0 then (some (0, (vn V 165 0 0))) else (some (1, (vn V 165 0 0)))) else (if wh = 1 then (some ((V.1 181 (4 * (rl - 1).toNatClampNeg + ci.toNatClampNeg)), (vn V 165 0 0))) else (if wh = 2 then (some ((V.1 182 (4 * (rl - 1).toNatClampNeg + ci.toNatClampNeg)), (vn V 165 0 0))) else (if wh = 3 then (some ((V.1 183 (4 * (rl - 1).toNatClampNeg + ci.toNatClampNeg)), (vn V 165 0 0))) else (if wh ≤ 6 then (if bnd (((nI (12 * (rl - 1).toNatClampNeg + 3 * ci.toNatClampNeg)) + wh) - 4) 48 then (if (V.1 185 (((nI (12 * (rl - 1).toNatClampNeg + 3 * ci.toNatClampNeg)) + wh) - 4).toNatClampNeg) = 0 then (some (0, (vn V 165 0 0))) else (some (1, (vn V 165 0 0)))) else none) else (if bnd (((nI (16 * (rl - 1).toNatClampNeg + 4 * ci.toNatClampNeg)) + wh) - 7) 64 then (some ((V.1 184 (((nI (16 * (rl - 1).toNatClampNeg + 4 * ci.toNatClampNeg)) + wh) - 7).toNatClampNeg), (vn V 165 0 0))) else none)))))) else none) else none)))
set_option maxRecDepth 100000 in
theorem cg_relay (d : Nat) {w : xWd} {S : xSt} {V : xVt} {ρ : Nat → Nat → Int64} {rl : Int32} {ci : Int32} {wh : Int32} {r : Int32 × xVt} (hE : (g_relay V rl ci wh) = some r) : xc (d + 2) 155 [.ref 165, .int rl, .int ci, .int wh] (hv w S V ρ) (.inl (some (.int r.1)), hv w S r.2 ρ) := by
  unfold g_relay at hE
  refine xe_sn pg_155 2 (fr' := (2, [(0, .ref 165), (1, .int rl), (2, .int ci), (3, .int wh)], [.int rl, .ref 165])) rfl ?_
  obtain ⟨r1, e1, hE⟩ := Option.bind_eq_some_iff.mp hE
  refine xe_callq pg_155 105 [.int rl] (.inl (some (.int r1))) (5, [(0, .ref 165), (1, .int rl), (2, .int ci), (3, .int wh)], [.int r1, .ref 165]) rfl (fun _ => rfl) (cg_isRelay _ (v := rl)  (Option.some.inj e1)) ?_
  by_cases h1 : r1 = 0
  · rw [if_pos h1] at hE
    refine xe_c1t pg_155 29 rfl rfl h1 ?_
    refine xe_sn pg_155 1 (fr' := (30, [(0, .ref 165), (1, .int rl), (2, .int ci), (3, .int wh)], [.int 0, .ref 165])) rfl ?_
    refine xe_cv pg_155 151 pg_151 [.int 0] [] (some (.int 1)) rfl rfl rfl rfl ⟨Nat.le_of_ble_eq_true rfl, Nat.le_of_ble_eq_true rfl, Nat.le_of_ble_eq_true rfl⟩ ⟨rfl, rfl⟩ ⟨by decide, rfl, by decide⟩ (cg_out0 _ ) ?_
    refine xe_sn pg_155 2 (fr' := (37, [(0, .ref 165), (1, .int rl), (2, .int ci), (3, .int wh)], [.int 0])) rfl ?_
    cases hE
    exact xe_end pg_155 rfl
  · rw [if_neg h1] at hE
    refine xe_c1f pg_155 29 rfl rfl h1 ?_
    refine xe_sn pg_155 1 (fr' := (9, [(0, .ref 165), (1, .int rl), (2, .int ci), (3, .int wh)], [.int ci, .ref 165])) rfl ?_
    obtain ⟨r2, e2, hE⟩ := Option.bind_eq_some_iff.mp hE
    refine xe_callq pg_155 104 [.int ci] (.inl (some (.int r2))) (12, [(0, .ref 165), (1, .int rl), (2, .int ci), (3, .int wh)], [.int r2, .ref 165]) rfl (fun _ => rfl) (cg_isCircuit _ (v := ci)  (Option.some.inj e2)) ?_
    by_cases h2 : r2 = 0
    · rw [if_pos h2] at hE
      refine xe_c1t pg_155 29 rfl rfl h2 ?_
      refine xe_sn pg_155 1 (fr' := (30, [(0, .ref 165), (1, .int rl), (2, .int ci), (3, .int wh)], [.int 0, .ref 165])) rfl ?_
      refine xe_cv pg_155 151 pg_151 [.int 0] [] (some (.int 1)) rfl rfl rfl rfl ⟨Nat.le_of_ble_eq_true rfl, Nat.le_of_ble_eq_true rfl, Nat.le_of_ble_eq_true rfl⟩ ⟨rfl, rfl⟩ ⟨by decide, rfl, by decide⟩ (cg_out0 _ ) ?_
      refine xe_sn pg_155 2 (fr' := (37, [(0, .ref 165), (1, .int rl), (2, .int ci), (3, .int wh)], [.int 0])) rfl ?_
      cases hE
      exact xe_end pg_155 rfl
    · rw [if_neg h2] at hE
      refine xe_c1f pg_155 29 rfl rfl h2 ?_
      refine xe_sn pg_155 3 (fr' := (19, [(0, .ref 165), (1, .int rl), (2, .int ci), (3, .int wh)], [.int 10, .int 0, .int wh, .ref 165])) rfl ?_
      obtain ⟨r3, e3, hE⟩ := Option.bind_eq_some_iff.mp hE
      refine xe_callq pg_155 103 [.int wh, .int 0, .int 10] (.inl (some (.int r3))) (22, [(0, .ref 165), (1, .int rl), (2, .int ci), (3, .int wh)], [.int r3, .ref 165]) rfl (fun _ => rfl) (cg_in _ (v := wh) (l := 0) (h := 10)  (Option.some.inj e3)) ?_
      by_cases h3 : r3 = 0
      · rw [if_pos h3] at hE
        refine xe_c1t pg_155 29 rfl rfl h3 ?_
        refine xe_sn pg_155 1 (fr' := (30, [(0, .ref 165), (1, .int rl), (2, .int ci), (3, .int wh)], [.int 0, .ref 165])) rfl ?_
        refine xe_cv pg_155 151 pg_151 [.int 0] [] (some (.int 1)) rfl rfl rfl rfl ⟨Nat.le_of_ble_eq_true rfl, Nat.le_of_ble_eq_true rfl, Nat.le_of_ble_eq_true rfl⟩ ⟨rfl, rfl⟩ ⟨by decide, rfl, by decide⟩ (cg_out0 _ ) ?_
        refine xe_sn pg_155 2 (fr' := (37, [(0, .ref 165), (1, .int rl), (2, .int ci), (3, .int wh)], [.int 0])) rfl ?_
        cases hE
        exact xe_end pg_155 rfl
      · rw [if_neg h3] at hE
        refine xe_c1f pg_155 29 rfl rfl h3 ?_
        refine xe_sn pg_155 2 (fr' := (30, [(0, .ref 165), (1, .int rl), (2, .int ci), (3, .int wh)], [.int 1, .ref 165])) rfl ?_
        refine xe_cv pg_155 151 pg_151 [.int 1] [] (some (.int 0)) rfl rfl rfl rfl ⟨Nat.le_of_ble_eq_true rfl, Nat.le_of_ble_eq_true rfl, Nat.le_of_ble_eq_true rfl⟩ ⟨rfl, rfl⟩ ⟨by decide, rfl, by decide⟩ (cg_out1 _ ) ?_
        refine xe_sn pg_155 4 (fr' := (41, [(0, .ref 165), (1, .int rl), (2, .int ci), (3, .int wh)], [.int ci, .int rl, .ref 165])) rfl ?_
        by_cases g4 : bnd (rl - 1) 4
        case neg => rw [if_neg g4] at hE; cases hE
        rw [if_pos g4] at hE
        have g4l := bnd_lt g4
        by_cases g5 : bnd ci 4
        case neg => rw [if_neg g5] at hE; cases hE
        rw [if_pos g5] at hE
        have g5l := bnd_lt g5
        refine xe_cv pg_155 128 pg_128 [.int rl, .int ci] [] (some (.int (nI (4 * (rl - 1).toNatClampNeg + ci.toNatClampNeg)))) rfl rfl rfl rfl ⟨Nat.le_of_ble_eq_true rfl, Nat.le_of_ble_eq_true rfl, Nat.le_of_ble_eq_true rfl⟩ ⟨rfl, rfl⟩ ⟨by decide, rfl, by decide⟩ (co_P (P := fun z => xc _ 128 [.ref 165, .int rl, .int z] _ _) (nI_bnd g5 (by omega)) (co_P (P := fun z => xc _ 128 [.ref 165, .int z, .int _] _ _) (nI_bnd1 g4 (by omega)) (cg_place _ (i := (rl - 1).toNatClampNeg) (c := ci.toNatClampNeg) (bnd_lt g4) (bnd_lt g5) rfl))) ?_
        refine xe_sn pg_155 2 (fr' := (47, [(4, .int (nI (4 * (rl - 1).toNatClampNeg + ci.toNatClampNeg))), (0, .ref 165), (1, .int rl), (2, .int ci), (3, .int wh)], [.int wh])) rfl ?_
        by_cases h6 : wh = 0
        · rw [if_pos h6] at hE
          refine xe_sw pg_155 76 h6 rfl ?_
          refine xe_sn pg_155 3 (fr' := (82, [(4, .int (nI (4 * (rl - 1).toNatClampNeg + ci.toNatClampNeg))), (0, .ref 165), (1, .int rl), (2, .int ci), (3, .int wh)], [.int (nI (4 * (rl - 1).toNatClampNeg + ci.toNatClampNeg)), .ref 180])) rfl ?_
          refine ze_bl pg_155 (4 * (rl - 1).toNatClampNeg + ci.toNatClampNeg) (V.1 180 (4 * (rl - 1).toNatClampNeg + ci.toNatClampNeg)) rfl ⟨by decide, by decide⟩ rfl (bn (by omega) (by decide)) (bc (n := 16) (by omega) (by decide)) rfl ?_
          by_cases h7 : (V.1 180 (4 * (rl - 1).toNatClampNeg + ci.toNatClampNeg)) = 0
          · rw [if_pos h7] at hE
            refine xe_c1t pg_155 90 rfl rfl h7 ?_
            refine xe_sn pg_155 1 (fr' := (91, [(4, .int (nI (4 * (rl - 1).toNatClampNeg + ci.toNatClampNeg))), (0, .ref 165), (1, .int rl), (2, .int ci), (3, .int wh)], [.int 0])) rfl ?_
            cases hE
            exact xe_end pg_155 rfl
          · rw [if_neg h7] at hE
            refine xe_c1f pg_155 90 rfl rfl h7 ?_
            refine xe_sn pg_155 2 (fr' := (91, [(4, .int (nI (4 * (rl - 1).toNatClampNeg + ci.toNatClampNeg))), (0, .ref 165), (1, .int rl), (2, .int ci), (3, .int wh)], [.int 1])) rfl ?_
            cases hE
            exact xe_end pg_155 rfl
        · rw [if_neg h6] at hE
          by_cases h8 : wh = 1
          · rw [if_pos h8] at hE
            refine xe_sw pg_155 92 h8 rfl ?_
            refine xe_sn pg_155 3 (fr' := (98, [(4, .int (nI (4 * (rl - 1).toNatClampNeg + ci.toNatClampNeg))), (0, .ref 165), (1, .int rl), (2, .int ci), (3, .int wh)], [.int (nI (4 * (rl - 1).toNatClampNeg + ci.toNatClampNeg)), .ref 181])) rfl ?_
            refine ze_il pg_155 (4 * (rl - 1).toNatClampNeg + ci.toNatClampNeg) (V.1 181 (4 * (rl - 1).toNatClampNeg + ci.toNatClampNeg)) rfl ⟨by decide, by decide⟩ rfl (bn (by omega) (by decide)) (bc (n := 16) (by omega) (by decide)) rfl ?_
            cases hE
            exact xe_end pg_155 rfl
          · rw [if_neg h8] at hE
            by_cases h9 : wh = 2
            · rw [if_pos h9] at hE
              refine xe_sw pg_155 100 h9 rfl ?_
              refine xe_sn pg_155 3 (fr' := (106, [(4, .int (nI (4 * (rl - 1).toNatClampNeg + ci.toNatClampNeg))), (0, .ref 165), (1, .int rl), (2, .int ci), (3, .int wh)], [.int (nI (4 * (rl - 1).toNatClampNeg + ci.toNatClampNeg)), .ref 182])) rfl ?_
              refine ze_il pg_155 (4 * (rl - 1).toNatClampNeg + ci.toNatClampNeg) (V.1 182 (4 * (rl - 1).toNatClampNeg + ci.toNatClampNeg)) rfl ⟨by decide, by decide⟩ rfl (bn (by omega) (by decide)) (bc (n := 16) (by omega) (by decide)) rfl ?_
              cases hE
              exact xe_end pg_155 rfl
            · rw [if_neg h9] at hE
              by_cases h10 : wh = 3
              · rw [if_pos h10] at hE
                refine xe_sw pg_155 108 h10 rfl ?_
                refine xe_sn pg_155 3 (fr' := (114, [(4, .int (nI (4 * (rl - 1).toNatClampNeg + ci.toNatClampNeg))), (0, .ref 165), (1, .int rl), (2, .int ci), (3, .int wh)], [.int (nI (4 * (rl - 1).toNatClampNeg + ci.toNatClampNeg)), .ref 183])) rfl ?_
                refine ze_il pg_155 (4 * (rl - 1).toNatClampNeg + ci.toNatClampNeg) (V.1 183 (4 * (rl - 1).toNatClampNeg + ci.toNatClampNeg)) rfl ⟨by decide, by decide⟩ rfl (bn (by omega) (by decide)) (bc (n := 16) (by omega) (by decide)) rfl ?_
                cases hE
                exact xe_end pg_155 rfl
              · rw [if_neg h10] at hE
                refine xe_tsd pg_155 116 rfl rfl (sw_out 0 3 (by decide) (by decide) (fun j hj1 hj2 => ?_)) ?_
                · rcases (by omega : j = 0 ∨ j = 1 ∨ j = 2 ∨ j = 3) with e | e | e | e <;> subst e <;> assumption
                refine xe_sn pg_155 2 (fr' := (119, [(4, .int (nI (4 * (rl - 1).toNatClampNeg + ci.toNatClampNeg))), (0, .ref 165), (1, .int rl), (2, .int ci), (3, .int wh)], [.int 6, .int wh])) rfl ?_
                by_cases h11 : wh ≤ 6
                · rw [if_pos h11] at hE
                  refine xe_c2t pg_155 139 rfl rfl h11 ?_
                  refine xe_sn pg_155 4 (fr' := (146, [(4, .int (nI (4 * (rl - 1).toNatClampNeg + ci.toNatClampNeg))), (0, .ref 165), (1, .int rl), (2, .int ci), (3, .int wh)], [.int (nI (4 * (rl - 1).toNatClampNeg + ci.toNatClampNeg)), .int 3, .ref 185])) rfl ?_
                  refine xe_nm pg_155 3 (4 * (rl - 1).toNatClampNeg + ci.toNatClampNeg) (12 * (rl - 1).toNatClampNeg + 3 * ci.toNatClampNeg) rfl (by omega) ?_
                  refine xe_sn pg_155 4 (fr' := (151, [(4, .int (nI (4 * (rl - 1).toNatClampNeg + ci.toNatClampNeg))), (0, .ref 165), (1, .int rl), (2, .int ci), (3, .int wh)], [.int (((nI (12 * (rl - 1).toNatClampNeg + 3 * ci.toNatClampNeg)) + wh) - 4), .ref 185])) rfl ?_
                  by_cases g12 : bnd (((nI (12 * (rl - 1).toNatClampNeg + 3 * ci.toNatClampNeg)) + wh) - 4) 48
                  case neg => rw [if_neg g12] at hE; cases hE
                  rw [if_pos g12] at hE
                  have g12l := bnd_lt g12
                  refine ze_bl pg_155 (((nI (12 * (rl - 1).toNatClampNeg + 3 * ci.toNatClampNeg)) + wh) - 4).toNatClampNeg (V.1 185 (((nI (12 * (rl - 1).toNatClampNeg + 3 * ci.toNatClampNeg)) + wh) - 4).toNatClampNeg) rfl ⟨by decide, by decide⟩ rfl g12 rfl rfl ?_
                  by_cases h13 : (V.1 185 (((nI (12 * (rl - 1).toNatClampNeg + 3 * ci.toNatClampNeg)) + wh) - 4).toNatClampNeg) = 0
                  · rw [if_pos h13] at hE
                    refine xe_c1t pg_155 159 rfl rfl h13 ?_
                    refine xe_sn pg_155 1 (fr' := (160, [(4, .int (nI (4 * (rl - 1).toNatClampNeg + ci.toNatClampNeg))), (0, .ref 165), (1, .int rl), (2, .int ci), (3, .int wh)], [.int 0])) rfl ?_
                    cases hE
                    exact xe_end pg_155 rfl
                  · rw [if_neg h13] at hE
                    refine xe_c1f pg_155 159 rfl rfl h13 ?_
                    refine xe_sn pg_155 2 (fr' := (160, [(4, .int (nI (4 * (rl - 1).toNatClampNeg + ci.toNatClampNeg))), (0, .ref 165), (1, .int rl), (2, .int ci), (3, .int wh)], [.int 1])) rfl ?_
                    cases hE
                    exact xe_end pg_155 rfl
                · rw [if_neg h11] at hE
                  refine xe_c2f pg_155 139 rfl rfl h11 ?_
                  refine xe_sn pg_155 4 (fr' := (129, [(4, .int (nI (4 * (rl - 1).toNatClampNeg + ci.toNatClampNeg))), (0, .ref 165), (1, .int rl), (2, .int ci), (3, .int wh)], [.int (nI (4 * (rl - 1).toNatClampNeg + ci.toNatClampNeg)), .int 4, .ref 184])) rfl ?_
                  refine xe_nm pg_155 4 (4 * (rl - 1).toNatClampNeg + ci.toNatClampNeg) (16 * (rl - 1).toNatClampNeg + 4 * ci.toNatClampNeg) rfl (by omega) ?_
                  refine xe_sn pg_155 4 (fr' := (135, [(4, .int (nI (4 * (rl - 1).toNatClampNeg + ci.toNatClampNeg))), (0, .ref 165), (1, .int rl), (2, .int ci), (3, .int wh)], [.int (((nI (16 * (rl - 1).toNatClampNeg + 4 * ci.toNatClampNeg)) + wh) - 7), .ref 184])) rfl ?_
                  by_cases g14 : bnd (((nI (16 * (rl - 1).toNatClampNeg + 4 * ci.toNatClampNeg)) + wh) - 7) 64
                  case neg => rw [if_neg g14] at hE; cases hE
                  rw [if_pos g14] at hE
                  have g14l := bnd_lt g14
                  refine ze_il pg_155 (((nI (16 * (rl - 1).toNatClampNeg + 4 * ci.toNatClampNeg)) + wh) - 7).toNatClampNeg (V.1 184 (((nI (16 * (rl - 1).toNatClampNeg + 4 * ci.toNatClampNeg)) + wh) - 7).toNatClampNeg) rfl ⟨by decide, by decide⟩ rfl g14 rfl rfl ?_
                  refine xe_sn pg_155 1 (fr' := (160, [(4, .int (nI (4 * (rl - 1).toNatClampNeg + ci.toNatClampNeg))), (0, .ref 165), (1, .int rl), (2, .int ci), (3, .int wh)], [.int (V.1 184 (((nI (16 * (rl - 1).toNatClampNeg + 4 * ci.toNatClampNeg)) + wh) - 7).toNatClampNeg)])) rfl ?_
                  cases hE
                  exact xe_end pg_155 rfl

def g_data (V : xVt) (ci : Int32) (i : Int32) : Option (Int32 × xVt) := (some (g_isCircuit ci)).bind fun r1 => (some (g_out V r1)).bind fun r2 => if r2.1 = 0 then (if bnd ci 4 then ((some (g_in i 0 ((r2.2.1 176 ci.toNatClampNeg) - 1))).bind fun r3 => if r3 = 0 then (some ((-1), r2.2)) else (if bnd (((7 : Int32) * ci) + i) 28 then (some ((r2.2.1 177 (((7 : Int32) * ci) + i).toNatClampNeg), r2.2)) else none)) else none) else (some (0, r2.2))
set_option maxRecDepth 100000 in
theorem cg_data (d : Nat) {w : xWd} {S : xSt} {V : xVt} {ρ : Nat → Nat → Int64} {ci : Int32} {i : Int32} {r : Int32 × xVt} (hE : (g_data V ci i) = some r) : xc (d + 2) 156 [.ref 165, .int ci, .int i] (hv w S V ρ) (.inl (some (.int r.1)), hv w S r.2 ρ) := by
  unfold g_data at hE
  refine xe_sn pg_156 2 (fr' := (2, [(0, .ref 165), (1, .int ci), (2, .int i)], [.int ci, .ref 165])) rfl ?_
  obtain ⟨r1, e1, hE⟩ := Option.bind_eq_some_iff.mp hE
  refine xe_callq pg_156 104 [.int ci] (.inl (some (.int r1))) (5, [(0, .ref 165), (1, .int ci), (2, .int i)], [.int r1, .ref 165]) rfl (fun _ => rfl) (cg_isCircuit _ (v := ci)  (Option.some.inj e1)) ?_
  obtain ⟨r2, e2, hE⟩ := Option.bind_eq_some_iff.mp hE
  refine xe_cv pg_156 151 pg_151 [.int r1] [] (some (.int r2.1)) rfl rfl rfl rfl ⟨Nat.le_of_ble_eq_true rfl, Nat.le_of_ble_eq_true rfl, Nat.le_of_ble_eq_true rfl⟩ ⟨rfl, rfl⟩ ⟨by decide, rfl, by decide⟩ (cg_out _ (gd := r1) (bg_isCircuit (Option.some.inj e1)) (Option.some.inj e2)) ?_
  by_cases h1 : r2.1 = 0
  · rw [if_pos h1] at hE
    refine xe_c1t pg_156 13 rfl rfl h1 ?_
    refine xe_sn pg_156 5 (fr' := (20, [(0, .ref 165), (1, .int ci), (2, .int i)], [.int ci, .ref 176, .int 0, .int i])) rfl ?_
    by_cases g2 : bnd ci 4
    case neg => rw [if_neg g2] at hE; cases hE
    rw [if_pos g2] at hE
    have g2l := bnd_lt g2
    refine ze_il pg_156 ci.toNatClampNeg (r2.2.1 176 ci.toNatClampNeg) rfl ⟨by decide, by decide⟩ rfl g2 rfl rfl ?_
    refine xe_sn pg_156 2 (fr' := (23, [(0, .ref 165), (1, .int ci), (2, .int i)], [.int ((r2.2.1 176 ci.toNatClampNeg) - 1), .int 0, .int i])) rfl ?_
    obtain ⟨r3, e3, hE⟩ := Option.bind_eq_some_iff.mp hE
    refine xe_callq pg_156 103 [.int i, .int 0, .int ((r2.2.1 176 ci.toNatClampNeg) - 1)] (.inl (some (.int r3))) (26, [(0, .ref 165), (1, .int ci), (2, .int i)], [.int r3]) rfl (fun _ => rfl) (cg_in _ (v := i) (l := 0) (h := ((r2.2.1 176 ci.toNatClampNeg) - 1))  (Option.some.inj e3)) ?_
    by_cases h3 : r3 = 0
    · rw [if_pos h3] at hE
      refine xe_c1t pg_156 43 rfl rfl h3 ?_
      refine xe_sn pg_156 1 (fr' := (44, [(0, .ref 165), (1, .int ci), (2, .int i)], [.int (-1)])) rfl ?_
      cases hE
      exact xe_end pg_156 rfl
    · rw [if_neg h3] at hE
      refine xe_c1f pg_156 43 rfl rfl h3 ?_
      refine xe_sn pg_156 7 (fr' := (39, [(0, .ref 165), (1, .int ci), (2, .int i)], [.int (((7 : Int32) * ci) + i), .ref 177])) rfl ?_
      by_cases g4 : bnd (((7 : Int32) * ci) + i) 28
      case neg => rw [if_neg g4] at hE; cases hE
      rw [if_pos g4] at hE
      have g4l := bnd_lt g4
      refine ze_il pg_156 (((7 : Int32) * ci) + i).toNatClampNeg (r2.2.1 177 (((7 : Int32) * ci) + i).toNatClampNeg) rfl ⟨by decide, by decide⟩ rfl g4 rfl rfl ?_
      refine xe_sn pg_156 1 (fr' := (44, [(0, .ref 165), (1, .int ci), (2, .int i)], [.int (r2.2.1 177 (((7 : Int32) * ci) + i).toNatClampNeg)])) rfl ?_
      cases hE
      exact xe_end pg_156 rfl
  · rw [if_neg h1] at hE
    refine xe_c1f pg_156 13 rfl rfl h1 ?_
    refine xe_sn pg_156 1 (fr' := (12, [(0, .ref 165), (1, .int ci), (2, .int i)], [.int 0])) rfl ?_
    cases hE
    exact xe_end pg_156 rfl

def g_count (V : xVt) (wh : Int32) : Option (Int32 × xVt) := (some (g_in wh 0 4)).bind fun r1 => (some (g_out V r1)).bind fun r2 => if r2.1 = 0 then (if wh = 0 then (some ((r2.2.1 165 1), r2.2)) else (if wh = 1 then (some ((r2.2.1 165 3), r2.2)) else (if wh = 2 then (some ((r2.2.1 165 4), r2.2)) else (if wh = 3 then (some ((r2.2.1 165 5), r2.2)) else ((some (g_readies r2.2)).bind fun r3 => some (r3, r2.2)))))) else (some (0, r2.2))
set_option maxRecDepth 100000 in
theorem cg_count (d : Nat) {w : xWd} {S : xSt} {V : xVt} {ρ : Nat → Nat → Int64} {wh : Int32} {r : Int32 × xVt} (hE : (g_count V wh) = some r) : xc (d + 1) 158 [.ref 165, .int wh] (hv w S V ρ) (.inl (some (.int r.1)), hv w S r.2 ρ) := by
  unfold g_count at hE
  refine xe_sn pg_158 4 (fr' := (4, [(0, .ref 165), (1, .int wh)], [.int 4, .int 0, .int wh, .ref 165])) rfl ?_
  obtain ⟨r1, e1, hE⟩ := Option.bind_eq_some_iff.mp hE
  refine xe_callq pg_158 103 [.int wh, .int 0, .int 4] (.inl (some (.int r1))) (7, [(0, .ref 165), (1, .int wh)], [.int r1, .ref 165]) rfl (fun _ => rfl) (cg_in _ (v := wh) (l := 0) (h := 4)  (Option.some.inj e1)) ?_
  obtain ⟨r2, e2, hE⟩ := Option.bind_eq_some_iff.mp hE
  refine xe_cv pg_158 151 pg_151 [.int r1] [] (some (.int r2.1)) rfl rfl rfl rfl ⟨Nat.le_of_ble_eq_true rfl, Nat.le_of_ble_eq_true rfl, Nat.le_of_ble_eq_true rfl⟩ ⟨rfl, rfl⟩ ⟨by decide, rfl, by decide⟩ (cg_out _ (gd := r1) (bg_in (Option.some.inj e1)) (Option.some.inj e2)) ?_
  by_cases h1 : r2.1 = 0
  · rw [if_pos h1] at hE
    refine xe_c1t pg_158 15 rfl rfl h1 ?_
    refine xe_sn pg_158 1 (fr' := (16, [(0, .ref 165), (1, .int wh)], [.int wh])) rfl ?_
    by_cases h2 : wh = 0
    · rw [if_pos h2] at hE
      refine xe_c1f pg_158 26 rfl rfl (fun z => z h2) ?_
      refine xe_sn pg_158 1 (fr' := (20, [(0, .ref 165), (1, .int wh)], [.ref 165])) rfl ?_
      refine ze_gi pg_158 (r2.2.1 165 1) rfl rfl rfl rfl ?_
      refine xe_sn pg_158 1 (fr' := (66, [(0, .ref 165), (1, .int wh)], [.int (r2.2.1 165 1)])) rfl ?_
      cases hE
      exact xe_end pg_158 rfl
    · rw [if_neg h2] at hE
      refine xe_c1t pg_158 26 rfl rfl h2 ?_
      refine xe_sn pg_158 2 (fr' := (28, [(0, .ref 165), (1, .int wh)], [.int 1, .int wh])) rfl ?_
      by_cases h3 : wh = 1
      · rw [if_pos h3] at hE
        refine xe_c2f pg_158 38 rfl rfl (fun z => z h3) ?_
        refine xe_sn pg_158 1 (fr' := (32, [(0, .ref 165), (1, .int wh)], [.ref 165])) rfl ?_
        refine ze_gi pg_158 (r2.2.1 165 3) rfl rfl rfl rfl ?_
        refine xe_sn pg_158 1 (fr' := (66, [(0, .ref 165), (1, .int wh)], [.int (r2.2.1 165 3)])) rfl ?_
        cases hE
        exact xe_end pg_158 rfl
      · rw [if_neg h3] at hE
        refine xe_c2t pg_158 38 rfl rfl h3 ?_
        refine xe_sn pg_158 2 (fr' := (40, [(0, .ref 165), (1, .int wh)], [.int 2, .int wh])) rfl ?_
        by_cases h4 : wh = 2
        · rw [if_pos h4] at hE
          refine xe_c2f pg_158 50 rfl rfl (fun z => z h4) ?_
          refine xe_sn pg_158 1 (fr' := (44, [(0, .ref 165), (1, .int wh)], [.ref 165])) rfl ?_
          refine ze_gi pg_158 (r2.2.1 165 4) rfl rfl rfl rfl ?_
          refine xe_sn pg_158 1 (fr' := (66, [(0, .ref 165), (1, .int wh)], [.int (r2.2.1 165 4)])) rfl ?_
          cases hE
          exact xe_end pg_158 rfl
        · rw [if_neg h4] at hE
          refine xe_c2t pg_158 50 rfl rfl h4 ?_
          refine xe_sn pg_158 2 (fr' := (52, [(0, .ref 165), (1, .int wh)], [.int 3, .int wh])) rfl ?_
          by_cases h5 : wh = 3
          · rw [if_pos h5] at hE
            refine xe_c2f pg_158 62 rfl rfl (fun z => z h5) ?_
            refine xe_sn pg_158 1 (fr' := (56, [(0, .ref 165), (1, .int wh)], [.ref 165])) rfl ?_
            refine ze_gi pg_158 (r2.2.1 165 5) rfl rfl rfl rfl ?_
            refine xe_sn pg_158 1 (fr' := (66, [(0, .ref 165), (1, .int wh)], [.int (r2.2.1 165 5)])) rfl ?_
            cases hE
            exact xe_end pg_158 rfl
          · rw [if_neg h5] at hE
            refine xe_c2t pg_158 62 rfl rfl h5 ?_
            refine xe_sn pg_158 1 (fr' := (63, [(0, .ref 165), (1, .int wh)], [.ref 165])) rfl ?_
            obtain ⟨r3, e3, hE⟩ := Option.bind_eq_some_iff.mp hE
            refine xe_cv pg_158 157 pg_157 [] [] (some (.int r3)) rfl rfl rfl rfl ⟨Nat.le_of_ble_eq_true rfl, Nat.le_of_ble_eq_true rfl, Nat.le_of_ble_eq_true rfl⟩ ⟨rfl, rfl⟩ ⟨by decide, rfl, by decide⟩ (cg_readies _  (Option.some.inj e3)) ?_
            cases hE
            exact xe_end pg_158 rfl
  · rw [if_neg h1] at hE
    refine xe_c1f pg_158 15 rfl rfl h1 ?_
    refine xe_sn pg_158 1 (fr' := (14, [(0, .ref 165), (1, .int wh)], [.int 0])) rfl ?_
    cases hE
    exact xe_end pg_158 rfl

