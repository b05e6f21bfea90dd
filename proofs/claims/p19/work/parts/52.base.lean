/-! raising; a cell's row; dropping streams -/
def f_raise (a e : Int32) : Option Int32 := if bnd a 65536 then (if bnd e 65536 then some (nI (a.toNatClampNeg ^ e.toNatClampNeg % 65521)) else none) else none
theorem nI_bnd {x : Int32} {n : Nat} (h : bnd x n) (hn : n ≤ 65536) : x = nI x.toNatClampNeg := by
  obtain ⟨e, -, h2, h3⟩ := lf_nat x 0 65536 h.1 (by have := h.2; omega)
  rw [h3, nI_clamp (by omega)]
theorem c_raiseO (d : Nat) {h : xHp} {a e : Int32} {r : Int32} (hE : f_raise a e = some r) : xc d 0 [.int a, .int e] h (.inl (some (.int r)), h) := by
  unfold f_raise at hE
  by_cases h1 : bnd a 65536
  · rw [if_pos h1] at hE
    by_cases h2 : bnd e 65536
    · rw [if_pos h2] at hE
      cases hE
      have k := c_raise d (a := a.toNatClampNeg) (e := e.toNatClampNeg) (bnd_lt h1) (bnd_lt h2) h
      rw [← nI_bnd h1 (by omega), ← nI_bnd h2 (by omega)] at k
      exact k
    · rw [if_neg h2] at hE
      cases hE
  · rw [if_neg h1] at hE
    cases hE
theorem cg_raiseO (d : Nat) {h : xHp} {a e : Int32} {r : Int32} (hE : f_raise a e = some r) : xc d 106 [.int a, .int e] h (.inl (some (.int r)), h) := by
  unfold f_raise at hE
  by_cases h1 : bnd a 65536
  · rw [if_pos h1] at hE
    by_cases h2 : bnd e 65536
    · rw [if_pos h2] at hE
      cases hE
      have k := m_raise d (a := a.toNatClampNeg) (e := e.toNatClampNeg) (bnd_lt h1) (bnd_lt h2) h
      rw [← nI_bnd h1 (by omega), ← nI_bnd h2 (by omega)] at k
      exact k
    · rw [if_neg h2] at hE
      cases hE
  · rw [if_neg h1] at hE
    cases hE
def rw0 (a b c e g : Int32) (f : Nat → Int32) : Nat → Int32 := fun i => if i < 14 then f i else if i = 14 then a else if i = 15 then b else if i = 16 then c else if i = 17 then e else if i = 18 then g else 0
def zf : Nat → Int32 := fun _ => 0
theorem c_adr0 (d : Nat) {w : xWd} {S : xSt} {μ : Nat → Nat → Int32} {ρ : Nat → Nat → Int64} {κ : Nat} {a : Int32} {b : Int32} {c : Int32} {e : Int32} (hκ : κ < 22) : xc (d) 6 [.ref (ja_L κ), .int a, .int b, .int c, .int e] (hz w S μ ρ) (.inl (none), hz w (sr S κ (rw0 a b c e 0 zf)) μ ρ) := by
  have k := c_address d (w := w) (S := S) (μ := μ) (ρ := ρ) (a := a) (b := b) (c := c) (e := e) hκ
  have e9 : hz w (w_adr S κ a b c e) μ ρ = hz w (sr S κ (rw0 a b c e 0 zf)) μ ρ := by
    refine hz_cgY rfl (fun κ' i hi => ?_) rfl
    unfold w_adr sr
    dsimp only
    by_cases h : κ' = κ
    · rw [if_pos h, if_pos h]
      unfold adr rw0 zf
      by_cases h1 : i < 14
      · rw [if_pos h1, if_pos h1]
      · rw [if_neg h1, if_neg h1]
        rcases (by omega : i = 14 ∨ i = 15 ∨ i = 16 ∨ i = 17 ∨ i = 18) with e | e | e | e | e <;> subst e <;> rfl
    · rw [if_neg h, if_neg h]
  rw [e9] at k
  exact k
def dropX (X : Nat → Nat → Int32) (c : Nat) (hop : Int32) : Nat → Nat → Int32 := fun r i => if (r = 173 ∨ r = 175) ∧ 3 * c ≤ i ∧ i < 3 * c + 3 ∧ hop ≤ X 174 i then 0 else X r i
def f_dropO (S : xSt) (c : Nat) (hop : Int32) : xSt := if (S.1 174 (3 * c)) < hop then (if (S.1 174 (3 * c + 1)) < hop then (if (S.1 174 (3 * c + 2)) < hop then S else (f_become S c 2 0 0)) else (if ((f_become S c 1 0 0).1 174 (3 * c + 2)) < hop then (f_become S c 1 0 0) else (f_become (f_become S c 1 0 0) c 2 0 0))) else (if ((f_become S c 0 0 0).1 174 (3 * c + 1)) < hop then (if ((f_become S c 0 0 0).1 174 (3 * c + 2)) < hop then (f_become S c 0 0 0) else (f_become (f_become S c 0 0 0) c 2 0 0)) else (if ((f_become (f_become S c 0 0 0) c 1 0 0).1 174 (3 * c + 2)) < hop then (f_become (f_become S c 0 0 0) c 1 0 0) else (f_become (f_become (f_become S c 0 0 0) c 1 0 0) c 2 0 0)))
set_option maxRecDepth 100000 in
theorem c_dropO (d : Nat) {w : xWd} {S : xSt} {μ : Nat → Nat → Int32} {ρ : Nat → Nat → Int64} {c : Nat} {hop : Int32} (hc : c < 4) {r : xSt} (hE : (f_dropO S c hop) = r) : xc (d + 1) 31 [.ref (ja_C c), .int hop] (hz w S μ ρ) (.inl (none), hz w r μ ρ) := by
  unfold f_dropO at hE
  refine xe_sn pg_31 6 (fr' := (8, [(2, .int 0), (0, .ref (ja_C c)), (1, .int hop)], [.ref (ja_C c)])) rfl ?_
  refine xe_gr pg_31 (ja_V c) rfl rfl rfl (kk1 (k_C hc)) (r_C2 hc _) ?_
  refine xe_sn pg_31 1 (fr' := (12, [(2, .int 0), (0, .ref (ja_C c)), (1, .int hop)], [.int 0, .ref (ja_V c)])) rfl ?_
  refine xe_al pg_31 0 (ja_S c 0) rfl (k_V hc) ⟨by decide, by decide⟩ ⟨by decide, by decide⟩ rfl (r_V hc (by decide) _) ?_
  refine ye_gi pg_31 (S.1 174 (3 * c)) rfl rfl rfl (kk1 (k_S hc (by decide))) ((show lx _ 1 174 _ from lx_ix (3 * c) (l_S hc (by decide) (by decide)) (by omega)).rd _) ?_
  refine xe_sn pg_31 1 (fr' := (17, [(2, .int 0), (0, .ref (ja_C c)), (1, .int hop)], [.int hop, .int (S.1 174 (3 * c))])) rfl ?_
  by_cases h1 : (S.1 174 (3 * c)) < hop
  · rw [if_pos h1] at hE
    refine xe_c2t pg_31 31 rfl rfl h1 ?_
    refine xe_sn pg_31 2 (fr' := (2, [(2, .int 1), (0, .ref (ja_C c)), (1, .int hop)], [])) rfl ?_
    refine xe_sn pg_31 4 (fr' := (8, [(2, .int 1), (0, .ref (ja_C c)), (1, .int hop)], [.ref (ja_C c)])) rfl ?_
    refine xe_gr pg_31 (ja_V c) rfl rfl rfl (kk1 (k_C hc)) (r_C2 hc _) ?_
    refine xe_sn pg_31 1 (fr' := (12, [(2, .int 1), (0, .ref (ja_C c)), (1, .int hop)], [.int 1, .ref (ja_V c)])) rfl ?_
    refine xe_al pg_31 1 (ja_S c 1) rfl (k_V hc) ⟨by decide, by decide⟩ ⟨by decide, by decide⟩ rfl (r_V hc (by decide) _) ?_
    refine ye_gi pg_31 (S.1 174 (3 * c + 1)) rfl rfl rfl (kk1 (k_S hc (by decide))) ((show lx _ 1 174 _ from lx_ix (3 * c + 1) (l_S hc (by decide) (by decide)) (by omega)).rd _) ?_
    refine xe_sn pg_31 1 (fr' := (17, [(2, .int 1), (0, .ref (ja_C c)), (1, .int hop)], [.int hop, .int (S.1 174 (3 * c + 1))])) rfl ?_
    by_cases h2 : (S.1 174 (3 * c + 1)) < hop
    · rw [if_pos h2] at hE
      refine xe_c2t pg_31 31 rfl rfl h2 ?_
      refine xe_sn pg_31 2 (fr' := (2, [(2, .int 2), (0, .ref (ja_C c)), (1, .int hop)], [])) rfl ?_
      refine xe_sn pg_31 4 (fr' := (8, [(2, .int 2), (0, .ref (ja_C c)), (1, .int hop)], [.ref (ja_C c)])) rfl ?_
      refine xe_gr pg_31 (ja_V c) rfl rfl rfl (kk1 (k_C hc)) (r_C2 hc _) ?_
      refine xe_sn pg_31 1 (fr' := (12, [(2, .int 2), (0, .ref (ja_C c)), (1, .int hop)], [.int 2, .ref (ja_V c)])) rfl ?_
      refine xe_al pg_31 2 (ja_S c 2) rfl (k_V hc) ⟨by decide, by decide⟩ ⟨by decide, by decide⟩ rfl (r_V hc (by decide) _) ?_
      refine ye_gi pg_31 (S.1 174 (3 * c + 2)) rfl rfl rfl (kk1 (k_S hc (by decide))) ((show lx _ 1 174 _ from lx_ix (3 * c + 2) (l_S hc (by decide) (by decide)) (by omega)).rd _) ?_
      refine xe_sn pg_31 1 (fr' := (17, [(2, .int 2), (0, .ref (ja_C c)), (1, .int hop)], [.int hop, .int (S.1 174 (3 * c + 2))])) rfl ?_
      by_cases h3 : (S.1 174 (3 * c + 2)) < hop
      · rw [if_pos h3] at hE
        refine xe_c2t pg_31 31 rfl rfl h3 ?_
        refine xe_sn pg_31 2 (fr' := (2, [(2, .int 3), (0, .ref (ja_C c)), (1, .int hop)], [])) rfl ?_
        refine xe_sn pg_31 3 (fr' := (37, [(2, .int 3), (0, .ref (ja_C c)), (1, .int hop)], [])) rfl ?_
        subst hE
        exact xe_end pg_31 rfl
      · rw [if_neg h3] at hE
        refine xe_c2f pg_31 31 rfl rfl h3 ?_
        refine xe_sn pg_31 1 (fr' := (21, [(2, .int 2), (0, .ref (ja_C c)), (1, .int hop)], [.ref (ja_C c)])) rfl ?_
        refine xe_gr pg_31 (ja_V c) rfl rfl rfl (kk1 (k_C hc)) (r_C2 hc _) ?_
        refine xe_sn pg_31 1 (fr' := (25, [(2, .int 2), (0, .ref (ja_C c)), (1, .int hop)], [.int 2, .ref (ja_V c)])) rfl ?_
        refine xe_al pg_31 2 (ja_S c 2) rfl (k_V hc) ⟨by decide, by decide⟩ ⟨by decide, by decide⟩ rfl (r_V hc (by decide) _) ?_
        refine xe_sn pg_31 2 (fr' := (28, [(2, .int 2), (0, .ref (ja_C c)), (1, .int hop)], [.int 0, .int 0, .ref (ja_S c 2)])) rfl ?_
        refine xe_cv pg_31 71 pg_71 [.int 0, .int 0] [] (none) rfl rfl rfl rfl ⟨Nat.le_of_ble_eq_true rfl, Nat.le_of_ble_eq_true rfl, Nat.le_of_ble_eq_true rfl⟩ ⟨rfl, rfl⟩ (kk2 (k_S hc (by decide)) (by decide)) (c_become _ (c := c) (s := 2) (a := 0) (b := 0) hc (by decide) rfl) ?_
        refine xe_sn pg_31 2 (fr' := (2, [(2, .int 3), (0, .ref (ja_C c)), (1, .int hop)], [])) rfl ?_
        refine xe_sn pg_31 3 (fr' := (37, [(2, .int 3), (0, .ref (ja_C c)), (1, .int hop)], [])) rfl ?_
        subst hE
        exact xe_end pg_31 rfl
    · rw [if_neg h2] at hE
      refine xe_c2f pg_31 31 rfl rfl h2 ?_
      refine xe_sn pg_31 1 (fr' := (21, [(2, .int 1), (0, .ref (ja_C c)), (1, .int hop)], [.ref (ja_C c)])) rfl ?_
      refine xe_gr pg_31 (ja_V c) rfl rfl rfl (kk1 (k_C hc)) (r_C2 hc _) ?_
      refine xe_sn pg_31 1 (fr' := (25, [(2, .int 1), (0, .ref (ja_C c)), (1, .int hop)], [.int 1, .ref (ja_V c)])) rfl ?_
      refine xe_al pg_31 1 (ja_S c 1) rfl (k_V hc) ⟨by decide, by decide⟩ ⟨by decide, by decide⟩ rfl (r_V hc (by decide) _) ?_
      refine xe_sn pg_31 2 (fr' := (28, [(2, .int 1), (0, .ref (ja_C c)), (1, .int hop)], [.int 0, .int 0, .ref (ja_S c 1)])) rfl ?_
      refine xe_cv pg_31 71 pg_71 [.int 0, .int 0] [] (none) rfl rfl rfl rfl ⟨Nat.le_of_ble_eq_true rfl, Nat.le_of_ble_eq_true rfl, Nat.le_of_ble_eq_true rfl⟩ ⟨rfl, rfl⟩ (kk2 (k_S hc (by decide)) (by decide)) (c_become _ (c := c) (s := 1) (a := 0) (b := 0) hc (by decide) rfl) ?_
      refine xe_sn pg_31 2 (fr' := (2, [(2, .int 2), (0, .ref (ja_C c)), (1, .int hop)], [])) rfl ?_
      refine xe_sn pg_31 4 (fr' := (8, [(2, .int 2), (0, .ref (ja_C c)), (1, .int hop)], [.ref (ja_C c)])) rfl ?_
      refine xe_gr pg_31 (ja_V c) rfl rfl rfl (kk1 (k_C hc)) (r_C2 hc _) ?_
      refine xe_sn pg_31 1 (fr' := (12, [(2, .int 2), (0, .ref (ja_C c)), (1, .int hop)], [.int 2, .ref (ja_V c)])) rfl ?_
      refine xe_al pg_31 2 (ja_S c 2) rfl (k_V hc) ⟨by decide, by decide⟩ ⟨by decide, by decide⟩ rfl (r_V hc (by decide) _) ?_
      refine ye_gi pg_31 ((f_become S c 1 0 0).1 174 (3 * c + 2)) rfl rfl rfl (kk1 (k_S hc (by decide))) ((show lx _ 1 174 _ from lx_ix (3 * c + 2) (l_S hc (by decide) (by decide)) (by omega)).rd _) ?_
      refine xe_sn pg_31 1 (fr' := (17, [(2, .int 2), (0, .ref (ja_C c)), (1, .int hop)], [.int hop, .int ((f_become S c 1 0 0).1 174 (3 * c + 2))])) rfl ?_
      by_cases h4 : ((f_become S c 1 0 0).1 174 (3 * c + 2)) < hop
      · rw [if_pos h4] at hE
        refine xe_c2t pg_31 31 rfl rfl h4 ?_
        refine xe_sn pg_31 2 (fr' := (2, [(2, .int 3), (0, .ref (ja_C c)), (1, .int hop)], [])) rfl ?_
        refine xe_sn pg_31 3 (fr' := (37, [(2, .int 3), (0, .ref (ja_C c)), (1, .int hop)], [])) rfl ?_
        subst hE
        exact xe_end pg_31 rfl
      · rw [if_neg h4] at hE
        refine xe_c2f pg_31 31 rfl rfl h4 ?_
        refine xe_sn pg_31 1 (fr' := (21, [(2, .int 2), (0, .ref (ja_C c)), (1, .int hop)], [.ref (ja_C c)])) rfl ?_
        refine xe_gr pg_31 (ja_V c) rfl rfl rfl (kk1 (k_C hc)) (r_C2 hc _) ?_
        refine xe_sn pg_31 1 (fr' := (25, [(2, .int 2), (0, .ref (ja_C c)), (1, .int hop)], [.int 2, .ref (ja_V c)])) rfl ?_
        refine xe_al pg_31 2 (ja_S c 2) rfl (k_V hc) ⟨by decide, by decide⟩ ⟨by decide, by decide⟩ rfl (r_V hc (by decide) _) ?_
        refine xe_sn pg_31 2 (fr' := (28, [(2, .int 2), (0, .ref (ja_C c)), (1, .int hop)], [.int 0, .int 0, .ref (ja_S c 2)])) rfl ?_
        refine xe_cv pg_31 71 pg_71 [.int 0, .int 0] [] (none) rfl rfl rfl rfl ⟨Nat.le_of_ble_eq_true rfl, Nat.le_of_ble_eq_true rfl, Nat.le_of_ble_eq_true rfl⟩ ⟨rfl, rfl⟩ (kk2 (k_S hc (by decide)) (by decide)) (c_become _ (c := c) (s := 2) (a := 0) (b := 0) hc (by decide) rfl) ?_
        refine xe_sn pg_31 2 (fr' := (2, [(2, .int 3), (0, .ref (ja_C c)), (1, .int hop)], [])) rfl ?_
        refine xe_sn pg_31 3 (fr' := (37, [(2, .int 3), (0, .ref (ja_C c)), (1, .int hop)], [])) rfl ?_
        subst hE
        exact xe_end pg_31 rfl
  · rw [if_neg h1] at hE
    refine xe_c2f pg_31 31 rfl rfl h1 ?_
    refine xe_sn pg_31 1 (fr' := (21, [(2, .int 0), (0, .ref (ja_C c)), (1, .int hop)], [.ref (ja_C c)])) rfl ?_
    refine xe_gr pg_31 (ja_V c) rfl rfl rfl (kk1 (k_C hc)) (r_C2 hc _) ?_
    refine xe_sn pg_31 1 (fr' := (25, [(2, .int 0), (0, .ref (ja_C c)), (1, .int hop)], [.int 0, .ref (ja_V c)])) rfl ?_
    refine xe_al pg_31 0 (ja_S c 0) rfl (k_V hc) ⟨by decide, by decide⟩ ⟨by decide, by decide⟩ rfl (r_V hc (by decide) _) ?_
    refine xe_sn pg_31 2 (fr' := (28, [(2, .int 0), (0, .ref (ja_C c)), (1, .int hop)], [.int 0, .int 0, .ref (ja_S c 0)])) rfl ?_
    refine xe_cv pg_31 71 pg_71 [.int 0, .int 0] [] (none) rfl rfl rfl rfl ⟨Nat.le_of_ble_eq_true rfl, Nat.le_of_ble_eq_true rfl, Nat.le_of_ble_eq_true rfl⟩ ⟨rfl, rfl⟩ (kk2 (k_S hc (by decide)) (by decide)) (c_become _ (c := c) (s := 0) (a := 0) (b := 0) hc (by decide) rfl) ?_
    refine xe_sn pg_31 2 (fr' := (2, [(2, .int 1), (0, .ref (ja_C c)), (1, .int hop)], [])) rfl ?_
    refine xe_sn pg_31 4 (fr' := (8, [(2, .int 1), (0, .ref (ja_C c)), (1, .int hop)], [.ref (ja_C c)])) rfl ?_
    refine xe_gr pg_31 (ja_V c) rfl rfl rfl (kk1 (k_C hc)) (r_C2 hc _) ?_
    refine xe_sn pg_31 1 (fr' := (12, [(2, .int 1), (0, .ref (ja_C c)), (1, .int hop)], [.int 1, .ref (ja_V c)])) rfl ?_
    refine xe_al pg_31 1 (ja_S c 1) rfl (k_V hc) ⟨by decide, by decide⟩ ⟨by decide, by decide⟩ rfl (r_V hc (by decide) _) ?_
    refine ye_gi pg_31 ((f_become S c 0 0 0).1 174 (3 * c + 1)) rfl rfl rfl (kk1 (k_S hc (by decide))) ((show lx _ 1 174 _ from lx_ix (3 * c + 1) (l_S hc (by decide) (by decide)) (by omega)).rd _) ?_
    refine xe_sn pg_31 1 (fr' := (17, [(2, .int 1), (0, .ref (ja_C c)), (1, .int hop)], [.int hop, .int ((f_become S c 0 0 0).1 174 (3 * c + 1))])) rfl ?_
    by_cases h5 : ((f_become S c 0 0 0).1 174 (3 * c + 1)) < hop
    · rw [if_pos h5] at hE
      refine xe_c2t pg_31 31 rfl rfl h5 ?_
      refine xe_sn pg_31 2 (fr' := (2, [(2, .int 2), (0, .ref (ja_C c)), (1, .int hop)], [])) rfl ?_
      refine xe_sn pg_31 4 (fr' := (8, [(2, .int 2), (0, .ref (ja_C c)), (1, .int hop)], [.ref (ja_C c)])) rfl ?_
      refine xe_gr pg_31 (ja_V c) rfl rfl rfl (kk1 (k_C hc)) (r_C2 hc _) ?_
      refine xe_sn pg_31 1 (fr' := (12, [(2, .int 2), (0, .ref (ja_C c)), (1, .int hop)], [.int 2, .ref (ja_V c)])) rfl ?_
      refine xe_al pg_31 2 (ja_S c 2) rfl (k_V hc) ⟨by decide, by decide⟩ ⟨by decide, by decide⟩ rfl (r_V hc (by decide) _) ?_
      refine ye_gi pg_31 ((f_become S c 0 0 0).1 174 (3 * c + 2)) rfl rfl rfl (kk1 (k_S hc (by decide))) ((show lx _ 1 174 _ from lx_ix (3 * c + 2) (l_S hc (by decide) (by decide)) (by omega)).rd _) ?_
      refine xe_sn pg_31 1 (fr' := (17, [(2, .int 2), (0, .ref (ja_C c)), (1, .int hop)], [.int hop, .int ((f_become S c 0 0 0).1 174 (3 * c + 2))])) rfl ?_
      by_cases h6 : ((f_become S c 0 0 0).1 174 (3 * c + 2)) < hop
      · rw [if_pos h6] at hE
        refine xe_c2t pg_31 31 rfl rfl h6 ?_
        refine xe_sn pg_31 2 (fr' := (2, [(2, .int 3), (0, .ref (ja_C c)), (1, .int hop)], [])) rfl ?_
        refine xe_sn pg_31 3 (fr' := (37, [(2, .int 3), (0, .ref (ja_C c)), (1, .int hop)], [])) rfl ?_
        subst hE
        exact xe_end pg_31 rfl
      · rw [if_neg h6] at hE
        refine xe_c2f pg_31 31 rfl rfl h6 ?_
        refine xe_sn pg_31 1 (fr' := (21, [(2, .int 2), (0, .ref (ja_C c)), (1, .int hop)], [.ref (ja_C c)])) rfl ?_
        refine xe_gr pg_31 (ja_V c) rfl rfl rfl (kk1 (k_C hc)) (r_C2 hc _) ?_
        refine xe_sn pg_31 1 (fr' := (25, [(2, .int 2), (0, .ref (ja_C c)), (1, .int hop)], [.int 2, .ref (ja_V c)])) rfl ?_
        refine xe_al pg_31 2 (ja_S c 2) rfl (k_V hc) ⟨by decide, by decide⟩ ⟨by decide, by decide⟩ rfl (r_V hc (by decide) _) ?_
        refine xe_sn pg_31 2 (fr' := (28, [(2, .int 2), (0, .ref (ja_C c)), (1, .int hop)], [.int 0, .int 0, .ref (ja_S c 2)])) rfl ?_
        refine xe_cv pg_31 71 pg_71 [.int 0, .int 0] [] (none) rfl rfl rfl rfl ⟨Nat.le_of_ble_eq_true rfl, Nat.le_of_ble_eq_true rfl, Nat.le_of_ble_eq_true rfl⟩ ⟨rfl, rfl⟩ (kk2 (k_S hc (by decide)) (by decide)) (c_become _ (c := c) (s := 2) (a := 0) (b := 0) hc (by decide) rfl) ?_
        refine xe_sn pg_31 2 (fr' := (2, [(2, .int 3), (0, .ref (ja_C c)), (1, .int hop)], [])) rfl ?_
        refine xe_sn pg_31 3 (fr' := (37, [(2, .int 3), (0, .ref (ja_C c)), (1, .int hop)], [])) rfl ?_
        subst hE
        exact xe_end pg_31 rfl
    · rw [if_neg h5] at hE
      refine xe_c2f pg_31 31 rfl rfl h5 ?_
      refine xe_sn pg_31 1 (fr' := (21, [(2, .int 1), (0, .ref (ja_C c)), (1, .int hop)], [.ref (ja_C c)])) rfl ?_
      refine xe_gr pg_31 (ja_V c) rfl rfl rfl (kk1 (k_C hc)) (r_C2 hc _) ?_
      refine xe_sn pg_31 1 (fr' := (25, [(2, .int 1), (0, .ref (ja_C c)), (1, .int hop)], [.int 1, .ref (ja_V c)])) rfl ?_
      refine xe_al pg_31 1 (ja_S c 1) rfl (k_V hc) ⟨by decide, by decide⟩ ⟨by decide, by decide⟩ rfl (r_V hc (by decide) _) ?_
      refine xe_sn pg_31 2 (fr' := (28, [(2, .int 1), (0, .ref (ja_C c)), (1, .int hop)], [.int 0, .int 0, .ref (ja_S c 1)])) rfl ?_
      refine xe_cv pg_31 71 pg_71 [.int 0, .int 0] [] (none) rfl rfl rfl rfl ⟨Nat.le_of_ble_eq_true rfl, Nat.le_of_ble_eq_true rfl, Nat.le_of_ble_eq_true rfl⟩ ⟨rfl, rfl⟩ (kk2 (k_S hc (by decide)) (by decide)) (c_become _ (c := c) (s := 1) (a := 0) (b := 0) hc (by decide) rfl) ?_
      refine xe_sn pg_31 2 (fr' := (2, [(2, .int 2), (0, .ref (ja_C c)), (1, .int hop)], [])) rfl ?_
      refine xe_sn pg_31 4 (fr' := (8, [(2, .int 2), (0, .ref (ja_C c)), (1, .int hop)], [.ref (ja_C c)])) rfl ?_
      refine xe_gr pg_31 (ja_V c) rfl rfl rfl (kk1 (k_C hc)) (r_C2 hc _) ?_
      refine xe_sn pg_31 1 (fr' := (12, [(2, .int 2), (0, .ref (ja_C c)), (1, .int hop)], [.int 2, .ref (ja_V c)])) rfl ?_
      refine xe_al pg_31 2 (ja_S c 2) rfl (k_V hc) ⟨by decide, by decide⟩ ⟨by decide, by decide⟩ rfl (r_V hc (by decide) _) ?_
      refine ye_gi pg_31 ((f_become (f_become S c 0 0 0) c 1 0 0).1 174 (3 * c + 2)) rfl rfl rfl (kk1 (k_S hc (by decide))) ((show lx _ 1 174 _ from lx_ix (3 * c + 2) (l_S hc (by decide) (by decide)) (by omega)).rd _) ?_
      refine xe_sn pg_31 1 (fr' := (17, [(2, .int 2), (0, .ref (ja_C c)), (1, .int hop)], [.int hop, .int ((f_become (f_become S c 0 0 0) c 1 0 0).1 174 (3 * c + 2))])) rfl ?_
      by_cases h7 : ((f_become (f_become S c 0 0 0) c 1 0 0).1 174 (3 * c + 2)) < hop
      · rw [if_pos h7] at hE
        refine xe_c2t pg_31 31 rfl rfl h7 ?_
        refine xe_sn pg_31 2 (fr' := (2, [(2, .int 3), (0, .ref (ja_C c)), (1, .int hop)], [])) rfl ?_
        refine xe_sn pg_31 3 (fr' := (37, [(2, .int 3), (0, .ref (ja_C c)), (1, .int hop)], [])) rfl ?_
        subst hE
        exact xe_end pg_31 rfl
      · rw [if_neg h7] at hE
        refine xe_c2f pg_31 31 rfl rfl h7 ?_
        refine xe_sn pg_31 1 (fr' := (21, [(2, .int 2), (0, .ref (ja_C c)), (1, .int hop)], [.ref (ja_C c)])) rfl ?_
        refine xe_gr pg_31 (ja_V c) rfl rfl rfl (kk1 (k_C hc)) (r_C2 hc _) ?_
        refine xe_sn pg_31 1 (fr' := (25, [(2, .int 2), (0, .ref (ja_C c)), (1, .int hop)], [.int 2, .ref (ja_V c)])) rfl ?_
        refine xe_al pg_31 2 (ja_S c 2) rfl (k_V hc) ⟨by decide, by decide⟩ ⟨by decide, by decide⟩ rfl (r_V hc (by decide) _) ?_
        refine xe_sn pg_31 2 (fr' := (28, [(2, .int 2), (0, .ref (ja_C c)), (1, .int hop)], [.int 0, .int 0, .ref (ja_S c 2)])) rfl ?_
        refine xe_cv pg_31 71 pg_71 [.int 0, .int 0] [] (none) rfl rfl rfl rfl ⟨Nat.le_of_ble_eq_true rfl, Nat.le_of_ble_eq_true rfl, Nat.le_of_ble_eq_true rfl⟩ ⟨rfl, rfl⟩ (kk2 (k_S hc (by decide)) (by decide)) (c_become _ (c := c) (s := 2) (a := 0) (b := 0) hc (by decide) rfl) ?_
        refine xe_sn pg_31 2 (fr' := (2, [(2, .int 3), (0, .ref (ja_C c)), (1, .int hop)], [])) rfl ?_
        refine xe_sn pg_31 3 (fr' := (37, [(2, .int 3), (0, .ref (ja_C c)), (1, .int hop)], [])) rfl ?_
        subst hE
        exact xe_end pg_31 rfl

def f_add (S : xSt) (a : Int32) (b : Int32) (c : Int32) (e : Int32) : Option (Nat × xSt) := if 20 ≤ (S.1 165 1) then ((some (sr (sx S 165 4 ((S.1 165 4) + 1)) 0 (rw0 a b c e 0 zf))).bind fun r1 => some (0, r1)) else (if bnd (S.1 165 1) 20 then (if (S.2.2 ((S.1 165 1).toNatClampNeg)) < 22 then ((some (sr (sx S 165 1 ((S.1 165 1) + 1)) (S.2.2 ((S.1 165 1).toNatClampNeg)) (rw0 a b c e 0 zf))).bind fun r2 => some ((S.2.2 ((S.1 165 1).toNatClampNeg)), r2)) else none) else none)
set_option maxRecDepth 100000 in
theorem c_add (d : Nat) {w : xWd} {S : xSt} {μ : Nat → Nat → Int32} {ρ : Nat → Nat → Int64} {a : Int32} {b : Int32} {c : Int32} {e : Int32} {r : Nat × xSt} (hE : (f_add S a b c e) = some r) : xc (d + 1) 68 [.ref 1, .int a, .int b, .int c, .int e] (hz w S μ ρ) (.inl (some (.ref (ja_L r.1))), hz w r.2 μ ρ) := by
  unfold f_add at hE
  refine xe_sn pg_68 1 (fr' := (1, [(0, .ref 1), (1, .int a), (2, .int b), (3, .int c), (4, .int e)], [.ref 1])) rfl ?_
  refine xe_gr pg_68 (ja_L 0) rfl rfl rfl (kk1 k_W) rfl ?_
  refine xe_sn pg_68 2 (fr' := (7, [(5, .ref (ja_L 0)), (0, .ref 1), (1, .int a), (2, .int b), (3, .int c), (4, .int e)], [.ref 1])) rfl ?_
  refine ye_gi pg_68 (S.1 165 1) rfl rfl rfl (kk1 k_W) (l_size.rd _) ?_
  refine xe_sn pg_68 1 (fr' := (12, [(5, .ref (ja_L 0)), (0, .ref 1), (1, .int a), (2, .int b), (3, .int c), (4, .int e)], [.int 20, .int (S.1 165 1)])) rfl ?_
  by_cases h1 : 20 ≤ (S.1 165 1)
  · rw [if_pos h1] at hE
    refine xe_c2t pg_68 39 rfl rfl h1 ?_
    refine xe_sn pg_68 2 (fr' := (41, [(5, .ref (ja_L 0)), (0, .ref 1), (1, .int a), (2, .int b), (3, .int c), (4, .int e)], [.ref 1, .ref 1])) rfl ?_
    refine ye_gi pg_68 (S.1 165 4) rfl rfl rfl (kk1 k_W) (l_lost.rd _) ?_
    refine xe_sn pg_68 2 (fr' := (46, [(5, .ref (ja_L 0)), (0, .ref 1), (1, .int a), (2, .int b), (3, .int c), (4, .int e)], [.int ((S.1 165 4) + 1), .ref 1])) rfl ?_
    refine ye_px pg_68 rfl rfl ⟨rfl, rfl⟩ (Or.inl rfl) (kk1 k_W) l_lost ?_
    refine xe_sn pg_68 5 (fr' := (56, [(5, .ref (ja_L 0)), (0, .ref 1), (1, .int a), (2, .int b), (3, .int c), (4, .int e)], [.int e, .int c, .int b, .int a, .ref (ja_L 0)])) rfl ?_
    obtain ⟨r1, e1, hE⟩ := Option.bind_eq_some_iff.mp hE
    have e1q := Option.some.inj e1
    refine xe_cv pg_68 6 pg_6 [.int a, .int b, .int c, .int e] [] (none) rfl rfl rfl rfl ⟨Nat.le_of_ble_eq_true rfl, Nat.le_of_ble_eq_true rfl, Nat.le_of_ble_eq_true rfl⟩ ⟨rfl, rfl⟩ (kk2 (k_L (by decide)) (by decide)) (e1q ▸ c_adr0 _ (κ := 0) (a := a) (b := b) (c := c) (e := e) (by decide)) ?_
    refine xe_sn pg_68 1 (fr' := (61, [(5, .ref (ja_L 0)), (0, .ref 1), (1, .int a), (2, .int b), (3, .int c), (4, .int e)], [.ref (ja_L 0)])) rfl ?_
    cases hE
    exact xe_end pg_68 rfl
  · rw [if_neg h1] at hE
    refine xe_c2f pg_68 39 rfl rfl h1 ?_
    refine xe_sn pg_68 1 (fr' := (16, [(5, .ref (ja_L 0)), (0, .ref 1), (1, .int a), (2, .int b), (3, .int c), (4, .int e)], [.ref 1])) rfl ?_
    refine xe_gr pg_68 2 rfl rfl rfl (kk1 k_W) rfl ?_
    refine xe_sn pg_68 1 (fr' := (20, [(5, .ref (ja_L 0)), (0, .ref 1), (1, .int a), (2, .int b), (3, .int c), (4, .int e)], [.ref 1, .ref 2])) rfl ?_
    refine ye_gi pg_68 (S.1 165 1) rfl rfl rfl (kk1 k_W) (l_size.rd _) ?_
    by_cases g2 : bnd (S.1 165 1) 20
    case neg => rw [if_neg g2] at hE; cases hE
    rw [if_pos g2] at hE
    refine xe_al pg_68 (S.1 165 1).toNatClampNeg (ja_L (S.2.2 ((S.1 165 1).toNatClampNeg))) rfl k_WC ⟨by decide, by decide⟩ g2 rfl (r_WC _ (bnd_lt g2)) ?_
    by_cases g3 : (S.2.2 ((S.1 165 1).toNatClampNeg)) < 22
    case neg => rw [if_neg g3] at hE; cases hE
    rw [if_pos g3] at hE
    refine xe_sn pg_68 3 (fr' := (28, [(5, .ref (ja_L (S.2.2 ((S.1 165 1).toNatClampNeg)))), (0, .ref 1), (1, .int a), (2, .int b), (3, .int c), (4, .int e)], [.ref 1, .ref 1])) rfl ?_
    refine ye_gi pg_68 (S.1 165 1) rfl rfl rfl (kk1 k_W) (l_size.rd _) ?_
    refine xe_sn pg_68 2 (fr' := (33, [(5, .ref (ja_L (S.2.2 ((S.1 165 1).toNatClampNeg)))), (0, .ref 1), (1, .int a), (2, .int b), (3, .int c), (4, .int e)], [.int ((S.1 165 1) + 1), .ref 1])) rfl ?_
    refine ye_px pg_68 rfl rfl ⟨rfl, rfl⟩ (Or.inl rfl) (kk1 k_W) l_size ?_
    refine xe_sn pg_68 1 (fr' := (49, [(5, .ref (ja_L (S.2.2 ((S.1 165 1).toNatClampNeg)))), (0, .ref 1), (1, .int a), (2, .int b), (3, .int c), (4, .int e)], [])) rfl ?_
    refine xe_sn pg_68 5 (fr' := (56, [(5, .ref (ja_L (S.2.2 ((S.1 165 1).toNatClampNeg)))), (0, .ref 1), (1, .int a), (2, .int b), (3, .int c), (4, .int e)], [.int e, .int c, .int b, .int a, .ref (ja_L (S.2.2 ((S.1 165 1).toNatClampNeg)))])) rfl ?_
    obtain ⟨r2, e2, hE⟩ := Option.bind_eq_some_iff.mp hE
    have e2q := Option.some.inj e2
    refine xe_cv pg_68 6 pg_6 [.int a, .int b, .int c, .int e] [] (none) rfl rfl rfl rfl ⟨Nat.le_of_ble_eq_true rfl, Nat.le_of_ble_eq_true rfl, Nat.le_of_ble_eq_true rfl⟩ ⟨rfl, rfl⟩ (kk2 (k_L g3) (by decide)) (e2q ▸ c_adr0 _ (κ := (S.2.2 ((S.1 165 1).toNatClampNeg))) (a := a) (b := b) (c := c) (e := e) g3) ?_
    refine xe_sn pg_68 1 (fr' := (61, [(5, .ref (ja_L (S.2.2 ((S.1 165 1).toNatClampNeg)))), (0, .ref 1), (1, .int a), (2, .int b), (3, .int c), (4, .int e)], [.ref (ja_L (S.2.2 ((S.1 165 1).toNatClampNeg)))])) rfl ?_
    cases hE
    exact xe_end pg_68 rfl
theorem t_add {S : xSt} {a : Int32} {b : Int32} {c : Int32} {e : Int32} {r : Nat × xSt} (hE : (f_add S a b c e) = some r) : r.1 < 22 := by
  unfold f_add at hE
  by_cases h1 : 20 ≤ (S.1 165 1)
  · rw [if_pos h1] at hE
    obtain ⟨r1, e1, hE⟩ := Option.bind_eq_some_iff.mp hE
    cases hE
    exact (show 0 < 22 from (by decide))
  · rw [if_neg h1] at hE
    by_cases g2 : bnd (S.1 165 1) 20
    · rw [if_pos g2] at hE
      by_cases g3 : (S.2.2 ((S.1 165 1).toNatClampNeg)) < 22
      · rw [if_pos g3] at hE
        obtain ⟨r2, e2, hE⟩ := Option.bind_eq_some_iff.mp hE
        cases hE
        exact (show (S.2.2 ((S.1 165 1).toNatClampNeg)) < 22 from g3)
      · rw [if_neg g3] at hE
        cases hE
    · rw [if_neg g2] at hE
      cases hE

def dp1 (S : xSt) (c s : Nat) (hop : Int32) : xSt := if S.1 174 (3 * c + s) < hop then S else f_become S c s 0 0
theorem dropO_1 (S : xSt) (c s : Nat) (hop : Int32) (r i : Nat) : (dp1 S c s hop).1 r i = if (r = 173 ∨ r = 175) ∧ i = 3 * c + s ∧ hop ≤ S.1 174 (3 * c + s) then 0 else S.1 r i := by
  unfold dp1
  by_cases h : S.1 174 (3 * c + s) < hop
  · rw [if_pos h, if_neg (fun q => Int32.not_le.mpr h q.2.2)]
  · rw [if_neg h]
    have h' : hop ≤ S.1 174 (3 * c + s) := Int32.not_lt.mp h
    show xi_u2 (xi_u2 S.1 173 (3 * c + s) 0) 175 (3 * c + s) 0 r i = _
    rw [u2_at, u2_at]
    by_cases e1 : r = 175 ∧ i = 3 * c + s
    · rw [if_pos e1, if_pos ⟨Or.inr e1.1, e1.2, h'⟩]
    · rw [if_neg e1]
      by_cases e2 : r = 173 ∧ i = 3 * c + s
      · rw [if_pos e2, if_pos ⟨Or.inl e2.1, e2.2, h'⟩]
      · rw [if_neg e2, if_neg]
        rintro ⟨q1 | q1, q2, -⟩
        · exact e2 ⟨q1, q2⟩
        · exact e1 ⟨q1, q2⟩
theorem dropO_2 (S : xSt) (c s : Nat) (hop : Int32) : (dp1 S c s hop).2 = S.2 := by
  unfold dp1
  split <;> rfl
theorem dropO_3 (S : xSt) (c s : Nat) (hop : Int32) (j : Nat) : (dp1 S c s hop).1 174 j = S.1 174 j := by
  rw [dropO_1, if_neg (fun q => by omega)]
theorem dropO_eq (S : xSt) (c : Nat) (hop : Int32) : f_dropO S c hop = (dropX S.1 c hop, S.2) := by
  have e1 : ∀ (T : xSt), (if T.1 174 (3 * c + 2) < hop then T else f_become T c 2 0 0) = dp1 T c 2 hop := fun _ => rfl
  have e2 : ∀ (T : xSt), (if T.1 174 (3 * c + 1) < hop then dp1 T c 2 hop else dp1 (f_become T c 1 0 0) c 2 hop) = dp1 (dp1 T c 1 hop) c 2 hop := fun T => by
    by_cases h : T.1 174 (3 * c + 1) < hop
    · rw [if_pos h, show dp1 T c 1 hop = T from if_pos h]
    · rw [if_neg h, show dp1 T c 1 hop = f_become T c 1 0 0 from if_neg h]
  have e : f_dropO S c hop = dp1 (dp1 (dp1 S c 0 hop) c 1 hop) c 2 hop := by
    unfold f_dropO
    rw [e1, e1, e1, e1, e2, e2]
    by_cases h : S.1 174 (3 * c) < hop
    · rw [if_pos h, show dp1 S c 0 hop = S from if_pos h]
    · rw [if_neg h, show dp1 S c 0 hop = f_become S c 0 0 0 from if_neg h]
  rw [e]
  refine Prod.ext ?_ (by rw [dropO_2, dropO_2, dropO_2])
  funext r i
  rw [dropO_1 (dp1 (dp1 S c 0 hop) c 1 hop), dropO_3, dropO_3, dropO_1 (dp1 S c 0 hop), dropO_3, dropO_1 S]
  show _ = dropX S.1 c hop r i
  unfold dropX
  by_cases hr : r = 173 ∨ r = 175
  · rcases (by omega : i = 3 * c + 0 ∨ i = 3 * c + 1 ∨ i = 3 * c + 2 ∨ ¬ (3 * c ≤ i ∧ i < 3 * c + 3)) with q | q | q | q
    · subst q
      rw [if_neg (fun z => by omega), if_neg (fun z => by omega)]
      by_cases h9 : hop ≤ S.1 174 (3 * c + 0)
      · rw [if_pos ⟨hr, rfl, h9⟩, if_pos ⟨hr, by omega, by omega, h9⟩]
      · rw [if_neg (fun z => h9 z.2.2), if_neg (fun z => h9 z.2.2.2)]
    · subst q
      rw [if_neg (fun z => by omega)]
      by_cases h9 : hop ≤ S.1 174 (3 * c + 1)
      · rw [if_pos ⟨hr, rfl, h9⟩, if_pos ⟨hr, by omega, by omega, h9⟩]
      · rw [if_neg (fun z => h9 z.2.2), if_neg (fun z => by omega), if_neg (fun z => h9 z.2.2.2)]
    · subst q
      by_cases h9 : hop ≤ S.1 174 (3 * c + 2)
      · rw [if_pos ⟨hr, rfl, h9⟩, if_pos ⟨hr, by omega, by omega, h9⟩]
      · rw [if_neg (fun z => h9 z.2.2), if_neg (fun z => by omega), if_neg (fun z => by omega), if_neg (fun z => h9 z.2.2.2)]
    · rw [if_neg (fun z => by omega), if_neg (fun z => by omega), if_neg (fun z => by omega), if_neg (fun z => by omega)]
  · rw [if_neg (fun z => hr z.1), if_neg (fun z => hr z.1), if_neg (fun z => hr z.1), if_neg (fun z => hr z.1)]
theorem c_drop (d : Nat) {w : xWd} {S : xSt} {μ : Nat → Nat → Int32} {ρ : Nat → Nat → Int64} {c : Nat} {hop : Int32} (hc : c < 4) : xc (d + 1) 31 [.ref (ja_C c), .int hop] (hz w S μ ρ) (.inl (none), hz w (dropX S.1 c hop, S.2) μ ρ) := by
  rw [← dropO_eq]
  exact c_dropO d hc rfl
