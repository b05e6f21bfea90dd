/-! the class's face: checks, answers and exceptions -/
abbrev fzw (w : xWd) : xWd := (true, w.2.1 + 1, w.2.2.1 + 6, w.2.2.2)
def rsl : Option Int32 ⊕ Nat → Option Value ⊕ Nat
  | .inl none => .inl none
  | .inl (some v) => .inl (some (.int v))
  | .inr E => .inr E
def wx : Option Int32 ⊕ Nat → xWd → xWd
  | .inl _, w => w
  | .inr _, w => fzw w
theorem fz_hz (w : xWd) (S : xSt) (μ : Nat → Nat → Int32) (ρ : Nat → Nat → Int64) : xi_fz (hz w S μ ρ) = hz (fzw w) S μ ρ := rfl
theorem lo_ne {x n : Int32} {k : Int} (hk : n.toInt = k) (h : ¬ x = n) : ¬ k = x.toInt := fun q => h (Int32.toInt_inj.mp (q.symm.trans hk.symm))
theorem xe_lsd {d m : Nat} {mi : xMi} (hp : xpg[m]? = some mi) {pc len : Nat} {dflt : Int} {ps : Array (Int × Int)} (t : Nat) {lv : List (Nat × Value)} {x : Int32} {st : List Value} {h : xHp} {r : xRs} (ht : xi_a (xi_tb mi) pc = some (.lookupswitch dflt ps, len)) (hs : (ps.toList.zip (ps.toList.drop 1)).all (fun (a, next) => a.1 < next.1) = true) (hx : Op.lookupswitch.offset ps.toList dflt x.toInt = dflt) (ho : (pc : Int) + dflt = (t : Int)) (hr : xe d m (t, lv, st) h r) : xe d m (pc, lv, .int x :: st) h r := by
  refine xe_1 hp ?_ hr
  unfold xi_st
  rw [show xi_a (xi_tb mi) ((pc, lv, Value.int x :: st) : xFr).1 = some (.lookupswitch dflt ps, len) from ht]
  show (xi_s1 _ _ _ (.lookupswitch dflt ps) pc lv (.int x :: st) h).map Sum.inl = _
  unfold xi_s1
  dsimp only
  rw [if_pos hs, hx]
  unfold xi_go
  rw [ho, if_pos (Int.natCast_nonneg t)]
  rfl
def f_takeOut (S : xSt) (i : Int32) : Option (Nat × xSt) := if bnd (S.1 165 1 - 1) 20 then (if bnd i 20 then (if i.toNatClampNeg ≤ (S.1 165 1 - 1).toNatClampNeg then (if ∀ j, j ≤ 20 → S.2.2 j < 22 then some (S.2.2 i.toNatClampNeg, (xi_u2 S.1 165 1 (S.1 165 1 - 1), S.2.1, tq S.2.2 i.toNatClampNeg (S.1 165 1 - 1).toNatClampNeg)) else none) else none) else none) else none
theorem f_takeOut_s {S : xSt} {i : Int32} {r : Nat × xSt} (hE : f_takeOut S i = some r) : bnd (S.1 165 1 - 1) 20 ∧ bnd i 20 ∧ i.toNatClampNeg ≤ (S.1 165 1 - 1).toNatClampNeg ∧ (∀ j, j ≤ 20 → S.2.2 j < 22) ∧ r = (S.2.2 i.toNatClampNeg, (xi_u2 S.1 165 1 (S.1 165 1 - 1), S.2.1, tq S.2.2 i.toNatClampNeg (S.1 165 1 - 1).toNatClampNeg)) := by
  unfold f_takeOut at hE
  by_cases h1 : bnd (S.1 165 1 - 1) 20
  case neg => rw [if_neg h1] at hE; cases hE
  by_cases h2 : bnd i 20
  case neg => rw [if_pos h1, if_neg h2] at hE; cases hE
  by_cases h3 : i.toNatClampNeg ≤ (S.1 165 1 - 1).toNatClampNeg
  case neg => rw [if_pos h1, if_pos h2, if_neg h3] at hE; cases hE
  by_cases h4 : ∀ j, j ≤ 20 → S.2.2 j < 22
  case neg => rw [if_pos h1, if_pos h2, if_pos h3, if_neg h4] at hE; cases hE
  rw [if_pos h1, if_pos h2, if_pos h3, if_pos h4] at hE
  exact ⟨h1, h2, h3, h4, (Option.some.inj hE).symm⟩
theorem c_takeOutO (d : Nat) {w : xWd} {S : xSt} {μ : Nat → Nat → Int32} {ρ : Nat → Nat → Int64} {i : Int32} {r : Nat × xSt} (hE : f_takeOut S i = some r) : xc d 69 [.ref 1, .int i] (hz w S μ ρ) (.inl (some (.ref (ja_L r.1))), hz w r.2 μ ρ) := by
  obtain ⟨h1, h2, h3, h4, rfl⟩ := f_takeOut_s hE
  have e1 := nI_bnd h1 (by omega)
  have e2 := nI_bnd h2 (by omega)
  have e3 : S.1 165 1 = nI ((S.1 165 1 - 1).toNatClampNeg + 1) := by
    rw [← nI_1, ← e1]
    exact (Int32.sub_add_cancel _ _).symm
  have k := c_takeOut d (w := w) (S := S) (μ := μ) (ρ := ρ) (i := i.toNatClampNeg) (n := (S.1 165 1 - 1).toNatClampNeg) h4 e3 h3 (bnd_lt h1)
  rw [← e1, ← e2] at k
  exact k
theorem t_takeOut {S : xSt} {i : Int32} {r : Nat × xSt} (hE : f_takeOut S i = some r) : r.1 < 22 := by
  obtain ⟨h1, h2, h3, h4, rfl⟩ := f_takeOut_s hE
  have := bnd_lt h2
  exact h4 _ (by omega)
set_option maxRecDepth 100000 in
theorem c_checkIndex_ok (d : Nat) {w : xWd} {S : xSt} {μ : Nat → Nat → Int32} {ρ : Nat → Nat → Int64} {i : Int32} {b : Int32} (h : ¬ (i < 0 ∨ b ≤ i)) : xc (d + 6) 95 [.int i, .int b] (hz w S μ ρ) (.inl none, hz w S μ ρ) := by
  refine xe_sn pg_95 1 (fr' := (1, [(0, .int i), (1, .int b)], [.int i])) rfl ?_
  refine xe_c1f pg_95 9 rfl rfl (fun q => h (Or.inl q)) ?_
  refine xe_sn pg_95 2 (fr' := (6, [(0, .int i), (1, .int b)], [.int b, .int i])) rfl ?_
  refine xe_c2t pg_95 17 rfl rfl (Int32.not_le.mp (fun q => h (Or.inr q))) ?_
  exact xe_end pg_95 rfl

set_option maxRecDepth 100000 in
theorem c_checkIndex_bad (d : Nat) {w : xWd} {S : xSt} {μ : Nat → Nat → Int32} {ρ : Nat → Nat → Int64} {i : Int32} {b : Int32} (h : (i < 0 ∨ b ≤ i)) : xc (d + 6) 95 [.int i, .int b] (hz w S μ ρ) (.inr 0, hz (fzw w) S μ ρ) := by
  refine xe_sn pg_95 1 (fr' := (1, [(0, .int i), (1, .int b)], [.int i])) rfl ?_
  by_cases h1 : i < 0
  · refine xe_c1t pg_95 9 rfl rfl h1 ?_
    exact xe_end pg_95 rfl
  · refine xe_c1f pg_95 9 rfl rfl h1 ?_
    refine xe_sn pg_95 2 (fr' := (6, [(0, .int i), (1, .int b)], [.int b, .int i])) rfl ?_
    refine xe_c2f pg_95 17 rfl rfl (fun z => Int32.not_le.mpr z (h.resolve_left h1)) ?_
    exact xe_end pg_95 rfl

set_option maxRecDepth 100000 in
theorem c_checkCircuit_ok (d : Nat) {w : xWd} {S : xSt} {μ : Nat → Nat → Int32} {ρ : Nat → Nat → Int64} {i : Int32} (h : ¬ (i < 0 ∨ 4 ≤ i)) : xc (d + 7) 92 [.int i] (hz w S μ ρ) (.inl none, hz w S μ ρ) := by
  refine xe_sn pg_92 2 (fr' := (2, [(0, .int i)], [.int 4, .int i])) rfl ?_
  refine xe_callq pg_92 95 [.int i, .int 4] (.inl none) (5, [(0, .int i)], []) rfl (fun _ => rfl) (c_checkIndex_ok _ h) ?_
  exact xe_end pg_92 rfl

set_option maxRecDepth 100000 in
theorem c_checkCircuit_bad (d : Nat) {w : xWd} {S : xSt} {μ : Nat → Nat → Int32} {ρ : Nat → Nat → Int64} {i : Int32} (h : (i < 0 ∨ 4 ≤ i)) : xc (d + 7) 92 [.int i] (hz w S μ ρ) (.inr 0, hz (fzw w) S μ ρ) := by
  refine xe_sn pg_92 2 (fr' := (2, [(0, .int i)], [.int 4, .int i])) rfl ?_
  exact xe_callqx pg_92 95 [.int i, .int 4] 0 rfl (fun _ => rfl) (c_checkIndex_bad _ h)

set_option maxRecDepth 100000 in
theorem c_checkRelay_ok (d : Nat) {w : xWd} {S : xSt} {μ : Nat → Nat → Int32} {ρ : Nat → Nat → Int64} {i : Int32} (h : ¬ (i < 1 ∨ 4 < i)) : xc (d + 6) 93 [.int i] (hz w S μ ρ) (.inl none, hz w S μ ρ) := by
  refine xe_sn pg_93 2 (fr' := (2, [(0, .int i)], [.int 1, .int i])) rfl ?_
  refine xe_c2f pg_93 10 rfl rfl (fun q => h (Or.inl q)) ?_
  refine xe_sn pg_93 2 (fr' := (7, [(0, .int i)], [.int 4, .int i])) rfl ?_
  refine xe_c2t pg_93 18 rfl rfl (Int32.not_lt.mp (fun q => h (Or.inr q))) ?_
  exact xe_end pg_93 rfl

set_option maxRecDepth 100000 in
theorem c_checkRelay_bad (d : Nat) {w : xWd} {S : xSt} {μ : Nat → Nat → Int32} {ρ : Nat → Nat → Int64} {i : Int32} (h : (i < 1 ∨ 4 < i)) : xc (d + 6) 93 [.int i] (hz w S μ ρ) (.inr 0, hz (fzw w) S μ ρ) := by
  refine xe_sn pg_93 2 (fr' := (2, [(0, .int i)], [.int 1, .int i])) rfl ?_
  by_cases h1 : i < 1
  · refine xe_c2t pg_93 10 rfl rfl h1 ?_
    exact xe_end pg_93 rfl
  · refine xe_c2f pg_93 10 rfl rfl h1 ?_
    refine xe_sn pg_93 2 (fr' := (7, [(0, .int i)], [.int 4, .int i])) rfl ?_
    refine xe_c2f pg_93 18 rfl rfl (fun z => Int32.not_lt.mpr z (h.resolve_left h1)) ?_
    exact xe_end pg_93 rfl

set_option maxRecDepth 100000 in
theorem c_checkArgument_ok (d : Nat) {w : xWd} {S : xSt} {μ : Nat → Nat → Int32} {ρ : Nat → Nat → Int64} {i : Int32} (h : ¬ i = 0) : xc (d + 6) 97 [.int i] (hz w S μ ρ) (.inl none, hz w S μ ρ) := by
  refine xe_sn pg_97 1 (fr' := (1, [(0, .int i)], [.int i])) rfl ?_
  refine xe_c1t pg_97 12 rfl rfl h ?_
  exact xe_end pg_97 rfl

set_option maxRecDepth 100000 in
theorem c_checkArgument_bad (d : Nat) {w : xWd} {S : xSt} {μ : Nat → Nat → Int32} {ρ : Nat → Nat → Int64} {i : Int32} (h : i = 0) : xc (d + 6) 97 [.int i] (hz w S μ ρ) (.inr 1, hz (fzw w) S μ ρ) := by
  refine xe_sn pg_97 1 (fr' := (1, [(0, .int i)], [.int i])) rfl ?_
  refine xe_c1f pg_97 12 rfl rfl (fun q => q h) ?_
  exact xe_end pg_97 rfl

set_option maxRecDepth 100000 in
theorem c_checkState_ok (d : Nat) {w : xWd} {S : xSt} {μ : Nat → Nat → Int32} {ρ : Nat → Nat → Int64} {i : Int32} (h : ¬ i = 0) : xc (d + 6) 98 [.int i] (hz w S μ ρ) (.inl none, hz w S μ ρ) := by
  refine xe_sn pg_98 1 (fr' := (1, [(0, .int i)], [.int i])) rfl ?_
  refine xe_c1t pg_98 12 rfl rfl h ?_
  exact xe_end pg_98 rfl

set_option maxRecDepth 100000 in
theorem c_checkState_bad (d : Nat) {w : xWd} {S : xSt} {μ : Nat → Nat → Int32} {ρ : Nat → Nat → Int64} {i : Int32} (h : i = 0) : xc (d + 6) 98 [.int i] (hz w S μ ρ) (.inr 2, hz (fzw w) S μ ρ) := by
  refine xe_sn pg_98 1 (fr' := (1, [(0, .int i)], [.int i])) rfl ?_
  refine xe_c1f pg_98 12 rfl rfl (fun q => q h) ?_
  exact xe_end pg_98 rfl

set_option maxRecDepth 100000 in
theorem c_checkStream_ok (d : Nat) {w : xWd} {S : xSt} {μ : Nat → Nat → Int32} {ρ : Nat → Nat → Int64} {i : Int32} (h : ¬ (f_isStream i) = 0) : xc (d + 6) 94 [.int i] (hz w S μ ρ) (.inl none, hz w S μ ρ) := by
  refine xe_sn pg_94 1 (fr' := (1, [(0, .int i)], [.int i])) rfl ?_
  refine xe_callq pg_94 100 [.int i] (.inl (some (.int (f_isStream i)))) (4, [(0, .int i)], [.int (f_isStream i)]) rfl (fun _ => rfl) (c_isStream _ rfl) ?_
  refine xe_c1t pg_94 15 rfl rfl h ?_
  exact xe_end pg_94 rfl

set_option maxRecDepth 100000 in
theorem c_checkStream_bad (d : Nat) {w : xWd} {S : xSt} {μ : Nat → Nat → Int32} {ρ : Nat → Nat → Int64} {i : Int32} (h : (f_isStream i) = 0) : xc (d + 6) 94 [.int i] (hz w S μ ρ) (.inr 0, hz (fzw w) S μ ρ) := by
  refine xe_sn pg_94 1 (fr' := (1, [(0, .int i)], [.int i])) rfl ?_
  refine xe_callq pg_94 100 [.int i] (.inl (some (.int (f_isStream i)))) (4, [(0, .int i)], [.int (f_isStream i)]) rfl (fun _ => rfl) (c_isStream _ rfl) ?_
  refine xe_c1f pg_94 15 rfl rfl (fun q => q h) ?_
  exact xe_end pg_94 rfl

set_option maxRecDepth 100000 in
theorem c_checkExponent_ok (d : Nat) {w : xWd} {S : xSt} {μ : Nat → Nat → Int32} {ρ : Nat → Nat → Int64} {i : Int32} (h : ¬ (i < 1 ∨ 65519 < i)) : xc (d + 7) 96 [.int i] (hz w S μ ρ) (.inl none, hz w S μ ρ) := by
  refine xe_sn pg_96 2 (fr' := (2, [(0, .int i)], [.int 1, .int i])) rfl ?_
  refine xe_jn (fr' := (16, [(0, .int i)], [.int (if i < 1 then (0 : Int32) else (if 65519 < i then (0 : Int32) else 1))])) (fun J1 => ?_) ?_
  · by_cases h1 : i < 1
    · rw [show (if i < 1 then (0 : Int32) else (if 65519 < i then (0 : Int32) else 1)) = 0 from if_pos h1] at J1
      refine xe_c2t pg_96 15 rfl rfl h1 ?_
      refine xe_sn pg_96 1 (fr' := (16, [(0, .int i)], [.int 0])) rfl ?_
      exact J1
    · rw [show (if i < 1 then (0 : Int32) else (if 65519 < i then (0 : Int32) else 1)) = (if 65519 < i then (0 : Int32) else 1) from if_neg h1] at J1
      refine xe_c2f pg_96 15 rfl rfl h1 ?_
      refine xe_sn pg_96 2 (fr' := (8, [(0, .int i)], [.int 65519, .int i])) rfl ?_
      refine xe_jn (fr' := (16, [(0, .int i)], [.int (if 65519 < i then (0 : Int32) else 1)])) (fun J2 => ?_) ?_
      · by_cases h2 : 65519 < i
        · rw [show (if 65519 < i then (0 : Int32) else 1) = 0 from if_pos h2] at J2
          refine xe_c2t pg_96 15 rfl rfl h2 ?_
          refine xe_sn pg_96 1 (fr' := (16, [(0, .int i)], [.int 0])) rfl ?_
          exact J2
        · rw [show (if 65519 < i then (0 : Int32) else 1) = 1 from if_neg h2] at J2
          refine xe_c2f pg_96 15 rfl rfl h2 ?_
          refine xe_sn pg_96 2 (fr' := (16, [(0, .int i)], [.int 1])) rfl ?_
          exact J2
      exact J1
  refine xe_callq pg_96 97 [.int (if i < 1 then (0 : Int32) else (if 65519 < i then (0 : Int32) else 1))] (.inl none) (19, [(0, .int i)], []) rfl (fun _ => rfl) (c_checkArgument_ok _ (by
    rw [if_neg (fun q => h (Or.inl q)), if_neg (fun q => h (Or.inr q))]
    decide)) ?_
  exact xe_end pg_96 rfl

set_option maxRecDepth 100000 in
theorem c_checkExponent_bad (d : Nat) {w : xWd} {S : xSt} {μ : Nat → Nat → Int32} {ρ : Nat → Nat → Int64} {i : Int32} (h : (i < 1 ∨ 65519 < i)) : xc (d + 7) 96 [.int i] (hz w S μ ρ) (.inr 1, hz (fzw w) S μ ρ) := by
  refine xe_sn pg_96 2 (fr' := (2, [(0, .int i)], [.int 1, .int i])) rfl ?_
  refine xe_jn (fr' := (16, [(0, .int i)], [.int (if i < 1 then (0 : Int32) else (if 65519 < i then (0 : Int32) else 1))])) (fun J1 => ?_) ?_
  · by_cases h1 : i < 1
    · rw [show (if i < 1 then (0 : Int32) else (if 65519 < i then (0 : Int32) else 1)) = 0 from if_pos h1] at J1
      refine xe_c2t pg_96 15 rfl rfl h1 ?_
      refine xe_sn pg_96 1 (fr' := (16, [(0, .int i)], [.int 0])) rfl ?_
      exact J1
    · rw [show (if i < 1 then (0 : Int32) else (if 65519 < i then (0 : Int32) else 1)) = (if 65519 < i then (0 : Int32) else 1) from if_neg h1] at J1
      refine xe_c2f pg_96 15 rfl rfl h1 ?_
      refine xe_sn pg_96 2 (fr' := (8, [(0, .int i)], [.int 65519, .int i])) rfl ?_
      refine xe_jn (fr' := (16, [(0, .int i)], [.int (if 65519 < i then (0 : Int32) else 1)])) (fun J2 => ?_) ?_
      · by_cases h2 : 65519 < i
        · rw [show (if 65519 < i then (0 : Int32) else 1) = 0 from if_pos h2] at J2
          refine xe_c2t pg_96 15 rfl rfl h2 ?_
          refine xe_sn pg_96 1 (fr' := (16, [(0, .int i)], [.int 0])) rfl ?_
          exact J2
        · rw [show (if 65519 < i then (0 : Int32) else 1) = 1 from if_neg h2] at J2
          refine xe_c2f pg_96 15 rfl rfl h2 ?_
          refine xe_sn pg_96 2 (fr' := (16, [(0, .int i)], [.int 1])) rfl ?_
          exact J2
      exact J1
  exact xe_callqx pg_96 97 [.int (if i < 1 then (0 : Int32) else (if 65519 < i then (0 : Int32) else 1))] 1 rfl (fun _ => rfl) (c_checkArgument_bad _ (by
    by_cases h1 : i < 1
    · rw [if_pos h1]
    · rw [if_neg h1, if_pos (h.resolve_left h1)]))

def f_readyCircuits (S : xSt) : Int32 := if (S.1 167 0) = 2 then (if (S.1 167 1) = 2 then (if (S.1 167 2) = 2 then (if (S.1 167 3) = 2 then 4 else 3) else (if (S.1 167 3) = 2 then 3 else 2)) else (if (S.1 167 2) = 2 then (if (S.1 167 3) = 2 then 3 else 2) else (if (S.1 167 3) = 2 then 2 else 1))) else (if (S.1 167 1) = 2 then (if (S.1 167 2) = 2 then (if (S.1 167 3) = 2 then 3 else 2) else (if (S.1 167 3) = 2 then 2 else 1)) else (if (S.1 167 2) = 2 then (if (S.1 167 3) = 2 then 2 else 1) else (if (S.1 167 3) = 2 then 1 else 0)))
set_option maxRecDepth 100000 in
theorem c_readyCircuits (d : Nat) {w : xWd} {S : xSt} {μ : Nat → Nat → Int32} {ρ : Nat → Nat → Int64} {r : Int32} (hE : (f_readyCircuits S) = r) : xc (d) 91 [.ref 0] (hz w S μ ρ) (.inl (some (.int r)), hz w S μ ρ) := by
  unfold f_readyCircuits at hE
  refine xe_sn pg_91 8 (fr' := (10, [(2, .int 0), (1, .int 0), (0, .ref 0)], [.ref 0])) rfl ?_
  refine xe_gr pg_91 120 rfl rfl rfl (kk1 k_O) rfl ?_
  refine xe_sn pg_91 1 (fr' := (14, [(2, .int 0), (1, .int 0), (0, .ref 0)], [.int 0, .ref 120])) rfl ?_
  refine xe_al pg_91 0 (ja_C 0) rfl k_Cs ⟨by decide, by decide⟩ ⟨by decide, by decide⟩ rfl (r_Cs (by decide) _) ?_
  refine ye_gi pg_91 (S.1 167 0) rfl rfl rfl (kk1 (k_C (by decide))) ((l_C5 (by decide)).rd _) ?_
  refine xe_sn pg_91 1 (fr' := (19, [(2, .int 0), (1, .int 0), (0, .ref 0)], [.int 2, .int (S.1 167 0)])) rfl ?_
  by_cases h1 : (S.1 167 0) = 2
  · rw [if_pos h1] at hE
    refine xe_c2f pg_91 25 rfl rfl (fun z => z h1) ?_
    refine xe_sn pg_91 3 (fr' := (4, [(2, .int 1), (1, .int 1), (0, .ref 0)], [])) rfl ?_
    refine xe_sn pg_91 4 (fr' := (10, [(2, .int 1), (1, .int 1), (0, .ref 0)], [.ref 0])) rfl ?_
    refine xe_gr pg_91 120 rfl rfl rfl (kk1 k_O) rfl ?_
    refine xe_sn pg_91 1 (fr' := (14, [(2, .int 1), (1, .int 1), (0, .ref 0)], [.int 1, .ref 120])) rfl ?_
    refine xe_al pg_91 1 (ja_C 1) rfl k_Cs ⟨by decide, by decide⟩ ⟨by decide, by decide⟩ rfl (r_Cs (by decide) _) ?_
    refine ye_gi pg_91 (S.1 167 1) rfl rfl rfl (kk1 (k_C (by decide))) ((l_C5 (by decide)).rd _) ?_
    refine xe_sn pg_91 1 (fr' := (19, [(2, .int 1), (1, .int 1), (0, .ref 0)], [.int 2, .int (S.1 167 1)])) rfl ?_
    by_cases h2 : (S.1 167 1) = 2
    · rw [if_pos h2] at hE
      refine xe_c2f pg_91 25 rfl rfl (fun z => z h2) ?_
      refine xe_sn pg_91 3 (fr' := (4, [(2, .int 2), (1, .int 2), (0, .ref 0)], [])) rfl ?_
      refine xe_sn pg_91 4 (fr' := (10, [(2, .int 2), (1, .int 2), (0, .ref 0)], [.ref 0])) rfl ?_
      refine xe_gr pg_91 120 rfl rfl rfl (kk1 k_O) rfl ?_
      refine xe_sn pg_91 1 (fr' := (14, [(2, .int 2), (1, .int 2), (0, .ref 0)], [.int 2, .ref 120])) rfl ?_
      refine xe_al pg_91 2 (ja_C 2) rfl k_Cs ⟨by decide, by decide⟩ ⟨by decide, by decide⟩ rfl (r_Cs (by decide) _) ?_
      refine ye_gi pg_91 (S.1 167 2) rfl rfl rfl (kk1 (k_C (by decide))) ((l_C5 (by decide)).rd _) ?_
      refine xe_sn pg_91 1 (fr' := (19, [(2, .int 2), (1, .int 2), (0, .ref 0)], [.int 2, .int (S.1 167 2)])) rfl ?_
      by_cases h3 : (S.1 167 2) = 2
      · rw [if_pos h3] at hE
        refine xe_c2f pg_91 25 rfl rfl (fun z => z h3) ?_
        refine xe_sn pg_91 3 (fr' := (4, [(2, .int 3), (1, .int 3), (0, .ref 0)], [])) rfl ?_
        refine xe_sn pg_91 4 (fr' := (10, [(2, .int 3), (1, .int 3), (0, .ref 0)], [.ref 0])) rfl ?_
        refine xe_gr pg_91 120 rfl rfl rfl (kk1 k_O) rfl ?_
        refine xe_sn pg_91 1 (fr' := (14, [(2, .int 3), (1, .int 3), (0, .ref 0)], [.int 3, .ref 120])) rfl ?_
        refine xe_al pg_91 3 (ja_C 3) rfl k_Cs ⟨by decide, by decide⟩ ⟨by decide, by decide⟩ rfl (r_Cs (by decide) _) ?_
        refine ye_gi pg_91 (S.1 167 3) rfl rfl rfl (kk1 (k_C (by decide))) ((l_C5 (by decide)).rd _) ?_
        refine xe_sn pg_91 1 (fr' := (19, [(2, .int 3), (1, .int 3), (0, .ref 0)], [.int 2, .int (S.1 167 3)])) rfl ?_
        by_cases h4 : (S.1 167 3) = 2
        · rw [if_pos h4] at hE
          refine xe_c2f pg_91 25 rfl rfl (fun z => z h4) ?_
          refine xe_sn pg_91 3 (fr' := (4, [(2, .int 4), (1, .int 4), (0, .ref 0)], [])) rfl ?_
          refine xe_sn pg_91 4 (fr' := (32, [(2, .int 4), (1, .int 4), (0, .ref 0)], [.int 4])) rfl ?_
          subst hE
          exact xe_end pg_91 rfl
        · rw [if_neg h4] at hE
          refine xe_c2t pg_91 25 rfl rfl h4 ?_
          refine xe_sn pg_91 2 (fr' := (4, [(2, .int 4), (1, .int 3), (0, .ref 0)], [])) rfl ?_
          refine xe_sn pg_91 4 (fr' := (32, [(2, .int 4), (1, .int 3), (0, .ref 0)], [.int 3])) rfl ?_
          subst hE
          exact xe_end pg_91 rfl
      · rw [if_neg h3] at hE
        refine xe_c2t pg_91 25 rfl rfl h3 ?_
        refine xe_sn pg_91 2 (fr' := (4, [(2, .int 3), (1, .int 2), (0, .ref 0)], [])) rfl ?_
        refine xe_sn pg_91 4 (fr' := (10, [(2, .int 3), (1, .int 2), (0, .ref 0)], [.ref 0])) rfl ?_
        refine xe_gr pg_91 120 rfl rfl rfl (kk1 k_O) rfl ?_
        refine xe_sn pg_91 1 (fr' := (14, [(2, .int 3), (1, .int 2), (0, .ref 0)], [.int 3, .ref 120])) rfl ?_
        refine xe_al pg_91 3 (ja_C 3) rfl k_Cs ⟨by decide, by decide⟩ ⟨by decide, by decide⟩ rfl (r_Cs (by decide) _) ?_
        refine ye_gi pg_91 (S.1 167 3) rfl rfl rfl (kk1 (k_C (by decide))) ((l_C5 (by decide)).rd _) ?_
        refine xe_sn pg_91 1 (fr' := (19, [(2, .int 3), (1, .int 2), (0, .ref 0)], [.int 2, .int (S.1 167 3)])) rfl ?_
        by_cases h5 : (S.1 167 3) = 2
        · rw [if_pos h5] at hE
          refine xe_c2f pg_91 25 rfl rfl (fun z => z h5) ?_
          refine xe_sn pg_91 3 (fr' := (4, [(2, .int 4), (1, .int 3), (0, .ref 0)], [])) rfl ?_
          refine xe_sn pg_91 4 (fr' := (32, [(2, .int 4), (1, .int 3), (0, .ref 0)], [.int 3])) rfl ?_
          subst hE
          exact xe_end pg_91 rfl
        · rw [if_neg h5] at hE
          refine xe_c2t pg_91 25 rfl rfl h5 ?_
          refine xe_sn pg_91 2 (fr' := (4, [(2, .int 4), (1, .int 2), (0, .ref 0)], [])) rfl ?_
          refine xe_sn pg_91 4 (fr' := (32, [(2, .int 4), (1, .int 2), (0, .ref 0)], [.int 2])) rfl ?_
          subst hE
          exact xe_end pg_91 rfl
    · rw [if_neg h2] at hE
      refine xe_c2t pg_91 25 rfl rfl h2 ?_
      refine xe_sn pg_91 2 (fr' := (4, [(2, .int 2), (1, .int 1), (0, .ref 0)], [])) rfl ?_
      refine xe_sn pg_91 4 (fr' := (10, [(2, .int 2), (1, .int 1), (0, .ref 0)], [.ref 0])) rfl ?_
      refine xe_gr pg_91 120 rfl rfl rfl (kk1 k_O) rfl ?_
      refine xe_sn pg_91 1 (fr' := (14, [(2, .int 2), (1, .int 1), (0, .ref 0)], [.int 2, .ref 120])) rfl ?_
      refine xe_al pg_91 2 (ja_C 2) rfl k_Cs ⟨by decide, by decide⟩ ⟨by decide, by decide⟩ rfl (r_Cs (by decide) _) ?_
      refine ye_gi pg_91 (S.1 167 2) rfl rfl rfl (kk1 (k_C (by decide))) ((l_C5 (by decide)).rd _) ?_
      refine xe_sn pg_91 1 (fr' := (19, [(2, .int 2), (1, .int 1), (0, .ref 0)], [.int 2, .int (S.1 167 2)])) rfl ?_
      by_cases h6 : (S.1 167 2) = 2
      · rw [if_pos h6] at hE
        refine xe_c2f pg_91 25 rfl rfl (fun z => z h6) ?_
        refine xe_sn pg_91 3 (fr' := (4, [(2, .int 3), (1, .int 2), (0, .ref 0)], [])) rfl ?_
        refine xe_sn pg_91 4 (fr' := (10, [(2, .int 3), (1, .int 2), (0, .ref 0)], [.ref 0])) rfl ?_
        refine xe_gr pg_91 120 rfl rfl rfl (kk1 k_O) rfl ?_
        refine xe_sn pg_91 1 (fr' := (14, [(2, .int 3), (1, .int 2), (0, .ref 0)], [.int 3, .ref 120])) rfl ?_
        refine xe_al pg_91 3 (ja_C 3) rfl k_Cs ⟨by decide, by decide⟩ ⟨by decide, by decide⟩ rfl (r_Cs (by decide) _) ?_
        refine ye_gi pg_91 (S.1 167 3) rfl rfl rfl (kk1 (k_C (by decide))) ((l_C5 (by decide)).rd _) ?_
        refine xe_sn pg_91 1 (fr' := (19, [(2, .int 3), (1, .int 2), (0, .ref 0)], [.int 2, .int (S.1 167 3)])) rfl ?_
        by_cases h7 : (S.1 167 3) = 2
        · rw [if_pos h7] at hE
          refine xe_c2f pg_91 25 rfl rfl (fun z => z h7) ?_
          refine xe_sn pg_91 3 (fr' := (4, [(2, .int 4), (1, .int 3), (0, .ref 0)], [])) rfl ?_
          refine xe_sn pg_91 4 (fr' := (32, [(2, .int 4), (1, .int 3), (0, .ref 0)], [.int 3])) rfl ?_
          subst hE
          exact xe_end pg_91 rfl
        · rw [if_neg h7] at hE
          refine xe_c2t pg_91 25 rfl rfl h7 ?_
          refine xe_sn pg_91 2 (fr' := (4, [(2, .int 4), (1, .int 2), (0, .ref 0)], [])) rfl ?_
          refine xe_sn pg_91 4 (fr' := (32, [(2, .int 4), (1, .int 2), (0, .ref 0)], [.int 2])) rfl ?_
          subst hE
          exact xe_end pg_91 rfl
      · rw [if_neg h6] at hE
        refine xe_c2t pg_91 25 rfl rfl h6 ?_
        refine xe_sn pg_91 2 (fr' := (4, [(2, .int 3), (1, .int 1), (0, .ref 0)], [])) rfl ?_
        refine xe_sn pg_91 4 (fr' := (10, [(2, .int 3), (1, .int 1), (0, .ref 0)], [.ref 0])) rfl ?_
        refine xe_gr pg_91 120 rfl rfl rfl (kk1 k_O) rfl ?_
        refine xe_sn pg_91 1 (fr' := (14, [(2, .int 3), (1, .int 1), (0, .ref 0)], [.int 3, .ref 120])) rfl ?_
        refine xe_al pg_91 3 (ja_C 3) rfl k_Cs ⟨by decide, by decide⟩ ⟨by decide, by decide⟩ rfl (r_Cs (by decide) _) ?_
        refine ye_gi pg_91 (S.1 167 3) rfl rfl rfl (kk1 (k_C (by decide))) ((l_C5 (by decide)).rd _) ?_
        refine xe_sn pg_91 1 (fr' := (19, [(2, .int 3), (1, .int 1), (0, .ref 0)], [.int 2, .int (S.1 167 3)])) rfl ?_
        by_cases h8 : (S.1 167 3) = 2
        · rw [if_pos h8] at hE
          refine xe_c2f pg_91 25 rfl rfl (fun z => z h8) ?_
          refine xe_sn pg_91 3 (fr' := (4, [(2, .int 4), (1, .int 2), (0, .ref 0)], [])) rfl ?_
          refine xe_sn pg_91 4 (fr' := (32, [(2, .int 4), (1, .int 2), (0, .ref 0)], [.int 2])) rfl ?_
          subst hE
          exact xe_end pg_91 rfl
        · rw [if_neg h8] at hE
          refine xe_c2t pg_91 25 rfl rfl h8 ?_
          refine xe_sn pg_91 2 (fr' := (4, [(2, .int 4), (1, .int 1), (0, .ref 0)], [])) rfl ?_
          refine xe_sn pg_91 4 (fr' := (32, [(2, .int 4), (1, .int 1), (0, .ref 0)], [.int 1])) rfl ?_
          subst hE
          exact xe_end pg_91 rfl
  · rw [if_neg h1] at hE
    refine xe_c2t pg_91 25 rfl rfl h1 ?_
    refine xe_sn pg_91 2 (fr' := (4, [(2, .int 1), (1, .int 0), (0, .ref 0)], [])) rfl ?_
    refine xe_sn pg_91 4 (fr' := (10, [(2, .int 1), (1, .int 0), (0, .ref 0)], [.ref 0])) rfl ?_
    refine xe_gr pg_91 120 rfl rfl rfl (kk1 k_O) rfl ?_
    refine xe_sn pg_91 1 (fr' := (14, [(2, .int 1), (1, .int 0), (0, .ref 0)], [.int 1, .ref 120])) rfl ?_
    refine xe_al pg_91 1 (ja_C 1) rfl k_Cs ⟨by decide, by decide⟩ ⟨by decide, by decide⟩ rfl (r_Cs (by decide) _) ?_
    refine ye_gi pg_91 (S.1 167 1) rfl rfl rfl (kk1 (k_C (by decide))) ((l_C5 (by decide)).rd _) ?_
    refine xe_sn pg_91 1 (fr' := (19, [(2, .int 1), (1, .int 0), (0, .ref 0)], [.int 2, .int (S.1 167 1)])) rfl ?_
    by_cases h9 : (S.1 167 1) = 2
    · rw [if_pos h9] at hE
      refine xe_c2f pg_91 25 rfl rfl (fun z => z h9) ?_
      refine xe_sn pg_91 3 (fr' := (4, [(2, .int 2), (1, .int 1), (0, .ref 0)], [])) rfl ?_
      refine xe_sn pg_91 4 (fr' := (10, [(2, .int 2), (1, .int 1), (0, .ref 0)], [.ref 0])) rfl ?_
      refine xe_gr pg_91 120 rfl rfl rfl (kk1 k_O) rfl ?_
      refine xe_sn pg_91 1 (fr' := (14, [(2, .int 2), (1, .int 1), (0, .ref 0)], [.int 2, .ref 120])) rfl ?_
      refine xe_al pg_91 2 (ja_C 2) rfl k_Cs ⟨by decide, by decide⟩ ⟨by decide, by decide⟩ rfl (r_Cs (by decide) _) ?_
      refine ye_gi pg_91 (S.1 167 2) rfl rfl rfl (kk1 (k_C (by decide))) ((l_C5 (by decide)).rd _) ?_
      refine xe_sn pg_91 1 (fr' := (19, [(2, .int 2), (1, .int 1), (0, .ref 0)], [.int 2, .int (S.1 167 2)])) rfl ?_
      by_cases h10 : (S.1 167 2) = 2
      · rw [if_pos h10] at hE
        refine xe_c2f pg_91 25 rfl rfl (fun z => z h10) ?_
        refine xe_sn pg_91 3 (fr' := (4, [(2, .int 3), (1, .int 2), (0, .ref 0)], [])) rfl ?_
        refine xe_sn pg_91 4 (fr' := (10, [(2, .int 3), (1, .int 2), (0, .ref 0)], [.ref 0])) rfl ?_
        refine xe_gr pg_91 120 rfl rfl rfl (kk1 k_O) rfl ?_
        refine xe_sn pg_91 1 (fr' := (14, [(2, .int 3), (1, .int 2), (0, .ref 0)], [.int 3, .ref 120])) rfl ?_
        refine xe_al pg_91 3 (ja_C 3) rfl k_Cs ⟨by decide, by decide⟩ ⟨by decide, by decide⟩ rfl (r_Cs (by decide) _) ?_
        refine ye_gi pg_91 (S.1 167 3) rfl rfl rfl (kk1 (k_C (by decide))) ((l_C5 (by decide)).rd _) ?_
        refine xe_sn pg_91 1 (fr' := (19, [(2, .int 3), (1, .int 2), (0, .ref 0)], [.int 2, .int (S.1 167 3)])) rfl ?_
        by_cases h11 : (S.1 167 3) = 2
        · rw [if_pos h11] at hE
          refine xe_c2f pg_91 25 rfl rfl (fun z => z h11) ?_
          refine xe_sn pg_91 3 (fr' := (4, [(2, .int 4), (1, .int 3), (0, .ref 0)], [])) rfl ?_
          refine xe_sn pg_91 4 (fr' := (32, [(2, .int 4), (1, .int 3), (0, .ref 0)], [.int 3])) rfl ?_
          subst hE
          exact xe_end pg_91 rfl
        · rw [if_neg h11] at hE
          refine xe_c2t pg_91 25 rfl rfl h11 ?_
          refine xe_sn pg_91 2 (fr' := (4, [(2, .int 4), (1, .int 2), (0, .ref 0)], [])) rfl ?_
          refine xe_sn pg_91 4 (fr' := (32, [(2, .int 4), (1, .int 2), (0, .ref 0)], [.int 2])) rfl ?_
          subst hE
          exact xe_end pg_91 rfl
      · rw [if_neg h10] at hE
        refine xe_c2t pg_91 25 rfl rfl h10 ?_
        refine xe_sn pg_91 2 (fr' := (4, [(2, .int 3), (1, .int 1), (0, .ref 0)], [])) rfl ?_
        refine xe_sn pg_91 4 (fr' := (10, [(2, .int 3), (1, .int 1), (0, .ref 0)], [.ref 0])) rfl ?_
        refine xe_gr pg_91 120 rfl rfl rfl (kk1 k_O) rfl ?_
        refine xe_sn pg_91 1 (fr' := (14, [(2, .int 3), (1, .int 1), (0, .ref 0)], [.int 3, .ref 120])) rfl ?_
        refine xe_al pg_91 3 (ja_C 3) rfl k_Cs ⟨by decide, by decide⟩ ⟨by decide, by decide⟩ rfl (r_Cs (by decide) _) ?_
        refine ye_gi pg_91 (S.1 167 3) rfl rfl rfl (kk1 (k_C (by decide))) ((l_C5 (by decide)).rd _) ?_
        refine xe_sn pg_91 1 (fr' := (19, [(2, .int 3), (1, .int 1), (0, .ref 0)], [.int 2, .int (S.1 167 3)])) rfl ?_
        by_cases h12 : (S.1 167 3) = 2
        · rw [if_pos h12] at hE
          refine xe_c2f pg_91 25 rfl rfl (fun z => z h12) ?_
          refine xe_sn pg_91 3 (fr' := (4, [(2, .int 4), (1, .int 2), (0, .ref 0)], [])) rfl ?_
          refine xe_sn pg_91 4 (fr' := (32, [(2, .int 4), (1, .int 2), (0, .ref 0)], [.int 2])) rfl ?_
          subst hE
          exact xe_end pg_91 rfl
        · rw [if_neg h12] at hE
          refine xe_c2t pg_91 25 rfl rfl h12 ?_
          refine xe_sn pg_91 2 (fr' := (4, [(2, .int 4), (1, .int 1), (0, .ref 0)], [])) rfl ?_
          refine xe_sn pg_91 4 (fr' := (32, [(2, .int 4), (1, .int 1), (0, .ref 0)], [.int 1])) rfl ?_
          subst hE
          exact xe_end pg_91 rfl
    · rw [if_neg h9] at hE
      refine xe_c2t pg_91 25 rfl rfl h9 ?_
      refine xe_sn pg_91 2 (fr' := (4, [(2, .int 2), (1, .int 0), (0, .ref 0)], [])) rfl ?_
      refine xe_sn pg_91 4 (fr' := (10, [(2, .int 2), (1, .int 0), (0, .ref 0)], [.ref 0])) rfl ?_
      refine xe_gr pg_91 120 rfl rfl rfl (kk1 k_O) rfl ?_
      refine xe_sn pg_91 1 (fr' := (14, [(2, .int 2), (1, .int 0), (0, .ref 0)], [.int 2, .ref 120])) rfl ?_
      refine xe_al pg_91 2 (ja_C 2) rfl k_Cs ⟨by decide, by decide⟩ ⟨by decide, by decide⟩ rfl (r_Cs (by decide) _) ?_
      refine ye_gi pg_91 (S.1 167 2) rfl rfl rfl (kk1 (k_C (by decide))) ((l_C5 (by decide)).rd _) ?_
      refine xe_sn pg_91 1 (fr' := (19, [(2, .int 2), (1, .int 0), (0, .ref 0)], [.int 2, .int (S.1 167 2)])) rfl ?_
      by_cases h13 : (S.1 167 2) = 2
      · rw [if_pos h13] at hE
        refine xe_c2f pg_91 25 rfl rfl (fun z => z h13) ?_
        refine xe_sn pg_91 3 (fr' := (4, [(2, .int 3), (1, .int 1), (0, .ref 0)], [])) rfl ?_
        refine xe_sn pg_91 4 (fr' := (10, [(2, .int 3), (1, .int 1), (0, .ref 0)], [.ref 0])) rfl ?_
        refine xe_gr pg_91 120 rfl rfl rfl (kk1 k_O) rfl ?_
        refine xe_sn pg_91 1 (fr' := (14, [(2, .int 3), (1, .int 1), (0, .ref 0)], [.int 3, .ref 120])) rfl ?_
        refine xe_al pg_91 3 (ja_C 3) rfl k_Cs ⟨by decide, by decide⟩ ⟨by decide, by decide⟩ rfl (r_Cs (by decide) _) ?_
        refine ye_gi pg_91 (S.1 167 3) rfl rfl rfl (kk1 (k_C (by decide))) ((l_C5 (by decide)).rd _) ?_
        refine xe_sn pg_91 1 (fr' := (19, [(2, .int 3), (1, .int 1), (0, .ref 0)], [.int 2, .int (S.1 167 3)])) rfl ?_
        by_cases h14 : (S.1 167 3) = 2
        · rw [if_pos h14] at hE
          refine xe_c2f pg_91 25 rfl rfl (fun z => z h14) ?_
          refine xe_sn pg_91 3 (fr' := (4, [(2, .int 4), (1, .int 2), (0, .ref 0)], [])) rfl ?_
          refine xe_sn pg_91 4 (fr' := (32, [(2, .int 4), (1, .int 2), (0, .ref 0)], [.int 2])) rfl ?_
          subst hE
          exact xe_end pg_91 rfl
        · rw [if_neg h14] at hE
          refine xe_c2t pg_91 25 rfl rfl h14 ?_
          refine xe_sn pg_91 2 (fr' := (4, [(2, .int 4), (1, .int 1), (0, .ref 0)], [])) rfl ?_
          refine xe_sn pg_91 4 (fr' := (32, [(2, .int 4), (1, .int 1), (0, .ref 0)], [.int 1])) rfl ?_
          subst hE
          exact xe_end pg_91 rfl
      · rw [if_neg h13] at hE
        refine xe_c2t pg_91 25 rfl rfl h13 ?_
        refine xe_sn pg_91 2 (fr' := (4, [(2, .int 3), (1, .int 0), (0, .ref 0)], [])) rfl ?_
        refine xe_sn pg_91 4 (fr' := (10, [(2, .int 3), (1, .int 0), (0, .ref 0)], [.ref 0])) rfl ?_
        refine xe_gr pg_91 120 rfl rfl rfl (kk1 k_O) rfl ?_
        refine xe_sn pg_91 1 (fr' := (14, [(2, .int 3), (1, .int 0), (0, .ref 0)], [.int 3, .ref 120])) rfl ?_
        refine xe_al pg_91 3 (ja_C 3) rfl k_Cs ⟨by decide, by decide⟩ ⟨by decide, by decide⟩ rfl (r_Cs (by decide) _) ?_
        refine ye_gi pg_91 (S.1 167 3) rfl rfl rfl (kk1 (k_C (by decide))) ((l_C5 (by decide)).rd _) ?_
        refine xe_sn pg_91 1 (fr' := (19, [(2, .int 3), (1, .int 0), (0, .ref 0)], [.int 2, .int (S.1 167 3)])) rfl ?_
        by_cases h15 : (S.1 167 3) = 2
        · rw [if_pos h15] at hE
          refine xe_c2f pg_91 25 rfl rfl (fun z => z h15) ?_
          refine xe_sn pg_91 3 (fr' := (4, [(2, .int 4), (1, .int 1), (0, .ref 0)], [])) rfl ?_
          refine xe_sn pg_91 4 (fr' := (32, [(2, .int 4), (1, .int 1), (0, .ref 0)], [.int 1])) rfl ?_
          subst hE
          exact xe_end pg_91 rfl
        · rw [if_neg h15] at hE
          refine xe_c2t pg_91 25 rfl rfl h15 ?_
          refine xe_sn pg_91 2 (fr' := (4, [(2, .int 4), (1, .int 0), (0, .ref 0)], [])) rfl ?_
          refine xe_sn pg_91 4 (fr' := (32, [(2, .int 4), (1, .int 0), (0, .ref 0)], [.int 0])) rfl ?_
          subst hE
          exact xe_end pg_91 rfl

def f_secret (S : xSt) (rl : Int32) (b : Int32) : Option ((Option Int32 ⊕ Nat) × xSt) := if (rl < 1 ∨ 4 < rl) then (some (.inr 0, S)) else (if (b < 1 ∨ 65519 < b) then (some (.inr 1, S)) else (if bnd (rl - 1) 4 then ((some (f_hasPassage S (rl - 1).toNatClampNeg)).bind fun r1 => if (if r1 = 0 then (1 : Int32) else 0) = 0 then (some (.inr 2, S)) else ((f_takeSecret S (rl - 1).toNatClampNeg b).bind fun r2 => some (.inl (some (r2.1 190 (rl - 1).toNatClampNeg)), r2))) else none))
set_option maxRecDepth 100000 in
theorem c_secret (d : Nat) {w : xWd} {S : xSt} {μ : Nat → Nat → Int32} {ρ : Nat → Nat → Int64} {rl : Int32} {b : Int32} {o : Option Int32 ⊕ Nat} {T : xSt} (hE : (f_secret S rl b) = some (o, T)) : xc (d + 8) 73 [.ref 0, .int rl, .int b] (hz w S μ ρ) (rsl o, hz (wx o w) T μ ρ) := by
  unfold f_secret at hE
  refine xe_sn pg_73 1 (fr' := (1, [(0, .ref 0), (1, .int rl), (2, .int b)], [.int rl])) rfl ?_
  by_cases h1 : (rl < 1 ∨ 4 < rl)
  · rw [if_pos h1] at hE
    cases hE
    exact xe_callqx pg_73 93 [.int rl] 0 rfl (fun _ => rfl) (c_checkRelay_bad _ (i := rl) h1)
  rw [if_neg h1] at hE
  refine xe_callq pg_73 93 [.int rl] (.inl none) (4, [(0, .ref 0), (1, .int rl), (2, .int b)], []) rfl (fun _ => rfl) (c_checkRelay_ok _ (i := rl) h1) ?_
  refine xe_sn pg_73 1 (fr' := (5, [(0, .ref 0), (1, .int rl), (2, .int b)], [.int b])) rfl ?_
  by_cases h2 : (b < 1 ∨ 65519 < b)
  · rw [if_pos h2] at hE
    cases hE
    exact xe_callqx pg_73 96 [.int b] 1 rfl (fun _ => rfl) (c_checkExponent_bad _ (i := b) h2)
  rw [if_neg h2] at hE
  refine xe_callq pg_73 96 [.int b] (.inl none) (8, [(0, .ref 0), (1, .int rl), (2, .int b)], []) rfl (fun _ => rfl) (c_checkExponent_ok _ (i := b) h2) ?_
  refine xe_sn pg_73 1 (fr' := (9, [(0, .ref 0), (1, .int rl), (2, .int b)], [.ref 0])) rfl ?_
  refine xe_gr pg_73 47 rfl rfl rfl (kk1 k_O) rfl ?_
  refine xe_sn pg_73 3 (fr' := (15, [(0, .ref 0), (1, .int rl), (2, .int b)], [.int (rl - 1), .ref 47])) rfl ?_
  by_cases g3 : bnd (rl - 1) 4
  case neg => rw [if_neg g3] at hE; cases hE
  rw [if_pos g3] at hE
  refine xe_al pg_73 (rl - 1).toNatClampNeg (ja_R (rl - 1).toNatClampNeg) rfl k_Rs ⟨by decide, by decide⟩ g3 rfl (r_Rs (bnd_lt g3) _) ?_
  refine xe_sn pg_73 2 (fr' := (18, [(3, .ref (ja_R (rl - 1).toNatClampNeg)), (0, .ref 0), (1, .int rl), (2, .int b)], [.ref (ja_R (rl - 1).toNatClampNeg)])) rfl ?_
  obtain ⟨r1, e1, hE⟩ := Option.bind_eq_some_iff.mp hE
  refine xe_cv pg_73 64 pg_64 [] [] (some (.int r1)) rfl rfl rfl rfl ⟨Nat.le_of_ble_eq_true rfl, Nat.le_of_ble_eq_true rfl, Nat.le_of_ble_eq_true rfl⟩ ⟨rfl, rfl⟩ (kk2 (k_R (bnd_lt g3)) (by decide)) (c_hasPassage _ (i := (rl - 1).toNatClampNeg) (bnd_lt g3) (Option.some.inj e1)) ?_
  refine xe_jn (fr' := (29, [(3, .ref (ja_R (rl - 1).toNatClampNeg)), (0, .ref 0), (1, .int rl), (2, .int b)], [.int (if r1 = 0 then (1 : Int32) else 0)])) (fun J4 => ?_) ?_
  · by_cases h4 : r1 = 0
    · rw [show (if r1 = 0 then (1 : Int32) else 0) = 1 from if_pos h4] at J4
      refine xe_c1f pg_73 28 rfl rfl (fun z => z h4) ?_
      refine xe_sn pg_73 2 (fr' := (29, [(3, .ref (ja_R (rl - 1).toNatClampNeg)), (0, .ref 0), (1, .int rl), (2, .int b)], [.int 1])) rfl ?_
      exact J4
    · rw [show (if r1 = 0 then (1 : Int32) else 0) = 0 from if_neg h4] at J4
      refine xe_c1t pg_73 28 rfl rfl h4 ?_
      refine xe_sn pg_73 1 (fr' := (29, [(3, .ref (ja_R (rl - 1).toNatClampNeg)), (0, .ref 0), (1, .int rl), (2, .int b)], [.int 0])) rfl ?_
      exact J4
  by_cases h5 : (if r1 = 0 then (1 : Int32) else 0) = 0
  · rw [if_pos h5] at hE
    cases hE
    exact xe_callqx pg_73 98 [.int (if r1 = 0 then (1 : Int32) else 0)] 2 rfl (fun _ => rfl) (c_checkState_bad _ (i := (if r1 = 0 then (1 : Int32) else 0)) h5)
  rw [if_neg h5] at hE
  refine xe_callq pg_73 98 [.int (if r1 = 0 then (1 : Int32) else 0)] (.inl none) (32, [(3, .ref (ja_R (rl - 1).toNatClampNeg)), (0, .ref 0), (1, .int rl), (2, .int b)], []) rfl (fun _ => rfl) (c_checkState_ok _ (i := (if r1 = 0 then (1 : Int32) else 0)) h5) ?_
  refine xe_sn pg_73 2 (fr' := (34, [(3, .ref (ja_R (rl - 1).toNatClampNeg)), (0, .ref 0), (1, .int rl), (2, .int b)], [.int b, .ref (ja_R (rl - 1).toNatClampNeg)])) rfl ?_
  obtain ⟨r2, e2, hE⟩ := Option.bind_eq_some_iff.mp hE
  refine xe_cv pg_73 63 pg_63 [.int b] [] (none) rfl rfl rfl rfl ⟨Nat.le_of_ble_eq_true rfl, Nat.le_of_ble_eq_true rfl, Nat.le_of_ble_eq_true rfl⟩ ⟨rfl, rfl⟩ (kk2 (k_R (bnd_lt g3)) (by decide)) (c_takeSecret _ (i := (rl - 1).toNatClampNeg) (b := b) (bnd_lt g3) e2) ?_
  refine xe_sn pg_73 1 (fr' := (38, [(3, .ref (ja_R (rl - 1).toNatClampNeg)), (0, .ref 0), (1, .int rl), (2, .int b)], [.ref (ja_R (rl - 1).toNatClampNeg)])) rfl ?_
  refine ye_gi pg_73 (r2.1 190 (rl - 1).toNatClampNeg) rfl rfl rfl (kk1 (k_R (bnd_lt g3))) ((l_R1 (bnd_lt g3)).rd _) ?_
  cases hE
  exact xe_end pg_73 rfl

def f_create (S : xSt) (ci : Int32) (rl : Int32) (x : Int32) : Option ((Option Int32 ⊕ Nat) × xSt) := if (ci < 0 ∨ 4 ≤ ci) then (some (.inr 0, S)) else (if (rl < 1 ∨ 4 < rl) then (some (.inr 0, S)) else (if (x < 1 ∨ 65519 < x) then (some (.inr 1, S)) else (if bnd ci 4 then ((some (f_isLive S ci.toNatClampNeg)).bind fun r1 => if (if r1 = 0 then (1 : Int32) else 0) = 0 then (some (.inr 2, S)) else ((f_startAnew S ci.toNatClampNeg rl x).bind fun r2 => some (.inl (some (r2.1 165 1)), r2))) else none)))
set_option maxRecDepth 100000 in
theorem c_create (d : Nat) {w : xWd} {S : xSt} {μ : Nat → Nat → Int32} {ρ : Nat → Nat → Int64} {ci : Int32} {rl : Int32} {x : Int32} {o : Option Int32 ⊕ Nat} {T : xSt} (hE : (f_create S ci rl x) = some (o, T)) : xc (d + 8) 74 [.ref 0, .int ci, .int rl, .int x] (hz w S μ ρ) (rsl o, hz (wx o w) T μ ρ) := by
  unfold f_create at hE
  refine xe_sn pg_74 1 (fr' := (1, [(0, .ref 0), (1, .int ci), (2, .int rl), (3, .int x)], [.int ci])) rfl ?_
  by_cases h1 : (ci < 0 ∨ 4 ≤ ci)
  · rw [if_pos h1] at hE
    cases hE
    exact xe_callqx pg_74 92 [.int ci] 0 rfl (fun _ => rfl) (c_checkCircuit_bad _ (i := ci) h1)
  rw [if_neg h1] at hE
  refine xe_callq pg_74 92 [.int ci] (.inl none) (4, [(0, .ref 0), (1, .int ci), (2, .int rl), (3, .int x)], []) rfl (fun _ => rfl) (c_checkCircuit_ok _ (i := ci) h1) ?_
  refine xe_sn pg_74 1 (fr' := (5, [(0, .ref 0), (1, .int ci), (2, .int rl), (3, .int x)], [.int rl])) rfl ?_
  by_cases h2 : (rl < 1 ∨ 4 < rl)
  · rw [if_pos h2] at hE
    cases hE
    exact xe_callqx pg_74 93 [.int rl] 0 rfl (fun _ => rfl) (c_checkRelay_bad _ (i := rl) h2)
  rw [if_neg h2] at hE
  refine xe_callq pg_74 93 [.int rl] (.inl none) (8, [(0, .ref 0), (1, .int ci), (2, .int rl), (3, .int x)], []) rfl (fun _ => rfl) (c_checkRelay_ok _ (i := rl) h2) ?_
  refine xe_sn pg_74 1 (fr' := (9, [(0, .ref 0), (1, .int ci), (2, .int rl), (3, .int x)], [.int x])) rfl ?_
  by_cases h3 : (x < 1 ∨ 65519 < x)
  · rw [if_pos h3] at hE
    cases hE
    exact xe_callqx pg_74 96 [.int x] 1 rfl (fun _ => rfl) (c_checkExponent_bad _ (i := x) h3)
  rw [if_neg h3] at hE
  refine xe_callq pg_74 96 [.int x] (.inl none) (12, [(0, .ref 0), (1, .int ci), (2, .int rl), (3, .int x)], []) rfl (fun _ => rfl) (c_checkExponent_ok _ (i := x) h3) ?_
  refine xe_sn pg_74 1 (fr' := (13, [(0, .ref 0), (1, .int ci), (2, .int rl), (3, .int x)], [.ref 0])) rfl ?_
  refine xe_gr pg_74 120 rfl rfl rfl (kk1 k_O) rfl ?_
  refine xe_sn pg_74 1 (fr' := (17, [(0, .ref 0), (1, .int ci), (2, .int rl), (3, .int x)], [.int ci, .ref 120])) rfl ?_
  by_cases g4 : bnd ci 4
  case neg => rw [if_neg g4] at hE; cases hE
  rw [if_pos g4] at hE
  refine xe_al pg_74 ci.toNatClampNeg (ja_C ci.toNatClampNeg) rfl k_Cs ⟨by decide, by decide⟩ g4 rfl (r_Cs (bnd_lt g4) _) ?_
  refine xe_sn pg_74 2 (fr' := (22, [(4, .ref (ja_C ci.toNatClampNeg)), (0, .ref 0), (1, .int ci), (2, .int rl), (3, .int x)], [.ref (ja_C ci.toNatClampNeg)])) rfl ?_
  obtain ⟨r1, e1, hE⟩ := Option.bind_eq_some_iff.mp hE
  refine xe_cv pg_74 16 pg_16 [] [] (some (.int r1)) rfl rfl rfl rfl ⟨Nat.le_of_ble_eq_true rfl, Nat.le_of_ble_eq_true rfl, Nat.le_of_ble_eq_true rfl⟩ ⟨rfl, rfl⟩ (kk2 (k_C (bnd_lt g4)) (by decide)) (c_isLive _ (c := ci.toNatClampNeg) (bnd_lt g4) (Option.some.inj e1)) ?_
  refine xe_jn (fr' := (33, [(4, .ref (ja_C ci.toNatClampNeg)), (0, .ref 0), (1, .int ci), (2, .int rl), (3, .int x)], [.int (if r1 = 0 then (1 : Int32) else 0)])) (fun J5 => ?_) ?_
  · by_cases h5 : r1 = 0
    · rw [show (if r1 = 0 then (1 : Int32) else 0) = 1 from if_pos h5] at J5
      refine xe_c1f pg_74 32 rfl rfl (fun z => z h5) ?_
      refine xe_sn pg_74 2 (fr' := (33, [(4, .ref (ja_C ci.toNatClampNeg)), (0, .ref 0), (1, .int ci), (2, .int rl), (3, .int x)], [.int 1])) rfl ?_
      exact J5
    · rw [show (if r1 = 0 then (1 : Int32) else 0) = 0 from if_neg h5] at J5
      refine xe_c1t pg_74 32 rfl rfl h5 ?_
      refine xe_sn pg_74 1 (fr' := (33, [(4, .ref (ja_C ci.toNatClampNeg)), (0, .ref 0), (1, .int ci), (2, .int rl), (3, .int x)], [.int 0])) rfl ?_
      exact J5
  by_cases h6 : (if r1 = 0 then (1 : Int32) else 0) = 0
  · rw [if_pos h6] at hE
    cases hE
    exact xe_callqx pg_74 98 [.int (if r1 = 0 then (1 : Int32) else 0)] 2 rfl (fun _ => rfl) (c_checkState_bad _ (i := (if r1 = 0 then (1 : Int32) else 0)) h6)
  rw [if_neg h6] at hE
  refine xe_callq pg_74 98 [.int (if r1 = 0 then (1 : Int32) else 0)] (.inl none) (36, [(4, .ref (ja_C ci.toNatClampNeg)), (0, .ref 0), (1, .int ci), (2, .int rl), (3, .int x)], []) rfl (fun _ => rfl) (c_checkState_ok _ (i := (if r1 = 0 then (1 : Int32) else 0)) h6) ?_
  refine xe_sn pg_74 3 (fr' := (40, [(4, .ref (ja_C ci.toNatClampNeg)), (0, .ref 0), (1, .int ci), (2, .int rl), (3, .int x)], [.int x, .int rl, .ref (ja_C ci.toNatClampNeg)])) rfl ?_
  obtain ⟨r2, e2, hE⟩ := Option.bind_eq_some_iff.mp hE
  refine xe_cv pg_74 19 pg_19 [.int rl, .int x] [] (none) rfl rfl rfl rfl ⟨Nat.le_of_ble_eq_true rfl, Nat.le_of_ble_eq_true rfl, Nat.le_of_ble_eq_true rfl⟩ ⟨rfl, rfl⟩ (kk2 (k_C (bnd_lt g4)) (by decide)) (c_startAnew _ (c := ci.toNatClampNeg) (rl := rl) (x := x) (bnd_lt g4) e2) ?_
  refine xe_sn pg_74 1 (fr' := (44, [(4, .ref (ja_C ci.toNatClampNeg)), (0, .ref 0), (1, .int ci), (2, .int rl), (3, .int x)], [.ref 0])) rfl ?_
  refine xe_gr pg_74 1 rfl rfl rfl (kk1 k_O) rfl ?_
  refine ye_gi pg_74 (r2.1 165 1) rfl rfl rfl (kk1 k_W) (l_size.rd _) ?_
  cases hE
  exact xe_end pg_74 rfl

def f_extend (S : xSt) (ci : Int32) (rl : Int32) (x : Int32) : Option ((Option Int32 ⊕ Nat) × xSt) := if (ci < 0 ∨ 4 ≤ ci) then (some (.inr 0, S)) else (if (rl < 1 ∨ 4 < rl) then (some (.inr 0, S)) else (if (x < 1 ∨ 65519 < x) then (some (.inr 1, S)) else (if bnd ci 4 then ((f_goesThrough S ci.toNatClampNeg rl).bind fun r1 => if (if r1 = 0 then (1 : Int32) else 0) = 0 then (some (.inr 1, S)) else (if (if (S.1 167 ci.toNatClampNeg) = 2 then (if 3 ≤ (S.1 168 ci.toNatClampNeg) then (0 : Int32) else 1) else 0) = 0 then (some (.inr 2, S)) else ((f_askForHop S ci.toNatClampNeg rl x).bind fun r2 => some (.inl (some (r2.1 165 1)), r2)))) else none)))
set_option maxRecDepth 100000 in
theorem c_extend (d : Nat) {w : xWd} {S : xSt} {μ : Nat → Nat → Int32} {ρ : Nat → Nat → Int64} {ci : Int32} {rl : Int32} {x : Int32} {o : Option Int32 ⊕ Nat} {T : xSt} (hE : (f_extend S ci rl x) = some (o, T)) : xc (d + 8) 75 [.ref 0, .int ci, .int rl, .int x] (hz w S μ ρ) (rsl o, hz (wx o w) T μ ρ) := by
  unfold f_extend at hE
  refine xe_sn pg_75 1 (fr' := (1, [(0, .ref 0), (1, .int ci), (2, .int rl), (3, .int x)], [.int ci])) rfl ?_
  by_cases h1 : (ci < 0 ∨ 4 ≤ ci)
  · rw [if_pos h1] at hE
    cases hE
    exact xe_callqx pg_75 92 [.int ci] 0 rfl (fun _ => rfl) (c_checkCircuit_bad _ (i := ci) h1)
  rw [if_neg h1] at hE
  refine xe_callq pg_75 92 [.int ci] (.inl none) (4, [(0, .ref 0), (1, .int ci), (2, .int rl), (3, .int x)], []) rfl (fun _ => rfl) (c_checkCircuit_ok _ (i := ci) h1) ?_
  refine xe_sn pg_75 1 (fr' := (5, [(0, .ref 0), (1, .int ci), (2, .int rl), (3, .int x)], [.int rl])) rfl ?_
  by_cases h2 : (rl < 1 ∨ 4 < rl)
  · rw [if_pos h2] at hE
    cases hE
    exact xe_callqx pg_75 93 [.int rl] 0 rfl (fun _ => rfl) (c_checkRelay_bad _ (i := rl) h2)
  rw [if_neg h2] at hE
  refine xe_callq pg_75 93 [.int rl] (.inl none) (8, [(0, .ref 0), (1, .int ci), (2, .int rl), (3, .int x)], []) rfl (fun _ => rfl) (c_checkRelay_ok _ (i := rl) h2) ?_
  refine xe_sn pg_75 1 (fr' := (9, [(0, .ref 0), (1, .int ci), (2, .int rl), (3, .int x)], [.int x])) rfl ?_
  by_cases h3 : (x < 1 ∨ 65519 < x)
  · rw [if_pos h3] at hE
    cases hE
    exact xe_callqx pg_75 96 [.int x] 1 rfl (fun _ => rfl) (c_checkExponent_bad _ (i := x) h3)
  rw [if_neg h3] at hE
  refine xe_callq pg_75 96 [.int x] (.inl none) (12, [(0, .ref 0), (1, .int ci), (2, .int rl), (3, .int x)], []) rfl (fun _ => rfl) (c_checkExponent_ok _ (i := x) h3) ?_
  refine xe_sn pg_75 1 (fr' := (13, [(0, .ref 0), (1, .int ci), (2, .int rl), (3, .int x)], [.ref 0])) rfl ?_
  refine xe_gr pg_75 120 rfl rfl rfl (kk1 k_O) rfl ?_
  refine xe_sn pg_75 1 (fr' := (17, [(0, .ref 0), (1, .int ci), (2, .int rl), (3, .int x)], [.int ci, .ref 120])) rfl ?_
  by_cases g4 : bnd ci 4
  case neg => rw [if_neg g4] at hE; cases hE
  rw [if_pos g4] at hE
  refine xe_al pg_75 ci.toNatClampNeg (ja_C ci.toNatClampNeg) rfl k_Cs ⟨by decide, by decide⟩ g4 rfl (r_Cs (bnd_lt g4) _) ?_
  refine xe_sn pg_75 3 (fr' := (23, [(4, .ref (ja_C ci.toNatClampNeg)), (0, .ref 0), (1, .int ci), (2, .int rl), (3, .int x)], [.int rl, .ref (ja_C ci.toNatClampNeg)])) rfl ?_
  obtain ⟨r1, e1, hE⟩ := Option.bind_eq_some_iff.mp hE
  refine xe_cv pg_75 18 pg_18 [.int rl] [] (some (.int r1)) rfl rfl rfl rfl ⟨Nat.le_of_ble_eq_true rfl, Nat.le_of_ble_eq_true rfl, Nat.le_of_ble_eq_true rfl⟩ ⟨rfl, rfl⟩ (kk2 (k_C (bnd_lt g4)) (by decide)) (c_goesThrough _ (c := ci.toNatClampNeg) (rl := rl) (bnd_lt g4) e1) ?_
  refine xe_jn (fr' := (34, [(4, .ref (ja_C ci.toNatClampNeg)), (0, .ref 0), (1, .int ci), (2, .int rl), (3, .int x)], [.int (if r1 = 0 then (1 : Int32) else 0)])) (fun J5 => ?_) ?_
  · by_cases h5 : r1 = 0
    · rw [show (if r1 = 0 then (1 : Int32) else 0) = 1 from if_pos h5] at J5
      refine xe_c1f pg_75 33 rfl rfl (fun z => z h5) ?_
      refine xe_sn pg_75 2 (fr' := (34, [(4, .ref (ja_C ci.toNatClampNeg)), (0, .ref 0), (1, .int ci), (2, .int rl), (3, .int x)], [.int 1])) rfl ?_
      exact J5
    · rw [show (if r1 = 0 then (1 : Int32) else 0) = 0 from if_neg h5] at J5
      refine xe_c1t pg_75 33 rfl rfl h5 ?_
      refine xe_sn pg_75 1 (fr' := (34, [(4, .ref (ja_C ci.toNatClampNeg)), (0, .ref 0), (1, .int ci), (2, .int rl), (3, .int x)], [.int 0])) rfl ?_
      exact J5
  by_cases h6 : (if r1 = 0 then (1 : Int32) else 0) = 0
  · rw [if_pos h6] at hE
    cases hE
    exact xe_callqx pg_75 97 [.int (if r1 = 0 then (1 : Int32) else 0)] 1 rfl (fun _ => rfl) (c_checkArgument_bad _ (i := (if r1 = 0 then (1 : Int32) else 0)) h6)
  rw [if_neg h6] at hE
  refine xe_callq pg_75 97 [.int (if r1 = 0 then (1 : Int32) else 0)] (.inl none) (37, [(4, .ref (ja_C ci.toNatClampNeg)), (0, .ref 0), (1, .int ci), (2, .int rl), (3, .int x)], []) rfl (fun _ => rfl) (c_checkArgument_ok _ (i := (if r1 = 0 then (1 : Int32) else 0)) h6) ?_
  refine xe_sn pg_75 1 (fr' := (39, [(4, .ref (ja_C ci.toNatClampNeg)), (0, .ref 0), (1, .int ci), (2, .int rl), (3, .int x)], [.ref (ja_C ci.toNatClampNeg)])) rfl ?_
  refine ye_gi pg_75 (S.1 167 ci.toNatClampNeg) rfl rfl rfl (kk1 (k_C (bnd_lt g4))) ((l_C5 (bnd_lt g4)).rd _) ?_
  refine xe_sn pg_75 1 (fr' := (43, [(4, .ref (ja_C ci.toNatClampNeg)), (0, .ref 0), (1, .int ci), (2, .int rl), (3, .int x)], [.int 2, .int (S.1 167 ci.toNatClampNeg)])) rfl ?_
  refine xe_jn (fr' := (60, [(4, .ref (ja_C ci.toNatClampNeg)), (0, .ref 0), (1, .int ci), (2, .int rl), (3, .int x)], [.int (if (S.1 167 ci.toNatClampNeg) = 2 then (if 3 ≤ (S.1 168 ci.toNatClampNeg) then (0 : Int32) else 1) else 0)])) (fun J7 => ?_) ?_
  · by_cases h7 : (S.1 167 ci.toNatClampNeg) = 2
    · rw [show (if (S.1 167 ci.toNatClampNeg) = 2 then (if 3 ≤ (S.1 168 ci.toNatClampNeg) then (0 : Int32) else 1) else 0) = (if 3 ≤ (S.1 168 ci.toNatClampNeg) then (0 : Int32) else 1) from if_pos h7] at J7
      refine xe_c2f pg_75 59 rfl rfl (fun z => z h7) ?_
      refine xe_sn pg_75 1 (fr' := (48, [(4, .ref (ja_C ci.toNatClampNeg)), (0, .ref 0), (1, .int ci), (2, .int rl), (3, .int x)], [.ref (ja_C ci.toNatClampNeg)])) rfl ?_
      refine ye_gi pg_75 (S.1 168 ci.toNatClampNeg) rfl rfl rfl (kk1 (k_C (bnd_lt g4))) ((l_C6 (bnd_lt g4)).rd _) ?_
      refine xe_sn pg_75 1 (fr' := (52, [(4, .ref (ja_C ci.toNatClampNeg)), (0, .ref 0), (1, .int ci), (2, .int rl), (3, .int x)], [.int 3, .int (S.1 168 ci.toNatClampNeg)])) rfl ?_
      refine xe_jn (fr' := (60, [(4, .ref (ja_C ci.toNatClampNeg)), (0, .ref 0), (1, .int ci), (2, .int rl), (3, .int x)], [.int (if 3 ≤ (S.1 168 ci.toNatClampNeg) then (0 : Int32) else 1)])) (fun J8 => ?_) ?_
      · by_cases h8 : 3 ≤ (S.1 168 ci.toNatClampNeg)
        · rw [show (if 3 ≤ (S.1 168 ci.toNatClampNeg) then (0 : Int32) else 1) = 0 from if_pos h8] at J8
          refine xe_c2t pg_75 59 rfl rfl h8 ?_
          refine xe_sn pg_75 1 (fr' := (60, [(4, .ref (ja_C ci.toNatClampNeg)), (0, .ref 0), (1, .int ci), (2, .int rl), (3, .int x)], [.int 0])) rfl ?_
          exact J8
        · rw [show (if 3 ≤ (S.1 168 ci.toNatClampNeg) then (0 : Int32) else 1) = 1 from if_neg h8] at J8
          refine xe_c2f pg_75 59 rfl rfl h8 ?_
          refine xe_sn pg_75 2 (fr' := (60, [(4, .ref (ja_C ci.toNatClampNeg)), (0, .ref 0), (1, .int ci), (2, .int rl), (3, .int x)], [.int 1])) rfl ?_
          exact J8
      exact J7
    · rw [show (if (S.1 167 ci.toNatClampNeg) = 2 then (if 3 ≤ (S.1 168 ci.toNatClampNeg) then (0 : Int32) else 1) else 0) = 0 from if_neg h7] at J7
      refine xe_c2t pg_75 59 rfl rfl h7 ?_
      refine xe_sn pg_75 1 (fr' := (60, [(4, .ref (ja_C ci.toNatClampNeg)), (0, .ref 0), (1, .int ci), (2, .int rl), (3, .int x)], [.int 0])) rfl ?_
      exact J7
  by_cases h9 : (if (S.1 167 ci.toNatClampNeg) = 2 then (if 3 ≤ (S.1 168 ci.toNatClampNeg) then (0 : Int32) else 1) else 0) = 0
  · rw [if_pos h9] at hE
    cases hE
    exact xe_callqx pg_75 98 [.int (if (S.1 167 ci.toNatClampNeg) = 2 then (if 3 ≤ (S.1 168 ci.toNatClampNeg) then (0 : Int32) else 1) else 0)] 2 rfl (fun _ => rfl) (c_checkState_bad _ (i := (if (S.1 167 ci.toNatClampNeg) = 2 then (if 3 ≤ (S.1 168 ci.toNatClampNeg) then (0 : Int32) else 1) else 0)) h9)
  rw [if_neg h9] at hE
  refine xe_callq pg_75 98 [.int (if (S.1 167 ci.toNatClampNeg) = 2 then (if 3 ≤ (S.1 168 ci.toNatClampNeg) then (0 : Int32) else 1) else 0)] (.inl none) (63, [(4, .ref (ja_C ci.toNatClampNeg)), (0, .ref 0), (1, .int ci), (2, .int rl), (3, .int x)], []) rfl (fun _ => rfl) (c_checkState_ok _ (i := (if (S.1 167 ci.toNatClampNeg) = 2 then (if 3 ≤ (S.1 168 ci.toNatClampNeg) then (0 : Int32) else 1) else 0)) h9) ?_
  refine xe_sn pg_75 3 (fr' := (67, [(4, .ref (ja_C ci.toNatClampNeg)), (0, .ref 0), (1, .int ci), (2, .int rl), (3, .int x)], [.int x, .int rl, .ref (ja_C ci.toNatClampNeg)])) rfl ?_
  obtain ⟨r2, e2, hE⟩ := Option.bind_eq_some_iff.mp hE
  refine xe_cv pg_75 20 pg_20 [.int rl, .int x] [] (none) rfl rfl rfl rfl ⟨Nat.le_of_ble_eq_true rfl, Nat.le_of_ble_eq_true rfl, Nat.le_of_ble_eq_true rfl⟩ ⟨rfl, rfl⟩ (kk2 (k_C (bnd_lt g4)) (by decide)) (c_askForHop _ (c := ci.toNatClampNeg) (rl := rl) (x := x) (bnd_lt g4) e2) ?_
  refine xe_sn pg_75 1 (fr' := (71, [(4, .ref (ja_C ci.toNatClampNeg)), (0, .ref 0), (1, .int ci), (2, .int rl), (3, .int x)], [.ref 0])) rfl ?_
  refine xe_gr pg_75 1 rfl rfl rfl (kk1 k_O) rfl ?_
  refine ye_gi pg_75 (r2.1 165 1) rfl rfl rfl (kk1 k_W) (l_size.rd _) ?_
  cases hE
  exact xe_end pg_75 rfl

def f_begin (S : xSt) (ci : Int32) (st : Int32) (hp : Int32) : Option ((Option Int32 ⊕ Nat) × xSt) := if (ci < 0 ∨ 4 ≤ ci) then (some (.inr 0, S)) else (if (f_isStream st) = 0 then (some (.inr 0, S)) else (if bnd ci 4 then (if (if (S.1 167 ci.toNatClampNeg) = 2 then (if (f_hasHop S ci.toNatClampNeg hp) = 0 then (0 : Int32) else 1) else 0) = 0 then (some (.inr 2, S)) else (if bnd (st - 1) 3 then (if (if (S.1 173 (3 * ci.toNatClampNeg + (st - 1).toNatClampNeg)) = 0 then (1 : Int32) else 0) = 0 then (some (.inr 2, S)) else ((f_askForStream S ci.toNatClampNeg st hp).bind fun r1 => some (.inl none, r1))) else none)) else none))
set_option maxRecDepth 100000 in
theorem c_begin (d : Nat) {w : xWd} {S : xSt} {μ : Nat → Nat → Int32} {ρ : Nat → Nat → Int64} {ci : Int32} {st : Int32} {hp : Int32} {o : Option Int32 ⊕ Nat} {T : xSt} (hE : (f_begin S ci st hp) = some (o, T)) : xc (d + 8) 76 [.ref 0, .int ci, .int st, .int hp] (hz w S μ ρ) (rsl o, hz (wx o w) T μ ρ) := by
  unfold f_begin at hE
  refine xe_sn pg_76 1 (fr' := (1, [(0, .ref 0), (1, .int ci), (2, .int st), (3, .int hp)], [.int ci])) rfl ?_
  by_cases h1 : (ci < 0 ∨ 4 ≤ ci)
  · rw [if_pos h1] at hE
    cases hE
    exact xe_callqx pg_76 92 [.int ci] 0 rfl (fun _ => rfl) (c_checkCircuit_bad _ (i := ci) h1)
  rw [if_neg h1] at hE
  refine xe_callq pg_76 92 [.int ci] (.inl none) (4, [(0, .ref 0), (1, .int ci), (2, .int st), (3, .int hp)], []) rfl (fun _ => rfl) (c_checkCircuit_ok _ (i := ci) h1) ?_
  refine xe_sn pg_76 1 (fr' := (5, [(0, .ref 0), (1, .int ci), (2, .int st), (3, .int hp)], [.int st])) rfl ?_
  by_cases h2 : (f_isStream st) = 0
  · rw [if_pos h2] at hE
    cases hE
    exact xe_callqx pg_76 94 [.int st] 0 rfl (fun _ => rfl) (c_checkStream_bad _ (i := st) h2)
  rw [if_neg h2] at hE
  refine xe_callq pg_76 94 [.int st] (.inl none) (8, [(0, .ref 0), (1, .int ci), (2, .int st), (3, .int hp)], []) rfl (fun _ => rfl) (c_checkStream_ok _ (i := st) h2) ?_
  refine xe_sn pg_76 1 (fr' := (9, [(0, .ref 0), (1, .int ci), (2, .int st), (3, .int hp)], [.ref 0])) rfl ?_
  refine xe_gr pg_76 120 rfl rfl rfl (kk1 k_O) rfl ?_
  refine xe_sn pg_76 1 (fr' := (13, [(0, .ref 0), (1, .int ci), (2, .int st), (3, .int hp)], [.int ci, .ref 120])) rfl ?_
  by_cases g3 : bnd ci 4
  case neg => rw [if_neg g3] at hE; cases hE
  rw [if_pos g3] at hE
  refine xe_al pg_76 ci.toNatClampNeg (ja_C ci.toNatClampNeg) rfl k_Cs ⟨by decide, by decide⟩ g3 rfl (r_Cs (bnd_lt g3) _) ?_
  refine xe_sn pg_76 2 (fr' := (18, [(4, .ref (ja_C ci.toNatClampNeg)), (0, .ref 0), (1, .int ci), (2, .int st), (3, .int hp)], [.ref (ja_C ci.toNatClampNeg)])) rfl ?_
  refine ye_gi pg_76 (S.1 167 ci.toNatClampNeg) rfl rfl rfl (kk1 (k_C (bnd_lt g3))) ((l_C5 (bnd_lt g3)).rd _) ?_
  refine xe_sn pg_76 1 (fr' := (22, [(4, .ref (ja_C ci.toNatClampNeg)), (0, .ref 0), (1, .int ci), (2, .int st), (3, .int hp)], [.int 2, .int (S.1 167 ci.toNatClampNeg)])) rfl ?_
  refine xe_jn (fr' := (39, [(4, .ref (ja_C ci.toNatClampNeg)), (0, .ref 0), (1, .int ci), (2, .int st), (3, .int hp)], [.int (if (S.1 167 ci.toNatClampNeg) = 2 then (if (f_hasHop S ci.toNatClampNeg hp) = 0 then (0 : Int32) else 1) else 0)])) (fun J4 => ?_) ?_
  · by_cases h4 : (S.1 167 ci.toNatClampNeg) = 2
    · rw [show (if (S.1 167 ci.toNatClampNeg) = 2 then (if (f_hasHop S ci.toNatClampNeg hp) = 0 then (0 : Int32) else 1) else 0) = (if (f_hasHop S ci.toNatClampNeg hp) = 0 then (0 : Int32) else 1) from if_pos h4] at J4
      refine xe_c2f pg_76 38 rfl rfl (fun z => z h4) ?_
      refine xe_sn pg_76 2 (fr' := (28, [(4, .ref (ja_C ci.toNatClampNeg)), (0, .ref 0), (1, .int ci), (2, .int st), (3, .int hp)], [.int hp, .ref (ja_C ci.toNatClampNeg)])) rfl ?_
      refine xe_cv pg_76 17 pg_17 [.int hp] [] (some (.int (f_hasHop S ci.toNatClampNeg hp))) rfl rfl rfl rfl ⟨Nat.le_of_ble_eq_true rfl, Nat.le_of_ble_eq_true rfl, Nat.le_of_ble_eq_true rfl⟩ ⟨rfl, rfl⟩ (kk2 (k_C (bnd_lt g3)) (by decide)) (c_hasHop _ (c := ci.toNatClampNeg) (k := hp) (bnd_lt g3) rfl) ?_
      refine xe_jn (fr' := (39, [(4, .ref (ja_C ci.toNatClampNeg)), (0, .ref 0), (1, .int ci), (2, .int st), (3, .int hp)], [.int (if (f_hasHop S ci.toNatClampNeg hp) = 0 then (0 : Int32) else 1)])) (fun J5 => ?_) ?_
      · by_cases h5 : (f_hasHop S ci.toNatClampNeg hp) = 0
        · rw [show (if (f_hasHop S ci.toNatClampNeg hp) = 0 then (0 : Int32) else 1) = 0 from if_pos h5] at J5
          refine xe_c1t pg_76 38 rfl rfl h5 ?_
          refine xe_sn pg_76 1 (fr' := (39, [(4, .ref (ja_C ci.toNatClampNeg)), (0, .ref 0), (1, .int ci), (2, .int st), (3, .int hp)], [.int 0])) rfl ?_
          exact J5
        · rw [show (if (f_hasHop S ci.toNatClampNeg hp) = 0 then (0 : Int32) else 1) = 1 from if_neg h5] at J5
          refine xe_c1f pg_76 38 rfl rfl h5 ?_
          refine xe_sn pg_76 2 (fr' := (39, [(4, .ref (ja_C ci.toNatClampNeg)), (0, .ref 0), (1, .int ci), (2, .int st), (3, .int hp)], [.int 1])) rfl ?_
          exact J5
      exact J4
    · rw [show (if (S.1 167 ci.toNatClampNeg) = 2 then (if (f_hasHop S ci.toNatClampNeg hp) = 0 then (0 : Int32) else 1) else 0) = 0 from if_neg h4] at J4
      refine xe_c2t pg_76 38 rfl rfl h4 ?_
      refine xe_sn pg_76 1 (fr' := (39, [(4, .ref (ja_C ci.toNatClampNeg)), (0, .ref 0), (1, .int ci), (2, .int st), (3, .int hp)], [.int 0])) rfl ?_
      exact J4
  by_cases h6 : (if (S.1 167 ci.toNatClampNeg) = 2 then (if (f_hasHop S ci.toNatClampNeg hp) = 0 then (0 : Int32) else 1) else 0) = 0
  · rw [if_pos h6] at hE
    cases hE
    exact xe_callqx pg_76 98 [.int (if (S.1 167 ci.toNatClampNeg) = 2 then (if (f_hasHop S ci.toNatClampNeg hp) = 0 then (0 : Int32) else 1) else 0)] 2 rfl (fun _ => rfl) (c_checkState_bad _ (i := (if (S.1 167 ci.toNatClampNeg) = 2 then (if (f_hasHop S ci.toNatClampNeg hp) = 0 then (0 : Int32) else 1) else 0)) h6)
  rw [if_neg h6] at hE
  refine xe_callq pg_76 98 [.int (if (S.1 167 ci.toNatClampNeg) = 2 then (if (f_hasHop S ci.toNatClampNeg hp) = 0 then (0 : Int32) else 1) else 0)] (.inl none) (42, [(4, .ref (ja_C ci.toNatClampNeg)), (0, .ref 0), (1, .int ci), (2, .int st), (3, .int hp)], []) rfl (fun _ => rfl) (c_checkState_ok _ (i := (if (S.1 167 ci.toNatClampNeg) = 2 then (if (f_hasHop S ci.toNatClampNeg hp) = 0 then (0 : Int32) else 1) else 0)) h6) ?_
  refine xe_sn pg_76 1 (fr' := (44, [(4, .ref (ja_C ci.toNatClampNeg)), (0, .ref 0), (1, .int ci), (2, .int st), (3, .int hp)], [.ref (ja_C ci.toNatClampNeg)])) rfl ?_
  refine xe_gr pg_76 (ja_V ci.toNatClampNeg) rfl rfl rfl (kk1 (k_C (bnd_lt g3))) (r_C2 (bnd_lt g3) _) ?_
  refine xe_sn pg_76 3 (fr' := (50, [(4, .ref (ja_C ci.toNatClampNeg)), (0, .ref 0), (1, .int ci), (2, .int st), (3, .int hp)], [.int (st - 1), .ref (ja_V ci.toNatClampNeg)])) rfl ?_
  by_cases g7 : bnd (st - 1) 3
  case neg => rw [if_neg g7] at hE; cases hE
  rw [if_pos g7] at hE
  refine xe_al pg_76 (st - 1).toNatClampNeg (ja_S ci.toNatClampNeg (st - 1).toNatClampNeg) rfl (k_V (bnd_lt g3)) ⟨by decide, by decide⟩ g7 rfl (r_V (bnd_lt g3) (bnd_lt g7) _) ?_
  refine ye_gi pg_76 (S.1 173 (3 * ci.toNatClampNeg + (st - 1).toNatClampNeg)) rfl rfl rfl (kk1 (k_S (bnd_lt g3) (bnd_lt g7))) ((show lx _ 0 173 _ from l_S (bnd_lt g3) (bnd_lt g7) (by decide)).rd _) ?_
  refine xe_jn (fr' := (62, [(4, .ref (ja_C ci.toNatClampNeg)), (0, .ref 0), (1, .int ci), (2, .int st), (3, .int hp)], [.int (if (S.1 173 (3 * ci.toNatClampNeg + (st - 1).toNatClampNeg)) = 0 then (1 : Int32) else 0)])) (fun J8 => ?_) ?_
  · by_cases h8 : (S.1 173 (3 * ci.toNatClampNeg + (st - 1).toNatClampNeg)) = 0
    · rw [show (if (S.1 173 (3 * ci.toNatClampNeg + (st - 1).toNatClampNeg)) = 0 then (1 : Int32) else 0) = 1 from if_pos h8] at J8
      refine xe_c1f pg_76 61 rfl rfl (fun z => z h8) ?_
      refine xe_sn pg_76 2 (fr' := (62, [(4, .ref (ja_C ci.toNatClampNeg)), (0, .ref 0), (1, .int ci), (2, .int st), (3, .int hp)], [.int 1])) rfl ?_
      exact J8
    · rw [show (if (S.1 173 (3 * ci.toNatClampNeg + (st - 1).toNatClampNeg)) = 0 then (1 : Int32) else 0) = 0 from if_neg h8] at J8
      refine xe_c1t pg_76 61 rfl rfl h8 ?_
      refine xe_sn pg_76 1 (fr' := (62, [(4, .ref (ja_C ci.toNatClampNeg)), (0, .ref 0), (1, .int ci), (2, .int st), (3, .int hp)], [.int 0])) rfl ?_
      exact J8
  by_cases h9 : (if (S.1 173 (3 * ci.toNatClampNeg + (st - 1).toNatClampNeg)) = 0 then (1 : Int32) else 0) = 0
  · rw [if_pos h9] at hE
    cases hE
    exact xe_callqx pg_76 98 [.int (if (S.1 173 (3 * ci.toNatClampNeg + (st - 1).toNatClampNeg)) = 0 then (1 : Int32) else 0)] 2 rfl (fun _ => rfl) (c_checkState_bad _ (i := (if (S.1 173 (3 * ci.toNatClampNeg + (st - 1).toNatClampNeg)) = 0 then (1 : Int32) else 0)) h9)
  rw [if_neg h9] at hE
  refine xe_callq pg_76 98 [.int (if (S.1 173 (3 * ci.toNatClampNeg + (st - 1).toNatClampNeg)) = 0 then (1 : Int32) else 0)] (.inl none) (65, [(4, .ref (ja_C ci.toNatClampNeg)), (0, .ref 0), (1, .int ci), (2, .int st), (3, .int hp)], []) rfl (fun _ => rfl) (c_checkState_ok _ (i := (if (S.1 173 (3 * ci.toNatClampNeg + (st - 1).toNatClampNeg)) = 0 then (1 : Int32) else 0)) h9) ?_
  refine xe_sn pg_76 3 (fr' := (69, [(4, .ref (ja_C ci.toNatClampNeg)), (0, .ref 0), (1, .int ci), (2, .int st), (3, .int hp)], [.int hp, .int st, .ref (ja_C ci.toNatClampNeg)])) rfl ?_
  obtain ⟨r1, e1, hE⟩ := Option.bind_eq_some_iff.mp hE
  refine xe_cv pg_76 22 pg_22 [.int st, .int hp] [] (none) rfl rfl rfl rfl ⟨Nat.le_of_ble_eq_true rfl, Nat.le_of_ble_eq_true rfl, Nat.le_of_ble_eq_true rfl⟩ ⟨rfl, rfl⟩ (kk2 (k_C (bnd_lt g3)) (by decide)) (c_askForStream _ (c := ci.toNatClampNeg) (s := st) (hop := hp) (bnd_lt g3) e1) ?_
  cases hE
  exact xe_end pg_76 rfl

def f_send (S : xSt) (ci : Int32) (st : Int32) (n : Int32) (v : Int32) : Option ((Option Int32 ⊕ Nat) × xSt) := if (ci < 0 ∨ 4 ≤ ci) then (some (.inr 0, S)) else (if (f_isStream st) = 0 then (some (.inr 0, S)) else (if (if n < 0 then (0 : Int32) else (if 7 < n then (0 : Int32) else 1)) = 0 then (some (.inr 1, S)) else ((some (f_isByte v)).bind fun r1 => if r1 = 0 then (some (.inr 1, S)) else (if bnd ci 4 then (if bnd (st - 1) 3 then (if (if (S.1 173 (3 * ci.toNatClampNeg + (st - 1).toNatClampNeg)) = 2 then (if (S.1 175 (3 * ci.toNatClampNeg + (st - 1).toNatClampNeg)) ≤ 0 then (0 : Int32) else 1) else 0) = 0 then (some (.inr 2, S)) else ((f_sendData S ci.toNatClampNeg st n v).bind fun r2 => some (.inl (some (r2.1 175 (3 * ci.toNatClampNeg + (st - 1).toNatClampNeg))), r2))) else none) else none))))
set_option maxRecDepth 100000 in
theorem c_send (d : Nat) {w : xWd} {S : xSt} {μ : Nat → Nat → Int32} {ρ : Nat → Nat → Int64} {ci : Int32} {st : Int32} {n : Int32} {v : Int32} {o : Option Int32 ⊕ Nat} {T : xSt} (hE : (f_send S ci st n v) = some (o, T)) : xc (d + 8) 77 [.ref 0, .int ci, .int st, .int n, .int v] (hz w S μ ρ) (rsl o, hz (wx o w) T μ ρ) := by
  unfold f_send at hE
  refine xe_sn pg_77 1 (fr' := (1, [(0, .ref 0), (1, .int ci), (2, .int st), (3, .int n), (4, .int v)], [.int ci])) rfl ?_
  by_cases h1 : (ci < 0 ∨ 4 ≤ ci)
  · rw [if_pos h1] at hE
    cases hE
    exact xe_callqx pg_77 92 [.int ci] 0 rfl (fun _ => rfl) (c_checkCircuit_bad _ (i := ci) h1)
  rw [if_neg h1] at hE
  refine xe_callq pg_77 92 [.int ci] (.inl none) (4, [(0, .ref 0), (1, .int ci), (2, .int st), (3, .int n), (4, .int v)], []) rfl (fun _ => rfl) (c_checkCircuit_ok _ (i := ci) h1) ?_
  refine xe_sn pg_77 1 (fr' := (5, [(0, .ref 0), (1, .int ci), (2, .int st), (3, .int n), (4, .int v)], [.int st])) rfl ?_
  by_cases h2 : (f_isStream st) = 0
  · rw [if_pos h2] at hE
    cases hE
    exact xe_callqx pg_77 94 [.int st] 0 rfl (fun _ => rfl) (c_checkStream_bad _ (i := st) h2)
  rw [if_neg h2] at hE
  refine xe_callq pg_77 94 [.int st] (.inl none) (8, [(0, .ref 0), (1, .int ci), (2, .int st), (3, .int n), (4, .int v)], []) rfl (fun _ => rfl) (c_checkStream_ok _ (i := st) h2) ?_
  refine xe_sn pg_77 1 (fr' := (9, [(0, .ref 0), (1, .int ci), (2, .int st), (3, .int n), (4, .int v)], [.int n])) rfl ?_
  refine xe_jn (fr' := (23, [(0, .ref 0), (1, .int ci), (2, .int st), (3, .int n), (4, .int v)], [.int (if n < 0 then (0 : Int32) else (if 7 < n then (0 : Int32) else 1))])) (fun J3 => ?_) ?_
  · by_cases h3 : n < 0
    · rw [show (if n < 0 then (0 : Int32) else (if 7 < n then (0 : Int32) else 1)) = 0 from if_pos h3] at J3
      refine xe_c1t pg_77 22 rfl rfl h3 ?_
      refine xe_sn pg_77 1 (fr' := (23, [(0, .ref 0), (1, .int ci), (2, .int st), (3, .int n), (4, .int v)], [.int 0])) rfl ?_
      exact J3
    · rw [show (if n < 0 then (0 : Int32) else (if 7 < n then (0 : Int32) else 1)) = (if 7 < n then (0 : Int32) else 1) from if_neg h3] at J3
      refine xe_c1f pg_77 22 rfl rfl h3 ?_
      refine xe_sn pg_77 2 (fr' := (15, [(0, .ref 0), (1, .int ci), (2, .int st), (3, .int n), (4, .int v)], [.int 7, .int n])) rfl ?_
      refine xe_jn (fr' := (23, [(0, .ref 0), (1, .int ci), (2, .int st), (3, .int n), (4, .int v)], [.int (if 7 < n then (0 : Int32) else 1)])) (fun J4 => ?_) ?_
      · by_cases h4 : 7 < n
        · rw [show (if 7 < n then (0 : Int32) else 1) = 0 from if_pos h4] at J4
          refine xe_c2t pg_77 22 rfl rfl h4 ?_
          refine xe_sn pg_77 1 (fr' := (23, [(0, .ref 0), (1, .int ci), (2, .int st), (3, .int n), (4, .int v)], [.int 0])) rfl ?_
          exact J4
        · rw [show (if 7 < n then (0 : Int32) else 1) = 1 from if_neg h4] at J4
          refine xe_c2f pg_77 22 rfl rfl h4 ?_
          refine xe_sn pg_77 2 (fr' := (23, [(0, .ref 0), (1, .int ci), (2, .int st), (3, .int n), (4, .int v)], [.int 1])) rfl ?_
          exact J4
      exact J3
  by_cases h5 : (if n < 0 then (0 : Int32) else (if 7 < n then (0 : Int32) else 1)) = 0
  · rw [if_pos h5] at hE
    cases hE
    exact xe_callqx pg_77 97 [.int (if n < 0 then (0 : Int32) else (if 7 < n then (0 : Int32) else 1))] 1 rfl (fun _ => rfl) (c_checkArgument_bad _ (i := (if n < 0 then (0 : Int32) else (if 7 < n then (0 : Int32) else 1))) h5)
  rw [if_neg h5] at hE
  refine xe_callq pg_77 97 [.int (if n < 0 then (0 : Int32) else (if 7 < n then (0 : Int32) else 1))] (.inl none) (26, [(0, .ref 0), (1, .int ci), (2, .int st), (3, .int n), (4, .int v)], []) rfl (fun _ => rfl) (c_checkArgument_ok _ (i := (if n < 0 then (0 : Int32) else (if 7 < n then (0 : Int32) else 1))) h5) ?_
  refine xe_sn pg_77 1 (fr' := (28, [(0, .ref 0), (1, .int ci), (2, .int st), (3, .int n), (4, .int v)], [.int v])) rfl ?_
  obtain ⟨r1, e1, hE⟩ := Option.bind_eq_some_iff.mp hE
  refine xe_callq pg_77 99 [.int v] (.inl (some (.int r1))) (31, [(0, .ref 0), (1, .int ci), (2, .int st), (3, .int n), (4, .int v)], [.int r1]) rfl (fun _ => rfl) (c_isByte _ (x := v)  (Option.some.inj e1)) ?_
  by_cases h6 : r1 = 0
  · rw [if_pos h6] at hE
    cases hE
    exact xe_callqx pg_77 97 [.int r1] 1 rfl (fun _ => rfl) (c_checkArgument_bad _ (i := r1) h6)
  rw [if_neg h6] at hE
  refine xe_callq pg_77 97 [.int r1] (.inl none) (34, [(0, .ref 0), (1, .int ci), (2, .int st), (3, .int n), (4, .int v)], []) rfl (fun _ => rfl) (c_checkArgument_ok _ (i := r1) h6) ?_
  refine xe_sn pg_77 1 (fr' := (35, [(0, .ref 0), (1, .int ci), (2, .int st), (3, .int n), (4, .int v)], [.ref 0])) rfl ?_
  refine xe_gr pg_77 120 rfl rfl rfl (kk1 k_O) rfl ?_
  refine xe_sn pg_77 1 (fr' := (39, [(0, .ref 0), (1, .int ci), (2, .int st), (3, .int n), (4, .int v)], [.int ci, .ref 120])) rfl ?_
  by_cases g7 : bnd ci 4
  case neg => rw [if_neg g7] at hE; cases hE
  rw [if_pos g7] at hE
  refine xe_al pg_77 ci.toNatClampNeg (ja_C ci.toNatClampNeg) rfl k_Cs ⟨by decide, by decide⟩ g7 rfl (r_Cs (bnd_lt g7) _) ?_
  refine xe_gr pg_77 (ja_V ci.toNatClampNeg) rfl rfl rfl (kk1 (k_C (bnd_lt g7))) (r_C2 (bnd_lt g7) _) ?_
  refine xe_sn pg_77 3 (fr' := (46, [(0, .ref 0), (1, .int ci), (2, .int st), (3, .int n), (4, .int v)], [.int (st - 1), .ref (ja_V ci.toNatClampNeg)])) rfl ?_
  by_cases g8 : bnd (st - 1) 3
  case neg => rw [if_neg g8] at hE; cases hE
  rw [if_pos g8] at hE
  refine xe_al pg_77 (st - 1).toNatClampNeg (ja_S ci.toNatClampNeg (st - 1).toNatClampNeg) rfl (k_V (bnd_lt g7)) ⟨by decide, by decide⟩ g8 rfl (r_V (bnd_lt g7) (bnd_lt g8) _) ?_
  refine xe_sn pg_77 2 (fr' := (51, [(5, .ref (ja_S ci.toNatClampNeg (st - 1).toNatClampNeg)), (0, .ref 0), (1, .int ci), (2, .int st), (3, .int n), (4, .int v)], [.ref (ja_S ci.toNatClampNeg (st - 1).toNatClampNeg)])) rfl ?_
  refine ye_gi pg_77 (S.1 173 (3 * ci.toNatClampNeg + (st - 1).toNatClampNeg)) rfl rfl rfl (kk1 (k_S (bnd_lt g7) (bnd_lt g8))) ((show lx _ 0 173 _ from l_S (bnd_lt g7) (bnd_lt g8) (by decide)).rd _) ?_
  refine xe_sn pg_77 1 (fr' := (55, [(5, .ref (ja_S ci.toNatClampNeg (st - 1).toNatClampNeg)), (0, .ref 0), (1, .int ci), (2, .int st), (3, .int n), (4, .int v)], [.int 2, .int (S.1 173 (3 * ci.toNatClampNeg + (st - 1).toNatClampNeg))])) rfl ?_
  refine xe_jn (fr' := (71, [(5, .ref (ja_S ci.toNatClampNeg (st - 1).toNatClampNeg)), (0, .ref 0), (1, .int ci), (2, .int st), (3, .int n), (4, .int v)], [.int (if (S.1 173 (3 * ci.toNatClampNeg + (st - 1).toNatClampNeg)) = 2 then (if (S.1 175 (3 * ci.toNatClampNeg + (st - 1).toNatClampNeg)) ≤ 0 then (0 : Int32) else 1) else 0)])) (fun J9 => ?_) ?_
  · by_cases h9 : (S.1 173 (3 * ci.toNatClampNeg + (st - 1).toNatClampNeg)) = 2
    · rw [show (if (S.1 173 (3 * ci.toNatClampNeg + (st - 1).toNatClampNeg)) = 2 then (if (S.1 175 (3 * ci.toNatClampNeg + (st - 1).toNatClampNeg)) ≤ 0 then (0 : Int32) else 1) else 0) = (if (S.1 175 (3 * ci.toNatClampNeg + (st - 1).toNatClampNeg)) ≤ 0 then (0 : Int32) else 1) from if_pos h9] at J9
      refine xe_c2f pg_77 70 rfl rfl (fun z => z h9) ?_
      refine xe_sn pg_77 1 (fr' := (60, [(5, .ref (ja_S ci.toNatClampNeg (st - 1).toNatClampNeg)), (0, .ref 0), (1, .int ci), (2, .int st), (3, .int n), (4, .int v)], [.ref (ja_S ci.toNatClampNeg (st - 1).toNatClampNeg)])) rfl ?_
      refine ye_gi pg_77 (S.1 175 (3 * ci.toNatClampNeg + (st - 1).toNatClampNeg)) rfl rfl rfl (kk1 (k_S (bnd_lt g7) (bnd_lt g8))) ((show lx _ 2 175 _ from l_S (bnd_lt g7) (bnd_lt g8) (by decide)).rd _) ?_
      refine xe_jn (fr' := (71, [(5, .ref (ja_S ci.toNatClampNeg (st - 1).toNatClampNeg)), (0, .ref 0), (1, .int ci), (2, .int st), (3, .int n), (4, .int v)], [.int (if (S.1 175 (3 * ci.toNatClampNeg + (st - 1).toNatClampNeg)) ≤ 0 then (0 : Int32) else 1)])) (fun J10 => ?_) ?_
      · by_cases h10 : (S.1 175 (3 * ci.toNatClampNeg + (st - 1).toNatClampNeg)) ≤ 0
        · rw [show (if (S.1 175 (3 * ci.toNatClampNeg + (st - 1).toNatClampNeg)) ≤ 0 then (0 : Int32) else 1) = 0 from if_pos h10] at J10
          refine xe_c1t pg_77 70 rfl rfl h10 ?_
          refine xe_sn pg_77 1 (fr' := (71, [(5, .ref (ja_S ci.toNatClampNeg (st - 1).toNatClampNeg)), (0, .ref 0), (1, .int ci), (2, .int st), (3, .int n), (4, .int v)], [.int 0])) rfl ?_
          exact J10
        · rw [show (if (S.1 175 (3 * ci.toNatClampNeg + (st - 1).toNatClampNeg)) ≤ 0 then (0 : Int32) else 1) = 1 from if_neg h10] at J10
          refine xe_c1f pg_77 70 rfl rfl h10 ?_
          refine xe_sn pg_77 2 (fr' := (71, [(5, .ref (ja_S ci.toNatClampNeg (st - 1).toNatClampNeg)), (0, .ref 0), (1, .int ci), (2, .int st), (3, .int n), (4, .int v)], [.int 1])) rfl ?_
          exact J10
      exact J9
    · rw [show (if (S.1 173 (3 * ci.toNatClampNeg + (st - 1).toNatClampNeg)) = 2 then (if (S.1 175 (3 * ci.toNatClampNeg + (st - 1).toNatClampNeg)) ≤ 0 then (0 : Int32) else 1) else 0) = 0 from if_neg h9] at J9
      refine xe_c2t pg_77 70 rfl rfl h9 ?_
      refine xe_sn pg_77 1 (fr' := (71, [(5, .ref (ja_S ci.toNatClampNeg (st - 1).toNatClampNeg)), (0, .ref 0), (1, .int ci), (2, .int st), (3, .int n), (4, .int v)], [.int 0])) rfl ?_
      exact J9
  by_cases h11 : (if (S.1 173 (3 * ci.toNatClampNeg + (st - 1).toNatClampNeg)) = 2 then (if (S.1 175 (3 * ci.toNatClampNeg + (st - 1).toNatClampNeg)) ≤ 0 then (0 : Int32) else 1) else 0) = 0
  · rw [if_pos h11] at hE
    cases hE
    exact xe_callqx pg_77 98 [.int (if (S.1 173 (3 * ci.toNatClampNeg + (st - 1).toNatClampNeg)) = 2 then (if (S.1 175 (3 * ci.toNatClampNeg + (st - 1).toNatClampNeg)) ≤ 0 then (0 : Int32) else 1) else 0)] 2 rfl (fun _ => rfl) (c_checkState_bad _ (i := (if (S.1 173 (3 * ci.toNatClampNeg + (st - 1).toNatClampNeg)) = 2 then (if (S.1 175 (3 * ci.toNatClampNeg + (st - 1).toNatClampNeg)) ≤ 0 then (0 : Int32) else 1) else 0)) h11)
  rw [if_neg h11] at hE
  refine xe_callq pg_77 98 [.int (if (S.1 173 (3 * ci.toNatClampNeg + (st - 1).toNatClampNeg)) = 2 then (if (S.1 175 (3 * ci.toNatClampNeg + (st - 1).toNatClampNeg)) ≤ 0 then (0 : Int32) else 1) else 0)] (.inl none) (74, [(5, .ref (ja_S ci.toNatClampNeg (st - 1).toNatClampNeg)), (0, .ref 0), (1, .int ci), (2, .int st), (3, .int n), (4, .int v)], []) rfl (fun _ => rfl) (c_checkState_ok _ (i := (if (S.1 173 (3 * ci.toNatClampNeg + (st - 1).toNatClampNeg)) = 2 then (if (S.1 175 (3 * ci.toNatClampNeg + (st - 1).toNatClampNeg)) ≤ 0 then (0 : Int32) else 1) else 0)) h11) ?_
  refine xe_sn pg_77 1 (fr' := (75, [(5, .ref (ja_S ci.toNatClampNeg (st - 1).toNatClampNeg)), (0, .ref 0), (1, .int ci), (2, .int st), (3, .int n), (4, .int v)], [.ref 0])) rfl ?_
  refine xe_gr pg_77 120 rfl rfl rfl (kk1 k_O) rfl ?_
  refine xe_sn pg_77 1 (fr' := (79, [(5, .ref (ja_S ci.toNatClampNeg (st - 1).toNatClampNeg)), (0, .ref 0), (1, .int ci), (2, .int st), (3, .int n), (4, .int v)], [.int ci, .ref 120])) rfl ?_
  refine xe_al pg_77 ci.toNatClampNeg (ja_C ci.toNatClampNeg) rfl k_Cs ⟨by decide, by decide⟩ g7 rfl (r_Cs (bnd_lt g7) _) ?_
  refine xe_sn pg_77 3 (fr' := (84, [(5, .ref (ja_S ci.toNatClampNeg (st - 1).toNatClampNeg)), (0, .ref 0), (1, .int ci), (2, .int st), (3, .int n), (4, .int v)], [.int v, .int n, .int st, .ref (ja_C ci.toNatClampNeg)])) rfl ?_
  obtain ⟨r2, e2, hE⟩ := Option.bind_eq_some_iff.mp hE
  refine xe_cv pg_77 23 pg_23 [.int st, .int n, .int v] [] (none) rfl rfl rfl rfl ⟨Nat.le_of_ble_eq_true rfl, Nat.le_of_ble_eq_true rfl, Nat.le_of_ble_eq_true rfl⟩ ⟨rfl, rfl⟩ (kk2 (k_C (bnd_lt g7)) (by decide)) (c_sendData _ (c := ci.toNatClampNeg) (s := st) (n := n) (v := v) (bnd_lt g7) e2) ?_
  refine xe_sn pg_77 1 (fr' := (89, [(5, .ref (ja_S ci.toNatClampNeg (st - 1).toNatClampNeg)), (0, .ref 0), (1, .int ci), (2, .int st), (3, .int n), (4, .int v)], [.ref (ja_S ci.toNatClampNeg (st - 1).toNatClampNeg)])) rfl ?_
  refine ye_gi pg_77 (r2.1 175 (3 * ci.toNatClampNeg + (st - 1).toNatClampNeg)) rfl rfl rfl (kk1 (k_S (bnd_lt g7) (bnd_lt g8))) ((show lx _ 2 175 _ from l_S (bnd_lt g7) (bnd_lt g8) (by decide)).rd _) ?_
  cases hE
  exact xe_end pg_77 rfl

def f_end (S : xSt) (ci : Int32) (st : Int32) : Option ((Option Int32 ⊕ Nat) × xSt) := if (ci < 0 ∨ 4 ≤ ci) then (some (.inr 0, S)) else (if (f_isStream st) = 0 then (some (.inr 0, S)) else (if bnd ci 4 then (if bnd (st - 1) 3 then (if (if (S.1 173 (3 * ci.toNatClampNeg + (st - 1).toNatClampNeg)) = 0 then (0 : Int32) else 1) = 0 then (some (.inr 2, S)) else ((f_endStream S ci.toNatClampNeg st).bind fun r1 => some (.inl (some (S.1 173 (3 * ci.toNatClampNeg + (st - 1).toNatClampNeg))), r1))) else none) else none))
set_option maxRecDepth 100000 in
theorem c_end (d : Nat) {w : xWd} {S : xSt} {μ : Nat → Nat → Int32} {ρ : Nat → Nat → Int64} {ci : Int32} {st : Int32} {o : Option Int32 ⊕ Nat} {T : xSt} (hE : (f_end S ci st) = some (o, T)) : xc (d + 8) 78 [.ref 0, .int ci, .int st] (hz w S μ ρ) (rsl o, hz (wx o w) T μ ρ) := by
  unfold f_end at hE
  refine xe_sn pg_78 1 (fr' := (1, [(0, .ref 0), (1, .int ci), (2, .int st)], [.int ci])) rfl ?_
  by_cases h1 : (ci < 0 ∨ 4 ≤ ci)
  · rw [if_pos h1] at hE
    cases hE
    exact xe_callqx pg_78 92 [.int ci] 0 rfl (fun _ => rfl) (c_checkCircuit_bad _ (i := ci) h1)
  rw [if_neg h1] at hE
  refine xe_callq pg_78 92 [.int ci] (.inl none) (4, [(0, .ref 0), (1, .int ci), (2, .int st)], []) rfl (fun _ => rfl) (c_checkCircuit_ok _ (i := ci) h1) ?_
  refine xe_sn pg_78 1 (fr' := (5, [(0, .ref 0), (1, .int ci), (2, .int st)], [.int st])) rfl ?_
  by_cases h2 : (f_isStream st) = 0
  · rw [if_pos h2] at hE
    cases hE
    exact xe_callqx pg_78 94 [.int st] 0 rfl (fun _ => rfl) (c_checkStream_bad _ (i := st) h2)
  rw [if_neg h2] at hE
  refine xe_callq pg_78 94 [.int st] (.inl none) (8, [(0, .ref 0), (1, .int ci), (2, .int st)], []) rfl (fun _ => rfl) (c_checkStream_ok _ (i := st) h2) ?_
  refine xe_sn pg_78 1 (fr' := (9, [(0, .ref 0), (1, .int ci), (2, .int st)], [.ref 0])) rfl ?_
  refine xe_gr pg_78 120 rfl rfl rfl (kk1 k_O) rfl ?_
  refine xe_sn pg_78 1 (fr' := (13, [(0, .ref 0), (1, .int ci), (2, .int st)], [.int ci, .ref 120])) rfl ?_
  by_cases g3 : bnd ci 4
  case neg => rw [if_neg g3] at hE; cases hE
  rw [if_pos g3] at hE
  refine xe_al pg_78 ci.toNatClampNeg (ja_C ci.toNatClampNeg) rfl k_Cs ⟨by decide, by decide⟩ g3 rfl (r_Cs (bnd_lt g3) _) ?_
  refine xe_gr pg_78 (ja_V ci.toNatClampNeg) rfl rfl rfl (kk1 (k_C (bnd_lt g3))) (r_C2 (bnd_lt g3) _) ?_
  refine xe_sn pg_78 3 (fr' := (20, [(0, .ref 0), (1, .int ci), (2, .int st)], [.int (st - 1), .ref (ja_V ci.toNatClampNeg)])) rfl ?_
  by_cases g4 : bnd (st - 1) 3
  case neg => rw [if_neg g4] at hE; cases hE
  rw [if_pos g4] at hE
  refine xe_al pg_78 (st - 1).toNatClampNeg (ja_S ci.toNatClampNeg (st - 1).toNatClampNeg) rfl (k_V (bnd_lt g3)) ⟨by decide, by decide⟩ g4 rfl (r_V (bnd_lt g3) (bnd_lt g4) _) ?_
  refine ye_gi pg_78 (S.1 173 (3 * ci.toNatClampNeg + (st - 1).toNatClampNeg)) rfl rfl rfl (kk1 (k_S (bnd_lt g3) (bnd_lt g4))) ((show lx _ 0 173 _ from l_S (bnd_lt g3) (bnd_lt g4) (by decide)).rd _) ?_
  refine xe_sn pg_78 2 (fr' := (26, [(3, .int (S.1 173 (3 * ci.toNatClampNeg + (st - 1).toNatClampNeg))), (0, .ref 0), (1, .int ci), (2, .int st)], [.int (S.1 173 (3 * ci.toNatClampNeg + (st - 1).toNatClampNeg))])) rfl ?_
  refine xe_jn (fr' := (34, [(3, .int (S.1 173 (3 * ci.toNatClampNeg + (st - 1).toNatClampNeg))), (0, .ref 0), (1, .int ci), (2, .int st)], [.int (if (S.1 173 (3 * ci.toNatClampNeg + (st - 1).toNatClampNeg)) = 0 then (0 : Int32) else 1)])) (fun J5 => ?_) ?_
  · by_cases h5 : (S.1 173 (3 * ci.toNatClampNeg + (st - 1).toNatClampNeg)) = 0
    · rw [show (if (S.1 173 (3 * ci.toNatClampNeg + (st - 1).toNatClampNeg)) = 0 then (0 : Int32) else 1) = 0 from if_pos h5] at J5
      refine xe_c1t pg_78 33 rfl rfl h5 ?_
      refine xe_sn pg_78 1 (fr' := (34, [(3, .int (S.1 173 (3 * ci.toNatClampNeg + (st - 1).toNatClampNeg))), (0, .ref 0), (1, .int ci), (2, .int st)], [.int 0])) rfl ?_
      exact J5
    · rw [show (if (S.1 173 (3 * ci.toNatClampNeg + (st - 1).toNatClampNeg)) = 0 then (0 : Int32) else 1) = 1 from if_neg h5] at J5
      refine xe_c1f pg_78 33 rfl rfl h5 ?_
      refine xe_sn pg_78 2 (fr' := (34, [(3, .int (S.1 173 (3 * ci.toNatClampNeg + (st - 1).toNatClampNeg))), (0, .ref 0), (1, .int ci), (2, .int st)], [.int 1])) rfl ?_
      exact J5
  by_cases h6 : (if (S.1 173 (3 * ci.toNatClampNeg + (st - 1).toNatClampNeg)) = 0 then (0 : Int32) else 1) = 0
  · rw [if_pos h6] at hE
    cases hE
    exact xe_callqx pg_78 98 [.int (if (S.1 173 (3 * ci.toNatClampNeg + (st - 1).toNatClampNeg)) = 0 then (0 : Int32) else 1)] 2 rfl (fun _ => rfl) (c_checkState_bad _ (i := (if (S.1 173 (3 * ci.toNatClampNeg + (st - 1).toNatClampNeg)) = 0 then (0 : Int32) else 1)) h6)
  rw [if_neg h6] at hE
  refine xe_callq pg_78 98 [.int (if (S.1 173 (3 * ci.toNatClampNeg + (st - 1).toNatClampNeg)) = 0 then (0 : Int32) else 1)] (.inl none) (37, [(3, .int (S.1 173 (3 * ci.toNatClampNeg + (st - 1).toNatClampNeg))), (0, .ref 0), (1, .int ci), (2, .int st)], []) rfl (fun _ => rfl) (c_checkState_ok _ (i := (if (S.1 173 (3 * ci.toNatClampNeg + (st - 1).toNatClampNeg)) = 0 then (0 : Int32) else 1)) h6) ?_
  refine xe_sn pg_78 1 (fr' := (38, [(3, .int (S.1 173 (3 * ci.toNatClampNeg + (st - 1).toNatClampNeg))), (0, .ref 0), (1, .int ci), (2, .int st)], [.ref 0])) rfl ?_
  refine xe_gr pg_78 120 rfl rfl rfl (kk1 k_O) rfl ?_
  refine xe_sn pg_78 1 (fr' := (42, [(3, .int (S.1 173 (3 * ci.toNatClampNeg + (st - 1).toNatClampNeg))), (0, .ref 0), (1, .int ci), (2, .int st)], [.int ci, .ref 120])) rfl ?_
  refine xe_al pg_78 ci.toNatClampNeg (ja_C ci.toNatClampNeg) rfl k_Cs ⟨by decide, by decide⟩ g3 rfl (r_Cs (bnd_lt g3) _) ?_
  refine xe_sn pg_78 1 (fr' := (44, [(3, .int (S.1 173 (3 * ci.toNatClampNeg + (st - 1).toNatClampNeg))), (0, .ref 0), (1, .int ci), (2, .int st)], [.int st, .ref (ja_C ci.toNatClampNeg)])) rfl ?_
  obtain ⟨r1, e1, hE⟩ := Option.bind_eq_some_iff.mp hE
  refine xe_cv pg_78 24 pg_24 [.int st] [] (none) rfl rfl rfl rfl ⟨Nat.le_of_ble_eq_true rfl, Nat.le_of_ble_eq_true rfl, Nat.le_of_ble_eq_true rfl⟩ ⟨rfl, rfl⟩ (kk2 (k_C (bnd_lt g3)) (by decide)) (c_endStream _ (c := ci.toNatClampNeg) (s := st) (bnd_lt g3) e1) ?_
  refine xe_sn pg_78 1 (fr' := (48, [(3, .int (S.1 173 (3 * ci.toNatClampNeg + (st - 1).toNatClampNeg))), (0, .ref 0), (1, .int ci), (2, .int st)], [.int (S.1 173 (3 * ci.toNatClampNeg + (st - 1).toNatClampNeg))])) rfl ?_
  cases hE
  exact xe_end pg_78 rfl

def f_truncate (S : xSt) (ci : Int32) (hp : Int32) : Option ((Option Int32 ⊕ Nat) × xSt) := if (ci < 0 ∨ 4 ≤ ci) then (some (.inr 0, S)) else (if bnd ci 4 then ((some (f_isLive S ci.toNatClampNeg)).bind fun r1 => if (if r1 = 0 then (0 : Int32) else (if (f_hasHop S ci.toNatClampNeg hp) = 0 then (0 : Int32) else 1)) = 0 then (some (.inr 2, S)) else ((f_askToTruncate S ci.toNatClampNeg hp).bind fun r2 => some (.inl (some (r2.1 168 ci.toNatClampNeg)), r2))) else none)
set_option maxRecDepth 100000 in
theorem c_truncate (d : Nat) {w : xWd} {S : xSt} {μ : Nat → Nat → Int32} {ρ : Nat → Nat → Int64} {ci : Int32} {hp : Int32} {o : Option Int32 ⊕ Nat} {T : xSt} (hE : (f_truncate S ci hp) = some (o, T)) : xc (d + 8) 79 [.ref 0, .int ci, .int hp] (hz w S μ ρ) (rsl o, hz (wx o w) T μ ρ) := by
  unfold f_truncate at hE
  refine xe_sn pg_79 1 (fr' := (1, [(0, .ref 0), (1, .int ci), (2, .int hp)], [.int ci])) rfl ?_
  by_cases h1 : (ci < 0 ∨ 4 ≤ ci)
  · rw [if_pos h1] at hE
    cases hE
    exact xe_callqx pg_79 92 [.int ci] 0 rfl (fun _ => rfl) (c_checkCircuit_bad _ (i := ci) h1)
  rw [if_neg h1] at hE
  refine xe_callq pg_79 92 [.int ci] (.inl none) (4, [(0, .ref 0), (1, .int ci), (2, .int hp)], []) rfl (fun _ => rfl) (c_checkCircuit_ok _ (i := ci) h1) ?_
  refine xe_sn pg_79 1 (fr' := (5, [(0, .ref 0), (1, .int ci), (2, .int hp)], [.ref 0])) rfl ?_
  refine xe_gr pg_79 120 rfl rfl rfl (kk1 k_O) rfl ?_
  refine xe_sn pg_79 1 (fr' := (9, [(0, .ref 0), (1, .int ci), (2, .int hp)], [.int ci, .ref 120])) rfl ?_
  by_cases g2 : bnd ci 4
  case neg => rw [if_neg g2] at hE; cases hE
  rw [if_pos g2] at hE
  refine xe_al pg_79 ci.toNatClampNeg (ja_C ci.toNatClampNeg) rfl k_Cs ⟨by decide, by decide⟩ g2 rfl (r_Cs (bnd_lt g2) _) ?_
  refine xe_sn pg_79 2 (fr' := (12, [(3, .ref (ja_C ci.toNatClampNeg)), (0, .ref 0), (1, .int ci), (2, .int hp)], [.ref (ja_C ci.toNatClampNeg)])) rfl ?_
  obtain ⟨r1, e1, hE⟩ := Option.bind_eq_some_iff.mp hE
  refine xe_cv pg_79 16 pg_16 [] [] (some (.int r1)) rfl rfl rfl rfl ⟨Nat.le_of_ble_eq_true rfl, Nat.le_of_ble_eq_true rfl, Nat.le_of_ble_eq_true rfl⟩ ⟨rfl, rfl⟩ (kk2 (k_C (bnd_lt g2)) (by decide)) (c_isLive _ (c := ci.toNatClampNeg) (bnd_lt g2) (Option.some.inj e1)) ?_
  refine xe_jn (fr' := (31, [(3, .ref (ja_C ci.toNatClampNeg)), (0, .ref 0), (1, .int ci), (2, .int hp)], [.int (if r1 = 0 then (0 : Int32) else (if (f_hasHop S ci.toNatClampNeg hp) = 0 then (0 : Int32) else 1))])) (fun J3 => ?_) ?_
  · by_cases h3 : r1 = 0
    · rw [show (if r1 = 0 then (0 : Int32) else (if (f_hasHop S ci.toNatClampNeg hp) = 0 then (0 : Int32) else 1)) = 0 from if_pos h3] at J3
      refine xe_c1t pg_79 30 rfl rfl h3 ?_
      refine xe_sn pg_79 1 (fr' := (31, [(3, .ref (ja_C ci.toNatClampNeg)), (0, .ref 0), (1, .int ci), (2, .int hp)], [.int 0])) rfl ?_
      exact J3
    · rw [show (if r1 = 0 then (0 : Int32) else (if (f_hasHop S ci.toNatClampNeg hp) = 0 then (0 : Int32) else 1)) = (if (f_hasHop S ci.toNatClampNeg hp) = 0 then (0 : Int32) else 1) from if_neg h3] at J3
      refine xe_c1f pg_79 30 rfl rfl h3 ?_
      refine xe_sn pg_79 2 (fr' := (20, [(3, .ref (ja_C ci.toNatClampNeg)), (0, .ref 0), (1, .int ci), (2, .int hp)], [.int hp, .ref (ja_C ci.toNatClampNeg)])) rfl ?_
      refine xe_cv pg_79 17 pg_17 [.int hp] [] (some (.int (f_hasHop S ci.toNatClampNeg hp))) rfl rfl rfl rfl ⟨Nat.le_of_ble_eq_true rfl, Nat.le_of_ble_eq_true rfl, Nat.le_of_ble_eq_true rfl⟩ ⟨rfl, rfl⟩ (kk2 (k_C (bnd_lt g2)) (by decide)) (c_hasHop _ (c := ci.toNatClampNeg) (k := hp) (bnd_lt g2) rfl) ?_
      refine xe_jn (fr' := (31, [(3, .ref (ja_C ci.toNatClampNeg)), (0, .ref 0), (1, .int ci), (2, .int hp)], [.int (if (f_hasHop S ci.toNatClampNeg hp) = 0 then (0 : Int32) else 1)])) (fun J4 => ?_) ?_
      · by_cases h4 : (f_hasHop S ci.toNatClampNeg hp) = 0
        · rw [show (if (f_hasHop S ci.toNatClampNeg hp) = 0 then (0 : Int32) else 1) = 0 from if_pos h4] at J4
          refine xe_c1t pg_79 30 rfl rfl h4 ?_
          refine xe_sn pg_79 1 (fr' := (31, [(3, .ref (ja_C ci.toNatClampNeg)), (0, .ref 0), (1, .int ci), (2, .int hp)], [.int 0])) rfl ?_
          exact J4
        · rw [show (if (f_hasHop S ci.toNatClampNeg hp) = 0 then (0 : Int32) else 1) = 1 from if_neg h4] at J4
          refine xe_c1f pg_79 30 rfl rfl h4 ?_
          refine xe_sn pg_79 2 (fr' := (31, [(3, .ref (ja_C ci.toNatClampNeg)), (0, .ref 0), (1, .int ci), (2, .int hp)], [.int 1])) rfl ?_
          exact J4
      exact J3
  by_cases h5 : (if r1 = 0 then (0 : Int32) else (if (f_hasHop S ci.toNatClampNeg hp) = 0 then (0 : Int32) else 1)) = 0
  · rw [if_pos h5] at hE
    cases hE
    exact xe_callqx pg_79 98 [.int (if r1 = 0 then (0 : Int32) else (if (f_hasHop S ci.toNatClampNeg hp) = 0 then (0 : Int32) else 1))] 2 rfl (fun _ => rfl) (c_checkState_bad _ (i := (if r1 = 0 then (0 : Int32) else (if (f_hasHop S ci.toNatClampNeg hp) = 0 then (0 : Int32) else 1))) h5)
  rw [if_neg h5] at hE
  refine xe_callq pg_79 98 [.int (if r1 = 0 then (0 : Int32) else (if (f_hasHop S ci.toNatClampNeg hp) = 0 then (0 : Int32) else 1))] (.inl none) (34, [(3, .ref (ja_C ci.toNatClampNeg)), (0, .ref 0), (1, .int ci), (2, .int hp)], []) rfl (fun _ => rfl) (c_checkState_ok _ (i := (if r1 = 0 then (0 : Int32) else (if (f_hasHop S ci.toNatClampNeg hp) = 0 then (0 : Int32) else 1))) h5) ?_
  refine xe_sn pg_79 2 (fr' := (36, [(3, .ref (ja_C ci.toNatClampNeg)), (0, .ref 0), (1, .int ci), (2, .int hp)], [.int hp, .ref (ja_C ci.toNatClampNeg)])) rfl ?_
  obtain ⟨r2, e2, hE⟩ := Option.bind_eq_some_iff.mp hE
  refine xe_cv pg_79 25 pg_25 [.int hp] [] (none) rfl rfl rfl rfl ⟨Nat.le_of_ble_eq_true rfl, Nat.le_of_ble_eq_true rfl, Nat.le_of_ble_eq_true rfl⟩ ⟨rfl, rfl⟩ (kk2 (k_C (bnd_lt g2)) (by decide)) (c_askToTruncate _ (c := ci.toNatClampNeg) (hop := hp) (bnd_lt g2) e2) ?_
  refine xe_sn pg_79 1 (fr' := (40, [(3, .ref (ja_C ci.toNatClampNeg)), (0, .ref 0), (1, .int ci), (2, .int hp)], [.ref (ja_C ci.toNatClampNeg)])) rfl ?_
  refine ye_gi pg_79 (r2.1 168 ci.toNatClampNeg) rfl rfl rfl (kk1 (k_C (bnd_lt g2))) ((l_C6 (bnd_lt g2)).rd _) ?_
  cases hE
  exact xe_end pg_79 rfl

def f_close (S : xSt) (ci : Int32) : Option ((Option Int32 ⊕ Nat) × xSt) := if (ci < 0 ∨ 4 ≤ ci) then (some (.inr 0, S)) else (if bnd ci 4 then ((some (f_isLive S ci.toNatClampNeg)).bind fun r1 => if r1 = 0 then (some (.inr 2, S)) else ((f_shut S ci.toNatClampNeg).bind fun r2 => some (.inl none, r2))) else none)
set_option maxRecDepth 100000 in
theorem c_close (d : Nat) {w : xWd} {S : xSt} {μ : Nat → Nat → Int32} {ρ : Nat → Nat → Int64} {ci : Int32} {o : Option Int32 ⊕ Nat} {T : xSt} (hE : (f_close S ci) = some (o, T)) : xc (d + 8) 80 [.ref 0, .int ci] (hz w S μ ρ) (rsl o, hz (wx o w) T μ ρ) := by
  unfold f_close at hE
  refine xe_sn pg_80 1 (fr' := (1, [(0, .ref 0), (1, .int ci)], [.int ci])) rfl ?_
  by_cases h1 : (ci < 0 ∨ 4 ≤ ci)
  · rw [if_pos h1] at hE
    cases hE
    exact xe_callqx pg_80 92 [.int ci] 0 rfl (fun _ => rfl) (c_checkCircuit_bad _ (i := ci) h1)
  rw [if_neg h1] at hE
  refine xe_callq pg_80 92 [.int ci] (.inl none) (4, [(0, .ref 0), (1, .int ci)], []) rfl (fun _ => rfl) (c_checkCircuit_ok _ (i := ci) h1) ?_
  refine xe_sn pg_80 1 (fr' := (5, [(0, .ref 0), (1, .int ci)], [.ref 0])) rfl ?_
  refine xe_gr pg_80 120 rfl rfl rfl (kk1 k_O) rfl ?_
  refine xe_sn pg_80 1 (fr' := (9, [(0, .ref 0), (1, .int ci)], [.int ci, .ref 120])) rfl ?_
  by_cases g2 : bnd ci 4
  case neg => rw [if_neg g2] at hE; cases hE
  rw [if_pos g2] at hE
  refine xe_al pg_80 ci.toNatClampNeg (ja_C ci.toNatClampNeg) rfl k_Cs ⟨by decide, by decide⟩ g2 rfl (r_Cs (bnd_lt g2) _) ?_
  obtain ⟨r1, e1, hE⟩ := Option.bind_eq_some_iff.mp hE
  refine xe_cv pg_80 16 pg_16 [] [] (some (.int r1)) rfl rfl rfl rfl ⟨Nat.le_of_ble_eq_true rfl, Nat.le_of_ble_eq_true rfl, Nat.le_of_ble_eq_true rfl⟩ ⟨rfl, rfl⟩ (kk2 (k_C (bnd_lt g2)) (by decide)) (c_isLive _ (c := ci.toNatClampNeg) (bnd_lt g2) (Option.some.inj e1)) ?_
  by_cases h3 : r1 = 0
  · rw [if_pos h3] at hE
    cases hE
    exact xe_callqx pg_80 98 [.int r1] 2 rfl (fun _ => rfl) (c_checkState_bad _ (i := r1) h3)
  rw [if_neg h3] at hE
  refine xe_callq pg_80 98 [.int r1] (.inl none) (16, [(0, .ref 0), (1, .int ci)], []) rfl (fun _ => rfl) (c_checkState_ok _ (i := r1) h3) ?_
  refine xe_sn pg_80 1 (fr' := (17, [(0, .ref 0), (1, .int ci)], [.ref 0])) rfl ?_
  refine xe_gr pg_80 120 rfl rfl rfl (kk1 k_O) rfl ?_
  refine xe_sn pg_80 1 (fr' := (21, [(0, .ref 0), (1, .int ci)], [.int ci, .ref 120])) rfl ?_
  refine xe_al pg_80 ci.toNatClampNeg (ja_C ci.toNatClampNeg) rfl k_Cs ⟨by decide, by decide⟩ g2 rfl (r_Cs (bnd_lt g2) _) ?_
  obtain ⟨r2, e2, hE⟩ := Option.bind_eq_some_iff.mp hE
  refine xe_cv pg_80 29 pg_29 [] [] (none) rfl rfl rfl rfl ⟨Nat.le_of_ble_eq_true rfl, Nat.le_of_ble_eq_true rfl, Nat.le_of_ble_eq_true rfl⟩ ⟨rfl, rfl⟩ (kk2 (k_C (bnd_lt g2)) (by decide)) (c_shut _ (c := ci.toNatClampNeg) (bnd_lt g2) e2) ?_
  cases hE
  exact xe_end pg_80 rfl

def f_damage (S : xSt) (i : Int32) (k : Int32) (mk : Int32) : Option ((Option Int32 ⊕ Nat) × xSt) := if (i < 0 ∨ (S.1 165 1) ≤ i) then (some (.inr 0, S)) else (if (k < 0 ∨ 14 ≤ k) then (some (.inr 0, S)) else ((some (f_isByte mk)).bind fun r1 => if r1 = 0 then (some (.inr 1, S)) else (if bnd i 20 then (if (S.2.2 i.toNatClampNeg) < 22 then (if bnd k 14 then (some (.inl (some (S.2.1 (S.2.2 i.toNatClampNeg) k.toNatClampNeg)), (sy S (S.2.2 i.toNatClampNeg) k.toNatClampNeg ((S.2.1 (S.2.2 i.toNatClampNeg) k.toNatClampNeg) ^^^ mk)))) else none) else none) else none)))
set_option maxRecDepth 100000 in
theorem c_damage (d : Nat) {w : xWd} {S : xSt} {μ : Nat → Nat → Int32} {ρ : Nat → Nat → Int64} {i : Int32} {k : Int32} {mk : Int32} {o : Option Int32 ⊕ Nat} {T : xSt} (hE : (f_damage S i k mk) = some (o, T)) : xc (d + 7) 82 [.ref 0, .int i, .int k, .int mk] (hz w S μ ρ) (rsl o, hz (wx o w) T μ ρ) := by
  unfold f_damage at hE
  refine xe_sn pg_82 2 (fr' := (2, [(0, .ref 0), (1, .int i), (2, .int k), (3, .int mk)], [.ref 0, .int i])) rfl ?_
  refine xe_gr pg_82 1 rfl rfl rfl (kk1 k_O) rfl ?_
  refine ye_gi pg_82 (S.1 165 1) rfl rfl rfl (kk1 k_W) (l_size.rd _) ?_
  by_cases h1 : (i < 0 ∨ (S.1 165 1) ≤ i)
  · rw [if_pos h1] at hE
    cases hE
    exact xe_callqx pg_82 95 [.int i, .int (S.1 165 1)] 0 rfl (fun _ => rfl) (c_checkIndex_bad _ (i := i) (b := (S.1 165 1)) h1)
  rw [if_neg h1] at hE
  refine xe_callq pg_82 95 [.int i, .int (S.1 165 1)] (.inl none) (11, [(0, .ref 0), (1, .int i), (2, .int k), (3, .int mk)], []) rfl (fun _ => rfl) (c_checkIndex_ok _ (i := i) (b := (S.1 165 1)) h1) ?_
  refine xe_sn pg_82 2 (fr' := (14, [(0, .ref 0), (1, .int i), (2, .int k), (3, .int mk)], [.int 14, .int k])) rfl ?_
  by_cases h2 : (k < 0 ∨ 14 ≤ k)
  · rw [if_pos h2] at hE
    cases hE
    exact xe_callqx pg_82 95 [.int k, .int 14] 0 rfl (fun _ => rfl) (c_checkIndex_bad _ (i := k) (b := 14) h2)
  rw [if_neg h2] at hE
  refine xe_callq pg_82 95 [.int k, .int 14] (.inl none) (17, [(0, .ref 0), (1, .int i), (2, .int k), (3, .int mk)], []) rfl (fun _ => rfl) (c_checkIndex_ok _ (i := k) (b := 14) h2) ?_
  refine xe_sn pg_82 1 (fr' := (18, [(0, .ref 0), (1, .int i), (2, .int k), (3, .int mk)], [.int mk])) rfl ?_
  obtain ⟨r1, e1, hE⟩ := Option.bind_eq_some_iff.mp hE
  refine xe_callq pg_82 99 [.int mk] (.inl (some (.int r1))) (21, [(0, .ref 0), (1, .int i), (2, .int k), (3, .int mk)], [.int r1]) rfl (fun _ => rfl) (c_isByte _ (x := mk)  (Option.some.inj e1)) ?_
  by_cases h3 : r1 = 0
  · rw [if_pos h3] at hE
    cases hE
    exact xe_callqx pg_82 97 [.int r1] 1 rfl (fun _ => rfl) (c_checkArgument_bad _ (i := r1) h3)
  rw [if_neg h3] at hE
  refine xe_callq pg_82 97 [.int r1] (.inl none) (24, [(0, .ref 0), (1, .int i), (2, .int k), (3, .int mk)], []) rfl (fun _ => rfl) (c_checkArgument_ok _ (i := r1) h3) ?_
  refine xe_sn pg_82 1 (fr' := (25, [(0, .ref 0), (1, .int i), (2, .int k), (3, .int mk)], [.ref 0])) rfl ?_
  refine xe_gr pg_82 1 rfl rfl rfl (kk1 k_O) rfl ?_
  refine xe_gr pg_82 2 rfl rfl rfl (kk1 k_W) rfl ?_
  refine xe_sn pg_82 1 (fr' := (32, [(0, .ref 0), (1, .int i), (2, .int k), (3, .int mk)], [.int i, .ref 2])) rfl ?_
  by_cases g4 : bnd i 20
  case neg => rw [if_neg g4] at hE; cases hE
  rw [if_pos g4] at hE
  refine xe_al pg_82 i.toNatClampNeg (ja_L (S.2.2 i.toNatClampNeg)) rfl k_WC ⟨by decide, by decide⟩ g4 rfl (r_WC _ (bnd_lt g4)) ?_
  by_cases g5 : (S.2.2 i.toNatClampNeg) < 22
  case neg => rw [if_neg g5] at hE; cases hE
  rw [if_pos g5] at hE
  refine xe_gr pg_82 (ja_B (S.2.2 i.toNatClampNeg)) rfl rfl rfl (kk1 (k_L g5)) (r_L0 g5 _) ?_
  refine xe_sn pg_82 3 (fr' := (41, [(4, .ref (ja_B (S.2.2 i.toNatClampNeg))), (0, .ref 0), (1, .int i), (2, .int k), (3, .int mk)], [.int k, .ref (ja_B (S.2.2 i.toNatClampNeg))])) rfl ?_
  by_cases g6 : bnd k 14
  case neg => rw [if_neg g6] at hE; cases hE
  rw [if_pos g6] at hE
  refine ye_il pg_82 k.toNatClampNeg (S.2.1 (S.2.2 i.toNatClampNeg) k.toNatClampNeg) rfl (k_B g5) g6 rfl ((l_B g5 (k := k.toNatClampNeg) (bnd_lt g6)).rd _) ?_
  refine xe_sn pg_82 6 (fr' := (51, [(5, .int (S.2.1 (S.2.2 i.toNatClampNeg) k.toNatClampNeg)), (4, .ref (ja_B (S.2.2 i.toNatClampNeg))), (0, .ref 0), (1, .int i), (2, .int k), (3, .int mk)], [.int ((S.2.1 (S.2.2 i.toNatClampNeg) k.toNatClampNeg) ^^^ mk), .int k, .ref (ja_B (S.2.2 i.toNatClampNeg))])) rfl ?_
  refine ye_iy pg_82 k.toNatClampNeg rfl (k_B g5) g6 rfl (l_B g5 (k := k.toNatClampNeg) (bnd_lt g6)) ?_
  refine xe_sn pg_82 1 (fr' := (54, [(5, .int (S.2.1 (S.2.2 i.toNatClampNeg) k.toNatClampNeg)), (4, .ref (ja_B (S.2.2 i.toNatClampNeg))), (0, .ref 0), (1, .int i), (2, .int k), (3, .int mk)], [.int (S.2.1 (S.2.2 i.toNatClampNeg) k.toNatClampNeg)])) rfl ?_
  cases hE
  exact xe_end pg_82 rfl

def f_lose (S : xSt) (i : Int32) : Option ((Option Int32 ⊕ Nat) × xSt) := if (i < 0 ∨ (S.1 165 1) ≤ i) then (some (.inr 0, S)) else ((f_takeOut (sx S 165 4 ((S.1 165 4) + 1)) i).bind fun r1 => some (.inl (some (r1.2.2.1 r1.1 17)), r1.2))
set_option maxRecDepth 100000 in
theorem c_lose (d : Nat) {w : xWd} {S : xSt} {μ : Nat → Nat → Int32} {ρ : Nat → Nat → Int64} {i : Int32} {o : Option Int32 ⊕ Nat} {T : xSt} (hE : (f_lose S i) = some (o, T)) : xc (d + 7) 83 [.ref 0, .int i] (hz w S μ ρ) (rsl o, hz (wx o w) T μ ρ) := by
  unfold f_lose at hE
  refine xe_sn pg_83 2 (fr' := (2, [(0, .ref 0), (1, .int i)], [.ref 0, .int i])) rfl ?_
  refine xe_gr pg_83 1 rfl rfl rfl (kk1 k_O) rfl ?_
  refine ye_gi pg_83 (S.1 165 1) rfl rfl rfl (kk1 k_W) (l_size.rd _) ?_
  by_cases h1 : (i < 0 ∨ (S.1 165 1) ≤ i)
  · rw [if_pos h1] at hE
    cases hE
    exact xe_callqx pg_83 95 [.int i, .int (S.1 165 1)] 0 rfl (fun _ => rfl) (c_checkIndex_bad _ (i := i) (b := (S.1 165 1)) h1)
  rw [if_neg h1] at hE
  refine xe_callq pg_83 95 [.int i, .int (S.1 165 1)] (.inl none) (11, [(0, .ref 0), (1, .int i)], []) rfl (fun _ => rfl) (c_checkIndex_ok _ (i := i) (b := (S.1 165 1)) h1) ?_
  refine xe_sn pg_83 1 (fr' := (12, [(0, .ref 0), (1, .int i)], [.ref 0])) rfl ?_
  refine xe_gr pg_83 1 rfl rfl rfl (kk1 k_O) rfl ?_
  refine xe_sn pg_83 1 (fr' := (16, [(0, .ref 0), (1, .int i)], [.ref 1, .ref 1])) rfl ?_
  refine ye_gi pg_83 (S.1 165 4) rfl rfl rfl (kk1 k_W) (l_lost.rd _) ?_
  refine xe_sn pg_83 2 (fr' := (21, [(0, .ref 0), (1, .int i)], [.int ((S.1 165 4) + 1), .ref 1])) rfl ?_
  refine ye_px pg_83 rfl rfl ⟨rfl, rfl⟩ (Or.inl rfl) (kk1 k_W) l_lost ?_
  refine xe_sn pg_83 1 (fr' := (25, [(0, .ref 0), (1, .int i)], [.ref 0])) rfl ?_
  refine xe_gr pg_83 1 rfl rfl rfl (kk1 k_O) rfl ?_
  refine xe_sn pg_83 1 (fr' := (29, [(0, .ref 0), (1, .int i)], [.int i, .ref 1])) rfl ?_
  obtain ⟨r1, e1, hE⟩ := Option.bind_eq_some_iff.mp hE
  refine xe_cv pg_83 69 pg_69 [.int i] [] (some (.ref (ja_L r1.1))) rfl rfl rfl rfl ⟨Nat.le_of_ble_eq_true rfl, Nat.le_of_ble_eq_true rfl, Nat.le_of_ble_eq_true rfl⟩ ⟨rfl, rfl⟩ (kk2 k_W (by decide)) (c_takeOutO _ (i := i)  e1) ?_
  refine ye_gi pg_83 (r1.2.2.1 r1.1 17) rfl rfl rfl (kk1 (k_L (t_takeOut e1))) ((show ly _ 4 r1.1 17 from l_L (t_takeOut e1) (by decide) (by decide)).rd _) ?_
  cases hE
  exact xe_end pg_83 rfl

def f_cell (S : xSt) (i : Int32) (wh : Int32) : Option ((Option Int32 ⊕ Nat) × xSt) := if (i < 0 ∨ (S.1 165 1) ≤ i) then (some (.inr 0, S)) else (if (wh < 0 ∨ 19 ≤ wh) then (some (.inr 0, S)) else (if bnd i 20 then (if (S.2.2 i.toNatClampNeg) < 22 then (if wh = 0 then (some (.inl (some (S.2.1 (S.2.2 i.toNatClampNeg) 14)), S)) else (if wh = 1 then (some (.inl (some (S.2.1 (S.2.2 i.toNatClampNeg) 15)), S)) else (if wh = 2 then (some (.inl (some (S.2.1 (S.2.2 i.toNatClampNeg) 16)), S)) else (if wh = 3 then (some (.inl (some (S.2.1 (S.2.2 i.toNatClampNeg) 17)), S)) else (if wh = 18 then (some (.inl (some (S.2.1 (S.2.2 i.toNatClampNeg) 18)), S)) else (if bnd (wh - 4) 14 then (some (.inl (some (S.2.1 (S.2.2 i.toNatClampNeg) (wh - 4).toNatClampNeg)), S)) else none)))))) else none) else none))
set_option maxRecDepth 100000 in
theorem c_cell (d : Nat) {w : xWd} {S : xSt} {μ : Nat → Nat → Int32} {ρ : Nat → Nat → Int64} {i : Int32} {wh : Int32} {o : Option Int32 ⊕ Nat} {T : xSt} (hE : (f_cell S i wh) = some (o, T)) : xc (d + 7) 84 [.ref 0, .int i, .int wh] (hz w S μ ρ) (rsl o, hz (wx o w) T μ ρ) := by
  unfold f_cell at hE
  refine xe_sn pg_84 2 (fr' := (2, [(0, .ref 0), (1, .int i), (2, .int wh)], [.ref 0, .int i])) rfl ?_
  refine xe_gr pg_84 1 rfl rfl rfl (kk1 k_O) rfl ?_
  refine ye_gi pg_84 (S.1 165 1) rfl rfl rfl (kk1 k_W) (l_size.rd _) ?_
  by_cases h1 : (i < 0 ∨ (S.1 165 1) ≤ i)
  · rw [if_pos h1] at hE
    cases hE
    exact xe_callqx pg_84 95 [.int i, .int (S.1 165 1)] 0 rfl (fun _ => rfl) (c_checkIndex_bad _ (i := i) (b := (S.1 165 1)) h1)
  rw [if_neg h1] at hE
  refine xe_callq pg_84 95 [.int i, .int (S.1 165 1)] (.inl none) (11, [(0, .ref 0), (1, .int i), (2, .int wh)], []) rfl (fun _ => rfl) (c_checkIndex_ok _ (i := i) (b := (S.1 165 1)) h1) ?_
  refine xe_sn pg_84 2 (fr' := (14, [(0, .ref 0), (1, .int i), (2, .int wh)], [.int 19, .int wh])) rfl ?_
  by_cases h2 : (wh < 0 ∨ 19 ≤ wh)
  · rw [if_pos h2] at hE
    cases hE
    exact xe_callqx pg_84 95 [.int wh, .int 19] 0 rfl (fun _ => rfl) (c_checkIndex_bad _ (i := wh) (b := 19) h2)
  rw [if_neg h2] at hE
  refine xe_callq pg_84 95 [.int wh, .int 19] (.inl none) (17, [(0, .ref 0), (1, .int i), (2, .int wh)], []) rfl (fun _ => rfl) (c_checkIndex_ok _ (i := wh) (b := 19) h2) ?_
  refine xe_sn pg_84 1 (fr' := (18, [(0, .ref 0), (1, .int i), (2, .int wh)], [.ref 0])) rfl ?_
  refine xe_gr pg_84 1 rfl rfl rfl (kk1 k_O) rfl ?_
  refine xe_gr pg_84 2 rfl rfl rfl (kk1 k_W) rfl ?_
  refine xe_sn pg_84 1 (fr' := (25, [(0, .ref 0), (1, .int i), (2, .int wh)], [.int i, .ref 2])) rfl ?_
  by_cases g3 : bnd i 20
  case neg => rw [if_neg g3] at hE; cases hE
  rw [if_pos g3] at hE
  refine xe_al pg_84 i.toNatClampNeg (ja_L (S.2.2 i.toNatClampNeg)) rfl k_WC ⟨by decide, by decide⟩ g3 rfl (r_WC _ (bnd_lt g3)) ?_
  by_cases g4 : (S.2.2 i.toNatClampNeg) < 22
  case neg => rw [if_neg g4] at hE; cases hE
  rw [if_pos g4] at hE
  refine xe_sn pg_84 2 (fr' := (28, [(3, .ref (ja_L (S.2.2 i.toNatClampNeg))), (0, .ref 0), (1, .int i), (2, .int wh)], [.int wh])) rfl ?_
  by_cases h5 : wh = 0
  · rw [if_pos h5] at hE
    refine xe_sw pg_84 80 h5 rfl ?_
    refine xe_sn pg_84 1 (fr' := (81, [(3, .ref (ja_L (S.2.2 i.toNatClampNeg))), (0, .ref 0), (1, .int i), (2, .int wh)], [.ref (ja_L (S.2.2 i.toNatClampNeg))])) rfl ?_
    refine ye_gi pg_84 (S.2.1 (S.2.2 i.toNatClampNeg) 14) rfl rfl rfl (kk1 (k_L g4)) ((show ly _ 1 (S.2.2 i.toNatClampNeg) 14 from l_L g4 (by decide) (by decide)).rd _) ?_
    cases hE
    exact xe_end pg_84 rfl
  · rw [if_neg h5] at hE
    by_cases h6 : wh = 1
    · rw [if_pos h6] at hE
      refine xe_sw pg_84 85 h6 rfl ?_
      refine xe_sn pg_84 1 (fr' := (86, [(3, .ref (ja_L (S.2.2 i.toNatClampNeg))), (0, .ref 0), (1, .int i), (2, .int wh)], [.ref (ja_L (S.2.2 i.toNatClampNeg))])) rfl ?_
      refine ye_gi pg_84 (S.2.1 (S.2.2 i.toNatClampNeg) 15) rfl rfl rfl (kk1 (k_L g4)) ((show ly _ 2 (S.2.2 i.toNatClampNeg) 15 from l_L g4 (by decide) (by decide)).rd _) ?_
      cases hE
      exact xe_end pg_84 rfl
    · rw [if_neg h6] at hE
      by_cases h7 : wh = 2
      · rw [if_pos h7] at hE
        refine xe_sw pg_84 90 h7 rfl ?_
        refine xe_sn pg_84 1 (fr' := (91, [(3, .ref (ja_L (S.2.2 i.toNatClampNeg))), (0, .ref 0), (1, .int i), (2, .int wh)], [.ref (ja_L (S.2.2 i.toNatClampNeg))])) rfl ?_
        refine ye_gi pg_84 (S.2.1 (S.2.2 i.toNatClampNeg) 16) rfl rfl rfl (kk1 (k_L g4)) ((show ly _ 3 (S.2.2 i.toNatClampNeg) 16 from l_L g4 (by decide) (by decide)).rd _) ?_
        cases hE
        exact xe_end pg_84 rfl
      · rw [if_neg h7] at hE
        by_cases h8 : wh = 3
        · rw [if_pos h8] at hE
          refine xe_sw pg_84 95 h8 rfl ?_
          refine xe_sn pg_84 1 (fr' := (96, [(3, .ref (ja_L (S.2.2 i.toNatClampNeg))), (0, .ref 0), (1, .int i), (2, .int wh)], [.ref (ja_L (S.2.2 i.toNatClampNeg))])) rfl ?_
          refine ye_gi pg_84 (S.2.1 (S.2.2 i.toNatClampNeg) 17) rfl rfl rfl (kk1 (k_L g4)) ((show ly _ 4 (S.2.2 i.toNatClampNeg) 17 from l_L g4 (by decide) (by decide)).rd _) ?_
          cases hE
          exact xe_end pg_84 rfl
        · rw [if_neg h8] at hE
          by_cases h9 : wh = 18
          · rw [if_pos h9] at hE
            refine xe_sw pg_84 100 h9 rfl ?_
            refine xe_sn pg_84 1 (fr' := (101, [(3, .ref (ja_L (S.2.2 i.toNatClampNeg))), (0, .ref 0), (1, .int i), (2, .int wh)], [.ref (ja_L (S.2.2 i.toNatClampNeg))])) rfl ?_
            refine ye_gi pg_84 (S.2.1 (S.2.2 i.toNatClampNeg) 18) rfl rfl rfl (kk1 (k_L g4)) ((show ly _ 5 (S.2.2 i.toNatClampNeg) 18 from l_L g4 (by decide) (by decide)).rd _) ?_
            cases hE
            exact xe_end pg_84 rfl
          · rw [if_neg h9] at hE
            refine xe_lsd pg_84 105 rfl rfl ((Op.lookupswitch.offset_cons _ _ _ _ _).trans ((if_neg (lo_ne (n := 0) rfl h5)).trans ((Op.lookupswitch.offset_cons _ _ _ _ _).trans ((if_neg (lo_ne (n := 1) rfl h6)).trans ((Op.lookupswitch.offset_cons _ _ _ _ _).trans ((if_neg (lo_ne (n := 2) rfl h7)).trans ((Op.lookupswitch.offset_cons _ _ _ _ _).trans ((if_neg (lo_ne (n := 3) rfl h8)).trans ((Op.lookupswitch.offset_cons _ _ _ _ _).trans ((if_neg (lo_ne (n := 18) rfl h9)).trans rfl)))))))))) rfl ?_
            refine xe_sn pg_84 1 (fr' := (106, [(3, .ref (ja_L (S.2.2 i.toNatClampNeg))), (0, .ref 0), (1, .int i), (2, .int wh)], [.ref (ja_L (S.2.2 i.toNatClampNeg))])) rfl ?_
            refine xe_gr pg_84 (ja_B (S.2.2 i.toNatClampNeg)) rfl rfl rfl (kk1 (k_L g4)) (r_L0 g4 _) ?_
            refine xe_sn pg_84 3 (fr' := (112, [(3, .ref (ja_L (S.2.2 i.toNatClampNeg))), (0, .ref 0), (1, .int i), (2, .int wh)], [.int (wh - 4), .ref (ja_B (S.2.2 i.toNatClampNeg))])) rfl ?_
            by_cases g10 : bnd (wh - 4) 14
            case neg => rw [if_neg g10] at hE; cases hE
            rw [if_pos g10] at hE
            refine ye_il pg_84 (wh - 4).toNatClampNeg (S.2.1 (S.2.2 i.toNatClampNeg) (wh - 4).toNatClampNeg) rfl (k_B g4) g10 rfl ((l_B g4 (k := (wh - 4).toNatClampNeg) (bnd_lt g10)).rd _) ?_
            cases hE
            exact xe_end pg_84 rfl

def f_circuit (S : xSt) (ci : Int32) (wh : Int32) : Option ((Option Int32 ⊕ Nat) × xSt) := if (ci < 0 ∨ 4 ≤ ci) then (some (.inr 0, S)) else (if (wh < 0 ∨ 12 ≤ wh) then (some (.inr 0, S)) else (if bnd ci 4 then (if wh = 0 then (some (.inl (some (S.1 167 ci.toNatClampNeg)), S)) else (if wh = 1 then (some (.inl (some (S.1 168 ci.toNatClampNeg)), S)) else (if wh = 2 then ((some (f_hasHop S ci.toNatClampNeg (wh - 2))).bind fun r1 => if r1 = 0 then (some (.inl (some (-1)), S)) else (if bnd (wh - 2) 3 then (some (.inl (some (S.1 169 (3 * ci.toNatClampNeg + (wh - 2).toNatClampNeg))), S)) else none)) else (if wh = 3 then ((some (f_hasHop S ci.toNatClampNeg (wh - 2))).bind fun r2 => if r2 = 0 then (some (.inl (some (-1)), S)) else (if bnd (wh - 2) 3 then (some (.inl (some (S.1 169 (3 * ci.toNatClampNeg + (wh - 2).toNatClampNeg))), S)) else none)) else (if wh = 4 then ((some (f_hasHop S ci.toNatClampNeg (wh - 2))).bind fun r3 => if r3 = 0 then (some (.inl (some (-1)), S)) else (if bnd (wh - 2) 3 then (some (.inl (some (S.1 169 (3 * ci.toNatClampNeg + (wh - 2).toNatClampNeg))), S)) else none)) else (if wh = 5 then (some (.inl (some (S.1 171 ci.toNatClampNeg)), S)) else (if wh = 6 then (if bnd (wh - 6) 3 then (some (.inl (some (S.1 173 (3 * ci.toNatClampNeg + (wh - 6).toNatClampNeg))), S)) else none) else (if wh = 7 then (if bnd (wh - 6) 3 then (some (.inl (some (S.1 173 (3 * ci.toNatClampNeg + (wh - 6).toNatClampNeg))), S)) else none) else (if wh = 8 then (if bnd (wh - 6) 3 then (some (.inl (some (S.1 173 (3 * ci.toNatClampNeg + (wh - 6).toNatClampNeg))), S)) else none) else (if bnd (wh - 9) 3 then (some (.inl (some (S.1 175 (3 * ci.toNatClampNeg + (wh - 9).toNatClampNeg))), S)) else none)))))))))) else none))
set_option maxRecDepth 100000 in
theorem c_circuit (d : Nat) {w : xWd} {S : xSt} {μ : Nat → Nat → Int32} {ρ : Nat → Nat → Int64} {ci : Int32} {wh : Int32} {o : Option Int32 ⊕ Nat} {T : xSt} (hE : (f_circuit S ci wh) = some (o, T)) : xc (d + 8) 85 [.ref 0, .int ci, .int wh] (hz w S μ ρ) (rsl o, hz (wx o w) T μ ρ) := by
  unfold f_circuit at hE
  refine xe_sn pg_85 1 (fr' := (1, [(0, .ref 0), (1, .int ci), (2, .int wh)], [.int ci])) rfl ?_
  by_cases h1 : (ci < 0 ∨ 4 ≤ ci)
  · rw [if_pos h1] at hE
    cases hE
    exact xe_callqx pg_85 92 [.int ci] 0 rfl (fun _ => rfl) (c_checkCircuit_bad _ (i := ci) h1)
  rw [if_neg h1] at hE
  refine xe_callq pg_85 92 [.int ci] (.inl none) (4, [(0, .ref 0), (1, .int ci), (2, .int wh)], []) rfl (fun _ => rfl) (c_checkCircuit_ok _ (i := ci) h1) ?_
  refine xe_sn pg_85 2 (fr' := (7, [(0, .ref 0), (1, .int ci), (2, .int wh)], [.int 12, .int wh])) rfl ?_
  by_cases h2 : (wh < 0 ∨ 12 ≤ wh)
  · rw [if_pos h2] at hE
    cases hE
    exact xe_callqx pg_85 95 [.int wh, .int 12] 0 rfl (fun _ => rfl) (c_checkIndex_bad _ (i := wh) (b := 12) h2)
  rw [if_neg h2] at hE
  refine xe_callq pg_85 95 [.int wh, .int 12] (.inl none) (10, [(0, .ref 0), (1, .int ci), (2, .int wh)], []) rfl (fun _ => rfl) (c_checkIndex_ok _ (i := wh) (b := 12) h2) ?_
  refine xe_sn pg_85 1 (fr' := (11, [(0, .ref 0), (1, .int ci), (2, .int wh)], [.ref 0])) rfl ?_
  refine xe_gr pg_85 120 rfl rfl rfl (kk1 k_O) rfl ?_
  refine xe_sn pg_85 1 (fr' := (15, [(0, .ref 0), (1, .int ci), (2, .int wh)], [.int ci, .ref 120])) rfl ?_
  by_cases g3 : bnd ci 4
  case neg => rw [if_neg g3] at hE; cases hE
  rw [if_pos g3] at hE
  refine xe_al pg_85 ci.toNatClampNeg (ja_C ci.toNatClampNeg) rfl k_Cs ⟨by decide, by decide⟩ g3 rfl (r_Cs (bnd_lt g3) _) ?_
  refine xe_sn pg_85 2 (fr' := (18, [(3, .ref (ja_C ci.toNatClampNeg)), (0, .ref 0), (1, .int ci), (2, .int wh)], [.int wh])) rfl ?_
  by_cases h4 : wh = 0
  · rw [if_pos h4] at hE
    refine xe_sw pg_85 68 h4 rfl ?_
    refine xe_sn pg_85 1 (fr' := (69, [(3, .ref (ja_C ci.toNatClampNeg)), (0, .ref 0), (1, .int ci), (2, .int wh)], [.ref (ja_C ci.toNatClampNeg)])) rfl ?_
    refine ye_gi pg_85 (S.1 167 ci.toNatClampNeg) rfl rfl rfl (kk1 (k_C (bnd_lt g3))) ((l_C5 (bnd_lt g3)).rd _) ?_
    cases hE
    exact xe_end pg_85 rfl
  · rw [if_neg h4] at hE
    by_cases h5 : wh = 1
    · rw [if_pos h5] at hE
      refine xe_sw pg_85 73 h5 rfl ?_
      refine xe_sn pg_85 1 (fr' := (74, [(3, .ref (ja_C ci.toNatClampNeg)), (0, .ref 0), (1, .int ci), (2, .int wh)], [.ref (ja_C ci.toNatClampNeg)])) rfl ?_
      refine ye_gi pg_85 (S.1 168 ci.toNatClampNeg) rfl rfl rfl (kk1 (k_C (bnd_lt g3))) ((l_C6 (bnd_lt g3)).rd _) ?_
      cases hE
      exact xe_end pg_85 rfl
    · rw [if_neg h5] at hE
      by_cases h6 : wh = 2
      · rw [if_pos h6] at hE
        refine xe_sw pg_85 78 h6 rfl ?_
        refine xe_sn pg_85 4 (fr' := (82, [(3, .ref (ja_C ci.toNatClampNeg)), (0, .ref 0), (1, .int ci), (2, .int wh)], [.int (wh - 2), .ref (ja_C ci.toNatClampNeg)])) rfl ?_
        obtain ⟨r1, e1, hE⟩ := Option.bind_eq_some_iff.mp hE
        refine xe_cv pg_85 17 pg_17 [.int (wh - 2)] [] (some (.int r1)) rfl rfl rfl rfl ⟨Nat.le_of_ble_eq_true rfl, Nat.le_of_ble_eq_true rfl, Nat.le_of_ble_eq_true rfl⟩ ⟨rfl, rfl⟩ (kk2 (k_C (bnd_lt g3)) (by decide)) (c_hasHop _ (c := ci.toNatClampNeg) (k := (wh - 2)) (bnd_lt g3) (Option.some.inj e1)) ?_
        by_cases h7 : r1 = 0
        · rw [if_pos h7] at hE
          refine xe_c1t pg_85 99 rfl rfl h7 ?_
          refine xe_sn pg_85 1 (fr' := (100, [(3, .ref (ja_C ci.toNatClampNeg)), (0, .ref 0), (1, .int ci), (2, .int wh)], [.int (-1)])) rfl ?_
          cases hE
          exact xe_end pg_85 rfl
        · rw [if_neg h7] at hE
          refine xe_c1f pg_85 99 rfl rfl h7 ?_
          refine xe_sn pg_85 1 (fr' := (89, [(3, .ref (ja_C ci.toNatClampNeg)), (0, .ref 0), (1, .int ci), (2, .int wh)], [.ref (ja_C ci.toNatClampNeg)])) rfl ?_
          refine xe_gr pg_85 (ja_H ci.toNatClampNeg) rfl rfl rfl (kk1 (k_C (bnd_lt g3))) (r_C0 (bnd_lt g3) _) ?_
          refine xe_sn pg_85 3 (fr' := (95, [(3, .ref (ja_C ci.toNatClampNeg)), (0, .ref 0), (1, .int ci), (2, .int wh)], [.int (wh - 2), .ref (ja_H ci.toNatClampNeg)])) rfl ?_
          by_cases g8 : bnd (wh - 2) 3
          case neg => rw [if_neg g8] at hE; cases hE
          rw [if_pos g8] at hE
          refine ye_il pg_85 (wh - 2).toNatClampNeg (S.1 169 (3 * ci.toNatClampNeg + (wh - 2).toNatClampNeg)) rfl (k_H (bnd_lt g3)) g8 rfl ((l_H (bnd_lt g3) (k := (wh - 2).toNatClampNeg) (bnd_lt g8)).rd _) ?_
          refine xe_sn pg_85 1 (fr' := (100, [(3, .ref (ja_C ci.toNatClampNeg)), (0, .ref 0), (1, .int ci), (2, .int wh)], [.int (S.1 169 (3 * ci.toNatClampNeg + (wh - 2).toNatClampNeg))])) rfl ?_
          cases hE
          exact xe_end pg_85 rfl
      · rw [if_neg h6] at hE
        by_cases h9 : wh = 3
        · rw [if_pos h9] at hE
          refine xe_sw pg_85 78 h9 rfl ?_
          refine xe_sn pg_85 4 (fr' := (82, [(3, .ref (ja_C ci.toNatClampNeg)), (0, .ref 0), (1, .int ci), (2, .int wh)], [.int (wh - 2), .ref (ja_C ci.toNatClampNeg)])) rfl ?_
          obtain ⟨r2, e2, hE⟩ := Option.bind_eq_some_iff.mp hE
          refine xe_cv pg_85 17 pg_17 [.int (wh - 2)] [] (some (.int r2)) rfl rfl rfl rfl ⟨Nat.le_of_ble_eq_true rfl, Nat.le_of_ble_eq_true rfl, Nat.le_of_ble_eq_true rfl⟩ ⟨rfl, rfl⟩ (kk2 (k_C (bnd_lt g3)) (by decide)) (c_hasHop _ (c := ci.toNatClampNeg) (k := (wh - 2)) (bnd_lt g3) (Option.some.inj e2)) ?_
          by_cases h10 : r2 = 0
          · rw [if_pos h10] at hE
            refine xe_c1t pg_85 99 rfl rfl h10 ?_
            refine xe_sn pg_85 1 (fr' := (100, [(3, .ref (ja_C ci.toNatClampNeg)), (0, .ref 0), (1, .int ci), (2, .int wh)], [.int (-1)])) rfl ?_
            cases hE
            exact xe_end pg_85 rfl
          · rw [if_neg h10] at hE
            refine xe_c1f pg_85 99 rfl rfl h10 ?_
            refine xe_sn pg_85 1 (fr' := (89, [(3, .ref (ja_C ci.toNatClampNeg)), (0, .ref 0), (1, .int ci), (2, .int wh)], [.ref (ja_C ci.toNatClampNeg)])) rfl ?_
            refine xe_gr pg_85 (ja_H ci.toNatClampNeg) rfl rfl rfl (kk1 (k_C (bnd_lt g3))) (r_C0 (bnd_lt g3) _) ?_
            refine xe_sn pg_85 3 (fr' := (95, [(3, .ref (ja_C ci.toNatClampNeg)), (0, .ref 0), (1, .int ci), (2, .int wh)], [.int (wh - 2), .ref (ja_H ci.toNatClampNeg)])) rfl ?_
            by_cases g11 : bnd (wh - 2) 3
            case neg => rw [if_neg g11] at hE; cases hE
            rw [if_pos g11] at hE
            refine ye_il pg_85 (wh - 2).toNatClampNeg (S.1 169 (3 * ci.toNatClampNeg + (wh - 2).toNatClampNeg)) rfl (k_H (bnd_lt g3)) g11 rfl ((l_H (bnd_lt g3) (k := (wh - 2).toNatClampNeg) (bnd_lt g11)).rd _) ?_
            refine xe_sn pg_85 1 (fr' := (100, [(3, .ref (ja_C ci.toNatClampNeg)), (0, .ref 0), (1, .int ci), (2, .int wh)], [.int (S.1 169 (3 * ci.toNatClampNeg + (wh - 2).toNatClampNeg))])) rfl ?_
            cases hE
            exact xe_end pg_85 rfl
        · rw [if_neg h9] at hE
          by_cases h12 : wh = 4
          · rw [if_pos h12] at hE
            refine xe_sw pg_85 78 h12 rfl ?_
            refine xe_sn pg_85 4 (fr' := (82, [(3, .ref (ja_C ci.toNatClampNeg)), (0, .ref 0), (1, .int ci), (2, .int wh)], [.int (wh - 2), .ref (ja_C ci.toNatClampNeg)])) rfl ?_
            obtain ⟨r3, e3, hE⟩ := Option.bind_eq_some_iff.mp hE
            refine xe_cv pg_85 17 pg_17 [.int (wh - 2)] [] (some (.int r3)) rfl rfl rfl rfl ⟨Nat.le_of_ble_eq_true rfl, Nat.le_of_ble_eq_true rfl, Nat.le_of_ble_eq_true rfl⟩ ⟨rfl, rfl⟩ (kk2 (k_C (bnd_lt g3)) (by decide)) (c_hasHop _ (c := ci.toNatClampNeg) (k := (wh - 2)) (bnd_lt g3) (Option.some.inj e3)) ?_
            by_cases h13 : r3 = 0
            · rw [if_pos h13] at hE
              refine xe_c1t pg_85 99 rfl rfl h13 ?_
              refine xe_sn pg_85 1 (fr' := (100, [(3, .ref (ja_C ci.toNatClampNeg)), (0, .ref 0), (1, .int ci), (2, .int wh)], [.int (-1)])) rfl ?_
              cases hE
              exact xe_end pg_85 rfl
            · rw [if_neg h13] at hE
              refine xe_c1f pg_85 99 rfl rfl h13 ?_
              refine xe_sn pg_85 1 (fr' := (89, [(3, .ref (ja_C ci.toNatClampNeg)), (0, .ref 0), (1, .int ci), (2, .int wh)], [.ref (ja_C ci.toNatClampNeg)])) rfl ?_
              refine xe_gr pg_85 (ja_H ci.toNatClampNeg) rfl rfl rfl (kk1 (k_C (bnd_lt g3))) (r_C0 (bnd_lt g3) _) ?_
              refine xe_sn pg_85 3 (fr' := (95, [(3, .ref (ja_C ci.toNatClampNeg)), (0, .ref 0), (1, .int ci), (2, .int wh)], [.int (wh - 2), .ref (ja_H ci.toNatClampNeg)])) rfl ?_
              by_cases g14 : bnd (wh - 2) 3
              case neg => rw [if_neg g14] at hE; cases hE
              rw [if_pos g14] at hE
              refine ye_il pg_85 (wh - 2).toNatClampNeg (S.1 169 (3 * ci.toNatClampNeg + (wh - 2).toNatClampNeg)) rfl (k_H (bnd_lt g3)) g14 rfl ((l_H (bnd_lt g3) (k := (wh - 2).toNatClampNeg) (bnd_lt g14)).rd _) ?_
              refine xe_sn pg_85 1 (fr' := (100, [(3, .ref (ja_C ci.toNatClampNeg)), (0, .ref 0), (1, .int ci), (2, .int wh)], [.int (S.1 169 (3 * ci.toNatClampNeg + (wh - 2).toNatClampNeg))])) rfl ?_
              cases hE
              exact xe_end pg_85 rfl
          · rw [if_neg h12] at hE
            by_cases h15 : wh = 5
            · rw [if_pos h15] at hE
              refine xe_sw pg_85 101 h15 rfl ?_
              refine xe_sn pg_85 1 (fr' := (102, [(3, .ref (ja_C ci.toNatClampNeg)), (0, .ref 0), (1, .int ci), (2, .int wh)], [.ref (ja_C ci.toNatClampNeg)])) rfl ?_
              refine ye_gi pg_85 (S.1 171 ci.toNatClampNeg) rfl rfl rfl (kk1 (k_C (bnd_lt g3))) ((l_C7 (bnd_lt g3)).rd _) ?_
              cases hE
              exact xe_end pg_85 rfl
            · rw [if_neg h15] at hE
              by_cases h16 : wh = 6
              · rw [if_pos h16] at hE
                refine xe_sw pg_85 106 h16 rfl ?_
                refine xe_sn pg_85 1 (fr' := (107, [(3, .ref (ja_C ci.toNatClampNeg)), (0, .ref 0), (1, .int ci), (2, .int wh)], [.ref (ja_C ci.toNatClampNeg)])) rfl ?_
                refine xe_gr pg_85 (ja_V ci.toNatClampNeg) rfl rfl rfl (kk1 (k_C (bnd_lt g3))) (r_C2 (bnd_lt g3) _) ?_
                refine xe_sn pg_85 3 (fr' := (114, [(3, .ref (ja_C ci.toNatClampNeg)), (0, .ref 0), (1, .int ci), (2, .int wh)], [.int (wh - 6), .ref (ja_V ci.toNatClampNeg)])) rfl ?_
                by_cases g17 : bnd (wh - 6) 3
                case neg => rw [if_neg g17] at hE; cases hE
                rw [if_pos g17] at hE
                refine xe_al pg_85 (wh - 6).toNatClampNeg (ja_S ci.toNatClampNeg (wh - 6).toNatClampNeg) rfl (k_V (bnd_lt g3)) ⟨by decide, by decide⟩ g17 rfl (r_V (bnd_lt g3) (bnd_lt g17) _) ?_
                refine ye_gi pg_85 (S.1 173 (3 * ci.toNatClampNeg + (wh - 6).toNatClampNeg)) rfl rfl rfl (kk1 (k_S (bnd_lt g3) (bnd_lt g17))) ((show lx _ 0 173 _ from l_S (bnd_lt g3) (bnd_lt g17) (by decide)).rd _) ?_
                cases hE
                exact xe_end pg_85 rfl
              · rw [if_neg h16] at hE
                by_cases h18 : wh = 7
                · rw [if_pos h18] at hE
                  refine xe_sw pg_85 106 h18 rfl ?_
                  refine xe_sn pg_85 1 (fr' := (107, [(3, .ref (ja_C ci.toNatClampNeg)), (0, .ref 0), (1, .int ci), (2, .int wh)], [.ref (ja_C ci.toNatClampNeg)])) rfl ?_
                  refine xe_gr pg_85 (ja_V ci.toNatClampNeg) rfl rfl rfl (kk1 (k_C (bnd_lt g3))) (r_C2 (bnd_lt g3) _) ?_
                  refine xe_sn pg_85 3 (fr' := (114, [(3, .ref (ja_C ci.toNatClampNeg)), (0, .ref 0), (1, .int ci), (2, .int wh)], [.int (wh - 6), .ref (ja_V ci.toNatClampNeg)])) rfl ?_
                  by_cases g19 : bnd (wh - 6) 3
                  case neg => rw [if_neg g19] at hE; cases hE
                  rw [if_pos g19] at hE
                  refine xe_al pg_85 (wh - 6).toNatClampNeg (ja_S ci.toNatClampNeg (wh - 6).toNatClampNeg) rfl (k_V (bnd_lt g3)) ⟨by decide, by decide⟩ g19 rfl (r_V (bnd_lt g3) (bnd_lt g19) _) ?_
                  refine ye_gi pg_85 (S.1 173 (3 * ci.toNatClampNeg + (wh - 6).toNatClampNeg)) rfl rfl rfl (kk1 (k_S (bnd_lt g3) (bnd_lt g19))) ((show lx _ 0 173 _ from l_S (bnd_lt g3) (bnd_lt g19) (by decide)).rd _) ?_
                  cases hE
                  exact xe_end pg_85 rfl
                · rw [if_neg h18] at hE
                  by_cases h20 : wh = 8
                  · rw [if_pos h20] at hE
                    refine xe_sw pg_85 106 h20 rfl ?_
                    refine xe_sn pg_85 1 (fr' := (107, [(3, .ref (ja_C ci.toNatClampNeg)), (0, .ref 0), (1, .int ci), (2, .int wh)], [.ref (ja_C ci.toNatClampNeg)])) rfl ?_
                    refine xe_gr pg_85 (ja_V ci.toNatClampNeg) rfl rfl rfl (kk1 (k_C (bnd_lt g3))) (r_C2 (bnd_lt g3) _) ?_
                    refine xe_sn pg_85 3 (fr' := (114, [(3, .ref (ja_C ci.toNatClampNeg)), (0, .ref 0), (1, .int ci), (2, .int wh)], [.int (wh - 6), .ref (ja_V ci.toNatClampNeg)])) rfl ?_
                    by_cases g21 : bnd (wh - 6) 3
                    case neg => rw [if_neg g21] at hE; cases hE
                    rw [if_pos g21] at hE
                    refine xe_al pg_85 (wh - 6).toNatClampNeg (ja_S ci.toNatClampNeg (wh - 6).toNatClampNeg) rfl (k_V (bnd_lt g3)) ⟨by decide, by decide⟩ g21 rfl (r_V (bnd_lt g3) (bnd_lt g21) _) ?_
                    refine ye_gi pg_85 (S.1 173 (3 * ci.toNatClampNeg + (wh - 6).toNatClampNeg)) rfl rfl rfl (kk1 (k_S (bnd_lt g3) (bnd_lt g21))) ((show lx _ 0 173 _ from l_S (bnd_lt g3) (bnd_lt g21) (by decide)).rd _) ?_
                    cases hE
                    exact xe_end pg_85 rfl
                  · rw [if_neg h20] at hE
                    refine xe_tsd pg_85 119 rfl rfl (sw_out 0 8 (by decide) (by decide) (fun j hj1 hj2 => ?_)) ?_
                    · rcases (by omega : j = 0 ∨ j = 1 ∨ j = 2 ∨ j = 3 ∨ j = 4 ∨ j = 5 ∨ j = 6 ∨ j = 7 ∨ j = 8) with e | e | e | e | e | e | e | e | e <;> subst e <;> assumption
                    refine xe_sn pg_85 1 (fr' := (120, [(3, .ref (ja_C ci.toNatClampNeg)), (0, .ref 0), (1, .int ci), (2, .int wh)], [.ref (ja_C ci.toNatClampNeg)])) rfl ?_
                    refine xe_gr pg_85 (ja_V ci.toNatClampNeg) rfl rfl rfl (kk1 (k_C (bnd_lt g3))) (r_C2 (bnd_lt g3) _) ?_
                    refine xe_sn pg_85 3 (fr' := (127, [(3, .ref (ja_C ci.toNatClampNeg)), (0, .ref 0), (1, .int ci), (2, .int wh)], [.int (wh - 9), .ref (ja_V ci.toNatClampNeg)])) rfl ?_
                    by_cases g22 : bnd (wh - 9) 3
                    case neg => rw [if_neg g22] at hE; cases hE
                    rw [if_pos g22] at hE
                    refine xe_al pg_85 (wh - 9).toNatClampNeg (ja_S ci.toNatClampNeg (wh - 9).toNatClampNeg) rfl (k_V (bnd_lt g3)) ⟨by decide, by decide⟩ g22 rfl (r_V (bnd_lt g3) (bnd_lt g22) _) ?_
                    refine ye_gi pg_85 (S.1 175 (3 * ci.toNatClampNeg + (wh - 9).toNatClampNeg)) rfl rfl rfl (kk1 (k_S (bnd_lt g3) (bnd_lt g22))) ((show lx _ 2 175 _ from l_S (bnd_lt g3) (bnd_lt g22) (by decide)).rd _) ?_
                    cases hE
                    exact xe_end pg_85 rfl

def f_key (S : xSt) (ci : Int32) (hp : Int32) (k : Int32) : Option ((Option Int32 ⊕ Nat) × xSt) := if (ci < 0 ∨ 4 ≤ ci) then (some (.inr 0, S)) else (if bnd ci 4 then (if (hp < 0 ∨ (S.1 168 ci.toNatClampNeg) ≤ hp) then (some (.inr 0, S)) else (if (k < 0 ∨ 4 ≤ k) then (some (.inr 0, S)) else (if bnd hp 3 then (if bnd k 4 then (some (.inl (some (S.1 170 (12 * ci.toNatClampNeg + 4 * hp.toNatClampNeg + k.toNatClampNeg))), S)) else none) else none))) else none)
set_option maxRecDepth 100000 in
theorem c_key (d : Nat) {w : xWd} {S : xSt} {μ : Nat → Nat → Int32} {ρ : Nat → Nat → Int64} {ci : Int32} {hp : Int32} {k : Int32} {o : Option Int32 ⊕ Nat} {T : xSt} (hE : (f_key S ci hp k) = some (o, T)) : xc (d + 8) 86 [.ref 0, .int ci, .int hp, .int k] (hz w S μ ρ) (rsl o, hz (wx o w) T μ ρ) := by
  unfold f_key at hE
  refine xe_sn pg_86 1 (fr' := (1, [(0, .ref 0), (1, .int ci), (2, .int hp), (3, .int k)], [.int ci])) rfl ?_
  by_cases h1 : (ci < 0 ∨ 4 ≤ ci)
  · rw [if_pos h1] at hE
    cases hE
    exact xe_callqx pg_86 92 [.int ci] 0 rfl (fun _ => rfl) (c_checkCircuit_bad _ (i := ci) h1)
  rw [if_neg h1] at hE
  refine xe_callq pg_86 92 [.int ci] (.inl none) (4, [(0, .ref 0), (1, .int ci), (2, .int hp), (3, .int k)], []) rfl (fun _ => rfl) (c_checkCircuit_ok _ (i := ci) h1) ?_
  refine xe_sn pg_86 2 (fr' := (6, [(0, .ref 0), (1, .int ci), (2, .int hp), (3, .int k)], [.ref 0, .int hp])) rfl ?_
  refine xe_gr pg_86 120 rfl rfl rfl (kk1 k_O) rfl ?_
  refine xe_sn pg_86 1 (fr' := (10, [(0, .ref 0), (1, .int ci), (2, .int hp), (3, .int k)], [.int ci, .ref 120, .int hp])) rfl ?_
  by_cases g2 : bnd ci 4
  case neg => rw [if_neg g2] at hE; cases hE
  rw [if_pos g2] at hE
  refine xe_al pg_86 ci.toNatClampNeg (ja_C ci.toNatClampNeg) rfl k_Cs ⟨by decide, by decide⟩ g2 rfl (r_Cs (bnd_lt g2) _) ?_
  refine ye_gi pg_86 (S.1 168 ci.toNatClampNeg) rfl rfl rfl (kk1 (k_C (bnd_lt g2))) ((l_C6 (bnd_lt g2)).rd _) ?_
  by_cases h3 : (hp < 0 ∨ (S.1 168 ci.toNatClampNeg) ≤ hp)
  · rw [if_pos h3] at hE
    cases hE
    exact xe_callqx pg_86 95 [.int hp, .int (S.1 168 ci.toNatClampNeg)] 0 rfl (fun _ => rfl) (c_checkIndex_bad _ (i := hp) (b := (S.1 168 ci.toNatClampNeg)) h3)
  rw [if_neg h3] at hE
  refine xe_callq pg_86 95 [.int hp, .int (S.1 168 ci.toNatClampNeg)] (.inl none) (17, [(0, .ref 0), (1, .int ci), (2, .int hp), (3, .int k)], []) rfl (fun _ => rfl) (c_checkIndex_ok _ (i := hp) (b := (S.1 168 ci.toNatClampNeg)) h3) ?_
  refine xe_sn pg_86 2 (fr' := (19, [(0, .ref 0), (1, .int ci), (2, .int hp), (3, .int k)], [.int 4, .int k])) rfl ?_
  by_cases h4 : (k < 0 ∨ 4 ≤ k)
  · rw [if_pos h4] at hE
    cases hE
    exact xe_callqx pg_86 95 [.int k, .int 4] 0 rfl (fun _ => rfl) (c_checkIndex_bad _ (i := k) (b := 4) h4)
  rw [if_neg h4] at hE
  refine xe_callq pg_86 95 [.int k, .int 4] (.inl none) (22, [(0, .ref 0), (1, .int ci), (2, .int hp), (3, .int k)], []) rfl (fun _ => rfl) (c_checkIndex_ok _ (i := k) (b := 4) h4) ?_
  refine xe_sn pg_86 1 (fr' := (23, [(0, .ref 0), (1, .int ci), (2, .int hp), (3, .int k)], [.ref 0])) rfl ?_
  refine xe_gr pg_86 120 rfl rfl rfl (kk1 k_O) rfl ?_
  refine xe_sn pg_86 1 (fr' := (27, [(0, .ref 0), (1, .int ci), (2, .int hp), (3, .int k)], [.int ci, .ref 120])) rfl ?_
  refine xe_al pg_86 ci.toNatClampNeg (ja_C ci.toNatClampNeg) rfl k_Cs ⟨by decide, by decide⟩ g2 rfl (r_Cs (bnd_lt g2) _) ?_
  refine xe_gr pg_86 (ja_G ci.toNatClampNeg) rfl rfl rfl (kk1 (k_C (bnd_lt g2))) (r_C1 (bnd_lt g2) _) ?_
  refine xe_sn pg_86 1 (fr' := (32, [(0, .ref 0), (1, .int ci), (2, .int hp), (3, .int k)], [.int hp, .ref (ja_G ci.toNatClampNeg)])) rfl ?_
  by_cases g5 : bnd hp 3
  case neg => rw [if_neg g5] at hE; cases hE
  rw [if_pos g5] at hE
  refine xe_al pg_86 hp.toNatClampNeg (ja_J ci.toNatClampNeg hp.toNatClampNeg) rfl (k_G (bnd_lt g2)) ⟨by decide, by decide⟩ g5 rfl (r_G (bnd_lt g2) (bnd_lt g5) _) ?_
  refine xe_sn pg_86 1 (fr' := (34, [(0, .ref 0), (1, .int ci), (2, .int hp), (3, .int k)], [.int k, .ref (ja_J ci.toNatClampNeg hp.toNatClampNeg)])) rfl ?_
  by_cases g6 : bnd k 4
  case neg => rw [if_neg g6] at hE; cases hE
  rw [if_pos g6] at hE
  refine ye_il pg_86 k.toNatClampNeg (S.1 170 (12 * ci.toNatClampNeg + 4 * hp.toNatClampNeg + k.toNatClampNeg)) rfl (k_J (bnd_lt g2) (bnd_lt g5)) g6 rfl ((l_J (bnd_lt g2) (bnd_lt g5) (k := k.toNatClampNeg) (bnd_lt g6)).rd _) ?_
  cases hE
  exact xe_end pg_86 rfl

def f_relay (S : xSt) (rl : Int32) (ci : Int32) (wh : Int32) : Option ((Option Int32 ⊕ Nat) × xSt) := if (rl < 1 ∨ 4 < rl) then (some (.inr 0, S)) else (if (ci < 0 ∨ 4 ≤ ci) then (some (.inr 0, S)) else (if (wh < 0 ∨ 11 ≤ wh) then (some (.inr 0, S)) else (if bnd (rl - 1) 4 then (if bnd ci 4 then (if wh = 0 then (some (.inl (some (if (S.1 180 (4 * (rl - 1).toNatClampNeg + ci.toNatClampNeg)) = 0 then (0 : Int32) else 1)), S)) else (if wh = 1 then (some (.inl (some (S.1 181 (4 * (rl - 1).toNatClampNeg + ci.toNatClampNeg))), S)) else (if wh = 2 then (some (.inl (some (S.1 182 (4 * (rl - 1).toNatClampNeg + ci.toNatClampNeg))), S)) else (if wh = 3 then (some (.inl (some (S.1 183 (4 * (rl - 1).toNatClampNeg + ci.toNatClampNeg))), S)) else (if wh = 4 then (if bnd (wh - 4) 3 then (some (.inl (some (if (S.1 185 (3 * (4 * (rl - 1).toNatClampNeg + ci.toNatClampNeg) + (wh - 4).toNatClampNeg)) = 0 then (0 : Int32) else 1)), S)) else none) else (if wh = 5 then (if bnd (wh - 4) 3 then (some (.inl (some (if (S.1 185 (3 * (4 * (rl - 1).toNatClampNeg + ci.toNatClampNeg) + (wh - 4).toNatClampNeg)) = 0 then (0 : Int32) else 1)), S)) else none) else (if wh = 6 then (if bnd (wh - 4) 3 then (some (.inl (some (if (S.1 185 (3 * (4 * (rl - 1).toNatClampNeg + ci.toNatClampNeg) + (wh - 4).toNatClampNeg)) = 0 then (0 : Int32) else 1)), S)) else none) else (if bnd (wh - 7) 4 then (some (.inl (some (S.1 184 (4 * (4 * (rl - 1).toNatClampNeg + ci.toNatClampNeg) + (wh - 7).toNatClampNeg))), S)) else none)))))))) else none) else none)))
set_option maxRecDepth 100000 in
theorem c_relay (d : Nat) {w : xWd} {S : xSt} {μ : Nat → Nat → Int32} {ρ : Nat → Nat → Int64} {rl : Int32} {ci : Int32} {wh : Int32} {o : Option Int32 ⊕ Nat} {T : xSt} (hE : (f_relay S rl ci wh) = some (o, T)) : xc (d + 8) 87 [.ref 0, .int rl, .int ci, .int wh] (hz w S μ ρ) (rsl o, hz (wx o w) T μ ρ) := by
  unfold f_relay at hE
  refine xe_sn pg_87 1 (fr' := (1, [(0, .ref 0), (1, .int rl), (2, .int ci), (3, .int wh)], [.int rl])) rfl ?_
  by_cases h1 : (rl < 1 ∨ 4 < rl)
  · rw [if_pos h1] at hE
    cases hE
    exact xe_callqx pg_87 93 [.int rl] 0 rfl (fun _ => rfl) (c_checkRelay_bad _ (i := rl) h1)
  rw [if_neg h1] at hE
  refine xe_callq pg_87 93 [.int rl] (.inl none) (4, [(0, .ref 0), (1, .int rl), (2, .int ci), (3, .int wh)], []) rfl (fun _ => rfl) (c_checkRelay_ok _ (i := rl) h1) ?_
  refine xe_sn pg_87 1 (fr' := (5, [(0, .ref 0), (1, .int rl), (2, .int ci), (3, .int wh)], [.int ci])) rfl ?_
  by_cases h2 : (ci < 0 ∨ 4 ≤ ci)
  · rw [if_pos h2] at hE
    cases hE
    exact xe_callqx pg_87 92 [.int ci] 0 rfl (fun _ => rfl) (c_checkCircuit_bad _ (i := ci) h2)
  rw [if_neg h2] at hE
  refine xe_callq pg_87 92 [.int ci] (.inl none) (8, [(0, .ref 0), (1, .int rl), (2, .int ci), (3, .int wh)], []) rfl (fun _ => rfl) (c_checkCircuit_ok _ (i := ci) h2) ?_
  refine xe_sn pg_87 2 (fr' := (11, [(0, .ref 0), (1, .int rl), (2, .int ci), (3, .int wh)], [.int 11, .int wh])) rfl ?_
  by_cases h3 : (wh < 0 ∨ 11 ≤ wh)
  · rw [if_pos h3] at hE
    cases hE
    exact xe_callqx pg_87 95 [.int wh, .int 11] 0 rfl (fun _ => rfl) (c_checkIndex_bad _ (i := wh) (b := 11) h3)
  rw [if_neg h3] at hE
  refine xe_callq pg_87 95 [.int wh, .int 11] (.inl none) (14, [(0, .ref 0), (1, .int rl), (2, .int ci), (3, .int wh)], []) rfl (fun _ => rfl) (c_checkIndex_ok _ (i := wh) (b := 11) h3) ?_
  refine xe_sn pg_87 1 (fr' := (15, [(0, .ref 0), (1, .int rl), (2, .int ci), (3, .int wh)], [.ref 0])) rfl ?_
  refine xe_gr pg_87 47 rfl rfl rfl (kk1 k_O) rfl ?_
  refine xe_sn pg_87 3 (fr' := (21, [(0, .ref 0), (1, .int rl), (2, .int ci), (3, .int wh)], [.int (rl - 1), .ref 47])) rfl ?_
  by_cases g4 : bnd (rl - 1) 4
  case neg => rw [if_neg g4] at hE; cases hE
  rw [if_pos g4] at hE
  refine xe_al pg_87 (rl - 1).toNatClampNeg (ja_R (rl - 1).toNatClampNeg) rfl k_Rs ⟨by decide, by decide⟩ g4 rfl (r_Rs (bnd_lt g4) _) ?_
  refine xe_gr pg_87 (ja_Q (rl - 1).toNatClampNeg) rfl rfl rfl (kk1 (k_R (bnd_lt g4))) (r_R0 (bnd_lt g4) _) ?_
  refine xe_sn pg_87 1 (fr' := (26, [(0, .ref 0), (1, .int rl), (2, .int ci), (3, .int wh)], [.int ci, .ref (ja_Q (rl - 1).toNatClampNeg)])) rfl ?_
  by_cases g5 : bnd ci 4
  case neg => rw [if_neg g5] at hE; cases hE
  rw [if_pos g5] at hE
  refine xe_al pg_87 ci.toNatClampNeg (ja_P (rl - 1).toNatClampNeg ci.toNatClampNeg) rfl (k_Q (bnd_lt g4)) ⟨by decide, by decide⟩ g5 rfl (r_Q (bnd_lt g4) (bnd_lt g5) _) ?_
  refine xe_sn pg_87 2 (fr' := (30, [(4, .ref (ja_P (rl - 1).toNatClampNeg ci.toNatClampNeg)), (0, .ref 0), (1, .int rl), (2, .int ci), (3, .int wh)], [.int wh])) rfl ?_
  by_cases h6 : wh = 0
  · rw [if_pos h6] at hE
    refine xe_sw pg_87 72 h6 rfl ?_
    refine xe_sn pg_87 1 (fr' := (74, [(4, .ref (ja_P (rl - 1).toNatClampNeg ci.toNatClampNeg)), (0, .ref 0), (1, .int rl), (2, .int ci), (3, .int wh)], [.ref (ja_P (rl - 1).toNatClampNeg ci.toNatClampNeg)])) rfl ?_
    refine ye_gi pg_87 (S.1 180 (4 * (rl - 1).toNatClampNeg + ci.toNatClampNeg)) rfl rfl rfl (kk1 (k_P (bnd_lt g4) (bnd_lt g5))) ((show lx _ 2 180 _ from l_P (bnd_lt g4) (bnd_lt g5) (by decide) (by decide)).rd _) ?_
    refine xe_jn (fr' := (85, [(4, .ref (ja_P (rl - 1).toNatClampNeg ci.toNatClampNeg)), (0, .ref 0), (1, .int rl), (2, .int ci), (3, .int wh)], [.int (if (S.1 180 (4 * (rl - 1).toNatClampNeg + ci.toNatClampNeg)) = 0 then (0 : Int32) else 1)])) (fun J7 => ?_) ?_
    · by_cases h7 : (S.1 180 (4 * (rl - 1).toNatClampNeg + ci.toNatClampNeg)) = 0
      · rw [show (if (S.1 180 (4 * (rl - 1).toNatClampNeg + ci.toNatClampNeg)) = 0 then (0 : Int32) else 1) = 0 from if_pos h7] at J7
        refine xe_c1t pg_87 84 rfl rfl h7 ?_
        refine xe_sn pg_87 1 (fr' := (85, [(4, .ref (ja_P (rl - 1).toNatClampNeg ci.toNatClampNeg)), (0, .ref 0), (1, .int rl), (2, .int ci), (3, .int wh)], [.int 0])) rfl ?_
        exact J7
      · rw [show (if (S.1 180 (4 * (rl - 1).toNatClampNeg + ci.toNatClampNeg)) = 0 then (0 : Int32) else 1) = 1 from if_neg h7] at J7
        refine xe_c1f pg_87 84 rfl rfl h7 ?_
        refine xe_sn pg_87 2 (fr' := (85, [(4, .ref (ja_P (rl - 1).toNatClampNeg ci.toNatClampNeg)), (0, .ref 0), (1, .int rl), (2, .int ci), (3, .int wh)], [.int 1])) rfl ?_
        exact J7
    cases hE
    exact xe_end pg_87 rfl
  · rw [if_neg h6] at hE
    by_cases h8 : wh = 1
    · rw [if_pos h8] at hE
      refine xe_sw pg_87 86 h8 rfl ?_
      refine xe_sn pg_87 1 (fr' := (88, [(4, .ref (ja_P (rl - 1).toNatClampNeg ci.toNatClampNeg)), (0, .ref 0), (1, .int rl), (2, .int ci), (3, .int wh)], [.ref (ja_P (rl - 1).toNatClampNeg ci.toNatClampNeg)])) rfl ?_
      refine ye_gi pg_87 (S.1 181 (4 * (rl - 1).toNatClampNeg + ci.toNatClampNeg)) rfl rfl rfl (kk1 (k_P (bnd_lt g4) (bnd_lt g5))) ((show lx _ 3 181 _ from l_P (bnd_lt g4) (bnd_lt g5) (by decide) (by decide)).rd _) ?_
      cases hE
      exact xe_end pg_87 rfl
    · rw [if_neg h8] at hE
      by_cases h9 : wh = 2
      · rw [if_pos h9] at hE
        refine xe_sw pg_87 92 h9 rfl ?_
        refine xe_sn pg_87 1 (fr' := (94, [(4, .ref (ja_P (rl - 1).toNatClampNeg ci.toNatClampNeg)), (0, .ref 0), (1, .int rl), (2, .int ci), (3, .int wh)], [.ref (ja_P (rl - 1).toNatClampNeg ci.toNatClampNeg)])) rfl ?_
        refine ye_gi pg_87 (S.1 182 (4 * (rl - 1).toNatClampNeg + ci.toNatClampNeg)) rfl rfl rfl (kk1 (k_P (bnd_lt g4) (bnd_lt g5))) ((show lx _ 4 182 _ from l_P (bnd_lt g4) (bnd_lt g5) (by decide) (by decide)).rd _) ?_
        cases hE
        exact xe_end pg_87 rfl
      · rw [if_neg h9] at hE
        by_cases h10 : wh = 3
        · rw [if_pos h10] at hE
          refine xe_sw pg_87 98 h10 rfl ?_
          refine xe_sn pg_87 1 (fr' := (100, [(4, .ref (ja_P (rl - 1).toNatClampNeg ci.toNatClampNeg)), (0, .ref 0), (1, .int rl), (2, .int ci), (3, .int wh)], [.ref (ja_P (rl - 1).toNatClampNeg ci.toNatClampNeg)])) rfl ?_
          refine ye_gi pg_87 (S.1 183 (4 * (rl - 1).toNatClampNeg + ci.toNatClampNeg)) rfl rfl rfl (kk1 (k_P (bnd_lt g4) (bnd_lt g5))) ((show lx _ 5 183 _ from l_P (bnd_lt g4) (bnd_lt g5) (by decide) (by decide)).rd _) ?_
          cases hE
          exact xe_end pg_87 rfl
        · rw [if_neg h10] at hE
          by_cases h11 : wh = 4
          · rw [if_pos h11] at hE
            refine xe_sw pg_87 104 h11 rfl ?_
            refine xe_sn pg_87 1 (fr' := (106, [(4, .ref (ja_P (rl - 1).toNatClampNeg ci.toNatClampNeg)), (0, .ref 0), (1, .int rl), (2, .int ci), (3, .int wh)], [.ref (ja_P (rl - 1).toNatClampNeg ci.toNatClampNeg)])) rfl ?_
            refine xe_gr pg_87 (ja_O (rl - 1).toNatClampNeg ci.toNatClampNeg) rfl rfl rfl (kk1 (k_P (bnd_lt g4) (bnd_lt g5))) (r_P1 (bnd_lt g4) (bnd_lt g5) _) ?_
            refine xe_sn pg_87 3 (fr' := (112, [(4, .ref (ja_P (rl - 1).toNatClampNeg ci.toNatClampNeg)), (0, .ref 0), (1, .int rl), (2, .int ci), (3, .int wh)], [.int (wh - 4), .ref (ja_O (rl - 1).toNatClampNeg ci.toNatClampNeg)])) rfl ?_
            by_cases g12 : bnd (wh - 4) 3
            case neg => rw [if_neg g12] at hE; cases hE
            rw [if_pos g12] at hE
            refine ye_bl pg_87 (wh - 4).toNatClampNeg (S.1 185 (3 * (4 * (rl - 1).toNatClampNeg + ci.toNatClampNeg) + (wh - 4).toNatClampNeg)) rfl (k_Op (bnd_lt g4) (bnd_lt g5)) g12 rfl ((l_O (bnd_lt g4) (bnd_lt g5) (k := (wh - 4).toNatClampNeg) (bnd_lt g12)).rd _) ?_
            refine xe_jn (fr' := (121, [(4, .ref (ja_P (rl - 1).toNatClampNeg ci.toNatClampNeg)), (0, .ref 0), (1, .int rl), (2, .int ci), (3, .int wh)], [.int (if (S.1 185 (3 * (4 * (rl - 1).toNatClampNeg + ci.toNatClampNeg) + (wh - 4).toNatClampNeg)) = 0 then (0 : Int32) else 1)])) (fun J13 => ?_) ?_
            · by_cases h13 : (S.1 185 (3 * (4 * (rl - 1).toNatClampNeg + ci.toNatClampNeg) + (wh - 4).toNatClampNeg)) = 0
              · rw [show (if (S.1 185 (3 * (4 * (rl - 1).toNatClampNeg + ci.toNatClampNeg) + (wh - 4).toNatClampNeg)) = 0 then (0 : Int32) else 1) = 0 from if_pos h13] at J13
                refine xe_c1t pg_87 120 rfl rfl h13 ?_
                refine xe_sn pg_87 1 (fr' := (121, [(4, .ref (ja_P (rl - 1).toNatClampNeg ci.toNatClampNeg)), (0, .ref 0), (1, .int rl), (2, .int ci), (3, .int wh)], [.int 0])) rfl ?_
                exact J13
              · rw [show (if (S.1 185 (3 * (4 * (rl - 1).toNatClampNeg + ci.toNatClampNeg) + (wh - 4).toNatClampNeg)) = 0 then (0 : Int32) else 1) = 1 from if_neg h13] at J13
                refine xe_c1f pg_87 120 rfl rfl h13 ?_
                refine xe_sn pg_87 2 (fr' := (121, [(4, .ref (ja_P (rl - 1).toNatClampNeg ci.toNatClampNeg)), (0, .ref 0), (1, .int rl), (2, .int ci), (3, .int wh)], [.int 1])) rfl ?_
                exact J13
            cases hE
            exact xe_end pg_87 rfl
          · rw [if_neg h11] at hE
            by_cases h14 : wh = 5
            · rw [if_pos h14] at hE
              refine xe_sw pg_87 104 h14 rfl ?_
              refine xe_sn pg_87 1 (fr' := (106, [(4, .ref (ja_P (rl - 1).toNatClampNeg ci.toNatClampNeg)), (0, .ref 0), (1, .int rl), (2, .int ci), (3, .int wh)], [.ref (ja_P (rl - 1).toNatClampNeg ci.toNatClampNeg)])) rfl ?_
              refine xe_gr pg_87 (ja_O (rl - 1).toNatClampNeg ci.toNatClampNeg) rfl rfl rfl (kk1 (k_P (bnd_lt g4) (bnd_lt g5))) (r_P1 (bnd_lt g4) (bnd_lt g5) _) ?_
              refine xe_sn pg_87 3 (fr' := (112, [(4, .ref (ja_P (rl - 1).toNatClampNeg ci.toNatClampNeg)), (0, .ref 0), (1, .int rl), (2, .int ci), (3, .int wh)], [.int (wh - 4), .ref (ja_O (rl - 1).toNatClampNeg ci.toNatClampNeg)])) rfl ?_
              by_cases g15 : bnd (wh - 4) 3
              case neg => rw [if_neg g15] at hE; cases hE
              rw [if_pos g15] at hE
              refine ye_bl pg_87 (wh - 4).toNatClampNeg (S.1 185 (3 * (4 * (rl - 1).toNatClampNeg + ci.toNatClampNeg) + (wh - 4).toNatClampNeg)) rfl (k_Op (bnd_lt g4) (bnd_lt g5)) g15 rfl ((l_O (bnd_lt g4) (bnd_lt g5) (k := (wh - 4).toNatClampNeg) (bnd_lt g15)).rd _) ?_
              refine xe_jn (fr' := (121, [(4, .ref (ja_P (rl - 1).toNatClampNeg ci.toNatClampNeg)), (0, .ref 0), (1, .int rl), (2, .int ci), (3, .int wh)], [.int (if (S.1 185 (3 * (4 * (rl - 1).toNatClampNeg + ci.toNatClampNeg) + (wh - 4).toNatClampNeg)) = 0 then (0 : Int32) else 1)])) (fun J16 => ?_) ?_
              · by_cases h16 : (S.1 185 (3 * (4 * (rl - 1).toNatClampNeg + ci.toNatClampNeg) + (wh - 4).toNatClampNeg)) = 0
                · rw [show (if (S.1 185 (3 * (4 * (rl - 1).toNatClampNeg + ci.toNatClampNeg) + (wh - 4).toNatClampNeg)) = 0 then (0 : Int32) else 1) = 0 from if_pos h16] at J16
                  refine xe_c1t pg_87 120 rfl rfl h16 ?_
                  refine xe_sn pg_87 1 (fr' := (121, [(4, .ref (ja_P (rl - 1).toNatClampNeg ci.toNatClampNeg)), (0, .ref 0), (1, .int rl), (2, .int ci), (3, .int wh)], [.int 0])) rfl ?_
                  exact J16
                · rw [show (if (S.1 185 (3 * (4 * (rl - 1).toNatClampNeg + ci.toNatClampNeg) + (wh - 4).toNatClampNeg)) = 0 then (0 : Int32) else 1) = 1 from if_neg h16] at J16
                  refine xe_c1f pg_87 120 rfl rfl h16 ?_
                  refine xe_sn pg_87 2 (fr' := (121, [(4, .ref (ja_P (rl - 1).toNatClampNeg ci.toNatClampNeg)), (0, .ref 0), (1, .int rl), (2, .int ci), (3, .int wh)], [.int 1])) rfl ?_
                  exact J16
              cases hE
              exact xe_end pg_87 rfl
            · rw [if_neg h14] at hE
              by_cases h17 : wh = 6
              · rw [if_pos h17] at hE
                refine xe_sw pg_87 104 h17 rfl ?_
                refine xe_sn pg_87 1 (fr' := (106, [(4, .ref (ja_P (rl - 1).toNatClampNeg ci.toNatClampNeg)), (0, .ref 0), (1, .int rl), (2, .int ci), (3, .int wh)], [.ref (ja_P (rl - 1).toNatClampNeg ci.toNatClampNeg)])) rfl ?_
                refine xe_gr pg_87 (ja_O (rl - 1).toNatClampNeg ci.toNatClampNeg) rfl rfl rfl (kk1 (k_P (bnd_lt g4) (bnd_lt g5))) (r_P1 (bnd_lt g4) (bnd_lt g5) _) ?_
                refine xe_sn pg_87 3 (fr' := (112, [(4, .ref (ja_P (rl - 1).toNatClampNeg ci.toNatClampNeg)), (0, .ref 0), (1, .int rl), (2, .int ci), (3, .int wh)], [.int (wh - 4), .ref (ja_O (rl - 1).toNatClampNeg ci.toNatClampNeg)])) rfl ?_
                by_cases g18 : bnd (wh - 4) 3
                case neg => rw [if_neg g18] at hE; cases hE
                rw [if_pos g18] at hE
                refine ye_bl pg_87 (wh - 4).toNatClampNeg (S.1 185 (3 * (4 * (rl - 1).toNatClampNeg + ci.toNatClampNeg) + (wh - 4).toNatClampNeg)) rfl (k_Op (bnd_lt g4) (bnd_lt g5)) g18 rfl ((l_O (bnd_lt g4) (bnd_lt g5) (k := (wh - 4).toNatClampNeg) (bnd_lt g18)).rd _) ?_
                refine xe_jn (fr' := (121, [(4, .ref (ja_P (rl - 1).toNatClampNeg ci.toNatClampNeg)), (0, .ref 0), (1, .int rl), (2, .int ci), (3, .int wh)], [.int (if (S.1 185 (3 * (4 * (rl - 1).toNatClampNeg + ci.toNatClampNeg) + (wh - 4).toNatClampNeg)) = 0 then (0 : Int32) else 1)])) (fun J19 => ?_) ?_
                · by_cases h19 : (S.1 185 (3 * (4 * (rl - 1).toNatClampNeg + ci.toNatClampNeg) + (wh - 4).toNatClampNeg)) = 0
                  · rw [show (if (S.1 185 (3 * (4 * (rl - 1).toNatClampNeg + ci.toNatClampNeg) + (wh - 4).toNatClampNeg)) = 0 then (0 : Int32) else 1) = 0 from if_pos h19] at J19
                    refine xe_c1t pg_87 120 rfl rfl h19 ?_
                    refine xe_sn pg_87 1 (fr' := (121, [(4, .ref (ja_P (rl - 1).toNatClampNeg ci.toNatClampNeg)), (0, .ref 0), (1, .int rl), (2, .int ci), (3, .int wh)], [.int 0])) rfl ?_
                    exact J19
                  · rw [show (if (S.1 185 (3 * (4 * (rl - 1).toNatClampNeg + ci.toNatClampNeg) + (wh - 4).toNatClampNeg)) = 0 then (0 : Int32) else 1) = 1 from if_neg h19] at J19
                    refine xe_c1f pg_87 120 rfl rfl h19 ?_
                    refine xe_sn pg_87 2 (fr' := (121, [(4, .ref (ja_P (rl - 1).toNatClampNeg ci.toNatClampNeg)), (0, .ref 0), (1, .int rl), (2, .int ci), (3, .int wh)], [.int 1])) rfl ?_
                    exact J19
                cases hE
                exact xe_end pg_87 rfl
              · rw [if_neg h17] at hE
                refine xe_tsd pg_87 122 rfl rfl (sw_out 0 6 (by decide) (by decide) (fun j hj1 hj2 => ?_)) ?_
                · rcases (by omega : j = 0 ∨ j = 1 ∨ j = 2 ∨ j = 3 ∨ j = 4 ∨ j = 5 ∨ j = 6) with e | e | e | e | e | e | e <;> subst e <;> assumption
                refine xe_sn pg_87 1 (fr' := (124, [(4, .ref (ja_P (rl - 1).toNatClampNeg ci.toNatClampNeg)), (0, .ref 0), (1, .int rl), (2, .int ci), (3, .int wh)], [.ref (ja_P (rl - 1).toNatClampNeg ci.toNatClampNeg)])) rfl ?_
                refine xe_gr pg_87 (ja_K (rl - 1).toNatClampNeg ci.toNatClampNeg) rfl rfl rfl (kk1 (k_P (bnd_lt g4) (bnd_lt g5))) (r_P0 (bnd_lt g4) (bnd_lt g5) _) ?_
                refine xe_sn pg_87 3 (fr' := (131, [(4, .ref (ja_P (rl - 1).toNatClampNeg ci.toNatClampNeg)), (0, .ref 0), (1, .int rl), (2, .int ci), (3, .int wh)], [.int (wh - 7), .ref (ja_K (rl - 1).toNatClampNeg ci.toNatClampNeg)])) rfl ?_
                by_cases g20 : bnd (wh - 7) 4
                case neg => rw [if_neg g20] at hE; cases hE
                rw [if_pos g20] at hE
                refine ye_il pg_87 (wh - 7).toNatClampNeg (S.1 184 (4 * (4 * (rl - 1).toNatClampNeg + ci.toNatClampNeg) + (wh - 7).toNatClampNeg)) rfl (k_K (bnd_lt g4) (bnd_lt g5)) g20 rfl ((l_K (bnd_lt g4) (bnd_lt g5) (k := (wh - 7).toNatClampNeg) (bnd_lt g20)).rd _) ?_
                cases hE
                exact xe_end pg_87 rfl

def f_data (S : xSt) (ci : Int32) (i : Int32) : Option ((Option Int32 ⊕ Nat) × xSt) := if (ci < 0 ∨ 4 ≤ ci) then (some (.inr 0, S)) else (if bnd ci 4 then (if i < 0 then (some (.inl (some (-1)), S)) else (if (S.1 176 ci.toNatClampNeg) ≤ i then (some (.inl (some (-1)), S)) else (if bnd i 7 then (some (.inl (some (S.1 177 (7 * ci.toNatClampNeg + i.toNatClampNeg))), S)) else none))) else none)
set_option maxRecDepth 100000 in
theorem c_data (d : Nat) {w : xWd} {S : xSt} {μ : Nat → Nat → Int32} {ρ : Nat → Nat → Int64} {ci : Int32} {i : Int32} {o : Option Int32 ⊕ Nat} {T : xSt} (hE : (f_data S ci i) = some (o, T)) : xc (d + 8) 88 [.ref 0, .int ci, .int i] (hz w S μ ρ) (rsl o, hz (wx o w) T μ ρ) := by
  unfold f_data at hE
  refine xe_sn pg_88 1 (fr' := (1, [(0, .ref 0), (1, .int ci), (2, .int i)], [.int ci])) rfl ?_
  by_cases h1 : (ci < 0 ∨ 4 ≤ ci)
  · rw [if_pos h1] at hE
    cases hE
    exact xe_callqx pg_88 92 [.int ci] 0 rfl (fun _ => rfl) (c_checkCircuit_bad _ (i := ci) h1)
  rw [if_neg h1] at hE
  refine xe_callq pg_88 92 [.int ci] (.inl none) (4, [(0, .ref 0), (1, .int ci), (2, .int i)], []) rfl (fun _ => rfl) (c_checkCircuit_ok _ (i := ci) h1) ?_
  refine xe_sn pg_88 1 (fr' := (5, [(0, .ref 0), (1, .int ci), (2, .int i)], [.ref 0])) rfl ?_
  refine xe_gr pg_88 120 rfl rfl rfl (kk1 k_O) rfl ?_
  refine xe_sn pg_88 1 (fr' := (9, [(0, .ref 0), (1, .int ci), (2, .int i)], [.int ci, .ref 120])) rfl ?_
  by_cases g2 : bnd ci 4
  case neg => rw [if_neg g2] at hE; cases hE
  rw [if_pos g2] at hE
  refine xe_al pg_88 ci.toNatClampNeg (ja_C ci.toNatClampNeg) rfl k_Cs ⟨by decide, by decide⟩ g2 rfl (r_Cs (bnd_lt g2) _) ?_
  refine xe_sn pg_88 2 (fr' := (12, [(3, .ref (ja_C ci.toNatClampNeg)), (0, .ref 0), (1, .int ci), (2, .int i)], [.int i])) rfl ?_
  by_cases h3 : i < 0
  · rw [if_pos h3] at hE
    refine xe_c1t pg_88 32 rfl rfl h3 ?_
    refine xe_sn pg_88 1 (fr' := (33, [(3, .ref (ja_C ci.toNatClampNeg)), (0, .ref 0), (1, .int ci), (2, .int i)], [.int (-1)])) rfl ?_
    cases hE
    exact xe_end pg_88 rfl
  · rw [if_neg h3] at hE
    refine xe_c1f pg_88 32 rfl rfl h3 ?_
    refine xe_sn pg_88 2 (fr' := (17, [(3, .ref (ja_C ci.toNatClampNeg)), (0, .ref 0), (1, .int ci), (2, .int i)], [.ref (ja_C ci.toNatClampNeg), .int i])) rfl ?_
    refine ye_gi pg_88 (S.1 176 ci.toNatClampNeg) rfl rfl rfl (kk1 (k_C (bnd_lt g2))) ((l_C4 (bnd_lt g2)).rd _) ?_
    by_cases h4 : (S.1 176 ci.toNatClampNeg) ≤ i
    · rw [if_pos h4] at hE
      refine xe_c2t pg_88 32 rfl rfl h4 ?_
      refine xe_sn pg_88 1 (fr' := (33, [(3, .ref (ja_C ci.toNatClampNeg)), (0, .ref 0), (1, .int ci), (2, .int i)], [.int (-1)])) rfl ?_
      cases hE
      exact xe_end pg_88 rfl
    · rw [if_neg h4] at hE
      refine xe_c2f pg_88 32 rfl rfl h4 ?_
      refine xe_sn pg_88 1 (fr' := (24, [(3, .ref (ja_C ci.toNatClampNeg)), (0, .ref 0), (1, .int ci), (2, .int i)], [.ref (ja_C ci.toNatClampNeg)])) rfl ?_
      refine xe_gr pg_88 (ja_D ci.toNatClampNeg) rfl rfl rfl (kk1 (k_C (bnd_lt g2))) (r_C3 (bnd_lt g2) _) ?_
      refine xe_sn pg_88 1 (fr' := (28, [(3, .ref (ja_C ci.toNatClampNeg)), (0, .ref 0), (1, .int ci), (2, .int i)], [.int i, .ref (ja_D ci.toNatClampNeg)])) rfl ?_
      by_cases g5 : bnd i 7
      case neg => rw [if_neg g5] at hE; cases hE
      rw [if_pos g5] at hE
      refine ye_il pg_88 i.toNatClampNeg (S.1 177 (7 * ci.toNatClampNeg + i.toNatClampNeg)) rfl (k_D (bnd_lt g2)) g5 rfl ((l_D (bnd_lt g2) (k := i.toNatClampNeg) (bnd_lt g5)).rd _) ?_
      refine xe_sn pg_88 1 (fr' := (33, [(3, .ref (ja_C ci.toNatClampNeg)), (0, .ref 0), (1, .int ci), (2, .int i)], [.int (S.1 177 (7 * ci.toNatClampNeg + i.toNatClampNeg))])) rfl ?_
      cases hE
      exact xe_end pg_88 rfl

def f_count (S : xSt) (wh : Int32) : Option ((Option Int32 ⊕ Nat) × xSt) := if (wh < 0 ∨ 5 ≤ wh) then (some (.inr 0, S)) else (if wh = 0 then (some (.inl (some (S.1 165 1)), S)) else (if wh = 1 then (some (.inl (some (S.1 165 3)), S)) else (if wh = 2 then (some (.inl (some (S.1 165 4)), S)) else (if wh = 3 then (some (.inl (some (S.1 165 5)), S)) else ((some (f_readyCircuits S)).bind fun r1 => some (.inl (some r1), S))))))
set_option maxRecDepth 100000 in
theorem c_count (d : Nat) {w : xWd} {S : xSt} {μ : Nat → Nat → Int32} {ρ : Nat → Nat → Int64} {wh : Int32} {o : Option Int32 ⊕ Nat} {T : xSt} (hE : (f_count S wh) = some (o, T)) : xc (d + 7) 89 [.ref 0, .int wh] (hz w S μ ρ) (rsl o, hz (wx o w) T μ ρ) := by
  unfold f_count at hE
  refine xe_sn pg_89 2 (fr' := (2, [(0, .ref 0), (1, .int wh)], [.int 5, .int wh])) rfl ?_
  by_cases h1 : (wh < 0 ∨ 5 ≤ wh)
  · rw [if_pos h1] at hE
    cases hE
    exact xe_callqx pg_89 95 [.int wh, .int 5] 0 rfl (fun _ => rfl) (c_checkIndex_bad _ (i := wh) (b := 5) h1)
  rw [if_neg h1] at hE
  refine xe_callq pg_89 95 [.int wh, .int 5] (.inl none) (5, [(0, .ref 0), (1, .int wh)], []) rfl (fun _ => rfl) (c_checkIndex_ok _ (i := wh) (b := 5) h1) ?_
  refine xe_sn pg_89 1 (fr' := (6, [(0, .ref 0), (1, .int wh)], [.int wh])) rfl ?_
  by_cases h2 : wh = 0
  · rw [if_pos h2] at hE
    refine xe_sw pg_89 36 h2 rfl ?_
    refine xe_sn pg_89 1 (fr' := (37, [(0, .ref 0), (1, .int wh)], [.ref 0])) rfl ?_
    refine xe_gr pg_89 1 rfl rfl rfl (kk1 k_O) rfl ?_
    refine ye_gi pg_89 (S.1 165 1) rfl rfl rfl (kk1 k_W) (l_size.rd _) ?_
    cases hE
    exact xe_end pg_89 rfl
  · rw [if_neg h2] at hE
    by_cases h3 : wh = 1
    · rw [if_pos h3] at hE
      refine xe_sw pg_89 44 h3 rfl ?_
      refine xe_sn pg_89 1 (fr' := (45, [(0, .ref 0), (1, .int wh)], [.ref 0])) rfl ?_
      refine ye_gi pg_89 (S.1 165 3) rfl rfl rfl (kk1 k_O) (l_came.rd _) ?_
      cases hE
      exact xe_end pg_89 rfl
    · rw [if_neg h3] at hE
      by_cases h4 : wh = 2
      · rw [if_pos h4] at hE
        refine xe_sw pg_89 49 h4 rfl ?_
        refine xe_sn pg_89 1 (fr' := (50, [(0, .ref 0), (1, .int wh)], [.ref 0])) rfl ?_
        refine xe_gr pg_89 1 rfl rfl rfl (kk1 k_O) rfl ?_
        refine ye_gi pg_89 (S.1 165 4) rfl rfl rfl (kk1 k_W) (l_lost.rd _) ?_
        cases hE
        exact xe_end pg_89 rfl
      · rw [if_neg h4] at hE
        by_cases h5 : wh = 3
        · rw [if_pos h5] at hE
          refine xe_sw pg_89 57 h5 rfl ?_
          refine xe_sn pg_89 1 (fr' := (58, [(0, .ref 0), (1, .int wh)], [.ref 0])) rfl ?_
          refine ye_gi pg_89 (S.1 165 5) rfl rfl rfl (kk1 k_O) (l_strays.rd _) ?_
          cases hE
          exact xe_end pg_89 rfl
        · rw [if_neg h5] at hE
          refine xe_tsd pg_89 62 rfl rfl (sw_out 0 3 (by decide) (by decide) (fun j hj1 hj2 => ?_)) ?_
          · rcases (by omega : j = 0 ∨ j = 1 ∨ j = 2 ∨ j = 3) with e | e | e | e <;> subst e <;> assumption
          refine xe_sn pg_89 1 (fr' := (63, [(0, .ref 0), (1, .int wh)], [.ref 0])) rfl ?_
          obtain ⟨r1, e1, hE⟩ := Option.bind_eq_some_iff.mp hE
          refine xe_cv pg_89 91 pg_91 [] [] (some (.int r1)) rfl rfl rfl rfl ⟨Nat.le_of_ble_eq_true rfl, Nat.le_of_ble_eq_true rfl, Nat.le_of_ble_eq_true rfl⟩ ⟨rfl, rfl⟩ (kk2 k_O (by decide)) (c_readyCircuits _  (Option.some.inj e1)) ?_
          cases hE
          exact xe_end pg_89 rfl

