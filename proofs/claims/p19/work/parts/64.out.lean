/-! cells taken out of the row -/
def sq (S : xSt) (j κ : Nat) : xSt := (S.1, S.2.1, fun z => if z = j then κ else S.2.2 z)
theorem RP_q {q : Nat → Nat} {j κ : Nat} (hj : j < 20) : xi_u2 (xi_RP q) 2 j (some κ) = xi_RP (fun z => if z = j then κ else q z) := by
  funext a k
  rw [u2_at]
  unfold xi_RP
  dsimp only
  by_cases h : a = 2 ∧ k = j
  · rw [if_pos h, if_pos ⟨h.1, by omega⟩, if_pos h.2]
  · rw [if_neg h]
    by_cases h2 : a = 2 ∧ k < 20
    · rw [if_pos h2, if_pos h2, if_neg (fun z => h ⟨h2.1, z⟩)]
    · rw [if_neg h2, if_neg h2, if_neg (show ¬ 20 = j by omega)]
theorem RP_h {q : Nat → Nat} {κ : Nat} : xi_u2 (xi_RP q) 1 4 (some κ) = xi_RP (fun z => if z = 20 then κ else q z) := by
  funext a k
  rw [u2_at]
  unfold xi_RP
  dsimp only
  by_cases h : a = 1 ∧ k = 4
  · rw [if_pos h, if_neg (by omega), if_pos h, if_pos rfl]
  · rw [if_neg h]
    by_cases h2 : a = 2 ∧ k < 20
    · rw [if_pos h2, if_pos h2, if_neg (by omega)]
    · rw [if_neg h2, if_neg h2, if_neg h, if_neg h]
theorem hz_sq (w : xWd) (S : xSt) (μ : Nat → Nat → Int32) (ρ : Nat → Nat → Int64) (j κ : Nat) : hs w (mk S) μ ρ (fun z => if z = j then ja_L κ else ja_L (S.2.2 z)) = hz w (sq S j κ) μ ρ := by
  show _ = hs w (mk (sq S j κ)) μ ρ _
  rw [show mk (sq S j κ) = mk S from rfl]
  congr 1
  funext z
  show _ = ja_L (if z = j then κ else S.2.2 z)
  split <;> rfl
section
variable {d m : Nat} {mi : xMi} {pc ix len po : Nat} {lv : List (Nat × Value)} {st : List Value} {w : xWd} {S : xSt} {μ : Nat → Nat → Int32} {ρ : Nat → Nat → Int64} {r : xRs}
theorem ye_as (hp : xpg[m]? = some mi) (j : Nat) {κ : Nat} {i : Int32} (ht : xi_a (xi_tb mi) pc = some (.aastore, len)) (hl : j < 20) (hi : bnd i 20) (hj : i.toNatClampNeg = j) (hκ : κ < 22) (hr : xe d m (pc + 1, lv, st) (hz w (sq S j κ) μ ρ) r) : xe d m (pc, lv, .ref (ja_L κ) :: .int i :: .ref 2 :: st) (hz w S μ ρ) r := by
  subst hj
  refine xe_1 hp (h' := hz w (sq S i.toNatClampNeg κ) μ ρ) ?_ hr
  unfold xi_st
  rw [show xi_a (xi_tb mi) ((pc, lv, Value.ref (ja_L κ) :: Value.int i :: Value.ref 2 :: st) : xFr).1 = some (.aastore, len) from ht]
  show (xi_s1 _ _ _ .aastore pc lv (.ref (ja_L κ) :: .int i :: .ref 2 :: st) (hz w S μ ρ)).map Sum.inl = _
  unfold xi_s1
  dsimp only
  have e1 : hK (hz w S μ ρ) 2 = (11, 20) := rfl
  have e2 := k_L hκ
  rw [e1, if_pos ⟨by decide, by decide, bnd_in (by decide) rfl hi, show ja_L κ < 190 by omega, by rw [show hK (hz w S μ ρ) (ja_L κ) = (0, 0) from e2.2]; rfl⟩]
  show some (Sum.inl ((pc + 1, lv, st), xi_setR (hz w S μ ρ) 2 i.toNatClampNeg (some (ja_L κ)))) = _
  rw [← hz_sq]
  unfold xi_setR hz hs
  rw [← RP_q hl]
theorem ye_pr (hp : xpg[m]? = some mi) {κ : Nat} (ht : xi_a (xi_tb mi) pc = some (.putfield ix, len)) (hf : xi_a (xfl.getD (xi_own mi) []) ix = some (4, 4, po)) (hκ : κ < 22) (hr : xe d m (pc + 3, lv, st) (hz w (sq S 20 κ) μ ρ) r) : xe d m (pc, lv, .ref (ja_L κ) :: .ref 1 :: st) (hz w S μ ρ) r := by
  refine xe_1 hp (h' := hz w (sq S 20 κ) μ ρ) ?_ hr
  unfold xi_st
  rw [show xi_a (xi_tb mi) ((pc, lv, Value.ref (ja_L κ) :: Value.ref 1 :: st) : xFr).1 = some (.putfield ix, len) from ht]
  show (xi_s1 _ _ _ (.putfield ix) pc lv (.ref (ja_L κ) :: .ref 1 :: st) (hz w S μ ρ)).map Sum.inl = _
  unfold xi_s1
  dsimp only
  rw [hf]
  dsimp only
  rw [if_pos ⟨show 1 < 190 by decide, rfl, rfl, Or.inl rfl⟩]
  show some (Sum.inl ((pc + 3, lv, st), xi_setR (hz w S μ ρ) 1 4 (some (ja_L κ)))) = _
  rw [← hz_sq]
  unfold xi_setR hz hs
  rw [← RP_h]
end
def tl (q : Nat → Nat) (i k : Nat) : Nat → Nat := fun j => if i ≤ j ∧ j < k then q (j + 1) else q j
theorem tl_0 (q : Nat → Nat) (i : Nat) : tl q i i = q := by
  funext j
  exact if_neg (by omega)
theorem tl_s (q : Nat → Nat) {i k : Nat} (h : i ≤ k) : (fun z => if z = k then tl q i k (k + 1) else tl q i k z) = tl q i (k + 1) := by
  funext j
  unfold tl
  by_cases e : j = k
  · rw [if_pos e, if_neg (by omega), if_pos (by omega), e]
  · rw [if_neg e]
    by_cases e2 : i ≤ j ∧ j < k
    · rw [if_pos e2, if_pos (by omega)]
    · rw [if_neg e2, if_neg (by omega)]
theorem tl_lt {q : Nat → Nat} (hq : ∀ j, j ≤ 20 → q j < 22) {i k j : Nat} (hk : k ≤ 20) (hj : j ≤ 20) : tl q i k j < 22 := by
  unfold tl
  split
  · exact hq _ (by omega)
  · exact hq _ hj
/-- the row behind the taking out of the cell i, n are left -/
def tq (q : Nat → Nat) (i n : Nat) : Nat → Nat := fun j => if j = 20 then q i else if j = n then q 20 else if i ≤ j ∧ j < n then q (j + 1) else q j
theorem tq_eq (q : Nat → Nat) (i n : Nat) (hn : n < 20) : (fun z => if z = 20 then q i else (fun y => if y = n then tl q i n 20 else tl q i n y) z) = tq q i n := by
  funext j
  unfold tq tl
  dsimp only
  by_cases e : j = 20
  · rw [if_pos e, if_pos e]
  · rw [if_neg e, if_neg e]
    by_cases e2 : j = n
    · rw [if_pos e2, if_pos e2, if_neg (by omega)]
    · rw [if_neg e2, if_neg e2]
/-- where the byte or field t of a cell stands in the reference's row -/
def upp (t : Nat) : Nat := if t < 14 then t + 4 else if t < 18 then t - 14 else 18
theorem upp_pm : ∀ b, b < 19 → upp (pm b) = b := by decide +kernel
theorem pm_upp : ∀ t, t < 19 → pm (upp t) = t ∧ upp t < 19 := by decide +kernel
def cq (C : Nat → Nat → Int32) (i k : Nat) : Nat → Nat → Int32 := fun j t => if 19 * i ≤ 19 * j + upp t ∧ 19 * j + upp t < k then C (j + 1) t else C j t
def cr (C : Nat → Nat → Int32) (i n : Nat) : Nat → Nat → Int32 := fun j => if i ≤ j ∧ j < n then C (j + 1) else C j
theorem cq_0 (V : xVt) (i : Nat) : vc V (cq V.2.2.1 i (19 * i)) = V := by
  unfold vc
  rw [show cq V.2.2.1 i (19 * i) = V.2.2.1 from by funext j t; exact if_neg (by omega)]
theorem cq_s (V : xVt) {i a b : Nat} (hb : b < 19) (h : 19 * i ≤ 19 * a + b) : gl (vcs (vc V (cq V.2.2.1 i (19 * a + b))) a (pm b) (cq V.2.2.1 i (19 * a + b) (a + 1) (pm b))) = gl (vc V (cq V.2.2.1 i (19 * a + b + 1))) := by
  refine gl_cg (fun _ _ _ _ => rfl) (fun _ _ => rfl) (fun _ _ => rfl) (fun j t ht => ?_) (fun _ _ => rfl)
  show xi_u2 (cq V.2.2.1 i (19 * a + b)) a (pm b) _ j t = cq V.2.2.1 i (19 * a + b + 1) j t
  rw [u2_at]
  obtain ⟨p1, p2⟩ := pm_upp t ht
  by_cases e : j = a ∧ t = pm b
  · obtain ⟨rfl, rfl⟩ := e
    rw [if_pos ⟨rfl, rfl⟩]
    unfold cq
    rw [upp_pm b hb, if_neg (by omega), if_pos (by omega)]
  · rw [if_neg e]
    have e2 : ¬ (19 * j + upp t = 19 * a + b) := fun q => e (by
      have h1 : j = a := by omega
      have h2 : upp t = b := by omega
      exact ⟨h1, by rw [← h2, p1]⟩)
    unfold cq
    by_cases e3 : 19 * i ≤ 19 * j + upp t ∧ 19 * j + upp t < 19 * a + b
    · rw [if_pos e3, if_pos (by omega)]
    · rw [if_neg e3, if_neg (by omega)]
theorem cq_e (V : xVt) (i n : Nat) : gl (vc V (cq V.2.2.1 i (19 * n))) = gl (vc V (cr V.2.2.1 i n)) := by
  refine gl_cg (fun _ _ _ _ => rfl) (fun _ _ => rfl) (fun _ _ => rfl) (fun j t ht => ?_) (fun _ _ => rfl)
  show cq V.2.2.1 i (19 * n) j t = cr V.2.2.1 i n j t
  have := (pm_upp t ht).2
  unfold cq cr
  by_cases e : i ≤ j ∧ j < n
  · rw [if_pos (by omega), if_pos e]
  · rw [if_neg (by omega), if_neg e]
set_option maxRecDepth 100000 in
theorem lp_takeOut (d : Nat) {w : xWd} {S : xSt} {μ : Nat → Nat → Int32} {ρ : Nat → Nat → Int64} {i n κ : Nat} (hκ : κ < 22) (hq : ∀ j, j ≤ 20 → S.2.2 j < 22) (hn : S.1 165 1 = nI n) (hi : i ≤ n) (hn2 : n < 20) (hk0 : S.2.2 i = κ) : ∀ j k, k + j = n → i ≤ k → xe d 69 (19, [(3, .int (nI k)), (2, .ref (ja_L κ)), (0, .ref 1), (1, .int (nI i))], []) (hz w ((S.1, S.2.1, tl S.2.2 i k) : xSt) μ ρ) (.inl (some (.ref (ja_L κ))), hz w (S.1, S.2.1, tq S.2.2 i n) μ ρ) := by
  intro j
  induction j with
  | zero =>
    intro k hk hik
    rw [show k = n by omega]
    refine xe_sn pg_69 2 (fr' := (21, [(3, .int (nI n)), (2, .ref (ja_L κ)), (0, .ref 1), (1, .int (nI i))], [.ref 1, .int (nI n)])) rfl ?_
    refine ye_gi pg_69 (((S.1, S.2.1, tl S.2.2 i n) : xSt).1 165 1) rfl rfl rfl (kk1 k_W) (l_size.rd _) ?_
    refine xe_eq _ (nI n) hn ?_
    refine xe_c2t pg_69 47 rfl rfl (nq_ge n n (by omega) (by omega) (by omega)) ?_
    refine xe_sn pg_69 1 (fr' := (48, [(3, .int (nI n)), (2, .ref (ja_L κ)), (0, .ref 1), (1, .int (nI i))], [.ref 1])) rfl ?_
    refine xe_gr pg_69 2 rfl rfl rfl (kk1 k_W) rfl ?_
    refine xe_sn pg_69 1 (fr' := (52, [(3, .int (nI n)), (2, .ref (ja_L κ)), (0, .ref 1), (1, .int (nI i))], [.ref 1, .ref 2])) rfl ?_
    refine ye_gi pg_69 (((S.1, S.2.1, tl S.2.2 i n) : xSt).1 165 1) rfl rfl rfl (kk1 k_W) (l_size.rd _) ?_
    refine xe_eq _ (nI n) hn ?_
    refine xe_sn pg_69 1 (fr' := (56, [(3, .int (nI n)), (2, .ref (ja_L κ)), (0, .ref 1), (1, .int (nI i))], [.ref 1, .int (nI n), .ref 2])) rfl ?_
    refine xe_gr pg_69 (ja_L (((S.1, S.2.1, tl S.2.2 i n) : xSt).2.2 20)) rfl rfl rfl (kk1 k_W) rfl ?_
    refine ye_as pg_69 n rfl (by omega) (bn (by omega) (by decide)) (bc (n := 20) (by omega) (by decide)) (tl_lt hq (by omega) (by omega)) ?_
    refine xe_sn pg_69 2 (fr' := (62, [(3, .int (nI n)), (2, .ref (ja_L κ)), (0, .ref 1), (1, .int (nI i))], [.ref (ja_L κ), .ref 1])) rfl ?_
    refine ye_pr pg_69 rfl rfl hκ ?_
    refine xe_sn pg_69 1 (fr' := (66, [(3, .int (nI n)), (2, .ref (ja_L κ)), (0, .ref 1), (1, .int (nI i))], [.ref (ja_L κ)])) rfl ?_
    rw [show sq (sq (S.1, S.2.1, tl S.2.2 i n) n (tl S.2.2 i n 20)) 20 κ = (S.1, S.2.1, tq S.2.2 i n) from congrArg (fun z => (S.1, S.2.1, z)) (by rw [← hk0]; exact tq_eq S.2.2 i n hn2)]
    exact xe_end pg_69 rfl
  | succ j ih =>
    intro k hk hik
    refine xe_sn pg_69 2 (fr' := (21, [(3, .int (nI k)), (2, .ref (ja_L κ)), (0, .ref 1), (1, .int (nI i))], [.ref 1, .int (nI k)])) rfl ?_
    refine ye_gi pg_69 (((S.1, S.2.1, tl S.2.2 i k) : xSt).1 165 1) rfl rfl rfl (kk1 k_W) (l_size.rd _) ?_
    refine xe_eq _ (nI n) hn ?_
    refine xe_c2f pg_69 47 rfl rfl (nq_gen k n (by omega) (by omega) (by omega)) ?_
    refine xe_sn pg_69 1 (fr' := (28, [(3, .int (nI k)), (2, .ref (ja_L κ)), (0, .ref 1), (1, .int (nI i))], [.ref 1])) rfl ?_
    refine xe_gr pg_69 2 rfl rfl rfl (kk1 k_W) rfl ?_
    refine xe_sn pg_69 2 (fr' := (33, [(3, .int (nI k)), (2, .ref (ja_L κ)), (0, .ref 1), (1, .int (nI i))], [.ref 1, .int (nI k), .ref 2])) rfl ?_
    refine xe_gr pg_69 2 rfl rfl rfl (kk1 k_W) rfl ?_
    refine xe_sn pg_69 2 (fr' := (38, [(3, .int (nI k)), (2, .ref (ja_L κ)), (0, .ref 1), (1, .int (nI i))], [.int 1, .int (nI k), .ref 2, .int (nI k), .ref 2])) rfl ?_
    refine xe_na pg_69 k 1 (k + 1) rfl (by omega) ?_
    refine xe_al pg_69 (k + 1) (ja_L (((S.1, S.2.1, tl S.2.2 i k) : xSt).2.2 (k + 1))) rfl k_WC ⟨by decide, by decide⟩ (bn (by omega) (by decide)) (bc (n := 20) (by omega) (by decide)) (r_WC _ (by omega)) ?_
    refine ye_as pg_69 k rfl (by omega) (bn (by omega) (by decide)) (bc (n := 20) (by omega) (by decide)) (tl_lt hq (by omega) (by omega)) ?_
    refine xe_ni pg_69 k (k + 1) [(3, .int (nI (k + 1))), (2, .ref (ja_L κ)), (0, .ref 1), (1, .int (nI i))] rfl rfl rfl rfl (nI_add _ 1) ?_
    refine xe_sn pg_69 1 (fr' := (19, [(3, .int (nI (k + 1))), (2, .ref (ja_L κ)), (0, .ref 1), (1, .int (nI i))], [])) rfl ?_
    rw [show sq (S.1, S.2.1, tl S.2.2 i k) k (tl S.2.2 i k (k + 1)) = (S.1, S.2.1, tl S.2.2 i (k + 1)) from congrArg (fun z => (S.1, S.2.1, z)) (tl_s S.2.2 hik)]
    exact ih (k + 1) (by omega) (by omega)

set_option maxRecDepth 100000 in
theorem c_takeOut (d : Nat) {w : xWd} {S : xSt} {μ : Nat → Nat → Int32} {ρ : Nat → Nat → Int64} {i n : Nat} (hq : ∀ j, j ≤ 20 → S.2.2 j < 22) (hn : S.1 165 1 = nI (n + 1)) (hi : i ≤ n) (hn2 : n < 20) : xc d 69 [.ref 1, .int (nI i)] (hz w S μ ρ) (.inl (some (.ref (ja_L (S.2.2 i)))), hz w (xi_u2 S.1 165 1 (nI n), S.2.1, tq S.2.2 i n) μ ρ) := by
  refine xe_sn pg_69 1 (fr' := (1, [(0, .ref 1), (1, .int (nI i))], [.ref 1])) rfl ?_
  refine xe_gr pg_69 2 rfl rfl rfl (kk1 k_W) rfl ?_
  refine xe_sn pg_69 1 (fr' := (5, [(0, .ref 1), (1, .int (nI i))], [.int (nI i), .ref 2])) rfl ?_
  refine xe_al pg_69 i (ja_L (S.2.2 i)) rfl k_WC ⟨by decide, by decide⟩ (bn (by omega) (by decide)) (bc (n := 20) (by omega) (by decide)) (r_WC _ (by omega)) ?_
  refine xe_sn pg_69 3 (fr' := (9, [(2, .ref (ja_L (S.2.2 i))), (0, .ref 1), (1, .int (nI i))], [.ref 1, .ref 1])) rfl ?_
  refine ye_gi pg_69 (S.1 165 1) rfl rfl rfl (kk1 k_W) (l_size.rd _) ?_
  refine xe_eq _ (nI (n + 1)) hn ?_
  refine xe_sn pg_69 1 (fr' := (13, [(2, .ref (ja_L (S.2.2 i))), (0, .ref 1), (1, .int (nI i))], [.int 1, .int (nI (n + 1)), .ref 1])) rfl ?_
  refine xe_ns pg_69 (n + 1) 1 n rfl (by omega) ?_
  refine ye_px pg_69 rfl rfl ⟨rfl, rfl⟩ (Or.inl rfl) (kk1 k_W) l_size ?_
  refine xe_sn pg_69 2 (fr' := (19, [(3, .int (nI i)), (2, .ref (ja_L (S.2.2 i))), (0, .ref 1), (1, .int (nI i))], [])) rfl ?_
  have k := lp_takeOut d (w := w) (S := sx S 165 1 (nI n)) (μ := μ) (ρ := ρ) (i := i) (n := n) (hq i (by omega)) hq (u2_same S.1 165 1 (nI n)) hi hn2 rfl (n - i) i (by omega) (Nat.le_refl _)
  rw [tl_0] at k
  exact k

set_option maxRecDepth 100000 in
theorem lp_remove (d : Nat) {w : xWd} {S : xSt} {V : xVt} {ρ : Nat → Nat → Int64} {i n : Nat} (hn : V.1 165 1 = nI n) (hi : i ≤ n) (hn2 : n < 20) : ∀ j k, k + j = 19 * n → 19 * i ≤ k → xe d 119 (15, [(2, .int (nI k)), (0, .ref 165), (1, .int (nI i))], []) (hv w S (vc V (cq V.2.2.1 i k)) ρ) (.inl none, hv w S (vc V (cr V.2.2.1 i n)) ρ) := by
  intro j
  induction j with
  | zero =>
    intro k hk hik
    rw [show k = 19 * n by omega]
    refine xe_sn pg_119 3 (fr' := (19, [(2, .int (nI (19 * n))), (0, .ref 165), (1, .int (nI i))], [.ref 165, .int 19, .int (nI (19 * n))])) rfl ?_
    refine ze_gi pg_119 ((vc V (cq V.2.2.1 i (19 * n))).1 165 1) rfl rfl rfl rfl ?_
    refine xe_eq _ (nI n) hn ?_
    refine xe_nm pg_119 19 n (19 * n) rfl (by omega) ?_
    refine xe_c2t pg_119 47 rfl rfl (nq_ge (19 * n) (19 * n) (by omega) (by omega) (by omega)) ?_
    rw [show hv w S (vc V (cr V.2.2.1 i n)) ρ = hz w S (gl (vc V (cr V.2.2.1 i n))) ρ from rfl, ← cq_e]
    exact xe_end pg_119 rfl
  | succ j ih =>
    intro k hk hik
    refine xe_sn pg_119 3 (fr' := (19, [(2, .int (nI k)), (0, .ref 165), (1, .int (nI i))], [.ref 165, .int 19, .int (nI k)])) rfl ?_
    refine ze_gi pg_119 ((vc V (cq V.2.2.1 i k)).1 165 1) rfl rfl rfl rfl ?_
    refine xe_eq _ (nI n) hn ?_
    refine xe_nm pg_119 19 n (19 * n) rfl (by omega) ?_
    refine xe_c2f pg_119 47 rfl rfl (nq_gen k (19 * n) (by omega) (by omega) (by omega)) ?_
    obtain ⟨a, b, hb, rfl⟩ : ∃ a b, b < 19 ∧ k = 19 * a + b := ⟨k / 19, k % 19, Nat.mod_lt _ (by decide), by omega⟩
    refine xe_sn pg_119 5 (fr' := (35, [(2, .int (nI (19 * a + b))), (0, .ref 165), (1, .int (nI i))], [.ref 166, .int (nI (19 * a + b)), .ref 166])) rfl ?_
    refine xe_sn pg_119 2 (fr' := (38, [(2, .int (nI (19 * a + b))), (0, .ref 165), (1, .int (nI i))], [.int 19, .int (nI (19 * a + b)), .ref 166, .int (nI (19 * a + b)), .ref 166])) rfl ?_
    refine xe_na pg_119 (19 * a + b) 19 (19 * (a + 1) + b) rfl (by omega) ?_
    refine ze_ic pg_119 (a + 1) b (cq V.2.2.1 i (19 * a + b) (a + 1) (pm b)) rfl (bn (by omega) (by decide)) (bc (n := 380) (by omega) (by decide)) (by omega) hb rfl ?_
    refine ze_sc pg_119 a b rfl (bn (by omega) (by decide)) (bc (n := 380) (by omega) (by decide)) (by omega) hb ?_
    refine xe_ni pg_119 (19 * a + b) (19 * a + b + 1) [(2, .int (nI (19 * a + b + 1))), (0, .ref 165), (1, .int (nI i))] rfl rfl rfl rfl (nI_add _ 1) ?_
    refine xe_sn pg_119 1 (fr' := (15, [(2, .int (nI (19 * a + b + 1))), (0, .ref 165), (1, .int (nI i))], [])) rfl ?_
    show xe d 119 _ (hz w S (gl (vcs (vc V (cq V.2.2.1 i (19 * a + b))) a (pm b) (cq V.2.2.1 i (19 * a + b) (a + 1) (pm b)))) ρ) _
    rw [cq_s V hb hik]
    exact ih (19 * a + b + 1) (by omega) (by omega)

set_option maxRecDepth 100000 in
theorem cg_remove (d : Nat) {w : xWd} {S : xSt} {V : xVt} {ρ : Nat → Nat → Int64} {i n : Nat} (hn : V.1 165 1 = nI (n + 1)) (hi : i ≤ n) (hn2 : n < 20) : xc d 119 [.ref 165, .int (nI i)] (hv w S V ρ) (.inl none, hv w S (vc (vx V 165 1 (nI n)) (cr V.2.2.1 i n)) ρ) := by
  refine xe_sn pg_119 2 (fr' := (2, [(0, .ref 165), (1, .int (nI i))], [.ref 165, .ref 165])) rfl ?_
  refine ze_gi pg_119 (V.1 165 1) rfl rfl rfl rfl ?_
  refine xe_eq _ (nI (n + 1)) hn ?_
  refine xe_sn pg_119 1 (fr' := (6, [(0, .ref 165), (1, .int (nI i))], [.int 1, .int (nI (n + 1)), .ref 165])) rfl ?_
  refine xe_ns pg_119 (n + 1) 1 n rfl (by omega) ?_
  refine ze_px pg_119 rfl rfl ⟨rfl, rfl⟩ (Or.inl rfl) (by decide) ?_
  refine xe_sn pg_119 2 (fr' := (13, [(0, .ref 165), (1, .int (nI i))], [.int (nI i), .int 19])) rfl ?_
  refine xe_nm pg_119 19 i (19 * i) rfl (by omega) ?_
  refine xe_sn pg_119 1 (fr' := (15, [(2, .int (nI (19 * i))), (0, .ref 165), (1, .int (nI i))], [])) rfl ?_
  have k := lp_remove d (w := w) (S := S) (V := vx V 165 1 (nI n)) (ρ := ρ) (i := i) (n := n) (u2_same V.1 165 1 (nI n)) hi hn2 (19 * (n - i)) (19 * i) (by omega) (Nat.le_refl _)
  rw [cq_0] at k
  exact k

