/-! loops over bytes -/
def dfill (f g : Nat → Int32) (n : Nat) : Nat → Int32 := fun i => if 7 ≤ i ∧ i < 7 + n then g i ^^^ 255 else f i
def sfill (f : Nat → Int32) (v : Int32) (n : Nat) : Nat → Int32 := fun i => if 7 ≤ i ∧ i < 7 + n then (v + nI (i - 7)) &&& 255 else f i
/-- row 177 (the latest data) of the circuit c -/
def kfill (X : Nat → Nat → Int32) (c : Nat) (g : Nat → Int32) (n : Nat) : Nat → Nat → Int32 := fun r i => if r = 177 ∧ 7 * c ≤ i ∧ i < 7 * c + n then g (7 + (i - 7 * c)) else X r i
theorem dfill_0 (f g : Nat → Int32) : dfill f g 0 = f := by
  funext i
  exact if_neg (by omega)
theorem dfill_s (f g : Nat → Int32) (n : Nat) : (fun j => if j = n + 7 then g (n + 7) ^^^ 255 else dfill f g n j) = dfill f g (n + 1) := by
  funext j
  unfold dfill
  by_cases h : j = n + 7
  · rw [if_pos h, if_pos (by omega), h]
  · rw [if_neg h]
    by_cases h2 : 7 ≤ j ∧ j < 7 + n
    · rw [if_pos h2, if_pos (by omega)]
    · rw [if_neg h2, if_neg (by omega)]
theorem sfill_0 (f : Nat → Int32) (v : Int32) : sfill f v 0 = f := by
  funext i
  exact if_neg (by omega)
theorem sfill_s (f : Nat → Int32) (v : Int32) (n : Nat) : (fun j => if j = n + 7 then (v + nI n) &&& 255 else sfill f v n j) = sfill f v (n + 1) := by
  funext j
  unfold sfill
  by_cases h : j = n + 7
  · rw [if_pos h, if_pos (by omega), h, Nat.add_sub_cancel]
  · rw [if_neg h]
    by_cases h2 : 7 ≤ j ∧ j < 7 + n
    · rw [if_pos h2, if_pos (by omega)]
    · rw [if_neg h2, if_neg (by omega)]
theorem kfill_0 (X : Nat → Nat → Int32) (c : Nat) (g : Nat → Int32) : kfill X c g 0 = X := by
  funext r i
  exact if_neg (by omega)
theorem kfill_s (X : Nat → Nat → Int32) (c : Nat) (g : Nat → Int32) (n : Nat) : xi_u2 (kfill X c g n) 177 (7 * c + n) (g (n + 7)) = kfill X c g (n + 1) := by
  funext r i
  rw [u2_at]
  unfold kfill
  by_cases h : r = 177 ∧ i = 7 * c + n
  · obtain ⟨rfl, rfl⟩ := h
    rw [if_pos ⟨rfl, rfl⟩, if_pos (by omega), show 7 + (7 * c + n - 7 * c) = n + 7 by omega]
  · rw [if_neg h]
    by_cases h2 : r = 177 ∧ 7 * c ≤ i ∧ i < 7 * c + n
    · rw [if_pos h2, if_pos (by omega)]
    · rw [if_neg h2, if_neg (by omega)]
theorem dl_sr {T : xSt} {κ κ' : Nat} (h : κ' ≠ κ) (f : Nat → Int32) : f_dataLength (sr T κ' f) κ = f_dataLength T κ := by
  unfold f_dataLength
  rw [sr_ne T f (Ne.symm h)]

set_option maxRecDepth 100000 in
theorem lp_followData (d : Nat) {w : xWd} {S : xSt} {μ : Nat → Nat → Int32} {ρ : Nat → Nat → Int64} {i c κ κ' : Nat} {s : Int32} (hi : i < 4) (hc : c < 4) (hκ : κ < 22) (hκ' : κ' < 22) (hne : κ' ≠ κ) {m : Nat} (hm : m ≤ 7) (hdl : f_dataLength S κ = nI m) {r : xRs} (hr : xe (d + 1) 57 (75, [(4, .int (nI (m + 7))), (3, .ref (ja_L κ')), (0, .ref (ja_P i c)), (1, .ref (ja_L κ)), (2, .int s)], []) (hz w (sr S κ' (dfill (S.2.1 κ') (S.2.1 κ) m)) μ ρ) r) : ∀ j n, n + j = m → xe (d + 1) 57 (39, [(4, .int (nI (n + 7))), (3, .ref (ja_L κ')), (0, .ref (ja_P i c)), (1, .ref (ja_L κ)), (2, .int s)], []) (hz w (sr S κ' (dfill (S.2.1 κ') (S.2.1 κ) n)) μ ρ) r := by
  intro j
  induction j with
  | zero =>
    intro n hn
    rw [show n = m by omega]
    refine xe_sn pg_57 3 (fr' := (44, [(4, .int (nI (m + 7))), (3, .ref (ja_L κ')), (0, .ref (ja_P i c)), (1, .ref (ja_L κ)), (2, .int s)], [.ref (ja_L κ), .int 7, .int (nI (m + 7))])) rfl ?_
    refine xe_cv pg_57 11 pg_11 [] [.int 7, .int (nI (m + 7))] (some (.int (f_dataLength (sr S κ' (dfill (S.2.1 κ') (S.2.1 κ) m)) κ))) rfl rfl rfl rfl ⟨Nat.le_of_ble_eq_true rfl, Nat.le_of_ble_eq_true rfl, Nat.le_of_ble_eq_true rfl⟩ ⟨rfl, rfl⟩ (kk2 (k_L hκ) (by decide)) (c_dataLength _ (κ := κ) hκ rfl) ?_
    refine xe_eq _ (nI m) ((dl_sr hne _).trans hdl) ?_
    refine xe_na pg_57 7 m (m + 7) rfl (by omega) ?_
    refine xe_c2t pg_57 75 rfl rfl (nq_ge (m + 7) (m + 7) (by omega) (by omega) (by omega)) ?_
    exact hr
  | succ j ih =>
    intro n hn
    refine xe_sn pg_57 3 (fr' := (44, [(4, .int (nI (n + 7))), (3, .ref (ja_L κ')), (0, .ref (ja_P i c)), (1, .ref (ja_L κ)), (2, .int s)], [.ref (ja_L κ), .int 7, .int (nI (n + 7))])) rfl ?_
    refine xe_cv pg_57 11 pg_11 [] [.int 7, .int (nI (n + 7))] (some (.int (f_dataLength (sr S κ' (dfill (S.2.1 κ') (S.2.1 κ) n)) κ))) rfl rfl rfl rfl ⟨Nat.le_of_ble_eq_true rfl, Nat.le_of_ble_eq_true rfl, Nat.le_of_ble_eq_true rfl⟩ ⟨rfl, rfl⟩ (kk2 (k_L hκ) (by decide)) (c_dataLength _ (κ := κ) hκ rfl) ?_
    refine xe_eq _ (nI m) ((dl_sr hne _).trans hdl) ?_
    refine xe_na pg_57 7 m (m + 7) rfl (by omega) ?_
    refine xe_c2f pg_57 75 rfl rfl (nq_gen (n + 7) (m + 7) (by omega) (by omega) (by omega)) ?_
    refine xe_sn pg_57 1 (fr' := (52, [(4, .int (nI (n + 7))), (3, .ref (ja_L κ')), (0, .ref (ja_P i c)), (1, .ref (ja_L κ)), (2, .int s)], [.ref (ja_L κ')])) rfl ?_
    refine xe_gr pg_57 (ja_B κ') rfl rfl rfl (kk1 (k_L hκ')) (r_L0 hκ' _) ?_
    refine xe_sn pg_57 2 (fr' := (58, [(4, .int (nI (n + 7))), (3, .ref (ja_L κ')), (0, .ref (ja_P i c)), (1, .ref (ja_L κ)), (2, .int s)], [.ref (ja_L κ), .int (nI (n + 7)), .ref (ja_B κ')])) rfl ?_
    refine xe_gr pg_57 (ja_B κ) rfl rfl rfl (kk1 (k_L hκ)) (r_L0 hκ _) ?_
    refine xe_sn pg_57 1 (fr' := (63, [(4, .int (nI (n + 7))), (3, .ref (ja_L κ')), (0, .ref (ja_P i c)), (1, .ref (ja_L κ)), (2, .int s)], [.int (nI (n + 7)), .ref (ja_B κ), .int (nI (n + 7)), .ref (ja_B κ')])) rfl ?_
    refine ye_il pg_57 (n + 7) ((sr S κ' (dfill (S.2.1 κ') (S.2.1 κ) n)).2.1 κ (n + 7)) rfl (k_B hκ) (bn (by omega) (by decide)) (bc (n := 14) (by omega) (by decide)) ((l_B hκ (k := (n + 7)) (by omega)).rd _) ?_
    refine xe_sn pg_57 2 (fr' := (68, [(4, .int (nI (n + 7))), (3, .ref (ja_L κ')), (0, .ref (ja_P i c)), (1, .ref (ja_L κ)), (2, .int s)], [.int (((sr S κ' (dfill (S.2.1 κ') (S.2.1 κ) n)).2.1 κ (n + 7)) ^^^ 255), .int (nI (n + 7)), .ref (ja_B κ')])) rfl ?_
    refine ye_iy pg_57 (n + 7) rfl (k_B hκ') (bn (by omega) (by decide)) (bc (n := 14) (by omega) (by decide)) (l_B hκ' (k := (n + 7)) (by omega)) ?_
    refine xe_ni pg_57 (n + 7) (n + 8) [(4, .int (nI (n + 8))), (3, .ref (ja_L κ')), (0, .ref (ja_P i c)), (1, .ref (ja_L κ)), (2, .int s)] rfl rfl rfl rfl (nI_add _ 1) ?_
    refine xe_sn pg_57 1 (fr' := (39, [(4, .int (nI (n + 8))), (3, .ref (ja_L κ')), (0, .ref (ja_P i c)), (1, .ref (ja_L κ)), (2, .int s)], [])) rfl ?_
    rw [sr_ne S _ (Ne.symm hne), sr_sy, dfill_s, show n + 8 = (n + 1) + 7 by omega]
    exact ih (n + 1) (by omega)

set_option maxRecDepth 100000 in
theorem lp_sendData (d : Nat) {w : xWd} {S : xSt} {μ : Nat → Nat → Int32} {ρ : Nat → Nat → Int64} {c κ : Nat} {s v : Int32} (hc : c < 4) (hκ : κ < 22) {m : Nat} (hm : m ≤ 7) {r : xRs} (hr : xe d 23 (43, [(5, .int (nI m)), (4, .ref (ja_L κ)), (0, .ref (ja_C c)), (1, .int s), (2, .int (nI m)), (3, .int v)], []) (hz w (sr S κ (sfill (S.2.1 κ) v m)) μ ρ) r) : ∀ j n, n + j = m → xe d 23 (12, [(5, .int (nI n)), (4, .ref (ja_L κ)), (0, .ref (ja_C c)), (1, .int s), (2, .int (nI m)), (3, .int v)], []) (hz w (sr S κ (sfill (S.2.1 κ) v n)) μ ρ) r := by
  intro j
  induction j with
  | zero =>
    intro n hn
    rw [show n = m by omega]
    refine xe_sn pg_23 2 (fr' := (15, [(5, .int (nI m)), (4, .ref (ja_L κ)), (0, .ref (ja_C c)), (1, .int s), (2, .int (nI m)), (3, .int v)], [.int (nI m), .int (nI m)])) rfl ?_
    refine xe_c2t pg_23 43 rfl rfl (nq_ge m m (by omega) (by omega) (by omega)) ?_
    exact hr
  | succ j ih =>
    intro n hn
    refine xe_sn pg_23 2 (fr' := (15, [(5, .int (nI n)), (4, .ref (ja_L κ)), (0, .ref (ja_C c)), (1, .int s), (2, .int (nI m)), (3, .int v)], [.int (nI m), .int (nI n)])) rfl ?_
    refine xe_c2f pg_23 43 rfl rfl (nq_gen n m (by omega) (by omega) (by omega)) ?_
    refine xe_sn pg_23 1 (fr' := (20, [(5, .int (nI n)), (4, .ref (ja_L κ)), (0, .ref (ja_C c)), (1, .int s), (2, .int (nI m)), (3, .int v)], [.ref (ja_L κ)])) rfl ?_
    refine xe_gr pg_23 (ja_B κ) rfl rfl rfl (kk1 (k_L hκ)) (r_L0 hκ _) ?_
    refine xe_sn pg_23 2 (fr' := (27, [(5, .int (nI n)), (4, .ref (ja_L κ)), (0, .ref (ja_C c)), (1, .int s), (2, .int (nI m)), (3, .int v)], [.int (nI n), .int 7, .ref (ja_B κ)])) rfl ?_
    refine xe_na pg_23 7 n (n + 7) rfl (by omega) ?_
    refine xe_sn pg_23 5 (fr' := (36, [(5, .int (nI n)), (4, .ref (ja_L κ)), (0, .ref (ja_C c)), (1, .int s), (2, .int (nI m)), (3, .int v)], [.int ((v + (nI n)) &&& 255), .int (nI (n + 7)), .ref (ja_B κ)])) rfl ?_
    refine ye_iy pg_23 (n + 7) rfl (k_B hκ) (bn (by omega) (by decide)) (bc (n := 14) (by omega) (by decide)) (l_B hκ (k := (n + 7)) (by omega)) ?_
    refine xe_ni pg_23 n (n + 1) [(5, .int (nI (n + 1))), (4, .ref (ja_L κ)), (0, .ref (ja_C c)), (1, .int s), (2, .int (nI m)), (3, .int v)] rfl rfl rfl rfl (nI_add _ 1) ?_
    refine xe_sn pg_23 1 (fr' := (12, [(5, .int (nI (n + 1))), (4, .ref (ja_L κ)), (0, .ref (ja_C c)), (1, .int s), (2, .int (nI m)), (3, .int v)], [])) rfl ?_
    rw [sr_sy, sfill_s]
    exact ih (n + 1) (by omega)

set_option maxRecDepth 100000 in
theorem lp_keepLatest (d : Nat) {w : xWd} {S : xSt} {μ : Nat → Nat → Int32} {ρ : Nat → Nat → Int64} {c κ : Nat} (hc : c < 4) (hκ : κ < 22) {m : Nat} (hm : m ≤ 7) (hdl : S.1 176 c = nI m) {r : xRs} (hr : xe d 40 (39, [(2, .int (nI m)), (0, .ref (ja_C c)), (1, .ref (ja_L κ))], []) (hz w (kfill S.1 c (S.2.1 κ) m, S.2) μ ρ) r) : ∀ j n, n + j = m → xe d 40 (10, [(2, .int (nI n)), (0, .ref (ja_C c)), (1, .ref (ja_L κ))], []) (hz w (kfill S.1 c (S.2.1 κ) n, S.2) μ ρ) r := by
  intro j
  induction j with
  | zero =>
    intro n hn
    rw [show n = m by omega]
    refine xe_sn pg_40 2 (fr' := (12, [(2, .int (nI m)), (0, .ref (ja_C c)), (1, .ref (ja_L κ))], [.ref (ja_C c), .int (nI m)])) rfl ?_
    refine ye_gi pg_40 ((kfill S.1 c (S.2.1 κ) m, S.2).1 176 c) rfl rfl rfl (kk1 (k_C hc)) ((l_C4 hc).rd _) ?_
    refine xe_eq _ (nI m) hdl ?_
    refine xe_c2t pg_40 39 rfl rfl (nq_ge m m (by omega) (by omega) (by omega)) ?_
    exact hr
  | succ j ih =>
    intro n hn
    refine xe_sn pg_40 2 (fr' := (12, [(2, .int (nI n)), (0, .ref (ja_C c)), (1, .ref (ja_L κ))], [.ref (ja_C c), .int (nI n)])) rfl ?_
    refine ye_gi pg_40 ((kfill S.1 c (S.2.1 κ) n, S.2).1 176 c) rfl rfl rfl (kk1 (k_C hc)) ((l_C4 hc).rd _) ?_
    refine xe_eq _ (nI m) hdl ?_
    refine xe_c2f pg_40 39 rfl rfl (nq_gen n m (by omega) (by omega) (by omega)) ?_
    refine xe_sn pg_40 1 (fr' := (19, [(2, .int (nI n)), (0, .ref (ja_C c)), (1, .ref (ja_L κ))], [.ref (ja_C c)])) rfl ?_
    refine xe_gr pg_40 (ja_D c) rfl rfl rfl (kk1 (k_C hc)) (r_C3 hc _) ?_
    refine xe_sn pg_40 2 (fr' := (24, [(2, .int (nI n)), (0, .ref (ja_C c)), (1, .ref (ja_L κ))], [.ref (ja_L κ), .int (nI n), .ref (ja_D c)])) rfl ?_
    refine xe_gr pg_40 (ja_B κ) rfl rfl rfl (kk1 (k_L hκ)) (r_L0 hκ _) ?_
    refine xe_sn pg_40 2 (fr' := (30, [(2, .int (nI n)), (0, .ref (ja_C c)), (1, .ref (ja_L κ))], [.int (nI n), .int 7, .ref (ja_B κ), .int (nI n), .ref (ja_D c)])) rfl ?_
    refine xe_na pg_40 7 n (n + 7) rfl (by omega) ?_
    refine ye_il pg_40 (n + 7) ((kfill S.1 c (S.2.1 κ) n, S.2).2.1 κ (n + 7)) rfl (k_B hκ) (bn (by omega) (by decide)) (bc (n := 14) (by omega) (by decide)) ((l_B hκ (k := (n + 7)) (by omega)).rd _) ?_
    refine ye_is pg_40 n rfl (k_D hc) (bn (by omega) (by decide)) (bc (n := 7) (by omega) (by decide)) (lx_ix (7 * c + n) (l_D hc (k := n) (by omega)) (by omega)) ?_
    refine xe_ni pg_40 n (n + 1) [(2, .int (nI (n + 1))), (0, .ref (ja_C c)), (1, .ref (ja_L κ))] rfl rfl rfl rfl (nI_add _ 1) ?_
    refine xe_sn pg_40 1 (fr' := (10, [(2, .int (nI (n + 1))), (0, .ref (ja_C c)), (1, .ref (ja_L κ))], [])) rfl ?_
    rw [show sx (kfill S.1 c (S.2.1 κ) n, S.2) 177 (7 * c + n) (S.2.1 κ (n + 7)) = (kfill S.1 c (S.2.1 κ) (n + 1), S.2) from congrArg (fun z => (z, S.2)) (kfill_s S.1 c (S.2.1 κ) n)]
    exact ih (n + 1) (by omega)

