/-! both ways of raising a number: a ^ e % 65521 -/
theorem rz_lrem (n : Nat) (h : n < 2 ^ 63) : lN n - lN n / lN 65521 * lN 65521 = lN (n % 65521) := pk_lRem h (by omega) (by omega)
theorem rz_sq (a q : Nat) : (a ^ q % 65521) * (a ^ q % 65521) % 65521 = a ^ (2 * q) % 65521 := by
  rw [← Nat.mul_mod, ← Nat.pow_add, show q + q = 2 * q by omega]
theorem rz_mu (a q : Nat) : (a ^ q % 65521) * a % 65521 = a ^ (q + 1) % 65521 := by
  rw [Nat.pow_succ, Nat.mul_mod, Nat.mod_mod, ← Nat.mul_mod]
theorem rz_lt (n : Nat) : n % 65521 < 65521 := Nat.mod_lt _ (by omega)
theorem rz_bit {e k : Nat} (he : e < 65536) (hk : k < 16) : ((nI e).toUInt32 >>> ((nI k).toUInt32 &&& Int32.toUInt32 31)).toInt32 &&& 1 = nI (e / 2 ^ k % 2) := by
  rw [pk_ushrN (by omega) (nI k) k (by
    have : ∀ j, j < 16 → (((nI j).toUInt32 &&& Int32.toUInt32 31).toBitVec % 32).toNat = j := by decide
    exact this k hk)]
  exact pk_andN (n := e / 2 ^ k) (Nat.lt_of_le_of_lt (Nat.div_le_self _ _) (by omega)) (m := 1) 1 (by decide)
theorem rz_m1 (x : Int32) : x + (-1) = x - 1 := (Int32.sub_eq_add_neg x 1).symm
theorem rz_hd {e k : Nat} : e / 2 ^ k = 2 * (e / 2 ^ (k + 1)) + e / 2 ^ k % 2 := by
  rw [Nat.pow_succ, ← Nat.div_div_eq_div_mul]
  omega
set_option maxRecDepth 100000 in
theorem c_raise_loop (d : Nat) {a e : Nat} (ha : a < 65536) (he : e < 65536) (h : xHp) : ∀ k, k ≤ 16 → xe d 0 (6, [(4, .int (nI k - 1)), (2, .long (lN (a ^ (e / 2 ^ k) % 65521))), (0, .int (nI a)), (1, .int (nI e))], []) h (.inl (some (.int (nI (a ^ e % 65521)))), h) := by
  intro k
  induction k with
  | zero =>
    intro _
    refine xe_sn pg_0 1 (fr' := (8, [(4, .int (nI 0 - 1)), (2, .long (lN (a ^ (e / 2 ^ 0) % 65521))), (0, .int (nI a)), (1, .int (nI e))], [.int (nI 0 - 1)])) rfl ?_
    refine xe_t1 pg_0 43 rfl rfl (show xi_ci .lt (nI 0 - 1).toInt 0 from (by decide : (nI 0 - 1).toInt < 0)) ?_
    refine xe_sn pg_0 2 (fr' := (45, [(4, .int (nI 0 - 1)), (2, .long (lN (a ^ (e / 2 ^ 0) % 65521))), (0, .int (nI a)), (1, .int (nI e))], [.int (lN (a ^ (e / 2 ^ 0) % 65521)).toInt32])) rfl ?_
    rw [lN_i, Nat.pow_zero, Nat.div_one]
    exact xe_end pg_0 rfl
  | succ k ih =>
    intro hk
    rw [nI_pred]
    have hR : a ^ (e / 2 ^ (k + 1)) % 65521 < 65521 := rz_lt _
    have hm : a ^ (e / 2 ^ (k + 1)) % 65521 * (a ^ (e / 2 ^ (k + 1)) % 65521) ≤ 65521 * 65521 := Nat.mul_le_mul (by omega) (by omega)
    refine xe_sn pg_0 1 (fr' := (8, [(4, .int (nI k)), (2, .long (lN (a ^ (e / 2 ^ (k + 1)) % 65521))), (0, .int (nI a)), (1, .int (nI e))], [.int (nI k)])) rfl ?_
    refine xe_f1 pg_0 43 rfl rfl (show ¬ xi_ci .lt (nI k).toInt 0 from by
      show ¬ (nI k).toInt < 0
      rw [nI_toInt (by omega)]
      omega) ?_
    refine xe_sn pg_0 11 (fr' := (25, [(2, .long (lN (a ^ (e / 2 ^ (k + 1)) % 65521) * lN (a ^ (e / 2 ^ (k + 1)) % 65521) - lN (a ^ (e / 2 ^ (k + 1)) % 65521) * lN (a ^ (e / 2 ^ (k + 1)) % 65521) / lN 65521 * lN 65521)), (4, .int (nI k)), (0, .int (nI a)), (1, .int (nI e))], [.int (((nI e).toUInt32 >>> ((nI k).toUInt32 &&& Int32.toUInt32 31)).toInt32 &&& 1)])) rfl ?_
    rw [rz_bit he (by omega), lN_mul, rz_lrem _ (by omega), rz_sq]
    have e9 := rz_hd (e := e) (k := k)
    have hb : e / 2 ^ k % 2 = 0 ∨ e / 2 ^ k % 2 = 1 := by omega
    rcases hb with hb | hb
    · refine xe_t1 pg_0 37 rfl rfl (by rw [hb]; exact (by decide : (nI 0).toInt = 0)) ?_
      refine xe_sn pg_0 2 (fr' := (6, [(4, .int (nI k + (-1))), (2, .long (lN (a ^ (2 * (e / 2 ^ (k + 1))) % 65521))), (0, .int (nI a)), (1, .int (nI e))], [])) rfl ?_
      rw [rz_m1, show 2 * (e / 2 ^ (k + 1)) = e / 2 ^ k by omega]
      exact ih (by omega)
    · refine xe_f1 pg_0 37 rfl rfl (by rw [hb]; exact (by decide : ¬ (nI 1).toInt = 0)) ?_
      refine xe_sn pg_0 9 (fr' := (6, [(4, .int (nI k + (-1))), (2, .long (lN (a ^ (2 * (e / 2 ^ (k + 1))) % 65521) * (nI a).toInt64 - lN (a ^ (2 * (e / 2 ^ (k + 1))) % 65521) * (nI a).toInt64 / lN 65521 * lN 65521)), (0, .int (nI a)), (1, .int (nI e))], [])) rfl ?_
      have hR2 : a ^ (2 * (e / 2 ^ (k + 1))) % 65521 < 65521 := rz_lt _
      have hm2 : a ^ (2 * (e / 2 ^ (k + 1))) % 65521 * a ≤ 65521 * 65536 := Nat.mul_le_mul (by omega) (by omega)
      rw [nI_l (by omega), lN_mul, rz_lrem _ (by omega), rz_mu, rz_m1, show 2 * (e / 2 ^ (k + 1)) + 1 = e / 2 ^ k by omega]
      exact ih (by omega)
set_option maxRecDepth 100000 in
theorem c_raise (d : Nat) {a e : Nat} (ha : a < 65536) (he : e < 65536) (h : xHp) : xc d 0 [.int (nI a), .int (nI e)] h (.inl (some (.int (nI (a ^ e % 65521)))), h) := by
  refine xe_sn pg_0 4 (fr' := (6, [(4, .int 15), (2, .long (lN 1)), (0, .int (nI a)), (1, .int (nI e))], [])) rfl ?_
  have h1 := c_raise_loop d ha he h 16 (by omega)
  rw [show e / 2 ^ 16 = 0 by omega] at h1
  exact h1
/-- the model's way: the invariant is result * square ^ rest -/
theorem rz_inv0 {r s n : Nat} (hn : n % 2 = 0) : r * s ^ n % 65521 = r * (s * s % 65521) ^ (n / 2) % 65521 := by
  have e : n = 2 * (n / 2) := by omega
  conv => lhs; rw [e, Nat.pow_mul, Nat.pow_two]
  rw [Nat.mul_mod r, Nat.pow_mod, ← Nat.mul_mod_mod, Nat.mul_mod r ((s * s % 65521) ^ (n / 2)), Nat.pow_mod (s * s % 65521), Nat.mod_mod, Nat.mod_mod]
theorem rz_inv1 {r s n : Nat} (hn : n % 2 = 1) : r * s ^ n % 65521 = (r * s % 65521) * (s * s % 65521) ^ (n / 2) % 65521 := by
  have e : n = 2 * (n / 2) + 1 := by omega
  conv => lhs; rw [e, Nat.pow_succ, Nat.mul_comm (s ^ (2 * (n / 2))) s, ← Nat.mul_assoc, Nat.pow_mul, Nat.pow_two]
  rw [Nat.mul_mod (r * s), Nat.pow_mod, Nat.mul_mod_mod]
set_option maxRecDepth 100000 in
theorem m_raise_loop (d : Nat) {a e : Nat} (h : xHp) : ∀ n r s, n < 65536 → r < 65521 → s < 65521 → xe d 106 (12, [(6, .int (nI n)), (4, .long (lN s)), (2, .long (lN r)), (0, .int (nI a)), (1, .int (nI e))], []) h (.inl (some (.int (nI (r * s ^ n % 65521)))), h) := by
  intro n
  induction n using Nat.strongRecOn with
  | ind n ih =>
    intro r s hn hr hs
    refine xe_sn pg_106 1 (fr' := (14, [(6, .int (nI n)), (4, .long (lN s)), (2, .long (lN r)), (0, .int (nI a)), (1, .int (nI e))], [.int (nI n)])) rfl ?_
    by_cases h0 : n = 0
    · subst h0
      refine xe_t1 pg_106 58 rfl rfl (show xi_ci .le (nI 0).toInt 0 from (by decide : (nI 0).toInt ≤ 0)) ?_
      refine xe_sn pg_106 2 (fr' := (60, [(6, .int (nI 0)), (4, .long (lN s)), (2, .long (lN r)), (0, .int (nI a)), (1, .int (nI e))], [.int (lN r).toInt32])) rfl ?_
      rw [lN_i, Nat.pow_zero, Nat.mul_one, Nat.mod_eq_of_lt hr]
      exact xe_end pg_106 rfl
    · refine xe_f1 pg_106 58 rfl rfl (show ¬ xi_ci .le (nI n).toInt 0 from by
        show ¬ (nI n).toInt ≤ 0
        rw [nI_toInt (by omega)]
        omega) ?_
      refine xe_sn pg_106 4 (fr' := (22, [(6, .int (nI n)), (4, .long (lN s)), (2, .long (lN r)), (0, .int (nI a)), (1, .int (nI e))], [.int 1, .int (nI n - nI n / nI 2 * nI 2)])) rfl ?_
      rw [pk_rem (by omega) (by omega) (by omega)]
      have hs2 : s * s ≤ 65521 * 65521 := Nat.mul_le_mul (by omega) (by omega)
      have hrs : r * s ≤ 65521 * 65521 := Nat.mul_le_mul (by omega) (by omega)
      have fin : ∀ r', r' < 65521 → r * s ^ n % 65521 = r' * (s * s % 65521) ^ (n / 2) % 65521 → xe d 106 (37, [(6, .int (nI n)), (4, .long (lN s)), (2, .long (lN r)), (0, .int (nI a)), (1, .int (nI e))], [.long (lN r')]) h (.inl (some (.int (nI (r * s ^ n % 65521)))), h) := by
        intro r' hr' er
        refine xe_sn pg_106 7 (fr' := (49, [(4, .long (lN s * lN s - lN s * lN s / lN 65521 * lN 65521)), (2, .long (lN r')), (6, .int (nI n)), (0, .int (nI a)), (1, .int (nI e))], [])) rfl ?_
        rw [lN_mul, rz_lrem _ (by omega)]
        refine xe_sn pg_106 5 (fr' := (12, [(6, .int (nI n / nI 2)), (4, .long (lN (s * s % 65521))), (2, .long (lN r')), (0, .int (nI a)), (1, .int (nI e))], [])) rfl ?_
        rw [pk_div (by omega) (by omega) (by omega), er]
        exact ih (n / 2) (by omega) r' (s * s % 65521) (by omega) hr' (rz_lt _)
      have hb : n % 2 = 0 ∨ n % 2 = 1 := by omega
      rcases hb with hb | hb
      · refine xe_t2 pg_106 36 rfl rfl (by rw [hb]; exact (by decide : ¬ (nI 0).toInt = (1 : Int32).toInt)) ?_
        refine xe_sn pg_106 1 (fr' := (37, [(6, .int (nI n)), (4, .long (lN s)), (2, .long (lN r)), (0, .int (nI a)), (1, .int (nI e))], [.long (lN r)])) rfl ?_
        exact fin r hr (rz_inv0 hb)
      · refine xe_f2 pg_106 36 rfl rfl (by rw [hb]; exact (by decide : ¬ ¬ (nI 1).toInt = (1 : Int32).toInt)) ?_
        refine xe_sn pg_106 6 (fr' := (37, [(6, .int (nI n)), (4, .long (lN s)), (2, .long (lN r)), (0, .int (nI a)), (1, .int (nI e))], [.long (lN r * lN s - lN r * lN s / lN 65521 * lN 65521)])) rfl ?_
        rw [lN_mul, rz_lrem _ (by omega)]
        exact fin (r * s % 65521) (rz_lt _) (rz_inv1 hb)
set_option maxRecDepth 100000 in
theorem m_raise (d : Nat) {a e : Nat} (ha : a < 65536) (he : e < 65536) (h : xHp) : xc d 106 [.int (nI a), .int (nI e)] h (.inl (some (.int (nI (a ^ e % 65521)))), h) := by
  refine xe_sn pg_106 6 (fr' := (7, [(2, .long (lN 1)), (0, .int (nI a)), (1, .int (nI e))], [.long (nI a - nI a / nI 65521 * nI 65521).toInt64])) rfl ?_
  rw [pk_rem (by omega) (by omega) (by omega), nI_l (Nat.lt_trans (rz_lt a) (by omega))]
  refine xe_sn pg_106 3 (fr' := (12, [(6, .int (nI e)), (4, .long (lN (a % 65521))), (2, .long (lN 1)), (0, .int (nI a)), (1, .int (nI e))], [])) rfl ?_
  have h1 := m_raise_loop d (a := a) (e := e) h e 1 (a % 65521) he (by omega) (rz_lt a)
  rw [Nat.one_mul, ← Nat.pow_mod] at h1
  exact h1
