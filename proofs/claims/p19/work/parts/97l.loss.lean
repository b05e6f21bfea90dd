/-! loss, both sides: the same float; it is a number -/
theorem fl_ok {a : UInt32} (h : FP.Core.fIsNaN a = false) : a &&& 0x7fffffff ≤ 0x7f800000 := by
  have h1 : ¬ 2139095040 < a.toNat % 2 ^ 31 := fun q => by
    rw [(FP.Core.isNaN_bits32 a).mpr q] at h
    cases h
  rw [UInt32.le_iff_toNat_le, UInt32.toNat_and]
  show a.toNat &&& (2 ^ 31 - 1) ≤ 2139095040
  rw [Nat.and_two_pow_sub_one_eq_mod]
  omega
theorem db_ok {a : UInt64} (h : FP.Core.dIsNaN a = false) : a &&& 0x7fffffffffffffff ≤ 0x7ff0000000000000 := by
  have h1 : ¬ 9218868437227405312 < a.toNat % 2 ^ 63 := fun q => by
    rw [(FP.Core.isNaN_bits a).mpr q] at h
    cases h
  rw [UInt64.le_iff_toNat_le, UInt64.toNat_and]
  show a.toNat &&& (2 ^ 63 - 1) ≤ 9218868437227405312
  rw [Nat.and_two_pow_sub_one_eq_mod]
  omega
theorem d_ok {x : UInt32} (hn : FP.Core.fIsNaN x = false) : FP.Core.dIsNaN (FP.f2d x) = false := by
  unfold FP.f2d
  rw [hn]
  exact FP.Core.f2d_out hn
def lossF (X : Nat → Nat → Int32) : UInt32 := if X 165 3 + X 165 4 = 0 then FP.fconst0 else FP.fdiv (FP.i2f (X 165 4)) (FP.i2f (X 165 3 + X 165 4))
theorem ls_div {x y : Int32} (h : ¬ y = 0) : FP.Core.fIsNaN (FP.fdiv (FP.i2f x) (FP.i2f y)) = false := FP.Core.fdiv_out (FP.Core.i2f_fin x).notNaN (FP.Core.i2f_fin y) (fun z => FP.Core.i2f_ne_zero h ((FP.Core.zero_bits232 _).mp z))
theorem lossF_ok (X : Nat → Nat → Int32) : FP.Core.fIsNaN (lossF X) = false := by
  unfold lossF
  by_cases h : X 165 3 + X 165 4 = 0
  · rw [if_pos h]
    decide
  · rw [if_neg h]
    exact ls_div h
theorem xe_fd {d m : Nat} {mi : xMi} (hp : xpg[m]? = some mi) {pc len : Nat} {lv : List (Nat × Value)} {x y : UInt32} {st : List Value} {h : xHp} {r : xRs} (ht : xi_a (xi_tb mi) pc = some (.fdiv, len)) (hn : FP.Core.fIsNaN (FP.fdiv x y) = false) (hr : xe d m (pc + 1, lv, .float (FP.fdiv x y) :: st) h r) : xe d m (pc, lv, .float y :: .float x :: st) h r := by
  refine xe_1 hp ?_ hr
  unfold xi_st
  rw [show xi_a (xi_tb mi) ((pc, lv, Value.float y :: Value.float x :: st) : xFr).1 = some (.fdiv, len) from ht]
  show (xi_s1 _ _ _ .fdiv pc lv (.float y :: .float x :: st) h).map Sum.inl = _
  unfold xi_s1
  dsimp only
  rw [if_pos (fl_ok hn)]
  rfl
theorem xe_f2d {d m : Nat} {mi : xMi} (hp : xpg[m]? = some mi) {pc len : Nat} {lv : List (Nat × Value)} {x : UInt32} {st : List Value} {h : xHp} {r : xRs} (ht : xi_a (xi_tb mi) pc = some (.f2d, len)) (hn : FP.Core.fIsNaN x = false) (hr : xe d m (pc + 1, lv, .double (FP.f2d x) :: st) h r) : xe d m (pc, lv, .float x :: st) h r := by
  refine xe_1 hp ?_ hr
  unfold xi_st
  rw [show xi_a (xi_tb mi) ((pc, lv, Value.float x :: st) : xFr).1 = some (.f2d, len) from ht]
  show (xi_s1 _ _ _ .f2d pc lv (.float x :: st) h).map Sum.inl = _
  unfold xi_s1
  dsimp only
  rw [if_pos (show FP.f2d x &&& 0x7fffffffffffffff ≤ 0x7ff0000000000000 from db_ok (d_ok hn))]
  rfl
set_option maxRecDepth 100000 in
theorem c_loss (d : Nat) {w : xWd} {S : xSt} {μ : Nat → Nat → Int32} {ρ : Nat → Nat → Int64} : xc d 90 [.ref 0] (hz w S μ ρ) (.inl (some (.float (lossF S.1))), hz w S μ ρ) := by
  refine xe_sn pg_90 1 (fr' := (1, [(0, .ref 0)], [.ref 0])) rfl ?_
  refine ye_gi pg_90 (S.1 165 3) rfl rfl rfl (kk1 k_O) (l_came.rd _) ?_
  refine xe_sn pg_90 1 (fr' := (5, [(0, .ref 0)], [.ref 0, .int (S.1 165 3)])) rfl ?_
  refine xe_gr pg_90 1 rfl rfl rfl (kk1 k_O) rfl ?_
  refine ye_gi pg_90 (S.1 165 4) rfl rfl rfl (kk1 k_W) (l_lost.rd _) ?_
  refine xe_sn pg_90 3 (fr' := (14, [(1, .int (S.1 165 3 + S.1 165 4)), (0, .ref 0)], [.int (S.1 165 3 + S.1 165 4)])) rfl ?_
  by_cases h : S.1 165 3 + S.1 165 4 = 0
  · rw [show lossF S.1 = FP.fconst0 from if_pos h]
    refine xe_c1f pg_90 21 rfl rfl (fun z => z h) ?_
    refine xe_sn pg_90 2 (fr' := (32, [(1, .int (S.1 165 3 + S.1 165 4)), (0, .ref 0)], [.float FP.fconst0])) rfl ?_
    exact xe_end pg_90 rfl
  · rw [show lossF S.1 = FP.fdiv (FP.i2f (S.1 165 4)) (FP.i2f (S.1 165 3 + S.1 165 4)) from if_neg h]
    refine xe_c1t pg_90 21 rfl rfl h ?_
    refine xe_sn pg_90 1 (fr' := (22, [(1, .int (S.1 165 3 + S.1 165 4)), (0, .ref 0)], [.ref 0])) rfl ?_
    refine xe_gr pg_90 1 rfl rfl rfl (kk1 k_O) rfl ?_
    refine ye_gi pg_90 (S.1 165 4) rfl rfl rfl (kk1 k_W) (l_lost.rd _) ?_
    refine xe_sn pg_90 3 (fr' := (31, [(1, .int (S.1 165 3 + S.1 165 4)), (0, .ref 0)], [.float (FP.i2f (S.1 165 3 + S.1 165 4)), .float (FP.i2f (S.1 165 4))])) rfl ?_
    refine xe_fd pg_90 rfl (ls_div h) ?_
    exact xe_end pg_90 rfl
set_option maxRecDepth 100000 in
theorem cg_loss (d : Nat) {w : xWd} {S : xSt} {V : xVt} {ρ : Nat → Nat → Int64} : xc d 159 [.ref 165] (hv w S V ρ) (.inl (some (.float (lossF V.1))), hv w S (vn V 165 0 0) ρ) := by
  refine xe_sn pg_159 2 (fr' := (2, [(0, .ref 165)], [.int 0, .ref 165])) rfl ?_
  refine ze_pn pg_159 rfl rfl ⟨rfl, rfl⟩ (Or.inl rfl) (by decide) ?_
  refine xe_sn pg_159 1 (fr' := (6, [(0, .ref 165)], [.ref 165])) rfl ?_
  refine ze_gi pg_159 (V.1 165 3) rfl rfl rfl rfl ?_
  refine xe_sn pg_159 1 (fr' := (10, [(0, .ref 165)], [.ref 165, .int (V.1 165 3)])) rfl ?_
  refine ze_gi pg_159 (V.1 165 4) rfl rfl rfl rfl ?_
  refine xe_sn pg_159 1 (fr' := (14, [(0, .ref 165)], [.int (V.1 165 3 + V.1 165 4)])) rfl ?_
  by_cases h : V.1 165 3 + V.1 165 4 = 0
  · rw [show lossF V.1 = FP.fconst0 from if_pos h]
    refine xe_c1f pg_159 19 rfl rfl (fun z => z h) ?_
    refine xe_sn pg_159 1 (fr' := (18, [(0, .ref 165)], [.float FP.fconst0])) rfl ?_
    exact xe_end pg_159 rfl
  · rw [show lossF V.1 = FP.fdiv (FP.i2f (V.1 165 4)) (FP.i2f (V.1 165 3 + V.1 165 4)) from if_neg h]
    refine xe_c1t pg_159 19 rfl rfl h ?_
    refine xe_sn pg_159 1 (fr' := (20, [(0, .ref 165)], [.ref 165])) rfl ?_
    refine ze_gi pg_159 (V.1 165 4) rfl rfl rfl rfl ?_
    refine xe_sn pg_159 3 (fr' := (26, [(1, .float (FP.i2f (V.1 165 4))), (0, .ref 165)], [.ref 165])) rfl ?_
    refine ze_gi pg_159 (V.1 165 3) rfl rfl rfl rfl ?_
    refine xe_sn pg_159 1 (fr' := (30, [(1, .float (FP.i2f (V.1 165 4))), (0, .ref 165)], [.ref 165, .int (V.1 165 3)])) rfl ?_
    refine ze_gi pg_159 (V.1 165 4) rfl rfl rfl rfl ?_
    refine xe_sn pg_159 5 (fr' := (38, [(2, .float (FP.i2f (V.1 165 3 + V.1 165 4))), (1, .float (FP.i2f (V.1 165 4))), (0, .ref 165)], [.float (FP.i2f (V.1 165 3 + V.1 165 4)), .float (FP.i2f (V.1 165 4))])) rfl ?_
    refine xe_fd pg_159 rfl (ls_div h) ?_
    exact xe_end pg_159 rfl
