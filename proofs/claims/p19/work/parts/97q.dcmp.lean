/-! the comparison of a double that is a number with itself -/
theorem ls_cmp (X : Nat → Nat → Int32) : FP.dcmp (FP.f2d (lossF X)) (FP.f2d (lossF X)) = some .eq := FP.Core.dcmp_self ((FP.Core.notNaN_iff _).mp (d_ok (lossF_ok X)))
theorem xe_dce {d m : Nat} {mi : xMi} (hp : xpg[m]? = some mi) {pc len : Nat} {op : ClassFile.CmpOp} {lv : List (Nat × Value)} {x y : UInt64} {st : List Value} {h : xHp} {r : xRs} (ht : xi_a (xi_tb mi) pc = some (.dcmp op, len)) (hn : FP.dcmp x y = some .eq) (hr : xe d m (pc + 1, lv, .int 0 :: st) h r) : xe d m (pc, lv, .double y :: .double x :: st) h r := by
  refine xe_1 hp ?_ hr
  unfold xi_st
  rw [show xi_a (xi_tb mi) ((pc, lv, Value.double y :: Value.double x :: st) : xFr).1 = some (.dcmp op, len) from ht]
  show (xi_s1 _ _ _ (.dcmp op) pc lv (.double y :: .double x :: st) h).map Sum.inl = _
  unfold xi_s1
  dsimp only
  rw [hn]
  rfl
