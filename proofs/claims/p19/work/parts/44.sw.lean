/-! branches taken by a proof; switches -/
theorem xe_c2t {d m : Nat} {mi : xMi} (hp : xpg[m]? = some mi) {c : ClassFile.Cond} {off : Int} {len pc : Nat} (t : Nat) {lv : List (Nat × Value)} {x y : Int32} {st : List Value} {h : xHp} {r : xRs} (ht : xi_a (xi_tb mi) pc = some (.if_icmp c off, len)) (ho : (pc : Int) + off = (t : Int)) (hc : xi_cp c x y) (k : xe d m (t, lv, st) h r) : xe d m (pc, lv, .int y :: .int x :: st) h r :=
  xe_if2 hp t ht ho (fun _ => k) (fun q => absurd hc q)
theorem xe_c2f {d m : Nat} {mi : xMi} (hp : xpg[m]? = some mi) {c : ClassFile.Cond} {off : Int} {len pc : Nat} (t : Nat) {lv : List (Nat × Value)} {x y : Int32} {st : List Value} {h : xHp} {r : xRs} (ht : xi_a (xi_tb mi) pc = some (.if_icmp c off, len)) (ho : (pc : Int) + off = (t : Int)) (hc : ¬ xi_cp c x y) (k : xe d m (pc + 3, lv, st) h r) : xe d m (pc, lv, .int y :: .int x :: st) h r :=
  xe_if2 hp t ht ho (fun q => absurd q hc) (fun _ => k)
theorem xe_c1t {d m : Nat} {mi : xMi} (hp : xpg[m]? = some mi) {c : ClassFile.Cond} {off : Int} {len pc : Nat} (t : Nat) {lv : List (Nat × Value)} {x : Int32} {st : List Value} {h : xHp} {r : xRs} (ht : xi_a (xi_tb mi) pc = some (.ifCond c off, len)) (ho : (pc : Int) + off = (t : Int)) (hc : xi_cp c x 0) (k : xe d m (t, lv, st) h r) : xe d m (pc, lv, .int x :: st) h r :=
  xe_if1 hp t ht ho (fun _ => k) (fun q => absurd hc q)
theorem xe_c1f {d m : Nat} {mi : xMi} (hp : xpg[m]? = some mi) {c : ClassFile.Cond} {off : Int} {len pc : Nat} (t : Nat) {lv : List (Nat × Value)} {x : Int32} {st : List Value} {h : xHp} {r : xRs} (ht : xi_a (xi_tb mi) pc = some (.ifCond c off, len)) (ho : (pc : Int) + off = (t : Int)) (hc : ¬ xi_cp c x 0) (k : xe d m (pc + 3, lv, st) h r) : xe d m (pc, lv, .int x :: st) h r :=
  xe_if1 hp t ht ho (fun q => absurd q hc) (fun _ => k)
theorem xe_sw {d m : Nat} {mi : xMi} (hp : xpg[m]? = some mi) {pc : Nat} (t : Nat) {lv : List (Nat × Value)} {x n : Int32} {st : List Value} {h : xHp} {r : xRs} (hx : x = n) (hs : xi_st d xi_no mi (pc, lv, .int n :: st) h = some (.inl ((t, lv, st), h))) (hr : xe d m (t, lv, st) h r) : xe d m (pc, lv, .int x :: st) h r := by
  subst hx
  exact xe_1 hp hs hr
theorem xe_tsd {d m : Nat} {mi : xMi} (hp : xpg[m]? = some mi) {pc len : Nat} {dflt lo hi : Int} {offs : Array Int} (t : Nat) {lv : List (Nat × Value)} {x : Int32} {st : List Value} {h : xHp} {r : xRs} (ht : xi_a (xi_tb mi) pc = some (.tableswitch dflt lo hi offs, len)) (ho : (pc : Int) + dflt = (t : Int)) (hx : x.toInt < lo ∨ hi < x.toInt) (hr : xe d m (t, lv, st) h r) : xe d m (pc, lv, .int x :: st) h r := by
  refine xe_1 hp ?_ hr
  unfold xi_st
  rw [show xi_a (xi_tb mi) ((pc, lv, Value.int x :: st) : xFr).1 = some (.tableswitch dflt lo hi offs, len) from ht]
  show (xi_s1 _ _ _ (.tableswitch dflt lo hi offs) pc lv (.int x :: st) h).map Sum.inl = _
  unfold xi_s1
  dsimp only
  rw [if_pos hx]
  unfold xi_go
  rw [ho, if_pos (Int.natCast_nonneg t)]
  rfl
/-- a truth value is answered -/
theorem xe_rb {d m : Nat} {mi : xMi} (hp : xpg[m]? = some mi) {pc len : Nat} {lv : List (Nat × Value)} {v : Int32} {h : xHp} (ht : xi_a (xi_tb mi) pc = some (.ireturn, len)) (hr : xi_rt mi = some .boolean) (hv : v = 0 ∨ v = 1) : xe d m (pc, lv, [.int v]) h (.inl (some (.int v)), h) := by
  refine xe_end hp ?_
  unfold xi_st
  rw [show xi_a (xi_tb mi) ((pc, lv, [Value.int v]) : xFr).1 = some (.ireturn, len) from ht]
  dsimp only
  rw [hr]
  dsimp only
  rw [if_pos hv]
theorem xe_callq {d m : Nat} {mi : xMi} (hp : xpg[m]? = some mi) (m' : Nat) (av : List Value) (v : Option Value ⊕ Nat) {h1 : xHp} (fr' : xFr) {fr : xFr} {h : xHp} {r : xRs} (ha : xi_ca mi fr = some (m', av)) (hs : ∀ h1, xi_st (d + 1) (fun _ _ _ => some (v, h1)) mi fr h = some (.inl (fr', h1))) (hc : xc d m' av h (v, h1)) (hr : xe (d + 1) m fr' h1 r) : xe (d + 1) m fr h r := xe_call hp ha hc (hs h1) hr
theorem xe_callqx {d m : Nat} {mi : xMi} (hp : xpg[m]? = some mi) (m' : Nat) (av : List Value) (E : Nat) {h1 : xHp} {fr : xFr} {h : xHp} (ha : xi_ca mi fr = some (m', av)) (hs : ∀ h1, xi_st (d + 1) (fun _ _ _ => some (.inr E, h1)) mi fr h = some (.inr (.inr E, h1))) (hc : xc d m' av h (.inr E, h1)) : xe (d + 1) m fr h (.inr E, h1) := xe_callx hp ha hc (hs h1)
theorem lf_nat (p : Int32) (lo hi : Nat) (a : (lo : Int) ≤ p.toInt) (b : p.toInt ≤ (hi : Int)) : ∃ e : Nat, lo ≤ e ∧ e ≤ hi ∧ p = nI e := by
  obtain ⟨j, hj, rfl⟩ := nI_of (x := p) (fun q => by
    rw [Int32.lt_iff_toInt_lt] at q
    have : (0 : Int32).toInt = 0 := rfl
    omega)
  rw [nI_toInt hj] at a b
  exact ⟨j, by omega, by omega, rfl⟩

