/-! steps over the heap of rows -/
section
variable {d m : Nat} {mi : xMi} {pc ix c k len a po n : Nat} {lv : List (Nat × Value)} {st : List Value} {w : xWd} {S : xSt} {μ : Nat → Nat → Int32} {ρ : Nat → Nat → Int64} {r : xRs} {h : xHp}
theorem ye_gi (hp : xpg[m]? = some mi) (v : Int32) (ht : xi_a (xi_tb mi) pc = some (.getfield ix, len)) (hf : xi_a (xfl.getD (xi_own mi) []) ix = some (c, k, po)) (hc' : xi_rf c k = false) (hk : a < 165 ∧ (xi_KK a).1 = c) (hv : mk S a k = v) (hr : xe d m (pc + 3, lv, .int v :: st) (hz w S μ ρ) r) : xe d m (pc, lv, .ref a :: st) (hz w S μ ρ) r := by
  subst hv
  exact xe_gi hp ht hf hc' hk hr
theorem ye_px (hp : xpg[m]? = some mi) {x : Int32} {R i : Nat} (ht : xi_a (xi_tb mi) pc = some (.putfield ix, len)) (hf : xi_a (xfl.getD (xi_own mi) []) ix = some (c, k, po)) (hc' : xi_rf c k = false ∧ xi_fn c k = false) (hb : xi_bo c k = false ∨ x = 0 ∨ x = 1) (hk : a < 165 ∧ (xi_KK a).1 = c) (hl : lx a k R i) (hr : xe d m (pc + 3, lv, st) (hz w (sx S R i x) μ ρ) r) : xe d m (pc, lv, .int x :: .ref a :: st) (hz w S μ ρ) r := by
  refine xe_pi hp ht hf hc' hb hk ?_
  have e := hl.wr (w := w) (S := S) (μ := μ) (ρ := ρ) x
  rw [hs_set_lo hl.1] at e
  rw [e]
  exact hr
theorem ye_py (hp : xpg[m]? = some mi) {x : Int32} {κ i : Nat} (ht : xi_a (xi_tb mi) pc = some (.putfield ix, len)) (hf : xi_a (xfl.getD (xi_own mi) []) ix = some (c, k, po)) (hc' : xi_rf c k = false ∧ xi_fn c k = false) (hb : xi_bo c k = false ∨ x = 0 ∨ x = 1) (hk : a < 165 ∧ (xi_KK a).1 = c) (hl : ly a k κ i) (hr : xe d m (pc + 3, lv, st) (hz w (sy S κ i x) μ ρ) r) : xe d m (pc, lv, .int x :: .ref a :: st) (hz w S μ ρ) r := by
  refine xe_pi hp ht hf hc' hb hk ?_
  have e := hl.wr (w := w) (S := S) (μ := μ) (ρ := ρ) x
  rw [hs_set_lo hl.1] at e
  rw [e]
  exact hr
theorem ye_il (hp : xpg[m]? = some mi) (j : Nat) (v : Int32) {i : Int32} (ht : xi_a (xi_tb mi) pc = some (.iaload, len)) (hk : a < 165 ∧ xi_KK a = (8, n)) (hi : bnd i n) (hj : i.toNatClampNeg = j) (hv : mk S a j = v) (hr : xe d m (pc + 1, lv, .int v :: st) (hz w S μ ρ) r) : xe d m (pc, lv, .int i :: .ref a :: st) (hz w S μ ρ) r := by
  subst hv
  exact xe_il hp j ht hk hi hj hr
theorem ye_bl (hp : xpg[m]? = some mi) (j : Nat) (v : Int32) {i : Int32} (ht : xi_a (xi_tb mi) pc = some (.baload, len)) (hk : a < 165 ∧ xi_KK a = (9, n)) (hi : bnd i n) (hj : i.toNatClampNeg = j) (hv : mk S a j = v) (hr : xe d m (pc + 1, lv, .int v :: st) (hz w S μ ρ) r) : xe d m (pc, lv, .int i :: .ref a :: st) (hz w S μ ρ) r := by
  subst hv
  exact xe_bl hp j ht hk hi hj hr
theorem ye_is (hp : xpg[m]? = some mi) (j : Nat) {R q : Nat} {i x : Int32} (ht : xi_a (xi_tb mi) pc = some (.iastore, len)) (hk : a < 165 ∧ xi_KK a = (8, n)) (hi : bnd i n) (hj : i.toNatClampNeg = j) (hl : lx a j R q) (hr : xe d m (pc + 1, lv, st) (hz w (sx S R q x) μ ρ) r) : xe d m (pc, lv, .int x :: .int i :: .ref a :: st) (hz w S μ ρ) r := by
  refine xe_is hp j ht hk hi hj ?_
  have e := hl.wr (w := w) (S := S) (μ := μ) (ρ := ρ) x
  rw [hs_set_lo hl.1] at e
  rw [e]
  exact hr
theorem ye_iy (hp : xpg[m]? = some mi) (j : Nat) {κ q : Nat} {i x : Int32} (ht : xi_a (xi_tb mi) pc = some (.iastore, len)) (hk : a < 165 ∧ xi_KK a = (8, n)) (hi : bnd i n) (hj : i.toNatClampNeg = j) (hl : ly a j κ q) (hr : xe d m (pc + 1, lv, st) (hz w (sy S κ q x) μ ρ) r) : xe d m (pc, lv, .int x :: .int i :: .ref a :: st) (hz w S μ ρ) r := by
  refine xe_is hp j ht hk hi hj ?_
  have e := hl.wr (w := w) (S := S) (μ := μ) (ρ := ρ) x
  rw [hs_set_lo hl.1] at e
  rw [e]
  exact hr
theorem ye_bs (hp : xpg[m]? = some mi) (j : Nat) {R q : Nat} {i x : Int32} (ht : xi_a (xi_tb mi) pc = some (.bastore, len)) (hk : a < 165 ∧ xi_KK a = (9, n)) (hi : bnd i n) (hj : i.toNatClampNeg = j) (hx : x = 0 ∨ x = 1) (hl : lx a j R q) (hr : xe d m (pc + 1, lv, st) (hz w (sx S R q x) μ ρ) r) : xe d m (pc, lv, .int x :: .int i :: .ref a :: st) (hz w S μ ρ) r := by
  refine xe_bs hp j ht hk hi hj hx ?_
  have e := hl.wr (w := w) (S := S) (μ := μ) (ρ := ρ) x
  rw [hs_set_lo hl.1] at e
  rw [e]
  exact hr
theorem xe_na (hp : xpg[m]? = some mi) (x y e : Nat) (ht : xi_a (xi_tb mi) pc = some (.iadd, len)) (he : x + y = e) (hr : xe d m (pc + 1, lv, .int (nI e) :: st) h r) : xe d m (pc, lv, .int (nI y) :: .int (nI x) :: st) h r := by
  subst he
  refine xe_1 hp ?_ hr
  unfold xi_st
  rw [show xi_a (xi_tb mi) ((pc, lv, Value.int (nI y) :: Value.int (nI x) :: st) : xFr).1 = some (.iadd, len) from ht]
  rw [← nI_add]
  rfl
theorem xe_nm (hp : xpg[m]? = some mi) (x y e : Nat) (ht : xi_a (xi_tb mi) pc = some (.imul, len)) (he : x * y = e) (hr : xe d m (pc + 1, lv, .int (nI e) :: st) h r) : xe d m (pc, lv, .int (nI y) :: .int (nI x) :: st) h r := by
  subst he
  refine xe_1 hp ?_ hr
  unfold xi_st
  rw [show xi_a (xi_tb mi) ((pc, lv, Value.int (nI y) :: Value.int (nI x) :: st) : xFr).1 = some (.imul, len) from ht]
  rw [← pk_mul]
  rfl
theorem xe_ns (hp : xpg[m]? = some mi) (x y e : Nat) (ht : xi_a (xi_tb mi) pc = some (.isub, len)) (he : x = e + y) (hr : xe d m (pc + 1, lv, .int (nI e) :: st) h r) : xe d m (pc, lv, .int (nI y) :: .int (nI x) :: st) h r := by
  subst he
  refine xe_1 hp ?_ hr
  unfold xi_st
  rw [show xi_a (xi_tb mi) ((pc, lv, Value.int (nI y) :: Value.int (nI (e + y)) :: st) : xFr).1 = some (.isub, len) from ht]
  have e9 : nI (e + y) - nI y = nI e := by rw [pk_sub (by omega), Nat.add_sub_cancel]
  rw [← e9]
  rfl
/-- any value for one that is equal -/
theorem xe_eq (x y : Int32) (he : x = y) (hr : xe d m (pc, lv, .int y :: st) h r) : xe d m (pc, lv, .int x :: st) h r := by
  subst he
  exact hr
end
abbrev ushr (x y : Int32) : Int32 := (x.toUInt32 >>> (y.toUInt32 &&& Int32.toUInt32 31)).toInt32
abbrev rem (x y : Int32) : Int32 := x - x / y * y
theorem sw_out {x : Int32} (lo hi : Int) (h1 : -2147483648 ≤ lo) (h2 : hi ≤ 2147483647) (h : ∀ j : Int, lo ≤ j → j ≤ hi → ¬ x = Int32.ofInt j) : x.toInt < lo ∨ hi < x.toInt := by
  by_cases c : x.toInt < lo ∨ hi < x.toInt
  · exact c
  · refine absurd ?_ (h x.toInt (by omega) (by omega))
    exact (Int32.ofInt_toInt x).symm
theorem bnd_lt {i : Int32} {n : Nat} (h : bnd i n) : i.toNatClampNeg < n := by
  have e : i.toNatClampNeg = i.toInt.toNat := rfl
  have := h.1
  have := h.2
  omega
