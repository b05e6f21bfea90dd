/-! the heap of a run: the ints of the class's objects (below 165) and those of the reference's apart; the cells' row by q -/
def mrg (σ μ : Nat → Nat → Int32) : Nat → Nat → Int32 := fun a k => if a < 165 then σ a k else μ a k
def xi_RP (q : Nat → Nat) (i j : Nat) : Option Nat := if i = 2 ∧ j < 20 then some (q j) else if i = 1 ∧ j = 4 then some (q 20) else xi_RR i j
abbrev xWd : Type := Bool × Nat × Nat × Nat × (Nat → Int32)
def hs (w : xWd) (σ μ : Nat → Nat → Int32) (ρ : Nat → Nat → Int64) (q : Nat → Nat) : xHp := ((w.1, 190, w.2.1, w.2.2.1, w.2.2.2.1, w.2.2.2.2), xi_KK, mrg σ μ, ρ, xi_RP q)
theorem mrg_lo {σ μ : Nat → Nat → Int32} {a : Nat} (h : a < 165) (k : Nat) : mrg σ μ a k = σ a k := if_pos h
theorem mrg_hi {σ μ : Nat → Nat → Int32} {a : Nat} (h : 165 ≤ a) (k : Nat) : mrg σ μ a k = μ a k := if_neg (by omega)
theorem u2_same {α : Type} (f : Nat → Nat → α) (a k : Nat) (v : α) : xi_u2 f a k v a k = v := by
  unfold xi_u2
  rw [if_pos rfl, if_pos rfl]
theorem u2_ne {α : Type} (f : Nat → Nat → α) {a k b j : Nat} (v : α) (h : b ≠ a ∨ j ≠ k) : xi_u2 f a k v b j = f b j := by
  unfold xi_u2
  by_cases h1 : b = a
  · rw [if_pos h1, if_neg (by omega)]
  · rw [if_neg h1]
theorem u2_at {α : Type} (f : Nat → Nat → α) (a k : Nat) (v : α) (b j : Nat) : xi_u2 f a k v b j = if b = a ∧ j = k then v else f b j := by
  by_cases h : b = a ∧ j = k
  · obtain ⟨rfl, rfl⟩ := h
    rw [u2_same, if_pos ⟨rfl, rfl⟩]
  · rw [u2_ne _ _ (by omega), if_neg h]
theorem mrg_set_lo {σ μ : Nat → Nat → Int32} {a : Nat} (h : a < 165) (k : Nat) (v : Int32) : xi_u2 (mrg σ μ) a k v = mrg (xi_u2 σ a k v) μ := by
  funext b j
  by_cases hb : b < 165
  · rw [mrg_lo hb, u2_at, u2_at, mrg_lo hb]
  · rw [mrg_hi (by omega), u2_ne _ _ (by omega), mrg_hi (by omega)]
theorem mrg_set_hi {σ μ : Nat → Nat → Int32} {a : Nat} (h : 165 ≤ a) (k : Nat) (v : Int32) : xi_u2 (mrg σ μ) a k v = mrg σ (xi_u2 μ a k v) := by
  funext b j
  by_cases hb : b < 165
  · rw [mrg_lo hb, u2_ne _ _ (by omega), mrg_lo hb]
  · rw [mrg_hi (by omega), u2_at, u2_at, mrg_hi (by omega)]
theorem hs_set_lo {w : xWd} {σ μ : Nat → Nat → Int32} {ρ : Nat → Nat → Int64} {q : Nat → Nat} {a : Nat} (h : a < 165) (k : Nat) (v : Int32) : xi_setI (hs w σ μ ρ q) a k v = hs w (xi_u2 σ a k v) μ ρ q := by
  show (_, _, xi_u2 (mrg σ μ) a k v, _, _) = _
  rw [mrg_set_lo h]
  rfl
theorem hs_set_hi {w : xWd} {σ μ : Nat → Nat → Int32} {ρ : Nat → Nat → Int64} {q : Nat → Nat} {a : Nat} (h : 165 ≤ a) (k : Nat) (v : Int32) : xi_setI (hs w σ μ ρ q) a k v = hs w σ (xi_u2 μ a k v) ρ q := by
  show (_, _, xi_u2 (mrg σ μ) a k v, _, _) = _
  rw [mrg_set_hi h]
  rfl
theorem hs_I_lo {w : xWd} {σ μ : Nat → Nat → Int32} {ρ : Nat → Nat → Int64} {q : Nat → Nat} {a : Nat} (h : a < 165) (k : Nat) : hI (hs w σ μ ρ q) a k = σ a k := mrg_lo h k
theorem hs_I_hi {w : xWd} {σ μ : Nat → Nat → Int32} {ρ : Nat → Nat → Int64} {q : Nat → Nat} {a : Nat} (h : 165 ≤ a) (k : Nat) : hI (hs w σ μ ρ q) a k = μ a k := mrg_hi h k
theorem xe_1 {d m : Nat} {mi : xMi} (hp : xpg[m]? = some mi) {fr fr' : xFr} {h h' : xHp} {r : xRs} (hs : xi_st d xi_no mi fr h = some (.inl (fr', h'))) (hr : xe d m fr' h' r) : xe d m fr h r :=
  xe_sn hp 1 (by unfold xi_sn; rw [hs]; rfl) hr
/-- getfield of an int -/
theorem xe_gi {d m : Nat} {mi : xMi} (hp : xpg[m]? = some mi) {pc ix c k len a po : Nat} {lv : List (Nat × Value)} {st : List Value} {w : xWd} {σ μ : Nat → Nat → Int32} {ρ : Nat → Nat → Int64} {q : Nat → Nat} {r : xRs} (ht : xi_a (xi_tb mi) pc = some (.getfield ix, len)) (hf : xi_a (xfl.getD (xi_own mi) []) ix = some (c, k, po)) (hc : xi_rf c k = false) (hk : a < 165 ∧ (xi_KK a).1 = c) (hr : xe d m (pc + 3, lv, .int (σ a k) :: st) (hs w σ μ ρ q) r) : xe d m (pc, lv, .ref a :: st) (hs w σ μ ρ q) r := by
  refine xe_1 hp ?_ hr
  unfold xi_st
  rw [show xi_a (xi_tb mi) ((pc, lv, Value.ref a :: st) : xFr).1 = some (.getfield ix, len) from ht]
  show (xi_s1 _ _ _ (.getfield ix) pc lv (.ref a :: st) (hs w σ μ ρ q)).map Sum.inl = _
  unfold xi_s1
  dsimp only
  rw [hf]
  dsimp only
  rw [if_pos ⟨show a < 190 by omega, hk.2⟩]
  unfold xi_fv
  rw [hc, hs_I_lo hk.1]
  rfl
/-- getfield of a reference -/
theorem xe_gr {d m : Nat} {mi : xMi} (hp : xpg[m]? = some mi) {pc ix c k len a po : Nat} (b : Nat) {lv : List (Nat × Value)} {st : List Value} {w : xWd} {σ μ : Nat → Nat → Int32} {ρ : Nat → Nat → Int64} {q : Nat → Nat} {r : xRs} (ht : xi_a (xi_tb mi) pc = some (.getfield ix, len)) (hf : xi_a (xfl.getD (xi_own mi) []) ix = some (c, k, po)) (hc : xi_rf c k = true) (hk : a < 165 ∧ (xi_KK a).1 = c) (hb : xi_RP q a k = some b) (hr : xe d m (pc + 3, lv, .ref b :: st) (hs w σ μ ρ q) r) : xe d m (pc, lv, .ref a :: st) (hs w σ μ ρ q) r := by
  refine xe_1 hp ?_ hr
  unfold xi_st
  rw [show xi_a (xi_tb mi) ((pc, lv, Value.ref a :: st) : xFr).1 = some (.getfield ix, len) from ht]
  show (xi_s1 _ _ _ (.getfield ix) pc lv (.ref a :: st) (hs w σ μ ρ q)).map Sum.inl = _
  unfold xi_s1
  dsimp only
  rw [hf]
  dsimp only
  rw [if_pos ⟨show a < 190 by omega, hk.2⟩]
  unfold xi_fv
  rw [hc, show hR (hs w σ μ ρ q) a k = some b from hb]
  rfl
/-- putfield of an int or a truth value -/
theorem xe_pi {d m : Nat} {mi : xMi} (hp : xpg[m]? = some mi) {pc ix c k len a po : Nat} {x : Int32} {lv : List (Nat × Value)} {st : List Value} {w : xWd} {σ μ : Nat → Nat → Int32} {ρ : Nat → Nat → Int64} {q : Nat → Nat} {r : xRs} (ht : xi_a (xi_tb mi) pc = some (.putfield ix, len)) (hf : xi_a (xfl.getD (xi_own mi) []) ix = some (c, k, po)) (hc : xi_rf c k = false ∧ xi_fn c k = false) (hb : xi_bo c k = false ∨ x = 0 ∨ x = 1) (hk : a < 165 ∧ (xi_KK a).1 = c) (hr : xe d m (pc + 3, lv, st) (hs w (xi_u2 σ a k x) μ ρ q) r) : xe d m (pc, lv, .int x :: .ref a :: st) (hs w σ μ ρ q) r := by
  refine xe_1 hp (h' := hs w (xi_u2 σ a k x) μ ρ q) ?_ hr
  unfold xi_st
  rw [show xi_a (xi_tb mi) ((pc, lv, Value.int x :: Value.ref a :: st) : xFr).1 = some (.putfield ix, len) from ht]
  show (xi_s1 _ _ _ (.putfield ix) pc lv (.int x :: .ref a :: st) (hs w σ μ ρ q)).map Sum.inl = _
  unfold xi_s1
  dsimp only
  rw [hf]
  dsimp only
  rw [if_pos ⟨show a < 190 by omega, hk.2, hc.1, hb, Or.inl hc.2⟩, hs_set_lo hk.1]
  rfl
/-- the same, of the reference's object -/
theorem xe_pm {d m : Nat} {mi : xMi} (hp : xpg[m]? = some mi) {pc ix k len po : Nat} {x : Int32} {lv : List (Nat × Value)} {st : List Value} {w : xWd} {σ μ : Nat → Nat → Int32} {ρ : Nat → Nat → Int64} {q : Nat → Nat} {r : xRs} (ht : xi_a (xi_tb mi) pc = some (.putfield ix, len)) (hf : xi_a (xfl.getD (xi_own mi) []) ix = some (7, k, po)) (hc : xi_rf 7 k = false ∧ xi_fn 7 k = false) (hb : xi_bo 7 k = false ∨ x = 0 ∨ x = 1) (hr : xe d m (pc + 3, lv, st) (hs w σ (xi_u2 μ 165 k x) ρ q) r) : xe d m (pc, lv, .int x :: .ref 165 :: st) (hs w σ μ ρ q) r := by
  refine xe_1 hp (h' := hs w σ (xi_u2 μ 165 k x) ρ q) ?_ hr
  unfold xi_st
  rw [show xi_a (xi_tb mi) ((pc, lv, Value.int x :: Value.ref 165 :: st) : xFr).1 = some (.putfield ix, len) from ht]
  show (xi_s1 _ _ _ (.putfield ix) pc lv (.int x :: .ref 165 :: st) (hs w σ μ ρ q)).map Sum.inl = _
  unfold xi_s1
  dsimp only
  rw [hf]
  dsimp only
  rw [if_pos ⟨show 165 < 190 by decide, show (xi_KK 165).1 = 7 from rfl, hc.1, hb, Or.inl hc.2⟩, hs_set_hi (Nat.le_refl _)]
  rfl
/-- i is a place of a row of n -/
abbrev bnd (i : Int32) (n : Nat) : Prop := 0 ≤ i.toInt ∧ i.toInt < (n : Int)
theorem bnd_in {w : xWd} {σ μ : Nat → Nat → Int32} {ρ : Nat → Nat → Int64} {q : Nat → Nat} {a k n : Nat} {i : Int32} (ha : a < 190) (hk : xi_KK a = (k, n)) (hi : bnd i n) : xi_in (hs w σ μ ρ q) a k i = true := by
  unfold xi_in
  have h1 : ¬ i < 0 := by
    rw [Int32.lt_iff_toInt_lt]
    have := hi.1
    have e : (0 : Int32).toInt = 0 := rfl
    omega
  have h2 : i.toNatClampNeg < n := by
    have e : i.toNatClampNeg = i.toInt.toNat := rfl
    have := hi.1
    have := hi.2
    omega
  simp only [Bool.and_eq_true, Bool.not_eq_true', decide_eq_true_eq, decide_eq_false_iff_not]
  exact ⟨⟨⟨h1, ha⟩, by rw [show hK (hs w σ μ ρ q) a = (k, n) from hk]⟩, by rw [show hK (hs w σ μ ρ q) a = (k, n) from hk]; exact h2⟩
theorem bnd_scr {i : Int32} {a : Nat} (ha : a < 190) : ¬ a = xi_scr := by
  unfold xi_scr
  omega
/-- a load out of a row of ints -/
theorem xe_il {d m : Nat} {mi : xMi} (hp : xpg[m]? = some mi) (j : Nat) {pc len a n : Nat} {i : Int32} {lv : List (Nat × Value)} {st : List Value} {w : xWd} {σ μ : Nat → Nat → Int32} {ρ : Nat → Nat → Int64} {q : Nat → Nat} {r : xRs} (ht : xi_a (xi_tb mi) pc = some (.iaload, len)) (hk : a < 165 ∧ xi_KK a = (8, n)) (hi : bnd i n) (hj : i.toNatClampNeg = j) (hr : xe d m (pc + 1, lv, .int (σ a j) :: st) (hs w σ μ ρ q) r) : xe d m (pc, lv, .int i :: .ref a :: st) (hs w σ μ ρ q) r := by
  subst hj
  refine xe_1 hp ?_ hr
  unfold xi_st
  rw [show xi_a (xi_tb mi) ((pc, lv, Value.int i :: Value.ref a :: st) : xFr).1 = some (.iaload, len) from ht]
  show (xi_s1 _ _ _ .iaload pc lv (.int i :: .ref a :: st) (hs w σ μ ρ q)).map Sum.inl = _
  unfold xi_s1
  dsimp only
  rw [if_neg (bnd_scr (i := i) (by omega)), if_pos (bnd_in (by omega) hk.2 hi), hs_I_lo hk.1]
  rfl
theorem xe_ilm {d m : Nat} {mi : xMi} (hp : xpg[m]? = some mi) (j : Nat) {pc len a n : Nat} {i : Int32} {lv : List (Nat × Value)} {st : List Value} {w : xWd} {σ μ : Nat → Nat → Int32} {ρ : Nat → Nat → Int64} {q : Nat → Nat} {r : xRs} (ht : xi_a (xi_tb mi) pc = some (.iaload, len)) (ha : 165 ≤ a ∧ a < 190) (hk : xi_KK a = (8, n)) (hi : bnd i n) (hj : i.toNatClampNeg = j) (hr : xe d m (pc + 1, lv, .int (μ a j) :: st) (hs w σ μ ρ q) r) : xe d m (pc, lv, .int i :: .ref a :: st) (hs w σ μ ρ q) r := by
  subst hj
  refine xe_1 hp ?_ hr
  unfold xi_st
  rw [show xi_a (xi_tb mi) ((pc, lv, Value.int i :: Value.ref a :: st) : xFr).1 = some (.iaload, len) from ht]
  show (xi_s1 _ _ _ .iaload pc lv (.int i :: .ref a :: st) (hs w σ μ ρ q)).map Sum.inl = _
  unfold xi_s1
  dsimp only
  rw [if_neg (bnd_scr (i := i) (by omega)), if_pos (bnd_in (by omega) hk hi), hs_I_hi ha.1]
  rfl
/-- the same, of truth values -/
theorem xe_bl {d m : Nat} {mi : xMi} (hp : xpg[m]? = some mi) (j : Nat) {pc len a n : Nat} {i : Int32} {lv : List (Nat × Value)} {st : List Value} {w : xWd} {σ μ : Nat → Nat → Int32} {ρ : Nat → Nat → Int64} {q : Nat → Nat} {r : xRs} (ht : xi_a (xi_tb mi) pc = some (.baload, len)) (hk : a < 165 ∧ xi_KK a = (9, n)) (hi : bnd i n) (hj : i.toNatClampNeg = j) (hr : xe d m (pc + 1, lv, .int (σ a j) :: st) (hs w σ μ ρ q) r) : xe d m (pc, lv, .int i :: .ref a :: st) (hs w σ μ ρ q) r := by
  subst hj
  refine xe_1 hp ?_ hr
  unfold xi_st
  rw [show xi_a (xi_tb mi) ((pc, lv, Value.int i :: Value.ref a :: st) : xFr).1 = some (.baload, len) from ht]
  show (xi_s1 _ _ _ .baload pc lv (.int i :: .ref a :: st) (hs w σ μ ρ q)).map Sum.inl = _
  unfold xi_s1
  dsimp only
  rw [if_pos (bnd_in (by omega) hk.2 hi), hs_I_lo hk.1]
  rfl
theorem xe_blm {d m : Nat} {mi : xMi} (hp : xpg[m]? = some mi) (j : Nat) {pc len a n : Nat} {i : Int32} {lv : List (Nat × Value)} {st : List Value} {w : xWd} {σ μ : Nat → Nat → Int32} {ρ : Nat → Nat → Int64} {q : Nat → Nat} {r : xRs} (ht : xi_a (xi_tb mi) pc = some (.baload, len)) (ha : 165 ≤ a ∧ a < 190) (hk : xi_KK a = (9, n)) (hi : bnd i n) (hj : i.toNatClampNeg = j) (hr : xe d m (pc + 1, lv, .int (μ a j) :: st) (hs w σ μ ρ q) r) : xe d m (pc, lv, .int i :: .ref a :: st) (hs w σ μ ρ q) r := by
  subst hj
  refine xe_1 hp ?_ hr
  unfold xi_st
  rw [show xi_a (xi_tb mi) ((pc, lv, Value.int i :: Value.ref a :: st) : xFr).1 = some (.baload, len) from ht]
  show (xi_s1 _ _ _ .baload pc lv (.int i :: .ref a :: st) (hs w σ μ ρ q)).map Sum.inl = _
  unfold xi_s1
  dsimp only
  rw [if_pos (bnd_in (by omega) hk hi), hs_I_hi ha.1]
  rfl
/-- a store into a row of ints -/
theorem xe_is {d m : Nat} {mi : xMi} (hp : xpg[m]? = some mi) (j : Nat) {pc len a n : Nat} {i x : Int32} {lv : List (Nat × Value)} {st : List Value} {w : xWd} {σ μ : Nat → Nat → Int32} {ρ : Nat → Nat → Int64} {q : Nat → Nat} {r : xRs} (ht : xi_a (xi_tb mi) pc = some (.iastore, len)) (hk : a < 165 ∧ xi_KK a = (8, n)) (hi : bnd i n) (hj : i.toNatClampNeg = j) (hr : xe d m (pc + 1, lv, st) (hs w (xi_u2 σ a j x) μ ρ q) r) : xe d m (pc, lv, .int x :: .int i :: .ref a :: st) (hs w σ μ ρ q) r := by
  subst hj
  refine xe_1 hp (h' := hs w (xi_u2 σ a i.toNatClampNeg x) μ ρ q) ?_ hr
  unfold xi_st
  rw [show xi_a (xi_tb mi) ((pc, lv, Value.int x :: Value.int i :: Value.ref a :: st) : xFr).1 = some (.iastore, len) from ht]
  show (xi_s1 _ _ _ .iastore pc lv (.int x :: .int i :: .ref a :: st) (hs w σ μ ρ q)).map Sum.inl = _
  unfold xi_s1
  dsimp only
  rw [if_pos (bnd_in (by omega) hk.2 hi), hs_set_lo hk.1]
  rfl
theorem xe_ism {d m : Nat} {mi : xMi} (hp : xpg[m]? = some mi) (j : Nat) {pc len a n : Nat} {i x : Int32} {lv : List (Nat × Value)} {st : List Value} {w : xWd} {σ μ : Nat → Nat → Int32} {ρ : Nat → Nat → Int64} {q : Nat → Nat} {r : xRs} (ht : xi_a (xi_tb mi) pc = some (.iastore, len)) (ha : 165 ≤ a ∧ a < 190) (hk : xi_KK a = (8, n)) (hi : bnd i n) (hj : i.toNatClampNeg = j) (hr : xe d m (pc + 1, lv, st) (hs w σ (xi_u2 μ a j x) ρ q) r) : xe d m (pc, lv, .int x :: .int i :: .ref a :: st) (hs w σ μ ρ q) r := by
  subst hj
  refine xe_1 hp (h' := hs w σ (xi_u2 μ a i.toNatClampNeg x) ρ q) ?_ hr
  unfold xi_st
  rw [show xi_a (xi_tb mi) ((pc, lv, Value.int x :: Value.int i :: Value.ref a :: st) : xFr).1 = some (.iastore, len) from ht]
  show (xi_s1 _ _ _ .iastore pc lv (.int x :: .int i :: .ref a :: st) (hs w σ μ ρ q)).map Sum.inl = _
  unfold xi_s1
  dsimp only
  rw [if_pos (bnd_in (by omega) hk hi), hs_set_hi ha.1]
  rfl
theorem xe_bs {d m : Nat} {mi : xMi} (hp : xpg[m]? = some mi) (j : Nat) {pc len a n : Nat} {i x : Int32} {lv : List (Nat × Value)} {st : List Value} {w : xWd} {σ μ : Nat → Nat → Int32} {ρ : Nat → Nat → Int64} {q : Nat → Nat} {r : xRs} (ht : xi_a (xi_tb mi) pc = some (.bastore, len)) (hk : a < 165 ∧ xi_KK a = (9, n)) (hi : bnd i n) (hj : i.toNatClampNeg = j) (hx : x = 0 ∨ x = 1) (hr : xe d m (pc + 1, lv, st) (hs w (xi_u2 σ a j x) μ ρ q) r) : xe d m (pc, lv, .int x :: .int i :: .ref a :: st) (hs w σ μ ρ q) r := by
  subst hj
  refine xe_1 hp (h' := hs w (xi_u2 σ a i.toNatClampNeg x) μ ρ q) ?_ hr
  unfold xi_st
  rw [show xi_a (xi_tb mi) ((pc, lv, Value.int x :: Value.int i :: Value.ref a :: st) : xFr).1 = some (.bastore, len) from ht]
  show (xi_s1 _ _ _ .bastore pc lv (.int x :: .int i :: .ref a :: st) (hs w σ μ ρ q)).map Sum.inl = _
  unfold xi_s1
  dsimp only
  rw [if_pos ⟨bnd_in (by omega) hk.2 hi, hx⟩, hs_set_lo hk.1]
  rfl
theorem xe_bsm {d m : Nat} {mi : xMi} (hp : xpg[m]? = some mi) (j : Nat) {pc len a n : Nat} {i x : Int32} {lv : List (Nat × Value)} {st : List Value} {w : xWd} {σ μ : Nat → Nat → Int32} {ρ : Nat → Nat → Int64} {q : Nat → Nat} {r : xRs} (ht : xi_a (xi_tb mi) pc = some (.bastore, len)) (ha : 165 ≤ a ∧ a < 190) (hk : xi_KK a = (9, n)) (hi : bnd i n) (hj : i.toNatClampNeg = j) (hx : x = 0 ∨ x = 1) (hr : xe d m (pc + 1, lv, st) (hs w σ (xi_u2 μ a j x) ρ q) r) : xe d m (pc, lv, .int x :: .int i :: .ref a :: st) (hs w σ μ ρ q) r := by
  subst hj
  refine xe_1 hp (h' := hs w σ (xi_u2 μ a i.toNatClampNeg x) ρ q) ?_ hr
  unfold xi_st
  rw [show xi_a (xi_tb mi) ((pc, lv, Value.int x :: Value.int i :: Value.ref a :: st) : xFr).1 = some (.bastore, len) from ht]
  show (xi_s1 _ _ _ .bastore pc lv (.int x :: .int i :: .ref a :: st) (hs w σ μ ρ q)).map Sum.inl = _
  unfold xi_s1
  dsimp only
  rw [if_pos ⟨bnd_in (by omega) hk hi, hx⟩, hs_set_hi ha.1]
  rfl
/-- a load out of a row of references -/
theorem xe_al {d m : Nat} {mi : xMi} (hp : xpg[m]? = some mi) (j : Nat) {pc len a k n : Nat} (b : Nat) {i : Int32} {lv : List (Nat × Value)} {st : List Value} {w : xWd} {σ μ : Nat → Nat → Int32} {ρ : Nat → Nat → Int64} {q : Nat → Nat} {r : xRs} (ht : xi_a (xi_tb mi) pc = some (.aaload, len)) (hk : a < 165 ∧ xi_KK a = (k, n)) (hk2 : 10 < k ∧ k < 17) (hi : bnd i n) (hj : i.toNatClampNeg = j) (hb : xi_RP q a j = some b) (hr : xe d m (pc + 1, lv, .ref b :: st) (hs w σ μ ρ q) r) : xe d m (pc, lv, .int i :: .ref a :: st) (hs w σ μ ρ q) r := by
  subst hj
  refine xe_1 hp ?_ hr
  unfold xi_st
  rw [show xi_a (xi_tb mi) ((pc, lv, Value.int i :: Value.ref a :: st) : xFr).1 = some (.aaload, len) from ht]
  show (xi_s1 _ _ _ .aaload pc lv (.int i :: .ref a :: st) (hs w σ μ ρ q)).map Sum.inl = _
  unfold xi_s1
  dsimp only
  rw [show hK (hs w σ μ ρ q) a = (k, n) from hk.2]
  rw [if_pos ⟨hk2.1, hk2.2, bnd_in (by omega) hk.2 hi⟩, show hR (hs w σ μ ρ q) a i.toNatClampNeg = some b from hb]
  rfl
/-- the call of a method of an object -/
theorem xe_cv {d m : Nat} {mi mi' : xMi} (hp : xpg[m]? = some mi) (m' : Nat) (hp' : xpg[m']? = some mi') {pc ix len a po : Nat} {lv : List (Nat × Value)} {st : List Value} (av : List Value) (rest : List Value) (v : Option Value) {h h1 : xHp} {r : xRs} (ht : xi_a (xi_tb mi) pc = some (.invokevirtual ix, len)) (hm : xi_a (xml.getD (xi_own mi) []) ix = some (0, m', po)) (h1' : st.take (xi_na mi') = (Value.ref a :: av).reverse) (h2' : st.drop (xi_na mi') = rest) (hg : xi_na mi' ≤ st.length ∧ (rest.map fun v => v.category).sum ≤ 8 ∧ (lg_sl (Value.ref a :: av)).length ≤ xi_mL mi') (hN9 : hN h = 190 ∧ hK h = xi_KK) (hk : a < 190 ∧ (xi_KK a).1 + 1 = xi_own mi' ∧ (xi_KK a).1 < 8) (hc : xc d m' (.ref a :: av) h (.inl v, h1)) (hr : xe (d + 1) m (pc + 3, lv, v.toList ++ rest) h1 r) : xe (d + 1) m (pc, lv, st) h r := by
  have ha : xi_ca mi (pc, lv, st) = some (m', .ref a :: av) := by
    unfold xi_ca
    rw [show xi_a (xi_tb mi) ((pc, lv, st) : xFr).1 = some (.invokevirtual ix, len) from ht]
    dsimp only
    rw [hm]
    dsimp only
    rw [hp']
    show some (m', (st.take (xi_na mi')).reverse) = _
    rw [h1', List.reverse_reverse]
  refine xe_call hp ha hc ?_ hr
  unfold xi_st
  rw [show xi_a (xi_tb mi) ((pc, lv, st) : xFr).1 = some (.invokevirtual ix, len) from ht]
  dsimp only
  rw [hm]
  dsimp only
  rw [if_pos rfl]
  unfold xi_call
  rw [hp']
  dsimp only
  rw [h1', h2', List.reverse_reverse, if_pos]
  · rfl
  · refine ⟨hg.1, hg.2.1, hg.2.2, ?_⟩
    unfold xi_kd
    rw [if_pos rfl]
    dsimp only
    rw [hN9.1, hN9.2]
    simp only [Bool.and_eq_true, decide_eq_true_eq]
    exact ⟨⟨hk.1, hk.2.1⟩, hk.2.2⟩
/-- the same, where it throws -/
theorem xe_cvx {d m : Nat} {mi mi' : xMi} (hp : xpg[m]? = some mi) (m' : Nat) (hp' : xpg[m']? = some mi') {pc ix len a po : Nat} {lv : List (Nat × Value)} {st : List Value} (av : List Value) (rest : List Value) (E : Nat) {h h1 : xHp} (ht : xi_a (xi_tb mi) pc = some (.invokevirtual ix, len)) (hm : xi_a (xml.getD (xi_own mi) []) ix = some (0, m', po)) (hh : xi_hh mi = []) (h1' : st.take (xi_na mi') = (Value.ref a :: av).reverse) (h2' : st.drop (xi_na mi') = rest) (hg : xi_na mi' ≤ st.length ∧ (rest.map fun v => v.category).sum ≤ 8 ∧ (lg_sl (Value.ref a :: av)).length ≤ xi_mL mi') (hN9 : hN h = 190 ∧ hK h = xi_KK) (hk : a < 190 ∧ (xi_KK a).1 + 1 = xi_own mi' ∧ (xi_KK a).1 < 8) (hc : xc d m' (.ref a :: av) h (.inr E, h1)) : xe (d + 1) m (pc, lv, st) h (.inr E, h1) := by
  have ha : xi_ca mi (pc, lv, st) = some (m', .ref a :: av) := by
    unfold xi_ca
    rw [show xi_a (xi_tb mi) ((pc, lv, st) : xFr).1 = some (.invokevirtual ix, len) from ht]
    dsimp only
    rw [hm]
    dsimp only
    rw [hp']
    show some (m', (st.take (xi_na mi')).reverse) = _
    rw [h1', List.reverse_reverse]
  refine xe_callx hp ha hc ?_
  unfold xi_st
  rw [show xi_a (xi_tb mi) ((pc, lv, st) : xFr).1 = some (.invokevirtual ix, len) from ht]
  dsimp only
  rw [hm]
  dsimp only
  rw [if_pos rfl]
  unfold xi_call
  rw [hp']
  dsimp only
  rw [h1', h2', List.reverse_reverse, if_pos]
  · unfold xi_aft
    rw [hh]
    rfl
  · refine ⟨hg.1, hg.2.1, hg.2.2, ?_⟩
    unfold xi_kd
    rw [if_pos rfl]
    dsimp only
    rw [hN9.1, hN9.2]
    simp only [Bool.and_eq_true, decide_eq_true_eq]
    exact ⟨⟨hk.1, hk.2.1⟩, hk.2.2⟩
