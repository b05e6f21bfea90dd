/-! the law's locals, and its steps over any list that holds them -/
def LV (lv : List (Nat × Value)) (i : Int32) : Prop := xi_a lv 4 = some (.int i) ∧ xi_a lv 3 = some (.ref 189) ∧ xi_a lv 2 = some (.ref 165) ∧ xi_a lv 1 = some (.ref 0) ∧ xi_a lv 0 = some (.ref xi_scr)
theorem xa_fl {p : Nat × Value → Bool} {j : Nat} {v : Value} : ∀ {lv : List (Nat × Value)}, xi_a lv j = some v → p (j, v) = true → xi_a (lv.filter p) j = some v := by
  intro lv
  induction lv with
  | nil => intro h _; cases h
  | cons q t ih =>
    intro h hp
    obtain ⟨i, u⟩ := q
    have h2 : (if i = j then some u else xi_a t j) = some v := h
    by_cases e : i = j
    · rw [if_pos e] at h2
      cases h2
      subst e
      rw [List.filter_cons_of_pos hp]
      exact if_pos rfl
    · rw [if_neg e] at h2
      by_cases z : p (i, u) = true
      · rw [List.filter_cons_of_pos z]
        show (if i = j then some u else xi_a (t.filter p) j) = some v
        rw [if_neg e]
        exact ih h2 hp
      · rw [List.filter_cons_of_neg z]
        exact ih h2 hp
theorem xa_p1 {lv : List (Nat × Value)} {i j : Nat} {v u : Value} (h : xi_a lv j = some v) (hj : i ≠ j) (hc : (!(j == i) && !(j + 1 == i && v.category == 2)) = true) : xi_a (xi_p1 lv i u) j = some v := by
  unfold xi_p1
  show (if i = j then some u else xi_a (lv.filter _) j) = some v
  rw [if_neg hj]
  exact xa_fl h hc
theorem xa_p2 {lv : List (Nat × Value)} {i j : Nat} {v u : Value} (h : xi_a lv j = some v) (hj : i ≠ j) (hc : (!(j == i) && (!(j == i + 1) && !(j + 1 == i && v.category == 2))) = true) : xi_a (xi_p2 lv i u) j = some v := by
  unfold xi_p2
  show (if i = j then some u else xi_a (lv.filter _) j) = some v
  rw [if_neg hj]
  exact xa_fl h hc
theorem xa_s1 {lv : List (Nat × Value)} {i : Nat} {u : Value} : xi_a (xi_p1 lv i u) i = some u := if_pos rfl
theorem xa_s2 {lv : List (Nat × Value)} {i : Nat} {u : Value} : xi_a (xi_p2 lv i u) i = some u := if_pos rfl
theorem LV.s5 {lv : List (Nat × Value)} {i : Int32} (h : LV lv i) (u : Value) : LV (xi_p1 lv 5 u) i := ⟨xa_p1 h.1 (by decide) rfl, xa_p1 h.2.1 (by decide) rfl, xa_p1 h.2.2.1 (by decide) rfl, xa_p1 h.2.2.2.1 (by decide) rfl, xa_p1 h.2.2.2.2 (by decide) rfl⟩
theorem LV.s6 {lv : List (Nat × Value)} {i : Int32} (h : LV lv i) (u : Value) : LV (xi_p1 lv 6 u) i := ⟨xa_p1 h.1 (by decide) rfl, xa_p1 h.2.1 (by decide) rfl, xa_p1 h.2.2.1 (by decide) rfl, xa_p1 h.2.2.2.1 (by decide) rfl, xa_p1 h.2.2.2.2 (by decide) rfl⟩
theorem LV.d5 {lv : List (Nat × Value)} {i : Int32} (h : LV lv i) (u : Value) : LV (xi_p2 lv 5 u) i := ⟨xa_p2 h.1 (by decide) rfl, xa_p2 h.2.1 (by decide) rfl, xa_p2 h.2.2.1 (by decide) rfl, xa_p2 h.2.2.2.1 (by decide) rfl, xa_p2 h.2.2.2.2 (by decide) rfl⟩
theorem LV.d7 {lv : List (Nat × Value)} {i : Int32} (h : LV lv i) (u : Value) : LV (xi_p2 lv 7 u) i := ⟨xa_p2 h.1 (by decide) rfl, xa_p2 h.2.1 (by decide) rfl, xa_p2 h.2.2.1 (by decide) rfl, xa_p2 h.2.2.2.1 (by decide) rfl, xa_p2 h.2.2.2.2 (by decide) rfl⟩
theorem LV.s4 {lv : List (Nat × Value)} {i : Int32} (h : LV lv i) (j : Int32) : LV (xi_p1 lv 4 (.int j)) j := ⟨xa_s1, xa_p1 h.2.1 (by decide) rfl, xa_p1 h.2.2.1 (by decide) rfl, xa_p1 h.2.2.2.1 (by decide) rfl, xa_p1 h.2.2.2.2 (by decide) rfl⟩
section
variable {d m pc len : Nat} {mi : xMi} {lv : List (Nat × Value)} {st : List Value} {h : xHp} {r : xRs}
theorem la_al (hp : xpg[m]? = some mi) (b : Nat) {k : Nat} (k' : Nat) (hs : xi_st d xi_no mi (pc, lv, st) h = (xi_ld lv k k' st h xi_va).map Sum.inl) (hl : xi_a lv k = some (.ref b)) (hr : xe d m (k', lv, .ref b :: st) h r) : xe d m (pc, lv, st) h r := by
  refine xe_1 hp ?_ hr
  rw [hs]
  unfold xi_ld
  rw [hl]
  rfl
theorem la_il (hp : xpg[m]? = some mi) (x : Int32) {k : Nat} (k' : Nat) (hs : xi_st d xi_no mi (pc, lv, st) h = (xi_ld lv k k' st h xi_vi).map Sum.inl) (hl : xi_a lv k = some (.int x)) (hr : xe d m (k', lv, .int x :: st) h r) : xe d m (pc, lv, st) h r := by
  refine xe_1 hp ?_ hr
  rw [hs]
  unfold xi_ld
  rw [hl]
  rfl
theorem la_dl (hp : xpg[m]? = some mi) (x : UInt64) {k : Nat} (k' : Nat) (hs : xi_st d xi_no mi (pc, lv, st) h = (xi_ld lv k k' st h xi_vd).map Sum.inl) (hl : xi_a lv k = some (.double x)) (hr : xe d m (k', lv, .double x :: st) h r) : xe d m (pc, lv, st) h r := by
  refine xe_1 hp ?_ hr
  rw [hs]
  unfold xi_ld
  rw [hl]
  rfl
theorem la_ia (hp : xpg[m]? = some mi) {n : Nat} {x : Int32} (ht : xi_a (xi_tb mi) pc = some (.iaload, len)) (hn : n < 2 ^ 31) (hb : n + 1 < hL h) (hx : hX h n = x) (hr : xe d m (pc + 1, lv, .int x :: st) h r) : xe d m (pc, lv, .int (nI n) :: .ref xi_scr :: st) h r := by
  subst hx
  refine xe_1 hp ?_ hr
  unfold xi_st
  rw [show xi_a (xi_tb mi) ((pc, lv, Value.int (nI n) :: Value.ref xi_scr :: st) : xFr).1 = some (.iaload, len) from ht]
  show (xi_s1 _ _ _ .iaload pc lv (.int (nI n) :: .ref xi_scr :: st) h).map Sum.inl = _
  unfold xi_s1
  dsimp only
  rw [if_pos rfl, nI_clamp hn, if_pos]
  · rfl
  · refine ⟨fun q => ?_, hb⟩
    rw [Int32.lt_iff_toInt_lt, nI_toInt hn] at q
    have : (0 : Int32).toInt = 0 := rfl
    omega
theorem la_len (hp : xpg[m]? = some mi) {L : Nat} (ht : xi_a (xi_tb mi) pc = some (.arraylength, len)) (hb : hL h = L + 1) (hr : xe d m (pc + 1, lv, .int (nI L) :: st) h r) : xe d m (pc, lv, .ref xi_scr :: st) h r := by
  refine xe_1 hp ?_ hr
  unfold xi_st
  rw [show xi_a (xi_tb mi) ((pc, lv, Value.ref xi_scr :: st) : xFr).1 = some (.arraylength, len) from ht]
  show (xi_s1 _ _ _ .arraylength pc lv (.ref xi_scr :: st) h).map Sum.inl = _
  unfold xi_s1
  dsimp only
  rw [if_pos ⟨rfl, by omega⟩, hb]
  rfl
end
theorem la_arg {pc : Nat} {c : Int} {lv : List (Nat × Value)} {st : List Value} {r : xRs} {w : xWd} {S : xSt} {V : xVt} {ρ : Nat → Nat → Int64} {L j : Nat} {xs : Nat → Int32} (n : Nat)
    (t0 : xi_a (xi_tb mi_L_law) pc = some (.aload_n 0, 1)) (t1 : xi_a (xi_tb mi_L_law) (pc + 1) = some (.iload 4, 2)) (t2 : xi_a (xi_tb mi_L_law) (pc + 3) = some (.iconst c, 1)) (t3 : xi_a (xi_tb mi_L_law) (pc + 4) = some (.iadd, 1)) (t4 : xi_a (xi_tb mi_L_law) (pc + 5) = some (.iaload, 1)) (hc : Int32.ofInt c = nI n)
    (hl : LV lv (nI (5 * j))) (ew : w.2.2.2 = (L + 1, xs)) (hb : 5 * j + n < L) (hL : L ≤ 2560) (hr : xe 12 177 (pc + 6, lv, .int (xs (5 * j + n)) :: st) (hv w S V ρ) r) : xe 12 177 (pc, lv, st) (hv w S V ρ) r := by
  refine la_al pg_177 xi_scr (k := 0) (pc + 1) (by
    unfold xi_st
    rw [show xi_a (xi_tb mi_L_law) ((pc, lv, st) : xFr).1 = some (.aload_n 0, 1) from t0]
    rfl) hl.2.2.2.2 ?_
  refine la_il pg_177 (nI (5 * j)) (k := 4) (pc + 3) (by
    unfold xi_st
    rw [show xi_a (xi_tb mi_L_law) ((pc + 1, lv, Value.ref xi_scr :: st) : xFr).1 = some (.iload 4, 2) from t1]
    rfl) hl.1 ?_
  refine xe_1 pg_177 (fr' := (pc + 4, lv, .int (nI n) :: .int (nI (5 * j)) :: .ref xi_scr :: st)) (h' := hv w S V ρ) (by
    unfold xi_st
    rw [show xi_a (xi_tb mi_L_law) ((pc + 3, lv, Value.int (nI (5 * j)) :: Value.ref xi_scr :: st) : xFr).1 = some (.iconst c, 1) from t2, ← hc]
    rfl) ?_
  refine xe_1 pg_177 (fr' := (pc + 5, lv, .int (nI (5 * j) + nI n) :: .ref xi_scr :: st)) (h' := hv w S V ρ) (by
    unfold xi_st
    rw [show xi_a (xi_tb mi_L_law) ((pc + 4, lv, Value.int (nI n) :: Value.int (nI (5 * j)) :: Value.ref xi_scr :: st) : xFr).1 = some (.iadd, 1) from t3]
    rfl) ?_
  rw [nI_add]
  have e1 : w.2.2.2.1 = L + 1 := by rw [ew]
  have e2 : w.2.2.2.2 = xs := by rw [ew]
  exact la_ia pg_177 t4 (by omega) (by show _ < w.2.2.2.1; omega) (by show w.2.2.2.2 _ = _; rw [e2]) hr
/-- the law comes to its end with 1, and has room -/
def fin (fr : xFr) (h : xHp) : Prop := ∃ h', xe 12 177 fr h (.inl (some (.int 1)), h') ∧ hC h' ≤ 5000 ∧ hW h' ≤ 9000
def nxt (L j : Nat) (xs : Nat → Int32) : Prop := ∀ (lv : List (Nat × Value)) (w : xWd) (S : xSt) (V : xVt) (ρ : Nat → Nat → Int64), LV lv (nI (5 * j)) → w.2.2.2 = (L + 1, xs) → w.2.1 ≤ 190 + (j + 1) → w.2.2.1 ≤ 1841 + 6 * (j + 1) → Rel (100 * (j + 1)) S V → fin (889, lv, []) (hv w S V ρ)
theorem lg_self (x : Int64) : lg_cmp x x = 0 := by
  unfold lg_cmp
  simp
