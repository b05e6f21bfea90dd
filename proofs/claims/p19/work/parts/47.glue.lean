/-! the reference's ints as X (the rows that it has in common with the class), N (its own), C (cells, laid out as the class's), b (bytes in hand) -/
abbrev xVt : Type := (Nat → Nat → Int32) × (Nat → Nat → Int32) × (Nat → Nat → Int32) × (Nat → Int32)
def pm (k : Nat) : Nat := if k < 4 then 14 + k else if k < 18 then k - 4 else 18
def gl (V : xVt) (r i : Nat) : Int32 :=
  if r = 166 then V.2.2.1 (i / 19) (pm (i % 19))
  else if r = 187 then (if i < 14 then V.2.2.2 i else 0)
  else if r = 165 then (if i = 1 ∨ i = 3 ∨ i = 4 ∨ i = 5 then V.1 165 i else V.2.1 165 i)
  else if 167 ≤ r ∧ r ≤ 185 then V.1 r i else V.2.1 r i
def vx (V : xVt) (r i : Nat) (v : Int32) : xVt := (xi_u2 V.1 r i v, V.2)
def vn (V : xVt) (r i : Nat) (v : Int32) : xVt := (V.1, xi_u2 V.2.1 r i v, V.2.2)
def vb (V : xVt) (i : Nat) (v : Int32) : xVt := (V.1, V.2.1, V.2.2.1, fun j => if j = i then v else V.2.2.2 j)
def vbs (V : xVt) (f : Nat → Int32) : xVt := (V.1, V.2.1, V.2.2.1, f)
def vc (V : xVt) (C : Nat → Nat → Int32) : xVt := (V.1, V.2.1, C, V.2.2.2)
abbrev hv (w : xWd) (S : xSt) (V : xVt) (ρ : Nat → Nat → Int64) : xHp := hz w S (gl V) ρ
theorem gl_x {V : xVt} {r : Nat} (h : 167 ≤ r ∧ r ≤ 185) (i : Nat) : gl V r i = V.1 r i := by
  unfold gl
  rw [if_neg (by omega), if_neg (by omega), if_neg (by omega), if_pos h]
theorem gl_5 {V : xVt} {i : Nat} (h : i = 1 ∨ i = 3 ∨ i = 4 ∨ i = 5) : gl V 165 i = V.1 165 i := by
  unfold gl
  rw [if_neg (by omega), if_neg (by omega), if_pos rfl, if_pos h]
theorem gl_5n {V : xVt} {i : Nat} (h : ¬ (i = 1 ∨ i = 3 ∨ i = 4 ∨ i = 5)) : gl V 165 i = V.2.1 165 i := by
  unfold gl
  rw [if_neg (by omega), if_neg (by omega), if_pos rfl, if_neg h]
theorem gl_n {V : xVt} {r : Nat} (h : (¬ (167 ≤ r ∧ r ≤ 185)) ∧ r ≠ 165 ∧ r ≠ 166 ∧ r ≠ 187) (i : Nat) : gl V r i = V.2.1 r i := by
  unfold gl
  rw [if_neg h.2.2.1, if_neg h.2.2.2, if_neg h.2.1, if_neg h.1]
theorem gl_b {V : xVt} {i : Nat} (h : i < 14) : gl V 187 i = V.2.2.2 i := by
  unfold gl
  rw [if_neg (by omega), if_pos rfl, if_pos h]
theorem gl_b0 {V : xVt} {i : Nat} (h : ¬ i < 14) : gl V 187 i = 0 := by
  unfold gl
  rw [if_neg (by omega), if_pos rfl, if_neg h]
theorem gl_c {V : xVt} {i : Nat} : gl V 166 i = V.2.2.1 (i / 19) (pm (i % 19)) := by
  unfold gl
  rw [if_pos rfl]
/-- what the reference's ints are made of, row by row -/
theorem gl_cg {V W : xVt} (h1 : ∀ r, 167 ≤ r → r ≤ 185 → ∀ i, V.1 r i = W.1 r i) (h2 : ∀ i, i = 1 ∨ i = 3 ∨ i = 4 ∨ i = 5 → V.1 165 i = W.1 165 i) (h3 : ∀ r i, V.2.1 r i = W.2.1 r i) (h4 : ∀ j k, k < 19 → V.2.2.1 j k = W.2.2.1 j k) (h5 : ∀ i, i < 14 → V.2.2.2 i = W.2.2.2 i) : gl V = gl W := by
  funext r i
  unfold gl
  split
  · refine h4 _ _ ?_
    unfold pm
    split
    · omega
    · split <;> omega
  · split
    · split
      · next h => exact h5 i h
      · rfl
    · split
      · split
        · next h => exact h2 i h
        · exact h3 _ _
      · split
        · next h => exact h1 r h.1 h.2 i
        · exact h3 _ _
theorem gl_vx {V : xVt} {r : Nat} (h : 167 ≤ r ∧ r ≤ 185) (i : Nat) (v : Int32) : xi_u2 (gl V) r i v = gl (vx V r i v) := by
  funext a k
  by_cases e : a = r
  · subst e
    rw [u2_at, gl_x h, gl_x h]
    show _ = xi_u2 V.1 a i v a k
    rw [u2_at]
  · rw [u2_ne _ _ (Or.inl e)]
    unfold gl vx
    dsimp only
    rw [u2_ne V.1 (a := r) (k := i) (b := a) (j := k) v (Or.inl e), u2_ne V.1 (a := r) (k := i) (b := 165) (j := k) v (Or.inl (by omega))]
theorem gl_v5 {V : xVt} {i : Nat} (h : i = 1 ∨ i = 3 ∨ i = 4 ∨ i = 5) (v : Int32) : xi_u2 (gl V) 165 i v = gl (vx V 165 i v) := by
  funext a k
  by_cases e : a = 165
  · subst e
    by_cases e2 : k = i
    · subst e2
      rw [u2_same, gl_5 h]
      show v = xi_u2 V.1 165 k v 165 k
      rw [u2_same]
    · rw [u2_ne _ _ (Or.inr e2)]
      by_cases h9 : k = 1 ∨ k = 3 ∨ k = 4 ∨ k = 5
      · rw [gl_5 h9, gl_5 h9]
        show V.1 165 k = xi_u2 V.1 165 i v 165 k
        rw [u2_ne _ _ (Or.inr e2)]
      · rw [gl_5n h9, gl_5n h9]
        rfl
  · rw [u2_ne _ _ (Or.inl e)]
    unfold gl vx
    dsimp only
    rw [if_neg e, if_neg e, u2_ne V.1 (a := 165) (k := i) (b := a) (j := k) v (Or.inl e)]
theorem gl_v5n {V : xVt} {i : Nat} (h : ¬ (i = 1 ∨ i = 3 ∨ i = 4 ∨ i = 5)) (v : Int32) : xi_u2 (gl V) 165 i v = gl (vn V 165 i v) := by
  funext a k
  by_cases e : a = 165
  · subst e
    by_cases e2 : k = i
    · subst e2
      rw [u2_same, gl_5n h]
      show v = xi_u2 V.2.1 165 k v 165 k
      rw [u2_same]
    · rw [u2_ne _ _ (Or.inr e2)]
      by_cases h9 : k = 1 ∨ k = 3 ∨ k = 4 ∨ k = 5
      · rw [gl_5 h9, gl_5 h9]
        rfl
      · rw [gl_5n h9, gl_5n h9]
        show V.2.1 165 k = xi_u2 V.2.1 165 i v 165 k
        rw [u2_ne _ _ (Or.inr e2)]
  · rw [u2_ne _ _ (Or.inl e)]
    unfold gl vn
    dsimp only
    rw [if_neg e, if_neg e, u2_ne V.2.1 (a := 165) (k := i) (b := a) (j := k) v (Or.inl e)]
theorem gl_vn {V : xVt} {r : Nat} (h : (¬ (167 ≤ r ∧ r ≤ 185)) ∧ r ≠ 165 ∧ r ≠ 166 ∧ r ≠ 187) (i : Nat) (v : Int32) : xi_u2 (gl V) r i v = gl (vn V r i v) := by
  funext a k
  by_cases e : a = r
  · subst e
    rw [u2_at, gl_n h, gl_n h]
    show _ = xi_u2 V.2.1 a i v a k
    rw [u2_at]
  · rw [u2_ne _ _ (Or.inl e)]
    unfold gl vn
    dsimp only
    rw [u2_ne V.2.1 (a := r) (k := i) (b := a) (j := k) v (Or.inl e), u2_ne V.2.1 (a := r) (k := i) (b := 165) (j := k) v (Or.inl (Ne.symm h.2.1))]
theorem gl_vb {V : xVt} {i : Nat} (h : i < 14) (v : Int32) : xi_u2 (gl V) 187 i v = gl (vb V i v) := by
  funext a k
  by_cases e : a = 187
  · subst e
    by_cases e2 : k = i
    · subst e2
      rw [u2_same, gl_b h]
      exact (if_pos rfl).symm
    · rw [u2_ne _ _ (Or.inr e2)]
      by_cases h9 : k < 14
      · rw [gl_b h9, gl_b h9]
        exact (if_neg e2).symm
      · rw [gl_b0 h9, gl_b0 h9]
  · rw [u2_ne _ _ (Or.inl e)]
    unfold gl vb
    dsimp only
    rw [if_neg e, if_neg e]
theorem lx_ix {a k r i : Nat} (j : Nat) (h : lx a k r i) (e : i = j) : lx a k r j := e ▸ h
theorem ite_b {c : Prop} [Decidable c] {a b : Int32} (ha : a = 0 ∨ a = 1) (hb : b = 0 ∨ b = 1) : (if c then a else b) = 0 ∨ (if c then a else b) = 1 := by
  split
  · exact ha
  · exact hb
theorem xe_jn {d m : Nat} {fr fr' : xFr} {h : xHp} {r : xRs} (k : xe d m fr' h r → xe d m fr h r) (hr : xe d m fr' h r) : xe d m fr h r := k hr
theorem nq_eq (x y : Nat) (hx : x < 2 ^ 31) (hy : y < 2 ^ 31) (h : x = y) : xi_cp .eq (nI x) (nI y) := (nI_eq hx hy).mpr h
theorem nq_eqn (x y : Nat) (hx : x < 2 ^ 31) (hy : y < 2 ^ 31) (h : x ≠ y) : ¬ xi_cp .eq (nI x) (nI y) := fun q => h ((nI_eq hx hy).mp q)
theorem nq_ne (x y : Nat) (hx : x < 2 ^ 31) (hy : y < 2 ^ 31) (h : x ≠ y) : xi_cp .ne (nI x) (nI y) := fun q => h ((nI_eq hx hy).mp q)
theorem nq_nen (x y : Nat) (hx : x < 2 ^ 31) (hy : y < 2 ^ 31) (h : x = y) : ¬ xi_cp .ne (nI x) (nI y) := fun q => q ((nI_eq hx hy).mpr h)
theorem nq_lt (x y : Nat) (hx : x < 2 ^ 31) (hy : y < 2 ^ 31) (h : x < y) : xi_cp .lt (nI x) (nI y) := (nI_ltI hx hy).mpr h
theorem nq_ltn (x y : Nat) (hx : x < 2 ^ 31) (hy : y < 2 ^ 31) (h : y ≤ x) : ¬ xi_cp .lt (nI x) (nI y) := fun q => Nat.not_lt.mpr h ((nI_ltI hx hy).mp q)
theorem nq_gt (x y : Nat) (hx : x < 2 ^ 31) (hy : y < 2 ^ 31) (h : y < x) : xi_cp .gt (nI x) (nI y) := (nI_ltI hy hx).mpr h
theorem nq_gtn (x y : Nat) (hx : x < 2 ^ 31) (hy : y < 2 ^ 31) (h : x ≤ y) : ¬ xi_cp .gt (nI x) (nI y) := fun q => Nat.not_lt.mpr h ((nI_ltI hy hx).mp q)
theorem nq_le (x y : Nat) (hx : x < 2 ^ 31) (hy : y < 2 ^ 31) (h : x ≤ y) : xi_cp .le (nI x) (nI y) := (nI_leI hx hy).mpr h
theorem nq_len (x y : Nat) (hx : x < 2 ^ 31) (hy : y < 2 ^ 31) (h : y < x) : ¬ xi_cp .le (nI x) (nI y) := fun q => Nat.not_le.mpr h ((nI_leI hx hy).mp q)
theorem nq_ge (x y : Nat) (hx : x < 2 ^ 31) (hy : y < 2 ^ 31) (h : y ≤ x) : xi_cp .ge (nI x) (nI y) := (nI_leI hy hx).mpr h
theorem nq_gen (x y : Nat) (hx : x < 2 ^ 31) (hy : y < 2 ^ 31) (h : x < y) : ¬ xi_cp .ge (nI x) (nI y) := fun q => Nat.not_le.mpr h ((nI_leI hy hx).mp q)
section
variable {d m : Nat} {mi : xMi} {pc ix k len po n : Nat} {lv : List (Nat × Value)} {st : List Value} {w : xWd} {S : xSt} {V : xVt} {ρ : Nat → Nat → Int64} {r : xRs} {h : xHp}
theorem xe_ni (hp : xpg[m]? = some mi) (x e : Nat) (lv' : List (Nat × Value)) {b : Int} (ht : xi_a (xi_tb mi) pc = some (.iinc k b, len)) (hl : xi_a lv k = some (.int (nI x))) (hk : Nat.blt k (xi_mL mi) = true) (hq : xi_p1 lv k (.int (nI e)) = lv') (he : nI x + Int32.ofInt b = nI e) (hr : xe d m (pc + 3, lv', st) h r) : xe d m (pc, lv, st) h r := by
  subst hq
  refine xe_1 hp ?_ hr
  unfold xi_st
  rw [show xi_a (xi_tb mi) ((pc, lv, st) : xFr).1 = some (.iinc k b, len) from ht]
  show (xi_s1 _ _ _ (.iinc k b) pc lv st h).map Sum.inl = _
  unfold xi_s1
  dsimp only
  rw [hl]
  dsimp only
  rw [if_pos (Nat.blt_eq ▸ hk : k < xi_mL mi), he]
  rfl
theorem ze_gi (hp : xpg[m]? = some mi) (v : Int32) (ht : xi_a (xi_tb mi) pc = some (.getfield ix, len)) (hf : xi_a (xfl.getD (xi_own mi) []) ix = some (7, k, po)) (hc : xi_rf 7 k = false) (hv' : gl V 165 k = v) (hr : xe d m (pc + 3, lv, .int v :: st) (hv w S V ρ) r) : xe d m (pc, lv, .ref 165 :: st) (hv w S V ρ) r := by
  subst hv'
  refine xe_1 hp ?_ hr
  unfold xi_st
  rw [show xi_a (xi_tb mi) ((pc, lv, Value.ref 165 :: st) : xFr).1 = some (.getfield ix, len) from ht]
  show (xi_s1 _ _ _ (.getfield ix) pc lv (.ref 165 :: st) (hv w S V ρ)).map Sum.inl = _
  unfold xi_s1
  dsimp only
  rw [hf]
  dsimp only
  rw [if_pos ⟨show 165 < 190 by decide, show (xi_KK 165).1 = 7 from rfl⟩]
  unfold xi_fv
  rw [hc, hs_I_hi (Nat.le_refl _)]
  rfl
theorem ze_px (hp : xpg[m]? = some mi) {x : Int32} (ht : xi_a (xi_tb mi) pc = some (.putfield ix, len)) (hf : xi_a (xfl.getD (xi_own mi) []) ix = some (7, k, po)) (hc : xi_rf 7 k = false ∧ xi_fn 7 k = false) (hb : xi_bo 7 k = false ∨ x = 0 ∨ x = 1) (hk : k = 1 ∨ k = 3 ∨ k = 4 ∨ k = 5) (hr : xe d m (pc + 3, lv, st) (hv w S (vx V 165 k x) ρ) r) : xe d m (pc, lv, .int x :: .ref 165 :: st) (hv w S V ρ) r := by
  refine xe_pm hp ht hf hc hb ?_
  rw [gl_v5 hk]
  exact hr
theorem ze_pn (hp : xpg[m]? = some mi) {x : Int32} (ht : xi_a (xi_tb mi) pc = some (.putfield ix, len)) (hf : xi_a (xfl.getD (xi_own mi) []) ix = some (7, k, po)) (hc : xi_rf 7 k = false ∧ xi_fn 7 k = false) (hb : xi_bo 7 k = false ∨ x = 0 ∨ x = 1) (hk : ¬ (k = 1 ∨ k = 3 ∨ k = 4 ∨ k = 5)) (hr : xe d m (pc + 3, lv, st) (hv w S (vn V 165 k x) ρ) r) : xe d m (pc, lv, .int x :: .ref 165 :: st) (hv w S V ρ) r := by
  refine xe_pm hp ht hf hc hb ?_
  rw [gl_v5n hk]
  exact hr
theorem ze_il (hp : xpg[m]? = some mi) (j : Nat) (v : Int32) {a n : Nat} {i : Int32} (ht : xi_a (xi_tb mi) pc = some (.iaload, len)) (ha : 165 ≤ a ∧ a < 190) (hk : xi_KK a = (8, n)) (hi : bnd i n) (hj : i.toNatClampNeg = j) (hv' : gl V a j = v) (hr : xe d m (pc + 1, lv, .int v :: st) (hv w S V ρ) r) : xe d m (pc, lv, .int i :: .ref a :: st) (hv w S V ρ) r := by
  subst hv'
  exact xe_ilm hp j ht ha hk hi hj hr
theorem ze_bl (hp : xpg[m]? = some mi) (j : Nat) (v : Int32) {a n : Nat} {i : Int32} (ht : xi_a (xi_tb mi) pc = some (.baload, len)) (ha : 165 ≤ a ∧ a < 190) (hk : xi_KK a = (9, n)) (hi : bnd i n) (hj : i.toNatClampNeg = j) (hv' : gl V a j = v) (hr : xe d m (pc + 1, lv, .int v :: st) (hv w S V ρ) r) : xe d m (pc, lv, .int i :: .ref a :: st) (hv w S V ρ) r := by
  subst hv'
  exact xe_blm hp j ht ha hk hi hj hr
theorem ze_ib (hp : xpg[m]? = some mi) (j : Nat) (v : Int32) {i : Int32} (ht : xi_a (xi_tb mi) pc = some (.iaload, len)) (hl : j < 14) (hi : bnd i 14) (hj : i.toNatClampNeg = j) (hv' : V.2.2.2 j = v) (hr : xe d m (pc + 1, lv, .int v :: st) (hv w S V ρ) r) : xe d m (pc, lv, .int i :: .ref 187 :: st) (hv w S V ρ) r := by
  subst hv'
  refine xe_ilm hp j ht ⟨by decide, by decide⟩ rfl hi hj ?_
  rw [gl_b hl]
  exact hr
theorem ze_isx (hp : xpg[m]? = some mi) (j : Nat) {a n : Nat} {i x : Int32} (ht : xi_a (xi_tb mi) pc = some (.iastore, len)) (ha : 165 ≤ a ∧ a < 190) (hk : xi_KK a = (8, n)) (hi : bnd i n) (hj : i.toNatClampNeg = j) (hx : 167 ≤ a ∧ a ≤ 185) (hr : xe d m (pc + 1, lv, st) (hv w S (vx V a j x) ρ) r) : xe d m (pc, lv, .int x :: .int i :: .ref a :: st) (hv w S V ρ) r := by
  refine xe_ism hp j ht ha hk hi hj ?_
  rw [gl_vx hx]
  exact hr
theorem ze_isn (hp : xpg[m]? = some mi) (j : Nat) {a n : Nat} {i x : Int32} (ht : xi_a (xi_tb mi) pc = some (.iastore, len)) (ha : 165 ≤ a ∧ a < 190) (hk : xi_KK a = (8, n)) (hi : bnd i n) (hj : i.toNatClampNeg = j) (hx : (¬ (167 ≤ a ∧ a ≤ 185)) ∧ a ≠ 165 ∧ a ≠ 166 ∧ a ≠ 187) (hr : xe d m (pc + 1, lv, st) (hv w S (vn V a j x) ρ) r) : xe d m (pc, lv, .int x :: .int i :: .ref a :: st) (hv w S V ρ) r := by
  refine xe_ism hp j ht ha hk hi hj ?_
  rw [gl_vn hx]
  exact hr
theorem ze_bsx (hp : xpg[m]? = some mi) (j : Nat) {a n : Nat} {i x : Int32} (ht : xi_a (xi_tb mi) pc = some (.bastore, len)) (ha : 165 ≤ a ∧ a < 190) (hk : xi_KK a = (9, n)) (hi : bnd i n) (hj : i.toNatClampNeg = j) (hb : x = 0 ∨ x = 1) (hx : 167 ≤ a ∧ a ≤ 185) (hr : xe d m (pc + 1, lv, st) (hv w S (vx V a j x) ρ) r) : xe d m (pc, lv, .int x :: .int i :: .ref a :: st) (hv w S V ρ) r := by
  refine xe_bsm hp j ht ha hk hi hj hb ?_
  rw [gl_vx hx]
  exact hr
theorem ze_sb (hp : xpg[m]? = some mi) (j : Nat) {i x : Int32} (ht : xi_a (xi_tb mi) pc = some (.iastore, len)) (hl : j < 14) (hi : bnd i 14) (hj : i.toNatClampNeg = j) (hr : xe d m (pc + 1, lv, st) (hv w S (vb V j x) ρ) r) : xe d m (pc, lv, .int x :: .int i :: .ref 187 :: st) (hv w S V ρ) r := by
  refine xe_ism hp j ht ⟨by decide, by decide⟩ rfl hi hj ?_
  rw [gl_vb hl]
  exact hr
end
theorem ph_y0 : ∀ a, a < 165 → ∀ k, k < 20 → (ph0 a k).1 < 2000 ∨ (ph0 a k).2 < 19 := by decide +kernel
/-- the cells' rows count up to 19 -/
theorem hz_cgY {w : xWd} {S S' : xSt} {μ : Nat → Nat → Int32} {ρ : Nat → Nat → Int64} (h1 : S.1 = S'.1) (h2 : ∀ κ i, i < 19 → S.2.1 κ i = S'.2.1 κ i) (h3 : S.2.2 = S'.2.2) : hz w S μ ρ = hz w S' μ ρ := by
  unfold hz
  rw [h3]
  refine hs_cg (fun a ha k => ?_)
  unfold mk
  cases cst a k with
  | some v => rfl
  | none =>
    show rdX S (ph a k) = rdX S' (ph a k)
    unfold rdX
    rw [h1]
    split
    · rfl
    · next n =>
      refine h2 _ _ ?_
      unfold ph at n ⊢
      split
      · next hk =>
        rw [if_pos hk] at n
        have := ph_y0 a ha k hk
        omega
      · next hk =>
        rw [if_neg hk] at n
        dsimp only at n
        omega
