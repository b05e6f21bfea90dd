/-! a cell goes out of the row; one is delivered -/
theorem vb1 (V : xVt) (i : Nat) (v : Int32) : (vb V i v).1 = V.1 := rfl
theorem vb21 (V : xVt) (i : Nat) (v : Int32) : (vb V i v).2.1 = V.2.1 := rfl
theorem vbc (V : xVt) (i : Nat) (v : Int32) : (vb V i v).2.2.1 = V.2.2.1 := rfl
theorem vbb (V : xVt) (i : Nat) (v : Int32) (j : Nat) : (vb V i v).2.2.2 j = if j = i then v else V.2.2.2 j := rfl
theorem vn1 (V : xVt) (r i : Nat) (v : Int32) : (vn V r i v).1 = V.1 := rfl
theorem vn21 (V : xVt) (r i : Nat) (v : Int32) : (vn V r i v).2.1 = xi_u2 V.2.1 r i v := rfl
theorem vnc (V : xVt) (r i : Nat) (v : Int32) : (vn V r i v).2.2.1 = V.2.2.1 := rfl
theorem vnb (V : xVt) (r i : Nat) (v : Int32) : (vn V r i v).2.2.2 = V.2.2.2 := rfl
def prm (i n j : Nat) : Nat := if j = 20 then i else if j = n then 20 else if i ≤ j ∧ j < n then j + 1 else j
theorem tq_p (q : Nat → Nat) (i n j : Nat) : tq q i n j = q (prm i n j) := by
  unfold tq prm
  split
  · rfl
  · split
    · rfl
    · split <;> rfl
theorem QI.out {q : Nat → Nat} (h : QI q) {i n : Nat} (hi : i ≤ n) (hn : n < 20) : QI (tq q i n) := by
  have hb : ∀ j, j ≤ 20 → prm i n j ≤ 20 := by
    intro j hj
    unfold prm
    split
    · omega
    · split
      · omega
      · split <;> omega
  have hin : ∀ j k, j ≤ 20 → k ≤ 20 → prm i n j = prm i n k → j = k := by
    intro j k hj hk e
    unfold prm at e
    by_cases a1 : j = 20
    · rw [if_pos a1] at e
      by_cases b1 : k = 20
      · omega
      · rw [if_neg b1] at e
        by_cases b2 : k = n
        · rw [if_pos b2] at e; omega
        · rw [if_neg b2] at e
          by_cases b3 : i ≤ k ∧ k < n
          · rw [if_pos b3] at e; omega
          · rw [if_neg b3] at e; omega
    · rw [if_neg a1] at e
      by_cases b1 : k = 20
      · rw [if_pos b1] at e
        by_cases a2 : j = n
        · rw [if_pos a2] at e; omega
        · rw [if_neg a2] at e
          by_cases a3 : i ≤ j ∧ j < n
          · rw [if_pos a3] at e; omega
          · rw [if_neg a3] at e; omega
      · rw [if_neg b1] at e
        by_cases a2 : j = n
        · rw [if_pos a2] at e
          by_cases b2 : k = n
          · omega
          · rw [if_neg b2] at e
            by_cases b3 : i ≤ k ∧ k < n
            · rw [if_pos b3] at e; omega
            · rw [if_neg b3] at e; omega
        · rw [if_neg a2] at e
          by_cases b2 : k = n
          · rw [if_pos b2] at e
            by_cases a3 : i ≤ j ∧ j < n
            · rw [if_pos a3] at e; omega
            · rw [if_neg a3] at e; omega
          · rw [if_neg b2] at e
            by_cases a3 : i ≤ j ∧ j < n
            · rw [if_pos a3] at e
              by_cases b3 : i ≤ k ∧ k < n
              · rw [if_pos b3] at e; omega
              · rw [if_neg b3] at e; omega
            · rw [if_neg a3] at e
              by_cases b3 : i ≤ k ∧ k < n
              · rw [if_pos b3] at e; omega
              · rw [if_neg b3] at e; omega
  refine ⟨fun j hj => ?_, fun j k hj hk e => ?_⟩
  · rw [tq_p]
    exact h.1 _ (hb j hj)
  · rw [tq_p, tq_p] at e
    exact hin j k hj hk (h.2 _ _ (hb j hj) (hb k hk) e)
theorem Rel.out {D : Nat} {S : xSt} {V W : xVt} (h : Rel D S V) {i n : Nat} (hi : i ≤ n) (hn : n < 20) (e : S.1 165 1 = nI (n + 1)) (w1 : W.1 = V.1) (w2 : W.2.1 186 = V.2.1 186) (w3 : W.2.2.1 = V.2.2.1) : okc D (S.2.1 (S.2.2 i)) (V.2.2.1 i) ∧ Rel D (xi_u2 S.1 165 1 (nI n), S.2.1, tq S.2.2 i n) (vc (vx W 165 1 (nI n)) (cr W.2.2.1 i n)) := by
  obtain ⟨h1, h2, h3, h4, hq, ⟨n', hn', e', hcl⟩, ht⟩ := h
  have hnn : n' = n + 1 := (nI_eq (by omega) (by omega)).mp (e'.symm.trans e)
  subst hnn
  have hr : ∀ r, r ≠ 165 → xi_u2 S.1 165 1 (nI n) r = S.1 r := fun r q => u2r q
  refine ⟨hcl i (by omega), ?_, fun c hc => (h2 c hc).rows (fun r q1 q2 q3 => hr r (by omega)), fun i hi c hc => (h3 i hi c hc).rows (fun r q1 q2 => hr r (by omega)), fun i hi => (h4 i hi).rows (hr 178 (by decide)) (hr 179 (by decide)) (hr 190 (by decide)), hq.out hi hn, ⟨n, by omega, u2_same S.1 165 1 (nI n), fun j hj => ?_⟩, ?_⟩
  · show xi_u2 W.1 165 1 (nI n) = xi_u2 S.1 165 1 (nI n)
    rw [w1, h1]
  · show okc D (S.2.1 (tq S.2.2 i n j)) (cr W.2.2.1 i n j)
    rw [w3]
    unfold tq cr
    rw [if_neg (by omega), if_neg (by omega)]
    by_cases q : i ≤ j ∧ j < n
    · rw [if_pos q, if_pos q]
      exact hcl (j + 1) (by omega)
    · rw [if_neg q, if_neg q]
      exact hcl j (by omega)
  · intro t q1 q2
    show xi_u2 S.1 165 1 (nI n) 191 t = W.2.1 186 t
    have q3 : xi_u2 S.1 165 1 (nI n) 185 t = 1 := q2
    rw [hr 185 (by decide)] at q3
    rw [hr 191 (by decide), w2]
    exact ht t q1 q3
theorem out_eq {S : xSt} (hq : ∀ j, j ≤ 20 → 1 ≤ S.2.2 j ∧ S.2.2 j < 22) {i n : Nat} (hi : i ≤ n) (hn : n < 20) (e : S.1 165 1 = nI (n + 1)) : f_takeOut S (nI i) = some (S.2.2 i, (xi_u2 S.1 165 1 (nI n), S.2.1, tq S.2.2 i n)) := by
  have e1 : S.1 165 1 - 1 = nI n := by rw [e, nI_pred]
  unfold f_takeOut
  rw [e1, if_pos (bn hn (by decide)), if_pos (bn (show i < 20 by omega) (by decide)), nI_clamp (show i < 2 ^ 31 by omega), nI_clamp (show n < 2 ^ 31 by omega), if_pos hi, if_pos (fun j hj => (hq j hj).2)]
theorem rem_eq {W : xVt} {i n : Nat} (hi : i ≤ n) (hn : n < 20) (e : W.1 165 1 = nI (n + 1)) : g_remove W (nI i) = some (vc (vx W 165 1 (nI n)) (cr W.2.2.1 i n)) := by
  have e1 : W.1 165 1 - 1 = nI n := by rw [e, nI_pred]
  unfold g_remove
  rw [e1, if_pos (bn hn (by decide)), if_pos (bn (show i < 20 by omega) (by decide)), nI_clamp (show i < 2 ^ 31 by omega), nI_clamp (show n < 2 ^ 31 by omega), if_pos hi]
theorem out_eq0 {S : xSt} (hq : ∀ j, j ≤ 20 → 1 ≤ S.2.2 j ∧ S.2.2 j < 22) {n : Nat} (hn : n < 20) (e : S.1 165 1 = nI (n + 1)) : f_takeOut S 0 = some (S.2.2 0, (xi_u2 S.1 165 1 (nI n), S.2.1, tq S.2.2 0 n)) := out_eq (i := 0) hq (Nat.zero_le n) hn e
theorem rem_eq0 {W : xVt} {n : Nat} (hn : n < 20) (e : W.1 165 1 = nI (n + 1)) : g_remove W 0 = some (vc (vx W 165 1 (nI n)) (cr W.2.2.1 0 n)) := rem_eq (i := 0) (Nat.zero_le n) hn e
theorem QQ.out {D : Nat} {A : Option (Int32 × xSt)} {B : Option xVt} (h : QQ D A B) : ∃ S' V', (A.bind fun r2 => if r2.1 = 0 then some (sx r2.2 165 5 ((r2.2.1 165 5) + 1)) else some r2.2) = some S' ∧ (B.bind fun r => some r) = some V' ∧ Rel D S' V' := by
  obtain ⟨r, V', rfl, rfl, e3⟩ := h
  refine ⟨outc r.1 r.2, V', ?_, rfl, e3⟩
  rw [bsm]
  unfold outc
  by_cases q : r.1 = 0
  · rw [if_pos q, if_pos q]
  · rw [if_neg q, if_neg q]
/-- the first cell comes -/
theorem sim_step {D : Nat} {S : xSt} {V : xVt} (h : Rel D S V) (hD : D < 90000) {n : Nat} (hn : n < 20) (e : S.1 165 1 = nI (n + 1)) : ∃ S' V', f_step S = some S' ∧ g_step V = some V' ∧ Rel (D + 1) S' V' := by
  have key : ∀ W : xVt, W.1 = V.1 → W.2.1 186 = V.2.1 186 → W.2.2.1 = V.2.2.1 → (∀ k, k < 14 → W.2.2.2 k = V.2.2.1 0 k) → W.2.1 165 27 = V.2.2.1 0 18 → ∃ S' V', f_step S = some S' ∧ ((g_remove W 0).bind fun r1 => if (V.2.2.1 0 15) = 0 then (if bnd (V.2.2.1 0 16) 4 then ((g_toClient (vx r1 165 3 ((r1.1 165 3) + 1)) (V.2.2.1 0 14) (V.2.2.1 0 16).toNatClampNeg (V.2.2.1 0 17)).bind fun r2 => some r2) else none) else (if bnd ((V.2.2.1 0 15) - 1) 4 then (if bnd (V.2.2.1 0 16) 4 then ((g_toRelay (vx r1 165 3 ((r1.1 165 3) + 1)) ((V.2.2.1 0 15) - 1).toNatClampNeg (V.2.2.1 0 14) (V.2.2.1 0 16).toNatClampNeg (V.2.2.1 0 17)).bind fun r3 => some r3) else none) else none)) = some V' ∧ Rel (D + 1) S' V' := by
    intro W w1 w2 w3 w4 w5
    obtain ⟨⟨hf, hg, hbt⟩, hR⟩ := h.out (W := W) (Nat.zero_le n) hn e w1 w2 w3
    have g14 := hg 14 (by omega) (by omega)
    have g15 := hg 15 (by omega) (by omega)
    have g16 := hg 16 (by omega) (by omega)
    have g17 := hg 17 (by omega) (by omega)
    have g18 := hg 18 (by omega) (by omega)
    have eV : V.1 = S.1 := h.1
    unfold f_step
    rw [out_eq0 h.2.2.2.2.1.1 hn e, rem_eq0 hn (by rw [w1, eV, e]), bsm, bsm, g14, g15, g16, g17]
    obtain ⟨κ, hκ⟩ := gen (S.2.2 0)
    obtain ⟨S1, hS1⟩ : ∃ S1 : xSt, S1 = (xi_u2 S.1 165 1 (nI n), S.2.1, tq S.2.2 0 n) := ⟨_, rfl⟩
    obtain ⟨V1, hV1⟩ : ∃ V1 : xVt, V1 = vc (vx W 165 1 (nI n)) (cr W.2.2.1 0 n) := ⟨_, rfl⟩
    rw [← hS1, ← hV1] at hR ⊢
    rw [hκ] at hf hg hbt g14 g15 g16 g17 g18 ⊢
    have hY : S1.2.1 = S.2.1 := by rw [hS1]
    have h20 : κ = S1.2.2 20 := by
      rw [hS1, ← hκ]
      show S.2.2 0 = tq S.2.2 0 n 20
      unfold tq
      rw [if_pos rfl]
    have hκ2 : κ < 22 := by
      rw [h20]
      exact (hR.2.2.2.2.1.1 20 (Nat.le_refl _)).2
    have R2 := hR.free (r := 165) (i := 3) (v := S1.1 165 3 + 1) (Or.inr (Or.inr ⟨rfl, by decide⟩))
    have e13 : V1.1 = S1.1 := hR.1
    rw [e13]
    obtain ⟨S2, hS2⟩ : ∃ S2 : xSt, S2 = sx S1 165 3 (S1.1 165 3 + 1) := ⟨_, rfl⟩
    obtain ⟨V2, hV2⟩ : ∃ V2 : xVt, V2 = vx V1 165 3 (S1.1 165 3 + 1) := ⟨_, rfl⟩
    rw [← hS2, ← hV2] at R2
    have hY2 : S2.2.1 = S.2.1 := by rw [hS2, sx2, hY]
    have H : Hand D S2 V2 κ := by
      refine ⟨by rw [hS2, sx2]; exact h20, hκ2, by rw [hY2]; exact hf, ?_, fun q => ?_⟩
      · rw [hV2, hV1, hY2]
        exact w5.trans g18
      · rw [hY2] at q ⊢
        refine ⟨fun k hk => (hbt q k hk).2, fun k hk => ?_⟩
        rw [hV2, hV1]
        exact (w4 k hk).trans (hbt q k hk).1
    obtain ⟨-, ⟨b, hb, eb⟩, ⟨c, hc, ec⟩, -, -⟩ := hf
    simp only
    rw [hY, ← hS2, ← hV2, eb, ec, if_pos (bn hc (by decide)), if_pos (bn hc (by decide)), if_pos (bn hc (by decide)), nI_clamp (show c < 2 ^ 31 by omega)]
    by_cases z : b = 0
    · subst z
      rw [if_pos (show nI 0 = 0 from rfl), if_pos (show nI 0 = 0 from rfl)]
      have q := QQ.out (sim_toclient R2 hc hD H)
      rw [hY2] at q
      exact q
    · obtain ⟨b', rfl⟩ : ∃ b', b = b' + 1 := ⟨b - 1, by omega⟩
      rw [if_neg (show ¬ nI (b' + 1) = 0 by rw [show (0 : Int32) = nI 0 from rfl, nI_eq (by omega) (by decide)]; omega), if_neg (show ¬ nI (b' + 1) = 0 by rw [show (0 : Int32) = nI 0 from rfl, nI_eq (by omega) (by decide)]; omega), nI_pred, if_pos (bn (show b' < 4 by omega) (by decide)), if_pos (bn (show b' < 4 by omega) (by decide)), nI_clamp (show b' < 2 ^ 31 by omega)]
      have q := QQ.out (sim_torelay R2 (show b' < 4 by omega) hc hD H (by rw [hY2]; exact ec))
      rw [hY2] at q
      exact q
  unfold g_step
  refine key _ ?_ ?_ ?_ (fun k hk => ?_) ?_
  · simp only [vn1, vb1]
  · rw [vn21, u2r (by decide)]
    simp only [vb21]
  · simp only [vnc, vbc]
  · rw [vnb]
    rcases (by omega : k = 0 ∨ k = 1 ∨ k = 2 ∨ k = 3 ∨ k = 4 ∨ k = 5 ∨ k = 6 ∨ k = 7 ∨ k = 8 ∨ k = 9 ∨ k = 10 ∨ k = 11 ∨ k = 12 ∨ k = 13) with q | q | q | q | q | q | q | q | q | q | q | q | q | q <;> subst q <;> simp [vbb]
  · rw [vn21, u2_same]
