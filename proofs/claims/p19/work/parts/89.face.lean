/-! the face, both sides: answers and codes -/
/-- the answers agree: a value or a code (k: the code of an exception), and the relation holds behind the call -/
def AP (D : Nat) (k : Nat → Int32) (A : Option ((Option Int32 ⊕ Nat) × xSt)) (B : Option (Int32 × xVt)) : Prop := ∃ o T b W, A = some (o, T) ∧ B = some (b, W) ∧ Rel D T W ∧ ((o = .inl (some b) ∧ W.2.1 165 0 = 0) ∨ (∃ E, E < 3 ∧ o = .inr E ∧ W.2.1 165 0 = k E))
/-- the same of a call without a value -/
def AN (D : Nat) (k : Nat → Int32) (A : Option ((Option Int32 ⊕ Nat) × xSt)) (B : Option xVt) : Prop := ∃ o T W, A = some (o, T) ∧ B = some W ∧ Rel D T W ∧ ((o = .inl none ∧ W.2.1 165 0 = 0) ∨ (∃ E, E < 3 ∧ o = .inr E ∧ W.2.1 165 0 = k E))
def k3 (E : Nat) : Int32 := if E = 0 then 1 else if E = 1 then 2 else 3
def k2 (E : Nat) : Int32 := if E = 0 then 1 else 2
theorem Rel.n0 {D : Nat} {S : xSt} {V : xVt} (h : Rel D S V) (v : Int32) : Rel D S (vn V 165 0 v) := Rel.own h rfl (by rw [vn21, u2r (by decide)]) rfl
theorem n0_rd (V : xVt) (v : Int32) : (vn V 165 0 v).2.1 165 0 = v := by rw [vn21, u2_same]
theorem AP.err {D : Nat} {k : Nat → Int32} {S : xSt} {V : xVt} (h : Rel D S V) {E : Nat} {W : xVt} {b : Int32} (hE : E < 3) (hW : W = vn V 165 0 (k E)) : AP D k (some (.inr E, S)) (some (b, W)) := by
  subst hW
  exact ⟨_, _, _, _, rfl, rfl, h.n0 _, Or.inr ⟨E, hE, rfl, n0_rd _ _⟩⟩
theorem AN.err {D : Nat} {k : Nat → Int32} {S : xSt} {V : xVt} (h : Rel D S V) {E : Nat} {W : xVt} (hE : E < 3) (hW : W = vn V 165 0 (k E)) : AN D k (some (.inr E, S)) (some W) := by
  subst hW
  exact ⟨_, _, _, rfl, rfl, h.n0 _, Or.inr ⟨E, hE, rfl, n0_rd _ _⟩⟩
theorem n00 (V : xVt) (v w : Int32) : vn (vn V 165 0 v) 165 0 w = vn V 165 0 w := by
  unfold vn
  dsimp only
  rw [u2u]
theorem rng (x : Int32) (lo hi : Nat) (h : lo ≤ hi) (hh : hi < 65536) : (g_in x (nI lo) (nI hi) = 0 ∧ (x < nI lo ∨ nI hi < x)) ∨ (g_in x (nI lo) (nI hi) = 1 ∧ ¬ x < nI lo ∧ ¬ nI hi < x ∧ ∃ k : Nat, lo ≤ k ∧ k ≤ hi ∧ x = nI k) := by
  unfold g_in
  by_cases h1 : x < nI lo
  · exact Or.inl ⟨if_pos h1, Or.inl h1⟩
  · by_cases h2 : nI hi < x
    · exact Or.inl ⟨by rw [if_neg h1, if_pos h2], Or.inr h2⟩
    · refine Or.inr ⟨by rw [if_neg h1, if_neg h2], h1, h2, ?_⟩
      rw [Int32.lt_iff_toInt_lt, nI_toInt (by omega)] at h1 h2
      obtain ⟨k, l1, l2, l3⟩ := lf_nat x lo hi (by omega) (by omega)
      exact ⟨k, l1, l2, l3⟩
theorem a_circ (x : Int32) : (g_isCircuit x = 0 ∧ (x < 0 ∨ 4 ≤ x)) ∨ (g_isCircuit x = 1 ∧ ¬ (x < 0 ∨ 4 ≤ x) ∧ ∃ c : Nat, c < 4 ∧ x = nI c) := by
  rcases rng x 0 3 (by omega) (by omega) with ⟨e, q⟩ | ⟨e, q1, q2, k, l1, l2, l3⟩
  · refine Or.inl ⟨e, ?_⟩
    rcases q with q | q
    · exact Or.inl q
    · refine Or.inr ?_
      rw [Int32.lt_iff_toInt_lt, nI_toInt (by omega)] at q
      rw [Int32.le_iff_toInt_le]
      have : (4 : Int32).toInt = 4 := rfl
      omega
  · refine Or.inr ⟨e, ?_, k, by omega, l3⟩
    rintro (z | z)
    · exact q1 z
    · rw [l3, show (4 : Int32) = nI 4 from rfl, nI_leI (by decide) (by omega)] at z
      omega
theorem a_rel (x : Int32) : (g_isRelay x = 0 ∧ (x < 1 ∨ 4 < x)) ∨ (g_isRelay x = 1 ∧ ¬ (x < 1 ∨ 4 < x) ∧ ∃ i : Nat, i < 4 ∧ x = nI (i + 1)) := by
  rcases rng x 1 4 (by omega) (by omega) with ⟨e, q⟩ | ⟨e, q1, q2, k, l1, l2, l3⟩
  · exact Or.inl ⟨e, q⟩
  · exact Or.inr ⟨e, fun z => z.elim q1 q2, k - 1, by omega, by rw [l3, show k - 1 + 1 = k by omega]⟩
theorem a_exp (x : Int32) : (g_in x 1 65519 = 0 ∧ (x < 1 ∨ 65519 < x)) ∨ (g_in x 1 65519 = 1 ∧ ¬ (x < 1 ∨ 65519 < x) ∧ bnd x 65536) := by
  rcases rng x 1 65519 (by omega) (by omega) with ⟨e, q⟩ | ⟨e, q1, q2, k, l1, l2, l3⟩
  · exact Or.inl ⟨e, q⟩
  · exact Or.inr ⟨e, fun z => z.elim q1 q2, by rw [l3]; exact bn (by omega) (by decide)⟩
/-- secret -/
theorem Rel.sec {D : Nat} {S : xSt} {V : xVt} (h : Rel D S V) {i : Nat} (hi : i < 4) {b : Int32} (hb : bnd b 65536) : Rel D (sx (sx S 178 (i + 1) b) 190 i (nI (17 ^ b.toNatClampNeg % 65521))) (vx (vx V 178 (i + 1) b) 190 i (nI (17 ^ b.toNatClampNeg % 65521))) := by
  obtain ⟨h1, h2, h3, h4, hq, ⟨n, hn, e, hcl⟩, ht⟩ := h
  obtain ⟨P, hP⟩ := gen (17 ^ b.toNatClampNeg % 65521)
  rw [hP]
  have hr : ∀ r, r ≠ 178 → r ≠ 190 → (sx (sx S 178 (i + 1) b) 190 i (nI P)).1 r = S.1 r := fun r q1 q2 => by rw [sx1, u2r q2, sx1, u2r q1]
  refine ⟨by rw [vx1, vx1, sx1, sx1, h1], fun c hc => (h2 c hc).rows (fun r q1 q2 q3 => hr r (by omega) (by omega)), fun i hi c hc => (h3 i hi c hc).rows (fun r q1 q2 => hr r (by omega) (by omega)), fun i' hi' => ?_, hq, ⟨n, hn, by rw [hr 165 (by decide) (by decide)]; exact e, hcl⟩, ?_⟩
  · obtain ⟨b', a, q1, q2, q3, q4, q5⟩ := h4 i' hi'
    by_cases z : i' = i
    · subst z
      refine ⟨b.toNatClampNeg, a, ?_, bnd_lt hb, ?_, by rw [hr 179 (by decide) (by decide)]; exact q4, q5⟩
      · rw [sx1, u2r (by decide), sx1, u2_same]
        exact nI_bnd hb (by omega)
      · rw [sx1, u2_same, hP]
    · refine ⟨b', a, ?_, q2, ?_, by rw [hr 179 (by decide) (by decide)]; exact q4, q5⟩
      · rw [sx1, u2r (by decide), sx1, u2i (by omega)]
        exact q1
      · rw [sx1, u2i z, sx1, u2r (by decide)]
        exact q3
  · intro t q1 q2
    rw [hr 185 (by decide) (by decide)] at q2
    rw [hr 191 (by decide) (by decide)]
    exact ht t q1 q2
theorem sim_secret {D : Nat} {S : xSt} {V : xVt} (h : Rel D S V) (rl b : Int32) : AP D k3 (f_secret S rl b) (g_secret V rl b) := by
  have eV : V.1 = S.1 := h.1
  unfold f_secret g_secret
  simp only [bsm]
  rw [eV]
  rcases a_rel rl with ⟨e, q⟩ | ⟨e, q, i, hi, rfl⟩
  · rw [e, if_pos rfl, if_pos q]
    exact AP.err h (by decide) rfl
  rw [e, if_neg (show ¬ (1 : Int32) = 0 by decide), if_neg q]
  rcases a_exp b with ⟨e2, q2⟩ | ⟨e2, q2, hb⟩
  · rw [e2, if_pos rfl, if_pos q2]
    exact AP.err h (by decide) rfl
  rw [e2, if_neg (show ¬ (1 : Int32) = 0 by decide), if_neg q2, nI_pred, if_pos (bn hi (by decide)), if_pos (bn hi (by decide)), nI_clamp (show i < 2 ^ 31 by omega)]
  unfold f_hasPassage
  by_cases c0 : S.1 180 (4 * i) = 0
  · rw [if_pos c0, if_pos c0]
    by_cases c1 : S.1 180 (4 * i + 1) = 0
    · rw [if_pos c1, if_pos c1]
      by_cases c2 : S.1 180 (4 * i + 2) = 0
      · rw [if_pos c2, if_pos c2]
        by_cases c3 : S.1 180 (4 * i + 3) = 0
        · rw [if_pos c3, if_pos c3, if_neg (show ¬ (if (0 : Int32) = 0 then (1 : Int32) else 0) = 0 by decide), if_pos (bn (show i + 1 < 5 by omega) (by decide)), nI_clamp (show i + 1 < 2 ^ 31 by omega)]
          unfold f_takeSecret
          rw [rz_some (a := 17) ⟨by decide, by decide⟩ hb, show (17 : Int32).toNatClampNeg = 17 from rfl]
          simp only [bsm, n00]
          refine ⟨_, _, _, _, rfl, rfl, (h.n0 0).sec hi hb, Or.inl ⟨?_, n0_rd V 0⟩⟩
          rw [sx1, u2_same]
        · rw [if_neg c3, if_neg c3, if_pos (show (if (1 : Int32) = 0 then (1 : Int32) else 0) = 0 by decide)]
          simp only [n00]
          exact AP.err h (by decide) rfl
      · rw [if_neg c2, if_neg c2, if_pos (show (if (1 : Int32) = 0 then (1 : Int32) else 0) = 0 by decide)]
        simp only [n00]
        exact AP.err h (by decide) rfl
    · rw [if_neg c1, if_neg c1, if_pos (show (if (1 : Int32) = 0 then (1 : Int32) else 0) = 0 by decide)]
      simp only [n00]
      exact AP.err h (by decide) rfl
  · rw [if_neg c0, if_neg c0, if_pos (show (if (1 : Int32) = 0 then (1 : Int32) else 0) = 0 by decide)]
    simp only [n00]
    exact AP.err h (by decide) rfl
