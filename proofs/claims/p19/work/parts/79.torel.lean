/-! CREATE, CREATED, DESTROY at a relay -/
theorem born_r {S : xSt} {i c r : Nat} {v f hh : Int32} (h : r ≠ 179 ∧ r ≠ 180 ∧ r ≠ 181 ∧ r ≠ 184) : (f_start (sx S 179 (i + 1) v) i c f hh).1 r = S.1 r := by
  unfold f_start f_fillKeysP
  simp only [sx1]
  rw [u2r h.2.2.2, u2r h.2.2.2, u2r h.2.2.2, u2r h.2.2.2, u2r h.2.2.1, u2r h.2.1, u2r h.1]
theorem Rel.born {D : Nat} {S : xSt} {V : xVt} (h : Rel D S V) {i c : Nat} (hi : i < 4) (hc : c < 4) (h0 : S.1 180 (4 * i + c) = 0) {f hh : Int32} (hf : ∃ n : Nat, n ≤ 4 ∧ f = nI n) {S' : xSt} {V' : xVt} (eS : S' = f_start (sx S 179 (i + 1) (S.1 179 (i + 1) + 1)) i c f hh) (e1 : V'.1 = S'.1) (e2 : ∀ x, ¬ (12 * i + 3 * c ≤ x ∧ x < 12 * i + 3 * c + 3) → V'.2.1 186 x = V.2.1 186 x) (e3 : V'.2.2.1 = V.2.2.1) : Rel (D + 1) S' V' := by
  have hm := h.mono (show D ≤ D + 1 by omega)
  have hp := h.2.2.1 i hi c hc
  have hz : S.1 181 (4 * i + c) = -1 ∧ S.1 182 (4 * i + c) = -1 ∧ S.1 183 (4 * i + c) = -1 ∧ (∀ k, k < 4 → S.1 184 (16 * i + 4 * c + k) = 0) ∧ (∀ s, s < 3 → S.1 185 (12 * i + 3 * c + s) = 0) := by
    rcases hp with q | q
    · exact q.2
    · rw [h0] at q
      exact absurd q.1 (by decide)
  obtain ⟨h1, h2, h3, h4, hq, ⟨n, hn, e, hcl⟩, ht⟩ := hm
  have hr : ∀ r, r ≠ 179 ∧ r ≠ 180 ∧ r ≠ 181 ∧ r ≠ 184 → S'.1 r = S.1 r := fun r q => by rw [eS]; exact born_r q
  have eS2 : S'.2 = S.2 := by rw [eS]; rfl
  refine ⟨e1, fun c hc => (h2 c hc).rows (fun r q1 q2 q3 => hr r (by omega)), fun i' hi' c' hc' => ?_, fun i' hi' => ?_, by rw [eS2]; exact hq, ⟨n, hn, by rw [hr 165 (by decide)]; exact e, by rw [eS2, e3]; exact hcl⟩, ?_⟩
  · by_cases hs : i' = i ∧ c' = c
    · obtain ⟨rfl, rfl⟩ := hs
      refine Or.inr ⟨?_, ?_, ?_, ?_, fun s hs => ?_⟩
      · rw [eS]
        simp [f_start, f_fillKeysP, sx1, u2_at]
      · rw [eS, show (f_start (sx S 179 (i' + 1) (S.1 179 (i' + 1) + 1)) i' c' f hh).1 181 (4 * i' + c') = f by simp [f_start, f_fillKeysP, sx1, u2_at]]
        exact hf
      · rw [hr 182 (by decide)]
        exact Or.inl hz.2.1
      · rw [hr 183 (by decide)]
        exact Or.inl hz.2.2.1
      · rw [hr 185 (by decide)]
        exact Or.inl (hz.2.2.2.2 s hs)
    · have hx : 4 * i' + c' ≠ 4 * i + c := by omega
      refine (h3 i' hi' c' hc').cg ?_ ?_ ?_ ?_ (fun k hk => ?_) (fun s hs => ?_)
      · rw [eS]
        simp [f_start, f_fillKeysP, sx1, u2_at, hx]
      · rw [eS]
        simp [f_start, f_fillKeysP, sx1, u2_at, hx]
      · rw [hr 182 (by decide)]
      · rw [hr 183 (by decide)]
      · have a0 : 16 * i' + 4 * c' + k ≠ 16 * i + 4 * c := by omega
        have a1 : 16 * i' + 4 * c' + k ≠ 16 * i + 4 * c + 1 := by omega
        have a2 : 16 * i' + 4 * c' + k ≠ 16 * i + 4 * c + 2 := by omega
        have a3 : 16 * i' + 4 * c' + k ≠ 16 * i + 4 * c + 3 := by omega
        rw [eS]
        simp [f_start, f_fillKeysP, sx1, u2_at, a0, a1, a2, a3]
      · rw [hr 185 (by decide)]
  · obtain ⟨b, a, q1, q2, q3, q4, q5⟩ := h.2.2.2.1 i' hi'
    by_cases hs : i' = i
    · subst hs
      refine ⟨b, a + 1, by rw [hr 178 (by decide)]; exact q1, q2, by rw [hr 190 (by decide)]; exact q3, ?_, by omega⟩
      rw [eS]
      simp [f_start, f_fillKeysP, sx1, u2_at]
      rw [q4, nI_1]
    · refine ⟨b, a, by rw [hr 178 (by decide)]; exact q1, q2, by rw [hr 190 (by decide)]; exact q3, ?_, by omega⟩
      rw [eS]
      simp [f_start, f_fillKeysP, sx1, u2_at, hs]
      exact q4
  · intro t ht1 ht2
    rw [hr 185 (by decide)] at ht2
    rw [hr 191 (by decide), e2 t (fun q => by
      have := hz.2.2.2.2 (t - (12 * i + 3 * c)) (by omega)
      rw [show 12 * i + 3 * c + (t - (12 * i + 3 * c)) = t by omega, ht2] at this
      exact absurd this (by decide))]
    exact ht t ht1 ht2
theorem rz_some {a e : Int32} (ha : bnd a 65536) (he : bnd e 65536) : f_raise a e = some (nI (a.toNatClampNeg ^ e.toNatClampNeg % 65521)) := by
  unfold f_raise
  rw [if_pos ha, if_pos he]
theorem rz_bnd (a b : Nat) : bnd (nI (a ^ b % 65521)) 65536 := bn (by have := Nat.mod_lt (a ^ b) (show 0 < 65521 by decide); omega) (by decide)
theorem forget_id {D : Nat} {S : xSt} {V : xVt} (h : Rel D S V) {i c : Nat} (hi : i < 4) (hc : c < 4) (h0 : S.1 180 (4 * i + c) = 0) : (g_forget V i c).1 = S.1 := by
  have hz : S.1 181 (4 * i + c) = -1 ∧ S.1 182 (4 * i + c) = -1 ∧ S.1 183 (4 * i + c) = -1 ∧ (∀ k, k < 4 → S.1 184 (16 * i + 4 * c + k) = 0) ∧ (∀ s, s < 3 → S.1 185 (12 * i + 3 * c + s) = 0) := by
    rcases h.2.2.1 i hi c hc with q | q
    · exact q.2
    · rw [h0] at q
      exact absurd q.1 (by decide)
  rw [show (g_forget V i c).1 = (f_vanish (V.1, S.2) i c).1 from rfl, h.1]
  unfold f_vanish
  simp only [sx1]
  rw [u2_id (X := S.1) h0, u2_id (X := S.1) hz.1, u2_id (X := S.1) hz.2.1, u2_id (X := S.1) hz.2.2.1, u2_id (X := S.1) (i := 16 * i + 4 * c) (hz.2.2.2.1 0 (by decide)), u2_id (X := S.1) (hz.2.2.2.1 1 (by decide)), u2_id (X := S.1) (hz.2.2.2.1 2 (by decide)), u2_id (X := S.1) (hz.2.2.2.1 3 (by decide)), u2_id (X := S.1) (i := 12 * i + 3 * c) (hz.2.2.2.2 0 (by decide)), u2_id (X := S.1) (hz.2.2.2.2 1 (by decide)), u2_id (X := S.1) (hz.2.2.2.2 2 (by decide))]
theorem y_bnd {m i a : Nat} (hm : m < 65536) (hi : i < 4) (ha : a < 100000) : bnd ((1 : Int32) + rem (nI m * 31 + nI (977 * i + 977) + nI a) 65519) 65536 := by
  have e : (1 : Int32) + rem (nI m * 31 + nI (977 * i + 977) + nI a) 65519 = nI (1 + (m * 31 + (977 * i + 977) + a) % 65519) := by
    rw [show (31 : Int32) = nI 31 from rfl, pk_mul, nI_add, nI_add]
    have e2 : rem (nI (m * 31 + (977 * i + 977) + a)) 65519 = nI ((m * 31 + (977 * i + 977) + a) % 65519) := pk_rem (d := 65519) (by omega) (by decide) (by decide)
    rw [e2, show (1 : Int32) = nI 1 from rfl, nI_add]
  rw [e]
  refine bn ?_ (by decide)
  have := Nat.mod_lt (m * 31 + (977 * i + 977) + a) (show 0 < 65519 by decide)
  omega
theorem mix_eq (x y : Int32) : g_mix x y = f_mix x y := rfl
def agN (N : Nat → Nat → Int32) (h : Int32) : Nat → Nat → Int32 := xi_u2 (xi_u2 (xi_u2 (xi_u2 (xi_u2 N 165 28 (ushr h 16)) 188 0 (f_mix h 1)) 188 1 (f_mix (f_mix h 1) 2)) 188 2 (f_mix (f_mix (f_mix h 1) 2) 3)) 188 3 (f_mix (f_mix (f_mix (f_mix h 1) 2) 3) 4)
theorem agree_eq (V : xVt) (s t x y n : Int32) : g_agree V s t x y n = some (V.1, agN V.2.1 (f_shared s t x y n), V.2.2) := by
  unfold g_agree
  simp only [Option.bind_some, mix_eq]
  unfold f_shared agN
  rfl
