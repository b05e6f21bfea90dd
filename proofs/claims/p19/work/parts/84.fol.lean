/-! orders at the client -/
theorem CI.self {D D' : Nat} {X X' : Nat → Nat → Int32} {c : Nat} (h : CI D X c) (hd : D ≤ D') (e7 : X' 167 = X 167) (e8 : X' 168 = X 168) (e9 : X' 169 = X 169) (e1 : X' 171 = X 171) (e2 : X' 172 = X 172) (e6 : bnd (X' 176 c) 8) (e4 : X' 174 = X 174) (es : ∀ m s, s < 3 → StI D m (X 173 (3 * c + s)) (X 174 (3 * c + s)) (X 175 (3 * c + s)) → StI D' m (X' 173 (3 * c + s)) (X 174 (3 * c + s)) (X' 175 (3 * c + s))) : CI D' X' c := by
  obtain ⟨m, a1, a2, a3, a4, a5, a6, a7, a8⟩ := h
  refine ⟨m, ?_, a2, ?_, ?_, ?_, ?_, e6, fun s hs => ?_⟩
  · rw [e8]; exact a1
  · rw [e7, e1, e2]; exact a3
  · rw [e7, e1]; exact a4
  · rw [e7]; exact a5
  · rw [e9]; exact a6
  · rw [e4]; exact es m s hs (a8 s hs)
theorem kf_cg2 {X : Nat → Nat → Int32} {c n : Nat} {F G : Nat → Int32} (hn : n ≤ 7) (h : ∀ j, j < 14 → F j = G j) : kfill X c F n = kfill X c G n := by
  funext r i
  unfold kfill
  by_cases q : r = 177 ∧ 7 * c ≤ i ∧ i < 7 * c + n
  · rw [if_pos q, if_pos q, h _ (by omega)]
  · rw [if_neg q, if_neg q]
theorem kfill_r {X : Nat → Nat → Int32} {c n : Nat} {F : Nat → Int32} {r : Nat} (h : r ≠ 177) : kfill X c F n r = X r := by
  funext i
  exact if_neg (fun q => h q.1)
/-- the streams of one circuit -/
theorem Rel.strm {D : Nat} {S : xSt} {V : xVt} (h : Rel D S V) {c : Nat} (hc : c < 4) {S' : xSt} {V' : xVt} (e0 : ∀ r, r ≠ 173 → r ≠ 175 → r ≠ 176 → r ≠ 177 → S'.1 r = S.1 r) (e1 : V'.1 = S'.1) (e2 : S'.2 = S.2) (e3 : V'.2.1 186 = V.2.1 186) (e4 : V'.2.2.1 = V.2.2.1) (eo : ∀ c', c' < 4 → c' ≠ c → S'.1 176 c' = S.1 176 c' ∧ ∀ s, s < 3 → S'.1 173 (3 * c' + s) = S.1 173 (3 * c' + s) ∧ S'.1 175 (3 * c' + s) = S.1 175 (3 * c' + s)) (e6 : bnd (S'.1 176 c) 8) (es : ∀ m s, s < 3 → StI D m (S.1 173 (3 * c + s)) (S.1 174 (3 * c + s)) (S.1 175 (3 * c + s)) → StI (D + 1) m (S'.1 173 (3 * c + s)) (S.1 174 (3 * c + s)) (S'.1 175 (3 * c + s))) : Rel (D + 1) S' V' := by
  have hm := h.mono (show D ≤ D + 1 by omega)
  refine hm.circ (c := c) (fun r hr => e0 r (by omega) (by omega) (by omega) (by omega)) e1 e2 e3 e4 (fun c' hc' hne => ?_) ?_
  · refine (hm.2.1 c' hc').cg (by rw [e0 167 (by decide) (by decide) (by decide) (by decide)]) (by rw [e0 168 (by decide) (by decide) (by decide) (by decide)]) (by rw [e0 169 (by decide) (by decide) (by decide) (by decide)]) (by rw [e0 171 (by decide) (by decide) (by decide) (by decide)]) (by rw [e0 172 (by decide) (by decide) (by decide) (by decide)]) (eo c' hc' hne).1 (fun s hs => ⟨((eo c' hc' hne).2 s hs).1, by rw [e0 174 (by decide) (by decide) (by decide) (by decide)], ((eo c' hc' hne).2 s hs).2⟩)
  · exact (h.2.1 c hc).self (by omega) (e0 167 (by decide) (by decide) (by decide) (by decide)) (e0 168 (by decide) (by decide) (by decide) (by decide)) (e0 169 (by decide) (by decide) (by decide) (by decide)) (e0 171 (by decide) (by decide) (by decide) (by decide)) (e0 172 (by decide) (by decide) (by decide) (by decide)) e6 (e0 174 (by decide) (by decide) (by decide) (by decide)) es
theorem StI.up {D m : Nat} {a k z : Int32} (h : StI D m a k z) : StI (D + 1) m a k z := by
  obtain ⟨k', z', b1, b2, b3, b4, b5⟩ := h
  exact ⟨k', z', b1, b2, b3, by omega, b5⟩
/-- one stream set -/
theorem Rel.set1 {D : Nat} {S : xSt} {V : xVt} (h : Rel D S V) {c t : Nat} (hc : c < 4) (ht : t < 3) {a z : Int32} (hs : ∀ m, StI D m (S.1 173 (3 * c + t)) (S.1 174 (3 * c + t)) (S.1 175 (3 * c + t)) → StI (D + 1) m a (S.1 174 (3 * c + t)) z) : Rel (D + 1) (sx (sx S 173 (3 * c + t) a) 175 (3 * c + t) z) (vx (vx V 173 (3 * c + t) a) 175 (3 * c + t) z) := by
  refine h.strm hc (fun r q1 q2 q3 q4 => ?_) ?_ rfl rfl rfl (fun c' hc' hne => ⟨?_, fun s hs => ⟨?_, ?_⟩⟩) ?_ (fun m s hs2 hst => ?_)
  · rw [sx1, u2r q2, sx1, u2r q1]
  · rw [vx1, vx1, sx1, sx1, h.1]
  · rw [sx1, u2r (by decide), sx1, u2r (by decide)]
  · rw [sx1, u2r (by decide), sx1, u2i (by omega)]
  · rw [sx1, u2i (by omega), sx1, u2r (by decide)]
  · rw [sx1, u2r (by decide), sx1, u2r (by decide)]
    obtain ⟨m, a1, a2, a3, a4, a5, a6, a7, a8⟩ := h.2.1 c hc
    exact a7
  · by_cases q : s = t
    · subst q
      rw [sx1, u2r (show 173 ≠ 175 by decide), sx1, u2_same, u2_same]
      exact hs m hst
    · rw [sx1, u2r (show 173 ≠ 175 by decide), sx1, u2i (by omega), u2i (by omega), u2r (by decide)]
      exact hst.up
theorem ix3 {c t : Nat} (hc : c < 4) (ht : t < 3) : (nI (3 * c) + nI (t + 1) - 1) = nI (3 * c + t) ∧ bnd (nI (3 * c) + nI (t + 1) - 1) 12 ∧ (nI (3 * c) + nI (t + 1) - 1).toNatClampNeg = 3 * c + t := by
  have e : nI (3 * c) + nI (t + 1) - 1 = nI (3 * c + t) := by rw [nI_add, ← Nat.add_assoc, nI_pred]
  rw [e]
  exact ⟨rfl, bn (by omega) (by decide), nI_clamp (by omega)⟩
theorem nI_ne {a b : Nat} (ha : a < 2 ^ 31) (hb : b < 2 ^ 31) (h : a ≠ b) : nI a ≠ nI b := fun q => h ((nI_eq ha hb).mp q)
theorem sim_of {D : Nat} {S : xSt} {V : xVt} (h : Rel D S V) {c κ : Nat} (hc : c < 4) (hκ : κ = S.2.2 20) (hB : byt (S.2.1 κ)) (hb : ∀ k, k < 14 → V.2.2.2 k = S.2.1 κ k) (hop : Int32) : ∃ S' V', f_followOfStream S c κ hop = some S' ∧ g_ofStream V c hop (S.2.1 κ 4) = some V' ∧ Rel (D + 1) S' V' := by
  have hm := h.mono (show D ≤ D + 1 by omega)
  have h5 := hb 5 (by omega)
  have h6 := hb 6 (by omega)
  unfold f_followOfStream g_ofStream
  simp only [bsm]
  rw [h5, show g_in (S.2.1 κ 5) 1 3 = f_isStream (S.2.1 κ 5) from rfl]
  rcases str (S.2.1 κ 5) with hs | ⟨hs, t, ht, es⟩
  · rw [hs, if_pos rfl, if_pos rfl]
    exact ⟨S, V, rfl, rfl, hm⟩
  have i3 := ix3 hc ht
  have i1 := str1 ht
  rw [hs, if_neg (show ¬ (1 : Int32) = 0 by decide), if_neg (show ¬ (1 : Int32) = 0 by decide), es, if_pos i1.2.1, if_pos i3.2.1, i1.2.2, i3.2.2, h.1]
  obtain ⟨m, a1, a2, a3, a4, a5, a6, a7, a8⟩ := h.2.1 c hc
  obtain ⟨k, z, b1, b2, b3, b4, b5, b6⟩ := a8 t ht
  by_cases c0 : S.1 173 (3 * c + t) = 0
  · rw [if_pos c0, c0, if_neg (show ¬ (0 : Int32) = 1 by decide), if_neg (show ¬ (0 : Int32) = 2 by decide), if_neg (show ¬ (0 : Int32) = 2 by decide)]
    have ez : S.1 175 (3 * c + t) = 0 := by rw [b3, b5 c0]; rfl
    have eb : f_become S c t 0 0 = S := by
      unfold f_become sx
      dsimp only
      rw [u2_id c0, u2_id ez]
    rw [eb]
    refine ⟨S, V, ?_, rfl, hm⟩
    split
    · split
      · rfl
      · split
        · rfl
        · split
          · rfl
          · split <;> rfl
    · rfl
  · rw [if_neg c0]
    by_cases c1 : S.1 174 (3 * c + t) = hop
    · rw [if_pos c1, if_pos c1]
      by_cases o4 : S.2.1 κ 4 = 4
      · rw [if_neg (show ¬ S.2.1 κ 4 = 6 by rw [o4]; decide), if_pos o4, if_pos o4]
        by_cases s1 : S.1 173 (3 * c + t) = 1
        · rw [if_pos s1, if_pos s1]
          exact ⟨_, _, rfl, rfl, h.set1 hc ht (a := 2) (z := 4) (fun m' ⟨k', z', d1, d2, d3, d4, d5, d6⟩ => ⟨k', 4, d1, d2, rfl, by omega, fun q => absurd q (by decide), fun _ => ⟨by decide, (d6 c0).2⟩⟩)⟩
        · rw [if_neg s1, if_neg s1]
          exact ⟨S, V, rfl, rfl, hm⟩
      · rw [if_neg o4, if_neg o4]
        by_cases o5 : S.2.1 κ 4 = 5
        · rw [if_neg (show ¬ S.2.1 κ 4 = 6 by rw [o5]; decide), if_pos o5, if_pos o5]
          by_cases s2 : S.1 173 (3 * c + t) = 2
          · rw [if_pos s2, if_pos s2, h6]
            unfold f_keepLatest f_dataLength
            rw [bsm]
            have hdl := dl_le (hB 6 (by omega))
            obtain ⟨L, hL⟩ := gen (if 7 ≤ S.2.1 κ 6 then (7 : Int32) else S.2.1 κ 6)
            rw [hL] at hdl ⊢
            rw [sx1, vx1, h.1, u2_same, if_pos hdl.1, if_pos hdl.1, bsm]
            refine ⟨_, _, rfl, rfl, ?_⟩
            have hn7 : L.toNatClampNeg ≤ 7 := by have := bnd_lt hdl.1; omega
            refine h.strm hc (fun r q1 q2 q3 q4 => ?_) ?_ rfl rfl rfl (fun c' hc' hne => ⟨?_, fun s hs => ⟨?_, ?_⟩⟩) ?_ (fun m s hs2 hst => ?_)
            · show kfill (xi_u2 S.1 176 c L) c (S.2.1 κ) L.toNatClampNeg r = _
              rw [kfill_r q4, u2r q3]
            · exact kf_cg2 hn7 hb
            · show kfill (xi_u2 S.1 176 c L) c (S.2.1 κ) L.toNatClampNeg 176 c' = _
              rw [kfill_r (by decide), u2i hne]
            · show kfill (xi_u2 S.1 176 c L) c (S.2.1 κ) L.toNatClampNeg 173 _ = _
              rw [kfill_r (by decide), u2r (by decide)]
            · show kfill (xi_u2 S.1 176 c L) c (S.2.1 κ) L.toNatClampNeg 175 _ = _
              rw [kfill_r (by decide), u2r (by decide)]
            · show bnd (kfill (xi_u2 S.1 176 c L) c (S.2.1 κ) L.toNatClampNeg 176 c) 8
              rw [kfill_r (by decide), u2_same]
              exact hdl.1
            · show StI (D + 1) m (kfill (xi_u2 S.1 176 c L) c (S.2.1 κ) L.toNatClampNeg 173 _) _ (kfill (xi_u2 S.1 176 c L) c (S.2.1 κ) L.toNatClampNeg 175 _)
              rw [kfill_r (by decide), kfill_r (by decide), u2r (by decide), u2r (by decide)]
              exact hst.up
          · rw [if_neg s2, if_neg s2]
            exact ⟨S, V, rfl, rfl, hm⟩
        · rw [if_neg o5, if_neg o5]
          by_cases o6 : S.2.1 κ 4 = 6
          · rw [if_pos o6, if_pos o6]
            exact ⟨_, _, rfl, rfl, h.set1 hc ht (a := 0) (z := 0) (fun m' ⟨k', z', d1, d2, d3, d4, d5, d6⟩ => ⟨k', 0, d1, d2, rfl, by omega, fun _ => rfl, fun q => absurd rfl q⟩)⟩
          · rw [if_neg o6, if_neg o6]
            by_cases o7 : S.2.1 κ 4 = 7
            · rw [if_pos o7, if_pos o7]
              by_cases s2 : S.1 173 (3 * c + t) = 2
              · rw [if_pos s2, if_pos s2]
                have r := h.set1 hc ht (a := S.1 173 (3 * c + t)) (z := S.1 175 (3 * c + t) + 2) (fun m' ⟨k', z', d1, d2, d3, d4, d5, d6⟩ => ⟨k', z' + 2, d1, d2, by rw [d3]; exact nI_add z' 2, by omega, fun q => absurd q c0, d6⟩)
                have e1 : sx S 173 (3 * c + t) (S.1 173 (3 * c + t)) = S := by
                  unfold sx
                  rw [u2_id rfl]
                have e2 : vx V 173 (3 * c + t) (S.1 173 (3 * c + t)) = V := by
                  unfold vx
                  rw [← h.1, u2_id rfl]
                rw [e1, e2] at r
                exact ⟨_, _, rfl, rfl, r⟩
              · rw [if_neg s2, if_neg s2]
                exact ⟨S, V, rfl, rfl, hm⟩
            · rw [if_neg o7, if_neg o7]
              exact ⟨S, V, rfl, rfl, hm⟩
    · rw [if_neg c1, if_neg c1]
      exact ⟨S, V, rfl, rfl, hm⟩
