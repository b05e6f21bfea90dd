/-! a cell comes to the client -/
theorem hh_eq {S : xSt} {c a m : Nat} (e8 : S.1 168 c = nI m) (hm : m ≤ 3) (ha : a < 2 ^ 30) : f_hasHop S c (nI a) = if a < m then 1 else 0 := by
  unfold f_hasHop
  rw [if_neg (nI_pos (show a < 2 ^ 31 by omega)), e8]
  by_cases q : a < m
  · rw [if_neg (by rw [nI_leI (by omega) (by omega)]; omega), if_pos q]
  · rw [if_pos (by rw [nI_leI (by omega) (by omega)]; omega), if_neg q]
theorem fst_eq {S : xSt} {c : Nat} {f : Int32} : (f_isLive S c = 0 → fstV S.1 f c = 0) ∧ (f_isLive S c = 1 → (f = f_firstRelay S c → ¬ fstV S.1 f c = 0) ∧ (¬ f = f_firstRelay S c → fstV S.1 f c = 0)) := by
  have e : fstV S.1 f c = (if f_isLive S c = 0 then (0 : Int32) else (if (S.1 168 c) ≤ 0 then (if (S.1 171 c) = f then (1 : Int32) else 0) else (if (S.1 169 (3 * c)) = f then (1 : Int32) else 0))) := rfl
  rw [e]
  refine ⟨fun h => if_pos h, fun h => ?_⟩
  rw [h, if_neg (show ¬ (1 : Int32) = 0 by decide)]
  unfold f_firstRelay
  by_cases q : S.1 168 c ≤ 0
  · rw [if_pos q, if_pos q]
    exact ⟨fun z => by rw [if_pos z.symm]; decide, fun z => if_neg (fun y => z y.symm)⟩
  · rw [if_neg q, if_neg q]
    exact ⟨fun z => by rw [if_pos z.symm]; decide, fun z => if_neg (fun y => z y.symm)⟩
theorem live_eq {S : xSt} {c : Nat} (h : f_isLive S c = 1) : S.1 167 c = 1 ∨ S.1 167 c = 2 := by
  unfold f_isLive at h
  by_cases q : S.1 167 c = 1
  · exact Or.inl q
  · rw [if_neg q] at h
    by_cases q2 : S.1 167 c = 2
    · exact Or.inr q2
    · rw [if_neg q2] at h
      exact absurd h (by decide)
/-- what SS says, as a taken cell -/
theorem SS.qq {D c : Nat} {A : Option (Int32 × xSt)} {B : Option xVt} (h : SS D c A B) : QQ D (A.bind fun r3 => if r3.1 = 0 then ((f_shut r3.2 c).bind fun r4 => some ((1 : Int32), r4)) else some (1, r3.2)) B := by
  obtain ⟨r, e0, S', V', e1, e2, e3⟩ := h
  rw [e0, bsm, e2]
  unfold shutc at e1
  by_cases q : r.1 = 0
  · rw [if_pos q] at e1
    rw [if_pos q, e1, bsm]
    exact ⟨_, _, rfl, rfl, e3⟩
  · rw [if_neg q] at e1
    rw [if_neg q]
    cases e1
    exact ⟨_, _, rfl, rfl, e3⟩
theorem sim_crelay {D : Nat} {S : xSt} {V : xVt} (h : Rel D S V) {c κ a : Nat} (hc : c < 4) (hD : D < 90000) (hl : S.1 167 c = 1 ∨ S.1 167 c = 2) (hκ : κ = S.2.2 20) (hB : byt (S.2.1 κ)) (hb : ∀ k, k < 14 → V.2.2.2 k = S.2.1 κ k) (hfar : V.2.1 165 27 = S.2.1 κ 18) (ha : a ≤ D + 2) (ea : S.2.1 κ 18 = nI a) (hF : ¬ fstV S.1 (S.2.1 κ 14) c = 0) {m : Nat} (e8 : S.1 168 c = nI m) (hm : m ≤ 3) (hm1 : 1 ≤ m) : QQ (D + 1) (f_takesRelay S c κ) (g_toClient V (S.2.1 κ 14) c 3) := by
  unfold f_takesRelay
  rw [if_neg (show ¬ S.1 168 c = 0 by rw [e8, show (0 : Int32) = nI 0 from rfl, nI_eq (by omega) (by decide)]; omega)]
  have eV : V.1 = S.1 := h.1
  by_cases q : a < m
  · have hh : f_hasHop S c (nI a) = 1 := by rw [hh_eq e8 hm (by omega), if_pos q]
    rw [ik_eq (by omega) ea hh, tc_1 hc (by rw [eV]; exact hF) (by rw [eV]; exact e8) hm q (by rw [hfar, ea])]
    obtain ⟨a1, a2, a3, a4, a5, a6, a7⟩ := uS_rel h c a hκ hB hb
    have hl1 : (uS S κ c a).1 167 c = 1 ∨ (uS S κ c a).1 167 c = 2 := by rw [a6 167 (by decide)]; exact hl
    have e81 : (uS S κ c a).1 168 c = nI m := by rw [a6 168 (by decide)]; exact e8
    have hκ1 : κ = (uS S κ c a).2.2 20 := by rw [a5]; exact hκ
    obtain ⟨T, hT⟩ := gen (uS S κ c a)
    obtain ⟨W, hW⟩ := gen (uV V c a)
    rw [hT] at a1 a2 a3 a4 a5 hl1 e81 hκ1 ⊢
    rw [hW] at a1 a3 a7 ⊢
    unfold knF tcT
    have hk := kn_eq a2 a3 (W.1 170 (12 * c + 4 * a + 3))
    rw [hk.1, hk.2, a1.1]
    obtain ⟨K, hK⟩ := gen (f_fed T κ (T.1 170 (12 * c + 4 * a + 3)))
    rw [hK]
    by_cases c3 : f_isKnownBy T κ K = 0
    · rw [if_pos c3, if_pos c3, bsm, if_pos c3]
      obtain ⟨S', V', e1, e2, e3⟩ := sim_shut a1 hc hl1
      rw [e1, e2, bsm, bsm]
      exact ⟨_, _, rfl, rfl, e3.mono (by omega)⟩
    · rw [if_neg c3, if_neg c3, bsm, if_neg c3]
      have r2 := a1.free (r := 170) (i := 12 * c + 4 * a + 3) (v := K) (Or.inl rfl)
      have hfol := sim_cfol r2 (a := a) (m := m) hc (by rw [sx1, u2r (by decide)]; exact hl1) (by rw [sx1, u2r (by decide)]; exact e81) hm q hκ1 a2 a3
      rw [show ((f_isKnownBy T κ K, sx T 170 (12 * c + 4 * a + 3) K) : Int32 × xSt).2.2.1 κ 18 = nI a from a4.trans ea]
      exact QQ.b (SS.qq hfol)
  · have hh : f_hasHop S c (nI a) = 0 := by rw [hh_eq e8 hm (by omega), if_neg q]
    rw [tc_0 (by rw [eV]; exact hF) (by rw [eV]; exact e8) hm1 hm (show m ≤ a by omega) (by omega) (by rw [hfar, ea])]
    unfold f_isKnown
    rw [ea, bsm, hh, if_pos rfl, bsm, if_pos rfl]
    obtain ⟨S', V', e1, e2, e3⟩ := sim_shut h hc hl
    rw [e1, e2, bsm, bsm]
    exact ⟨_, _, rfl, rfl, e3.mono (by omega)⟩
theorem sim_toclient {D : Nat} {S : xSt} {V : xVt} (h : Rel D S V) {c κ : Nat} (hc : c < 4) (hD : D < 90000) (H : Hand D S V κ) : QQ (D + 1) (f_takes S c κ) (g_toClient V (S.2.1 κ 14) c (S.2.1 κ 17)) := by
  obtain ⟨hκ, hκ2, ⟨h14, h15, h16', h17, a, ha, ea⟩, hfar, hbytes⟩ := H
  have hm1 := h.mono (show D ≤ D + 1 by omega)
  have eV : V.1 = S.1 := h.1
  have hst : QQ (D + 1) (some (0, S)) (some (vx V 165 5 (V.1 165 5 + 1))) := QQ.str hm1
  obtain ⟨m, a1, a2, a3, a4, a5, a6, a7, a8⟩ := h.2.1 c hc
  have fe := fst_eq (S := S) (c := c) (f := S.2.1 κ 14)
  have stray : fstV S.1 (S.2.1 κ 14) c = 0 → ∀ cm, g_toClient V (S.2.1 κ 14) c cm = some (vx V 165 5 (V.1 165 5 + 1)) := by
    intro hF cm
    have hF2 : fstV V.1 (S.2.1 κ 14) c = 0 := by rw [eV]; exact hF
    unfold fstV at hF2
    unfold g_toClient
    by_cases c2 : cm = 2
    · rw [if_pos c2, if_pos hF2]
    rw [if_neg c2]
    by_cases c3 : cm = 3
    · rw [if_pos c3, if_pos hF2]
    rw [if_neg c3]
    by_cases c4 : cm = 4
    · rw [if_pos c4, if_pos hF2]
    rw [if_neg c4]
  unfold f_takes
  rw [bsm]
  rcases b_isLive (S := S) (c := c) rfl with hl | hl
  · rw [hl, if_pos rfl, stray (fe.1 hl)]
    exact hst
  rw [hl, if_neg (show ¬ (1 : Int32) = 0 by decide), bsm]
  have hlive := live_eq hl
  by_cases q1 : S.2.1 κ 14 = f_firstRelay S c
  · have hF : ¬ fstV S.1 (S.2.1 κ 14) c = 0 := (fe.2 hl).1 q1
    have hFV : ¬ fstV V.1 (S.2.1 κ 14) c = 0 := by rw [eV]; exact hF
    rw [if_pos q1]
    rcases h17 with q | q | q | q
    · rw [q, if_neg (show ¬ (1 : Int32) = 2 by decide), if_neg (show ¬ (1 : Int32) = 3 by decide), if_neg (show ¬ (1 : Int32) = 4 by decide)]
      unfold g_toClient
      rw [if_neg (show ¬ (1 : Int32) = 2 by decide), if_neg (show ¬ (1 : Int32) = 3 by decide), if_neg (show ¬ (1 : Int32) = 4 by decide)]
      exact hst
    · rw [q, if_pos rfl]
      obtain ⟨hB, hb⟩ := hbytes (by rw [q]; decide)
      refine QQ.eta ?_
      unfold fstV at hFV
      unfold f_takesCreated g_toClient
      rw [if_pos rfl, if_neg hFV, eV, a1]
      by_cases z : m = 0
      · subst z
        rw [if_pos (show nI 0 ≤ 0 by decide), if_pos (show nI 0 = 0 from rfl)]
        have hs1 : S.1 167 c = 1 := by
          rcases hlive with y | y
          · exact y
          · exact absurd (a5 y) (by omega)
        obtain ⟨p0, q0⟩ := pair_eq (k := 0) hb hB (by omega)
        obtain ⟨p2, q2⟩ := pair_eq (k := 2) hb hB (by omega)
        simp only [bsm]
        rw [p0, p2]
        exact QQ.b (SS.qq ((sim_meet h hc hs1 q0).mono (by omega)))
      · rw [if_neg (by rw [show (0 : Int32) = nI 0 from rfl, nI_leI (by omega) (by decide)]; omega), if_neg (by rw [show (0 : Int32) = nI 0 from rfl, nI_eq (by omega) (by decide)]; exact z), ← eV]
        exact hst
    · rw [q, if_neg (show ¬ (3 : Int32) = 2 by decide), if_pos rfl]
      obtain ⟨hB, hb⟩ := hbytes (by rw [q]; decide)
      refine QQ.eta ?_
      by_cases z : m = 0
      · subst z
        unfold f_takesRelay
        rw [a1, if_pos (show nI 0 = 0 from rfl)]
        unfold fstV at hFV
        unfold g_toClient
        rw [if_neg (show ¬ (3 : Int32) = 2 by decide), if_pos rfl, if_neg hFV, if_pos (show V.1 168 c ≤ 0 by rw [eV, a1]; decide)]
        exact hst
      · exact sim_crelay h hc hD hlive hκ hB hb hfar ha ea hF a1 a2 (by omega)
    · rw [q, if_neg (show ¬ (4 : Int32) = 2 by decide), if_neg (show ¬ (4 : Int32) = 3 by decide), if_pos rfl, bsm]
      obtain ⟨V', e1, e2, e3⟩ := hm1.closed hc
      unfold fstV at hFV
      unfold g_toClient
      rw [if_neg (show ¬ (4 : Int32) = 2 by decide), if_neg (show ¬ (4 : Int32) = 3 by decide), if_pos rfl, if_neg hFV, e1, bsm]
      exact ⟨_, _, rfl, rfl, e3⟩
  · rw [if_neg q1, stray ((fe.2 hl).2 q1)]
    exact hst
