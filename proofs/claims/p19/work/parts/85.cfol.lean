theorem o_in {o : Int32} : (g_in o 4 7 = 1 ∧ (o = 4 ∨ o = 5 ∨ o = 6 ∨ o = 7)) ∨ (g_in o 4 7 = 0 ∧ ¬ o = 4 ∧ ¬ o = 5 ∧ ¬ o = 6 ∧ ¬ o = 7) := by
  unfold g_in
  by_cases h1 : o < 4
  · refine Or.inr ⟨if_pos h1, ?_, ?_, ?_, ?_⟩ <;> (intro q; rw [q] at h1; exact absurd h1 (by decide))
  · by_cases h2 : 7 < o
    · refine Or.inr ⟨by rw [if_neg h1, if_pos h2], ?_, ?_, ?_, ?_⟩ <;> (intro q; rw [q] at h2; exact absurd h2 (by decide))
    · refine Or.inl ⟨by rw [if_neg h1, if_neg h2], ?_⟩
      rw [Int32.lt_iff_toInt_lt] at h1 h2
      have e1 : (4 : Int32).toInt = 4 := rfl
      have e3 : (7 : Int32).toInt = 7 := rfl
      obtain ⟨e, l1, l2, rfl⟩ := lf_nat o 4 7 (by omega) (by omega)
      rcases (by omega : e = 4 ∨ e = 5 ∨ e = 6 ∨ e = 7) with q | q | q | q <;> subst q <;> decide
/-- TRUNCATED -/
theorem Rel.trunc {D : Nat} {S : xSt} {V : xVt} (h : Rel D S V) {c a m : Nat} (hc : c < 4) (e8 : S.1 168 c = nI m) (hm : m ≤ 3) (ha : a < m) : Rel D (f_becomeReady (dropX (sx S 168 c (nI a + 1)).1 c (nI a + 1), (sx S 168 c (nI a + 1)).2) c) (vx (vx (dropX (vx V 168 c (nI a + 1)).1 c (nI a + 1), (vx V 168 c (nI a + 1)).2) 167 c 2) 171 c (-1)) := by
  obtain ⟨m', a1, a2, a3, a4, a5, a6, a7, a8⟩ := h.2.1 c hc
  have hmm : m' = m := (nI_eq (by omega) (by omega)).mp (a1.symm.trans e8)
  subst hmm
  unfold f_becomeReady
  rw [nI_1]
  have r1 : ∀ r, r ≠ 173 → r ≠ 175 → dropX (xi_u2 S.1 168 c (nI (a + 1))) c (nI (a + 1)) r = xi_u2 S.1 168 c (nI (a + 1)) r := fun r q1 q2 => dropX_r ⟨q1, q2⟩
  refine h.circ (c := c) (fun r hr => ?_) ?_ rfl rfl rfl (fun c' hc' hne => ?_) ?_
  · rw [sx1, u2r (by omega), sx1, u2r (by omega)]
    show dropX (sx S 168 c (nI (a + 1))).1 c (nI (a + 1)) r = _
    rw [dropX_r (by omega), sx1, u2r (by omega)]
  · rw [vx1, vx1, sx1, sx1]
    show xi_u2 (xi_u2 (dropX (vx V 168 c (nI (a + 1))).1 c (nI (a + 1))) 167 c 2) 171 c (-1) = xi_u2 (xi_u2 (dropX (sx S 168 c (nI (a + 1))).1 c (nI (a + 1))) 167 c 2) 171 c (-1)
    rw [vx1, sx1, h.1]
  · rw [sx1, sx1]
    exact ((((h.2.1 c' hc').uc hne (by decide)).ud hne).uc hne (by decide)).uc hne (by decide)
  · rw [sx1, sx1]
    show CI D (xi_u2 (xi_u2 (dropX (xi_u2 S.1 168 c (nI (a + 1))) c (nI (a + 1))) 167 c 2) 171 c (-1)) c
    refine ⟨a + 1, ?_, by omega, fun q => ?_, fun _ => ?_, fun _ => by omega, fun _ => ?_, ?_, fun s hs => ?_⟩
    · rw [u2r (by decide), u2r (by decide), r1 168 (by decide) (by decide), u2_same]
    · rw [u2r (by decide), u2_same] at q
      exact absurd q (by decide)
    · rw [u2_same]
    · rw [u2r (by decide), u2r (by decide), r1 169 (by decide) (by decide), u2r (by decide)]
      exact a6 (by omega)
    · rw [u2r (by decide), u2r (by decide), r1 176 (by decide) (by decide), u2r (by decide)]
      exact a7
    · obtain ⟨k, z, b1, b2, b3, b4, b5, b6⟩ := a8 s hs
      have e174 : xi_u2 S.1 168 c (nI (a + 1)) 174 (3 * c + s) = nI k := by rw [u2r (by decide)]; exact b1
      rw [u2r (show 173 ≠ 171 by decide), u2r (show 173 ≠ 167 by decide), u2r (show 174 ≠ 171 by decide), u2r (show 174 ≠ 167 by decide), u2r (show 175 ≠ 171 by decide), u2r (show 175 ≠ 167 by decide), r1 174 (by decide) (by decide), e174]
      by_cases g : nI (a + 1) ≤ nI k
      · refine ⟨k, 0, rfl, b2, if_pos ⟨Or.inr rfl, by omega, by omega, by rw [e174]; exact g⟩, by omega, fun _ => rfl, fun q => absurd (if_pos ⟨Or.inl rfl, by omega, by omega, by rw [e174]; exact g⟩) q⟩
      · have e3 : dropX (xi_u2 S.1 168 c (nI (a + 1))) c (nI (a + 1)) 173 (3 * c + s) = S.1 173 (3 * c + s) := by
          refine (if_neg (fun q => g ?_)).trans (by rw [u2r (by decide)])
          rw [← e174]
          exact q.2.2.2
        have e5 : dropX (xi_u2 S.1 168 c (nI (a + 1))) c (nI (a + 1)) 175 (3 * c + s) = S.1 175 (3 * c + s) := by
          refine (if_neg (fun q => g ?_)).trans (by rw [u2r (by decide)])
          rw [← e174]
          exact q.2.2.2
        rw [e3, e5]
        refine ⟨k, z, rfl, b2, b3, b4, b5, fun q => ⟨(b6 q).1, ?_⟩⟩
        rw [nI_leI (by omega) (by omega)] at g
        omega
theorem SS.mono {D D' c : Nat} {A : Option (Int32 × xSt)} {B : Option xVt} (h : SS D c A B) (hd : D ≤ D') : SS D' c A B := by
  obtain ⟨r, e0, S', V', e1, e2, e3⟩ := h
  exact ⟨r, e0, S', V', e1, e2, e3.mono hd⟩
theorem SS.b {D c : Nat} {A : Option (Int32 × xSt)} {B : Option xVt} (h : SS D c A B) : SS D c A (B.bind fun r => some r) := by
  obtain ⟨r, e0, S', V', e1, rfl, e3⟩ := h
  exact ⟨r, e0, S', V', e1, rfl, e3⟩
theorem sim_cfol {D : Nat} {S : xSt} {V : xVt} (h : Rel D S V) {c κ a m : Nat} (hc : c < 4) (hl : S.1 167 c = 1 ∨ S.1 167 c = 2) (e8 : S.1 168 c = nI m) (hm : m ≤ 3) (ha : a < m) (hκ : κ = S.2.2 20) (hB : byt (S.2.1 κ)) (hb : ∀ k, k < 14 → V.2.2.2 k = S.2.1 κ k) : SS (D + 1) c (f_follows S c κ (nI a)) (g_clientFollows V c (nI a)) := by
  have h4 := hb 4 (by omega)
  have hsh : SS (D + 1) c (some (0, S)) ((g_closeNow V c).bind fun r => some r) := SS.shut (h.mono (by omega)) hc hl
  have hof := sim_of h hc hκ hB hb (nI a)
  have hofs : SS (D + 1) c ((f_followOfStream S c κ (nI a)).bind fun r => some (1, r)) ((g_ofStream V c (nI a) (S.2.1 κ 4)).bind fun r => some r) := SS.b (SS.one hof)
  unfold f_follows g_clientFollows
  simp only [bsm]
  rw [h4, h.1]
  by_cases o2 : S.2.1 κ 4 = 2
  · have hin : g_in (S.2.1 κ 4) 4 7 = 0 := by rw [o2]; decide
    rw [if_pos o2, if_pos o2, hin, if_pos rfl]
    by_cases s1 : S.1 167 c = 1
    · rw [if_pos s1, if_pos s1]
      by_cases c1 : nI a = S.1 168 c - 1
      · rw [if_pos c1, if_pos c1]
        obtain ⟨p7, q7⟩ := pair_eq (k := 7) hb hB (by omega)
        obtain ⟨p9, q9⟩ := pair_eq (k := 9) hb hB (by omega)
        rw [p7, p9]
        obtain ⟨r, e0, S', V', e1, e2, e3⟩ := sim_meet h hc s1 (y := f_pair S κ 7) (tg := f_pair S κ 9) q7
        rw [e0, e2, bsm, bsm]
        refine ⟨_, rfl, S', V', ?_, rfl, e3.mono (by omega)⟩
        unfold shutc at e1 ⊢
        by_cases z : r.1 = 0
        · rw [if_pos z] at e1
          exact (if_pos (if_pos z)).trans e1
        · rw [if_neg z] at e1
          exact (if_neg (show ¬ (if r.1 = 0 then (0 : Int32) else 1) = 0 by rw [if_neg z]; decide)).trans e1
      · rw [if_neg c1, if_neg c1]
        exact hsh
    · rw [if_neg s1, if_neg s1]
      exact hsh
  rw [if_neg o2, if_neg o2]
  by_cases o9 : S.2.1 κ 4 = 9
  · rw [if_neg (show ¬ S.2.1 κ 4 = 3 by rw [o9]; decide), if_neg (show ¬ S.2.1 κ 4 = 4 by rw [o9]; decide), if_neg (show ¬ S.2.1 κ 4 = 5 by rw [o9]; decide), if_neg (show ¬ S.2.1 κ 4 = 6 by rw [o9]; decide), if_neg (show ¬ S.2.1 κ 4 = 7 by rw [o9]; decide), if_neg (show ¬ S.2.1 κ 4 = 8 by rw [o9]; decide), if_pos o9, if_pos o9]
    refine ⟨_, rfl, _, _, if_neg (show ¬ (1 : Int32) = 0 by decide), rfl, ?_⟩
    exact (h.trunc hc e8 hm ha).mono (by omega)
  rw [if_neg o9, if_neg o9]
  rcases o_in (o := S.2.1 κ 4) with ⟨hin, q | q | q | q⟩ | ⟨hin, n4, n5, n6, n7⟩
  · rw [hin, if_neg (show ¬ (1 : Int32) = 0 by decide), if_neg (show ¬ S.2.1 κ 4 = 3 by rw [q]; decide), if_pos q]
    exact hofs
  · rw [hin, if_neg (show ¬ (1 : Int32) = 0 by decide), if_neg (show ¬ S.2.1 κ 4 = 3 by rw [q]; decide), if_neg (show ¬ S.2.1 κ 4 = 4 by rw [q]; decide), if_pos q]
    exact hofs
  · rw [hin, if_neg (show ¬ (1 : Int32) = 0 by decide), if_neg (show ¬ S.2.1 κ 4 = 3 by rw [q]; decide), if_neg (show ¬ S.2.1 κ 4 = 4 by rw [q]; decide), if_neg (show ¬ S.2.1 κ 4 = 5 by rw [q]; decide), if_pos q]
    exact hofs
  · rw [hin, if_neg (show ¬ (1 : Int32) = 0 by decide), if_neg (show ¬ S.2.1 κ 4 = 3 by rw [q]; decide), if_neg (show ¬ S.2.1 κ 4 = 4 by rw [q]; decide), if_neg (show ¬ S.2.1 κ 4 = 5 by rw [q]; decide), if_neg (show ¬ S.2.1 κ 4 = 6 by rw [q]; decide), if_pos q]
    exact hofs
  · rw [hin, if_pos rfl, if_neg n4, if_neg n5, if_neg n6, if_neg n7]
    by_cases o3 : S.2.1 κ 4 = 3
    · rw [if_pos o3]; exact hsh
    · rw [if_neg o3]
      by_cases o8 : S.2.1 κ 4 = 8
      · rw [if_pos o8]; exact hsh
      · rw [if_neg o8]; exact hsh
