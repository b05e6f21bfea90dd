/-- CREATED comes to a relay that waits for it -/
theorem sim_pcreated {D : Nat} {S : xSt} {V : xVt} (h : Rel D S V) {i c κ : Nat} (hi : i < 4) (hc : c < 4) (hth : S.1 180 (4 * i + c) = 1) (hκ : κ = S.2.2 20) (hB : byt (S.2.1 κ)) (hb : ∀ k, k < 14 → V.2.2.2 k = S.2.1 κ k) (hf : S.2.1 κ 14 = S.1 183 (4 * i + c)) : QQ D (f_ptakesCreated S i c κ) ((some (g_pair V 0)).bind fun r2 => (some (g_pair V 2)).bind fun r3 => (g_order (vx (vx V 182 (4 * i + c) (S.2.1 κ 14)) 183 (4 * i + c) (-1)) 2 0 4).bind fun r4 => (some (g_putPair r4 7 r2)).bind fun r5 => (some (g_putPair r5 9 r3)).bind fun r6 => (g_relaySends r6 i c).bind fun r7 => some r7) := by
  obtain ⟨hp0, hb0⟩ := pair_eq (k := 0) hb hB (by omega)
  obtain ⟨hp2, hb2⟩ := pair_eq (k := 2) hb hB (by omega)
  obtain ⟨-, hn2, hn3, -⟩ := h.there hi hc hth
  have q1 := h.nb hi hc hth (r := 182) (Or.inl rfl) (v := S.1 183 (4 * i + c)) hn3
  have q2 := q1.nb hi hc (by rw [sx1, u2r (by decide)]; exact hth) (r := 183) (Or.inr rfl) (v := -1) (Or.inl rfl)
  unfold f_ptakesCreated
  rw [hth, if_neg (show ¬ (1 : Int32) = 0 by decide), if_pos hf, hf, hp0, hp2]
  have hth2 : (sx (sx S 182 (4 * i + c) (S.1 183 (4 * i + c))) 183 (4 * i + c) (-1)).1 180 (4 * i + c) = 1 := by
    rw [sx1, u2r (by decide), sx1, u2r (by decide)]
    exact hth
  have eY : (sx (sx S 182 (4 * i + c) (S.1 183 (4 * i + c))) 183 (4 * i + c) (-1)).2 = S.2 := rfl
  obtain ⟨S1, hS1⟩ := gen (sx (sx S 182 (4 * i + c) (S.1 183 (4 * i + c))) 183 (4 * i + c) (-1))
  obtain ⟨V1, hV1⟩ := gen (vx (vx V 182 (4 * i + c) (S.1 183 (4 * i + c))) 183 (4 * i + c) (-1))
  rw [hS1, hV1] at q2
  rw [hS1] at hth2 eY
  rw [hS1, hV1, ob_eq q2.SZ, ord_m]
  have hκ1 : κ = S1.2.2 20 := by rw [eY]; exact hκ
  have hne := q2.kne hκ1
  have epr : ∀ g k, f_pair (pS S1 g) κ k = f_pair S κ k := fun g k => by
    unfold f_pair
    rw [pS_o hne, eY]
  simp only [Option.bind_some]
  obtain ⟨P, hP⟩ := gen (f_pair S κ 0)
  obtain ⟨Q, hQ⟩ := gen (f_pair S κ 2)
  rw [hP] at hb0
  rw [hQ] at hb2
  rw [epr, hP, hQ, pp_pS, epr, hQ, pp_pS, up_rw (by decide), up_rw (by decide), up_rw (by decide), up_rw (by decide), sb_eq, mpp_eq, mpp_eq, vbsb, vbsb, (pair_hi hb0).1, (pair_hi hb2).1]
  obtain ⟨F, hF⟩ : ∃ F, F = up (up (up (up (ordF 2 0 4) 7 (P >>> ((8 : Int32) &&& 31))) 8 (P &&& 255)) 9 (Q >>> ((8 : Int32) &&& 31))) 10 (Q &&& 255) := ⟨_, rfl⟩
  have hFb : byt F := by
    rw [hF]
    exact ((((byt.ord ⟨by decide, by decide⟩ ⟨by decide, by decide⟩ ⟨by decide, by decide⟩).put 7 ((pair_hi hb0).1 ▸ (pair_hi hb0).2)).put 8 (by_and _)).put 9 ((pair_hi hb2).1 ▸ (pair_hi hb2).2)).put 10 (by_and _)
  obtain ⟨V', e1, e2, e3⟩ := sim_back (q2.b F) hi hc hth2 (F := F) hFb (fun _ _ _ _ => rfl)
  have ew : vbs (vbs (vbs V1 (ordF 2 0 4)) (up (up (ordF 2 0 4) 7 (P >>> ((8 : Int32) &&& 31))) (7 + 1) (P &&& 255))) (up (up (up (up (ordF 2 0 4) 7 (P >>> ((8 : Int32) &&& 31))) (7 + 1) (P &&& 255)) 9 (Q >>> ((8 : Int32) &&& 31))) (9 + 1) (Q &&& 255)) = vbs V1 F := by
    rw [hF]
    rfl
  rw [ew, e1]
  refine ⟨_, V', rfl, rfl, ?_⟩
  rw [show up (up (up (up (up (up (up zf 4 2) 5 0) 6 4) 7 (P >>> ((8 : Int32) &&& 31))) (7 + 1) (P &&& 255)) 9 (Q >>> ((8 : Int32) &&& 31))) (9 + 1) (Q &&& 255) = F from hF.symm]
  exact e3
theorem okc.des {D : Nat} {a b k g : Int32} {F G : Nat → Int32} (hf : fld D (rw0 a b k 4 g F)) : okc D (rw0 a b k 4 g F) (rw0 a b k 4 g G) := by
  refine ⟨hf, fun j h1 h2 => ?_, fun q => absurd rfl q⟩
  unfold rw0
  rw [if_neg (show ¬ j < 14 by omega), if_neg (show ¬ j < 14 by omega)]
/-- a DESTROY goes on as it came; at the reference a new one -/
theorem sim_pass {D : Nat} {S : xSt} {V : xVt} (h : Rel D S V) {i c κ : Nat} (hi : i < 4) (hc : c < 4) (hκ : κ = S.2.2 20) (h17 : S.2.1 κ 17 = 4) {to : Int32} (hto : ∃ n : Nat, n ≤ 4 ∧ to = nI n) : ∃ S' V', f_passOn S i c κ to = some S' ∧ g_destroy V (nI (i + 1)) to (nI c) = some V' ∧ Rel D S' V' := by
  have hne := h.kne hκ
  obtain ⟨n, hn, e, -⟩ := h.2.2.2.2.2.1
  obtain ⟨m, hm, em⟩ := hto
  have ht : ¬ to = -1 := by
    rw [em]
    rcases (by omega : m = 0 ∨ m = 1 ∨ m = 2 ∨ m = 3 ∨ m = 4) with q | q | q | q | q <;> subst q <;> decide
  refine ⟨pS S (rw0 (nI (i + 1)) to (nI c) 4 0 (S.2.1 κ)), pV (vbs V zf) (rw0 (nI (i + 1)) to (nI c) 4 0 zf), ?_, destroy_eq hn (by rw [h.1, e]) _ _ _, ?_⟩
  · unfold f_passOn
    rw [if_neg ht, h17, add_eq h.SZ, Option.bind_some, Option.bind_some, cp_pS hne, cpy_rw]
  · exact (h.b zf).push (okc.des (fld.mk' ⟨i + 1, by omega, rfl⟩ ⟨m, hm, em⟩ ⟨c, hc, rfl⟩ (by decide) ⟨0, by omega, rfl⟩))
theorem sim_pdestroy {D : Nat} {S : xSt} {V : xVt} (h : Rel D S V) {i c κ : Nat} (hi : i < 4) (hc : c < 4) (hκ : κ = S.2.2 20) (h17 : S.2.1 κ 17 = 4) : QQ D (f_ptakesDestroy S i c κ) (g_toRelay V i (S.2.1 κ 14) c 4) := by
  unfold f_ptakesDestroy g_toRelay
  rw [if_neg (show ¬ (4 : Int32) = 1 by decide), if_neg (show ¬ (4 : Int32) = 2 by decide), if_neg (show ¬ (4 : Int32) = 3 by decide), if_pos rfl, h.1]
  rcases there_01 h hi hc with hth | hth
  · rw [hth, if_pos rfl, if_pos rfl, ← h.1]
    exact QQ.str h
  rw [hth, if_neg (show ¬ (1 : Int32) = 0 by decide), if_neg (show ¬ (1 : Int32) = 0 by decide)]
  obtain ⟨hbef, hn2, hn3, -⟩ := h.there hi hc hth
  have fin : ∀ (A : Option xSt) (B : Option xVt), (∃ S' V', A = some S' ∧ B = some V' ∧ Rel D S' V') → QQ D (A.bind fun r2 => (some (f_vanish r2 i c)).bind fun r3 => some ((1 : Int32), r3)) (B.bind fun r9 => (some (g_forget r9 i c)).bind fun r10 => some r10) := by
    rintro A B ⟨S', V', rfl, rfl, e⟩
    exact ⟨(1, f_vanish S' i c), g_forget V' i c, rfl, rfl, e.vanish hi hc⟩
  by_cases c1 : S.2.1 κ 14 = S.1 181 (4 * i + c)
  · rw [if_pos c1, if_pos c1, Option.bind_some]
    refine fin _ _ ?_
    obtain ⟨hn, he⟩ := next_nod h hi hc
    unfold g_destroyOn
    rw [h.1, he]
    by_cases q : f_next S i c = -1
    · rw [if_pos ((nod_neg hn).1.mpr q)]
      exact ⟨S, V, by unfold f_passOn; rw [if_pos q], rfl, h⟩
    · rw [if_neg (fun z => q ((nod_neg hn).1.mp z))]
      obtain ⟨S', V', e1, e2, e3⟩ := sim_pass h hi hc hκ h17 ((nod_neg hn).2 q)
      exact ⟨S', V', e1, by rw [e2, Option.bind_some], e3⟩
  · rw [if_neg c1, if_neg c1]
    have hp := sim_pass h hi hc hκ h17 hbef
    by_cases c2 : S.2.1 κ 14 = S.1 182 (4 * i + c)
    · rw [if_pos c2, if_pos c2]
      exact fin _ _ hp
    · rw [if_neg c2, if_neg c2]
      by_cases c3 : S.2.1 κ 14 = S.1 183 (4 * i + c)
      · rw [if_pos c3, if_pos c3]
        exact fin _ _ hp
      · rw [if_neg c3, if_neg c3, ← h.1]
        exact QQ.str h
theorem QQ.eta {D : Nat} {A : Option (Int32 × xSt)} {B : Option xVt} (h : QQ D A B) : QQ D (A.bind fun r1 => some (r1.1, r1.2)) B := by
  obtain ⟨r, V', rfl, e2, e3⟩ := h
  exact ⟨r, V', rfl, e2, e3⟩
theorem QQ.mono {D D' : Nat} {A : Option (Int32 × xSt)} {B : Option xVt} (h : QQ D A B) (hd : D ≤ D') : QQ D' A B := by
  obtain ⟨r, V', e1, e2, e3⟩ := h
  exact ⟨r, V', e1, e2, e3.mono hd⟩
theorem QQ.b {D : Nat} {A : Option (Int32 × xSt)} {B : Option xVt} (h : QQ D A B) : QQ D A (B.bind fun r => some r) := by
  obtain ⟨r, V', e1, rfl, e3⟩ := h
  exact ⟨r, V', e1, rfl, e3⟩
/-- a cell comes to a relay -/
theorem sim_torelay {D : Nat} {S : xSt} {V : xVt} (h : Rel D S V) {i c κ : Nat} (hi : i < 4) (hc : c < 4) (hD : D < 90000) (H : Hand D S V κ) (h16 : S.2.1 κ 16 = nI c) : QQ (D + 1) (f_rtakes S i κ) (g_toRelay V i (S.2.1 κ 14) c (S.2.1 κ 17)) := by
  obtain ⟨hκ, hκ2, ⟨h14, h15, h16', h17, h18⟩, hfar, hbytes⟩ := H
  unfold f_rtakes
  rw [h16, if_pos (bn hc (by decide)), nI_clamp (by omega)]
  rcases h17 with q | q | q | q
  · rw [q, if_pos rfl]
    obtain ⟨hB, hb⟩ := hbytes (by rw [q]; decide)
    refine QQ.eta ?_
    unfold g_toRelay
    rw [if_pos rfl, h.1]
    rcases there_01 h hi hc with hth | hth
    · rw [hth, if_pos rfl]
      exact sim_begun h hi hc hD hth hκ hB hb h14 h16
    · rw [hth, if_neg (show ¬ (1 : Int32) = 0 by decide), ← h.1]
      unfold f_takesCreate
      rw [hth, if_neg (show ¬ (1 : Int32) = 0 by decide)]
      exact QQ.str (h.mono (by omega))
  · rw [q, if_neg (show ¬ (2 : Int32) = 1 by decide), if_pos rfl]
    obtain ⟨hB, hb⟩ := hbytes (by rw [q]; decide)
    refine QQ.eta (QQ.mono ?_ (show D ≤ D + 1 by omega))
    unfold g_toRelay
    rw [if_neg (show ¬ (2 : Int32) = 1 by decide), if_pos rfl, h.1]
    rcases there_01 h hi hc with hth | hth
    · rw [hth, if_pos rfl, ← h.1]
      unfold f_ptakesCreated
      rw [hth, if_pos rfl]
      exact QQ.str h
    · rw [hth, if_neg (show ¬ (1 : Int32) = 0 by decide)]
      by_cases c1 : S.2.1 κ 14 = S.1 183 (4 * i + c)
      · rw [if_pos c1]
        exact sim_pcreated h hi hc hth hκ hB hb c1
      · rw [if_neg c1, ← h.1]
        unfold f_ptakesCreated
        rw [hth, if_neg (show ¬ (1 : Int32) = 0 by decide), if_neg c1]
        exact QQ.str h
  · rw [q, if_neg (show ¬ (3 : Int32) = 1 by decide), if_neg (show ¬ (3 : Int32) = 2 by decide), if_pos rfl]
    obtain ⟨hB, hb⟩ := hbytes (by rw [q]; decide)
    refine QQ.eta ?_
    unfold g_toRelay
    rw [if_neg (show ¬ (3 : Int32) = 1 by decide), if_neg (show ¬ (3 : Int32) = 2 by decide), if_pos rfl]
    exact QQ.b (sim_prelay h hi hc (by omega) hκ hB hb hfar h18)
  · rw [q, if_neg (show ¬ (4 : Int32) = 1 by decide), if_neg (show ¬ (4 : Int32) = 2 by decide), if_neg (show ¬ (4 : Int32) = 3 by decide)]
    exact QQ.eta (QQ.mono (sim_pdestroy h hi hc hκ q) (by omega))
