/-! data and the other orders at a relay -/
theorem ex_bind {α β : Type} {o : Option α} {k : α → Option β} {P : α → Prop} {Q : β → Prop} (h : ∃ a, o = some a ∧ P a) (hk : ∀ a, P a → ∃ b, k a = some b ∧ Q b) : ∃ b, o.bind k = some b ∧ Q b := by
  obtain ⟨a, rfl, hp⟩ := h
  exact hk a hp
theorem ex_two {α β : Type} {A : Option α} {B : Option β} {R : α → β → Prop} (a : α) (hA : A = some a) (hB : ∃ b, B = some b ∧ R a b) : ∃ x y, A = some x ∧ B = some y ∧ R x y := by
  obtain ⟨b, e, r⟩ := hB
  exact ⟨a, b, hA, e, r⟩
theorem Rel.kne {D : Nat} {S : xSt} {V : xVt} (h : Rel D S V) {κ : Nat} (hκ : κ = S.2.2 20) : κ ≠ kq S := by
  rw [hκ]
  exact h.hand
theorem sim_data {D : Nat} {S : xSt} {V : xVt} (h : Rel D S V) {i c κ t : Nat} (hi : i < 4) (hc : c < 4) (hth : S.1 180 (4 * i + c) = 1) (K : KH S V κ) (h4 : S.2.1 κ 4 = 5) (ht : t < 3) (h5 : S.2.1 κ 5 = nI (t + 1)) (ho : S.1 185 (12 * i + 3 * c + t) = 1) : ∃ S' V', f_followData S i c κ (nI (t + 1)) = some S' ∧ g_dataAt V i c (nI (t + 1)) 1 = some V' ∧ Rel D S' V' := by
  obtain ⟨k1, k2, k3, k4, k5⟩ := K
  have hne := h.kne k1
  have hs1 : f_isStream (nI (t + 1)) = 1 := by
    rcases (by omega : t = 0 ∨ t = 1 ∨ t = 2) with q | q | q <;> subst q <;> decide
  have ex : 3 * (4 * i + c) + (nI (t + 1) - 1).toNatClampNeg = 12 * i + 3 * c + t := by rw [(str1 ht).2.2]; omega
  have ey : (nI (12 * i + 3 * c) + nI (t + 1) - 1).toNatClampNeg = 12 * i + 3 * c + t := (str2 (m := 12 * i + 3 * c) ht (by omega)).2.2
  have hdl := dl_le (k2 6 (by omega))
  have hm : (if 7 ≤ S.2.1 κ 6 then (7 : Int32) else S.2.1 κ 6).toNatClampNeg ≤ 7 := by
    have := bnd_lt hdl.1
    omega
  obtain ⟨m, em⟩ := gen (if 7 ≤ S.2.1 κ 6 then (7 : Int32) else S.2.1 κ 6).toNatClampNeg
  obtain ⟨F, hF⟩ : ∃ F, F = dfill (ordF 5 (nI (t + 1)) (S.2.1 κ 6)) (S.2.1 κ) m := ⟨_, rfl⟩
  have edl : ∀ f, f_dataLength (pS S f) κ = (if 7 ≤ S.2.1 κ 6 then (7 : Int32) else S.2.1 κ 6) := fun f => by
    unfold f_dataLength
    rw [pS_o hne]
  have hbs : bnd (nI (t + 1)) 256 := bn (by omega) (by decide)
  have hFb : byt F := by
    intro k hk
    rw [hF]
    unfold dfill
    split
    · exact by_xor (k2 k hk) ⟨by decide, by decide⟩
    · exact byt.ord ⟨by decide, by decide⟩ hbs (k2 6 (by omega)) k hk
  obtain ⟨S5, hS5⟩ : ∃ S5, S5 = pS (rsX S.1 i c F, S.2) (rw0 (nI (i + 1)) (S.1 181 (4 * i + c)) (nI c) 3 0 (rsF S.1 i c F)) := ⟨_, rfl⟩
  have r5 : ∀ r, r ≠ 165 → r ≠ 184 → S5.1 r = S.1 r := fun r q1 q2 => by
    rw [hS5, pS_r q1]
    exact rsX_r q2
  have hA : f_followData S i c κ (nI (t + 1)) = (if rem (S5.1 191 (12 * i + 3 * c + t) + 1) 2 = 0 then ((f_orderBack (sx S5 191 (12 * i + 3 * c + t) (S5.1 191 (12 * i + 3 * c + t) + 1)) i c 7 (nI (t + 1)) 0).bind fun r => (some (f_sealBack r.2 i c r.1)).bind fun r2 => some r2) else some (sx S5 191 (12 * i + 3 * c + t) (S5.1 191 (12 * i + 3 * c + t) + 1))) := by
    unfold f_followData f_isOpen
    simp only [Option.bind_some]
    rw [hs1, if_neg (show ¬ (1 : Int32) = 0 by decide), if_pos (str1 ht).2.1, ex, ho, if_neg (show ¬ (1 : Int32) = 0 by decide)]
    simp only [Option.bind_some]
    rw [if_neg (show ¬ (1 : Int32) = 0 by decide), ob_eq h.SZ]
    simp only [Option.bind_some]
    rw [if_pos (Ne.symm hne), edl, if_pos hdl.1, pS_k, pS_o hne, sr_pS, em, df_rw (by rw [← em]; exact hm), sb_eq, if_pos (str1 ht).2.1]
    rw [show dfill (up (up (up zf 4 5) 5 (nI (t + 1))) 6 (S.2.1 κ 6)) (S.2.1 κ) m = F from hF.symm, ← hS5]
  rw [hA]
  have hM : ∀ W : xVt, Rel D S W → (∀ k, k < 14 → k ≠ 2 → k ≠ 3 → W.2.2.2 k = F k) → W.2.1 = V.2.1 → ∃ V3, g_relaySends W i c = some V3 ∧ (V3.2.1 = V.2.1 ∧ Rel D S5 V3) := by
    intro W hW hb hN
    obtain ⟨V3, e1, e2, e3⟩ := sim_back hW hi hc hth hFb hb
    rw [← hS5] at e3
    exact ⟨V3, e1, e2.trans hN, e3⟩
  have hB : g_dataAt V i c (nI (t + 1)) 1 = g_dataAt V i c (nI (t + 1)) 1 := rfl
  have hth5 : S5.1 180 (4 * i + c) = 1 := by rw [r5 180 (by decide) (by decide)]; exact hth
  have ho5 : S5.1 185 (12 * i + 3 * c + t) = 1 := by rw [r5 185 (by decide) (by decide)]; exact ho
  have fin : ∀ V3, (V3.2.1 = V.2.1 ∧ Rel D S5 V3) → ∃ S' V', (if rem (S5.1 191 (12 * i + 3 * c + t) + 1) 2 = 0 then ((f_orderBack (sx S5 191 (12 * i + 3 * c + t) (S5.1 191 (12 * i + 3 * c + t) + 1)) i c 7 (nI (t + 1)) 0).bind fun r => (some (f_sealBack r.2 i c r.1)).bind fun r2 => some r2) else some (sx S5 191 (12 * i + 3 * c + t) (S5.1 191 (12 * i + 3 * c + t) + 1))) = some S' ∧ (if rem (V3.2.1 186 (12 * i + 3 * c + t) + 1) 2 = 0 then ((g_order (vx (vn V3 186 (12 * i + 3 * c + t) (V3.2.1 186 (12 * i + 3 * c + t) + 1)) 191 (12 * i + 3 * c + t) (V3.2.1 186 (12 * i + 3 * c + t) + 1)) 7 (nI (t + 1)) 0).bind fun r => (g_relaySends r i c).bind fun r2 => some r2) else some (vx (vn V3 186 (12 * i + 3 * c + t) (V3.2.1 186 (12 * i + 3 * c + t) + 1)) 191 (12 * i + 3 * c + t) (V3.2.1 186 (12 * i + 3 * c + t) + 1))) = some V' ∧ Rel D S' V' := by
    intro V3 hV3
    obtain ⟨q1, q2⟩ := hV3.2.tal hi hc ht hth5 ho5
    rw [q1] at q2 ⊢
    by_cases hr : rem (V3.2.1 186 (12 * i + 3 * c + t) + 1) 2 = 0
    · rw [if_pos hr, if_pos hr]
      obtain ⟨S', V', a1, a2, -, a3⟩ := sim_o q2 hi hc (by rw [sx1, u2r (by decide)]; exact hth5) (o := 7) (s := nI (t + 1)) (n := 0) ⟨by decide, by decide⟩ hbs ⟨by decide, by decide⟩
      exact ⟨S', V', a1, a2, a3⟩
    · rw [if_neg hr, if_neg hr]
      exact ⟨_, _, rfl, rfl, q2⟩
  unfold g_dataAt
  rw [if_neg (show ¬ (1 : Int32) = 0 by decide)]
  have hW : ∀ W : xVt, Rel D S W → (∀ k, k < 14 → k ≠ 2 → k ≠ 3 → W.2.2.2 k = F k) → W.2.1 = V.2.1 → ∃ S' V', (if rem (S5.1 191 (12 * i + 3 * c + t) + 1) 2 = 0 then ((f_orderBack (sx S5 191 (12 * i + 3 * c + t) (S5.1 191 (12 * i + 3 * c + t) + 1)) i c 7 (nI (t + 1)) 0).bind fun r => (some (f_sealBack r.2 i c r.1)).bind fun r2 => some r2) else some (sx S5 191 (12 * i + 3 * c + t) (S5.1 191 (12 * i + 3 * c + t) + 1))) = some S' ∧ ((g_relaySends W i c).bind fun r3 => if bnd (((nI (12 * i + 3 * c)) + nI (t + 1)) - 1) 48 then (if (rem ((r3.2.1 186 (((nI (12 * i + 3 * c)) + nI (t + 1)) - 1).toNatClampNeg) + 1) 2) = 0 then ((g_order (vx (vn r3 186 (((nI (12 * i + 3 * c)) + nI (t + 1)) - 1).toNatClampNeg ((r3.2.1 186 (((nI (12 * i + 3 * c)) + nI (t + 1)) - 1).toNatClampNeg) + 1)) 191 (((nI (12 * i + 3 * c)) + nI (t + 1)) - 1).toNatClampNeg ((r3.2.1 186 (((nI (12 * i + 3 * c)) + nI (t + 1)) - 1).toNatClampNeg) + 1)) 7 (nI (t + 1)) 0).bind fun r4 => (g_relaySends r4 i c).bind fun r5 => some r5) else (some (vx (vn r3 186 (((nI (12 * i + 3 * c)) + nI (t + 1)) - 1).toNatClampNeg ((r3.2.1 186 (((nI (12 * i + 3 * c)) + nI (t + 1)) - 1).toNatClampNeg) + 1)) 191 (((nI (12 * i + 3 * c)) + nI (t + 1)) - 1).toNatClampNeg ((r3.2.1 186 (((nI (12 * i + 3 * c)) + nI (t + 1)) - 1).toNatClampNeg) + 1)))) else none) = some V' ∧ Rel D S' V' := by
    intro W w1 w2 w3
    obtain ⟨V3, e1, e2⟩ := hM W w1 w2 w3
    rw [e1]
    simp only [Option.bind_some]
    rw [if_pos (str2 (m := 12 * i + 3 * c) ht (by omega)).2.1, ey]
    exact fin V3 e2
  refine hW _ (Rel.own h rfl rfl rfl) ?_ rfl
  intro k hk n2 n3
  rw [hF]
  have hj : ∀ j, j < 7 → (j < m ↔ ¬ S.2.1 κ 6 ≤ nI j) := fun j hj => by rw [← em]; exact hdl.2 j hj
  have hb6 : V.2.2.2 6 = S.2.1 κ 6 := k3 6 (by omega)
  rcases (by omega : k = 0 ∨ k = 1 ∨ k = 4 ∨ k = 5 ∨ k = 6 ∨ 7 ≤ k) with q | q | q | q | q | q0
  · subst q
    exact (k3 0 (by omega)).trans k4
  · subst q
    exact (k3 1 (by omega)).trans k5
  · subst q
    exact (k3 4 (by omega)).trans h4
  · subst q
    exact (k3 5 (by omega)).trans h5
  · subst q
    exact hb6
  · obtain ⟨j, q, q2⟩ : ∃ j, j < 7 ∧ k = 7 + j := ⟨k - 7, by omega, by omega⟩
    subst q2
    have hjj := hj j q
    have e9 : ∀ (A : Int32), A = (if S.2.1 κ 6 ≤ nI j then (0 : Int32) else S.2.1 κ (7 + j) ^^^ 255) → A = dfill (ordF 5 (nI (t + 1)) (S.2.1 κ 6)) (S.2.1 κ) m (7 + j) := by
      intro A hA
      rw [hA]
      unfold dfill
      by_cases g : S.2.1 κ 6 ≤ nI j
      · have g2 : ¬ j < m := fun z => hjj.mp z g
        rw [if_pos g, if_neg (by omega)]
        unfold ordF up zf
        rw [if_neg (by omega), if_neg (by omega), if_neg (by omega)]
      · have g2 : j < m := hjj.mpr g
        rw [if_neg g, if_pos (by omega)]
    refine e9 _ ?_
    rcases (by omega : j = 0 ∨ j = 1 ∨ j = 2 ∨ j = 3 ∨ j = 4 ∨ j = 5 ∨ j = 6) with z | z | z | z | z | z | z <;> subst z <;> (rw [← hb6, ← k3 _ (by omega)]; rfl)
