/-! the client's orders by the face -/
theorem cl_S {S : xSt} (hz : SZ S) {c a : Nat} (ha : a < 3) (o s n : Int32) : ((f_order S c o s n).bind fun r1 => (f_sealTo r1.2 c (nI a) r1.1).bind fun r2 => some r2) = some (pS ((cs c a (S.1, ordF o s n)).1, S.2) (rw0 0 (S.1 169 (3 * c)) (nI c) 3 (nI a) (cs c a (S.1, ordF o s n)).2)) := by
  rw [ord_eq hz, bsm, seal_eq ha, bsm]
  rfl
theorem cl_V {V : xVt} {n' : Nat} (hn : n' ≤ 20) (e : V.1 165 1 = nI n') {c a : Nat} (ha : a < 3) (o s n : Int32) : ((g_order V o s n).bind fun r => (g_clientSends r c (nI a)).bind fun r2 => some r2) = some (pV (vp (vbs V (ordF o s n)) (cs c a (V.1, ordF o s n))) (rw0 0 (V.1 169 (3 * c)) (nI c) 3 (nI a) (cs c a (V.1, ordF o s n)).2)) := by
  rw [ord_m, bsm, cs_eq (V := vbs V (ordF o s n)) hn e ha, bsm]
  rfl
theorem hop_in {S : xSt} {c m : Nat} (e8 : S.1 168 c = nI m) (hm : m ≤ 3) (hp : Int32) : g_in hp 0 (S.1 168 c - 1) = f_hasHop S c hp ∧ (¬ f_hasHop S c hp = 0 → ∃ a : Nat, a < m ∧ hp = nI a) := by
  unfold g_in f_hasHop
  rw [e8]
  by_cases h1 : hp < 0
  · rw [if_pos h1, if_pos h1]
    exact ⟨rfl, fun q => absurd rfl q⟩
  · rw [if_neg h1, if_neg h1]
    obtain ⟨j, hj, rfl⟩ := nI_of h1
    have e1 : nI m - 1 < nI j ↔ nI m ≤ nI j := by
      rw [nI_leI (by omega) hj, Int32.lt_iff_toInt_lt, nI_toInt hj]
      rcases (by omega : m = 0 ∨ m = 1 ∨ m = 2 ∨ m = 3) with q | q | q | q <;> subst q
      · rw [show (nI 0 - 1).toInt = -1 from rfl]; omega
      · rw [show (nI 1 - 1).toInt = 0 from rfl]; omega
      · rw [show (nI 2 - 1).toInt = 1 from rfl]; omega
      · rw [show (nI 3 - 1).toInt = 2 from rfl]; omega
    by_cases h2 : nI m ≤ nI j
    · rw [if_pos (e1.mpr h2), if_pos h2]
      exact ⟨rfl, fun q => absurd rfl q⟩
    · rw [if_neg (fun z => h2 (e1.mp z)), if_neg h2]
      refine ⟨rfl, fun _ => ⟨j, ?_, rfl⟩⟩
      rw [nI_leI (by omega) hj] at h2
      omega
theorem CI.hops {D : Nat} {X : Nat → Nat → Int32} {c : Nat} (h : CI D X c) : ∃ m : Nat, X 168 c = nI m ∧ m ≤ 3 ∧ (1 ≤ m → ∃ w : Nat, w < 4 ∧ X 169 (3 * c) = nI (w + 1)) := by
  obtain ⟨m, a1, a2, a3, a4, a5, a6, a7, a8⟩ := h
  exact ⟨m, a1, a2, a6⟩
theorem sim_truncate {D : Nat} {S : xSt} {V : xVt} (h : Rel D S V) (ci hp : Int32) : AP D k2 (f_truncate S ci hp) (g_truncate V ci hp) := by
  have eV : V.1 = S.1 := h.1
  unfold f_truncate g_truncate
  simp only [bsm]
  rcases a_circ ci with ⟨e, q⟩ | ⟨e, q, c, hc, rfl⟩
  · rw [e, if_pos rfl, if_pos q]
    exact AP.err h (by decide) rfl
  rw [e, if_neg (show ¬ (1 : Int32) = 0 by decide), if_neg q, if_pos (bn hc (by decide)), if_pos (bn hc (by decide)), nI_clamp (show c < 2 ^ 31 by omega), on_eq eV, eV]
  obtain ⟨m, e8, hm, hfst⟩ := (h.2.1 c hc).hops
  obtain ⟨hin, hex⟩ := hop_in e8 hm hp
  rw [hin]
  rcases b_isLive (S := S) (c := c) rfl with hl | hl
  · rw [hl, if_pos (show (if (0 : Int32) = 0 then (0 : Int32) else (if f_hasHop S c hp = 0 then (0 : Int32) else 1)) = 0 from if_pos rfl), if_pos rfl]
    exact AP.err h (by decide) rfl
  rw [hl, if_neg (show ¬ (1 : Int32) = 0 by decide), if_neg (show ¬ (1 : Int32) = 0 by decide)]
  by_cases hh : f_hasHop S c hp = 0
  · rw [if_pos hh, if_pos rfl, if_pos hh]
    exact AP.err h (by decide) rfl
  · rw [if_neg hh, if_neg (show ¬ (1 : Int32) = 0 by decide), if_neg hh]
    obtain ⟨a, ha, rfl⟩ := hex hh
    have h0 := h.n0 0
    obtain ⟨n, hn, e9, -⟩ := h0.2.2.2.2.2.1
    have hV := cl_V (V := vn V 165 0 0) hn (by rw [h0.1, e9]) (c := c) (show a < 3 by omega) 8 0 0
    have hS := cl_S h.SZ (c := c) (show a < 3 by omega) 8 0 0
    have R := sim_seal (h0.b (ordF 8 0 0)) hc (show a < 3 by omega) (hfst (by omega)) (F := ordF 8 0 0) (b := ordF 8 0 0) (byt.ord ⟨by decide, by decide⟩ ⟨by decide, by decide⟩ ⟨by decide, by decide⟩) (fun _ _ _ _ => rfl)
    have hA : f_askToTruncate S c (nI a) = some (pS ((cs c a (S.1, ordF 8 0 0)).1, S.2) (rw0 0 (S.1 169 (3 * c)) (nI c) 3 (nI a) (cs c a (S.1, ordF 8 0 0)).2)) := hS
    rw [hA, bsm]
    have hB : ∀ (k : xVt → Option (Int32 × xVt)), ((g_order (vn V 165 0 0) 8 0 0).bind fun r => (g_clientSends r c (nI a)).bind k) = (((g_order (vn V 165 0 0) 8 0 0).bind fun r => (g_clientSends r c (nI a)).bind fun r2 => some r2)).bind k := by
      intro k
      rw [ord_m, bsm, bsm]
      cases g_clientSends (vbs (vn V 165 0 0) (ordF 8 0 0)) c (nI a) <;> rfl
    rw [hB, hV, bsm]
    refine ⟨_, _, _, _, rfl, rfl, R, Or.inl ⟨?_, n0_rd V 0⟩⟩
    rw [← R.1]
    rfl
