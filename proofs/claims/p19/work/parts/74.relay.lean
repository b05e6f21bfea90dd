/-! relays: vanishing, tearing down, passing on -/
theorem Rel.mono {D D' : Nat} {S : xSt} {V : xVt} (h : Rel D S V) (hd : D ≤ D') : Rel D' S V := by
  obtain ⟨h1, h2, h3, h4, hq, ⟨n, hn, e, hc⟩, ht⟩ := h
  refine ⟨h1, fun c hc => ?_, h3, fun i hi => ?_, hq, ⟨n, hn, e, fun j hj => ?_⟩, ht⟩
  · obtain ⟨m, a1, a2, a3, a4, a5, a6, a7, a8⟩ := h2 c hc
    refine ⟨m, a1, a2, a3, a4, a5, a6, a7, fun s hs => ?_⟩
    obtain ⟨k, z, b1, b2, b3, b4, b5⟩ := a8 s hs
    exact ⟨k, z, b1, b2, b3, by omega, b5⟩
  · obtain ⟨b, a, a1, a2, a3, a4, a5⟩ := h4 i hi
    exact ⟨b, a, a1, a2, a3, a4, by omega⟩
  · obtain ⟨⟨a1, a2, a3, a4, a, a5, a6⟩, b, c⟩ := hc j hj
    exact ⟨⟨a1, a2, a3, a4, a, by omega, a6⟩, b, c⟩
theorem van_r {S : xSt} {i c r : Nat} (h : r < 180 ∨ 185 < r) : (f_vanish S i c).1 r = S.1 r := by
  unfold f_vanish
  simp only [sx1]
  rw [u2r (by omega), u2r (by omega), u2r (by omega), u2r (by omega), u2r (by omega), u2r (by omega), u2r (by omega), u2r (by omega), u2r (by omega), u2r (by omega), u2r (by omega)]
theorem Rel.vanish {D : Nat} {S : xSt} {V : xVt} (h : Rel D S V) {i c : Nat} (hi : i < 4) (hc : c < 4) : Rel D (f_vanish S i c) (g_forget V i c) := by
  obtain ⟨h1, h2, h3, h4, hq, ⟨n, hn, e, hcl⟩, ht⟩ := h
  refine ⟨?_, fun c hc => (h2 c hc).rows (fun r q1 q2 q3 => van_r (by omega)), fun i' hi' c' hc' => ?_, fun i hi => (h4 i hi).rows (van_r (by omega)) (van_r (by omega)) (van_r (by omega)), hq, ⟨n, hn, ?_, hcl⟩, ?_⟩
  · rw [show (g_forget V i c).1 = (f_vanish (V.1, S.2) i c).1 from rfl, h1]
  · by_cases hs : i' = i ∧ c' = c
    · obtain ⟨rfl, rfl⟩ := hs
      refine Or.inl ⟨?_, ?_, ?_, ?_, fun k hk => ?_, fun s hs => ?_⟩
      · simp [f_vanish, sx1, u2_at]
      · simp [f_vanish, sx1, u2_at]
      · simp [f_vanish, sx1, u2_at]
      · simp [f_vanish, sx1, u2_at]
      · rcases (by omega : k = 0 ∨ k = 1 ∨ k = 2 ∨ k = 3) with q | q | q | q <;> subst q <;> simp [f_vanish, sx1, u2_at]
      · rcases (by omega : s = 0 ∨ s = 1 ∨ s = 2) with q | q | q <;> subst q <;> simp [f_vanish, sx1, u2_at]
    · have hx : 4 * i' + c' ≠ 4 * i + c := by omega
      refine (h3 i' hi' c' hc').cg ?_ ?_ ?_ ?_ (fun k hk => ?_) (fun s hs => ?_)
      · simp [f_vanish, sx1, u2_at, hx]
      · simp [f_vanish, sx1, u2_at, hx]
      · simp [f_vanish, sx1, u2_at, hx]
      · simp [f_vanish, sx1, u2_at, hx]
      · have a0 : 16 * i' + 4 * c' + k ≠ 16 * i + 4 * c := by omega
        have a1 : 16 * i' + 4 * c' + k ≠ 16 * i + 4 * c + 1 := by omega
        have a2 : 16 * i' + 4 * c' + k ≠ 16 * i + 4 * c + 2 := by omega
        have a3 : 16 * i' + 4 * c' + k ≠ 16 * i + 4 * c + 3 := by omega
        simp [f_vanish, sx1, u2_at, a0, a1, a2, a3]
      · have a0 : 12 * i' + 3 * c' + s ≠ 12 * i + 3 * c := by omega
        have a1 : 12 * i' + 3 * c' + s ≠ 12 * i + 3 * c + 1 := by omega
        have a2 : 12 * i' + 3 * c' + s ≠ 12 * i + 3 * c + 2 := by omega
        simp [f_vanish, sx1, u2_at, a0, a1, a2]
  · rw [van_r (by omega), e]
  · intro t ht1 ht2
    by_cases hs : t = 12 * i + 3 * c ∨ t = 12 * i + 3 * c + 1 ∨ t = 12 * i + 3 * c + 2
    · exfalso
      rcases hs with q | q | q <;> subst q <;> simp [f_vanish, sx1, u2_at] at ht2
    · have a0 : t ≠ 12 * i + 3 * c := by omega
      have a1 : t ≠ 12 * i + 3 * c + 1 := by omega
      have a2 : t ≠ 12 * i + 3 * c + 2 := by omega
      have e5 : S.1 185 t = 1 := by
        simp [f_vanish, sx1, u2_at, a0, a1, a2] at ht2
        exact ht2
      rw [van_r (by omega), ht t ht1 e5]
      simp [g_forget, vn, vx, u2_at, a0, a1, a2]
/-- a DESTROY is sent -/
theorem destroy_eq {V : xVt} {n : Nat} (hn : n ≤ 20) (e1 : V.1 165 1 = nI n) (f t k : Int32) : g_destroy V f t k = some (pV (vbs V zf) (rw0 f t k 4 0 zf)) := by
  unfold g_destroy
  simp only [Option.bind_some]
  rw [ship_eq (V := vbs V zf) hn e1]
  rfl
theorem Rel.b {D : Nat} {S : xSt} {V : xVt} (h : Rel D S V) (f : Nat → Int32) : Rel D S (vbs V f) := Rel.own h rfl rfl rfl
theorem Rel.destroy {D : Nat} {S : xSt} {V : xVt} (h : Rel D S V) {f t k : Int32} (hf : ∃ n : Nat, n ≤ 4 ∧ f = nI n) (ht : ∃ n : Nat, n ≤ 4 ∧ t = nI n) (hk : ∃ n : Nat, n < 4 ∧ k = nI n) : ∃ V', g_destroy V f t k = some V' ∧ V'.2.1 = V.2.1 ∧ Rel D (pS S (rw0 f t k 4 0 zf)) V' := by
  obtain ⟨n, hn, e, -⟩ := h.2.2.2.2.2.1
  refine ⟨_, destroy_eq hn (by rw [h.1, e]) f t k, rfl, ?_⟩
  exact (h.b zf).push (okc.mk' (fld.mk' hf ht hk (by decide) ⟨0, by omega, rfl⟩) byt_0)
theorem nod_neg {v : Int32} (h : nod v) : (v < 0 ↔ v = -1) ∧ (v ≠ -1 → ∃ n : Nat, n ≤ 4 ∧ v = nI n) := by
  rcases h with rfl | ⟨n, hn, rfl⟩
  · exact ⟨by decide, fun q => absurd rfl q⟩
  · refine ⟨⟨fun q => absurd q (nI_pos (by omega)), fun q => ?_⟩, fun _ => ⟨n + 1, by omega, rfl⟩⟩
    exfalso
    rcases (by omega : n = 0 ∨ n = 1 ∨ n = 2 ∨ n = 3) with r | r | r | r <;> subst r <;> exact absurd q (by decide)
theorem PI.nods {X : Nat → Nat → Int32} {i c : Nat} (h : PI X i c) : nod (X 182 (4 * i + c)) ∧ nod (X 183 (4 * i + c)) := by
  rcases h with q | q
  · exact ⟨Or.inl q.2.2.1, Or.inl q.2.2.2.1⟩
  · exact ⟨q.2.2.1, q.2.2.2.1⟩
theorem next_nod {D : Nat} {S : xSt} {V : xVt} (h : Rel D S V) {i c : Nat} (hi : i < 4) (hc : c < 4) : nod (f_next S i c) ∧ (if S.1 182 (4 * i + c) < 0 then S.1 183 (4 * i + c) else S.1 182 (4 * i + c)) = f_next S i c := by
  have hp := (h.2.2.1 i hi c hc).nods
  unfold f_next
  by_cases q : S.1 182 (4 * i + c) = -1
  · rw [if_pos q, if_pos ((nod_neg hp.1).1.mpr q)]
    exact ⟨hp.2, rfl⟩
  · rw [if_neg q, if_neg (fun z => q ((nod_neg hp.1).1.mp z))]
    exact ⟨hp.1, rfl⟩
/-- DESTROY to the node behind, if there is one -/
theorem sim_dn {D : Nat} {S : xSt} {V : xVt} (h : Rel D S V) {i c : Nat} (hi : i < 4) (hc : c < 4) : ∃ S' V', f_destroyNext S i c = some S' ∧ g_destroyOn V i c = some V' ∧ V'.2.1 = V.2.1 ∧ (∀ r, r ≠ 165 → S'.1 r = S.1 r) ∧ S'.2.2 = S.2.2 ∧ S'.2.1 (S.2.2 20) = S.2.1 (S.2.2 20) ∧ Rel D S' V' := by
  obtain ⟨hn, he⟩ := next_nod h hi hc
  unfold f_destroyNext g_destroyOn
  simp only [Option.bind_some]
  rw [h.1, he]
  by_cases q : f_next S i c = -1
  · rw [if_pos q, if_pos ((nod_neg hn).1.mpr q)]
    exact ⟨S, V, rfl, rfl, rfl, fun _ _ => rfl, rfl, rfl, h⟩
  · rw [if_neg q, if_neg (fun z => q ((nod_neg hn).1.mp z)), add_eq h.SZ]
    obtain ⟨V', e1, e2, e3⟩ := h.destroy (f := nI (i + 1)) (t := f_next S i c) (k := nI c) ⟨i + 1, by omega, rfl⟩ ((nod_neg hn).2 q) ⟨c, hc, rfl⟩
    rw [e1]
    exact ⟨_, V', rfl, rfl, e2, fun r hr => pS_r hr, rfl, pS_o h.hand, e3⟩
theorem sim_tear {D : Nat} {S : xSt} {V : xVt} (h : Rel D S V) {i c : Nat} (hi : i < 4) (hc : c < 4) (hth : S.1 180 (4 * i + c) = 1) : ∃ S' V', f_tearDown S i c = some S' ∧ g_tear V i c = some V' ∧ Rel D S' V' := by
  unfold f_tearDown g_tear
  rw [add_eq h.SZ]
  obtain ⟨V1, e1, e2, e3⟩ := h.destroy (f := nI (i + 1)) (t := S.1 181 (4 * i + c)) (k := nI c) ⟨i + 1, by omega, rfl⟩ (bef h hi hc hth) ⟨c, hc, rfl⟩
  rw [h.1, e1]
  simp only [Option.bind_some]
  obtain ⟨S2, V2, f1, f2, -, -, -, -, f3⟩ := sim_dn e3 hi hc
  rw [f1, f2]
  simp only [Option.bind_some]
  exact ⟨_, _, rfl, rfl, f3.vanish hi hc⟩
/-- the cell in hand -/
def Hand (D : Nat) (S : xSt) (V : xVt) (κ : Nat) : Prop := κ = S.2.2 20 ∧ κ < 22 ∧ fld D (S.2.1 κ) ∧ V.2.1 165 27 = S.2.1 κ 18 ∧ (S.2.1 κ 17 ≠ 4 → byt (S.2.1 κ) ∧ ∀ k, k < 14 → V.2.2.2 k = S.2.1 κ k)
/-- what a delivered cell leaves -/
def outc (v : Int32) (S : xSt) : xSt := if v = 0 then sx S 165 5 (S.1 165 5 + 1) else S
theorem Rel.stray {D : Nat} {S : xSt} {V : xVt} (h : Rel D S V) : Rel D (outc 0 S) (vx V 165 5 (V.1 165 5 + 1)) := by
  rw [h.1]
  exact h.free (Or.inr (Or.inr ⟨rfl, by decide⟩))
theorem fld.up18 {D : Nat} {f : Nat → Int32} (h : fld D f) : ∃ a : Nat, a ≤ D + 2 ∧ f 18 = nI a := h.2.2.2.2
