/-! circuits at the client -/
theorem CI.uc {D : Nat} {X : Nat → Nat → Int32} {c c' r : Nat} {v : Int32} (h : CI D X c') (hne : c' ≠ c) (hr : r = 167 ∨ r = 168 ∨ r = 171 ∨ r = 172 ∨ r = 176) : CI D (xi_u2 X r c v) c' :=
  h.cg (u2i hne) (u2i hne) (u2_ne _ _ (by omega)) (u2i hne) (u2i hne) (u2i hne) (fun s hs => ⟨u2_ne _ _ (by omega), u2_ne _ _ (by omega), u2_ne _ _ (by omega)⟩)
theorem CI.us {D : Nat} {X : Nat → Nat → Int32} {c c' r k : Nat} {v : Int32} (h : CI D X c') (hne : c' ≠ c) (hk : k < 3) (hr : r = 169 ∨ r = 173 ∨ r = 174 ∨ r = 175) : CI D (xi_u2 X r (3 * c + k) v) c' :=
  h.cg (u2_ne _ _ (by omega)) (u2_ne _ _ (by omega)) (u2_ne _ _ (by omega)) (u2_ne _ _ (by omega)) (u2_ne _ _ (by omega)) (u2_ne _ _ (by omega)) (fun s hs => ⟨u2_ne _ _ (by omega), u2_ne _ _ (by omega), u2_ne _ _ (by omega)⟩)
theorem drop_off {X : Nat → Nat → Int32} {c : Nat} {hop : Int32} {r i : Nat} (h : ¬ (3 * c ≤ i ∧ i < 3 * c + 3)) : dropX X c hop r i = X r i := if_neg (fun q => h ⟨q.2.1, q.2.2.1⟩)
theorem CI.ud {D : Nat} {X : Nat → Nat → Int32} {c c' : Nat} {hop : Int32} (h : CI D X c') (hne : c' ≠ c) : CI D (dropX X c hop) c' :=
  h.cg (by rw [dropX_r (by omega)]) (by rw [dropX_r (by omega)]) (by rw [dropX_r (by omega)]) (by rw [dropX_r (by omega)]) (by rw [dropX_r (by omega)]) (by rw [dropX_r (by omega)]) (fun s hs => ⟨drop_off (by omega), drop_off (by omega), drop_off (by omega)⟩)
theorem Rel.circ {D : Nat} {S : xSt} {V : xVt} (h : Rel D S V) {c : Nat} {S' : xSt} {V' : xVt} (e0 : ∀ r, ¬ (167 ≤ r ∧ r ≤ 177) → S'.1 r = S.1 r) (e1 : V'.1 = S'.1) (e2 : S'.2 = S.2) (e3 : V'.2.1 186 = V.2.1 186) (e4 : V'.2.2.1 = V.2.2.1) (e5 : ∀ c', c' < 4 → c' ≠ c → CI D S'.1 c') (e6 : CI D S'.1 c) : Rel D S' V' := by
  obtain ⟨h1, h2, h3, h4, hq, ⟨n, hn, e, hcl⟩, ht⟩ := h
  refine ⟨e1, fun c' hc' => ?_, fun i hi c hc => (h3 i hi c hc).rows (fun r q1 q2 => e0 r (by omega)), fun i hi => (h4 i hi).rows (e0 _ (by omega)) (e0 _ (by omega)) (e0 _ (by omega)), by rw [e2]; exact hq, ⟨n, hn, by rw [e0 165 (by omega)]; exact e, by rw [e2, e4]; exact hcl⟩, ?_⟩
  · by_cases q : c' = c
    · rw [q]; exact e6
    · exact e5 c' hc' q
  · intro t q1 q2
    rw [e0 185 (by omega)] at q2
    rw [e0 191 (by omega), e3]
    exact ht t q1 q2
theorem nI_ge0 {k : Nat} (h : k < 2 ^ 31) : (0 : Int32) ≤ nI k := nI_pos' h
theorem Rel.closed {D : Nat} {S : xSt} {V : xVt} (h : Rel D S V) {c : Nat} (hc : c < 4) : ∃ V', g_ended V c = some V' ∧ V'.2.1 = V.2.1 ∧ Rel D (f_becomeClosed S c) V' := by
  refine ⟨_, rfl, rfl, ?_⟩
  unfold f_becomeClosed
  refine h.circ (c := c) (fun r hr => ?_) ?_ rfl rfl rfl (fun c' hc' hne => ?_) ?_
  · show dropX (sx (sx S 167 c 3) 171 c (-1)).1 c 0 r = S.1 r
    rw [dropX_r (by omega), sx1, u2r (by omega), sx1, u2r (by omega)]
  · show dropX (vx (vx V 167 c 3) 171 c (-1)).1 c 0 = dropX (sx (sx S 167 c 3) 171 c (-1)).1 c 0
    rw [vx1, vx1, sx1, sx1, h.1]
  · exact (((h.2.1 c' hc').uc hne (by decide)).uc hne (by decide)).ud hne
  · show CI D (dropX (xi_u2 (xi_u2 S.1 167 c 3) 171 c (-1)) c 0) c
    obtain ⟨m, a1, a2, a3, a4, a5, a6, a7, a8⟩ := h.2.1 c hc
    have r1 : ∀ r, r ≠ 173 → r ≠ 175 → dropX (xi_u2 (xi_u2 S.1 167 c 3) 171 c (-1)) c 0 r = xi_u2 (xi_u2 S.1 167 c 3) 171 c (-1) r := fun r q1 q2 => dropX_r ⟨q1, q2⟩
    refine ⟨m, ?_, a2, fun q => ?_, fun q => ?_, fun q => ?_, fun q => ?_, ?_, fun s hs => ?_⟩
    · rw [r1 168 (by decide) (by decide), u2r (by decide), u2r (by decide)]; exact a1
    · rw [r1 167 (by decide) (by decide), u2r (by decide), u2_same] at q
      exact absurd q (by decide)
    · rw [r1 171 (by decide) (by decide), u2_same]
    · rw [r1 167 (by decide) (by decide), u2r (by decide), u2_same] at q
      exact absurd q (by decide)
    · rw [r1 169 (by decide) (by decide), u2r (by decide), u2r (by decide)]; exact a6 q
    · rw [r1 176 (by decide) (by decide), u2r (by decide), u2r (by decide)]; exact a7
    · obtain ⟨k, z, b1, b2, b3, b4, b5, b6⟩ := a8 s hs
      have e174 : xi_u2 (xi_u2 S.1 167 c 3) 171 c (-1) 174 (3 * c + s) = nI k := by rw [u2r (by decide), u2r (by decide)]; exact b1
      have g : (0 : Int32) ≤ xi_u2 (xi_u2 S.1 167 c 3) 171 c (-1) 174 (3 * c + s) := by rw [e174]; exact nI_ge0 (by omega)
      refine ⟨k, 0, ?_, b2, ?_, by omega, fun _ => rfl, fun q => absurd ?_ q⟩
      · rw [r1 174 (by decide) (by decide)]; exact e174
      · exact if_pos ⟨Or.inr rfl, by omega, by omega, g⟩
      · exact if_pos ⟨Or.inl rfl, by omega, by omega, g⟩
theorem first_ok {D : Nat} {S : xSt} {V : xVt} (h : Rel D S V) {c : Nat} (hc : c < 4) (hl : S.1 167 c = 1 ∨ S.1 167 c = 2) : ∃ w : Nat, w < 4 ∧ f_firstRelay S c = nI (w + 1) := by
  obtain ⟨m, a1, a2, a3, a4, a5, a6, a7, a8⟩ := h.2.1 c hc
  unfold f_firstRelay
  by_cases q : S.1 168 c ≤ 0
  · rw [if_pos q]
    rcases hl with z | z
    · exact (a3 z).2.1
    · have := a5 z
      rw [a1, show (0 : Int32) = nI 0 from rfl, nI_leI (by omega) (by decide)] at q
      omega
  · rw [if_neg q]
    refine a6 ?_
    rw [a1, show (0 : Int32) = nI 0 from rfl, nI_leI (by omega) (by decide)] at q
    omega
/-- the client closes a circuit -/
theorem sim_shut {D : Nat} {S : xSt} {V : xVt} (h : Rel D S V) {c : Nat} (hc : c < 4) (hl : S.1 167 c = 1 ∨ S.1 167 c = 2) : ∃ S' V', f_shut S c = some S' ∧ g_closeNow V c = some V' ∧ Rel D S' V' := by
  obtain ⟨w, hw, ew⟩ := first_ok h hc hl
  obtain ⟨V1, e1, e2, e3⟩ := h.destroy (f := 0) (t := f_firstRelay S c) (k := nI c) ⟨0, by omega, rfl⟩ ⟨w + 1, by omega, ew⟩ ⟨c, hc, rfl⟩
  obtain ⟨V2, f1, f2, f3⟩ := e3.closed hc
  refine ⟨_, V2, ?_, ?_, f3⟩
  · unfold f_shut
    rw [Option.bind_some, add_eq h.SZ, Option.bind_some, Option.bind_some]
  · unfold g_closeNow
    rw [h.1, show (if S.1 168 c ≤ 0 then S.1 171 c else S.1 169 (3 * c)) = f_firstRelay S c from rfl, e1, Option.bind_some, f1, Option.bind_some]
/-- what the client makes of an order or a tag that doesn't fit -/
def shutc (c : Nat) (v : Int32) (S : xSt) : Option xSt := if v = 0 then f_shut S c else some S
def SS (D c : Nat) (A : Option (Int32 × xSt)) (B : Option xVt) : Prop := ∃ r, A = some r ∧ ∃ S' V', shutc c r.1 r.2 = some S' ∧ B = some V' ∧ Rel D S' V'
theorem SS.one {D c : Nat} {A : Option xSt} {B : Option xVt} (h : ∃ S' V', A = some S' ∧ B = some V' ∧ Rel D S' V') : SS D c (A.bind fun r => some ((1 : Int32), r)) B := by
  obtain ⟨S', V', rfl, rfl, e3⟩ := h
  exact ⟨(1, S'), rfl, S', V', if_neg (show ¬ (1 : Int32) = 0 by decide), rfl, e3⟩
theorem SS.shut {D : Nat} {S : xSt} {V : xVt} (h : Rel D S V) {c : Nat} (hc : c < 4) (hl : S.1 167 c = 1 ∨ S.1 167 c = 2) : SS D c (some (0, S)) ((g_closeNow V c).bind fun r => some r) := by
  obtain ⟨S', V', e1, e2, e3⟩ := sim_shut h hc hl
  exact ⟨(0, S), rfl, S', V', (if_pos rfl).trans e1, by rw [e2, Option.bind_some], e3⟩
