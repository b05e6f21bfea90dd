/-! damage, cell: the answers may differ at a DESTROY's bytes -/
/-- both answer, or both refuse with the same code -/
def AQ (D : Nat) (k : Nat → Int32) (A : Option ((Option Int32 ⊕ Nat) × xSt)) (B : Option (Int32 × xVt)) : Prop := ∃ o T b W, A = some (o, T) ∧ B = some (b, W) ∧ Rel D T W ∧ ((∃ a, o = .inl (some a) ∧ W.2.1 165 0 = 0) ∨ (∃ E, E < 3 ∧ o = .inr E ∧ W.2.1 165 0 = k E))
theorem AP.q {D : Nat} {k : Nat → Int32} {A : Option ((Option Int32 ⊕ Nat) × xSt)} {B : Option (Int32 × xVt)} (h : AP D k A B) : AQ D k A B := by
  obtain ⟨o, T, b, W, h1, h2, h3, h4⟩ := h
  exact ⟨o, T, b, W, h1, h2, h3, h4.imp (fun q => ⟨b, q⟩) id⟩
theorem AQ.ok {D : Nat} {k : Nat → Int32} {S : xSt} {V : xVt} (h : Rel D S V) {b b' : Int32} : AQ D k (some (.inl (some b), S)) (some (b', vn V 165 0 0)) := ⟨_, _, _, _, rfl, rfl, h.n0 0, Or.inl ⟨_, rfl, n0_rd V 0⟩⟩
theorem okc.dmg {D : Nat} {f g : Nat → Int32} (h : okc D f g) {k : Nat} (hk : k < 14) {m : Int32} (hm : bnd m 256) : okc D (up f k (f k ^^^ m)) (up g k (g k ^^^ m)) := by
  obtain ⟨⟨h1, h2, h3, h4, h5⟩, h6, h7⟩ := h
  have o : ∀ (f : Nat → Int32) (v : Int32) (j : Nat), 14 ≤ j → up f k v j = f j := fun f v j hj => if_neg (by omega)
  refine ⟨⟨?_, ?_, ?_, ?_, ?_⟩, fun j q1 q2 => ?_, fun q j hj => ?_⟩
  · rw [o _ _ 14 (by omega)]; exact h1
  · rw [o _ _ 15 (by omega)]; exact h2
  · rw [o _ _ 16 (by omega)]; exact h3
  · rw [o _ _ 17 (by omega)]; exact h4
  · rw [o _ _ 18 (by omega)]; exact h5
  · rw [o _ _ j q1, o _ _ j q1]; exact h6 j q1 q2
  · rw [o _ _ 17 (by omega)] at q
    unfold up
    by_cases z : j = k
    · rw [if_pos z, if_pos z, (h7 q k hk).1]
      exact ⟨rfl, by_xor (h7 q k hk).2 hm⟩
    · rw [if_neg z, if_neg z]
      exact h7 q j hj
theorem Rel.dmg {D : Nat} {S : xSt} {V : xVt} (h : Rel D S V) {j n k : Nat} (e : S.1 165 1 = nI n) (hn : n ≤ 20) (hj : j < n) (hk : k < 14) {m : Int32} (hm : bnd m 256) : Rel D (sy S (S.2.2 j) k (S.2.1 (S.2.2 j) k ^^^ m)) (vcs V j k (V.2.2.1 j k ^^^ m)) := by
  obtain ⟨h1, h2, h3, h4, hq, ⟨n', hn', e', hcl⟩, ht⟩ := h
  have hnn : n' = n := (nI_eq (by omega) (by omega)).mp (e'.symm.trans e)
  subst hnn
  refine ⟨h1, h2, h3, h4, hq, ⟨n', hn', e', fun i hi => ?_⟩, ht⟩
  rw [sy_sr]
  show okc D (if S.2.2 i = S.2.2 j then up (S.2.1 (S.2.2 j)) k (S.2.1 (S.2.2 j) k ^^^ m) else S.2.1 (S.2.2 i)) (xi_u2 V.2.2.1 j k (V.2.2.1 j k ^^^ m) i)
  by_cases z : i = j
  · subst z
    rw [if_pos rfl, show xi_u2 V.2.2.1 i k (V.2.2.1 i k ^^^ m) i = up (V.2.2.1 i) k (V.2.2.1 i k ^^^ m) by
      funext y
      unfold up
      by_cases q : y = k
      · rw [if_pos q, q, u2_same]
      · rw [if_neg q, u2i q]]
    exact (hcl i hi).dmg hk hm
  · rw [if_neg (fun q => z (hq.2 i j (by omega) (by omega) q)), u2r z]
    exact hcl i hi
theorem api_damage {D : Nat} {S : xSt} {V : xVt} (h : Rel D S V) (i k m : Int32) : AQ D k2 (f_damage S i k m) (g_damage V i k m) := by
  have eV : V.1 = S.1 := h.1
  unfold f_damage g_damage
  simp only [bsm]
  obtain ⟨n, hn, e, hcl⟩ := h.2.2.2.2.2.1
  rw [eV, e]
  rcases a_pos hn i with ⟨e1, q⟩ | ⟨e1, q, j, hj, rfl⟩
  · rw [e1, if_pos rfl, if_pos q]
    exact (AP.err h (by decide) rfl).q
  rw [e1, if_neg (show ¬ (1 : Int32) = 0 by decide), if_neg q]
  rcases a_idx k 13 13 14 (by omega) rfl rfl with ⟨e2, q2⟩ | ⟨e2, q2, y, hy, rfl⟩
  · rw [e2, if_pos rfl, if_pos q2]
    exact (AP.err h (by decide) rfl).q
  rw [e2, if_neg (show ¬ (1 : Int32) = 0 by decide), if_neg q2, show f_isByte m = g_in m 0 255 from rfl]
  rcases a_idx m 255 255 256 (by omega) rfl rfl with ⟨e3, q3⟩ | ⟨e3, q3, u, hu, rfl⟩
  · rw [e3, if_pos rfl, if_pos rfl]
    exact (AP.err h (by decide) rfl).q
  obtain ⟨x1, x2, x3, x4, x5⟩ := ixc (j := j) (k := 4 + y) (by omega) (by omega)
  have x0 : (19 : Int32) * nI j + 4 + nI y = nI (19 * j + (4 + y)) := by rw [← x1, ← nI_add, ← Int32.add_assoc]; rfl
  have xp : pm (4 + y) = y := by
    unfold pm
    rw [if_neg (by omega), if_pos (by omega)]
    omega
  rw [e3, if_neg (show ¬ (1 : Int32) = 0 by decide), if_neg (show ¬ (1 : Int32) = 0 by decide), if_pos (bn (show j < 20 by omega) (by decide)), nI_clamp (show j < 2 ^ 31 by omega), if_pos (h.2.2.2.2.1.1 j (by omega)).2, if_pos (bn (show y < 14 by omega) (by decide)), nI_clamp (show y < 2 ^ 31 by omega), x0, if_pos x2, x3, x4, x5, xp]
  exact ⟨_, _, _, _, rfl, rfl, (h.n0 0).dmg e hn hj (by omega) (bn (show u < 256 by omega) (by decide)), Or.inl ⟨_, rfl, n0_rd V 0⟩⟩
