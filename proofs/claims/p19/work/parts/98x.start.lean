/-! the start: class and reference as their constructors leave them -/
def xi_X0 (r i : Nat) : Int32 := if (167 ≤ r ∧ r ≤ 185) ∨ (r = 165 ∧ (i = 1 ∨ i = 3 ∨ i = 4 ∨ i = 5)) then xi_II r i else xi_II (ps r i).1 (ps r i).2
def xi_Y0 (κ i : Nat) : Int32 := xi_II (ps (2000 + κ) i).1 (ps (2000 + κ) i).2
def xi_q0 (j : Nat) : Nat := if j = 20 then 1 else j + 2
def xi_S0 : xSt := (xi_X0, xi_Y0, xi_q0)
def xi_V0 : xVt := (xi_X0, xi_II, fun _ _ => 0, fun _ => 0)
theorem s0_mk0 : ∀ a, a < 165 → ∀ k, k < 20 → mk xi_S0 a k = xi_II a k := by decide +kernel
theorem s0_cst {a k : Nat} (hk : ¬ k < 20) : cst a k = none := by
  unfold cst
  repeat' split
  all_goals first | rfl | (exfalso; omega)
theorem s0_mk {a : Nat} (ha : a < 165) (k : Nat) : mk xi_S0 a k = xi_II a k := by
  by_cases hk : k < 20
  · exact s0_mk0 a ha k hk
  · unfold mk
    rw [s0_cst hk]
    show rdX xi_S0 (ph a k) = _
    have e : ph a k = (1000 + a, k) := if_neg hk
    rw [e]
    unfold rdX
    rw [if_pos (show (1000 + a, k).1 < 2000 by show 1000 + a < 2000; omega)]
    show xi_X0 (1000 + a) k = _
    unfold xi_X0
    rw [if_neg (by omega)]
    have e2 : ps (1000 + a) k = (a, k) := by
      unfold ps
      rw [if_neg (by omega), if_pos (by omega)]
      exact Prod.ext (Nat.add_sub_cancel_left 1000 a) rfl
    rw [e2]
theorem s0_gl {r : Nat} (hr : ¬ r < 165) (i : Nat) : gl xi_V0 r i = xi_II r i := by
  unfold gl
  by_cases h1 : r = 166
  · subst h1
    rfl
  rw [if_neg h1]
  by_cases h2 : r = 187
  · subst h2
    rw [if_pos rfl]
    show (if i < 14 then (0 : Int32) else 0) = _
    split <;> rfl
  rw [if_neg h2]
  by_cases h3 : r = 165
  · subst h3
    rw [if_pos rfl]
    by_cases h4 : i = 1 ∨ i = 3 ∨ i = 4 ∨ i = 5
    · rw [if_pos h4]
      exact if_pos (Or.inr ⟨rfl, h4⟩)
    · rw [if_neg h4]
      rfl
  rw [if_neg h3]
  by_cases h4 : 167 ≤ r ∧ r ≤ 185
  · rw [if_pos h4]
    exact if_pos (Or.inl h4)
  · rw [if_neg h4]
    rfl
theorem s0_rp : xi_RP (fun j => ja_L (xi_q0 j)) = xi_RR := by
  funext i j
  unfold xi_RP
  by_cases h1 : i = 2 ∧ j < 20
  · rw [if_pos h1]
    obtain ⟨rfl, h2⟩ := h1
    show some (ja_L (xi_q0 j)) = (if j < 20 then some (7 + 2 * j) else none)
    rw [if_pos h2]
    unfold ja_L xi_q0
    rw [if_neg (by omega)]
    congr 1
    omega
  · rw [if_neg h1]
    by_cases h2 : i = 1 ∧ j = 4
    · rw [if_pos h2]
      obtain ⟨rfl, rfl⟩ := h2
      rfl
    · rw [if_neg h2]
theorem s0_hn (L : Nat) (xs : Nat → Int32) : xi_hn 190 190 1841 L xs = hv (false, 190, 1841, L, xs) xi_S0 xi_V0 (fun _ _ => 0) := by
  refine Prod.ext rfl (Prod.ext rfl (Prod.ext ?_ (Prod.ext rfl ?_)))
  · show xi_II = mrg (mk xi_S0) (gl xi_V0)
    funext a k
    by_cases h : a < 165
    · rw [mrg_lo h, s0_mk h]
    · rw [mrg_hi (by omega), s0_gl h]
  · exact s0_rp.symm
theorem s0_c : ∀ c, c < 4 → (xi_X0 167 c = 0 ∧ xi_X0 168 c = 0 ∧ xi_X0 171 c = -1 ∧ xi_X0 176 c = 0) ∧ ∀ s, s < 3 → xi_X0 173 (3 * c + s) = 0 ∧ xi_X0 174 (3 * c + s) = 0 ∧ xi_X0 175 (3 * c + s) = 0 := by decide +kernel
theorem s0_p : ∀ i, i < 4 → ∀ c, c < 4 → (xi_X0 180 (4 * i + c) = 0 ∧ xi_X0 181 (4 * i + c) = -1 ∧ xi_X0 182 (4 * i + c) = -1 ∧ xi_X0 183 (4 * i + c) = -1) ∧ (∀ k, k < 4 → xi_X0 184 (16 * i + 4 * c + k) = 0) ∧ ∀ s, s < 3 → xi_X0 185 (12 * i + 3 * c + s) = 0 := by decide +kernel
theorem s0_r : ∀ i, i < 4 → xi_X0 178 (i + 1) = nI (1000 * (i + 1)) ∧ xi_X0 190 i = nI (17 ^ (1000 * (i + 1)) % 65521) ∧ xi_X0 179 (i + 1) = nI 0 := by decide +kernel
theorem s0_t : ∀ t, t < 48 → xi_X0 185 t = 0 := by decide +kernel
theorem s0_rel : Rel 0 xi_S0 xi_V0 := by
  refine ⟨rfl, fun c hc => ?_, fun i hi c hc => ?_, fun i hi => ?_, ⟨fun j hj => ?_, fun j k hj hk e => ?_⟩, ⟨0, by omega, rfl, fun j hj => absurd hj (Nat.not_lt_zero _)⟩, fun t ht e => ?_⟩
  · obtain ⟨⟨e1, e2, e3, e4⟩, es⟩ := s0_c c hc
    refine ⟨0, e2, by omega, fun q => ?_, fun _ => e3, fun q => ?_, fun q => by omega, ?_, fun s hs => ?_⟩
    · exact absurd (e1.symm.trans q) (by decide)
    · exact absurd (e1.symm.trans q) (by decide)
    · show bnd (xi_X0 176 c) 8
      rw [e4]
      exact ⟨by decide, by decide⟩
    · obtain ⟨s1, s2, s3⟩ := es s hs
      exact ⟨0, 0, s2, by omega, s3, by omega, fun _ => rfl, fun q => absurd s1 q⟩
  · obtain ⟨⟨e1, e2, e3, e4⟩, e5, e6⟩ := s0_p i hi c hc
    exact Or.inl ⟨e1, e2, e3, e4, e5, e6⟩
  · obtain ⟨e1, e2, e3⟩ := s0_r i hi
    exact ⟨1000 * (i + 1), 0, e1, by omega, e2, e3, Nat.le_refl _⟩
  · show 1 ≤ xi_q0 j ∧ xi_q0 j < 22
    unfold xi_q0
    split <;> omega
  · have e9 : xi_q0 j = xi_q0 k := e
    unfold xi_q0 at e9
    split at e9 <;> split at e9 <;> omega
  · exact absurd ((s0_t t ht).symm.trans e) (by decide)
theorem law_run0 (L : Nat) (hL : L ≤ 2560) (xs : Nat → Int32) : ∃ (n : Nat) (h' : xHp), xi_run n 12 177 (23, [(4, .int 0), (3, .ref 189), (2, .ref 165), (1, .ref 0), (0, .ref xi_scr)], []) (xi_hn 190 190 1841 (L + 1) xs) = some (.inl (some (.int 1)), h') ∧ hC h' ≤ 5000 ∧ hW h' ≤ 9000 := by
  obtain ⟨h', ⟨n, hn⟩, c1, c2⟩ := lw_lp hL (L / 5) 0 (by omega) (by omega) [(4, .int 0), (3, .ref 189), (2, .ref 165), (1, .ref 0), (0, .ref xi_scr)] (false, 190, 1841, L + 1, xs) xi_S0 xi_V0 (fun _ _ => 0) ⟨rfl, rfl, rfl, rfl, rfl⟩ rfl (Nat.le_refl _) (Nat.le_refl _) s0_rel
  exact ⟨n, h', by rw [s0_hn]; exact hn, c1, c2⟩
