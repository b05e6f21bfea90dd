/-! the class's ints laid out in rows: X (rows numbered as the reference's), Y (the cells), q (which cell stands where; 20: in hand) -/
abbrev xSt : Type := (Nat → Nat → Int32) × (Nat → Nat → Int32) × (Nat → Nat)
def ja_L (κ : Nat) : Nat := 3 + 2 * κ
def ja_B (κ : Nat) : Nat := 4 + 2 * κ
def ja_R (i : Nat) : Nat := 48 + 18 * i
def ja_Q (i : Nat) : Nat := 49 + 18 * i
def ja_P (i c : Nat) : Nat := 50 + 18 * i + 4 * c
def ja_K (i c : Nat) : Nat := 51 + 18 * i + 4 * c
def ja_O (i c : Nat) : Nat := 52 + 18 * i + 4 * c
def ja_N (i c : Nat) : Nat := 53 + 18 * i + 4 * c
def ja_C (c : Nat) : Nat := 121 + 11 * c
def ja_H (c : Nat) : Nat := 122 + 11 * c
def ja_G (c : Nat) : Nat := 123 + 11 * c
def ja_J (c j : Nat) : Nat := 124 + 11 * c + j
def ja_V (c : Nat) : Nat := 127 + 11 * c
def ja_D (c : Nat) : Nat := 128 + 11 * c
def ja_S (c s : Nat) : Nat := 129 + 11 * c + s
def ph0 (a k : Nat) : Nat × Nat :=
  if a < 47 then
    (if a = 0 then (if k = 3 then (165, 3) else if k = 4 then (165, 5) else (1000 + a, k))
     else if a = 1 then (if k = 1 then (165, 1) else if k = 2 then (165, 4) else (1000 + a, k))
     else if a = 2 then (1000 + a, k)
     else if a % 2 = 1 then (if 1 ≤ k ∧ k ≤ 5 then (2000 + (a - 3) / 2, 13 + k) else (1000 + a, k))
     else if k < 14 then (2000 + (a - 4) / 2, k) else (1000 + a, k))
  else if a < 120 then
    (if a = 47 then (1000 + a, k)
     else if (a - 48) % 18 = 0 then (if k = 1 then (190, (a - 48) / 18) else if k = 4 then (178, (a - 48) / 18 + 1) else if k = 5 then (179, (a - 48) / 18 + 1) else (1000 + a, k))
     else if (a - 48) % 18 = 1 then (1000 + a, k)
     else if ((a - 48) % 18 - 2) % 4 = 0 then (if 2 ≤ k ∧ k ≤ 5 then (178 + k, 4 * ((a - 48) / 18) + ((a - 48) % 18 - 2) / 4) else (1000 + a, k))
     else if ((a - 48) % 18 - 2) % 4 = 1 then (if k < 4 then (184, 4 * (4 * ((a - 48) / 18) + ((a - 48) % 18 - 2) / 4) + k) else (1000 + a, k))
     else if ((a - 48) % 18 - 2) % 4 = 2 then (if k < 3 then (185, 3 * (4 * ((a - 48) / 18) + ((a - 48) % 18 - 2) / 4) + k) else (1000 + a, k))
     else (if k < 3 then (191, 3 * (4 * ((a - 48) / 18) + ((a - 48) % 18 - 2) / 4) + k) else (1000 + a, k)))
  else if a = 120 then (1000 + a, k)
  else if a < 165 then
    (if (a - 121) % 11 = 0 then (if k = 4 then (176, (a - 121) / 11) else if k = 5 then (167, (a - 121) / 11) else if k = 6 then (168, (a - 121) / 11) else if k = 7 then (171, (a - 121) / 11) else if k = 8 then (172, (a - 121) / 11) else (1000 + a, k))
     else if (a - 121) % 11 = 1 then (if k < 3 then (169, 3 * ((a - 121) / 11) + k) else (1000 + a, k))
     else if 3 ≤ (a - 121) % 11 ∧ (a - 121) % 11 ≤ 5 then (if k < 4 then (170, 12 * ((a - 121) / 11) + 4 * ((a - 121) % 11 - 3) + k) else (1000 + a, k))
     else if (a - 121) % 11 = 7 then (if k < 7 then (177, 7 * ((a - 121) / 11) + k) else (1000 + a, k))
     else if 8 ≤ (a - 121) % 11 then (if k < 3 then (173 + k, 3 * ((a - 121) / 11) + ((a - 121) % 11 - 8)) else (1000 + a, k))
     else (1000 + a, k))
  else (1000 + a, k)
def ph (a k : Nat) : Nat × Nat := if k < 20 then ph0 a k else (1000 + a, k)
def ps (r x : Nat) : Nat × Nat :=
  if 2000 ≤ r then (if x < 14 then (4 + 2 * (r - 2000), x) else (3 + 2 * (r - 2000), x - 13))
  else if 1000 ≤ r then (r - 1000, x)
  else if r = 165 then (if x = 3 then (0, 3) else if x = 5 then (0, 4) else if x = 1 then (1, 1) else (1, 2))
  else if r = 190 then (48 + 18 * x, 1)
  else if r = 178 then (48 + 18 * (x - 1), 4)
  else if r = 179 then (48 + 18 * (x - 1), 5)
  else if 180 ≤ r ∧ r ≤ 183 then (50 + 18 * (x / 4) + 4 * (x % 4), r - 178)
  else if r = 184 then (51 + 18 * (x / 4 / 4) + 4 * (x / 4 % 4), x % 4)
  else if r = 185 then (52 + 18 * (x / 3 / 4) + 4 * (x / 3 % 4), x % 3)
  else if r = 191 then (53 + 18 * (x / 3 / 4) + 4 * (x / 3 % 4), x % 3)
  else if r = 176 then (121 + 11 * x, 4)
  else if r = 167 then (121 + 11 * x, 5)
  else if r = 168 then (121 + 11 * x, 6)
  else if r = 171 then (121 + 11 * x, 7)
  else if r = 172 then (121 + 11 * x, 8)
  else if r = 169 then (122 + 11 * (x / 3), x % 3)
  else if r = 170 then (124 + 11 * (x / 12) + x % 12 / 4, x % 4)
  else if r = 177 then (128 + 11 * (x / 7), x % 7)
  else (129 + 11 * (x / 3) + x % 3, r - 173)
theorem ps_ph0 : ∀ a, a < 165 → ∀ k, k < 20 → ps (ph0 a k).1 (ph0 a k).2 = (a, k) := by decide +kernel
theorem ps_ph {a : Nat} (ha : a < 165) (k : Nat) : ps (ph a k).1 (ph a k).2 = (a, k) := by
  unfold ph
  by_cases hk : k < 20
  · rw [if_pos hk]
    exact ps_ph0 a ha k hk
  · rw [if_neg hk]
    show ps (1000 + a) k = (a, k)
    unfold ps
    rw [if_neg (by omega), if_pos (by omega)]
    exact Prod.ext (Nat.add_sub_cancel_left 1000 a) rfl
theorem ph_inj {a b k j : Nat} (ha : a < 165) (hb : b < 165) (h : ph b j = ph a k) : b = a ∧ j = k := by
  have h1 := ps_ph ha k
  rw [← h, ps_ph hb j] at h1
  exact ⟨(Prod.mk.inj h1).1, (Prod.mk.inj h1).2⟩
/-- what never changes: nodes and numbers -/
def cst (a k : Nat) : Option Int32 :=
  if 48 ≤ a ∧ a < 120 then
    (if (a - 48) % 18 = 0 then (if k = 2 then some (nI ((a - 48) / 18 + 1)) else none)
     else if 2 ≤ (a - 48) % 18 ∧ ((a - 48) % 18 - 2) % 4 = 0 then (if k = 7 then some (nI ((a - 48) / 18 + 1)) else if k = 8 then some (nI (((a - 48) % 18 - 2) / 4)) else none)
     else none)
  else if 121 ≤ a ∧ a < 165 ∧ (a - 121) % 11 = 0 ∧ k = 9 then some (nI ((a - 121) / 11)) else none
def rdX (S : xSt) (p : Nat × Nat) : Int32 := if p.1 < 2000 then S.1 p.1 p.2 else S.2.1 (p.1 - 2000) p.2
def mk (S : xSt) (a k : Nat) : Int32 := match cst a k with
  | some v => v
  | none => rdX S (ph a k)
abbrev hz (w : xWd) (S : xSt) (μ : Nat → Nat → Int32) (ρ : Nat → Nat → Int64) : xHp := hs w (mk S) μ ρ (fun j => ja_L (S.2.2 j))
def sx (S : xSt) (r i : Nat) (v : Int32) : xSt := (xi_u2 S.1 r i v, S.2)
def sy (S : xSt) (κ i : Nat) (v : Int32) : xSt := (S.1, xi_u2 S.2.1 κ i v, S.2.2)
theorem mrg_cg {σ σ' μ : Nat → Nat → Int32} (h : ∀ a, a < 165 → ∀ k, σ a k = σ' a k) : mrg σ μ = mrg σ' μ := by
  funext a k
  by_cases ha : a < 165
  · rw [mrg_lo ha, mrg_lo ha, h a ha]
  · rw [mrg_hi (by omega), mrg_hi (by omega)]
theorem hs_cg {w : xWd} {σ σ' μ : Nat → Nat → Int32} {ρ : Nat → Nat → Int64} {q : Nat → Nat} (h : ∀ a, a < 165 → ∀ k, σ a k = σ' a k) : hs w σ μ ρ q = hs w σ' μ ρ q := by
  unfold hs
  rw [mrg_cg h]
/-- the place (a, k) is (r, i) of X -/
def lx (a k r i : Nat) : Prop := a < 165 ∧ cst a k = none ∧ ph a k = (r, i) ∧ r < 2000
/-- the place (a, k) is (κ, i) of Y -/
def ly (a k κ i : Nat) : Prop := a < 165 ∧ cst a k = none ∧ ph a k = (2000 + κ, i)
theorem lx.rd {a k r i : Nat} (h : lx a k r i) (S : xSt) : mk S a k = S.1 r i := by
  unfold mk
  rw [h.2.1]
  show rdX S (ph a k) = _
  rw [h.2.2.1]
  exact if_pos h.2.2.2
theorem ly.rd {a k κ i : Nat} (h : ly a k κ i) (S : xSt) : mk S a k = S.2.1 κ i := by
  unfold mk
  rw [h.2.1]
  show rdX S (ph a k) = _
  rw [h.2.2]
  unfold rdX
  rw [if_neg (by show ¬ 2000 + κ < 2000; omega)]
  show S.2.1 (2000 + κ - 2000) i = _
  rw [Nat.add_sub_cancel_left]
theorem lx.wr {w : xWd} {S : xSt} {μ : Nat → Nat → Int32} {ρ : Nat → Nat → Int64} {a k r i : Nat} (h : lx a k r i) (v : Int32) : xi_setI (hz w S μ ρ) a k v = hz w (sx S r i v) μ ρ := by
  rw [hs_set_lo h.1]
  refine hs_cg (fun b hb j => ?_)
  by_cases e : b = a ∧ j = k
  · obtain ⟨rfl, rfl⟩ := e
    rw [u2_same, h.rd]
    exact (u2_same _ _ _ _).symm
  · rw [u2_ne _ _ (by omega)]
    unfold mk
    cases cst b j with
    | some v => rfl
    | none =>
      show rdX S (ph b j) = rdX (sx S r i v) (ph b j)
      unfold rdX
      split
      · show _ = xi_u2 S.1 r i v _ _
        rw [u2_ne]
        refine Classical.byContradiction (fun n => e ?_)
        refine ph_inj h.1 hb ?_
        rw [h.2.2.1]
        exact Prod.ext (by omega) (by omega)
      · rfl
theorem ly.wr {w : xWd} {S : xSt} {μ : Nat → Nat → Int32} {ρ : Nat → Nat → Int64} {a k κ i : Nat} (h : ly a k κ i) (v : Int32) : xi_setI (hz w S μ ρ) a k v = hz w (sy S κ i v) μ ρ := by
  rw [hs_set_lo h.1]
  refine hs_cg (fun b hb j => ?_)
  by_cases e : b = a ∧ j = k
  · obtain ⟨rfl, rfl⟩ := e
    rw [u2_same, h.rd]
    exact (u2_same _ _ _ _).symm
  · rw [u2_ne _ _ (by omega)]
    unfold mk
    cases cst b j with
    | some v => rfl
    | none =>
      show rdX S (ph b j) = rdX (sy S κ i v) (ph b j)
      unfold rdX
      split
      · rfl
      · next n2 =>
        have n0 : ¬ ((ph b j).1 - 2000 = κ ∧ (ph b j).2 = i) := by
          intro n
          refine e (ph_inj h.1 hb ?_)
          rw [h.2.2]
          have n3 : (ph b j).1 = 2000 + κ := by omega
          have n4 : (ph b j).2 = i := n.2
          exact Prod.ext n3 n4
        generalize (ph b j).1 - 2000 = x at n0 ⊢
        generalize (ph b j).2 = y at n0 ⊢
        exact (u2_ne S.2.1 (a := κ) (k := i) (b := x) (j := y) v (by omega)).symm
/-- an array's row of Y put anew -/
def sr (S : xSt) (κ : Nat) (f : Nat → Int32) : xSt := (S.1, fun b => if b = κ then f else S.2.1 b, S.2.2)
/-! places -/
theorem bn {e n : Nat} (h : e < n) (hn : n < 2 ^ 31) : bnd (nI e) n := by
  unfold bnd
  rw [nI_toInt (by omega)]
  exact ⟨by omega, by omega⟩
theorem bc {e n : Nat} (h : e < n) (hn : n < 2 ^ 31) : (nI e).toNatClampNeg = e := nI_clamp (by omega)
theorem l_came : lx 0 3 165 3 := ⟨by decide, rfl, rfl, by decide⟩
theorem l_strays : lx 0 4 165 5 := ⟨by decide, rfl, rfl, by decide⟩
theorem l_size : lx 1 1 165 1 := ⟨by decide, rfl, rfl, by decide⟩
theorem l_lost : lx 1 2 165 4 := ⟨by decide, rfl, rfl, by decide⟩
theorem l_L {κ : Nat} (h : κ < 22) {k : Nat} (h1 : 1 ≤ k) (h2 : k ≤ 5) : ly (ja_L κ) k κ (13 + k) :=
  have e : ∀ κ, κ < 22 → ∀ k, k < 6 → 1 ≤ k → ja_L κ < 165 ∧ cst (ja_L κ) k = none ∧ ph (ja_L κ) k = (2000 + κ, 13 + k) := by decide +kernel
  e κ h k (by omega) h1
theorem l_B {κ : Nat} (h : κ < 22) {k : Nat} (h2 : k < 14) : ly (ja_B κ) k κ k :=
  have e : ∀ κ, κ < 22 → ∀ k, k < 14 → ja_B κ < 165 ∧ cst (ja_B κ) k = none ∧ ph (ja_B κ) k = (2000 + κ, k) := by decide +kernel
  e κ h k h2
theorem l_R1 {i : Nat} (h : i < 4) : lx (ja_R i) 1 190 i :=
  have e : ∀ i, i < 4 → ja_R i < 165 ∧ cst (ja_R i) 1 = none ∧ ph (ja_R i) 1 = (190, i) ∧ 190 < 2000 := by decide +kernel
  e i h
theorem l_R4 {i : Nat} (h : i < 4) : lx (ja_R i) 4 178 (i + 1) :=
  have e : ∀ i, i < 4 → ja_R i < 165 ∧ cst (ja_R i) 4 = none ∧ ph (ja_R i) 4 = (178, i + 1) ∧ 178 < 2000 := by decide +kernel
  e i h
theorem l_R5 {i : Nat} (h : i < 4) : lx (ja_R i) 5 179 (i + 1) :=
  have e : ∀ i, i < 4 → ja_R i < 165 ∧ cst (ja_R i) 5 = none ∧ ph (ja_R i) 5 = (179, i + 1) ∧ 179 < 2000 := by decide +kernel
  e i h
theorem l_P {i c : Nat} (hi : i < 4) (hc : c < 4) {k : Nat} (h1 : 2 ≤ k) (h2 : k ≤ 5) : lx (ja_P i c) k (178 + k) (4 * i + c) :=
  have e : ∀ i, i < 4 → ∀ c, c < 4 → ∀ k, k < 4 → ja_P i c < 165 ∧ cst (ja_P i c) (2 + k) = none ∧ ph (ja_P i c) (2 + k) = (178 + (2 + k), 4 * i + c) ∧ 178 + (2 + k) < 2000 := by decide +kernel
  have e2 := e i hi c hc (k - 2) (by omega)
  (show 2 + (k - 2) = k by omega) ▸ e2
theorem l_K {i c : Nat} (hi : i < 4) (hc : c < 4) {k : Nat} (h2 : k < 4) : lx (ja_K i c) k 184 (4 * (4 * i + c) + k) :=
  have e : ∀ i, i < 4 → ∀ c, c < 4 → ∀ k, k < 4 → ja_K i c < 165 ∧ cst (ja_K i c) k = none ∧ ph (ja_K i c) k = (184, 4 * (4 * i + c) + k) ∧ 184 < 2000 := by decide +kernel
  e i hi c hc k h2
theorem l_O {i c : Nat} (hi : i < 4) (hc : c < 4) {k : Nat} (h2 : k < 3) : lx (ja_O i c) k 185 (3 * (4 * i + c) + k) :=
  have e : ∀ i, i < 4 → ∀ c, c < 4 → ∀ k, k < 3 → ja_O i c < 165 ∧ cst (ja_O i c) k = none ∧ ph (ja_O i c) k = (185, 3 * (4 * i + c) + k) ∧ 185 < 2000 := by decide +kernel
  e i hi c hc k h2
theorem l_N {i c : Nat} (hi : i < 4) (hc : c < 4) {k : Nat} (h2 : k < 3) : lx (ja_N i c) k 191 (3 * (4 * i + c) + k) :=
  have e : ∀ i, i < 4 → ∀ c, c < 4 → ∀ k, k < 3 → ja_N i c < 165 ∧ cst (ja_N i c) k = none ∧ ph (ja_N i c) k = (191, 3 * (4 * i + c) + k) ∧ 191 < 2000 := by decide +kernel
  e i hi c hc k h2
theorem l_C4 {c : Nat} (h : c < 4) : lx (ja_C c) 4 176 c :=
  have e : ∀ c, c < 4 → ja_C c < 165 ∧ cst (ja_C c) 4 = none ∧ ph (ja_C c) 4 = (176, c) ∧ 176 < 2000 := by decide +kernel
  e c h
theorem l_C5 {c : Nat} (h : c < 4) : lx (ja_C c) 5 167 c :=
  have e : ∀ c, c < 4 → ja_C c < 165 ∧ cst (ja_C c) 5 = none ∧ ph (ja_C c) 5 = (167, c) ∧ 167 < 2000 := by decide +kernel
  e c h
theorem l_C6 {c : Nat} (h : c < 4) : lx (ja_C c) 6 168 c :=
  have e : ∀ c, c < 4 → ja_C c < 165 ∧ cst (ja_C c) 6 = none ∧ ph (ja_C c) 6 = (168, c) ∧ 168 < 2000 := by decide +kernel
  e c h
theorem l_C7 {c : Nat} (h : c < 4) : lx (ja_C c) 7 171 c :=
  have e : ∀ c, c < 4 → ja_C c < 165 ∧ cst (ja_C c) 7 = none ∧ ph (ja_C c) 7 = (171, c) ∧ 171 < 2000 := by decide +kernel
  e c h
theorem l_C8 {c : Nat} (h : c < 4) : lx (ja_C c) 8 172 c :=
  have e : ∀ c, c < 4 → ja_C c < 165 ∧ cst (ja_C c) 8 = none ∧ ph (ja_C c) 8 = (172, c) ∧ 172 < 2000 := by decide +kernel
  e c h
theorem l_H {c : Nat} (hc : c < 4) {k : Nat} (h2 : k < 3) : lx (ja_H c) k 169 (3 * c + k) :=
  have e : ∀ c, c < 4 → ∀ k, k < 3 → ja_H c < 165 ∧ cst (ja_H c) k = none ∧ ph (ja_H c) k = (169, 3 * c + k) ∧ 169 < 2000 := by decide +kernel
  e c hc k h2
theorem l_J {c j : Nat} (hc : c < 4) (hj : j < 3) {k : Nat} (h2 : k < 4) : lx (ja_J c j) k 170 (12 * c + 4 * j + k) :=
  have e : ∀ c, c < 4 → ∀ j, j < 3 → ∀ k, k < 4 → ja_J c j < 165 ∧ cst (ja_J c j) k = none ∧ ph (ja_J c j) k = (170, 12 * c + 4 * j + k) ∧ 170 < 2000 := by decide +kernel
  e c hc j hj k h2
theorem l_D {c : Nat} (hc : c < 4) {k : Nat} (h2 : k < 7) : lx (ja_D c) k 177 (7 * c + k) :=
  have e : ∀ c, c < 4 → ∀ k, k < 7 → ja_D c < 165 ∧ cst (ja_D c) k = none ∧ ph (ja_D c) k = (177, 7 * c + k) ∧ 177 < 2000 := by decide +kernel
  e c hc k h2
theorem l_S {c s : Nat} (hc : c < 4) (hs : s < 3) {k : Nat} (h2 : k < 3) : lx (ja_S c s) k (173 + k) (3 * c + s) :=
  have e : ∀ c, c < 4 → ∀ s, s < 3 → ∀ k, k < 3 → ja_S c s < 165 ∧ cst (ja_S c s) k = none ∧ ph (ja_S c s) k = (173 + k, 3 * c + s) ∧ 173 + k < 2000 := by decide +kernel
  e c hc s hs k h2
theorem c_R2 {i : Nat} (h : i < 4) (S : xSt) : mk S (ja_R i) 2 = nI (i + 1) := by
  have e : ∀ i, i < 4 → cst (ja_R i) 2 = some (nI (i + 1)) := by decide +kernel
  unfold mk
  rw [e i h]
theorem c_P7 {i c : Nat} (hi : i < 4) (hc : c < 4) (S : xSt) : mk S (ja_P i c) 7 = nI (i + 1) := by
  have e : ∀ i, i < 4 → ∀ c, c < 4 → cst (ja_P i c) 7 = some (nI (i + 1)) := by decide +kernel
  unfold mk
  rw [e i hi c hc]
theorem c_P8 {i c : Nat} (hi : i < 4) (hc : c < 4) (S : xSt) : mk S (ja_P i c) 8 = nI c := by
  have e : ∀ i, i < 4 → ∀ c, c < 4 → cst (ja_P i c) 8 = some (nI c) := by decide +kernel
  unfold mk
  rw [e i hi c hc]
theorem c_C9 {c : Nat} (hc : c < 4) (S : xSt) : mk S (ja_C c) 9 = nI c := by
  have e : ∀ c, c < 4 → cst (ja_C c) 9 = some (nI c) := by decide +kernel
  unfold mk
  rw [e c hc]
/-! kinds -/
theorem k_O : 0 < 165 ∧ xi_KK 0 = (6, 0) := ⟨by decide, rfl⟩
theorem k_W : 1 < 165 ∧ xi_KK 1 = (4, 0) := ⟨by decide, rfl⟩
theorem k_WC : 2 < 165 ∧ xi_KK 2 = (11, 20) := ⟨by decide, rfl⟩
theorem k_Rs : 47 < 165 ∧ xi_KK 47 = (14, 4) := ⟨by decide, rfl⟩
theorem k_Cs : 120 < 165 ∧ xi_KK 120 = (12, 4) := ⟨by decide, rfl⟩
theorem k_L {κ : Nat} (h : κ < 22) : ja_L κ < 165 ∧ xi_KK (ja_L κ) = (0, 0) := (by decide +kernel : ∀ κ, κ < 22 → ja_L κ < 165 ∧ xi_KK (ja_L κ) = (0, 0)) κ h
theorem k_B {κ : Nat} (h : κ < 22) : ja_B κ < 165 ∧ xi_KK (ja_B κ) = (8, 14) := (by decide +kernel : ∀ κ, κ < 22 → ja_B κ < 165 ∧ xi_KK (ja_B κ) = (8, 14)) κ h
theorem k_R {i : Nat} (h : i < 4) : ja_R i < 165 ∧ xi_KK (ja_R i) = (3, 0) := (by decide +kernel : ∀ κ, κ < 4 → ja_R κ < 165 ∧ xi_KK (ja_R κ) = (3, 0)) i h
theorem k_Q {i : Nat} (h : i < 4) : ja_Q i < 165 ∧ xi_KK (ja_Q i) = (13, 4) := (by decide +kernel : ∀ κ, κ < 4 → ja_Q κ < 165 ∧ xi_KK (ja_Q κ) = (13, 4)) i h
theorem k_P {i c : Nat} (h : i < 4) (hc : c < 4) : ja_P i c < 165 ∧ xi_KK (ja_P i c) = (2, 0) := (by decide +kernel : ∀ κ, κ < 4 → ∀ c, c < 4 → ja_P κ c < 165 ∧ xi_KK (ja_P κ c) = (2, 0)) i h c hc
theorem k_K {i c : Nat} (h : i < 4) (hc : c < 4) : ja_K i c < 165 ∧ xi_KK (ja_K i c) = (8, 4) := (by decide +kernel : ∀ κ, κ < 4 → ∀ c, c < 4 → ja_K κ c < 165 ∧ xi_KK (ja_K κ c) = (8, 4)) i h c hc
theorem k_Op {i c : Nat} (h : i < 4) (hc : c < 4) : ja_O i c < 165 ∧ xi_KK (ja_O i c) = (9, 3) := (by decide +kernel : ∀ κ, κ < 4 → ∀ c, c < 4 → ja_O κ c < 165 ∧ xi_KK (ja_O κ c) = (9, 3)) i h c hc
theorem k_N {i c : Nat} (h : i < 4) (hc : c < 4) : ja_N i c < 165 ∧ xi_KK (ja_N i c) = (8, 3) := (by decide +kernel : ∀ κ, κ < 4 → ∀ c, c < 4 → ja_N κ c < 165 ∧ xi_KK (ja_N κ c) = (8, 3)) i h c hc
theorem k_C {c : Nat} (hc : c < 4) : ja_C c < 165 ∧ xi_KK (ja_C c) = (1, 0) := (by decide +kernel : ∀ c, c < 4 → ja_C c < 165 ∧ xi_KK (ja_C c) = (1, 0)) c hc
theorem k_H {c : Nat} (hc : c < 4) : ja_H c < 165 ∧ xi_KK (ja_H c) = (8, 3) := (by decide +kernel : ∀ c, c < 4 → ja_H c < 165 ∧ xi_KK (ja_H c) = (8, 3)) c hc
theorem k_G {c : Nat} (hc : c < 4) : ja_G c < 165 ∧ xi_KK (ja_G c) = (16, 3) := (by decide +kernel : ∀ c, c < 4 → ja_G c < 165 ∧ xi_KK (ja_G c) = (16, 3)) c hc
theorem k_J {c j : Nat} (hc : c < 4) (hj : j < 3) : ja_J c j < 165 ∧ xi_KK (ja_J c j) = (8, 4) := (by decide +kernel : ∀ c, c < 4 → ∀ j, j < 3 → ja_J c j < 165 ∧ xi_KK (ja_J c j) = (8, 4)) c hc j hj
theorem k_V {c : Nat} (hc : c < 4) : ja_V c < 165 ∧ xi_KK (ja_V c) = (15, 3) := (by decide +kernel : ∀ c, c < 4 → ja_V c < 165 ∧ xi_KK (ja_V c) = (15, 3)) c hc
theorem k_D {c : Nat} (hc : c < 4) : ja_D c < 165 ∧ xi_KK (ja_D c) = (8, 7) := (by decide +kernel : ∀ c, c < 4 → ja_D c < 165 ∧ xi_KK (ja_D c) = (8, 7)) c hc
theorem k_S {c s : Nat} (hc : c < 4) (hs : s < 3) : ja_S c s < 165 ∧ xi_KK (ja_S c s) = (5, 0) := (by decide +kernel : ∀ c, c < 4 → ∀ s, s < 3 → ja_S c s < 165 ∧ xi_KK (ja_S c s) = (5, 0)) c hc s hs
theorem kk1 {a k n : Nat} (h : a < 165 ∧ xi_KK a = (k, n)) : a < 165 ∧ (xi_KK a).1 = k := ⟨h.1, by rw [h.2]⟩
theorem kk2 {a k n : Nat} (h : a < 165 ∧ xi_KK a = (k, n)) (hk : k < 8) : a < 190 ∧ (xi_KK a).1 + 1 = k + 1 ∧ (xi_KK a).1 < 8 := ⟨by omega, by rw [h.2], by rw [h.2]; exact hk⟩
theorem RP_o {q : Nat → Nat} {a k : Nat} (h : 2 < a) : xi_RP q a k = xi_RR a k := by
  unfold xi_RP
  rw [if_neg (by omega), if_neg (by omega)]
/-! references -/
theorem r_L0 {κ : Nat} (h : κ < 22) (q : Nat → Nat) : xi_RP q (ja_L κ) 0 = some (ja_B κ) := by
  rw [RP_o (by unfold ja_L; omega)]
  exact (by decide +kernel : ∀ κ, κ < 22 → xi_RR (ja_L κ) 0 = some (ja_B κ)) κ h
theorem r_R0 {i : Nat} (h : i < 4) (q : Nat → Nat) : xi_RP q (ja_R i) 0 = some (ja_Q i) := by
  rw [RP_o (by unfold ja_R; omega)]
  exact (by decide +kernel : ∀ i, i < 4 → xi_RR (ja_R i) 0 = some (ja_Q i)) i h
theorem r_R3 {i : Nat} (h : i < 4) (q : Nat → Nat) : xi_RP q (ja_R i) 3 = some 1 := by
  rw [RP_o (by unfold ja_R; omega)]
  exact (by decide +kernel : ∀ i, i < 4 → xi_RR (ja_R i) 3 = some 1) i h
theorem r_Q {i c : Nat} (h : i < 4) (hc : c < 4) (q : Nat → Nat) : xi_RP q (ja_Q i) c = some (ja_P i c) := by
  rw [RP_o (by unfold ja_Q; omega)]
  exact (by decide +kernel : ∀ i, i < 4 → ∀ c, c < 4 → xi_RR (ja_Q i) c = some (ja_P i c)) i h c hc
theorem r_P0 {i c : Nat} (h : i < 4) (hc : c < 4) (q : Nat → Nat) : xi_RP q (ja_P i c) 0 = some (ja_K i c) := by
  rw [RP_o (by unfold ja_P; omega)]
  exact (by decide +kernel : ∀ i, i < 4 → ∀ c, c < 4 → xi_RR (ja_P i c) 0 = some (ja_K i c)) i h c hc
theorem r_P1 {i c : Nat} (h : i < 4) (hc : c < 4) (q : Nat → Nat) : xi_RP q (ja_P i c) 1 = some (ja_O i c) := by
  rw [RP_o (by unfold ja_P; omega)]
  exact (by decide +kernel : ∀ i, i < 4 → ∀ c, c < 4 → xi_RR (ja_P i c) 1 = some (ja_O i c)) i h c hc
theorem r_P6 {i c : Nat} (h : i < 4) (hc : c < 4) (q : Nat → Nat) : xi_RP q (ja_P i c) 6 = some (ja_N i c) := by
  rw [RP_o (by unfold ja_P; omega)]
  exact (by decide +kernel : ∀ i, i < 4 → ∀ c, c < 4 → xi_RR (ja_P i c) 6 = some (ja_N i c)) i h c hc
theorem r_P9 {i c : Nat} (h : i < 4) (hc : c < 4) (q : Nat → Nat) : xi_RP q (ja_P i c) 9 = some 1 := by
  rw [RP_o (by unfold ja_P; omega)]
  exact (by decide +kernel : ∀ i, i < 4 → ∀ c, c < 4 → xi_RR (ja_P i c) 9 = some 1) i h c hc
theorem r_C0 {c : Nat} (hc : c < 4) (q : Nat → Nat) : xi_RP q (ja_C c) 0 = some (ja_H c) := by
  rw [RP_o (by unfold ja_C; omega)]
  exact (by decide +kernel : ∀ c, c < 4 → xi_RR (ja_C c) 0 = some (ja_H c)) c hc
theorem r_C1 {c : Nat} (hc : c < 4) (q : Nat → Nat) : xi_RP q (ja_C c) 1 = some (ja_G c) := by
  rw [RP_o (by unfold ja_C; omega)]
  exact (by decide +kernel : ∀ c, c < 4 → xi_RR (ja_C c) 1 = some (ja_G c)) c hc
theorem r_C2 {c : Nat} (hc : c < 4) (q : Nat → Nat) : xi_RP q (ja_C c) 2 = some (ja_V c) := by
  rw [RP_o (by unfold ja_C; omega)]
  exact (by decide +kernel : ∀ c, c < 4 → xi_RR (ja_C c) 2 = some (ja_V c)) c hc
theorem r_C3 {c : Nat} (hc : c < 4) (q : Nat → Nat) : xi_RP q (ja_C c) 3 = some (ja_D c) := by
  rw [RP_o (by unfold ja_C; omega)]
  exact (by decide +kernel : ∀ c, c < 4 → xi_RR (ja_C c) 3 = some (ja_D c)) c hc
theorem r_C10 {c : Nat} (hc : c < 4) (q : Nat → Nat) : xi_RP q (ja_C c) 10 = some 1 := by
  rw [RP_o (by unfold ja_C; omega)]
  exact (by decide +kernel : ∀ c, c < 4 → xi_RR (ja_C c) 10 = some 1) c hc
theorem r_C11 {c : Nat} (hc : c < 4) (q : Nat → Nat) : xi_RP q (ja_C c) 11 = some 47 := by
  rw [RP_o (by unfold ja_C; omega)]
  exact (by decide +kernel : ∀ c, c < 4 → xi_RR (ja_C c) 11 = some 47) c hc
theorem r_G {c j : Nat} (hc : c < 4) (hj : j < 3) (q : Nat → Nat) : xi_RP q (ja_G c) j = some (ja_J c j) := by
  rw [RP_o (by unfold ja_G; omega)]
  exact (by decide +kernel : ∀ c, c < 4 → ∀ j, j < 3 → xi_RR (ja_G c) j = some (ja_J c j)) c hc j hj
theorem r_V {c s : Nat} (hc : c < 4) (hs : s < 3) (q : Nat → Nat) : xi_RP q (ja_V c) s = some (ja_S c s) := by
  rw [RP_o (by unfold ja_V; omega)]
  exact (by decide +kernel : ∀ c, c < 4 → ∀ s, s < 3 → xi_RR (ja_V c) s = some (ja_S c s)) c hc s hs
theorem r_Rs {i : Nat} (hi : i < 4) (q : Nat → Nat) : xi_RP q 47 i = some (ja_R i) := by
  rw [RP_o (by omega)]
  exact (by decide +kernel : ∀ i, i < 4 → xi_RR 47 i = some (ja_R i)) i hi
theorem r_Cs {c : Nat} (hi : c < 4) (q : Nat → Nat) : xi_RP q 120 c = some (ja_C c) := by
  rw [RP_o (by omega)]
  exact (by decide +kernel : ∀ i, i < 4 → xi_RR 120 i = some (ja_C i)) c hi
theorem r_WC (q : Nat → Nat) {j : Nat} (hj : j < 20) : xi_RP q 2 j = some (q j) := by
  unfold xi_RP
  rw [if_pos ⟨rfl, hj⟩]
