theorem xe_callq {d m : Nat} {mi : xMi} (hp : xpg[m]? = some mi) (m' : Nat) (av : List Value) (v : Option Value ⊕ Nat) {h1 : xHp} (fr' : xFr) {fr : xFr} {h : xHp} {r : xRs} (ha : xi_ca mi fr = some (m', av)) (hs : ∀ h1, xi_st (d + 1) (fun _ _ _ => some (v, h1)) mi fr h = some (.inl (fr', h1))) (hc : xc d m' av h (v, h1)) (hr : xe (d + 1) m fr' h1 r) : xe (d + 1) m fr h r := xe_call hp ha hc (hs h1) hr
theorem xe_callqx {d m : Nat} {mi : xMi} (hp : xpg[m]? = some mi) (m' : Nat) (av : List Value) (E : Nat) {h1 : xHp} {fr : xFr} {h : xHp} (ha : xi_ca mi fr = some (m', av)) (hs : ∀ h1, xi_st (d + 1) (fun _ _ _ => some (.inr E, h1)) mi fr h = some (.inr (.inr E, h1))) (hc : xc d m' av h (.inr E, h1)) : xe (d + 1) m fr h (.inr E, h1) := xe_callx hp ha hc (hs h1)
/-! one call on the fresh heap: class and reference -/
def gd (xs : Nat → Int32) (h : xHp) : Prop := hN h = 190 ∧ hK h = xi_KK ∧ hL h = 6 ∧ hX h = xs
def op_ok (xs : Nat → Int32) (hid mid : Nat) (avh avm : List Value) : Prop := ∃ (k y : Int32) (h1 h2 : xHp), xc 11 hid avh (xi_hn 190 190 1841 6 xs) (.inl (some (.int k)), h1) ∧ gd xs h1 ∧ xc 11 mid avm h1 (.inl (some (.int y)), h2) ∧ (gd xs h2 ∧ hC h2 ≤ 600002 ∧ hW h2 ≤ 7302231 ∧ hI h2 165 0 = k ∧ (k = 0 → hJ h2 189 0 = y.toInt64))
def op_okv (xs : Nat → Int32) (hid mid : Nat) (avh avm : List Value) : Prop := ∃ (k : Int32) (h1 h2 : xHp), xc 11 hid avh (xi_hn 190 190 1841 6 xs) (.inl (some (.int k)), h1) ∧ gd xs h1 ∧ xc 11 mid avm h1 (.inl none, h2) ∧ (gd xs h2 ∧ hC h2 ≤ 600002 ∧ hW h2 ≤ 7302231 ∧ hI h2 165 0 = k)
theorem lf_nat (p : Int32) (lo hi : Nat) (a : (lo : Int) ≤ p.toInt) (b : p.toInt ≤ (hi : Int)) : ∃ e : Nat, lo ≤ e ∧ e ≤ hi ∧ p = nI e := by
  obtain ⟨j, hj, rfl⟩ := nI_of (x := p) (fun q => by
    rw [Int32.lt_iff_toInt_lt] at q
    have : (0 : Int32).toInt = 0 := rfl
    omega)
  rw [nI_toInt hj] at a b
  exact ⟨j, by omega, by omega, rfl⟩

