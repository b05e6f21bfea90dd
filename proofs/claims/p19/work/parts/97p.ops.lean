/-! a call on both sides: through the law's wrapper, then the reference -/
def OP (D : Nat) (cmp : Prop) (wi mi : Nat) (aw am : List Value) (w : xWd) (S : xSt) (V : xVt) (ρ : Nat → Nat → Int64) : Prop := ∃ (kk b : Int32) (w' : xWd) (T : xSt) (W : xVt) (ρ' : Nat → Nat → Int64), xc 11 wi aw (hv w S V ρ) (.inl (some (.int kk)), hv w' T V ρ') ∧ xc 11 mi am (hv w' T V ρ') (.inl (some (.int b)), hv w' T W ρ') ∧ Rel D T W ∧ W.2.1 165 0 = kk ∧ (cmp → kk = 0 → ρ' 189 0 = b.toInt64) ∧ w'.2.2.2 = w.2.2.2 ∧ w'.2.1 ≤ w.2.1 + 1 ∧ w'.2.2.1 ≤ w.2.2.1 + 6
def OV (D : Nat) (wi mi : Nat) (aw am : List Value) (w : xWd) (S : xSt) (V : xVt) (ρ : Nat → Nat → Int64) : Prop := ∃ (kk : Int32) (w' : xWd) (T : xSt) (W : xVt), xc 11 wi aw (hv w S V ρ) (.inl (some (.int kk)), hv w' T V ρ) ∧ xc 11 mi am (hv w' T V ρ) (.inl none, hv w' T W ρ) ∧ Rel D T W ∧ W.2.1 165 0 = kk ∧ w'.2.2.2 = w.2.2.2 ∧ w'.2.1 ≤ w.2.1 + 1 ∧ w'.2.2.1 ≤ w.2.2.1 + 6
theorem OP.ofP {D : Nat} {k : Nat → Int32} {A : Option ((Option Int32 ⊕ Nat) × xSt)} {B : Option (Int32 × xVt)} (h : AP D k A B) (hk : ∀ E, k E ≠ 0) {wi mi : Nat} {aw am : List Value} {w : xWd} {S : xSt} {V : xVt} {ρ : Nat → Nat → Int64}
    (cw : ∀ u T, A = some (.inl (some u), T) → xc 11 wi aw (hv w S V ρ) (.inl (some (.int 0)), hv w T V (xi_u2 ρ 189 0 u.toInt64))) (cx : ∀ E T, A = some (.inr E, T) → xc 11 wi aw (hv w S V ρ) (.inl (some (.int (k E))), hv (fzw w) T V ρ))
    (cm : ∀ (w : xWd) (S : xSt) (ρ : Nat → Nat → Int64) (r : Int32 × xVt), B = some r → xc 11 mi am (hv w S V ρ) (.inl (some (.int r.1)), hv w S r.2 ρ)) : OP D True wi mi aw am w S V ρ := by
  obtain ⟨o, T, b, W, e1, e2, R, ⟨rfl, t⟩ | ⟨E, -, rfl, t⟩⟩ := h
  · exact ⟨0, b, w, T, W, _, cw b T e1, cm _ _ _ _ e2, R, t, fun _ _ => u2_same _ _ _ _, rfl, Nat.le_succ _, Nat.le_add_right _ _⟩
  · exact ⟨k E, b, fzw w, T, W, _, cx E T e1, cm _ _ _ _ e2, R, t, fun _ z => absurd z (hk E), rfl, Nat.le_refl _, Nat.le_refl _⟩
theorem OP.ofQ {D : Nat} {k : Nat → Int32} {A : Option ((Option Int32 ⊕ Nat) × xSt)} {B : Option (Int32 × xVt)} (h : AQ D k A B) {wi mi : Nat} {aw am : List Value} {w : xWd} {S : xSt} {V : xVt} {ρ : Nat → Nat → Int64}
    (cw : ∀ u T, A = some (.inl (some u), T) → xc 11 wi aw (hv w S V ρ) (.inl (some (.int 0)), hv w T V (xi_u2 ρ 189 0 u.toInt64))) (cx : ∀ E T, A = some (.inr E, T) → xc 11 wi aw (hv w S V ρ) (.inl (some (.int (k E))), hv (fzw w) T V ρ))
    (cm : ∀ (w : xWd) (S : xSt) (ρ : Nat → Nat → Int64) (r : Int32 × xVt), B = some r → xc 11 mi am (hv w S V ρ) (.inl (some (.int r.1)), hv w S r.2 ρ)) : OP D False wi mi aw am w S V ρ := by
  obtain ⟨o, T, b, W, e1, e2, R, ⟨a, rfl, t⟩ | ⟨E, -, rfl, t⟩⟩ := h
  · exact ⟨0, b, w, T, W, _, cw a T e1, cm _ _ _ _ e2, R, t, fun z => z.elim, rfl, Nat.le_succ _, Nat.le_add_right _ _⟩
  · exact ⟨k E, b, fzw w, T, W, _, cx E T e1, cm _ _ _ _ e2, R, t, fun z => z.elim, rfl, Nat.le_refl _, Nat.le_refl _⟩
theorem OV.ofN {D : Nat} {k : Nat → Int32} {A : Option ((Option Int32 ⊕ Nat) × xSt)} {B : Option xVt} (h : AN D k A B) {wi mi : Nat} {aw am : List Value} {w : xWd} {S : xSt} {V : xVt} {ρ : Nat → Nat → Int64}
    (cw : ∀ T, A = some (.inl none, T) → xc 11 wi aw (hv w S V ρ) (.inl (some (.int 0)), hv w T V ρ)) (cx : ∀ E T, A = some (.inr E, T) → xc 11 wi aw (hv w S V ρ) (.inl (some (.int (k E))), hv (fzw w) T V ρ))
    (cm : ∀ (w : xWd) (S : xSt) (ρ : Nat → Nat → Int64) (r : xVt), B = some r → xc 11 mi am (hv w S V ρ) (.inl none, hv w S r ρ)) : OV D wi mi aw am w S V ρ := by
  obtain ⟨o, T, W, e1, e2, R, ⟨rfl, t⟩ | ⟨E, -, rfl, t⟩⟩ := h
  · exact ⟨0, w, T, W, cw T e1, cm _ _ _ _ e2, R, t, rfl, Nat.le_succ _, Nat.le_add_right _ _⟩
  · exact ⟨k E, fzw w, T, W, cx E T e1, cm _ _ _ _ e2, R, t, rfl, Nat.le_refl _, Nat.le_refl _⟩
theorem k3_ne (E : Nat) : k3 E ≠ 0 := by
  unfold k3
  split
  · decide
  · split <;> decide
theorem k2_ne (E : Nat) : k2 E ≠ 0 := by
  unfold k2
  split <;> decide
theorem op_secret {D : Nat} {w : xWd} {S : xSt} {V : xVt} {ρ : Nat → Nat → Int64} (h : Rel D S V) (rl b : Int32) : OP D True 160 139 [.ref 0, .int rl, .int b, .ref 189] [.ref 165, .int rl, .int b] w S V ρ :=
  OP.ofP (sim_secret h rl b) k3_ne (fun _ _ e => w_secret 2 e) (fun _ _ e => wx_secret 2 e) (fun _ _ _ _ e => cg_secret 9 e)
theorem op_create {D : Nat} {w : xWd} {S : xSt} {V : xVt} {ρ : Nat → Nat → Int64} (h : Rel D S V) (ci rl x : Int32) : OP D True 161 140 [.ref 0, .int ci, .int rl, .int x, .ref 189] [.ref 165, .int ci, .int rl, .int x] w S V ρ :=
  OP.ofP (sim_create h ci rl x) k3_ne (fun _ _ e => w_create 2 e) (fun _ _ e => wx_create 2 e) (fun _ _ _ _ e => cg_create 9 e)
theorem op_extend {D : Nat} {w : xWd} {S : xSt} {V : xVt} {ρ : Nat → Nat → Int64} (h : Rel D S V) (ci rl x : Int32) : OP D True 162 141 [.ref 0, .int ci, .int rl, .int x, .ref 189] [.ref 165, .int ci, .int rl, .int x] w S V ρ :=
  OP.ofP (api_extend h ci rl x) k3_ne (fun _ _ e => w_extend 2 e) (fun _ _ e => wx_extend 2 e) (fun _ _ _ _ e => cg_extend 7 e)
theorem op_begin {D : Nat} {w : xWd} {S : xSt} {V : xVt} {ρ : Nat → Nat → Int64} (h : Rel D S V) (ci st hp : Int32) : OV D 163 142 [.ref 0, .int ci, .int st, .int hp] [.ref 165, .int ci, .int st, .int hp] w S V ρ :=
  OV.ofN (sim_begin h ci st hp) (fun _ e => w_begin 2 e) (fun _ _ e => wx_begin 2 e) (fun _ _ _ _ e => cg_begin 7 e)
theorem op_send {D : Nat} (hD : D < 90000) {w : xWd} {S : xSt} {V : xVt} {ρ : Nat → Nat → Int64} (h : Rel D S V) (ci st n v : Int32) : OP (D + 1) True 164 143 [.ref 0, .int ci, .int st, .int n, .int v, .ref 189] [.ref 165, .int ci, .int st, .int n, .int v] w S V ρ :=
  OP.ofP (sim_send hD h ci st n v) k3_ne (fun _ _ e => w_send 2 e) (fun _ _ e => wx_send 2 e) (fun _ _ _ _ e => cg_send 7 e)
theorem op_end {D : Nat} {w : xWd} {S : xSt} {V : xVt} {ρ : Nat → Nat → Int64} (h : Rel D S V) (ci st : Int32) : OP (D + 1) True 165 144 [.ref 0, .int ci, .int st, .ref 189] [.ref 165, .int ci, .int st] w S V ρ :=
  OP.ofP (sim_end h ci st) k2_ne (fun _ _ e => w_end 2 e) (fun _ _ e => wx_end 2 e) (fun _ _ _ _ e => cg_end 7 e)
theorem op_truncate {D : Nat} {w : xWd} {S : xSt} {V : xVt} {ρ : Nat → Nat → Int64} (h : Rel D S V) (ci hp : Int32) : OP D True 166 146 [.ref 0, .int ci, .int hp, .ref 189] [.ref 165, .int ci, .int hp] w S V ρ :=
  OP.ofP (sim_truncate h ci hp) k2_ne (fun _ _ e => w_truncate 2 e) (fun _ _ e => wx_truncate 2 e) (fun _ _ _ _ e => cg_truncate 7 e)
theorem op_close {D : Nat} {w : xWd} {S : xSt} {V : xVt} {ρ : Nat → Nat → Int64} (h : Rel D S V) (ci : Int32) : OV D 167 147 [.ref 0, .int ci] [.ref 165, .int ci] w S V ρ :=
  OV.ofN (sim_close h ci) (fun _ e => w_close 2 e) (fun _ _ e => wx_close 2 e) (fun _ _ _ _ e => cg_close 8 e)
theorem op_deliver {D : Nat} (hD : D + 100 ≤ 90000) {w : xWd} {S : xSt} {V : xVt} {ρ : Nat → Nat → Int64} (h : Rel D S V) (m : Int32) : OP (D + 100) True 168 148 [.ref 0, .int m, .ref 189] [.ref 165, .int m] w S V ρ :=
  OP.ofP (api_deliver hD h m) (fun _ => by decide) (fun _ _ e => w_deliver 3 e) (fun _ _ e => wx_deliver 3 e) (fun _ _ _ _ e => cg_deliver 3 e)
theorem op_damage {D : Nat} {w : xWd} {S : xSt} {V : xVt} {ρ : Nat → Nat → Int64} (h : Rel D S V) (i k m : Int32) : OP D False 169 149 [.ref 0, .int i, .int k, .int m, .ref 189] [.ref 165, .int i, .int k, .int m] w S V ρ :=
  OP.ofQ (api_damage h i k m) (fun _ _ e => w_damage 3 e) (fun _ _ e => wx_damage 3 e) (fun _ _ _ _ e => cg_damage 10 e)
theorem op_lose {D : Nat} {w : xWd} {S : xSt} {V : xVt} {ρ : Nat → Nat → Int64} (h : Rel D S V) (i : Int32) : OP D True 170 150 [.ref 0, .int i, .ref 189] [.ref 165, .int i] w S V ρ :=
  OP.ofP (api_lose h i) k2_ne (fun _ _ e => w_lose 3 e) (fun _ _ e => wx_lose 3 e) (fun _ _ _ _ e => cg_lose 10 e)
theorem op_cell {D : Nat} {w : xWd} {S : xSt} {V : xVt} {ρ : Nat → Nat → Int64} (h : Rel D S V) (i wh : Int32) : OP D False 171 152 [.ref 0, .int i, .int wh, .ref 189] [.ref 165, .int i, .int wh] w S V ρ :=
  OP.ofQ (api_cell h i wh) (fun _ _ e => w_cell 3 e) (fun _ _ e => wx_cell 3 e) (fun _ _ _ _ e => cg_cell 10 e)
theorem op_circuit {D : Nat} {w : xWd} {S : xSt} {V : xVt} {ρ : Nat → Nat → Int64} (h : Rel D S V) (ci wh : Int32) : OP D True 172 153 [.ref 0, .int ci, .int wh, .ref 189] [.ref 165, .int ci, .int wh] w S V ρ :=
  OP.ofP (api_circuit h ci wh) k2_ne (fun _ _ e => w_circuit 2 e) (fun _ _ e => wx_circuit 2 e) (fun _ _ _ _ e => cg_circuit 9 e)
theorem op_key {D : Nat} {w : xWd} {S : xSt} {V : xVt} {ρ : Nat → Nat → Int64} (h : Rel D S V) (ci hp k : Int32) : OP D True 173 154 [.ref 0, .int ci, .int hp, .int k, .ref 189] [.ref 165, .int ci, .int hp, .int k] w S V ρ :=
  OP.ofP (api_key h ci hp k) k2_ne (fun _ _ e => w_key 2 e) (fun _ _ e => wx_key 2 e) (fun _ _ _ _ e => cg_key 9 e)
theorem op_relay {D : Nat} {w : xWd} {S : xSt} {V : xVt} {ρ : Nat → Nat → Int64} (h : Rel D S V) (rl ci wh : Int32) : OP D True 174 155 [.ref 0, .int rl, .int ci, .int wh, .ref 189] [.ref 165, .int rl, .int ci, .int wh] w S V ρ :=
  OP.ofP (api_relay h rl ci wh) k2_ne (fun _ _ e => w_relay 2 e) (fun _ _ e => wx_relay 2 e) (fun _ _ _ _ e => cg_relay 9 e)
theorem op_data {D : Nat} {w : xWd} {S : xSt} {V : xVt} {ρ : Nat → Nat → Int64} (h : Rel D S V) (ci i : Int32) : OP D True 175 156 [.ref 0, .int ci, .int i, .ref 189] [.ref 165, .int ci, .int i] w S V ρ :=
  OP.ofP (api_data h ci i) k2_ne (fun _ _ e => w_data 2 e) (fun _ _ e => wx_data 2 e) (fun _ _ _ _ e => cg_data 9 e)
theorem op_count {D : Nat} {w : xWd} {S : xSt} {V : xVt} {ρ : Nat → Nat → Int64} (h : Rel D S V) (wh : Int32) : OP D True 176 158 [.ref 0, .int wh, .ref 189] [.ref 165, .int wh] w S V ρ :=
  OP.ofP (api_count h wh) k2_ne (fun _ _ e => w_count 3 e) (fun _ _ e => wx_count 3 e) (fun _ _ _ _ e => cg_count 10 e)
