/-! the reference: bytes in hand, shipping -/
def vcs (V : xVt) (n k : Nat) (v : Int32) : xVt := vc V (xi_u2 V.2.2.1 n k v)
theorem pm_inj {a b : Nat} (ha : a < 19) (hb : b < 19) (h : pm a = pm b) : a = b := (by decide +kernel : ∀ a, a < 19 → ∀ b, b < 19 → pm a = pm b → a = b) a ha b hb h
theorem gl_vcs {V : xVt} {n k : Nat} (hk : k < 19) (v : Int32) : xi_u2 (gl V) 166 (19 * n + k) v = gl (vcs V n (pm k) v) := by
  funext a i
  by_cases e : a = 166
  · subst e
    rw [u2_at, gl_c, gl_c]
    show _ = xi_u2 V.2.2.1 n (pm k) v (i / 19) (pm (i % 19))
    rw [u2_at]
    by_cases q : i = 19 * n + k
    · rw [if_pos ⟨rfl, q⟩, if_pos]
      exact ⟨by omega, by rw [show i % 19 = k by omega]⟩
    · rw [if_neg (fun z => q z.2), if_neg]
      rintro ⟨z1, z2⟩
      have := pm_inj (Nat.mod_lt i (by decide)) hk z2
      omega
  · rw [u2_ne _ _ (Or.inl e)]
    unfold gl vcs vc
    dsimp only
    rw [if_neg e, if_neg e]
section
variable {d m : Nat} {mi : xMi} {pc ix len po : Nat} {lv : List (Nat × Value)} {st : List Value} {w : xWd} {S : xSt} {V : xVt} {ρ : Nat → Nat → Int64} {r : xRs} {h : xHp}
theorem ze_ic (hp : xpg[m]? = some mi) (n k : Nat) (v : Int32) {j : Nat} {i : Int32} (ht : xi_a (xi_tb mi) pc = some (.iaload, len)) (hi : bnd i 380) (hj : i.toNatClampNeg = j) (hn : j = 19 * n + k) (hk : k < 19) (hv' : V.2.2.1 n (pm k) = v) (hr : xe d m (pc + 1, lv, .int v :: st) (hv w S V ρ) r) : xe d m (pc, lv, .int i :: .ref 166 :: st) (hv w S V ρ) r := by
  subst hv'
  refine xe_ilm hp j ht ⟨by decide, by decide⟩ rfl hi hj ?_
  rw [gl_c, show j / 19 = n by omega, show j % 19 = k by omega]
  exact hr
theorem ze_sc (hp : xpg[m]? = some mi) (n k : Nat) {j : Nat} {i x : Int32} (ht : xi_a (xi_tb mi) pc = some (.iastore, len)) (hi : bnd i 380) (hj : i.toNatClampNeg = j) (hn : j = 19 * n + k) (hk : k < 19) (hr : xe d m (pc + 1, lv, st) (hv w S (vcs V n (pm k) x) ρ) r) : xe d m (pc, lv, .int x :: .int i :: .ref 166 :: st) (hv w S V ρ) r := by
  refine xe_ism hp j ht ⟨by decide, by decide⟩ rfl hi hj ?_
  rw [hn, gl_vcs hk]
  exact hr
end
/-- rows that only the class has: the reference's heap doesn't show them -/
theorem ze_gh {d m : Nat} {fr : xFr} {w : xWd} {S : xSt} {V : xVt} {ρ : Nat → Nat → Int64} {res : xRs} (r i : Nat) (v : Int32) (h : r = 190 ∨ r = 191) (hr : xe d m fr (hv w S (vx V r i v) ρ) res) : xe d m fr (hv w S V ρ) res := by
  have e : gl V = gl (vx V r i v) := gl_cg (fun a q1 q2 k => (u2_ne V.1 (a := r) (k := i) (b := a) (j := k) v (Or.inl (by omega))).symm) (fun k _ => (u2_ne V.1 (a := r) (k := i) (b := 165) (j := k) v (Or.inl (by omega))).symm) (fun _ _ => rfl) (fun _ _ _ => rfl) (fun _ _ => rfl)
  rw [show hv w S V ρ = hz w S (gl (vx V r i v)) ρ by rw [← e]]
  exact hr
theorem gl_vbs (V : xVt) (f : Nat → Int32) (h : ∀ i, 14 ≤ i → f i = 0) : mr (gl V) 187 f = gl (vbs V f) := by
  funext a i
  unfold mr
  by_cases e : a = 187
  · rw [if_pos e, e]
    by_cases hi : i < 14
    · rw [gl_b hi]
      rfl
    · rw [gl_b0 hi, h i (by omega)]
  · rw [if_neg e]
    unfold gl vbs
    dsimp only
    rw [if_neg e, if_neg e]
theorem gl_vbg (V : xVt) (f g : Nat → Int32) (h : ∀ i, i < 14 → f i = g i) : gl (vbs V f) = gl (vbs V g) := gl_cg (fun _ _ _ _ => rfl) (fun _ _ => rfl) (fun _ _ => rfl) (fun _ _ _ => rfl) h
theorem mw_gl (V : xVt) (key : Int32) : m_wrap (gl V) key = gl (vbs V (wrapB V.2.2.2 key 14)) := by
  unfold m_wrap
  rw [gl_vbs]
  · refine gl_vbg V _ _ (fun i hi => ?_)
    unfold wrapB
    rw [if_pos hi, if_pos hi, gl_b hi]
  · intro i hi
    unfold wrapB
    rw [if_neg (by omega), gl_b0 (by omega)]
theorem mc_gl (V : xVt) : m_clr (gl V) = gl (vbs V zf) := by
  unfold m_clr
  rw [gl_vbs]
  · refine gl_vbg V _ _ (fun i hi => ?_)
    unfold cpy zf
    rw [if_pos hi]
  · intro i hi
    unfold cpy
    rw [if_neg (by omega), gl_b0 (by omega)]
theorem fd_cg {f g : Nat → Int32} (key : Int32) : ∀ n, (∀ i, i < n → f i = g i) → fd f key n = fd g key n := by
  intro n
  induction n with
  | zero => intro _; rfl
  | succ n ih =>
    intro h
    show f_mix (fd f key n) _ = f_mix (fd g key n) _
    rw [ih (fun i hi => h i (by omega)), h n (by omega)]
theorem cg_wrap (d : Nat) {w : xWd} {S : xSt} {V : xVt} {ρ : Nat → Nat → Int64} {key : Int32} : xc d 109 [.ref 165, .int key] (hv w S V ρ) (.inl (some (.int (ks key 14))), hv w S (vbs V (wrapB V.2.2.2 key 14)) ρ) := by
  rw [show hv w S (vbs V (wrapB V.2.2.2 key 14)) ρ = hz w S (m_wrap (gl V) key) ρ by rw [mw_gl]]
  exact c_mwrap d
theorem cg_clr (d : Nat) {w : xWd} {S : xSt} {V : xVt} {ρ : Nat → Nat → Int64} : xc d 113 [.ref 165] (hv w S V ρ) (.inl none, hv w S (vbs V zf) ρ) := by
  rw [show hv w S (vbs V zf) ρ = hz w S (m_clr (gl V)) ρ by rw [mc_gl]]
  exact c_clr d
def g_fed (V : xVt) (key : Int32) : Int32 := fd V.2.2.2 key 14
theorem cg_fed (d : Nat) {w : xWd} {S : xSt} {V : xVt} {ρ : Nat → Nat → Int64} {key : Int32} {r : Int32} (hE : g_fed V key = r) : xc (d + 1) 110 [.ref 165, .int key] (hv w S V ρ) (.inl (some (.int r)), hv w S V ρ) := by
  refine c_mfed d ?_
  rw [← hE]
  exact fd_cg key 14 (fun i hi => gl_b hi)
def pushC (C : Nat → Nat → Int32) (n : Nat) (f : Nat → Int32) : Nat → Nat → Int32 := fun j => if j = n then f else C j
def g_ship (V : xVt) (a b c e g : Int32) : Option xVt := if V.1 165 1 = 20 then some (vx V 165 4 (V.1 165 4 + 1)) else if bnd (V.1 165 1) 20 then some (vc (vx V 165 1 (V.1 165 1 + 1)) (pushC V.2.2.1 (V.1 165 1).toNatClampNeg (rw0 a b c e g V.2.2.2))) else none
set_option maxRecDepth 100000 in
theorem ship_gl (V : xVt) (n : Nat) (a b c e g x : Int32) : gl (vx (vcs (vcs (vcs (vcs (vcs (vcs (vcs (vcs (vcs (vcs (vcs (vcs (vcs (vcs (vcs (vcs (vcs (vcs (vcs V n 14 a) n 15 b) n 16 c) n 17 e) n 0 (V.2.2.2 0)) n 1 (V.2.2.2 1)) n 2 (V.2.2.2 2)) n 3 (V.2.2.2 3)) n 4 (V.2.2.2 4)) n 5 (V.2.2.2 5)) n 6 (V.2.2.2 6)) n 7 (V.2.2.2 7)) n 8 (V.2.2.2 8)) n 9 (V.2.2.2 9)) n 10 (V.2.2.2 10)) n 11 (V.2.2.2 11)) n 12 (V.2.2.2 12)) n 13 (V.2.2.2 13)) n 18 g) 165 1 x) = gl (vc (vx V 165 1 x) (pushC V.2.2.1 n (rw0 a b c e g V.2.2.2))) := by
  refine gl_cg (fun _ _ _ _ => rfl) (fun _ _ => rfl) (fun _ _ => rfl) (fun j k hk => ?_) (fun _ _ => rfl)
  show _ = (if j = n then rw0 a b c e g V.2.2.2 else V.2.2.1 j) k
  show xi_u2 _ n 18 g j k = _
  by_cases h : j = n
  · subst h
    rw [if_pos rfl]
    rcases (by omega : k = 0 ∨ k = 1 ∨ k = 2 ∨ k = 3 ∨ k = 4 ∨ k = 5 ∨ k = 6 ∨ k = 7 ∨ k = 8 ∨ k = 9 ∨ k = 10 ∨ k = 11 ∨ k = 12 ∨ k = 13 ∨ k = 14 ∨ k = 15 ∨ k = 16 ∨ k = 17 ∨ k = 18) with e1 | e1 | e1 | e1 | e1 | e1 | e1 | e1 | e1 | e1 | e1 | e1 | e1 | e1 | e1 | e1 | e1 | e1 | e1 <;> subst e1 <;> simp [vcs, vc, xi_u2, rw0]
  · rw [if_neg h]
    simp [vcs, vc, xi_u2, h]

set_option maxRecDepth 100000 in
theorem ship_n (d : Nat) {w : xWd} {S : xSt} {V : xVt} {ρ : Nat → Nat → Int64} {a b c e g : Int32} {n : Nat} (hn : V.1 165 1 = nI n) (hn2 : n < 20) (hf : xi_cp .ne (V.1 165 1) 20) : xc d 117 [.ref 165, .int a, .int b, .int c, .int e, .int g] (hv w S V ρ) (.inl none, hv w S (vc (vx V 165 1 (V.1 165 1 + 1)) (pushC V.2.2.1 n (rw0 a b c e g V.2.2.2))) ρ) := by
  have e9 := ship_gl V n a b c e g (V.1 165 1 + 1)
  rw [show hv w S (vc (vx V 165 1 (V.1 165 1 + 1)) (pushC V.2.2.1 n (rw0 a b c e g V.2.2.2))) ρ = hz w S (gl (vc (vx V 165 1 (V.1 165 1 + 1)) (pushC V.2.2.1 n (rw0 a b c e g V.2.2.2)))) ρ from rfl, ← e9]
  refine xe_sn pg_117 1 (fr' := (1, [(0, .ref 165), (1, .int a), (2, .int b), (3, .int c), (4, .int e), (5, .int g)], [.ref 165])) rfl ?_
  refine ze_gi pg_117 (V.1 165 1) rfl rfl rfl rfl ?_
  refine xe_sn pg_117 1 (fr' := (6, [(0, .ref 165), (1, .int a), (2, .int b), (3, .int c), (4, .int e), (5, .int g)], [.int 20, .int (V.1 165 1)])) rfl ?_
  refine xe_c2t pg_117 20 rfl rfl hf ?_
  refine xe_sn pg_117 2 (fr' := (23, [(0, .ref 165), (1, .int a), (2, .int b), (3, .int c), (4, .int e), (5, .int g)], [.ref 165, .int 19])) rfl ?_
  refine ze_gi pg_117 (V.1 165 1) rfl rfl rfl rfl ?_
  refine xe_eq _ (nI n) hn ?_
  refine xe_nm pg_117 19 n (19 * n) rfl (by omega) ?_
  refine xe_sn pg_117 5 (fr' := (36, [(6, .int (nI (19 * n))), (0, .ref 165), (1, .int a), (2, .int b), (3, .int c), (4, .int e), (5, .int g)], [.int a, .int (nI (19 * n)), .ref 166])) rfl ?_
  refine ze_sc pg_117 n 0 rfl (bn (by omega) (by decide)) (bc (n := 380) (by omega) (by decide)) (by omega) (by decide) ?_
  refine xe_sn pg_117 4 (fr' := (44, [(6, .int (nI (19 * n))), (0, .ref 165), (1, .int a), (2, .int b), (3, .int c), (4, .int e), (5, .int g)], [.int 1, .int (nI (19 * n)), .ref 166])) rfl ?_
  refine xe_na pg_117 (19 * n) 1 (19 * n + 1) rfl (by omega) ?_
  refine xe_sn pg_117 1 (fr' := (46, [(6, .int (nI (19 * n))), (0, .ref 165), (1, .int a), (2, .int b), (3, .int c), (4, .int e), (5, .int g)], [.int b, .int (nI (19 * n + 1)), .ref 166])) rfl ?_
  refine ze_sc pg_117 n 1 rfl (bn (by omega) (by decide)) (bc (n := 380) (by omega) (by decide)) (by omega) (by decide) ?_
  refine xe_sn pg_117 4 (fr' := (54, [(6, .int (nI (19 * n))), (0, .ref 165), (1, .int a), (2, .int b), (3, .int c), (4, .int e), (5, .int g)], [.int 2, .int (nI (19 * n)), .ref 166])) rfl ?_
  refine xe_na pg_117 (19 * n) 2 (19 * n + 2) rfl (by omega) ?_
  refine xe_sn pg_117 1 (fr' := (56, [(6, .int (nI (19 * n))), (0, .ref 165), (1, .int a), (2, .int b), (3, .int c), (4, .int e), (5, .int g)], [.int c, .int (nI (19 * n + 2)), .ref 166])) rfl ?_
  refine ze_sc pg_117 n 2 rfl (bn (by omega) (by decide)) (bc (n := 380) (by omega) (by decide)) (by omega) (by decide) ?_
  refine xe_sn pg_117 4 (fr' := (64, [(6, .int (nI (19 * n))), (0, .ref 165), (1, .int a), (2, .int b), (3, .int c), (4, .int e), (5, .int g)], [.int 3, .int (nI (19 * n)), .ref 166])) rfl ?_
  refine xe_na pg_117 (19 * n) 3 (19 * n + 3) rfl (by omega) ?_
  refine xe_sn pg_117 1 (fr' := (67, [(6, .int (nI (19 * n))), (0, .ref 165), (1, .int a), (2, .int b), (3, .int c), (4, .int e), (5, .int g)], [.int e, .int (nI (19 * n + 3)), .ref 166])) rfl ?_
  refine ze_sc pg_117 n 3 rfl (bn (by omega) (by decide)) (bc (n := 380) (by omega) (by decide)) (by omega) (by decide) ?_
  refine xe_sn pg_117 9 (fr' := (85, [(7, .int 0), (6, .int (nI (19 * n))), (0, .ref 165), (1, .int a), (2, .int b), (3, .int c), (4, .int e), (5, .int g)], [.int 4, .int (nI (19 * n)), .ref 166])) rfl ?_
  refine xe_na pg_117 (19 * n) 4 (19 * n + 4) rfl (by omega) ?_
  refine xe_sn pg_117 1 (fr' := (88, [(7, .int 0), (6, .int (nI (19 * n))), (0, .ref 165), (1, .int a), (2, .int b), (3, .int c), (4, .int e), (5, .int g)], [.int 0, .int (nI (19 * n + 4)), .ref 166])) rfl ?_
  refine xe_na pg_117 (19 * n + 4) 0 (19 * n + 4) rfl (by omega) ?_
  refine xe_sn pg_117 3 (fr' := (95, [(7, .int 0), (6, .int (nI (19 * n))), (0, .ref 165), (1, .int a), (2, .int b), (3, .int c), (4, .int e), (5, .int g)], [.int 0, .ref 187, .int (nI (19 * n + 4)), .ref 166])) rfl ?_
  refine ze_ib pg_117 0 (V.2.2.2 0) rfl (by decide) ⟨by decide, by decide⟩ rfl rfl ?_
  refine ze_sc pg_117 n 4 rfl (bn (by omega) (by decide)) (bc (n := 380) (by omega) (by decide)) (by omega) (by decide) ?_
  refine xe_sn pg_117 2 (fr' := (71, [(7, .int 1), (6, .int (nI (19 * n))), (0, .ref 165), (1, .int a), (2, .int b), (3, .int c), (4, .int e), (5, .int g)], [])) rfl ?_
  refine xe_sn pg_117 7 (fr' := (85, [(7, .int 1), (6, .int (nI (19 * n))), (0, .ref 165), (1, .int a), (2, .int b), (3, .int c), (4, .int e), (5, .int g)], [.int 4, .int (nI (19 * n)), .ref 166])) rfl ?_
  refine xe_na pg_117 (19 * n) 4 (19 * n + 4) rfl (by omega) ?_
  refine xe_sn pg_117 1 (fr' := (88, [(7, .int 1), (6, .int (nI (19 * n))), (0, .ref 165), (1, .int a), (2, .int b), (3, .int c), (4, .int e), (5, .int g)], [.int 1, .int (nI (19 * n + 4)), .ref 166])) rfl ?_
  refine xe_na pg_117 (19 * n + 4) 1 (19 * n + 5) rfl (by omega) ?_
  refine xe_sn pg_117 3 (fr' := (95, [(7, .int 1), (6, .int (nI (19 * n))), (0, .ref 165), (1, .int a), (2, .int b), (3, .int c), (4, .int e), (5, .int g)], [.int 1, .ref 187, .int (nI (19 * n + 5)), .ref 166])) rfl ?_
  refine ze_ib pg_117 1 (V.2.2.2 1) rfl (by decide) ⟨by decide, by decide⟩ rfl rfl ?_
  refine ze_sc pg_117 n 5 rfl (bn (by omega) (by decide)) (bc (n := 380) (by omega) (by decide)) (by omega) (by decide) ?_
  refine xe_sn pg_117 2 (fr' := (71, [(7, .int 2), (6, .int (nI (19 * n))), (0, .ref 165), (1, .int a), (2, .int b), (3, .int c), (4, .int e), (5, .int g)], [])) rfl ?_
  refine xe_sn pg_117 7 (fr' := (85, [(7, .int 2), (6, .int (nI (19 * n))), (0, .ref 165), (1, .int a), (2, .int b), (3, .int c), (4, .int e), (5, .int g)], [.int 4, .int (nI (19 * n)), .ref 166])) rfl ?_
  refine xe_na pg_117 (19 * n) 4 (19 * n + 4) rfl (by omega) ?_
  refine xe_sn pg_117 1 (fr' := (88, [(7, .int 2), (6, .int (nI (19 * n))), (0, .ref 165), (1, .int a), (2, .int b), (3, .int c), (4, .int e), (5, .int g)], [.int 2, .int (nI (19 * n + 4)), .ref 166])) rfl ?_
  refine xe_na pg_117 (19 * n + 4) 2 (19 * n + 6) rfl (by omega) ?_
  refine xe_sn pg_117 3 (fr' := (95, [(7, .int 2), (6, .int (nI (19 * n))), (0, .ref 165), (1, .int a), (2, .int b), (3, .int c), (4, .int e), (5, .int g)], [.int 2, .ref 187, .int (nI (19 * n + 6)), .ref 166])) rfl ?_
  refine ze_ib pg_117 2 (V.2.2.2 2) rfl (by decide) ⟨by decide, by decide⟩ rfl rfl ?_
  refine ze_sc pg_117 n 6 rfl (bn (by omega) (by decide)) (bc (n := 380) (by omega) (by decide)) (by omega) (by decide) ?_
  refine xe_sn pg_117 2 (fr' := (71, [(7, .int 3), (6, .int (nI (19 * n))), (0, .ref 165), (1, .int a), (2, .int b), (3, .int c), (4, .int e), (5, .int g)], [])) rfl ?_
  refine xe_sn pg_117 7 (fr' := (85, [(7, .int 3), (6, .int (nI (19 * n))), (0, .ref 165), (1, .int a), (2, .int b), (3, .int c), (4, .int e), (5, .int g)], [.int 4, .int (nI (19 * n)), .ref 166])) rfl ?_
  refine xe_na pg_117 (19 * n) 4 (19 * n + 4) rfl (by omega) ?_
  refine xe_sn pg_117 1 (fr' := (88, [(7, .int 3), (6, .int (nI (19 * n))), (0, .ref 165), (1, .int a), (2, .int b), (3, .int c), (4, .int e), (5, .int g)], [.int 3, .int (nI (19 * n + 4)), .ref 166])) rfl ?_
  refine xe_na pg_117 (19 * n + 4) 3 (19 * n + 7) rfl (by omega) ?_
  refine xe_sn pg_117 3 (fr' := (95, [(7, .int 3), (6, .int (nI (19 * n))), (0, .ref 165), (1, .int a), (2, .int b), (3, .int c), (4, .int e), (5, .int g)], [.int 3, .ref 187, .int (nI (19 * n + 7)), .ref 166])) rfl ?_
  refine ze_ib pg_117 3 (V.2.2.2 3) rfl (by decide) ⟨by decide, by decide⟩ rfl rfl ?_
  refine ze_sc pg_117 n 7 rfl (bn (by omega) (by decide)) (bc (n := 380) (by omega) (by decide)) (by omega) (by decide) ?_
  refine xe_sn pg_117 2 (fr' := (71, [(7, .int 4), (6, .int (nI (19 * n))), (0, .ref 165), (1, .int a), (2, .int b), (3, .int c), (4, .int e), (5, .int g)], [])) rfl ?_
  refine xe_sn pg_117 7 (fr' := (85, [(7, .int 4), (6, .int (nI (19 * n))), (0, .ref 165), (1, .int a), (2, .int b), (3, .int c), (4, .int e), (5, .int g)], [.int 4, .int (nI (19 * n)), .ref 166])) rfl ?_
  refine xe_na pg_117 (19 * n) 4 (19 * n + 4) rfl (by omega) ?_
  refine xe_sn pg_117 1 (fr' := (88, [(7, .int 4), (6, .int (nI (19 * n))), (0, .ref 165), (1, .int a), (2, .int b), (3, .int c), (4, .int e), (5, .int g)], [.int 4, .int (nI (19 * n + 4)), .ref 166])) rfl ?_
  refine xe_na pg_117 (19 * n + 4) 4 (19 * n + 8) rfl (by omega) ?_
  refine xe_sn pg_117 3 (fr' := (95, [(7, .int 4), (6, .int (nI (19 * n))), (0, .ref 165), (1, .int a), (2, .int b), (3, .int c), (4, .int e), (5, .int g)], [.int 4, .ref 187, .int (nI (19 * n + 8)), .ref 166])) rfl ?_
  refine ze_ib pg_117 4 (V.2.2.2 4) rfl (by decide) ⟨by decide, by decide⟩ rfl rfl ?_
  refine ze_sc pg_117 n 8 rfl (bn (by omega) (by decide)) (bc (n := 380) (by omega) (by decide)) (by omega) (by decide) ?_
  refine xe_sn pg_117 2 (fr' := (71, [(7, .int 5), (6, .int (nI (19 * n))), (0, .ref 165), (1, .int a), (2, .int b), (3, .int c), (4, .int e), (5, .int g)], [])) rfl ?_
  refine xe_sn pg_117 7 (fr' := (85, [(7, .int 5), (6, .int (nI (19 * n))), (0, .ref 165), (1, .int a), (2, .int b), (3, .int c), (4, .int e), (5, .int g)], [.int 4, .int (nI (19 * n)), .ref 166])) rfl ?_
  refine xe_na pg_117 (19 * n) 4 (19 * n + 4) rfl (by omega) ?_
  refine xe_sn pg_117 1 (fr' := (88, [(7, .int 5), (6, .int (nI (19 * n))), (0, .ref 165), (1, .int a), (2, .int b), (3, .int c), (4, .int e), (5, .int g)], [.int 5, .int (nI (19 * n + 4)), .ref 166])) rfl ?_
  refine xe_na pg_117 (19 * n + 4) 5 (19 * n + 9) rfl (by omega) ?_
  refine xe_sn pg_117 3 (fr' := (95, [(7, .int 5), (6, .int (nI (19 * n))), (0, .ref 165), (1, .int a), (2, .int b), (3, .int c), (4, .int e), (5, .int g)], [.int 5, .ref 187, .int (nI (19 * n + 9)), .ref 166])) rfl ?_
  refine ze_ib pg_117 5 (V.2.2.2 5) rfl (by decide) ⟨by decide, by decide⟩ rfl rfl ?_
  refine ze_sc pg_117 n 9 rfl (bn (by omega) (by decide)) (bc (n := 380) (by omega) (by decide)) (by omega) (by decide) ?_
  refine xe_sn pg_117 2 (fr' := (71, [(7, .int 6), (6, .int (nI (19 * n))), (0, .ref 165), (1, .int a), (2, .int b), (3, .int c), (4, .int e), (5, .int g)], [])) rfl ?_
  refine xe_sn pg_117 7 (fr' := (85, [(7, .int 6), (6, .int (nI (19 * n))), (0, .ref 165), (1, .int a), (2, .int b), (3, .int c), (4, .int e), (5, .int g)], [.int 4, .int (nI (19 * n)), .ref 166])) rfl ?_
  refine xe_na pg_117 (19 * n) 4 (19 * n + 4) rfl (by omega) ?_
  refine xe_sn pg_117 1 (fr' := (88, [(7, .int 6), (6, .int (nI (19 * n))), (0, .ref 165), (1, .int a), (2, .int b), (3, .int c), (4, .int e), (5, .int g)], [.int 6, .int (nI (19 * n + 4)), .ref 166])) rfl ?_
  refine xe_na pg_117 (19 * n + 4) 6 (19 * n + 10) rfl (by omega) ?_
  refine xe_sn pg_117 3 (fr' := (95, [(7, .int 6), (6, .int (nI (19 * n))), (0, .ref 165), (1, .int a), (2, .int b), (3, .int c), (4, .int e), (5, .int g)], [.int 6, .ref 187, .int (nI (19 * n + 10)), .ref 166])) rfl ?_
  refine ze_ib pg_117 6 (V.2.2.2 6) rfl (by decide) ⟨by decide, by decide⟩ rfl rfl ?_
  refine ze_sc pg_117 n 10 rfl (bn (by omega) (by decide)) (bc (n := 380) (by omega) (by decide)) (by omega) (by decide) ?_
  refine xe_sn pg_117 2 (fr' := (71, [(7, .int 7), (6, .int (nI (19 * n))), (0, .ref 165), (1, .int a), (2, .int b), (3, .int c), (4, .int e), (5, .int g)], [])) rfl ?_
  refine xe_sn pg_117 7 (fr' := (85, [(7, .int 7), (6, .int (nI (19 * n))), (0, .ref 165), (1, .int a), (2, .int b), (3, .int c), (4, .int e), (5, .int g)], [.int 4, .int (nI (19 * n)), .ref 166])) rfl ?_
  refine xe_na pg_117 (19 * n) 4 (19 * n + 4) rfl (by omega) ?_
  refine xe_sn pg_117 1 (fr' := (88, [(7, .int 7), (6, .int (nI (19 * n))), (0, .ref 165), (1, .int a), (2, .int b), (3, .int c), (4, .int e), (5, .int g)], [.int 7, .int (nI (19 * n + 4)), .ref 166])) rfl ?_
  refine xe_na pg_117 (19 * n + 4) 7 (19 * n + 11) rfl (by omega) ?_
  refine xe_sn pg_117 3 (fr' := (95, [(7, .int 7), (6, .int (nI (19 * n))), (0, .ref 165), (1, .int a), (2, .int b), (3, .int c), (4, .int e), (5, .int g)], [.int 7, .ref 187, .int (nI (19 * n + 11)), .ref 166])) rfl ?_
  refine ze_ib pg_117 7 (V.2.2.2 7) rfl (by decide) ⟨by decide, by decide⟩ rfl rfl ?_
  refine ze_sc pg_117 n 11 rfl (bn (by omega) (by decide)) (bc (n := 380) (by omega) (by decide)) (by omega) (by decide) ?_
  refine xe_sn pg_117 2 (fr' := (71, [(7, .int 8), (6, .int (nI (19 * n))), (0, .ref 165), (1, .int a), (2, .int b), (3, .int c), (4, .int e), (5, .int g)], [])) rfl ?_
  refine xe_sn pg_117 7 (fr' := (85, [(7, .int 8), (6, .int (nI (19 * n))), (0, .ref 165), (1, .int a), (2, .int b), (3, .int c), (4, .int e), (5, .int g)], [.int 4, .int (nI (19 * n)), .ref 166])) rfl ?_
  refine xe_na pg_117 (19 * n) 4 (19 * n + 4) rfl (by omega) ?_
  refine xe_sn pg_117 1 (fr' := (88, [(7, .int 8), (6, .int (nI (19 * n))), (0, .ref 165), (1, .int a), (2, .int b), (3, .int c), (4, .int e), (5, .int g)], [.int 8, .int (nI (19 * n + 4)), .ref 166])) rfl ?_
  refine xe_na pg_117 (19 * n + 4) 8 (19 * n + 12) rfl (by omega) ?_
  refine xe_sn pg_117 3 (fr' := (95, [(7, .int 8), (6, .int (nI (19 * n))), (0, .ref 165), (1, .int a), (2, .int b), (3, .int c), (4, .int e), (5, .int g)], [.int 8, .ref 187, .int (nI (19 * n + 12)), .ref 166])) rfl ?_
  refine ze_ib pg_117 8 (V.2.2.2 8) rfl (by decide) ⟨by decide, by decide⟩ rfl rfl ?_
  refine ze_sc pg_117 n 12 rfl (bn (by omega) (by decide)) (bc (n := 380) (by omega) (by decide)) (by omega) (by decide) ?_
  refine xe_sn pg_117 2 (fr' := (71, [(7, .int 9), (6, .int (nI (19 * n))), (0, .ref 165), (1, .int a), (2, .int b), (3, .int c), (4, .int e), (5, .int g)], [])) rfl ?_
  refine xe_sn pg_117 7 (fr' := (85, [(7, .int 9), (6, .int (nI (19 * n))), (0, .ref 165), (1, .int a), (2, .int b), (3, .int c), (4, .int e), (5, .int g)], [.int 4, .int (nI (19 * n)), .ref 166])) rfl ?_
  refine xe_na pg_117 (19 * n) 4 (19 * n + 4) rfl (by omega) ?_
  refine xe_sn pg_117 1 (fr' := (88, [(7, .int 9), (6, .int (nI (19 * n))), (0, .ref 165), (1, .int a), (2, .int b), (3, .int c), (4, .int e), (5, .int g)], [.int 9, .int (nI (19 * n + 4)), .ref 166])) rfl ?_
  refine xe_na pg_117 (19 * n + 4) 9 (19 * n + 13) rfl (by omega) ?_
  refine xe_sn pg_117 3 (fr' := (95, [(7, .int 9), (6, .int (nI (19 * n))), (0, .ref 165), (1, .int a), (2, .int b), (3, .int c), (4, .int e), (5, .int g)], [.int 9, .ref 187, .int (nI (19 * n + 13)), .ref 166])) rfl ?_
  refine ze_ib pg_117 9 (V.2.2.2 9) rfl (by decide) ⟨by decide, by decide⟩ rfl rfl ?_
  refine ze_sc pg_117 n 13 rfl (bn (by omega) (by decide)) (bc (n := 380) (by omega) (by decide)) (by omega) (by decide) ?_
  refine xe_sn pg_117 2 (fr' := (71, [(7, .int 10), (6, .int (nI (19 * n))), (0, .ref 165), (1, .int a), (2, .int b), (3, .int c), (4, .int e), (5, .int g)], [])) rfl ?_
  refine xe_sn pg_117 7 (fr' := (85, [(7, .int 10), (6, .int (nI (19 * n))), (0, .ref 165), (1, .int a), (2, .int b), (3, .int c), (4, .int e), (5, .int g)], [.int 4, .int (nI (19 * n)), .ref 166])) rfl ?_
  refine xe_na pg_117 (19 * n) 4 (19 * n + 4) rfl (by omega) ?_
  refine xe_sn pg_117 1 (fr' := (88, [(7, .int 10), (6, .int (nI (19 * n))), (0, .ref 165), (1, .int a), (2, .int b), (3, .int c), (4, .int e), (5, .int g)], [.int 10, .int (nI (19 * n + 4)), .ref 166])) rfl ?_
  refine xe_na pg_117 (19 * n + 4) 10 (19 * n + 14) rfl (by omega) ?_
  refine xe_sn pg_117 3 (fr' := (95, [(7, .int 10), (6, .int (nI (19 * n))), (0, .ref 165), (1, .int a), (2, .int b), (3, .int c), (4, .int e), (5, .int g)], [.int 10, .ref 187, .int (nI (19 * n + 14)), .ref 166])) rfl ?_
  refine ze_ib pg_117 10 (V.2.2.2 10) rfl (by decide) ⟨by decide, by decide⟩ rfl rfl ?_
  refine ze_sc pg_117 n 14 rfl (bn (by omega) (by decide)) (bc (n := 380) (by omega) (by decide)) (by omega) (by decide) ?_
  refine xe_sn pg_117 2 (fr' := (71, [(7, .int 11), (6, .int (nI (19 * n))), (0, .ref 165), (1, .int a), (2, .int b), (3, .int c), (4, .int e), (5, .int g)], [])) rfl ?_
  refine xe_sn pg_117 7 (fr' := (85, [(7, .int 11), (6, .int (nI (19 * n))), (0, .ref 165), (1, .int a), (2, .int b), (3, .int c), (4, .int e), (5, .int g)], [.int 4, .int (nI (19 * n)), .ref 166])) rfl ?_
  refine xe_na pg_117 (19 * n) 4 (19 * n + 4) rfl (by omega) ?_
  refine xe_sn pg_117 1 (fr' := (88, [(7, .int 11), (6, .int (nI (19 * n))), (0, .ref 165), (1, .int a), (2, .int b), (3, .int c), (4, .int e), (5, .int g)], [.int 11, .int (nI (19 * n + 4)), .ref 166])) rfl ?_
  refine xe_na pg_117 (19 * n + 4) 11 (19 * n + 15) rfl (by omega) ?_
  refine xe_sn pg_117 3 (fr' := (95, [(7, .int 11), (6, .int (nI (19 * n))), (0, .ref 165), (1, .int a), (2, .int b), (3, .int c), (4, .int e), (5, .int g)], [.int 11, .ref 187, .int (nI (19 * n + 15)), .ref 166])) rfl ?_
  refine ze_ib pg_117 11 (V.2.2.2 11) rfl (by decide) ⟨by decide, by decide⟩ rfl rfl ?_
  refine ze_sc pg_117 n 15 rfl (bn (by omega) (by decide)) (bc (n := 380) (by omega) (by decide)) (by omega) (by decide) ?_
  refine xe_sn pg_117 2 (fr' := (71, [(7, .int 12), (6, .int (nI (19 * n))), (0, .ref 165), (1, .int a), (2, .int b), (3, .int c), (4, .int e), (5, .int g)], [])) rfl ?_
  refine xe_sn pg_117 7 (fr' := (85, [(7, .int 12), (6, .int (nI (19 * n))), (0, .ref 165), (1, .int a), (2, .int b), (3, .int c), (4, .int e), (5, .int g)], [.int 4, .int (nI (19 * n)), .ref 166])) rfl ?_
  refine xe_na pg_117 (19 * n) 4 (19 * n + 4) rfl (by omega) ?_
  refine xe_sn pg_117 1 (fr' := (88, [(7, .int 12), (6, .int (nI (19 * n))), (0, .ref 165), (1, .int a), (2, .int b), (3, .int c), (4, .int e), (5, .int g)], [.int 12, .int (nI (19 * n + 4)), .ref 166])) rfl ?_
  refine xe_na pg_117 (19 * n + 4) 12 (19 * n + 16) rfl (by omega) ?_
  refine xe_sn pg_117 3 (fr' := (95, [(7, .int 12), (6, .int (nI (19 * n))), (0, .ref 165), (1, .int a), (2, .int b), (3, .int c), (4, .int e), (5, .int g)], [.int 12, .ref 187, .int (nI (19 * n + 16)), .ref 166])) rfl ?_
  refine ze_ib pg_117 12 (V.2.2.2 12) rfl (by decide) ⟨by decide, by decide⟩ rfl rfl ?_
  refine ze_sc pg_117 n 16 rfl (bn (by omega) (by decide)) (bc (n := 380) (by omega) (by decide)) (by omega) (by decide) ?_
  refine xe_sn pg_117 2 (fr' := (71, [(7, .int 13), (6, .int (nI (19 * n))), (0, .ref 165), (1, .int a), (2, .int b), (3, .int c), (4, .int e), (5, .int g)], [])) rfl ?_
  refine xe_sn pg_117 7 (fr' := (85, [(7, .int 13), (6, .int (nI (19 * n))), (0, .ref 165), (1, .int a), (2, .int b), (3, .int c), (4, .int e), (5, .int g)], [.int 4, .int (nI (19 * n)), .ref 166])) rfl ?_
  refine xe_na pg_117 (19 * n) 4 (19 * n + 4) rfl (by omega) ?_
  refine xe_sn pg_117 1 (fr' := (88, [(7, .int 13), (6, .int (nI (19 * n))), (0, .ref 165), (1, .int a), (2, .int b), (3, .int c), (4, .int e), (5, .int g)], [.int 13, .int (nI (19 * n + 4)), .ref 166])) rfl ?_
  refine xe_na pg_117 (19 * n + 4) 13 (19 * n + 17) rfl (by omega) ?_
  refine xe_sn pg_117 3 (fr' := (95, [(7, .int 13), (6, .int (nI (19 * n))), (0, .ref 165), (1, .int a), (2, .int b), (3, .int c), (4, .int e), (5, .int g)], [.int 13, .ref 187, .int (nI (19 * n + 17)), .ref 166])) rfl ?_
  refine ze_ib pg_117 13 (V.2.2.2 13) rfl (by decide) ⟨by decide, by decide⟩ rfl rfl ?_
  refine ze_sc pg_117 n 17 rfl (bn (by omega) (by decide)) (bc (n := 380) (by omega) (by decide)) (by omega) (by decide) ?_
  refine xe_sn pg_117 2 (fr' := (71, [(7, .int 14), (6, .int (nI (19 * n))), (0, .ref 165), (1, .int a), (2, .int b), (3, .int c), (4, .int e), (5, .int g)], [])) rfl ?_
  refine xe_sn pg_117 7 (fr' := (111, [(7, .int 14), (6, .int (nI (19 * n))), (0, .ref 165), (1, .int a), (2, .int b), (3, .int c), (4, .int e), (5, .int g)], [.int 18, .int (nI (19 * n)), .ref 166])) rfl ?_
  refine xe_na pg_117 (19 * n) 18 (19 * n + 18) rfl (by omega) ?_
  refine xe_sn pg_117 1 (fr' := (114, [(7, .int 14), (6, .int (nI (19 * n))), (0, .ref 165), (1, .int a), (2, .int b), (3, .int c), (4, .int e), (5, .int g)], [.int g, .int (nI (19 * n + 18)), .ref 166])) rfl ?_
  refine ze_sc pg_117 n 18 rfl (bn (by omega) (by decide)) (bc (n := 380) (by omega) (by decide)) (by omega) (by decide) ?_
  refine xe_sn pg_117 2 (fr' := (117, [(7, .int 14), (6, .int (nI (19 * n))), (0, .ref 165), (1, .int a), (2, .int b), (3, .int c), (4, .int e), (5, .int g)], [.ref 165, .ref 165])) rfl ?_
  refine ze_gi pg_117 (V.1 165 1) rfl rfl rfl rfl ?_
  refine xe_sn pg_117 2 (fr' := (122, [(7, .int 14), (6, .int (nI (19 * n))), (0, .ref 165), (1, .int a), (2, .int b), (3, .int c), (4, .int e), (5, .int g)], [.int ((V.1 165 1) + 1), .ref 165])) rfl ?_
  refine ze_px pg_117 rfl rfl ⟨rfl, rfl⟩ (Or.inl rfl) (by decide) ?_
  exact xe_end pg_117 rfl

set_option maxRecDepth 100000 in
theorem cg_ship (d : Nat) {w : xWd} {S : xSt} {V : xVt} {ρ : Nat → Nat → Int64} {a : Int32} {b : Int32} {c : Int32} {e : Int32} {g : Int32} {r : xVt} (hE : (g_ship V a b c e g) = some r) : xc (d) 117 [.ref 165, .int a, .int b, .int c, .int e, .int g] (hv w S V ρ) (.inl (none), hv w S r ρ) := by
  unfold g_ship at hE
  by_cases hf : V.1 165 1 = 20
  · rw [if_pos hf] at hE
    cases hE
    refine xe_sn pg_117 1 (fr' := (1, [(0, .ref 165), (1, .int a), (2, .int b), (3, .int c), (4, .int e), (5, .int g)], [.ref 165])) rfl ?_
    refine ze_gi pg_117 (V.1 165 1) rfl rfl rfl rfl ?_
    refine xe_sn pg_117 1 (fr' := (6, [(0, .ref 165), (1, .int a), (2, .int b), (3, .int c), (4, .int e), (5, .int g)], [.int 20, .int (V.1 165 1)])) rfl ?_
    refine xe_c2f pg_117 20 rfl rfl (fun z => z hf) ?_
    refine xe_sn pg_117 2 (fr' := (11, [(0, .ref 165), (1, .int a), (2, .int b), (3, .int c), (4, .int e), (5, .int g)], [.ref 165, .ref 165])) rfl ?_
    refine ze_gi pg_117 (V.1 165 4) rfl rfl rfl rfl ?_
    refine xe_sn pg_117 2 (fr' := (16, [(0, .ref 165), (1, .int a), (2, .int b), (3, .int c), (4, .int e), (5, .int g)], [.int ((V.1 165 4) + 1), .ref 165])) rfl ?_
    refine ze_px pg_117 rfl rfl ⟨rfl, rfl⟩ (Or.inl rfl) (by decide) ?_
    exact xe_end pg_117 rfl
  · rw [if_neg hf] at hE
    by_cases hb : bnd (V.1 165 1) 20
    · rw [if_pos hb] at hE
      cases hE
      exact ship_n d (nI_bnd hb (by omega)) (bnd_lt hb) hf
    · rw [if_neg hb] at hE
      cases hE

def g_in (v : Int32) (l : Int32) (h : Int32) : Int32 := (if v < l then (0 : Int32) else (if h < v then (0 : Int32) else 1))
set_option maxRecDepth 100000 in
theorem cg_in (d : Nat) {w : xWd} {S : xSt} {V : xVt} {ρ : Nat → Nat → Int64} {v : Int32} {l : Int32} {h : Int32} {r : Int32} (hE : (g_in v l h) = r) : xc (d) 103 [.int v, .int l, .int h] (hv w S V ρ) (.inl (some (.int r)), hv w S V ρ) := by
  unfold g_in at hE
  refine xe_sn pg_103 2 (fr' := (2, [(0, .int v), (1, .int l), (2, .int h)], [.int l, .int v])) rfl ?_
  refine xe_jn (fr' := (15, [(0, .int v), (1, .int l), (2, .int h)], [.int (if v < l then (0 : Int32) else (if h < v then (0 : Int32) else 1))])) (fun J1 => ?_) ?_
  · by_cases h1 : v < l
    · rw [show (if v < l then (0 : Int32) else (if h < v then (0 : Int32) else 1)) = 0 from if_pos h1] at J1
      refine xe_c2t pg_103 14 rfl rfl h1 ?_
      refine xe_sn pg_103 1 (fr' := (15, [(0, .int v), (1, .int l), (2, .int h)], [.int 0])) rfl ?_
      exact J1
    · rw [show (if v < l then (0 : Int32) else (if h < v then (0 : Int32) else 1)) = (if h < v then (0 : Int32) else 1) from if_neg h1] at J1
      refine xe_c2f pg_103 14 rfl rfl h1 ?_
      refine xe_sn pg_103 2 (fr' := (7, [(0, .int v), (1, .int l), (2, .int h)], [.int h, .int v])) rfl ?_
      refine xe_jn (fr' := (15, [(0, .int v), (1, .int l), (2, .int h)], [.int (if h < v then (0 : Int32) else 1)])) (fun J2 => ?_) ?_
      · by_cases h2 : h < v
        · rw [show (if h < v then (0 : Int32) else 1) = 0 from if_pos h2] at J2
          refine xe_c2t pg_103 14 rfl rfl h2 ?_
          refine xe_sn pg_103 1 (fr' := (15, [(0, .int v), (1, .int l), (2, .int h)], [.int 0])) rfl ?_
          exact J2
        · rw [show (if h < v then (0 : Int32) else 1) = 1 from if_neg h2] at J2
          refine xe_c2f pg_103 14 rfl rfl h2 ?_
          refine xe_sn pg_103 2 (fr' := (15, [(0, .int v), (1, .int l), (2, .int h)], [.int 1])) rfl ?_
          exact J2
      exact J1
  subst hE
  exact xe_rb pg_103 rfl rfl (ite_b (Or.inl rfl) (ite_b (Or.inl rfl) (Or.inr rfl)))
theorem bg_in {v : Int32} {l : Int32} {h : Int32} {r : Int32} (hE : (g_in v l h) = r) : r = 0 ∨ r = 1 := by
  unfold g_in at hE
  subst hE
  exact (ite_b (Or.inl rfl) (ite_b (Or.inl rfl) (Or.inr rfl)))

def g_isCircuit (v : Int32) : Int32 := (g_in v 0 3)
set_option maxRecDepth 100000 in
theorem cg_isCircuit (d : Nat) {w : xWd} {S : xSt} {V : xVt} {ρ : Nat → Nat → Int64} {v : Int32} {r : Int32} (hE : (g_isCircuit v) = r) : xc (d + 1) 104 [.int v] (hv w S V ρ) (.inl (some (.int r)), hv w S V ρ) := by
  unfold g_isCircuit at hE
  refine xe_sn pg_104 3 (fr' := (3, [(0, .int v)], [.int 3, .int 0, .int v])) rfl ?_
  refine xe_callq pg_104 103 [.int v, .int 0, .int 3] (.inl (some (.int (g_in v 0 3)))) (6, [(0, .int v)], [.int (g_in v 0 3)]) rfl (fun _ => rfl) (cg_in _ (v := v) (l := 0) (h := 3)  rfl) ?_
  subst hE
  exact xe_rb pg_104 rfl rfl (bg_in rfl)
theorem bg_isCircuit {v : Int32} {r : Int32} (hE : (g_isCircuit v) = r) : r = 0 ∨ r = 1 := by
  unfold g_isCircuit at hE
  subst hE
  exact (bg_in rfl)

def g_isRelay (v : Int32) : Int32 := (g_in v 1 4)
set_option maxRecDepth 100000 in
theorem cg_isRelay (d : Nat) {w : xWd} {S : xSt} {V : xVt} {ρ : Nat → Nat → Int64} {v : Int32} {r : Int32} (hE : (g_isRelay v) = r) : xc (d + 1) 105 [.int v] (hv w S V ρ) (.inl (some (.int r)), hv w S V ρ) := by
  unfold g_isRelay at hE
  refine xe_sn pg_105 3 (fr' := (3, [(0, .int v)], [.int 4, .int 1, .int v])) rfl ?_
  refine xe_callq pg_105 103 [.int v, .int 1, .int 4] (.inl (some (.int (g_in v 1 4)))) (6, [(0, .int v)], [.int (g_in v 1 4)]) rfl (fun _ => rfl) (cg_in _ (v := v) (l := 1) (h := 4)  rfl) ?_
  subst hE
  exact xe_rb pg_105 rfl rfl (bg_in rfl)
theorem bg_isRelay {v : Int32} {r : Int32} (hE : (g_isRelay v) = r) : r = 0 ∨ r = 1 := by
  unfold g_isRelay at hE
  subst hE
  exact (bg_in rfl)

def g_mix (x : Int32) (y : Int32) : Int32 := (((x ^^^ y) * 16777619) ^^^ (ushr ((x ^^^ y) * 16777619) 15))
set_option maxRecDepth 100000 in
theorem cg_mix (d : Nat) {w : xWd} {S : xSt} {V : xVt} {ρ : Nat → Nat → Int64} {x : Int32} {y : Int32} {r : Int32} (hE : (g_mix x y) = r) : xc (d) 107 [.int x, .int y] (hv w S V ρ) (.inl (some (.int r)), hv w S V ρ) := by
  unfold g_mix at hE
  refine xe_sn pg_107 10 (fr' := (12, [(2, .int ((x ^^^ y) * 16777619)), (0, .int x), (1, .int y)], [.int (ushr ((x ^^^ y) * 16777619) 15), .int ((x ^^^ y) * 16777619)])) rfl ?_
  refine xe_sn pg_107 1 (fr' := (13, [(2, .int ((x ^^^ y) * 16777619)), (0, .int x), (1, .int y)], [.int (((x ^^^ y) * 16777619) ^^^ (ushr ((x ^^^ y) * 16777619) 15))])) rfl ?_
  subst hE
  exact xe_end pg_107 rfl

def g_agree (V : xVt) (s : Int32) (t : Int32) (x : Int32) (y : Int32) (n : Int32) : Option xVt := (some (g_mix 1234567 s)).bind fun r1 => (some (g_mix r1 t)).bind fun r2 => (some (g_mix r2 x)).bind fun r3 => (some (g_mix r3 y)).bind fun r4 => (some (g_mix r4 n)).bind fun r5 => (some (g_mix r5 1)).bind fun r6 => (some (g_mix r6 2)).bind fun r7 => (some (g_mix r7 3)).bind fun r8 => (some (g_mix r8 4)).bind fun r9 => some (vn (vn (vn (vn (vn V 165 28 (ushr r5 16)) 188 0 r6) 188 1 r7) 188 2 r8) 188 3 r9)
set_option maxRecDepth 100000 in
theorem cg_agree (d : Nat) {w : xWd} {S : xSt} {V : xVt} {ρ : Nat → Nat → Int64} {s : Int32} {t : Int32} {x : Int32} {y : Int32} {n : Int32} {r : xVt} (hE : (g_agree V s t x y n) = some r) : xc (d + 1) 108 [.ref 165, .int s, .int t, .int x, .int y, .int n] (hv w S V ρ) (.inl (none), hv w S r ρ) := by
  unfold g_agree at hE
  refine xe_sn pg_108 2 (fr' := (3, [(0, .ref 165), (1, .int s), (2, .int t), (3, .int x), (4, .int y), (5, .int n)], [.int s, .int 1234567])) rfl ?_
  obtain ⟨r1, e1, hE⟩ := Option.bind_eq_some_iff.mp hE
  refine xe_callq pg_108 107 [.int 1234567, .int s] (.inl (some (.int r1))) (6, [(0, .ref 165), (1, .int s), (2, .int t), (3, .int x), (4, .int y), (5, .int n)], [.int r1]) rfl (fun _ => rfl) (cg_mix _ (x := 1234567) (y := s)  (Option.some.inj e1)) ?_
  refine xe_sn pg_108 1 (fr' := (7, [(0, .ref 165), (1, .int s), (2, .int t), (3, .int x), (4, .int y), (5, .int n)], [.int t, .int r1])) rfl ?_
  obtain ⟨r2, e2, hE⟩ := Option.bind_eq_some_iff.mp hE
  refine xe_callq pg_108 107 [.int r1, .int t] (.inl (some (.int r2))) (10, [(0, .ref 165), (1, .int s), (2, .int t), (3, .int x), (4, .int y), (5, .int n)], [.int r2]) rfl (fun _ => rfl) (cg_mix _ (x := r1) (y := t)  (Option.some.inj e2)) ?_
  refine xe_sn pg_108 1 (fr' := (11, [(0, .ref 165), (1, .int s), (2, .int t), (3, .int x), (4, .int y), (5, .int n)], [.int x, .int r2])) rfl ?_
  obtain ⟨r3, e3, hE⟩ := Option.bind_eq_some_iff.mp hE
  refine xe_callq pg_108 107 [.int r2, .int x] (.inl (some (.int r3))) (14, [(0, .ref 165), (1, .int s), (2, .int t), (3, .int x), (4, .int y), (5, .int n)], [.int r3]) rfl (fun _ => rfl) (cg_mix _ (x := r2) (y := x)  (Option.some.inj e3)) ?_
  refine xe_sn pg_108 1 (fr' := (16, [(0, .ref 165), (1, .int s), (2, .int t), (3, .int x), (4, .int y), (5, .int n)], [.int y, .int r3])) rfl ?_
  obtain ⟨r4, e4, hE⟩ := Option.bind_eq_some_iff.mp hE
  refine xe_callq pg_108 107 [.int r3, .int y] (.inl (some (.int r4))) (19, [(0, .ref 165), (1, .int s), (2, .int t), (3, .int x), (4, .int y), (5, .int n)], [.int r4]) rfl (fun _ => rfl) (cg_mix _ (x := r3) (y := y)  (Option.some.inj e4)) ?_
  refine xe_sn pg_108 1 (fr' := (21, [(0, .ref 165), (1, .int s), (2, .int t), (3, .int x), (4, .int y), (5, .int n)], [.int n, .int r4])) rfl ?_
  obtain ⟨r5, e5, hE⟩ := Option.bind_eq_some_iff.mp hE
  refine xe_callq pg_108 107 [.int r4, .int n] (.inl (some (.int r5))) (24, [(0, .ref 165), (1, .int s), (2, .int t), (3, .int x), (4, .int y), (5, .int n)], [.int r5]) rfl (fun _ => rfl) (cg_mix _ (x := r4) (y := n)  (Option.some.inj e5)) ?_
  refine xe_sn pg_108 5 (fr' := (32, [(6, .int r5), (0, .ref 165), (1, .int s), (2, .int t), (3, .int x), (4, .int y), (5, .int n)], [.int (ushr r5 16), .ref 165])) rfl ?_
  refine ze_pn pg_108 rfl rfl ⟨rfl, rfl⟩ (Or.inl rfl) (by decide) ?_
  refine xe_sn pg_108 9 (fr' := (50, [(7, .int 0), (6, .int r5), (0, .ref 165), (1, .int s), (2, .int t), (3, .int x), (4, .int y), (5, .int n)], [.int 1, .int r5])) rfl ?_
  obtain ⟨r6, e6, hE⟩ := Option.bind_eq_some_iff.mp hE
  refine xe_callq pg_108 107 [.int r5, .int 1] (.inl (some (.int r6))) (53, [(7, .int 0), (6, .int r5), (0, .ref 165), (1, .int s), (2, .int t), (3, .int x), (4, .int y), (5, .int n)], [.int r6]) rfl (fun _ => rfl) (cg_mix _ (x := r5) (y := 1)  (Option.some.inj e6)) ?_
  refine xe_sn pg_108 5 (fr' := (63, [(6, .int r6), (7, .int 0), (0, .ref 165), (1, .int s), (2, .int t), (3, .int x), (4, .int y), (5, .int n)], [.int r6, .int 0, .ref 188])) rfl ?_
  refine ze_isn pg_108 0 rfl ⟨by decide, by decide⟩ rfl ⟨by decide, by decide⟩ rfl (by decide) ?_
  refine xe_sn pg_108 2 (fr' := (38, [(7, .int 1), (6, .int r6), (0, .ref 165), (1, .int s), (2, .int t), (3, .int x), (4, .int y), (5, .int n)], [])) rfl ?_
  refine xe_sn pg_108 7 (fr' := (50, [(7, .int 1), (6, .int r6), (0, .ref 165), (1, .int s), (2, .int t), (3, .int x), (4, .int y), (5, .int n)], [.int 2, .int r6])) rfl ?_
  obtain ⟨r7, e7, hE⟩ := Option.bind_eq_some_iff.mp hE
  refine xe_callq pg_108 107 [.int r6, .int 2] (.inl (some (.int r7))) (53, [(7, .int 1), (6, .int r6), (0, .ref 165), (1, .int s), (2, .int t), (3, .int x), (4, .int y), (5, .int n)], [.int r7]) rfl (fun _ => rfl) (cg_mix _ (x := r6) (y := 2)  (Option.some.inj e7)) ?_
  refine xe_sn pg_108 5 (fr' := (63, [(6, .int r7), (7, .int 1), (0, .ref 165), (1, .int s), (2, .int t), (3, .int x), (4, .int y), (5, .int n)], [.int r7, .int 1, .ref 188])) rfl ?_
  refine ze_isn pg_108 1 rfl ⟨by decide, by decide⟩ rfl ⟨by decide, by decide⟩ rfl (by decide) ?_
  refine xe_sn pg_108 2 (fr' := (38, [(7, .int 2), (6, .int r7), (0, .ref 165), (1, .int s), (2, .int t), (3, .int x), (4, .int y), (5, .int n)], [])) rfl ?_
  refine xe_sn pg_108 7 (fr' := (50, [(7, .int 2), (6, .int r7), (0, .ref 165), (1, .int s), (2, .int t), (3, .int x), (4, .int y), (5, .int n)], [.int 3, .int r7])) rfl ?_
  obtain ⟨r8, e8, hE⟩ := Option.bind_eq_some_iff.mp hE
  refine xe_callq pg_108 107 [.int r7, .int 3] (.inl (some (.int r8))) (53, [(7, .int 2), (6, .int r7), (0, .ref 165), (1, .int s), (2, .int t), (3, .int x), (4, .int y), (5, .int n)], [.int r8]) rfl (fun _ => rfl) (cg_mix _ (x := r7) (y := 3)  (Option.some.inj e8)) ?_
  refine xe_sn pg_108 5 (fr' := (63, [(6, .int r8), (7, .int 2), (0, .ref 165), (1, .int s), (2, .int t), (3, .int x), (4, .int y), (5, .int n)], [.int r8, .int 2, .ref 188])) rfl ?_
  refine ze_isn pg_108 2 rfl ⟨by decide, by decide⟩ rfl ⟨by decide, by decide⟩ rfl (by decide) ?_
  refine xe_sn pg_108 2 (fr' := (38, [(7, .int 3), (6, .int r8), (0, .ref 165), (1, .int s), (2, .int t), (3, .int x), (4, .int y), (5, .int n)], [])) rfl ?_
  refine xe_sn pg_108 7 (fr' := (50, [(7, .int 3), (6, .int r8), (0, .ref 165), (1, .int s), (2, .int t), (3, .int x), (4, .int y), (5, .int n)], [.int 4, .int r8])) rfl ?_
  obtain ⟨r9, e9, hE⟩ := Option.bind_eq_some_iff.mp hE
  refine xe_callq pg_108 107 [.int r8, .int 4] (.inl (some (.int r9))) (53, [(7, .int 3), (6, .int r8), (0, .ref 165), (1, .int s), (2, .int t), (3, .int x), (4, .int y), (5, .int n)], [.int r9]) rfl (fun _ => rfl) (cg_mix _ (x := r8) (y := 4)  (Option.some.inj e9)) ?_
  refine xe_sn pg_108 5 (fr' := (63, [(6, .int r9), (7, .int 3), (0, .ref 165), (1, .int s), (2, .int t), (3, .int x), (4, .int y), (5, .int n)], [.int r9, .int 3, .ref 188])) rfl ?_
  refine ze_isn pg_108 3 rfl ⟨by decide, by decide⟩ rfl ⟨by decide, by decide⟩ rfl (by decide) ?_
  refine xe_sn pg_108 2 (fr' := (38, [(7, .int 4), (6, .int r9), (0, .ref 165), (1, .int s), (2, .int t), (3, .int x), (4, .int y), (5, .int n)], [])) rfl ?_
  refine xe_sn pg_108 3 (fr' := (70, [(7, .int 4), (6, .int r9), (0, .ref 165), (1, .int s), (2, .int t), (3, .int x), (4, .int y), (5, .int n)], [])) rfl ?_
  cases hE
  exact xe_end pg_108 rfl

def g_pair (V : xVt) (k : Nat) : Int32 := (((256 : Int32) * (V.2.2.2 k)) + (V.2.2.2 (k + 1)))
set_option maxRecDepth 100000 in
theorem cg_pair (d : Nat) {w : xWd} {S : xSt} {V : xVt} {ρ : Nat → Nat → Int64} {k : Nat} (hk : k < 13) {r : Int32} (hE : (g_pair V k) = r) : xc (d) 111 [.ref 165, .int (nI k)] (hv w S V ρ) (.inl (some (.int r)), hv w S V ρ) := by
  unfold g_pair at hE
  refine xe_sn pg_111 4 (fr' := (8, [(0, .ref 165), (1, .int (nI k))], [.int (nI k), .ref 187, .int 256])) rfl ?_
  refine ze_ib pg_111 k (V.2.2.2 k) rfl (by omega) (bn (by omega) (by decide)) (bc (n := 14) (by omega) (by decide)) rfl ?_
  refine xe_sn pg_111 5 (fr' := (16, [(0, .ref 165), (1, .int (nI k))], [.int 1, .int (nI k), .ref 187, .int ((256 : Int32) * (V.2.2.2 k))])) rfl ?_
  refine xe_na pg_111 k 1 (k + 1) rfl (by omega) ?_
  refine ze_ib pg_111 (k + 1) (V.2.2.2 (k + 1)) rfl (by omega) (bn (by omega) (by decide)) (bc (n := 14) (by omega) (by decide)) rfl ?_
  refine xe_sn pg_111 1 (fr' := (19, [(0, .ref 165), (1, .int (nI k))], [.int (((256 : Int32) * (V.2.2.2 k)) + (V.2.2.2 (k + 1)))])) rfl ?_
  subst hE
  exact xe_end pg_111 rfl

def g_putPair (V : xVt) (k : Nat) (v : Int32) : xVt := (vb (vb V k (v >>> ((8 : Int32) &&& 31))) (k + 1) (v &&& 255))
set_option maxRecDepth 100000 in
theorem cg_putPair (d : Nat) {w : xWd} {S : xSt} {V : xVt} {ρ : Nat → Nat → Int64} {k : Nat} {v : Int32} (hk : k < 13) {r : xVt} (hE : (g_putPair V k v) = r) : xc (d) 112 [.ref 165, .int (nI k), .int v] (hv w S V ρ) (.inl (none), hv w S r ρ) := by
  unfold g_putPair at hE
  refine xe_sn pg_112 6 (fr' := (9, [(0, .ref 165), (1, .int (nI k)), (2, .int v)], [.int (v >>> ((8 : Int32) &&& 31)), .int (nI k), .ref 187])) rfl ?_
  refine ze_sb pg_112 k rfl (by omega) (bn (by omega) (by decide)) (bc (n := 14) (by omega) (by decide)) ?_
  refine xe_sn pg_112 4 (fr' := (16, [(0, .ref 165), (1, .int (nI k)), (2, .int v)], [.int 1, .int (nI k), .ref 187])) rfl ?_
  refine xe_na pg_112 k 1 (k + 1) rfl (by omega) ?_
  refine xe_sn pg_112 3 (fr' := (22, [(0, .ref 165), (1, .int (nI k)), (2, .int v)], [.int (v &&& 255), .int (nI (k + 1)), .ref 187])) rfl ?_
  refine ze_sb pg_112 (k + 1) rfl (by omega) (bn (by omega) (by decide)) (bc (n := 14) (by omega) (by decide)) ?_
  subst hE
  exact xe_end pg_112 rfl

def g_order (V : xVt) (o : Int32) (s : Int32) (n : Int32) : Option xVt := (some (vbs V zf)).bind fun r1 => some (vb (vb (vb r1 4 o) 5 s) 6 n)
set_option maxRecDepth 100000 in
theorem cg_order (d : Nat) {w : xWd} {S : xSt} {V : xVt} {ρ : Nat → Nat → Int64} {o : Int32} {s : Int32} {n : Int32} {r : xVt} (hE : (g_order V o s n) = some r) : xc (d + 1) 114 [.ref 165, .int o, .int s, .int n] (hv w S V ρ) (.inl (none), hv w S r ρ) := by
  unfold g_order at hE
  refine xe_sn pg_114 1 (fr' := (1, [(0, .ref 165), (1, .int o), (2, .int s), (3, .int n)], [.ref 165])) rfl ?_
  obtain ⟨r1, e1, hE⟩ := Option.bind_eq_some_iff.mp hE
  have e1q := Option.some.inj e1
  refine xe_cv pg_114 113 pg_113 [] [] (none) rfl rfl rfl rfl ⟨Nat.le_of_ble_eq_true rfl, Nat.le_of_ble_eq_true rfl, Nat.le_of_ble_eq_true rfl⟩ ⟨rfl, rfl⟩ ⟨by decide, rfl, by decide⟩ (e1q ▸ cg_clr _ ) ?_
  refine xe_sn pg_114 4 (fr' := (10, [(0, .ref 165), (1, .int o), (2, .int s), (3, .int n)], [.int o, .int 4, .ref 187])) rfl ?_
  refine ze_sb pg_114 4 rfl (by decide) ⟨by decide, by decide⟩ rfl ?_
  refine xe_sn pg_114 4 (fr' := (17, [(0, .ref 165), (1, .int o), (2, .int s), (3, .int n)], [.int s, .int 5, .ref 187])) rfl ?_
  refine ze_sb pg_114 5 rfl (by decide) ⟨by decide, by decide⟩ rfl ?_
  refine xe_sn pg_114 4 (fr' := (25, [(0, .ref 165), (1, .int o), (2, .int s), (3, .int n)], [.int n, .int 6, .ref 187])) rfl ?_
  refine ze_sb pg_114 6 rfl (by decide) ⟨by decide, by decide⟩ rfl ?_
  cases hE
  exact xe_end pg_114 rfl

def g_seal (V : xVt) (key : Int32) : Option (Int32 × xVt) := (some (g_fed V key)).bind fun r1 => (some (g_putPair V 2 (ushr r1 16))).bind fun r2 => some (r1, r2)
set_option maxRecDepth 100000 in
theorem cg_seal (d : Nat) {w : xWd} {S : xSt} {V : xVt} {ρ : Nat → Nat → Int64} {key : Int32} {r : Int32 × xVt} (hE : (g_seal V key) = some r) : xc (d + 2) 115 [.ref 165, .int key] (hv w S V ρ) (.inl (some (.int r.1)), hv w S r.2 ρ) := by
  unfold g_seal at hE
  refine xe_sn pg_115 2 (fr' := (2, [(0, .ref 165), (1, .int key)], [.int key, .ref 165])) rfl ?_
  obtain ⟨r1, e1, hE⟩ := Option.bind_eq_some_iff.mp hE
  refine xe_cv pg_115 110 pg_110 [.int key] [] (some (.int r1)) rfl rfl rfl rfl ⟨Nat.le_of_ble_eq_true rfl, Nat.le_of_ble_eq_true rfl, Nat.le_of_ble_eq_true rfl⟩ ⟨rfl, rfl⟩ ⟨by decide, rfl, by decide⟩ (cg_fed _ (key := key)  (Option.some.inj e1)) ?_
  refine xe_sn pg_115 6 (fr' := (12, [(2, .int r1), (0, .ref 165), (1, .int key)], [.int (ushr r1 16), .int 2, .ref 165])) rfl ?_
  obtain ⟨r2, e2, hE⟩ := Option.bind_eq_some_iff.mp hE
  refine xe_cv pg_115 112 pg_112 [.int 2, .int (ushr r1 16)] [] (none) rfl rfl rfl rfl ⟨Nat.le_of_ble_eq_true rfl, Nat.le_of_ble_eq_true rfl, Nat.le_of_ble_eq_true rfl⟩ ⟨rfl, rfl⟩ ⟨by decide, rfl, by decide⟩ (cg_putPair _ (k := 2) (v := (ushr r1 16)) (by omega) (Option.some.inj e2)) ?_
  refine xe_sn pg_115 1 (fr' := (16, [(2, .int r1), (0, .ref 165), (1, .int key)], [.int r1])) rfl ?_
  cases hE
  exact xe_end pg_115 rfl

def g_isKnown (V : xVt) (key : Int32) : Int32 := (if (g_pair V 0) = 0 then (if (ushr (g_fed V key) 16) = (g_pair V 2) then (1 : Int32) else 0) else 0)
set_option maxRecDepth 100000 in
theorem cg_isKnown (d : Nat) {w : xWd} {S : xSt} {V : xVt} {ρ : Nat → Nat → Int64} {key : Int32} {r : Int32} (hE : (g_isKnown V key) = r) : xc (d + 2) 116 [.ref 165, .int key] (hv w S V ρ) (.inl (some (.int r)), hv w S V ρ) := by
  unfold g_isKnown at hE
  refine xe_sn pg_116 2 (fr' := (2, [(0, .ref 165), (1, .int key)], [.int 0, .ref 165])) rfl ?_
  refine xe_cv pg_116 111 pg_111 [.int 0] [] (some (.int (g_pair V 0))) rfl rfl rfl rfl ⟨Nat.le_of_ble_eq_true rfl, Nat.le_of_ble_eq_true rfl, Nat.le_of_ble_eq_true rfl⟩ ⟨rfl, rfl⟩ ⟨by decide, rfl, by decide⟩ (cg_pair _ (k := 0) (by omega) rfl) ?_
  refine xe_jn (fr' := (29, [(0, .ref 165), (1, .int key)], [.int (if (g_pair V 0) = 0 then (if (ushr (g_fed V key) 16) = (g_pair V 2) then (1 : Int32) else 0) else 0)])) (fun J1 => ?_) ?_
  · by_cases h1 : (g_pair V 0) = 0
    · rw [show (if (g_pair V 0) = 0 then (if (ushr (g_fed V key) 16) = (g_pair V 2) then (1 : Int32) else 0) else 0) = (if (ushr (g_fed V key) 16) = (g_pair V 2) then (1 : Int32) else 0) from if_pos h1] at J1
      refine xe_c1f pg_116 28 rfl rfl (fun z => z h1) ?_
      refine xe_sn pg_116 2 (fr' := (10, [(0, .ref 165), (1, .int key)], [.int key, .ref 165])) rfl ?_
      refine xe_cv pg_116 110 pg_110 [.int key] [] (some (.int (g_fed V key))) rfl rfl rfl rfl ⟨Nat.le_of_ble_eq_true rfl, Nat.le_of_ble_eq_true rfl, Nat.le_of_ble_eq_true rfl⟩ ⟨rfl, rfl⟩ ⟨by decide, rfl, by decide⟩ (cg_fed _ (key := key)  rfl) ?_
      refine xe_sn pg_116 4 (fr' := (18, [(0, .ref 165), (1, .int key)], [.int 2, .ref 165, .int (ushr (g_fed V key) 16)])) rfl ?_
      refine xe_cv pg_116 111 pg_111 [.int 2] [.int (ushr (g_fed V key) 16)] (some (.int (g_pair V 2))) rfl rfl rfl rfl ⟨Nat.le_of_ble_eq_true rfl, Nat.le_of_ble_eq_true rfl, Nat.le_of_ble_eq_true rfl⟩ ⟨rfl, rfl⟩ ⟨by decide, rfl, by decide⟩ (cg_pair _ (k := 2) (by omega) rfl) ?_
      refine xe_jn (fr' := (29, [(0, .ref 165), (1, .int key)], [.int (if (ushr (g_fed V key) 16) = (g_pair V 2) then (1 : Int32) else 0)])) (fun J2 => ?_) ?_
      · by_cases h2 : (ushr (g_fed V key) 16) = (g_pair V 2)
        · rw [show (if (ushr (g_fed V key) 16) = (g_pair V 2) then (1 : Int32) else 0) = 1 from if_pos h2] at J2
          refine xe_c2f pg_116 28 rfl rfl (fun z => z h2) ?_
          refine xe_sn pg_116 2 (fr' := (29, [(0, .ref 165), (1, .int key)], [.int 1])) rfl ?_
          exact J2
        · rw [show (if (ushr (g_fed V key) 16) = (g_pair V 2) then (1 : Int32) else 0) = 0 from if_neg h2] at J2
          refine xe_c2t pg_116 28 rfl rfl h2 ?_
          refine xe_sn pg_116 1 (fr' := (29, [(0, .ref 165), (1, .int key)], [.int 0])) rfl ?_
          exact J2
      exact J1
    · rw [show (if (g_pair V 0) = 0 then (if (ushr (g_fed V key) 16) = (g_pair V 2) then (1 : Int32) else 0) else 0) = 0 from if_neg h1] at J1
      refine xe_c1t pg_116 28 rfl rfl h1 ?_
      refine xe_sn pg_116 1 (fr' := (29, [(0, .ref 165), (1, .int key)], [.int 0])) rfl ?_
      exact J1
  subst hE
  exact xe_rb pg_116 rfl rfl (ite_b (ite_b (Or.inr rfl) (Or.inl rfl)) (Or.inl rfl))
theorem bg_isKnown {V : xVt} {key : Int32} {r : Int32} (hE : (g_isKnown V key) = r) : r = 0 ∨ r = 1 := by
  unfold g_isKnown at hE
  subst hE
  exact (ite_b (ite_b (Or.inr rfl) (Or.inl rfl)) (Or.inl rfl))

def g_destroy (V : xVt) (f : Int32) (t : Int32) (c : Int32) : Option xVt := (some (vbs V zf)).bind fun r1 => (g_ship r1 f t c 4 0).bind fun r2 => some r2
set_option maxRecDepth 100000 in
theorem cg_destroy (d : Nat) {w : xWd} {S : xSt} {V : xVt} {ρ : Nat → Nat → Int64} {f : Int32} {t : Int32} {c : Int32} {r : xVt} (hE : (g_destroy V f t c) = some r) : xc (d + 1) 118 [.ref 165, .int f, .int t, .int c] (hv w S V ρ) (.inl (none), hv w S r ρ) := by
  unfold g_destroy at hE
  refine xe_sn pg_118 1 (fr' := (1, [(0, .ref 165), (1, .int f), (2, .int t), (3, .int c)], [.ref 165])) rfl ?_
  obtain ⟨r1, e1, hE⟩ := Option.bind_eq_some_iff.mp hE
  have e1q := Option.some.inj e1
  refine xe_cv pg_118 113 pg_113 [] [] (none) rfl rfl rfl rfl ⟨Nat.le_of_ble_eq_true rfl, Nat.le_of_ble_eq_true rfl, Nat.le_of_ble_eq_true rfl⟩ ⟨rfl, rfl⟩ ⟨by decide, rfl, by decide⟩ (e1q ▸ cg_clr _ ) ?_
  refine xe_sn pg_118 6 (fr' := (10, [(0, .ref 165), (1, .int f), (2, .int t), (3, .int c)], [.int 0, .int 4, .int c, .int t, .int f, .ref 165])) rfl ?_
  obtain ⟨r2, e2, hE⟩ := Option.bind_eq_some_iff.mp hE
  refine xe_cv pg_118 117 pg_117 [.int f, .int t, .int c, .int 4, .int 0] [] (none) rfl rfl rfl rfl ⟨Nat.le_of_ble_eq_true rfl, Nat.le_of_ble_eq_true rfl, Nat.le_of_ble_eq_true rfl⟩ ⟨rfl, rfl⟩ ⟨by decide, rfl, by decide⟩ (cg_ship _ (a := f) (b := t) (c := c) (e := 4) (g := 0)  e2) ?_
  cases hE
  exact xe_end pg_118 rfl

def g_dropO (V : xVt) (c : Nat) (hop : Int32) : xVt := if (V.1 174 (3 * c)) < hop then (if (V.1 174 (3 * c + 1)) < hop then (if (V.1 174 (3 * c + 2)) < hop then V else (vx (vx V 173 (3 * c + 2) 0) 175 (3 * c + 2) 0)) else (if (V.1 174 (3 * c + 2)) < hop then (vx (vx V 173 (3 * c + 1) 0) 175 (3 * c + 1) 0) else (vx (vx (vx (vx V 173 (3 * c + 1) 0) 175 (3 * c + 1) 0) 173 (3 * c + 2) 0) 175 (3 * c + 2) 0))) else (if (V.1 174 (3 * c + 1)) < hop then (if (V.1 174 (3 * c + 2)) < hop then (vx (vx V 173 (3 * c) 0) 175 (3 * c) 0) else (vx (vx (vx (vx V 173 (3 * c) 0) 175 (3 * c) 0) 173 (3 * c + 2) 0) 175 (3 * c + 2) 0)) else (if (V.1 174 (3 * c + 2)) < hop then (vx (vx (vx (vx V 173 (3 * c) 0) 175 (3 * c) 0) 173 (3 * c + 1) 0) 175 (3 * c + 1) 0) else (vx (vx (vx (vx (vx (vx V 173 (3 * c) 0) 175 (3 * c) 0) 173 (3 * c + 1) 0) 175 (3 * c + 1) 0) 173 (3 * c + 2) 0) 175 (3 * c + 2) 0)))
set_option maxRecDepth 100000 in
theorem cg_dropO (d : Nat) {w : xWd} {S : xSt} {V : xVt} {ρ : Nat → Nat → Int64} {c : Nat} {hop : Int32} (hc : c < 4) {r : xVt} (hE : (g_dropO V c hop) = r) : xc (d) 120 [.ref 165, .int (nI c), .int hop] (hv w S V ρ) (.inl (none), hv w S r ρ) := by
  unfold g_dropO at hE
  refine xe_sn pg_120 2 (fr' := (2, [(0, .ref 165), (1, .int (nI c)), (2, .int hop)], [.int (nI c), .int 3])) rfl ?_
  refine xe_nm pg_120 3 c (3 * c) rfl (by omega) ?_
  refine xe_sn pg_120 4 (fr' := (7, [(3, .int (nI (3 * c))), (0, .ref 165), (1, .int (nI c)), (2, .int hop)], [.int (nI c), .int 3, .int (nI (3 * c))])) rfl ?_
  refine xe_nm pg_120 3 c (3 * c) rfl (by omega) ?_
  refine xe_sn pg_120 1 (fr' := (9, [(3, .int (nI (3 * c))), (0, .ref 165), (1, .int (nI c)), (2, .int hop)], [.int 3, .int (nI (3 * c)), .int (nI (3 * c))])) rfl ?_
  refine xe_na pg_120 (3 * c) 3 (3 * c + 3) rfl (by omega) ?_
  refine xe_c2f pg_120 43 rfl rfl (nq_gen (3 * c) (3 * c + 3) (by omega) (by omega) (by omega)) ?_
  refine xe_sn pg_120 3 (fr' := (18, [(3, .int (nI (3 * c))), (0, .ref 165), (1, .int (nI c)), (2, .int hop)], [.int (nI (3 * c)), .ref 174])) rfl ?_
  refine ze_il pg_120 (3 * c) (V.1 174 (3 * c)) rfl ⟨by decide, by decide⟩ rfl (bn (by omega) (by decide)) (bc (n := 12) (by omega) (by decide)) rfl ?_
  refine xe_sn pg_120 1 (fr' := (20, [(3, .int (nI (3 * c))), (0, .ref 165), (1, .int (nI c)), (2, .int hop)], [.int hop, .int (V.1 174 (3 * c))])) rfl ?_
  by_cases h1 : (V.1 174 (3 * c)) < hop
  · rw [if_pos h1] at hE
    refine xe_c2t pg_120 37 rfl rfl h1 ?_
    refine xe_ni pg_120 (3 * c) (3 * c + 1) [(3, .int (nI (3 * c + 1))), (0, .ref 165), (1, .int (nI c)), (2, .int hop)] rfl rfl rfl rfl (nI_add _ 1) ?_
    refine xe_sn pg_120 1 (fr' := (4, [(3, .int (nI (3 * c + 1))), (0, .ref 165), (1, .int (nI c)), (2, .int hop)], [])) rfl ?_
    refine xe_sn pg_120 3 (fr' := (7, [(3, .int (nI (3 * c + 1))), (0, .ref 165), (1, .int (nI c)), (2, .int hop)], [.int (nI c), .int 3, .int (nI (3 * c + 1))])) rfl ?_
    refine xe_nm pg_120 3 c (3 * c) rfl (by omega) ?_
    refine xe_sn pg_120 1 (fr' := (9, [(3, .int (nI (3 * c + 1))), (0, .ref 165), (1, .int (nI c)), (2, .int hop)], [.int 3, .int (nI (3 * c)), .int (nI (3 * c + 1))])) rfl ?_
    refine xe_na pg_120 (3 * c) 3 (3 * c + 3) rfl (by omega) ?_
    refine xe_c2f pg_120 43 rfl rfl (nq_gen (3 * c + 1) (3 * c + 3) (by omega) (by omega) (by omega)) ?_
    refine xe_sn pg_120 3 (fr' := (18, [(3, .int (nI (3 * c + 1))), (0, .ref 165), (1, .int (nI c)), (2, .int hop)], [.int (nI (3 * c + 1)), .ref 174])) rfl ?_
    refine ze_il pg_120 (3 * c + 1) (V.1 174 (3 * c + 1)) rfl ⟨by decide, by decide⟩ rfl (bn (by omega) (by decide)) (bc (n := 12) (by omega) (by decide)) rfl ?_
    refine xe_sn pg_120 1 (fr' := (20, [(3, .int (nI (3 * c + 1))), (0, .ref 165), (1, .int (nI c)), (2, .int hop)], [.int hop, .int (V.1 174 (3 * c + 1))])) rfl ?_
    by_cases h2 : (V.1 174 (3 * c + 1)) < hop
    · rw [if_pos h2] at hE
      refine xe_c2t pg_120 37 rfl rfl h2 ?_
      refine xe_ni pg_120 (3 * c + 1) (3 * c + 2) [(3, .int (nI (3 * c + 2))), (0, .ref 165), (1, .int (nI c)), (2, .int hop)] rfl rfl rfl rfl (nI_add _ 1) ?_
      refine xe_sn pg_120 1 (fr' := (4, [(3, .int (nI (3 * c + 2))), (0, .ref 165), (1, .int (nI c)), (2, .int hop)], [])) rfl ?_
      refine xe_sn pg_120 3 (fr' := (7, [(3, .int (nI (3 * c + 2))), (0, .ref 165), (1, .int (nI c)), (2, .int hop)], [.int (nI c), .int 3, .int (nI (3 * c + 2))])) rfl ?_
      refine xe_nm pg_120 3 c (3 * c) rfl (by omega) ?_
      refine xe_sn pg_120 1 (fr' := (9, [(3, .int (nI (3 * c + 2))), (0, .ref 165), (1, .int (nI c)), (2, .int hop)], [.int 3, .int (nI (3 * c)), .int (nI (3 * c + 2))])) rfl ?_
      refine xe_na pg_120 (3 * c) 3 (3 * c + 3) rfl (by omega) ?_
      refine xe_c2f pg_120 43 rfl rfl (nq_gen (3 * c + 2) (3 * c + 3) (by omega) (by omega) (by omega)) ?_
      refine xe_sn pg_120 3 (fr' := (18, [(3, .int (nI (3 * c + 2))), (0, .ref 165), (1, .int (nI c)), (2, .int hop)], [.int (nI (3 * c + 2)), .ref 174])) rfl ?_
      refine ze_il pg_120 (3 * c + 2) (V.1 174 (3 * c + 2)) rfl ⟨by decide, by decide⟩ rfl (bn (by omega) (by decide)) (bc (n := 12) (by omega) (by decide)) rfl ?_
      refine xe_sn pg_120 1 (fr' := (20, [(3, .int (nI (3 * c + 2))), (0, .ref 165), (1, .int (nI c)), (2, .int hop)], [.int hop, .int (V.1 174 (3 * c + 2))])) rfl ?_
      by_cases h3 : (V.1 174 (3 * c + 2)) < hop
      · rw [if_pos h3] at hE
        refine xe_c2t pg_120 37 rfl rfl h3 ?_
        refine xe_ni pg_120 (3 * c + 2) (3 * c + 3) [(3, .int (nI (3 * c + 3))), (0, .ref 165), (1, .int (nI c)), (2, .int hop)] rfl rfl rfl rfl (nI_add _ 1) ?_
        refine xe_sn pg_120 1 (fr' := (4, [(3, .int (nI (3 * c + 3))), (0, .ref 165), (1, .int (nI c)), (2, .int hop)], [])) rfl ?_
        refine xe_sn pg_120 3 (fr' := (7, [(3, .int (nI (3 * c + 3))), (0, .ref 165), (1, .int (nI c)), (2, .int hop)], [.int (nI c), .int 3, .int (nI (3 * c + 3))])) rfl ?_
        refine xe_nm pg_120 3 c (3 * c) rfl (by omega) ?_
        refine xe_sn pg_120 1 (fr' := (9, [(3, .int (nI (3 * c + 3))), (0, .ref 165), (1, .int (nI c)), (2, .int hop)], [.int 3, .int (nI (3 * c)), .int (nI (3 * c + 3))])) rfl ?_
        refine xe_na pg_120 (3 * c) 3 (3 * c + 3) rfl (by omega) ?_
        refine xe_c2t pg_120 43 rfl rfl (nq_ge (3 * c + 3) (3 * c + 3) (by omega) (by omega) (by omega)) ?_
        subst hE
        exact xe_end pg_120 rfl
      · rw [if_neg h3] at hE
        refine xe_c2f pg_120 37 rfl rfl h3 ?_
        refine xe_sn pg_120 4 (fr' := (29, [(3, .int (nI (3 * c + 2))), (0, .ref 165), (1, .int (nI c)), (2, .int hop)], [.int 0, .int (nI (3 * c + 2)), .ref 173])) rfl ?_
        refine ze_isx pg_120 (3 * c + 2) rfl ⟨by decide, by decide⟩ rfl (bn (by omega) (by decide)) (bc (n := 12) (by omega) (by decide)) (by decide) ?_
        refine xe_sn pg_120 4 (fr' := (36, [(3, .int (nI (3 * c + 2))), (0, .ref 165), (1, .int (nI c)), (2, .int hop)], [.int 0, .int (nI (3 * c + 2)), .ref 175])) rfl ?_
        refine ze_isx pg_120 (3 * c + 2) rfl ⟨by decide, by decide⟩ rfl (bn (by omega) (by decide)) (bc (n := 12) (by omega) (by decide)) (by decide) ?_
        refine xe_ni pg_120 (3 * c + 2) (3 * c + 3) [(3, .int (nI (3 * c + 3))), (0, .ref 165), (1, .int (nI c)), (2, .int hop)] rfl rfl rfl rfl (nI_add _ 1) ?_
        refine xe_sn pg_120 1 (fr' := (4, [(3, .int (nI (3 * c + 3))), (0, .ref 165), (1, .int (nI c)), (2, .int hop)], [])) rfl ?_
        refine xe_sn pg_120 3 (fr' := (7, [(3, .int (nI (3 * c + 3))), (0, .ref 165), (1, .int (nI c)), (2, .int hop)], [.int (nI c), .int 3, .int (nI (3 * c + 3))])) rfl ?_
        refine xe_nm pg_120 3 c (3 * c) rfl (by omega) ?_
        refine xe_sn pg_120 1 (fr' := (9, [(3, .int (nI (3 * c + 3))), (0, .ref 165), (1, .int (nI c)), (2, .int hop)], [.int 3, .int (nI (3 * c)), .int (nI (3 * c + 3))])) rfl ?_
        refine xe_na pg_120 (3 * c) 3 (3 * c + 3) rfl (by omega) ?_
        refine xe_c2t pg_120 43 rfl rfl (nq_ge (3 * c + 3) (3 * c + 3) (by omega) (by omega) (by omega)) ?_
        subst hE
        exact xe_end pg_120 rfl
    · rw [if_neg h2] at hE
      refine xe_c2f pg_120 37 rfl rfl h2 ?_
      refine xe_sn pg_120 4 (fr' := (29, [(3, .int (nI (3 * c + 1))), (0, .ref 165), (1, .int (nI c)), (2, .int hop)], [.int 0, .int (nI (3 * c + 1)), .ref 173])) rfl ?_
      refine ze_isx pg_120 (3 * c + 1) rfl ⟨by decide, by decide⟩ rfl (bn (by omega) (by decide)) (bc (n := 12) (by omega) (by decide)) (by decide) ?_
      refine xe_sn pg_120 4 (fr' := (36, [(3, .int (nI (3 * c + 1))), (0, .ref 165), (1, .int (nI c)), (2, .int hop)], [.int 0, .int (nI (3 * c + 1)), .ref 175])) rfl ?_
      refine ze_isx pg_120 (3 * c + 1) rfl ⟨by decide, by decide⟩ rfl (bn (by omega) (by decide)) (bc (n := 12) (by omega) (by decide)) (by decide) ?_
      refine xe_ni pg_120 (3 * c + 1) (3 * c + 2) [(3, .int (nI (3 * c + 2))), (0, .ref 165), (1, .int (nI c)), (2, .int hop)] rfl rfl rfl rfl (nI_add _ 1) ?_
      refine xe_sn pg_120 1 (fr' := (4, [(3, .int (nI (3 * c + 2))), (0, .ref 165), (1, .int (nI c)), (2, .int hop)], [])) rfl ?_
      refine xe_sn pg_120 3 (fr' := (7, [(3, .int (nI (3 * c + 2))), (0, .ref 165), (1, .int (nI c)), (2, .int hop)], [.int (nI c), .int 3, .int (nI (3 * c + 2))])) rfl ?_
      refine xe_nm pg_120 3 c (3 * c) rfl (by omega) ?_
      refine xe_sn pg_120 1 (fr' := (9, [(3, .int (nI (3 * c + 2))), (0, .ref 165), (1, .int (nI c)), (2, .int hop)], [.int 3, .int (nI (3 * c)), .int (nI (3 * c + 2))])) rfl ?_
      refine xe_na pg_120 (3 * c) 3 (3 * c + 3) rfl (by omega) ?_
      refine xe_c2f pg_120 43 rfl rfl (nq_gen (3 * c + 2) (3 * c + 3) (by omega) (by omega) (by omega)) ?_
      refine xe_sn pg_120 3 (fr' := (18, [(3, .int (nI (3 * c + 2))), (0, .ref 165), (1, .int (nI c)), (2, .int hop)], [.int (nI (3 * c + 2)), .ref 174])) rfl ?_
      refine ze_il pg_120 (3 * c + 2) (V.1 174 (3 * c + 2)) rfl ⟨by decide, by decide⟩ rfl (bn (by omega) (by decide)) (bc (n := 12) (by omega) (by decide)) rfl ?_
      refine xe_sn pg_120 1 (fr' := (20, [(3, .int (nI (3 * c + 2))), (0, .ref 165), (1, .int (nI c)), (2, .int hop)], [.int hop, .int (V.1 174 (3 * c + 2))])) rfl ?_
      by_cases h4 : (V.1 174 (3 * c + 2)) < hop
      · rw [if_pos h4] at hE
        refine xe_c2t pg_120 37 rfl rfl h4 ?_
        refine xe_ni pg_120 (3 * c + 2) (3 * c + 3) [(3, .int (nI (3 * c + 3))), (0, .ref 165), (1, .int (nI c)), (2, .int hop)] rfl rfl rfl rfl (nI_add _ 1) ?_
        refine xe_sn pg_120 1 (fr' := (4, [(3, .int (nI (3 * c + 3))), (0, .ref 165), (1, .int (nI c)), (2, .int hop)], [])) rfl ?_
        refine xe_sn pg_120 3 (fr' := (7, [(3, .int (nI (3 * c + 3))), (0, .ref 165), (1, .int (nI c)), (2, .int hop)], [.int (nI c), .int 3, .int (nI (3 * c + 3))])) rfl ?_
        refine xe_nm pg_120 3 c (3 * c) rfl (by omega) ?_
        refine xe_sn pg_120 1 (fr' := (9, [(3, .int (nI (3 * c + 3))), (0, .ref 165), (1, .int (nI c)), (2, .int hop)], [.int 3, .int (nI (3 * c)), .int (nI (3 * c + 3))])) rfl ?_
        refine xe_na pg_120 (3 * c) 3 (3 * c + 3) rfl (by omega) ?_
        refine xe_c2t pg_120 43 rfl rfl (nq_ge (3 * c + 3) (3 * c + 3) (by omega) (by omega) (by omega)) ?_
        subst hE
        exact xe_end pg_120 rfl
      · rw [if_neg h4] at hE
        refine xe_c2f pg_120 37 rfl rfl h4 ?_
        refine xe_sn pg_120 4 (fr' := (29, [(3, .int (nI (3 * c + 2))), (0, .ref 165), (1, .int (nI c)), (2, .int hop)], [.int 0, .int (nI (3 * c + 2)), .ref 173])) rfl ?_
        refine ze_isx pg_120 (3 * c + 2) rfl ⟨by decide, by decide⟩ rfl (bn (by omega) (by decide)) (bc (n := 12) (by omega) (by decide)) (by decide) ?_
        refine xe_sn pg_120 4 (fr' := (36, [(3, .int (nI (3 * c + 2))), (0, .ref 165), (1, .int (nI c)), (2, .int hop)], [.int 0, .int (nI (3 * c + 2)), .ref 175])) rfl ?_
        refine ze_isx pg_120 (3 * c + 2) rfl ⟨by decide, by decide⟩ rfl (bn (by omega) (by decide)) (bc (n := 12) (by omega) (by decide)) (by decide) ?_
        refine xe_ni pg_120 (3 * c + 2) (3 * c + 3) [(3, .int (nI (3 * c + 3))), (0, .ref 165), (1, .int (nI c)), (2, .int hop)] rfl rfl rfl rfl (nI_add _ 1) ?_
        refine xe_sn pg_120 1 (fr' := (4, [(3, .int (nI (3 * c + 3))), (0, .ref 165), (1, .int (nI c)), (2, .int hop)], [])) rfl ?_
        refine xe_sn pg_120 3 (fr' := (7, [(3, .int (nI (3 * c + 3))), (0, .ref 165), (1, .int (nI c)), (2, .int hop)], [.int (nI c), .int 3, .int (nI (3 * c + 3))])) rfl ?_
        refine xe_nm pg_120 3 c (3 * c) rfl (by omega) ?_
        refine xe_sn pg_120 1 (fr' := (9, [(3, .int (nI (3 * c + 3))), (0, .ref 165), (1, .int (nI c)), (2, .int hop)], [.int 3, .int (nI (3 * c)), .int (nI (3 * c + 3))])) rfl ?_
        refine xe_na pg_120 (3 * c) 3 (3 * c + 3) rfl (by omega) ?_
        refine xe_c2t pg_120 43 rfl rfl (nq_ge (3 * c + 3) (3 * c + 3) (by omega) (by omega) (by omega)) ?_
        subst hE
        exact xe_end pg_120 rfl
  · rw [if_neg h1] at hE
    refine xe_c2f pg_120 37 rfl rfl h1 ?_
    refine xe_sn pg_120 4 (fr' := (29, [(3, .int (nI (3 * c))), (0, .ref 165), (1, .int (nI c)), (2, .int hop)], [.int 0, .int (nI (3 * c)), .ref 173])) rfl ?_
    refine ze_isx pg_120 (3 * c) rfl ⟨by decide, by decide⟩ rfl (bn (by omega) (by decide)) (bc (n := 12) (by omega) (by decide)) (by decide) ?_
    refine xe_sn pg_120 4 (fr' := (36, [(3, .int (nI (3 * c))), (0, .ref 165), (1, .int (nI c)), (2, .int hop)], [.int 0, .int (nI (3 * c)), .ref 175])) rfl ?_
    refine ze_isx pg_120 (3 * c) rfl ⟨by decide, by decide⟩ rfl (bn (by omega) (by decide)) (bc (n := 12) (by omega) (by decide)) (by decide) ?_
    refine xe_ni pg_120 (3 * c) (3 * c + 1) [(3, .int (nI (3 * c + 1))), (0, .ref 165), (1, .int (nI c)), (2, .int hop)] rfl rfl rfl rfl (nI_add _ 1) ?_
    refine xe_sn pg_120 1 (fr' := (4, [(3, .int (nI (3 * c + 1))), (0, .ref 165), (1, .int (nI c)), (2, .int hop)], [])) rfl ?_
    refine xe_sn pg_120 3 (fr' := (7, [(3, .int (nI (3 * c + 1))), (0, .ref 165), (1, .int (nI c)), (2, .int hop)], [.int (nI c), .int 3, .int (nI (3 * c + 1))])) rfl ?_
    refine xe_nm pg_120 3 c (3 * c) rfl (by omega) ?_
    refine xe_sn pg_120 1 (fr' := (9, [(3, .int (nI (3 * c + 1))), (0, .ref 165), (1, .int (nI c)), (2, .int hop)], [.int 3, .int (nI (3 * c)), .int (nI (3 * c + 1))])) rfl ?_
    refine xe_na pg_120 (3 * c) 3 (3 * c + 3) rfl (by omega) ?_
    refine xe_c2f pg_120 43 rfl rfl (nq_gen (3 * c + 1) (3 * c + 3) (by omega) (by omega) (by omega)) ?_
    refine xe_sn pg_120 3 (fr' := (18, [(3, .int (nI (3 * c + 1))), (0, .ref 165), (1, .int (nI c)), (2, .int hop)], [.int (nI (3 * c + 1)), .ref 174])) rfl ?_
    refine ze_il pg_120 (3 * c + 1) (V.1 174 (3 * c + 1)) rfl ⟨by decide, by decide⟩ rfl (bn (by omega) (by decide)) (bc (n := 12) (by omega) (by decide)) rfl ?_
    refine xe_sn pg_120 1 (fr' := (20, [(3, .int (nI (3 * c + 1))), (0, .ref 165), (1, .int (nI c)), (2, .int hop)], [.int hop, .int (V.1 174 (3 * c + 1))])) rfl ?_
    by_cases h5 : (V.1 174 (3 * c + 1)) < hop
    · rw [if_pos h5] at hE
      refine xe_c2t pg_120 37 rfl rfl h5 ?_
      refine xe_ni pg_120 (3 * c + 1) (3 * c + 2) [(3, .int (nI (3 * c + 2))), (0, .ref 165), (1, .int (nI c)), (2, .int hop)] rfl rfl rfl rfl (nI_add _ 1) ?_
      refine xe_sn pg_120 1 (fr' := (4, [(3, .int (nI (3 * c + 2))), (0, .ref 165), (1, .int (nI c)), (2, .int hop)], [])) rfl ?_
      refine xe_sn pg_120 3 (fr' := (7, [(3, .int (nI (3 * c + 2))), (0, .ref 165), (1, .int (nI c)), (2, .int hop)], [.int (nI c), .int 3, .int (nI (3 * c + 2))])) rfl ?_
      refine xe_nm pg_120 3 c (3 * c) rfl (by omega) ?_
      refine xe_sn pg_120 1 (fr' := (9, [(3, .int (nI (3 * c + 2))), (0, .ref 165), (1, .int (nI c)), (2, .int hop)], [.int 3, .int (nI (3 * c)), .int (nI (3 * c + 2))])) rfl ?_
      refine xe_na pg_120 (3 * c) 3 (3 * c + 3) rfl (by omega) ?_
      refine xe_c2f pg_120 43 rfl rfl (nq_gen (3 * c + 2) (3 * c + 3) (by omega) (by omega) (by omega)) ?_
      refine xe_sn pg_120 3 (fr' := (18, [(3, .int (nI (3 * c + 2))), (0, .ref 165), (1, .int (nI c)), (2, .int hop)], [.int (nI (3 * c + 2)), .ref 174])) rfl ?_
      refine ze_il pg_120 (3 * c + 2) (V.1 174 (3 * c + 2)) rfl ⟨by decide, by decide⟩ rfl (bn (by omega) (by decide)) (bc (n := 12) (by omega) (by decide)) rfl ?_
      refine xe_sn pg_120 1 (fr' := (20, [(3, .int (nI (3 * c + 2))), (0, .ref 165), (1, .int (nI c)), (2, .int hop)], [.int hop, .int (V.1 174 (3 * c + 2))])) rfl ?_
      by_cases h6 : (V.1 174 (3 * c + 2)) < hop
      · rw [if_pos h6] at hE
        refine xe_c2t pg_120 37 rfl rfl h6 ?_
        refine xe_ni pg_120 (3 * c + 2) (3 * c + 3) [(3, .int (nI (3 * c + 3))), (0, .ref 165), (1, .int (nI c)), (2, .int hop)] rfl rfl rfl rfl (nI_add _ 1) ?_
        refine xe_sn pg_120 1 (fr' := (4, [(3, .int (nI (3 * c + 3))), (0, .ref 165), (1, .int (nI c)), (2, .int hop)], [])) rfl ?_
        refine xe_sn pg_120 3 (fr' := (7, [(3, .int (nI (3 * c + 3))), (0, .ref 165), (1, .int (nI c)), (2, .int hop)], [.int (nI c), .int 3, .int (nI (3 * c + 3))])) rfl ?_
        refine xe_nm pg_120 3 c (3 * c) rfl (by omega) ?_
        refine xe_sn pg_120 1 (fr' := (9, [(3, .int (nI (3 * c + 3))), (0, .ref 165), (1, .int (nI c)), (2, .int hop)], [.int 3, .int (nI (3 * c)), .int (nI (3 * c + 3))])) rfl ?_
        refine xe_na pg_120 (3 * c) 3 (3 * c + 3) rfl (by omega) ?_
        refine xe_c2t pg_120 43 rfl rfl (nq_ge (3 * c + 3) (3 * c + 3) (by omega) (by omega) (by omega)) ?_
        subst hE
        exact xe_end pg_120 rfl
      · rw [if_neg h6] at hE
        refine xe_c2f pg_120 37 rfl rfl h6 ?_
        refine xe_sn pg_120 4 (fr' := (29, [(3, .int (nI (3 * c + 2))), (0, .ref 165), (1, .int (nI c)), (2, .int hop)], [.int 0, .int (nI (3 * c + 2)), .ref 173])) rfl ?_
        refine ze_isx pg_120 (3 * c + 2) rfl ⟨by decide, by decide⟩ rfl (bn (by omega) (by decide)) (bc (n := 12) (by omega) (by decide)) (by decide) ?_
        refine xe_sn pg_120 4 (fr' := (36, [(3, .int (nI (3 * c + 2))), (0, .ref 165), (1, .int (nI c)), (2, .int hop)], [.int 0, .int (nI (3 * c + 2)), .ref 175])) rfl ?_
        refine ze_isx pg_120 (3 * c + 2) rfl ⟨by decide, by decide⟩ rfl (bn (by omega) (by decide)) (bc (n := 12) (by omega) (by decide)) (by decide) ?_
        refine xe_ni pg_120 (3 * c + 2) (3 * c + 3) [(3, .int (nI (3 * c + 3))), (0, .ref 165), (1, .int (nI c)), (2, .int hop)] rfl rfl rfl rfl (nI_add _ 1) ?_
        refine xe_sn pg_120 1 (fr' := (4, [(3, .int (nI (3 * c + 3))), (0, .ref 165), (1, .int (nI c)), (2, .int hop)], [])) rfl ?_
        refine xe_sn pg_120 3 (fr' := (7, [(3, .int (nI (3 * c + 3))), (0, .ref 165), (1, .int (nI c)), (2, .int hop)], [.int (nI c), .int 3, .int (nI (3 * c + 3))])) rfl ?_
        refine xe_nm pg_120 3 c (3 * c) rfl (by omega) ?_
        refine xe_sn pg_120 1 (fr' := (9, [(3, .int (nI (3 * c + 3))), (0, .ref 165), (1, .int (nI c)), (2, .int hop)], [.int 3, .int (nI (3 * c)), .int (nI (3 * c + 3))])) rfl ?_
        refine xe_na pg_120 (3 * c) 3 (3 * c + 3) rfl (by omega) ?_
        refine xe_c2t pg_120 43 rfl rfl (nq_ge (3 * c + 3) (3 * c + 3) (by omega) (by omega) (by omega)) ?_
        subst hE
        exact xe_end pg_120 rfl
    · rw [if_neg h5] at hE
      refine xe_c2f pg_120 37 rfl rfl h5 ?_
      refine xe_sn pg_120 4 (fr' := (29, [(3, .int (nI (3 * c + 1))), (0, .ref 165), (1, .int (nI c)), (2, .int hop)], [.int 0, .int (nI (3 * c + 1)), .ref 173])) rfl ?_
      refine ze_isx pg_120 (3 * c + 1) rfl ⟨by decide, by decide⟩ rfl (bn (by omega) (by decide)) (bc (n := 12) (by omega) (by decide)) (by decide) ?_
      refine xe_sn pg_120 4 (fr' := (36, [(3, .int (nI (3 * c + 1))), (0, .ref 165), (1, .int (nI c)), (2, .int hop)], [.int 0, .int (nI (3 * c + 1)), .ref 175])) rfl ?_
      refine ze_isx pg_120 (3 * c + 1) rfl ⟨by decide, by decide⟩ rfl (bn (by omega) (by decide)) (bc (n := 12) (by omega) (by decide)) (by decide) ?_
      refine xe_ni pg_120 (3 * c + 1) (3 * c + 2) [(3, .int (nI (3 * c + 2))), (0, .ref 165), (1, .int (nI c)), (2, .int hop)] rfl rfl rfl rfl (nI_add _ 1) ?_
      refine xe_sn pg_120 1 (fr' := (4, [(3, .int (nI (3 * c + 2))), (0, .ref 165), (1, .int (nI c)), (2, .int hop)], [])) rfl ?_
      refine xe_sn pg_120 3 (fr' := (7, [(3, .int (nI (3 * c + 2))), (0, .ref 165), (1, .int (nI c)), (2, .int hop)], [.int (nI c), .int 3, .int (nI (3 * c + 2))])) rfl ?_
      refine xe_nm pg_120 3 c (3 * c) rfl (by omega) ?_
      refine xe_sn pg_120 1 (fr' := (9, [(3, .int (nI (3 * c + 2))), (0, .ref 165), (1, .int (nI c)), (2, .int hop)], [.int 3, .int (nI (3 * c)), .int (nI (3 * c + 2))])) rfl ?_
      refine xe_na pg_120 (3 * c) 3 (3 * c + 3) rfl (by omega) ?_
      refine xe_c2f pg_120 43 rfl rfl (nq_gen (3 * c + 2) (3 * c + 3) (by omega) (by omega) (by omega)) ?_
      refine xe_sn pg_120 3 (fr' := (18, [(3, .int (nI (3 * c + 2))), (0, .ref 165), (1, .int (nI c)), (2, .int hop)], [.int (nI (3 * c + 2)), .ref 174])) rfl ?_
      refine ze_il pg_120 (3 * c + 2) (V.1 174 (3 * c + 2)) rfl ⟨by decide, by decide⟩ rfl (bn (by omega) (by decide)) (bc (n := 12) (by omega) (by decide)) rfl ?_
      refine xe_sn pg_120 1 (fr' := (20, [(3, .int (nI (3 * c + 2))), (0, .ref 165), (1, .int (nI c)), (2, .int hop)], [.int hop, .int (V.1 174 (3 * c + 2))])) rfl ?_
      by_cases h7 : (V.1 174 (3 * c + 2)) < hop
      · rw [if_pos h7] at hE
        refine xe_c2t pg_120 37 rfl rfl h7 ?_
        refine xe_ni pg_120 (3 * c + 2) (3 * c + 3) [(3, .int (nI (3 * c + 3))), (0, .ref 165), (1, .int (nI c)), (2, .int hop)] rfl rfl rfl rfl (nI_add _ 1) ?_
        refine xe_sn pg_120 1 (fr' := (4, [(3, .int (nI (3 * c + 3))), (0, .ref 165), (1, .int (nI c)), (2, .int hop)], [])) rfl ?_
        refine xe_sn pg_120 3 (fr' := (7, [(3, .int (nI (3 * c + 3))), (0, .ref 165), (1, .int (nI c)), (2, .int hop)], [.int (nI c), .int 3, .int (nI (3 * c + 3))])) rfl ?_
        refine xe_nm pg_120 3 c (3 * c) rfl (by omega) ?_
        refine xe_sn pg_120 1 (fr' := (9, [(3, .int (nI (3 * c + 3))), (0, .ref 165), (1, .int (nI c)), (2, .int hop)], [.int 3, .int (nI (3 * c)), .int (nI (3 * c + 3))])) rfl ?_
        refine xe_na pg_120 (3 * c) 3 (3 * c + 3) rfl (by omega) ?_
        refine xe_c2t pg_120 43 rfl rfl (nq_ge (3 * c + 3) (3 * c + 3) (by omega) (by omega) (by omega)) ?_
        subst hE
        exact xe_end pg_120 rfl
      · rw [if_neg h7] at hE
        refine xe_c2f pg_120 37 rfl rfl h7 ?_
        refine xe_sn pg_120 4 (fr' := (29, [(3, .int (nI (3 * c + 2))), (0, .ref 165), (1, .int (nI c)), (2, .int hop)], [.int 0, .int (nI (3 * c + 2)), .ref 173])) rfl ?_
        refine ze_isx pg_120 (3 * c + 2) rfl ⟨by decide, by decide⟩ rfl (bn (by omega) (by decide)) (bc (n := 12) (by omega) (by decide)) (by decide) ?_
        refine xe_sn pg_120 4 (fr' := (36, [(3, .int (nI (3 * c + 2))), (0, .ref 165), (1, .int (nI c)), (2, .int hop)], [.int 0, .int (nI (3 * c + 2)), .ref 175])) rfl ?_
        refine ze_isx pg_120 (3 * c + 2) rfl ⟨by decide, by decide⟩ rfl (bn (by omega) (by decide)) (bc (n := 12) (by omega) (by decide)) (by decide) ?_
        refine xe_ni pg_120 (3 * c + 2) (3 * c + 3) [(3, .int (nI (3 * c + 3))), (0, .ref 165), (1, .int (nI c)), (2, .int hop)] rfl rfl rfl rfl (nI_add _ 1) ?_
        refine xe_sn pg_120 1 (fr' := (4, [(3, .int (nI (3 * c + 3))), (0, .ref 165), (1, .int (nI c)), (2, .int hop)], [])) rfl ?_
        refine xe_sn pg_120 3 (fr' := (7, [(3, .int (nI (3 * c + 3))), (0, .ref 165), (1, .int (nI c)), (2, .int hop)], [.int (nI c), .int 3, .int (nI (3 * c + 3))])) rfl ?_
        refine xe_nm pg_120 3 c (3 * c) rfl (by omega) ?_
        refine xe_sn pg_120 1 (fr' := (9, [(3, .int (nI (3 * c + 3))), (0, .ref 165), (1, .int (nI c)), (2, .int hop)], [.int 3, .int (nI (3 * c)), .int (nI (3 * c + 3))])) rfl ?_
        refine xe_na pg_120 (3 * c) 3 (3 * c + 3) rfl (by omega) ?_
        refine xe_c2t pg_120 43 rfl rfl (nq_ge (3 * c + 3) (3 * c + 3) (by omega) (by omega) (by omega)) ?_
        subst hE
        exact xe_end pg_120 rfl

def dg1 (V : xVt) (c s : Nat) (hop : Int32) : xVt := if V.1 174 (3 * c + s) < hop then V else vx (vx V 173 (3 * c + s) 0) 175 (3 * c + s) 0
theorem dropg_1 (V : xVt) (c s : Nat) (hop : Int32) (r i : Nat) : (dg1 V c s hop).1 r i = if (r = 173 ∨ r = 175) ∧ i = 3 * c + s ∧ hop ≤ V.1 174 (3 * c + s) then 0 else V.1 r i := by
  unfold dg1
  by_cases h : V.1 174 (3 * c + s) < hop
  · rw [if_pos h, if_neg (fun q => Int32.not_le.mpr h q.2.2)]
  · rw [if_neg h]
    have h' : hop ≤ V.1 174 (3 * c + s) := Int32.not_lt.mp h
    show xi_u2 (xi_u2 V.1 173 (3 * c + s) 0) 175 (3 * c + s) 0 r i = _
    rw [u2_at, u2_at]
    by_cases e1 : r = 175 ∧ i = 3 * c + s
    · rw [if_pos e1, if_pos ⟨Or.inr e1.1, e1.2, h'⟩]
    · rw [if_neg e1]
      by_cases e2 : r = 173 ∧ i = 3 * c + s
      · rw [if_pos e2, if_pos ⟨Or.inl e2.1, e2.2, h'⟩]
      · rw [if_neg e2, if_neg]
        rintro ⟨q1 | q1, q2, -⟩
        · exact e2 ⟨q1, q2⟩
        · exact e1 ⟨q1, q2⟩
theorem dropg_2 (V : xVt) (c s : Nat) (hop : Int32) : (dg1 V c s hop).2 = V.2 := by
  unfold dg1
  split <;> rfl
theorem dropg_3 (V : xVt) (c s : Nat) (hop : Int32) (j : Nat) : (dg1 V c s hop).1 174 j = V.1 174 j := by
  rw [dropg_1, if_neg (fun q => by omega)]
theorem dropg_eq (V : xVt) (c : Nat) (hop : Int32) : g_dropO V c hop = (dropX V.1 c hop, V.2) := by
  have e : g_dropO V c hop = dg1 (dg1 (dg1 V c 0 hop) c 1 hop) c 2 hop := by
    unfold g_dropO
    by_cases h0 : V.1 174 (3 * c) < hop
    · rw [if_pos h0, show dg1 V c 0 hop = V from if_pos h0]
      by_cases h1 : V.1 174 (3 * c + 1) < hop
      · rw [if_pos h1, show dg1 V c 1 hop = V from if_pos h1]
        by_cases h2 : V.1 174 (3 * c + 2) < hop
        · rw [if_pos h2, show dg1 V c 2 hop = V from if_pos h2]
        · rw [if_neg h2, show dg1 V c 2 hop = (vx (vx V 173 (3 * c + 2) 0) 175 (3 * c + 2) 0) from if_neg h2]
      · rw [if_neg h1, show dg1 V c 1 hop = (vx (vx V 173 (3 * c + 1) 0) 175 (3 * c + 1) 0) from if_neg h1]
        by_cases h2 : V.1 174 (3 * c + 2) < hop
        · rw [if_pos h2, show dg1 (vx (vx V 173 (3 * c + 1) 0) 175 (3 * c + 1) 0) c 2 hop = (vx (vx V 173 (3 * c + 1) 0) 175 (3 * c + 1) 0) from if_pos h2]
        · rw [if_neg h2, show dg1 (vx (vx V 173 (3 * c + 1) 0) 175 (3 * c + 1) 0) c 2 hop = (vx (vx (vx (vx V 173 (3 * c + 1) 0) 175 (3 * c + 1) 0) 173 (3 * c + 2) 0) 175 (3 * c + 2) 0) from if_neg h2]
    · rw [if_neg h0, show dg1 V c 0 hop = (vx (vx V 173 (3 * c) 0) 175 (3 * c) 0) from if_neg h0]
      by_cases h1 : V.1 174 (3 * c + 1) < hop
      · rw [if_pos h1, show dg1 (vx (vx V 173 (3 * c) 0) 175 (3 * c) 0) c 1 hop = (vx (vx V 173 (3 * c) 0) 175 (3 * c) 0) from if_pos h1]
        by_cases h2 : V.1 174 (3 * c + 2) < hop
        · rw [if_pos h2, show dg1 (vx (vx V 173 (3 * c) 0) 175 (3 * c) 0) c 2 hop = (vx (vx V 173 (3 * c) 0) 175 (3 * c) 0) from if_pos h2]
        · rw [if_neg h2, show dg1 (vx (vx V 173 (3 * c) 0) 175 (3 * c) 0) c 2 hop = (vx (vx (vx (vx V 173 (3 * c) 0) 175 (3 * c) 0) 173 (3 * c + 2) 0) 175 (3 * c + 2) 0) from if_neg h2]
      · rw [if_neg h1, show dg1 (vx (vx V 173 (3 * c) 0) 175 (3 * c) 0) c 1 hop = (vx (vx (vx (vx V 173 (3 * c) 0) 175 (3 * c) 0) 173 (3 * c + 1) 0) 175 (3 * c + 1) 0) from if_neg h1]
        by_cases h2 : V.1 174 (3 * c + 2) < hop
        · rw [if_pos h2, show dg1 (vx (vx (vx (vx V 173 (3 * c) 0) 175 (3 * c) 0) 173 (3 * c + 1) 0) 175 (3 * c + 1) 0) c 2 hop = (vx (vx (vx (vx V 173 (3 * c) 0) 175 (3 * c) 0) 173 (3 * c + 1) 0) 175 (3 * c + 1) 0) from if_pos h2]
        · rw [if_neg h2, show dg1 (vx (vx (vx (vx V 173 (3 * c) 0) 175 (3 * c) 0) 173 (3 * c + 1) 0) 175 (3 * c + 1) 0) c 2 hop = (vx (vx (vx (vx (vx (vx V 173 (3 * c) 0) 175 (3 * c) 0) 173 (3 * c + 1) 0) 175 (3 * c + 1) 0) 173 (3 * c + 2) 0) 175 (3 * c + 2) 0) from if_neg h2]
  rw [e]
  refine Prod.ext ?_ (by rw [dropg_2, dropg_2, dropg_2])
  funext r i
  rw [dropg_1 (dg1 (dg1 V c 0 hop) c 1 hop), dropg_3, dropg_3, dropg_1 (dg1 V c 0 hop), dropg_3, dropg_1 V]
  show _ = dropX V.1 c hop r i
  unfold dropX
  by_cases hr : r = 173 ∨ r = 175
  · rcases (by omega : i = 3 * c + 0 ∨ i = 3 * c + 1 ∨ i = 3 * c + 2 ∨ ¬ (3 * c ≤ i ∧ i < 3 * c + 3)) with q | q | q | q
    · subst q
      rw [if_neg (fun z => by omega), if_neg (fun z => by omega)]
      by_cases h9 : hop ≤ V.1 174 (3 * c + 0)
      · rw [if_pos ⟨hr, rfl, h9⟩, if_pos ⟨hr, by omega, by omega, h9⟩]
      · rw [if_neg (fun z => h9 z.2.2), if_neg (fun z => h9 z.2.2.2)]
    · subst q
      rw [if_neg (fun z => by omega)]
      by_cases h9 : hop ≤ V.1 174 (3 * c + 1)
      · rw [if_pos ⟨hr, rfl, h9⟩, if_pos ⟨hr, by omega, by omega, h9⟩]
      · rw [if_neg (fun z => h9 z.2.2), if_neg (fun z => by omega), if_neg (fun z => h9 z.2.2.2)]
    · subst q
      by_cases h9 : hop ≤ V.1 174 (3 * c + 2)
      · rw [if_pos ⟨hr, rfl, h9⟩, if_pos ⟨hr, by omega, by omega, h9⟩]
      · rw [if_neg (fun z => h9 z.2.2), if_neg (fun z => by omega), if_neg (fun z => by omega), if_neg (fun z => h9 z.2.2.2)]
    · rw [if_neg (fun z => by omega), if_neg (fun z => by omega), if_neg (fun z => by omega), if_neg (fun z => by omega)]
  · rw [if_neg (fun z => hr z.1), if_neg (fun z => hr z.1), if_neg (fun z => hr z.1), if_neg (fun z => hr z.1)]
theorem cg_drop (d : Nat) {w : xWd} {S : xSt} {V : xVt} {ρ : Nat → Nat → Int64} {c : Nat} {hop : Int32} (hc : c < 4) : xc d 120 [.ref 165, .int (nI c), .int hop] (hv w S V ρ) (.inl (none), hv w S (dropX V.1 c hop, V.2) ρ) := by
  rw [← dropg_eq]
  exact cg_dropO d hc rfl
