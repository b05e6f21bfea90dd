/-! THE LAW ANSWERS 0 AT ONE SCRIPT: the small machine run by the kernel, from one head of the law's loop to the next; between them the heap is told anew, as a table -/
def rf_l : List Int32 := [1, 0, 1, 1, 0, 8, 2, 0, 0, 0, 2, 0, 2, 1, 0, 7, 0, 0, 0, 0, 8, 1, 0, 0, 0, 9, 0, 1, 1, 0, 8, 1, 0, 0, 0, 11, 1, 5, 0, 0]
def rf_xs : Nat → Int32 := fun j => rf_l.getD j 0
def rf_t {α : Type} (t : List (Nat × List (Nat × α))) (f : Nat → Nat → α) : Nat → Nat → α := fun b j => match xi_a t b with
  | some r => (match xi_a r j with
    | some v => v
    | none => f b j)
  | none => f b j
def rf_h (I : List (Nat × List (Nat × Int32))) (J : List (Nat × List (Nat × Int64))) (R : List (Nat × List (Nat × Option Nat))) : xHp := ((false, 190, 190, 1841, 41, rf_xs), xi_KK, rf_t I xi_II, rf_t J (fun _ _ => 0), rf_t R xi_RR)
def rf_go (f : Nat) : Nat → xFr → xHp → Option (xFr × xHp)
  | 0, fr, h => some (fr, h)
  | n + 1, fr, h => match xi_st 12 (fun m' av h1 => xi_run f 11 m' (0, lv_args 0 av, []) h1) mi_L_law fr h with
    | some (.inl (fr', h')) => rf_go f n fr' h'
    | _ => none
def rf_ck (n : Nat) (fr : xFr) (h : xHp) (fr' : xFr) (h2 : xHp) : Bool := match rf_go 20000 n fr h with
  | some (g, a) => decide (g = fr') && xi_agr a h2
  | none => false
theorem rf_CO {l : Launch} (hst : l.stackTraces = false) (f : Nat) : xi_CO l 12 (fun m' av h1 => xi_run f 11 m' (0, lv_args 0 av, []) h1) := by
  intro m' mi' av h r h' hpg hm hsl hc
  obtain ⟨a1, a2⟩ := xi_run_ok hst f 11 m' mi' _ _ _ _ hpg hc
  exact ⟨a1, 11, rfl, xi_entry hst hpg hm hsl a1 a2⟩
theorem rf_go_ok {l : Launch} (hst : l.stackTraces = false) (f : Nat) : ∀ (n : Nat) (fr : xFr) (h : xHp) (fr' : xFr) (h' : xHp), rf_go f n fr h = some (fr', h') → xi_mo h h' ∧ xi_S2 l 12 mi_L_law fr h fr' h' := by
  intro n
  induction n with
  | zero =>
    intro fr h fr' h' hg
    unfold rf_go at hg
    cases hg
    exact ⟨xi_mo.rf _, fun p e R s m args below meth c Q D cy base lay c0 w0 C hfr hlo hc0 hw0 hrc hrs k => k⟩
  | succ n ih =>
    intro fr h fr' h' hg
    unfold rf_go at hg
    split at hg
    · next f1 h1 hs =>
      obtain ⟨a1, a2⟩ : xi_mo h h1 ∧ xi_S2 l 12 mi_L_law fr h f1 h1 := xi_st_ok ok_tb_L_law (rf_CO hst f) hs
      obtain ⟨b1, b2⟩ := ih f1 h1 fr' h' hg
      refine ⟨a1.tr b1, fun p e R s m args below meth c Q D cy base lay c0 w0 C hfr hlo hc0 hw0 hrc hrs k => ?_⟩
      obtain ⟨m1, m2, m3, m4⟩ := a1
      obtain ⟨n1, n2, n3, n4⟩ := b1
      exact a2 p e R s m args below meth c _ D cy base lay c0 w0 C hfr hlo hc0 hw0 (by omega) (by omega) (b2 p e R s m args below meth c _ D cy base lay c0 w0 (by rw [m3, m4]; exact C) hfr hlo (by omega) (by omega) hrc hrs k)
    · cases hg
theorem rf_agc {a b : xHp} (ha : xi_agr a b = true) : hC a = hC b ∧ hW a = hW b := by
  unfold xi_agr at ha
  simp only [Bool.and_eq_true, decide_eq_true_eq] at ha
  exact ⟨ha.1.1.2, ha.1.2⟩
theorem rf_agr_S3 {l : Launch} {d : Nat} {mi : xMi} {fr : xFr} {a b : xHp} {r : Option Value ⊕ Nat} {h' : xHp} (ha : xi_agr a b = true) (e1 : hL b = hL a) (e2 : hX b = hX a) (hb : xi_S3 l d mi fr b r h') : xi_S3 l d mi fr a r h' := by
  obtain ⟨q1, q2⟩ := rf_agc ha
  intro p e R s m args below meth c D cy base lay c0 w0 C hfr hlo hc0 hw0 hrc hrs H locs ls hP hZ hS hl
  have k := hb p e R s m args below meth c D cy base lay c0 w0 (by rw [e1, e2]; exact C) hfr hlo (by omega) (by omega) hrc hrs H locs ls (xi_agr_P ha hP) (xi_agr_Z ha hZ) hS hl
  rw [q1, q2]
  exact k
theorem rf_cut {l : Launch} (hst : l.stackTraces = false) {n : Nat} {fr : xFr} {h : xHp} {fr' : xFr} {h2 : xHp} {r : Option Value ⊕ Nat} {h' : xHp} (ck : rf_ck n fr h fr' h2 = true) (e1 : hL h2 = hL h) (e2 : hX h2 = hX h) (b : xi_mo h2 h' ∧ xi_S3 l 12 mi_L_law fr' h2 r h') : xi_mo h h' ∧ xi_S3 l 12 mi_L_law fr h r h' := by
  unfold rf_ck at ck
  split at ck
  · next g a hg =>
    rw [Bool.and_eq_true, decide_eq_true_eq] at ck
    obtain ⟨rfl, ha⟩ := ck
    obtain ⟨⟨m1, m2, m3, m4⟩, s1⟩ := rf_go_ok hst _ _ _ _ _ _ hg
    obtain ⟨q1, q2⟩ := rf_agc ha
    obtain ⟨⟨n1, n2, n3, n4⟩, b2⟩ := b
    have s2 := rf_agr_S3 ha (e1.trans m3.symm) (e2.trans m4.symm) b2
    refine ⟨⟨by omega, by omega, n3.trans e1, n4.trans e2⟩, fun p e R s m args below meth c D cy base lay c0 w0 C hfr hlo hc0 hw0 hrc hrs => ?_⟩
    exact s1 p e R s m args below meth c _ D cy base lay c0 w0 C hfr hlo hc0 hw0 (by omega) (by omega) (s2 p e R s m args below meth c D cy base lay c0 w0 (by rw [m3, m4]; exact C) hfr hlo (by omega) (by omega) hrc hrs)
  · cases ck
