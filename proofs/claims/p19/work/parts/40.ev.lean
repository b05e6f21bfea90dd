/-! runs of the small machine, pure -/
def xi_cf (n d : Nat) : Nat → List Value → xHp → Option xRs := fun m' av h1 => match d with
  | 0 => none
  | d' + 1 => xi_run n d' m' (0, lv_args 0 av, []) h1
theorem xi_run_s (n d m : Nat) (fr : xFr) (h : xHp) : xi_run (n + 1) d m fr h = (match xpg[m]? with
    | none => none
    | some mi => match xi_st d (xi_cf n d) mi fr h with
      | none => none
      | some (.inl (fr', h')) => xi_run n d m fr' h'
      | some (.inr r) => some r) := rfl
theorem xi_call_mono {cf1 cf2 : Nat → List Value → xHp → Option xRs} (hc : ∀ m' av h1 r, cf1 m' av h1 = some r → cf2 m' av h1 = some r) {mi : xMi} {pc : Nat} {lv : List (Nat × Value)} {st : List Value} {h : xHp} {kd m' : Nat} {x : (xFr × xHp) ⊕ xRs} (hs : xi_call cf1 mi pc lv st h kd m' = some x) : xi_call cf2 mi pc lv st h kd m' = some x := by
  unfold xi_call at hs ⊢
  cases hp : xpg[m']? with
  | none => rw [hp] at hs; cases hs
  | some mi' =>
    rw [hp] at hs
    dsimp only at hs ⊢
    split at hs
    · next hg =>
      rw [if_pos hg]
      cases hv : cf1 m' (st.take (xi_na mi')).reverse h with
      | none => rw [hv] at hs; cases hs
      | some r =>
        rw [hv] at hs
        rw [hc _ _ _ _ hv]
        exact hs
    · cases hs
theorem xi_st_mono {d : Nat} {cf1 cf2 : Nat → List Value → xHp → Option xRs} (hc : ∀ m' av h1 r, cf1 m' av h1 = some r → cf2 m' av h1 = some r) {mi : xMi} {fr : xFr} {h : xHp} {x : (xFr × xHp) ⊕ xRs} (hs : xi_st d cf1 mi fr h = some x) : xi_st d cf2 mi fr h = some x := by
  unfold xi_st at hs ⊢
  cases ht : xi_a (xi_tb mi) fr.1 with
  | none => rw [ht] at hs; cases hs
  | some il =>
    obtain ⟨i, len⟩ := il
    rw [ht] at hs
    dsimp only at hs ⊢
    cases i
    case invokespecial ix =>
      dsimp only at hs ⊢
      cases ho : xi_a (xoi.getD (xi_own mi) []) ix with
      | some po => rw [ho] at hs; exact hs
      | none =>
        rw [ho] at hs
        dsimp only at hs ⊢
        cases hm : xi_a (xml.getD (xi_own mi) []) ix with
        | none => rw [hm] at hs; cases hs
        | some e =>
          obtain ⟨kd, m', po⟩ := e
          rw [hm] at hs
          dsimp only at hs ⊢
          split at hs
          · next hk =>
            rw [if_pos hk]
            exact xi_call_mono hc hs
          · cases hs
    case invokestatic ix =>
      dsimp only at hs ⊢
      cases hm : xi_a (xml.getD (xi_own mi) []) ix with
      | none => rw [hm] at hs; cases hs
      | some e =>
        obtain ⟨kd, m', po⟩ := e
        rw [hm] at hs
        dsimp only at hs ⊢
        split at hs
        · next hk =>
          rw [if_pos hk]
          exact xi_call_mono hc hs
        · cases hs
    case invokevirtual ix =>
      dsimp only at hs ⊢
      cases hm : xi_a (xml.getD (xi_own mi) []) ix with
      | none => rw [hm] at hs; cases hs
      | some e =>
        obtain ⟨kd, m', po⟩ := e
        rw [hm] at hs
        dsimp only at hs ⊢
        split at hs
        · next hk =>
          rw [if_pos hk]
          exact xi_call_mono hc hs
        · cases hs
    all_goals exact hs
theorem xi_run_mono : ∀ (n k d m : Nat) (fr : xFr) (h : xHp) (r : xRs), xi_run n d m fr h = some r → xi_run (n + k) d m fr h = some r := by
  intro n
  induction n with
  | zero =>
    intro k d m fr h r hs
    cases hs
  | succ n ih =>
    intro k d m fr h r hs
    rw [show n + 1 + k = (n + k) + 1 by omega]
    rw [xi_run_s] at hs ⊢
    cases hp : xpg[m]? with
    | none => rw [hp] at hs; cases hs
    | some mi =>
      rw [hp] at hs
      dsimp only at hs ⊢
      have hc : ∀ m' av h1 r, xi_cf n d m' av h1 = some r → xi_cf (n + k) d m' av h1 = some r := by
        intro m' av h1 r1 h9
        cases d with
        | zero => cases h9
        | succ d' => exact ih k d' m' _ _ _ h9
      cases hv : xi_st d (xi_cf n d) mi fr h with
      | none => rw [hv] at hs; cases hs
      | some x =>
        rw [hv] at hs
        rw [xi_st_mono hc hv]
        cases x with
        | inl y =>
          obtain ⟨fr', h'⟩ := y
          exact ih k d m fr' h' r hs
        | inr y => exact hs
/-- the method m, from the frame, comes to the end r -/
def xe (d m : Nat) (fr : xFr) (h : xHp) (r : xRs) : Prop := ∃ n, xi_run n d m fr h = some r
/-- the call of m with the arguments av -/
def xc (d m : Nat) (av : List Value) (h : xHp) (r : xRs) : Prop := xe d m (0, lv_args 0 av, []) h r
def xi_no : Nat → List Value → xHp → Option xRs := fun _ _ _ => none
theorem xi_no_le {cf : Nat → List Value → xHp → Option xRs} : ∀ m' av h1 r, xi_no m' av h1 = some r → cf m' av h1 = some r := fun _ _ _ _ h => by cases h
/-- k plain steps -/
def xi_sn (d : Nat) (mi : xMi) : Nat → xFr → xHp → Option (xFr × xHp)
  | 0, fr, h => some (fr, h)
  | k + 1, fr, h => match xi_st d xi_no mi fr h with
    | some (.inl (fr', h')) => xi_sn d mi k fr' h'
    | _ => none
theorem xe_sn {d m : Nat} {mi : xMi} (hp : xpg[m]? = some mi) (k : Nat) {fr fr' : xFr} {h h' : xHp} {r : xRs} (hs : xi_sn d mi k fr h = some (fr', h')) (hr : xe d m fr' h' r) : xe d m fr h r := by
  induction k generalizing fr h with
  | zero => cases hs; exact hr
  | succ k ih =>
    unfold xi_sn at hs
    split at hs
    · next fr1 h1 hv =>
      obtain ⟨n, hn⟩ := ih hs
      refine ⟨n + 1, ?_⟩
      rw [xi_run_s, hp]
      dsimp only
      rw [xi_st_mono xi_no_le hv]
      exact hn
    · cases hs
theorem xe_end {d m : Nat} {mi : xMi} (hp : xpg[m]? = some mi) {fr : xFr} {h : xHp} {r : xRs} (hs : xi_st d xi_no mi fr h = some (.inr r)) : xe d m fr h r := by
  refine ⟨1, ?_⟩
  rw [xi_run_s, hp]
  dsimp only
  rw [xi_st_mono xi_no_le hs]
/-- which call is made -/
def xi_ca (mi : xMi) (fr : xFr) : Option (Nat × List Value) := match xi_a (xi_tb mi) fr.1 with
  | some (.invokevirtual ix, _) => (match xi_a (xml.getD (xi_own mi) []) ix with
    | some (_, m', _) => (xpg[m']?).map (fun mi' => (m', (fr.2.2.take (xi_na mi')).reverse))
    | none => none)
  | some (.invokestatic ix, _) => (match xi_a (xml.getD (xi_own mi) []) ix with
    | some (_, m', _) => (xpg[m']?).map (fun mi' => (m', (fr.2.2.take (xi_na mi')).reverse))
    | none => none)
  | _ => none
theorem xi_call_at {cf : Nat → List Value → xHp → Option xRs} {mi : xMi} {pc : Nat} {lv : List (Nat × Value)} {st : List Value} {h : xHp} {kd m' : Nat} {av : List Value} {x : Option xRs} (ha : (xpg[m']?).map (fun mi' => (m', (st.take (xi_na mi')).reverse)) = some (m', av)) (hx : cf m' av h = x) : xi_call (fun _ _ _ => x) mi pc lv st h kd m' = xi_call cf mi pc lv st h kd m' := by
  unfold xi_call
  cases hp : xpg[m']? with
  | none => rfl
  | some mi' =>
    rw [hp] at ha
    dsimp only
    have e : (st.take (xi_na mi')).reverse = av := by
      have := Option.some.inj ha
      exact (Prod.mk.inj this).2
    rw [e, hx]
theorem xi_st_at {d : Nat} {cf : Nat → List Value → xHp → Option xRs} {mi : xMi} {fr : xFr} {h : xHp} {m' : Nat} {av : List Value} {x : Option xRs} (ha : xi_ca mi fr = some (m', av)) (hx : cf m' av h = x) : xi_st d (fun _ _ _ => x) mi fr h = xi_st d cf mi fr h := by
  unfold xi_ca at ha
  unfold xi_st
  cases ht : xi_a (xi_tb mi) fr.1 with
  | none => rfl
  | some il =>
    obtain ⟨i, len⟩ := il
    rw [ht] at ha
    dsimp only at ha ⊢
    cases i
    case invokestatic ix =>
      dsimp only at ha ⊢
      cases hm : xi_a (xml.getD (xi_own mi) []) ix with
      | none => rfl
      | some e =>
        obtain ⟨kd, m9, po⟩ := e
        rw [hm] at ha
        dsimp only at ha ⊢
        have e9 : m9 = m' := by
          obtain ⟨z, -, hz⟩ := Option.map_eq_some_iff.mp ha
          exact (Prod.mk.inj hz).1
        subst e9
        split
        · exact xi_call_at ha hx
        · rfl
    case invokevirtual ix =>
      dsimp only at ha ⊢
      cases hm : xi_a (xml.getD (xi_own mi) []) ix with
      | none => rfl
      | some e =>
        obtain ⟨kd, m9, po⟩ := e
        rw [hm] at ha
        dsimp only at ha ⊢
        have e9 : m9 = m' := by
          obtain ⟨z, -, hz⟩ := Option.map_eq_some_iff.mp ha
          exact (Prod.mk.inj hz).1
        subst e9
        split
        · exact xi_call_at ha hx
        · rfl
    all_goals cases ha
theorem xe_call {d m m' : Nat} {mi : xMi} (hp : xpg[m]? = some mi) {av : List Value} {fr fr' : xFr} {h h' : xHp} {r r1 : xRs} (ha : xi_ca mi fr = some (m', av)) (hc : xc d m' av h r1) (hs : xi_st (d + 1) (fun _ _ _ => some r1) mi fr h = some (.inl (fr', h'))) (hr : xe (d + 1) m fr' h' r) : xe (d + 1) m fr h r := by
  obtain ⟨n1, e1⟩ := hc
  obtain ⟨n2, e2⟩ := hr
  refine ⟨(n1 + n2) + 1, ?_⟩
  rw [xi_run_s, hp]
  dsimp only
  rw [← xi_st_at (x := some r1) ha (xi_run_mono n1 n2 d m' _ h r1 e1), hs]
  dsimp only
  rw [Nat.add_comm]
  exact xi_run_mono n2 n1 _ _ _ _ _ e2
theorem xe_callx {d m m' : Nat} {mi : xMi} (hp : xpg[m]? = some mi) {av : List Value} {fr : xFr} {h : xHp} {r r1 : xRs} (ha : xi_ca mi fr = some (m', av)) (hc : xc d m' av h r1) (hs : xi_st (d + 1) (fun _ _ _ => some r1) mi fr h = some (.inr r)) : xe (d + 1) m fr h r := by
  obtain ⟨n1, e1⟩ := hc
  refine ⟨n1 + 1, ?_⟩
  rw [xi_run_s, hp]
  dsimp only
  rw [← xi_st_at (x := some r1) ha e1, hs]
/-- a branch that isn't decided by the numbers alone -/
def xi_cp (c : ClassFile.Cond) (x y : Int32) : Prop := match c with
  | .eq => x = y
  | .ne => ¬ x = y
  | .lt => x < y
  | .ge => y ≤ x
  | .gt => y < x
  | .le => x ≤ y
theorem xi_ifc_t {c : ClassFile.Cond} {off : Int} {pc t : Nat} {lv : List (Nat × Value)} {x y : Int32} {r : List Value} {h : xHp} (ho : (pc : Int) + off = (t : Int)) (hc : xi_cp c x y) : xi_ifc c off pc lv x y r h = some ((t, lv, r), h) := by
  have hg : xi_go pc off lv r h = some ((t, lv, r), h) := by
    unfold xi_go
    rw [ho, if_pos (Int.natCast_nonneg t)]
    rfl
  unfold xi_cp at hc
  unfold xi_ifc
  cases c <;> simp only [hc, if_true, if_false, hg] <;> rfl
theorem xi_ifc_f {c : ClassFile.Cond} {off : Int} {pc : Nat} {lv : List (Nat × Value)} {x y : Int32} {r : List Value} {h : xHp} (hc : ¬ xi_cp c x y) : xi_ifc c off pc lv x y r h = some ((pc + 3, lv, r), h) := by
  unfold xi_cp at hc
  unfold xi_ifc
  cases c <;> simp only at hc ⊢ <;> first | rw [if_neg hc] | rw [if_pos (Classical.not_not.mp hc)]
theorem xe_if2 {d m : Nat} {mi : xMi} (hp : xpg[m]? = some mi) {c : ClassFile.Cond} {off : Int} {len pc : Nat} (t : Nat) {lv : List (Nat × Value)} {x y : Int32} {st : List Value} {h : xHp} {r : xRs} (ht : xi_a (xi_tb mi) pc = some (.if_icmp c off, len)) (ho : (pc : Int) + off = (t : Int)) (kt : xi_cp c x y → xe d m (t, lv, st) h r) (kf : ¬ xi_cp c x y → xe d m (pc + 3, lv, st) h r) : xe d m (pc, lv, .int y :: .int x :: st) h r := by
  have hs : xi_st d xi_no mi (pc, lv, .int y :: .int x :: st) h = (xi_ifc c off pc lv x y st h).map .inl := by
    unfold xi_st
    rw [show xi_a (xi_tb mi) ((pc, lv, Value.int y :: Value.int x :: st) : xFr).1 = some (.if_icmp c off, len) from ht]
    rfl
  by_cases hc : xi_cp c x y
  · rw [xi_ifc_t ho hc] at hs
    exact xe_sn hp 1 (by unfold xi_sn; rw [hs]; rfl) (kt hc)
  · rw [xi_ifc_f hc] at hs
    exact xe_sn hp 1 (by unfold xi_sn; rw [hs]; rfl) (kf hc)
theorem xe_if1 {d m : Nat} {mi : xMi} (hp : xpg[m]? = some mi) {c : ClassFile.Cond} {off : Int} {len pc : Nat} (t : Nat) {lv : List (Nat × Value)} {x : Int32} {st : List Value} {h : xHp} {r : xRs} (ht : xi_a (xi_tb mi) pc = some (.ifCond c off, len)) (ho : (pc : Int) + off = (t : Int)) (kt : xi_cp c x 0 → xe d m (t, lv, st) h r) (kf : ¬ xi_cp c x 0 → xe d m (pc + 3, lv, st) h r) : xe d m (pc, lv, .int x :: st) h r := by
  have hs : xi_st d xi_no mi (pc, lv, .int x :: st) h = (xi_ifc c off pc lv x 0 st h).map .inl := by
    unfold xi_st
    rw [show xi_a (xi_tb mi) ((pc, lv, Value.int x :: st) : xFr).1 = some (.ifCond c off, len) from ht]
    rfl
  by_cases hc : xi_cp c x 0
  · rw [xi_ifc_t ho hc] at hs
    exact xe_sn hp 1 (by unfold xi_sn; rw [hs]; rfl) (kt hc)
  · rw [xi_ifc_f hc] at hs
    exact xe_sn hp 1 (by unfold xi_sn; rw [hs]; rfl) (kf hc)
