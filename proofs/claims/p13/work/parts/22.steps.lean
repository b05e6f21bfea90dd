def xi_C (p : Program) (l : Launch) (s : State) (m : MethodId) (args : Array Value) (meth : Method) (c : Code) (mi : xMi) (D : va_G) (cy : Nat → ClassId) (base : Nat) (lay : Nat → Nat) (L : Nat) (xs : Nat → Int32) : Prop :=
  p.tables.exec = Jvm.exec ∧ c.code = xi_cc mi ∧ c.maxLocals = xi_mL mi ∧ s.vm.findClass (xi_rO (xi_own mi)) = some m.cls ∧ (∀ w ∈ xT, w.before args s = true) ∧ meth.locks = false ∧ meth.sig.returnType = xi_rt mi ∧ meth.name = (xi_y mi).name ∧
  c.exceptionTable.toList = tableOf (xi_hh mi) ∧ l.stackTraces = false ∧ xi_G D cy base lay L xs s ∧ xi_lay base lay
def xi_W (p : Program) (l : Launch) (e : Env) (R : Room) (s : State) (m : MethodId) (args : Array Value) (below : List Frame) (meth : Method) (c : Code) (mi : xMi) (D : va_G) (cy : Nat → ClassId) (base : Nat) (lay : Nat → Nat) (c0 w0 : Nat) (Q : State → Prop) (fr : xFr) (h : xHp) : Prop :=
  ∀ (H : Heap) (locs : List Loc) (ls : Array Slot), xi_P D cy lay h H → xi_Z base h H → va_S (fun q => base ≤ q) s.heap H locs → lv_has ls (xi_mL mi) (xi_lv lay fr.2.1) → W p l e R s m args below meth c H locs (hC h - c0) (hW h - w0) Q (F0 m fr.1 ls (fr.2.2.map (xi_tv lay)))
def xi_mo (h h' : xHp) : Prop := hC h ≤ hC h' ∧ hW h ≤ hW h' ∧ hL h' = hL h ∧ hX h' = hX h
theorem xi_mo.rf (h : xHp) : xi_mo h h := ⟨Nat.le_refl _, Nat.le_refl _, rfl, rfl⟩
theorem xi_mo.tr {a b c : xHp} (h : xi_mo a b) (g : xi_mo b c) : xi_mo a c := ⟨Nat.le_trans h.1 g.1, Nat.le_trans h.2.1 g.2.1, g.2.2.1.trans h.2.2.1, g.2.2.2.trans h.2.2.2⟩
/-- from the frame and the heap behind a step to those before it -/
def xi_Sd (mi : xMi) (i : Instr) (len : Nat) (fr : xFr) (h : xHp) (fr' : xFr) (h' : xHp) : Prop :=
  ∀ (p : Program) (l : Launch) (e : Env) (R : Room) (s : State) (m : MethodId) (args : Array Value) (below : List Frame) (meth : Method) (c : Code) (Q : State → Prop) (D : va_G) (cy : Nat → ClassId) (base : Nat) (lay : Nat → Nat) (c0 w0 : Nat),
    xi_C p l s m args meth c mi D cy base lay (hL h) (hX h) → decode (xi_cc mi) fr.1 = .ok (i, len) → c0 ≤ hC h → w0 ≤ hW h → hC h' - c0 ≤ R.cells → hW h' - w0 ≤ R.slots →
    xi_W p l e R s m args below meth c mi D cy base lay c0 w0 Q fr' h' → xi_W p l e R s m args below meth c mi D cy base lay c0 w0 Q fr h
abbrev xi_Go (mi : xMi) (i : Instr) : Prop := ∀ (len pc : Nat) (lv : List (Nat × Value)) (st : List Value) (h : xHp) (fr' : xFr) (h' : xHp), xi_le i len = true → xi_s1 (xi_own mi) (xi_mL mi) ((xi_y mi).name == "<init>") i pc lv st h = some (fr', h') → xi_mo h h' ∧ xi_Sd mi i len (pc, lv, st) h fr' h'
theorem xi_goE {pc : Nat} {off : Int} {lv : List (Nat × Value)} {st : List Value} {h : xHp} {fr' : xFr} {h' : xHp} (hg : xi_go pc off lv st h = some (fr', h')) : ∃ t : Nat, (pc : Int) + off = (t : Int) ∧ fr' = (t, lv, st) ∧ h' = h := by
  unfold xi_go at hg
  by_cases hz : 0 ≤ (pc : Int) + off
  · rw [if_pos hz] at hg
    cases hg
    exact ⟨_, (Int.toNat_of_nonneg hz).symm, rfl, rfl⟩
  · rw [if_neg hz] at hg
    cases hg
def xi_tg (pc : Nat) (off : Int) : Nat := ((pc : Int) + off).toNat
theorem xi_tg_ok {pc : Nat} {off : Int} (h : 0 ≤ (pc : Int) + off) : (pc : Int) + off = (xi_tg pc off : Int) := (Int.toNat_of_nonneg h).symm
section
variable {mi : xMi}
theorem xs_iconst {n : Int} : xi_Go mi (.iconst n) := by
  intro len pc lv st h fr' h' hlen hs
  obtain rfl : len = 1 := by simpa [xi_le, xi_ln] using hlen
  simp only [xi_s1] at hs
  cases hs
  exact ⟨xi_mo.rf _, fun p l e R s m args below meth c Q D cy base lay c0 w0 C hd _ _ _ _ k H locs ls hP hZ hS hl => lv_iconst C.1 C.2.1 hd rfl (k H locs ls hP hZ hS hl)⟩
theorem xs_bipush {n : Int} : xi_Go mi (.bipush n) := by
  intro len pc lv st h fr' h' hlen hs
  obtain rfl : len = 2 := by simpa [xi_le, xi_ln] using hlen
  simp only [xi_s1] at hs
  cases hs
  exact ⟨xi_mo.rf _, fun p l e R s m args below meth c Q D cy base lay c0 w0 C hd _ _ _ _ k H locs ls hP hZ hS hl => lv_bipush C.1 C.2.1 hd rfl (k H locs ls hP hZ hS hl)⟩
theorem xs_sipush {n : Int} : xi_Go mi (.sipush n) := by
  intro len pc lv st h fr' h' hlen hs
  obtain rfl : len = 3 := by simpa [xi_le, xi_ln] using hlen
  simp only [xi_s1] at hs
  cases hs
  exact ⟨xi_mo.rf _, fun p l e R s m args below meth c Q D cy base lay c0 w0 C hd _ _ _ _ k H locs ls hP hZ hS hl => lv_sipush C.1 C.2.1 hd rfl (k H locs ls hP hZ hS hl)⟩
theorem xs_lconst {n : Fin 2} : xi_Go mi (.lconst n) := by
  intro len pc lv st h fr' h' hlen hs
  obtain rfl : len = 1 := by simpa [xi_le, xi_ln] using hlen
  simp only [xi_s1] at hs
  cases hs
  exact ⟨xi_mo.rf _, fun p l e R s m args below meth c Q D cy base lay c0 w0 C hd _ _ _ _ k H locs ls hP hZ hS hl => lv_lconst C.1 C.2.1 hd rfl (k H locs ls hP hZ hS hl)⟩
theorem xs_fconst {n : Fin 3} : xi_Go mi (.fconst n) := by
  intro len pc lv st h fr' h' hlen hs
  obtain rfl : len = 1 := by simpa [xi_le, xi_ln] using hlen
  simp only [xi_s1] at hs
  by_cases hn : n = 0
  · subst hn
    rw [if_pos rfl] at hs
    cases hs
    exact ⟨xi_mo.rf _, fun p l e R s m args below meth c Q D cy base lay c0 w0 C hd _ _ _ _ k H locs ls hP hZ hS hl => lv_fconst0 C.1 C.2.1 hd (k H locs ls hP hZ hS hl)⟩
  · rw [if_neg hn] at hs
    cases hs
theorem xs_ldc {ix : Nat} : xi_Go mi (.ldc ix) := by
  intro len pc lv st h fr' h' hlen hs
  obtain rfl : len = 2 := by simpa [xi_le, xi_ln] using hlen
  simp only [xi_s1] at hs
  cases hv : xi_a (xcl.getD (xi_own mi) []) ix with
  | none => rw [hv] at hs; cases hs
  | some v =>
    rw [hv] at hs
    cases hs
    have hw := xi_at_mem (xi_all_at ok_cl rfl hv)
    exact ⟨xi_mo.rf _, fun p l e R s m args below meth c Q D cy base lay c0 w0 C hd _ _ _ _ k H locs ls hP hZ hS hl => lv_ldc C.1 C.2.1 C.2.2.2.1 (C.2.2.2.2.1 _ hw) hd (k H locs ls hP hZ hS hl)⟩
theorem xs_ldc2 {ix : Nat} : xi_Go mi (.ldc2_w ix) := by
  intro len pc lv st h fr' h' hlen hs
  obtain rfl : len = 3 := by simpa [xi_le, xi_ln] using hlen
  simp only [xi_s1] at hs
  cases hv : xi_a (xc2.getD (xi_own mi) []) ix with
  | none => rw [hv] at hs; cases hs
  | some v =>
    rw [hv] at hs
    cases hs
    have hw := xi_at_mem (xi_all_at ok_c2 rfl hv)
    exact ⟨xi_mo.rf _, fun p l e R s m args below meth c Q D cy base lay c0 w0 C hd _ _ _ _ k H locs ls hP hZ hS hl => lv_ldc2 C.1 C.2.1 C.2.2.2.1 (C.2.2.2.2.1 _ hw) hd (k H locs ls hP hZ hS hl)⟩
theorem xs_iload_n {k : Fin 4} : xi_Go mi (.iload_n k) := by
  intro len pc lv st h fr' h' hlen hs
  obtain rfl : len = 1 := by simpa [xi_le, xi_ln] using hlen
  simp only [xi_s1, xi_ld] at hs
  cases hv : xi_a lv k with
  | none => rw [hv] at hs; cases hs
  | some v =>
    rw [hv] at hs
    by_cases hk : xi_vi v = true
    · simp only [hk, if_true] at hs
      cases hs
      cases v <;> try exact absurd hk Bool.false_ne_true
      exact ⟨xi_mo.rf _, fun p l e R s m args below meth c Q D cy base lay c0 w0 C hd _ _ _ _ k H locs ls hP hZ hS hl => lv_iload_n C.1 C.2.1 hd rfl (xi_lv_at hl hv) (k H locs ls hP hZ hS hl)⟩
    · simp only [hk] at hs
      cases hs
theorem xs_iload {k : Nat} : xi_Go mi (.iload k) := by
  intro len pc lv st h fr' h' hlen hs
  obtain rfl : len = 2 := by simpa [xi_le, xi_ln] using hlen
  simp only [xi_s1, xi_ld] at hs
  cases hv : xi_a lv k with
  | none => rw [hv] at hs; cases hs
  | some v =>
    rw [hv] at hs
    by_cases hk : xi_vi v = true
    · simp only [hk, if_true] at hs
      cases hs
      cases v <;> try exact absurd hk Bool.false_ne_true
      exact ⟨xi_mo.rf _, fun p l e R s m args below meth c Q D cy base lay c0 w0 C hd _ _ _ _ k H locs ls hP hZ hS hl => lv_iload C.1 C.2.1 hd (xi_lv_at hl hv) (k H locs ls hP hZ hS hl)⟩
    · simp only [hk] at hs
      cases hs
theorem xs_lload_n {k : Fin 4} : xi_Go mi (.lload_n k) := by
  intro len pc lv st h fr' h' hlen hs
  obtain rfl : len = 1 := by simpa [xi_le, xi_ln] using hlen
  simp only [xi_s1, xi_ld] at hs
  cases hv : xi_a lv k with
  | none => rw [hv] at hs; cases hs
  | some v =>
    rw [hv] at hs
    by_cases hk : xi_vl v = true
    · simp only [hk, if_true] at hs
      cases hs
      cases v <;> try exact absurd hk Bool.false_ne_true
      exact ⟨xi_mo.rf _, fun p l e R s m args below meth c Q D cy base lay c0 w0 C hd _ _ _ _ k H locs ls hP hZ hS hl => lv_lload_n C.1 C.2.1 hd rfl (xi_lv_at hl hv) (k H locs ls hP hZ hS hl)⟩
    · simp only [hk] at hs
      cases hs
theorem xs_lload {k : Nat} : xi_Go mi (.lload k) := by
  intro len pc lv st h fr' h' hlen hs
  obtain rfl : len = 2 := by simpa [xi_le, xi_ln] using hlen
  simp only [xi_s1, xi_ld] at hs
  cases hv : xi_a lv k with
  | none => rw [hv] at hs; cases hs
  | some v =>
    rw [hv] at hs
    by_cases hk : xi_vl v = true
    · simp only [hk, if_true] at hs
      cases hs
      cases v <;> try exact absurd hk Bool.false_ne_true
      exact ⟨xi_mo.rf _, fun p l e R s m args below meth c Q D cy base lay c0 w0 C hd _ _ _ _ k H locs ls hP hZ hS hl => lv_lload C.1 C.2.1 hd (xi_lv_at hl hv) (k H locs ls hP hZ hS hl)⟩
    · simp only [hk] at hs
      cases hs
theorem xs_fload_n {k : Fin 4} : xi_Go mi (.fload_n k) := by
  intro len pc lv st h fr' h' hlen hs
  obtain rfl : len = 1 := by simpa [xi_le, xi_ln] using hlen
  simp only [xi_s1, xi_ld] at hs
  cases hv : xi_a lv k with
  | none => rw [hv] at hs; cases hs
  | some v =>
    rw [hv] at hs
    by_cases hk : xi_vf v = true
    · simp only [hk, if_true] at hs
      cases hs
      cases v <;> try exact absurd hk Bool.false_ne_true
      exact ⟨xi_mo.rf _, fun p l e R s m args below meth c Q D cy base lay c0 w0 C hd _ _ _ _ k H locs ls hP hZ hS hl => lv_fload_n C.1 C.2.1 hd rfl (xi_lv_at hl hv) (k H locs ls hP hZ hS hl)⟩
    · simp only [hk] at hs
      cases hs
theorem xs_dload {k : Nat} : xi_Go mi (.dload k) := by
  intro len pc lv st h fr' h' hlen hs
  obtain rfl : len = 2 := by simpa [xi_le, xi_ln] using hlen
  simp only [xi_s1, xi_ld] at hs
  cases hv : xi_a lv k with
  | none => rw [hv] at hs; cases hs
  | some v =>
    rw [hv] at hs
    by_cases hk : xi_vd v = true
    · simp only [hk, if_true] at hs
      cases hs
      cases v <;> try exact absurd hk Bool.false_ne_true
      exact ⟨xi_mo.rf _, fun p l e R s m args below meth c Q D cy base lay c0 w0 C hd _ _ _ _ k H locs ls hP hZ hS hl => lv_dload C.1 C.2.1 hd (xi_lv_at hl hv) (k H locs ls hP hZ hS hl)⟩
    · simp only [hk] at hs
      cases hs
theorem xs_aload_n {k : Fin 4} : xi_Go mi (.aload_n k) := by
  intro len pc lv st h fr' h' hlen hs
  obtain rfl : len = 1 := by simpa [xi_le, xi_ln] using hlen
  simp only [xi_s1, xi_ld] at hs
  cases hv : xi_a lv k with
  | none => rw [hv] at hs; cases hs
  | some v =>
    rw [hv] at hs
    by_cases hk : xi_va v = true
    · simp only [hk, if_true] at hs
      cases hs
      cases v <;> try exact absurd hk Bool.false_ne_true
      exact ⟨xi_mo.rf _, fun p l e R s m args below meth c Q D cy base lay c0 w0 C hd _ _ _ _ k H locs ls hP hZ hS hl => lv_aload_n C.1 C.2.1 hd rfl (xi_lv_at hl hv) (k H locs ls hP hZ hS hl)⟩
    · simp only [hk] at hs
      cases hs
theorem xs_aload {k : Nat} : xi_Go mi (.aload k) := by
  intro len pc lv st h fr' h' hlen hs
  obtain rfl : len = 2 := by simpa [xi_le, xi_ln] using hlen
  simp only [xi_s1, xi_ld] at hs
  cases hv : xi_a lv k with
  | none => rw [hv] at hs; cases hs
  | some v =>
    rw [hv] at hs
    by_cases hk : xi_va v = true
    · simp only [hk, if_true] at hs
      cases hs
      cases v <;> try exact absurd hk Bool.false_ne_true
      exact ⟨xi_mo.rf _, fun p l e R s m args below meth c Q D cy base lay c0 w0 C hd _ _ _ _ k H locs ls hP hZ hS hl => lv_aload C.1 C.2.1 hd (xi_lv_at hl hv) (k H locs ls hP hZ hS hl)⟩
    · simp only [hk] at hs
      cases hs
theorem xs_istore_n {k : Fin 4} : xi_Go mi (.istore_n k) := by
  intro len pc lv st h fr' h' hlen hs
  obtain rfl : len = 1 := by simpa [xi_le, xi_ln] using hlen
  simp only [xi_s1, xi_s1s] at hs
  cases st with
  | nil => cases hs
  | cons v r =>
    dsimp only at hs
    split at hs
    · next hk =>
      cases hs
      obtain ⟨hk, hn⟩ := hk
      cases v <;> try exact absurd hk Bool.false_ne_true
      exact ⟨xi_mo.rf _, fun p l e R s m args below meth c Q D cy base lay c0 w0 C hd _ _ _ _ kk H locs ls hP hZ hS hl => lv_istore_n C.1 C.2.1 hd rfl hl hn (xi_lv_p1 (lay := lay) lv _ (.int _)) (fun ls' hl' => kk H locs ls' hP hZ hS hl')⟩
    · cases hs
theorem xs_istore {k : Nat} : xi_Go mi (.istore k) := by
  intro len pc lv st h fr' h' hlen hs
  obtain rfl : len = 2 := by simpa [xi_le, xi_ln] using hlen
  simp only [xi_s1, xi_s1s] at hs
  cases st with
  | nil => cases hs
  | cons v r =>
    dsimp only at hs
    split at hs
    · next hk =>
      cases hs
      obtain ⟨hk, hn⟩ := hk
      cases v <;> try exact absurd hk Bool.false_ne_true
      exact ⟨xi_mo.rf _, fun p l e R s m args below meth c Q D cy base lay c0 w0 C hd _ _ _ _ kk H locs ls hP hZ hS hl => lv_istore C.1 C.2.1 hd hl hn (xi_lv_p1 (lay := lay) lv _ (.int _)) (fun ls' hl' => kk H locs ls' hP hZ hS hl')⟩
    · cases hs
theorem xs_fstore_n {k : Fin 4} : xi_Go mi (.fstore_n k) := by
  intro len pc lv st h fr' h' hlen hs
  obtain rfl : len = 1 := by simpa [xi_le, xi_ln] using hlen
  simp only [xi_s1, xi_s1s] at hs
  cases st with
  | nil => cases hs
  | cons v r =>
    dsimp only at hs
    split at hs
    · next hk =>
      cases hs
      obtain ⟨hk, hn⟩ := hk
      cases v <;> try exact absurd hk Bool.false_ne_true
      exact ⟨xi_mo.rf _, fun p l e R s m args below meth c Q D cy base lay c0 w0 C hd _ _ _ _ kk H locs ls hP hZ hS hl => lv_fstore_n C.1 C.2.1 hd rfl hl hn (xi_lv_p1 (lay := lay) lv _ (.float _)) (fun ls' hl' => kk H locs ls' hP hZ hS hl')⟩
    · cases hs
theorem xs_astore_n {k : Fin 4} : xi_Go mi (.astore_n k) := by
  intro len pc lv st h fr' h' hlen hs
  obtain rfl : len = 1 := by simpa [xi_le, xi_ln] using hlen
  simp only [xi_s1, xi_s1s] at hs
  cases st with
  | nil => cases hs
  | cons v r =>
    dsimp only at hs
    split at hs
    · next hk =>
      cases hs
      obtain ⟨hk, hn⟩ := hk
      cases v <;> try exact absurd hk Bool.false_ne_true
      exact ⟨xi_mo.rf _, fun p l e R s m args below meth c Q D cy base lay c0 w0 C hd _ _ _ _ kk H locs ls hP hZ hS hl => lv_astore_n C.1 C.2.1 hd rfl hl hn (xi_lv_p1 (lay := lay) lv _ (.ref _)) (fun ls' hl' => kk H locs ls' hP hZ hS hl')⟩
    · cases hs
theorem xs_astore {k : Nat} : xi_Go mi (.astore k) := by
  intro len pc lv st h fr' h' hlen hs
  obtain rfl : len = 2 := by simpa [xi_le, xi_ln] using hlen
  simp only [xi_s1, xi_s1s] at hs
  cases st with
  | nil => cases hs
  | cons v r =>
    dsimp only at hs
    split at hs
    · next hk =>
      cases hs
      obtain ⟨hk, hn⟩ := hk
      cases v <;> try exact absurd hk Bool.false_ne_true
      exact ⟨xi_mo.rf _, fun p l e R s m args below meth c Q D cy base lay c0 w0 C hd _ _ _ _ kk H locs ls hP hZ hS hl => lv_astore C.1 C.2.1 hd hl hn (xi_lv_p1 (lay := lay) lv _ (.ref _)) (fun ls' hl' => kk H locs ls' hP hZ hS hl')⟩
    · cases hs
theorem xs_lstore_n {k : Fin 4} : xi_Go mi (.lstore_n k) := by
  intro len pc lv st h fr' h' hlen hs
  obtain rfl : len = 1 := by simpa [xi_le, xi_ln] using hlen
  simp only [xi_s1, xi_s2s] at hs
  cases st with
  | nil => cases hs
  | cons v r =>
    dsimp only at hs
    split at hs
    · next hk =>
      cases hs
      obtain ⟨hk, hn⟩ := hk
      cases v <;> try exact absurd hk Bool.false_ne_true
      exact ⟨xi_mo.rf _, fun p l e R s m args below meth c Q D cy base lay c0 w0 C hd _ _ _ _ kk H locs ls hP hZ hS hl => lv_lstore_n C.1 C.2.1 hd rfl hl hn (xi_lv_p2 (lay := lay) lv _ (.long _)) (fun ls' hl' => kk H locs ls' hP hZ hS hl')⟩
    · cases hs
theorem xs_lstore {k : Nat} : xi_Go mi (.lstore k) := by
  intro len pc lv st h fr' h' hlen hs
  obtain rfl : len = 2 := by simpa [xi_le, xi_ln] using hlen
  simp only [xi_s1, xi_s2s] at hs
  cases st with
  | nil => cases hs
  | cons v r =>
    dsimp only at hs
    split at hs
    · next hk =>
      cases hs
      obtain ⟨hk, hn⟩ := hk
      cases v <;> try exact absurd hk Bool.false_ne_true
      exact ⟨xi_mo.rf _, fun p l e R s m args below meth c Q D cy base lay c0 w0 C hd _ _ _ _ kk H locs ls hP hZ hS hl => lv_lstore C.1 C.2.1 hd hl hn (xi_lv_p2 (lay := lay) lv _ (.long _)) (fun ls' hl' => kk H locs ls' hP hZ hS hl')⟩
    · cases hs
theorem xs_dstore {k : Nat} : xi_Go mi (.dstore k) := by
  intro len pc lv st h fr' h' hlen hs
  obtain rfl : len = 2 := by simpa [xi_le, xi_ln] using hlen
  simp only [xi_s1, xi_s2s] at hs
  cases st with
  | nil => cases hs
  | cons v r =>
    dsimp only at hs
    split at hs
    · next hk =>
      cases hs
      obtain ⟨hk, hn⟩ := hk
      cases v <;> try exact absurd hk Bool.false_ne_true
      exact ⟨xi_mo.rf _, fun p l e R s m args below meth c Q D cy base lay c0 w0 C hd _ _ _ _ kk H locs ls hP hZ hS hl => lv_dstore C.1 C.2.1 hd hl hn (xi_lv_p2 (lay := lay) lv _ (.double _)) (fun ls' hl' => kk H locs ls' hP hZ hS hl')⟩
    · cases hs
theorem xs_iinc {k : Nat} {n : Int} : xi_Go mi (.iinc k n) := by
  intro len pc lv st h fr' h' hlen hs
  obtain rfl : len = 3 := by simpa [xi_le, xi_ln] using hlen
  simp only [xi_s1] at hs
  split at hs
  · next x hv =>
    split at hs
    · next hn =>
      cases hs
      refine ⟨xi_mo.rf _, fun p l e R s m args below meth c Q D cy base lay c0 w0 C hd _ _ _ _ kk H locs ls hP hZ hS hl => ?_⟩
      obtain ⟨j, hj⟩ := List.getElem?_of_mem (List.mem_map.mpr ⟨(k, Value.int x), xi_a_mem _ _ _ hv, rfl⟩ : (k, xi_tv lay (.int x)) ∈ xi_lv lay lv)
      exact lv_iinc C.1 C.2.1 hd hl hj rfl hn (xi_lv_p1 (lay := lay) lv _ (.int _)) (fun ls' hl' => kk H locs ls' hP hZ hS hl')
    · cases hs
  · cases hs
theorem xs_iadd  : xi_Go mi (.iadd) := by
  intro len pc lv st h fr' h' hlen hs
  obtain rfl : len = 1 := by simpa [xi_le, xi_ln] using hlen
  simp only [xi_s1, xi_ii] at hs
  split at hs
  · cases hs
    exact ⟨xi_mo.rf _, fun p l e R s m args below meth c Q D cy base lay c0 w0 C hd _ _ _ _ k H locs ls hP hZ hS hl => lv_iadd C.1 C.2.1 hd (k H locs ls hP hZ hS hl)⟩
  · cases hs
theorem xs_isub  : xi_Go mi (.isub) := by
  intro len pc lv st h fr' h' hlen hs
  obtain rfl : len = 1 := by simpa [xi_le, xi_ln] using hlen
  simp only [xi_s1, xi_ii] at hs
  split at hs
  · cases hs
    exact ⟨xi_mo.rf _, fun p l e R s m args below meth c Q D cy base lay c0 w0 C hd _ _ _ _ k H locs ls hP hZ hS hl => lv_isub C.1 C.2.1 hd (k H locs ls hP hZ hS hl)⟩
  · cases hs
theorem xs_imul  : xi_Go mi (.imul) := by
  intro len pc lv st h fr' h' hlen hs
  obtain rfl : len = 1 := by simpa [xi_le, xi_ln] using hlen
  simp only [xi_s1, xi_ii] at hs
  split at hs
  · cases hs
    exact ⟨xi_mo.rf _, fun p l e R s m args below meth c Q D cy base lay c0 w0 C hd _ _ _ _ k H locs ls hP hZ hS hl => lv_imul C.1 C.2.1 hd (k H locs ls hP hZ hS hl)⟩
  · cases hs
theorem xs_iand  : xi_Go mi (.iand) := by
  intro len pc lv st h fr' h' hlen hs
  obtain rfl : len = 1 := by simpa [xi_le, xi_ln] using hlen
  simp only [xi_s1, xi_ii] at hs
  split at hs
  · cases hs
    exact ⟨xi_mo.rf _, fun p l e R s m args below meth c Q D cy base lay c0 w0 C hd _ _ _ _ k H locs ls hP hZ hS hl => lv_iand C.1 C.2.1 hd (k H locs ls hP hZ hS hl)⟩
  · cases hs
theorem xs_ior  : xi_Go mi (.ior) := by
  intro len pc lv st h fr' h' hlen hs
  obtain rfl : len = 1 := by simpa [xi_le, xi_ln] using hlen
  simp only [xi_s1, xi_ii] at hs
  split at hs
  · cases hs
    exact ⟨xi_mo.rf _, fun p l e R s m args below meth c Q D cy base lay c0 w0 C hd _ _ _ _ k H locs ls hP hZ hS hl => lv_ior C.1 C.2.1 hd (k H locs ls hP hZ hS hl)⟩
  · cases hs
theorem xs_ixor  : xi_Go mi (.ixor) := by
  intro len pc lv st h fr' h' hlen hs
  obtain rfl : len = 1 := by simpa [xi_le, xi_ln] using hlen
  simp only [xi_s1, xi_ii] at hs
  split at hs
  · cases hs
    exact ⟨xi_mo.rf _, fun p l e R s m args below meth c Q D cy base lay c0 w0 C hd _ _ _ _ k H locs ls hP hZ hS hl => lv_ixor C.1 C.2.1 hd (k H locs ls hP hZ hS hl)⟩
  · cases hs
theorem xs_ishl  : xi_Go mi (.ishl) := by
  intro len pc lv st h fr' h' hlen hs
  obtain rfl : len = 1 := by simpa [xi_le, xi_ln] using hlen
  simp only [xi_s1, xi_ii] at hs
  split at hs
  · cases hs
    exact ⟨xi_mo.rf _, fun p l e R s m args below meth c Q D cy base lay c0 w0 C hd _ _ _ _ k H locs ls hP hZ hS hl => lv_ishl C.1 C.2.1 hd (k H locs ls hP hZ hS hl)⟩
  · cases hs
theorem xs_ishr  : xi_Go mi (.ishr) := by
  intro len pc lv st h fr' h' hlen hs
  obtain rfl : len = 1 := by simpa [xi_le, xi_ln] using hlen
  simp only [xi_s1, xi_ii] at hs
  split at hs
  · cases hs
    exact ⟨xi_mo.rf _, fun p l e R s m args below meth c Q D cy base lay c0 w0 C hd _ _ _ _ k H locs ls hP hZ hS hl => lv_ishr C.1 C.2.1 hd (k H locs ls hP hZ hS hl)⟩
  · cases hs
theorem xs_iushr  : xi_Go mi (.iushr) := by
  intro len pc lv st h fr' h' hlen hs
  obtain rfl : len = 1 := by simpa [xi_le, xi_ln] using hlen
  simp only [xi_s1, xi_ii] at hs
  split at hs
  · cases hs
    exact ⟨xi_mo.rf _, fun p l e R s m args below meth c Q D cy base lay c0 w0 C hd _ _ _ _ k H locs ls hP hZ hS hl => lv_iushr C.1 C.2.1 hd rfl (k H locs ls hP hZ hS hl)⟩
  · cases hs
theorem xs_idiv  : xi_Go mi (.idiv) := by
  intro len pc lv st h fr' h' hlen hs
  obtain rfl : len = 1 := by simpa [xi_le, xi_ln] using hlen
  simp only [xi_s1] at hs
  split at hs
  · split at hs
    · cases hs
    · next hn =>
      cases hs
      exact ⟨xi_mo.rf _, fun p l e R s m args below meth c Q D cy base lay c0 w0 C hd _ _ _ _ k H locs ls hP hZ hS hl => lv_idiv C.1 C.2.1 hd hn (k H locs ls hP hZ hS hl)⟩
  · cases hs
theorem xs_irem  : xi_Go mi (.irem) := by
  intro len pc lv st h fr' h' hlen hs
  obtain rfl : len = 1 := by simpa [xi_le, xi_ln] using hlen
  simp only [xi_s1] at hs
  split at hs
  · split at hs
    · cases hs
    · next hn =>
      cases hs
      exact ⟨xi_mo.rf _, fun p l e R s m args below meth c Q D cy base lay c0 w0 C hd _ _ _ _ k H locs ls hP hZ hS hl => lv_irem C.1 C.2.1 hd hn (k H locs ls hP hZ hS hl)⟩
  · cases hs
theorem xs_lrem  : xi_Go mi (.lrem) := by
  intro len pc lv st h fr' h' hlen hs
  obtain rfl : len = 1 := by simpa [xi_le, xi_ln] using hlen
  simp only [xi_s1] at hs
  split at hs
  · split at hs
    · cases hs
    · next hn =>
      cases hs
      exact ⟨xi_mo.rf _, fun p l e R s m args below meth c Q D cy base lay c0 w0 C hd _ _ _ _ k H locs ls hP hZ hS hl => lv_lrem C.1 C.2.1 hd hn (k H locs ls hP hZ hS hl)⟩
  · cases hs
theorem xs_lmul  : xi_Go mi (.lmul) := by
  intro len pc lv st h fr' h' hlen hs
  obtain rfl : len = 1 := by simpa [xi_le, xi_ln] using hlen
  simp only [xi_s1] at hs
  split at hs
  · cases hs
    exact ⟨xi_mo.rf _, fun p l e R s m args below meth c Q D cy base lay c0 w0 C hd _ _ _ _ k H locs ls hP hZ hS hl => lv_lmul C.1 C.2.1 hd (k H locs ls hP hZ hS hl)⟩
  · cases hs
theorem xs_lcmp  : xi_Go mi (.lcmp) := by
  intro len pc lv st h fr' h' hlen hs
  obtain rfl : len = 1 := by simpa [xi_le, xi_ln] using hlen
  simp only [xi_s1] at hs
  split at hs
  · cases hs
    exact ⟨xi_mo.rf _, fun p l e R s m args below meth c Q D cy base lay c0 w0 C hd _ _ _ _ k H locs ls hP hZ hS hl => W.lcmp C.1 C.2.1 hd (k H locs ls hP hZ hS hl)⟩
  · cases hs
theorem xs_i2l  : xi_Go mi (.i2l) := by
  intro len pc lv st h fr' h' hlen hs
  obtain rfl : len = 1 := by simpa [xi_le, xi_ln] using hlen
  simp only [xi_s1] at hs
  split at hs
  · cases hs
    exact ⟨xi_mo.rf _, fun p l e R s m args below meth c Q D cy base lay c0 w0 C hd _ _ _ _ k H locs ls hP hZ hS hl => lv_i2l C.1 C.2.1 hd rfl (k H locs ls hP hZ hS hl)⟩
  · cases hs
theorem xs_l2i  : xi_Go mi (.l2i) := by
  intro len pc lv st h fr' h' hlen hs
  obtain rfl : len = 1 := by simpa [xi_le, xi_ln] using hlen
  simp only [xi_s1] at hs
  split at hs
  · cases hs
    exact ⟨xi_mo.rf _, fun p l e R s m args below meth c Q D cy base lay c0 w0 C hd _ _ _ _ k H locs ls hP hZ hS hl => lv_l2i C.1 C.2.1 hd rfl (k H locs ls hP hZ hS hl)⟩
  · cases hs
theorem xs_i2f  : xi_Go mi (.i2f) := by
  intro len pc lv st h fr' h' hlen hs
  obtain rfl : len = 1 := by simpa [xi_le, xi_ln] using hlen
  simp only [xi_s1] at hs
  split at hs
  · cases hs
    exact ⟨xi_mo.rf _, fun p l e R s m args below meth c Q D cy base lay c0 w0 C hd _ _ _ _ k H locs ls hP hZ hS hl => lv_i2f C.1 C.2.1 hd (k H locs ls hP hZ hS hl)⟩
  · cases hs
theorem xs_dcmp {op : CmpOp} : xi_Go mi (.dcmp op) := by
  intro len pc lv st h fr' h' hlen hs
  obtain rfl : len = 1 := by simpa [xi_le, xi_ln] using hlen
  simp only [xi_s1] at hs
  split at hs
  · cases hs
    exact ⟨xi_mo.rf _, fun p l e R s m args below meth c Q D cy base lay c0 w0 C hd _ _ _ _ k H locs ls hP hZ hS hl => lv_dcmp C.1 C.2.1 hd (k H locs ls hP hZ hS hl)⟩
  · cases hs
theorem xs_fdiv  : xi_Go mi (.fdiv) := by
  intro len pc lv st h fr' h' hlen hs
  obtain rfl : len = 1 := by simpa [xi_le, xi_ln] using hlen
  simp only [xi_s1] at hs
  split at hs
  · split at hs
    · next hn =>
      cases hs
      exact ⟨xi_mo.rf _, fun p l e R s m args below meth c Q D cy base lay c0 w0 C hd _ _ _ _ k H locs ls hP hZ hS hl => lv_fdiv C.1 C.2.1 hd hn (k H locs ls hP hZ hS hl)⟩
    · cases hs
  · cases hs
theorem xs_f2d  : xi_Go mi (.f2d) := by
  intro len pc lv st h fr' h' hlen hs
  obtain rfl : len = 1 := by simpa [xi_le, xi_ln] using hlen
  simp only [xi_s1] at hs
  split at hs
  · split at hs
    · next hn =>
      cases hs
      exact ⟨xi_mo.rf _, fun p l e R s m args below meth c Q D cy base lay c0 w0 C hd _ _ _ _ k H locs ls hP hZ hS hl => lv_f2d C.1 C.2.1 hd hn (k H locs ls hP hZ hS hl)⟩
    · cases hs
  · cases hs
theorem xs_dup  : xi_Go mi (.dup) := by
  intro len pc lv st h fr' h' hlen hs
  obtain rfl : len = 1 := by simpa [xi_le, xi_ln] using hlen
  simp only [xi_s1] at hs
  split at hs
  · split at hs
    · next hn =>
      cases hs
      exact ⟨xi_mo.rf _, fun p l e R s m args below meth c Q D cy base lay c0 w0 C hd _ _ _ _ k H locs ls hP hZ hS hl => lv_dup C.1 C.2.1 hd ((xi_tv_cat _ _).trans hn) (k H locs ls hP hZ hS hl)⟩
    · cases hs
  · cases hs
theorem xs_pop  : xi_Go mi (.pop) := by
  intro len pc lv st h fr' h' hlen hs
  obtain rfl : len = 1 := by simpa [xi_le, xi_ln] using hlen
  simp only [xi_s1] at hs
  split at hs
  · split at hs
    · next hn =>
      cases hs
      exact ⟨xi_mo.rf _, fun p l e R s m args below meth c Q D cy base lay c0 w0 C hd _ _ _ _ k H locs ls hP hZ hS hl => lv_pop C.1 C.2.1 hd ((xi_tv_cat _ _).trans hn) (k H locs ls hP hZ hS hl)⟩
    · cases hs
  · cases hs
theorem xs_dup2  : xi_Go mi (.dup2) := by
  intro len pc lv st h fr' h' hlen hs
  obtain rfl : len = 1 := by simpa [xi_le, xi_ln] using hlen
  simp only [xi_s1] at hs
  split at hs
  · split at hs
    · next hn =>
      cases hs
      exact ⟨xi_mo.rf _, fun p l e R s m args below meth c Q D cy base lay c0 w0 C hd _ _ _ _ k H locs ls hP hZ hS hl => lv_dup2_11 C.1 C.2.1 hd ((xi_tv_cat _ _).trans hn.1) ((xi_tv_cat _ _).trans hn.2) (k H locs ls hP hZ hS hl)⟩
    · cases hs
  · cases hs
theorem xs_goto {off : Int} : xi_Go mi (.goto off) := by
  intro len pc lv st h fr' h' hlen hs
  obtain rfl : len = 3 := by simpa [xi_le, xi_ln] using hlen
  simp only [xi_s1] at hs
  obtain ⟨t, ht, rfl, rfl⟩ := xi_goE hs
  exact ⟨xi_mo.rf _, fun p l e R s m args below meth c Q D cy base lay c0 w0 C hd _ _ _ _ k H locs ls hP hZ hS hl => lv_goto C.1 C.2.1 hd ht (k H locs ls hP hZ hS hl)⟩
theorem xs_if_eq {off : Int} : ∀ (len pc : Nat) (lv : List (Nat × Value)) (st : List Value) (h : xHp) (fr' : xFr) (h' : xHp), 0 ≤ (pc : Int) + off → xi_le (.ifCond .eq off) len = true → xi_s1 (xi_own mi) (xi_mL mi) ((xi_y mi).name == "<init>") (.ifCond .eq off) pc lv st h = some (fr', h') → xi_mo h h' ∧ xi_Sd mi (.ifCond .eq off) len (pc, lv, st) h fr' h' := by
  intro len pc lv st h fr' h' ho hlen hs
  obtain rfl : len = 3 := by simpa [xi_le, xi_ln] using hlen
  simp only [xi_s1, xi_ifc] at hs
  split at hs
  · next x r =>
    by_cases hc : x = (0 : Int32)
    · rw [if_pos hc] at hs
      obtain ⟨t, ht, rfl, rfl⟩ := xi_goE hs
      exact ⟨xi_mo.rf _, fun p l e R s m args below meth c Q D cy base lay c0 w0 C hd _ _ _ _ k H locs ls hP hZ hS hl => lv_if_eq C.1 C.2.1 hd ht (fun _ => k H locs ls hP hZ hS hl) (fun hn => absurd hc hn)⟩
    · rw [if_neg hc] at hs
      cases hs
      exact ⟨xi_mo.rf _, fun p l e R s m args below meth c Q D cy base lay c0 w0 C hd _ _ _ _ k H locs ls hP hZ hS hl => lv_if_eq (tgt := xi_tg pc off) C.1 C.2.1 hd (xi_tg_ok ho) (fun hn => absurd hn hc) (fun _ => k H locs ls hP hZ hS hl)⟩
  · cases hs
theorem xs_if_ne {off : Int} : ∀ (len pc : Nat) (lv : List (Nat × Value)) (st : List Value) (h : xHp) (fr' : xFr) (h' : xHp), 0 ≤ (pc : Int) + off → xi_le (.ifCond .ne off) len = true → xi_s1 (xi_own mi) (xi_mL mi) ((xi_y mi).name == "<init>") (.ifCond .ne off) pc lv st h = some (fr', h') → xi_mo h h' ∧ xi_Sd mi (.ifCond .ne off) len (pc, lv, st) h fr' h' := by
  intro len pc lv st h fr' h' ho hlen hs
  obtain rfl : len = 3 := by simpa [xi_le, xi_ln] using hlen
  simp only [xi_s1, xi_ifc] at hs
  split at hs
  · next x r =>
    by_cases hc : x = (0 : Int32)
    · rw [if_pos hc] at hs
      cases hs
      exact ⟨xi_mo.rf _, fun p l e R s m args below meth c Q D cy base lay c0 w0 C hd _ _ _ _ k H locs ls hP hZ hS hl => lv_if_ne (tgt := xi_tg pc off) C.1 C.2.1 hd (xi_tg_ok ho) (fun hn => absurd hc hn) (fun _ => k H locs ls hP hZ hS hl)⟩
    · rw [if_neg hc] at hs
      obtain ⟨t, ht, rfl, rfl⟩ := xi_goE hs
      exact ⟨xi_mo.rf _, fun p l e R s m args below meth c Q D cy base lay c0 w0 C hd _ _ _ _ k H locs ls hP hZ hS hl => lv_if_ne C.1 C.2.1 hd ht (fun _ => k H locs ls hP hZ hS hl) (fun hn => absurd hn hc)⟩
  · cases hs
theorem xs_if_lt {off : Int} : ∀ (len pc : Nat) (lv : List (Nat × Value)) (st : List Value) (h : xHp) (fr' : xFr) (h' : xHp), 0 ≤ (pc : Int) + off → xi_le (.ifCond .lt off) len = true → xi_s1 (xi_own mi) (xi_mL mi) ((xi_y mi).name == "<init>") (.ifCond .lt off) pc lv st h = some (fr', h') → xi_mo h h' ∧ xi_Sd mi (.ifCond .lt off) len (pc, lv, st) h fr' h' := by
  intro len pc lv st h fr' h' ho hlen hs
  obtain rfl : len = 3 := by simpa [xi_le, xi_ln] using hlen
  simp only [xi_s1, xi_ifc] at hs
  split at hs
  · next x r =>
    by_cases hc : x < (0 : Int32)
    · rw [if_pos hc] at hs
      obtain ⟨t, ht, rfl, rfl⟩ := xi_goE hs
      exact ⟨xi_mo.rf _, fun p l e R s m args below meth c Q D cy base lay c0 w0 C hd _ _ _ _ k H locs ls hP hZ hS hl => lv_if_lt C.1 C.2.1 hd ht (fun _ => k H locs ls hP hZ hS hl) (fun hn => absurd hc hn)⟩
    · rw [if_neg hc] at hs
      cases hs
      exact ⟨xi_mo.rf _, fun p l e R s m args below meth c Q D cy base lay c0 w0 C hd _ _ _ _ k H locs ls hP hZ hS hl => lv_if_lt (tgt := xi_tg pc off) C.1 C.2.1 hd (xi_tg_ok ho) (fun hn => absurd hn hc) (fun _ => k H locs ls hP hZ hS hl)⟩
  · cases hs
theorem xs_if_ge {off : Int} : ∀ (len pc : Nat) (lv : List (Nat × Value)) (st : List Value) (h : xHp) (fr' : xFr) (h' : xHp), 0 ≤ (pc : Int) + off → xi_le (.ifCond .ge off) len = true → xi_s1 (xi_own mi) (xi_mL mi) ((xi_y mi).name == "<init>") (.ifCond .ge off) pc lv st h = some (fr', h') → xi_mo h h' ∧ xi_Sd mi (.ifCond .ge off) len (pc, lv, st) h fr' h' := by
  intro len pc lv st h fr' h' ho hlen hs
  obtain rfl : len = 3 := by simpa [xi_le, xi_ln] using hlen
  simp only [xi_s1, xi_ifc] at hs
  split at hs
  · next x r =>
    by_cases hc : (0 : Int32) ≤ x
    · rw [if_pos hc] at hs
      obtain ⟨t, ht, rfl, rfl⟩ := xi_goE hs
      exact ⟨xi_mo.rf _, fun p l e R s m args below meth c Q D cy base lay c0 w0 C hd _ _ _ _ k H locs ls hP hZ hS hl => lv_if_ge C.1 C.2.1 hd ht (fun _ => k H locs ls hP hZ hS hl) (fun hn => absurd hc hn)⟩
    · rw [if_neg hc] at hs
      cases hs
      exact ⟨xi_mo.rf _, fun p l e R s m args below meth c Q D cy base lay c0 w0 C hd _ _ _ _ k H locs ls hP hZ hS hl => lv_if_ge (tgt := xi_tg pc off) C.1 C.2.1 hd (xi_tg_ok ho) (fun hn => absurd hn hc) (fun _ => k H locs ls hP hZ hS hl)⟩
  · cases hs
theorem xs_if_gt {off : Int} : ∀ (len pc : Nat) (lv : List (Nat × Value)) (st : List Value) (h : xHp) (fr' : xFr) (h' : xHp), 0 ≤ (pc : Int) + off → xi_le (.ifCond .gt off) len = true → xi_s1 (xi_own mi) (xi_mL mi) ((xi_y mi).name == "<init>") (.ifCond .gt off) pc lv st h = some (fr', h') → xi_mo h h' ∧ xi_Sd mi (.ifCond .gt off) len (pc, lv, st) h fr' h' := by
  intro len pc lv st h fr' h' ho hlen hs
  obtain rfl : len = 3 := by simpa [xi_le, xi_ln] using hlen
  simp only [xi_s1, xi_ifc] at hs
  split at hs
  · next x r =>
    by_cases hc : (0 : Int32) < x
    · rw [if_pos hc] at hs
      obtain ⟨t, ht, rfl, rfl⟩ := xi_goE hs
      exact ⟨xi_mo.rf _, fun p l e R s m args below meth c Q D cy base lay c0 w0 C hd _ _ _ _ k H locs ls hP hZ hS hl => lv_if_gt C.1 C.2.1 hd ht (fun _ => k H locs ls hP hZ hS hl) (fun hn => absurd hc hn)⟩
    · rw [if_neg hc] at hs
      cases hs
      exact ⟨xi_mo.rf _, fun p l e R s m args below meth c Q D cy base lay c0 w0 C hd _ _ _ _ k H locs ls hP hZ hS hl => lv_if_gt (tgt := xi_tg pc off) C.1 C.2.1 hd (xi_tg_ok ho) (fun hn => absurd hn hc) (fun _ => k H locs ls hP hZ hS hl)⟩
  · cases hs
theorem xs_if_le {off : Int} : ∀ (len pc : Nat) (lv : List (Nat × Value)) (st : List Value) (h : xHp) (fr' : xFr) (h' : xHp), 0 ≤ (pc : Int) + off → xi_le (.ifCond .le off) len = true → xi_s1 (xi_own mi) (xi_mL mi) ((xi_y mi).name == "<init>") (.ifCond .le off) pc lv st h = some (fr', h') → xi_mo h h' ∧ xi_Sd mi (.ifCond .le off) len (pc, lv, st) h fr' h' := by
  intro len pc lv st h fr' h' ho hlen hs
  obtain rfl : len = 3 := by simpa [xi_le, xi_ln] using hlen
  simp only [xi_s1, xi_ifc] at hs
  split at hs
  · next x r =>
    by_cases hc : x ≤ (0 : Int32)
    · rw [if_pos hc] at hs
      obtain ⟨t, ht, rfl, rfl⟩ := xi_goE hs
      exact ⟨xi_mo.rf _, fun p l e R s m args below meth c Q D cy base lay c0 w0 C hd _ _ _ _ k H locs ls hP hZ hS hl => lv_if_le C.1 C.2.1 hd ht (fun _ => k H locs ls hP hZ hS hl) (fun hn => absurd hc hn)⟩
    · rw [if_neg hc] at hs
      cases hs
      exact ⟨xi_mo.rf _, fun p l e R s m args below meth c Q D cy base lay c0 w0 C hd _ _ _ _ k H locs ls hP hZ hS hl => lv_if_le (tgt := xi_tg pc off) C.1 C.2.1 hd (xi_tg_ok ho) (fun hn => absurd hn hc) (fun _ => k H locs ls hP hZ hS hl)⟩
  · cases hs
theorem xs_icmp_eq {off : Int} : ∀ (len pc : Nat) (lv : List (Nat × Value)) (st : List Value) (h : xHp) (fr' : xFr) (h' : xHp), 0 ≤ (pc : Int) + off → xi_le (.if_icmp .eq off) len = true → xi_s1 (xi_own mi) (xi_mL mi) ((xi_y mi).name == "<init>") (.if_icmp .eq off) pc lv st h = some (fr', h') → xi_mo h h' ∧ xi_Sd mi (.if_icmp .eq off) len (pc, lv, st) h fr' h' := by
  intro len pc lv st h fr' h' ho hlen hs
  obtain rfl : len = 3 := by simpa [xi_le, xi_ln] using hlen
  simp only [xi_s1, xi_ifc] at hs
  split at hs
  · next y x r =>
    by_cases hc : x = y
    · rw [if_pos hc] at hs
      obtain ⟨t, ht, rfl, rfl⟩ := xi_goE hs
      exact ⟨xi_mo.rf _, fun p l e R s m args below meth c Q D cy base lay c0 w0 C hd _ _ _ _ k H locs ls hP hZ hS hl => lv_icmp_eq C.1 C.2.1 hd ht (fun _ => k H locs ls hP hZ hS hl) (fun hn => absurd hc hn)⟩
    · rw [if_neg hc] at hs
      cases hs
      exact ⟨xi_mo.rf _, fun p l e R s m args below meth c Q D cy base lay c0 w0 C hd _ _ _ _ k H locs ls hP hZ hS hl => lv_icmp_eq (tgt := xi_tg pc off) C.1 C.2.1 hd (xi_tg_ok ho) (fun hn => absurd hn hc) (fun _ => k H locs ls hP hZ hS hl)⟩
  · cases hs
theorem xs_icmp_ne {off : Int} : ∀ (len pc : Nat) (lv : List (Nat × Value)) (st : List Value) (h : xHp) (fr' : xFr) (h' : xHp), 0 ≤ (pc : Int) + off → xi_le (.if_icmp .ne off) len = true → xi_s1 (xi_own mi) (xi_mL mi) ((xi_y mi).name == "<init>") (.if_icmp .ne off) pc lv st h = some (fr', h') → xi_mo h h' ∧ xi_Sd mi (.if_icmp .ne off) len (pc, lv, st) h fr' h' := by
  intro len pc lv st h fr' h' ho hlen hs
  obtain rfl : len = 3 := by simpa [xi_le, xi_ln] using hlen
  simp only [xi_s1, xi_ifc] at hs
  split at hs
  · next y x r =>
    by_cases hc : x = y
    · rw [if_pos hc] at hs
      cases hs
      exact ⟨xi_mo.rf _, fun p l e R s m args below meth c Q D cy base lay c0 w0 C hd _ _ _ _ k H locs ls hP hZ hS hl => lv_icmp_ne (tgt := xi_tg pc off) C.1 C.2.1 hd (xi_tg_ok ho) (fun hn => absurd hc hn) (fun _ => k H locs ls hP hZ hS hl)⟩
    · rw [if_neg hc] at hs
      obtain ⟨t, ht, rfl, rfl⟩ := xi_goE hs
      exact ⟨xi_mo.rf _, fun p l e R s m args below meth c Q D cy base lay c0 w0 C hd _ _ _ _ k H locs ls hP hZ hS hl => lv_icmp_ne C.1 C.2.1 hd ht (fun _ => k H locs ls hP hZ hS hl) (fun hn => absurd hn hc)⟩
  · cases hs
theorem xs_icmp_lt {off : Int} : ∀ (len pc : Nat) (lv : List (Nat × Value)) (st : List Value) (h : xHp) (fr' : xFr) (h' : xHp), 0 ≤ (pc : Int) + off → xi_le (.if_icmp .lt off) len = true → xi_s1 (xi_own mi) (xi_mL mi) ((xi_y mi).name == "<init>") (.if_icmp .lt off) pc lv st h = some (fr', h') → xi_mo h h' ∧ xi_Sd mi (.if_icmp .lt off) len (pc, lv, st) h fr' h' := by
  intro len pc lv st h fr' h' ho hlen hs
  obtain rfl : len = 3 := by simpa [xi_le, xi_ln] using hlen
  simp only [xi_s1, xi_ifc] at hs
  split at hs
  · next y x r =>
    by_cases hc : x < y
    · rw [if_pos hc] at hs
      obtain ⟨t, ht, rfl, rfl⟩ := xi_goE hs
      exact ⟨xi_mo.rf _, fun p l e R s m args below meth c Q D cy base lay c0 w0 C hd _ _ _ _ k H locs ls hP hZ hS hl => lv_icmp_lt C.1 C.2.1 hd ht (fun _ => k H locs ls hP hZ hS hl) (fun hn => absurd hc hn)⟩
    · rw [if_neg hc] at hs
      cases hs
      exact ⟨xi_mo.rf _, fun p l e R s m args below meth c Q D cy base lay c0 w0 C hd _ _ _ _ k H locs ls hP hZ hS hl => lv_icmp_lt (tgt := xi_tg pc off) C.1 C.2.1 hd (xi_tg_ok ho) (fun hn => absurd hn hc) (fun _ => k H locs ls hP hZ hS hl)⟩
  · cases hs
theorem xs_icmp_ge {off : Int} : ∀ (len pc : Nat) (lv : List (Nat × Value)) (st : List Value) (h : xHp) (fr' : xFr) (h' : xHp), 0 ≤ (pc : Int) + off → xi_le (.if_icmp .ge off) len = true → xi_s1 (xi_own mi) (xi_mL mi) ((xi_y mi).name == "<init>") (.if_icmp .ge off) pc lv st h = some (fr', h') → xi_mo h h' ∧ xi_Sd mi (.if_icmp .ge off) len (pc, lv, st) h fr' h' := by
  intro len pc lv st h fr' h' ho hlen hs
  obtain rfl : len = 3 := by simpa [xi_le, xi_ln] using hlen
  simp only [xi_s1, xi_ifc] at hs
  split at hs
  · next y x r =>
    by_cases hc : y ≤ x
    · rw [if_pos hc] at hs
      obtain ⟨t, ht, rfl, rfl⟩ := xi_goE hs
      exact ⟨xi_mo.rf _, fun p l e R s m args below meth c Q D cy base lay c0 w0 C hd _ _ _ _ k H locs ls hP hZ hS hl => lv_icmp_ge C.1 C.2.1 hd ht (fun _ => k H locs ls hP hZ hS hl) (fun hn => absurd hc hn)⟩
    · rw [if_neg hc] at hs
      cases hs
      exact ⟨xi_mo.rf _, fun p l e R s m args below meth c Q D cy base lay c0 w0 C hd _ _ _ _ k H locs ls hP hZ hS hl => lv_icmp_ge (tgt := xi_tg pc off) C.1 C.2.1 hd (xi_tg_ok ho) (fun hn => absurd hn hc) (fun _ => k H locs ls hP hZ hS hl)⟩
  · cases hs
theorem xs_icmp_gt {off : Int} : ∀ (len pc : Nat) (lv : List (Nat × Value)) (st : List Value) (h : xHp) (fr' : xFr) (h' : xHp), 0 ≤ (pc : Int) + off → xi_le (.if_icmp .gt off) len = true → xi_s1 (xi_own mi) (xi_mL mi) ((xi_y mi).name == "<init>") (.if_icmp .gt off) pc lv st h = some (fr', h') → xi_mo h h' ∧ xi_Sd mi (.if_icmp .gt off) len (pc, lv, st) h fr' h' := by
  intro len pc lv st h fr' h' ho hlen hs
  obtain rfl : len = 3 := by simpa [xi_le, xi_ln] using hlen
  simp only [xi_s1, xi_ifc] at hs
  split at hs
  · next y x r =>
    by_cases hc : y < x
    · rw [if_pos hc] at hs
      obtain ⟨t, ht, rfl, rfl⟩ := xi_goE hs
      exact ⟨xi_mo.rf _, fun p l e R s m args below meth c Q D cy base lay c0 w0 C hd _ _ _ _ k H locs ls hP hZ hS hl => lv_icmp_gt C.1 C.2.1 hd ht (fun _ => k H locs ls hP hZ hS hl) (fun hn => absurd hc hn)⟩
    · rw [if_neg hc] at hs
      cases hs
      exact ⟨xi_mo.rf _, fun p l e R s m args below meth c Q D cy base lay c0 w0 C hd _ _ _ _ k H locs ls hP hZ hS hl => lv_icmp_gt (tgt := xi_tg pc off) C.1 C.2.1 hd (xi_tg_ok ho) (fun hn => absurd hn hc) (fun _ => k H locs ls hP hZ hS hl)⟩
  · cases hs
theorem xs_icmp_le {off : Int} : ∀ (len pc : Nat) (lv : List (Nat × Value)) (st : List Value) (h : xHp) (fr' : xFr) (h' : xHp), 0 ≤ (pc : Int) + off → xi_le (.if_icmp .le off) len = true → xi_s1 (xi_own mi) (xi_mL mi) ((xi_y mi).name == "<init>") (.if_icmp .le off) pc lv st h = some (fr', h') → xi_mo h h' ∧ xi_Sd mi (.if_icmp .le off) len (pc, lv, st) h fr' h' := by
  intro len pc lv st h fr' h' ho hlen hs
  obtain rfl : len = 3 := by simpa [xi_le, xi_ln] using hlen
  simp only [xi_s1, xi_ifc] at hs
  split at hs
  · next y x r =>
    by_cases hc : x ≤ y
    · rw [if_pos hc] at hs
      obtain ⟨t, ht, rfl, rfl⟩ := xi_goE hs
      exact ⟨xi_mo.rf _, fun p l e R s m args below meth c Q D cy base lay c0 w0 C hd _ _ _ _ k H locs ls hP hZ hS hl => lv_icmp_le C.1 C.2.1 hd ht (fun _ => k H locs ls hP hZ hS hl) (fun hn => absurd hc hn)⟩
    · rw [if_neg hc] at hs
      cases hs
      exact ⟨xi_mo.rf _, fun p l e R s m args below meth c Q D cy base lay c0 w0 C hd _ _ _ _ k H locs ls hP hZ hS hl => lv_icmp_le (tgt := xi_tg pc off) C.1 C.2.1 hd (xi_tg_ok ho) (fun hn => absurd hn hc) (fun _ => k H locs ls hP hZ hS hl)⟩
  · cases hs
theorem xs_tableswitch {dflt lo hi : Int} {offs : Array Int} : xi_Go mi (.tableswitch dflt lo hi offs) := by
  intro len pc lv st h fr' h' hlen hs
  simp only [xi_s1] at hs
  split at hs
  · split at hs
    · next hc =>
      obtain ⟨t, ht, rfl, rfl⟩ := xi_goE hs
      exact ⟨xi_mo.rf _, fun p l e R s m args below meth c Q D cy base lay c0 w0 C hd _ _ _ _ k H locs ls hP hZ hS hl => lv_tableOut C.1 C.2.1 hd hc ht (k H locs ls hP hZ hS hl)⟩
    · next hc =>
      split at hs
      · next off ho =>
        obtain ⟨t, ht, rfl, rfl⟩ := xi_goE hs
        exact ⟨xi_mo.rf _, fun p l e R s m args below meth c Q D cy base lay c0 w0 C hd _ _ _ _ k H locs ls hP hZ hS hl => lv_tableIn C.1 C.2.1 hd (fun q => hc (Or.inl q)) (fun q => hc (Or.inr q)) ho ht (k H locs ls hP hZ hS hl)⟩
      · cases hs
  · cases hs
theorem xs_lookupswitch {dflt : Int} {ps : Array (Int × Int)} : xi_Go mi (.lookupswitch dflt ps) := by
  intro len pc lv st h fr' h' hlen hs
  simp only [xi_s1] at hs
  split at hs
  · split at hs
    · next hc =>
      obtain ⟨t, ht, rfl, rfl⟩ := xi_goE hs
      exact ⟨xi_mo.rf _, fun p l e R s m args below meth c Q D cy base lay c0 w0 C hd _ _ _ _ k H locs ls hP hZ hS hl => lv_lookup C.1 C.2.1 hd hc rfl ht (k H locs ls hP hZ hS hl)⟩
    · cases hs
  · cases hs
end
