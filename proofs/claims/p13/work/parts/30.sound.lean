theorem xi_P_fz {D : va_G} {cy : Nat → ClassId} {lay : Nat → Nat} {h : xHp} {H H1 : Heap} (hP : xi_P D cy lay h H) (o : ∀ q : Nat, q < H.size → H1[q]? = H[q]?) : xi_P D cy lay (xi_fz h) H1 := by
  intro i hi
  have h1 := hP i hi
  rw [show xi_en cy lay (xi_fz h) i = xi_en cy lay h i from xi_en_cg rfl rfl rfl rfl]
  exact h1.kept (o _ h1.lt)
theorem xi_s1_S2 {l : Launch} {d : Nat} {mi : xMi} {i : Instr} {len : Nat} {fr : xFr} {h : xHp} {fr' : xFr} {h' : xHp} (hd : decode (xi_cc mi) fr.1 = .ok (i, len)) (hs : xi_Sd mi i len fr h fr' h') : xi_S2 l d mi fr h fr' h' :=
  fun p e R s m args below meth c Q D cy base lay c0 w0 C _ _ hc0 hw0 hrc hrs k => hs p l e R s m args below meth c Q D cy base lay c0 w0 C hd hc0 hw0 hrc hrs k
theorem xi_el7 {o ix ic E po : Nat} (ho : o = 7) (h : xi_a (xel.getD o []) ix = some (ic, E, po)) : (ix, ic, E, po) ∈ xel_7 := by
  subst ho
  exact xi_a_mem _ _ _ h
theorem xi_throw_ok {l : Launch} {d : Nat} {mi : xMi} (hk : xi_tbk mi = true) {pc ix ic E po : Nat} {lv : List (Nat × Value)} {st : List Value} {h : xHp} (hv : xi_a (xel.getD (xi_own mi) []) ix = some (ic, E, po)) (hd0 : decode (xi_cc mi) pc = .ok (.new ix, 3))
    (g : 5 < d ∧ xi_hh mi = [] ∧ xi_own mi = 7 ∧ (st.map fun v => v.category).sum ≤ 8 ∧ xi_a (xi_tb mi) (pc + 3) = some (.dup, 1) ∧ xi_a (xi_tb mi) (pc + 4) = some (.invokespecial ic, 3) ∧ xi_a (xi_tb mi) (pc + 7) = some (.athrow, 1)) : xi_mo h (xi_fz h) ∧ xi_S3 l d mi (pc, lv, st) h (.inr E) (xi_fz h) := by
  obtain ⟨g1, g2, g3, g4, g5, g6, g7⟩ := g
  obtain ⟨f1, f2, f3⟩ := xi_el_at hv
  have hx := List.all_eq_true.mp ok_ex _ (xi_el7 g3 hv)
  simp only [Bool.and_eq_true, decide_eq_true_eq] at hx
  obtain ⟨⟨⟨⟨⟨x1, x2⟩, x3⟩, x4⟩, x5⟩, x6⟩ := hx
  refine ⟨⟨Nat.le_succ _, Nat.le_add_right _ _, rfl, rfl⟩, fun p e R s m args below meth c D cy base lay c0 w0 C hfr hlo hc0 hw0 hrc hrs H locs ls hP hZ hS hl => ?_⟩
  have hrc' : hC h + 1 - c0 ≤ R.cells := hrc
  have hrs' : hW h + 6 - w0 ≤ R.slots := hrs
  obtain ⟨hx, hb, hmL, hown, hts, hlocks, hrt, hnm, htab, hst, hG, hlay⟩ := C
  rw [g3] at hown f1
  have hat : ∀ w ∈ vx_at0 RX7 ic (xi_E E) xi_names, (w ∈ xT ∧ vx_ot w = true) := fun w hw => by
    have h9 := List.all_eq_true.mp x1 w hw
    simp only [Bool.and_eq_true, decide_eq_true_eq] at h9
    exact ⟨List.mem_filter.mpr ⟨h9.1.1, h9.1.2⟩, h9.2⟩
  refine vx_throw0 (A := fun q => base ≤ q) (own := RX7) (cls := xi_E E) (names := xi_names) (ik := ix) (ic := ic) hx hb hst hown x6 ok_en (hts _ f1) (hts _ (List.mem_filter.mpr ⟨x4, x5⟩)) (fun w hw => hts _ (hat w hw).1) (fun w hw => ?_) hG.2.2.2.1.1 hG.2.2.2.1.2 hS (by rw [hmL]; exact hl.1) hd0 (xi_tb_at hk g5).1 (xi_tb_at hk g6).1 (xi_tb_at hk g7).1 (fun x hx9 => by rw [htab, g2] at hx9; cases hx9) (by show 2 + 3 < R.frames; omega) ?_ (by omega) (by omega) hlocks (fun t hvm hz ho => ?_) hS.2.2 (by show hC h - c0 + 1 ≤ hC h + 1 - c0; omega) (by show hW h - w0 + 6 ≤ hW h + 6 - w0; omega)
  · rcases List.mem_cons.mp hw with rfl | hw
    · exact x2
    · rcases List.mem_cons.mp hw with rfl | hw
      · exact x3
      · exact (hat w hw).2
  · show ((st.map (xi_tv lay)).map fun v => v.category).sum + (13 * (2 + 1) + 42) ≤ R.locals
    rw [xi_cats]
    omega
  · refine ⟨E, rfl, rfl, xi_P_fz hP ho, ⟨fun q => absurd (show true = false from q) (by decide), Nat.le_trans hZ.2.1 hz, hZ.2.2⟩, Nat.le_trans hS.1 hz, fun q q1 q2 => (ho q (Nat.lt_of_lt_of_le q1 hS.1)).trans (hS.2.1 q q1 q2)⟩
theorem xi_st_ok {l : Launch} {d : Nat} {call : Nat → List Value → xHp → Option xRs} {mi : xMi} (hk : xi_tbk mi = true) (CO : xi_CO l d call) {fr : xFr} {h : xHp} {res : (xFr × xHp) ⊕ xRs} (hs : xi_st d call mi fr h = some res) : xi_Rs l d mi fr h res := by
  obtain ⟨pc, lv, st⟩ := fr
  unfold xi_st at hs
  cases ht : xi_a (xi_tb mi) pc with
  | none => rw [ht] at hs; cases hs
  | some il =>
    obtain ⟨i, len⟩ := il
    rw [show xi_a (xi_tb mi) ((pc, lv, st) : xFr).1 = some (i, len) from ht] at hs
    dsimp only at hs
    obtain ⟨hd, hle, hof⟩ := xi_tb_at hk ht
    have plain : ∀ (hs1 : (xi_s1 (xi_own mi) (xi_mL mi) ((xi_y mi).name == "<init>") i pc lv st h).map .inl = some res), xi_Rs l d mi (pc, lv, st) h res := fun hs1 => by
      obtain ⟨⟨fr', h'⟩, h1, h2⟩ := Option.map_eq_some_iff.mp hs1
      subst h2
      obtain ⟨a1, a2⟩ := xi_s1_ok i len pc lv st h fr' h' hof hle h1
      exact ⟨a1, xi_s1_S2 hd a2⟩
    split at hs
    · obtain rfl : len = 1 := by simpa [xi_le, xi_ln] using hle
      split at hs
      · next v =>
        split at hs
        · next hr =>
          cases hs
          refine ⟨xi_mo.rf _, fun p e R s m args below meth c D cy base lay c0 w0 C hfr hlo hc0 hw0 hrc hrs H locs ls hP hZ hS hl => ?_⟩
          exact vx_ret (W.iret C.1 C.2.1 (C.2.2.2.2.2.2.1.trans hr) (fun t ht9 hW9 => ⟨some (.int v), rfl, rfl, by rw [ht9]; exact hP, by rw [ht9]; exact hZ, hS.F ht9⟩) hS.2.2 hd C.2.2.2.2.2.1)
        · next hr =>
          split at hs
          · next hv =>
            cases hs
            refine ⟨xi_mo.rf _, fun p e R s m args below meth c D cy base lay c0 w0 C hfr hlo hc0 hw0 hrc hrs H locs ls hP hZ hS hl => ?_⟩
            exact vx_ret (W.zret C.1 C.2.1 (C.2.2.2.2.2.2.1.trans hr) (by rcases hv with rfl | rfl <;> decide) (fun t ht9 hW9 => ⟨some (.int v), rfl, rfl, by rw [ht9]; exact hP, by rw [ht9]; exact hZ, hS.F ht9⟩) hS.2.2 hd C.2.2.2.2.2.1)
          · cases hs
        · cases hs
      · cases hs
    · obtain rfl : len = 1 := by simpa [xi_le, xi_ln] using hle
      split at hs
      · next v =>
        split at hs
        · next hr =>
          cases hs
          refine ⟨xi_mo.rf _, fun p e R s m args below meth c D cy base lay c0 w0 C hfr hlo hc0 hw0 hrc hrs H locs ls hP hZ hS hl => ?_⟩
          exact vx_ret (W.fret C.1 C.2.1 (C.2.2.2.2.2.2.1.trans hr) (fun t ht9 hW9 => ⟨some (.float v), rfl, rfl, by rw [ht9]; exact hP, by rw [ht9]; exact hZ, hS.F ht9⟩) hS.2.2 hd C.2.2.2.2.2.1)
        · cases hs
      · cases hs
    · obtain rfl : len = 1 := by simpa [xi_le, xi_ln] using hle
      split at hs
      · next a =>
        split at hs
        · next hr =>
          cases hs
          refine ⟨xi_mo.rf _, fun p e R s m args below meth c D cy base lay c0 w0 C hfr hlo hc0 hw0 hrc hrs H locs ls hP hZ hS hl => ?_⟩
          exact vx_ret (W.aret C.1 C.2.1 (C.2.2.2.2.2.2.1.trans hr) (Or.inl ⟨_, rfl⟩) (Or.inr ⟨_, rfl⟩) (fun t ht9 hW9 => ⟨some (.ref a), rfl, rfl, by rw [ht9]; exact hP, by rw [ht9]; exact hZ, hS.F ht9⟩) hS.2.2 hd C.2.2.2.2.2.1)
        · cases hs
      · cases hs
    · obtain rfl : len = 1 := by simpa [xi_le, xi_ln] using hle
      split at hs
      · split at hs
        · next hr =>
          cases hs
          refine ⟨xi_mo.rf _, fun p e R s m args below meth c D cy base lay c0 w0 C hfr hlo hc0 hw0 hrc hrs H locs ls hP hZ hS hl => ?_⟩
          exact vx_ret (W.vret C.1 C.2.1 (C.2.2.2.2.2.2.1.trans hr) (fun t ht9 hW9 => ⟨none, rfl, rfl, by rw [ht9]; exact hP, by rw [ht9]; exact hZ, hS.F ht9⟩) hS.2.2 hd C.2.2.2.2.2.1)
        · cases hs
      · cases hs
    · next ix =>
      obtain rfl : len = 3 := by simpa [xi_le, xi_ln] using hle
      split at hs
      · next po ho =>
        split at hs
        · next a r =>
          split at hs
          · next hg =>
            cases hs
            refine ⟨xi_mo.rf _, fun p e R s m args below meth c Q D cy base lay c0 w0 C hfr hlo hc0 hw0 hrc hrs k H locs ls hP hZ hS hl => ?_⟩
            have hw := xi_at_mem (xi_all_at ok_oi rfl ho)
            refine W.objInit C.1 C.2.1 C.2.2.2.1 (C.2.2.2.2.1 _ hw) (C.2.2.2.2.1 _ ok_oj.1) (C.2.2.2.2.1 _ ok_oj.2) rfl (by rw [C.2.2.1]; exact hl.1) (a := lay a) (rest := r.map (xi_tv lay)) rfl hd (by omega) ?_ (k H locs ls hP hZ hS hl)
            show 2 * 0 + ((r.map (xi_tv lay)).map fun v => v.category).sum + 12 ≤ R.locals
            rw [xi_cats]
            omega
          · cases hs
        · cases hs
      · split at hs
        · next kd m' po hml =>
          split at hs
          · next hkd =>
            exact xi_call_ok hk (fun mi' r h' q1 q2 q3 q4 => CO _ mi' _ h r h' q1 q2 q3 q4) hml (by rw [if_neg (by omega), if_pos hkd]) hd hs
          · cases hs
        · cases hs
    · next ix =>
      obtain rfl : len = 3 := by simpa [xi_le, xi_ln] using hle
      split at hs
      · next kd m' po hml =>
        split at hs
        · next hkd =>
          exact xi_call_ok hk (fun mi' r h' q1 q2 q3 q4 => CO _ mi' _ h r h' q1 q2 q3 q4) hml (by rw [if_neg (by omega), if_neg (by omega)]) hd hs
        · cases hs
      · cases hs
    · next ix =>
      obtain rfl : len = 3 := by simpa [xi_le, xi_ln] using hle
      split at hs
      · next kd m' po hml =>
        split at hs
        · next hkd =>
          exact xi_call_ok hk (fun mi' r h' q1 q2 q3 q4 => CO _ mi' _ h r h' q1 q2 q3 q4) hml (by rw [if_pos hkd]) hd hs
        · cases hs
      · cases hs
    · next ix =>
      obtain rfl : len = 3 := by simpa [xi_le, xi_ln] using hle
      split at hs
      · next ic E po hv =>
        split at hs
        · next hg =>
          cases hs
          exact xi_throw_ok hk hv hd hg
        · cases hs
      · exact plain hs
    · exact plain hs
theorem xi_entry {l : Launch} (hst : l.stackTraces = false) {d m' : Nat} {mi' : xMi} (hpg : xpg[m']? = some mi') (hm : m' < 177) {av : List Value} (hsl : (lg_sl av).length ≤ xi_mL mi') {h : xHp} {r : Option Value ⊕ Nat} {h' : xHp} (hmo : xi_mo h h') (hS3 : xi_S3 l d mi' (0, lv_args 0 av, []) h r h') : xi_Mt l d mi' av h r h' := by
  intro D cy base lay hlay
  obtain ⟨k1, k2, k3, k4, k5, k6⟩ := ok_mk_at hpg hm
  have body : ∀ (p : Program) (e : Env) (s : State) (m : MethodId) (args : Array Value) (below : List Frame) (meth : Method) (c : Code) (s₁ : State), BodyLoose p l (xi_y mi') (headSpec (xi_ws mi') (xi_rm d (hC h' - hC h) (hW h' - hW h))) (xi_cc mi') (xi_mL mi') (xi_rt mi') e s m args below meth c s₁ → c.maxLocals = xi_mL mi' → c.exceptionTable.toList = tableOf (xi_hh mi') → xi_Pc D cy base lay av h args s →
      W p l e (headSpec (xi_ws mi') (xi_rm d (hC h' - hC h) (hW h' - hW h))).room s m args below meth c s.heap [] 0 0 (vx_MQ below (xi_Qc D cy base lay r h') (xi_XC D cy base lay r h') args s (hC h' - hC h) (hW h' - hW h) (fun q => base ≤ q)) (entryFrame m args (xi_mL mi')) := by
    intro p e s m args below meth c s₁ B hml htab hv
    obtain ⟨rfl, hP, hZ, hG⟩ := hv
    have hts := atoms_spec (ws := xi_ws mi') B.pre
    have C : xi_C p l s m (av.map (xi_tv lay)).toArray meth c mi' D cy base lay (hL h) (hX h) := ⟨B.exec, B.bytes, hml, by rw [← k2]; exact findClass_of_methodNamed B.named, fun w hw => hts w (List.mem_cons_of_mem _ hw), B.notSynchronized, B.returns, (name_of_methodNamed B.named B.method).1, htab, hst, hG, hlay⟩
    have hlv := lv_entry (av.map (xi_tv lay)) (n := xi_mL mi') (by rw [xi_sl]; exact hsl)
    rw [xi_args] at hlv
    rw [lg_entry_eq]
    have hw := hS3 p e (xi_rm d (hC h' - hC h) (hW h' - hW h)) s m (av.map (xi_tv lay)).toArray below meth c D cy base lay (hC h) (hW h) C (Nat.le_refl _) (Nat.le_refl _) (Nat.le_refl _) (Nat.le_refl _) (Nat.le_refl _) (Nat.le_refl _) s.heap [] _ hP hZ va_S.rf hlv
    rw [Nat.sub_self, Nat.sub_self] at hw
    exact hw
  by_cases hh0 : xi_hh mi' = []
  · refine vx_ofW (cc := xi_cc mi') (maxL := xi_mL mi') (ret := xi_rt mi') (ws' := xT) k1 (by unfold xi_ws xi_cw; rw [if_pos hh0]) ?_
    intro p e s m args below meth c s₁ B hml htab hv
    refine body p e s m args below meth c s₁ B hml ?_ hv
    rw [hh0]
    exact List.eq_nil_iff_forall_not_mem.mpr htab
  · have ecw : xi_ws mi' = Cond.codeWith (xi_y mi') (xi_cc mi') (xi_mL mi') (xi_rt mi') (xi_hh mi') :: xT := by
      unfold xi_ws xi_cw
      rw [if_neg hh0]
    refine vx_ofWH (cc := xi_cc mi') (maxL := xi_mL mi') (ret := xi_rt mi') (hh := xi_hh mi') (ws' := xT) k1 ecw ?_
    intro p e s m args below meth c s₁ B hml hv
    refine body p e s m args below meth c s₁ B hml ?_ hv
    exact vx_table (x := xi_y mi') B (atoms_spec (ws := xi_ws mi') B.pre _ (by rw [ecw]; exact List.mem_cons_self))
/-- THE SMALL MACHINE IS SOUND: what it runs, the machine does -/
theorem xi_run_ok {l : Launch} (hst : l.stackTraces = false) : ∀ (n d m : Nat) (mi : xMi) (fr : xFr) (h : xHp) (r : Option Value ⊕ Nat) (h' : xHp), xpg[m]? = some mi → xi_run n d m fr h = some (r, h') → xi_mo h h' ∧ xi_S3 l d mi fr h r h' := by
  intro n
  induction n with
  | zero =>
    intro d m mi fr h r h' hpg hs
    cases hs
  | succ n ih =>
    intro d m mi fr h r h' hpg hs
    unfold xi_run at hs
    rw [hpg] at hs
    dsimp only at hs
    have hk := ok_pg mi (List.mem_of_getElem? hpg)
    have key : ∀ cf : Nat → List Value → xHp → Option xRs, (∀ m' av h1 x, cf m' av h1 = some x → ∃ d', d = d' + 1 ∧ xi_run n d' m' (0, lv_args 0 av, []) h1 = some x) → xi_CO l d cf := by
      intro cf hcf m' mi' av h2 r2 h2' hpg' hm' hsl hc
      obtain ⟨d', e1, e2⟩ := hcf _ _ _ _ hc
      obtain ⟨a1, a2⟩ := ih d' m' mi' _ _ _ _ hpg' e2
      exact ⟨a1, d', e1, xi_entry hst hpg' hm' hsl a1 a2⟩
    split at hs
    · cases hs
    · next fr' h1 hst1 =>
      obtain ⟨a1, a2⟩ : xi_mo h h1 ∧ xi_S2 l d mi fr h fr' h1 := xi_st_ok hk (key _ (fun m' av h9 x hx => by cases d with | zero => cases hx | succ d' => exact ⟨d', rfl, hx⟩)) hst1
      obtain ⟨b1, b2⟩ := ih d m mi fr' h1 r h' hpg hs
      refine ⟨a1.tr b1, fun p e R s m args below meth c D cy base lay c0 w0 C hfr hlo hc0 hw0 hrc hrs => ?_⟩
      obtain ⟨m1, m2, m3, m4⟩ := a1
      obtain ⟨n1, n2, n3, n4⟩ := b1
      exact a2 p e R s m args below meth c _ D cy base lay c0 w0 C hfr hlo hc0 hw0 (by omega) (by omega) (b2 p e R s m args below meth c D cy base lay c0 w0 (by rw [m3, m4]; exact C) hfr hlo (by omega) (by omega) hrc hrs)
    · next rr hst1 =>
      cases hs
      exact xi_st_ok hk (key _ (fun m' av h9 x hx => by cases d with | zero => cases hx | succ d' => exact ⟨d', rfl, hx⟩)) hst1
