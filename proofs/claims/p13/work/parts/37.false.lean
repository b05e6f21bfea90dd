theorem whole_start0 {p : Program} {e : Env} {s : State} {m : MethodId} {below : List Frame} {meth : Method} {c : Code} (l : Launch) (hst : l.stackTraces = false) {b : Nat} (C0 : lw_At p s m meth c b 40 rf_xs) : W p l e room_1 s m #[Value.ref b] below meth c s.heap [] 0 0 (lw_Z0 below #[Value.ref b] s) (entryFrame m ([Value.ref b] : List Value).toArray 9) := xi_whole0 hst C0 (rf_all hst)
set_option maxHeartbeats 4000000 in
theorem lw_walk0 (l : Launch) (hst : l.stackTraces = false) (b : Addr) : MetFree l x (headSpec (Jvm.Cond.code x code maxLocals ret :: tables_1) room_1) (lw_P b rf_l) (fun _ _ _ _ _ => True) lw_Q0 := by
  refine MetFree.of_bodyS (code := code) (maxLocals := maxLocals) (ret := ret) (by decide) ?_ ?_
  · intro args s m h hn
    obtain ⟨meth, c, h1, h2, h3, h4, h5, h6, -, -⟩ := Cond.code_spec hn (atoms_spec (ws := Jvm.Cond.code x code maxLocals ret :: tables_1) h _ List.mem_cons_self)
    exact ⟨meth, c, h1, h2, h3, h4, h5, h6⟩
  · intro p e s m args below meth c s₁ B hml0 hP _
    obtain ⟨rfl, hx, hbd, hgv⟩ := hP
    obtain ⟨scr, harrAt, hlist, hof, hsmall⟩ := hx
    obtain ⟨hcb, hkn, -, -⟩ := State.arrayAt?_spec harrAt
    have hown : s.vm.findClass R_law = some m.cls := findClass_of_methodNamed B.named
    have hts0 : ∀ c ∈ (Jvm.Cond.code x code maxLocals ret :: tables_1), c.before #[Value.ref b] s = true := atoms_spec (ws := Jvm.Cond.code x code maxLocals ret :: tables_1) B.pre
    have hts : ∀ w ∈ lw_tbl, w.before #[Value.ref b] s = true := k2_hts_sels lw_privs (fun w hw => hts0 w (List.mem_cons_of_mem _ hw)) lw_privs_ok
    have hml : c.maxLocals = 9 := B.maxLocals_eq (hts0 _ List.mem_cons_self)
    have X₀ : Stand p l e room_1 s m #[Value.ref b] below meth c s₁ [] 0 0 := Stand.of_body B
    have hh0 : s₁.heap = s.heap := by rw [B.state]; rfl
    have hsz : scr.slots.size = rf_l.length := by rw [← Array.length_toList, hlist, List.length_map]
    have hval : ∀ j : Nat, j < rf_l.length → scr.slots[j]? = some (.int (rf_l.getD j 0)) := fun j hj => by
      rw [← Array.getElem?_toList, hlist]
      simp [hj]
    have hbl : b < s.heap.size := (Array.getElem?_eq_some_iff.mp hcb).1
    have hX : va_X b rf_l.length (fun j => rf_l.getD j 0) s s.heap := ⟨scr, hcb, hof, hkn, hsz, hval⟩
    have K : W p l e room_1 s m #[Value.ref b] below meth c s₁.heap [] 0 0 (lw_Z0 below #[Value.ref b] s) (entryFrame m ([Value.ref b] : List Value).toArray 9) := by
      rw [hh0]
      exact whole_start0 l hst ⟨B.exec, B.bytes, B.returns, hml, hown, hts, hX, hbl, B.notSynchronized, hgv, (name_of_methodNamed B.named B.method).1, by rw [Array.isEmpty_iff.mp (BodyLoose.noHandlers B (hts0 _ List.mem_cons_self))]⟩
    obtain ⟨t, a1, o, b1, b2, b3⟩ := K s₁ rfl X₀
    exact ⟨t, o, a1, b1, b2, b3⟩
/-- what the claim asks of a start, and that its script is this one -/
def rf_Pre : Tables → Env → Array Value → State → Prop := fun tb e a s => Pre_1 tb e a s ∧ ∃ b : Addr, a = #[Value.ref b] ∧ s.IntsAt b rf_l
theorem lw_comes0 (l : Launch) (hst : l.stackTraces = false) : Comes l x (Jvm.Cond.code x code maxLocals ret :: tables_1) room_1 (fun tb e args s => Calls_1 tb e args s ∧ rest_1 tb e args s ∧ rf_Pre tb e args s)
    (fun _ _ args s o t => lw_Q0 args s o t) := by
  intro p e ha hc hk s m args below hf hfit hheap happ hpre
  obtain ⟨-, -, hg, b, rfl, hx⟩ := hpre
  have hP : lw_P b rf_l #[Value.ref b] s := ⟨rfl, hx, by decide, hg⟩
  obtain ⟨k, o, h1, h2, h3, hQ⟩ := lw_walk0 l hst b p e ha hc hk s m _ below hf ((Spec.applies_iff_loose hf).mp happ).1 hP trivial
  exact ⟨k, o, h1, h2, h3, hQ⟩
/-- AT THIS SCRIPT THE LAW ANSWERS 0, at every start that the claim allows -/
theorem rf_false : ArmFor flags0 classFile x code maxLocals ret World_1 tables_1 room_1 Calls_1 rest_1 rf_Pre (fun _ _ _ _ o _ => o = .returned (some (.int 0))) := by
  intro l hfl _ _ p e ha hc hk s m args below hf hfit hheap happ hpre
  have hst : l.stackTraces = false := by
    unfold Launch.stackTraces
    rw [hfl]
    decide +kernel
  obtain ⟨k, o, h1, h2, h3, hQ⟩ := lw_comes0 l hst p e ha hc hk s m args below hf hfit hheap happ hpre
  exact ⟨k, o, h1, h2, h3, hQ.1⟩
/-- so the claim is refuted, in its own word for that, if there is such a start at all -/
theorem rf_refuted (hm : MeetableFor flags0 classFile x code maxLocals ret World_1 tables_1 room_1 Calls_1 rest_1 rf_Pre) : RefutedClaimed_1_2 := by
  obtain ⟨l, p, e, s, m, args, below, hfl, hL, hW, ha, hle, hc, hk, hf, hfit, hheap, happ, hca, hre, hpr⟩ := hm
  obtain ⟨n, o, h1, h2, h3, rfl⟩ := rf_false l hfl hL hW p e ha hc hk s m args below hf hfit hheap happ ⟨hca, hre, hpr⟩
  refine ⟨l, p, e, s, m, args, below, hfl, ⟨hL, hW, ha, hle, hc, hk, hf, hfit, hheap, happ, hca, hre, hpr.1⟩, n, _, h1, h2, h3, fun hq => ?_⟩
  have q := Cond.after_iff.mp hq.1
  rw [show limb_1_2 = Cond.eq .result (.int 1) from rfl, Cond.eq_ints (x := 0) (y := 1) rfl rfl] at q
  exact absurd q (by decide)
