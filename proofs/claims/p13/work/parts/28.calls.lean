def xi_Qc (D : va_G) (cy : Nat → ClassId) (base : Nat) (lay : Nat → Nat) (r : Option Value ⊕ Nat) (h' : xHp) : Array Value → State → Outcome → State → Prop := fun _ st o t => ∃ v : Option Value, r = .inl v ∧ o = .returned (v.map (xi_tv lay)) ∧ xi_P D cy lay h' t.heap ∧ xi_Z base h' t.heap ∧ va_F (fun q => base ≤ q) st t
def xi_XC (D : va_G) (cy : Nat → ClassId) (base : Nat) (lay : Nat → Nat) (r : Option Value ⊕ Nat) (h' : xHp) : String → State → State → Prop := fun E st t => ∃ k : Nat, r = .inr k ∧ E = xi_E k ∧ xi_P D cy lay h' t.heap ∧ xi_Z base h' t.heap ∧ va_F (fun q => base ≤ q) st t
def xi_Pc (D : va_G) (cy : Nat → ClassId) (base : Nat) (lay : Nat → Nat) (av : List Value) (h : xHp) : Array Value → State → Prop := va_Pc (av.map (xi_tv lay)) (fun U => xi_P D cy lay h U.heap ∧ xi_Z base h U.heap ∧ xi_G D cy base lay (hL h) (hX h) U)
def xi_ws (mi : xMi) : List Cond := xi_cw mi :: xT
def xi_rm (d mc ms : Nat) : Room := { frames := d, cells := mc, slots := ms, locals := 36 * d }
/-- the method's contract for one call: these arguments, this heap, this answer -/
def xi_Mt (l : Launch) (d : Nat) (mi : xMi) (av : List Value) (h : xHp) (r : Option Value ⊕ Nat) (h' : xHp) : Prop := ∀ (D : va_G) (cy : Nat → ClassId) (base : Nat) (lay : Nat → Nat), xi_lay base lay → vx_Met l (xi_y mi) (xi_ws mi) (xi_rm d (hC h' - hC h) (hW h' - hW h)) (xi_Pc D cy base lay av h) (xi_Qc D cy base lay r h') (xi_XC D cy base lay r h') (hC h' - hC h) (hW h' - hW h) (fun q => base ≤ q)
/-- the calls that a step makes are met, with one frame less -/
def xi_CO (l : Launch) (d : Nat) (call : Nat → List Value → xHp → Option xRs) : Prop := ∀ (m' : Nat) (mi' : xMi) (av : List Value) (h : xHp) (r : Option Value ⊕ Nat) (h' : xHp), xpg[m']? = some mi' → m' < 177 → (lg_sl av).length ≤ xi_mL mi' → call m' av h = some (r, h') → xi_mo h h' ∧ ∃ d', d = d' + 1 ∧ xi_Mt l d' mi' av h r h'
theorem xi_T_ok {w : Cond} (h : w ∈ xT) : xi_ok w = true := (List.mem_filter.mp h).2
theorem ok_mk_at {m : Nat} {mi : xMi} (h : xpg[m]? = some mi) (hm : m < 177) : plainName (xi_y mi).cls = true ∧ (xi_y mi).cls = xi_rO (xi_own mi) ∧ ((xi_y mi).cls ≠ "java/lang/invoke/MethodHandle" ∧ (xi_y mi).cls ≠ "java/lang/invoke/VarHandle") ∧ xi_cw mi ∈ xT ∧ Cond.initialized (xi_y mi).cls ∈ xT ∧ xi_mL mi ≤ 17 := by
  have h1 := List.all_eq_true.mp ok_mk m (List.mem_range.mpr hm)
  rw [h] at h1
  unfold xi_mk at h1
  simp only [Bool.and_eq_true] at h1
  obtain ⟨⟨⟨⟨⟨⟨a1, a2⟩, a3⟩, a4⟩, a5⟩, a6⟩, a7⟩ := h1
  exact ⟨a1, of_decide_eq_true a2, ⟨of_decide_eq_true a3, of_decide_eq_true a4⟩, ok_cg mi (List.mem_of_getElem? h) (of_decide_eq_true a5), xi_at_mem a6, of_decide_eq_true a7⟩
theorem xi_met_of {l : Launch} {y : MethodName} {ws : List Cond} {rm : Room} {Pc : Array Value → State → Prop} {Qc : Array Value → State → Outcome → State → Prop} {XC : String → State → State → Prop} {mc ms : Nat} {free : Addr → Prop} (h : vx_Met l y ws rm Pc Qc XC mc ms free) (hx : ∀ E st t, ¬ XC E st t) : Met l y ws rm Pc Qc mc ms free := by
  intro p e ha hc hk s m args below hf happ hP hK
  obtain ⟨n, o, h1, h2, h3, hQ⟩ := h p e ha hc hk s m args below hf happ hP hK
  rcases hQ with hQ | ⟨q, -, E, ce, L, h9, -⟩
  · exact ⟨n, o, h1, h2, h3, hQ⟩
  · exact absurd h9 (hx _ _ _)
theorem xi_blind {D : va_G} {cy : Nat → ClassId} {base : Nat} {lay : Nat → Nat} {av : List Value} {h : xHp} : FrameBlind (xi_Pc D cy base lay av h) := fun a U g mk q => ⟨q.1, q.2.1, q.2.2.1, q.2.2.2.to (U := U.calling g mk a) (Vm.Alike.refl U.vm) (Nat.le_refl _) (fun _ _ _ => rfl)⟩
section
variable {p : Program} {l : Launch} {e : Env} {R : Room} {s : State} {m : MethodId} {args : Array Value} {below : List Frame} {meth : Method} {c : Code} {H : Heap} {locs : List Loc} {cells slots : Nat} {Q : State → Prop}
variable {D : va_G} {cy : Nat → ClassId} {base : Nat} {lay : Nat → Nat}
theorem xi_rva {mc ms : Nat} {g : JFrame} {rest : List Value} {Qa : State → Outcome → State → Prop} {XC : String → State → State → Prop} {free : Addr → Prop} (h : va_Run p l e R s m args below meth c H locs cells slots mc ms g rest Qa free) : vx_Run p l e R s m args below meth c H locs cells slots mc ms g rest Qa XC free := fun T hT X => Or.inl (h T hT X)
theorem xi_S_call {H1 : Heap} {L : List Loc} {st t : State} (hS : va_S (fun q => base ≤ q) s.heap H locs) (h0 : st.heap = H) (h1 : t.heap = H1) (hF : va_F (fun q => base ≤ q) st t) (hL : ∀ q ∈ L, base ≤ q.base) : va_S (fun q => base ≤ q) s.heap H1 (locs ++ L) := by
  obtain ⟨z, k⟩ := hF
  rw [h0, h1] at z k
  refine ⟨Nat.le_trans hS.1 z, fun q q1 q2 => (k q (Nat.lt_of_lt_of_le q1 hS.1) q2).trans (hS.2.1 q q1 q2), fun q hq => ?_⟩
  rcases List.mem_append.mp hq with hq | hq
  · exact hS.2.2 q hq
  · exact hL q hq
/-- behind a call: it has returned, or thrown -/
theorem xr_run {mc ms pc : Nat} {ls : Array Slot} {st0 rest : List Value} {a : Array Value} {r : Option Value ⊕ Nat} {h1 : xHp} (hr : vx_Run p l e R s m args below meth c H locs cells slots mc ms (F0 m pc ls st0) rest (xi_Qc D cy base lay r h1 a) (xi_XC D cy base lay r h1) (fun q => base ≤ q)) (hS : va_S (fun q => base ≤ q) s.heap H locs)
    (kk : ∀ (v : Option Value) (H1 : Heap) (locs1 : List Loc), r = .inl v → xi_P D cy lay h1 H1 → xi_Z base h1 H1 → va_S (fun q => base ≤ q) s.heap H1 locs1 → W p l e R s m args below meth c H1 locs1 (cells + mc) (slots + ms) Q (F0 m (pc + 3) ls ((v.map (xi_tv lay)).toList ++ rest)))
    (kx : ∀ (k : Nat) (ce : Cell) (q9 : Addr) (H1 : Heap) (locs1 : List Loc), r = .inr k → xi_P D cy lay h1 H1 → xi_Z base h1 H1 → va_S (fun q => base ≤ q) s.heap H1 locs1 → H1[q9]? = some ce → ce.vm = .none → s.vm.findClass (xi_E k) = some ce.cls → vx_W p l e R s m args below meth c H1 locs1 (cells + mc) (slots + ms) Q (F0 m pc ls rest) q9) :
    W p l e R s m args below meth c H locs cells slots Q (F0 m pc ls st0) := by
  intro T hT X
  rcases hr T hT X with ⟨v', st₀, t, T', L, h0, X', hL, e1, e2, ⟨v, rv, ho, hp, hz, hF⟩, st⟩ | ⟨q, st₀, t, T', L, E, ce, h0, X', hL, e1, e2, ⟨k, rk, rfl, hp, hz, hF⟩, hce, hcv, hcl, st⟩
  · cases ho
    rw [← e1] at hp hz
    obtain ⟨t2, a1, b1⟩ := kk v T'.heap (locs ++ L) rv hp hz (xi_S_call hS h0 e1.symm hF hL) T' rfl X'
    exact ⟨t2, st t2 a1, b1⟩
  · rw [← e1] at hp hz
    obtain ⟨t2, a1, b1⟩ := kx k ce q T'.heap (locs ++ L) rk hp hz (xi_S_call hS h0 e1.symm hF hL) (by rw [e1]; exact hce) hcv hcl T' rfl X'
    exact ⟨t2, st.trans a1, b1⟩
end
theorem xi_sl (lay : Nat → Nat) : ∀ av : List Value, (lg_sl (av.map (xi_tv lay))).length = (lg_sl av).length
  | [] => rfl
  | v :: t => by
    have ih := xi_sl lay t
    unfold lg_sl at ih ⊢
    simp only [List.map_cons, List.flatMap_cons, List.length_append, xi_tv_cat, ih]
    split <;> rfl
theorem xi_args (lay : Nat → Nat) : ∀ (i : Nat) (av : List Value), lv_args i (av.map (xi_tv lay)) = xi_lv lay (lv_args i av)
  | _, [] => rfl
  | i, v :: t => by
    show (i, xi_tv lay v) :: lv_args (if (xi_tv lay v).category = 2 then i + 2 else i + 1) (t.map (xi_tv lay)) = (i, xi_tv lay v) :: xi_lv lay (lv_args (if v.category = 2 then i + 2 else i + 1) t)
    rw [xi_tv_cat, xi_args lay _ t]
theorem xi_cats (lay : Nat → Nat) (st : List Value) : ((st.map (xi_tv lay)).map fun v => v.category).sum = (st.map fun v => v.category).sum := by
  rw [List.map_map]
  congr 1
  apply List.map_congr_left
  intro v _
  exact xi_tv_cat lay v
/-- the six kinds of a call -/
theorem xc_run {p : Program} {l : Launch} {e : Env} {R : Room} {s : State} {m : MethodId} {args : Array Value} {below : List Frame} {meth : Method} {c : Code} {H : Heap} {locs : List Loc} {D : va_G} {cy : Nat → ClassId} {base : Nat} {lay : Nat → Nat} {mi mi' : xMi} {d' pc ix kd m' po : Nat} {i : Instr} {ls : Array Slot} {av rest : List Value} {h h1 : xHp} {r : Option Value ⊕ Nat} {c0 w0 : Nat}
    (C : xi_C p l s m args meth c mi D cy base lay (hL h) (hX h)) (hfr : d' + 1 ≤ R.frames) (hlo : 36 * (d' + 1) ≤ R.locals) (hpg : xpg[m']? = some mi') (hml : xi_a (xml.getD (xi_own mi) []) ix = some (kd, m', po)) (hi : i = (if kd = 0 then .invokevirtual ix else if kd = 3 ∨ kd = 4 then .invokespecial ix else .invokestatic ix)) (hd : decode (xi_cc mi) pc = .ok (i, 3))
    (hav : av.length = xi_na mi') (hkd : xi_kd kd mi' av h = true) (hthr : kd = 2 ∨ kd = 3 ∨ kd = 4 → ∃ v, r = .inl v) (hcat : (rest.map fun v => v.category).sum ≤ 8) (hM : xi_Mt l d' mi' av h r h1) (hP : xi_P D cy lay h H) (hZ : xi_Z base h H) (hS : va_S (fun q => base ≤ q) s.heap H locs) (hls : ls.size = xi_mL mi)
    (hf : (hC h - c0) + (hC h1 - hC h) ≤ R.cells ∧ (hW h - w0) + (hW h1 - hW h) ≤ R.slots) :
    vx_Run p l e R s m args below meth c H locs (hC h - c0) (hW h - w0) (hC h1 - hC h) (hW h1 - hW h) (F0 m pc ls ((av.map (xi_tv lay)).reverse ++ rest.map (xi_tv lay))) (rest.map (xi_tv lay)) (xi_Qc D cy base lay r h1 (av.map (xi_tv lay)).toArray) (xi_XC D cy base lay r h1) (fun q => base ≤ q) := by
  obtain ⟨hx, hb, hmL, hown, hts, hlocks, hrt, hnm, htab, hst, hG, hlay⟩ := C
  have hlk := xi_all_at ok_ml rfl hml
  unfold xi_lk at hlk
  rw [show ((ix, kd, m', po) : Nat × Nat × Nat × Nat).2.2.1 = m' from rfl, hpg] at hlk
  dsimp only at hlk
  rw [Bool.and_eq_true] at hlk
  obtain ⟨hm7, hlk⟩ := hlk
  have hm7 := of_decide_eq_true hm7
  obtain ⟨k1, k2, k3, k4, k5, k6⟩ := ok_mk_at hpg hm7
  have hMv := hM D cy base lay hlay
  have hwarm : ∀ w ∈ xi_ws mi', ∀ (a' : Array Value) (U : State), s.WarmedH U.vm → w.before a' U = true := fun w hw a' U hW => by
    have hwT : w ∈ xT := by
      rcases List.mem_cons.mp hw with rfl | hw
      · exact k4
      · exact hw
    exact xi_warm (xi_T_ok hwT) hW (hts w hwT)
  have hpre : ∀ U : State, U.heap = H → s.WarmedH U.vm → xi_Pc D cy base lay av h (av.map (xi_tv lay)).toArray U := fun U hU hW => ⟨rfl, by rw [hU]; exact hP, by rw [hU]; exact hZ, hG.to hW.alike (by rw [hU]; exact hS.1) (fun a q1 q2 => by rw [hU]; exact hS.2.1 a q1 q2)⟩
  have hS9 : CallFix p m c (xi_cc mi) (xi_mL mi) s args xT (xi_rO (xi_own mi)) := ⟨hx, hb, hmL, hown, hts⟩
  have hroom : 2 * (F0 m pc ls ((av.map (xi_tv lay)).reverse ++ rest.map (xi_tv lay))).monitorRoom + ((rest.map (xi_tv lay)).map fun v => v.category).sum ≤ 8 := lv_room (by rw [xi_cats]; exact hcat)
  have hparse : ∀ n : Nat, xi_np mi' = some n → ∀ sig, parseMethodDescriptor (xi_y mi').desc = some sig → n = sig.parameters.length := fun n h9 sig h8 => by
    unfold xi_np at h9
    rw [h8] at h9
    exact (Option.some.inj h9).symm
  have hlo9 : 8 + (xi_mL mi' + 11) + 36 * d' ≤ R.locals := by omega
  have hcw : ∀ (hh0 : xi_hh mi' = []), xi_cw mi' = Cond.code (xi_y mi') (xi_cc mi') (xi_mL mi') (xi_rt mi') := fun hh0 => by
    unfold xi_cw
    rw [if_pos hh0]
  by_cases q0 : kd = 0
  · rw [if_pos q0] at hlk hi
    simp only [Bool.and_eq_true] at hlk
    obtain ⟨⟨⟨⟨⟨a1, a2⟩, a3⟩, a4⟩, a5⟩, a6⟩ := hlk
    have hh0 := of_decide_eq_true a4
    have hna := of_decide_eq_true a6
    subst hi
    unfold xi_kd at hkd
    rw [if_pos q0] at hkd
    cases av with
    | nil => exact absurd hkd Bool.false_ne_true
    | cons v0 As =>
      cases v0 <;> try exact absurd hkd Bool.false_ne_true
      rename_i a
      simp only [Bool.and_eq_true, decide_eq_true_eq] at hkd
      obtain ⟨⟨b1, b2⟩, b3⟩ := hkd
      have hat := hP a b1
      rw [xi_en_o rfl b3] at hat
      have hrecv := va_recv hG.1 (xi_one hat) (ok_cu _ b3) (q0 := 0) rfl
      have hce : (xi_cls (hK h a).1) = (xi_y mi').cls := by
        rw [k2, ← b2]
        exact (ok_df _ b3 0 (by revert b3; generalize (hK h a).1 = z; intro b3; rcases (show z = 0 ∨ z = 1 ∨ z = 2 ∨ z = 3 ∨ z = 4 ∨ z = 5 ∨ z = 6 ∨ z = 7 by omega) with rfl | rfl | rfl | rfl | rfl | rfl | rfl | rfl <;> decide)).2
      rw [show ((xi_cls (hK h a).1, xi_T (hK h a).1, xi_nf (hK h a).1) : vw_C).1 = (xi_y mi').cls from hce] at hrecv
      have hcode : Cond.code (xi_y mi') (xi_cc mi') (xi_mL mi') (xi_rt mi') ∈ xi_ws mi' := by rw [← hcw hh0]; exact List.mem_cons_self
      refine vx_runV (C := (xi_y mi').cls) (bytes := xi_cc mi') (maxL := xi_mL mi') (ret := xi_rt mi') (n := xi_na mi' - 1) (As := As.map (xi_tv lay)) (b := lay a) hS9 hMv ⟨⟨rfl, rfl, hfr, hlo9, hwarm, hcode, hts _ (by rw [← hcw hh0]; exact k4), hts _ k5, k3, hparse _ (of_decide_eq_true a5), hts _ (xi_at_mem a1)⟩, hts _ (xi_at_mem a2), hts _ (xi_at_mem a3)⟩ ⟨xi_blind, hrecv, hpre⟩ rfl ?_ hls ?_ hroom hd hf
      · rw [List.length_map]
        have : As.length + 1 = xi_na mi' := hav
        omega
      · show (xi_tv lay (.ref a) :: As.map (xi_tv lay)).reverse ++ rest.map (xi_tv lay) = (As.map (xi_tv lay)).reverse ++ .ref (lay a) :: rest.map (xi_tv lay)
        rw [List.reverse_cons, List.append_assoc]
        rfl
  rw [if_neg q0] at hlk hi
  by_cases q1 : kd = 1
  · rw [if_pos q1] at hlk
    rw [if_neg (by omega)] at hi
    simp only [Bool.and_eq_true] at hlk
    obtain ⟨⟨⟨a1, a2⟩, a4⟩, a5⟩ := hlk
    have hh0 := of_decide_eq_true a4
    subst hi
    have hcode : Cond.code (xi_y mi') (xi_cc mi') (xi_mL mi') (xi_rt mi') ∈ xi_ws mi' := by rw [← hcw hh0]; exact List.mem_cons_self
    exact vx_runS (bytes := xi_cc mi') (maxL := xi_mL mi') (ret := xi_rt mi') (n := xi_na mi') (As := av.map (xi_tv lay)) hS9 hMv ⟨⟨rfl, rfl, hfr, hlo9, hwarm, hcode, hts _ (by rw [← hcw hh0]; exact k4), hts _ k5, k3, hparse _ (of_decide_eq_true a5), hts _ (xi_at_mem a1)⟩, hts _ (xi_at_mem a2)⟩ ⟨xi_blind, hpre⟩ rfl (by rw [List.length_map]; exact hav) hls rfl hroom hd hf
  rw [if_neg q1] at hlk
  by_cases q2 : kd = 2
  · rw [if_pos q2] at hlk
    rw [if_neg (by omega)] at hi
    simp only [Bool.and_eq_true] at hlk
    obtain ⟨⟨⟨a1, a2⟩, a4⟩, a5⟩ := hlk
    have hh0 := of_decide_eq_true a4
    subst hi
    obtain ⟨v9, hv9⟩ := hthr (Or.inl q2)
    have hcode : Cond.code (xi_y mi') (xi_cc mi') (xi_mL mi') (xi_rt mi') ∈ xi_ws mi' := by rw [← hcw hh0]; exact List.mem_cons_self
    have hMM := xi_met_of hMv (fun E st t q => by obtain ⟨k, hk, -⟩ := q; rw [hv9] at hk; cases hk)
    refine xi_rva (va_runSN (host := RX7) (bytes := xi_cc mi') (maxL := xi_mL mi') (ret := xi_rt mi') (n := xi_na mi') (As := av.map (xi_tv lay)) hS9 hMM ⟨?_, hts _ (xi_at_mem a2), trivial⟩ ⟨xi_blind, hpre⟩ rfl (by rw [List.length_map]; exact hav) hls rfl hroom hd hf)
    exact ⟨⟨rfl, rfl, hfr, hlo9, hwarm, hcode⟩, hts _ (by rw [← hcw hh0]; exact k4), hts _ k5, k3, hparse _ (of_decide_eq_true a5), va_Nw.of rfl (hts _ (xi_at_mem a1))⟩
  rw [if_neg q2] at hlk
  by_cases q3 : kd = 3
  · rw [if_pos q3] at hlk
    rw [if_pos (Or.inl q3)] at hi
    simp only [Bool.and_eq_true] at hlk
    obtain ⟨⟨⟨⟨⟨⟨a1, a2⟩, a3⟩, a3'⟩, a4⟩, a5⟩, a6⟩ := hlk
    have hh0 := of_decide_eq_true a4
    have hrt0 := of_decide_eq_true a3'
    subst hi
    obtain ⟨v9, hv9⟩ := hthr (Or.inr (Or.inl q3))
    have hcode : Cond.code (xi_y mi') (xi_cc mi') (xi_mL mi') none ∈ xi_ws mi' := by rw [← hrt0, ← hcw hh0]; exact List.mem_cons_self
    have hMM := xi_met_of hMv (fun E st t q => by obtain ⟨k, hk, -⟩ := q; rw [hv9] at hk; cases hk)
    unfold xi_kd at hkd
    rw [if_neg q0, if_pos (Or.inl q3)] at hkd
    cases av with
    | nil => exact absurd hkd Bool.false_ne_true
    | cons v0 As =>
      cases v0 <;> try exact absurd hkd Bool.false_ne_true
      rename_i a
      refine xi_rva (va_runI (bytes := xi_cc mi') (maxL := xi_mL mi') (n := xi_na mi' - 1) (As := As.map (xi_tv lay)) (b := lay a) hS9 hMM ⟨⟨rfl, rfl, hfr, hlo9, hwarm, hcode, hts _ (by rw [← hrt0, ← hcw hh0]; exact k4), hts _ k5, k3, hparse _ (of_decide_eq_true a5), hts _ (xi_at_mem a1)⟩, of_decide_eq_true a3, hts _ (xi_at_mem a2)⟩ ⟨xi_blind, hpre⟩ rfl ?_ hls ?_ hroom hd hf)
      · rw [List.length_map]
        have : As.length + 1 = xi_na mi' := hav
        omega
      · show (xi_tv lay (.ref a) :: As.map (xi_tv lay)).reverse ++ rest.map (xi_tv lay) = (As.map (xi_tv lay)).reverse ++ .ref (lay a) :: rest.map (xi_tv lay)
        rw [List.reverse_cons, List.append_assoc]
        rfl
  rw [if_neg q3] at hlk
  by_cases q4 : kd = 4
  · rw [if_pos q4] at hlk
    rw [if_pos (Or.inr q4)] at hi
    simp only [Bool.and_eq_true] at hlk
    obtain ⟨⟨⟨⟨⟨⟨a1, a2⟩, a3⟩, a3'⟩, a4⟩, a5⟩, a6⟩ := hlk
    have hh0 := of_decide_eq_true a4
    have hrt0 := of_decide_eq_true a3'
    subst hi
    obtain ⟨v9, hv9⟩ := hthr (Or.inr (Or.inr q4))
    have hcode : Cond.code (xi_y mi') (xi_cc mi') (xi_mL mi') none ∈ xi_ws mi' := by rw [← hrt0, ← hcw hh0]; exact List.mem_cons_self
    have hMM := xi_met_of hMv (fun E st t q => by obtain ⟨k, hk, -⟩ := q; rw [hv9] at hk; cases hk)
    unfold xi_kd at hkd
    rw [if_neg q0, if_pos (Or.inr q4)] at hkd
    cases av with
    | nil => exact absurd hkd Bool.false_ne_true
    | cons v0 As =>
      cases v0 <;> try exact absurd hkd Bool.false_ne_true
      rename_i a
      refine xi_rva (va_runIN (host := RX7) (bytes := xi_cc mi') (maxL := xi_mL mi') (n := xi_na mi' - 1) (As := As.map (xi_tv lay)) (b := lay a) hS9 hMM ⟨?_, of_decide_eq_true a3, hts _ (xi_at_mem a2)⟩ ⟨xi_blind, hpre⟩ rfl ?_ hls ?_ hroom hd hf)
      · exact ⟨⟨rfl, rfl, hfr, hlo9, hwarm, hcode⟩, hts _ (by rw [← hrt0, ← hcw hh0]; exact k4), hts _ k5, k3, hparse _ (of_decide_eq_true a5), va_Nw.of rfl (hts _ (xi_at_mem a1))⟩
      · rw [List.length_map]
        have : As.length + 1 = xi_na mi' := hav
        omega
      · show (xi_tv lay (.ref a) :: As.map (xi_tv lay)).reverse ++ rest.map (xi_tv lay) = (As.map (xi_tv lay)).reverse ++ .ref (lay a) :: rest.map (xi_tv lay)
        rw [List.reverse_cons, List.append_assoc]
        rfl
  rw [if_neg q4] at hlk
  by_cases q5 : kd = 5
  · rw [if_pos q5] at hlk
    rw [if_neg (by omega)] at hi
    simp only [Bool.and_eq_true] at hlk
    obtain ⟨⟨⟨a1, a2⟩, a4⟩, a5⟩ := hlk
    have hh0 := of_decide_eq_true a4
    subst hi
    have ecw : xi_cw mi' = Cond.codeWith (xi_y mi') (xi_cc mi') (xi_mL mi') (xi_rt mi') (xi_hh mi') := by
      unfold xi_cw
      rw [if_neg hh0]
    have hcode : Cond.codeWith (xi_y mi') (xi_cc mi') (xi_mL mi') (xi_rt mi') (xi_hh mi') ∈ xi_ws mi' := by rw [← ecw]; exact List.mem_cons_self
    exact vx_runSX (hh := xi_hh mi') (bytes := xi_cc mi') (maxL := xi_mL mi') (ret := xi_rt mi') (n := xi_na mi') (As := av.map (xi_tv lay)) hS9 hMv ⟨⟨rfl, rfl, hfr, hlo9, hwarm, hcode⟩, hts _ (by rw [← ecw]; exact k4), hts _ k5, k3, hparse _ (of_decide_eq_true a5), hts _ (xi_at_mem a1), hts _ (xi_at_mem a2)⟩ ⟨xi_blind, hpre⟩ rfl (by rw [List.length_map]; exact hav) hls rfl hroom hd hf
  · rw [if_neg q5] at hlk
    cases hlk
