def xi_S2 (l : Launch) (d : Nat) (mi : xMi) (fr : xFr) (h : xHp) (fr' : xFr) (h' : xHp) : Prop :=
  ∀ (p : Program) (e : Env) (R : Room) (s : State) (m : MethodId) (args : Array Value) (below : List Frame) (meth : Method) (c : Code) (Q : State → Prop) (D : va_G) (cy : Nat → ClassId) (base : Nat) (lay : Nat → Nat) (c0 w0 : Nat),
    xi_C p l s m args meth c mi D cy base lay (hL h) (hX h) → d ≤ R.frames → 36 * d ≤ R.locals → c0 ≤ hC h → w0 ≤ hW h → hC h' - c0 ≤ R.cells → hW h' - w0 ≤ R.slots →
    xi_W p l e R s m args below meth c mi D cy base lay c0 w0 Q fr' h' → xi_W p l e R s m args below meth c mi D cy base lay c0 w0 Q fr h
def xi_S3 (l : Launch) (d : Nat) (mi : xMi) (fr : xFr) (h : xHp) (r : Option Value ⊕ Nat) (h' : xHp) : Prop :=
  ∀ (p : Program) (e : Env) (R : Room) (s : State) (m : MethodId) (args : Array Value) (below : List Frame) (meth : Method) (c : Code) (D : va_G) (cy : Nat → ClassId) (base : Nat) (lay : Nat → Nat) (c0 w0 : Nat),
    xi_C p l s m args meth c mi D cy base lay (hL h) (hX h) → d ≤ R.frames → 36 * d ≤ R.locals → c0 ≤ hC h → w0 ≤ hW h → hC h' - c0 ≤ R.cells → hW h' - w0 ≤ R.slots →
    xi_W p l e R s m args below meth c mi D cy base lay c0 w0 (vx_MQ below (xi_Qc D cy base lay r h') (xi_XC D cy base lay r h') args s (hC h' - c0) (hW h' - w0) (fun q => base ≤ q)) fr h
def xi_Rs (l : Launch) (d : Nat) (mi : xMi) (fr : xFr) (h : xHp) : (xFr × xHp) ⊕ xRs → Prop
  | .inl (fr', h') => xi_mo h h' ∧ xi_S2 l d mi fr h fr' h'
  | .inr (r, h') => xi_mo h h' ∧ xi_S3 l d mi fr h r h'
theorem xi_tb_at {mi : xMi} (hk : xi_tbk mi = true) {pc : Nat} {i : Instr} {len : Nat} (h : xi_a (xi_tb mi) pc = some (i, len)) : decode (xi_cc mi) pc = .ok (i, len) ∧ xi_le i len = true ∧ xi_of i pc = true := by
  have h1 := List.all_eq_true.mp hk _ (xi_a_mem _ _ _ h)
  unfold xi_tbc at h1
  simp only [Bool.and_eq_true, decide_eq_true_eq] at h1
  exact ⟨h1.1.1, h1.1.2, h1.2⟩
theorem xi_hd_sp (o : Nat) : ∀ (hh : List (Nat × Nat × Nat × Nat)) (pc E t : Nat), xi_hd o hh pc E = some t → ∃ (pre : List (Nat × Nat × Nat × Nat)) (a b c : Nat) (suf : List (Nat × Nat × Nat × Nat)), hh = pre ++ (a, b, t, c) :: suf ∧ (a ≤ pc ∧ pc < b) ∧ (∃ y z, xi_a (xel.getD o []) c = some (y, E, z)) ∧ ∀ q ∈ pre, ¬ (q.1 ≤ pc ∧ pc < q.2.1) ∨ ∃ y e' z, xi_a (xel.getD o []) q.2.2.2 = some (y, e', z) ∧ e' ≠ E
  | [], _, _, _, h => by cases h
  | (a, b, t', c) :: r, pc, E, t, h => by
    unfold xi_hd at h
    by_cases h1 : a ≤ pc ∧ pc < b
    · rw [if_pos h1] at h
      cases hv : xi_a (xel.getD o []) c with
      | none => rw [hv] at h; cases h
      | some v =>
        obtain ⟨y, e', z⟩ := v
        rw [hv] at h
        dsimp only at h
        by_cases h2 : e' = E
        · rw [if_pos h2] at h
          cases h
          subst h2
          exact ⟨[], a, b, c, r, rfl, h1, ⟨y, z, hv⟩, fun q hq => by cases hq⟩
        · rw [if_neg h2] at h
          obtain ⟨pre, a', b', c', suf, e1, e2, e3, e4⟩ := xi_hd_sp o r pc E t h
          refine ⟨(a, b, t', c) :: pre, a', b', c', suf, by rw [e1]; rfl, e2, e3, fun q hq => ?_⟩
          rcases List.mem_cons.mp hq with rfl | hq
          · exact Or.inr ⟨y, e', z, hv, h2⟩
          · exact e4 q hq
    · rw [if_neg h1] at h
      obtain ⟨pre, a', b', c', suf, e1, e2, e3, e4⟩ := xi_hd_sp o r pc E t h
      refine ⟨(a, b, t', c) :: pre, a', b', c', suf, by rw [e1]; rfl, e2, e3, fun q hq => ?_⟩
      rcases List.mem_cons.mp hq with rfl | hq
      · exact Or.inl h1
      · exact e4 q hq
theorem xi_el_at {o c y E z : Nat} (h : xi_a (xel.getD o []) c = some (y, E, z)) : Cond.classLink (xi_rO o) c (xi_E E) ∈ xT ∧ E < 3 ∧ c ≠ 0 := by
  have h1 := xi_all_at ok_el rfl h
  simp only [Bool.and_eq_true, decide_eq_true_eq] at h1
  exact ⟨xi_at_mem h1.1.1, h1.1.2, h1.2⟩
theorem xi_lv_sp {lay : Nat → Nat} {lv : List (Nat × Value)} {k : Nat} {x : Value} {ls : Array Slot} {nL : Nat} (h : lv_has ls nL ((k, x) :: (xi_lv lay lv).filter (fun q => !(q.1 == k) && !(q.1 + 1 == k && q.2.category == 2)))) : lv_has ls nL (xi_lv lay (xi_sp lv k)) := by
  rw [xi_filt lv _ (fun q => !(q.1 == k) && !(q.1 + 1 == k && q.2.category == 2)) (fun q => by simp only [xi_tv_cat])] at h
  exact ⟨h.1, h.2.1, fun q hq => h.2.2 q (List.mem_cons_of_mem _ hq)⟩
theorem xi_call_ok {l : Launch} {d : Nat} {call : Nat → List Value → xHp → Option xRs} {mi : xMi} (hk : xi_tbk mi = true) {pc ix kd m' po : Nat} {i : Instr} {lv : List (Nat × Value)} {st : List Value} {h : xHp} {res : (xFr × xHp) ⊕ xRs}
    (CO : ∀ (mi' : xMi) (r : Option Value ⊕ Nat) (h' : xHp), xpg[m']? = some mi' → m' < 177 → (lg_sl (st.take (xi_na mi')).reverse).length ≤ xi_mL mi' → call m' (st.take (xi_na mi')).reverse h = some (r, h') → xi_mo h h' ∧ ∃ d', d = d' + 1 ∧ xi_Mt l d' mi' (st.take (xi_na mi')).reverse h r h')
    (hml : xi_a (xml.getD (xi_own mi) []) ix = some (kd, m', po)) (hi : i = (if kd = 0 then .invokevirtual ix else if kd = 3 ∨ kd = 4 then .invokespecial ix else .invokestatic ix)) (hd : decode (xi_cc mi) pc = .ok (i, 3)) (hs : xi_call call mi pc lv st h kd m' = some res) : xi_Rs l d mi (pc, lv, st) h res := by
  unfold xi_call at hs
  cases hpg : xpg[m']? with
  | none => rw [hpg] at hs; cases hs
  | some mi' =>
    rw [hpg] at hs
    dsimp only at hs
    split at hs
    · next hg =>
      obtain ⟨g1, g2, g3, g4⟩ := hg
      have hm7 : m' < 177 := by
        have hlk := xi_all_at ok_ml rfl hml
        unfold xi_lk at hlk
        rw [show ((ix, kd, m', po) : Nat × Nat × Nat × Nat).2.2.1 = m' from rfl, hpg] at hlk
        dsimp only at hlk
        rw [Bool.and_eq_true] at hlk
        exact of_decide_eq_true hlk.1
      have CO9 := fun r h' => CO mi' r h' hpg hm7
      generalize hav9 : (st.take (xi_na mi')).reverse = av at hs g3 g4 CO9
      generalize hrs9 : st.drop (xi_na mi') = rest at hs g2
      have hav : av.length = xi_na mi' := by
        rw [← hav9, List.length_reverse, List.length_take]
        omega
      have hst : st = av.reverse ++ rest := by
        rw [← hav9, ← hrs9, List.reverse_reverse, List.take_append_drop]
      unfold xi_aft at hs
      cases hc : call m' av h with
      | none => rw [hc] at hs; cases hs
      | some rr =>
        obtain ⟨r, h1⟩ := rr
        rw [hc] at hs
        obtain ⟨hmo, d', hdd, hM⟩ := CO9 r h1 g3 hc
        subst hdd
        have hmo' := hmo
        obtain ⟨m1, m2, m3, m4⟩ := hmo'
        have hmap : ∀ lay : Nat → Nat, st.map (xi_tv lay) = (av.map (xi_tv lay)).reverse ++ rest.map (xi_tv lay) := fun lay => by
          rw [hst, List.map_append, List.map_reverse]
        cases r with
        | inl v =>
          cases hs
          refine ⟨hmo, fun p e R s m args below meth c Q D cy base lay c0 w0 C hfr hlo hc0 hw0 hrc hrs kk H locs ls hP hZ hS hl => ?_⟩
          have hrun := xc_run (e := e) (below := below) (locs := locs) (c0 := c0) (w0 := w0) C hfr hlo hpg hml hi hd hav g4 (fun _ => ⟨v, rfl⟩) g2 hM hP hZ hS hl.1 ⟨by omega, by omega⟩
          show W p l e R s m args below meth c H locs (hC h - c0) (hW h - w0) Q (F0 m pc ls (st.map (xi_tv lay)))
          rw [hmap lay]
          refine xr_run hrun hS (fun v' H1 locs1 hv' hP1 hZ1 hS1 => ?_) (fun k _ _ _ _ hk9 => by cases hk9)
          cases hv'
          refine W.cs (cells' := hC h1 - c0) (slots' := hW h1 - w0) (by omega) (by omega) ?_
          have kk' := kk H1 locs1 ls hP1 hZ1 hS1 hl
          rw [show ((pc + 3, lv, v.toList ++ rest) : xFr).2.2.map (xi_tv lay) = (v.map (xi_tv lay)).toList ++ rest.map (xi_tv lay) from by show (v.toList ++ rest).map (xi_tv lay) = _; rw [List.map_append]; cases v <;> rfl] at kk'
          exact kk'
        | inr E =>
          dsimp only at hs
          split at hs
          · cases hs
          · next hkd =>
            cases hh : xi_hd (xi_own mi) (xi_hh mi) pc E with
            | none =>
              rw [hh] at hs
              dsimp only at hs
              split at hs
              · next hh0 =>
                cases hs
                refine ⟨hmo, fun p e R s m args below meth c D cy base lay c0 w0 C hfr hlo hc0 hw0 hrc hrs H locs ls hP hZ hS hl => ?_⟩
                have hrun := xc_run (e := e) (below := below) (locs := locs) (c0 := c0) (w0 := w0) C hfr hlo hpg hml hi hd hav g4 (fun q => absurd q hkd) g2 hM hP hZ hS hl.1 ⟨by omega, by omega⟩
                show W p l e R s m args below meth c H locs (hC h - c0) (hW h - w0) _ (F0 m pc ls (st.map (xi_tv lay)))
                rw [hmap lay]
                refine xr_run hrun hS (fun v' _ _ hv' => by cases hv') (fun k ce q9 H1 locs1 hk9 hP1 hZ1 hS1 hce hcv hcl => ?_)
                cases hk9
                refine vx_out (E := xi_E E) (fun x hx => ?_) C.2.2.2.2.2.1 hce hcv hcl (fun t ht hvm => ⟨E, rfl, rfl, by rw [ht]; exact hP1, by rw [ht]; exact hZ1, hS1.F ht⟩) hS1.2.2 (by omega) (by omega)
                rw [C.2.2.2.2.2.2.2.2.1, hh0] at hx
                cases hx
              · cases hs
            | some t =>
              rw [hh] at hs
              dsimp only at hs
              obtain ⟨pre, a9, b9, c9, suf, e1, e2, ⟨y9, z9, e3⟩, e4⟩ := xi_hd_sp _ _ _ _ _ hh
              obtain ⟨f1, f2, f3⟩ := xi_el_at e3
              have catch9 : ∀ (p : Program) (e : Env) (R : Room) (s : State) (m : MethodId) (args : Array Value) (below : List Frame) (meth : Method) (c : Code) (Q : State → Prop) (D : va_G) (cy : Nat → ClassId) (base : Nat) (lay : Nat → Nat) (c0 w0 : Nat), xi_C p l s m args meth c mi D cy base lay (hL h) (hX h) → d' + 1 ≤ R.frames → 36 * (d' + 1) ≤ R.locals → c0 ≤ hC h → w0 ≤ hW h → hC h1 - c0 ≤ R.cells → hW h1 - w0 ≤ R.slots → ∀ (H : Heap) (locs : List Loc) (ls : Array Slot), xi_P D cy lay h H → xi_Z base h H → va_S (fun q => base ≤ q) s.heap H locs → lv_has ls (xi_mL mi) (xi_lv lay lv) →
                  (∀ (H1 : Heap) (locs1 : List Loc) (q9 : Nat), xi_P D cy lay h1 H1 → xi_Z base h1 H1 → va_S (fun q => base ≤ q) s.heap H1 locs1 → W p l e R s m args below meth c H1 locs1 (hC h1 - c0) (hW h1 - w0) Q (F0 m t ls [.ref q9])) → W p l e R s m args below meth c H locs (hC h - c0) (hW h - w0) Q (F0 m pc ls (st.map (xi_tv lay))) := by
                intro p e R s m args below meth c Q D cy base lay c0 w0 C hfr hlo hc0 hw0 hrc hrs H locs ls hP hZ hS hl kk
                have hrun := xc_run (e := e) (below := below) (locs := locs) (c0 := c0) (w0 := w0) C hfr hlo hpg hml hi hd hav g4 (fun q => absurd q hkd) g2 hM hP hZ hS hl.1 ⟨by omega, by omega⟩
                rw [hmap lay]
                refine xr_run hrun hS (fun v' _ _ hv' => by cases hv') (fun k ce q9 H1 locs1 hk9 hP1 hZ1 hS1 hce hcv hcl => ?_)
                cases hk9
                refine vx_catch (own := xi_rO (xi_own mi)) (name := xi_E E) (E := xi_E E) C.2.2.2.1 (tableOf pre) ⟨a9, b9, t, c9⟩ (tableOf suf) ?_ ?_ ?_ f3 (C.2.2.2.2.1 _ f1) (C.2.2.2.2.1 _ (ok_ca E f2)) hce hcv hcl ?_
                · rw [C.2.2.2.2.2.2.2.2.1, e1]
                  unfold tableOf
                  rw [List.map_append]
                  rfl
                · intro z hz
                  obtain ⟨q, hq, rfl⟩ := List.mem_map.mp hz
                  rcases e4 q hq with h9 | ⟨y8, e8, z8, h8, h8'⟩
                  · left
                    show (decide (q.1 ≤ pc) && decide (pc < q.2.1)) = false
                    simp only [Bool.and_eq_false_iff, decide_eq_false_iff_not]
                    by_cases h7 : q.1 ≤ pc
                    · exact Or.inr (fun h6 => h9 ⟨h7, h6⟩)
                    · exact Or.inl h7
                  · obtain ⟨i1, i2, i3⟩ := xi_el_at h8
                    exact Or.inr ⟨i3, xi_E e8, C.2.2.2.2.1 _ i1, C.2.2.2.2.2.2.2.2.2.2.1.2.2.1 E f2 e8 i2 (fun h6 => h8' h6.symm)⟩
                · show (decide (a9 ≤ pc) && decide (pc < b9)) = true
                  simp only [Bool.and_eq_true, decide_eq_true_eq]
                  exact e2
                · exact W.cs (cells' := hC h1 - c0) (slots' := hW h1 - w0) (by omega) (by omega) (kk H1 locs1 q9 hP1 hZ1 hS1)
              split at hs
              · next k len hv =>
                split at hs
                · next hkL =>
                  cases hs
                  obtain ⟨d1, d2, -⟩ := xi_tb_at hk hv
                  obtain rfl : len = 1 := by simpa [xi_le, xi_ln] using d2
                  refine ⟨hmo, fun p e R s m args below meth c Q D cy base lay c0 w0 C hfr hlo hc0 hw0 hrc hrs kk H locs ls hP hZ hS hl => ?_⟩
                  refine catch9 p e R s m args below meth c Q D cy base lay c0 w0 C hfr hlo hc0 hw0 hrc hrs H locs ls hP hZ hS hl (fun H1 locs1 q9 hP1 hZ1 hS1 => ?_)
                  exact lv_astore_n C.1 C.2.1 d1 rfl hl hkL rfl (fun ls' hl' => kk H1 locs1 ls' hP1 hZ1 hS1 (xi_lv_sp hl'))
                · cases hs
              · next k len hv =>
                split at hs
                · next hkL =>
                  cases hs
                  obtain ⟨d1, d2, -⟩ := xi_tb_at hk hv
                  obtain rfl : len = 2 := by simpa [xi_le, xi_ln] using d2
                  refine ⟨hmo, fun p e R s m args below meth c Q D cy base lay c0 w0 C hfr hlo hc0 hw0 hrc hrs kk H locs ls hP hZ hS hl => ?_⟩
                  refine catch9 p e R s m args below meth c Q D cy base lay c0 w0 C hfr hlo hc0 hw0 hrc hrs H locs ls hP hZ hS hl (fun H1 locs1 q9 hP1 hZ1 hS1 => ?_)
                  exact lv_astore C.1 C.2.1 d1 hl hkL rfl (fun ls' hl' => kk H1 locs1 ls' hP1 hZ1 hS1 (xi_lv_sp hl'))
                · cases hs
              · cases hs
    · cases hs
