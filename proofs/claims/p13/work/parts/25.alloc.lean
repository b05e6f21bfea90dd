theorem ok_ai : Cond.arrayClass .int ∈ xT := List.mem_filter.mpr ⟨by decide +kernel, rfl⟩
theorem ok_az : Cond.arrayClass .boolean ∈ xT := List.mem_filter.mpr ⟨by decide +kernel, rfl⟩
theorem ok_aj : Cond.arrayClass .long ∈ xT := List.mem_filter.mpr ⟨by decide +kernel, rfl⟩
theorem xi_S_new {base : Nat} {H0 H H1 : Heap} {locs : List Loc} (h : va_S (fun q => base ≤ q) H0 H locs) (z : H.size ≤ H1.size) (o : ∀ q : Nat, q < H.size → H1[q]? = H[q]?) : va_S (fun q => base ≤ q) H0 H1 locs :=
  ⟨Nat.le_trans h.1 z, fun q h1 h2 => (o q (Nat.lt_of_lt_of_le h1 h.1)).trans (h.2.1 q h1 h2), h.2.2⟩
theorem xi_en_nw {cy : Nat → ClassId} {lay : Nat → Nat} {h : xHp} {kind len sl i : Nat} (hi : i ≠ hN h) : xi_en cy lay (xi_nw h kind len sl) i = xi_en cy lay h i := by
  apply xi_en_cg
  · exact va_up_ne _ _ hi
  · funext j
    show (if i = hN h then 0 else hI h i j) = _
    rw [if_neg hi]
  · funext j
    show (if i = hN h then 0 else hJ h i j) = _
    rw [if_neg hi]
  · funext j
    show (if i = hN h then none else hR h i j) = _
    rw [if_neg hi]
theorem xi_P_nw {D : va_G} {cy : Nat → ClassId} {lay : Nat → Nat} {base : Nat} {h : xHp} {H H1 : Heap} {kind len sl : Nat} (hl : xi_lay base lay) (hP : xi_P D cy lay h H) (hz : H.size = base + hN h) (hn : hN h < 900000) (o : ∀ q : Nat, q < H.size → H1[q]? = H[q]?) (hw : va_at D vwCl (lay (hN h), xi_en cy lay (xi_nw h kind len sl) (hN h)) H1) : xi_P D cy lay (xi_nw h kind len sl) H1 := by
  intro i hi
  have hi' : i < hN h + 1 := hi
  by_cases e : i = hN h
  · rw [e]
    exact hw
  · rw [xi_en_nw e]
    exact (hP i (by omega)).kept (o _ (by rw [hl i (by omega), hz]; omega))
theorem xi_Z_nw {base : Nat} {h : xHp} {H H1 : Heap} {kind len sl : Nat} (hz : H.size = base + hN h) (hn : hN h < 900000) (z : H1.size = H.size + 1) : xi_Z base (xi_nw h kind len sl) H1 := by
  refine ⟨fun _ => ?_, ?_, ?_⟩
  · show H1.size = base + (hN h + 1)
    omega
  · show base + (hN h + 1) ≤ H1.size
    omega
  · show hN h + 1 ≤ 900000
    omega
theorem xi_dv {c : Nat} (hc : c < 8) {lay : Nat → Nat} {h : xHp} {a j : Nat} (hj : j < xi_nf c) (h0 : hI h a j = 0) (hr : hR h a j = none) : defaultValue (xi_ty c j) = vp_V ((List.range (xi_nf c)).map (xi_ev lay h a c)) j := by
  unfold vp_V
  rw [List.getD_eq_getElem?_getD, xi_map_get hj]
  show _ = xi_ev lay h a c j
  unfold xi_ev
  by_cases hf : xi_rf c j = true
  · rw [if_pos hf, hr]
    unfold xi_rf at hf
    cases e : xi_ty c j <;> rw [e] at hf <;> first | exact absurd hf Bool.false_ne_true | rfl
  · rw [if_neg hf, h0]
    rcases ok_ty c hc j hj (by simpa using hf) with e | ⟨e, -⟩
    · rw [e]
      rfl
    · rw [e]
      rfl
theorem xi_AO_of {U : State} (h : va_AO RX1 U ∧ va_AO RX2 U ∧ va_AO RX3 U ∧ va_AO RX4 U ∧ va_AO RX6 U ∧ xi_AOA U) {c : Nat} (hc : 10 < xi_ak c) (h8 : c < 8) : va_AO (xi_cls c) U ∧ xi_ak c < 16 := by
  obtain ⟨a1, a2, a3, a4, a5, -⟩ := h
  rcases (show c = 0 ∨ c = 1 ∨ c = 2 ∨ c = 3 ∨ c = 4 ∨ c = 5 ∨ c = 6 ∨ c = 7 by omega) with rfl | rfl | rfl | rfl | rfl | rfl | rfl | rfl
  · exact ⟨a1, by decide⟩
  · exact ⟨a2, by decide⟩
  · exact ⟨a3, by decide⟩
  · exact ⟨a4, by decide⟩
  · exact absurd hc (by decide)
  · exact ⟨a5, by decide⟩
  · exact absurd hc (by decide)
  · exact absurd hc (by decide)
theorem xi_outer (c : ClassId) (N h0 : Nat) : ∀ i : Nat, Jvm.Free.Multi.outerC c N h0 i = arrV c N (fun j => va_rf (if j < i then some (h0 + 1 + j) else none))
  | 0 => by
    show ({ cls := c, slots := Array.replicate N .null, vm := .none } : Cell) = _
    rw [arrV_new]
    refine congrArg (arrV c N) (funext fun j => ?_)
    simp [va_rf]
  | i + 1 => by
    show (Jvm.Free.Multi.outerC c N h0 i).setSlot i (.ref (h0 + 1 + i)) = _
    rw [xi_outer c N h0 i, arrV_store]
    refine congrArg (arrV c N) (funext fun j => ?_)
    by_cases e : j = i
    · subst e
      simp [updV, va_rf]
    · by_cases h : j < i
      · simp [updV, e, h, Nat.lt_succ_of_lt h]
      · simp [updV, e, h, show ¬ j < i + 1 by omega]
section
variable {mi : xMi}
theorem xs_new {ix : Nat} : xi_Go mi (.new ix) := by
  intro len pc lv st h fr' h' hlen hs
  obtain rfl : len = 3 := by simpa [xi_le, xi_ln] using hlen
  simp only [xi_s1] at hs
  split at hs
  · next cn po hv =>
    split at hs
    · next hk =>
      obtain ⟨hF0, hn9, hc8⟩ := hk
      cases hs
      have hw := xi_all_at ok_nl rfl hv
      rw [Bool.and_eq_true] at hw
      have hcw := List.all_eq_true.mp ok_cw cn (List.mem_range.mpr hc8)
      rw [Bool.and_eq_true] at hcw
      refine ⟨⟨Nat.le_succ _, Nat.le_add_right _ _, rfl, rfl⟩, fun p l e R s m args below meth c Q D cy base lay c0 w0 C hd hc0 hw0 hrc hrs kk H locs ls hP hZ hS hl => ?_⟩
      have hlay := C.2.2.2.2.2.2.2.2.2.2.2
      have hKK := C.2.2.2.2.2.2.2.2.2.2.1.1
      have hsz := hZ.1 hF0
      have hKn := hKK.1 cn _ (ok_cu cn hc8)
      have hrc' : hC h + 1 - c0 ≤ R.cells := hrc
      have hrs' : hW h + xi_nf cn - w0 ≤ R.slots := hrs
      refine W.newcK C.1 C.2.1 C.2.2.2.1 (C.2.2.2.2.1 _ (xi_at_mem hw.1)) (C.2.2.2.2.1 _ (xi_at_mem hcw.1)) (C.2.2.2.2.1 _ (xi_at_mem hcw.2)) rfl hd (by omega) (by omega) hKn.2.1 rfl fun H1 kC hkC e1 z1 o1 => ?_
      refine W.cs (cells' := hC h + 1 - c0) (slots' := hW h + xi_nf cn - w0) (by omega) (by omega) ?_
      have ea : lay (hN h) = H.size := by rw [hlay _ hn9, hsz]
      have kk' := kk H1 locs ls (xi_P_nw hlay hP hsz hn9 o1 ?_) (xi_Z_nw hsz hn9 z1) (xi_S_new hS (by omega) o1) hl
      · have e2 : ((pc + 3, lv, Value.ref (hN h) :: st) : xFr).2.2.map (xi_tv lay) = .ref H.size :: st.map (xi_tv lay) := by rw [← ea]; rfl
        rw [e2] at kk'
        exact kk'
      · rw [xi_en_o (h := xi_nw h cn 0 (xi_nf cn)) (c := cn) (by show (va_up (hK h) (hN h) (cn, 0) (hN h)).1 = cn; rw [va_up_self]) hc8, ea]
        refine ⟨_, ok_cu cn hc8, (u_born (xi_ty cn) C.2.2.2.2.1 (ok_ci cn hc8) hKn hkC e1 (ok_ct cn hc8)).to (fun j hj => xi_dv hc8 hj ?_ ?_)⟩
        · show (if hN h = hN h then (0 : Int32) else _) = 0
          rw [if_pos rfl]
        · show (if hN h = hN h then none else _) = none
          rw [if_pos rfl]
    · cases hs
  · cases hs
theorem xi_en_nwk {kind len sl : Nat} {h : xHp} : (hK (xi_nw h kind len sl) (hN h)) = (kind, len) := va_up_self _ _ _
theorem xi_newa {t : ArrayType} {kd : Nat} {ty : FieldType} (ht : newarray.typeOf t = ty) (hac : Cond.arrayClass ty ∈ xT) (hcb : componentBytes ty ≤ 8) (hra : ∀ (s : State) (cA : ClassId), va_RA s cA ty → s.vm.findClass ("[" ++ ty.toString) = some cA) (htl : ∀ cy : Nat → ClassId, (xi_tl cy)[kd - 8]? = some (cy (kd - 8), ty))
    (hdv : ∀ (cy : Nat → ClassId) (lay : Nat → Nat) (h : xHp) (n : Nat), ∃ x : vp_A, xi_en cy lay (xi_nw h kd n n) (hN h) = .inl (cy (kd - 8), x) ∧ ∀ cA : ClassId, vp_cell cA x = arrV cA n (fun _ => defaultValue ty))
    {pc : Nat} {lv : List (Nat × Value)} {r : List Value} {n : Int32} {h : xHp} (hF0 : hF h = false) (hn9 : hN h < 900000) (hn0 : ¬ n < 0) (hn1 : n.toNatClampNeg ≤ 1000) :
    xi_mo h (xi_nw h kd n.toNatClampNeg n.toNatClampNeg) ∧ xi_Sd mi (.newarray t) 2 (pc, lv, .int n :: r) h (pc + 2, lv, .ref (hN h) :: r) (xi_nw h kd n.toNatClampNeg n.toNatClampNeg) := by
  refine ⟨⟨Nat.le_succ _, Nat.le_add_right _ _, rfl, rfl⟩, fun p l e R s m args below meth c Q D cy base lay c0 w0 C hd hc0 hw0 hrc hrs kk H locs ls hP hZ hS hl => ?_⟩
  have hlay := C.2.2.2.2.2.2.2.2.2.2.2
  have hKK := C.2.2.2.2.2.2.2.2.2.2.1.1
  have hsz := hZ.1 hF0
  have hrc' : hC h + 1 - c0 ≤ R.cells := hrc
  have hrs' : hW h + n.toNatClampNeg - w0 ≤ R.slots := hrs
  have hb9 : n.toNatClampNeg * componentBytes (newarray.typeOf t) ≤ 536870912 := by
    rw [ht]
    exact Nat.le_trans (Nat.mul_le_mul hn1 hcb) (by decide)
  refine va_newaK C.1 C.2.1 (by rw [ht]; exact C.2.2.2.2.1 _ hac) rfl hd rfl hn0 rfl hb9 (by omega) (by omega) rfl fun H1 cA e1 z1 o1 hAr hNm => ?_
  rw [ht] at e1 hNm
  have ec : cA = cy (kd - 8) := Option.some.inj (hNm.symm.trans (hra s _ (hKK.2 _ _ (htl cy)).2))
  subst ec
  refine W.cs (cells' := hC h + 1 - c0) (slots' := hW h + n.toNatClampNeg - w0) (by omega) (by omega) ?_
  have ea : lay (hN h) = H.size := by rw [hlay _ hn9, hsz]
  obtain ⟨x, ex, ev⟩ := hdv cy lay h n.toNatClampNeg
  have kk' := kk H1 locs ls (xi_P_nw hlay hP hsz hn9 o1 ?_) (xi_Z_nw hsz hn9 z1) (xi_S_new hS (by omega) o1) hl
  · have e2 : ((pc + 2, lv, Value.ref (hN h) :: r) : xFr).2.2.map (xi_tv lay) = .ref H.size :: r.map (xi_tv lay) := by rw [← ea]; rfl
    rw [e2] at kk'
    exact kk'
  · rw [ea, ex]
    show H1[H.size]? = some (vp_cell _ x)
    rw [ev]
    exact e1
theorem xs_newarray {t : ArrayType} : xi_Go mi (.newarray t) := by
  intro len pc lv st h fr' h' hlen hs
  obtain rfl : len = 2 := by simpa [xi_le, xi_ln] using hlen
  simp only [xi_s1] at hs
  split at hs
  · next n r =>
    split at hs
    · next hk =>
      obtain ⟨hF0, hn9, hn0, hn1⟩ := hk
      split at hs
      · cases hs
        refine xi_newa (t := .int) (ty := .int) (kd := 8) rfl ok_ai (by decide) (fun _ _ h9 => h9) (fun _ => rfl) (fun cy lay h n => ⟨(n, .inl (fun _ => 0)), ?_, fun cA => rfl⟩) hF0 hn9 hn0 hn1
        rw [xi_en_i (k := 8) (by rw [xi_en_nwk]) (by omega) (by omega), xi_en_nwk]
        refine congrArg (fun f => Sum.inl (cy (8 - 8), n, Sum.inl f)) (funext fun j => ?_)
        show (if hN h = hN h then (0 : Int32) else _) = 0
        rw [if_pos rfl]
      · cases hs
        refine xi_newa (t := .boolean) (ty := .boolean) (kd := 9) rfl ok_az (by decide) (fun _ _ h9 => h9) (fun _ => rfl) (fun cy lay h n => ⟨(n, .inl (fun _ => 0)), ?_, fun cA => rfl⟩) hF0 hn9 hn0 hn1
        rw [xi_en_i (k := 9) (by rw [xi_en_nwk]) (by omega) (by omega), xi_en_nwk]
        refine congrArg (fun f => Sum.inl (cy (9 - 8), n, Sum.inl f)) (funext fun j => ?_)
        show (if hN h = hN h then (0 : Int32) else _) = 0
        rw [if_pos rfl]
      · cases hs
        refine xi_newa (t := .long) (ty := .long) (kd := 10) rfl ok_aj (by decide) (fun _ _ h9 => h9) (fun _ => rfl) (fun cy lay h n => ⟨(n, .inr (.inl (fun _ => 0))), ?_, fun cA => rfl⟩) hF0 hn9 hn0 hn1
        rw [xi_en_j (by rw [xi_en_nwk]), xi_en_nwk]
        refine congrArg (fun f => Sum.inl (cy 2, n, Sum.inr (Sum.inl f))) (funext fun j => ?_)
        show (if hN h = hN h then (0 : Int64) else _) = 0
        rw [if_pos rfl]
      · cases hs
    · cases hs
  · cases hs
theorem xs_anewarray {ix : Nat} : xi_Go mi (.anewarray ix) := by
  intro len pc lv st h fr' h' hlen hs
  obtain rfl : len = 3 := by simpa [xi_le, xi_ln] using hlen
  simp only [xi_s1] at hs
  split at hs
  · next cn po n r hv =>
    split at hs
    · next hk =>
      obtain ⟨hF0, hn9, hn0, hn1, hec, hak⟩ := hk
      cases hs
      have hw := xi_all_at ok_nl rfl hv
      rw [Bool.and_eq_true] at hw
      have hc8 : cn < 8 := of_decide_eq_true hw.2
      refine ⟨⟨Nat.le_succ _, Nat.le_add_right _ _, rfl, rfl⟩, fun p l e R s m args below meth c Q D cy base lay c0 w0 C hd hc0 hw0 hrc hrs kk H locs ls hP hZ hS hl => ?_⟩
      have hlay := C.2.2.2.2.2.2.2.2.2.2.2
      have hKK := C.2.2.2.2.2.2.2.2.2.2.1.1
      obtain ⟨hao, hak6⟩ := xi_AO_of C.2.2.2.2.2.2.2.2.2.2.1.2.1 hak hc8
      have hsz := hZ.1 hF0
      have hrc' : hC h + 1 - c0 ≤ R.cells := hrc
      have hrs' : hW h + n.toNatClampNeg - w0 ≤ R.slots := hrs
      refine W.anew C.1 C.2.1 C.2.2.2.1 (C.2.2.2.2.1 _ (xi_at_mem hw.1)) (va_AO.use hao) rfl hd rfl hn0 (by omega) (by omega) (by omega) fun cA kA comp f1 f2 f3 f4 => ?_
      obtain ⟨ht, -⟩ := xi_tl_e cy (xi_ak cn) hak hak6
      rw [hec] at ht
      obtain ⟨kA', comp', q1, q2, q3, q4⟩ := (hKK.2 _ _ ht).2
      have ec : cA = cy (xi_ak cn - 8) := Option.some.inj (f1.symm.trans q4)
      subst ec
      generalize hH1 : H.push ({ cls := cy (xi_ak cn - 8), slots := Array.replicate n.toNatClampNeg .null, vm := .none } : Cell) = H1
      have z1 : H1.size = H.size + 1 := by rw [← hH1, Array.size_push]
      have e1 : H1[H.size]? = some (arrV (cy (xi_ak cn - 8)) n.toNatClampNeg (fun _ => .null)) := by rw [← hH1, Array.getElem?_push_size, ← arrV_new]
      have o1 : ∀ q : Nat, q < H.size → H1[q]? = H[q]? := fun q hq => by rw [← hH1, Array.getElem?_push, if_neg (Nat.ne_of_lt hq)]
      refine W.cs (cells' := hC h + 1 - c0) (slots' := hW h + n.toNatClampNeg - w0) (by omega) (by omega) ?_
      have ea : lay (hN h) = H.size := by rw [hlay _ hn9, hsz]
      have kk' := kk H1 locs ls (xi_P_nw hlay hP hsz hn9 o1 ?_) (xi_Z_nw hsz hn9 z1) (xi_S_new hS (by omega) o1) hl
      · have e2 : ((pc + 3, lv, Value.ref (hN h) :: r) : xFr).2.2.map (xi_tv lay) = .ref H.size :: r.map (xi_tv lay) := by rw [← ea]; rfl
        rw [e2] at kk'
        exact kk'
      · rw [ea, xi_en_r (k := xi_ak cn) (by rw [xi_en_nwk]) hak, xi_en_nwk]
        show H1[H.size]? = some (vp_cell _ _)
        rw [vp_cell_q, e1]
        refine congrArg (fun f => some (arrV (cy (xi_ak cn - 8)) n.toNatClampNeg f)) (funext fun j => ?_)
        show Value.null = va_rf (Option.map lay (if hN h = hN h then none else _))
        rw [if_pos rfl]
        rfl
    · cases hs
  · cases hs
theorem xi_en_mo {cy : Nat → ClassId} {lay : Nat → Nat} {h : xHp} {n k i : Nat} (hi : i < hN h) : xi_en cy lay (xi_mn h n k) i = xi_en cy lay h i := by
  have h1 : i ≠ hN h := by omega
  have h2 : ¬ (hN h < i ∧ i ≤ hN h + n) := by omega
  apply xi_en_cg
  · show (if i = hN h then (16, n) else if hN h < i ∧ i ≤ hN h + n then (8, k) else hK h i) = _
    rw [if_neg h1, if_neg h2]
  · funext j
    show (if hN h < i ∧ i ≤ hN h + n then (0 : Int32) else hI h i j) = _
    rw [if_neg h2]
  · rfl
  · funext j
    show (if i = hN h then (if j < n then some (hN h + 1 + j) else none) else hR h i j) = _
    rw [if_neg h1]
theorem xs_multianewarray {ix dm : Nat} : xi_Go mi (.multianewarray ix dm) := by
  intro len pc lv st h fr' h' hlen hs
  obtain rfl : len = 4 := by simpa [xi_le, xi_ln] using hlen
  simp only [xi_s1] at hs
  by_cases hdm : dm = 2
  case neg => rw [if_pos hdm] at hs; cases hs
  subst hdm
  rw [if_neg (fun q => q rfl)] at hs
  split at hs
  · next po k n r hv =>
    split at hs
    · next hk =>
      obtain ⟨hF0, hn9, hn0, hk0, hn1, hk1⟩ := hk
      cases hs
      have hw := xi_at_mem (xi_all_at ok_al rfl hv)
      refine ⟨⟨Nat.le_add_right _ _, Nat.le_add_right _ _, rfl, rfl⟩, fun p l e R s m args below meth c Q D cy base lay c0 w0 C hd hc0 hw0 hrc hrs kk H locs ls hP hZ hS hl => ?_⟩
      have hlay := C.2.2.2.2.2.2.2.2.2.2.2
      have hKK := C.2.2.2.2.2.2.2.2.2.2.1.1
      have haoa := C.2.2.2.2.2.2.2.2.2.2.1.2.1.2.2.2.2.2
      have hsz := hZ.1 hF0
      have hrc' : hC h + (1 + n.toNatClampNeg) - c0 ≤ R.cells := hrc
      have hrs' : hW h + (n.toNatClampNeg + n.toNatClampNeg * k.toNatClampNeg) - w0 ≤ R.slots := hrs
      intro T hT Xs
      subst hT
      have hbb := C.2.1
      obtain ⟨vm₁, cA, comp, -, fA, fC, hO, -, X', step⟩ := Xs.multianewarray2F (ty := .int) C.1 C.2.2.2.1 (C.2.2.2.2.1 _ hw) haoa (C.2.2.2.2.1 _ ok_ai) (g := F0 m pc ls (.int k :: .int n :: r.map (xi_tv lay))) rfl (by rw [hbb]; exact hd) rfl hn0 hk0 (by omega) (by show k.toNatClampNeg * 4 ≤ 536870912; omega) (by omega) rfl rfl (by omega) (by omega)
      have ec : cA = cy 8 := Option.some.inj (fA.symm.trans (hKK.2 8 _ rfl).2)
      have ec2 : comp = cy 0 := Option.some.inj (fC.symm.trans (hKK.2 0 _ rfl).2)
      subst ec
      subst ec2
      generalize hF9 : Jvm.Free.Multi.fill (T.setVm vm₁) (cy 8) (cy 0) n.toNatClampNeg k.toNatClampNeg (defaultValue .int) n.toNatClampNeg = F at X' step
      obtain ⟨f1, f2, -, -⟩ := Jvm.Free.Multi.fill_facts (T.setVm vm₁) (cy 8) (cy 0) n.toNatClampNeg k.toNatClampNeg (defaultValue .int) n.toNatClampNeg
      rw [hF9] at f1 f2
      have f1' : F.heap.size = T.heap.size + 1 + n.toNatClampNeg := f1
      have hold : ∀ x : Nat, x < T.heap.size → F.heap[x]? = T.heap[x]? := fun x hx => by
        have := Jvm.Free.Multi.fill_old (T.setVm vm₁) (cy 8) (cy 0) n.toNatClampNeg k.toNatClampNeg (defaultValue .int) (a := x) hx n.toNatClampNeg
        rw [hF9] at this
        exact this
      have hrow : ∀ j : Nat, j < n.toNatClampNeg → F.heap[T.heap.size + 1 + j]? = some (arrV (cy 0) k.toNatClampNeg (fun _ => .int 0)) := fun j hj => by
        have := Jvm.Free.Multi.fill_inner (T.setVm vm₁) (cy 8) (cy 0) n.toNatClampNeg k.toNatClampNeg (defaultValue .int) n.toNatClampNeg j hj
        rw [hF9] at this
        rw [← arrV_new]
        exact this
      have ea : lay (hN h) = T.heap.size := by rw [hlay _ (by omega), hsz]
      have hP1 : xi_P D cy lay (xi_mn h n.toNatClampNeg k.toNatClampNeg) F.heap := by
        intro i hi
        have hi' : i < hN h + (1 + n.toNatClampNeg) := hi
        by_cases h1 : i < hN h
        · rw [xi_en_mo h1]
          exact (hP i h1).kept (hold _ (by rw [hlay i (by omega), hsz]; omega))
        · by_cases h2 : i = hN h
          · subst h2
            rw [ea, xi_en_r (k := 16) (by show (if hN h = hN h then (16, n.toNatClampNeg) else _).1 = 16; rw [if_pos rfl]) (by omega)]
            show F.heap[T.heap.size]? = some (vp_cell _ _)
            rw [vp_cell_q]
            have e16 : hK (xi_mn h n.toNatClampNeg k.toNatClampNeg) (hN h) = (16, n.toNatClampNeg) := by
              show (if hN h = hN h then (16, n.toNatClampNeg) else _) = _
              rw [if_pos rfl]
            rw [e16]
            have f2' : F.heap[T.heap.size]? = some (Jvm.Free.Multi.outerC (cy 8) n.toNatClampNeg T.heap.size n.toNatClampNeg) := f2
            rw [f2', xi_outer]
            refine congrArg (fun f => some (arrV (cy 8) n.toNatClampNeg f)) (funext fun j => ?_)
            show va_rf (if j < n.toNatClampNeg then some (T.heap.size + 1 + j) else none) = va_rf (Option.map lay (if hN h = hN h then (if j < n.toNatClampNeg then some (hN h + 1 + j) else none) else _))
            rw [if_pos rfl]
            by_cases hj : j < n.toNatClampNeg
            · rw [if_pos hj, if_pos hj]
              show _ = va_rf (some (lay (hN h + 1 + j)))
              rw [hlay _ (by omega), hsz]
              congr 2
              omega
            · rw [if_neg hj, if_neg hj]
              rfl
          · have h3 : hN h < i ∧ i ≤ hN h + n.toNatClampNeg := by omega
            have e8 : hK (xi_mn h n.toNatClampNeg k.toNatClampNeg) i = (8, k.toNatClampNeg) := by
              show (if i = hN h then (16, n.toNatClampNeg) else if hN h < i ∧ i ≤ hN h + n.toNatClampNeg then (8, k.toNatClampNeg) else hK h i) = _
              rw [if_neg h2, if_pos h3]
            rw [xi_en_i (k := 8) (by rw [e8]) (by omega) (by omega), e8]
            show F.heap[lay i]? = some (vp_cell _ _)
            rw [vp_cell_i, show lay i = T.heap.size + 1 + (i - hN h - 1) from by rw [hlay i (by omega), hsz]; omega, hrow _ (by omega)]
            refine congrArg (fun f => some (arrV (cy 0) k.toNatClampNeg f)) (funext fun j => ?_)
            show Value.int 0 = Value.int (if hN h < i ∧ i ≤ hN h + n.toNatClampNeg then (0 : Int32) else hI h i j)
            rw [if_pos h3]
      have hZ1 : xi_Z base (xi_mn h n.toNatClampNeg k.toNatClampNeg) F.heap := by
        refine ⟨fun _ => ?_, ?_, ?_⟩
        · show F.heap.size = base + (hN h + (1 + n.toNatClampNeg))
          omega
        · show base + (hN h + (1 + n.toNatClampNeg)) ≤ F.heap.size
          omega
        · show hN h + (1 + n.toNatClampNeg) ≤ 900000
          omega
      have kk' := kk F.heap locs ls hP1 hZ1 (xi_S_new hS (by omega) hold) hl
      have e2 : ((pc + 4, lv, Value.ref (hN h) :: r) : xFr).2.2.map (xi_tv lay) = .ref T.heap.size :: r.map (xi_tv lay) := by rw [← ea]; rfl
      rw [e2] at kk'
      have ec1 : hC h - c0 + 1 + n.toNatClampNeg = hC (xi_mn h n.toNatClampNeg k.toNatClampNeg) - c0 := by
        show _ = hC h + (1 + n.toNatClampNeg) - c0
        omega
      have ew1 : hW h - w0 + n.toNatClampNeg + n.toNatClampNeg * k.toNatClampNeg = hW (xi_mn h n.toNatClampNeg k.toNatClampNeg) - w0 := by
        show _ = hW h + (n.toNatClampNeg + n.toNatClampNeg * k.toNatClampNeg) - w0
        omega
      rw [ec1, ew1] at X'
      obtain ⟨t, a1, b1⟩ := kk' F rfl X'
      exact ⟨t, step t a1, b1⟩
    · cases hs
  · cases hs
end
