/-! THE CLAIM OUT OF ONE WALK OF THE LAW'S BODY. Your part is whole_start (and what it stands on); all else here is the same for every law, but numbers. -/
def R_law : String := "OnionCellsLaw"
def lw_P (b : Addr) (xs : List Int32) (args : Array Value) (s : State) : Prop := args = #[.ref b] ∧ s.IntsAt b xs ∧ xs.length ≤ 2560 ∧ (Jvm.Cond.and given_1 narrow_1).before args s = true
def lw_Q (_ : Array Value) (s : State) (o : Outcome) (t : State) : Prop := o = .returned (some (.int 1)) ∧ Framed s o t [] 632981 7197160
def lw_Z (below : List Frame) (a : Array Value) (s : State) : State → Prop := fun t => ∃ o, t.status = .running ∧ Ended t below o ∧ lw_Q a s o t
/-- what holds at the law's entry: the machine, the code, the tables' words (any of lw_tbl by 'hts w (by decide +kernel)'), the script of L ints xs at the cell b, what the Statement gives of the start (any of its parts by flat_of_before) -/
def lw_At (p : Program) (s : State) (m : MethodId) (meth : Method) (c : Code) (b L : Nat) (xs : Nat → Int32) : Prop :=
  p.tables.exec = Jvm.exec ∧ c.code = code ∧ meth.sig.returnType = ret ∧ c.maxLocals = 9 ∧ s.vm.findClass R_law = some m.cls ∧ (∀ w ∈ lw_tbl, w.before #[Value.ref b] s = true) ∧ va_X b L xs s s.heap ∧ b < s.heap.size ∧ meth.locks = false ∧ (Jvm.Cond.and given_1 narrow_1).before #[Value.ref b] s = true ∧ meth.name = "law" ∧ c.exceptionTable.toList = []

theorem xk_ac {ty : FieldType} {args : Array Value} {s : State} (h : (Cond.arrayClass ty).before args s = true) : ∃ cA, ArrOfT s cA ty ∧ s.vm.findClass ("[" ++ ty.toString) = some cA := by
  obtain ⟨c, k, comp, h1, h2, h3⟩ := Cond.arrayClass_spec h
  exact ⟨c, fun N z => ⟨(fun k h => by cases h), k, h2, comp, h3⟩, h1⟩
theorem xk_ao {C : String} {s : State} (h : va_AO C s) : ∃ cA, ArrOfT s cA (.object C) ∧ va_RA s cA (.object C) := by
  obtain ⟨comp, c, k, h1, h2, h3, h4, h5⟩ := Cond.arrayOver_spec h
  exact ⟨c, fun N z => ⟨(fun k h => by cases h), k, h3, comp, h4⟩, ⟨k, comp, h3, h4, h1, h5⟩⟩
theorem xk_aa {s : State} (h : xi_AOA s) : ∃ cA, ArrOfT s cA (.array .int) ∧ va_RA s cA (.array .int) := by
  obtain ⟨comp, c, k, h1, h3, h4, h5⟩ := Cond.arrayOver_specA h
  exact ⟨c, fun N z => ⟨(fun k h => by cases h), k, h3, comp, h4⟩, h5⟩
theorem xk_all {P : Nat → Prop} : (∀ c, c < 8 → P c) → True := fun _ => trivial
set_option maxRecDepth 20000 in
theorem xi_whole {p : Program} {l : Launch} (hst : l.stackTraces = false) {e : Env} {s : State} {m : MethodId} {below : List Frame} {meth : Method} {c : Code} {b L : Nat} {xs : Nat → Int32} (C0 : lw_At p s m meth c b L xs)
    (hr : ∃ (n : Nat) (h' : xHp), xi_run n 12 177 (23, [(4, .int 0), (3, .ref 189), (2, .ref 165), (1, .ref 0), (0, .ref xi_scr)], []) (xi_hn 190 190 1841 (L + 1) xs) = some (.inl (some (.int 1)), h') ∧ hC h' ≤ 632981 ∧ hW h' ≤ 7197160) :
    W p l e room_1 s m #[Value.ref b] below meth c s.heap [] 0 0 (lw_Z below #[Value.ref b] s) (entryFrame m ([Value.ref b] : List Value).toArray 9) := by
  obtain ⟨hx, hb, hrt, hml, hown, hts, hX, hbl, hlocks, hgv, hnm, htab⟩ := C0
  have hT : ∀ w ∈ xT, w.before #[Value.ref b] s = true := fun w hw => hts w (List.mem_filter.mp hw).1
  have hcw : ∀ c, c < 8 → (Cond.instantiable (xi_cls c) (xi_nf c)).before #[Value.ref b] s = true := fun c hc => by
    have h9 := List.all_eq_true.mp ok_cw c (List.mem_range.mpr hc)
    rw [Bool.and_eq_true] at h9
    exact hT _ (xi_at_mem h9.1)
  have hk : ∀ c, c < 8 → ∃ (cC : ClassId) (iS : Nat → Nat), u_Kn s (xi_cls c) (xi_T c) (xi_nf c) cC iS := fun c hc => u_known hT (ok_ci c hc) (hcw c hc)
  obtain ⟨dC, dI, hD⟩ : ∃ (dC : Nat → ClassId) (dI : Nat → Nat → Nat), ∀ c, c < 8 → u_Kn s (xi_cls c) (xi_T c) (xi_nf c) (dC c) (dI c) :=
    ⟨fun c => if h : c < 8 then Classical.choose (hk c h) else 0, fun c => if h : c < 8 then Classical.choose (Classical.choose_spec (hk c h)) else fun _ => 0, fun c hc => by simp only [dif_pos hc]; exact Classical.choose_spec (Classical.choose_spec (hk c hc))⟩
  have o1 : va_AO RX1 s := va_AO.of (hts _ (by decide +kernel))
  have o2 : va_AO RX2 s := va_AO.of (hts _ (by decide +kernel))
  have o3 : va_AO RX3 s := va_AO.of (hts _ (by decide +kernel))
  have o4 : va_AO RX4 s := va_AO.of (hts _ (by decide +kernel))
  have o5 : va_AO RX6 s := va_AO.of (hts _ (by decide +kernel))
  have o6 : xi_AOA s := hts (.arrayOver (.array .int)) (by decide +kernel)
  obtain ⟨c0, a0, b0⟩ := xk_ac (hT _ ok_ai)
  obtain ⟨c1, a1, b1⟩ := xk_ac (hT _ ok_az)
  obtain ⟨c2, a2, b2⟩ := xk_ac (hT _ ok_aj)
  obtain ⟨c3, a3, b3⟩ := xk_ao o1
  obtain ⟨c4, a4, b4⟩ := xk_ao o2
  obtain ⟨c5, a5, b5⟩ := xk_ao o3
  obtain ⟨c6, a6, b6⟩ := xk_ao o4
  obtain ⟨c7, a7, b7⟩ := xk_ao o5
  obtain ⟨c8, a8, b8⟩ := xk_aa o6
  obtain ⟨cy, hcy⟩ : ∃ cy : Nat → ClassId, xi_tl cy = [(c0, .int), (c1, .boolean), (c2, .long), (c3, .object RX1), (c4, .object RX2), (c5, .object RX3), (c6, .object RX4), (c7, .object RX6), (c8, .array .int)] := ⟨fun k => [c0, c1, c2, c3, c4, c5, c6, c7, c8].getD k 0, rfl⟩
  have hK : va_K (dC, dI) vwCl (xi_tl cy) s := by
    refine ⟨fun k q hq => ?_, fun k q hq => ?_⟩
    · have hk8 : k < 8 := (List.getElem?_eq_some_iff.mp hq).1
      have e9 := (ok_cu k hk8).symm.trans hq
      cases e9
      exact hD k hk8
    · rw [hcy] at hq
      have hk9 : k < 9 := (List.getElem?_eq_some_iff.mp hq).1
      rcases (show k = 0 ∨ k = 1 ∨ k = 2 ∨ k = 3 ∨ k = 4 ∨ k = 5 ∨ k = 6 ∨ k = 7 ∨ k = 8 by omega) with rfl | rfl | rfl | rfl | rfl | rfl | rfl | rfl | rfl <;> cases hq
      · exact ⟨a0, b0⟩
      · exact ⟨a1, b1⟩
      · exact ⟨a2, b2⟩
      · exact ⟨a3, b3⟩
      · exact ⟨a4, b4⟩
      · exact ⟨a5, b5⟩
      · exact ⟨a6, b6⟩
      · exact ⟨a7, b7⟩
      · exact ⟨a8, b8⟩
  have hs := flat_of_before _ hgv
  have hNc : ∀ i, i < 3 → ∀ j, j < 3 → i ≠ j → va_Nc (xi_E i) (xi_E j) s := by
    intro i hi j hj hij
    rcases (show i = 0 ∨ i = 1 ∨ i = 2 by omega) with rfl | rfl | rfl <;> rcases (show j = 0 ∨ j = 1 ∨ j = 2 by omega) with rfl | rfl | rfl <;> first | exact absurd rfl hij | exact va_Nc.of (hs _ (by decide +kernel))
  have hA : ∀ a : Nat, a < s.heap.size → ¬ (fun q => s.heap.size ≤ q) a := fun a h9 => Nat.not_le.mpr h9
  have hZ1 : vx_Zq Bundle.tN "UNASSIGNED_STACK" Bundle.steD (fun q => s.heap.size ≤ q) s s.heap := vx_Zqof (args := #[Value.ref b]) (hts _ (by decide +kernel)) (hts _ (by decide +kernel)) (hs _ (by decide +kernel)) hA
  have hZ2 : vx_Zq Bundle.tN "SUPPRESSED_SENTINEL" Bundle.listD (fun q => s.heap.size ≤ q) s s.heap := vx_Zqof (args := #[Value.ref b]) (hts _ (by decide +kernel)) (hts _ (by decide +kernel)) (hs _ (by decide +kernel)) hA
  obtain ⟨lay, hlay, hscr⟩ : ∃ lay : Nat → Nat, xi_lay s.heap.size lay ∧ lay xi_scr = b := ⟨fun i => if i < 900000 then s.heap.size + i else b, fun i hi => if_pos hi, rfl⟩
  have C : xi_C p l s m #[Value.ref b] meth c mi_L_law (dC, dI) cy s.heap.size lay (L + 1) xs := ⟨hx, hb, hml, hown, hT, hlocks, hrt, hnm, htab, hst, ⟨hK, ⟨o1, o2, o3, o4, o5, o6⟩, hNc, ⟨hZ1, hZ2⟩, fun _ => by rw [hscr]; exact hX, by rw [hscr]; exact hbl, Nat.le_refl _⟩, hlay⟩
  obtain ⟨n, h', hrun, hc9, hw9⟩ := hr
  have k1 := (xi_run_ok hst n 12 177 mi_L_law _ _ _ _ rfl hrun).2 p e room_1 s m #[Value.ref b] below meth c (dC, dI) cy s.heap.size lay 0 0 C (Nat.le_of_ble_eq_true rfl) (Nat.le_of_ble_eq_true rfl) (Nat.zero_le _) (Nat.zero_le _) hc9 hw9
  have k2 := xi_head hst (L + 1) xs C (Nat.le_of_ble_eq_true rfl) (Nat.le_of_ble_eq_true rfl) (Nat.le_of_ble_eq_true rfl) (Nat.le_of_ble_eq_true rfl) k1
  have hlv := lv_entry ([Value.ref b]) (n := 9) (Nat.le_of_ble_eq_true rfl)
  rw [lg_entry_eq]
  have k3 := k2 s.heap [] _ (fun i hi => absurd hi (Nat.not_lt_zero _)) ⟨fun _ => rfl, Nat.le_refl _, Nat.zero_le _⟩ va_S.rf (by show lv_has _ 9 [(0, Value.ref (lay xi_scr))]; rw [hscr]; exact hlv)
  intro T hT9 X
  obtain ⟨t, s1, o, t1, t2, t3⟩ := k3 T hT9 X
  refine ⟨t, s1, o, t1, t2, ?_⟩
  rcases t3 with ⟨⟨v, q1, q2, -⟩, L9, q3, q4⟩ | ⟨q, -, E, ce, L9, ⟨k9, q1, -⟩, -⟩
  · cases q1
    refine ⟨q2, q3.1, q3.2.1, q3.2.2.weaken (fun y hy hlt => absurd hlt (Nat.not_lt.mpr (q4 y hy))) ?_ ?_⟩
    · exact hc9
    · exact hw9
  · cases q1
