/-! words -/
def xi_ok : Cond → Bool
  | .arrayClass _ => true
  | .methodLinkNest _ _ _ _ => true
  | w => w.keepsFace && w.onTables
def xT : List Cond := lw_tbl.filter xi_ok
theorem xi_face {w : Cond} (hf : w.keepsFace = true) (ht : w.onTables = true) {args a' : Array Value} {s U : State} (hW : s.WarmedH U.vm) (h : w.before args s = true) : w.before a' U = true := va_tabs ht (rfl : (s.setVm U.vm).vm = U.vm) (Cond.before_shiftedFace (State.Shifted.of_warmed hW) w hf h)
theorem xi_warm {w : Cond} (hk : xi_ok w = true) {args a' : Array Value} {s U : State} (hW : s.WarmedH U.vm) (h : w.before args s = true) : w.before a' U = true := by
  unfold xi_ok at hk
  split at hk
  · exact word_at hW (Or.inr ⟨_, rfl⟩) h
  · exact va_Nw.use rfl (va_Nw.warmM hW (va_Nw.of rfl h))
  · rw [Bool.and_eq_true] at hk
    exact xi_face hk.1 hk.2 hW h
theorem xi_mem {w : Cond} {i : Nat} (h : lw_tbl[i]? = some w) (g : xi_ok w = true) : w ∈ xT := List.mem_filter.mpr ⟨List.mem_of_getElem? h, g⟩
theorem xi_a_mem {α : Type} : ∀ (l : List (Nat × α)) (k : Nat) (v : α), xi_a l k = some v → (k, v) ∈ l
  | [], _, _, h => by cases h
  | (i, w) :: t, k, v, h => by
    unfold xi_a at h
    by_cases e : i = k
    · rw [if_pos e] at h
      cases h
      subst e
      exact List.mem_cons_self
    · rw [if_neg e] at h
      exact List.mem_cons_of_mem _ (xi_a_mem t k v h)
/-- a word of the table at a place, and fit to be carried -/
def xi_at (i : Nat) (w : Cond) : Bool := decide (lw_tbl[i]? = some w) && xi_ok w
theorem xi_at_mem {i : Nat} {w : Cond} (h : xi_at i w = true) : w ∈ xT := by
  unfold xi_at at h
  rw [Bool.and_eq_true] at h
  exact xi_mem (of_decide_eq_true h.1) h.2
def xi_all {α : Type} (l : List (List (Nat × α))) (f : Nat → Nat × α → Bool) : Bool := (List.range 10).all (fun o => (l.getD o []).all (f o))
theorem xi_all_at {α : Type} {l : List (List (Nat × α))} {f : Nat → Nat × α → Bool} (h : xi_all l f = true) (hl : l.length = 10) {o k : Nat} {v : α} (hv : xi_a (l.getD o []) k = some v) : f o (k, v) = true := by
  have hm := xi_a_mem _ _ _ hv
  by_cases ho : o < 10
  · exact List.all_eq_true.mp (List.all_eq_true.mp h o (List.mem_range.mpr ho)) _ hm
  · rw [List.getD_eq_getElem?_getD, List.getElem?_eq_none (by omega)] at hm
    cases hm
def xi_rO (o : Nat) : String := xRO.getD o ""
def xi_cls (c : Nat) : String := [RX1, RX2, RX3, RX4, RX5, RX6, RX7, RX8].getD c ""
def xi_T (c : Nat) : u_T := xi_Ts.getD c TX1
def xi_E (e : Nat) : String := ["java/lang/IndexOutOfBoundsException", "java/lang/IllegalArgumentException", "java/lang/IllegalStateException"].getD e ""
def xi_names : List String := ["java/lang/RuntimeException", "java/lang/Exception"]
theorem ok_fl : xi_all xfl (fun o e => xi_at e.2.2.2 (.fieldLink (xi_rO o) e.1 (xi_T e.2.1 e.2.2.1).1 (xi_T e.2.1 e.2.2.1).2.1 (xi_T e.2.1 e.2.2.1).2.2.1) && decide (e.2.1 < 8) && decide (e.2.2.1 < xi_nf e.2.1)) = true := by decide +kernel
theorem ok_cl : xi_all xcl (fun o e => xi_at e.2.2 (.constant (xi_rO o) e.1 e.2.1)) = true := by decide +kernel
theorem ok_c2 : xi_all xc2 (fun o e => xi_at e.2.2 (.constantLong (xi_rO o) e.1 e.2.1)) = true := by decide +kernel
theorem ok_nl : xi_all xnl (fun o e => xi_at e.2.2 (.classLink (xi_rO o) e.1 (xi_cls e.2.1)) && decide (e.2.1 < 8)) = true := by decide +kernel
theorem ok_al : xi_all xal (fun o e => xi_at e.2 (.classLink (xi_rO o) e.1 "[[I")) = true := by decide +kernel
theorem ok_oi : xi_all xoi (fun o e => xi_at e.2 (.methodLink (xi_rO o) e.1 objectInit)) = true := by decide +kernel
theorem ok_el : xi_all xel (fun o e => xi_at e.2.2.2 (.classLink (xi_rO o) e.1 (xi_E e.2.2.1)) && decide (e.2.2.1 < 3) && decide (e.1 ≠ 0)) = true := by decide +kernel
theorem ok_cw : (List.range 8).all (fun c => xi_at ((xcw.getD c (0, 0)).1) (.instantiable (xi_cls c) (xi_nf c)) && xi_at ((xcw.getD c (0, 0)).2) (.initialized (xi_cls c))) = true := by decide +kernel
theorem ok_cu : ∀ c, c < 8 → vwCl[c]? = some (xi_cls c, xi_T c, xi_nf c) := by
  intro c hc
  match c, hc with
  | 0, _ => rfl
  | 1, _ => rfl
  | 2, _ => rfl
  | 3, _ => rfl
  | 4, _ => rfl
  | 5, _ => rfl
  | 6, _ => rfl
  | 7, _ => rfl
theorem ok_ct : ∀ c, c < 8 → ∀ k, k < xi_nf c → parseFieldDescriptor (xi_T c k).2.2.1 = some (xi_ty c k) := by
  intro c hc
  match c, hc with
  | 0, _ => exact tyX1_ok
  | 1, _ => exact tyX2_ok
  | 2, _ => exact tyX3_ok
  | 3, _ => exact tyX4_ok
  | 4, _ => exact tyX5_ok
  | 5, _ => exact tyX6_ok
  | 6, _ => exact tyX7_ok
  | 7, _ => exact tyX8_ok
theorem ok_cn : ∀ c, c < 8 → ∀ a, a < xi_nf c → ∀ b, b < xi_nf c → a ≠ b → (xi_T c a).2.1 ≠ (xi_T c b).2.1 := by
  intro c hc
  match c, hc with
  | 0, _ => exact nmX1
  | 1, _ => exact nmX2
  | 2, _ => exact nmX3
  | 3, _ => exact nmX4
  | 4, _ => exact nmX5
  | 5, _ => exact nmX6
  | 6, _ => exact nmX7
  | 7, _ => exact nmX8
theorem ok_cs : ∀ c, c < 8 → (u_ws (xi_cls c) (xi_T c) (xi_nf c)).all (fun w => decide (w ∈ lw_tbl) && xi_ok w) = true := by decide +kernel
theorem ok_ci : ∀ c, c < 8 → ∀ w ∈ u_ws (xi_cls c) (xi_T c) (xi_nf c), w ∈ xT := by
  intro c hc w hw
  have h := List.all_eq_true.mp (ok_cs c hc) w hw
  rw [Bool.and_eq_true] at h
  exact List.mem_filter.mpr ⟨of_decide_eq_true h.1, h.2⟩
theorem ok_df : ∀ c, c < 8 → ∀ k, k < xi_nf c → (xi_T c k).1 = xi_rO (c + 1) ∧ xi_cls c = xi_rO (c + 1) := by decide +kernel
/-! values, cells -/
def xi_tv (lay : Nat → Nat) : Value → Value
  | .ref i => .ref (lay i)
  | v => v
theorem xi_tv_cat (lay : Nat → Nat) (v : Value) : (xi_tv lay v).category = v.category := by cases v <;> rfl
def xi_lv (lay : Nat → Nat) (lv : List (Nat × Value)) : List (Nat × Value) := lv.map (fun q => (q.1, xi_tv lay q.2))
theorem xi_lv_at {lay : Nat → Nat} {lv : List (Nat × Value)} {ls : Array Slot} {nL k : Nat} {v : Value} (hl : lv_has ls nL (xi_lv lay lv)) (h : xi_a lv k = some v) : ls[k]? = some (.val (xi_tv lay v)) :=
  hl.2.2 (k, xi_tv lay v) (List.mem_map.mpr ⟨(k, v), xi_a_mem _ _ _ h, rfl⟩)
theorem xi_filt {lay : Nat → Nat} (lv : List (Nat × Value)) (f g : Nat × Value → Bool) (h : ∀ q, f (q.1, xi_tv lay q.2) = g q) : (xi_lv lay lv).filter f = xi_lv lay (lv.filter g) := by
  unfold xi_lv
  rw [List.filter_map]
  congr 1
  apply List.filter_congr
  intro q _
  exact h q
theorem xi_lv_p1 {lay : Nat → Nat} (lv : List (Nat × Value)) (i : Nat) (v : Value) : (i, xi_tv lay v) :: (xi_lv lay lv).filter (fun q => !(q.1 == i) && !(q.1 + 1 == i && q.2.category == 2)) = xi_lv lay (xi_p1 lv i v) := by
  rw [xi_filt lv _ (fun q => !(q.1 == i) && !(q.1 + 1 == i && q.2.category == 2)) (fun q => by simp only [xi_tv_cat])]
  rfl
theorem xi_lv_p2 {lay : Nat → Nat} (lv : List (Nat × Value)) (i : Nat) (v : Value) : (i, xi_tv lay v) :: (xi_lv lay lv).filter (fun q => !(q.1 == i) && (!(q.1 == i + 1) && !(q.1 + 1 == i && q.2.category == 2))) = xi_lv lay (xi_p2 lv i v) := by
  rw [xi_filt lv _ (fun q => !(q.1 == i) && (!(q.1 == i + 1) && !(q.1 + 1 == i && q.2.category == 2))) (fun q => by simp only [xi_tv_cat])]
  rfl
def xi_ev (lay : Nat → Nat) (h : xHp) (a c k : Nat) : Value := if xi_rf c k = true then va_rf ((hR h a k).map lay) else .int (hI h a k)
theorem xi_ev_tv (lay : Nat → Nat) (h : xHp) (a c k : Nat) : xi_tv lay (xi_fv h a c k) = xi_ev lay h a c k := by
  unfold xi_fv xi_ev
  split
  · cases hR h a k <;> rfl
  · rfl
def xi_en (cy : Nat → ClassId) (lay : Nat → Nat) (h : xHp) (i : Nat) : va_E :=
  if (hK h i).1 < 8 then .inr ((hK h i).1, (List.range (xi_nf (hK h i).1)).map (xi_ev lay h i (hK h i).1))
  else if (hK h i).1 < 10 then .inl (cy ((hK h i).1 - 8), (hK h i).2, .inl (hI h i))
  else if (hK h i).1 = 10 then .inl (cy 2, (hK h i).2, .inr (.inl (hJ h i)))
  else .inl (cy ((hK h i).1 - 8), (hK h i).2, .inr (.inr (.inr (.inr (fun j => (hR h i j).map lay)))))
theorem xi_en_o {cy : Nat → ClassId} {lay : Nat → Nat} {h : xHp} {i c : Nat} (hk : (hK h i).1 = c) (hc : c < 8) : xi_en cy lay h i = .inr (c, (List.range (xi_nf c)).map (xi_ev lay h i c)) := by
  unfold xi_en
  rw [hk, if_pos hc]
theorem xi_en_i {cy : Nat → ClassId} {lay : Nat → Nat} {h : xHp} {i k : Nat} (hk : (hK h i).1 = k) (h1 : 8 ≤ k) (h2 : k < 10) : xi_en cy lay h i = .inl (cy (k - 8), (hK h i).2, .inl (hI h i)) := by
  unfold xi_en
  rw [hk, if_neg (by omega), if_pos h2]
theorem xi_en_j {cy : Nat → ClassId} {lay : Nat → Nat} {h : xHp} {i : Nat} (hk : (hK h i).1 = 10) : xi_en cy lay h i = .inl (cy 2, (hK h i).2, .inr (.inl (hJ h i))) := by
  unfold xi_en
  rw [hk, if_neg (by omega), if_neg (by omega), if_pos rfl]
theorem xi_en_r {cy : Nat → ClassId} {lay : Nat → Nat} {h : xHp} {i k : Nat} (hk : (hK h i).1 = k) (h1 : 10 < k) : xi_en cy lay h i = .inl (cy (k - 8), (hK h i).2, .inr (.inr (.inr (.inr (fun j => (hR h i j).map lay))))) := by
  unfold xi_en
  rw [hk, if_neg (by omega), if_neg (by omega), if_neg (by omega)]
def xi_P (D : va_G) (cy : Nat → ClassId) (lay : Nat → Nat) (h : xHp) (H : Heap) : Prop := ∀ i, i < hN h → va_at D vwCl (lay i, xi_en cy lay h i) H
def xi_Z (base : Nat) (h : xHp) (H : Heap) : Prop := (hF h = false → H.size = base + hN h) ∧ base + hN h ≤ H.size ∧ hN h ≤ 900000
def xi_lay (base : Nat) (lay : Nat → Nat) : Prop := ∀ i, i < 900000 → lay i = base + i
def xi_tl (cy : Nat → ClassId) : List (ClassId × FieldType) := [(cy 0, .int), (cy 1, .boolean), (cy 2, .long), (cy 3, .object RX1), (cy 4, .object RX2), (cy 5, .object RX3), (cy 6, .object RX4), (cy 7, .object RX6), (cy 8, .array .int)]
def xi_AOA (U : State) : Prop := (Cond.arrayOver (.array .int)).before #[] U = true
def xi_G (D : va_G) (cy : Nat → ClassId) (base : Nat) (lay : Nat → Nat) (L : Nat) (xs : Nat → Int32) (U : State) : Prop :=
  va_K D vwCl (xi_tl cy) U ∧ (va_AO RX1 U ∧ va_AO RX2 U ∧ va_AO RX3 U ∧ va_AO RX4 U ∧ va_AO RX6 U ∧ xi_AOA U) ∧ (∀ i, i < 3 → ∀ j, j < 3 → i ≠ j → va_Nc (xi_E i) (xi_E j) U) ∧
  (vx_Zq Bundle.tN "UNASSIGNED_STACK" Bundle.steD (fun q => base ≤ q) U U.heap ∧ vx_Zq Bundle.tN "SUPPRESSED_SENTINEL" Bundle.listD (fun q => base ≤ q) U U.heap) ∧
  (0 < L → va_X (lay xi_scr) (L - 1) xs U U.heap) ∧ lay xi_scr < base ∧ base ≤ U.heap.size
theorem xi_AOA.moved {u U : State} (hvm : u.vm.Alike U.vm) (h : xi_AOA u) : xi_AOA U := by
  unfold xi_AOA Cond.before Cond.holds at h ⊢
  simp only [Cond.value, beq_iff_eq] at h ⊢
  cases hc : u.vm.findClass (FieldType.array FieldType.int).toString with
  | none => simp [hc] at h
  | some comp =>
    have f1 : U.vm.findClass (FieldType.array FieldType.int).toString = some comp := by rw [hvm.findClass]; exact hc
    simp only [hc, Option.bind_some, Option.bind_eq_some_iff, Option.map_eq_some_iff] at h
    obtain ⟨c, hi, k, hk, hb⟩ := h
    obtain ⟨k', hk', he⟩ := hvm.2.2 _ _ hk
    have e1 := va_idx_bare U.vm comp
    have e2 := va_idx_bare u.vm comp
    have e3 : U.vm.bare = u.vm.bare := by first | exact hvm.bare_eq | exact hvm.bare_eq.symm
    rw [e3] at e1
    have hi' := (e1.symm.trans e2).trans hi
    simp only [f1, Option.bind_some, Option.bind_eq_some_iff, Option.map_eq_some_iff]
    refine ⟨c, hi', k', hk', ?_⟩
    rw [he]
    simpa only [hvm.findClass] using hb
theorem xi_G.to {D : va_G} {cy : Nat → ClassId} {base : Nat} {lay : Nat → Nat} {L : Nat} {xs : Nat → Int32} {u U : State} (h : xi_G D cy base lay L xs u) (hvm : u.vm.Alike U.vm) (hz : u.heap.size ≤ U.heap.size) (hq : ∀ a : Nat, a < u.heap.size → ¬ base ≤ a → U.heap[a]? = u.heap[a]?) : xi_G D cy base lay L xs U := by
  obtain ⟨h1, ⟨a1, a2, a3, a4, a5, a6⟩, h3, ⟨z1, z2⟩, h5, h6, h7⟩ := h
  refine ⟨h1.moved hvm, ⟨a1.moved hvm, a2.moved hvm, a3.moved hvm, a4.moved hvm, a5.moved hvm, a6.moved hvm⟩, fun i hi j hj hij => (h3 i hi j hj hij).moved hvm, ⟨(z1.kept hq).moved hvm, (z2.kept hq).moved hvm⟩, fun hp => ((h5 hp).kept (hq _ (Nat.lt_of_lt_of_le h6 h7) (Nat.not_le.mpr h6))).moved hvm, h6, Nat.le_trans h7 hz⟩
