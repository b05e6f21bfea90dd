/-! the heap behind the constructors -/
def xi_KK (i : Nat) : Nat × Nat :=
  if i < 47 then (if i = 0 then (6, 0) else if i = 1 then (4, 0) else if i = 2 then (11, 20) else if i % 2 = 1 then (0, 0) else (8, 14))
  else if i < 120 then (if i = 47 then (14, 4) else if (i - 48) % 18 = 0 then (3, 0) else if (i - 48) % 18 = 1 then (13, 4) else if ((i - 48) % 18 - 2) % 4 = 0 then (2, 0) else if ((i - 48) % 18 - 2) % 4 = 1 then (8, 4) else if ((i - 48) % 18 - 2) % 4 = 2 then (9, 3) else (8, 3))
  else if i < 165 then (if i = 120 then (12, 4) else [(1, 0), (8, 3), (16, 3), (8, 4), (8, 4), (8, 4), (15, 3), (8, 7), (5, 0), (5, 0), (5, 0)].getD ((i - 121) % 11) (0, 0))
  else if i = 165 then (7, 0) else [(8, 380), (8, 4), (8, 4), (8, 12), (8, 48), (8, 4), (8, 4), (8, 12), (8, 12), (8, 12), (8, 4), (8, 28), (8, 5), (8, 5), (9, 16), (8, 16), (8, 16), (8, 16), (8, 64), (9, 48), (8, 48), (8, 14), (8, 4), (10, 1)].getD (i - 166) (0, 0)
/-- the references that never change; those of the row of cells, and what is in hand, at the start -/
def xi_RR (i j : Nat) : Option Nat :=
  if i < 47 then (if i = 0 then [some 1, some 47, some 120].getD j none else if i = 1 then [some 2, none, none, some 3, some 5].getD j none else if i = 2 then (if j < 20 then some (7 + 2 * j) else none) else if i % 2 = 1 then (if j = 0 then some (i + 1) else none) else none)
  else if i < 120 then (if i = 47 then (if j < 4 then some (48 + 18 * j) else none) else if (i - 48) % 18 = 0 then [some (i + 1), none, none, some 1].getD j none else if (i - 48) % 18 = 1 then (if j < 4 then some (i + 1 + 4 * j) else none) else if ((i - 48) % 18 - 2) % 4 = 0 then [some (i + 1), some (i + 2), none, none, none, none, some (i + 3), none, none, some 1].getD j none else none)
  else if i < 165 then (if i = 120 then (if j < 4 then some (121 + 11 * j) else none) else if (i - 121) % 11 = 0 then [some (i + 1), some (i + 2), some (i + 6), some (i + 7), none, none, none, none, none, none, some 1, some 47].getD j none else if (i - 121) % 11 = 2 then (if j < 3 then some (i + 1 + j) else none) else if (i - 121) % 11 = 6 then (if j < 3 then some (i + 2 + j) else none) else none)
  else if i = 165 then [none, none, some 166, none, none, none, some 167, some 168, some 169, some 170, some 171, some 172, some 173, some 174, some 175, some 176, some 177, some 178, some 179, some 180, some 181, some 182, some 183, some 184, some 185, some 186, some 187, none, none, some 188].getD j none
  else none
def xi_II (i j : Nat) : Int32 :=
  if i < 48 then 0
  else if i < 120 then (if (i - 48) % 18 = 0 then [0, [8640, 21181, 3687, 12474].getD ((i - 48) / 18) 0, [1, 2, 3, 4].getD ((i - 48) / 18) 0, 0, [1000, 2000, 3000, 4000].getD ((i - 48) / 18) 0, 0].getD j 0 else if (i - 48) % 18 = 1 then 0 else if ((i - 48) % 18 - 2) % 4 = 0 then [0, 0, 0, -1, -1, -1, 0, [1, 2, 3, 4].getD ((i - 48) / 18) 0, [0, 1, 2, 3].getD (((i - 48) % 18 - 2) / 4) 0, 0].getD j 0 else 0)
  else if i < 165 then (if i = 120 then 0 else if (i - 121) % 11 = 0 then [0, 0, 0, 0, 0, 0, 0, -1, 0, [0, 1, 2, 3].getD ((i - 121) / 11) 0, 0, 0].getD j 0 else 0)
  else if i = 171 then (if j < 4 then -1 else 0)
  else if i = 178 then [0, 1000, 2000, 3000, 4000].getD j 0
  else if i = 181 ∨ i = 182 ∨ i = 183 then (if j < 16 then -1 else 0)
  else 0
def xi_hn (N C W L : Nat) (xs : Nat → Int32) : xHp := ((false, N, C, W, L, xs), xi_KK, xi_II, fun _ _ => 0, xi_RR)
def xi_wd (k : Nat × Nat) : Nat := if k.1 < 8 then xi_nf k.1 else k.2
def xi_agr (a b : xHp) : Bool := decide (hF a = hF b) && decide (hN a = hN b) && decide (hC a = hC b) && decide (hW a = hW b) && (List.range (hN b)).all (fun i => decide (hK a i = hK b i) && (List.range (xi_wd (hK b i))).all (fun j => decide (hI a i j = hI b i j) && decide (hJ a i j = hJ b i j) && decide (hR a i j = hR b i j)))
def xi_agr0 (r : Option xRs) (b : xHp) : Bool := match r with
  | some (.inl none, a) => xi_agr a b
  | _ => false
theorem xi_arr_cg {c : ClassId} {n : Nat} {f g : Nat → Value} (h : ∀ j, j < n → f j = g j) : arrV c n f = arrV c n g := by
  unfold arrV
  congr 2
  funext j
  exact h j.val j.isLt
theorem xi_agr_P {D : va_G} {cy : Nat → ClassId} {lay : Nat → Nat} {a b : xHp} {H : Heap} (h : xi_agr a b = true) (hP : xi_P D cy lay a H) : xi_P D cy lay b H := by
  unfold xi_agr at h
  simp only [Bool.and_eq_true, decide_eq_true_eq] at h
  obtain ⟨⟨⟨⟨h1, h2⟩, h3⟩, h4⟩, h5⟩ := h
  intro i hi
  have h6 := List.all_eq_true.mp h5 i (List.mem_range.mpr hi)
  simp only [Bool.and_eq_true, decide_eq_true_eq] at h6
  obtain ⟨hk, h7⟩ := h6
  have h8 : ∀ j, j < xi_wd (hK b i) → hI a i j = hI b i j ∧ hJ a i j = hJ b i j ∧ hR a i j = hR b i j := fun j hj => by
    have h9 := List.all_eq_true.mp h7 j (List.mem_range.mpr hj)
    simp only [Bool.and_eq_true, decide_eq_true_eq] at h9
    exact ⟨h9.1.1, h9.1.2, h9.2⟩
  have hat := hP i (by rw [h2]; exact hi)
  unfold xi_wd at h8
  by_cases q1 : (hK b i).1 < 8
  · rw [if_pos q1] at h8
    rw [xi_en_o (by rw [hk]) q1] at hat
    rw [xi_en_o rfl q1]
    rw [show (List.range (xi_nf (hK b i).1)).map (xi_ev lay b i (hK b i).1) = (List.range (xi_nf (hK b i).1)).map (xi_ev lay a i (hK b i).1) from List.map_congr_left (fun j hj => by
      obtain ⟨e1, -, e3⟩ := h8 j (List.mem_range.mp hj)
      unfold xi_ev
      rw [e1, e3])]
    exact hat
  · rw [if_neg q1] at h8
    by_cases q2 : (hK b i).1 < 10
    · rw [xi_en_i (k := (hK b i).1) (by rw [hk]) (by omega) q2, hk] at hat
      rw [xi_en_i rfl (by omega) q2]
      have e : H[lay i]? = some (vp_cell _ _) := hat
      show H[lay i]? = some (vp_cell _ _)
      rw [e, vp_cell_i, vp_cell_i, xi_arr_cg (fun j hj => by rw [(h8 j hj).1])]
    · by_cases q3 : (hK b i).1 = 10
      · rw [xi_en_j (by rw [hk]; exact q3), hk] at hat
        rw [xi_en_j q3]
        have e : H[lay i]? = some (vp_cell _ _) := hat
        show H[lay i]? = some (vp_cell _ _)
        rw [e, vp_cell_l, vp_cell_l, xi_arr_cg (fun j hj => by rw [(h8 j hj).2.1])]
      · rw [xi_en_r (k := (hK b i).1) (by rw [hk]) (by omega), hk] at hat
        rw [xi_en_r rfl (by omega)]
        have e : H[lay i]? = some (vp_cell _ _) := hat
        show H[lay i]? = some (vp_cell _ _)
        rw [e, vp_cell_q, vp_cell_q, xi_arr_cg (fun j hj => by rw [(h8 j hj).2.2])]
theorem xi_agr_Z {base : Nat} {a b : xHp} {H : Heap} (h : xi_agr a b = true) (hZ : xi_Z base a H) : xi_Z base b H := by
  unfold xi_agr at h
  simp only [Bool.and_eq_true, decide_eq_true_eq] at h
  obtain ⟨⟨⟨⟨h1, h2⟩, h3⟩, h4⟩, h5⟩ := h
  unfold xi_Z at hZ ⊢
  rw [← h1, ← h2]
  exact hZ
theorem xi_vm {l : Launch} {y : MethodName} {ws : List Cond} {rm : Room} {Pc Pc' : Array Value → State → Prop} {Qc Qc' : Array Value → State → Outcome → State → Prop} {XC XC' : String → State → State → Prop} {mc ms : Nat} {free : Addr → Prop} (h : vx_Met l y ws rm Pc Qc XC mc ms free) (hP : ∀ a U, Pc' a U → Pc a U) (hQ : ∀ a st o t, Qc a st o t → Qc' a st o t) (hX : ∀ E st t, XC E st t → XC' E st t) : vx_Met l y ws rm Pc' Qc' XC' mc ms free := by
  intro p e ha hc hk s m args below hf happ hp hK
  obtain ⟨n, o, h1, h2, h3, hq⟩ := h p e ha hc hk s m args below hf happ (hP _ _ hp) hK
  refine ⟨n, o, h1, h2, h3, ?_⟩
  rcases hq with ⟨q1, q2⟩ | ⟨q, e1, E, ce, L, x1, x2⟩
  · exact Or.inl ⟨hQ _ _ _ _ q1, q2⟩
  · exact Or.inr ⟨q, e1, E, ce, L, hX _ _ _ x1, x2⟩
def xi_sc (L : Nat) (xs : Nat → Int32) (h : xHp) : xHp := ((hF h, hN h, hC h, hW h, L, xs), h.2)
/-- a contract found with no script known holds with one; and its heap may be told otherwise -/
theorem xi_Mt_sc {l : Launch} {d : Nat} {mi : xMi} {av : List Value} {h : xHp} {r : Option Value ⊕ Nat} {h' n : xHp} (L : Nat) (xs : Nat → Int32) (hM : xi_Mt l d mi av h r h') (h0 : hL h = 0) (ha : xi_agr h' n = true) : xi_Mt l d mi av (xi_sc L xs h) r (xi_sc L xs n) := by
  intro D cy base lay hlay
  have hc : hC h' = hC n ∧ hW h' = hW n := by
    unfold xi_agr at ha
    simp only [Bool.and_eq_true, decide_eq_true_eq] at ha
    exact ⟨ha.1.1.2, ha.1.2⟩
  have h1 := hM D cy base lay hlay
  rw [hc.1, hc.2] at h1
  refine xi_vm h1 (fun a U q => ?_) (fun a st o t q => ?_) (fun E st t q => ?_)
  · obtain ⟨q1, q2, q3, g1, g2, g3, g4, g5, g6, g7⟩ := q
    exact ⟨q1, q2, q3, g1, g2, g3, g4, fun hp => absurd hp (by rw [h0]; omega), g6, g7⟩
  · obtain ⟨v, q1, q2, q3, q4, q5⟩ := q
    exact ⟨v, q1, q2, xi_agr_P ha q3, xi_agr_Z ha q4, q5⟩
  · obtain ⟨k, q1, q2, q3, q4, q5⟩ := q
    exact ⟨k, q1, q2, xi_agr_P ha q3, xi_agr_Z ha q4, q5⟩
/-! the two constructors, run -/
def xi_hA : xHp := xi_nw xi_h0 6 0 5
def xi_nA : xHp := xi_hn 165 165 1034 0 (fun _ => 0)
def xi_hB : xHp := xi_nw xi_nA 7 0 30
def xi_nB : xHp := xi_hn 189 189 1840 0 (fun _ => 0)
set_option maxRecDepth 100000 in
theorem run_A : xi_agr0 (xi_run 5000 11 72 (0, lv_args 0 [.ref 0], []) xi_hA) xi_nA = true := by decide +kernel
set_option maxRecDepth 100000 in
theorem run_B : xi_agr0 (xi_run 5000 11 101 (0, lv_args 0 [.ref 165], []) xi_hB) xi_nB = true := by decide +kernel
theorem xi_agr0_sp {r : Option xRs} {b : xHp} (h : xi_agr0 r b = true) : ∃ a, r = some (.inl none, a) ∧ xi_agr a b = true := by
  unfold xi_agr0 at h
  split at h
  · exact ⟨_, rfl, h⟩
  · cases h
