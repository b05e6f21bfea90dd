theorem xi_hn_sc (N C W L L' : Nat) (xs xs' : Nat → Int32) : xi_sc L xs (xi_hn N C W L' xs') = xi_hn N C W L xs := rfl
/-- the law's way from its entry to its loop -/
theorem xi_head {l : Launch} (hst : l.stackTraces = false) (L : Nat) (xs : Nat → Int32) {p : Program} {e : Env} {R : Room} {s : State} {m : MethodId} {args : Array Value} {below : List Frame} {meth : Method} {c : Code} {Q : State → Prop} {D : va_G} {cy : Nat → ClassId} {base : Nat} {lay : Nat → Nat}
    (C : xi_C p l s m args meth c mi_L_law D cy base lay L xs) (hfr : 12 ≤ R.frames) (hlo : 36 * 12 ≤ R.locals) (hrc : 190 ≤ R.cells) (hrs : 1841 ≤ R.slots)
    (k : xi_W p l e R s m args below meth c mi_L_law D cy base lay 0 0 Q (23, [(4, .int 0), (3, .ref 189), (2, .ref 165), (1, .ref 0), (0, .ref xi_scr)], []) (xi_hn 190 190 1841 L xs)) :
    xi_W p l e R s m args below meth c mi_L_law D cy base lay 0 0 Q (0, [(0, .ref xi_scr)], []) (xi_sc L xs xi_h0) := by
  have hk : xi_tbk mi_L_law = true := ok_tb_L_law
  have step : ∀ (fr : xFr) (h : xHp) (fr' : xFr) (h' : xHp), xi_st 12 (fun _ _ _ => none) mi_L_law fr h = some (.inl (fr', h')) → hL h = L → hX h = xs → hC h' ≤ 190 → hW h' ≤ 1841 → xi_W p l e R s m args below meth c mi_L_law D cy base lay 0 0 Q fr' h' → xi_W p l e R s m args below meth c mi_L_law D cy base lay 0 0 Q fr h := by
    intro fr h fr' h' hs e1 e2 e3 e4 k
    obtain ⟨-, a2⟩ : xi_mo h h' ∧ xi_S2 l 12 mi_L_law fr h fr' h' := xi_st_ok hk (fun _ _ _ _ _ _ _ _ _ q => by cases q) hs
    exact a2 p e R s m args below meth c Q D cy base lay 0 0 (by rw [e1, e2]; exact C) hfr hlo (Nat.zero_le _) (Nat.zero_le _) (by omega) (by omega) k
  have call : ∀ (pc ix m' po : Nat) (lv : List (Nat × Value)) (a : Nat) (h h1 : xHp) (mi' : xMi), xpg[m']? = some mi' → xi_a (xml.getD 9 []) ix = some (3, m', po) → decode cL_law pc = .ok (.invokespecial ix, 3) → xi_na mi' = 1 → xi_mo h h1 → xi_Mt l 11 mi' [.ref a] h (.inl none) h1 → xi_call (fun _ _ _ => some (.inl none, h1)) mi_L_law pc lv [.ref a, .ref a] h 3 m' = some (.inl ((pc + 3, lv, [.ref a]), h1)) → hL h = L → hX h = xs → hC h1 ≤ 190 → hW h1 ≤ 1841 →
      xi_W p l e R s m args below meth c mi_L_law D cy base lay 0 0 Q (pc + 3, lv, [.ref a]) h1 → xi_W p l e R s m args below meth c mi_L_law D cy base lay 0 0 Q (pc, lv, [.ref a, .ref a]) h := by
    intro pc ix m' po lv a h h1 mi' hpg hml hd hna hmo hM hcl e1 e2 e3 e4 k
    obtain ⟨-, a2⟩ : xi_mo h h1 ∧ xi_S2 l 12 mi_L_law (pc, lv, [.ref a, .ref a]) h (pc + 3, lv, [.ref a]) h1 := xi_call_ok (d := 12) hk (fun mi9 r9 h9 q1 _ _ q4 => by
      cases q4
      cases Option.some.inj (hpg.symm.trans q1)
      refine ⟨hmo, 11, rfl, ?_⟩
      rw [hna]
      exact hM) hml rfl hd hcl
    exact a2 p e R s m args below meth c Q D cy base lay 0 0 (by rw [e1, e2]; exact C) hfr hlo (Nat.zero_le _) (Nat.zero_le _) (by omega) (by omega) k
  obtain ⟨hA1, rA, aA⟩ := xi_agr0_sp run_A
  obtain ⟨hB1, rB, aB⟩ := xi_agr0_sp run_B
  obtain ⟨moA, sA⟩ := xi_run_ok hst 5000 11 72 mi_X7_init _ _ _ _ rfl rA
  obtain ⟨moB, sB⟩ := xi_run_ok hst 5000 11 101 mi_X8_init _ _ _ _ rfl rB
  have mA := xi_Mt_sc L xs (xi_entry hst (m' := 72) (mi' := mi_X7_init) rfl (by decide) (av := [.ref 0]) (by decide) moA sA) rfl aA
  have mB := xi_Mt_sc L xs (xi_entry hst (m' := 101) (mi' := mi_X8_init) rfl (by decide) (av := [.ref 165]) (by decide) moB sB) rfl aB
  refine step _ _ (3, [(0, .ref xi_scr)], [.ref 0]) (xi_sc L xs xi_hA) rfl rfl rfl (Nat.le_of_ble_eq_true rfl) (Nat.le_of_ble_eq_true rfl) ?_
  refine step _ _ (4, [(0, .ref xi_scr)], [.ref 0, .ref 0]) (xi_sc L xs xi_hA) rfl rfl rfl (Nat.le_of_ble_eq_true rfl) (Nat.le_of_ble_eq_true rfl) ?_
  refine call 4 72 72 _ _ 0 _ (xi_sc L xs xi_nA) mi_X7_init rfl rfl (xi_tb_at hk (pc := 4) (i := .invokespecial 72) (len := 3) rfl).1 rfl ⟨Nat.le_of_ble_eq_true rfl, Nat.le_of_ble_eq_true rfl, rfl, rfl⟩ mA rfl rfl rfl (Nat.le_of_ble_eq_true rfl) (Nat.le_of_ble_eq_true rfl) ?_
  refine step _ _ (8, [(1, .ref 0), (0, .ref xi_scr)], []) (xi_sc L xs xi_nA) rfl rfl rfl (Nat.le_of_ble_eq_true rfl) (Nat.le_of_ble_eq_true rfl) ?_
  refine step _ _ (11, [(1, .ref 0), (0, .ref xi_scr)], [.ref 165]) (xi_sc L xs xi_hB) rfl rfl rfl (Nat.le_of_ble_eq_true rfl) (Nat.le_of_ble_eq_true rfl) ?_
  refine step _ _ (12, [(1, .ref 0), (0, .ref xi_scr)], [.ref 165, .ref 165]) (xi_sc L xs xi_hB) rfl rfl rfl (Nat.le_of_ble_eq_true rfl) (Nat.le_of_ble_eq_true rfl) ?_
  refine call 12 75 101 _ _ 165 _ (xi_sc L xs xi_nB) mi_X8_init rfl rfl (xi_tb_at hk (pc := 12) (i := .invokespecial 75) (len := 3) rfl).1 rfl ⟨Nat.le_of_ble_eq_true rfl, Nat.le_of_ble_eq_true rfl, rfl, rfl⟩ mB rfl rfl rfl (Nat.le_of_ble_eq_true rfl) (Nat.le_of_ble_eq_true rfl) ?_
  refine step _ _ (16, [(2, .ref 165), (1, .ref 0), (0, .ref xi_scr)], []) (xi_sc L xs xi_nB) rfl rfl rfl (Nat.le_of_ble_eq_true rfl) (Nat.le_of_ble_eq_true rfl) ?_
  refine step _ _ (17, [(2, .ref 165), (1, .ref 0), (0, .ref xi_scr)], [.int 1]) (xi_sc L xs xi_nB) rfl rfl rfl (Nat.le_of_ble_eq_true rfl) (Nat.le_of_ble_eq_true rfl) ?_
  refine step _ _ (19, [(2, .ref 165), (1, .ref 0), (0, .ref xi_scr)], [.ref 189]) (xi_nw (xi_sc L xs xi_nB) 10 1 1) rfl rfl rfl (Nat.le_of_ble_eq_true rfl) (Nat.le_of_ble_eq_true rfl) ?_
  refine step _ _ (20, [(3, .ref 189), (2, .ref 165), (1, .ref 0), (0, .ref xi_scr)], []) (xi_nw (xi_sc L xs xi_nB) 10 1 1) rfl rfl rfl (Nat.le_of_ble_eq_true rfl) (Nat.le_of_ble_eq_true rfl) ?_
  refine step _ _ (21, [(3, .ref 189), (2, .ref 165), (1, .ref 0), (0, .ref xi_scr)], [.int 0]) (xi_nw (xi_sc L xs xi_nB) 10 1 1) rfl rfl rfl (Nat.le_of_ble_eq_true rfl) (Nat.le_of_ble_eq_true rfl) ?_
  refine step _ _ (23, [(4, .int 0), (3, .ref 189), (2, .ref 165), (1, .ref 0), (0, .ref xi_scr)], []) (xi_nw (xi_sc L xs xi_nB) 10 1 1) rfl rfl rfl (Nat.le_of_ble_eq_true rfl) (Nat.le_of_ble_eq_true rfl) ?_
  have eH : xi_nw (xi_sc L xs xi_nB) 10 1 1 = xi_hn 190 190 1841 L xs := by
    refine Prod.ext rfl (Prod.ext ?_ (Prod.ext ?_ (Prod.ext ?_ ?_)))
    · funext i
      show (if i = 189 then ((10, 1) : Nat × Nat) else xi_KK i) = xi_KK i
      by_cases h : i = 189
      · subst h
        decide
      · rw [if_neg h]
    · funext i j
      show (if i = 189 then (0 : Int32) else xi_II i j) = xi_II i j
      by_cases h : i = 189
      · subst h
        rfl
      · rw [if_neg h]
    · funext i j
      show (if i = 189 then (0 : Int64) else 0) = 0
      by_cases h : i = 189
      · rw [if_pos h]
      · rw [if_neg h]
    · funext i j
      show (if i = 189 then none else xi_RR i j) = xi_RR i j
      by_cases h : i = 189
      · subst h
        rfl
      · rw [if_neg h]
  rw [eH]
  exact k
