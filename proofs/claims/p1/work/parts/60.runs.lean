/-! the law on the fresh heap -/
theorem lg_self (x : Int64) : lg_cmp x x = 0 := by
  unfold lg_cmp
  simp
theorem gd_form {xs : Nat → Int32} {h : xHp} (g : gd xs h) : ∃ f C W I J R, h = ((f, 190, C, W, 6, xs), xi_KK, I, J, R) := by
  obtain ⟨⟨f, N, C, W, L, X⟩, K, I, J, R⟩ := h
  obtain ⟨g1, g2, g3, g4⟩ := g
  refine ⟨f, C, W, I, J, R, ?_⟩
  have e1 : N = 190 := g1
  have e2 : K = xi_KK := g2
  have e3 : L = 6 := g3
  have e4 : X = xs := g4
  rw [e1, e2, e3, e4]
def law_fin (L : Nat) (xs : Nat → Int32) : Prop := ∃ h', xe 12 177 (23, [(4, .int 0), (3, .ref 189), (2, .ref 165), (1, .ref 0), (0, .ref xi_scr)], []) (xi_hn 190 190 1841 (L + 1) xs) (.inl (some (.int 1)), h') ∧ hC h' ≤ 600002 ∧ hW h' ≤ 7302231
set_option maxRecDepth 100000 in
theorem law_secret (xs : Nat → Int32) (e : xs 0 &&& 31 = nI 0) : law_fin 5 xs := by
  obtain ⟨k, y, h1, h2, c1, g1, c2, g2, b1, b2, t1, t2⟩ := op_secret xs (xs 1) (xs 2)
  obtain ⟨f1, C1, W1, I1, J1, R1, rfl⟩ := gd_form g1
  obtain ⟨f2, C2, W2, I2, J2, R2, rfl⟩ := gd_form g2
  refine ⟨_, ?_, b1, b2⟩
  refine xe_sn pg_177 3 (fr' := (27, [(4, .int 0), (3, .ref 189), (2, .ref 165), (1, .ref 0), (0, .ref xi_scr)], [.int 5, .int 0])) rfl ?_; refine xe_sn pg_177 2 (fr' := (29, [(4, .int 0), (3, .ref 189), (2, .ref 165), (1, .ref 0), (0, .ref xi_scr)], [.int 0, .int 0])) rfl ?_
  refine xe_sn pg_177 6 (fr' := (39, [(4, .int 0), (3, .ref 189), (2, .ref 165), (1, .ref 0), (0, .ref xi_scr)], [.int (xs 0 &&& 31)])) rfl ?_
  rw [e]
  refine xe_sn pg_177 1 (fr' := (124, [(4, .int 0), (3, .ref 189), (2, .ref 165), (1, .ref 0), (0, .ref xi_scr)], [])) rfl ?_
  refine xe_sn pg_177 12 (fr' := (138, [(4, .int 0), (3, .ref 189), (2, .ref 165), (1, .ref 0), (0, .ref xi_scr)], [.ref 189, .int (xs 2), .int (xs 1), .ref 0])) rfl ?_
  refine xe_callq pg_177 160 [.ref 0, .int (xs 1), .int (xs 2), .ref 189] (.inl (some (.int k))) (141, [(4, .int 0), (3, .ref 189), (2, .ref 165), (1, .ref 0), (0, .ref xi_scr)], [.int k]) rfl (fun _ => rfl) c1 ?_
  refine xe_sn pg_177 12 (fr' := (156, [(5, .int k), (4, .int 0), (3, .ref 189), (2, .ref 165), (1, .ref 0), (0, .ref xi_scr)], [.int (xs 2), .int (xs 1), .ref 165])) rfl ?_
  refine xe_callq pg_177 139 [.ref 165, .int (xs 1), .int (xs 2)] (.inl (some (.int y))) (159, [(5, .int k), (4, .int 0), (3, .ref 189), (2, .ref 165), (1, .ref 0), (0, .ref xi_scr)], [.int y]) rfl (fun _ => rfl) c2 ?_
  refine xe_sn pg_177 2 (fr' := (162, [(6, .int y), (5, .int k), (4, .int 0), (3, .ref 189), (2, .ref 165), (1, .ref 0), (0, .ref xi_scr)], [.ref 165])) rfl ?_
  refine xe_callq pg_177 102 [.ref 165] (.inl (some (.int (I2 165 0)))) (165, [(6, .int y), (5, .int k), (4, .int 0), (3, .ref 189), (2, .ref 165), (1, .ref 0), (0, .ref xi_scr)], [.int (I2 165 0)]) rfl (fun _ => rfl) (xe_sn pg_102 2 (fr' := (4, [(0, .ref 165)], [.int (I2 165 0)])) rfl (xe_end pg_102 rfl)) ?_
  refine xe_sn pg_177 1 (fr' := (167, [(6, .int y), (5, .int k), (4, .int 0), (3, .ref 189), (2, .ref 165), (1, .ref 0), (0, .ref xi_scr)], [.int k, .int (I2 165 0)])) rfl ?_
  rw [show I2 165 0 = k from t1]
  refine xe_t2 pg_177 172 rfl rfl (show k.toInt = k.toInt from rfl) ?_
  refine xe_sn pg_177 1 (fr' := (174, [(6, .int y), (5, .int k), (4, .int 0), (3, .ref 189), (2, .ref 165), (1, .ref 0), (0, .ref xi_scr)], [.int k])) rfl ?_
  by_cases hk : k = 0
  · subst hk
    refine xe_f1 pg_177 189 rfl rfl (show ¬ ¬ (0 : Int32).toInt = 0 by decide) ?_
    refine xe_sn pg_177 6 (fr' := (184, [(6, .int y), (5, .int 0), (4, .int 0), (3, .ref 189), (2, .ref 165), (1, .ref 0), (0, .ref xi_scr)], [.int (lg_cmp (J2 189 0) y.toInt64)])) rfl ?_
    rw [show J2 189 0 = y.toInt64 from t2 rfl, lg_self]
    refine xe_sn pg_177 1 (fr' := (189, [(6, .int y), (5, .int 0), (4, .int 0), (3, .ref 189), (2, .ref 165), (1, .ref 0), (0, .ref xi_scr)], [])) rfl ?_
    refine xe_sn pg_177 1 (fr' := (1331, [(6, .int y), (5, .int 0), (4, .int 0), (3, .ref 189), (2, .ref 165), (1, .ref 0), (0, .ref xi_scr)], [])) rfl ?_
    refine xe_sn pg_177 1 (fr' := (1334, [(4, .int 5), (6, .int y), (5, .int 0), (3, .ref 189), (2, .ref 165), (1, .ref 0), (0, .ref xi_scr)], [])) rfl ?_
    refine xe_sn pg_177 1 (fr' := (23, [(4, .int 5), (6, .int y), (5, .int 0), (3, .ref 189), (2, .ref 165), (1, .ref 0), (0, .ref xi_scr)], [])) rfl ?_
    refine xe_sn pg_177 3 (fr' := (27, [(4, .int 5), (6, .int y), (5, .int 0), (3, .ref 189), (2, .ref 165), (1, .ref 0), (0, .ref xi_scr)], [.int 5, .int 5])) rfl ?_
    refine xe_sn pg_177 2 (fr' := (29, [(4, .int 5), (6, .int y), (5, .int 0), (3, .ref 189), (2, .ref 165), (1, .ref 0), (0, .ref xi_scr)], [.int 0, .int 5])) rfl ?_
    refine xe_sn pg_177 1 (fr' := (1337, [(4, .int 5), (6, .int y), (5, .int 0), (3, .ref 189), (2, .ref 165), (1, .ref 0), (0, .ref xi_scr)], [])) rfl ?_
    refine xe_sn pg_177 1 (fr' := (1338, [(4, .int 5), (6, .int y), (5, .int 0), (3, .ref 189), (2, .ref 165), (1, .ref 0), (0, .ref xi_scr)], [.int 1])) rfl ?_
    exact xe_end pg_177 rfl
  · refine xe_t1 pg_177 189 rfl rfl (show ¬ k.toInt = 0 from fun q => hk (Int32.toInt_inj.mp q)) ?_
    refine xe_sn pg_177 1 (fr' := (1331, [(6, .int y), (5, .int k), (4, .int 0), (3, .ref 189), (2, .ref 165), (1, .ref 0), (0, .ref xi_scr)], [])) rfl ?_
    refine xe_sn pg_177 1 (fr' := (1334, [(4, .int 5), (6, .int y), (5, .int k), (3, .ref 189), (2, .ref 165), (1, .ref 0), (0, .ref xi_scr)], [])) rfl ?_
    refine xe_sn pg_177 1 (fr' := (23, [(4, .int 5), (6, .int y), (5, .int k), (3, .ref 189), (2, .ref 165), (1, .ref 0), (0, .ref xi_scr)], [])) rfl ?_
    refine xe_sn pg_177 3 (fr' := (27, [(4, .int 5), (6, .int y), (5, .int k), (3, .ref 189), (2, .ref 165), (1, .ref 0), (0, .ref xi_scr)], [.int 5, .int 5])) rfl ?_
    refine xe_sn pg_177 2 (fr' := (29, [(4, .int 5), (6, .int y), (5, .int k), (3, .ref 189), (2, .ref 165), (1, .ref 0), (0, .ref xi_scr)], [.int 0, .int 5])) rfl ?_
    refine xe_sn pg_177 1 (fr' := (1337, [(4, .int 5), (6, .int y), (5, .int k), (3, .ref 189), (2, .ref 165), (1, .ref 0), (0, .ref xi_scr)], [])) rfl ?_
    refine xe_sn pg_177 1 (fr' := (1338, [(4, .int 5), (6, .int y), (5, .int k), (3, .ref 189), (2, .ref 165), (1, .ref 0), (0, .ref xi_scr)], [.int 1])) rfl ?_
    exact xe_end pg_177 rfl
set_option maxRecDepth 100000 in
theorem law_create (xs : Nat → Int32) (e : xs 0 &&& 31 = nI 1) : law_fin 5 xs := by
  obtain ⟨k, y, h1, h2, c1, g1, c2, g2, b1, b2, t1, t2⟩ := op_create xs (xs 1) (xs 2) (xs 3)
  obtain ⟨f1, C1, W1, I1, J1, R1, rfl⟩ := gd_form g1
  obtain ⟨f2, C2, W2, I2, J2, R2, rfl⟩ := gd_form g2
  refine ⟨_, ?_, b1, b2⟩
  refine xe_sn pg_177 3 (fr' := (27, [(4, .int 0), (3, .ref 189), (2, .ref 165), (1, .ref 0), (0, .ref xi_scr)], [.int 5, .int 0])) rfl ?_; refine xe_sn pg_177 2 (fr' := (29, [(4, .int 0), (3, .ref 189), (2, .ref 165), (1, .ref 0), (0, .ref xi_scr)], [.int 0, .int 0])) rfl ?_
  refine xe_sn pg_177 6 (fr' := (39, [(4, .int 0), (3, .ref 189), (2, .ref 165), (1, .ref 0), (0, .ref xi_scr)], [.int (xs 0 &&& 31)])) rfl ?_
  rw [e]
  refine xe_sn pg_177 1 (fr' := (192, [(4, .int 0), (3, .ref 189), (2, .ref 165), (1, .ref 0), (0, .ref xi_scr)], [])) rfl ?_
  refine xe_sn pg_177 17 (fr' := (212, [(4, .int 0), (3, .ref 189), (2, .ref 165), (1, .ref 0), (0, .ref xi_scr)], [.ref 189, .int (xs 3), .int (xs 2), .int (xs 1), .ref 0])) rfl ?_
  refine xe_callq pg_177 161 [.ref 0, .int (xs 1), .int (xs 2), .int (xs 3), .ref 189] (.inl (some (.int k))) (215, [(4, .int 0), (3, .ref 189), (2, .ref 165), (1, .ref 0), (0, .ref xi_scr)], [.int k]) rfl (fun _ => rfl) c1 ?_
  refine xe_sn pg_177 17 (fr' := (236, [(5, .int k), (4, .int 0), (3, .ref 189), (2, .ref 165), (1, .ref 0), (0, .ref xi_scr)], [.int (xs 3), .int (xs 2), .int (xs 1), .ref 165])) rfl ?_
  refine xe_callq pg_177 140 [.ref 165, .int (xs 1), .int (xs 2), .int (xs 3)] (.inl (some (.int y))) (239, [(5, .int k), (4, .int 0), (3, .ref 189), (2, .ref 165), (1, .ref 0), (0, .ref xi_scr)], [.int y]) rfl (fun _ => rfl) c2 ?_
  refine xe_sn pg_177 2 (fr' := (242, [(6, .int y), (5, .int k), (4, .int 0), (3, .ref 189), (2, .ref 165), (1, .ref 0), (0, .ref xi_scr)], [.ref 165])) rfl ?_
  refine xe_callq pg_177 102 [.ref 165] (.inl (some (.int (I2 165 0)))) (245, [(6, .int y), (5, .int k), (4, .int 0), (3, .ref 189), (2, .ref 165), (1, .ref 0), (0, .ref xi_scr)], [.int (I2 165 0)]) rfl (fun _ => rfl) (xe_sn pg_102 2 (fr' := (4, [(0, .ref 165)], [.int (I2 165 0)])) rfl (xe_end pg_102 rfl)) ?_
  refine xe_sn pg_177 1 (fr' := (247, [(6, .int y), (5, .int k), (4, .int 0), (3, .ref 189), (2, .ref 165), (1, .ref 0), (0, .ref xi_scr)], [.int k, .int (I2 165 0)])) rfl ?_
  rw [show I2 165 0 = k from t1]
  refine xe_t2 pg_177 252 rfl rfl (show k.toInt = k.toInt from rfl) ?_
  refine xe_sn pg_177 1 (fr' := (254, [(6, .int y), (5, .int k), (4, .int 0), (3, .ref 189), (2, .ref 165), (1, .ref 0), (0, .ref xi_scr)], [.int k])) rfl ?_
  by_cases hk : k = 0
  · subst hk
    refine xe_f1 pg_177 269 rfl rfl (show ¬ ¬ (0 : Int32).toInt = 0 by decide) ?_
    refine xe_sn pg_177 6 (fr' := (264, [(6, .int y), (5, .int 0), (4, .int 0), (3, .ref 189), (2, .ref 165), (1, .ref 0), (0, .ref xi_scr)], [.int (lg_cmp (J2 189 0) y.toInt64)])) rfl ?_
    rw [show J2 189 0 = y.toInt64 from t2 rfl, lg_self]
    refine xe_sn pg_177 1 (fr' := (269, [(6, .int y), (5, .int 0), (4, .int 0), (3, .ref 189), (2, .ref 165), (1, .ref 0), (0, .ref xi_scr)], [])) rfl ?_
    refine xe_sn pg_177 1 (fr' := (1331, [(6, .int y), (5, .int 0), (4, .int 0), (3, .ref 189), (2, .ref 165), (1, .ref 0), (0, .ref xi_scr)], [])) rfl ?_
    refine xe_sn pg_177 1 (fr' := (1334, [(4, .int 5), (6, .int y), (5, .int 0), (3, .ref 189), (2, .ref 165), (1, .ref 0), (0, .ref xi_scr)], [])) rfl ?_
    refine xe_sn pg_177 1 (fr' := (23, [(4, .int 5), (6, .int y), (5, .int 0), (3, .ref 189), (2, .ref 165), (1, .ref 0), (0, .ref xi_scr)], [])) rfl ?_
    refine xe_sn pg_177 3 (fr' := (27, [(4, .int 5), (6, .int y), (5, .int 0), (3, .ref 189), (2, .ref 165), (1, .ref 0), (0, .ref xi_scr)], [.int 5, .int 5])) rfl ?_
    refine xe_sn pg_177 2 (fr' := (29, [(4, .int 5), (6, .int y), (5, .int 0), (3, .ref 189), (2, .ref 165), (1, .ref 0), (0, .ref xi_scr)], [.int 0, .int 5])) rfl ?_
    refine xe_sn pg_177 1 (fr' := (1337, [(4, .int 5), (6, .int y), (5, .int 0), (3, .ref 189), (2, .ref 165), (1, .ref 0), (0, .ref xi_scr)], [])) rfl ?_
    refine xe_sn pg_177 1 (fr' := (1338, [(4, .int 5), (6, .int y), (5, .int 0), (3, .ref 189), (2, .ref 165), (1, .ref 0), (0, .ref xi_scr)], [.int 1])) rfl ?_
    exact xe_end pg_177 rfl
  · refine xe_t1 pg_177 269 rfl rfl (show ¬ k.toInt = 0 from fun q => hk (Int32.toInt_inj.mp q)) ?_
    refine xe_sn pg_177 1 (fr' := (1331, [(6, .int y), (5, .int k), (4, .int 0), (3, .ref 189), (2, .ref 165), (1, .ref 0), (0, .ref xi_scr)], [])) rfl ?_
    refine xe_sn pg_177 1 (fr' := (1334, [(4, .int 5), (6, .int y), (5, .int k), (3, .ref 189), (2, .ref 165), (1, .ref 0), (0, .ref xi_scr)], [])) rfl ?_
    refine xe_sn pg_177 1 (fr' := (23, [(4, .int 5), (6, .int y), (5, .int k), (3, .ref 189), (2, .ref 165), (1, .ref 0), (0, .ref xi_scr)], [])) rfl ?_
    refine xe_sn pg_177 3 (fr' := (27, [(4, .int 5), (6, .int y), (5, .int k), (3, .ref 189), (2, .ref 165), (1, .ref 0), (0, .ref xi_scr)], [.int 5, .int 5])) rfl ?_
    refine xe_sn pg_177 2 (fr' := (29, [(4, .int 5), (6, .int y), (5, .int k), (3, .ref 189), (2, .ref 165), (1, .ref 0), (0, .ref xi_scr)], [.int 0, .int 5])) rfl ?_
    refine xe_sn pg_177 1 (fr' := (1337, [(4, .int 5), (6, .int y), (5, .int k), (3, .ref 189), (2, .ref 165), (1, .ref 0), (0, .ref xi_scr)], [])) rfl ?_
    refine xe_sn pg_177 1 (fr' := (1338, [(4, .int 5), (6, .int y), (5, .int k), (3, .ref 189), (2, .ref 165), (1, .ref 0), (0, .ref xi_scr)], [.int 1])) rfl ?_
    exact xe_end pg_177 rfl
set_option maxRecDepth 100000 in
theorem law_extend (xs : Nat → Int32) (e : xs 0 &&& 31 = nI 2) : law_fin 5 xs := by
  obtain ⟨k, y, h1, h2, c1, g1, c2, g2, b1, b2, t1, t2⟩ := op_extend xs (xs 1) (xs 2) (xs 3)
  obtain ⟨f1, C1, W1, I1, J1, R1, rfl⟩ := gd_form g1
  obtain ⟨f2, C2, W2, I2, J2, R2, rfl⟩ := gd_form g2
  refine ⟨_, ?_, b1, b2⟩
  refine xe_sn pg_177 3 (fr' := (27, [(4, .int 0), (3, .ref 189), (2, .ref 165), (1, .ref 0), (0, .ref xi_scr)], [.int 5, .int 0])) rfl ?_; refine xe_sn pg_177 2 (fr' := (29, [(4, .int 0), (3, .ref 189), (2, .ref 165), (1, .ref 0), (0, .ref xi_scr)], [.int 0, .int 0])) rfl ?_
  refine xe_sn pg_177 6 (fr' := (39, [(4, .int 0), (3, .ref 189), (2, .ref 165), (1, .ref 0), (0, .ref xi_scr)], [.int (xs 0 &&& 31)])) rfl ?_
  rw [e]
  refine xe_sn pg_177 1 (fr' := (272, [(4, .int 0), (3, .ref 189), (2, .ref 165), (1, .ref 0), (0, .ref xi_scr)], [])) rfl ?_
  refine xe_sn pg_177 17 (fr' := (292, [(4, .int 0), (3, .ref 189), (2, .ref 165), (1, .ref 0), (0, .ref xi_scr)], [.ref 189, .int (xs 3), .int (xs 2), .int (xs 1), .ref 0])) rfl ?_
  refine xe_callq pg_177 162 [.ref 0, .int (xs 1), .int (xs 2), .int (xs 3), .ref 189] (.inl (some (.int k))) (295, [(4, .int 0), (3, .ref 189), (2, .ref 165), (1, .ref 0), (0, .ref xi_scr)], [.int k]) rfl (fun _ => rfl) c1 ?_
  refine xe_sn pg_177 17 (fr' := (316, [(5, .int k), (4, .int 0), (3, .ref 189), (2, .ref 165), (1, .ref 0), (0, .ref xi_scr)], [.int (xs 3), .int (xs 2), .int (xs 1), .ref 165])) rfl ?_
  refine xe_callq pg_177 141 [.ref 165, .int (xs 1), .int (xs 2), .int (xs 3)] (.inl (some (.int y))) (319, [(5, .int k), (4, .int 0), (3, .ref 189), (2, .ref 165), (1, .ref 0), (0, .ref xi_scr)], [.int y]) rfl (fun _ => rfl) c2 ?_
  refine xe_sn pg_177 2 (fr' := (322, [(6, .int y), (5, .int k), (4, .int 0), (3, .ref 189), (2, .ref 165), (1, .ref 0), (0, .ref xi_scr)], [.ref 165])) rfl ?_
  refine xe_callq pg_177 102 [.ref 165] (.inl (some (.int (I2 165 0)))) (325, [(6, .int y), (5, .int k), (4, .int 0), (3, .ref 189), (2, .ref 165), (1, .ref 0), (0, .ref xi_scr)], [.int (I2 165 0)]) rfl (fun _ => rfl) (xe_sn pg_102 2 (fr' := (4, [(0, .ref 165)], [.int (I2 165 0)])) rfl (xe_end pg_102 rfl)) ?_
  refine xe_sn pg_177 1 (fr' := (327, [(6, .int y), (5, .int k), (4, .int 0), (3, .ref 189), (2, .ref 165), (1, .ref 0), (0, .ref xi_scr)], [.int k, .int (I2 165 0)])) rfl ?_
  rw [show I2 165 0 = k from t1]
  refine xe_t2 pg_177 332 rfl rfl (show k.toInt = k.toInt from rfl) ?_
  refine xe_sn pg_177 1 (fr' := (334, [(6, .int y), (5, .int k), (4, .int 0), (3, .ref 189), (2, .ref 165), (1, .ref 0), (0, .ref xi_scr)], [.int k])) rfl ?_
  by_cases hk : k = 0
  · subst hk
    refine xe_f1 pg_177 349 rfl rfl (show ¬ ¬ (0 : Int32).toInt = 0 by decide) ?_
    refine xe_sn pg_177 6 (fr' := (344, [(6, .int y), (5, .int 0), (4, .int 0), (3, .ref 189), (2, .ref 165), (1, .ref 0), (0, .ref xi_scr)], [.int (lg_cmp (J2 189 0) y.toInt64)])) rfl ?_
    rw [show J2 189 0 = y.toInt64 from t2 rfl, lg_self]
    refine xe_sn pg_177 1 (fr' := (349, [(6, .int y), (5, .int 0), (4, .int 0), (3, .ref 189), (2, .ref 165), (1, .ref 0), (0, .ref xi_scr)], [])) rfl ?_
    refine xe_sn pg_177 1 (fr' := (1331, [(6, .int y), (5, .int 0), (4, .int 0), (3, .ref 189), (2, .ref 165), (1, .ref 0), (0, .ref xi_scr)], [])) rfl ?_
    refine xe_sn pg_177 1 (fr' := (1334, [(4, .int 5), (6, .int y), (5, .int 0), (3, .ref 189), (2, .ref 165), (1, .ref 0), (0, .ref xi_scr)], [])) rfl ?_
    refine xe_sn pg_177 1 (fr' := (23, [(4, .int 5), (6, .int y), (5, .int 0), (3, .ref 189), (2, .ref 165), (1, .ref 0), (0, .ref xi_scr)], [])) rfl ?_
    refine xe_sn pg_177 3 (fr' := (27, [(4, .int 5), (6, .int y), (5, .int 0), (3, .ref 189), (2, .ref 165), (1, .ref 0), (0, .ref xi_scr)], [.int 5, .int 5])) rfl ?_
    refine xe_sn pg_177 2 (fr' := (29, [(4, .int 5), (6, .int y), (5, .int 0), (3, .ref 189), (2, .ref 165), (1, .ref 0), (0, .ref xi_scr)], [.int 0, .int 5])) rfl ?_
    refine xe_sn pg_177 1 (fr' := (1337, [(4, .int 5), (6, .int y), (5, .int 0), (3, .ref 189), (2, .ref 165), (1, .ref 0), (0, .ref xi_scr)], [])) rfl ?_
    refine xe_sn pg_177 1 (fr' := (1338, [(4, .int 5), (6, .int y), (5, .int 0), (3, .ref 189), (2, .ref 165), (1, .ref 0), (0, .ref xi_scr)], [.int 1])) rfl ?_
    exact xe_end pg_177 rfl
  · refine xe_t1 pg_177 349 rfl rfl (show ¬ k.toInt = 0 from fun q => hk (Int32.toInt_inj.mp q)) ?_
    refine xe_sn pg_177 1 (fr' := (1331, [(6, .int y), (5, .int k), (4, .int 0), (3, .ref 189), (2, .ref 165), (1, .ref 0), (0, .ref xi_scr)], [])) rfl ?_
    refine xe_sn pg_177 1 (fr' := (1334, [(4, .int 5), (6, .int y), (5, .int k), (3, .ref 189), (2, .ref 165), (1, .ref 0), (0, .ref xi_scr)], [])) rfl ?_
    refine xe_sn pg_177 1 (fr' := (23, [(4, .int 5), (6, .int y), (5, .int k), (3, .ref 189), (2, .ref 165), (1, .ref 0), (0, .ref xi_scr)], [])) rfl ?_
    refine xe_sn pg_177 3 (fr' := (27, [(4, .int 5), (6, .int y), (5, .int k), (3, .ref 189), (2, .ref 165), (1, .ref 0), (0, .ref xi_scr)], [.int 5, .int 5])) rfl ?_
    refine xe_sn pg_177 2 (fr' := (29, [(4, .int 5), (6, .int y), (5, .int k), (3, .ref 189), (2, .ref 165), (1, .ref 0), (0, .ref xi_scr)], [.int 0, .int 5])) rfl ?_
    refine xe_sn pg_177 1 (fr' := (1337, [(4, .int 5), (6, .int y), (5, .int k), (3, .ref 189), (2, .ref 165), (1, .ref 0), (0, .ref xi_scr)], [])) rfl ?_
    refine xe_sn pg_177 1 (fr' := (1338, [(4, .int 5), (6, .int y), (5, .int k), (3, .ref 189), (2, .ref 165), (1, .ref 0), (0, .ref xi_scr)], [.int 1])) rfl ?_
    exact xe_end pg_177 rfl
set_option maxRecDepth 100000 in
theorem law_begin (xs : Nat → Int32) (e : xs 0 &&& 31 = nI 3) : law_fin 5 xs := by
  obtain ⟨k, h1, h2, c1, g1, c2, g2, b1, b2, t1⟩ := op_begin xs (xs 1) (xs 2) (xs 3)
  obtain ⟨f1, C1, W1, I1, J1, R1, rfl⟩ := gd_form g1
  obtain ⟨f2, C2, W2, I2, J2, R2, rfl⟩ := gd_form g2
  refine ⟨_, ?_, b1, b2⟩
  refine xe_sn pg_177 3 (fr' := (27, [(4, .int 0), (3, .ref 189), (2, .ref 165), (1, .ref 0), (0, .ref xi_scr)], [.int 5, .int 0])) rfl ?_; refine xe_sn pg_177 2 (fr' := (29, [(4, .int 0), (3, .ref 189), (2, .ref 165), (1, .ref 0), (0, .ref xi_scr)], [.int 0, .int 0])) rfl ?_
  refine xe_sn pg_177 6 (fr' := (39, [(4, .int 0), (3, .ref 189), (2, .ref 165), (1, .ref 0), (0, .ref xi_scr)], [.int (xs 0 &&& 31)])) rfl ?_
  rw [e]
  refine xe_sn pg_177 1 (fr' := (352, [(4, .int 0), (3, .ref 189), (2, .ref 165), (1, .ref 0), (0, .ref xi_scr)], [])) rfl ?_
  refine xe_sn pg_177 16 (fr' := (371, [(4, .int 0), (3, .ref 189), (2, .ref 165), (1, .ref 0), (0, .ref xi_scr)], [.int (xs 3), .int (xs 2), .int (xs 1), .ref 0])) rfl ?_
  refine xe_callq pg_177 163 [.ref 0, .int (xs 1), .int (xs 2), .int (xs 3)] (.inl (some (.int k))) (374, [(4, .int 0), (3, .ref 189), (2, .ref 165), (1, .ref 0), (0, .ref xi_scr)], [.int k]) rfl (fun _ => rfl) c1 ?_
  refine xe_sn pg_177 17 (fr' := (395, [(5, .int k), (4, .int 0), (3, .ref 189), (2, .ref 165), (1, .ref 0), (0, .ref xi_scr)], [.int (xs 3), .int (xs 2), .int (xs 1), .ref 165])) rfl ?_
  refine xe_callq pg_177 142 [.ref 165, .int (xs 1), .int (xs 2), .int (xs 3)] (.inl none) (398, [(5, .int k), (4, .int 0), (3, .ref 189), (2, .ref 165), (1, .ref 0), (0, .ref xi_scr)], []) rfl (fun _ => rfl) c2 ?_
  refine xe_sn pg_177 1 (fr' := (399, [(5, .int k), (4, .int 0), (3, .ref 189), (2, .ref 165), (1, .ref 0), (0, .ref xi_scr)], [.ref 165])) rfl ?_
  refine xe_callq pg_177 102 [.ref 165] (.inl (some (.int (I2 165 0)))) (402, [(5, .int k), (4, .int 0), (3, .ref 189), (2, .ref 165), (1, .ref 0), (0, .ref xi_scr)], [.int (I2 165 0)]) rfl (fun _ => rfl) (xe_sn pg_102 2 (fr' := (4, [(0, .ref 165)], [.int (I2 165 0)])) rfl (xe_end pg_102 rfl)) ?_
  refine xe_sn pg_177 1 (fr' := (404, [(5, .int k), (4, .int 0), (3, .ref 189), (2, .ref 165), (1, .ref 0), (0, .ref xi_scr)], [.int k, .int (I2 165 0)])) rfl ?_
  rw [show I2 165 0 = k from t1]
  refine xe_t2 pg_177 409 rfl rfl (show k.toInt = k.toInt from rfl) ?_
  refine xe_sn pg_177 1 (fr' := (1331, [(5, .int k), (4, .int 0), (3, .ref 189), (2, .ref 165), (1, .ref 0), (0, .ref xi_scr)], [])) rfl ?_
  refine xe_sn pg_177 1 (fr' := (1334, [(4, .int 5), (5, .int k), (3, .ref 189), (2, .ref 165), (1, .ref 0), (0, .ref xi_scr)], [])) rfl ?_
  refine xe_sn pg_177 1 (fr' := (23, [(4, .int 5), (5, .int k), (3, .ref 189), (2, .ref 165), (1, .ref 0), (0, .ref xi_scr)], [])) rfl ?_
  refine xe_sn pg_177 3 (fr' := (27, [(4, .int 5), (5, .int k), (3, .ref 189), (2, .ref 165), (1, .ref 0), (0, .ref xi_scr)], [.int 5, .int 5])) rfl ?_
  refine xe_sn pg_177 2 (fr' := (29, [(4, .int 5), (5, .int k), (3, .ref 189), (2, .ref 165), (1, .ref 0), (0, .ref xi_scr)], [.int 0, .int 5])) rfl ?_
  refine xe_sn pg_177 1 (fr' := (1337, [(4, .int 5), (5, .int k), (3, .ref 189), (2, .ref 165), (1, .ref 0), (0, .ref xi_scr)], [])) rfl ?_
  refine xe_sn pg_177 1 (fr' := (1338, [(4, .int 5), (5, .int k), (3, .ref 189), (2, .ref 165), (1, .ref 0), (0, .ref xi_scr)], [.int 1])) rfl ?_
  exact xe_end pg_177 rfl
set_option maxRecDepth 100000 in
theorem law_send (xs : Nat → Int32) (e : xs 0 &&& 31 = nI 4) : law_fin 5 xs := by
  obtain ⟨k, y, h1, h2, c1, g1, c2, g2, b1, b2, t1, t2⟩ := op_send xs (xs 1) (xs 2) (xs 3) (xs 4)
  obtain ⟨f1, C1, W1, I1, J1, R1, rfl⟩ := gd_form g1
  obtain ⟨f2, C2, W2, I2, J2, R2, rfl⟩ := gd_form g2
  refine ⟨_, ?_, b1, b2⟩
  refine xe_sn pg_177 3 (fr' := (27, [(4, .int 0), (3, .ref 189), (2, .ref 165), (1, .ref 0), (0, .ref xi_scr)], [.int 5, .int 0])) rfl ?_; refine xe_sn pg_177 2 (fr' := (29, [(4, .int 0), (3, .ref 189), (2, .ref 165), (1, .ref 0), (0, .ref xi_scr)], [.int 0, .int 0])) rfl ?_
  refine xe_sn pg_177 6 (fr' := (39, [(4, .int 0), (3, .ref 189), (2, .ref 165), (1, .ref 0), (0, .ref xi_scr)], [.int (xs 0 &&& 31)])) rfl ?_
  rw [e]
  refine xe_sn pg_177 1 (fr' := (412, [(4, .int 0), (3, .ref 189), (2, .ref 165), (1, .ref 0), (0, .ref xi_scr)], [])) rfl ?_
  refine xe_sn pg_177 22 (fr' := (438, [(4, .int 0), (3, .ref 189), (2, .ref 165), (1, .ref 0), (0, .ref xi_scr)], [.ref 189, .int (xs 4), .int (xs 3), .int (xs 2), .int (xs 1), .ref 0])) rfl ?_
  refine xe_callq pg_177 164 [.ref 0, .int (xs 1), .int (xs 2), .int (xs 3), .int (xs 4), .ref 189] (.inl (some (.int k))) (441, [(4, .int 0), (3, .ref 189), (2, .ref 165), (1, .ref 0), (0, .ref xi_scr)], [.int k]) rfl (fun _ => rfl) c1 ?_
  refine xe_sn pg_177 22 (fr' := (468, [(5, .int k), (4, .int 0), (3, .ref 189), (2, .ref 165), (1, .ref 0), (0, .ref xi_scr)], [.int (xs 4), .int (xs 3), .int (xs 2), .int (xs 1), .ref 165])) rfl ?_
  refine xe_callq pg_177 143 [.ref 165, .int (xs 1), .int (xs 2), .int (xs 3), .int (xs 4)] (.inl (some (.int y))) (471, [(5, .int k), (4, .int 0), (3, .ref 189), (2, .ref 165), (1, .ref 0), (0, .ref xi_scr)], [.int y]) rfl (fun _ => rfl) c2 ?_
  refine xe_sn pg_177 2 (fr' := (474, [(6, .int y), (5, .int k), (4, .int 0), (3, .ref 189), (2, .ref 165), (1, .ref 0), (0, .ref xi_scr)], [.ref 165])) rfl ?_
  refine xe_callq pg_177 102 [.ref 165] (.inl (some (.int (I2 165 0)))) (477, [(6, .int y), (5, .int k), (4, .int 0), (3, .ref 189), (2, .ref 165), (1, .ref 0), (0, .ref xi_scr)], [.int (I2 165 0)]) rfl (fun _ => rfl) (xe_sn pg_102 2 (fr' := (4, [(0, .ref 165)], [.int (I2 165 0)])) rfl (xe_end pg_102 rfl)) ?_
  refine xe_sn pg_177 1 (fr' := (479, [(6, .int y), (5, .int k), (4, .int 0), (3, .ref 189), (2, .ref 165), (1, .ref 0), (0, .ref xi_scr)], [.int k, .int (I2 165 0)])) rfl ?_
  rw [show I2 165 0 = k from t1]
  refine xe_t2 pg_177 484 rfl rfl (show k.toInt = k.toInt from rfl) ?_
  refine xe_sn pg_177 1 (fr' := (486, [(6, .int y), (5, .int k), (4, .int 0), (3, .ref 189), (2, .ref 165), (1, .ref 0), (0, .ref xi_scr)], [.int k])) rfl ?_
  by_cases hk : k = 0
  · subst hk
    refine xe_f1 pg_177 501 rfl rfl (show ¬ ¬ (0 : Int32).toInt = 0 by decide) ?_
    refine xe_sn pg_177 6 (fr' := (496, [(6, .int y), (5, .int 0), (4, .int 0), (3, .ref 189), (2, .ref 165), (1, .ref 0), (0, .ref xi_scr)], [.int (lg_cmp (J2 189 0) y.toInt64)])) rfl ?_
    rw [show J2 189 0 = y.toInt64 from t2 rfl, lg_self]
    refine xe_sn pg_177 1 (fr' := (501, [(6, .int y), (5, .int 0), (4, .int 0), (3, .ref 189), (2, .ref 165), (1, .ref 0), (0, .ref xi_scr)], [])) rfl ?_
    refine xe_sn pg_177 1 (fr' := (1331, [(6, .int y), (5, .int 0), (4, .int 0), (3, .ref 189), (2, .ref 165), (1, .ref 0), (0, .ref xi_scr)], [])) rfl ?_
    refine xe_sn pg_177 1 (fr' := (1334, [(4, .int 5), (6, .int y), (5, .int 0), (3, .ref 189), (2, .ref 165), (1, .ref 0), (0, .ref xi_scr)], [])) rfl ?_
    refine xe_sn pg_177 1 (fr' := (23, [(4, .int 5), (6, .int y), (5, .int 0), (3, .ref 189), (2, .ref 165), (1, .ref 0), (0, .ref xi_scr)], [])) rfl ?_
    refine xe_sn pg_177 3 (fr' := (27, [(4, .int 5), (6, .int y), (5, .int 0), (3, .ref 189), (2, .ref 165), (1, .ref 0), (0, .ref xi_scr)], [.int 5, .int 5])) rfl ?_
    refine xe_sn pg_177 2 (fr' := (29, [(4, .int 5), (6, .int y), (5, .int 0), (3, .ref 189), (2, .ref 165), (1, .ref 0), (0, .ref xi_scr)], [.int 0, .int 5])) rfl ?_
    refine xe_sn pg_177 1 (fr' := (1337, [(4, .int 5), (6, .int y), (5, .int 0), (3, .ref 189), (2, .ref 165), (1, .ref 0), (0, .ref xi_scr)], [])) rfl ?_
    refine xe_sn pg_177 1 (fr' := (1338, [(4, .int 5), (6, .int y), (5, .int 0), (3, .ref 189), (2, .ref 165), (1, .ref 0), (0, .ref xi_scr)], [.int 1])) rfl ?_
    exact xe_end pg_177 rfl
  · refine xe_t1 pg_177 501 rfl rfl (show ¬ k.toInt = 0 from fun q => hk (Int32.toInt_inj.mp q)) ?_
    refine xe_sn pg_177 1 (fr' := (1331, [(6, .int y), (5, .int k), (4, .int 0), (3, .ref 189), (2, .ref 165), (1, .ref 0), (0, .ref xi_scr)], [])) rfl ?_
    refine xe_sn pg_177 1 (fr' := (1334, [(4, .int 5), (6, .int y), (5, .int k), (3, .ref 189), (2, .ref 165), (1, .ref 0), (0, .ref xi_scr)], [])) rfl ?_
    refine xe_sn pg_177 1 (fr' := (23, [(4, .int 5), (6, .int y), (5, .int k), (3, .ref 189), (2, .ref 165), (1, .ref 0), (0, .ref xi_scr)], [])) rfl ?_
    refine xe_sn pg_177 3 (fr' := (27, [(4, .int 5), (6, .int y), (5, .int k), (3, .ref 189), (2, .ref 165), (1, .ref 0), (0, .ref xi_scr)], [.int 5, .int 5])) rfl ?_
    refine xe_sn pg_177 2 (fr' := (29, [(4, .int 5), (6, .int y), (5, .int k), (3, .ref 189), (2, .ref 165), (1, .ref 0), (0, .ref xi_scr)], [.int 0, .int 5])) rfl ?_
    refine xe_sn pg_177 1 (fr' := (1337, [(4, .int 5), (6, .int y), (5, .int k), (3, .ref 189), (2, .ref 165), (1, .ref 0), (0, .ref xi_scr)], [])) rfl ?_
    refine xe_sn pg_177 1 (fr' := (1338, [(4, .int 5), (6, .int y), (5, .int k), (3, .ref 189), (2, .ref 165), (1, .ref 0), (0, .ref xi_scr)], [.int 1])) rfl ?_
    exact xe_end pg_177 rfl
set_option maxRecDepth 100000 in
theorem law_end (xs : Nat → Int32) (e : xs 0 &&& 31 = nI 5) : law_fin 5 xs := by
  obtain ⟨k, y, h1, h2, c1, g1, c2, g2, b1, b2, t1, t2⟩ := op_end xs (xs 1) (xs 2)
  obtain ⟨f1, C1, W1, I1, J1, R1, rfl⟩ := gd_form g1
  obtain ⟨f2, C2, W2, I2, J2, R2, rfl⟩ := gd_form g2
  refine ⟨_, ?_, b1, b2⟩
  refine xe_sn pg_177 3 (fr' := (27, [(4, .int 0), (3, .ref 189), (2, .ref 165), (1, .ref 0), (0, .ref xi_scr)], [.int 5, .int 0])) rfl ?_; refine xe_sn pg_177 2 (fr' := (29, [(4, .int 0), (3, .ref 189), (2, .ref 165), (1, .ref 0), (0, .ref xi_scr)], [.int 0, .int 0])) rfl ?_
  refine xe_sn pg_177 6 (fr' := (39, [(4, .int 0), (3, .ref 189), (2, .ref 165), (1, .ref 0), (0, .ref xi_scr)], [.int (xs 0 &&& 31)])) rfl ?_
  rw [e]
  refine xe_sn pg_177 1 (fr' := (504, [(4, .int 0), (3, .ref 189), (2, .ref 165), (1, .ref 0), (0, .ref xi_scr)], [])) rfl ?_
  refine xe_sn pg_177 12 (fr' := (518, [(4, .int 0), (3, .ref 189), (2, .ref 165), (1, .ref 0), (0, .ref xi_scr)], [.ref 189, .int (xs 2), .int (xs 1), .ref 0])) rfl ?_
  refine xe_callq pg_177 165 [.ref 0, .int (xs 1), .int (xs 2), .ref 189] (.inl (some (.int k))) (521, [(4, .int 0), (3, .ref 189), (2, .ref 165), (1, .ref 0), (0, .ref xi_scr)], [.int k]) rfl (fun _ => rfl) c1 ?_
  refine xe_sn pg_177 12 (fr' := (536, [(5, .int k), (4, .int 0), (3, .ref 189), (2, .ref 165), (1, .ref 0), (0, .ref xi_scr)], [.int (xs 2), .int (xs 1), .ref 165])) rfl ?_
  refine xe_callq pg_177 144 [.ref 165, .int (xs 1), .int (xs 2)] (.inl (some (.int y))) (539, [(5, .int k), (4, .int 0), (3, .ref 189), (2, .ref 165), (1, .ref 0), (0, .ref xi_scr)], [.int y]) rfl (fun _ => rfl) c2 ?_
  refine xe_sn pg_177 2 (fr' := (542, [(6, .int y), (5, .int k), (4, .int 0), (3, .ref 189), (2, .ref 165), (1, .ref 0), (0, .ref xi_scr)], [.ref 165])) rfl ?_
  refine xe_callq pg_177 102 [.ref 165] (.inl (some (.int (I2 165 0)))) (545, [(6, .int y), (5, .int k), (4, .int 0), (3, .ref 189), (2, .ref 165), (1, .ref 0), (0, .ref xi_scr)], [.int (I2 165 0)]) rfl (fun _ => rfl) (xe_sn pg_102 2 (fr' := (4, [(0, .ref 165)], [.int (I2 165 0)])) rfl (xe_end pg_102 rfl)) ?_
  refine xe_sn pg_177 1 (fr' := (547, [(6, .int y), (5, .int k), (4, .int 0), (3, .ref 189), (2, .ref 165), (1, .ref 0), (0, .ref xi_scr)], [.int k, .int (I2 165 0)])) rfl ?_
  rw [show I2 165 0 = k from t1]
  refine xe_t2 pg_177 552 rfl rfl (show k.toInt = k.toInt from rfl) ?_
  refine xe_sn pg_177 1 (fr' := (554, [(6, .int y), (5, .int k), (4, .int 0), (3, .ref 189), (2, .ref 165), (1, .ref 0), (0, .ref xi_scr)], [.int k])) rfl ?_
  by_cases hk : k = 0
  · subst hk
    refine xe_f1 pg_177 569 rfl rfl (show ¬ ¬ (0 : Int32).toInt = 0 by decide) ?_
    refine xe_sn pg_177 6 (fr' := (564, [(6, .int y), (5, .int 0), (4, .int 0), (3, .ref 189), (2, .ref 165), (1, .ref 0), (0, .ref xi_scr)], [.int (lg_cmp (J2 189 0) y.toInt64)])) rfl ?_
    rw [show J2 189 0 = y.toInt64 from t2 rfl, lg_self]
    refine xe_sn pg_177 1 (fr' := (569, [(6, .int y), (5, .int 0), (4, .int 0), (3, .ref 189), (2, .ref 165), (1, .ref 0), (0, .ref xi_scr)], [])) rfl ?_
    refine xe_sn pg_177 1 (fr' := (1331, [(6, .int y), (5, .int 0), (4, .int 0), (3, .ref 189), (2, .ref 165), (1, .ref 0), (0, .ref xi_scr)], [])) rfl ?_
    refine xe_sn pg_177 1 (fr' := (1334, [(4, .int 5), (6, .int y), (5, .int 0), (3, .ref 189), (2, .ref 165), (1, .ref 0), (0, .ref xi_scr)], [])) rfl ?_
    refine xe_sn pg_177 1 (fr' := (23, [(4, .int 5), (6, .int y), (5, .int 0), (3, .ref 189), (2, .ref 165), (1, .ref 0), (0, .ref xi_scr)], [])) rfl ?_
    refine xe_sn pg_177 3 (fr' := (27, [(4, .int 5), (6, .int y), (5, .int 0), (3, .ref 189), (2, .ref 165), (1, .ref 0), (0, .ref xi_scr)], [.int 5, .int 5])) rfl ?_
    refine xe_sn pg_177 2 (fr' := (29, [(4, .int 5), (6, .int y), (5, .int 0), (3, .ref 189), (2, .ref 165), (1, .ref 0), (0, .ref xi_scr)], [.int 0, .int 5])) rfl ?_
    refine xe_sn pg_177 1 (fr' := (1337, [(4, .int 5), (6, .int y), (5, .int 0), (3, .ref 189), (2, .ref 165), (1, .ref 0), (0, .ref xi_scr)], [])) rfl ?_
    refine xe_sn pg_177 1 (fr' := (1338, [(4, .int 5), (6, .int y), (5, .int 0), (3, .ref 189), (2, .ref 165), (1, .ref 0), (0, .ref xi_scr)], [.int 1])) rfl ?_
    exact xe_end pg_177 rfl
  · refine xe_t1 pg_177 569 rfl rfl (show ¬ k.toInt = 0 from fun q => hk (Int32.toInt_inj.mp q)) ?_
    refine xe_sn pg_177 1 (fr' := (1331, [(6, .int y), (5, .int k), (4, .int 0), (3, .ref 189), (2, .ref 165), (1, .ref 0), (0, .ref xi_scr)], [])) rfl ?_
    refine xe_sn pg_177 1 (fr' := (1334, [(4, .int 5), (6, .int y), (5, .int k), (3, .ref 189), (2, .ref 165), (1, .ref 0), (0, .ref xi_scr)], [])) rfl ?_
    refine xe_sn pg_177 1 (fr' := (23, [(4, .int 5), (6, .int y), (5, .int k), (3, .ref 189), (2, .ref 165), (1, .ref 0), (0, .ref xi_scr)], [])) rfl ?_
    refine xe_sn pg_177 3 (fr' := (27, [(4, .int 5), (6, .int y), (5, .int k), (3, .ref 189), (2, .ref 165), (1, .ref 0), (0, .ref xi_scr)], [.int 5, .int 5])) rfl ?_
    refine xe_sn pg_177 2 (fr' := (29, [(4, .int 5), (6, .int y), (5, .int k), (3, .ref 189), (2, .ref 165), (1, .ref 0), (0, .ref xi_scr)], [.int 0, .int 5])) rfl ?_
    refine xe_sn pg_177 1 (fr' := (1337, [(4, .int 5), (6, .int y), (5, .int k), (3, .ref 189), (2, .ref 165), (1, .ref 0), (0, .ref xi_scr)], [])) rfl ?_
    refine xe_sn pg_177 1 (fr' := (1338, [(4, .int 5), (6, .int y), (5, .int k), (3, .ref 189), (2, .ref 165), (1, .ref 0), (0, .ref xi_scr)], [.int 1])) rfl ?_
    exact xe_end pg_177 rfl
set_option maxRecDepth 100000 in
theorem law_truncate (xs : Nat → Int32) (e : xs 0 &&& 31 = nI 6) : law_fin 5 xs := by
  obtain ⟨k, y, h1, h2, c1, g1, c2, g2, b1, b2, t1, t2⟩ := op_truncate xs (xs 1) (xs 2)
  obtain ⟨f1, C1, W1, I1, J1, R1, rfl⟩ := gd_form g1
  obtain ⟨f2, C2, W2, I2, J2, R2, rfl⟩ := gd_form g2
  refine ⟨_, ?_, b1, b2⟩
  refine xe_sn pg_177 3 (fr' := (27, [(4, .int 0), (3, .ref 189), (2, .ref 165), (1, .ref 0), (0, .ref xi_scr)], [.int 5, .int 0])) rfl ?_; refine xe_sn pg_177 2 (fr' := (29, [(4, .int 0), (3, .ref 189), (2, .ref 165), (1, .ref 0), (0, .ref xi_scr)], [.int 0, .int 0])) rfl ?_
  refine xe_sn pg_177 6 (fr' := (39, [(4, .int 0), (3, .ref 189), (2, .ref 165), (1, .ref 0), (0, .ref xi_scr)], [.int (xs 0 &&& 31)])) rfl ?_
  rw [e]
  refine xe_sn pg_177 1 (fr' := (572, [(4, .int 0), (3, .ref 189), (2, .ref 165), (1, .ref 0), (0, .ref xi_scr)], [])) rfl ?_
  refine xe_sn pg_177 12 (fr' := (586, [(4, .int 0), (3, .ref 189), (2, .ref 165), (1, .ref 0), (0, .ref xi_scr)], [.ref 189, .int (xs 2), .int (xs 1), .ref 0])) rfl ?_
  refine xe_callq pg_177 166 [.ref 0, .int (xs 1), .int (xs 2), .ref 189] (.inl (some (.int k))) (589, [(4, .int 0), (3, .ref 189), (2, .ref 165), (1, .ref 0), (0, .ref xi_scr)], [.int k]) rfl (fun _ => rfl) c1 ?_
  refine xe_sn pg_177 12 (fr' := (604, [(5, .int k), (4, .int 0), (3, .ref 189), (2, .ref 165), (1, .ref 0), (0, .ref xi_scr)], [.int (xs 2), .int (xs 1), .ref 165])) rfl ?_
  refine xe_callq pg_177 146 [.ref 165, .int (xs 1), .int (xs 2)] (.inl (some (.int y))) (607, [(5, .int k), (4, .int 0), (3, .ref 189), (2, .ref 165), (1, .ref 0), (0, .ref xi_scr)], [.int y]) rfl (fun _ => rfl) c2 ?_
  refine xe_sn pg_177 2 (fr' := (610, [(6, .int y), (5, .int k), (4, .int 0), (3, .ref 189), (2, .ref 165), (1, .ref 0), (0, .ref xi_scr)], [.ref 165])) rfl ?_
  refine xe_callq pg_177 102 [.ref 165] (.inl (some (.int (I2 165 0)))) (613, [(6, .int y), (5, .int k), (4, .int 0), (3, .ref 189), (2, .ref 165), (1, .ref 0), (0, .ref xi_scr)], [.int (I2 165 0)]) rfl (fun _ => rfl) (xe_sn pg_102 2 (fr' := (4, [(0, .ref 165)], [.int (I2 165 0)])) rfl (xe_end pg_102 rfl)) ?_
  refine xe_sn pg_177 1 (fr' := (615, [(6, .int y), (5, .int k), (4, .int 0), (3, .ref 189), (2, .ref 165), (1, .ref 0), (0, .ref xi_scr)], [.int k, .int (I2 165 0)])) rfl ?_
  rw [show I2 165 0 = k from t1]
  refine xe_t2 pg_177 620 rfl rfl (show k.toInt = k.toInt from rfl) ?_
  refine xe_sn pg_177 1 (fr' := (622, [(6, .int y), (5, .int k), (4, .int 0), (3, .ref 189), (2, .ref 165), (1, .ref 0), (0, .ref xi_scr)], [.int k])) rfl ?_
  by_cases hk : k = 0
  · subst hk
    refine xe_f1 pg_177 637 rfl rfl (show ¬ ¬ (0 : Int32).toInt = 0 by decide) ?_
    refine xe_sn pg_177 6 (fr' := (632, [(6, .int y), (5, .int 0), (4, .int 0), (3, .ref 189), (2, .ref 165), (1, .ref 0), (0, .ref xi_scr)], [.int (lg_cmp (J2 189 0) y.toInt64)])) rfl ?_
    rw [show J2 189 0 = y.toInt64 from t2 rfl, lg_self]
    refine xe_sn pg_177 1 (fr' := (637, [(6, .int y), (5, .int 0), (4, .int 0), (3, .ref 189), (2, .ref 165), (1, .ref 0), (0, .ref xi_scr)], [])) rfl ?_
    refine xe_sn pg_177 1 (fr' := (1331, [(6, .int y), (5, .int 0), (4, .int 0), (3, .ref 189), (2, .ref 165), (1, .ref 0), (0, .ref xi_scr)], [])) rfl ?_
    refine xe_sn pg_177 1 (fr' := (1334, [(4, .int 5), (6, .int y), (5, .int 0), (3, .ref 189), (2, .ref 165), (1, .ref 0), (0, .ref xi_scr)], [])) rfl ?_
    refine xe_sn pg_177 1 (fr' := (23, [(4, .int 5), (6, .int y), (5, .int 0), (3, .ref 189), (2, .ref 165), (1, .ref 0), (0, .ref xi_scr)], [])) rfl ?_
    refine xe_sn pg_177 3 (fr' := (27, [(4, .int 5), (6, .int y), (5, .int 0), (3, .ref 189), (2, .ref 165), (1, .ref 0), (0, .ref xi_scr)], [.int 5, .int 5])) rfl ?_
    refine xe_sn pg_177 2 (fr' := (29, [(4, .int 5), (6, .int y), (5, .int 0), (3, .ref 189), (2, .ref 165), (1, .ref 0), (0, .ref xi_scr)], [.int 0, .int 5])) rfl ?_
    refine xe_sn pg_177 1 (fr' := (1337, [(4, .int 5), (6, .int y), (5, .int 0), (3, .ref 189), (2, .ref 165), (1, .ref 0), (0, .ref xi_scr)], [])) rfl ?_
    refine xe_sn pg_177 1 (fr' := (1338, [(4, .int 5), (6, .int y), (5, .int 0), (3, .ref 189), (2, .ref 165), (1, .ref 0), (0, .ref xi_scr)], [.int 1])) rfl ?_
    exact xe_end pg_177 rfl
  · refine xe_t1 pg_177 637 rfl rfl (show ¬ k.toInt = 0 from fun q => hk (Int32.toInt_inj.mp q)) ?_
    refine xe_sn pg_177 1 (fr' := (1331, [(6, .int y), (5, .int k), (4, .int 0), (3, .ref 189), (2, .ref 165), (1, .ref 0), (0, .ref xi_scr)], [])) rfl ?_
    refine xe_sn pg_177 1 (fr' := (1334, [(4, .int 5), (6, .int y), (5, .int k), (3, .ref 189), (2, .ref 165), (1, .ref 0), (0, .ref xi_scr)], [])) rfl ?_
    refine xe_sn pg_177 1 (fr' := (23, [(4, .int 5), (6, .int y), (5, .int k), (3, .ref 189), (2, .ref 165), (1, .ref 0), (0, .ref xi_scr)], [])) rfl ?_
    refine xe_sn pg_177 3 (fr' := (27, [(4, .int 5), (6, .int y), (5, .int k), (3, .ref 189), (2, .ref 165), (1, .ref 0), (0, .ref xi_scr)], [.int 5, .int 5])) rfl ?_
    refine xe_sn pg_177 2 (fr' := (29, [(4, .int 5), (6, .int y), (5, .int k), (3, .ref 189), (2, .ref 165), (1, .ref 0), (0, .ref xi_scr)], [.int 0, .int 5])) rfl ?_
    refine xe_sn pg_177 1 (fr' := (1337, [(4, .int 5), (6, .int y), (5, .int k), (3, .ref 189), (2, .ref 165), (1, .ref 0), (0, .ref xi_scr)], [])) rfl ?_
    refine xe_sn pg_177 1 (fr' := (1338, [(4, .int 5), (6, .int y), (5, .int k), (3, .ref 189), (2, .ref 165), (1, .ref 0), (0, .ref xi_scr)], [.int 1])) rfl ?_
    exact xe_end pg_177 rfl
set_option maxRecDepth 100000 in
theorem law_close (xs : Nat → Int32) (e : xs 0 &&& 31 = nI 7) : law_fin 5 xs := by
  obtain ⟨k, h1, h2, c1, g1, c2, g2, b1, b2, t1⟩ := op_close xs (xs 1)
  obtain ⟨f1, C1, W1, I1, J1, R1, rfl⟩ := gd_form g1
  obtain ⟨f2, C2, W2, I2, J2, R2, rfl⟩ := gd_form g2
  refine ⟨_, ?_, b1, b2⟩
  refine xe_sn pg_177 3 (fr' := (27, [(4, .int 0), (3, .ref 189), (2, .ref 165), (1, .ref 0), (0, .ref xi_scr)], [.int 5, .int 0])) rfl ?_; refine xe_sn pg_177 2 (fr' := (29, [(4, .int 0), (3, .ref 189), (2, .ref 165), (1, .ref 0), (0, .ref xi_scr)], [.int 0, .int 0])) rfl ?_
  refine xe_sn pg_177 6 (fr' := (39, [(4, .int 0), (3, .ref 189), (2, .ref 165), (1, .ref 0), (0, .ref xi_scr)], [.int (xs 0 &&& 31)])) rfl ?_
  rw [e]
  refine xe_sn pg_177 1 (fr' := (640, [(4, .int 0), (3, .ref 189), (2, .ref 165), (1, .ref 0), (0, .ref xi_scr)], [])) rfl ?_
  refine xe_sn pg_177 6 (fr' := (647, [(4, .int 0), (3, .ref 189), (2, .ref 165), (1, .ref 0), (0, .ref xi_scr)], [.int (xs 1), .ref 0])) rfl ?_
  refine xe_callq pg_177 167 [.ref 0, .int (xs 1)] (.inl (some (.int k))) (650, [(4, .int 0), (3, .ref 189), (2, .ref 165), (1, .ref 0), (0, .ref xi_scr)], [.int k]) rfl (fun _ => rfl) c1 ?_
  refine xe_sn pg_177 7 (fr' := (659, [(5, .int k), (4, .int 0), (3, .ref 189), (2, .ref 165), (1, .ref 0), (0, .ref xi_scr)], [.int (xs 1), .ref 165])) rfl ?_
  refine xe_callq pg_177 147 [.ref 165, .int (xs 1)] (.inl none) (662, [(5, .int k), (4, .int 0), (3, .ref 189), (2, .ref 165), (1, .ref 0), (0, .ref xi_scr)], []) rfl (fun _ => rfl) c2 ?_
  refine xe_sn pg_177 1 (fr' := (663, [(5, .int k), (4, .int 0), (3, .ref 189), (2, .ref 165), (1, .ref 0), (0, .ref xi_scr)], [.ref 165])) rfl ?_
  refine xe_callq pg_177 102 [.ref 165] (.inl (some (.int (I2 165 0)))) (666, [(5, .int k), (4, .int 0), (3, .ref 189), (2, .ref 165), (1, .ref 0), (0, .ref xi_scr)], [.int (I2 165 0)]) rfl (fun _ => rfl) (xe_sn pg_102 2 (fr' := (4, [(0, .ref 165)], [.int (I2 165 0)])) rfl (xe_end pg_102 rfl)) ?_
  refine xe_sn pg_177 1 (fr' := (668, [(5, .int k), (4, .int 0), (3, .ref 189), (2, .ref 165), (1, .ref 0), (0, .ref xi_scr)], [.int k, .int (I2 165 0)])) rfl ?_
  rw [show I2 165 0 = k from t1]
  refine xe_t2 pg_177 673 rfl rfl (show k.toInt = k.toInt from rfl) ?_
  refine xe_sn pg_177 1 (fr' := (1331, [(5, .int k), (4, .int 0), (3, .ref 189), (2, .ref 165), (1, .ref 0), (0, .ref xi_scr)], [])) rfl ?_
  refine xe_sn pg_177 1 (fr' := (1334, [(4, .int 5), (5, .int k), (3, .ref 189), (2, .ref 165), (1, .ref 0), (0, .ref xi_scr)], [])) rfl ?_
  refine xe_sn pg_177 1 (fr' := (23, [(4, .int 5), (5, .int k), (3, .ref 189), (2, .ref 165), (1, .ref 0), (0, .ref xi_scr)], [])) rfl ?_
  refine xe_sn pg_177 3 (fr' := (27, [(4, .int 5), (5, .int k), (3, .ref 189), (2, .ref 165), (1, .ref 0), (0, .ref xi_scr)], [.int 5, .int 5])) rfl ?_
  refine xe_sn pg_177 2 (fr' := (29, [(4, .int 5), (5, .int k), (3, .ref 189), (2, .ref 165), (1, .ref 0), (0, .ref xi_scr)], [.int 0, .int 5])) rfl ?_
  refine xe_sn pg_177 1 (fr' := (1337, [(4, .int 5), (5, .int k), (3, .ref 189), (2, .ref 165), (1, .ref 0), (0, .ref xi_scr)], [])) rfl ?_
  refine xe_sn pg_177 1 (fr' := (1338, [(4, .int 5), (5, .int k), (3, .ref 189), (2, .ref 165), (1, .ref 0), (0, .ref xi_scr)], [.int 1])) rfl ?_
  exact xe_end pg_177 rfl
set_option maxRecDepth 100000 in
theorem law_deliver (xs : Nat → Int32) (e : xs 0 &&& 31 = nI 8) : law_fin 5 xs := by
  obtain ⟨k, y, h1, h2, c1, g1, c2, g2, b1, b2, t1, t2⟩ := op_deliver xs (xs 1)
  obtain ⟨f1, C1, W1, I1, J1, R1, rfl⟩ := gd_form g1
  obtain ⟨f2, C2, W2, I2, J2, R2, rfl⟩ := gd_form g2
  refine ⟨_, ?_, b1, b2⟩
  refine xe_sn pg_177 3 (fr' := (27, [(4, .int 0), (3, .ref 189), (2, .ref 165), (1, .ref 0), (0, .ref xi_scr)], [.int 5, .int 0])) rfl ?_; refine xe_sn pg_177 2 (fr' := (29, [(4, .int 0), (3, .ref 189), (2, .ref 165), (1, .ref 0), (0, .ref xi_scr)], [.int 0, .int 0])) rfl ?_
  refine xe_sn pg_177 6 (fr' := (39, [(4, .int 0), (3, .ref 189), (2, .ref 165), (1, .ref 0), (0, .ref xi_scr)], [.int (xs 0 &&& 31)])) rfl ?_
  rw [e]
  refine xe_sn pg_177 1 (fr' := (676, [(4, .int 0), (3, .ref 189), (2, .ref 165), (1, .ref 0), (0, .ref xi_scr)], [])) rfl ?_
  refine xe_sn pg_177 7 (fr' := (684, [(4, .int 0), (3, .ref 189), (2, .ref 165), (1, .ref 0), (0, .ref xi_scr)], [.ref 189, .int (xs 1), .ref 0])) rfl ?_
  refine xe_callq pg_177 168 [.ref 0, .int (xs 1), .ref 189] (.inl (some (.int k))) (687, [(4, .int 0), (3, .ref 189), (2, .ref 165), (1, .ref 0), (0, .ref xi_scr)], [.int k]) rfl (fun _ => rfl) c1 ?_
  refine xe_sn pg_177 7 (fr' := (696, [(5, .int k), (4, .int 0), (3, .ref 189), (2, .ref 165), (1, .ref 0), (0, .ref xi_scr)], [.int (xs 1), .ref 165])) rfl ?_
  refine xe_callq pg_177 148 [.ref 165, .int (xs 1)] (.inl (some (.int y))) (699, [(5, .int k), (4, .int 0), (3, .ref 189), (2, .ref 165), (1, .ref 0), (0, .ref xi_scr)], [.int y]) rfl (fun _ => rfl) c2 ?_
  refine xe_sn pg_177 2 (fr' := (702, [(6, .int y), (5, .int k), (4, .int 0), (3, .ref 189), (2, .ref 165), (1, .ref 0), (0, .ref xi_scr)], [.ref 165])) rfl ?_
  refine xe_callq pg_177 102 [.ref 165] (.inl (some (.int (I2 165 0)))) (705, [(6, .int y), (5, .int k), (4, .int 0), (3, .ref 189), (2, .ref 165), (1, .ref 0), (0, .ref xi_scr)], [.int (I2 165 0)]) rfl (fun _ => rfl) (xe_sn pg_102 2 (fr' := (4, [(0, .ref 165)], [.int (I2 165 0)])) rfl (xe_end pg_102 rfl)) ?_
  refine xe_sn pg_177 1 (fr' := (707, [(6, .int y), (5, .int k), (4, .int 0), (3, .ref 189), (2, .ref 165), (1, .ref 0), (0, .ref xi_scr)], [.int k, .int (I2 165 0)])) rfl ?_
  rw [show I2 165 0 = k from t1]
  refine xe_t2 pg_177 712 rfl rfl (show k.toInt = k.toInt from rfl) ?_
  refine xe_sn pg_177 1 (fr' := (714, [(6, .int y), (5, .int k), (4, .int 0), (3, .ref 189), (2, .ref 165), (1, .ref 0), (0, .ref xi_scr)], [.int k])) rfl ?_
  by_cases hk : k = 0
  · subst hk
    refine xe_f1 pg_177 729 rfl rfl (show ¬ ¬ (0 : Int32).toInt = 0 by decide) ?_
    refine xe_sn pg_177 6 (fr' := (724, [(6, .int y), (5, .int 0), (4, .int 0), (3, .ref 189), (2, .ref 165), (1, .ref 0), (0, .ref xi_scr)], [.int (lg_cmp (J2 189 0) y.toInt64)])) rfl ?_
    rw [show J2 189 0 = y.toInt64 from t2 rfl, lg_self]
    refine xe_sn pg_177 1 (fr' := (729, [(6, .int y), (5, .int 0), (4, .int 0), (3, .ref 189), (2, .ref 165), (1, .ref 0), (0, .ref xi_scr)], [])) rfl ?_
    refine xe_sn pg_177 1 (fr' := (1331, [(6, .int y), (5, .int 0), (4, .int 0), (3, .ref 189), (2, .ref 165), (1, .ref 0), (0, .ref xi_scr)], [])) rfl ?_
    refine xe_sn pg_177 1 (fr' := (1334, [(4, .int 5), (6, .int y), (5, .int 0), (3, .ref 189), (2, .ref 165), (1, .ref 0), (0, .ref xi_scr)], [])) rfl ?_
    refine xe_sn pg_177 1 (fr' := (23, [(4, .int 5), (6, .int y), (5, .int 0), (3, .ref 189), (2, .ref 165), (1, .ref 0), (0, .ref xi_scr)], [])) rfl ?_
    refine xe_sn pg_177 3 (fr' := (27, [(4, .int 5), (6, .int y), (5, .int 0), (3, .ref 189), (2, .ref 165), (1, .ref 0), (0, .ref xi_scr)], [.int 5, .int 5])) rfl ?_
    refine xe_sn pg_177 2 (fr' := (29, [(4, .int 5), (6, .int y), (5, .int 0), (3, .ref 189), (2, .ref 165), (1, .ref 0), (0, .ref xi_scr)], [.int 0, .int 5])) rfl ?_
    refine xe_sn pg_177 1 (fr' := (1337, [(4, .int 5), (6, .int y), (5, .int 0), (3, .ref 189), (2, .ref 165), (1, .ref 0), (0, .ref xi_scr)], [])) rfl ?_
    refine xe_sn pg_177 1 (fr' := (1338, [(4, .int 5), (6, .int y), (5, .int 0), (3, .ref 189), (2, .ref 165), (1, .ref 0), (0, .ref xi_scr)], [.int 1])) rfl ?_
    exact xe_end pg_177 rfl
  · refine xe_t1 pg_177 729 rfl rfl (show ¬ k.toInt = 0 from fun q => hk (Int32.toInt_inj.mp q)) ?_
    refine xe_sn pg_177 1 (fr' := (1331, [(6, .int y), (5, .int k), (4, .int 0), (3, .ref 189), (2, .ref 165), (1, .ref 0), (0, .ref xi_scr)], [])) rfl ?_
    refine xe_sn pg_177 1 (fr' := (1334, [(4, .int 5), (6, .int y), (5, .int k), (3, .ref 189), (2, .ref 165), (1, .ref 0), (0, .ref xi_scr)], [])) rfl ?_
    refine xe_sn pg_177 1 (fr' := (23, [(4, .int 5), (6, .int y), (5, .int k), (3, .ref 189), (2, .ref 165), (1, .ref 0), (0, .ref xi_scr)], [])) rfl ?_
    refine xe_sn pg_177 3 (fr' := (27, [(4, .int 5), (6, .int y), (5, .int k), (3, .ref 189), (2, .ref 165), (1, .ref 0), (0, .ref xi_scr)], [.int 5, .int 5])) rfl ?_
    refine xe_sn pg_177 2 (fr' := (29, [(4, .int 5), (6, .int y), (5, .int k), (3, .ref 189), (2, .ref 165), (1, .ref 0), (0, .ref xi_scr)], [.int 0, .int 5])) rfl ?_
    refine xe_sn pg_177 1 (fr' := (1337, [(4, .int 5), (6, .int y), (5, .int k), (3, .ref 189), (2, .ref 165), (1, .ref 0), (0, .ref xi_scr)], [])) rfl ?_
    refine xe_sn pg_177 1 (fr' := (1338, [(4, .int 5), (6, .int y), (5, .int k), (3, .ref 189), (2, .ref 165), (1, .ref 0), (0, .ref xi_scr)], [.int 1])) rfl ?_
    exact xe_end pg_177 rfl
set_option maxRecDepth 100000 in
theorem law_damage (xs : Nat → Int32) (e : xs 0 &&& 31 = nI 9) : law_fin 5 xs := by
  obtain ⟨k, y, h1, h2, c1, g1, c2, g2, b1, b2, t1, t2⟩ := op_damage xs (xs 1) (xs 2) (xs 3)
  obtain ⟨f1, C1, W1, I1, J1, R1, rfl⟩ := gd_form g1
  obtain ⟨f2, C2, W2, I2, J2, R2, rfl⟩ := gd_form g2
  refine ⟨_, ?_, b1, b2⟩
  refine xe_sn pg_177 3 (fr' := (27, [(4, .int 0), (3, .ref 189), (2, .ref 165), (1, .ref 0), (0, .ref xi_scr)], [.int 5, .int 0])) rfl ?_; refine xe_sn pg_177 2 (fr' := (29, [(4, .int 0), (3, .ref 189), (2, .ref 165), (1, .ref 0), (0, .ref xi_scr)], [.int 0, .int 0])) rfl ?_
  refine xe_sn pg_177 6 (fr' := (39, [(4, .int 0), (3, .ref 189), (2, .ref 165), (1, .ref 0), (0, .ref xi_scr)], [.int (xs 0 &&& 31)])) rfl ?_
  rw [e]
  refine xe_sn pg_177 1 (fr' := (732, [(4, .int 0), (3, .ref 189), (2, .ref 165), (1, .ref 0), (0, .ref xi_scr)], [])) rfl ?_
  refine xe_sn pg_177 17 (fr' := (752, [(4, .int 0), (3, .ref 189), (2, .ref 165), (1, .ref 0), (0, .ref xi_scr)], [.ref 189, .int (xs 3), .int (xs 2), .int (xs 1), .ref 0])) rfl ?_
  refine xe_callq pg_177 169 [.ref 0, .int (xs 1), .int (xs 2), .int (xs 3), .ref 189] (.inl (some (.int k))) (755, [(4, .int 0), (3, .ref 189), (2, .ref 165), (1, .ref 0), (0, .ref xi_scr)], [.int k]) rfl (fun _ => rfl) c1 ?_
  refine xe_sn pg_177 17 (fr' := (776, [(5, .int k), (4, .int 0), (3, .ref 189), (2, .ref 165), (1, .ref 0), (0, .ref xi_scr)], [.int (xs 3), .int (xs 2), .int (xs 1), .ref 165])) rfl ?_
  refine xe_callq pg_177 149 [.ref 165, .int (xs 1), .int (xs 2), .int (xs 3)] (.inl (some (.int y))) (779, [(5, .int k), (4, .int 0), (3, .ref 189), (2, .ref 165), (1, .ref 0), (0, .ref xi_scr)], [.int y]) rfl (fun _ => rfl) c2 ?_
  refine xe_sn pg_177 2 (fr' := (782, [(6, .int y), (5, .int k), (4, .int 0), (3, .ref 189), (2, .ref 165), (1, .ref 0), (0, .ref xi_scr)], [.ref 165])) rfl ?_
  refine xe_callq pg_177 102 [.ref 165] (.inl (some (.int (I2 165 0)))) (785, [(6, .int y), (5, .int k), (4, .int 0), (3, .ref 189), (2, .ref 165), (1, .ref 0), (0, .ref xi_scr)], [.int (I2 165 0)]) rfl (fun _ => rfl) (xe_sn pg_102 2 (fr' := (4, [(0, .ref 165)], [.int (I2 165 0)])) rfl (xe_end pg_102 rfl)) ?_
  refine xe_sn pg_177 1 (fr' := (787, [(6, .int y), (5, .int k), (4, .int 0), (3, .ref 189), (2, .ref 165), (1, .ref 0), (0, .ref xi_scr)], [.int k, .int (I2 165 0)])) rfl ?_
  rw [show I2 165 0 = k from t1]
  refine xe_t2 pg_177 792 rfl rfl (show k.toInt = k.toInt from rfl) ?_
  refine xe_sn pg_177 1 (fr' := (794, [(6, .int y), (5, .int k), (4, .int 0), (3, .ref 189), (2, .ref 165), (1, .ref 0), (0, .ref xi_scr)], [.int k])) rfl ?_
  by_cases hk : k = 0
  · subst hk
    refine xe_f1 pg_177 809 rfl rfl (show ¬ ¬ (0 : Int32).toInt = 0 by decide) ?_
    refine xe_sn pg_177 6 (fr' := (804, [(6, .int y), (5, .int 0), (4, .int 0), (3, .ref 189), (2, .ref 165), (1, .ref 0), (0, .ref xi_scr)], [.int (lg_cmp (J2 189 0) y.toInt64)])) rfl ?_
    rw [show J2 189 0 = y.toInt64 from t2 rfl, lg_self]
    refine xe_sn pg_177 1 (fr' := (809, [(6, .int y), (5, .int 0), (4, .int 0), (3, .ref 189), (2, .ref 165), (1, .ref 0), (0, .ref xi_scr)], [])) rfl ?_
    refine xe_sn pg_177 1 (fr' := (1331, [(6, .int y), (5, .int 0), (4, .int 0), (3, .ref 189), (2, .ref 165), (1, .ref 0), (0, .ref xi_scr)], [])) rfl ?_
    refine xe_sn pg_177 1 (fr' := (1334, [(4, .int 5), (6, .int y), (5, .int 0), (3, .ref 189), (2, .ref 165), (1, .ref 0), (0, .ref xi_scr)], [])) rfl ?_
    refine xe_sn pg_177 1 (fr' := (23, [(4, .int 5), (6, .int y), (5, .int 0), (3, .ref 189), (2, .ref 165), (1, .ref 0), (0, .ref xi_scr)], [])) rfl ?_
    refine xe_sn pg_177 3 (fr' := (27, [(4, .int 5), (6, .int y), (5, .int 0), (3, .ref 189), (2, .ref 165), (1, .ref 0), (0, .ref xi_scr)], [.int 5, .int 5])) rfl ?_
    refine xe_sn pg_177 2 (fr' := (29, [(4, .int 5), (6, .int y), (5, .int 0), (3, .ref 189), (2, .ref 165), (1, .ref 0), (0, .ref xi_scr)], [.int 0, .int 5])) rfl ?_
    refine xe_sn pg_177 1 (fr' := (1337, [(4, .int 5), (6, .int y), (5, .int 0), (3, .ref 189), (2, .ref 165), (1, .ref 0), (0, .ref xi_scr)], [])) rfl ?_
    refine xe_sn pg_177 1 (fr' := (1338, [(4, .int 5), (6, .int y), (5, .int 0), (3, .ref 189), (2, .ref 165), (1, .ref 0), (0, .ref xi_scr)], [.int 1])) rfl ?_
    exact xe_end pg_177 rfl
  · refine xe_t1 pg_177 809 rfl rfl (show ¬ k.toInt = 0 from fun q => hk (Int32.toInt_inj.mp q)) ?_
    refine xe_sn pg_177 1 (fr' := (1331, [(6, .int y), (5, .int k), (4, .int 0), (3, .ref 189), (2, .ref 165), (1, .ref 0), (0, .ref xi_scr)], [])) rfl ?_
    refine xe_sn pg_177 1 (fr' := (1334, [(4, .int 5), (6, .int y), (5, .int k), (3, .ref 189), (2, .ref 165), (1, .ref 0), (0, .ref xi_scr)], [])) rfl ?_
    refine xe_sn pg_177 1 (fr' := (23, [(4, .int 5), (6, .int y), (5, .int k), (3, .ref 189), (2, .ref 165), (1, .ref 0), (0, .ref xi_scr)], [])) rfl ?_
    refine xe_sn pg_177 3 (fr' := (27, [(4, .int 5), (6, .int y), (5, .int k), (3, .ref 189), (2, .ref 165), (1, .ref 0), (0, .ref xi_scr)], [.int 5, .int 5])) rfl ?_
    refine xe_sn pg_177 2 (fr' := (29, [(4, .int 5), (6, .int y), (5, .int k), (3, .ref 189), (2, .ref 165), (1, .ref 0), (0, .ref xi_scr)], [.int 0, .int 5])) rfl ?_
    refine xe_sn pg_177 1 (fr' := (1337, [(4, .int 5), (6, .int y), (5, .int k), (3, .ref 189), (2, .ref 165), (1, .ref 0), (0, .ref xi_scr)], [])) rfl ?_
    refine xe_sn pg_177 1 (fr' := (1338, [(4, .int 5), (6, .int y), (5, .int k), (3, .ref 189), (2, .ref 165), (1, .ref 0), (0, .ref xi_scr)], [.int 1])) rfl ?_
    exact xe_end pg_177 rfl
set_option maxRecDepth 100000 in
theorem law_lose (xs : Nat → Int32) (e : xs 0 &&& 31 = nI 10) : law_fin 5 xs := by
  obtain ⟨k, y, h1, h2, c1, g1, c2, g2, b1, b2, t1, t2⟩ := op_lose xs (xs 1)
  obtain ⟨f1, C1, W1, I1, J1, R1, rfl⟩ := gd_form g1
  obtain ⟨f2, C2, W2, I2, J2, R2, rfl⟩ := gd_form g2
  refine ⟨_, ?_, b1, b2⟩
  refine xe_sn pg_177 3 (fr' := (27, [(4, .int 0), (3, .ref 189), (2, .ref 165), (1, .ref 0), (0, .ref xi_scr)], [.int 5, .int 0])) rfl ?_; refine xe_sn pg_177 2 (fr' := (29, [(4, .int 0), (3, .ref 189), (2, .ref 165), (1, .ref 0), (0, .ref xi_scr)], [.int 0, .int 0])) rfl ?_
  refine xe_sn pg_177 6 (fr' := (39, [(4, .int 0), (3, .ref 189), (2, .ref 165), (1, .ref 0), (0, .ref xi_scr)], [.int (xs 0 &&& 31)])) rfl ?_
  rw [e]
  refine xe_sn pg_177 1 (fr' := (812, [(4, .int 0), (3, .ref 189), (2, .ref 165), (1, .ref 0), (0, .ref xi_scr)], [])) rfl ?_
  refine xe_sn pg_177 7 (fr' := (820, [(4, .int 0), (3, .ref 189), (2, .ref 165), (1, .ref 0), (0, .ref xi_scr)], [.ref 189, .int (xs 1), .ref 0])) rfl ?_
  refine xe_callq pg_177 170 [.ref 0, .int (xs 1), .ref 189] (.inl (some (.int k))) (823, [(4, .int 0), (3, .ref 189), (2, .ref 165), (1, .ref 0), (0, .ref xi_scr)], [.int k]) rfl (fun _ => rfl) c1 ?_
  refine xe_sn pg_177 7 (fr' := (832, [(5, .int k), (4, .int 0), (3, .ref 189), (2, .ref 165), (1, .ref 0), (0, .ref xi_scr)], [.int (xs 1), .ref 165])) rfl ?_
  refine xe_callq pg_177 150 [.ref 165, .int (xs 1)] (.inl (some (.int y))) (835, [(5, .int k), (4, .int 0), (3, .ref 189), (2, .ref 165), (1, .ref 0), (0, .ref xi_scr)], [.int y]) rfl (fun _ => rfl) c2 ?_
  refine xe_sn pg_177 2 (fr' := (838, [(6, .int y), (5, .int k), (4, .int 0), (3, .ref 189), (2, .ref 165), (1, .ref 0), (0, .ref xi_scr)], [.ref 165])) rfl ?_
  refine xe_callq pg_177 102 [.ref 165] (.inl (some (.int (I2 165 0)))) (841, [(6, .int y), (5, .int k), (4, .int 0), (3, .ref 189), (2, .ref 165), (1, .ref 0), (0, .ref xi_scr)], [.int (I2 165 0)]) rfl (fun _ => rfl) (xe_sn pg_102 2 (fr' := (4, [(0, .ref 165)], [.int (I2 165 0)])) rfl (xe_end pg_102 rfl)) ?_
  refine xe_sn pg_177 1 (fr' := (843, [(6, .int y), (5, .int k), (4, .int 0), (3, .ref 189), (2, .ref 165), (1, .ref 0), (0, .ref xi_scr)], [.int k, .int (I2 165 0)])) rfl ?_
  rw [show I2 165 0 = k from t1]
  refine xe_t2 pg_177 848 rfl rfl (show k.toInt = k.toInt from rfl) ?_
  refine xe_sn pg_177 1 (fr' := (850, [(6, .int y), (5, .int k), (4, .int 0), (3, .ref 189), (2, .ref 165), (1, .ref 0), (0, .ref xi_scr)], [.int k])) rfl ?_
  by_cases hk : k = 0
  · subst hk
    refine xe_f1 pg_177 865 rfl rfl (show ¬ ¬ (0 : Int32).toInt = 0 by decide) ?_
    refine xe_sn pg_177 6 (fr' := (860, [(6, .int y), (5, .int 0), (4, .int 0), (3, .ref 189), (2, .ref 165), (1, .ref 0), (0, .ref xi_scr)], [.int (lg_cmp (J2 189 0) y.toInt64)])) rfl ?_
    rw [show J2 189 0 = y.toInt64 from t2 rfl, lg_self]
    refine xe_sn pg_177 1 (fr' := (865, [(6, .int y), (5, .int 0), (4, .int 0), (3, .ref 189), (2, .ref 165), (1, .ref 0), (0, .ref xi_scr)], [])) rfl ?_
    refine xe_sn pg_177 1 (fr' := (1331, [(6, .int y), (5, .int 0), (4, .int 0), (3, .ref 189), (2, .ref 165), (1, .ref 0), (0, .ref xi_scr)], [])) rfl ?_
    refine xe_sn pg_177 1 (fr' := (1334, [(4, .int 5), (6, .int y), (5, .int 0), (3, .ref 189), (2, .ref 165), (1, .ref 0), (0, .ref xi_scr)], [])) rfl ?_
    refine xe_sn pg_177 1 (fr' := (23, [(4, .int 5), (6, .int y), (5, .int 0), (3, .ref 189), (2, .ref 165), (1, .ref 0), (0, .ref xi_scr)], [])) rfl ?_
    refine xe_sn pg_177 3 (fr' := (27, [(4, .int 5), (6, .int y), (5, .int 0), (3, .ref 189), (2, .ref 165), (1, .ref 0), (0, .ref xi_scr)], [.int 5, .int 5])) rfl ?_
    refine xe_sn pg_177 2 (fr' := (29, [(4, .int 5), (6, .int y), (5, .int 0), (3, .ref 189), (2, .ref 165), (1, .ref 0), (0, .ref xi_scr)], [.int 0, .int 5])) rfl ?_
    refine xe_sn pg_177 1 (fr' := (1337, [(4, .int 5), (6, .int y), (5, .int 0), (3, .ref 189), (2, .ref 165), (1, .ref 0), (0, .ref xi_scr)], [])) rfl ?_
    refine xe_sn pg_177 1 (fr' := (1338, [(4, .int 5), (6, .int y), (5, .int 0), (3, .ref 189), (2, .ref 165), (1, .ref 0), (0, .ref xi_scr)], [.int 1])) rfl ?_
    exact xe_end pg_177 rfl
  · refine xe_t1 pg_177 865 rfl rfl (show ¬ k.toInt = 0 from fun q => hk (Int32.toInt_inj.mp q)) ?_
    refine xe_sn pg_177 1 (fr' := (1331, [(6, .int y), (5, .int k), (4, .int 0), (3, .ref 189), (2, .ref 165), (1, .ref 0), (0, .ref xi_scr)], [])) rfl ?_
    refine xe_sn pg_177 1 (fr' := (1334, [(4, .int 5), (6, .int y), (5, .int k), (3, .ref 189), (2, .ref 165), (1, .ref 0), (0, .ref xi_scr)], [])) rfl ?_
    refine xe_sn pg_177 1 (fr' := (23, [(4, .int 5), (6, .int y), (5, .int k), (3, .ref 189), (2, .ref 165), (1, .ref 0), (0, .ref xi_scr)], [])) rfl ?_
    refine xe_sn pg_177 3 (fr' := (27, [(4, .int 5), (6, .int y), (5, .int k), (3, .ref 189), (2, .ref 165), (1, .ref 0), (0, .ref xi_scr)], [.int 5, .int 5])) rfl ?_
    refine xe_sn pg_177 2 (fr' := (29, [(4, .int 5), (6, .int y), (5, .int k), (3, .ref 189), (2, .ref 165), (1, .ref 0), (0, .ref xi_scr)], [.int 0, .int 5])) rfl ?_
    refine xe_sn pg_177 1 (fr' := (1337, [(4, .int 5), (6, .int y), (5, .int k), (3, .ref 189), (2, .ref 165), (1, .ref 0), (0, .ref xi_scr)], [])) rfl ?_
    refine xe_sn pg_177 1 (fr' := (1338, [(4, .int 5), (6, .int y), (5, .int k), (3, .ref 189), (2, .ref 165), (1, .ref 0), (0, .ref xi_scr)], [.int 1])) rfl ?_
    exact xe_end pg_177 rfl
set_option maxRecDepth 100000 in
theorem law_cell (xs : Nat → Int32) (e : xs 0 &&& 31 = nI 11) : law_fin 5 xs := by
  obtain ⟨k, y, h1, h2, c1, g1, c2, g2, b1, b2, t1, t2⟩ := op_cell xs (xs 1) (xs 2)
  obtain ⟨f1, C1, W1, I1, J1, R1, rfl⟩ := gd_form g1
  obtain ⟨f2, C2, W2, I2, J2, R2, rfl⟩ := gd_form g2
  refine ⟨_, ?_, b1, b2⟩
  refine xe_sn pg_177 3 (fr' := (27, [(4, .int 0), (3, .ref 189), (2, .ref 165), (1, .ref 0), (0, .ref xi_scr)], [.int 5, .int 0])) rfl ?_; refine xe_sn pg_177 2 (fr' := (29, [(4, .int 0), (3, .ref 189), (2, .ref 165), (1, .ref 0), (0, .ref xi_scr)], [.int 0, .int 0])) rfl ?_
  refine xe_sn pg_177 6 (fr' := (39, [(4, .int 0), (3, .ref 189), (2, .ref 165), (1, .ref 0), (0, .ref xi_scr)], [.int (xs 0 &&& 31)])) rfl ?_
  rw [e]
  refine xe_sn pg_177 1 (fr' := (868, [(4, .int 0), (3, .ref 189), (2, .ref 165), (1, .ref 0), (0, .ref xi_scr)], [])) rfl ?_
  refine xe_sn pg_177 12 (fr' := (882, [(4, .int 0), (3, .ref 189), (2, .ref 165), (1, .ref 0), (0, .ref xi_scr)], [.ref 189, .int (xs 2), .int (xs 1), .ref 0])) rfl ?_
  refine xe_callq pg_177 171 [.ref 0, .int (xs 1), .int (xs 2), .ref 189] (.inl (some (.int k))) (885, [(4, .int 0), (3, .ref 189), (2, .ref 165), (1, .ref 0), (0, .ref xi_scr)], [.int k]) rfl (fun _ => rfl) c1 ?_
  refine xe_sn pg_177 12 (fr' := (900, [(5, .int k), (4, .int 0), (3, .ref 189), (2, .ref 165), (1, .ref 0), (0, .ref xi_scr)], [.int (xs 2), .int (xs 1), .ref 165])) rfl ?_
  refine xe_callq pg_177 152 [.ref 165, .int (xs 1), .int (xs 2)] (.inl (some (.int y))) (903, [(5, .int k), (4, .int 0), (3, .ref 189), (2, .ref 165), (1, .ref 0), (0, .ref xi_scr)], [.int y]) rfl (fun _ => rfl) c2 ?_
  refine xe_sn pg_177 2 (fr' := (906, [(6, .int y), (5, .int k), (4, .int 0), (3, .ref 189), (2, .ref 165), (1, .ref 0), (0, .ref xi_scr)], [.ref 165])) rfl ?_
  refine xe_callq pg_177 102 [.ref 165] (.inl (some (.int (I2 165 0)))) (909, [(6, .int y), (5, .int k), (4, .int 0), (3, .ref 189), (2, .ref 165), (1, .ref 0), (0, .ref xi_scr)], [.int (I2 165 0)]) rfl (fun _ => rfl) (xe_sn pg_102 2 (fr' := (4, [(0, .ref 165)], [.int (I2 165 0)])) rfl (xe_end pg_102 rfl)) ?_
  refine xe_sn pg_177 1 (fr' := (911, [(6, .int y), (5, .int k), (4, .int 0), (3, .ref 189), (2, .ref 165), (1, .ref 0), (0, .ref xi_scr)], [.int k, .int (I2 165 0)])) rfl ?_
  rw [show I2 165 0 = k from t1]
  refine xe_t2 pg_177 916 rfl rfl (show k.toInt = k.toInt from rfl) ?_
  refine xe_sn pg_177 1 (fr' := (918, [(6, .int y), (5, .int k), (4, .int 0), (3, .ref 189), (2, .ref 165), (1, .ref 0), (0, .ref xi_scr)], [.int k])) rfl ?_
  by_cases hk : k = 0
  · subst hk
    refine xe_f1 pg_177 933 rfl rfl (show ¬ ¬ (0 : Int32).toInt = 0 by decide) ?_
    refine xe_sn pg_177 6 (fr' := (928, [(6, .int y), (5, .int 0), (4, .int 0), (3, .ref 189), (2, .ref 165), (1, .ref 0), (0, .ref xi_scr)], [.int (lg_cmp (J2 189 0) y.toInt64)])) rfl ?_
    rw [show J2 189 0 = y.toInt64 from t2 rfl, lg_self]
    refine xe_sn pg_177 1 (fr' := (933, [(6, .int y), (5, .int 0), (4, .int 0), (3, .ref 189), (2, .ref 165), (1, .ref 0), (0, .ref xi_scr)], [])) rfl ?_
    refine xe_sn pg_177 1 (fr' := (1331, [(6, .int y), (5, .int 0), (4, .int 0), (3, .ref 189), (2, .ref 165), (1, .ref 0), (0, .ref xi_scr)], [])) rfl ?_
    refine xe_sn pg_177 1 (fr' := (1334, [(4, .int 5), (6, .int y), (5, .int 0), (3, .ref 189), (2, .ref 165), (1, .ref 0), (0, .ref xi_scr)], [])) rfl ?_
    refine xe_sn pg_177 1 (fr' := (23, [(4, .int 5), (6, .int y), (5, .int 0), (3, .ref 189), (2, .ref 165), (1, .ref 0), (0, .ref xi_scr)], [])) rfl ?_
    refine xe_sn pg_177 3 (fr' := (27, [(4, .int 5), (6, .int y), (5, .int 0), (3, .ref 189), (2, .ref 165), (1, .ref 0), (0, .ref xi_scr)], [.int 5, .int 5])) rfl ?_
    refine xe_sn pg_177 2 (fr' := (29, [(4, .int 5), (6, .int y), (5, .int 0), (3, .ref 189), (2, .ref 165), (1, .ref 0), (0, .ref xi_scr)], [.int 0, .int 5])) rfl ?_
    refine xe_sn pg_177 1 (fr' := (1337, [(4, .int 5), (6, .int y), (5, .int 0), (3, .ref 189), (2, .ref 165), (1, .ref 0), (0, .ref xi_scr)], [])) rfl ?_
    refine xe_sn pg_177 1 (fr' := (1338, [(4, .int 5), (6, .int y), (5, .int 0), (3, .ref 189), (2, .ref 165), (1, .ref 0), (0, .ref xi_scr)], [.int 1])) rfl ?_
    exact xe_end pg_177 rfl
  · refine xe_t1 pg_177 933 rfl rfl (show ¬ k.toInt = 0 from fun q => hk (Int32.toInt_inj.mp q)) ?_
    refine xe_sn pg_177 1 (fr' := (1331, [(6, .int y), (5, .int k), (4, .int 0), (3, .ref 189), (2, .ref 165), (1, .ref 0), (0, .ref xi_scr)], [])) rfl ?_
    refine xe_sn pg_177 1 (fr' := (1334, [(4, .int 5), (6, .int y), (5, .int k), (3, .ref 189), (2, .ref 165), (1, .ref 0), (0, .ref xi_scr)], [])) rfl ?_
    refine xe_sn pg_177 1 (fr' := (23, [(4, .int 5), (6, .int y), (5, .int k), (3, .ref 189), (2, .ref 165), (1, .ref 0), (0, .ref xi_scr)], [])) rfl ?_
    refine xe_sn pg_177 3 (fr' := (27, [(4, .int 5), (6, .int y), (5, .int k), (3, .ref 189), (2, .ref 165), (1, .ref 0), (0, .ref xi_scr)], [.int 5, .int 5])) rfl ?_
    refine xe_sn pg_177 2 (fr' := (29, [(4, .int 5), (6, .int y), (5, .int k), (3, .ref 189), (2, .ref 165), (1, .ref 0), (0, .ref xi_scr)], [.int 0, .int 5])) rfl ?_
    refine xe_sn pg_177 1 (fr' := (1337, [(4, .int 5), (6, .int y), (5, .int k), (3, .ref 189), (2, .ref 165), (1, .ref 0), (0, .ref xi_scr)], [])) rfl ?_
    refine xe_sn pg_177 1 (fr' := (1338, [(4, .int 5), (6, .int y), (5, .int k), (3, .ref 189), (2, .ref 165), (1, .ref 0), (0, .ref xi_scr)], [.int 1])) rfl ?_
    exact xe_end pg_177 rfl
set_option maxRecDepth 100000 in
theorem law_circuit (xs : Nat → Int32) (e : xs 0 &&& 31 = nI 12) : law_fin 5 xs := by
  obtain ⟨k, y, h1, h2, c1, g1, c2, g2, b1, b2, t1, t2⟩ := op_circuit xs (xs 1) (xs 2)
  obtain ⟨f1, C1, W1, I1, J1, R1, rfl⟩ := gd_form g1
  obtain ⟨f2, C2, W2, I2, J2, R2, rfl⟩ := gd_form g2
  refine ⟨_, ?_, b1, b2⟩
  refine xe_sn pg_177 3 (fr' := (27, [(4, .int 0), (3, .ref 189), (2, .ref 165), (1, .ref 0), (0, .ref xi_scr)], [.int 5, .int 0])) rfl ?_; refine xe_sn pg_177 2 (fr' := (29, [(4, .int 0), (3, .ref 189), (2, .ref 165), (1, .ref 0), (0, .ref xi_scr)], [.int 0, .int 0])) rfl ?_
  refine xe_sn pg_177 6 (fr' := (39, [(4, .int 0), (3, .ref 189), (2, .ref 165), (1, .ref 0), (0, .ref xi_scr)], [.int (xs 0 &&& 31)])) rfl ?_
  rw [e]
  refine xe_sn pg_177 1 (fr' := (936, [(4, .int 0), (3, .ref 189), (2, .ref 165), (1, .ref 0), (0, .ref xi_scr)], [])) rfl ?_
  refine xe_sn pg_177 12 (fr' := (950, [(4, .int 0), (3, .ref 189), (2, .ref 165), (1, .ref 0), (0, .ref xi_scr)], [.ref 189, .int (xs 2), .int (xs 1), .ref 0])) rfl ?_
  refine xe_callq pg_177 172 [.ref 0, .int (xs 1), .int (xs 2), .ref 189] (.inl (some (.int k))) (953, [(4, .int 0), (3, .ref 189), (2, .ref 165), (1, .ref 0), (0, .ref xi_scr)], [.int k]) rfl (fun _ => rfl) c1 ?_
  refine xe_sn pg_177 12 (fr' := (968, [(5, .int k), (4, .int 0), (3, .ref 189), (2, .ref 165), (1, .ref 0), (0, .ref xi_scr)], [.int (xs 2), .int (xs 1), .ref 165])) rfl ?_
  refine xe_callq pg_177 153 [.ref 165, .int (xs 1), .int (xs 2)] (.inl (some (.int y))) (971, [(5, .int k), (4, .int 0), (3, .ref 189), (2, .ref 165), (1, .ref 0), (0, .ref xi_scr)], [.int y]) rfl (fun _ => rfl) c2 ?_
  refine xe_sn pg_177 2 (fr' := (974, [(6, .int y), (5, .int k), (4, .int 0), (3, .ref 189), (2, .ref 165), (1, .ref 0), (0, .ref xi_scr)], [.ref 165])) rfl ?_
  refine xe_callq pg_177 102 [.ref 165] (.inl (some (.int (I2 165 0)))) (977, [(6, .int y), (5, .int k), (4, .int 0), (3, .ref 189), (2, .ref 165), (1, .ref 0), (0, .ref xi_scr)], [.int (I2 165 0)]) rfl (fun _ => rfl) (xe_sn pg_102 2 (fr' := (4, [(0, .ref 165)], [.int (I2 165 0)])) rfl (xe_end pg_102 rfl)) ?_
  refine xe_sn pg_177 1 (fr' := (979, [(6, .int y), (5, .int k), (4, .int 0), (3, .ref 189), (2, .ref 165), (1, .ref 0), (0, .ref xi_scr)], [.int k, .int (I2 165 0)])) rfl ?_
  rw [show I2 165 0 = k from t1]
  refine xe_t2 pg_177 984 rfl rfl (show k.toInt = k.toInt from rfl) ?_
  refine xe_sn pg_177 1 (fr' := (986, [(6, .int y), (5, .int k), (4, .int 0), (3, .ref 189), (2, .ref 165), (1, .ref 0), (0, .ref xi_scr)], [.int k])) rfl ?_
  by_cases hk : k = 0
  · subst hk
    refine xe_f1 pg_177 1001 rfl rfl (show ¬ ¬ (0 : Int32).toInt = 0 by decide) ?_
    refine xe_sn pg_177 6 (fr' := (996, [(6, .int y), (5, .int 0), (4, .int 0), (3, .ref 189), (2, .ref 165), (1, .ref 0), (0, .ref xi_scr)], [.int (lg_cmp (J2 189 0) y.toInt64)])) rfl ?_
    rw [show J2 189 0 = y.toInt64 from t2 rfl, lg_self]
    refine xe_sn pg_177 1 (fr' := (1001, [(6, .int y), (5, .int 0), (4, .int 0), (3, .ref 189), (2, .ref 165), (1, .ref 0), (0, .ref xi_scr)], [])) rfl ?_
    refine xe_sn pg_177 1 (fr' := (1331, [(6, .int y), (5, .int 0), (4, .int 0), (3, .ref 189), (2, .ref 165), (1, .ref 0), (0, .ref xi_scr)], [])) rfl ?_
    refine xe_sn pg_177 1 (fr' := (1334, [(4, .int 5), (6, .int y), (5, .int 0), (3, .ref 189), (2, .ref 165), (1, .ref 0), (0, .ref xi_scr)], [])) rfl ?_
    refine xe_sn pg_177 1 (fr' := (23, [(4, .int 5), (6, .int y), (5, .int 0), (3, .ref 189), (2, .ref 165), (1, .ref 0), (0, .ref xi_scr)], [])) rfl ?_
    refine xe_sn pg_177 3 (fr' := (27, [(4, .int 5), (6, .int y), (5, .int 0), (3, .ref 189), (2, .ref 165), (1, .ref 0), (0, .ref xi_scr)], [.int 5, .int 5])) rfl ?_
    refine xe_sn pg_177 2 (fr' := (29, [(4, .int 5), (6, .int y), (5, .int 0), (3, .ref 189), (2, .ref 165), (1, .ref 0), (0, .ref xi_scr)], [.int 0, .int 5])) rfl ?_
    refine xe_sn pg_177 1 (fr' := (1337, [(4, .int 5), (6, .int y), (5, .int 0), (3, .ref 189), (2, .ref 165), (1, .ref 0), (0, .ref xi_scr)], [])) rfl ?_
    refine xe_sn pg_177 1 (fr' := (1338, [(4, .int 5), (6, .int y), (5, .int 0), (3, .ref 189), (2, .ref 165), (1, .ref 0), (0, .ref xi_scr)], [.int 1])) rfl ?_
    exact xe_end pg_177 rfl
  · refine xe_t1 pg_177 1001 rfl rfl (show ¬ k.toInt = 0 from fun q => hk (Int32.toInt_inj.mp q)) ?_
    refine xe_sn pg_177 1 (fr' := (1331, [(6, .int y), (5, .int k), (4, .int 0), (3, .ref 189), (2, .ref 165), (1, .ref 0), (0, .ref xi_scr)], [])) rfl ?_
    refine xe_sn pg_177 1 (fr' := (1334, [(4, .int 5), (6, .int y), (5, .int k), (3, .ref 189), (2, .ref 165), (1, .ref 0), (0, .ref xi_scr)], [])) rfl ?_
    refine xe_sn pg_177 1 (fr' := (23, [(4, .int 5), (6, .int y), (5, .int k), (3, .ref 189), (2, .ref 165), (1, .ref 0), (0, .ref xi_scr)], [])) rfl ?_
    refine xe_sn pg_177 3 (fr' := (27, [(4, .int 5), (6, .int y), (5, .int k), (3, .ref 189), (2, .ref 165), (1, .ref 0), (0, .ref xi_scr)], [.int 5, .int 5])) rfl ?_
    refine xe_sn pg_177 2 (fr' := (29, [(4, .int 5), (6, .int y), (5, .int k), (3, .ref 189), (2, .ref 165), (1, .ref 0), (0, .ref xi_scr)], [.int 0, .int 5])) rfl ?_
    refine xe_sn pg_177 1 (fr' := (1337, [(4, .int 5), (6, .int y), (5, .int k), (3, .ref 189), (2, .ref 165), (1, .ref 0), (0, .ref xi_scr)], [])) rfl ?_
    refine xe_sn pg_177 1 (fr' := (1338, [(4, .int 5), (6, .int y), (5, .int k), (3, .ref 189), (2, .ref 165), (1, .ref 0), (0, .ref xi_scr)], [.int 1])) rfl ?_
    exact xe_end pg_177 rfl
set_option maxRecDepth 100000 in
theorem law_key (xs : Nat → Int32) (e : xs 0 &&& 31 = nI 13) : law_fin 5 xs := by
  obtain ⟨k, y, h1, h2, c1, g1, c2, g2, b1, b2, t1, t2⟩ := op_key xs (xs 1) (xs 2) (xs 3)
  obtain ⟨f1, C1, W1, I1, J1, R1, rfl⟩ := gd_form g1
  obtain ⟨f2, C2, W2, I2, J2, R2, rfl⟩ := gd_form g2
  refine ⟨_, ?_, b1, b2⟩
  refine xe_sn pg_177 3 (fr' := (27, [(4, .int 0), (3, .ref 189), (2, .ref 165), (1, .ref 0), (0, .ref xi_scr)], [.int 5, .int 0])) rfl ?_; refine xe_sn pg_177 2 (fr' := (29, [(4, .int 0), (3, .ref 189), (2, .ref 165), (1, .ref 0), (0, .ref xi_scr)], [.int 0, .int 0])) rfl ?_
  refine xe_sn pg_177 6 (fr' := (39, [(4, .int 0), (3, .ref 189), (2, .ref 165), (1, .ref 0), (0, .ref xi_scr)], [.int (xs 0 &&& 31)])) rfl ?_
  rw [e]
  refine xe_sn pg_177 1 (fr' := (1004, [(4, .int 0), (3, .ref 189), (2, .ref 165), (1, .ref 0), (0, .ref xi_scr)], [])) rfl ?_
  refine xe_sn pg_177 17 (fr' := (1024, [(4, .int 0), (3, .ref 189), (2, .ref 165), (1, .ref 0), (0, .ref xi_scr)], [.ref 189, .int (xs 3), .int (xs 2), .int (xs 1), .ref 0])) rfl ?_
  refine xe_callq pg_177 173 [.ref 0, .int (xs 1), .int (xs 2), .int (xs 3), .ref 189] (.inl (some (.int k))) (1027, [(4, .int 0), (3, .ref 189), (2, .ref 165), (1, .ref 0), (0, .ref xi_scr)], [.int k]) rfl (fun _ => rfl) c1 ?_
  refine xe_sn pg_177 17 (fr' := (1048, [(5, .int k), (4, .int 0), (3, .ref 189), (2, .ref 165), (1, .ref 0), (0, .ref xi_scr)], [.int (xs 3), .int (xs 2), .int (xs 1), .ref 165])) rfl ?_
  refine xe_callq pg_177 154 [.ref 165, .int (xs 1), .int (xs 2), .int (xs 3)] (.inl (some (.int y))) (1051, [(5, .int k), (4, .int 0), (3, .ref 189), (2, .ref 165), (1, .ref 0), (0, .ref xi_scr)], [.int y]) rfl (fun _ => rfl) c2 ?_
  refine xe_sn pg_177 2 (fr' := (1054, [(6, .int y), (5, .int k), (4, .int 0), (3, .ref 189), (2, .ref 165), (1, .ref 0), (0, .ref xi_scr)], [.ref 165])) rfl ?_
  refine xe_callq pg_177 102 [.ref 165] (.inl (some (.int (I2 165 0)))) (1057, [(6, .int y), (5, .int k), (4, .int 0), (3, .ref 189), (2, .ref 165), (1, .ref 0), (0, .ref xi_scr)], [.int (I2 165 0)]) rfl (fun _ => rfl) (xe_sn pg_102 2 (fr' := (4, [(0, .ref 165)], [.int (I2 165 0)])) rfl (xe_end pg_102 rfl)) ?_
  refine xe_sn pg_177 1 (fr' := (1059, [(6, .int y), (5, .int k), (4, .int 0), (3, .ref 189), (2, .ref 165), (1, .ref 0), (0, .ref xi_scr)], [.int k, .int (I2 165 0)])) rfl ?_
  rw [show I2 165 0 = k from t1]
  refine xe_t2 pg_177 1064 rfl rfl (show k.toInt = k.toInt from rfl) ?_
  refine xe_sn pg_177 1 (fr' := (1066, [(6, .int y), (5, .int k), (4, .int 0), (3, .ref 189), (2, .ref 165), (1, .ref 0), (0, .ref xi_scr)], [.int k])) rfl ?_
  by_cases hk : k = 0
  · subst hk
    refine xe_f1 pg_177 1081 rfl rfl (show ¬ ¬ (0 : Int32).toInt = 0 by decide) ?_
    refine xe_sn pg_177 6 (fr' := (1076, [(6, .int y), (5, .int 0), (4, .int 0), (3, .ref 189), (2, .ref 165), (1, .ref 0), (0, .ref xi_scr)], [.int (lg_cmp (J2 189 0) y.toInt64)])) rfl ?_
    rw [show J2 189 0 = y.toInt64 from t2 rfl, lg_self]
    refine xe_sn pg_177 1 (fr' := (1081, [(6, .int y), (5, .int 0), (4, .int 0), (3, .ref 189), (2, .ref 165), (1, .ref 0), (0, .ref xi_scr)], [])) rfl ?_
    refine xe_sn pg_177 1 (fr' := (1331, [(6, .int y), (5, .int 0), (4, .int 0), (3, .ref 189), (2, .ref 165), (1, .ref 0), (0, .ref xi_scr)], [])) rfl ?_
    refine xe_sn pg_177 1 (fr' := (1334, [(4, .int 5), (6, .int y), (5, .int 0), (3, .ref 189), (2, .ref 165), (1, .ref 0), (0, .ref xi_scr)], [])) rfl ?_
    refine xe_sn pg_177 1 (fr' := (23, [(4, .int 5), (6, .int y), (5, .int 0), (3, .ref 189), (2, .ref 165), (1, .ref 0), (0, .ref xi_scr)], [])) rfl ?_
    refine xe_sn pg_177 3 (fr' := (27, [(4, .int 5), (6, .int y), (5, .int 0), (3, .ref 189), (2, .ref 165), (1, .ref 0), (0, .ref xi_scr)], [.int 5, .int 5])) rfl ?_
    refine xe_sn pg_177 2 (fr' := (29, [(4, .int 5), (6, .int y), (5, .int 0), (3, .ref 189), (2, .ref 165), (1, .ref 0), (0, .ref xi_scr)], [.int 0, .int 5])) rfl ?_
    refine xe_sn pg_177 1 (fr' := (1337, [(4, .int 5), (6, .int y), (5, .int 0), (3, .ref 189), (2, .ref 165), (1, .ref 0), (0, .ref xi_scr)], [])) rfl ?_
    refine xe_sn pg_177 1 (fr' := (1338, [(4, .int 5), (6, .int y), (5, .int 0), (3, .ref 189), (2, .ref 165), (1, .ref 0), (0, .ref xi_scr)], [.int 1])) rfl ?_
    exact xe_end pg_177 rfl
  · refine xe_t1 pg_177 1081 rfl rfl (show ¬ k.toInt = 0 from fun q => hk (Int32.toInt_inj.mp q)) ?_
    refine xe_sn pg_177 1 (fr' := (1331, [(6, .int y), (5, .int k), (4, .int 0), (3, .ref 189), (2, .ref 165), (1, .ref 0), (0, .ref xi_scr)], [])) rfl ?_
    refine xe_sn pg_177 1 (fr' := (1334, [(4, .int 5), (6, .int y), (5, .int k), (3, .ref 189), (2, .ref 165), (1, .ref 0), (0, .ref xi_scr)], [])) rfl ?_
    refine xe_sn pg_177 1 (fr' := (23, [(4, .int 5), (6, .int y), (5, .int k), (3, .ref 189), (2, .ref 165), (1, .ref 0), (0, .ref xi_scr)], [])) rfl ?_
    refine xe_sn pg_177 3 (fr' := (27, [(4, .int 5), (6, .int y), (5, .int k), (3, .ref 189), (2, .ref 165), (1, .ref 0), (0, .ref xi_scr)], [.int 5, .int 5])) rfl ?_
    refine xe_sn pg_177 2 (fr' := (29, [(4, .int 5), (6, .int y), (5, .int k), (3, .ref 189), (2, .ref 165), (1, .ref 0), (0, .ref xi_scr)], [.int 0, .int 5])) rfl ?_
    refine xe_sn pg_177 1 (fr' := (1337, [(4, .int 5), (6, .int y), (5, .int k), (3, .ref 189), (2, .ref 165), (1, .ref 0), (0, .ref xi_scr)], [])) rfl ?_
    refine xe_sn pg_177 1 (fr' := (1338, [(4, .int 5), (6, .int y), (5, .int k), (3, .ref 189), (2, .ref 165), (1, .ref 0), (0, .ref xi_scr)], [.int 1])) rfl ?_
    exact xe_end pg_177 rfl
set_option maxRecDepth 100000 in
theorem law_relay (xs : Nat → Int32) (e : xs 0 &&& 31 = nI 14) : law_fin 5 xs := by
  obtain ⟨k, y, h1, h2, c1, g1, c2, g2, b1, b2, t1, t2⟩ := op_relay xs (xs 1) (xs 2) (xs 3)
  obtain ⟨f1, C1, W1, I1, J1, R1, rfl⟩ := gd_form g1
  obtain ⟨f2, C2, W2, I2, J2, R2, rfl⟩ := gd_form g2
  refine ⟨_, ?_, b1, b2⟩
  refine xe_sn pg_177 3 (fr' := (27, [(4, .int 0), (3, .ref 189), (2, .ref 165), (1, .ref 0), (0, .ref xi_scr)], [.int 5, .int 0])) rfl ?_; refine xe_sn pg_177 2 (fr' := (29, [(4, .int 0), (3, .ref 189), (2, .ref 165), (1, .ref 0), (0, .ref xi_scr)], [.int 0, .int 0])) rfl ?_
  refine xe_sn pg_177 6 (fr' := (39, [(4, .int 0), (3, .ref 189), (2, .ref 165), (1, .ref 0), (0, .ref xi_scr)], [.int (xs 0 &&& 31)])) rfl ?_
  rw [e]
  refine xe_sn pg_177 1 (fr' := (1084, [(4, .int 0), (3, .ref 189), (2, .ref 165), (1, .ref 0), (0, .ref xi_scr)], [])) rfl ?_
  refine xe_sn pg_177 17 (fr' := (1104, [(4, .int 0), (3, .ref 189), (2, .ref 165), (1, .ref 0), (0, .ref xi_scr)], [.ref 189, .int (xs 3), .int (xs 2), .int (xs 1), .ref 0])) rfl ?_
  refine xe_callq pg_177 174 [.ref 0, .int (xs 1), .int (xs 2), .int (xs 3), .ref 189] (.inl (some (.int k))) (1107, [(4, .int 0), (3, .ref 189), (2, .ref 165), (1, .ref 0), (0, .ref xi_scr)], [.int k]) rfl (fun _ => rfl) c1 ?_
  refine xe_sn pg_177 17 (fr' := (1128, [(5, .int k), (4, .int 0), (3, .ref 189), (2, .ref 165), (1, .ref 0), (0, .ref xi_scr)], [.int (xs 3), .int (xs 2), .int (xs 1), .ref 165])) rfl ?_
  refine xe_callq pg_177 155 [.ref 165, .int (xs 1), .int (xs 2), .int (xs 3)] (.inl (some (.int y))) (1131, [(5, .int k), (4, .int 0), (3, .ref 189), (2, .ref 165), (1, .ref 0), (0, .ref xi_scr)], [.int y]) rfl (fun _ => rfl) c2 ?_
  refine xe_sn pg_177 2 (fr' := (1134, [(6, .int y), (5, .int k), (4, .int 0), (3, .ref 189), (2, .ref 165), (1, .ref 0), (0, .ref xi_scr)], [.ref 165])) rfl ?_
  refine xe_callq pg_177 102 [.ref 165] (.inl (some (.int (I2 165 0)))) (1137, [(6, .int y), (5, .int k), (4, .int 0), (3, .ref 189), (2, .ref 165), (1, .ref 0), (0, .ref xi_scr)], [.int (I2 165 0)]) rfl (fun _ => rfl) (xe_sn pg_102 2 (fr' := (4, [(0, .ref 165)], [.int (I2 165 0)])) rfl (xe_end pg_102 rfl)) ?_
  refine xe_sn pg_177 1 (fr' := (1139, [(6, .int y), (5, .int k), (4, .int 0), (3, .ref 189), (2, .ref 165), (1, .ref 0), (0, .ref xi_scr)], [.int k, .int (I2 165 0)])) rfl ?_
  rw [show I2 165 0 = k from t1]
  refine xe_t2 pg_177 1144 rfl rfl (show k.toInt = k.toInt from rfl) ?_
  refine xe_sn pg_177 1 (fr' := (1146, [(6, .int y), (5, .int k), (4, .int 0), (3, .ref 189), (2, .ref 165), (1, .ref 0), (0, .ref xi_scr)], [.int k])) rfl ?_
  by_cases hk : k = 0
  · subst hk
    refine xe_f1 pg_177 1161 rfl rfl (show ¬ ¬ (0 : Int32).toInt = 0 by decide) ?_
    refine xe_sn pg_177 6 (fr' := (1156, [(6, .int y), (5, .int 0), (4, .int 0), (3, .ref 189), (2, .ref 165), (1, .ref 0), (0, .ref xi_scr)], [.int (lg_cmp (J2 189 0) y.toInt64)])) rfl ?_
    rw [show J2 189 0 = y.toInt64 from t2 rfl, lg_self]
    refine xe_sn pg_177 1 (fr' := (1161, [(6, .int y), (5, .int 0), (4, .int 0), (3, .ref 189), (2, .ref 165), (1, .ref 0), (0, .ref xi_scr)], [])) rfl ?_
    refine xe_sn pg_177 1 (fr' := (1331, [(6, .int y), (5, .int 0), (4, .int 0), (3, .ref 189), (2, .ref 165), (1, .ref 0), (0, .ref xi_scr)], [])) rfl ?_
    refine xe_sn pg_177 1 (fr' := (1334, [(4, .int 5), (6, .int y), (5, .int 0), (3, .ref 189), (2, .ref 165), (1, .ref 0), (0, .ref xi_scr)], [])) rfl ?_
    refine xe_sn pg_177 1 (fr' := (23, [(4, .int 5), (6, .int y), (5, .int 0), (3, .ref 189), (2, .ref 165), (1, .ref 0), (0, .ref xi_scr)], [])) rfl ?_
    refine xe_sn pg_177 3 (fr' := (27, [(4, .int 5), (6, .int y), (5, .int 0), (3, .ref 189), (2, .ref 165), (1, .ref 0), (0, .ref xi_scr)], [.int 5, .int 5])) rfl ?_
    refine xe_sn pg_177 2 (fr' := (29, [(4, .int 5), (6, .int y), (5, .int 0), (3, .ref 189), (2, .ref 165), (1, .ref 0), (0, .ref xi_scr)], [.int 0, .int 5])) rfl ?_
    refine xe_sn pg_177 1 (fr' := (1337, [(4, .int 5), (6, .int y), (5, .int 0), (3, .ref 189), (2, .ref 165), (1, .ref 0), (0, .ref xi_scr)], [])) rfl ?_
    refine xe_sn pg_177 1 (fr' := (1338, [(4, .int 5), (6, .int y), (5, .int 0), (3, .ref 189), (2, .ref 165), (1, .ref 0), (0, .ref xi_scr)], [.int 1])) rfl ?_
    exact xe_end pg_177 rfl
  · refine xe_t1 pg_177 1161 rfl rfl (show ¬ k.toInt = 0 from fun q => hk (Int32.toInt_inj.mp q)) ?_
    refine xe_sn pg_177 1 (fr' := (1331, [(6, .int y), (5, .int k), (4, .int 0), (3, .ref 189), (2, .ref 165), (1, .ref 0), (0, .ref xi_scr)], [])) rfl ?_
    refine xe_sn pg_177 1 (fr' := (1334, [(4, .int 5), (6, .int y), (5, .int k), (3, .ref 189), (2, .ref 165), (1, .ref 0), (0, .ref xi_scr)], [])) rfl ?_
    refine xe_sn pg_177 1 (fr' := (23, [(4, .int 5), (6, .int y), (5, .int k), (3, .ref 189), (2, .ref 165), (1, .ref 0), (0, .ref xi_scr)], [])) rfl ?_
    refine xe_sn pg_177 3 (fr' := (27, [(4, .int 5), (6, .int y), (5, .int k), (3, .ref 189), (2, .ref 165), (1, .ref 0), (0, .ref xi_scr)], [.int 5, .int 5])) rfl ?_
    refine xe_sn pg_177 2 (fr' := (29, [(4, .int 5), (6, .int y), (5, .int k), (3, .ref 189), (2, .ref 165), (1, .ref 0), (0, .ref xi_scr)], [.int 0, .int 5])) rfl ?_
    refine xe_sn pg_177 1 (fr' := (1337, [(4, .int 5), (6, .int y), (5, .int k), (3, .ref 189), (2, .ref 165), (1, .ref 0), (0, .ref xi_scr)], [])) rfl ?_
    refine xe_sn pg_177 1 (fr' := (1338, [(4, .int 5), (6, .int y), (5, .int k), (3, .ref 189), (2, .ref 165), (1, .ref 0), (0, .ref xi_scr)], [.int 1])) rfl ?_
    exact xe_end pg_177 rfl
set_option maxRecDepth 100000 in
theorem law_data (xs : Nat → Int32) (e : xs 0 &&& 31 = nI 15) : law_fin 5 xs := by
  obtain ⟨k, y, h1, h2, c1, g1, c2, g2, b1, b2, t1, t2⟩ := op_data xs (xs 1) (xs 2)
  obtain ⟨f1, C1, W1, I1, J1, R1, rfl⟩ := gd_form g1
  obtain ⟨f2, C2, W2, I2, J2, R2, rfl⟩ := gd_form g2
  refine ⟨_, ?_, b1, b2⟩
  refine xe_sn pg_177 3 (fr' := (27, [(4, .int 0), (3, .ref 189), (2, .ref 165), (1, .ref 0), (0, .ref xi_scr)], [.int 5, .int 0])) rfl ?_; refine xe_sn pg_177 2 (fr' := (29, [(4, .int 0), (3, .ref 189), (2, .ref 165), (1, .ref 0), (0, .ref xi_scr)], [.int 0, .int 0])) rfl ?_
  refine xe_sn pg_177 6 (fr' := (39, [(4, .int 0), (3, .ref 189), (2, .ref 165), (1, .ref 0), (0, .ref xi_scr)], [.int (xs 0 &&& 31)])) rfl ?_
  rw [e]
  refine xe_sn pg_177 1 (fr' := (1164, [(4, .int 0), (3, .ref 189), (2, .ref 165), (1, .ref 0), (0, .ref xi_scr)], [])) rfl ?_
  refine xe_sn pg_177 12 (fr' := (1178, [(4, .int 0), (3, .ref 189), (2, .ref 165), (1, .ref 0), (0, .ref xi_scr)], [.ref 189, .int (xs 2), .int (xs 1), .ref 0])) rfl ?_
  refine xe_callq pg_177 175 [.ref 0, .int (xs 1), .int (xs 2), .ref 189] (.inl (some (.int k))) (1181, [(4, .int 0), (3, .ref 189), (2, .ref 165), (1, .ref 0), (0, .ref xi_scr)], [.int k]) rfl (fun _ => rfl) c1 ?_
  refine xe_sn pg_177 12 (fr' := (1196, [(5, .int k), (4, .int 0), (3, .ref 189), (2, .ref 165), (1, .ref 0), (0, .ref xi_scr)], [.int (xs 2), .int (xs 1), .ref 165])) rfl ?_
  refine xe_callq pg_177 156 [.ref 165, .int (xs 1), .int (xs 2)] (.inl (some (.int y))) (1199, [(5, .int k), (4, .int 0), (3, .ref 189), (2, .ref 165), (1, .ref 0), (0, .ref xi_scr)], [.int y]) rfl (fun _ => rfl) c2 ?_
  refine xe_sn pg_177 2 (fr' := (1202, [(6, .int y), (5, .int k), (4, .int 0), (3, .ref 189), (2, .ref 165), (1, .ref 0), (0, .ref xi_scr)], [.ref 165])) rfl ?_
  refine xe_callq pg_177 102 [.ref 165] (.inl (some (.int (I2 165 0)))) (1205, [(6, .int y), (5, .int k), (4, .int 0), (3, .ref 189), (2, .ref 165), (1, .ref 0), (0, .ref xi_scr)], [.int (I2 165 0)]) rfl (fun _ => rfl) (xe_sn pg_102 2 (fr' := (4, [(0, .ref 165)], [.int (I2 165 0)])) rfl (xe_end pg_102 rfl)) ?_
  refine xe_sn pg_177 1 (fr' := (1207, [(6, .int y), (5, .int k), (4, .int 0), (3, .ref 189), (2, .ref 165), (1, .ref 0), (0, .ref xi_scr)], [.int k, .int (I2 165 0)])) rfl ?_
  rw [show I2 165 0 = k from t1]
  refine xe_t2 pg_177 1212 rfl rfl (show k.toInt = k.toInt from rfl) ?_
  refine xe_sn pg_177 1 (fr' := (1214, [(6, .int y), (5, .int k), (4, .int 0), (3, .ref 189), (2, .ref 165), (1, .ref 0), (0, .ref xi_scr)], [.int k])) rfl ?_
  by_cases hk : k = 0
  · subst hk
    refine xe_f1 pg_177 1229 rfl rfl (show ¬ ¬ (0 : Int32).toInt = 0 by decide) ?_
    refine xe_sn pg_177 6 (fr' := (1224, [(6, .int y), (5, .int 0), (4, .int 0), (3, .ref 189), (2, .ref 165), (1, .ref 0), (0, .ref xi_scr)], [.int (lg_cmp (J2 189 0) y.toInt64)])) rfl ?_
    rw [show J2 189 0 = y.toInt64 from t2 rfl, lg_self]
    refine xe_sn pg_177 1 (fr' := (1229, [(6, .int y), (5, .int 0), (4, .int 0), (3, .ref 189), (2, .ref 165), (1, .ref 0), (0, .ref xi_scr)], [])) rfl ?_
    refine xe_sn pg_177 1 (fr' := (1331, [(6, .int y), (5, .int 0), (4, .int 0), (3, .ref 189), (2, .ref 165), (1, .ref 0), (0, .ref xi_scr)], [])) rfl ?_
    refine xe_sn pg_177 1 (fr' := (1334, [(4, .int 5), (6, .int y), (5, .int 0), (3, .ref 189), (2, .ref 165), (1, .ref 0), (0, .ref xi_scr)], [])) rfl ?_
    refine xe_sn pg_177 1 (fr' := (23, [(4, .int 5), (6, .int y), (5, .int 0), (3, .ref 189), (2, .ref 165), (1, .ref 0), (0, .ref xi_scr)], [])) rfl ?_
    refine xe_sn pg_177 3 (fr' := (27, [(4, .int 5), (6, .int y), (5, .int 0), (3, .ref 189), (2, .ref 165), (1, .ref 0), (0, .ref xi_scr)], [.int 5, .int 5])) rfl ?_
    refine xe_sn pg_177 2 (fr' := (29, [(4, .int 5), (6, .int y), (5, .int 0), (3, .ref 189), (2, .ref 165), (1, .ref 0), (0, .ref xi_scr)], [.int 0, .int 5])) rfl ?_
    refine xe_sn pg_177 1 (fr' := (1337, [(4, .int 5), (6, .int y), (5, .int 0), (3, .ref 189), (2, .ref 165), (1, .ref 0), (0, .ref xi_scr)], [])) rfl ?_
    refine xe_sn pg_177 1 (fr' := (1338, [(4, .int 5), (6, .int y), (5, .int 0), (3, .ref 189), (2, .ref 165), (1, .ref 0), (0, .ref xi_scr)], [.int 1])) rfl ?_
    exact xe_end pg_177 rfl
  · refine xe_t1 pg_177 1229 rfl rfl (show ¬ k.toInt = 0 from fun q => hk (Int32.toInt_inj.mp q)) ?_
    refine xe_sn pg_177 1 (fr' := (1331, [(6, .int y), (5, .int k), (4, .int 0), (3, .ref 189), (2, .ref 165), (1, .ref 0), (0, .ref xi_scr)], [])) rfl ?_
    refine xe_sn pg_177 1 (fr' := (1334, [(4, .int 5), (6, .int y), (5, .int k), (3, .ref 189), (2, .ref 165), (1, .ref 0), (0, .ref xi_scr)], [])) rfl ?_
    refine xe_sn pg_177 1 (fr' := (23, [(4, .int 5), (6, .int y), (5, .int k), (3, .ref 189), (2, .ref 165), (1, .ref 0), (0, .ref xi_scr)], [])) rfl ?_
    refine xe_sn pg_177 3 (fr' := (27, [(4, .int 5), (6, .int y), (5, .int k), (3, .ref 189), (2, .ref 165), (1, .ref 0), (0, .ref xi_scr)], [.int 5, .int 5])) rfl ?_
    refine xe_sn pg_177 2 (fr' := (29, [(4, .int 5), (6, .int y), (5, .int k), (3, .ref 189), (2, .ref 165), (1, .ref 0), (0, .ref xi_scr)], [.int 0, .int 5])) rfl ?_
    refine xe_sn pg_177 1 (fr' := (1337, [(4, .int 5), (6, .int y), (5, .int k), (3, .ref 189), (2, .ref 165), (1, .ref 0), (0, .ref xi_scr)], [])) rfl ?_
    refine xe_sn pg_177 1 (fr' := (1338, [(4, .int 5), (6, .int y), (5, .int k), (3, .ref 189), (2, .ref 165), (1, .ref 0), (0, .ref xi_scr)], [.int 1])) rfl ?_
    exact xe_end pg_177 rfl
set_option maxRecDepth 100000 in
theorem law_count (xs : Nat → Int32) (e : xs 0 &&& 31 = nI 16) : law_fin 5 xs := by
  obtain ⟨k, y, h1, h2, c1, g1, c2, g2, b1, b2, t1, t2⟩ := op_count xs (xs 1)
  obtain ⟨f1, C1, W1, I1, J1, R1, rfl⟩ := gd_form g1
  obtain ⟨f2, C2, W2, I2, J2, R2, rfl⟩ := gd_form g2
  refine ⟨_, ?_, b1, b2⟩
  refine xe_sn pg_177 3 (fr' := (27, [(4, .int 0), (3, .ref 189), (2, .ref 165), (1, .ref 0), (0, .ref xi_scr)], [.int 5, .int 0])) rfl ?_; refine xe_sn pg_177 2 (fr' := (29, [(4, .int 0), (3, .ref 189), (2, .ref 165), (1, .ref 0), (0, .ref xi_scr)], [.int 0, .int 0])) rfl ?_
  refine xe_sn pg_177 6 (fr' := (39, [(4, .int 0), (3, .ref 189), (2, .ref 165), (1, .ref 0), (0, .ref xi_scr)], [.int (xs 0 &&& 31)])) rfl ?_
  rw [e]
  refine xe_sn pg_177 1 (fr' := (1232, [(4, .int 0), (3, .ref 189), (2, .ref 165), (1, .ref 0), (0, .ref xi_scr)], [])) rfl ?_
  refine xe_sn pg_177 7 (fr' := (1240, [(4, .int 0), (3, .ref 189), (2, .ref 165), (1, .ref 0), (0, .ref xi_scr)], [.ref 189, .int (xs 1), .ref 0])) rfl ?_
  refine xe_callq pg_177 176 [.ref 0, .int (xs 1), .ref 189] (.inl (some (.int k))) (1243, [(4, .int 0), (3, .ref 189), (2, .ref 165), (1, .ref 0), (0, .ref xi_scr)], [.int k]) rfl (fun _ => rfl) c1 ?_
  refine xe_sn pg_177 7 (fr' := (1252, [(5, .int k), (4, .int 0), (3, .ref 189), (2, .ref 165), (1, .ref 0), (0, .ref xi_scr)], [.int (xs 1), .ref 165])) rfl ?_
  refine xe_callq pg_177 158 [.ref 165, .int (xs 1)] (.inl (some (.int y))) (1255, [(5, .int k), (4, .int 0), (3, .ref 189), (2, .ref 165), (1, .ref 0), (0, .ref xi_scr)], [.int y]) rfl (fun _ => rfl) c2 ?_
  refine xe_sn pg_177 2 (fr' := (1258, [(6, .int y), (5, .int k), (4, .int 0), (3, .ref 189), (2, .ref 165), (1, .ref 0), (0, .ref xi_scr)], [.ref 165])) rfl ?_
  refine xe_callq pg_177 102 [.ref 165] (.inl (some (.int (I2 165 0)))) (1261, [(6, .int y), (5, .int k), (4, .int 0), (3, .ref 189), (2, .ref 165), (1, .ref 0), (0, .ref xi_scr)], [.int (I2 165 0)]) rfl (fun _ => rfl) (xe_sn pg_102 2 (fr' := (4, [(0, .ref 165)], [.int (I2 165 0)])) rfl (xe_end pg_102 rfl)) ?_
  refine xe_sn pg_177 1 (fr' := (1263, [(6, .int y), (5, .int k), (4, .int 0), (3, .ref 189), (2, .ref 165), (1, .ref 0), (0, .ref xi_scr)], [.int k, .int (I2 165 0)])) rfl ?_
  rw [show I2 165 0 = k from t1]
  refine xe_t2 pg_177 1268 rfl rfl (show k.toInt = k.toInt from rfl) ?_
  refine xe_sn pg_177 1 (fr' := (1270, [(6, .int y), (5, .int k), (4, .int 0), (3, .ref 189), (2, .ref 165), (1, .ref 0), (0, .ref xi_scr)], [.int k])) rfl ?_
  by_cases hk : k = 0
  · subst hk
    refine xe_f1 pg_177 1285 rfl rfl (show ¬ ¬ (0 : Int32).toInt = 0 by decide) ?_
    refine xe_sn pg_177 6 (fr' := (1280, [(6, .int y), (5, .int 0), (4, .int 0), (3, .ref 189), (2, .ref 165), (1, .ref 0), (0, .ref xi_scr)], [.int (lg_cmp (J2 189 0) y.toInt64)])) rfl ?_
    rw [show J2 189 0 = y.toInt64 from t2 rfl, lg_self]
    refine xe_sn pg_177 1 (fr' := (1285, [(6, .int y), (5, .int 0), (4, .int 0), (3, .ref 189), (2, .ref 165), (1, .ref 0), (0, .ref xi_scr)], [])) rfl ?_
    refine xe_sn pg_177 1 (fr' := (1331, [(6, .int y), (5, .int 0), (4, .int 0), (3, .ref 189), (2, .ref 165), (1, .ref 0), (0, .ref xi_scr)], [])) rfl ?_
    refine xe_sn pg_177 1 (fr' := (1334, [(4, .int 5), (6, .int y), (5, .int 0), (3, .ref 189), (2, .ref 165), (1, .ref 0), (0, .ref xi_scr)], [])) rfl ?_
    refine xe_sn pg_177 1 (fr' := (23, [(4, .int 5), (6, .int y), (5, .int 0), (3, .ref 189), (2, .ref 165), (1, .ref 0), (0, .ref xi_scr)], [])) rfl ?_
    refine xe_sn pg_177 3 (fr' := (27, [(4, .int 5), (6, .int y), (5, .int 0), (3, .ref 189), (2, .ref 165), (1, .ref 0), (0, .ref xi_scr)], [.int 5, .int 5])) rfl ?_
    refine xe_sn pg_177 2 (fr' := (29, [(4, .int 5), (6, .int y), (5, .int 0), (3, .ref 189), (2, .ref 165), (1, .ref 0), (0, .ref xi_scr)], [.int 0, .int 5])) rfl ?_
    refine xe_sn pg_177 1 (fr' := (1337, [(4, .int 5), (6, .int y), (5, .int 0), (3, .ref 189), (2, .ref 165), (1, .ref 0), (0, .ref xi_scr)], [])) rfl ?_
    refine xe_sn pg_177 1 (fr' := (1338, [(4, .int 5), (6, .int y), (5, .int 0), (3, .ref 189), (2, .ref 165), (1, .ref 0), (0, .ref xi_scr)], [.int 1])) rfl ?_
    exact xe_end pg_177 rfl
  · refine xe_t1 pg_177 1285 rfl rfl (show ¬ k.toInt = 0 from fun q => hk (Int32.toInt_inj.mp q)) ?_
    refine xe_sn pg_177 1 (fr' := (1331, [(6, .int y), (5, .int k), (4, .int 0), (3, .ref 189), (2, .ref 165), (1, .ref 0), (0, .ref xi_scr)], [])) rfl ?_
    refine xe_sn pg_177 1 (fr' := (1334, [(4, .int 5), (6, .int y), (5, .int k), (3, .ref 189), (2, .ref 165), (1, .ref 0), (0, .ref xi_scr)], [])) rfl ?_
    refine xe_sn pg_177 1 (fr' := (23, [(4, .int 5), (6, .int y), (5, .int k), (3, .ref 189), (2, .ref 165), (1, .ref 0), (0, .ref xi_scr)], [])) rfl ?_
    refine xe_sn pg_177 3 (fr' := (27, [(4, .int 5), (6, .int y), (5, .int k), (3, .ref 189), (2, .ref 165), (1, .ref 0), (0, .ref xi_scr)], [.int 5, .int 5])) rfl ?_
    refine xe_sn pg_177 2 (fr' := (29, [(4, .int 5), (6, .int y), (5, .int k), (3, .ref 189), (2, .ref 165), (1, .ref 0), (0, .ref xi_scr)], [.int 0, .int 5])) rfl ?_
    refine xe_sn pg_177 1 (fr' := (1337, [(4, .int 5), (6, .int y), (5, .int k), (3, .ref 189), (2, .ref 165), (1, .ref 0), (0, .ref xi_scr)], [])) rfl ?_
    refine xe_sn pg_177 1 (fr' := (1338, [(4, .int 5), (6, .int y), (5, .int k), (3, .ref 189), (2, .ref 165), (1, .ref 0), (0, .ref xi_scr)], [.int 1])) rfl ?_
    exact xe_end pg_177 rfl
set_option maxRecDepth 100000 in
theorem law_loss (xs : Nat → Int32) (e : xs 0 &&& 31 = nI 17) : law_fin 5 xs := by
  apply Exists.intro
  apply And.intro
  · refine xe_sn pg_177 3 (fr' := (27, [(4, .int 0), (3, .ref 189), (2, .ref 165), (1, .ref 0), (0, .ref xi_scr)], [.int 5, .int 0])) rfl ?_; refine xe_sn pg_177 2 (fr' := (29, [(4, .int 0), (3, .ref 189), (2, .ref 165), (1, .ref 0), (0, .ref xi_scr)], [.int 0, .int 0])) rfl ?_
    refine xe_sn pg_177 6 (fr' := (39, [(4, .int 0), (3, .ref 189), (2, .ref 165), (1, .ref 0), (0, .ref xi_scr)], [.int (xs 0 &&& 31)])) rfl ?_
    rw [e]
    refine xe_sn pg_177 1 (fr' := (1288, [(4, .int 0), (3, .ref 189), (2, .ref 165), (1, .ref 0), (0, .ref xi_scr)], [])) rfl ?_
    refine xe_sn pg_177 1 (fr' := (1289, [(4, .int 0), (3, .ref 189), (2, .ref 165), (1, .ref 0), (0, .ref xi_scr)], [.ref 0])) rfl ?_
    apply xe_callq pg_177 90 [.ref 0] (.inl (some (.float FP.fconst0))) (1292, [(4, .int 0), (3, .ref 189), (2, .ref 165), (1, .ref 0), (0, .ref xi_scr)], [.float FP.fconst0]) rfl (fun _ => rfl)
    · refine xe_sn pg_90 6 (fr' := (12, [(0, .ref 0)], [.int 0])) rfl ?_
      refine xe_sn pg_90 5 (fr' := (32, [(1, .int 0), (0, .ref 0)], [.float FP.fconst0])) rfl ?_
      exact xe_end pg_90 rfl
    refine xe_sn pg_177 1 (fr' := (1293, [(4, .int 0), (3, .ref 189), (2, .ref 165), (1, .ref 0), (0, .ref xi_scr)], [.double 0])) rfl ?_
    refine xe_sn pg_177 2 (fr' := (1296, [(5, .double 0), (4, .int 0), (3, .ref 189), (2, .ref 165), (1, .ref 0), (0, .ref xi_scr)], [.ref 165])) rfl ?_
    apply xe_callq pg_177 159 [.ref 165] (.inl (some (.float FP.fconst0))) (1299, [(5, .double 0), (4, .int 0), (3, .ref 189), (2, .ref 165), (1, .ref 0), (0, .ref xi_scr)], [.float FP.fconst0]) rfl (fun _ => rfl)
    · refine xe_sn pg_159 8 (fr' := (14, [(0, .ref 165)], [.int 0])) rfl ?_
      refine xe_sn pg_159 2 (fr' := (18, [(0, .ref 165)], [.float FP.fconst0])) rfl ?_
      exact xe_end pg_159 rfl
    refine xe_sn pg_177 1 (fr' := (1300, [(5, .double 0), (4, .int 0), (3, .ref 189), (2, .ref 165), (1, .ref 0), (0, .ref xi_scr)], [.double 0])) rfl ?_
    refine xe_sn pg_177 1 (fr' := (1302, [(7, .double 0), (5, .double 0), (4, .int 0), (3, .ref 189), (2, .ref 165), (1, .ref 0), (0, .ref xi_scr)], [])) rfl ?_
    refine xe_sn pg_177 3 (fr' := (1307, [(7, .double 0), (5, .double 0), (4, .int 0), (3, .ref 189), (2, .ref 165), (1, .ref 0), (0, .ref xi_scr)], [.int 0])) rfl ?_
    refine xe_sn pg_177 1 (fr' := (1328, [(7, .double 0), (5, .double 0), (4, .int 0), (3, .ref 189), (2, .ref 165), (1, .ref 0), (0, .ref xi_scr)], [])) rfl ?_
    refine xe_sn pg_177 1 (fr' := (1331, [(7, .double 0), (5, .double 0), (4, .int 0), (3, .ref 189), (2, .ref 165), (1, .ref 0), (0, .ref xi_scr)], [])) rfl ?_
    refine xe_sn pg_177 1 (fr' := (1334, [(4, .int 5), (7, .double 0), (5, .double 0), (3, .ref 189), (2, .ref 165), (1, .ref 0), (0, .ref xi_scr)], [])) rfl ?_
    refine xe_sn pg_177 1 (fr' := (23, [(4, .int 5), (7, .double 0), (5, .double 0), (3, .ref 189), (2, .ref 165), (1, .ref 0), (0, .ref xi_scr)], [])) rfl ?_
    refine xe_sn pg_177 3 (fr' := (27, [(4, .int 5), (7, .double 0), (5, .double 0), (3, .ref 189), (2, .ref 165), (1, .ref 0), (0, .ref xi_scr)], [.int 5, .int 5])) rfl ?_
    refine xe_sn pg_177 2 (fr' := (29, [(4, .int 5), (7, .double 0), (5, .double 0), (3, .ref 189), (2, .ref 165), (1, .ref 0), (0, .ref xi_scr)], [.int 0, .int 5])) rfl ?_
    refine xe_sn pg_177 1 (fr' := (1337, [(4, .int 5), (7, .double 0), (5, .double 0), (3, .ref 189), (2, .ref 165), (1, .ref 0), (0, .ref xi_scr)], [])) rfl ?_
    refine xe_sn pg_177 1 (fr' := (1338, [(4, .int 5), (7, .double 0), (5, .double 0), (3, .ref 189), (2, .ref 165), (1, .ref 0), (0, .ref xi_scr)], [.int 1])) rfl ?_
    exact xe_end pg_177 rfl
  · exact ⟨Nat.le_of_ble_eq_true rfl, Nat.le_of_ble_eq_true rfl⟩
set_option maxRecDepth 100000 in
theorem law_none (xs : Nat → Int32) (j : Nat) (hj : 17 < j) (hj2 : j < 32) (e : xs 0 &&& 31 = nI j) : law_fin 5 xs := by
  apply Exists.intro
  apply And.intro
  · refine xe_sn pg_177 3 (fr' := (27, [(4, .int 0), (3, .ref 189), (2, .ref 165), (1, .ref 0), (0, .ref xi_scr)], [.int 5, .int 0])) rfl ?_; refine xe_sn pg_177 2 (fr' := (29, [(4, .int 0), (3, .ref 189), (2, .ref 165), (1, .ref 0), (0, .ref xi_scr)], [.int 0, .int 0])) rfl ?_
    refine xe_sn pg_177 6 (fr' := (39, [(4, .int 0), (3, .ref 189), (2, .ref 165), (1, .ref 0), (0, .ref xi_scr)], [.int (xs 0 &&& 31)])) rfl ?_
    rw [e]
    refine xe_sn pg_177 1 (fr' := (1331, [(4, .int 0), (3, .ref 189), (2, .ref 165), (1, .ref 0), (0, .ref xi_scr)], [])) (h' := xi_hn 190 190 1841 6 xs) ?_ ?_
    · have := e
      clear e
      rcases (by omega : j = 18 ∨ j = 19 ∨ j = 20 ∨ j = 21 ∨ j = 22 ∨ j = 23 ∨ j = 24 ∨ j = 25 ∨ j = 26 ∨ j = 27 ∨ j = 28 ∨ j = 29 ∨ j = 30 ∨ j = 31) with q | q | q | q | q | q | q | q | q | q | q | q | q | q <;> subst q <;> rfl
    refine xe_sn pg_177 2 (fr' := (23, [(4, .int 5), (3, .ref 189), (2, .ref 165), (1, .ref 0), (0, .ref xi_scr)], [])) rfl ?_
    refine xe_sn pg_177 3 (fr' := (27, [(4, .int 5), (3, .ref 189), (2, .ref 165), (1, .ref 0), (0, .ref xi_scr)], [.int 5, .int 5])) rfl ?_
    refine xe_sn pg_177 2 (fr' := (29, [(4, .int 5), (3, .ref 189), (2, .ref 165), (1, .ref 0), (0, .ref xi_scr)], [.int 0, .int 5])) rfl ?_
    refine xe_sn pg_177 2 (fr' := (1338, [(4, .int 5), (3, .ref 189), (2, .ref 165), (1, .ref 0), (0, .ref xi_scr)], [.int 1])) rfl ?_
    exact xe_end pg_177 rfl
  · exact ⟨Nat.le_of_ble_eq_true rfl, Nat.le_of_ble_eq_true rfl⟩
set_option maxRecDepth 100000 in
theorem law_short (L : Nat) (hL : L < 5) (xs : Nat → Int32) : law_fin L xs := by
  rcases (by omega : L = 0 ∨ L = 1 ∨ L = 2 ∨ L = 3 ∨ L = 4) with q | q | q | q | q <;> subst q
  · exact ⟨_, xe_sn pg_177 3 (fr' := (27, [(4, .int 0), (3, .ref 189), (2, .ref 165), (1, .ref 0), (0, .ref xi_scr)], [.int 0, .int 0])) rfl (xe_sn pg_177 2 (fr' := (29, [(4, .int 0), (3, .ref 189), (2, .ref 165), (1, .ref 0), (0, .ref xi_scr)], [.int (-5), .int 0])) rfl (xe_sn pg_177 2 (fr' := (1338, [(4, .int 0), (3, .ref 189), (2, .ref 165), (1, .ref 0), (0, .ref xi_scr)], [.int 1])) rfl (xe_end pg_177 rfl))), Nat.le_of_ble_eq_true rfl, Nat.le_of_ble_eq_true rfl⟩
  · exact ⟨_, xe_sn pg_177 3 (fr' := (27, [(4, .int 0), (3, .ref 189), (2, .ref 165), (1, .ref 0), (0, .ref xi_scr)], [.int 1, .int 0])) rfl (xe_sn pg_177 2 (fr' := (29, [(4, .int 0), (3, .ref 189), (2, .ref 165), (1, .ref 0), (0, .ref xi_scr)], [.int (-4), .int 0])) rfl (xe_sn pg_177 2 (fr' := (1338, [(4, .int 0), (3, .ref 189), (2, .ref 165), (1, .ref 0), (0, .ref xi_scr)], [.int 1])) rfl (xe_end pg_177 rfl))), Nat.le_of_ble_eq_true rfl, Nat.le_of_ble_eq_true rfl⟩
  · exact ⟨_, xe_sn pg_177 3 (fr' := (27, [(4, .int 0), (3, .ref 189), (2, .ref 165), (1, .ref 0), (0, .ref xi_scr)], [.int 2, .int 0])) rfl (xe_sn pg_177 2 (fr' := (29, [(4, .int 0), (3, .ref 189), (2, .ref 165), (1, .ref 0), (0, .ref xi_scr)], [.int (-3), .int 0])) rfl (xe_sn pg_177 2 (fr' := (1338, [(4, .int 0), (3, .ref 189), (2, .ref 165), (1, .ref 0), (0, .ref xi_scr)], [.int 1])) rfl (xe_end pg_177 rfl))), Nat.le_of_ble_eq_true rfl, Nat.le_of_ble_eq_true rfl⟩
  · exact ⟨_, xe_sn pg_177 3 (fr' := (27, [(4, .int 0), (3, .ref 189), (2, .ref 165), (1, .ref 0), (0, .ref xi_scr)], [.int 3, .int 0])) rfl (xe_sn pg_177 2 (fr' := (29, [(4, .int 0), (3, .ref 189), (2, .ref 165), (1, .ref 0), (0, .ref xi_scr)], [.int (-2), .int 0])) rfl (xe_sn pg_177 2 (fr' := (1338, [(4, .int 0), (3, .ref 189), (2, .ref 165), (1, .ref 0), (0, .ref xi_scr)], [.int 1])) rfl (xe_end pg_177 rfl))), Nat.le_of_ble_eq_true rfl, Nat.le_of_ble_eq_true rfl⟩
  · exact ⟨_, xe_sn pg_177 3 (fr' := (27, [(4, .int 0), (3, .ref 189), (2, .ref 165), (1, .ref 0), (0, .ref xi_scr)], [.int 4, .int 0])) rfl (xe_sn pg_177 2 (fr' := (29, [(4, .int 0), (3, .ref 189), (2, .ref 165), (1, .ref 0), (0, .ref xi_scr)], [.int (-1), .int 0])) rfl (xe_sn pg_177 2 (fr' := (1338, [(4, .int 0), (3, .ref 189), (2, .ref 165), (1, .ref 0), (0, .ref xi_scr)], [.int 1])) rfl (xe_end pg_177 rfl))), Nat.le_of_ble_eq_true rfl, Nat.le_of_ble_eq_true rfl⟩
theorem law_five (xs : Nat → Int32) : law_fin 5 xs := by
  obtain ⟨j, hj, e⟩ := pk_andE (xs 0) (m := 31) 5 (by decide)
  by_cases h17 : 17 < j
  · exact law_none xs j h17 (by omega) e
  rcases (by omega : j = 0 ∨ j = 1 ∨ j = 2 ∨ j = 3 ∨ j = 4 ∨ j = 5 ∨ j = 6 ∨ j = 7 ∨ j = 8 ∨ j = 9 ∨ j = 10 ∨ j = 11 ∨ j = 12 ∨ j = 13 ∨ j = 14 ∨ j = 15 ∨ j = 16 ∨ j = 17) with q | q | q | q | q | q | q | q | q | q | q | q | q | q | q | q | q | q <;> subst q
  · exact law_secret xs e
  · exact law_create xs e
  · exact law_extend xs e
  · exact law_begin xs e
  · exact law_send xs e
  · exact law_end xs e
  · exact law_truncate xs e
  · exact law_close xs e
  · exact law_deliver xs e
  · exact law_damage xs e
  · exact law_lose xs e
  · exact law_cell xs e
  · exact law_circuit xs e
  · exact law_key xs e
  · exact law_relay xs e
  · exact law_data xs e
  · exact law_count xs e
  · exact law_loss xs e
theorem law_runs (L : Nat) (hL : L ≤ 5) (xs : Nat → Int32) : ∃ n h', xi_run n 12 177 (23, [(4, .int 0), (3, .ref 189), (2, .ref 165), (1, .ref 0), (0, .ref xi_scr)], []) (xi_hn 190 190 1841 (L + 1) xs) = some (.inl (some (.int 1)), h') ∧ hC h' ≤ 600002 ∧ hW h' ≤ 7302231 := by
  obtain ⟨h', ⟨n, e⟩, b1, b2⟩ : law_fin L xs := by
    by_cases h : L < 5
    · exact law_short L h xs
    · obtain rfl : L = 5 := by omega
      exact law_five xs
  exact ⟨n, h', e, b1, b2⟩
