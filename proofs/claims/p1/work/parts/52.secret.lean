set_option maxRecDepth 100000 in
theorem lf_secret_0 (xs : Nat → Int32) (p0 : Int32) (p1 : Int32) (a0 : p0.toInt < 1) : op_ok xs 160 139 [.ref 0, .int p0, .int p1, .ref 189] [.ref 165, .int p0, .int p1] := by
  refine ⟨1, 0, ?_⟩
  apply Exists.intro
  apply Exists.intro
  apply And.intro
  · refine xe_sn pg_160 4 (fr' := (4, [(0, .ref 0), (1, .int p0), (2, .int p1), (3, .ref 189)], [.int p0, .ref 0, .int 0, .ref 189])) rfl ?_
    refine xe_sn pg_160 1 (fr' := (5, [(0, .ref 0), (1, .int p0), (2, .int p1), (3, .ref 189)], [.int p1, .int p0, .ref 0, .int 0, .ref 189])) rfl ?_
    apply xe_callq pg_160 73 [.ref 0, .int p0, .int p1] (.inr 0) (15, [(0, .ref 0), (1, .int p0), (2, .int p1), (3, .ref 189)], []) rfl (fun _ => rfl)
    · refine xe_sn pg_73 1 (fr' := (1, [(0, .ref 0), (1, .int p0), (2, .int p1)], [.int p0])) rfl ?_
      apply xe_callqx pg_73 93 [.int p0] 0 rfl (fun _ => rfl)
      · refine xe_sn pg_93 2 (fr' := (2, [(0, .int p0)], [.int 1, .int p0])) rfl ?_
        refine xe_t2 pg_93 10 rfl rfl (by show (p0).toInt < 1; omega) ?_
        exact xe_end pg_93 rfl
    refine xe_sn pg_160 1 (fr' := (16, [(0, .ref 0), (1, .int p0), (2, .int p1), (3, .ref 189)], [.int 1])) rfl ?_
    exact xe_end pg_160 rfl
  refine And.intro ⟨rfl, rfl, rfl, rfl⟩ ?_
  apply And.intro
  · refine xe_sn pg_139 2 (fr' := (2, [(0, .ref 165), (1, .int p0), (2, .int p1)], [.int p0, .ref 165])) rfl ?_
    apply xe_callq pg_139 105 [.int p0] (.inl (some (.int 0))) (5, [(0, .ref 165), (1, .int p0), (2, .int p1)], [.int 0, .ref 165]) rfl (fun _ => rfl)
    · refine xe_sn pg_105 3 (fr' := (3, [(0, .int p0)], [.int 4, .int 1, .int p0])) rfl ?_
      apply xe_callq pg_105 103 [.int p0, .int 1, .int 4] (.inl (some (.int 0))) (6, [(0, .int p0)], [.int 0]) rfl (fun _ => rfl)
      · refine xe_sn pg_103 2 (fr' := (2, [(0, .int p0), (1, .int 1), (2, .int 4)], [.int 1, .int p0])) rfl ?_
        refine xe_t2 pg_103 14 rfl rfl (by show (p0).toInt < 1; omega) ?_
        refine xe_sn pg_103 1 (fr' := (15, [(0, .int p0), (1, .int 1), (2, .int 4)], [.int 0])) rfl ?_
        exact xe_end pg_103 rfl
      exact xe_end pg_105 rfl
    refine xe_sn pg_139 4 (fr' := (30, [(0, .ref 165), (1, .int p0), (2, .int p1)], [])) rfl ?_
    refine xe_sn pg_139 4 (fr' := (34, [(3, .int 0), (0, .ref 165), (1, .int p0), (2, .int p1)], [.int 4, .int 0])) rfl ?_
    refine xe_sn pg_139 4 (fr' := (73, [(3, .int 0), (0, .ref 165), (1, .int p0), (2, .int p1)], [])) rfl ?_
    refine xe_sn pg_139 4 (fr' := (81, [(3, .int 0), (0, .ref 165), (1, .int p0), (2, .int p1)], [.int 0])) rfl ?_
    exact xe_end pg_139 rfl
  · exact ⟨⟨rfl, rfl, rfl, rfl⟩, Nat.le_of_ble_eq_true rfl, Nat.le_of_ble_eq_true rfl, rfl, fun q => absurd q (by decide)⟩

set_option maxRecDepth 100000 in
theorem lf_secret_1 (xs : Nat → Int32) (p0 : Int32) (p1 : Int32) (b0 : 4 < p0.toInt) : op_ok xs 160 139 [.ref 0, .int p0, .int p1, .ref 189] [.ref 165, .int p0, .int p1] := by
  refine ⟨1, 0, ?_⟩
  apply Exists.intro
  apply Exists.intro
  apply And.intro
  · refine xe_sn pg_160 4 (fr' := (4, [(0, .ref 0), (1, .int p0), (2, .int p1), (3, .ref 189)], [.int p0, .ref 0, .int 0, .ref 189])) rfl ?_
    refine xe_sn pg_160 1 (fr' := (5, [(0, .ref 0), (1, .int p0), (2, .int p1), (3, .ref 189)], [.int p1, .int p0, .ref 0, .int 0, .ref 189])) rfl ?_
    apply xe_callq pg_160 73 [.ref 0, .int p0, .int p1] (.inr 0) (15, [(0, .ref 0), (1, .int p0), (2, .int p1), (3, .ref 189)], []) rfl (fun _ => rfl)
    · refine xe_sn pg_73 1 (fr' := (1, [(0, .ref 0), (1, .int p0), (2, .int p1)], [.int p0])) rfl ?_
      apply xe_callqx pg_73 93 [.int p0] 0 rfl (fun _ => rfl)
      · refine xe_sn pg_93 2 (fr' := (2, [(0, .int p0)], [.int 1, .int p0])) rfl ?_
        refine xe_f2 pg_93 10 rfl rfl (by show ¬ ((p0).toInt < 1); omega) ?_
        refine xe_sn pg_93 2 (fr' := (7, [(0, .int p0)], [.int 4, .int p0])) rfl ?_
        refine xe_f2 pg_93 18 rfl rfl (by show ¬ ((p0).toInt ≤ 4); omega) ?_
        exact xe_end pg_93 rfl
    refine xe_sn pg_160 1 (fr' := (16, [(0, .ref 0), (1, .int p0), (2, .int p1), (3, .ref 189)], [.int 1])) rfl ?_
    exact xe_end pg_160 rfl
  refine And.intro ⟨rfl, rfl, rfl, rfl⟩ ?_
  apply And.intro
  · refine xe_sn pg_139 2 (fr' := (2, [(0, .ref 165), (1, .int p0), (2, .int p1)], [.int p0, .ref 165])) rfl ?_
    apply xe_callq pg_139 105 [.int p0] (.inl (some (.int 0))) (5, [(0, .ref 165), (1, .int p0), (2, .int p1)], [.int 0, .ref 165]) rfl (fun _ => rfl)
    · refine xe_sn pg_105 3 (fr' := (3, [(0, .int p0)], [.int 4, .int 1, .int p0])) rfl ?_
      apply xe_callq pg_105 103 [.int p0, .int 1, .int 4] (.inl (some (.int 0))) (6, [(0, .int p0)], [.int 0]) rfl (fun _ => rfl)
      · refine xe_sn pg_103 2 (fr' := (2, [(0, .int p0), (1, .int 1), (2, .int 4)], [.int 1, .int p0])) rfl ?_
        refine xe_f2 pg_103 14 rfl rfl (by show ¬ ((p0).toInt < 1); omega) ?_
        refine xe_sn pg_103 2 (fr' := (7, [(0, .int p0), (1, .int 1), (2, .int 4)], [.int 4, .int p0])) rfl ?_
        refine xe_t2 pg_103 14 rfl rfl (by show 4 < (p0).toInt; omega) ?_
        refine xe_sn pg_103 1 (fr' := (15, [(0, .int p0), (1, .int 1), (2, .int 4)], [.int 0])) rfl ?_
        exact xe_end pg_103 rfl
      exact xe_end pg_105 rfl
    refine xe_sn pg_139 4 (fr' := (30, [(0, .ref 165), (1, .int p0), (2, .int p1)], [])) rfl ?_
    refine xe_sn pg_139 4 (fr' := (34, [(3, .int 0), (0, .ref 165), (1, .int p0), (2, .int p1)], [.int 4, .int 0])) rfl ?_
    refine xe_sn pg_139 4 (fr' := (73, [(3, .int 0), (0, .ref 165), (1, .int p0), (2, .int p1)], [])) rfl ?_
    refine xe_sn pg_139 4 (fr' := (81, [(3, .int 0), (0, .ref 165), (1, .int p0), (2, .int p1)], [.int 0])) rfl ?_
    exact xe_end pg_139 rfl
  · exact ⟨⟨rfl, rfl, rfl, rfl⟩, Nat.le_of_ble_eq_true rfl, Nat.le_of_ble_eq_true rfl, rfl, fun q => absurd q (by decide)⟩

set_option maxRecDepth 100000 in
theorem lf_secret_2 (xs : Nat → Int32) (p1 : Int32) (a1 : p1.toInt < 1) : op_ok xs 160 139 [.ref 0, .int 1, .int p1, .ref 189] [.ref 165, .int 1, .int p1] := by
  refine ⟨2, 0, ?_⟩
  apply Exists.intro
  apply Exists.intro
  apply And.intro
  · refine xe_sn pg_160 4 (fr' := (4, [(0, .ref 0), (1, .int 1), (2, .int p1), (3, .ref 189)], [.int 1, .ref 0, .int 0, .ref 189])) rfl ?_
    refine xe_sn pg_160 1 (fr' := (5, [(0, .ref 0), (1, .int 1), (2, .int p1), (3, .ref 189)], [.int p1, .int 1, .ref 0, .int 0, .ref 189])) rfl ?_
    apply xe_callq pg_160 73 [.ref 0, .int 1, .int p1] (.inr 1) (19, [(0, .ref 0), (1, .int 1), (2, .int p1), (3, .ref 189)], []) rfl (fun _ => rfl)
    · refine xe_sn pg_73 1 (fr' := (1, [(0, .ref 0), (1, .int 1), (2, .int p1)], [.int 1])) rfl ?_
      apply xe_callq pg_73 93 [.int 1] (.inl none) (4, [(0, .ref 0), (1, .int 1), (2, .int p1)], []) rfl (fun _ => rfl)
      · refine xe_sn pg_93 4 (fr' := (6, [(0, .int 1)], [.int 1])) rfl ?_
        refine xe_sn pg_93 2 (fr' := (18, [(0, .int 1)], [])) rfl ?_
        exact xe_end pg_93 rfl
      refine xe_sn pg_73 1 (fr' := (5, [(0, .ref 0), (1, .int 1), (2, .int p1)], [.int p1])) rfl ?_
      apply xe_callqx pg_73 96 [.int p1] 1 rfl (fun _ => rfl)
      · refine xe_sn pg_96 2 (fr' := (2, [(0, .int p1)], [.int 1, .int p1])) rfl ?_
        refine xe_t2 pg_96 15 rfl rfl (by show (p1).toInt < 1; omega) ?_
        refine xe_sn pg_96 1 (fr' := (16, [(0, .int p1)], [.int 0])) rfl ?_
        apply xe_callqx pg_96 97 [.int 0] 1 rfl (fun _ => rfl)
        · refine xe_sn pg_97 2 (fr' := (4, [(0, .int 0)], [])) rfl ?_
          exact xe_end pg_97 rfl
    refine xe_sn pg_160 1 (fr' := (20, [(0, .ref 0), (1, .int 1), (2, .int p1), (3, .ref 189)], [.int 2])) rfl ?_
    exact xe_end pg_160 rfl
  refine And.intro ⟨rfl, rfl, rfl, rfl⟩ ?_
  apply And.intro
  · refine xe_sn pg_139 2 (fr' := (2, [(0, .ref 165), (1, .int 1), (2, .int p1)], [.int 1, .ref 165])) rfl ?_
    apply xe_callq pg_139 105 [.int 1] (.inl (some (.int 1))) (5, [(0, .ref 165), (1, .int 1), (2, .int p1)], [.int 1, .ref 165]) rfl (fun _ => rfl)
    · refine xe_sn pg_105 3 (fr' := (3, [(0, .int 1)], [.int 4, .int 1, .int 1])) rfl ?_
      apply xe_callq pg_105 103 [.int 1, .int 1, .int 4] (.inl (some (.int 1))) (6, [(0, .int 1)], [.int 1]) rfl (fun _ => rfl)
      · refine xe_sn pg_103 4 (fr' := (6, [(0, .int 1), (1, .int 1), (2, .int 4)], [.int 1])) rfl ?_
        refine xe_sn pg_103 4 (fr' := (15, [(0, .int 1), (1, .int 1), (2, .int 4)], [.int 1])) rfl ?_
        exact xe_end pg_103 rfl
      exact xe_end pg_105 rfl
    refine xe_sn pg_139 4 (fr' := (16, [(0, .ref 165), (1, .int 1), (2, .int p1)], [.int 65519, .int 1, .int p1, .ref 165])) rfl ?_
    apply xe_callq pg_139 103 [.int p1, .int 1, .int 65519] (.inl (some (.int 0))) (19, [(0, .ref 165), (1, .int 1), (2, .int p1)], [.int 0, .ref 165]) rfl (fun _ => rfl)
    · refine xe_sn pg_103 2 (fr' := (2, [(0, .int p1), (1, .int 1), (2, .int 65519)], [.int 1, .int p1])) rfl ?_
      refine xe_t2 pg_103 14 rfl rfl (by show (p1).toInt < 1; omega) ?_
      refine xe_sn pg_103 1 (fr' := (15, [(0, .int p1), (1, .int 1), (2, .int 65519)], [.int 0])) rfl ?_
      exact xe_end pg_103 rfl
    refine xe_sn pg_139 4 (fr' := (30, [(0, .ref 165), (1, .int 1), (2, .int p1)], [])) rfl ?_
    refine xe_sn pg_139 4 (fr' := (34, [(3, .int 0), (0, .ref 165), (1, .int 1), (2, .int p1)], [.int 4, .int 0])) rfl ?_
    refine xe_sn pg_139 4 (fr' := (73, [(3, .int 0), (0, .ref 165), (1, .int 1), (2, .int p1)], [])) rfl ?_
    refine xe_sn pg_139 4 (fr' := (81, [(3, .int 0), (0, .ref 165), (1, .int 1), (2, .int p1)], [.int 0])) rfl ?_
    exact xe_end pg_139 rfl
  · exact ⟨⟨rfl, rfl, rfl, rfl⟩, Nat.le_of_ble_eq_true rfl, Nat.le_of_ble_eq_true rfl, rfl, fun q => absurd q (by decide)⟩

set_option maxRecDepth 100000 in
theorem lf_secret_3 (xs : Nat → Int32) (p1 : Int32) (b1 : 65519 < p1.toInt) : op_ok xs 160 139 [.ref 0, .int 1, .int p1, .ref 189] [.ref 165, .int 1, .int p1] := by
  refine ⟨2, 0, ?_⟩
  apply Exists.intro
  apply Exists.intro
  apply And.intro
  · refine xe_sn pg_160 4 (fr' := (4, [(0, .ref 0), (1, .int 1), (2, .int p1), (3, .ref 189)], [.int 1, .ref 0, .int 0, .ref 189])) rfl ?_
    refine xe_sn pg_160 1 (fr' := (5, [(0, .ref 0), (1, .int 1), (2, .int p1), (3, .ref 189)], [.int p1, .int 1, .ref 0, .int 0, .ref 189])) rfl ?_
    apply xe_callq pg_160 73 [.ref 0, .int 1, .int p1] (.inr 1) (19, [(0, .ref 0), (1, .int 1), (2, .int p1), (3, .ref 189)], []) rfl (fun _ => rfl)
    · refine xe_sn pg_73 1 (fr' := (1, [(0, .ref 0), (1, .int 1), (2, .int p1)], [.int 1])) rfl ?_
      apply xe_callq pg_73 93 [.int 1] (.inl none) (4, [(0, .ref 0), (1, .int 1), (2, .int p1)], []) rfl (fun _ => rfl)
      · refine xe_sn pg_93 4 (fr' := (6, [(0, .int 1)], [.int 1])) rfl ?_
        refine xe_sn pg_93 2 (fr' := (18, [(0, .int 1)], [])) rfl ?_
        exact xe_end pg_93 rfl
      refine xe_sn pg_73 1 (fr' := (5, [(0, .ref 0), (1, .int 1), (2, .int p1)], [.int p1])) rfl ?_
      apply xe_callqx pg_73 96 [.int p1] 1 rfl (fun _ => rfl)
      · refine xe_sn pg_96 2 (fr' := (2, [(0, .int p1)], [.int 1, .int p1])) rfl ?_
        refine xe_f2 pg_96 15 rfl rfl (by show ¬ ((p1).toInt < 1); omega) ?_
        refine xe_sn pg_96 2 (fr' := (8, [(0, .int p1)], [.int 65519, .int p1])) rfl ?_
        refine xe_t2 pg_96 15 rfl rfl (by show 65519 < (p1).toInt; omega) ?_
        refine xe_sn pg_96 1 (fr' := (16, [(0, .int p1)], [.int 0])) rfl ?_
        apply xe_callqx pg_96 97 [.int 0] 1 rfl (fun _ => rfl)
        · refine xe_sn pg_97 2 (fr' := (4, [(0, .int 0)], [])) rfl ?_
          exact xe_end pg_97 rfl
    refine xe_sn pg_160 1 (fr' := (20, [(0, .ref 0), (1, .int 1), (2, .int p1), (3, .ref 189)], [.int 2])) rfl ?_
    exact xe_end pg_160 rfl
  refine And.intro ⟨rfl, rfl, rfl, rfl⟩ ?_
  apply And.intro
  · refine xe_sn pg_139 2 (fr' := (2, [(0, .ref 165), (1, .int 1), (2, .int p1)], [.int 1, .ref 165])) rfl ?_
    apply xe_callq pg_139 105 [.int 1] (.inl (some (.int 1))) (5, [(0, .ref 165), (1, .int 1), (2, .int p1)], [.int 1, .ref 165]) rfl (fun _ => rfl)
    · refine xe_sn pg_105 3 (fr' := (3, [(0, .int 1)], [.int 4, .int 1, .int 1])) rfl ?_
      apply xe_callq pg_105 103 [.int 1, .int 1, .int 4] (.inl (some (.int 1))) (6, [(0, .int 1)], [.int 1]) rfl (fun _ => rfl)
      · refine xe_sn pg_103 4 (fr' := (6, [(0, .int 1), (1, .int 1), (2, .int 4)], [.int 1])) rfl ?_
        refine xe_sn pg_103 4 (fr' := (15, [(0, .int 1), (1, .int 1), (2, .int 4)], [.int 1])) rfl ?_
        exact xe_end pg_103 rfl
      exact xe_end pg_105 rfl
    refine xe_sn pg_139 4 (fr' := (16, [(0, .ref 165), (1, .int 1), (2, .int p1)], [.int 65519, .int 1, .int p1, .ref 165])) rfl ?_
    apply xe_callq pg_139 103 [.int p1, .int 1, .int 65519] (.inl (some (.int 0))) (19, [(0, .ref 165), (1, .int 1), (2, .int p1)], [.int 0, .ref 165]) rfl (fun _ => rfl)
    · refine xe_sn pg_103 2 (fr' := (2, [(0, .int p1), (1, .int 1), (2, .int 65519)], [.int 1, .int p1])) rfl ?_
      refine xe_f2 pg_103 14 rfl rfl (by show ¬ ((p1).toInt < 1); omega) ?_
      refine xe_sn pg_103 2 (fr' := (7, [(0, .int p1), (1, .int 1), (2, .int 65519)], [.int 65519, .int p1])) rfl ?_
      refine xe_t2 pg_103 14 rfl rfl (by show 65519 < (p1).toInt; omega) ?_
      refine xe_sn pg_103 1 (fr' := (15, [(0, .int p1), (1, .int 1), (2, .int 65519)], [.int 0])) rfl ?_
      exact xe_end pg_103 rfl
    refine xe_sn pg_139 4 (fr' := (30, [(0, .ref 165), (1, .int 1), (2, .int p1)], [])) rfl ?_
    refine xe_sn pg_139 4 (fr' := (34, [(3, .int 0), (0, .ref 165), (1, .int 1), (2, .int p1)], [.int 4, .int 0])) rfl ?_
    refine xe_sn pg_139 4 (fr' := (73, [(3, .int 0), (0, .ref 165), (1, .int 1), (2, .int p1)], [])) rfl ?_
    refine xe_sn pg_139 4 (fr' := (81, [(3, .int 0), (0, .ref 165), (1, .int 1), (2, .int p1)], [.int 0])) rfl ?_
    exact xe_end pg_139 rfl
  · exact ⟨⟨rfl, rfl, rfl, rfl⟩, Nat.le_of_ble_eq_true rfl, Nat.le_of_ble_eq_true rfl, rfl, fun q => absurd q (by decide)⟩

set_option maxRecDepth 100000 in
theorem lf_secret_4 (xs : Nat → Int32) (e1 : Nat) (c1 : 1 ≤ e1) (d1 : e1 ≤ 65519) : op_ok xs 160 139 [.ref 0, .int 1, .int (nI e1), .ref 189] [.ref 165, .int 1, .int (nI e1)] := by
  refine ⟨0, (nI (17 ^ e1 % 65521)), ?_⟩
  apply Exists.intro
  apply Exists.intro
  apply And.intro
  · refine xe_sn pg_160 4 (fr' := (4, [(0, .ref 0), (1, .int 1), (2, .int (nI e1)), (3, .ref 189)], [.int 1, .ref 0, .int 0, .ref 189])) rfl ?_
    refine xe_sn pg_160 1 (fr' := (5, [(0, .ref 0), (1, .int 1), (2, .int (nI e1)), (3, .ref 189)], [.int (nI e1), .int 1, .ref 0, .int 0, .ref 189])) rfl ?_
    apply xe_callq pg_160 73 [.ref 0, .int 1, .int (nI e1)] (.inl (some (.int (nI (17 ^ e1 % 65521))))) (8, [(0, .ref 0), (1, .int 1), (2, .int (nI e1)), (3, .ref 189)], [.int (nI (17 ^ e1 % 65521)), .int 0, .ref 189]) rfl (fun _ => rfl)
    · refine xe_sn pg_73 1 (fr' := (1, [(0, .ref 0), (1, .int 1), (2, .int (nI e1))], [.int 1])) rfl ?_
      apply xe_callq pg_73 93 [.int 1] (.inl none) (4, [(0, .ref 0), (1, .int 1), (2, .int (nI e1))], []) rfl (fun _ => rfl)
      · refine xe_sn pg_93 4 (fr' := (6, [(0, .int 1)], [.int 1])) rfl ?_
        refine xe_sn pg_93 2 (fr' := (18, [(0, .int 1)], [])) rfl ?_
        exact xe_end pg_93 rfl
      refine xe_sn pg_73 1 (fr' := (5, [(0, .ref 0), (1, .int 1), (2, .int (nI e1))], [.int (nI e1)])) rfl ?_
      apply xe_callq pg_73 96 [.int (nI e1)] (.inl none) (8, [(0, .ref 0), (1, .int 1), (2, .int (nI e1))], []) rfl (fun _ => rfl)
      · refine xe_sn pg_96 2 (fr' := (2, [(0, .int (nI e1))], [.int 1, .int (nI e1)])) rfl ?_
        refine xe_f2 pg_96 15 rfl rfl (by show ¬ (((nI e1)).toInt < 1); rw [nI_toInt (n := e1) (by omega)]; omega) ?_
        refine xe_sn pg_96 2 (fr' := (8, [(0, .int (nI e1))], [.int 65519, .int (nI e1)])) rfl ?_
        refine xe_f2 pg_96 15 rfl rfl (by show ¬ (65519 < ((nI e1)).toInt); rw [nI_toInt (n := e1) (by omega)]; omega) ?_
        refine xe_sn pg_96 2 (fr' := (16, [(0, .int (nI e1))], [.int 1])) rfl ?_
        apply xe_callq pg_96 97 [.int 1] (.inl none) (19, [(0, .int (nI e1))], []) rfl (fun _ => rfl)
        · refine xe_sn pg_97 2 (fr' := (12, [(0, .int 1)], [])) rfl ?_
          exact xe_end pg_97 rfl
        exact xe_end pg_96 rfl
      refine xe_sn pg_73 4 (fr' := (14, [(0, .ref 0), (1, .int 1), (2, .int (nI e1))], [.int 1, .int 1, .ref 47])) rfl ?_
      refine xe_sn pg_73 4 (fr' := (18, [(3, .ref 48), (0, .ref 0), (1, .int 1), (2, .int (nI e1))], [.ref 48])) rfl ?_
      apply xe_callq pg_73 64 [.ref 48] (.inl (some (.int 0))) (21, [(3, .ref 48), (0, .ref 0), (1, .int 1), (2, .int (nI e1))], [.int 0]) rfl (fun _ => rfl)
      · refine xe_sn pg_64 4 (fr' := (4, [(1, .int 0), (0, .ref 48)], [.int 4, .int 0])) rfl ?_
        refine xe_sn pg_64 4 (fr' := (12, [(1, .int 0), (0, .ref 48)], [.int 0, .ref 49])) rfl ?_
        refine xe_sn pg_64 4 (fr' := (24, [(1, .int 1), (0, .ref 48)], [])) rfl ?_
        refine xe_sn pg_64 4 (fr' := (7, [(1, .int 1), (0, .ref 48)], [])) rfl ?_
        refine xe_sn pg_64 4 (fr' := (13, [(1, .int 1), (0, .ref 48)], [.ref 54])) rfl ?_
        refine xe_sn pg_64 4 (fr' := (2, [(1, .int 2), (0, .ref 48)], [])) rfl ?_
        refine xe_sn pg_64 4 (fr' := (8, [(1, .int 2), (0, .ref 48)], [.ref 48])) rfl ?_
        refine xe_sn pg_64 4 (fr' := (16, [(1, .int 2), (0, .ref 48)], [.int 0])) rfl ?_
        refine xe_sn pg_64 4 (fr' := (3, [(1, .int 3), (0, .ref 48)], [.int 3])) rfl ?_
        refine xe_sn pg_64 4 (fr' := (11, [(1, .int 3), (0, .ref 48)], [.ref 49])) rfl ?_
        refine xe_sn pg_64 4 (fr' := (21, [(1, .int 3), (0, .ref 48)], [])) rfl ?_
        refine xe_sn pg_64 4 (fr' := (4, [(1, .int 4), (0, .ref 48)], [.int 4, .int 4])) rfl ?_
        refine xe_sn pg_64 2 (fr' := (28, [(1, .int 4), (0, .ref 48)], [.int 0])) rfl ?_
        exact xe_end pg_64 rfl
      refine xe_sn pg_73 3 (fr' := (29, [(3, .ref 48), (0, .ref 0), (1, .int 1), (2, .int (nI e1))], [.int 1])) rfl ?_
      apply xe_callq pg_73 98 [.int 1] (.inl none) (32, [(3, .ref 48), (0, .ref 0), (1, .int 1), (2, .int (nI e1))], []) rfl (fun _ => rfl)
      · refine xe_sn pg_98 2 (fr' := (12, [(0, .int 1)], [])) rfl ?_
        exact xe_end pg_98 rfl
      refine xe_sn pg_73 2 (fr' := (34, [(3, .ref 48), (0, .ref 0), (1, .int 1), (2, .int (nI e1))], [.int (nI e1), .ref 48])) rfl ?_
      apply xe_callq pg_73 63 [.ref 48, .int (nI e1)] (.inl none) (37, [(3, .ref 48), (0, .ref 0), (1, .int 1), (2, .int (nI e1))], []) rfl (fun _ => rfl)
      · refine xe_sn pg_63 4 (fr' := (6, [(0, .ref 48), (1, .int (nI e1))], [.ref 48])) rfl ?_
        refine xe_sn pg_63 2 (fr' := (9, [(0, .ref 48), (1, .int (nI e1))], [.int (nI e1), .int 17, .ref 48])) rfl ?_
        apply xe_callq pg_63 0 [.int 17, .int (nI e1)] (.inl (some (.int (nI (17 ^ e1 % 65521))))) (12, [(0, .ref 48), (1, .int (nI e1))], [.int (nI (17 ^ e1 % 65521)), .ref 48]) rfl (fun _ => rfl)
        · exact c_raise _ (a := 17) (e := e1) (by omega) (by omega) _
        refine xe_sn pg_63 1 (fr' := (15, [(0, .ref 48), (1, .int (nI e1))], [])) rfl ?_
        exact xe_end pg_63 rfl
      refine xe_sn pg_73 2 (fr' := (41, [(3, .ref 48), (0, .ref 0), (1, .int 1), (2, .int (nI e1))], [.int (nI (17 ^ e1 % 65521))])) rfl ?_
      exact xe_end pg_73 rfl
    refine xe_sn pg_160 4 (fr' := (26, [(0, .ref 0), (1, .int 1), (2, .int (nI e1)), (3, .ref 189)], [.int 0])) rfl ?_
    exact xe_end pg_160 rfl
  refine And.intro ⟨rfl, rfl, rfl, rfl⟩ ?_
  apply And.intro
  · refine xe_sn pg_139 2 (fr' := (2, [(0, .ref 165), (1, .int 1), (2, .int (nI e1))], [.int 1, .ref 165])) rfl ?_
    apply xe_callq pg_139 105 [.int 1] (.inl (some (.int 1))) (5, [(0, .ref 165), (1, .int 1), (2, .int (nI e1))], [.int 1, .ref 165]) rfl (fun _ => rfl)
    · refine xe_sn pg_105 3 (fr' := (3, [(0, .int 1)], [.int 4, .int 1, .int 1])) rfl ?_
      apply xe_callq pg_105 103 [.int 1, .int 1, .int 4] (.inl (some (.int 1))) (6, [(0, .int 1)], [.int 1]) rfl (fun _ => rfl)
      · refine xe_sn pg_103 4 (fr' := (6, [(0, .int 1), (1, .int 1), (2, .int 4)], [.int 1])) rfl ?_
        refine xe_sn pg_103 4 (fr' := (15, [(0, .int 1), (1, .int 1), (2, .int 4)], [.int 1])) rfl ?_
        exact xe_end pg_103 rfl
      exact xe_end pg_105 rfl
    refine xe_sn pg_139 4 (fr' := (16, [(0, .ref 165), (1, .int 1), (2, .int (nI e1))], [.int 65519, .int 1, .int (nI e1), .ref 165])) rfl ?_
    apply xe_callq pg_139 103 [.int (nI e1), .int 1, .int 65519] (.inl (some (.int 1))) (19, [(0, .ref 165), (1, .int 1), (2, .int (nI e1))], [.int 1, .ref 165]) rfl (fun _ => rfl)
    · refine xe_sn pg_103 2 (fr' := (2, [(0, .int (nI e1)), (1, .int 1), (2, .int 65519)], [.int 1, .int (nI e1)])) rfl ?_
      refine xe_f2 pg_103 14 rfl rfl (by show ¬ (((nI e1)).toInt < 1); rw [nI_toInt (n := e1) (by omega)]; omega) ?_
      refine xe_sn pg_103 2 (fr' := (7, [(0, .int (nI e1)), (1, .int 1), (2, .int 65519)], [.int 65519, .int (nI e1)])) rfl ?_
      refine xe_f2 pg_103 14 rfl rfl (by show ¬ (65519 < ((nI e1)).toInt); rw [nI_toInt (n := e1) (by omega)]; omega) ?_
      refine xe_sn pg_103 2 (fr' := (15, [(0, .int (nI e1)), (1, .int 1), (2, .int 65519)], [.int 1])) rfl ?_
      exact xe_end pg_103 rfl
    refine xe_sn pg_139 4 (fr' := (31, [(0, .ref 165), (1, .int 1), (2, .int (nI e1))], [.int 0])) rfl ?_
    refine xe_sn pg_139 4 (fr' := (37, [(3, .int 0), (0, .ref 165), (1, .int 1), (2, .int (nI e1))], [])) rfl ?_
    refine xe_sn pg_139 4 (fr' := (45, [(3, .int 0), (0, .ref 165), (1, .int 1), (2, .int (nI e1))], [.ref 165])) rfl ?_
    refine xe_sn pg_139 4 (fr' := (51, [(3, .int 0), (0, .ref 165), (1, .int 1), (2, .int (nI e1))], [.int 1, .ref 165, .ref 180, .ref 165])) rfl ?_
    refine xe_sn pg_139 1 (fr' := (52, [(3, .int 0), (0, .ref 165), (1, .int 1), (2, .int (nI e1))], [.int 0, .int 1, .ref 165, .ref 180, .ref 165])) rfl ?_
    apply xe_callq pg_139 128 [.ref 165, .int 1, .int 0] (.inl (some (.int 0))) (55, [(3, .int 0), (0, .ref 165), (1, .int 1), (2, .int (nI e1))], [.int 0, .ref 180, .ref 165]) rfl (fun _ => rfl)
    · refine xe_sn pg_128 4 (fr' := (4, [(0, .ref 165), (1, .int 1), (2, .int 0)], [.int 0, .int 4])) rfl ?_
      refine xe_sn pg_128 3 (fr' := (7, [(0, .ref 165), (1, .int 1), (2, .int 0)], [.int 0])) rfl ?_
      exact xe_end pg_128 rfl
    refine xe_sn pg_139 4 (fr' := (67, [(3, .int 0), (0, .ref 165), (1, .int 1), (2, .int (nI e1))], [])) rfl ?_
    refine xe_sn pg_139 4 (fr' := (34, [(3, .int 1), (0, .ref 165), (1, .int 1), (2, .int (nI e1))], [.int 4, .int 1])) rfl ?_
    refine xe_sn pg_139 4 (fr' := (44, [(3, .int 1), (0, .ref 165), (1, .int 1), (2, .int (nI e1))], [])) rfl ?_
    refine xe_sn pg_139 4 (fr' := (50, [(3, .int 1), (0, .ref 165), (1, .int 1), (2, .int (nI e1))], [.ref 165, .ref 180, .ref 165])) rfl ?_
    refine xe_sn pg_139 2 (fr' := (52, [(3, .int 1), (0, .ref 165), (1, .int 1), (2, .int (nI e1))], [.int 1, .int 1, .ref 165, .ref 180, .ref 165])) rfl ?_
    apply xe_callq pg_139 128 [.ref 165, .int 1, .int 1] (.inl (some (.int 1))) (55, [(3, .int 1), (0, .ref 165), (1, .int 1), (2, .int (nI e1))], [.int 1, .ref 180, .ref 165]) rfl (fun _ => rfl)
    · refine xe_sn pg_128 4 (fr' := (4, [(0, .ref 165), (1, .int 1), (2, .int 1)], [.int 0, .int 4])) rfl ?_
      refine xe_sn pg_128 3 (fr' := (7, [(0, .ref 165), (1, .int 1), (2, .int 1)], [.int 1])) rfl ?_
      exact xe_end pg_128 rfl
    refine xe_sn pg_139 4 (fr' := (67, [(3, .int 1), (0, .ref 165), (1, .int 1), (2, .int (nI e1))], [])) rfl ?_
    refine xe_sn pg_139 4 (fr' := (34, [(3, .int 2), (0, .ref 165), (1, .int 1), (2, .int (nI e1))], [.int 4, .int 2])) rfl ?_
    refine xe_sn pg_139 4 (fr' := (44, [(3, .int 2), (0, .ref 165), (1, .int 1), (2, .int (nI e1))], [])) rfl ?_
    refine xe_sn pg_139 4 (fr' := (50, [(3, .int 2), (0, .ref 165), (1, .int 1), (2, .int (nI e1))], [.ref 165, .ref 180, .ref 165])) rfl ?_
    refine xe_sn pg_139 2 (fr' := (52, [(3, .int 2), (0, .ref 165), (1, .int 1), (2, .int (nI e1))], [.int 2, .int 1, .ref 165, .ref 180, .ref 165])) rfl ?_
    apply xe_callq pg_139 128 [.ref 165, .int 1, .int 2] (.inl (some (.int 2))) (55, [(3, .int 2), (0, .ref 165), (1, .int 1), (2, .int (nI e1))], [.int 2, .ref 180, .ref 165]) rfl (fun _ => rfl)
    · refine xe_sn pg_128 4 (fr' := (4, [(0, .ref 165), (1, .int 1), (2, .int 2)], [.int 0, .int 4])) rfl ?_
      refine xe_sn pg_128 3 (fr' := (7, [(0, .ref 165), (1, .int 1), (2, .int 2)], [.int 2])) rfl ?_
      exact xe_end pg_128 rfl
    refine xe_sn pg_139 4 (fr' := (67, [(3, .int 2), (0, .ref 165), (1, .int 1), (2, .int (nI e1))], [])) rfl ?_
    refine xe_sn pg_139 4 (fr' := (34, [(3, .int 3), (0, .ref 165), (1, .int 1), (2, .int (nI e1))], [.int 4, .int 3])) rfl ?_
    refine xe_sn pg_139 4 (fr' := (44, [(3, .int 3), (0, .ref 165), (1, .int 1), (2, .int (nI e1))], [])) rfl ?_
    refine xe_sn pg_139 4 (fr' := (50, [(3, .int 3), (0, .ref 165), (1, .int 1), (2, .int (nI e1))], [.ref 165, .ref 180, .ref 165])) rfl ?_
    refine xe_sn pg_139 2 (fr' := (52, [(3, .int 3), (0, .ref 165), (1, .int 1), (2, .int (nI e1))], [.int 3, .int 1, .ref 165, .ref 180, .ref 165])) rfl ?_
    apply xe_callq pg_139 128 [.ref 165, .int 1, .int 3] (.inl (some (.int 3))) (55, [(3, .int 3), (0, .ref 165), (1, .int 1), (2, .int (nI e1))], [.int 3, .ref 180, .ref 165]) rfl (fun _ => rfl)
    · refine xe_sn pg_128 4 (fr' := (4, [(0, .ref 165), (1, .int 1), (2, .int 3)], [.int 0, .int 4])) rfl ?_
      refine xe_sn pg_128 3 (fr' := (7, [(0, .ref 165), (1, .int 1), (2, .int 3)], [.int 3])) rfl ?_
      exact xe_end pg_128 rfl
    refine xe_sn pg_139 4 (fr' := (67, [(3, .int 3), (0, .ref 165), (1, .int 1), (2, .int (nI e1))], [])) rfl ?_
    refine xe_sn pg_139 4 (fr' := (34, [(3, .int 4), (0, .ref 165), (1, .int 1), (2, .int (nI e1))], [.int 4, .int 4])) rfl ?_
    refine xe_sn pg_139 4 (fr' := (82, [(3, .int 4), (0, .ref 165), (1, .int 1), (2, .int (nI e1))], [])) rfl ?_
    refine xe_sn pg_139 4 (fr' := (88, [(3, .int 4), (0, .ref 165), (1, .int 1), (2, .int (nI e1))], [.int (nI e1), .int 1, .ref 178])) rfl ?_
    refine xe_sn pg_139 3 (fr' := (92, [(3, .int 4), (0, .ref 165), (1, .int 1), (2, .int (nI e1))], [.int (nI e1), .int 17])) rfl ?_
    apply xe_callq pg_139 106 [.int 17, .int (nI e1)] (.inl (some (.int (nI (17 ^ e1 % 65521))))) (95, [(3, .int 4), (0, .ref 165), (1, .int 1), (2, .int (nI e1))], [.int (nI (17 ^ e1 % 65521))]) rfl (fun _ => rfl)
    · exact m_raise _ (a := 17) (e := e1) (by omega) (by omega) _
    exact xe_end pg_139 rfl
  · exact ⟨⟨rfl, rfl, rfl, rfl⟩, Nat.le_of_ble_eq_true rfl, Nat.le_of_ble_eq_true rfl, rfl, fun _ => rfl⟩

set_option maxRecDepth 100000 in
theorem lf_secret_5 (xs : Nat → Int32) (p1 : Int32) (a1 : p1.toInt < 1) : op_ok xs 160 139 [.ref 0, .int 2, .int p1, .ref 189] [.ref 165, .int 2, .int p1] := by
  refine ⟨2, 0, ?_⟩
  apply Exists.intro
  apply Exists.intro
  apply And.intro
  · refine xe_sn pg_160 4 (fr' := (4, [(0, .ref 0), (1, .int 2), (2, .int p1), (3, .ref 189)], [.int 2, .ref 0, .int 0, .ref 189])) rfl ?_
    refine xe_sn pg_160 1 (fr' := (5, [(0, .ref 0), (1, .int 2), (2, .int p1), (3, .ref 189)], [.int p1, .int 2, .ref 0, .int 0, .ref 189])) rfl ?_
    apply xe_callq pg_160 73 [.ref 0, .int 2, .int p1] (.inr 1) (19, [(0, .ref 0), (1, .int 2), (2, .int p1), (3, .ref 189)], []) rfl (fun _ => rfl)
    · refine xe_sn pg_73 1 (fr' := (1, [(0, .ref 0), (1, .int 2), (2, .int p1)], [.int 2])) rfl ?_
      apply xe_callq pg_73 93 [.int 2] (.inl none) (4, [(0, .ref 0), (1, .int 2), (2, .int p1)], []) rfl (fun _ => rfl)
      · refine xe_sn pg_93 4 (fr' := (6, [(0, .int 2)], [.int 2])) rfl ?_
        refine xe_sn pg_93 2 (fr' := (18, [(0, .int 2)], [])) rfl ?_
        exact xe_end pg_93 rfl
      refine xe_sn pg_73 1 (fr' := (5, [(0, .ref 0), (1, .int 2), (2, .int p1)], [.int p1])) rfl ?_
      apply xe_callqx pg_73 96 [.int p1] 1 rfl (fun _ => rfl)
      · refine xe_sn pg_96 2 (fr' := (2, [(0, .int p1)], [.int 1, .int p1])) rfl ?_
        refine xe_t2 pg_96 15 rfl rfl (by show (p1).toInt < 1; omega) ?_
        refine xe_sn pg_96 1 (fr' := (16, [(0, .int p1)], [.int 0])) rfl ?_
        apply xe_callqx pg_96 97 [.int 0] 1 rfl (fun _ => rfl)
        · refine xe_sn pg_97 2 (fr' := (4, [(0, .int 0)], [])) rfl ?_
          exact xe_end pg_97 rfl
    refine xe_sn pg_160 1 (fr' := (20, [(0, .ref 0), (1, .int 2), (2, .int p1), (3, .ref 189)], [.int 2])) rfl ?_
    exact xe_end pg_160 rfl
  refine And.intro ⟨rfl, rfl, rfl, rfl⟩ ?_
  apply And.intro
  · refine xe_sn pg_139 2 (fr' := (2, [(0, .ref 165), (1, .int 2), (2, .int p1)], [.int 2, .ref 165])) rfl ?_
    apply xe_callq pg_139 105 [.int 2] (.inl (some (.int 1))) (5, [(0, .ref 165), (1, .int 2), (2, .int p1)], [.int 1, .ref 165]) rfl (fun _ => rfl)
    · refine xe_sn pg_105 3 (fr' := (3, [(0, .int 2)], [.int 4, .int 1, .int 2])) rfl ?_
      apply xe_callq pg_105 103 [.int 2, .int 1, .int 4] (.inl (some (.int 1))) (6, [(0, .int 2)], [.int 1]) rfl (fun _ => rfl)
      · refine xe_sn pg_103 4 (fr' := (6, [(0, .int 2), (1, .int 1), (2, .int 4)], [.int 2])) rfl ?_
        refine xe_sn pg_103 4 (fr' := (15, [(0, .int 2), (1, .int 1), (2, .int 4)], [.int 1])) rfl ?_
        exact xe_end pg_103 rfl
      exact xe_end pg_105 rfl
    refine xe_sn pg_139 4 (fr' := (16, [(0, .ref 165), (1, .int 2), (2, .int p1)], [.int 65519, .int 1, .int p1, .ref 165])) rfl ?_
    apply xe_callq pg_139 103 [.int p1, .int 1, .int 65519] (.inl (some (.int 0))) (19, [(0, .ref 165), (1, .int 2), (2, .int p1)], [.int 0, .ref 165]) rfl (fun _ => rfl)
    · refine xe_sn pg_103 2 (fr' := (2, [(0, .int p1), (1, .int 1), (2, .int 65519)], [.int 1, .int p1])) rfl ?_
      refine xe_t2 pg_103 14 rfl rfl (by show (p1).toInt < 1; omega) ?_
      refine xe_sn pg_103 1 (fr' := (15, [(0, .int p1), (1, .int 1), (2, .int 65519)], [.int 0])) rfl ?_
      exact xe_end pg_103 rfl
    refine xe_sn pg_139 4 (fr' := (30, [(0, .ref 165), (1, .int 2), (2, .int p1)], [])) rfl ?_
    refine xe_sn pg_139 4 (fr' := (34, [(3, .int 0), (0, .ref 165), (1, .int 2), (2, .int p1)], [.int 4, .int 0])) rfl ?_
    refine xe_sn pg_139 4 (fr' := (73, [(3, .int 0), (0, .ref 165), (1, .int 2), (2, .int p1)], [])) rfl ?_
    refine xe_sn pg_139 4 (fr' := (81, [(3, .int 0), (0, .ref 165), (1, .int 2), (2, .int p1)], [.int 0])) rfl ?_
    exact xe_end pg_139 rfl
  · exact ⟨⟨rfl, rfl, rfl, rfl⟩, Nat.le_of_ble_eq_true rfl, Nat.le_of_ble_eq_true rfl, rfl, fun q => absurd q (by decide)⟩

set_option maxRecDepth 100000 in
theorem lf_secret_6 (xs : Nat → Int32) (p1 : Int32) (b1 : 65519 < p1.toInt) : op_ok xs 160 139 [.ref 0, .int 2, .int p1, .ref 189] [.ref 165, .int 2, .int p1] := by
  refine ⟨2, 0, ?_⟩
  apply Exists.intro
  apply Exists.intro
  apply And.intro
  · refine xe_sn pg_160 4 (fr' := (4, [(0, .ref 0), (1, .int 2), (2, .int p1), (3, .ref 189)], [.int 2, .ref 0, .int 0, .ref 189])) rfl ?_
    refine xe_sn pg_160 1 (fr' := (5, [(0, .ref 0), (1, .int 2), (2, .int p1), (3, .ref 189)], [.int p1, .int 2, .ref 0, .int 0, .ref 189])) rfl ?_
    apply xe_callq pg_160 73 [.ref 0, .int 2, .int p1] (.inr 1) (19, [(0, .ref 0), (1, .int 2), (2, .int p1), (3, .ref 189)], []) rfl (fun _ => rfl)
    · refine xe_sn pg_73 1 (fr' := (1, [(0, .ref 0), (1, .int 2), (2, .int p1)], [.int 2])) rfl ?_
      apply xe_callq pg_73 93 [.int 2] (.inl none) (4, [(0, .ref 0), (1, .int 2), (2, .int p1)], []) rfl (fun _ => rfl)
      · refine xe_sn pg_93 4 (fr' := (6, [(0, .int 2)], [.int 2])) rfl ?_
        refine xe_sn pg_93 2 (fr' := (18, [(0, .int 2)], [])) rfl ?_
        exact xe_end pg_93 rfl
      refine xe_sn pg_73 1 (fr' := (5, [(0, .ref 0), (1, .int 2), (2, .int p1)], [.int p1])) rfl ?_
      apply xe_callqx pg_73 96 [.int p1] 1 rfl (fun _ => rfl)
      · refine xe_sn pg_96 2 (fr' := (2, [(0, .int p1)], [.int 1, .int p1])) rfl ?_
        refine xe_f2 pg_96 15 rfl rfl (by show ¬ ((p1).toInt < 1); omega) ?_
        refine xe_sn pg_96 2 (fr' := (8, [(0, .int p1)], [.int 65519, .int p1])) rfl ?_
        refine xe_t2 pg_96 15 rfl rfl (by show 65519 < (p1).toInt; omega) ?_
        refine xe_sn pg_96 1 (fr' := (16, [(0, .int p1)], [.int 0])) rfl ?_
        apply xe_callqx pg_96 97 [.int 0] 1 rfl (fun _ => rfl)
        · refine xe_sn pg_97 2 (fr' := (4, [(0, .int 0)], [])) rfl ?_
          exact xe_end pg_97 rfl
    refine xe_sn pg_160 1 (fr' := (20, [(0, .ref 0), (1, .int 2), (2, .int p1), (3, .ref 189)], [.int 2])) rfl ?_
    exact xe_end pg_160 rfl
  refine And.intro ⟨rfl, rfl, rfl, rfl⟩ ?_
  apply And.intro
  · refine xe_sn pg_139 2 (fr' := (2, [(0, .ref 165), (1, .int 2), (2, .int p1)], [.int 2, .ref 165])) rfl ?_
    apply xe_callq pg_139 105 [.int 2] (.inl (some (.int 1))) (5, [(0, .ref 165), (1, .int 2), (2, .int p1)], [.int 1, .ref 165]) rfl (fun _ => rfl)
    · refine xe_sn pg_105 3 (fr' := (3, [(0, .int 2)], [.int 4, .int 1, .int 2])) rfl ?_
      apply xe_callq pg_105 103 [.int 2, .int 1, .int 4] (.inl (some (.int 1))) (6, [(0, .int 2)], [.int 1]) rfl (fun _ => rfl)
      · refine xe_sn pg_103 4 (fr' := (6, [(0, .int 2), (1, .int 1), (2, .int 4)], [.int 2])) rfl ?_
        refine xe_sn pg_103 4 (fr' := (15, [(0, .int 2), (1, .int 1), (2, .int 4)], [.int 1])) rfl ?_
        exact xe_end pg_103 rfl
      exact xe_end pg_105 rfl
    refine xe_sn pg_139 4 (fr' := (16, [(0, .ref 165), (1, .int 2), (2, .int p1)], [.int 65519, .int 1, .int p1, .ref 165])) rfl ?_
    apply xe_callq pg_139 103 [.int p1, .int 1, .int 65519] (.inl (some (.int 0))) (19, [(0, .ref 165), (1, .int 2), (2, .int p1)], [.int 0, .ref 165]) rfl (fun _ => rfl)
    · refine xe_sn pg_103 2 (fr' := (2, [(0, .int p1), (1, .int 1), (2, .int 65519)], [.int 1, .int p1])) rfl ?_
      refine xe_f2 pg_103 14 rfl rfl (by show ¬ ((p1).toInt < 1); omega) ?_
      refine xe_sn pg_103 2 (fr' := (7, [(0, .int p1), (1, .int 1), (2, .int 65519)], [.int 65519, .int p1])) rfl ?_
      refine xe_t2 pg_103 14 rfl rfl (by show 65519 < (p1).toInt; omega) ?_
      refine xe_sn pg_103 1 (fr' := (15, [(0, .int p1), (1, .int 1), (2, .int 65519)], [.int 0])) rfl ?_
      exact xe_end pg_103 rfl
    refine xe_sn pg_139 4 (fr' := (30, [(0, .ref 165), (1, .int 2), (2, .int p1)], [])) rfl ?_
    refine xe_sn pg_139 4 (fr' := (34, [(3, .int 0), (0, .ref 165), (1, .int 2), (2, .int p1)], [.int 4, .int 0])) rfl ?_
    refine xe_sn pg_139 4 (fr' := (73, [(3, .int 0), (0, .ref 165), (1, .int 2), (2, .int p1)], [])) rfl ?_
    refine xe_sn pg_139 4 (fr' := (81, [(3, .int 0), (0, .ref 165), (1, .int 2), (2, .int p1)], [.int 0])) rfl ?_
    exact xe_end pg_139 rfl
  · exact ⟨⟨rfl, rfl, rfl, rfl⟩, Nat.le_of_ble_eq_true rfl, Nat.le_of_ble_eq_true rfl, rfl, fun q => absurd q (by decide)⟩

set_option maxRecDepth 100000 in
theorem lf_secret_7 (xs : Nat → Int32) (e1 : Nat) (c1 : 1 ≤ e1) (d1 : e1 ≤ 65519) : op_ok xs 160 139 [.ref 0, .int 2, .int (nI e1), .ref 189] [.ref 165, .int 2, .int (nI e1)] := by
  refine ⟨0, (nI (17 ^ e1 % 65521)), ?_⟩
  apply Exists.intro
  apply Exists.intro
  apply And.intro
  · refine xe_sn pg_160 4 (fr' := (4, [(0, .ref 0), (1, .int 2), (2, .int (nI e1)), (3, .ref 189)], [.int 2, .ref 0, .int 0, .ref 189])) rfl ?_
    refine xe_sn pg_160 1 (fr' := (5, [(0, .ref 0), (1, .int 2), (2, .int (nI e1)), (3, .ref 189)], [.int (nI e1), .int 2, .ref 0, .int 0, .ref 189])) rfl ?_
    apply xe_callq pg_160 73 [.ref 0, .int 2, .int (nI e1)] (.inl (some (.int (nI (17 ^ e1 % 65521))))) (8, [(0, .ref 0), (1, .int 2), (2, .int (nI e1)), (3, .ref 189)], [.int (nI (17 ^ e1 % 65521)), .int 0, .ref 189]) rfl (fun _ => rfl)
    · refine xe_sn pg_73 1 (fr' := (1, [(0, .ref 0), (1, .int 2), (2, .int (nI e1))], [.int 2])) rfl ?_
      apply xe_callq pg_73 93 [.int 2] (.inl none) (4, [(0, .ref 0), (1, .int 2), (2, .int (nI e1))], []) rfl (fun _ => rfl)
      · refine xe_sn pg_93 4 (fr' := (6, [(0, .int 2)], [.int 2])) rfl ?_
        refine xe_sn pg_93 2 (fr' := (18, [(0, .int 2)], [])) rfl ?_
        exact xe_end pg_93 rfl
      refine xe_sn pg_73 1 (fr' := (5, [(0, .ref 0), (1, .int 2), (2, .int (nI e1))], [.int (nI e1)])) rfl ?_
      apply xe_callq pg_73 96 [.int (nI e1)] (.inl none) (8, [(0, .ref 0), (1, .int 2), (2, .int (nI e1))], []) rfl (fun _ => rfl)
      · refine xe_sn pg_96 2 (fr' := (2, [(0, .int (nI e1))], [.int 1, .int (nI e1)])) rfl ?_
        refine xe_f2 pg_96 15 rfl rfl (by show ¬ (((nI e1)).toInt < 1); rw [nI_toInt (n := e1) (by omega)]; omega) ?_
        refine xe_sn pg_96 2 (fr' := (8, [(0, .int (nI e1))], [.int 65519, .int (nI e1)])) rfl ?_
        refine xe_f2 pg_96 15 rfl rfl (by show ¬ (65519 < ((nI e1)).toInt); rw [nI_toInt (n := e1) (by omega)]; omega) ?_
        refine xe_sn pg_96 2 (fr' := (16, [(0, .int (nI e1))], [.int 1])) rfl ?_
        apply xe_callq pg_96 97 [.int 1] (.inl none) (19, [(0, .int (nI e1))], []) rfl (fun _ => rfl)
        · refine xe_sn pg_97 2 (fr' := (12, [(0, .int 1)], [])) rfl ?_
          exact xe_end pg_97 rfl
        exact xe_end pg_96 rfl
      refine xe_sn pg_73 4 (fr' := (14, [(0, .ref 0), (1, .int 2), (2, .int (nI e1))], [.int 1, .int 2, .ref 47])) rfl ?_
      refine xe_sn pg_73 4 (fr' := (18, [(3, .ref 66), (0, .ref 0), (1, .int 2), (2, .int (nI e1))], [.ref 66])) rfl ?_
      apply xe_callq pg_73 64 [.ref 66] (.inl (some (.int 0))) (21, [(3, .ref 66), (0, .ref 0), (1, .int 2), (2, .int (nI e1))], [.int 0]) rfl (fun _ => rfl)
      · refine xe_sn pg_64 4 (fr' := (4, [(1, .int 0), (0, .ref 66)], [.int 4, .int 0])) rfl ?_
        refine xe_sn pg_64 4 (fr' := (12, [(1, .int 0), (0, .ref 66)], [.int 0, .ref 67])) rfl ?_
        refine xe_sn pg_64 4 (fr' := (24, [(1, .int 1), (0, .ref 66)], [])) rfl ?_
        refine xe_sn pg_64 4 (fr' := (7, [(1, .int 1), (0, .ref 66)], [])) rfl ?_
        refine xe_sn pg_64 4 (fr' := (13, [(1, .int 1), (0, .ref 66)], [.ref 72])) rfl ?_
        refine xe_sn pg_64 4 (fr' := (2, [(1, .int 2), (0, .ref 66)], [])) rfl ?_
        refine xe_sn pg_64 4 (fr' := (8, [(1, .int 2), (0, .ref 66)], [.ref 66])) rfl ?_
        refine xe_sn pg_64 4 (fr' := (16, [(1, .int 2), (0, .ref 66)], [.int 0])) rfl ?_
        refine xe_sn pg_64 4 (fr' := (3, [(1, .int 3), (0, .ref 66)], [.int 3])) rfl ?_
        refine xe_sn pg_64 4 (fr' := (11, [(1, .int 3), (0, .ref 66)], [.ref 67])) rfl ?_
        refine xe_sn pg_64 4 (fr' := (21, [(1, .int 3), (0, .ref 66)], [])) rfl ?_
        refine xe_sn pg_64 4 (fr' := (4, [(1, .int 4), (0, .ref 66)], [.int 4, .int 4])) rfl ?_
        refine xe_sn pg_64 2 (fr' := (28, [(1, .int 4), (0, .ref 66)], [.int 0])) rfl ?_
        exact xe_end pg_64 rfl
      refine xe_sn pg_73 3 (fr' := (29, [(3, .ref 66), (0, .ref 0), (1, .int 2), (2, .int (nI e1))], [.int 1])) rfl ?_
      apply xe_callq pg_73 98 [.int 1] (.inl none) (32, [(3, .ref 66), (0, .ref 0), (1, .int 2), (2, .int (nI e1))], []) rfl (fun _ => rfl)
      · refine xe_sn pg_98 2 (fr' := (12, [(0, .int 1)], [])) rfl ?_
        exact xe_end pg_98 rfl
      refine xe_sn pg_73 2 (fr' := (34, [(3, .ref 66), (0, .ref 0), (1, .int 2), (2, .int (nI e1))], [.int (nI e1), .ref 66])) rfl ?_
      apply xe_callq pg_73 63 [.ref 66, .int (nI e1)] (.inl none) (37, [(3, .ref 66), (0, .ref 0), (1, .int 2), (2, .int (nI e1))], []) rfl (fun _ => rfl)
      · refine xe_sn pg_63 4 (fr' := (6, [(0, .ref 66), (1, .int (nI e1))], [.ref 66])) rfl ?_
        refine xe_sn pg_63 2 (fr' := (9, [(0, .ref 66), (1, .int (nI e1))], [.int (nI e1), .int 17, .ref 66])) rfl ?_
        apply xe_callq pg_63 0 [.int 17, .int (nI e1)] (.inl (some (.int (nI (17 ^ e1 % 65521))))) (12, [(0, .ref 66), (1, .int (nI e1))], [.int (nI (17 ^ e1 % 65521)), .ref 66]) rfl (fun _ => rfl)
        · exact c_raise _ (a := 17) (e := e1) (by omega) (by omega) _
        refine xe_sn pg_63 1 (fr' := (15, [(0, .ref 66), (1, .int (nI e1))], [])) rfl ?_
        exact xe_end pg_63 rfl
      refine xe_sn pg_73 2 (fr' := (41, [(3, .ref 66), (0, .ref 0), (1, .int 2), (2, .int (nI e1))], [.int (nI (17 ^ e1 % 65521))])) rfl ?_
      exact xe_end pg_73 rfl
    refine xe_sn pg_160 4 (fr' := (26, [(0, .ref 0), (1, .int 2), (2, .int (nI e1)), (3, .ref 189)], [.int 0])) rfl ?_
    exact xe_end pg_160 rfl
  refine And.intro ⟨rfl, rfl, rfl, rfl⟩ ?_
  apply And.intro
  · refine xe_sn pg_139 2 (fr' := (2, [(0, .ref 165), (1, .int 2), (2, .int (nI e1))], [.int 2, .ref 165])) rfl ?_
    apply xe_callq pg_139 105 [.int 2] (.inl (some (.int 1))) (5, [(0, .ref 165), (1, .int 2), (2, .int (nI e1))], [.int 1, .ref 165]) rfl (fun _ => rfl)
    · refine xe_sn pg_105 3 (fr' := (3, [(0, .int 2)], [.int 4, .int 1, .int 2])) rfl ?_
      apply xe_callq pg_105 103 [.int 2, .int 1, .int 4] (.inl (some (.int 1))) (6, [(0, .int 2)], [.int 1]) rfl (fun _ => rfl)
      · refine xe_sn pg_103 4 (fr' := (6, [(0, .int 2), (1, .int 1), (2, .int 4)], [.int 2])) rfl ?_
        refine xe_sn pg_103 4 (fr' := (15, [(0, .int 2), (1, .int 1), (2, .int 4)], [.int 1])) rfl ?_
        exact xe_end pg_103 rfl
      exact xe_end pg_105 rfl
    refine xe_sn pg_139 4 (fr' := (16, [(0, .ref 165), (1, .int 2), (2, .int (nI e1))], [.int 65519, .int 1, .int (nI e1), .ref 165])) rfl ?_
    apply xe_callq pg_139 103 [.int (nI e1), .int 1, .int 65519] (.inl (some (.int 1))) (19, [(0, .ref 165), (1, .int 2), (2, .int (nI e1))], [.int 1, .ref 165]) rfl (fun _ => rfl)
    · refine xe_sn pg_103 2 (fr' := (2, [(0, .int (nI e1)), (1, .int 1), (2, .int 65519)], [.int 1, .int (nI e1)])) rfl ?_
      refine xe_f2 pg_103 14 rfl rfl (by show ¬ (((nI e1)).toInt < 1); rw [nI_toInt (n := e1) (by omega)]; omega) ?_
      refine xe_sn pg_103 2 (fr' := (7, [(0, .int (nI e1)), (1, .int 1), (2, .int 65519)], [.int 65519, .int (nI e1)])) rfl ?_
      refine xe_f2 pg_103 14 rfl rfl (by show ¬ (65519 < ((nI e1)).toInt); rw [nI_toInt (n := e1) (by omega)]; omega) ?_
      refine xe_sn pg_103 2 (fr' := (15, [(0, .int (nI e1)), (1, .int 1), (2, .int 65519)], [.int 1])) rfl ?_
      exact xe_end pg_103 rfl
    refine xe_sn pg_139 4 (fr' := (31, [(0, .ref 165), (1, .int 2), (2, .int (nI e1))], [.int 0])) rfl ?_
    refine xe_sn pg_139 4 (fr' := (37, [(3, .int 0), (0, .ref 165), (1, .int 2), (2, .int (nI e1))], [])) rfl ?_
    refine xe_sn pg_139 4 (fr' := (45, [(3, .int 0), (0, .ref 165), (1, .int 2), (2, .int (nI e1))], [.ref 165])) rfl ?_
    refine xe_sn pg_139 4 (fr' := (51, [(3, .int 0), (0, .ref 165), (1, .int 2), (2, .int (nI e1))], [.int 2, .ref 165, .ref 180, .ref 165])) rfl ?_
    refine xe_sn pg_139 1 (fr' := (52, [(3, .int 0), (0, .ref 165), (1, .int 2), (2, .int (nI e1))], [.int 0, .int 2, .ref 165, .ref 180, .ref 165])) rfl ?_
    apply xe_callq pg_139 128 [.ref 165, .int 2, .int 0] (.inl (some (.int 4))) (55, [(3, .int 0), (0, .ref 165), (1, .int 2), (2, .int (nI e1))], [.int 4, .ref 180, .ref 165]) rfl (fun _ => rfl)
    · refine xe_sn pg_128 4 (fr' := (4, [(0, .ref 165), (1, .int 2), (2, .int 0)], [.int 1, .int 4])) rfl ?_
      refine xe_sn pg_128 3 (fr' := (7, [(0, .ref 165), (1, .int 2), (2, .int 0)], [.int 4])) rfl ?_
      exact xe_end pg_128 rfl
    refine xe_sn pg_139 4 (fr' := (67, [(3, .int 0), (0, .ref 165), (1, .int 2), (2, .int (nI e1))], [])) rfl ?_
    refine xe_sn pg_139 4 (fr' := (34, [(3, .int 1), (0, .ref 165), (1, .int 2), (2, .int (nI e1))], [.int 4, .int 1])) rfl ?_
    refine xe_sn pg_139 4 (fr' := (44, [(3, .int 1), (0, .ref 165), (1, .int 2), (2, .int (nI e1))], [])) rfl ?_
    refine xe_sn pg_139 4 (fr' := (50, [(3, .int 1), (0, .ref 165), (1, .int 2), (2, .int (nI e1))], [.ref 165, .ref 180, .ref 165])) rfl ?_
    refine xe_sn pg_139 2 (fr' := (52, [(3, .int 1), (0, .ref 165), (1, .int 2), (2, .int (nI e1))], [.int 1, .int 2, .ref 165, .ref 180, .ref 165])) rfl ?_
    apply xe_callq pg_139 128 [.ref 165, .int 2, .int 1] (.inl (some (.int 5))) (55, [(3, .int 1), (0, .ref 165), (1, .int 2), (2, .int (nI e1))], [.int 5, .ref 180, .ref 165]) rfl (fun _ => rfl)
    · refine xe_sn pg_128 4 (fr' := (4, [(0, .ref 165), (1, .int 2), (2, .int 1)], [.int 1, .int 4])) rfl ?_
      refine xe_sn pg_128 3 (fr' := (7, [(0, .ref 165), (1, .int 2), (2, .int 1)], [.int 5])) rfl ?_
      exact xe_end pg_128 rfl
    refine xe_sn pg_139 4 (fr' := (67, [(3, .int 1), (0, .ref 165), (1, .int 2), (2, .int (nI e1))], [])) rfl ?_
    refine xe_sn pg_139 4 (fr' := (34, [(3, .int 2), (0, .ref 165), (1, .int 2), (2, .int (nI e1))], [.int 4, .int 2])) rfl ?_
    refine xe_sn pg_139 4 (fr' := (44, [(3, .int 2), (0, .ref 165), (1, .int 2), (2, .int (nI e1))], [])) rfl ?_
    refine xe_sn pg_139 4 (fr' := (50, [(3, .int 2), (0, .ref 165), (1, .int 2), (2, .int (nI e1))], [.ref 165, .ref 180, .ref 165])) rfl ?_
    refine xe_sn pg_139 2 (fr' := (52, [(3, .int 2), (0, .ref 165), (1, .int 2), (2, .int (nI e1))], [.int 2, .int 2, .ref 165, .ref 180, .ref 165])) rfl ?_
    apply xe_callq pg_139 128 [.ref 165, .int 2, .int 2] (.inl (some (.int 6))) (55, [(3, .int 2), (0, .ref 165), (1, .int 2), (2, .int (nI e1))], [.int 6, .ref 180, .ref 165]) rfl (fun _ => rfl)
    · refine xe_sn pg_128 4 (fr' := (4, [(0, .ref 165), (1, .int 2), (2, .int 2)], [.int 1, .int 4])) rfl ?_
      refine xe_sn pg_128 3 (fr' := (7, [(0, .ref 165), (1, .int 2), (2, .int 2)], [.int 6])) rfl ?_
      exact xe_end pg_128 rfl
    refine xe_sn pg_139 4 (fr' := (67, [(3, .int 2), (0, .ref 165), (1, .int 2), (2, .int (nI e1))], [])) rfl ?_
    refine xe_sn pg_139 4 (fr' := (34, [(3, .int 3), (0, .ref 165), (1, .int 2), (2, .int (nI e1))], [.int 4, .int 3])) rfl ?_
    refine xe_sn pg_139 4 (fr' := (44, [(3, .int 3), (0, .ref 165), (1, .int 2), (2, .int (nI e1))], [])) rfl ?_
    refine xe_sn pg_139 4 (fr' := (50, [(3, .int 3), (0, .ref 165), (1, .int 2), (2, .int (nI e1))], [.ref 165, .ref 180, .ref 165])) rfl ?_
    refine xe_sn pg_139 2 (fr' := (52, [(3, .int 3), (0, .ref 165), (1, .int 2), (2, .int (nI e1))], [.int 3, .int 2, .ref 165, .ref 180, .ref 165])) rfl ?_
    apply xe_callq pg_139 128 [.ref 165, .int 2, .int 3] (.inl (some (.int 7))) (55, [(3, .int 3), (0, .ref 165), (1, .int 2), (2, .int (nI e1))], [.int 7, .ref 180, .ref 165]) rfl (fun _ => rfl)
    · refine xe_sn pg_128 4 (fr' := (4, [(0, .ref 165), (1, .int 2), (2, .int 3)], [.int 1, .int 4])) rfl ?_
      refine xe_sn pg_128 3 (fr' := (7, [(0, .ref 165), (1, .int 2), (2, .int 3)], [.int 7])) rfl ?_
      exact xe_end pg_128 rfl
    refine xe_sn pg_139 4 (fr' := (67, [(3, .int 3), (0, .ref 165), (1, .int 2), (2, .int (nI e1))], [])) rfl ?_
    refine xe_sn pg_139 4 (fr' := (34, [(3, .int 4), (0, .ref 165), (1, .int 2), (2, .int (nI e1))], [.int 4, .int 4])) rfl ?_
    refine xe_sn pg_139 4 (fr' := (82, [(3, .int 4), (0, .ref 165), (1, .int 2), (2, .int (nI e1))], [])) rfl ?_
    refine xe_sn pg_139 4 (fr' := (88, [(3, .int 4), (0, .ref 165), (1, .int 2), (2, .int (nI e1))], [.int (nI e1), .int 2, .ref 178])) rfl ?_
    refine xe_sn pg_139 3 (fr' := (92, [(3, .int 4), (0, .ref 165), (1, .int 2), (2, .int (nI e1))], [.int (nI e1), .int 17])) rfl ?_
    apply xe_callq pg_139 106 [.int 17, .int (nI e1)] (.inl (some (.int (nI (17 ^ e1 % 65521))))) (95, [(3, .int 4), (0, .ref 165), (1, .int 2), (2, .int (nI e1))], [.int (nI (17 ^ e1 % 65521))]) rfl (fun _ => rfl)
    · exact m_raise _ (a := 17) (e := e1) (by omega) (by omega) _
    exact xe_end pg_139 rfl
  · exact ⟨⟨rfl, rfl, rfl, rfl⟩, Nat.le_of_ble_eq_true rfl, Nat.le_of_ble_eq_true rfl, rfl, fun _ => rfl⟩

set_option maxRecDepth 100000 in
theorem lf_secret_8 (xs : Nat → Int32) (p1 : Int32) (a1 : p1.toInt < 1) : op_ok xs 160 139 [.ref 0, .int 3, .int p1, .ref 189] [.ref 165, .int 3, .int p1] := by
  refine ⟨2, 0, ?_⟩
  apply Exists.intro
  apply Exists.intro
  apply And.intro
  · refine xe_sn pg_160 4 (fr' := (4, [(0, .ref 0), (1, .int 3), (2, .int p1), (3, .ref 189)], [.int 3, .ref 0, .int 0, .ref 189])) rfl ?_
    refine xe_sn pg_160 1 (fr' := (5, [(0, .ref 0), (1, .int 3), (2, .int p1), (3, .ref 189)], [.int p1, .int 3, .ref 0, .int 0, .ref 189])) rfl ?_
    apply xe_callq pg_160 73 [.ref 0, .int 3, .int p1] (.inr 1) (19, [(0, .ref 0), (1, .int 3), (2, .int p1), (3, .ref 189)], []) rfl (fun _ => rfl)
    · refine xe_sn pg_73 1 (fr' := (1, [(0, .ref 0), (1, .int 3), (2, .int p1)], [.int 3])) rfl ?_
      apply xe_callq pg_73 93 [.int 3] (.inl none) (4, [(0, .ref 0), (1, .int 3), (2, .int p1)], []) rfl (fun _ => rfl)
      · refine xe_sn pg_93 4 (fr' := (6, [(0, .int 3)], [.int 3])) rfl ?_
        refine xe_sn pg_93 2 (fr' := (18, [(0, .int 3)], [])) rfl ?_
        exact xe_end pg_93 rfl
      refine xe_sn pg_73 1 (fr' := (5, [(0, .ref 0), (1, .int 3), (2, .int p1)], [.int p1])) rfl ?_
      apply xe_callqx pg_73 96 [.int p1] 1 rfl (fun _ => rfl)
      · refine xe_sn pg_96 2 (fr' := (2, [(0, .int p1)], [.int 1, .int p1])) rfl ?_
        refine xe_t2 pg_96 15 rfl rfl (by show (p1).toInt < 1; omega) ?_
        refine xe_sn pg_96 1 (fr' := (16, [(0, .int p1)], [.int 0])) rfl ?_
        apply xe_callqx pg_96 97 [.int 0] 1 rfl (fun _ => rfl)
        · refine xe_sn pg_97 2 (fr' := (4, [(0, .int 0)], [])) rfl ?_
          exact xe_end pg_97 rfl
    refine xe_sn pg_160 1 (fr' := (20, [(0, .ref 0), (1, .int 3), (2, .int p1), (3, .ref 189)], [.int 2])) rfl ?_
    exact xe_end pg_160 rfl
  refine And.intro ⟨rfl, rfl, rfl, rfl⟩ ?_
  apply And.intro
  · refine xe_sn pg_139 2 (fr' := (2, [(0, .ref 165), (1, .int 3), (2, .int p1)], [.int 3, .ref 165])) rfl ?_
    apply xe_callq pg_139 105 [.int 3] (.inl (some (.int 1))) (5, [(0, .ref 165), (1, .int 3), (2, .int p1)], [.int 1, .ref 165]) rfl (fun _ => rfl)
    · refine xe_sn pg_105 3 (fr' := (3, [(0, .int 3)], [.int 4, .int 1, .int 3])) rfl ?_
      apply xe_callq pg_105 103 [.int 3, .int 1, .int 4] (.inl (some (.int 1))) (6, [(0, .int 3)], [.int 1]) rfl (fun _ => rfl)
      · refine xe_sn pg_103 4 (fr' := (6, [(0, .int 3), (1, .int 1), (2, .int 4)], [.int 3])) rfl ?_
        refine xe_sn pg_103 4 (fr' := (15, [(0, .int 3), (1, .int 1), (2, .int 4)], [.int 1])) rfl ?_
        exact xe_end pg_103 rfl
      exact xe_end pg_105 rfl
    refine xe_sn pg_139 4 (fr' := (16, [(0, .ref 165), (1, .int 3), (2, .int p1)], [.int 65519, .int 1, .int p1, .ref 165])) rfl ?_
    apply xe_callq pg_139 103 [.int p1, .int 1, .int 65519] (.inl (some (.int 0))) (19, [(0, .ref 165), (1, .int 3), (2, .int p1)], [.int 0, .ref 165]) rfl (fun _ => rfl)
    · refine xe_sn pg_103 2 (fr' := (2, [(0, .int p1), (1, .int 1), (2, .int 65519)], [.int 1, .int p1])) rfl ?_
      refine xe_t2 pg_103 14 rfl rfl (by show (p1).toInt < 1; omega) ?_
      refine xe_sn pg_103 1 (fr' := (15, [(0, .int p1), (1, .int 1), (2, .int 65519)], [.int 0])) rfl ?_
      exact xe_end pg_103 rfl
    refine xe_sn pg_139 4 (fr' := (30, [(0, .ref 165), (1, .int 3), (2, .int p1)], [])) rfl ?_
    refine xe_sn pg_139 4 (fr' := (34, [(3, .int 0), (0, .ref 165), (1, .int 3), (2, .int p1)], [.int 4, .int 0])) rfl ?_
    refine xe_sn pg_139 4 (fr' := (73, [(3, .int 0), (0, .ref 165), (1, .int 3), (2, .int p1)], [])) rfl ?_
    refine xe_sn pg_139 4 (fr' := (81, [(3, .int 0), (0, .ref 165), (1, .int 3), (2, .int p1)], [.int 0])) rfl ?_
    exact xe_end pg_139 rfl
  · exact ⟨⟨rfl, rfl, rfl, rfl⟩, Nat.le_of_ble_eq_true rfl, Nat.le_of_ble_eq_true rfl, rfl, fun q => absurd q (by decide)⟩

set_option maxRecDepth 100000 in
theorem lf_secret_9 (xs : Nat → Int32) (p1 : Int32) (b1 : 65519 < p1.toInt) : op_ok xs 160 139 [.ref 0, .int 3, .int p1, .ref 189] [.ref 165, .int 3, .int p1] := by
  refine ⟨2, 0, ?_⟩
  apply Exists.intro
  apply Exists.intro
  apply And.intro
  · refine xe_sn pg_160 4 (fr' := (4, [(0, .ref 0), (1, .int 3), (2, .int p1), (3, .ref 189)], [.int 3, .ref 0, .int 0, .ref 189])) rfl ?_
    refine xe_sn pg_160 1 (fr' := (5, [(0, .ref 0), (1, .int 3), (2, .int p1), (3, .ref 189)], [.int p1, .int 3, .ref 0, .int 0, .ref 189])) rfl ?_
    apply xe_callq pg_160 73 [.ref 0, .int 3, .int p1] (.inr 1) (19, [(0, .ref 0), (1, .int 3), (2, .int p1), (3, .ref 189)], []) rfl (fun _ => rfl)
    · refine xe_sn pg_73 1 (fr' := (1, [(0, .ref 0), (1, .int 3), (2, .int p1)], [.int 3])) rfl ?_
      apply xe_callq pg_73 93 [.int 3] (.inl none) (4, [(0, .ref 0), (1, .int 3), (2, .int p1)], []) rfl (fun _ => rfl)
      · refine xe_sn pg_93 4 (fr' := (6, [(0, .int 3)], [.int 3])) rfl ?_
        refine xe_sn pg_93 2 (fr' := (18, [(0, .int 3)], [])) rfl ?_
        exact xe_end pg_93 rfl
      refine xe_sn pg_73 1 (fr' := (5, [(0, .ref 0), (1, .int 3), (2, .int p1)], [.int p1])) rfl ?_
      apply xe_callqx pg_73 96 [.int p1] 1 rfl (fun _ => rfl)
      · refine xe_sn pg_96 2 (fr' := (2, [(0, .int p1)], [.int 1, .int p1])) rfl ?_
        refine xe_f2 pg_96 15 rfl rfl (by show ¬ ((p1).toInt < 1); omega) ?_
        refine xe_sn pg_96 2 (fr' := (8, [(0, .int p1)], [.int 65519, .int p1])) rfl ?_
        refine xe_t2 pg_96 15 rfl rfl (by show 65519 < (p1).toInt; omega) ?_
        refine xe_sn pg_96 1 (fr' := (16, [(0, .int p1)], [.int 0])) rfl ?_
        apply xe_callqx pg_96 97 [.int 0] 1 rfl (fun _ => rfl)
        · refine xe_sn pg_97 2 (fr' := (4, [(0, .int 0)], [])) rfl ?_
          exact xe_end pg_97 rfl
    refine xe_sn pg_160 1 (fr' := (20, [(0, .ref 0), (1, .int 3), (2, .int p1), (3, .ref 189)], [.int 2])) rfl ?_
    exact xe_end pg_160 rfl
  refine And.intro ⟨rfl, rfl, rfl, rfl⟩ ?_
  apply And.intro
  · refine xe_sn pg_139 2 (fr' := (2, [(0, .ref 165), (1, .int 3), (2, .int p1)], [.int 3, .ref 165])) rfl ?_
    apply xe_callq pg_139 105 [.int 3] (.inl (some (.int 1))) (5, [(0, .ref 165), (1, .int 3), (2, .int p1)], [.int 1, .ref 165]) rfl (fun _ => rfl)
    · refine xe_sn pg_105 3 (fr' := (3, [(0, .int 3)], [.int 4, .int 1, .int 3])) rfl ?_
      apply xe_callq pg_105 103 [.int 3, .int 1, .int 4] (.inl (some (.int 1))) (6, [(0, .int 3)], [.int 1]) rfl (fun _ => rfl)
      · refine xe_sn pg_103 4 (fr' := (6, [(0, .int 3), (1, .int 1), (2, .int 4)], [.int 3])) rfl ?_
        refine xe_sn pg_103 4 (fr' := (15, [(0, .int 3), (1, .int 1), (2, .int 4)], [.int 1])) rfl ?_
        exact xe_end pg_103 rfl
      exact xe_end pg_105 rfl
    refine xe_sn pg_139 4 (fr' := (16, [(0, .ref 165), (1, .int 3), (2, .int p1)], [.int 65519, .int 1, .int p1, .ref 165])) rfl ?_
    apply xe_callq pg_139 103 [.int p1, .int 1, .int 65519] (.inl (some (.int 0))) (19, [(0, .ref 165), (1, .int 3), (2, .int p1)], [.int 0, .ref 165]) rfl (fun _ => rfl)
    · refine xe_sn pg_103 2 (fr' := (2, [(0, .int p1), (1, .int 1), (2, .int 65519)], [.int 1, .int p1])) rfl ?_
      refine xe_f2 pg_103 14 rfl rfl (by show ¬ ((p1).toInt < 1); omega) ?_
      refine xe_sn pg_103 2 (fr' := (7, [(0, .int p1), (1, .int 1), (2, .int 65519)], [.int 65519, .int p1])) rfl ?_
      refine xe_t2 pg_103 14 rfl rfl (by show 65519 < (p1).toInt; omega) ?_
      refine xe_sn pg_103 1 (fr' := (15, [(0, .int p1), (1, .int 1), (2, .int 65519)], [.int 0])) rfl ?_
      exact xe_end pg_103 rfl
    refine xe_sn pg_139 4 (fr' := (30, [(0, .ref 165), (1, .int 3), (2, .int p1)], [])) rfl ?_
    refine xe_sn pg_139 4 (fr' := (34, [(3, .int 0), (0, .ref 165), (1, .int 3), (2, .int p1)], [.int 4, .int 0])) rfl ?_
    refine xe_sn pg_139 4 (fr' := (73, [(3, .int 0), (0, .ref 165), (1, .int 3), (2, .int p1)], [])) rfl ?_
    refine xe_sn pg_139 4 (fr' := (81, [(3, .int 0), (0, .ref 165), (1, .int 3), (2, .int p1)], [.int 0])) rfl ?_
    exact xe_end pg_139 rfl
  · exact ⟨⟨rfl, rfl, rfl, rfl⟩, Nat.le_of_ble_eq_true rfl, Nat.le_of_ble_eq_true rfl, rfl, fun q => absurd q (by decide)⟩

set_option maxRecDepth 100000 in
theorem lf_secret_10 (xs : Nat → Int32) (e1 : Nat) (c1 : 1 ≤ e1) (d1 : e1 ≤ 65519) : op_ok xs 160 139 [.ref 0, .int 3, .int (nI e1), .ref 189] [.ref 165, .int 3, .int (nI e1)] := by
  refine ⟨0, (nI (17 ^ e1 % 65521)), ?_⟩
  apply Exists.intro
  apply Exists.intro
  apply And.intro
  · refine xe_sn pg_160 4 (fr' := (4, [(0, .ref 0), (1, .int 3), (2, .int (nI e1)), (3, .ref 189)], [.int 3, .ref 0, .int 0, .ref 189])) rfl ?_
    refine xe_sn pg_160 1 (fr' := (5, [(0, .ref 0), (1, .int 3), (2, .int (nI e1)), (3, .ref 189)], [.int (nI e1), .int 3, .ref 0, .int 0, .ref 189])) rfl ?_
    apply xe_callq pg_160 73 [.ref 0, .int 3, .int (nI e1)] (.inl (some (.int (nI (17 ^ e1 % 65521))))) (8, [(0, .ref 0), (1, .int 3), (2, .int (nI e1)), (3, .ref 189)], [.int (nI (17 ^ e1 % 65521)), .int 0, .ref 189]) rfl (fun _ => rfl)
    · refine xe_sn pg_73 1 (fr' := (1, [(0, .ref 0), (1, .int 3), (2, .int (nI e1))], [.int 3])) rfl ?_
      apply xe_callq pg_73 93 [.int 3] (.inl none) (4, [(0, .ref 0), (1, .int 3), (2, .int (nI e1))], []) rfl (fun _ => rfl)
      · refine xe_sn pg_93 4 (fr' := (6, [(0, .int 3)], [.int 3])) rfl ?_
        refine xe_sn pg_93 2 (fr' := (18, [(0, .int 3)], [])) rfl ?_
        exact xe_end pg_93 rfl
      refine xe_sn pg_73 1 (fr' := (5, [(0, .ref 0), (1, .int 3), (2, .int (nI e1))], [.int (nI e1)])) rfl ?_
      apply xe_callq pg_73 96 [.int (nI e1)] (.inl none) (8, [(0, .ref 0), (1, .int 3), (2, .int (nI e1))], []) rfl (fun _ => rfl)
      · refine xe_sn pg_96 2 (fr' := (2, [(0, .int (nI e1))], [.int 1, .int (nI e1)])) rfl ?_
        refine xe_f2 pg_96 15 rfl rfl (by show ¬ (((nI e1)).toInt < 1); rw [nI_toInt (n := e1) (by omega)]; omega) ?_
        refine xe_sn pg_96 2 (fr' := (8, [(0, .int (nI e1))], [.int 65519, .int (nI e1)])) rfl ?_
        refine xe_f2 pg_96 15 rfl rfl (by show ¬ (65519 < ((nI e1)).toInt); rw [nI_toInt (n := e1) (by omega)]; omega) ?_
        refine xe_sn pg_96 2 (fr' := (16, [(0, .int (nI e1))], [.int 1])) rfl ?_
        apply xe_callq pg_96 97 [.int 1] (.inl none) (19, [(0, .int (nI e1))], []) rfl (fun _ => rfl)
        · refine xe_sn pg_97 2 (fr' := (12, [(0, .int 1)], [])) rfl ?_
          exact xe_end pg_97 rfl
        exact xe_end pg_96 rfl
      refine xe_sn pg_73 4 (fr' := (14, [(0, .ref 0), (1, .int 3), (2, .int (nI e1))], [.int 1, .int 3, .ref 47])) rfl ?_
      refine xe_sn pg_73 4 (fr' := (18, [(3, .ref 84), (0, .ref 0), (1, .int 3), (2, .int (nI e1))], [.ref 84])) rfl ?_
      apply xe_callq pg_73 64 [.ref 84] (.inl (some (.int 0))) (21, [(3, .ref 84), (0, .ref 0), (1, .int 3), (2, .int (nI e1))], [.int 0]) rfl (fun _ => rfl)
      · refine xe_sn pg_64 4 (fr' := (4, [(1, .int 0), (0, .ref 84)], [.int 4, .int 0])) rfl ?_
        refine xe_sn pg_64 4 (fr' := (12, [(1, .int 0), (0, .ref 84)], [.int 0, .ref 85])) rfl ?_
        refine xe_sn pg_64 4 (fr' := (24, [(1, .int 1), (0, .ref 84)], [])) rfl ?_
        refine xe_sn pg_64 4 (fr' := (7, [(1, .int 1), (0, .ref 84)], [])) rfl ?_
        refine xe_sn pg_64 4 (fr' := (13, [(1, .int 1), (0, .ref 84)], [.ref 90])) rfl ?_
        refine xe_sn pg_64 4 (fr' := (2, [(1, .int 2), (0, .ref 84)], [])) rfl ?_
        refine xe_sn pg_64 4 (fr' := (8, [(1, .int 2), (0, .ref 84)], [.ref 84])) rfl ?_
        refine xe_sn pg_64 4 (fr' := (16, [(1, .int 2), (0, .ref 84)], [.int 0])) rfl ?_
        refine xe_sn pg_64 4 (fr' := (3, [(1, .int 3), (0, .ref 84)], [.int 3])) rfl ?_
        refine xe_sn pg_64 4 (fr' := (11, [(1, .int 3), (0, .ref 84)], [.ref 85])) rfl ?_
        refine xe_sn pg_64 4 (fr' := (21, [(1, .int 3), (0, .ref 84)], [])) rfl ?_
        refine xe_sn pg_64 4 (fr' := (4, [(1, .int 4), (0, .ref 84)], [.int 4, .int 4])) rfl ?_
        refine xe_sn pg_64 2 (fr' := (28, [(1, .int 4), (0, .ref 84)], [.int 0])) rfl ?_
        exact xe_end pg_64 rfl
      refine xe_sn pg_73 3 (fr' := (29, [(3, .ref 84), (0, .ref 0), (1, .int 3), (2, .int (nI e1))], [.int 1])) rfl ?_
      apply xe_callq pg_73 98 [.int 1] (.inl none) (32, [(3, .ref 84), (0, .ref 0), (1, .int 3), (2, .int (nI e1))], []) rfl (fun _ => rfl)
      · refine xe_sn pg_98 2 (fr' := (12, [(0, .int 1)], [])) rfl ?_
        exact xe_end pg_98 rfl
      refine xe_sn pg_73 2 (fr' := (34, [(3, .ref 84), (0, .ref 0), (1, .int 3), (2, .int (nI e1))], [.int (nI e1), .ref 84])) rfl ?_
      apply xe_callq pg_73 63 [.ref 84, .int (nI e1)] (.inl none) (37, [(3, .ref 84), (0, .ref 0), (1, .int 3), (2, .int (nI e1))], []) rfl (fun _ => rfl)
      · refine xe_sn pg_63 4 (fr' := (6, [(0, .ref 84), (1, .int (nI e1))], [.ref 84])) rfl ?_
        refine xe_sn pg_63 2 (fr' := (9, [(0, .ref 84), (1, .int (nI e1))], [.int (nI e1), .int 17, .ref 84])) rfl ?_
        apply xe_callq pg_63 0 [.int 17, .int (nI e1)] (.inl (some (.int (nI (17 ^ e1 % 65521))))) (12, [(0, .ref 84), (1, .int (nI e1))], [.int (nI (17 ^ e1 % 65521)), .ref 84]) rfl (fun _ => rfl)
        · exact c_raise _ (a := 17) (e := e1) (by omega) (by omega) _
        refine xe_sn pg_63 1 (fr' := (15, [(0, .ref 84), (1, .int (nI e1))], [])) rfl ?_
        exact xe_end pg_63 rfl
      refine xe_sn pg_73 2 (fr' := (41, [(3, .ref 84), (0, .ref 0), (1, .int 3), (2, .int (nI e1))], [.int (nI (17 ^ e1 % 65521))])) rfl ?_
      exact xe_end pg_73 rfl
    refine xe_sn pg_160 4 (fr' := (26, [(0, .ref 0), (1, .int 3), (2, .int (nI e1)), (3, .ref 189)], [.int 0])) rfl ?_
    exact xe_end pg_160 rfl
  refine And.intro ⟨rfl, rfl, rfl, rfl⟩ ?_
  apply And.intro
  · refine xe_sn pg_139 2 (fr' := (2, [(0, .ref 165), (1, .int 3), (2, .int (nI e1))], [.int 3, .ref 165])) rfl ?_
    apply xe_callq pg_139 105 [.int 3] (.inl (some (.int 1))) (5, [(0, .ref 165), (1, .int 3), (2, .int (nI e1))], [.int 1, .ref 165]) rfl (fun _ => rfl)
    · refine xe_sn pg_105 3 (fr' := (3, [(0, .int 3)], [.int 4, .int 1, .int 3])) rfl ?_
      apply xe_callq pg_105 103 [.int 3, .int 1, .int 4] (.inl (some (.int 1))) (6, [(0, .int 3)], [.int 1]) rfl (fun _ => rfl)
      · refine xe_sn pg_103 4 (fr' := (6, [(0, .int 3), (1, .int 1), (2, .int 4)], [.int 3])) rfl ?_
        refine xe_sn pg_103 4 (fr' := (15, [(0, .int 3), (1, .int 1), (2, .int 4)], [.int 1])) rfl ?_
        exact xe_end pg_103 rfl
      exact xe_end pg_105 rfl
    refine xe_sn pg_139 4 (fr' := (16, [(0, .ref 165), (1, .int 3), (2, .int (nI e1))], [.int 65519, .int 1, .int (nI e1), .ref 165])) rfl ?_
    apply xe_callq pg_139 103 [.int (nI e1), .int 1, .int 65519] (.inl (some (.int 1))) (19, [(0, .ref 165), (1, .int 3), (2, .int (nI e1))], [.int 1, .ref 165]) rfl (fun _ => rfl)
    · refine xe_sn pg_103 2 (fr' := (2, [(0, .int (nI e1)), (1, .int 1), (2, .int 65519)], [.int 1, .int (nI e1)])) rfl ?_
      refine xe_f2 pg_103 14 rfl rfl (by show ¬ (((nI e1)).toInt < 1); rw [nI_toInt (n := e1) (by omega)]; omega) ?_
      refine xe_sn pg_103 2 (fr' := (7, [(0, .int (nI e1)), (1, .int 1), (2, .int 65519)], [.int 65519, .int (nI e1)])) rfl ?_
      refine xe_f2 pg_103 14 rfl rfl (by show ¬ (65519 < ((nI e1)).toInt); rw [nI_toInt (n := e1) (by omega)]; omega) ?_
      refine xe_sn pg_103 2 (fr' := (15, [(0, .int (nI e1)), (1, .int 1), (2, .int 65519)], [.int 1])) rfl ?_
      exact xe_end pg_103 rfl
    refine xe_sn pg_139 4 (fr' := (31, [(0, .ref 165), (1, .int 3), (2, .int (nI e1))], [.int 0])) rfl ?_
    refine xe_sn pg_139 4 (fr' := (37, [(3, .int 0), (0, .ref 165), (1, .int 3), (2, .int (nI e1))], [])) rfl ?_
    refine xe_sn pg_139 4 (fr' := (45, [(3, .int 0), (0, .ref 165), (1, .int 3), (2, .int (nI e1))], [.ref 165])) rfl ?_
    refine xe_sn pg_139 4 (fr' := (51, [(3, .int 0), (0, .ref 165), (1, .int 3), (2, .int (nI e1))], [.int 3, .ref 165, .ref 180, .ref 165])) rfl ?_
    refine xe_sn pg_139 1 (fr' := (52, [(3, .int 0), (0, .ref 165), (1, .int 3), (2, .int (nI e1))], [.int 0, .int 3, .ref 165, .ref 180, .ref 165])) rfl ?_
    apply xe_callq pg_139 128 [.ref 165, .int 3, .int 0] (.inl (some (.int 8))) (55, [(3, .int 0), (0, .ref 165), (1, .int 3), (2, .int (nI e1))], [.int 8, .ref 180, .ref 165]) rfl (fun _ => rfl)
    · refine xe_sn pg_128 4 (fr' := (4, [(0, .ref 165), (1, .int 3), (2, .int 0)], [.int 2, .int 4])) rfl ?_
      refine xe_sn pg_128 3 (fr' := (7, [(0, .ref 165), (1, .int 3), (2, .int 0)], [.int 8])) rfl ?_
      exact xe_end pg_128 rfl
    refine xe_sn pg_139 4 (fr' := (67, [(3, .int 0), (0, .ref 165), (1, .int 3), (2, .int (nI e1))], [])) rfl ?_
    refine xe_sn pg_139 4 (fr' := (34, [(3, .int 1), (0, .ref 165), (1, .int 3), (2, .int (nI e1))], [.int 4, .int 1])) rfl ?_
    refine xe_sn pg_139 4 (fr' := (44, [(3, .int 1), (0, .ref 165), (1, .int 3), (2, .int (nI e1))], [])) rfl ?_
    refine xe_sn pg_139 4 (fr' := (50, [(3, .int 1), (0, .ref 165), (1, .int 3), (2, .int (nI e1))], [.ref 165, .ref 180, .ref 165])) rfl ?_
    refine xe_sn pg_139 2 (fr' := (52, [(3, .int 1), (0, .ref 165), (1, .int 3), (2, .int (nI e1))], [.int 1, .int 3, .ref 165, .ref 180, .ref 165])) rfl ?_
    apply xe_callq pg_139 128 [.ref 165, .int 3, .int 1] (.inl (some (.int 9))) (55, [(3, .int 1), (0, .ref 165), (1, .int 3), (2, .int (nI e1))], [.int 9, .ref 180, .ref 165]) rfl (fun _ => rfl)
    · refine xe_sn pg_128 4 (fr' := (4, [(0, .ref 165), (1, .int 3), (2, .int 1)], [.int 2, .int 4])) rfl ?_
      refine xe_sn pg_128 3 (fr' := (7, [(0, .ref 165), (1, .int 3), (2, .int 1)], [.int 9])) rfl ?_
      exact xe_end pg_128 rfl
    refine xe_sn pg_139 4 (fr' := (67, [(3, .int 1), (0, .ref 165), (1, .int 3), (2, .int (nI e1))], [])) rfl ?_
    refine xe_sn pg_139 4 (fr' := (34, [(3, .int 2), (0, .ref 165), (1, .int 3), (2, .int (nI e1))], [.int 4, .int 2])) rfl ?_
    refine xe_sn pg_139 4 (fr' := (44, [(3, .int 2), (0, .ref 165), (1, .int 3), (2, .int (nI e1))], [])) rfl ?_
    refine xe_sn pg_139 4 (fr' := (50, [(3, .int 2), (0, .ref 165), (1, .int 3), (2, .int (nI e1))], [.ref 165, .ref 180, .ref 165])) rfl ?_
    refine xe_sn pg_139 2 (fr' := (52, [(3, .int 2), (0, .ref 165), (1, .int 3), (2, .int (nI e1))], [.int 2, .int 3, .ref 165, .ref 180, .ref 165])) rfl ?_
    apply xe_callq pg_139 128 [.ref 165, .int 3, .int 2] (.inl (some (.int 10))) (55, [(3, .int 2), (0, .ref 165), (1, .int 3), (2, .int (nI e1))], [.int 10, .ref 180, .ref 165]) rfl (fun _ => rfl)
    · refine xe_sn pg_128 4 (fr' := (4, [(0, .ref 165), (1, .int 3), (2, .int 2)], [.int 2, .int 4])) rfl ?_
      refine xe_sn pg_128 3 (fr' := (7, [(0, .ref 165), (1, .int 3), (2, .int 2)], [.int 10])) rfl ?_
      exact xe_end pg_128 rfl
    refine xe_sn pg_139 4 (fr' := (67, [(3, .int 2), (0, .ref 165), (1, .int 3), (2, .int (nI e1))], [])) rfl ?_
    refine xe_sn pg_139 4 (fr' := (34, [(3, .int 3), (0, .ref 165), (1, .int 3), (2, .int (nI e1))], [.int 4, .int 3])) rfl ?_
    refine xe_sn pg_139 4 (fr' := (44, [(3, .int 3), (0, .ref 165), (1, .int 3), (2, .int (nI e1))], [])) rfl ?_
    refine xe_sn pg_139 4 (fr' := (50, [(3, .int 3), (0, .ref 165), (1, .int 3), (2, .int (nI e1))], [.ref 165, .ref 180, .ref 165])) rfl ?_
    refine xe_sn pg_139 2 (fr' := (52, [(3, .int 3), (0, .ref 165), (1, .int 3), (2, .int (nI e1))], [.int 3, .int 3, .ref 165, .ref 180, .ref 165])) rfl ?_
    apply xe_callq pg_139 128 [.ref 165, .int 3, .int 3] (.inl (some (.int 11))) (55, [(3, .int 3), (0, .ref 165), (1, .int 3), (2, .int (nI e1))], [.int 11, .ref 180, .ref 165]) rfl (fun _ => rfl)
    · refine xe_sn pg_128 4 (fr' := (4, [(0, .ref 165), (1, .int 3), (2, .int 3)], [.int 2, .int 4])) rfl ?_
      refine xe_sn pg_128 3 (fr' := (7, [(0, .ref 165), (1, .int 3), (2, .int 3)], [.int 11])) rfl ?_
      exact xe_end pg_128 rfl
    refine xe_sn pg_139 4 (fr' := (67, [(3, .int 3), (0, .ref 165), (1, .int 3), (2, .int (nI e1))], [])) rfl ?_
    refine xe_sn pg_139 4 (fr' := (34, [(3, .int 4), (0, .ref 165), (1, .int 3), (2, .int (nI e1))], [.int 4, .int 4])) rfl ?_
    refine xe_sn pg_139 4 (fr' := (82, [(3, .int 4), (0, .ref 165), (1, .int 3), (2, .int (nI e1))], [])) rfl ?_
    refine xe_sn pg_139 4 (fr' := (88, [(3, .int 4), (0, .ref 165), (1, .int 3), (2, .int (nI e1))], [.int (nI e1), .int 3, .ref 178])) rfl ?_
    refine xe_sn pg_139 3 (fr' := (92, [(3, .int 4), (0, .ref 165), (1, .int 3), (2, .int (nI e1))], [.int (nI e1), .int 17])) rfl ?_
    apply xe_callq pg_139 106 [.int 17, .int (nI e1)] (.inl (some (.int (nI (17 ^ e1 % 65521))))) (95, [(3, .int 4), (0, .ref 165), (1, .int 3), (2, .int (nI e1))], [.int (nI (17 ^ e1 % 65521))]) rfl (fun _ => rfl)
    · exact m_raise _ (a := 17) (e := e1) (by omega) (by omega) _
    exact xe_end pg_139 rfl
  · exact ⟨⟨rfl, rfl, rfl, rfl⟩, Nat.le_of_ble_eq_true rfl, Nat.le_of_ble_eq_true rfl, rfl, fun _ => rfl⟩

set_option maxRecDepth 100000 in
theorem lf_secret_11 (xs : Nat → Int32) (p1 : Int32) (a1 : p1.toInt < 1) : op_ok xs 160 139 [.ref 0, .int 4, .int p1, .ref 189] [.ref 165, .int 4, .int p1] := by
  refine ⟨2, 0, ?_⟩
  apply Exists.intro
  apply Exists.intro
  apply And.intro
  · refine xe_sn pg_160 4 (fr' := (4, [(0, .ref 0), (1, .int 4), (2, .int p1), (3, .ref 189)], [.int 4, .ref 0, .int 0, .ref 189])) rfl ?_
    refine xe_sn pg_160 1 (fr' := (5, [(0, .ref 0), (1, .int 4), (2, .int p1), (3, .ref 189)], [.int p1, .int 4, .ref 0, .int 0, .ref 189])) rfl ?_
    apply xe_callq pg_160 73 [.ref 0, .int 4, .int p1] (.inr 1) (19, [(0, .ref 0), (1, .int 4), (2, .int p1), (3, .ref 189)], []) rfl (fun _ => rfl)
    · refine xe_sn pg_73 1 (fr' := (1, [(0, .ref 0), (1, .int 4), (2, .int p1)], [.int 4])) rfl ?_
      apply xe_callq pg_73 93 [.int 4] (.inl none) (4, [(0, .ref 0), (1, .int 4), (2, .int p1)], []) rfl (fun _ => rfl)
      · refine xe_sn pg_93 4 (fr' := (6, [(0, .int 4)], [.int 4])) rfl ?_
        refine xe_sn pg_93 2 (fr' := (18, [(0, .int 4)], [])) rfl ?_
        exact xe_end pg_93 rfl
      refine xe_sn pg_73 1 (fr' := (5, [(0, .ref 0), (1, .int 4), (2, .int p1)], [.int p1])) rfl ?_
      apply xe_callqx pg_73 96 [.int p1] 1 rfl (fun _ => rfl)
      · refine xe_sn pg_96 2 (fr' := (2, [(0, .int p1)], [.int 1, .int p1])) rfl ?_
        refine xe_t2 pg_96 15 rfl rfl (by show (p1).toInt < 1; omega) ?_
        refine xe_sn pg_96 1 (fr' := (16, [(0, .int p1)], [.int 0])) rfl ?_
        apply xe_callqx pg_96 97 [.int 0] 1 rfl (fun _ => rfl)
        · refine xe_sn pg_97 2 (fr' := (4, [(0, .int 0)], [])) rfl ?_
          exact xe_end pg_97 rfl
    refine xe_sn pg_160 1 (fr' := (20, [(0, .ref 0), (1, .int 4), (2, .int p1), (3, .ref 189)], [.int 2])) rfl ?_
    exact xe_end pg_160 rfl
  refine And.intro ⟨rfl, rfl, rfl, rfl⟩ ?_
  apply And.intro
  · refine xe_sn pg_139 2 (fr' := (2, [(0, .ref 165), (1, .int 4), (2, .int p1)], [.int 4, .ref 165])) rfl ?_
    apply xe_callq pg_139 105 [.int 4] (.inl (some (.int 1))) (5, [(0, .ref 165), (1, .int 4), (2, .int p1)], [.int 1, .ref 165]) rfl (fun _ => rfl)
    · refine xe_sn pg_105 3 (fr' := (3, [(0, .int 4)], [.int 4, .int 1, .int 4])) rfl ?_
      apply xe_callq pg_105 103 [.int 4, .int 1, .int 4] (.inl (some (.int 1))) (6, [(0, .int 4)], [.int 1]) rfl (fun _ => rfl)
      · refine xe_sn pg_103 4 (fr' := (6, [(0, .int 4), (1, .int 1), (2, .int 4)], [.int 4])) rfl ?_
        refine xe_sn pg_103 4 (fr' := (15, [(0, .int 4), (1, .int 1), (2, .int 4)], [.int 1])) rfl ?_
        exact xe_end pg_103 rfl
      exact xe_end pg_105 rfl
    refine xe_sn pg_139 4 (fr' := (16, [(0, .ref 165), (1, .int 4), (2, .int p1)], [.int 65519, .int 1, .int p1, .ref 165])) rfl ?_
    apply xe_callq pg_139 103 [.int p1, .int 1, .int 65519] (.inl (some (.int 0))) (19, [(0, .ref 165), (1, .int 4), (2, .int p1)], [.int 0, .ref 165]) rfl (fun _ => rfl)
    · refine xe_sn pg_103 2 (fr' := (2, [(0, .int p1), (1, .int 1), (2, .int 65519)], [.int 1, .int p1])) rfl ?_
      refine xe_t2 pg_103 14 rfl rfl (by show (p1).toInt < 1; omega) ?_
      refine xe_sn pg_103 1 (fr' := (15, [(0, .int p1), (1, .int 1), (2, .int 65519)], [.int 0])) rfl ?_
      exact xe_end pg_103 rfl
    refine xe_sn pg_139 4 (fr' := (30, [(0, .ref 165), (1, .int 4), (2, .int p1)], [])) rfl ?_
    refine xe_sn pg_139 4 (fr' := (34, [(3, .int 0), (0, .ref 165), (1, .int 4), (2, .int p1)], [.int 4, .int 0])) rfl ?_
    refine xe_sn pg_139 4 (fr' := (73, [(3, .int 0), (0, .ref 165), (1, .int 4), (2, .int p1)], [])) rfl ?_
    refine xe_sn pg_139 4 (fr' := (81, [(3, .int 0), (0, .ref 165), (1, .int 4), (2, .int p1)], [.int 0])) rfl ?_
    exact xe_end pg_139 rfl
  · exact ⟨⟨rfl, rfl, rfl, rfl⟩, Nat.le_of_ble_eq_true rfl, Nat.le_of_ble_eq_true rfl, rfl, fun q => absurd q (by decide)⟩

set_option maxRecDepth 100000 in
theorem lf_secret_12 (xs : Nat → Int32) (p1 : Int32) (b1 : 65519 < p1.toInt) : op_ok xs 160 139 [.ref 0, .int 4, .int p1, .ref 189] [.ref 165, .int 4, .int p1] := by
  refine ⟨2, 0, ?_⟩
  apply Exists.intro
  apply Exists.intro
  apply And.intro
  · refine xe_sn pg_160 4 (fr' := (4, [(0, .ref 0), (1, .int 4), (2, .int p1), (3, .ref 189)], [.int 4, .ref 0, .int 0, .ref 189])) rfl ?_
    refine xe_sn pg_160 1 (fr' := (5, [(0, .ref 0), (1, .int 4), (2, .int p1), (3, .ref 189)], [.int p1, .int 4, .ref 0, .int 0, .ref 189])) rfl ?_
    apply xe_callq pg_160 73 [.ref 0, .int 4, .int p1] (.inr 1) (19, [(0, .ref 0), (1, .int 4), (2, .int p1), (3, .ref 189)], []) rfl (fun _ => rfl)
    · refine xe_sn pg_73 1 (fr' := (1, [(0, .ref 0), (1, .int 4), (2, .int p1)], [.int 4])) rfl ?_
      apply xe_callq pg_73 93 [.int 4] (.inl none) (4, [(0, .ref 0), (1, .int 4), (2, .int p1)], []) rfl (fun _ => rfl)
      · refine xe_sn pg_93 4 (fr' := (6, [(0, .int 4)], [.int 4])) rfl ?_
        refine xe_sn pg_93 2 (fr' := (18, [(0, .int 4)], [])) rfl ?_
        exact xe_end pg_93 rfl
      refine xe_sn pg_73 1 (fr' := (5, [(0, .ref 0), (1, .int 4), (2, .int p1)], [.int p1])) rfl ?_
      apply xe_callqx pg_73 96 [.int p1] 1 rfl (fun _ => rfl)
      · refine xe_sn pg_96 2 (fr' := (2, [(0, .int p1)], [.int 1, .int p1])) rfl ?_
        refine xe_f2 pg_96 15 rfl rfl (by show ¬ ((p1).toInt < 1); omega) ?_
        refine xe_sn pg_96 2 (fr' := (8, [(0, .int p1)], [.int 65519, .int p1])) rfl ?_
        refine xe_t2 pg_96 15 rfl rfl (by show 65519 < (p1).toInt; omega) ?_
        refine xe_sn pg_96 1 (fr' := (16, [(0, .int p1)], [.int 0])) rfl ?_
        apply xe_callqx pg_96 97 [.int 0] 1 rfl (fun _ => rfl)
        · refine xe_sn pg_97 2 (fr' := (4, [(0, .int 0)], [])) rfl ?_
          exact xe_end pg_97 rfl
    refine xe_sn pg_160 1 (fr' := (20, [(0, .ref 0), (1, .int 4), (2, .int p1), (3, .ref 189)], [.int 2])) rfl ?_
    exact xe_end pg_160 rfl
  refine And.intro ⟨rfl, rfl, rfl, rfl⟩ ?_
  apply And.intro
  · refine xe_sn pg_139 2 (fr' := (2, [(0, .ref 165), (1, .int 4), (2, .int p1)], [.int 4, .ref 165])) rfl ?_
    apply xe_callq pg_139 105 [.int 4] (.inl (some (.int 1))) (5, [(0, .ref 165), (1, .int 4), (2, .int p1)], [.int 1, .ref 165]) rfl (fun _ => rfl)
    · refine xe_sn pg_105 3 (fr' := (3, [(0, .int 4)], [.int 4, .int 1, .int 4])) rfl ?_
      apply xe_callq pg_105 103 [.int 4, .int 1, .int 4] (.inl (some (.int 1))) (6, [(0, .int 4)], [.int 1]) rfl (fun _ => rfl)
      · refine xe_sn pg_103 4 (fr' := (6, [(0, .int 4), (1, .int 1), (2, .int 4)], [.int 4])) rfl ?_
        refine xe_sn pg_103 4 (fr' := (15, [(0, .int 4), (1, .int 1), (2, .int 4)], [.int 1])) rfl ?_
        exact xe_end pg_103 rfl
      exact xe_end pg_105 rfl
    refine xe_sn pg_139 4 (fr' := (16, [(0, .ref 165), (1, .int 4), (2, .int p1)], [.int 65519, .int 1, .int p1, .ref 165])) rfl ?_
    apply xe_callq pg_139 103 [.int p1, .int 1, .int 65519] (.inl (some (.int 0))) (19, [(0, .ref 165), (1, .int 4), (2, .int p1)], [.int 0, .ref 165]) rfl (fun _ => rfl)
    · refine xe_sn pg_103 2 (fr' := (2, [(0, .int p1), (1, .int 1), (2, .int 65519)], [.int 1, .int p1])) rfl ?_
      refine xe_f2 pg_103 14 rfl rfl (by show ¬ ((p1).toInt < 1); omega) ?_
      refine xe_sn pg_103 2 (fr' := (7, [(0, .int p1), (1, .int 1), (2, .int 65519)], [.int 65519, .int p1])) rfl ?_
      refine xe_t2 pg_103 14 rfl rfl (by show 65519 < (p1).toInt; omega) ?_
      refine xe_sn pg_103 1 (fr' := (15, [(0, .int p1), (1, .int 1), (2, .int 65519)], [.int 0])) rfl ?_
      exact xe_end pg_103 rfl
    refine xe_sn pg_139 4 (fr' := (30, [(0, .ref 165), (1, .int 4), (2, .int p1)], [])) rfl ?_
    refine xe_sn pg_139 4 (fr' := (34, [(3, .int 0), (0, .ref 165), (1, .int 4), (2, .int p1)], [.int 4, .int 0])) rfl ?_
    refine xe_sn pg_139 4 (fr' := (73, [(3, .int 0), (0, .ref 165), (1, .int 4), (2, .int p1)], [])) rfl ?_
    refine xe_sn pg_139 4 (fr' := (81, [(3, .int 0), (0, .ref 165), (1, .int 4), (2, .int p1)], [.int 0])) rfl ?_
    exact xe_end pg_139 rfl
  · exact ⟨⟨rfl, rfl, rfl, rfl⟩, Nat.le_of_ble_eq_true rfl, Nat.le_of_ble_eq_true rfl, rfl, fun q => absurd q (by decide)⟩

set_option maxRecDepth 100000 in
theorem lf_secret_13 (xs : Nat → Int32) (e1 : Nat) (c1 : 1 ≤ e1) (d1 : e1 ≤ 65519) : op_ok xs 160 139 [.ref 0, .int 4, .int (nI e1), .ref 189] [.ref 165, .int 4, .int (nI e1)] := by
  refine ⟨0, (nI (17 ^ e1 % 65521)), ?_⟩
  apply Exists.intro
  apply Exists.intro
  apply And.intro
  · refine xe_sn pg_160 4 (fr' := (4, [(0, .ref 0), (1, .int 4), (2, .int (nI e1)), (3, .ref 189)], [.int 4, .ref 0, .int 0, .ref 189])) rfl ?_
    refine xe_sn pg_160 1 (fr' := (5, [(0, .ref 0), (1, .int 4), (2, .int (nI e1)), (3, .ref 189)], [.int (nI e1), .int 4, .ref 0, .int 0, .ref 189])) rfl ?_
    apply xe_callq pg_160 73 [.ref 0, .int 4, .int (nI e1)] (.inl (some (.int (nI (17 ^ e1 % 65521))))) (8, [(0, .ref 0), (1, .int 4), (2, .int (nI e1)), (3, .ref 189)], [.int (nI (17 ^ e1 % 65521)), .int 0, .ref 189]) rfl (fun _ => rfl)
    · refine xe_sn pg_73 1 (fr' := (1, [(0, .ref 0), (1, .int 4), (2, .int (nI e1))], [.int 4])) rfl ?_
      apply xe_callq pg_73 93 [.int 4] (.inl none) (4, [(0, .ref 0), (1, .int 4), (2, .int (nI e1))], []) rfl (fun _ => rfl)
      · refine xe_sn pg_93 4 (fr' := (6, [(0, .int 4)], [.int 4])) rfl ?_
        refine xe_sn pg_93 2 (fr' := (18, [(0, .int 4)], [])) rfl ?_
        exact xe_end pg_93 rfl
      refine xe_sn pg_73 1 (fr' := (5, [(0, .ref 0), (1, .int 4), (2, .int (nI e1))], [.int (nI e1)])) rfl ?_
      apply xe_callq pg_73 96 [.int (nI e1)] (.inl none) (8, [(0, .ref 0), (1, .int 4), (2, .int (nI e1))], []) rfl (fun _ => rfl)
      · refine xe_sn pg_96 2 (fr' := (2, [(0, .int (nI e1))], [.int 1, .int (nI e1)])) rfl ?_
        refine xe_f2 pg_96 15 rfl rfl (by show ¬ (((nI e1)).toInt < 1); rw [nI_toInt (n := e1) (by omega)]; omega) ?_
        refine xe_sn pg_96 2 (fr' := (8, [(0, .int (nI e1))], [.int 65519, .int (nI e1)])) rfl ?_
        refine xe_f2 pg_96 15 rfl rfl (by show ¬ (65519 < ((nI e1)).toInt); rw [nI_toInt (n := e1) (by omega)]; omega) ?_
        refine xe_sn pg_96 2 (fr' := (16, [(0, .int (nI e1))], [.int 1])) rfl ?_
        apply xe_callq pg_96 97 [.int 1] (.inl none) (19, [(0, .int (nI e1))], []) rfl (fun _ => rfl)
        · refine xe_sn pg_97 2 (fr' := (12, [(0, .int 1)], [])) rfl ?_
          exact xe_end pg_97 rfl
        exact xe_end pg_96 rfl
      refine xe_sn pg_73 4 (fr' := (14, [(0, .ref 0), (1, .int 4), (2, .int (nI e1))], [.int 1, .int 4, .ref 47])) rfl ?_
      refine xe_sn pg_73 4 (fr' := (18, [(3, .ref 102), (0, .ref 0), (1, .int 4), (2, .int (nI e1))], [.ref 102])) rfl ?_
      apply xe_callq pg_73 64 [.ref 102] (.inl (some (.int 0))) (21, [(3, .ref 102), (0, .ref 0), (1, .int 4), (2, .int (nI e1))], [.int 0]) rfl (fun _ => rfl)
      · refine xe_sn pg_64 4 (fr' := (4, [(1, .int 0), (0, .ref 102)], [.int 4, .int 0])) rfl ?_
        refine xe_sn pg_64 4 (fr' := (12, [(1, .int 0), (0, .ref 102)], [.int 0, .ref 103])) rfl ?_
        refine xe_sn pg_64 4 (fr' := (24, [(1, .int 1), (0, .ref 102)], [])) rfl ?_
        refine xe_sn pg_64 4 (fr' := (7, [(1, .int 1), (0, .ref 102)], [])) rfl ?_
        refine xe_sn pg_64 4 (fr' := (13, [(1, .int 1), (0, .ref 102)], [.ref 108])) rfl ?_
        refine xe_sn pg_64 4 (fr' := (2, [(1, .int 2), (0, .ref 102)], [])) rfl ?_
        refine xe_sn pg_64 4 (fr' := (8, [(1, .int 2), (0, .ref 102)], [.ref 102])) rfl ?_
        refine xe_sn pg_64 4 (fr' := (16, [(1, .int 2), (0, .ref 102)], [.int 0])) rfl ?_
        refine xe_sn pg_64 4 (fr' := (3, [(1, .int 3), (0, .ref 102)], [.int 3])) rfl ?_
        refine xe_sn pg_64 4 (fr' := (11, [(1, .int 3), (0, .ref 102)], [.ref 103])) rfl ?_
        refine xe_sn pg_64 4 (fr' := (21, [(1, .int 3), (0, .ref 102)], [])) rfl ?_
        refine xe_sn pg_64 4 (fr' := (4, [(1, .int 4), (0, .ref 102)], [.int 4, .int 4])) rfl ?_
        refine xe_sn pg_64 2 (fr' := (28, [(1, .int 4), (0, .ref 102)], [.int 0])) rfl ?_
        exact xe_end pg_64 rfl
      refine xe_sn pg_73 3 (fr' := (29, [(3, .ref 102), (0, .ref 0), (1, .int 4), (2, .int (nI e1))], [.int 1])) rfl ?_
      apply xe_callq pg_73 98 [.int 1] (.inl none) (32, [(3, .ref 102), (0, .ref 0), (1, .int 4), (2, .int (nI e1))], []) rfl (fun _ => rfl)
      · refine xe_sn pg_98 2 (fr' := (12, [(0, .int 1)], [])) rfl ?_
        exact xe_end pg_98 rfl
      refine xe_sn pg_73 2 (fr' := (34, [(3, .ref 102), (0, .ref 0), (1, .int 4), (2, .int (nI e1))], [.int (nI e1), .ref 102])) rfl ?_
      apply xe_callq pg_73 63 [.ref 102, .int (nI e1)] (.inl none) (37, [(3, .ref 102), (0, .ref 0), (1, .int 4), (2, .int (nI e1))], []) rfl (fun _ => rfl)
      · refine xe_sn pg_63 4 (fr' := (6, [(0, .ref 102), (1, .int (nI e1))], [.ref 102])) rfl ?_
        refine xe_sn pg_63 2 (fr' := (9, [(0, .ref 102), (1, .int (nI e1))], [.int (nI e1), .int 17, .ref 102])) rfl ?_
        apply xe_callq pg_63 0 [.int 17, .int (nI e1)] (.inl (some (.int (nI (17 ^ e1 % 65521))))) (12, [(0, .ref 102), (1, .int (nI e1))], [.int (nI (17 ^ e1 % 65521)), .ref 102]) rfl (fun _ => rfl)
        · exact c_raise _ (a := 17) (e := e1) (by omega) (by omega) _
        refine xe_sn pg_63 1 (fr' := (15, [(0, .ref 102), (1, .int (nI e1))], [])) rfl ?_
        exact xe_end pg_63 rfl
      refine xe_sn pg_73 2 (fr' := (41, [(3, .ref 102), (0, .ref 0), (1, .int 4), (2, .int (nI e1))], [.int (nI (17 ^ e1 % 65521))])) rfl ?_
      exact xe_end pg_73 rfl
    refine xe_sn pg_160 4 (fr' := (26, [(0, .ref 0), (1, .int 4), (2, .int (nI e1)), (3, .ref 189)], [.int 0])) rfl ?_
    exact xe_end pg_160 rfl
  refine And.intro ⟨rfl, rfl, rfl, rfl⟩ ?_
  apply And.intro
  · refine xe_sn pg_139 2 (fr' := (2, [(0, .ref 165), (1, .int 4), (2, .int (nI e1))], [.int 4, .ref 165])) rfl ?_
    apply xe_callq pg_139 105 [.int 4] (.inl (some (.int 1))) (5, [(0, .ref 165), (1, .int 4), (2, .int (nI e1))], [.int 1, .ref 165]) rfl (fun _ => rfl)
    · refine xe_sn pg_105 3 (fr' := (3, [(0, .int 4)], [.int 4, .int 1, .int 4])) rfl ?_
      apply xe_callq pg_105 103 [.int 4, .int 1, .int 4] (.inl (some (.int 1))) (6, [(0, .int 4)], [.int 1]) rfl (fun _ => rfl)
      · refine xe_sn pg_103 4 (fr' := (6, [(0, .int 4), (1, .int 1), (2, .int 4)], [.int 4])) rfl ?_
        refine xe_sn pg_103 4 (fr' := (15, [(0, .int 4), (1, .int 1), (2, .int 4)], [.int 1])) rfl ?_
        exact xe_end pg_103 rfl
      exact xe_end pg_105 rfl
    refine xe_sn pg_139 4 (fr' := (16, [(0, .ref 165), (1, .int 4), (2, .int (nI e1))], [.int 65519, .int 1, .int (nI e1), .ref 165])) rfl ?_
    apply xe_callq pg_139 103 [.int (nI e1), .int 1, .int 65519] (.inl (some (.int 1))) (19, [(0, .ref 165), (1, .int 4), (2, .int (nI e1))], [.int 1, .ref 165]) rfl (fun _ => rfl)
    · refine xe_sn pg_103 2 (fr' := (2, [(0, .int (nI e1)), (1, .int 1), (2, .int 65519)], [.int 1, .int (nI e1)])) rfl ?_
      refine xe_f2 pg_103 14 rfl rfl (by show ¬ (((nI e1)).toInt < 1); rw [nI_toInt (n := e1) (by omega)]; omega) ?_
      refine xe_sn pg_103 2 (fr' := (7, [(0, .int (nI e1)), (1, .int 1), (2, .int 65519)], [.int 65519, .int (nI e1)])) rfl ?_
      refine xe_f2 pg_103 14 rfl rfl (by show ¬ (65519 < ((nI e1)).toInt); rw [nI_toInt (n := e1) (by omega)]; omega) ?_
      refine xe_sn pg_103 2 (fr' := (15, [(0, .int (nI e1)), (1, .int 1), (2, .int 65519)], [.int 1])) rfl ?_
      exact xe_end pg_103 rfl
    refine xe_sn pg_139 4 (fr' := (31, [(0, .ref 165), (1, .int 4), (2, .int (nI e1))], [.int 0])) rfl ?_
    refine xe_sn pg_139 4 (fr' := (37, [(3, .int 0), (0, .ref 165), (1, .int 4), (2, .int (nI e1))], [])) rfl ?_
    refine xe_sn pg_139 4 (fr' := (45, [(3, .int 0), (0, .ref 165), (1, .int 4), (2, .int (nI e1))], [.ref 165])) rfl ?_
    refine xe_sn pg_139 4 (fr' := (51, [(3, .int 0), (0, .ref 165), (1, .int 4), (2, .int (nI e1))], [.int 4, .ref 165, .ref 180, .ref 165])) rfl ?_
    refine xe_sn pg_139 1 (fr' := (52, [(3, .int 0), (0, .ref 165), (1, .int 4), (2, .int (nI e1))], [.int 0, .int 4, .ref 165, .ref 180, .ref 165])) rfl ?_
    apply xe_callq pg_139 128 [.ref 165, .int 4, .int 0] (.inl (some (.int 12))) (55, [(3, .int 0), (0, .ref 165), (1, .int 4), (2, .int (nI e1))], [.int 12, .ref 180, .ref 165]) rfl (fun _ => rfl)
    · refine xe_sn pg_128 4 (fr' := (4, [(0, .ref 165), (1, .int 4), (2, .int 0)], [.int 3, .int 4])) rfl ?_
      refine xe_sn pg_128 3 (fr' := (7, [(0, .ref 165), (1, .int 4), (2, .int 0)], [.int 12])) rfl ?_
      exact xe_end pg_128 rfl
    refine xe_sn pg_139 4 (fr' := (67, [(3, .int 0), (0, .ref 165), (1, .int 4), (2, .int (nI e1))], [])) rfl ?_
    refine xe_sn pg_139 4 (fr' := (34, [(3, .int 1), (0, .ref 165), (1, .int 4), (2, .int (nI e1))], [.int 4, .int 1])) rfl ?_
    refine xe_sn pg_139 4 (fr' := (44, [(3, .int 1), (0, .ref 165), (1, .int 4), (2, .int (nI e1))], [])) rfl ?_
    refine xe_sn pg_139 4 (fr' := (50, [(3, .int 1), (0, .ref 165), (1, .int 4), (2, .int (nI e1))], [.ref 165, .ref 180, .ref 165])) rfl ?_
    refine xe_sn pg_139 2 (fr' := (52, [(3, .int 1), (0, .ref 165), (1, .int 4), (2, .int (nI e1))], [.int 1, .int 4, .ref 165, .ref 180, .ref 165])) rfl ?_
    apply xe_callq pg_139 128 [.ref 165, .int 4, .int 1] (.inl (some (.int 13))) (55, [(3, .int 1), (0, .ref 165), (1, .int 4), (2, .int (nI e1))], [.int 13, .ref 180, .ref 165]) rfl (fun _ => rfl)
    · refine xe_sn pg_128 4 (fr' := (4, [(0, .ref 165), (1, .int 4), (2, .int 1)], [.int 3, .int 4])) rfl ?_
      refine xe_sn pg_128 3 (fr' := (7, [(0, .ref 165), (1, .int 4), (2, .int 1)], [.int 13])) rfl ?_
      exact xe_end pg_128 rfl
    refine xe_sn pg_139 4 (fr' := (67, [(3, .int 1), (0, .ref 165), (1, .int 4), (2, .int (nI e1))], [])) rfl ?_
    refine xe_sn pg_139 4 (fr' := (34, [(3, .int 2), (0, .ref 165), (1, .int 4), (2, .int (nI e1))], [.int 4, .int 2])) rfl ?_
    refine xe_sn pg_139 4 (fr' := (44, [(3, .int 2), (0, .ref 165), (1, .int 4), (2, .int (nI e1))], [])) rfl ?_
    refine xe_sn pg_139 4 (fr' := (50, [(3, .int 2), (0, .ref 165), (1, .int 4), (2, .int (nI e1))], [.ref 165, .ref 180, .ref 165])) rfl ?_
    refine xe_sn pg_139 2 (fr' := (52, [(3, .int 2), (0, .ref 165), (1, .int 4), (2, .int (nI e1))], [.int 2, .int 4, .ref 165, .ref 180, .ref 165])) rfl ?_
    apply xe_callq pg_139 128 [.ref 165, .int 4, .int 2] (.inl (some (.int 14))) (55, [(3, .int 2), (0, .ref 165), (1, .int 4), (2, .int (nI e1))], [.int 14, .ref 180, .ref 165]) rfl (fun _ => rfl)
    · refine xe_sn pg_128 4 (fr' := (4, [(0, .ref 165), (1, .int 4), (2, .int 2)], [.int 3, .int 4])) rfl ?_
      refine xe_sn pg_128 3 (fr' := (7, [(0, .ref 165), (1, .int 4), (2, .int 2)], [.int 14])) rfl ?_
      exact xe_end pg_128 rfl
    refine xe_sn pg_139 4 (fr' := (67, [(3, .int 2), (0, .ref 165), (1, .int 4), (2, .int (nI e1))], [])) rfl ?_
    refine xe_sn pg_139 4 (fr' := (34, [(3, .int 3), (0, .ref 165), (1, .int 4), (2, .int (nI e1))], [.int 4, .int 3])) rfl ?_
    refine xe_sn pg_139 4 (fr' := (44, [(3, .int 3), (0, .ref 165), (1, .int 4), (2, .int (nI e1))], [])) rfl ?_
    refine xe_sn pg_139 4 (fr' := (50, [(3, .int 3), (0, .ref 165), (1, .int 4), (2, .int (nI e1))], [.ref 165, .ref 180, .ref 165])) rfl ?_
    refine xe_sn pg_139 2 (fr' := (52, [(3, .int 3), (0, .ref 165), (1, .int 4), (2, .int (nI e1))], [.int 3, .int 4, .ref 165, .ref 180, .ref 165])) rfl ?_
    apply xe_callq pg_139 128 [.ref 165, .int 4, .int 3] (.inl (some (.int 15))) (55, [(3, .int 3), (0, .ref 165), (1, .int 4), (2, .int (nI e1))], [.int 15, .ref 180, .ref 165]) rfl (fun _ => rfl)
    · refine xe_sn pg_128 4 (fr' := (4, [(0, .ref 165), (1, .int 4), (2, .int 3)], [.int 3, .int 4])) rfl ?_
      refine xe_sn pg_128 3 (fr' := (7, [(0, .ref 165), (1, .int 4), (2, .int 3)], [.int 15])) rfl ?_
      exact xe_end pg_128 rfl
    refine xe_sn pg_139 4 (fr' := (67, [(3, .int 3), (0, .ref 165), (1, .int 4), (2, .int (nI e1))], [])) rfl ?_
    refine xe_sn pg_139 4 (fr' := (34, [(3, .int 4), (0, .ref 165), (1, .int 4), (2, .int (nI e1))], [.int 4, .int 4])) rfl ?_
    refine xe_sn pg_139 4 (fr' := (82, [(3, .int 4), (0, .ref 165), (1, .int 4), (2, .int (nI e1))], [])) rfl ?_
    refine xe_sn pg_139 4 (fr' := (88, [(3, .int 4), (0, .ref 165), (1, .int 4), (2, .int (nI e1))], [.int (nI e1), .int 4, .ref 178])) rfl ?_
    refine xe_sn pg_139 3 (fr' := (92, [(3, .int 4), (0, .ref 165), (1, .int 4), (2, .int (nI e1))], [.int (nI e1), .int 17])) rfl ?_
    apply xe_callq pg_139 106 [.int 17, .int (nI e1)] (.inl (some (.int (nI (17 ^ e1 % 65521))))) (95, [(3, .int 4), (0, .ref 165), (1, .int 4), (2, .int (nI e1))], [.int (nI (17 ^ e1 % 65521))]) rfl (fun _ => rfl)
    · exact m_raise _ (a := 17) (e := e1) (by omega) (by omega) _
    exact xe_end pg_139 rfl
  · exact ⟨⟨rfl, rfl, rfl, rfl⟩, Nat.le_of_ble_eq_true rfl, Nat.le_of_ble_eq_true rfl, rfl, fun _ => rfl⟩
theorem op_secret (xs : Nat → Int32) (p0 p1 : Int32) : op_ok xs 160 139 [.ref 0, .int p0, .int p1, .ref 189] [.ref 165, .int p0, .int p1] := by
  by_cases a0 : p0.toInt < 1
  · exact lf_secret_0 xs p0 p1 a0
  by_cases b0 : 4 < p0.toInt
  · exact lf_secret_1 xs p0 p1 b0
  replace a0 : 1 ≤ p0.toInt := by omega
  replace b0 : p0.toInt ≤ 4 := by omega
  rcases (by omega : p0.toInt = 1 ∨ p0.toInt = 2 ∨ p0.toInt = 3 ∨ p0.toInt = 4) with q0 | q0 | q0 | q0
  · obtain rfl : p0 = 1 := Int32.toInt_inj.mp (q0.trans (by decide))
    by_cases a1 : p1.toInt < 1
    · exact lf_secret_2 xs p1 a1
    by_cases b1 : 65519 < p1.toInt
    · exact lf_secret_3 xs p1 b1
    replace a1 : 1 ≤ p1.toInt := by omega
    replace b1 : p1.toInt ≤ 65519 := by omega
    obtain ⟨e1, c1, d1, rfl⟩ := lf_nat p1 1 65519 a1 b1
    exact lf_secret_4 xs e1 c1 d1
  · obtain rfl : p0 = 2 := Int32.toInt_inj.mp (q0.trans (by decide))
    by_cases a1 : p1.toInt < 1
    · exact lf_secret_5 xs p1 a1
    by_cases b1 : 65519 < p1.toInt
    · exact lf_secret_6 xs p1 b1
    replace a1 : 1 ≤ p1.toInt := by omega
    replace b1 : p1.toInt ≤ 65519 := by omega
    obtain ⟨e1, c1, d1, rfl⟩ := lf_nat p1 1 65519 a1 b1
    exact lf_secret_7 xs e1 c1 d1
  · obtain rfl : p0 = 3 := Int32.toInt_inj.mp (q0.trans (by decide))
    by_cases a1 : p1.toInt < 1
    · exact lf_secret_8 xs p1 a1
    by_cases b1 : 65519 < p1.toInt
    · exact lf_secret_9 xs p1 b1
    replace a1 : 1 ≤ p1.toInt := by omega
    replace b1 : p1.toInt ≤ 65519 := by omega
    obtain ⟨e1, c1, d1, rfl⟩ := lf_nat p1 1 65519 a1 b1
    exact lf_secret_10 xs e1 c1 d1
  · obtain rfl : p0 = 4 := Int32.toInt_inj.mp (q0.trans (by decide))
    by_cases a1 : p1.toInt < 1
    · exact lf_secret_11 xs p1 a1
    by_cases b1 : 65519 < p1.toInt
    · exact lf_secret_12 xs p1 b1
    replace a1 : 1 ≤ p1.toInt := by omega
    replace b1 : p1.toInt ≤ 65519 := by omega
    obtain ⟨e1, c1, d1, rfl⟩ := lf_nat p1 1 65519 a1 b1
    exact lf_secret_13 xs e1 c1 d1

