set_option maxRecDepth 100000 in
theorem lf_extend_0 (xs : Nat → Int32) (p0 : Int32) (p1 : Int32) (p2 : Int32) (a0 : p0.toInt < 0) : op_ok xs 162 141 [.ref 0, .int p0, .int p1, .int p2, .ref 189] [.ref 165, .int p0, .int p1, .int p2] := by
  refine ⟨1, 0, ?_⟩
  apply Exists.intro
  apply Exists.intro
  apply And.intro
  · refine xe_sn pg_162 4 (fr' := (5, [(0, .ref 0), (1, .int p0), (2, .int p1), (3, .int p2), (4, .ref 189)], [.int p0, .ref 0, .int 0, .ref 189])) rfl ?_
    refine xe_sn pg_162 2 (fr' := (7, [(0, .ref 0), (1, .int p0), (2, .int p1), (3, .int p2), (4, .ref 189)], [.int p2, .int p1, .int p0, .ref 0, .int 0, .ref 189])) rfl ?_
    apply xe_callq pg_162 75 [.ref 0, .int p0, .int p1, .int p2] (.inr 0) (17, [(0, .ref 0), (1, .int p0), (2, .int p1), (3, .int p2), (4, .ref 189)], []) rfl (fun _ => rfl)
    · refine xe_sn pg_75 1 (fr' := (1, [(0, .ref 0), (1, .int p0), (2, .int p1), (3, .int p2)], [.int p0])) rfl ?_
      apply xe_callqx pg_75 92 [.int p0] 0 rfl (fun _ => rfl)
      · refine xe_sn pg_92 2 (fr' := (2, [(0, .int p0)], [.int 4, .int p0])) rfl ?_
        apply xe_callqx pg_92 95 [.int p0, .int 4] 0 rfl (fun _ => rfl)
        · refine xe_sn pg_95 1 (fr' := (1, [(0, .int p0), (1, .int 4)], [.int p0])) rfl ?_
          refine xe_t1 pg_95 9 rfl rfl (by show (p0).toInt < 0; omega) ?_
          exact xe_end pg_95 rfl
    refine xe_sn pg_162 1 (fr' := (18, [(0, .ref 0), (1, .int p0), (2, .int p1), (3, .int p2), (4, .ref 189)], [.int 1])) rfl ?_
    exact xe_end pg_162 rfl
  refine And.intro ⟨rfl, rfl, rfl, rfl⟩ ?_
  apply And.intro
  · refine xe_sn pg_141 2 (fr' := (2, [(0, .ref 165), (1, .int p0), (2, .int p1), (3, .int p2)], [.int p0, .ref 165])) rfl ?_
    apply xe_callq pg_141 104 [.int p0] (.inl (some (.int 0))) (5, [(0, .ref 165), (1, .int p0), (2, .int p1), (3, .int p2)], [.int 0, .ref 165]) rfl (fun _ => rfl)
    · refine xe_sn pg_104 3 (fr' := (3, [(0, .int p0)], [.int 3, .int 0, .int p0])) rfl ?_
      apply xe_callq pg_104 103 [.int p0, .int 0, .int 3] (.inl (some (.int 0))) (6, [(0, .int p0)], [.int 0]) rfl (fun _ => rfl)
      · refine xe_sn pg_103 2 (fr' := (2, [(0, .int p0), (1, .int 0), (2, .int 3)], [.int 0, .int p0])) rfl ?_
        refine xe_t2 pg_103 14 rfl rfl (by show (p0).toInt < 0; omega) ?_
        refine xe_sn pg_103 1 (fr' := (15, [(0, .int p0), (1, .int 0), (2, .int 3)], [.int 0])) rfl ?_
        exact xe_end pg_103 rfl
      exact xe_end pg_104 rfl
    refine xe_sn pg_141 4 (fr' := (37, [(0, .ref 165), (1, .int p0), (2, .int p1), (3, .int p2)], [])) rfl ?_
    refine xe_sn pg_141 4 (fr' := (44, [(4, .int 0), (0, .ref 165), (1, .int p0), (2, .int p1), (3, .int p2)], [.int 1])) rfl ?_
    refine xe_sn pg_141 4 (fr' := (93, [(4, .int 0), (0, .ref 165), (1, .int p0), (2, .int p1), (3, .int p2)], [.int 1, .ref 165])) rfl ?_
    refine xe_sn pg_141 4 (fr' := (127, [(4, .int 0), (0, .ref 165), (1, .int p0), (2, .int p1), (3, .int p2)], [])) rfl ?_
    refine xe_sn pg_141 4 (fr' := (135, [(4, .int 0), (0, .ref 165), (1, .int p0), (2, .int p1), (3, .int p2)], [.int 0])) rfl ?_
    exact xe_end pg_141 rfl
  · exact ⟨⟨rfl, rfl, rfl, rfl⟩, Nat.le_of_ble_eq_true rfl, Nat.le_of_ble_eq_true rfl, rfl, fun q => absurd q (by decide)⟩

set_option maxRecDepth 100000 in
theorem lf_extend_1 (xs : Nat → Int32) (p0 : Int32) (p1 : Int32) (p2 : Int32) (b0 : 3 < p0.toInt) : op_ok xs 162 141 [.ref 0, .int p0, .int p1, .int p2, .ref 189] [.ref 165, .int p0, .int p1, .int p2] := by
  refine ⟨1, 0, ?_⟩
  apply Exists.intro
  apply Exists.intro
  apply And.intro
  · refine xe_sn pg_162 4 (fr' := (5, [(0, .ref 0), (1, .int p0), (2, .int p1), (3, .int p2), (4, .ref 189)], [.int p0, .ref 0, .int 0, .ref 189])) rfl ?_
    refine xe_sn pg_162 2 (fr' := (7, [(0, .ref 0), (1, .int p0), (2, .int p1), (3, .int p2), (4, .ref 189)], [.int p2, .int p1, .int p0, .ref 0, .int 0, .ref 189])) rfl ?_
    apply xe_callq pg_162 75 [.ref 0, .int p0, .int p1, .int p2] (.inr 0) (17, [(0, .ref 0), (1, .int p0), (2, .int p1), (3, .int p2), (4, .ref 189)], []) rfl (fun _ => rfl)
    · refine xe_sn pg_75 1 (fr' := (1, [(0, .ref 0), (1, .int p0), (2, .int p1), (3, .int p2)], [.int p0])) rfl ?_
      apply xe_callqx pg_75 92 [.int p0] 0 rfl (fun _ => rfl)
      · refine xe_sn pg_92 2 (fr' := (2, [(0, .int p0)], [.int 4, .int p0])) rfl ?_
        apply xe_callqx pg_92 95 [.int p0, .int 4] 0 rfl (fun _ => rfl)
        · refine xe_sn pg_95 1 (fr' := (1, [(0, .int p0), (1, .int 4)], [.int p0])) rfl ?_
          refine xe_f1 pg_95 9 rfl rfl (by show ¬ ((p0).toInt < 0); omega) ?_
          refine xe_sn pg_95 2 (fr' := (6, [(0, .int p0), (1, .int 4)], [.int 4, .int p0])) rfl ?_
          refine xe_f2 pg_95 17 rfl rfl (by show ¬ ((p0).toInt < 4); omega) ?_
          exact xe_end pg_95 rfl
    refine xe_sn pg_162 1 (fr' := (18, [(0, .ref 0), (1, .int p0), (2, .int p1), (3, .int p2), (4, .ref 189)], [.int 1])) rfl ?_
    exact xe_end pg_162 rfl
  refine And.intro ⟨rfl, rfl, rfl, rfl⟩ ?_
  apply And.intro
  · refine xe_sn pg_141 2 (fr' := (2, [(0, .ref 165), (1, .int p0), (2, .int p1), (3, .int p2)], [.int p0, .ref 165])) rfl ?_
    apply xe_callq pg_141 104 [.int p0] (.inl (some (.int 0))) (5, [(0, .ref 165), (1, .int p0), (2, .int p1), (3, .int p2)], [.int 0, .ref 165]) rfl (fun _ => rfl)
    · refine xe_sn pg_104 3 (fr' := (3, [(0, .int p0)], [.int 3, .int 0, .int p0])) rfl ?_
      apply xe_callq pg_104 103 [.int p0, .int 0, .int 3] (.inl (some (.int 0))) (6, [(0, .int p0)], [.int 0]) rfl (fun _ => rfl)
      · refine xe_sn pg_103 2 (fr' := (2, [(0, .int p0), (1, .int 0), (2, .int 3)], [.int 0, .int p0])) rfl ?_
        refine xe_f2 pg_103 14 rfl rfl (by show ¬ ((p0).toInt < 0); omega) ?_
        refine xe_sn pg_103 2 (fr' := (7, [(0, .int p0), (1, .int 0), (2, .int 3)], [.int 3, .int p0])) rfl ?_
        refine xe_t2 pg_103 14 rfl rfl (by show 3 < (p0).toInt; omega) ?_
        refine xe_sn pg_103 1 (fr' := (15, [(0, .int p0), (1, .int 0), (2, .int 3)], [.int 0])) rfl ?_
        exact xe_end pg_103 rfl
      exact xe_end pg_104 rfl
    refine xe_sn pg_141 4 (fr' := (37, [(0, .ref 165), (1, .int p0), (2, .int p1), (3, .int p2)], [])) rfl ?_
    refine xe_sn pg_141 4 (fr' := (44, [(4, .int 0), (0, .ref 165), (1, .int p0), (2, .int p1), (3, .int p2)], [.int 1])) rfl ?_
    refine xe_sn pg_141 4 (fr' := (93, [(4, .int 0), (0, .ref 165), (1, .int p0), (2, .int p1), (3, .int p2)], [.int 1, .ref 165])) rfl ?_
    refine xe_sn pg_141 4 (fr' := (127, [(4, .int 0), (0, .ref 165), (1, .int p0), (2, .int p1), (3, .int p2)], [])) rfl ?_
    refine xe_sn pg_141 4 (fr' := (135, [(4, .int 0), (0, .ref 165), (1, .int p0), (2, .int p1), (3, .int p2)], [.int 0])) rfl ?_
    exact xe_end pg_141 rfl
  · exact ⟨⟨rfl, rfl, rfl, rfl⟩, Nat.le_of_ble_eq_true rfl, Nat.le_of_ble_eq_true rfl, rfl, fun q => absurd q (by decide)⟩

set_option maxRecDepth 100000 in
theorem lf_extend_2 (xs : Nat → Int32) (p1 : Int32) (p2 : Int32) (a1 : p1.toInt < 1) : op_ok xs 162 141 [.ref 0, .int 0, .int p1, .int p2, .ref 189] [.ref 165, .int 0, .int p1, .int p2] := by
  refine ⟨1, 0, ?_⟩
  apply Exists.intro
  apply Exists.intro
  apply And.intro
  · refine xe_sn pg_162 4 (fr' := (5, [(0, .ref 0), (1, .int 0), (2, .int p1), (3, .int p2), (4, .ref 189)], [.int 0, .ref 0, .int 0, .ref 189])) rfl ?_
    refine xe_sn pg_162 2 (fr' := (7, [(0, .ref 0), (1, .int 0), (2, .int p1), (3, .int p2), (4, .ref 189)], [.int p2, .int p1, .int 0, .ref 0, .int 0, .ref 189])) rfl ?_
    apply xe_callq pg_162 75 [.ref 0, .int 0, .int p1, .int p2] (.inr 0) (17, [(0, .ref 0), (1, .int 0), (2, .int p1), (3, .int p2), (4, .ref 189)], []) rfl (fun _ => rfl)
    · refine xe_sn pg_75 1 (fr' := (1, [(0, .ref 0), (1, .int 0), (2, .int p1), (3, .int p2)], [.int 0])) rfl ?_
      apply xe_callq pg_75 92 [.int 0] (.inl none) (4, [(0, .ref 0), (1, .int 0), (2, .int p1), (3, .int p2)], []) rfl (fun _ => rfl)
      · refine xe_sn pg_92 2 (fr' := (2, [(0, .int 0)], [.int 4, .int 0])) rfl ?_
        apply xe_callq pg_92 95 [.int 0, .int 4] (.inl none) (5, [(0, .int 0)], []) rfl (fun _ => rfl)
        · refine xe_sn pg_95 4 (fr' := (6, [(0, .int 0), (1, .int 4)], [.int 4, .int 0])) rfl ?_
          refine xe_sn pg_95 1 (fr' := (17, [(0, .int 0), (1, .int 4)], [])) rfl ?_
          exact xe_end pg_95 rfl
        exact xe_end pg_92 rfl
      refine xe_sn pg_75 1 (fr' := (5, [(0, .ref 0), (1, .int 0), (2, .int p1), (3, .int p2)], [.int p1])) rfl ?_
      apply xe_callqx pg_75 93 [.int p1] 0 rfl (fun _ => rfl)
      · refine xe_sn pg_93 2 (fr' := (2, [(0, .int p1)], [.int 1, .int p1])) rfl ?_
        refine xe_t2 pg_93 10 rfl rfl (by show (p1).toInt < 1; omega) ?_
        exact xe_end pg_93 rfl
    refine xe_sn pg_162 1 (fr' := (18, [(0, .ref 0), (1, .int 0), (2, .int p1), (3, .int p2), (4, .ref 189)], [.int 1])) rfl ?_
    exact xe_end pg_162 rfl
  refine And.intro ⟨rfl, rfl, rfl, rfl⟩ ?_
  apply And.intro
  · refine xe_sn pg_141 2 (fr' := (2, [(0, .ref 165), (1, .int 0), (2, .int p1), (3, .int p2)], [.int 0, .ref 165])) rfl ?_
    apply xe_callq pg_141 104 [.int 0] (.inl (some (.int 1))) (5, [(0, .ref 165), (1, .int 0), (2, .int p1), (3, .int p2)], [.int 1, .ref 165]) rfl (fun _ => rfl)
    · refine xe_sn pg_104 3 (fr' := (3, [(0, .int 0)], [.int 3, .int 0, .int 0])) rfl ?_
      apply xe_callq pg_104 103 [.int 0, .int 0, .int 3] (.inl (some (.int 1))) (6, [(0, .int 0)], [.int 1]) rfl (fun _ => rfl)
      · refine xe_sn pg_103 4 (fr' := (6, [(0, .int 0), (1, .int 0), (2, .int 3)], [.int 0])) rfl ?_
        refine xe_sn pg_103 4 (fr' := (15, [(0, .int 0), (1, .int 0), (2, .int 3)], [.int 1])) rfl ?_
        exact xe_end pg_103 rfl
      exact xe_end pg_104 rfl
    refine xe_sn pg_141 2 (fr' := (9, [(0, .ref 165), (1, .int 0), (2, .int p1), (3, .int p2)], [.int p1, .ref 165])) rfl ?_
    apply xe_callq pg_141 105 [.int p1] (.inl (some (.int 0))) (12, [(0, .ref 165), (1, .int 0), (2, .int p1), (3, .int p2)], [.int 0, .ref 165]) rfl (fun _ => rfl)
    · refine xe_sn pg_105 3 (fr' := (3, [(0, .int p1)], [.int 4, .int 1, .int p1])) rfl ?_
      apply xe_callq pg_105 103 [.int p1, .int 1, .int 4] (.inl (some (.int 0))) (6, [(0, .int p1)], [.int 0]) rfl (fun _ => rfl)
      · refine xe_sn pg_103 2 (fr' := (2, [(0, .int p1), (1, .int 1), (2, .int 4)], [.int 1, .int p1])) rfl ?_
        refine xe_t2 pg_103 14 rfl rfl (by show (p1).toInt < 1; omega) ?_
        refine xe_sn pg_103 1 (fr' := (15, [(0, .int p1), (1, .int 1), (2, .int 4)], [.int 0])) rfl ?_
        exact xe_end pg_103 rfl
      exact xe_end pg_105 rfl
    refine xe_sn pg_141 4 (fr' := (37, [(0, .ref 165), (1, .int 0), (2, .int p1), (3, .int p2)], [])) rfl ?_
    refine xe_sn pg_141 4 (fr' := (44, [(4, .int 0), (0, .ref 165), (1, .int 0), (2, .int p1), (3, .int p2)], [.int 1])) rfl ?_
    refine xe_sn pg_141 4 (fr' := (93, [(4, .int 0), (0, .ref 165), (1, .int 0), (2, .int p1), (3, .int p2)], [.int 1, .ref 165])) rfl ?_
    refine xe_sn pg_141 4 (fr' := (127, [(4, .int 0), (0, .ref 165), (1, .int 0), (2, .int p1), (3, .int p2)], [])) rfl ?_
    refine xe_sn pg_141 4 (fr' := (135, [(4, .int 0), (0, .ref 165), (1, .int 0), (2, .int p1), (3, .int p2)], [.int 0])) rfl ?_
    exact xe_end pg_141 rfl
  · exact ⟨⟨rfl, rfl, rfl, rfl⟩, Nat.le_of_ble_eq_true rfl, Nat.le_of_ble_eq_true rfl, rfl, fun q => absurd q (by decide)⟩

set_option maxRecDepth 100000 in
theorem lf_extend_3 (xs : Nat → Int32) (p1 : Int32) (p2 : Int32) (b1 : 4 < p1.toInt) : op_ok xs 162 141 [.ref 0, .int 0, .int p1, .int p2, .ref 189] [.ref 165, .int 0, .int p1, .int p2] := by
  refine ⟨1, 0, ?_⟩
  apply Exists.intro
  apply Exists.intro
  apply And.intro
  · refine xe_sn pg_162 4 (fr' := (5, [(0, .ref 0), (1, .int 0), (2, .int p1), (3, .int p2), (4, .ref 189)], [.int 0, .ref 0, .int 0, .ref 189])) rfl ?_
    refine xe_sn pg_162 2 (fr' := (7, [(0, .ref 0), (1, .int 0), (2, .int p1), (3, .int p2), (4, .ref 189)], [.int p2, .int p1, .int 0, .ref 0, .int 0, .ref 189])) rfl ?_
    apply xe_callq pg_162 75 [.ref 0, .int 0, .int p1, .int p2] (.inr 0) (17, [(0, .ref 0), (1, .int 0), (2, .int p1), (3, .int p2), (4, .ref 189)], []) rfl (fun _ => rfl)
    · refine xe_sn pg_75 1 (fr' := (1, [(0, .ref 0), (1, .int 0), (2, .int p1), (3, .int p2)], [.int 0])) rfl ?_
      apply xe_callq pg_75 92 [.int 0] (.inl none) (4, [(0, .ref 0), (1, .int 0), (2, .int p1), (3, .int p2)], []) rfl (fun _ => rfl)
      · refine xe_sn pg_92 2 (fr' := (2, [(0, .int 0)], [.int 4, .int 0])) rfl ?_
        apply xe_callq pg_92 95 [.int 0, .int 4] (.inl none) (5, [(0, .int 0)], []) rfl (fun _ => rfl)
        · refine xe_sn pg_95 4 (fr' := (6, [(0, .int 0), (1, .int 4)], [.int 4, .int 0])) rfl ?_
          refine xe_sn pg_95 1 (fr' := (17, [(0, .int 0), (1, .int 4)], [])) rfl ?_
          exact xe_end pg_95 rfl
        exact xe_end pg_92 rfl
      refine xe_sn pg_75 1 (fr' := (5, [(0, .ref 0), (1, .int 0), (2, .int p1), (3, .int p2)], [.int p1])) rfl ?_
      apply xe_callqx pg_75 93 [.int p1] 0 rfl (fun _ => rfl)
      · refine xe_sn pg_93 2 (fr' := (2, [(0, .int p1)], [.int 1, .int p1])) rfl ?_
        refine xe_f2 pg_93 10 rfl rfl (by show ¬ ((p1).toInt < 1); omega) ?_
        refine xe_sn pg_93 2 (fr' := (7, [(0, .int p1)], [.int 4, .int p1])) rfl ?_
        refine xe_f2 pg_93 18 rfl rfl (by show ¬ ((p1).toInt ≤ 4); omega) ?_
        exact xe_end pg_93 rfl
    refine xe_sn pg_162 1 (fr' := (18, [(0, .ref 0), (1, .int 0), (2, .int p1), (3, .int p2), (4, .ref 189)], [.int 1])) rfl ?_
    exact xe_end pg_162 rfl
  refine And.intro ⟨rfl, rfl, rfl, rfl⟩ ?_
  apply And.intro
  · refine xe_sn pg_141 2 (fr' := (2, [(0, .ref 165), (1, .int 0), (2, .int p1), (3, .int p2)], [.int 0, .ref 165])) rfl ?_
    apply xe_callq pg_141 104 [.int 0] (.inl (some (.int 1))) (5, [(0, .ref 165), (1, .int 0), (2, .int p1), (3, .int p2)], [.int 1, .ref 165]) rfl (fun _ => rfl)
    · refine xe_sn pg_104 3 (fr' := (3, [(0, .int 0)], [.int 3, .int 0, .int 0])) rfl ?_
      apply xe_callq pg_104 103 [.int 0, .int 0, .int 3] (.inl (some (.int 1))) (6, [(0, .int 0)], [.int 1]) rfl (fun _ => rfl)
      · refine xe_sn pg_103 4 (fr' := (6, [(0, .int 0), (1, .int 0), (2, .int 3)], [.int 0])) rfl ?_
        refine xe_sn pg_103 4 (fr' := (15, [(0, .int 0), (1, .int 0), (2, .int 3)], [.int 1])) rfl ?_
        exact xe_end pg_103 rfl
      exact xe_end pg_104 rfl
    refine xe_sn pg_141 2 (fr' := (9, [(0, .ref 165), (1, .int 0), (2, .int p1), (3, .int p2)], [.int p1, .ref 165])) rfl ?_
    apply xe_callq pg_141 105 [.int p1] (.inl (some (.int 0))) (12, [(0, .ref 165), (1, .int 0), (2, .int p1), (3, .int p2)], [.int 0, .ref 165]) rfl (fun _ => rfl)
    · refine xe_sn pg_105 3 (fr' := (3, [(0, .int p1)], [.int 4, .int 1, .int p1])) rfl ?_
      apply xe_callq pg_105 103 [.int p1, .int 1, .int 4] (.inl (some (.int 0))) (6, [(0, .int p1)], [.int 0]) rfl (fun _ => rfl)
      · refine xe_sn pg_103 2 (fr' := (2, [(0, .int p1), (1, .int 1), (2, .int 4)], [.int 1, .int p1])) rfl ?_
        refine xe_f2 pg_103 14 rfl rfl (by show ¬ ((p1).toInt < 1); omega) ?_
        refine xe_sn pg_103 2 (fr' := (7, [(0, .int p1), (1, .int 1), (2, .int 4)], [.int 4, .int p1])) rfl ?_
        refine xe_t2 pg_103 14 rfl rfl (by show 4 < (p1).toInt; omega) ?_
        refine xe_sn pg_103 1 (fr' := (15, [(0, .int p1), (1, .int 1), (2, .int 4)], [.int 0])) rfl ?_
        exact xe_end pg_103 rfl
      exact xe_end pg_105 rfl
    refine xe_sn pg_141 4 (fr' := (37, [(0, .ref 165), (1, .int 0), (2, .int p1), (3, .int p2)], [])) rfl ?_
    refine xe_sn pg_141 4 (fr' := (44, [(4, .int 0), (0, .ref 165), (1, .int 0), (2, .int p1), (3, .int p2)], [.int 1])) rfl ?_
    refine xe_sn pg_141 4 (fr' := (93, [(4, .int 0), (0, .ref 165), (1, .int 0), (2, .int p1), (3, .int p2)], [.int 1, .ref 165])) rfl ?_
    refine xe_sn pg_141 4 (fr' := (127, [(4, .int 0), (0, .ref 165), (1, .int 0), (2, .int p1), (3, .int p2)], [])) rfl ?_
    refine xe_sn pg_141 4 (fr' := (135, [(4, .int 0), (0, .ref 165), (1, .int 0), (2, .int p1), (3, .int p2)], [.int 0])) rfl ?_
    exact xe_end pg_141 rfl
  · exact ⟨⟨rfl, rfl, rfl, rfl⟩, Nat.le_of_ble_eq_true rfl, Nat.le_of_ble_eq_true rfl, rfl, fun q => absurd q (by decide)⟩

set_option maxRecDepth 100000 in
theorem lf_extend_4 (xs : Nat → Int32) (p1 : Int32) (p2 : Int32) (a1 : 1 ≤ p1.toInt) (b1 : p1.toInt ≤ 4) (a2 : p2.toInt < 1) : op_ok xs 162 141 [.ref 0, .int 0, .int p1, .int p2, .ref 189] [.ref 165, .int 0, .int p1, .int p2] := by
  refine ⟨2, 0, ?_⟩
  apply Exists.intro
  apply Exists.intro
  apply And.intro
  · refine xe_sn pg_162 4 (fr' := (5, [(0, .ref 0), (1, .int 0), (2, .int p1), (3, .int p2), (4, .ref 189)], [.int 0, .ref 0, .int 0, .ref 189])) rfl ?_
    refine xe_sn pg_162 2 (fr' := (7, [(0, .ref 0), (1, .int 0), (2, .int p1), (3, .int p2), (4, .ref 189)], [.int p2, .int p1, .int 0, .ref 0, .int 0, .ref 189])) rfl ?_
    apply xe_callq pg_162 75 [.ref 0, .int 0, .int p1, .int p2] (.inr 1) (21, [(0, .ref 0), (1, .int 0), (2, .int p1), (3, .int p2), (4, .ref 189)], []) rfl (fun _ => rfl)
    · refine xe_sn pg_75 1 (fr' := (1, [(0, .ref 0), (1, .int 0), (2, .int p1), (3, .int p2)], [.int 0])) rfl ?_
      apply xe_callq pg_75 92 [.int 0] (.inl none) (4, [(0, .ref 0), (1, .int 0), (2, .int p1), (3, .int p2)], []) rfl (fun _ => rfl)
      · refine xe_sn pg_92 2 (fr' := (2, [(0, .int 0)], [.int 4, .int 0])) rfl ?_
        apply xe_callq pg_92 95 [.int 0, .int 4] (.inl none) (5, [(0, .int 0)], []) rfl (fun _ => rfl)
        · refine xe_sn pg_95 4 (fr' := (6, [(0, .int 0), (1, .int 4)], [.int 4, .int 0])) rfl ?_
          refine xe_sn pg_95 1 (fr' := (17, [(0, .int 0), (1, .int 4)], [])) rfl ?_
          exact xe_end pg_95 rfl
        exact xe_end pg_92 rfl
      refine xe_sn pg_75 1 (fr' := (5, [(0, .ref 0), (1, .int 0), (2, .int p1), (3, .int p2)], [.int p1])) rfl ?_
      apply xe_callq pg_75 93 [.int p1] (.inl none) (8, [(0, .ref 0), (1, .int 0), (2, .int p1), (3, .int p2)], []) rfl (fun _ => rfl)
      · refine xe_sn pg_93 2 (fr' := (2, [(0, .int p1)], [.int 1, .int p1])) rfl ?_
        refine xe_f2 pg_93 10 rfl rfl (by show ¬ ((p1).toInt < 1); omega) ?_
        refine xe_sn pg_93 2 (fr' := (7, [(0, .int p1)], [.int 4, .int p1])) rfl ?_
        refine xe_t2 pg_93 18 rfl rfl (by show (p1).toInt ≤ 4; omega) ?_
        exact xe_end pg_93 rfl
      refine xe_sn pg_75 1 (fr' := (9, [(0, .ref 0), (1, .int 0), (2, .int p1), (3, .int p2)], [.int p2])) rfl ?_
      apply xe_callqx pg_75 96 [.int p2] 1 rfl (fun _ => rfl)
      · refine xe_sn pg_96 2 (fr' := (2, [(0, .int p2)], [.int 1, .int p2])) rfl ?_
        refine xe_t2 pg_96 15 rfl rfl (by show (p2).toInt < 1; omega) ?_
        refine xe_sn pg_96 1 (fr' := (16, [(0, .int p2)], [.int 0])) rfl ?_
        apply xe_callqx pg_96 97 [.int 0] 1 rfl (fun _ => rfl)
        · refine xe_sn pg_97 2 (fr' := (4, [(0, .int 0)], [])) rfl ?_
          exact xe_end pg_97 rfl
    refine xe_sn pg_162 1 (fr' := (22, [(0, .ref 0), (1, .int 0), (2, .int p1), (3, .int p2), (4, .ref 189)], [.int 2])) rfl ?_
    exact xe_end pg_162 rfl
  refine And.intro ⟨rfl, rfl, rfl, rfl⟩ ?_
  apply And.intro
  · refine xe_sn pg_141 2 (fr' := (2, [(0, .ref 165), (1, .int 0), (2, .int p1), (3, .int p2)], [.int 0, .ref 165])) rfl ?_
    apply xe_callq pg_141 104 [.int 0] (.inl (some (.int 1))) (5, [(0, .ref 165), (1, .int 0), (2, .int p1), (3, .int p2)], [.int 1, .ref 165]) rfl (fun _ => rfl)
    · refine xe_sn pg_104 3 (fr' := (3, [(0, .int 0)], [.int 3, .int 0, .int 0])) rfl ?_
      apply xe_callq pg_104 103 [.int 0, .int 0, .int 3] (.inl (some (.int 1))) (6, [(0, .int 0)], [.int 1]) rfl (fun _ => rfl)
      · refine xe_sn pg_103 4 (fr' := (6, [(0, .int 0), (1, .int 0), (2, .int 3)], [.int 0])) rfl ?_
        refine xe_sn pg_103 4 (fr' := (15, [(0, .int 0), (1, .int 0), (2, .int 3)], [.int 1])) rfl ?_
        exact xe_end pg_103 rfl
      exact xe_end pg_104 rfl
    refine xe_sn pg_141 2 (fr' := (9, [(0, .ref 165), (1, .int 0), (2, .int p1), (3, .int p2)], [.int p1, .ref 165])) rfl ?_
    apply xe_callq pg_141 105 [.int p1] (.inl (some (.int 1))) (12, [(0, .ref 165), (1, .int 0), (2, .int p1), (3, .int p2)], [.int 1, .ref 165]) rfl (fun _ => rfl)
    · refine xe_sn pg_105 3 (fr' := (3, [(0, .int p1)], [.int 4, .int 1, .int p1])) rfl ?_
      apply xe_callq pg_105 103 [.int p1, .int 1, .int 4] (.inl (some (.int 1))) (6, [(0, .int p1)], [.int 1]) rfl (fun _ => rfl)
      · refine xe_sn pg_103 2 (fr' := (2, [(0, .int p1), (1, .int 1), (2, .int 4)], [.int 1, .int p1])) rfl ?_
        refine xe_f2 pg_103 14 rfl rfl (by show ¬ ((p1).toInt < 1); omega) ?_
        refine xe_sn pg_103 2 (fr' := (7, [(0, .int p1), (1, .int 1), (2, .int 4)], [.int 4, .int p1])) rfl ?_
        refine xe_f2 pg_103 14 rfl rfl (by show ¬ (4 < (p1).toInt); omega) ?_
        refine xe_sn pg_103 2 (fr' := (15, [(0, .int p1), (1, .int 1), (2, .int 4)], [.int 1])) rfl ?_
        exact xe_end pg_103 rfl
      exact xe_end pg_105 rfl
    refine xe_sn pg_141 4 (fr' := (23, [(0, .ref 165), (1, .int 0), (2, .int p1), (3, .int p2)], [.int 65519, .int 1, .int p2, .ref 165])) rfl ?_
    apply xe_callq pg_141 103 [.int p2, .int 1, .int 65519] (.inl (some (.int 0))) (26, [(0, .ref 165), (1, .int 0), (2, .int p1), (3, .int p2)], [.int 0, .ref 165]) rfl (fun _ => rfl)
    · refine xe_sn pg_103 2 (fr' := (2, [(0, .int p2), (1, .int 1), (2, .int 65519)], [.int 1, .int p2])) rfl ?_
      refine xe_t2 pg_103 14 rfl rfl (by show (p2).toInt < 1; omega) ?_
      refine xe_sn pg_103 1 (fr' := (15, [(0, .int p2), (1, .int 1), (2, .int 65519)], [.int 0])) rfl ?_
      exact xe_end pg_103 rfl
    refine xe_sn pg_141 4 (fr' := (37, [(0, .ref 165), (1, .int 0), (2, .int p1), (3, .int p2)], [])) rfl ?_
    refine xe_sn pg_141 4 (fr' := (44, [(4, .int 0), (0, .ref 165), (1, .int 0), (2, .int p1), (3, .int p2)], [.int 2])) rfl ?_
    refine xe_sn pg_141 4 (fr' := (93, [(4, .int 0), (0, .ref 165), (1, .int 0), (2, .int p1), (3, .int p2)], [.int 2, .ref 165])) rfl ?_
    refine xe_sn pg_141 4 (fr' := (127, [(4, .int 0), (0, .ref 165), (1, .int 0), (2, .int p1), (3, .int p2)], [])) rfl ?_
    refine xe_sn pg_141 4 (fr' := (135, [(4, .int 0), (0, .ref 165), (1, .int 0), (2, .int p1), (3, .int p2)], [.int 0])) rfl ?_
    exact xe_end pg_141 rfl
  · exact ⟨⟨rfl, rfl, rfl, rfl⟩, Nat.le_of_ble_eq_true rfl, Nat.le_of_ble_eq_true rfl, rfl, fun q => absurd q (by decide)⟩

set_option maxRecDepth 100000 in
theorem lf_extend_5 (xs : Nat → Int32) (p1 : Int32) (p2 : Int32) (a1 : 1 ≤ p1.toInt) (b1 : p1.toInt ≤ 4) (b2 : 65519 < p2.toInt) : op_ok xs 162 141 [.ref 0, .int 0, .int p1, .int p2, .ref 189] [.ref 165, .int 0, .int p1, .int p2] := by
  refine ⟨2, 0, ?_⟩
  apply Exists.intro
  apply Exists.intro
  apply And.intro
  · refine xe_sn pg_162 4 (fr' := (5, [(0, .ref 0), (1, .int 0), (2, .int p1), (3, .int p2), (4, .ref 189)], [.int 0, .ref 0, .int 0, .ref 189])) rfl ?_
    refine xe_sn pg_162 2 (fr' := (7, [(0, .ref 0), (1, .int 0), (2, .int p1), (3, .int p2), (4, .ref 189)], [.int p2, .int p1, .int 0, .ref 0, .int 0, .ref 189])) rfl ?_
    apply xe_callq pg_162 75 [.ref 0, .int 0, .int p1, .int p2] (.inr 1) (21, [(0, .ref 0), (1, .int 0), (2, .int p1), (3, .int p2), (4, .ref 189)], []) rfl (fun _ => rfl)
    · refine xe_sn pg_75 1 (fr' := (1, [(0, .ref 0), (1, .int 0), (2, .int p1), (3, .int p2)], [.int 0])) rfl ?_
      apply xe_callq pg_75 92 [.int 0] (.inl none) (4, [(0, .ref 0), (1, .int 0), (2, .int p1), (3, .int p2)], []) rfl (fun _ => rfl)
      · refine xe_sn pg_92 2 (fr' := (2, [(0, .int 0)], [.int 4, .int 0])) rfl ?_
        apply xe_callq pg_92 95 [.int 0, .int 4] (.inl none) (5, [(0, .int 0)], []) rfl (fun _ => rfl)
        · refine xe_sn pg_95 4 (fr' := (6, [(0, .int 0), (1, .int 4)], [.int 4, .int 0])) rfl ?_
          refine xe_sn pg_95 1 (fr' := (17, [(0, .int 0), (1, .int 4)], [])) rfl ?_
          exact xe_end pg_95 rfl
        exact xe_end pg_92 rfl
      refine xe_sn pg_75 1 (fr' := (5, [(0, .ref 0), (1, .int 0), (2, .int p1), (3, .int p2)], [.int p1])) rfl ?_
      apply xe_callq pg_75 93 [.int p1] (.inl none) (8, [(0, .ref 0), (1, .int 0), (2, .int p1), (3, .int p2)], []) rfl (fun _ => rfl)
      · refine xe_sn pg_93 2 (fr' := (2, [(0, .int p1)], [.int 1, .int p1])) rfl ?_
        refine xe_f2 pg_93 10 rfl rfl (by show ¬ ((p1).toInt < 1); omega) ?_
        refine xe_sn pg_93 2 (fr' := (7, [(0, .int p1)], [.int 4, .int p1])) rfl ?_
        refine xe_t2 pg_93 18 rfl rfl (by show (p1).toInt ≤ 4; omega) ?_
        exact xe_end pg_93 rfl
      refine xe_sn pg_75 1 (fr' := (9, [(0, .ref 0), (1, .int 0), (2, .int p1), (3, .int p2)], [.int p2])) rfl ?_
      apply xe_callqx pg_75 96 [.int p2] 1 rfl (fun _ => rfl)
      · refine xe_sn pg_96 2 (fr' := (2, [(0, .int p2)], [.int 1, .int p2])) rfl ?_
        refine xe_f2 pg_96 15 rfl rfl (by show ¬ ((p2).toInt < 1); omega) ?_
        refine xe_sn pg_96 2 (fr' := (8, [(0, .int p2)], [.int 65519, .int p2])) rfl ?_
        refine xe_t2 pg_96 15 rfl rfl (by show 65519 < (p2).toInt; omega) ?_
        refine xe_sn pg_96 1 (fr' := (16, [(0, .int p2)], [.int 0])) rfl ?_
        apply xe_callqx pg_96 97 [.int 0] 1 rfl (fun _ => rfl)
        · refine xe_sn pg_97 2 (fr' := (4, [(0, .int 0)], [])) rfl ?_
          exact xe_end pg_97 rfl
    refine xe_sn pg_162 1 (fr' := (22, [(0, .ref 0), (1, .int 0), (2, .int p1), (3, .int p2), (4, .ref 189)], [.int 2])) rfl ?_
    exact xe_end pg_162 rfl
  refine And.intro ⟨rfl, rfl, rfl, rfl⟩ ?_
  apply And.intro
  · refine xe_sn pg_141 2 (fr' := (2, [(0, .ref 165), (1, .int 0), (2, .int p1), (3, .int p2)], [.int 0, .ref 165])) rfl ?_
    apply xe_callq pg_141 104 [.int 0] (.inl (some (.int 1))) (5, [(0, .ref 165), (1, .int 0), (2, .int p1), (3, .int p2)], [.int 1, .ref 165]) rfl (fun _ => rfl)
    · refine xe_sn pg_104 3 (fr' := (3, [(0, .int 0)], [.int 3, .int 0, .int 0])) rfl ?_
      apply xe_callq pg_104 103 [.int 0, .int 0, .int 3] (.inl (some (.int 1))) (6, [(0, .int 0)], [.int 1]) rfl (fun _ => rfl)
      · refine xe_sn pg_103 4 (fr' := (6, [(0, .int 0), (1, .int 0), (2, .int 3)], [.int 0])) rfl ?_
        refine xe_sn pg_103 4 (fr' := (15, [(0, .int 0), (1, .int 0), (2, .int 3)], [.int 1])) rfl ?_
        exact xe_end pg_103 rfl
      exact xe_end pg_104 rfl
    refine xe_sn pg_141 2 (fr' := (9, [(0, .ref 165), (1, .int 0), (2, .int p1), (3, .int p2)], [.int p1, .ref 165])) rfl ?_
    apply xe_callq pg_141 105 [.int p1] (.inl (some (.int 1))) (12, [(0, .ref 165), (1, .int 0), (2, .int p1), (3, .int p2)], [.int 1, .ref 165]) rfl (fun _ => rfl)
    · refine xe_sn pg_105 3 (fr' := (3, [(0, .int p1)], [.int 4, .int 1, .int p1])) rfl ?_
      apply xe_callq pg_105 103 [.int p1, .int 1, .int 4] (.inl (some (.int 1))) (6, [(0, .int p1)], [.int 1]) rfl (fun _ => rfl)
      · refine xe_sn pg_103 2 (fr' := (2, [(0, .int p1), (1, .int 1), (2, .int 4)], [.int 1, .int p1])) rfl ?_
        refine xe_f2 pg_103 14 rfl rfl (by show ¬ ((p1).toInt < 1); omega) ?_
        refine xe_sn pg_103 2 (fr' := (7, [(0, .int p1), (1, .int 1), (2, .int 4)], [.int 4, .int p1])) rfl ?_
        refine xe_f2 pg_103 14 rfl rfl (by show ¬ (4 < (p1).toInt); omega) ?_
        refine xe_sn pg_103 2 (fr' := (15, [(0, .int p1), (1, .int 1), (2, .int 4)], [.int 1])) rfl ?_
        exact xe_end pg_103 rfl
      exact xe_end pg_105 rfl
    refine xe_sn pg_141 4 (fr' := (23, [(0, .ref 165), (1, .int 0), (2, .int p1), (3, .int p2)], [.int 65519, .int 1, .int p2, .ref 165])) rfl ?_
    apply xe_callq pg_141 103 [.int p2, .int 1, .int 65519] (.inl (some (.int 0))) (26, [(0, .ref 165), (1, .int 0), (2, .int p1), (3, .int p2)], [.int 0, .ref 165]) rfl (fun _ => rfl)
    · refine xe_sn pg_103 2 (fr' := (2, [(0, .int p2), (1, .int 1), (2, .int 65519)], [.int 1, .int p2])) rfl ?_
      refine xe_f2 pg_103 14 rfl rfl (by show ¬ ((p2).toInt < 1); omega) ?_
      refine xe_sn pg_103 2 (fr' := (7, [(0, .int p2), (1, .int 1), (2, .int 65519)], [.int 65519, .int p2])) rfl ?_
      refine xe_t2 pg_103 14 rfl rfl (by show 65519 < (p2).toInt; omega) ?_
      refine xe_sn pg_103 1 (fr' := (15, [(0, .int p2), (1, .int 1), (2, .int 65519)], [.int 0])) rfl ?_
      exact xe_end pg_103 rfl
    refine xe_sn pg_141 4 (fr' := (37, [(0, .ref 165), (1, .int 0), (2, .int p1), (3, .int p2)], [])) rfl ?_
    refine xe_sn pg_141 4 (fr' := (44, [(4, .int 0), (0, .ref 165), (1, .int 0), (2, .int p1), (3, .int p2)], [.int 2])) rfl ?_
    refine xe_sn pg_141 4 (fr' := (93, [(4, .int 0), (0, .ref 165), (1, .int 0), (2, .int p1), (3, .int p2)], [.int 2, .ref 165])) rfl ?_
    refine xe_sn pg_141 4 (fr' := (127, [(4, .int 0), (0, .ref 165), (1, .int 0), (2, .int p1), (3, .int p2)], [])) rfl ?_
    refine xe_sn pg_141 4 (fr' := (135, [(4, .int 0), (0, .ref 165), (1, .int 0), (2, .int p1), (3, .int p2)], [.int 0])) rfl ?_
    exact xe_end pg_141 rfl
  · exact ⟨⟨rfl, rfl, rfl, rfl⟩, Nat.le_of_ble_eq_true rfl, Nat.le_of_ble_eq_true rfl, rfl, fun q => absurd q (by decide)⟩

set_option maxRecDepth 100000 in
theorem lf_extend_6 (xs : Nat → Int32) (p1 : Int32) (p2 : Int32) (a1 : 1 ≤ p1.toInt) (b1 : p1.toInt ≤ 4) (a2 : 1 ≤ p2.toInt) (b2 : p2.toInt ≤ 65519) : op_ok xs 162 141 [.ref 0, .int 0, .int p1, .int p2, .ref 189] [.ref 165, .int 0, .int p1, .int p2] := by
  refine ⟨3, 0, ?_⟩
  apply Exists.intro
  apply Exists.intro
  apply And.intro
  · refine xe_sn pg_162 4 (fr' := (5, [(0, .ref 0), (1, .int 0), (2, .int p1), (3, .int p2), (4, .ref 189)], [.int 0, .ref 0, .int 0, .ref 189])) rfl ?_
    refine xe_sn pg_162 2 (fr' := (7, [(0, .ref 0), (1, .int 0), (2, .int p1), (3, .int p2), (4, .ref 189)], [.int p2, .int p1, .int 0, .ref 0, .int 0, .ref 189])) rfl ?_
    apply xe_callq pg_162 75 [.ref 0, .int 0, .int p1, .int p2] (.inr 2) (25, [(0, .ref 0), (1, .int 0), (2, .int p1), (3, .int p2), (4, .ref 189)], []) rfl (fun _ => rfl)
    · refine xe_sn pg_75 1 (fr' := (1, [(0, .ref 0), (1, .int 0), (2, .int p1), (3, .int p2)], [.int 0])) rfl ?_
      apply xe_callq pg_75 92 [.int 0] (.inl none) (4, [(0, .ref 0), (1, .int 0), (2, .int p1), (3, .int p2)], []) rfl (fun _ => rfl)
      · refine xe_sn pg_92 2 (fr' := (2, [(0, .int 0)], [.int 4, .int 0])) rfl ?_
        apply xe_callq pg_92 95 [.int 0, .int 4] (.inl none) (5, [(0, .int 0)], []) rfl (fun _ => rfl)
        · refine xe_sn pg_95 4 (fr' := (6, [(0, .int 0), (1, .int 4)], [.int 4, .int 0])) rfl ?_
          refine xe_sn pg_95 1 (fr' := (17, [(0, .int 0), (1, .int 4)], [])) rfl ?_
          exact xe_end pg_95 rfl
        exact xe_end pg_92 rfl
      refine xe_sn pg_75 1 (fr' := (5, [(0, .ref 0), (1, .int 0), (2, .int p1), (3, .int p2)], [.int p1])) rfl ?_
      apply xe_callq pg_75 93 [.int p1] (.inl none) (8, [(0, .ref 0), (1, .int 0), (2, .int p1), (3, .int p2)], []) rfl (fun _ => rfl)
      · refine xe_sn pg_93 2 (fr' := (2, [(0, .int p1)], [.int 1, .int p1])) rfl ?_
        refine xe_f2 pg_93 10 rfl rfl (by show ¬ ((p1).toInt < 1); omega) ?_
        refine xe_sn pg_93 2 (fr' := (7, [(0, .int p1)], [.int 4, .int p1])) rfl ?_
        refine xe_t2 pg_93 18 rfl rfl (by show (p1).toInt ≤ 4; omega) ?_
        exact xe_end pg_93 rfl
      refine xe_sn pg_75 1 (fr' := (9, [(0, .ref 0), (1, .int 0), (2, .int p1), (3, .int p2)], [.int p2])) rfl ?_
      apply xe_callq pg_75 96 [.int p2] (.inl none) (12, [(0, .ref 0), (1, .int 0), (2, .int p1), (3, .int p2)], []) rfl (fun _ => rfl)
      · refine xe_sn pg_96 2 (fr' := (2, [(0, .int p2)], [.int 1, .int p2])) rfl ?_
        refine xe_f2 pg_96 15 rfl rfl (by show ¬ ((p2).toInt < 1); omega) ?_
        refine xe_sn pg_96 2 (fr' := (8, [(0, .int p2)], [.int 65519, .int p2])) rfl ?_
        refine xe_f2 pg_96 15 rfl rfl (by show ¬ (65519 < (p2).toInt); omega) ?_
        refine xe_sn pg_96 2 (fr' := (16, [(0, .int p2)], [.int 1])) rfl ?_
        apply xe_callq pg_96 97 [.int 1] (.inl none) (19, [(0, .int p2)], []) rfl (fun _ => rfl)
        · refine xe_sn pg_97 2 (fr' := (12, [(0, .int 1)], [])) rfl ?_
          exact xe_end pg_97 rfl
        exact xe_end pg_96 rfl
      refine xe_sn pg_75 4 (fr' := (18, [(0, .ref 0), (1, .int 0), (2, .int p1), (3, .int p2)], [.ref 121])) rfl ?_
      refine xe_sn pg_75 3 (fr' := (23, [(4, .ref 121), (0, .ref 0), (1, .int 0), (2, .int p1), (3, .int p2)], [.int p1, .ref 121])) rfl ?_
      apply xe_callq pg_75 18 [.ref 121, .int p1] (.inl (some (.int 0))) (26, [(4, .ref 121), (0, .ref 0), (1, .int 0), (2, .int p1), (3, .int p2)], [.int 0]) rfl (fun _ => rfl)
      · refine xe_sn pg_18 4 (fr' := (4, [(2, .int 0), (0, .ref 121), (1, .int p1)], [.ref 121, .int 0])) rfl ?_
        refine xe_sn pg_18 3 (fr' := (29, [(2, .int 0), (0, .ref 121), (1, .int p1)], [.int 0])) rfl ?_
        exact xe_end pg_18 rfl
      refine xe_sn pg_75 3 (fr' := (34, [(4, .ref 121), (0, .ref 0), (1, .int 0), (2, .int p1), (3, .int p2)], [.int 1])) rfl ?_
      apply xe_callq pg_75 97 [.int 1] (.inl none) (37, [(4, .ref 121), (0, .ref 0), (1, .int 0), (2, .int p1), (3, .int p2)], []) rfl (fun _ => rfl)
      · refine xe_sn pg_97 2 (fr' := (12, [(0, .int 1)], [])) rfl ?_
        exact xe_end pg_97 rfl
      refine xe_sn pg_75 4 (fr' := (59, [(4, .ref 121), (0, .ref 0), (1, .int 0), (2, .int p1), (3, .int p2)], [])) rfl ?_
      refine xe_sn pg_75 1 (fr' := (60, [(4, .ref 121), (0, .ref 0), (1, .int 0), (2, .int p1), (3, .int p2)], [.int 0])) rfl ?_
      apply xe_callqx pg_75 98 [.int 0] 2 rfl (fun _ => rfl)
      · refine xe_sn pg_98 2 (fr' := (4, [(0, .int 0)], [])) rfl ?_
        exact xe_end pg_98 rfl
    refine xe_sn pg_162 1 (fr' := (26, [(0, .ref 0), (1, .int 0), (2, .int p1), (3, .int p2), (4, .ref 189)], [.int 3])) rfl ?_
    exact xe_end pg_162 rfl
  refine And.intro ⟨rfl, rfl, rfl, rfl⟩ ?_
  apply And.intro
  · refine xe_sn pg_141 2 (fr' := (2, [(0, .ref 165), (1, .int 0), (2, .int p1), (3, .int p2)], [.int 0, .ref 165])) rfl ?_
    apply xe_callq pg_141 104 [.int 0] (.inl (some (.int 1))) (5, [(0, .ref 165), (1, .int 0), (2, .int p1), (3, .int p2)], [.int 1, .ref 165]) rfl (fun _ => rfl)
    · refine xe_sn pg_104 3 (fr' := (3, [(0, .int 0)], [.int 3, .int 0, .int 0])) rfl ?_
      apply xe_callq pg_104 103 [.int 0, .int 0, .int 3] (.inl (some (.int 1))) (6, [(0, .int 0)], [.int 1]) rfl (fun _ => rfl)
      · refine xe_sn pg_103 4 (fr' := (6, [(0, .int 0), (1, .int 0), (2, .int 3)], [.int 0])) rfl ?_
        refine xe_sn pg_103 4 (fr' := (15, [(0, .int 0), (1, .int 0), (2, .int 3)], [.int 1])) rfl ?_
        exact xe_end pg_103 rfl
      exact xe_end pg_104 rfl
    refine xe_sn pg_141 2 (fr' := (9, [(0, .ref 165), (1, .int 0), (2, .int p1), (3, .int p2)], [.int p1, .ref 165])) rfl ?_
    apply xe_callq pg_141 105 [.int p1] (.inl (some (.int 1))) (12, [(0, .ref 165), (1, .int 0), (2, .int p1), (3, .int p2)], [.int 1, .ref 165]) rfl (fun _ => rfl)
    · refine xe_sn pg_105 3 (fr' := (3, [(0, .int p1)], [.int 4, .int 1, .int p1])) rfl ?_
      apply xe_callq pg_105 103 [.int p1, .int 1, .int 4] (.inl (some (.int 1))) (6, [(0, .int p1)], [.int 1]) rfl (fun _ => rfl)
      · refine xe_sn pg_103 2 (fr' := (2, [(0, .int p1), (1, .int 1), (2, .int 4)], [.int 1, .int p1])) rfl ?_
        refine xe_f2 pg_103 14 rfl rfl (by show ¬ ((p1).toInt < 1); omega) ?_
        refine xe_sn pg_103 2 (fr' := (7, [(0, .int p1), (1, .int 1), (2, .int 4)], [.int 4, .int p1])) rfl ?_
        refine xe_f2 pg_103 14 rfl rfl (by show ¬ (4 < (p1).toInt); omega) ?_
        refine xe_sn pg_103 2 (fr' := (15, [(0, .int p1), (1, .int 1), (2, .int 4)], [.int 1])) rfl ?_
        exact xe_end pg_103 rfl
      exact xe_end pg_105 rfl
    refine xe_sn pg_141 4 (fr' := (23, [(0, .ref 165), (1, .int 0), (2, .int p1), (3, .int p2)], [.int 65519, .int 1, .int p2, .ref 165])) rfl ?_
    apply xe_callq pg_141 103 [.int p2, .int 1, .int 65519] (.inl (some (.int 1))) (26, [(0, .ref 165), (1, .int 0), (2, .int p1), (3, .int p2)], [.int 1, .ref 165]) rfl (fun _ => rfl)
    · refine xe_sn pg_103 2 (fr' := (2, [(0, .int p2), (1, .int 1), (2, .int 65519)], [.int 1, .int p2])) rfl ?_
      refine xe_f2 pg_103 14 rfl rfl (by show ¬ ((p2).toInt < 1); omega) ?_
      refine xe_sn pg_103 2 (fr' := (7, [(0, .int p2), (1, .int 1), (2, .int 65519)], [.int 65519, .int p2])) rfl ?_
      refine xe_f2 pg_103 14 rfl rfl (by show ¬ (65519 < (p2).toInt); omega) ?_
      refine xe_sn pg_103 2 (fr' := (15, [(0, .int p2), (1, .int 1), (2, .int 65519)], [.int 1])) rfl ?_
      exact xe_end pg_103 rfl
    refine xe_sn pg_141 4 (fr' := (38, [(0, .ref 165), (1, .int 0), (2, .int p1), (3, .int p2)], [.int 0])) rfl ?_
    refine xe_sn pg_141 4 (fr' := (47, [(4, .int 0), (0, .ref 165), (1, .int 0), (2, .int p1), (3, .int p2)], [])) rfl ?_
    refine xe_sn pg_141 4 (fr' := (54, [(4, .int 0), (0, .ref 165), (1, .int 0), (2, .int p1), (3, .int p2)], [.int 0, .ref 168, .int 0])) rfl ?_
    refine xe_sn pg_141 4 (fr' := (90, [(4, .int 0), (0, .ref 165), (1, .int 0), (2, .int p1), (3, .int p2)], [.ref 165, .ref 165])) rfl ?_
    refine xe_sn pg_141 4 (fr' := (100, [(4, .int 0), (0, .ref 165), (1, .int 0), (2, .int p1), (3, .int p2)], [.ref 167, .ref 165])) rfl ?_
    refine xe_sn pg_141 4 (fr' := (116, [(4, .int 0), (0, .ref 165), (1, .int 0), (2, .int p1), (3, .int p2)], [.ref 165])) rfl ?_
    refine xe_sn pg_141 4 (fr' := (128, [(4, .int 0), (0, .ref 165), (1, .int 0), (2, .int p1), (3, .int p2)], [.ref 165])) rfl ?_
    refine xe_sn pg_141 3 (fr' := (135, [(4, .int 0), (0, .ref 165), (1, .int 0), (2, .int p1), (3, .int p2)], [.int 0])) rfl ?_
    exact xe_end pg_141 rfl
  · exact ⟨⟨rfl, rfl, rfl, rfl⟩, Nat.le_of_ble_eq_true rfl, Nat.le_of_ble_eq_true rfl, rfl, fun q => absurd q (by decide)⟩

set_option maxRecDepth 100000 in
theorem lf_extend_7 (xs : Nat → Int32) (p1 : Int32) (p2 : Int32) (a1 : p1.toInt < 1) : op_ok xs 162 141 [.ref 0, .int 1, .int p1, .int p2, .ref 189] [.ref 165, .int 1, .int p1, .int p2] := by
  refine ⟨1, 0, ?_⟩
  apply Exists.intro
  apply Exists.intro
  apply And.intro
  · refine xe_sn pg_162 4 (fr' := (5, [(0, .ref 0), (1, .int 1), (2, .int p1), (3, .int p2), (4, .ref 189)], [.int 1, .ref 0, .int 0, .ref 189])) rfl ?_
    refine xe_sn pg_162 2 (fr' := (7, [(0, .ref 0), (1, .int 1), (2, .int p1), (3, .int p2), (4, .ref 189)], [.int p2, .int p1, .int 1, .ref 0, .int 0, .ref 189])) rfl ?_
    apply xe_callq pg_162 75 [.ref 0, .int 1, .int p1, .int p2] (.inr 0) (17, [(0, .ref 0), (1, .int 1), (2, .int p1), (3, .int p2), (4, .ref 189)], []) rfl (fun _ => rfl)
    · refine xe_sn pg_75 1 (fr' := (1, [(0, .ref 0), (1, .int 1), (2, .int p1), (3, .int p2)], [.int 1])) rfl ?_
      apply xe_callq pg_75 92 [.int 1] (.inl none) (4, [(0, .ref 0), (1, .int 1), (2, .int p1), (3, .int p2)], []) rfl (fun _ => rfl)
      · refine xe_sn pg_92 2 (fr' := (2, [(0, .int 1)], [.int 4, .int 1])) rfl ?_
        apply xe_callq pg_92 95 [.int 1, .int 4] (.inl none) (5, [(0, .int 1)], []) rfl (fun _ => rfl)
        · refine xe_sn pg_95 4 (fr' := (6, [(0, .int 1), (1, .int 4)], [.int 4, .int 1])) rfl ?_
          refine xe_sn pg_95 1 (fr' := (17, [(0, .int 1), (1, .int 4)], [])) rfl ?_
          exact xe_end pg_95 rfl
        exact xe_end pg_92 rfl
      refine xe_sn pg_75 1 (fr' := (5, [(0, .ref 0), (1, .int 1), (2, .int p1), (3, .int p2)], [.int p1])) rfl ?_
      apply xe_callqx pg_75 93 [.int p1] 0 rfl (fun _ => rfl)
      · refine xe_sn pg_93 2 (fr' := (2, [(0, .int p1)], [.int 1, .int p1])) rfl ?_
        refine xe_t2 pg_93 10 rfl rfl (by show (p1).toInt < 1; omega) ?_
        exact xe_end pg_93 rfl
    refine xe_sn pg_162 1 (fr' := (18, [(0, .ref 0), (1, .int 1), (2, .int p1), (3, .int p2), (4, .ref 189)], [.int 1])) rfl ?_
    exact xe_end pg_162 rfl
  refine And.intro ⟨rfl, rfl, rfl, rfl⟩ ?_
  apply And.intro
  · refine xe_sn pg_141 2 (fr' := (2, [(0, .ref 165), (1, .int 1), (2, .int p1), (3, .int p2)], [.int 1, .ref 165])) rfl ?_
    apply xe_callq pg_141 104 [.int 1] (.inl (some (.int 1))) (5, [(0, .ref 165), (1, .int 1), (2, .int p1), (3, .int p2)], [.int 1, .ref 165]) rfl (fun _ => rfl)
    · refine xe_sn pg_104 3 (fr' := (3, [(0, .int 1)], [.int 3, .int 0, .int 1])) rfl ?_
      apply xe_callq pg_104 103 [.int 1, .int 0, .int 3] (.inl (some (.int 1))) (6, [(0, .int 1)], [.int 1]) rfl (fun _ => rfl)
      · refine xe_sn pg_103 4 (fr' := (6, [(0, .int 1), (1, .int 0), (2, .int 3)], [.int 1])) rfl ?_
        refine xe_sn pg_103 4 (fr' := (15, [(0, .int 1), (1, .int 0), (2, .int 3)], [.int 1])) rfl ?_
        exact xe_end pg_103 rfl
      exact xe_end pg_104 rfl
    refine xe_sn pg_141 2 (fr' := (9, [(0, .ref 165), (1, .int 1), (2, .int p1), (3, .int p2)], [.int p1, .ref 165])) rfl ?_
    apply xe_callq pg_141 105 [.int p1] (.inl (some (.int 0))) (12, [(0, .ref 165), (1, .int 1), (2, .int p1), (3, .int p2)], [.int 0, .ref 165]) rfl (fun _ => rfl)
    · refine xe_sn pg_105 3 (fr' := (3, [(0, .int p1)], [.int 4, .int 1, .int p1])) rfl ?_
      apply xe_callq pg_105 103 [.int p1, .int 1, .int 4] (.inl (some (.int 0))) (6, [(0, .int p1)], [.int 0]) rfl (fun _ => rfl)
      · refine xe_sn pg_103 2 (fr' := (2, [(0, .int p1), (1, .int 1), (2, .int 4)], [.int 1, .int p1])) rfl ?_
        refine xe_t2 pg_103 14 rfl rfl (by show (p1).toInt < 1; omega) ?_
        refine xe_sn pg_103 1 (fr' := (15, [(0, .int p1), (1, .int 1), (2, .int 4)], [.int 0])) rfl ?_
        exact xe_end pg_103 rfl
      exact xe_end pg_105 rfl
    refine xe_sn pg_141 4 (fr' := (37, [(0, .ref 165), (1, .int 1), (2, .int p1), (3, .int p2)], [])) rfl ?_
    refine xe_sn pg_141 4 (fr' := (44, [(4, .int 0), (0, .ref 165), (1, .int 1), (2, .int p1), (3, .int p2)], [.int 1])) rfl ?_
    refine xe_sn pg_141 4 (fr' := (93, [(4, .int 0), (0, .ref 165), (1, .int 1), (2, .int p1), (3, .int p2)], [.int 1, .ref 165])) rfl ?_
    refine xe_sn pg_141 4 (fr' := (127, [(4, .int 0), (0, .ref 165), (1, .int 1), (2, .int p1), (3, .int p2)], [])) rfl ?_
    refine xe_sn pg_141 4 (fr' := (135, [(4, .int 0), (0, .ref 165), (1, .int 1), (2, .int p1), (3, .int p2)], [.int 0])) rfl ?_
    exact xe_end pg_141 rfl
  · exact ⟨⟨rfl, rfl, rfl, rfl⟩, Nat.le_of_ble_eq_true rfl, Nat.le_of_ble_eq_true rfl, rfl, fun q => absurd q (by decide)⟩

set_option maxRecDepth 100000 in
theorem lf_extend_8 (xs : Nat → Int32) (p1 : Int32) (p2 : Int32) (b1 : 4 < p1.toInt) : op_ok xs 162 141 [.ref 0, .int 1, .int p1, .int p2, .ref 189] [.ref 165, .int 1, .int p1, .int p2] := by
  refine ⟨1, 0, ?_⟩
  apply Exists.intro
  apply Exists.intro
  apply And.intro
  · refine xe_sn pg_162 4 (fr' := (5, [(0, .ref 0), (1, .int 1), (2, .int p1), (3, .int p2), (4, .ref 189)], [.int 1, .ref 0, .int 0, .ref 189])) rfl ?_
    refine xe_sn pg_162 2 (fr' := (7, [(0, .ref 0), (1, .int 1), (2, .int p1), (3, .int p2), (4, .ref 189)], [.int p2, .int p1, .int 1, .ref 0, .int 0, .ref 189])) rfl ?_
    apply xe_callq pg_162 75 [.ref 0, .int 1, .int p1, .int p2] (.inr 0) (17, [(0, .ref 0), (1, .int 1), (2, .int p1), (3, .int p2), (4, .ref 189)], []) rfl (fun _ => rfl)
    · refine xe_sn pg_75 1 (fr' := (1, [(0, .ref 0), (1, .int 1), (2, .int p1), (3, .int p2)], [.int 1])) rfl ?_
      apply xe_callq pg_75 92 [.int 1] (.inl none) (4, [(0, .ref 0), (1, .int 1), (2, .int p1), (3, .int p2)], []) rfl (fun _ => rfl)
      · refine xe_sn pg_92 2 (fr' := (2, [(0, .int 1)], [.int 4, .int 1])) rfl ?_
        apply xe_callq pg_92 95 [.int 1, .int 4] (.inl none) (5, [(0, .int 1)], []) rfl (fun _ => rfl)
        · refine xe_sn pg_95 4 (fr' := (6, [(0, .int 1), (1, .int 4)], [.int 4, .int 1])) rfl ?_
          refine xe_sn pg_95 1 (fr' := (17, [(0, .int 1), (1, .int 4)], [])) rfl ?_
          exact xe_end pg_95 rfl
        exact xe_end pg_92 rfl
      refine xe_sn pg_75 1 (fr' := (5, [(0, .ref 0), (1, .int 1), (2, .int p1), (3, .int p2)], [.int p1])) rfl ?_
      apply xe_callqx pg_75 93 [.int p1] 0 rfl (fun _ => rfl)
      · refine xe_sn pg_93 2 (fr' := (2, [(0, .int p1)], [.int 1, .int p1])) rfl ?_
        refine xe_f2 pg_93 10 rfl rfl (by show ¬ ((p1).toInt < 1); omega) ?_
        refine xe_sn pg_93 2 (fr' := (7, [(0, .int p1)], [.int 4, .int p1])) rfl ?_
        refine xe_f2 pg_93 18 rfl rfl (by show ¬ ((p1).toInt ≤ 4); omega) ?_
        exact xe_end pg_93 rfl
    refine xe_sn pg_162 1 (fr' := (18, [(0, .ref 0), (1, .int 1), (2, .int p1), (3, .int p2), (4, .ref 189)], [.int 1])) rfl ?_
    exact xe_end pg_162 rfl
  refine And.intro ⟨rfl, rfl, rfl, rfl⟩ ?_
  apply And.intro
  · refine xe_sn pg_141 2 (fr' := (2, [(0, .ref 165), (1, .int 1), (2, .int p1), (3, .int p2)], [.int 1, .ref 165])) rfl ?_
    apply xe_callq pg_141 104 [.int 1] (.inl (some (.int 1))) (5, [(0, .ref 165), (1, .int 1), (2, .int p1), (3, .int p2)], [.int 1, .ref 165]) rfl (fun _ => rfl)
    · refine xe_sn pg_104 3 (fr' := (3, [(0, .int 1)], [.int 3, .int 0, .int 1])) rfl ?_
      apply xe_callq pg_104 103 [.int 1, .int 0, .int 3] (.inl (some (.int 1))) (6, [(0, .int 1)], [.int 1]) rfl (fun _ => rfl)
      · refine xe_sn pg_103 4 (fr' := (6, [(0, .int 1), (1, .int 0), (2, .int 3)], [.int 1])) rfl ?_
        refine xe_sn pg_103 4 (fr' := (15, [(0, .int 1), (1, .int 0), (2, .int 3)], [.int 1])) rfl ?_
        exact xe_end pg_103 rfl
      exact xe_end pg_104 rfl
    refine xe_sn pg_141 2 (fr' := (9, [(0, .ref 165), (1, .int 1), (2, .int p1), (3, .int p2)], [.int p1, .ref 165])) rfl ?_
    apply xe_callq pg_141 105 [.int p1] (.inl (some (.int 0))) (12, [(0, .ref 165), (1, .int 1), (2, .int p1), (3, .int p2)], [.int 0, .ref 165]) rfl (fun _ => rfl)
    · refine xe_sn pg_105 3 (fr' := (3, [(0, .int p1)], [.int 4, .int 1, .int p1])) rfl ?_
      apply xe_callq pg_105 103 [.int p1, .int 1, .int 4] (.inl (some (.int 0))) (6, [(0, .int p1)], [.int 0]) rfl (fun _ => rfl)
      · refine xe_sn pg_103 2 (fr' := (2, [(0, .int p1), (1, .int 1), (2, .int 4)], [.int 1, .int p1])) rfl ?_
        refine xe_f2 pg_103 14 rfl rfl (by show ¬ ((p1).toInt < 1); omega) ?_
        refine xe_sn pg_103 2 (fr' := (7, [(0, .int p1), (1, .int 1), (2, .int 4)], [.int 4, .int p1])) rfl ?_
        refine xe_t2 pg_103 14 rfl rfl (by show 4 < (p1).toInt; omega) ?_
        refine xe_sn pg_103 1 (fr' := (15, [(0, .int p1), (1, .int 1), (2, .int 4)], [.int 0])) rfl ?_
        exact xe_end pg_103 rfl
      exact xe_end pg_105 rfl
    refine xe_sn pg_141 4 (fr' := (37, [(0, .ref 165), (1, .int 1), (2, .int p1), (3, .int p2)], [])) rfl ?_
    refine xe_sn pg_141 4 (fr' := (44, [(4, .int 0), (0, .ref 165), (1, .int 1), (2, .int p1), (3, .int p2)], [.int 1])) rfl ?_
    refine xe_sn pg_141 4 (fr' := (93, [(4, .int 0), (0, .ref 165), (1, .int 1), (2, .int p1), (3, .int p2)], [.int 1, .ref 165])) rfl ?_
    refine xe_sn pg_141 4 (fr' := (127, [(4, .int 0), (0, .ref 165), (1, .int 1), (2, .int p1), (3, .int p2)], [])) rfl ?_
    refine xe_sn pg_141 4 (fr' := (135, [(4, .int 0), (0, .ref 165), (1, .int 1), (2, .int p1), (3, .int p2)], [.int 0])) rfl ?_
    exact xe_end pg_141 rfl
  · exact ⟨⟨rfl, rfl, rfl, rfl⟩, Nat.le_of_ble_eq_true rfl, Nat.le_of_ble_eq_true rfl, rfl, fun q => absurd q (by decide)⟩

set_option maxRecDepth 100000 in
theorem lf_extend_9 (xs : Nat → Int32) (p1 : Int32) (p2 : Int32) (a1 : 1 ≤ p1.toInt) (b1 : p1.toInt ≤ 4) (a2 : p2.toInt < 1) : op_ok xs 162 141 [.ref 0, .int 1, .int p1, .int p2, .ref 189] [.ref 165, .int 1, .int p1, .int p2] := by
  refine ⟨2, 0, ?_⟩
  apply Exists.intro
  apply Exists.intro
  apply And.intro
  · refine xe_sn pg_162 4 (fr' := (5, [(0, .ref 0), (1, .int 1), (2, .int p1), (3, .int p2), (4, .ref 189)], [.int 1, .ref 0, .int 0, .ref 189])) rfl ?_
    refine xe_sn pg_162 2 (fr' := (7, [(0, .ref 0), (1, .int 1), (2, .int p1), (3, .int p2), (4, .ref 189)], [.int p2, .int p1, .int 1, .ref 0, .int 0, .ref 189])) rfl ?_
    apply xe_callq pg_162 75 [.ref 0, .int 1, .int p1, .int p2] (.inr 1) (21, [(0, .ref 0), (1, .int 1), (2, .int p1), (3, .int p2), (4, .ref 189)], []) rfl (fun _ => rfl)
    · refine xe_sn pg_75 1 (fr' := (1, [(0, .ref 0), (1, .int 1), (2, .int p1), (3, .int p2)], [.int 1])) rfl ?_
      apply xe_callq pg_75 92 [.int 1] (.inl none) (4, [(0, .ref 0), (1, .int 1), (2, .int p1), (3, .int p2)], []) rfl (fun _ => rfl)
      · refine xe_sn pg_92 2 (fr' := (2, [(0, .int 1)], [.int 4, .int 1])) rfl ?_
        apply xe_callq pg_92 95 [.int 1, .int 4] (.inl none) (5, [(0, .int 1)], []) rfl (fun _ => rfl)
        · refine xe_sn pg_95 4 (fr' := (6, [(0, .int 1), (1, .int 4)], [.int 4, .int 1])) rfl ?_
          refine xe_sn pg_95 1 (fr' := (17, [(0, .int 1), (1, .int 4)], [])) rfl ?_
          exact xe_end pg_95 rfl
        exact xe_end pg_92 rfl
      refine xe_sn pg_75 1 (fr' := (5, [(0, .ref 0), (1, .int 1), (2, .int p1), (3, .int p2)], [.int p1])) rfl ?_
      apply xe_callq pg_75 93 [.int p1] (.inl none) (8, [(0, .ref 0), (1, .int 1), (2, .int p1), (3, .int p2)], []) rfl (fun _ => rfl)
      · refine xe_sn pg_93 2 (fr' := (2, [(0, .int p1)], [.int 1, .int p1])) rfl ?_
        refine xe_f2 pg_93 10 rfl rfl (by show ¬ ((p1).toInt < 1); omega) ?_
        refine xe_sn pg_93 2 (fr' := (7, [(0, .int p1)], [.int 4, .int p1])) rfl ?_
        refine xe_t2 pg_93 18 rfl rfl (by show (p1).toInt ≤ 4; omega) ?_
        exact xe_end pg_93 rfl
      refine xe_sn pg_75 1 (fr' := (9, [(0, .ref 0), (1, .int 1), (2, .int p1), (3, .int p2)], [.int p2])) rfl ?_
      apply xe_callqx pg_75 96 [.int p2] 1 rfl (fun _ => rfl)
      · refine xe_sn pg_96 2 (fr' := (2, [(0, .int p2)], [.int 1, .int p2])) rfl ?_
        refine xe_t2 pg_96 15 rfl rfl (by show (p2).toInt < 1; omega) ?_
        refine xe_sn pg_96 1 (fr' := (16, [(0, .int p2)], [.int 0])) rfl ?_
        apply xe_callqx pg_96 97 [.int 0] 1 rfl (fun _ => rfl)
        · refine xe_sn pg_97 2 (fr' := (4, [(0, .int 0)], [])) rfl ?_
          exact xe_end pg_97 rfl
    refine xe_sn pg_162 1 (fr' := (22, [(0, .ref 0), (1, .int 1), (2, .int p1), (3, .int p2), (4, .ref 189)], [.int 2])) rfl ?_
    exact xe_end pg_162 rfl
  refine And.intro ⟨rfl, rfl, rfl, rfl⟩ ?_
  apply And.intro
  · refine xe_sn pg_141 2 (fr' := (2, [(0, .ref 165), (1, .int 1), (2, .int p1), (3, .int p2)], [.int 1, .ref 165])) rfl ?_
    apply xe_callq pg_141 104 [.int 1] (.inl (some (.int 1))) (5, [(0, .ref 165), (1, .int 1), (2, .int p1), (3, .int p2)], [.int 1, .ref 165]) rfl (fun _ => rfl)
    · refine xe_sn pg_104 3 (fr' := (3, [(0, .int 1)], [.int 3, .int 0, .int 1])) rfl ?_
      apply xe_callq pg_104 103 [.int 1, .int 0, .int 3] (.inl (some (.int 1))) (6, [(0, .int 1)], [.int 1]) rfl (fun _ => rfl)
      · refine xe_sn pg_103 4 (fr' := (6, [(0, .int 1), (1, .int 0), (2, .int 3)], [.int 1])) rfl ?_
        refine xe_sn pg_103 4 (fr' := (15, [(0, .int 1), (1, .int 0), (2, .int 3)], [.int 1])) rfl ?_
        exact xe_end pg_103 rfl
      exact xe_end pg_104 rfl
    refine xe_sn pg_141 2 (fr' := (9, [(0, .ref 165), (1, .int 1), (2, .int p1), (3, .int p2)], [.int p1, .ref 165])) rfl ?_
    apply xe_callq pg_141 105 [.int p1] (.inl (some (.int 1))) (12, [(0, .ref 165), (1, .int 1), (2, .int p1), (3, .int p2)], [.int 1, .ref 165]) rfl (fun _ => rfl)
    · refine xe_sn pg_105 3 (fr' := (3, [(0, .int p1)], [.int 4, .int 1, .int p1])) rfl ?_
      apply xe_callq pg_105 103 [.int p1, .int 1, .int 4] (.inl (some (.int 1))) (6, [(0, .int p1)], [.int 1]) rfl (fun _ => rfl)
      · refine xe_sn pg_103 2 (fr' := (2, [(0, .int p1), (1, .int 1), (2, .int 4)], [.int 1, .int p1])) rfl ?_
        refine xe_f2 pg_103 14 rfl rfl (by show ¬ ((p1).toInt < 1); omega) ?_
        refine xe_sn pg_103 2 (fr' := (7, [(0, .int p1), (1, .int 1), (2, .int 4)], [.int 4, .int p1])) rfl ?_
        refine xe_f2 pg_103 14 rfl rfl (by show ¬ (4 < (p1).toInt); omega) ?_
        refine xe_sn pg_103 2 (fr' := (15, [(0, .int p1), (1, .int 1), (2, .int 4)], [.int 1])) rfl ?_
        exact xe_end pg_103 rfl
      exact xe_end pg_105 rfl
    refine xe_sn pg_141 4 (fr' := (23, [(0, .ref 165), (1, .int 1), (2, .int p1), (3, .int p2)], [.int 65519, .int 1, .int p2, .ref 165])) rfl ?_
    apply xe_callq pg_141 103 [.int p2, .int 1, .int 65519] (.inl (some (.int 0))) (26, [(0, .ref 165), (1, .int 1), (2, .int p1), (3, .int p2)], [.int 0, .ref 165]) rfl (fun _ => rfl)
    · refine xe_sn pg_103 2 (fr' := (2, [(0, .int p2), (1, .int 1), (2, .int 65519)], [.int 1, .int p2])) rfl ?_
      refine xe_t2 pg_103 14 rfl rfl (by show (p2).toInt < 1; omega) ?_
      refine xe_sn pg_103 1 (fr' := (15, [(0, .int p2), (1, .int 1), (2, .int 65519)], [.int 0])) rfl ?_
      exact xe_end pg_103 rfl
    refine xe_sn pg_141 4 (fr' := (37, [(0, .ref 165), (1, .int 1), (2, .int p1), (3, .int p2)], [])) rfl ?_
    refine xe_sn pg_141 4 (fr' := (44, [(4, .int 0), (0, .ref 165), (1, .int 1), (2, .int p1), (3, .int p2)], [.int 2])) rfl ?_
    refine xe_sn pg_141 4 (fr' := (93, [(4, .int 0), (0, .ref 165), (1, .int 1), (2, .int p1), (3, .int p2)], [.int 2, .ref 165])) rfl ?_
    refine xe_sn pg_141 4 (fr' := (127, [(4, .int 0), (0, .ref 165), (1, .int 1), (2, .int p1), (3, .int p2)], [])) rfl ?_
    refine xe_sn pg_141 4 (fr' := (135, [(4, .int 0), (0, .ref 165), (1, .int 1), (2, .int p1), (3, .int p2)], [.int 0])) rfl ?_
    exact xe_end pg_141 rfl
  · exact ⟨⟨rfl, rfl, rfl, rfl⟩, Nat.le_of_ble_eq_true rfl, Nat.le_of_ble_eq_true rfl, rfl, fun q => absurd q (by decide)⟩

set_option maxRecDepth 100000 in
theorem lf_extend_10 (xs : Nat → Int32) (p1 : Int32) (p2 : Int32) (a1 : 1 ≤ p1.toInt) (b1 : p1.toInt ≤ 4) (b2 : 65519 < p2.toInt) : op_ok xs 162 141 [.ref 0, .int 1, .int p1, .int p2, .ref 189] [.ref 165, .int 1, .int p1, .int p2] := by
  refine ⟨2, 0, ?_⟩
  apply Exists.intro
  apply Exists.intro
  apply And.intro
  · refine xe_sn pg_162 4 (fr' := (5, [(0, .ref 0), (1, .int 1), (2, .int p1), (3, .int p2), (4, .ref 189)], [.int 1, .ref 0, .int 0, .ref 189])) rfl ?_
    refine xe_sn pg_162 2 (fr' := (7, [(0, .ref 0), (1, .int 1), (2, .int p1), (3, .int p2), (4, .ref 189)], [.int p2, .int p1, .int 1, .ref 0, .int 0, .ref 189])) rfl ?_
    apply xe_callq pg_162 75 [.ref 0, .int 1, .int p1, .int p2] (.inr 1) (21, [(0, .ref 0), (1, .int 1), (2, .int p1), (3, .int p2), (4, .ref 189)], []) rfl (fun _ => rfl)
    · refine xe_sn pg_75 1 (fr' := (1, [(0, .ref 0), (1, .int 1), (2, .int p1), (3, .int p2)], [.int 1])) rfl ?_
      apply xe_callq pg_75 92 [.int 1] (.inl none) (4, [(0, .ref 0), (1, .int 1), (2, .int p1), (3, .int p2)], []) rfl (fun _ => rfl)
      · refine xe_sn pg_92 2 (fr' := (2, [(0, .int 1)], [.int 4, .int 1])) rfl ?_
        apply xe_callq pg_92 95 [.int 1, .int 4] (.inl none) (5, [(0, .int 1)], []) rfl (fun _ => rfl)
        · refine xe_sn pg_95 4 (fr' := (6, [(0, .int 1), (1, .int 4)], [.int 4, .int 1])) rfl ?_
          refine xe_sn pg_95 1 (fr' := (17, [(0, .int 1), (1, .int 4)], [])) rfl ?_
          exact xe_end pg_95 rfl
        exact xe_end pg_92 rfl
      refine xe_sn pg_75 1 (fr' := (5, [(0, .ref 0), (1, .int 1), (2, .int p1), (3, .int p2)], [.int p1])) rfl ?_
      apply xe_callq pg_75 93 [.int p1] (.inl none) (8, [(0, .ref 0), (1, .int 1), (2, .int p1), (3, .int p2)], []) rfl (fun _ => rfl)
      · refine xe_sn pg_93 2 (fr' := (2, [(0, .int p1)], [.int 1, .int p1])) rfl ?_
        refine xe_f2 pg_93 10 rfl rfl (by show ¬ ((p1).toInt < 1); omega) ?_
        refine xe_sn pg_93 2 (fr' := (7, [(0, .int p1)], [.int 4, .int p1])) rfl ?_
        refine xe_t2 pg_93 18 rfl rfl (by show (p1).toInt ≤ 4; omega) ?_
        exact xe_end pg_93 rfl
      refine xe_sn pg_75 1 (fr' := (9, [(0, .ref 0), (1, .int 1), (2, .int p1), (3, .int p2)], [.int p2])) rfl ?_
      apply xe_callqx pg_75 96 [.int p2] 1 rfl (fun _ => rfl)
      · refine xe_sn pg_96 2 (fr' := (2, [(0, .int p2)], [.int 1, .int p2])) rfl ?_
        refine xe_f2 pg_96 15 rfl rfl (by show ¬ ((p2).toInt < 1); omega) ?_
        refine xe_sn pg_96 2 (fr' := (8, [(0, .int p2)], [.int 65519, .int p2])) rfl ?_
        refine xe_t2 pg_96 15 rfl rfl (by show 65519 < (p2).toInt; omega) ?_
        refine xe_sn pg_96 1 (fr' := (16, [(0, .int p2)], [.int 0])) rfl ?_
        apply xe_callqx pg_96 97 [.int 0] 1 rfl (fun _ => rfl)
        · refine xe_sn pg_97 2 (fr' := (4, [(0, .int 0)], [])) rfl ?_
          exact xe_end pg_97 rfl
    refine xe_sn pg_162 1 (fr' := (22, [(0, .ref 0), (1, .int 1), (2, .int p1), (3, .int p2), (4, .ref 189)], [.int 2])) rfl ?_
    exact xe_end pg_162 rfl
  refine And.intro ⟨rfl, rfl, rfl, rfl⟩ ?_
  apply And.intro
  · refine xe_sn pg_141 2 (fr' := (2, [(0, .ref 165), (1, .int 1), (2, .int p1), (3, .int p2)], [.int 1, .ref 165])) rfl ?_
    apply xe_callq pg_141 104 [.int 1] (.inl (some (.int 1))) (5, [(0, .ref 165), (1, .int 1), (2, .int p1), (3, .int p2)], [.int 1, .ref 165]) rfl (fun _ => rfl)
    · refine xe_sn pg_104 3 (fr' := (3, [(0, .int 1)], [.int 3, .int 0, .int 1])) rfl ?_
      apply xe_callq pg_104 103 [.int 1, .int 0, .int 3] (.inl (some (.int 1))) (6, [(0, .int 1)], [.int 1]) rfl (fun _ => rfl)
      · refine xe_sn pg_103 4 (fr' := (6, [(0, .int 1), (1, .int 0), (2, .int 3)], [.int 1])) rfl ?_
        refine xe_sn pg_103 4 (fr' := (15, [(0, .int 1), (1, .int 0), (2, .int 3)], [.int 1])) rfl ?_
        exact xe_end pg_103 rfl
      exact xe_end pg_104 rfl
    refine xe_sn pg_141 2 (fr' := (9, [(0, .ref 165), (1, .int 1), (2, .int p1), (3, .int p2)], [.int p1, .ref 165])) rfl ?_
    apply xe_callq pg_141 105 [.int p1] (.inl (some (.int 1))) (12, [(0, .ref 165), (1, .int 1), (2, .int p1), (3, .int p2)], [.int 1, .ref 165]) rfl (fun _ => rfl)
    · refine xe_sn pg_105 3 (fr' := (3, [(0, .int p1)], [.int 4, .int 1, .int p1])) rfl ?_
      apply xe_callq pg_105 103 [.int p1, .int 1, .int 4] (.inl (some (.int 1))) (6, [(0, .int p1)], [.int 1]) rfl (fun _ => rfl)
      · refine xe_sn pg_103 2 (fr' := (2, [(0, .int p1), (1, .int 1), (2, .int 4)], [.int 1, .int p1])) rfl ?_
        refine xe_f2 pg_103 14 rfl rfl (by show ¬ ((p1).toInt < 1); omega) ?_
        refine xe_sn pg_103 2 (fr' := (7, [(0, .int p1), (1, .int 1), (2, .int 4)], [.int 4, .int p1])) rfl ?_
        refine xe_f2 pg_103 14 rfl rfl (by show ¬ (4 < (p1).toInt); omega) ?_
        refine xe_sn pg_103 2 (fr' := (15, [(0, .int p1), (1, .int 1), (2, .int 4)], [.int 1])) rfl ?_
        exact xe_end pg_103 rfl
      exact xe_end pg_105 rfl
    refine xe_sn pg_141 4 (fr' := (23, [(0, .ref 165), (1, .int 1), (2, .int p1), (3, .int p2)], [.int 65519, .int 1, .int p2, .ref 165])) rfl ?_
    apply xe_callq pg_141 103 [.int p2, .int 1, .int 65519] (.inl (some (.int 0))) (26, [(0, .ref 165), (1, .int 1), (2, .int p1), (3, .int p2)], [.int 0, .ref 165]) rfl (fun _ => rfl)
    · refine xe_sn pg_103 2 (fr' := (2, [(0, .int p2), (1, .int 1), (2, .int 65519)], [.int 1, .int p2])) rfl ?_
      refine xe_f2 pg_103 14 rfl rfl (by show ¬ ((p2).toInt < 1); omega) ?_
      refine xe_sn pg_103 2 (fr' := (7, [(0, .int p2), (1, .int 1), (2, .int 65519)], [.int 65519, .int p2])) rfl ?_
      refine xe_t2 pg_103 14 rfl rfl (by show 65519 < (p2).toInt; omega) ?_
      refine xe_sn pg_103 1 (fr' := (15, [(0, .int p2), (1, .int 1), (2, .int 65519)], [.int 0])) rfl ?_
      exact xe_end pg_103 rfl
    refine xe_sn pg_141 4 (fr' := (37, [(0, .ref 165), (1, .int 1), (2, .int p1), (3, .int p2)], [])) rfl ?_
    refine xe_sn pg_141 4 (fr' := (44, [(4, .int 0), (0, .ref 165), (1, .int 1), (2, .int p1), (3, .int p2)], [.int 2])) rfl ?_
    refine xe_sn pg_141 4 (fr' := (93, [(4, .int 0), (0, .ref 165), (1, .int 1), (2, .int p1), (3, .int p2)], [.int 2, .ref 165])) rfl ?_
    refine xe_sn pg_141 4 (fr' := (127, [(4, .int 0), (0, .ref 165), (1, .int 1), (2, .int p1), (3, .int p2)], [])) rfl ?_
    refine xe_sn pg_141 4 (fr' := (135, [(4, .int 0), (0, .ref 165), (1, .int 1), (2, .int p1), (3, .int p2)], [.int 0])) rfl ?_
    exact xe_end pg_141 rfl
  · exact ⟨⟨rfl, rfl, rfl, rfl⟩, Nat.le_of_ble_eq_true rfl, Nat.le_of_ble_eq_true rfl, rfl, fun q => absurd q (by decide)⟩

set_option maxRecDepth 100000 in
theorem lf_extend_11 (xs : Nat → Int32) (p1 : Int32) (p2 : Int32) (a1 : 1 ≤ p1.toInt) (b1 : p1.toInt ≤ 4) (a2 : 1 ≤ p2.toInt) (b2 : p2.toInt ≤ 65519) : op_ok xs 162 141 [.ref 0, .int 1, .int p1, .int p2, .ref 189] [.ref 165, .int 1, .int p1, .int p2] := by
  refine ⟨3, 0, ?_⟩
  apply Exists.intro
  apply Exists.intro
  apply And.intro
  · refine xe_sn pg_162 4 (fr' := (5, [(0, .ref 0), (1, .int 1), (2, .int p1), (3, .int p2), (4, .ref 189)], [.int 1, .ref 0, .int 0, .ref 189])) rfl ?_
    refine xe_sn pg_162 2 (fr' := (7, [(0, .ref 0), (1, .int 1), (2, .int p1), (3, .int p2), (4, .ref 189)], [.int p2, .int p1, .int 1, .ref 0, .int 0, .ref 189])) rfl ?_
    apply xe_callq pg_162 75 [.ref 0, .int 1, .int p1, .int p2] (.inr 2) (25, [(0, .ref 0), (1, .int 1), (2, .int p1), (3, .int p2), (4, .ref 189)], []) rfl (fun _ => rfl)
    · refine xe_sn pg_75 1 (fr' := (1, [(0, .ref 0), (1, .int 1), (2, .int p1), (3, .int p2)], [.int 1])) rfl ?_
      apply xe_callq pg_75 92 [.int 1] (.inl none) (4, [(0, .ref 0), (1, .int 1), (2, .int p1), (3, .int p2)], []) rfl (fun _ => rfl)
      · refine xe_sn pg_92 2 (fr' := (2, [(0, .int 1)], [.int 4, .int 1])) rfl ?_
        apply xe_callq pg_92 95 [.int 1, .int 4] (.inl none) (5, [(0, .int 1)], []) rfl (fun _ => rfl)
        · refine xe_sn pg_95 4 (fr' := (6, [(0, .int 1), (1, .int 4)], [.int 4, .int 1])) rfl ?_
          refine xe_sn pg_95 1 (fr' := (17, [(0, .int 1), (1, .int 4)], [])) rfl ?_
          exact xe_end pg_95 rfl
        exact xe_end pg_92 rfl
      refine xe_sn pg_75 1 (fr' := (5, [(0, .ref 0), (1, .int 1), (2, .int p1), (3, .int p2)], [.int p1])) rfl ?_
      apply xe_callq pg_75 93 [.int p1] (.inl none) (8, [(0, .ref 0), (1, .int 1), (2, .int p1), (3, .int p2)], []) rfl (fun _ => rfl)
      · refine xe_sn pg_93 2 (fr' := (2, [(0, .int p1)], [.int 1, .int p1])) rfl ?_
        refine xe_f2 pg_93 10 rfl rfl (by show ¬ ((p1).toInt < 1); omega) ?_
        refine xe_sn pg_93 2 (fr' := (7, [(0, .int p1)], [.int 4, .int p1])) rfl ?_
        refine xe_t2 pg_93 18 rfl rfl (by show (p1).toInt ≤ 4; omega) ?_
        exact xe_end pg_93 rfl
      refine xe_sn pg_75 1 (fr' := (9, [(0, .ref 0), (1, .int 1), (2, .int p1), (3, .int p2)], [.int p2])) rfl ?_
      apply xe_callq pg_75 96 [.int p2] (.inl none) (12, [(0, .ref 0), (1, .int 1), (2, .int p1), (3, .int p2)], []) rfl (fun _ => rfl)
      · refine xe_sn pg_96 2 (fr' := (2, [(0, .int p2)], [.int 1, .int p2])) rfl ?_
        refine xe_f2 pg_96 15 rfl rfl (by show ¬ ((p2).toInt < 1); omega) ?_
        refine xe_sn pg_96 2 (fr' := (8, [(0, .int p2)], [.int 65519, .int p2])) rfl ?_
        refine xe_f2 pg_96 15 rfl rfl (by show ¬ (65519 < (p2).toInt); omega) ?_
        refine xe_sn pg_96 2 (fr' := (16, [(0, .int p2)], [.int 1])) rfl ?_
        apply xe_callq pg_96 97 [.int 1] (.inl none) (19, [(0, .int p2)], []) rfl (fun _ => rfl)
        · refine xe_sn pg_97 2 (fr' := (12, [(0, .int 1)], [])) rfl ?_
          exact xe_end pg_97 rfl
        exact xe_end pg_96 rfl
      refine xe_sn pg_75 4 (fr' := (18, [(0, .ref 0), (1, .int 1), (2, .int p1), (3, .int p2)], [.ref 132])) rfl ?_
      refine xe_sn pg_75 3 (fr' := (23, [(4, .ref 132), (0, .ref 0), (1, .int 1), (2, .int p1), (3, .int p2)], [.int p1, .ref 132])) rfl ?_
      apply xe_callq pg_75 18 [.ref 132, .int p1] (.inl (some (.int 0))) (26, [(4, .ref 132), (0, .ref 0), (1, .int 1), (2, .int p1), (3, .int p2)], [.int 0]) rfl (fun _ => rfl)
      · refine xe_sn pg_18 4 (fr' := (4, [(2, .int 0), (0, .ref 132), (1, .int p1)], [.ref 132, .int 0])) rfl ?_
        refine xe_sn pg_18 3 (fr' := (29, [(2, .int 0), (0, .ref 132), (1, .int p1)], [.int 0])) rfl ?_
        exact xe_end pg_18 rfl
      refine xe_sn pg_75 3 (fr' := (34, [(4, .ref 132), (0, .ref 0), (1, .int 1), (2, .int p1), (3, .int p2)], [.int 1])) rfl ?_
      apply xe_callq pg_75 97 [.int 1] (.inl none) (37, [(4, .ref 132), (0, .ref 0), (1, .int 1), (2, .int p1), (3, .int p2)], []) rfl (fun _ => rfl)
      · refine xe_sn pg_97 2 (fr' := (12, [(0, .int 1)], [])) rfl ?_
        exact xe_end pg_97 rfl
      refine xe_sn pg_75 4 (fr' := (59, [(4, .ref 132), (0, .ref 0), (1, .int 1), (2, .int p1), (3, .int p2)], [])) rfl ?_
      refine xe_sn pg_75 1 (fr' := (60, [(4, .ref 132), (0, .ref 0), (1, .int 1), (2, .int p1), (3, .int p2)], [.int 0])) rfl ?_
      apply xe_callqx pg_75 98 [.int 0] 2 rfl (fun _ => rfl)
      · refine xe_sn pg_98 2 (fr' := (4, [(0, .int 0)], [])) rfl ?_
        exact xe_end pg_98 rfl
    refine xe_sn pg_162 1 (fr' := (26, [(0, .ref 0), (1, .int 1), (2, .int p1), (3, .int p2), (4, .ref 189)], [.int 3])) rfl ?_
    exact xe_end pg_162 rfl
  refine And.intro ⟨rfl, rfl, rfl, rfl⟩ ?_
  apply And.intro
  · refine xe_sn pg_141 2 (fr' := (2, [(0, .ref 165), (1, .int 1), (2, .int p1), (3, .int p2)], [.int 1, .ref 165])) rfl ?_
    apply xe_callq pg_141 104 [.int 1] (.inl (some (.int 1))) (5, [(0, .ref 165), (1, .int 1), (2, .int p1), (3, .int p2)], [.int 1, .ref 165]) rfl (fun _ => rfl)
    · refine xe_sn pg_104 3 (fr' := (3, [(0, .int 1)], [.int 3, .int 0, .int 1])) rfl ?_
      apply xe_callq pg_104 103 [.int 1, .int 0, .int 3] (.inl (some (.int 1))) (6, [(0, .int 1)], [.int 1]) rfl (fun _ => rfl)
      · refine xe_sn pg_103 4 (fr' := (6, [(0, .int 1), (1, .int 0), (2, .int 3)], [.int 1])) rfl ?_
        refine xe_sn pg_103 4 (fr' := (15, [(0, .int 1), (1, .int 0), (2, .int 3)], [.int 1])) rfl ?_
        exact xe_end pg_103 rfl
      exact xe_end pg_104 rfl
    refine xe_sn pg_141 2 (fr' := (9, [(0, .ref 165), (1, .int 1), (2, .int p1), (3, .int p2)], [.int p1, .ref 165])) rfl ?_
    apply xe_callq pg_141 105 [.int p1] (.inl (some (.int 1))) (12, [(0, .ref 165), (1, .int 1), (2, .int p1), (3, .int p2)], [.int 1, .ref 165]) rfl (fun _ => rfl)
    · refine xe_sn pg_105 3 (fr' := (3, [(0, .int p1)], [.int 4, .int 1, .int p1])) rfl ?_
      apply xe_callq pg_105 103 [.int p1, .int 1, .int 4] (.inl (some (.int 1))) (6, [(0, .int p1)], [.int 1]) rfl (fun _ => rfl)
      · refine xe_sn pg_103 2 (fr' := (2, [(0, .int p1), (1, .int 1), (2, .int 4)], [.int 1, .int p1])) rfl ?_
        refine xe_f2 pg_103 14 rfl rfl (by show ¬ ((p1).toInt < 1); omega) ?_
        refine xe_sn pg_103 2 (fr' := (7, [(0, .int p1), (1, .int 1), (2, .int 4)], [.int 4, .int p1])) rfl ?_
        refine xe_f2 pg_103 14 rfl rfl (by show ¬ (4 < (p1).toInt); omega) ?_
        refine xe_sn pg_103 2 (fr' := (15, [(0, .int p1), (1, .int 1), (2, .int 4)], [.int 1])) rfl ?_
        exact xe_end pg_103 rfl
      exact xe_end pg_105 rfl
    refine xe_sn pg_141 4 (fr' := (23, [(0, .ref 165), (1, .int 1), (2, .int p1), (3, .int p2)], [.int 65519, .int 1, .int p2, .ref 165])) rfl ?_
    apply xe_callq pg_141 103 [.int p2, .int 1, .int 65519] (.inl (some (.int 1))) (26, [(0, .ref 165), (1, .int 1), (2, .int p1), (3, .int p2)], [.int 1, .ref 165]) rfl (fun _ => rfl)
    · refine xe_sn pg_103 2 (fr' := (2, [(0, .int p2), (1, .int 1), (2, .int 65519)], [.int 1, .int p2])) rfl ?_
      refine xe_f2 pg_103 14 rfl rfl (by show ¬ ((p2).toInt < 1); omega) ?_
      refine xe_sn pg_103 2 (fr' := (7, [(0, .int p2), (1, .int 1), (2, .int 65519)], [.int 65519, .int p2])) rfl ?_
      refine xe_f2 pg_103 14 rfl rfl (by show ¬ (65519 < (p2).toInt); omega) ?_
      refine xe_sn pg_103 2 (fr' := (15, [(0, .int p2), (1, .int 1), (2, .int 65519)], [.int 1])) rfl ?_
      exact xe_end pg_103 rfl
    refine xe_sn pg_141 4 (fr' := (38, [(0, .ref 165), (1, .int 1), (2, .int p1), (3, .int p2)], [.int 0])) rfl ?_
    refine xe_sn pg_141 4 (fr' := (47, [(4, .int 0), (0, .ref 165), (1, .int 1), (2, .int p1), (3, .int p2)], [])) rfl ?_
    refine xe_sn pg_141 4 (fr' := (54, [(4, .int 0), (0, .ref 165), (1, .int 1), (2, .int p1), (3, .int p2)], [.int 1, .ref 168, .int 0])) rfl ?_
    refine xe_sn pg_141 4 (fr' := (90, [(4, .int 0), (0, .ref 165), (1, .int 1), (2, .int p1), (3, .int p2)], [.ref 165, .ref 165])) rfl ?_
    refine xe_sn pg_141 4 (fr' := (100, [(4, .int 0), (0, .ref 165), (1, .int 1), (2, .int p1), (3, .int p2)], [.ref 167, .ref 165])) rfl ?_
    refine xe_sn pg_141 4 (fr' := (116, [(4, .int 0), (0, .ref 165), (1, .int 1), (2, .int p1), (3, .int p2)], [.ref 165])) rfl ?_
    refine xe_sn pg_141 4 (fr' := (128, [(4, .int 0), (0, .ref 165), (1, .int 1), (2, .int p1), (3, .int p2)], [.ref 165])) rfl ?_
    refine xe_sn pg_141 3 (fr' := (135, [(4, .int 0), (0, .ref 165), (1, .int 1), (2, .int p1), (3, .int p2)], [.int 0])) rfl ?_
    exact xe_end pg_141 rfl
  · exact ⟨⟨rfl, rfl, rfl, rfl⟩, Nat.le_of_ble_eq_true rfl, Nat.le_of_ble_eq_true rfl, rfl, fun q => absurd q (by decide)⟩

set_option maxRecDepth 100000 in
theorem lf_extend_12 (xs : Nat → Int32) (p1 : Int32) (p2 : Int32) (a1 : p1.toInt < 1) : op_ok xs 162 141 [.ref 0, .int 2, .int p1, .int p2, .ref 189] [.ref 165, .int 2, .int p1, .int p2] := by
  refine ⟨1, 0, ?_⟩
  apply Exists.intro
  apply Exists.intro
  apply And.intro
  · refine xe_sn pg_162 4 (fr' := (5, [(0, .ref 0), (1, .int 2), (2, .int p1), (3, .int p2), (4, .ref 189)], [.int 2, .ref 0, .int 0, .ref 189])) rfl ?_
    refine xe_sn pg_162 2 (fr' := (7, [(0, .ref 0), (1, .int 2), (2, .int p1), (3, .int p2), (4, .ref 189)], [.int p2, .int p1, .int 2, .ref 0, .int 0, .ref 189])) rfl ?_
    apply xe_callq pg_162 75 [.ref 0, .int 2, .int p1, .int p2] (.inr 0) (17, [(0, .ref 0), (1, .int 2), (2, .int p1), (3, .int p2), (4, .ref 189)], []) rfl (fun _ => rfl)
    · refine xe_sn pg_75 1 (fr' := (1, [(0, .ref 0), (1, .int 2), (2, .int p1), (3, .int p2)], [.int 2])) rfl ?_
      apply xe_callq pg_75 92 [.int 2] (.inl none) (4, [(0, .ref 0), (1, .int 2), (2, .int p1), (3, .int p2)], []) rfl (fun _ => rfl)
      · refine xe_sn pg_92 2 (fr' := (2, [(0, .int 2)], [.int 4, .int 2])) rfl ?_
        apply xe_callq pg_92 95 [.int 2, .int 4] (.inl none) (5, [(0, .int 2)], []) rfl (fun _ => rfl)
        · refine xe_sn pg_95 4 (fr' := (6, [(0, .int 2), (1, .int 4)], [.int 4, .int 2])) rfl ?_
          refine xe_sn pg_95 1 (fr' := (17, [(0, .int 2), (1, .int 4)], [])) rfl ?_
          exact xe_end pg_95 rfl
        exact xe_end pg_92 rfl
      refine xe_sn pg_75 1 (fr' := (5, [(0, .ref 0), (1, .int 2), (2, .int p1), (3, .int p2)], [.int p1])) rfl ?_
      apply xe_callqx pg_75 93 [.int p1] 0 rfl (fun _ => rfl)
      · refine xe_sn pg_93 2 (fr' := (2, [(0, .int p1)], [.int 1, .int p1])) rfl ?_
        refine xe_t2 pg_93 10 rfl rfl (by show (p1).toInt < 1; omega) ?_
        exact xe_end pg_93 rfl
    refine xe_sn pg_162 1 (fr' := (18, [(0, .ref 0), (1, .int 2), (2, .int p1), (3, .int p2), (4, .ref 189)], [.int 1])) rfl ?_
    exact xe_end pg_162 rfl
  refine And.intro ⟨rfl, rfl, rfl, rfl⟩ ?_
  apply And.intro
  · refine xe_sn pg_141 2 (fr' := (2, [(0, .ref 165), (1, .int 2), (2, .int p1), (3, .int p2)], [.int 2, .ref 165])) rfl ?_
    apply xe_callq pg_141 104 [.int 2] (.inl (some (.int 1))) (5, [(0, .ref 165), (1, .int 2), (2, .int p1), (3, .int p2)], [.int 1, .ref 165]) rfl (fun _ => rfl)
    · refine xe_sn pg_104 3 (fr' := (3, [(0, .int 2)], [.int 3, .int 0, .int 2])) rfl ?_
      apply xe_callq pg_104 103 [.int 2, .int 0, .int 3] (.inl (some (.int 1))) (6, [(0, .int 2)], [.int 1]) rfl (fun _ => rfl)
      · refine xe_sn pg_103 4 (fr' := (6, [(0, .int 2), (1, .int 0), (2, .int 3)], [.int 2])) rfl ?_
        refine xe_sn pg_103 4 (fr' := (15, [(0, .int 2), (1, .int 0), (2, .int 3)], [.int 1])) rfl ?_
        exact xe_end pg_103 rfl
      exact xe_end pg_104 rfl
    refine xe_sn pg_141 2 (fr' := (9, [(0, .ref 165), (1, .int 2), (2, .int p1), (3, .int p2)], [.int p1, .ref 165])) rfl ?_
    apply xe_callq pg_141 105 [.int p1] (.inl (some (.int 0))) (12, [(0, .ref 165), (1, .int 2), (2, .int p1), (3, .int p2)], [.int 0, .ref 165]) rfl (fun _ => rfl)
    · refine xe_sn pg_105 3 (fr' := (3, [(0, .int p1)], [.int 4, .int 1, .int p1])) rfl ?_
      apply xe_callq pg_105 103 [.int p1, .int 1, .int 4] (.inl (some (.int 0))) (6, [(0, .int p1)], [.int 0]) rfl (fun _ => rfl)
      · refine xe_sn pg_103 2 (fr' := (2, [(0, .int p1), (1, .int 1), (2, .int 4)], [.int 1, .int p1])) rfl ?_
        refine xe_t2 pg_103 14 rfl rfl (by show (p1).toInt < 1; omega) ?_
        refine xe_sn pg_103 1 (fr' := (15, [(0, .int p1), (1, .int 1), (2, .int 4)], [.int 0])) rfl ?_
        exact xe_end pg_103 rfl
      exact xe_end pg_105 rfl
    refine xe_sn pg_141 4 (fr' := (37, [(0, .ref 165), (1, .int 2), (2, .int p1), (3, .int p2)], [])) rfl ?_
    refine xe_sn pg_141 4 (fr' := (44, [(4, .int 0), (0, .ref 165), (1, .int 2), (2, .int p1), (3, .int p2)], [.int 1])) rfl ?_
    refine xe_sn pg_141 4 (fr' := (93, [(4, .int 0), (0, .ref 165), (1, .int 2), (2, .int p1), (3, .int p2)], [.int 1, .ref 165])) rfl ?_
    refine xe_sn pg_141 4 (fr' := (127, [(4, .int 0), (0, .ref 165), (1, .int 2), (2, .int p1), (3, .int p2)], [])) rfl ?_
    refine xe_sn pg_141 4 (fr' := (135, [(4, .int 0), (0, .ref 165), (1, .int 2), (2, .int p1), (3, .int p2)], [.int 0])) rfl ?_
    exact xe_end pg_141 rfl
  · exact ⟨⟨rfl, rfl, rfl, rfl⟩, Nat.le_of_ble_eq_true rfl, Nat.le_of_ble_eq_true rfl, rfl, fun q => absurd q (by decide)⟩

set_option maxRecDepth 100000 in
theorem lf_extend_13 (xs : Nat → Int32) (p1 : Int32) (p2 : Int32) (b1 : 4 < p1.toInt) : op_ok xs 162 141 [.ref 0, .int 2, .int p1, .int p2, .ref 189] [.ref 165, .int 2, .int p1, .int p2] := by
  refine ⟨1, 0, ?_⟩
  apply Exists.intro
  apply Exists.intro
  apply And.intro
  · refine xe_sn pg_162 4 (fr' := (5, [(0, .ref 0), (1, .int 2), (2, .int p1), (3, .int p2), (4, .ref 189)], [.int 2, .ref 0, .int 0, .ref 189])) rfl ?_
    refine xe_sn pg_162 2 (fr' := (7, [(0, .ref 0), (1, .int 2), (2, .int p1), (3, .int p2), (4, .ref 189)], [.int p2, .int p1, .int 2, .ref 0, .int 0, .ref 189])) rfl ?_
    apply xe_callq pg_162 75 [.ref 0, .int 2, .int p1, .int p2] (.inr 0) (17, [(0, .ref 0), (1, .int 2), (2, .int p1), (3, .int p2), (4, .ref 189)], []) rfl (fun _ => rfl)
    · refine xe_sn pg_75 1 (fr' := (1, [(0, .ref 0), (1, .int 2), (2, .int p1), (3, .int p2)], [.int 2])) rfl ?_
      apply xe_callq pg_75 92 [.int 2] (.inl none) (4, [(0, .ref 0), (1, .int 2), (2, .int p1), (3, .int p2)], []) rfl (fun _ => rfl)
      · refine xe_sn pg_92 2 (fr' := (2, [(0, .int 2)], [.int 4, .int 2])) rfl ?_
        apply xe_callq pg_92 95 [.int 2, .int 4] (.inl none) (5, [(0, .int 2)], []) rfl (fun _ => rfl)
        · refine xe_sn pg_95 4 (fr' := (6, [(0, .int 2), (1, .int 4)], [.int 4, .int 2])) rfl ?_
          refine xe_sn pg_95 1 (fr' := (17, [(0, .int 2), (1, .int 4)], [])) rfl ?_
          exact xe_end pg_95 rfl
        exact xe_end pg_92 rfl
      refine xe_sn pg_75 1 (fr' := (5, [(0, .ref 0), (1, .int 2), (2, .int p1), (3, .int p2)], [.int p1])) rfl ?_
      apply xe_callqx pg_75 93 [.int p1] 0 rfl (fun _ => rfl)
      · refine xe_sn pg_93 2 (fr' := (2, [(0, .int p1)], [.int 1, .int p1])) rfl ?_
        refine xe_f2 pg_93 10 rfl rfl (by show ¬ ((p1).toInt < 1); omega) ?_
        refine xe_sn pg_93 2 (fr' := (7, [(0, .int p1)], [.int 4, .int p1])) rfl ?_
        refine xe_f2 pg_93 18 rfl rfl (by show ¬ ((p1).toInt ≤ 4); omega) ?_
        exact xe_end pg_93 rfl
    refine xe_sn pg_162 1 (fr' := (18, [(0, .ref 0), (1, .int 2), (2, .int p1), (3, .int p2), (4, .ref 189)], [.int 1])) rfl ?_
    exact xe_end pg_162 rfl
  refine And.intro ⟨rfl, rfl, rfl, rfl⟩ ?_
  apply And.intro
  · refine xe_sn pg_141 2 (fr' := (2, [(0, .ref 165), (1, .int 2), (2, .int p1), (3, .int p2)], [.int 2, .ref 165])) rfl ?_
    apply xe_callq pg_141 104 [.int 2] (.inl (some (.int 1))) (5, [(0, .ref 165), (1, .int 2), (2, .int p1), (3, .int p2)], [.int 1, .ref 165]) rfl (fun _ => rfl)
    · refine xe_sn pg_104 3 (fr' := (3, [(0, .int 2)], [.int 3, .int 0, .int 2])) rfl ?_
      apply xe_callq pg_104 103 [.int 2, .int 0, .int 3] (.inl (some (.int 1))) (6, [(0, .int 2)], [.int 1]) rfl (fun _ => rfl)
      · refine xe_sn pg_103 4 (fr' := (6, [(0, .int 2), (1, .int 0), (2, .int 3)], [.int 2])) rfl ?_
        refine xe_sn pg_103 4 (fr' := (15, [(0, .int 2), (1, .int 0), (2, .int 3)], [.int 1])) rfl ?_
        exact xe_end pg_103 rfl
      exact xe_end pg_104 rfl
    refine xe_sn pg_141 2 (fr' := (9, [(0, .ref 165), (1, .int 2), (2, .int p1), (3, .int p2)], [.int p1, .ref 165])) rfl ?_
    apply xe_callq pg_141 105 [.int p1] (.inl (some (.int 0))) (12, [(0, .ref 165), (1, .int 2), (2, .int p1), (3, .int p2)], [.int 0, .ref 165]) rfl (fun _ => rfl)
    · refine xe_sn pg_105 3 (fr' := (3, [(0, .int p1)], [.int 4, .int 1, .int p1])) rfl ?_
      apply xe_callq pg_105 103 [.int p1, .int 1, .int 4] (.inl (some (.int 0))) (6, [(0, .int p1)], [.int 0]) rfl (fun _ => rfl)
      · refine xe_sn pg_103 2 (fr' := (2, [(0, .int p1), (1, .int 1), (2, .int 4)], [.int 1, .int p1])) rfl ?_
        refine xe_f2 pg_103 14 rfl rfl (by show ¬ ((p1).toInt < 1); omega) ?_
        refine xe_sn pg_103 2 (fr' := (7, [(0, .int p1), (1, .int 1), (2, .int 4)], [.int 4, .int p1])) rfl ?_
        refine xe_t2 pg_103 14 rfl rfl (by show 4 < (p1).toInt; omega) ?_
        refine xe_sn pg_103 1 (fr' := (15, [(0, .int p1), (1, .int 1), (2, .int 4)], [.int 0])) rfl ?_
        exact xe_end pg_103 rfl
      exact xe_end pg_105 rfl
    refine xe_sn pg_141 4 (fr' := (37, [(0, .ref 165), (1, .int 2), (2, .int p1), (3, .int p2)], [])) rfl ?_
    refine xe_sn pg_141 4 (fr' := (44, [(4, .int 0), (0, .ref 165), (1, .int 2), (2, .int p1), (3, .int p2)], [.int 1])) rfl ?_
    refine xe_sn pg_141 4 (fr' := (93, [(4, .int 0), (0, .ref 165), (1, .int 2), (2, .int p1), (3, .int p2)], [.int 1, .ref 165])) rfl ?_
    refine xe_sn pg_141 4 (fr' := (127, [(4, .int 0), (0, .ref 165), (1, .int 2), (2, .int p1), (3, .int p2)], [])) rfl ?_
    refine xe_sn pg_141 4 (fr' := (135, [(4, .int 0), (0, .ref 165), (1, .int 2), (2, .int p1), (3, .int p2)], [.int 0])) rfl ?_
    exact xe_end pg_141 rfl
  · exact ⟨⟨rfl, rfl, rfl, rfl⟩, Nat.le_of_ble_eq_true rfl, Nat.le_of_ble_eq_true rfl, rfl, fun q => absurd q (by decide)⟩

set_option maxRecDepth 100000 in
theorem lf_extend_14 (xs : Nat → Int32) (p1 : Int32) (p2 : Int32) (a1 : 1 ≤ p1.toInt) (b1 : p1.toInt ≤ 4) (a2 : p2.toInt < 1) : op_ok xs 162 141 [.ref 0, .int 2, .int p1, .int p2, .ref 189] [.ref 165, .int 2, .int p1, .int p2] := by
  refine ⟨2, 0, ?_⟩
  apply Exists.intro
  apply Exists.intro
  apply And.intro
  · refine xe_sn pg_162 4 (fr' := (5, [(0, .ref 0), (1, .int 2), (2, .int p1), (3, .int p2), (4, .ref 189)], [.int 2, .ref 0, .int 0, .ref 189])) rfl ?_
    refine xe_sn pg_162 2 (fr' := (7, [(0, .ref 0), (1, .int 2), (2, .int p1), (3, .int p2), (4, .ref 189)], [.int p2, .int p1, .int 2, .ref 0, .int 0, .ref 189])) rfl ?_
    apply xe_callq pg_162 75 [.ref 0, .int 2, .int p1, .int p2] (.inr 1) (21, [(0, .ref 0), (1, .int 2), (2, .int p1), (3, .int p2), (4, .ref 189)], []) rfl (fun _ => rfl)
    · refine xe_sn pg_75 1 (fr' := (1, [(0, .ref 0), (1, .int 2), (2, .int p1), (3, .int p2)], [.int 2])) rfl ?_
      apply xe_callq pg_75 92 [.int 2] (.inl none) (4, [(0, .ref 0), (1, .int 2), (2, .int p1), (3, .int p2)], []) rfl (fun _ => rfl)
      · refine xe_sn pg_92 2 (fr' := (2, [(0, .int 2)], [.int 4, .int 2])) rfl ?_
        apply xe_callq pg_92 95 [.int 2, .int 4] (.inl none) (5, [(0, .int 2)], []) rfl (fun _ => rfl)
        · refine xe_sn pg_95 4 (fr' := (6, [(0, .int 2), (1, .int 4)], [.int 4, .int 2])) rfl ?_
          refine xe_sn pg_95 1 (fr' := (17, [(0, .int 2), (1, .int 4)], [])) rfl ?_
          exact xe_end pg_95 rfl
        exact xe_end pg_92 rfl
      refine xe_sn pg_75 1 (fr' := (5, [(0, .ref 0), (1, .int 2), (2, .int p1), (3, .int p2)], [.int p1])) rfl ?_
      apply xe_callq pg_75 93 [.int p1] (.inl none) (8, [(0, .ref 0), (1, .int 2), (2, .int p1), (3, .int p2)], []) rfl (fun _ => rfl)
      · refine xe_sn pg_93 2 (fr' := (2, [(0, .int p1)], [.int 1, .int p1])) rfl ?_
        refine xe_f2 pg_93 10 rfl rfl (by show ¬ ((p1).toInt < 1); omega) ?_
        refine xe_sn pg_93 2 (fr' := (7, [(0, .int p1)], [.int 4, .int p1])) rfl ?_
        refine xe_t2 pg_93 18 rfl rfl (by show (p1).toInt ≤ 4; omega) ?_
        exact xe_end pg_93 rfl
      refine xe_sn pg_75 1 (fr' := (9, [(0, .ref 0), (1, .int 2), (2, .int p1), (3, .int p2)], [.int p2])) rfl ?_
      apply xe_callqx pg_75 96 [.int p2] 1 rfl (fun _ => rfl)
      · refine xe_sn pg_96 2 (fr' := (2, [(0, .int p2)], [.int 1, .int p2])) rfl ?_
        refine xe_t2 pg_96 15 rfl rfl (by show (p2).toInt < 1; omega) ?_
        refine xe_sn pg_96 1 (fr' := (16, [(0, .int p2)], [.int 0])) rfl ?_
        apply xe_callqx pg_96 97 [.int 0] 1 rfl (fun _ => rfl)
        · refine xe_sn pg_97 2 (fr' := (4, [(0, .int 0)], [])) rfl ?_
          exact xe_end pg_97 rfl
    refine xe_sn pg_162 1 (fr' := (22, [(0, .ref 0), (1, .int 2), (2, .int p1), (3, .int p2), (4, .ref 189)], [.int 2])) rfl ?_
    exact xe_end pg_162 rfl
  refine And.intro ⟨rfl, rfl, rfl, rfl⟩ ?_
  apply And.intro
  · refine xe_sn pg_141 2 (fr' := (2, [(0, .ref 165), (1, .int 2), (2, .int p1), (3, .int p2)], [.int 2, .ref 165])) rfl ?_
    apply xe_callq pg_141 104 [.int 2] (.inl (some (.int 1))) (5, [(0, .ref 165), (1, .int 2), (2, .int p1), (3, .int p2)], [.int 1, .ref 165]) rfl (fun _ => rfl)
    · refine xe_sn pg_104 3 (fr' := (3, [(0, .int 2)], [.int 3, .int 0, .int 2])) rfl ?_
      apply xe_callq pg_104 103 [.int 2, .int 0, .int 3] (.inl (some (.int 1))) (6, [(0, .int 2)], [.int 1]) rfl (fun _ => rfl)
      · refine xe_sn pg_103 4 (fr' := (6, [(0, .int 2), (1, .int 0), (2, .int 3)], [.int 2])) rfl ?_
        refine xe_sn pg_103 4 (fr' := (15, [(0, .int 2), (1, .int 0), (2, .int 3)], [.int 1])) rfl ?_
        exact xe_end pg_103 rfl
      exact xe_end pg_104 rfl
    refine xe_sn pg_141 2 (fr' := (9, [(0, .ref 165), (1, .int 2), (2, .int p1), (3, .int p2)], [.int p1, .ref 165])) rfl ?_
    apply xe_callq pg_141 105 [.int p1] (.inl (some (.int 1))) (12, [(0, .ref 165), (1, .int 2), (2, .int p1), (3, .int p2)], [.int 1, .ref 165]) rfl (fun _ => rfl)
    · refine xe_sn pg_105 3 (fr' := (3, [(0, .int p1)], [.int 4, .int 1, .int p1])) rfl ?_
      apply xe_callq pg_105 103 [.int p1, .int 1, .int 4] (.inl (some (.int 1))) (6, [(0, .int p1)], [.int 1]) rfl (fun _ => rfl)
      · refine xe_sn pg_103 2 (fr' := (2, [(0, .int p1), (1, .int 1), (2, .int 4)], [.int 1, .int p1])) rfl ?_
        refine xe_f2 pg_103 14 rfl rfl (by show ¬ ((p1).toInt < 1); omega) ?_
        refine xe_sn pg_103 2 (fr' := (7, [(0, .int p1), (1, .int 1), (2, .int 4)], [.int 4, .int p1])) rfl ?_
        refine xe_f2 pg_103 14 rfl rfl (by show ¬ (4 < (p1).toInt); omega) ?_
        refine xe_sn pg_103 2 (fr' := (15, [(0, .int p1), (1, .int 1), (2, .int 4)], [.int 1])) rfl ?_
        exact xe_end pg_103 rfl
      exact xe_end pg_105 rfl
    refine xe_sn pg_141 4 (fr' := (23, [(0, .ref 165), (1, .int 2), (2, .int p1), (3, .int p2)], [.int 65519, .int 1, .int p2, .ref 165])) rfl ?_
    apply xe_callq pg_141 103 [.int p2, .int 1, .int 65519] (.inl (some (.int 0))) (26, [(0, .ref 165), (1, .int 2), (2, .int p1), (3, .int p2)], [.int 0, .ref 165]) rfl (fun _ => rfl)
    · refine xe_sn pg_103 2 (fr' := (2, [(0, .int p2), (1, .int 1), (2, .int 65519)], [.int 1, .int p2])) rfl ?_
      refine xe_t2 pg_103 14 rfl rfl (by show (p2).toInt < 1; omega) ?_
      refine xe_sn pg_103 1 (fr' := (15, [(0, .int p2), (1, .int 1), (2, .int 65519)], [.int 0])) rfl ?_
      exact xe_end pg_103 rfl
    refine xe_sn pg_141 4 (fr' := (37, [(0, .ref 165), (1, .int 2), (2, .int p1), (3, .int p2)], [])) rfl ?_
    refine xe_sn pg_141 4 (fr' := (44, [(4, .int 0), (0, .ref 165), (1, .int 2), (2, .int p1), (3, .int p2)], [.int 2])) rfl ?_
    refine xe_sn pg_141 4 (fr' := (93, [(4, .int 0), (0, .ref 165), (1, .int 2), (2, .int p1), (3, .int p2)], [.int 2, .ref 165])) rfl ?_
    refine xe_sn pg_141 4 (fr' := (127, [(4, .int 0), (0, .ref 165), (1, .int 2), (2, .int p1), (3, .int p2)], [])) rfl ?_
    refine xe_sn pg_141 4 (fr' := (135, [(4, .int 0), (0, .ref 165), (1, .int 2), (2, .int p1), (3, .int p2)], [.int 0])) rfl ?_
    exact xe_end pg_141 rfl
  · exact ⟨⟨rfl, rfl, rfl, rfl⟩, Nat.le_of_ble_eq_true rfl, Nat.le_of_ble_eq_true rfl, rfl, fun q => absurd q (by decide)⟩

set_option maxRecDepth 100000 in
theorem lf_extend_15 (xs : Nat → Int32) (p1 : Int32) (p2 : Int32) (a1 : 1 ≤ p1.toInt) (b1 : p1.toInt ≤ 4) (b2 : 65519 < p2.toInt) : op_ok xs 162 141 [.ref 0, .int 2, .int p1, .int p2, .ref 189] [.ref 165, .int 2, .int p1, .int p2] := by
  refine ⟨2, 0, ?_⟩
  apply Exists.intro
  apply Exists.intro
  apply And.intro
  · refine xe_sn pg_162 4 (fr' := (5, [(0, .ref 0), (1, .int 2), (2, .int p1), (3, .int p2), (4, .ref 189)], [.int 2, .ref 0, .int 0, .ref 189])) rfl ?_
    refine xe_sn pg_162 2 (fr' := (7, [(0, .ref 0), (1, .int 2), (2, .int p1), (3, .int p2), (4, .ref 189)], [.int p2, .int p1, .int 2, .ref 0, .int 0, .ref 189])) rfl ?_
    apply xe_callq pg_162 75 [.ref 0, .int 2, .int p1, .int p2] (.inr 1) (21, [(0, .ref 0), (1, .int 2), (2, .int p1), (3, .int p2), (4, .ref 189)], []) rfl (fun _ => rfl)
    · refine xe_sn pg_75 1 (fr' := (1, [(0, .ref 0), (1, .int 2), (2, .int p1), (3, .int p2)], [.int 2])) rfl ?_
      apply xe_callq pg_75 92 [.int 2] (.inl none) (4, [(0, .ref 0), (1, .int 2), (2, .int p1), (3, .int p2)], []) rfl (fun _ => rfl)
      · refine xe_sn pg_92 2 (fr' := (2, [(0, .int 2)], [.int 4, .int 2])) rfl ?_
        apply xe_callq pg_92 95 [.int 2, .int 4] (.inl none) (5, [(0, .int 2)], []) rfl (fun _ => rfl)
        · refine xe_sn pg_95 4 (fr' := (6, [(0, .int 2), (1, .int 4)], [.int 4, .int 2])) rfl ?_
          refine xe_sn pg_95 1 (fr' := (17, [(0, .int 2), (1, .int 4)], [])) rfl ?_
          exact xe_end pg_95 rfl
        exact xe_end pg_92 rfl
      refine xe_sn pg_75 1 (fr' := (5, [(0, .ref 0), (1, .int 2), (2, .int p1), (3, .int p2)], [.int p1])) rfl ?_
      apply xe_callq pg_75 93 [.int p1] (.inl none) (8, [(0, .ref 0), (1, .int 2), (2, .int p1), (3, .int p2)], []) rfl (fun _ => rfl)
      · refine xe_sn pg_93 2 (fr' := (2, [(0, .int p1)], [.int 1, .int p1])) rfl ?_
        refine xe_f2 pg_93 10 rfl rfl (by show ¬ ((p1).toInt < 1); omega) ?_
        refine xe_sn pg_93 2 (fr' := (7, [(0, .int p1)], [.int 4, .int p1])) rfl ?_
        refine xe_t2 pg_93 18 rfl rfl (by show (p1).toInt ≤ 4; omega) ?_
        exact xe_end pg_93 rfl
      refine xe_sn pg_75 1 (fr' := (9, [(0, .ref 0), (1, .int 2), (2, .int p1), (3, .int p2)], [.int p2])) rfl ?_
      apply xe_callqx pg_75 96 [.int p2] 1 rfl (fun _ => rfl)
      · refine xe_sn pg_96 2 (fr' := (2, [(0, .int p2)], [.int 1, .int p2])) rfl ?_
        refine xe_f2 pg_96 15 rfl rfl (by show ¬ ((p2).toInt < 1); omega) ?_
        refine xe_sn pg_96 2 (fr' := (8, [(0, .int p2)], [.int 65519, .int p2])) rfl ?_
        refine xe_t2 pg_96 15 rfl rfl (by show 65519 < (p2).toInt; omega) ?_
        refine xe_sn pg_96 1 (fr' := (16, [(0, .int p2)], [.int 0])) rfl ?_
        apply xe_callqx pg_96 97 [.int 0] 1 rfl (fun _ => rfl)
        · refine xe_sn pg_97 2 (fr' := (4, [(0, .int 0)], [])) rfl ?_
          exact xe_end pg_97 rfl
    refine xe_sn pg_162 1 (fr' := (22, [(0, .ref 0), (1, .int 2), (2, .int p1), (3, .int p2), (4, .ref 189)], [.int 2])) rfl ?_
    exact xe_end pg_162 rfl
  refine And.intro ⟨rfl, rfl, rfl, rfl⟩ ?_
  apply And.intro
  · refine xe_sn pg_141 2 (fr' := (2, [(0, .ref 165), (1, .int 2), (2, .int p1), (3, .int p2)], [.int 2, .ref 165])) rfl ?_
    apply xe_callq pg_141 104 [.int 2] (.inl (some (.int 1))) (5, [(0, .ref 165), (1, .int 2), (2, .int p1), (3, .int p2)], [.int 1, .ref 165]) rfl (fun _ => rfl)
    · refine xe_sn pg_104 3 (fr' := (3, [(0, .int 2)], [.int 3, .int 0, .int 2])) rfl ?_
      apply xe_callq pg_104 103 [.int 2, .int 0, .int 3] (.inl (some (.int 1))) (6, [(0, .int 2)], [.int 1]) rfl (fun _ => rfl)
      · refine xe_sn pg_103 4 (fr' := (6, [(0, .int 2), (1, .int 0), (2, .int 3)], [.int 2])) rfl ?_
        refine xe_sn pg_103 4 (fr' := (15, [(0, .int 2), (1, .int 0), (2, .int 3)], [.int 1])) rfl ?_
        exact xe_end pg_103 rfl
      exact xe_end pg_104 rfl
    refine xe_sn pg_141 2 (fr' := (9, [(0, .ref 165), (1, .int 2), (2, .int p1), (3, .int p2)], [.int p1, .ref 165])) rfl ?_
    apply xe_callq pg_141 105 [.int p1] (.inl (some (.int 1))) (12, [(0, .ref 165), (1, .int 2), (2, .int p1), (3, .int p2)], [.int 1, .ref 165]) rfl (fun _ => rfl)
    · refine xe_sn pg_105 3 (fr' := (3, [(0, .int p1)], [.int 4, .int 1, .int p1])) rfl ?_
      apply xe_callq pg_105 103 [.int p1, .int 1, .int 4] (.inl (some (.int 1))) (6, [(0, .int p1)], [.int 1]) rfl (fun _ => rfl)
      · refine xe_sn pg_103 2 (fr' := (2, [(0, .int p1), (1, .int 1), (2, .int 4)], [.int 1, .int p1])) rfl ?_
        refine xe_f2 pg_103 14 rfl rfl (by show ¬ ((p1).toInt < 1); omega) ?_
        refine xe_sn pg_103 2 (fr' := (7, [(0, .int p1), (1, .int 1), (2, .int 4)], [.int 4, .int p1])) rfl ?_
        refine xe_f2 pg_103 14 rfl rfl (by show ¬ (4 < (p1).toInt); omega) ?_
        refine xe_sn pg_103 2 (fr' := (15, [(0, .int p1), (1, .int 1), (2, .int 4)], [.int 1])) rfl ?_
        exact xe_end pg_103 rfl
      exact xe_end pg_105 rfl
    refine xe_sn pg_141 4 (fr' := (23, [(0, .ref 165), (1, .int 2), (2, .int p1), (3, .int p2)], [.int 65519, .int 1, .int p2, .ref 165])) rfl ?_
    apply xe_callq pg_141 103 [.int p2, .int 1, .int 65519] (.inl (some (.int 0))) (26, [(0, .ref 165), (1, .int 2), (2, .int p1), (3, .int p2)], [.int 0, .ref 165]) rfl (fun _ => rfl)
    · refine xe_sn pg_103 2 (fr' := (2, [(0, .int p2), (1, .int 1), (2, .int 65519)], [.int 1, .int p2])) rfl ?_
      refine xe_f2 pg_103 14 rfl rfl (by show ¬ ((p2).toInt < 1); omega) ?_
      refine xe_sn pg_103 2 (fr' := (7, [(0, .int p2), (1, .int 1), (2, .int 65519)], [.int 65519, .int p2])) rfl ?_
      refine xe_t2 pg_103 14 rfl rfl (by show 65519 < (p2).toInt; omega) ?_
      refine xe_sn pg_103 1 (fr' := (15, [(0, .int p2), (1, .int 1), (2, .int 65519)], [.int 0])) rfl ?_
      exact xe_end pg_103 rfl
    refine xe_sn pg_141 4 (fr' := (37, [(0, .ref 165), (1, .int 2), (2, .int p1), (3, .int p2)], [])) rfl ?_
    refine xe_sn pg_141 4 (fr' := (44, [(4, .int 0), (0, .ref 165), (1, .int 2), (2, .int p1), (3, .int p2)], [.int 2])) rfl ?_
    refine xe_sn pg_141 4 (fr' := (93, [(4, .int 0), (0, .ref 165), (1, .int 2), (2, .int p1), (3, .int p2)], [.int 2, .ref 165])) rfl ?_
    refine xe_sn pg_141 4 (fr' := (127, [(4, .int 0), (0, .ref 165), (1, .int 2), (2, .int p1), (3, .int p2)], [])) rfl ?_
    refine xe_sn pg_141 4 (fr' := (135, [(4, .int 0), (0, .ref 165), (1, .int 2), (2, .int p1), (3, .int p2)], [.int 0])) rfl ?_
    exact xe_end pg_141 rfl
  · exact ⟨⟨rfl, rfl, rfl, rfl⟩, Nat.le_of_ble_eq_true rfl, Nat.le_of_ble_eq_true rfl, rfl, fun q => absurd q (by decide)⟩

set_option maxRecDepth 100000 in
theorem lf_extend_16 (xs : Nat → Int32) (p1 : Int32) (p2 : Int32) (a1 : 1 ≤ p1.toInt) (b1 : p1.toInt ≤ 4) (a2 : 1 ≤ p2.toInt) (b2 : p2.toInt ≤ 65519) : op_ok xs 162 141 [.ref 0, .int 2, .int p1, .int p2, .ref 189] [.ref 165, .int 2, .int p1, .int p2] := by
  refine ⟨3, 0, ?_⟩
  apply Exists.intro
  apply Exists.intro
  apply And.intro
  · refine xe_sn pg_162 4 (fr' := (5, [(0, .ref 0), (1, .int 2), (2, .int p1), (3, .int p2), (4, .ref 189)], [.int 2, .ref 0, .int 0, .ref 189])) rfl ?_
    refine xe_sn pg_162 2 (fr' := (7, [(0, .ref 0), (1, .int 2), (2, .int p1), (3, .int p2), (4, .ref 189)], [.int p2, .int p1, .int 2, .ref 0, .int 0, .ref 189])) rfl ?_
    apply xe_callq pg_162 75 [.ref 0, .int 2, .int p1, .int p2] (.inr 2) (25, [(0, .ref 0), (1, .int 2), (2, .int p1), (3, .int p2), (4, .ref 189)], []) rfl (fun _ => rfl)
    · refine xe_sn pg_75 1 (fr' := (1, [(0, .ref 0), (1, .int 2), (2, .int p1), (3, .int p2)], [.int 2])) rfl ?_
      apply xe_callq pg_75 92 [.int 2] (.inl none) (4, [(0, .ref 0), (1, .int 2), (2, .int p1), (3, .int p2)], []) rfl (fun _ => rfl)
      · refine xe_sn pg_92 2 (fr' := (2, [(0, .int 2)], [.int 4, .int 2])) rfl ?_
        apply xe_callq pg_92 95 [.int 2, .int 4] (.inl none) (5, [(0, .int 2)], []) rfl (fun _ => rfl)
        · refine xe_sn pg_95 4 (fr' := (6, [(0, .int 2), (1, .int 4)], [.int 4, .int 2])) rfl ?_
          refine xe_sn pg_95 1 (fr' := (17, [(0, .int 2), (1, .int 4)], [])) rfl ?_
          exact xe_end pg_95 rfl
        exact xe_end pg_92 rfl
      refine xe_sn pg_75 1 (fr' := (5, [(0, .ref 0), (1, .int 2), (2, .int p1), (3, .int p2)], [.int p1])) rfl ?_
      apply xe_callq pg_75 93 [.int p1] (.inl none) (8, [(0, .ref 0), (1, .int 2), (2, .int p1), (3, .int p2)], []) rfl (fun _ => rfl)
      · refine xe_sn pg_93 2 (fr' := (2, [(0, .int p1)], [.int 1, .int p1])) rfl ?_
        refine xe_f2 pg_93 10 rfl rfl (by show ¬ ((p1).toInt < 1); omega) ?_
        refine xe_sn pg_93 2 (fr' := (7, [(0, .int p1)], [.int 4, .int p1])) rfl ?_
        refine xe_t2 pg_93 18 rfl rfl (by show (p1).toInt ≤ 4; omega) ?_
        exact xe_end pg_93 rfl
      refine xe_sn pg_75 1 (fr' := (9, [(0, .ref 0), (1, .int 2), (2, .int p1), (3, .int p2)], [.int p2])) rfl ?_
      apply xe_callq pg_75 96 [.int p2] (.inl none) (12, [(0, .ref 0), (1, .int 2), (2, .int p1), (3, .int p2)], []) rfl (fun _ => rfl)
      · refine xe_sn pg_96 2 (fr' := (2, [(0, .int p2)], [.int 1, .int p2])) rfl ?_
        refine xe_f2 pg_96 15 rfl rfl (by show ¬ ((p2).toInt < 1); omega) ?_
        refine xe_sn pg_96 2 (fr' := (8, [(0, .int p2)], [.int 65519, .int p2])) rfl ?_
        refine xe_f2 pg_96 15 rfl rfl (by show ¬ (65519 < (p2).toInt); omega) ?_
        refine xe_sn pg_96 2 (fr' := (16, [(0, .int p2)], [.int 1])) rfl ?_
        apply xe_callq pg_96 97 [.int 1] (.inl none) (19, [(0, .int p2)], []) rfl (fun _ => rfl)
        · refine xe_sn pg_97 2 (fr' := (12, [(0, .int 1)], [])) rfl ?_
          exact xe_end pg_97 rfl
        exact xe_end pg_96 rfl
      refine xe_sn pg_75 4 (fr' := (18, [(0, .ref 0), (1, .int 2), (2, .int p1), (3, .int p2)], [.ref 143])) rfl ?_
      refine xe_sn pg_75 3 (fr' := (23, [(4, .ref 143), (0, .ref 0), (1, .int 2), (2, .int p1), (3, .int p2)], [.int p1, .ref 143])) rfl ?_
      apply xe_callq pg_75 18 [.ref 143, .int p1] (.inl (some (.int 0))) (26, [(4, .ref 143), (0, .ref 0), (1, .int 2), (2, .int p1), (3, .int p2)], [.int 0]) rfl (fun _ => rfl)
      · refine xe_sn pg_18 4 (fr' := (4, [(2, .int 0), (0, .ref 143), (1, .int p1)], [.ref 143, .int 0])) rfl ?_
        refine xe_sn pg_18 3 (fr' := (29, [(2, .int 0), (0, .ref 143), (1, .int p1)], [.int 0])) rfl ?_
        exact xe_end pg_18 rfl
      refine xe_sn pg_75 3 (fr' := (34, [(4, .ref 143), (0, .ref 0), (1, .int 2), (2, .int p1), (3, .int p2)], [.int 1])) rfl ?_
      apply xe_callq pg_75 97 [.int 1] (.inl none) (37, [(4, .ref 143), (0, .ref 0), (1, .int 2), (2, .int p1), (3, .int p2)], []) rfl (fun _ => rfl)
      · refine xe_sn pg_97 2 (fr' := (12, [(0, .int 1)], [])) rfl ?_
        exact xe_end pg_97 rfl
      refine xe_sn pg_75 4 (fr' := (59, [(4, .ref 143), (0, .ref 0), (1, .int 2), (2, .int p1), (3, .int p2)], [])) rfl ?_
      refine xe_sn pg_75 1 (fr' := (60, [(4, .ref 143), (0, .ref 0), (1, .int 2), (2, .int p1), (3, .int p2)], [.int 0])) rfl ?_
      apply xe_callqx pg_75 98 [.int 0] 2 rfl (fun _ => rfl)
      · refine xe_sn pg_98 2 (fr' := (4, [(0, .int 0)], [])) rfl ?_
        exact xe_end pg_98 rfl
    refine xe_sn pg_162 1 (fr' := (26, [(0, .ref 0), (1, .int 2), (2, .int p1), (3, .int p2), (4, .ref 189)], [.int 3])) rfl ?_
    exact xe_end pg_162 rfl
  refine And.intro ⟨rfl, rfl, rfl, rfl⟩ ?_
  apply And.intro
  · refine xe_sn pg_141 2 (fr' := (2, [(0, .ref 165), (1, .int 2), (2, .int p1), (3, .int p2)], [.int 2, .ref 165])) rfl ?_
    apply xe_callq pg_141 104 [.int 2] (.inl (some (.int 1))) (5, [(0, .ref 165), (1, .int 2), (2, .int p1), (3, .int p2)], [.int 1, .ref 165]) rfl (fun _ => rfl)
    · refine xe_sn pg_104 3 (fr' := (3, [(0, .int 2)], [.int 3, .int 0, .int 2])) rfl ?_
      apply xe_callq pg_104 103 [.int 2, .int 0, .int 3] (.inl (some (.int 1))) (6, [(0, .int 2)], [.int 1]) rfl (fun _ => rfl)
      · refine xe_sn pg_103 4 (fr' := (6, [(0, .int 2), (1, .int 0), (2, .int 3)], [.int 2])) rfl ?_
        refine xe_sn pg_103 4 (fr' := (15, [(0, .int 2), (1, .int 0), (2, .int 3)], [.int 1])) rfl ?_
        exact xe_end pg_103 rfl
      exact xe_end pg_104 rfl
    refine xe_sn pg_141 2 (fr' := (9, [(0, .ref 165), (1, .int 2), (2, .int p1), (3, .int p2)], [.int p1, .ref 165])) rfl ?_
    apply xe_callq pg_141 105 [.int p1] (.inl (some (.int 1))) (12, [(0, .ref 165), (1, .int 2), (2, .int p1), (3, .int p2)], [.int 1, .ref 165]) rfl (fun _ => rfl)
    · refine xe_sn pg_105 3 (fr' := (3, [(0, .int p1)], [.int 4, .int 1, .int p1])) rfl ?_
      apply xe_callq pg_105 103 [.int p1, .int 1, .int 4] (.inl (some (.int 1))) (6, [(0, .int p1)], [.int 1]) rfl (fun _ => rfl)
      · refine xe_sn pg_103 2 (fr' := (2, [(0, .int p1), (1, .int 1), (2, .int 4)], [.int 1, .int p1])) rfl ?_
        refine xe_f2 pg_103 14 rfl rfl (by show ¬ ((p1).toInt < 1); omega) ?_
        refine xe_sn pg_103 2 (fr' := (7, [(0, .int p1), (1, .int 1), (2, .int 4)], [.int 4, .int p1])) rfl ?_
        refine xe_f2 pg_103 14 rfl rfl (by show ¬ (4 < (p1).toInt); omega) ?_
        refine xe_sn pg_103 2 (fr' := (15, [(0, .int p1), (1, .int 1), (2, .int 4)], [.int 1])) rfl ?_
        exact xe_end pg_103 rfl
      exact xe_end pg_105 rfl
    refine xe_sn pg_141 4 (fr' := (23, [(0, .ref 165), (1, .int 2), (2, .int p1), (3, .int p2)], [.int 65519, .int 1, .int p2, .ref 165])) rfl ?_
    apply xe_callq pg_141 103 [.int p2, .int 1, .int 65519] (.inl (some (.int 1))) (26, [(0, .ref 165), (1, .int 2), (2, .int p1), (3, .int p2)], [.int 1, .ref 165]) rfl (fun _ => rfl)
    · refine xe_sn pg_103 2 (fr' := (2, [(0, .int p2), (1, .int 1), (2, .int 65519)], [.int 1, .int p2])) rfl ?_
      refine xe_f2 pg_103 14 rfl rfl (by show ¬ ((p2).toInt < 1); omega) ?_
      refine xe_sn pg_103 2 (fr' := (7, [(0, .int p2), (1, .int 1), (2, .int 65519)], [.int 65519, .int p2])) rfl ?_
      refine xe_f2 pg_103 14 rfl rfl (by show ¬ (65519 < (p2).toInt); omega) ?_
      refine xe_sn pg_103 2 (fr' := (15, [(0, .int p2), (1, .int 1), (2, .int 65519)], [.int 1])) rfl ?_
      exact xe_end pg_103 rfl
    refine xe_sn pg_141 4 (fr' := (38, [(0, .ref 165), (1, .int 2), (2, .int p1), (3, .int p2)], [.int 0])) rfl ?_
    refine xe_sn pg_141 4 (fr' := (47, [(4, .int 0), (0, .ref 165), (1, .int 2), (2, .int p1), (3, .int p2)], [])) rfl ?_
    refine xe_sn pg_141 4 (fr' := (54, [(4, .int 0), (0, .ref 165), (1, .int 2), (2, .int p1), (3, .int p2)], [.int 2, .ref 168, .int 0])) rfl ?_
    refine xe_sn pg_141 4 (fr' := (90, [(4, .int 0), (0, .ref 165), (1, .int 2), (2, .int p1), (3, .int p2)], [.ref 165, .ref 165])) rfl ?_
    refine xe_sn pg_141 4 (fr' := (100, [(4, .int 0), (0, .ref 165), (1, .int 2), (2, .int p1), (3, .int p2)], [.ref 167, .ref 165])) rfl ?_
    refine xe_sn pg_141 4 (fr' := (116, [(4, .int 0), (0, .ref 165), (1, .int 2), (2, .int p1), (3, .int p2)], [.ref 165])) rfl ?_
    refine xe_sn pg_141 4 (fr' := (128, [(4, .int 0), (0, .ref 165), (1, .int 2), (2, .int p1), (3, .int p2)], [.ref 165])) rfl ?_
    refine xe_sn pg_141 3 (fr' := (135, [(4, .int 0), (0, .ref 165), (1, .int 2), (2, .int p1), (3, .int p2)], [.int 0])) rfl ?_
    exact xe_end pg_141 rfl
  · exact ⟨⟨rfl, rfl, rfl, rfl⟩, Nat.le_of_ble_eq_true rfl, Nat.le_of_ble_eq_true rfl, rfl, fun q => absurd q (by decide)⟩

set_option maxRecDepth 100000 in
theorem lf_extend_17 (xs : Nat → Int32) (p1 : Int32) (p2 : Int32) (a1 : p1.toInt < 1) : op_ok xs 162 141 [.ref 0, .int 3, .int p1, .int p2, .ref 189] [.ref 165, .int 3, .int p1, .int p2] := by
  refine ⟨1, 0, ?_⟩
  apply Exists.intro
  apply Exists.intro
  apply And.intro
  · refine xe_sn pg_162 4 (fr' := (5, [(0, .ref 0), (1, .int 3), (2, .int p1), (3, .int p2), (4, .ref 189)], [.int 3, .ref 0, .int 0, .ref 189])) rfl ?_
    refine xe_sn pg_162 2 (fr' := (7, [(0, .ref 0), (1, .int 3), (2, .int p1), (3, .int p2), (4, .ref 189)], [.int p2, .int p1, .int 3, .ref 0, .int 0, .ref 189])) rfl ?_
    apply xe_callq pg_162 75 [.ref 0, .int 3, .int p1, .int p2] (.inr 0) (17, [(0, .ref 0), (1, .int 3), (2, .int p1), (3, .int p2), (4, .ref 189)], []) rfl (fun _ => rfl)
    · refine xe_sn pg_75 1 (fr' := (1, [(0, .ref 0), (1, .int 3), (2, .int p1), (3, .int p2)], [.int 3])) rfl ?_
      apply xe_callq pg_75 92 [.int 3] (.inl none) (4, [(0, .ref 0), (1, .int 3), (2, .int p1), (3, .int p2)], []) rfl (fun _ => rfl)
      · refine xe_sn pg_92 2 (fr' := (2, [(0, .int 3)], [.int 4, .int 3])) rfl ?_
        apply xe_callq pg_92 95 [.int 3, .int 4] (.inl none) (5, [(0, .int 3)], []) rfl (fun _ => rfl)
        · refine xe_sn pg_95 4 (fr' := (6, [(0, .int 3), (1, .int 4)], [.int 4, .int 3])) rfl ?_
          refine xe_sn pg_95 1 (fr' := (17, [(0, .int 3), (1, .int 4)], [])) rfl ?_
          exact xe_end pg_95 rfl
        exact xe_end pg_92 rfl
      refine xe_sn pg_75 1 (fr' := (5, [(0, .ref 0), (1, .int 3), (2, .int p1), (3, .int p2)], [.int p1])) rfl ?_
      apply xe_callqx pg_75 93 [.int p1] 0 rfl (fun _ => rfl)
      · refine xe_sn pg_93 2 (fr' := (2, [(0, .int p1)], [.int 1, .int p1])) rfl ?_
        refine xe_t2 pg_93 10 rfl rfl (by show (p1).toInt < 1; omega) ?_
        exact xe_end pg_93 rfl
    refine xe_sn pg_162 1 (fr' := (18, [(0, .ref 0), (1, .int 3), (2, .int p1), (3, .int p2), (4, .ref 189)], [.int 1])) rfl ?_
    exact xe_end pg_162 rfl
  refine And.intro ⟨rfl, rfl, rfl, rfl⟩ ?_
  apply And.intro
  · refine xe_sn pg_141 2 (fr' := (2, [(0, .ref 165), (1, .int 3), (2, .int p1), (3, .int p2)], [.int 3, .ref 165])) rfl ?_
    apply xe_callq pg_141 104 [.int 3] (.inl (some (.int 1))) (5, [(0, .ref 165), (1, .int 3), (2, .int p1), (3, .int p2)], [.int 1, .ref 165]) rfl (fun _ => rfl)
    · refine xe_sn pg_104 3 (fr' := (3, [(0, .int 3)], [.int 3, .int 0, .int 3])) rfl ?_
      apply xe_callq pg_104 103 [.int 3, .int 0, .int 3] (.inl (some (.int 1))) (6, [(0, .int 3)], [.int 1]) rfl (fun _ => rfl)
      · refine xe_sn pg_103 4 (fr' := (6, [(0, .int 3), (1, .int 0), (2, .int 3)], [.int 3])) rfl ?_
        refine xe_sn pg_103 4 (fr' := (15, [(0, .int 3), (1, .int 0), (2, .int 3)], [.int 1])) rfl ?_
        exact xe_end pg_103 rfl
      exact xe_end pg_104 rfl
    refine xe_sn pg_141 2 (fr' := (9, [(0, .ref 165), (1, .int 3), (2, .int p1), (3, .int p2)], [.int p1, .ref 165])) rfl ?_
    apply xe_callq pg_141 105 [.int p1] (.inl (some (.int 0))) (12, [(0, .ref 165), (1, .int 3), (2, .int p1), (3, .int p2)], [.int 0, .ref 165]) rfl (fun _ => rfl)
    · refine xe_sn pg_105 3 (fr' := (3, [(0, .int p1)], [.int 4, .int 1, .int p1])) rfl ?_
      apply xe_callq pg_105 103 [.int p1, .int 1, .int 4] (.inl (some (.int 0))) (6, [(0, .int p1)], [.int 0]) rfl (fun _ => rfl)
      · refine xe_sn pg_103 2 (fr' := (2, [(0, .int p1), (1, .int 1), (2, .int 4)], [.int 1, .int p1])) rfl ?_
        refine xe_t2 pg_103 14 rfl rfl (by show (p1).toInt < 1; omega) ?_
        refine xe_sn pg_103 1 (fr' := (15, [(0, .int p1), (1, .int 1), (2, .int 4)], [.int 0])) rfl ?_
        exact xe_end pg_103 rfl
      exact xe_end pg_105 rfl
    refine xe_sn pg_141 4 (fr' := (37, [(0, .ref 165), (1, .int 3), (2, .int p1), (3, .int p2)], [])) rfl ?_
    refine xe_sn pg_141 4 (fr' := (44, [(4, .int 0), (0, .ref 165), (1, .int 3), (2, .int p1), (3, .int p2)], [.int 1])) rfl ?_
    refine xe_sn pg_141 4 (fr' := (93, [(4, .int 0), (0, .ref 165), (1, .int 3), (2, .int p1), (3, .int p2)], [.int 1, .ref 165])) rfl ?_
    refine xe_sn pg_141 4 (fr' := (127, [(4, .int 0), (0, .ref 165), (1, .int 3), (2, .int p1), (3, .int p2)], [])) rfl ?_
    refine xe_sn pg_141 4 (fr' := (135, [(4, .int 0), (0, .ref 165), (1, .int 3), (2, .int p1), (3, .int p2)], [.int 0])) rfl ?_
    exact xe_end pg_141 rfl
  · exact ⟨⟨rfl, rfl, rfl, rfl⟩, Nat.le_of_ble_eq_true rfl, Nat.le_of_ble_eq_true rfl, rfl, fun q => absurd q (by decide)⟩

set_option maxRecDepth 100000 in
theorem lf_extend_18 (xs : Nat → Int32) (p1 : Int32) (p2 : Int32) (b1 : 4 < p1.toInt) : op_ok xs 162 141 [.ref 0, .int 3, .int p1, .int p2, .ref 189] [.ref 165, .int 3, .int p1, .int p2] := by
  refine ⟨1, 0, ?_⟩
  apply Exists.intro
  apply Exists.intro
  apply And.intro
  · refine xe_sn pg_162 4 (fr' := (5, [(0, .ref 0), (1, .int 3), (2, .int p1), (3, .int p2), (4, .ref 189)], [.int 3, .ref 0, .int 0, .ref 189])) rfl ?_
    refine xe_sn pg_162 2 (fr' := (7, [(0, .ref 0), (1, .int 3), (2, .int p1), (3, .int p2), (4, .ref 189)], [.int p2, .int p1, .int 3, .ref 0, .int 0, .ref 189])) rfl ?_
    apply xe_callq pg_162 75 [.ref 0, .int 3, .int p1, .int p2] (.inr 0) (17, [(0, .ref 0), (1, .int 3), (2, .int p1), (3, .int p2), (4, .ref 189)], []) rfl (fun _ => rfl)
    · refine xe_sn pg_75 1 (fr' := (1, [(0, .ref 0), (1, .int 3), (2, .int p1), (3, .int p2)], [.int 3])) rfl ?_
      apply xe_callq pg_75 92 [.int 3] (.inl none) (4, [(0, .ref 0), (1, .int 3), (2, .int p1), (3, .int p2)], []) rfl (fun _ => rfl)
      · refine xe_sn pg_92 2 (fr' := (2, [(0, .int 3)], [.int 4, .int 3])) rfl ?_
        apply xe_callq pg_92 95 [.int 3, .int 4] (.inl none) (5, [(0, .int 3)], []) rfl (fun _ => rfl)
        · refine xe_sn pg_95 4 (fr' := (6, [(0, .int 3), (1, .int 4)], [.int 4, .int 3])) rfl ?_
          refine xe_sn pg_95 1 (fr' := (17, [(0, .int 3), (1, .int 4)], [])) rfl ?_
          exact xe_end pg_95 rfl
        exact xe_end pg_92 rfl
      refine xe_sn pg_75 1 (fr' := (5, [(0, .ref 0), (1, .int 3), (2, .int p1), (3, .int p2)], [.int p1])) rfl ?_
      apply xe_callqx pg_75 93 [.int p1] 0 rfl (fun _ => rfl)
      · refine xe_sn pg_93 2 (fr' := (2, [(0, .int p1)], [.int 1, .int p1])) rfl ?_
        refine xe_f2 pg_93 10 rfl rfl (by show ¬ ((p1).toInt < 1); omega) ?_
        refine xe_sn pg_93 2 (fr' := (7, [(0, .int p1)], [.int 4, .int p1])) rfl ?_
        refine xe_f2 pg_93 18 rfl rfl (by show ¬ ((p1).toInt ≤ 4); omega) ?_
        exact xe_end pg_93 rfl
    refine xe_sn pg_162 1 (fr' := (18, [(0, .ref 0), (1, .int 3), (2, .int p1), (3, .int p2), (4, .ref 189)], [.int 1])) rfl ?_
    exact xe_end pg_162 rfl
  refine And.intro ⟨rfl, rfl, rfl, rfl⟩ ?_
  apply And.intro
  · refine xe_sn pg_141 2 (fr' := (2, [(0, .ref 165), (1, .int 3), (2, .int p1), (3, .int p2)], [.int 3, .ref 165])) rfl ?_
    apply xe_callq pg_141 104 [.int 3] (.inl (some (.int 1))) (5, [(0, .ref 165), (1, .int 3), (2, .int p1), (3, .int p2)], [.int 1, .ref 165]) rfl (fun _ => rfl)
    · refine xe_sn pg_104 3 (fr' := (3, [(0, .int 3)], [.int 3, .int 0, .int 3])) rfl ?_
      apply xe_callq pg_104 103 [.int 3, .int 0, .int 3] (.inl (some (.int 1))) (6, [(0, .int 3)], [.int 1]) rfl (fun _ => rfl)
      · refine xe_sn pg_103 4 (fr' := (6, [(0, .int 3), (1, .int 0), (2, .int 3)], [.int 3])) rfl ?_
        refine xe_sn pg_103 4 (fr' := (15, [(0, .int 3), (1, .int 0), (2, .int 3)], [.int 1])) rfl ?_
        exact xe_end pg_103 rfl
      exact xe_end pg_104 rfl
    refine xe_sn pg_141 2 (fr' := (9, [(0, .ref 165), (1, .int 3), (2, .int p1), (3, .int p2)], [.int p1, .ref 165])) rfl ?_
    apply xe_callq pg_141 105 [.int p1] (.inl (some (.int 0))) (12, [(0, .ref 165), (1, .int 3), (2, .int p1), (3, .int p2)], [.int 0, .ref 165]) rfl (fun _ => rfl)
    · refine xe_sn pg_105 3 (fr' := (3, [(0, .int p1)], [.int 4, .int 1, .int p1])) rfl ?_
      apply xe_callq pg_105 103 [.int p1, .int 1, .int 4] (.inl (some (.int 0))) (6, [(0, .int p1)], [.int 0]) rfl (fun _ => rfl)
      · refine xe_sn pg_103 2 (fr' := (2, [(0, .int p1), (1, .int 1), (2, .int 4)], [.int 1, .int p1])) rfl ?_
        refine xe_f2 pg_103 14 rfl rfl (by show ¬ ((p1).toInt < 1); omega) ?_
        refine xe_sn pg_103 2 (fr' := (7, [(0, .int p1), (1, .int 1), (2, .int 4)], [.int 4, .int p1])) rfl ?_
        refine xe_t2 pg_103 14 rfl rfl (by show 4 < (p1).toInt; omega) ?_
        refine xe_sn pg_103 1 (fr' := (15, [(0, .int p1), (1, .int 1), (2, .int 4)], [.int 0])) rfl ?_
        exact xe_end pg_103 rfl
      exact xe_end pg_105 rfl
    refine xe_sn pg_141 4 (fr' := (37, [(0, .ref 165), (1, .int 3), (2, .int p1), (3, .int p2)], [])) rfl ?_
    refine xe_sn pg_141 4 (fr' := (44, [(4, .int 0), (0, .ref 165), (1, .int 3), (2, .int p1), (3, .int p2)], [.int 1])) rfl ?_
    refine xe_sn pg_141 4 (fr' := (93, [(4, .int 0), (0, .ref 165), (1, .int 3), (2, .int p1), (3, .int p2)], [.int 1, .ref 165])) rfl ?_
    refine xe_sn pg_141 4 (fr' := (127, [(4, .int 0), (0, .ref 165), (1, .int 3), (2, .int p1), (3, .int p2)], [])) rfl ?_
    refine xe_sn pg_141 4 (fr' := (135, [(4, .int 0), (0, .ref 165), (1, .int 3), (2, .int p1), (3, .int p2)], [.int 0])) rfl ?_
    exact xe_end pg_141 rfl
  · exact ⟨⟨rfl, rfl, rfl, rfl⟩, Nat.le_of_ble_eq_true rfl, Nat.le_of_ble_eq_true rfl, rfl, fun q => absurd q (by decide)⟩

set_option maxRecDepth 100000 in
theorem lf_extend_19 (xs : Nat → Int32) (p1 : Int32) (p2 : Int32) (a1 : 1 ≤ p1.toInt) (b1 : p1.toInt ≤ 4) (a2 : p2.toInt < 1) : op_ok xs 162 141 [.ref 0, .int 3, .int p1, .int p2, .ref 189] [.ref 165, .int 3, .int p1, .int p2] := by
  refine ⟨2, 0, ?_⟩
  apply Exists.intro
  apply Exists.intro
  apply And.intro
  · refine xe_sn pg_162 4 (fr' := (5, [(0, .ref 0), (1, .int 3), (2, .int p1), (3, .int p2), (4, .ref 189)], [.int 3, .ref 0, .int 0, .ref 189])) rfl ?_
    refine xe_sn pg_162 2 (fr' := (7, [(0, .ref 0), (1, .int 3), (2, .int p1), (3, .int p2), (4, .ref 189)], [.int p2, .int p1, .int 3, .ref 0, .int 0, .ref 189])) rfl ?_
    apply xe_callq pg_162 75 [.ref 0, .int 3, .int p1, .int p2] (.inr 1) (21, [(0, .ref 0), (1, .int 3), (2, .int p1), (3, .int p2), (4, .ref 189)], []) rfl (fun _ => rfl)
    · refine xe_sn pg_75 1 (fr' := (1, [(0, .ref 0), (1, .int 3), (2, .int p1), (3, .int p2)], [.int 3])) rfl ?_
      apply xe_callq pg_75 92 [.int 3] (.inl none) (4, [(0, .ref 0), (1, .int 3), (2, .int p1), (3, .int p2)], []) rfl (fun _ => rfl)
      · refine xe_sn pg_92 2 (fr' := (2, [(0, .int 3)], [.int 4, .int 3])) rfl ?_
        apply xe_callq pg_92 95 [.int 3, .int 4] (.inl none) (5, [(0, .int 3)], []) rfl (fun _ => rfl)
        · refine xe_sn pg_95 4 (fr' := (6, [(0, .int 3), (1, .int 4)], [.int 4, .int 3])) rfl ?_
          refine xe_sn pg_95 1 (fr' := (17, [(0, .int 3), (1, .int 4)], [])) rfl ?_
          exact xe_end pg_95 rfl
        exact xe_end pg_92 rfl
      refine xe_sn pg_75 1 (fr' := (5, [(0, .ref 0), (1, .int 3), (2, .int p1), (3, .int p2)], [.int p1])) rfl ?_
      apply xe_callq pg_75 93 [.int p1] (.inl none) (8, [(0, .ref 0), (1, .int 3), (2, .int p1), (3, .int p2)], []) rfl (fun _ => rfl)
      · refine xe_sn pg_93 2 (fr' := (2, [(0, .int p1)], [.int 1, .int p1])) rfl ?_
        refine xe_f2 pg_93 10 rfl rfl (by show ¬ ((p1).toInt < 1); omega) ?_
        refine xe_sn pg_93 2 (fr' := (7, [(0, .int p1)], [.int 4, .int p1])) rfl ?_
        refine xe_t2 pg_93 18 rfl rfl (by show (p1).toInt ≤ 4; omega) ?_
        exact xe_end pg_93 rfl
      refine xe_sn pg_75 1 (fr' := (9, [(0, .ref 0), (1, .int 3), (2, .int p1), (3, .int p2)], [.int p2])) rfl ?_
      apply xe_callqx pg_75 96 [.int p2] 1 rfl (fun _ => rfl)
      · refine xe_sn pg_96 2 (fr' := (2, [(0, .int p2)], [.int 1, .int p2])) rfl ?_
        refine xe_t2 pg_96 15 rfl rfl (by show (p2).toInt < 1; omega) ?_
        refine xe_sn pg_96 1 (fr' := (16, [(0, .int p2)], [.int 0])) rfl ?_
        apply xe_callqx pg_96 97 [.int 0] 1 rfl (fun _ => rfl)
        · refine xe_sn pg_97 2 (fr' := (4, [(0, .int 0)], [])) rfl ?_
          exact xe_end pg_97 rfl
    refine xe_sn pg_162 1 (fr' := (22, [(0, .ref 0), (1, .int 3), (2, .int p1), (3, .int p2), (4, .ref 189)], [.int 2])) rfl ?_
    exact xe_end pg_162 rfl
  refine And.intro ⟨rfl, rfl, rfl, rfl⟩ ?_
  apply And.intro
  · refine xe_sn pg_141 2 (fr' := (2, [(0, .ref 165), (1, .int 3), (2, .int p1), (3, .int p2)], [.int 3, .ref 165])) rfl ?_
    apply xe_callq pg_141 104 [.int 3] (.inl (some (.int 1))) (5, [(0, .ref 165), (1, .int 3), (2, .int p1), (3, .int p2)], [.int 1, .ref 165]) rfl (fun _ => rfl)
    · refine xe_sn pg_104 3 (fr' := (3, [(0, .int 3)], [.int 3, .int 0, .int 3])) rfl ?_
      apply xe_callq pg_104 103 [.int 3, .int 0, .int 3] (.inl (some (.int 1))) (6, [(0, .int 3)], [.int 1]) rfl (fun _ => rfl)
      · refine xe_sn pg_103 4 (fr' := (6, [(0, .int 3), (1, .int 0), (2, .int 3)], [.int 3])) rfl ?_
        refine xe_sn pg_103 4 (fr' := (15, [(0, .int 3), (1, .int 0), (2, .int 3)], [.int 1])) rfl ?_
        exact xe_end pg_103 rfl
      exact xe_end pg_104 rfl
    refine xe_sn pg_141 2 (fr' := (9, [(0, .ref 165), (1, .int 3), (2, .int p1), (3, .int p2)], [.int p1, .ref 165])) rfl ?_
    apply xe_callq pg_141 105 [.int p1] (.inl (some (.int 1))) (12, [(0, .ref 165), (1, .int 3), (2, .int p1), (3, .int p2)], [.int 1, .ref 165]) rfl (fun _ => rfl)
    · refine xe_sn pg_105 3 (fr' := (3, [(0, .int p1)], [.int 4, .int 1, .int p1])) rfl ?_
      apply xe_callq pg_105 103 [.int p1, .int 1, .int 4] (.inl (some (.int 1))) (6, [(0, .int p1)], [.int 1]) rfl (fun _ => rfl)
      · refine xe_sn pg_103 2 (fr' := (2, [(0, .int p1), (1, .int 1), (2, .int 4)], [.int 1, .int p1])) rfl ?_
        refine xe_f2 pg_103 14 rfl rfl (by show ¬ ((p1).toInt < 1); omega) ?_
        refine xe_sn pg_103 2 (fr' := (7, [(0, .int p1), (1, .int 1), (2, .int 4)], [.int 4, .int p1])) rfl ?_
        refine xe_f2 pg_103 14 rfl rfl (by show ¬ (4 < (p1).toInt); omega) ?_
        refine xe_sn pg_103 2 (fr' := (15, [(0, .int p1), (1, .int 1), (2, .int 4)], [.int 1])) rfl ?_
        exact xe_end pg_103 rfl
      exact xe_end pg_105 rfl
    refine xe_sn pg_141 4 (fr' := (23, [(0, .ref 165), (1, .int 3), (2, .int p1), (3, .int p2)], [.int 65519, .int 1, .int p2, .ref 165])) rfl ?_
    apply xe_callq pg_141 103 [.int p2, .int 1, .int 65519] (.inl (some (.int 0))) (26, [(0, .ref 165), (1, .int 3), (2, .int p1), (3, .int p2)], [.int 0, .ref 165]) rfl (fun _ => rfl)
    · refine xe_sn pg_103 2 (fr' := (2, [(0, .int p2), (1, .int 1), (2, .int 65519)], [.int 1, .int p2])) rfl ?_
      refine xe_t2 pg_103 14 rfl rfl (by show (p2).toInt < 1; omega) ?_
      refine xe_sn pg_103 1 (fr' := (15, [(0, .int p2), (1, .int 1), (2, .int 65519)], [.int 0])) rfl ?_
      exact xe_end pg_103 rfl
    refine xe_sn pg_141 4 (fr' := (37, [(0, .ref 165), (1, .int 3), (2, .int p1), (3, .int p2)], [])) rfl ?_
    refine xe_sn pg_141 4 (fr' := (44, [(4, .int 0), (0, .ref 165), (1, .int 3), (2, .int p1), (3, .int p2)], [.int 2])) rfl ?_
    refine xe_sn pg_141 4 (fr' := (93, [(4, .int 0), (0, .ref 165), (1, .int 3), (2, .int p1), (3, .int p2)], [.int 2, .ref 165])) rfl ?_
    refine xe_sn pg_141 4 (fr' := (127, [(4, .int 0), (0, .ref 165), (1, .int 3), (2, .int p1), (3, .int p2)], [])) rfl ?_
    refine xe_sn pg_141 4 (fr' := (135, [(4, .int 0), (0, .ref 165), (1, .int 3), (2, .int p1), (3, .int p2)], [.int 0])) rfl ?_
    exact xe_end pg_141 rfl
  · exact ⟨⟨rfl, rfl, rfl, rfl⟩, Nat.le_of_ble_eq_true rfl, Nat.le_of_ble_eq_true rfl, rfl, fun q => absurd q (by decide)⟩

set_option maxRecDepth 100000 in
theorem lf_extend_20 (xs : Nat → Int32) (p1 : Int32) (p2 : Int32) (a1 : 1 ≤ p1.toInt) (b1 : p1.toInt ≤ 4) (b2 : 65519 < p2.toInt) : op_ok xs 162 141 [.ref 0, .int 3, .int p1, .int p2, .ref 189] [.ref 165, .int 3, .int p1, .int p2] := by
  refine ⟨2, 0, ?_⟩
  apply Exists.intro
  apply Exists.intro
  apply And.intro
  · refine xe_sn pg_162 4 (fr' := (5, [(0, .ref 0), (1, .int 3), (2, .int p1), (3, .int p2), (4, .ref 189)], [.int 3, .ref 0, .int 0, .ref 189])) rfl ?_
    refine xe_sn pg_162 2 (fr' := (7, [(0, .ref 0), (1, .int 3), (2, .int p1), (3, .int p2), (4, .ref 189)], [.int p2, .int p1, .int 3, .ref 0, .int 0, .ref 189])) rfl ?_
    apply xe_callq pg_162 75 [.ref 0, .int 3, .int p1, .int p2] (.inr 1) (21, [(0, .ref 0), (1, .int 3), (2, .int p1), (3, .int p2), (4, .ref 189)], []) rfl (fun _ => rfl)
    · refine xe_sn pg_75 1 (fr' := (1, [(0, .ref 0), (1, .int 3), (2, .int p1), (3, .int p2)], [.int 3])) rfl ?_
      apply xe_callq pg_75 92 [.int 3] (.inl none) (4, [(0, .ref 0), (1, .int 3), (2, .int p1), (3, .int p2)], []) rfl (fun _ => rfl)
      · refine xe_sn pg_92 2 (fr' := (2, [(0, .int 3)], [.int 4, .int 3])) rfl ?_
        apply xe_callq pg_92 95 [.int 3, .int 4] (.inl none) (5, [(0, .int 3)], []) rfl (fun _ => rfl)
        · refine xe_sn pg_95 4 (fr' := (6, [(0, .int 3), (1, .int 4)], [.int 4, .int 3])) rfl ?_
          refine xe_sn pg_95 1 (fr' := (17, [(0, .int 3), (1, .int 4)], [])) rfl ?_
          exact xe_end pg_95 rfl
        exact xe_end pg_92 rfl
      refine xe_sn pg_75 1 (fr' := (5, [(0, .ref 0), (1, .int 3), (2, .int p1), (3, .int p2)], [.int p1])) rfl ?_
      apply xe_callq pg_75 93 [.int p1] (.inl none) (8, [(0, .ref 0), (1, .int 3), (2, .int p1), (3, .int p2)], []) rfl (fun _ => rfl)
      · refine xe_sn pg_93 2 (fr' := (2, [(0, .int p1)], [.int 1, .int p1])) rfl ?_
        refine xe_f2 pg_93 10 rfl rfl (by show ¬ ((p1).toInt < 1); omega) ?_
        refine xe_sn pg_93 2 (fr' := (7, [(0, .int p1)], [.int 4, .int p1])) rfl ?_
        refine xe_t2 pg_93 18 rfl rfl (by show (p1).toInt ≤ 4; omega) ?_
        exact xe_end pg_93 rfl
      refine xe_sn pg_75 1 (fr' := (9, [(0, .ref 0), (1, .int 3), (2, .int p1), (3, .int p2)], [.int p2])) rfl ?_
      apply xe_callqx pg_75 96 [.int p2] 1 rfl (fun _ => rfl)
      · refine xe_sn pg_96 2 (fr' := (2, [(0, .int p2)], [.int 1, .int p2])) rfl ?_
        refine xe_f2 pg_96 15 rfl rfl (by show ¬ ((p2).toInt < 1); omega) ?_
        refine xe_sn pg_96 2 (fr' := (8, [(0, .int p2)], [.int 65519, .int p2])) rfl ?_
        refine xe_t2 pg_96 15 rfl rfl (by show 65519 < (p2).toInt; omega) ?_
        refine xe_sn pg_96 1 (fr' := (16, [(0, .int p2)], [.int 0])) rfl ?_
        apply xe_callqx pg_96 97 [.int 0] 1 rfl (fun _ => rfl)
        · refine xe_sn pg_97 2 (fr' := (4, [(0, .int 0)], [])) rfl ?_
          exact xe_end pg_97 rfl
    refine xe_sn pg_162 1 (fr' := (22, [(0, .ref 0), (1, .int 3), (2, .int p1), (3, .int p2), (4, .ref 189)], [.int 2])) rfl ?_
    exact xe_end pg_162 rfl
  refine And.intro ⟨rfl, rfl, rfl, rfl⟩ ?_
  apply And.intro
  · refine xe_sn pg_141 2 (fr' := (2, [(0, .ref 165), (1, .int 3), (2, .int p1), (3, .int p2)], [.int 3, .ref 165])) rfl ?_
    apply xe_callq pg_141 104 [.int 3] (.inl (some (.int 1))) (5, [(0, .ref 165), (1, .int 3), (2, .int p1), (3, .int p2)], [.int 1, .ref 165]) rfl (fun _ => rfl)
    · refine xe_sn pg_104 3 (fr' := (3, [(0, .int 3)], [.int 3, .int 0, .int 3])) rfl ?_
      apply xe_callq pg_104 103 [.int 3, .int 0, .int 3] (.inl (some (.int 1))) (6, [(0, .int 3)], [.int 1]) rfl (fun _ => rfl)
      · refine xe_sn pg_103 4 (fr' := (6, [(0, .int 3), (1, .int 0), (2, .int 3)], [.int 3])) rfl ?_
        refine xe_sn pg_103 4 (fr' := (15, [(0, .int 3), (1, .int 0), (2, .int 3)], [.int 1])) rfl ?_
        exact xe_end pg_103 rfl
      exact xe_end pg_104 rfl
    refine xe_sn pg_141 2 (fr' := (9, [(0, .ref 165), (1, .int 3), (2, .int p1), (3, .int p2)], [.int p1, .ref 165])) rfl ?_
    apply xe_callq pg_141 105 [.int p1] (.inl (some (.int 1))) (12, [(0, .ref 165), (1, .int 3), (2, .int p1), (3, .int p2)], [.int 1, .ref 165]) rfl (fun _ => rfl)
    · refine xe_sn pg_105 3 (fr' := (3, [(0, .int p1)], [.int 4, .int 1, .int p1])) rfl ?_
      apply xe_callq pg_105 103 [.int p1, .int 1, .int 4] (.inl (some (.int 1))) (6, [(0, .int p1)], [.int 1]) rfl (fun _ => rfl)
      · refine xe_sn pg_103 2 (fr' := (2, [(0, .int p1), (1, .int 1), (2, .int 4)], [.int 1, .int p1])) rfl ?_
        refine xe_f2 pg_103 14 rfl rfl (by show ¬ ((p1).toInt < 1); omega) ?_
        refine xe_sn pg_103 2 (fr' := (7, [(0, .int p1), (1, .int 1), (2, .int 4)], [.int 4, .int p1])) rfl ?_
        refine xe_f2 pg_103 14 rfl rfl (by show ¬ (4 < (p1).toInt); omega) ?_
        refine xe_sn pg_103 2 (fr' := (15, [(0, .int p1), (1, .int 1), (2, .int 4)], [.int 1])) rfl ?_
        exact xe_end pg_103 rfl
      exact xe_end pg_105 rfl
    refine xe_sn pg_141 4 (fr' := (23, [(0, .ref 165), (1, .int 3), (2, .int p1), (3, .int p2)], [.int 65519, .int 1, .int p2, .ref 165])) rfl ?_
    apply xe_callq pg_141 103 [.int p2, .int 1, .int 65519] (.inl (some (.int 0))) (26, [(0, .ref 165), (1, .int 3), (2, .int p1), (3, .int p2)], [.int 0, .ref 165]) rfl (fun _ => rfl)
    · refine xe_sn pg_103 2 (fr' := (2, [(0, .int p2), (1, .int 1), (2, .int 65519)], [.int 1, .int p2])) rfl ?_
      refine xe_f2 pg_103 14 rfl rfl (by show ¬ ((p2).toInt < 1); omega) ?_
      refine xe_sn pg_103 2 (fr' := (7, [(0, .int p2), (1, .int 1), (2, .int 65519)], [.int 65519, .int p2])) rfl ?_
      refine xe_t2 pg_103 14 rfl rfl (by show 65519 < (p2).toInt; omega) ?_
      refine xe_sn pg_103 1 (fr' := (15, [(0, .int p2), (1, .int 1), (2, .int 65519)], [.int 0])) rfl ?_
      exact xe_end pg_103 rfl
    refine xe_sn pg_141 4 (fr' := (37, [(0, .ref 165), (1, .int 3), (2, .int p1), (3, .int p2)], [])) rfl ?_
    refine xe_sn pg_141 4 (fr' := (44, [(4, .int 0), (0, .ref 165), (1, .int 3), (2, .int p1), (3, .int p2)], [.int 2])) rfl ?_
    refine xe_sn pg_141 4 (fr' := (93, [(4, .int 0), (0, .ref 165), (1, .int 3), (2, .int p1), (3, .int p2)], [.int 2, .ref 165])) rfl ?_
    refine xe_sn pg_141 4 (fr' := (127, [(4, .int 0), (0, .ref 165), (1, .int 3), (2, .int p1), (3, .int p2)], [])) rfl ?_
    refine xe_sn pg_141 4 (fr' := (135, [(4, .int 0), (0, .ref 165), (1, .int 3), (2, .int p1), (3, .int p2)], [.int 0])) rfl ?_
    exact xe_end pg_141 rfl
  · exact ⟨⟨rfl, rfl, rfl, rfl⟩, Nat.le_of_ble_eq_true rfl, Nat.le_of_ble_eq_true rfl, rfl, fun q => absurd q (by decide)⟩

set_option maxRecDepth 100000 in
theorem lf_extend_21 (xs : Nat → Int32) (p1 : Int32) (p2 : Int32) (a1 : 1 ≤ p1.toInt) (b1 : p1.toInt ≤ 4) (a2 : 1 ≤ p2.toInt) (b2 : p2.toInt ≤ 65519) : op_ok xs 162 141 [.ref 0, .int 3, .int p1, .int p2, .ref 189] [.ref 165, .int 3, .int p1, .int p2] := by
  refine ⟨3, 0, ?_⟩
  apply Exists.intro
  apply Exists.intro
  apply And.intro
  · refine xe_sn pg_162 4 (fr' := (5, [(0, .ref 0), (1, .int 3), (2, .int p1), (3, .int p2), (4, .ref 189)], [.int 3, .ref 0, .int 0, .ref 189])) rfl ?_
    refine xe_sn pg_162 2 (fr' := (7, [(0, .ref 0), (1, .int 3), (2, .int p1), (3, .int p2), (4, .ref 189)], [.int p2, .int p1, .int 3, .ref 0, .int 0, .ref 189])) rfl ?_
    apply xe_callq pg_162 75 [.ref 0, .int 3, .int p1, .int p2] (.inr 2) (25, [(0, .ref 0), (1, .int 3), (2, .int p1), (3, .int p2), (4, .ref 189)], []) rfl (fun _ => rfl)
    · refine xe_sn pg_75 1 (fr' := (1, [(0, .ref 0), (1, .int 3), (2, .int p1), (3, .int p2)], [.int 3])) rfl ?_
      apply xe_callq pg_75 92 [.int 3] (.inl none) (4, [(0, .ref 0), (1, .int 3), (2, .int p1), (3, .int p2)], []) rfl (fun _ => rfl)
      · refine xe_sn pg_92 2 (fr' := (2, [(0, .int 3)], [.int 4, .int 3])) rfl ?_
        apply xe_callq pg_92 95 [.int 3, .int 4] (.inl none) (5, [(0, .int 3)], []) rfl (fun _ => rfl)
        · refine xe_sn pg_95 4 (fr' := (6, [(0, .int 3), (1, .int 4)], [.int 4, .int 3])) rfl ?_
          refine xe_sn pg_95 1 (fr' := (17, [(0, .int 3), (1, .int 4)], [])) rfl ?_
          exact xe_end pg_95 rfl
        exact xe_end pg_92 rfl
      refine xe_sn pg_75 1 (fr' := (5, [(0, .ref 0), (1, .int 3), (2, .int p1), (3, .int p2)], [.int p1])) rfl ?_
      apply xe_callq pg_75 93 [.int p1] (.inl none) (8, [(0, .ref 0), (1, .int 3), (2, .int p1), (3, .int p2)], []) rfl (fun _ => rfl)
      · refine xe_sn pg_93 2 (fr' := (2, [(0, .int p1)], [.int 1, .int p1])) rfl ?_
        refine xe_f2 pg_93 10 rfl rfl (by show ¬ ((p1).toInt < 1); omega) ?_
        refine xe_sn pg_93 2 (fr' := (7, [(0, .int p1)], [.int 4, .int p1])) rfl ?_
        refine xe_t2 pg_93 18 rfl rfl (by show (p1).toInt ≤ 4; omega) ?_
        exact xe_end pg_93 rfl
      refine xe_sn pg_75 1 (fr' := (9, [(0, .ref 0), (1, .int 3), (2, .int p1), (3, .int p2)], [.int p2])) rfl ?_
      apply xe_callq pg_75 96 [.int p2] (.inl none) (12, [(0, .ref 0), (1, .int 3), (2, .int p1), (3, .int p2)], []) rfl (fun _ => rfl)
      · refine xe_sn pg_96 2 (fr' := (2, [(0, .int p2)], [.int 1, .int p2])) rfl ?_
        refine xe_f2 pg_96 15 rfl rfl (by show ¬ ((p2).toInt < 1); omega) ?_
        refine xe_sn pg_96 2 (fr' := (8, [(0, .int p2)], [.int 65519, .int p2])) rfl ?_
        refine xe_f2 pg_96 15 rfl rfl (by show ¬ (65519 < (p2).toInt); omega) ?_
        refine xe_sn pg_96 2 (fr' := (16, [(0, .int p2)], [.int 1])) rfl ?_
        apply xe_callq pg_96 97 [.int 1] (.inl none) (19, [(0, .int p2)], []) rfl (fun _ => rfl)
        · refine xe_sn pg_97 2 (fr' := (12, [(0, .int 1)], [])) rfl ?_
          exact xe_end pg_97 rfl
        exact xe_end pg_96 rfl
      refine xe_sn pg_75 4 (fr' := (18, [(0, .ref 0), (1, .int 3), (2, .int p1), (3, .int p2)], [.ref 154])) rfl ?_
      refine xe_sn pg_75 3 (fr' := (23, [(4, .ref 154), (0, .ref 0), (1, .int 3), (2, .int p1), (3, .int p2)], [.int p1, .ref 154])) rfl ?_
      apply xe_callq pg_75 18 [.ref 154, .int p1] (.inl (some (.int 0))) (26, [(4, .ref 154), (0, .ref 0), (1, .int 3), (2, .int p1), (3, .int p2)], [.int 0]) rfl (fun _ => rfl)
      · refine xe_sn pg_18 4 (fr' := (4, [(2, .int 0), (0, .ref 154), (1, .int p1)], [.ref 154, .int 0])) rfl ?_
        refine xe_sn pg_18 3 (fr' := (29, [(2, .int 0), (0, .ref 154), (1, .int p1)], [.int 0])) rfl ?_
        exact xe_end pg_18 rfl
      refine xe_sn pg_75 3 (fr' := (34, [(4, .ref 154), (0, .ref 0), (1, .int 3), (2, .int p1), (3, .int p2)], [.int 1])) rfl ?_
      apply xe_callq pg_75 97 [.int 1] (.inl none) (37, [(4, .ref 154), (0, .ref 0), (1, .int 3), (2, .int p1), (3, .int p2)], []) rfl (fun _ => rfl)
      · refine xe_sn pg_97 2 (fr' := (12, [(0, .int 1)], [])) rfl ?_
        exact xe_end pg_97 rfl
      refine xe_sn pg_75 4 (fr' := (59, [(4, .ref 154), (0, .ref 0), (1, .int 3), (2, .int p1), (3, .int p2)], [])) rfl ?_
      refine xe_sn pg_75 1 (fr' := (60, [(4, .ref 154), (0, .ref 0), (1, .int 3), (2, .int p1), (3, .int p2)], [.int 0])) rfl ?_
      apply xe_callqx pg_75 98 [.int 0] 2 rfl (fun _ => rfl)
      · refine xe_sn pg_98 2 (fr' := (4, [(0, .int 0)], [])) rfl ?_
        exact xe_end pg_98 rfl
    refine xe_sn pg_162 1 (fr' := (26, [(0, .ref 0), (1, .int 3), (2, .int p1), (3, .int p2), (4, .ref 189)], [.int 3])) rfl ?_
    exact xe_end pg_162 rfl
  refine And.intro ⟨rfl, rfl, rfl, rfl⟩ ?_
  apply And.intro
  · refine xe_sn pg_141 2 (fr' := (2, [(0, .ref 165), (1, .int 3), (2, .int p1), (3, .int p2)], [.int 3, .ref 165])) rfl ?_
    apply xe_callq pg_141 104 [.int 3] (.inl (some (.int 1))) (5, [(0, .ref 165), (1, .int 3), (2, .int p1), (3, .int p2)], [.int 1, .ref 165]) rfl (fun _ => rfl)
    · refine xe_sn pg_104 3 (fr' := (3, [(0, .int 3)], [.int 3, .int 0, .int 3])) rfl ?_
      apply xe_callq pg_104 103 [.int 3, .int 0, .int 3] (.inl (some (.int 1))) (6, [(0, .int 3)], [.int 1]) rfl (fun _ => rfl)
      · refine xe_sn pg_103 4 (fr' := (6, [(0, .int 3), (1, .int 0), (2, .int 3)], [.int 3])) rfl ?_
        refine xe_sn pg_103 4 (fr' := (15, [(0, .int 3), (1, .int 0), (2, .int 3)], [.int 1])) rfl ?_
        exact xe_end pg_103 rfl
      exact xe_end pg_104 rfl
    refine xe_sn pg_141 2 (fr' := (9, [(0, .ref 165), (1, .int 3), (2, .int p1), (3, .int p2)], [.int p1, .ref 165])) rfl ?_
    apply xe_callq pg_141 105 [.int p1] (.inl (some (.int 1))) (12, [(0, .ref 165), (1, .int 3), (2, .int p1), (3, .int p2)], [.int 1, .ref 165]) rfl (fun _ => rfl)
    · refine xe_sn pg_105 3 (fr' := (3, [(0, .int p1)], [.int 4, .int 1, .int p1])) rfl ?_
      apply xe_callq pg_105 103 [.int p1, .int 1, .int 4] (.inl (some (.int 1))) (6, [(0, .int p1)], [.int 1]) rfl (fun _ => rfl)
      · refine xe_sn pg_103 2 (fr' := (2, [(0, .int p1), (1, .int 1), (2, .int 4)], [.int 1, .int p1])) rfl ?_
        refine xe_f2 pg_103 14 rfl rfl (by show ¬ ((p1).toInt < 1); omega) ?_
        refine xe_sn pg_103 2 (fr' := (7, [(0, .int p1), (1, .int 1), (2, .int 4)], [.int 4, .int p1])) rfl ?_
        refine xe_f2 pg_103 14 rfl rfl (by show ¬ (4 < (p1).toInt); omega) ?_
        refine xe_sn pg_103 2 (fr' := (15, [(0, .int p1), (1, .int 1), (2, .int 4)], [.int 1])) rfl ?_
        exact xe_end pg_103 rfl
      exact xe_end pg_105 rfl
    refine xe_sn pg_141 4 (fr' := (23, [(0, .ref 165), (1, .int 3), (2, .int p1), (3, .int p2)], [.int 65519, .int 1, .int p2, .ref 165])) rfl ?_
    apply xe_callq pg_141 103 [.int p2, .int 1, .int 65519] (.inl (some (.int 1))) (26, [(0, .ref 165), (1, .int 3), (2, .int p1), (3, .int p2)], [.int 1, .ref 165]) rfl (fun _ => rfl)
    · refine xe_sn pg_103 2 (fr' := (2, [(0, .int p2), (1, .int 1), (2, .int 65519)], [.int 1, .int p2])) rfl ?_
      refine xe_f2 pg_103 14 rfl rfl (by show ¬ ((p2).toInt < 1); omega) ?_
      refine xe_sn pg_103 2 (fr' := (7, [(0, .int p2), (1, .int 1), (2, .int 65519)], [.int 65519, .int p2])) rfl ?_
      refine xe_f2 pg_103 14 rfl rfl (by show ¬ (65519 < (p2).toInt); omega) ?_
      refine xe_sn pg_103 2 (fr' := (15, [(0, .int p2), (1, .int 1), (2, .int 65519)], [.int 1])) rfl ?_
      exact xe_end pg_103 rfl
    refine xe_sn pg_141 4 (fr' := (38, [(0, .ref 165), (1, .int 3), (2, .int p1), (3, .int p2)], [.int 0])) rfl ?_
    refine xe_sn pg_141 4 (fr' := (47, [(4, .int 0), (0, .ref 165), (1, .int 3), (2, .int p1), (3, .int p2)], [])) rfl ?_
    refine xe_sn pg_141 4 (fr' := (54, [(4, .int 0), (0, .ref 165), (1, .int 3), (2, .int p1), (3, .int p2)], [.int 3, .ref 168, .int 0])) rfl ?_
    refine xe_sn pg_141 4 (fr' := (90, [(4, .int 0), (0, .ref 165), (1, .int 3), (2, .int p1), (3, .int p2)], [.ref 165, .ref 165])) rfl ?_
    refine xe_sn pg_141 4 (fr' := (100, [(4, .int 0), (0, .ref 165), (1, .int 3), (2, .int p1), (3, .int p2)], [.ref 167, .ref 165])) rfl ?_
    refine xe_sn pg_141 4 (fr' := (116, [(4, .int 0), (0, .ref 165), (1, .int 3), (2, .int p1), (3, .int p2)], [.ref 165])) rfl ?_
    refine xe_sn pg_141 4 (fr' := (128, [(4, .int 0), (0, .ref 165), (1, .int 3), (2, .int p1), (3, .int p2)], [.ref 165])) rfl ?_
    refine xe_sn pg_141 3 (fr' := (135, [(4, .int 0), (0, .ref 165), (1, .int 3), (2, .int p1), (3, .int p2)], [.int 0])) rfl ?_
    exact xe_end pg_141 rfl
  · exact ⟨⟨rfl, rfl, rfl, rfl⟩, Nat.le_of_ble_eq_true rfl, Nat.le_of_ble_eq_true rfl, rfl, fun q => absurd q (by decide)⟩
theorem op_extend (xs : Nat → Int32) (p0 p1 p2 : Int32) : op_ok xs 162 141 [.ref 0, .int p0, .int p1, .int p2, .ref 189] [.ref 165, .int p0, .int p1, .int p2] := by
  by_cases a0 : p0.toInt < 0
  · exact lf_extend_0 xs p0 p1 p2 a0
  by_cases b0 : 3 < p0.toInt
  · exact lf_extend_1 xs p0 p1 p2 b0
  replace a0 : 0 ≤ p0.toInt := by omega
  replace b0 : p0.toInt ≤ 3 := by omega
  rcases (by omega : p0.toInt = 0 ∨ p0.toInt = 1 ∨ p0.toInt = 2 ∨ p0.toInt = 3) with q0 | q0 | q0 | q0
  · obtain rfl : p0 = 0 := Int32.toInt_inj.mp (q0.trans (by decide))
    by_cases a1 : p1.toInt < 1
    · exact lf_extend_2 xs p1 p2 a1
    by_cases b1 : 4 < p1.toInt
    · exact lf_extend_3 xs p1 p2 b1
    replace a1 : 1 ≤ p1.toInt := by omega
    replace b1 : p1.toInt ≤ 4 := by omega
    by_cases a2 : p2.toInt < 1
    · exact lf_extend_4 xs p1 p2 a1 b1 a2
    by_cases b2 : 65519 < p2.toInt
    · exact lf_extend_5 xs p1 p2 a1 b1 b2
    replace a2 : 1 ≤ p2.toInt := by omega
    replace b2 : p2.toInt ≤ 65519 := by omega
    exact lf_extend_6 xs p1 p2 a1 b1 a2 b2
  · obtain rfl : p0 = 1 := Int32.toInt_inj.mp (q0.trans (by decide))
    by_cases a1 : p1.toInt < 1
    · exact lf_extend_7 xs p1 p2 a1
    by_cases b1 : 4 < p1.toInt
    · exact lf_extend_8 xs p1 p2 b1
    replace a1 : 1 ≤ p1.toInt := by omega
    replace b1 : p1.toInt ≤ 4 := by omega
    by_cases a2 : p2.toInt < 1
    · exact lf_extend_9 xs p1 p2 a1 b1 a2
    by_cases b2 : 65519 < p2.toInt
    · exact lf_extend_10 xs p1 p2 a1 b1 b2
    replace a2 : 1 ≤ p2.toInt := by omega
    replace b2 : p2.toInt ≤ 65519 := by omega
    exact lf_extend_11 xs p1 p2 a1 b1 a2 b2
  · obtain rfl : p0 = 2 := Int32.toInt_inj.mp (q0.trans (by decide))
    by_cases a1 : p1.toInt < 1
    · exact lf_extend_12 xs p1 p2 a1
    by_cases b1 : 4 < p1.toInt
    · exact lf_extend_13 xs p1 p2 b1
    replace a1 : 1 ≤ p1.toInt := by omega
    replace b1 : p1.toInt ≤ 4 := by omega
    by_cases a2 : p2.toInt < 1
    · exact lf_extend_14 xs p1 p2 a1 b1 a2
    by_cases b2 : 65519 < p2.toInt
    · exact lf_extend_15 xs p1 p2 a1 b1 b2
    replace a2 : 1 ≤ p2.toInt := by omega
    replace b2 : p2.toInt ≤ 65519 := by omega
    exact lf_extend_16 xs p1 p2 a1 b1 a2 b2
  · obtain rfl : p0 = 3 := Int32.toInt_inj.mp (q0.trans (by decide))
    by_cases a1 : p1.toInt < 1
    · exact lf_extend_17 xs p1 p2 a1
    by_cases b1 : 4 < p1.toInt
    · exact lf_extend_18 xs p1 p2 b1
    replace a1 : 1 ≤ p1.toInt := by omega
    replace b1 : p1.toInt ≤ 4 := by omega
    by_cases a2 : p2.toInt < 1
    · exact lf_extend_19 xs p1 p2 a1 b1 a2
    by_cases b2 : 65519 < p2.toInt
    · exact lf_extend_20 xs p1 p2 a1 b1 b2
    replace a2 : 1 ≤ p2.toInt := by omega
    replace b2 : p2.toInt ≤ 65519 := by omega
    exact lf_extend_21 xs p1 p2 a1 b1 a2 b2

