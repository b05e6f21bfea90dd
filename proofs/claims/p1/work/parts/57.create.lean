set_option maxRecDepth 100000 in
theorem lf_create_0 (xs : Nat → Int32) (p0 : Int32) (p1 : Int32) (p2 : Int32) (a0 : p0.toInt < 0) : op_ok xs 161 140 [.ref 0, .int p0, .int p1, .int p2, .ref 189] [.ref 165, .int p0, .int p1, .int p2] := by
  refine ⟨1, 0, ?_⟩
  apply Exists.intro
  apply Exists.intro
  apply And.intro
  · refine xe_sn pg_161 4 (fr' := (5, [(0, .ref 0), (1, .int p0), (2, .int p1), (3, .int p2), (4, .ref 189)], [.int p0, .ref 0, .int 0, .ref 189])) rfl ?_
    refine xe_sn pg_161 2 (fr' := (7, [(0, .ref 0), (1, .int p0), (2, .int p1), (3, .int p2), (4, .ref 189)], [.int p2, .int p1, .int p0, .ref 0, .int 0, .ref 189])) rfl ?_
    apply xe_callq pg_161 74 [.ref 0, .int p0, .int p1, .int p2] (.inr 0) (17, [(0, .ref 0), (1, .int p0), (2, .int p1), (3, .int p2), (4, .ref 189)], []) rfl (fun _ => rfl)
    · refine xe_sn pg_74 1 (fr' := (1, [(0, .ref 0), (1, .int p0), (2, .int p1), (3, .int p2)], [.int p0])) rfl ?_
      apply xe_callqx pg_74 92 [.int p0] 0 rfl (fun _ => rfl)
      · refine xe_sn pg_92 2 (fr' := (2, [(0, .int p0)], [.int 4, .int p0])) rfl ?_
        apply xe_callqx pg_92 95 [.int p0, .int 4] 0 rfl (fun _ => rfl)
        · refine xe_sn pg_95 1 (fr' := (1, [(0, .int p0), (1, .int 4)], [.int p0])) rfl ?_
          refine xe_t1 pg_95 9 rfl rfl (by show (p0).toInt < 0; omega) ?_
          exact xe_end pg_95 rfl
    refine xe_sn pg_161 1 (fr' := (18, [(0, .ref 0), (1, .int p0), (2, .int p1), (3, .int p2), (4, .ref 189)], [.int 1])) rfl ?_
    exact xe_end pg_161 rfl
  refine And.intro ⟨rfl, rfl, rfl, rfl⟩ ?_
  apply And.intro
  · refine xe_sn pg_140 2 (fr' := (2, [(0, .ref 165), (1, .int p0), (2, .int p1), (3, .int p2)], [.int p0, .ref 165])) rfl ?_
    apply xe_callq pg_140 104 [.int p0] (.inl (some (.int 0))) (5, [(0, .ref 165), (1, .int p0), (2, .int p1), (3, .int p2)], [.int 0, .ref 165]) rfl (fun _ => rfl)
    · refine xe_sn pg_104 3 (fr' := (3, [(0, .int p0)], [.int 3, .int 0, .int p0])) rfl ?_
      apply xe_callq pg_104 103 [.int p0, .int 0, .int 3] (.inl (some (.int 0))) (6, [(0, .int p0)], [.int 0]) rfl (fun _ => rfl)
      · refine xe_sn pg_103 2 (fr' := (2, [(0, .int p0), (1, .int 0), (2, .int 3)], [.int 0, .int p0])) rfl ?_
        refine xe_t2 pg_103 14 rfl rfl (by show (p0).toInt < 0; omega) ?_
        refine xe_sn pg_103 1 (fr' := (15, [(0, .int p0), (1, .int 0), (2, .int 3)], [.int 0])) rfl ?_
        exact xe_end pg_103 rfl
      exact xe_end pg_104 rfl
    refine xe_sn pg_140 4 (fr' := (49, [(0, .ref 165), (1, .int p0), (2, .int p1), (3, .int p2)], [])) rfl ?_
    refine xe_sn pg_140 4 (fr' := (57, [(0, .ref 165), (1, .int p0), (2, .int p1), (3, .int p2)], [.int 0])) rfl ?_
    exact xe_end pg_140 rfl
  · exact ⟨⟨rfl, rfl, rfl, rfl⟩, Nat.le_of_ble_eq_true rfl, Nat.le_of_ble_eq_true rfl, rfl, fun q => absurd q (by decide)⟩

set_option maxRecDepth 100000 in
theorem lf_create_1 (xs : Nat → Int32) (p0 : Int32) (p1 : Int32) (p2 : Int32) (b0 : 3 < p0.toInt) : op_ok xs 161 140 [.ref 0, .int p0, .int p1, .int p2, .ref 189] [.ref 165, .int p0, .int p1, .int p2] := by
  refine ⟨1, 0, ?_⟩
  apply Exists.intro
  apply Exists.intro
  apply And.intro
  · refine xe_sn pg_161 4 (fr' := (5, [(0, .ref 0), (1, .int p0), (2, .int p1), (3, .int p2), (4, .ref 189)], [.int p0, .ref 0, .int 0, .ref 189])) rfl ?_
    refine xe_sn pg_161 2 (fr' := (7, [(0, .ref 0), (1, .int p0), (2, .int p1), (3, .int p2), (4, .ref 189)], [.int p2, .int p1, .int p0, .ref 0, .int 0, .ref 189])) rfl ?_
    apply xe_callq pg_161 74 [.ref 0, .int p0, .int p1, .int p2] (.inr 0) (17, [(0, .ref 0), (1, .int p0), (2, .int p1), (3, .int p2), (4, .ref 189)], []) rfl (fun _ => rfl)
    · refine xe_sn pg_74 1 (fr' := (1, [(0, .ref 0), (1, .int p0), (2, .int p1), (3, .int p2)], [.int p0])) rfl ?_
      apply xe_callqx pg_74 92 [.int p0] 0 rfl (fun _ => rfl)
      · refine xe_sn pg_92 2 (fr' := (2, [(0, .int p0)], [.int 4, .int p0])) rfl ?_
        apply xe_callqx pg_92 95 [.int p0, .int 4] 0 rfl (fun _ => rfl)
        · refine xe_sn pg_95 1 (fr' := (1, [(0, .int p0), (1, .int 4)], [.int p0])) rfl ?_
          refine xe_f1 pg_95 9 rfl rfl (by show ¬ ((p0).toInt < 0); omega) ?_
          refine xe_sn pg_95 2 (fr' := (6, [(0, .int p0), (1, .int 4)], [.int 4, .int p0])) rfl ?_
          refine xe_f2 pg_95 17 rfl rfl (by show ¬ ((p0).toInt < 4); omega) ?_
          exact xe_end pg_95 rfl
    refine xe_sn pg_161 1 (fr' := (18, [(0, .ref 0), (1, .int p0), (2, .int p1), (3, .int p2), (4, .ref 189)], [.int 1])) rfl ?_
    exact xe_end pg_161 rfl
  refine And.intro ⟨rfl, rfl, rfl, rfl⟩ ?_
  apply And.intro
  · refine xe_sn pg_140 2 (fr' := (2, [(0, .ref 165), (1, .int p0), (2, .int p1), (3, .int p2)], [.int p0, .ref 165])) rfl ?_
    apply xe_callq pg_140 104 [.int p0] (.inl (some (.int 0))) (5, [(0, .ref 165), (1, .int p0), (2, .int p1), (3, .int p2)], [.int 0, .ref 165]) rfl (fun _ => rfl)
    · refine xe_sn pg_104 3 (fr' := (3, [(0, .int p0)], [.int 3, .int 0, .int p0])) rfl ?_
      apply xe_callq pg_104 103 [.int p0, .int 0, .int 3] (.inl (some (.int 0))) (6, [(0, .int p0)], [.int 0]) rfl (fun _ => rfl)
      · refine xe_sn pg_103 2 (fr' := (2, [(0, .int p0), (1, .int 0), (2, .int 3)], [.int 0, .int p0])) rfl ?_
        refine xe_f2 pg_103 14 rfl rfl (by show ¬ ((p0).toInt < 0); omega) ?_
        refine xe_sn pg_103 2 (fr' := (7, [(0, .int p0), (1, .int 0), (2, .int 3)], [.int 3, .int p0])) rfl ?_
        refine xe_t2 pg_103 14 rfl rfl (by show 3 < (p0).toInt; omega) ?_
        refine xe_sn pg_103 1 (fr' := (15, [(0, .int p0), (1, .int 0), (2, .int 3)], [.int 0])) rfl ?_
        exact xe_end pg_103 rfl
      exact xe_end pg_104 rfl
    refine xe_sn pg_140 4 (fr' := (49, [(0, .ref 165), (1, .int p0), (2, .int p1), (3, .int p2)], [])) rfl ?_
    refine xe_sn pg_140 4 (fr' := (57, [(0, .ref 165), (1, .int p0), (2, .int p1), (3, .int p2)], [.int 0])) rfl ?_
    exact xe_end pg_140 rfl
  · exact ⟨⟨rfl, rfl, rfl, rfl⟩, Nat.le_of_ble_eq_true rfl, Nat.le_of_ble_eq_true rfl, rfl, fun q => absurd q (by decide)⟩

set_option maxRecDepth 100000 in
theorem lf_create_2 (xs : Nat → Int32) (p1 : Int32) (p2 : Int32) (a1 : p1.toInt < 1) : op_ok xs 161 140 [.ref 0, .int 0, .int p1, .int p2, .ref 189] [.ref 165, .int 0, .int p1, .int p2] := by
  refine ⟨1, 0, ?_⟩
  apply Exists.intro
  apply Exists.intro
  apply And.intro
  · refine xe_sn pg_161 4 (fr' := (5, [(0, .ref 0), (1, .int 0), (2, .int p1), (3, .int p2), (4, .ref 189)], [.int 0, .ref 0, .int 0, .ref 189])) rfl ?_
    refine xe_sn pg_161 2 (fr' := (7, [(0, .ref 0), (1, .int 0), (2, .int p1), (3, .int p2), (4, .ref 189)], [.int p2, .int p1, .int 0, .ref 0, .int 0, .ref 189])) rfl ?_
    apply xe_callq pg_161 74 [.ref 0, .int 0, .int p1, .int p2] (.inr 0) (17, [(0, .ref 0), (1, .int 0), (2, .int p1), (3, .int p2), (4, .ref 189)], []) rfl (fun _ => rfl)
    · refine xe_sn pg_74 1 (fr' := (1, [(0, .ref 0), (1, .int 0), (2, .int p1), (3, .int p2)], [.int 0])) rfl ?_
      apply xe_callq pg_74 92 [.int 0] (.inl none) (4, [(0, .ref 0), (1, .int 0), (2, .int p1), (3, .int p2)], []) rfl (fun _ => rfl)
      · refine xe_sn pg_92 2 (fr' := (2, [(0, .int 0)], [.int 4, .int 0])) rfl ?_
        apply xe_callq pg_92 95 [.int 0, .int 4] (.inl none) (5, [(0, .int 0)], []) rfl (fun _ => rfl)
        · refine xe_sn pg_95 4 (fr' := (6, [(0, .int 0), (1, .int 4)], [.int 4, .int 0])) rfl ?_
          refine xe_sn pg_95 1 (fr' := (17, [(0, .int 0), (1, .int 4)], [])) rfl ?_
          exact xe_end pg_95 rfl
        exact xe_end pg_92 rfl
      refine xe_sn pg_74 1 (fr' := (5, [(0, .ref 0), (1, .int 0), (2, .int p1), (3, .int p2)], [.int p1])) rfl ?_
      apply xe_callqx pg_74 93 [.int p1] 0 rfl (fun _ => rfl)
      · refine xe_sn pg_93 2 (fr' := (2, [(0, .int p1)], [.int 1, .int p1])) rfl ?_
        refine xe_t2 pg_93 10 rfl rfl (by show (p1).toInt < 1; omega) ?_
        exact xe_end pg_93 rfl
    refine xe_sn pg_161 1 (fr' := (18, [(0, .ref 0), (1, .int 0), (2, .int p1), (3, .int p2), (4, .ref 189)], [.int 1])) rfl ?_
    exact xe_end pg_161 rfl
  refine And.intro ⟨rfl, rfl, rfl, rfl⟩ ?_
  apply And.intro
  · refine xe_sn pg_140 2 (fr' := (2, [(0, .ref 165), (1, .int 0), (2, .int p1), (3, .int p2)], [.int 0, .ref 165])) rfl ?_
    apply xe_callq pg_140 104 [.int 0] (.inl (some (.int 1))) (5, [(0, .ref 165), (1, .int 0), (2, .int p1), (3, .int p2)], [.int 1, .ref 165]) rfl (fun _ => rfl)
    · refine xe_sn pg_104 3 (fr' := (3, [(0, .int 0)], [.int 3, .int 0, .int 0])) rfl ?_
      apply xe_callq pg_104 103 [.int 0, .int 0, .int 3] (.inl (some (.int 1))) (6, [(0, .int 0)], [.int 1]) rfl (fun _ => rfl)
      · refine xe_sn pg_103 4 (fr' := (6, [(0, .int 0), (1, .int 0), (2, .int 3)], [.int 0])) rfl ?_
        refine xe_sn pg_103 4 (fr' := (15, [(0, .int 0), (1, .int 0), (2, .int 3)], [.int 1])) rfl ?_
        exact xe_end pg_103 rfl
      exact xe_end pg_104 rfl
    refine xe_sn pg_140 2 (fr' := (9, [(0, .ref 165), (1, .int 0), (2, .int p1), (3, .int p2)], [.int p1, .ref 165])) rfl ?_
    apply xe_callq pg_140 105 [.int p1] (.inl (some (.int 0))) (12, [(0, .ref 165), (1, .int 0), (2, .int p1), (3, .int p2)], [.int 0, .ref 165]) rfl (fun _ => rfl)
    · refine xe_sn pg_105 3 (fr' := (3, [(0, .int p1)], [.int 4, .int 1, .int p1])) rfl ?_
      apply xe_callq pg_105 103 [.int p1, .int 1, .int 4] (.inl (some (.int 0))) (6, [(0, .int p1)], [.int 0]) rfl (fun _ => rfl)
      · refine xe_sn pg_103 2 (fr' := (2, [(0, .int p1), (1, .int 1), (2, .int 4)], [.int 1, .int p1])) rfl ?_
        refine xe_t2 pg_103 14 rfl rfl (by show (p1).toInt < 1; omega) ?_
        refine xe_sn pg_103 1 (fr' := (15, [(0, .int p1), (1, .int 1), (2, .int 4)], [.int 0])) rfl ?_
        exact xe_end pg_103 rfl
      exact xe_end pg_105 rfl
    refine xe_sn pg_140 4 (fr' := (49, [(0, .ref 165), (1, .int 0), (2, .int p1), (3, .int p2)], [])) rfl ?_
    refine xe_sn pg_140 4 (fr' := (57, [(0, .ref 165), (1, .int 0), (2, .int p1), (3, .int p2)], [.int 0])) rfl ?_
    exact xe_end pg_140 rfl
  · exact ⟨⟨rfl, rfl, rfl, rfl⟩, Nat.le_of_ble_eq_true rfl, Nat.le_of_ble_eq_true rfl, rfl, fun q => absurd q (by decide)⟩

set_option maxRecDepth 100000 in
theorem lf_create_3 (xs : Nat → Int32) (p1 : Int32) (p2 : Int32) (b1 : 4 < p1.toInt) : op_ok xs 161 140 [.ref 0, .int 0, .int p1, .int p2, .ref 189] [.ref 165, .int 0, .int p1, .int p2] := by
  refine ⟨1, 0, ?_⟩
  apply Exists.intro
  apply Exists.intro
  apply And.intro
  · refine xe_sn pg_161 4 (fr' := (5, [(0, .ref 0), (1, .int 0), (2, .int p1), (3, .int p2), (4, .ref 189)], [.int 0, .ref 0, .int 0, .ref 189])) rfl ?_
    refine xe_sn pg_161 2 (fr' := (7, [(0, .ref 0), (1, .int 0), (2, .int p1), (3, .int p2), (4, .ref 189)], [.int p2, .int p1, .int 0, .ref 0, .int 0, .ref 189])) rfl ?_
    apply xe_callq pg_161 74 [.ref 0, .int 0, .int p1, .int p2] (.inr 0) (17, [(0, .ref 0), (1, .int 0), (2, .int p1), (3, .int p2), (4, .ref 189)], []) rfl (fun _ => rfl)
    · refine xe_sn pg_74 1 (fr' := (1, [(0, .ref 0), (1, .int 0), (2, .int p1), (3, .int p2)], [.int 0])) rfl ?_
      apply xe_callq pg_74 92 [.int 0] (.inl none) (4, [(0, .ref 0), (1, .int 0), (2, .int p1), (3, .int p2)], []) rfl (fun _ => rfl)
      · refine xe_sn pg_92 2 (fr' := (2, [(0, .int 0)], [.int 4, .int 0])) rfl ?_
        apply xe_callq pg_92 95 [.int 0, .int 4] (.inl none) (5, [(0, .int 0)], []) rfl (fun _ => rfl)
        · refine xe_sn pg_95 4 (fr' := (6, [(0, .int 0), (1, .int 4)], [.int 4, .int 0])) rfl ?_
          refine xe_sn pg_95 1 (fr' := (17, [(0, .int 0), (1, .int 4)], [])) rfl ?_
          exact xe_end pg_95 rfl
        exact xe_end pg_92 rfl
      refine xe_sn pg_74 1 (fr' := (5, [(0, .ref 0), (1, .int 0), (2, .int p1), (3, .int p2)], [.int p1])) rfl ?_
      apply xe_callqx pg_74 93 [.int p1] 0 rfl (fun _ => rfl)
      · refine xe_sn pg_93 2 (fr' := (2, [(0, .int p1)], [.int 1, .int p1])) rfl ?_
        refine xe_f2 pg_93 10 rfl rfl (by show ¬ ((p1).toInt < 1); omega) ?_
        refine xe_sn pg_93 2 (fr' := (7, [(0, .int p1)], [.int 4, .int p1])) rfl ?_
        refine xe_f2 pg_93 18 rfl rfl (by show ¬ ((p1).toInt ≤ 4); omega) ?_
        exact xe_end pg_93 rfl
    refine xe_sn pg_161 1 (fr' := (18, [(0, .ref 0), (1, .int 0), (2, .int p1), (3, .int p2), (4, .ref 189)], [.int 1])) rfl ?_
    exact xe_end pg_161 rfl
  refine And.intro ⟨rfl, rfl, rfl, rfl⟩ ?_
  apply And.intro
  · refine xe_sn pg_140 2 (fr' := (2, [(0, .ref 165), (1, .int 0), (2, .int p1), (3, .int p2)], [.int 0, .ref 165])) rfl ?_
    apply xe_callq pg_140 104 [.int 0] (.inl (some (.int 1))) (5, [(0, .ref 165), (1, .int 0), (2, .int p1), (3, .int p2)], [.int 1, .ref 165]) rfl (fun _ => rfl)
    · refine xe_sn pg_104 3 (fr' := (3, [(0, .int 0)], [.int 3, .int 0, .int 0])) rfl ?_
      apply xe_callq pg_104 103 [.int 0, .int 0, .int 3] (.inl (some (.int 1))) (6, [(0, .int 0)], [.int 1]) rfl (fun _ => rfl)
      · refine xe_sn pg_103 4 (fr' := (6, [(0, .int 0), (1, .int 0), (2, .int 3)], [.int 0])) rfl ?_
        refine xe_sn pg_103 4 (fr' := (15, [(0, .int 0), (1, .int 0), (2, .int 3)], [.int 1])) rfl ?_
        exact xe_end pg_103 rfl
      exact xe_end pg_104 rfl
    refine xe_sn pg_140 2 (fr' := (9, [(0, .ref 165), (1, .int 0), (2, .int p1), (3, .int p2)], [.int p1, .ref 165])) rfl ?_
    apply xe_callq pg_140 105 [.int p1] (.inl (some (.int 0))) (12, [(0, .ref 165), (1, .int 0), (2, .int p1), (3, .int p2)], [.int 0, .ref 165]) rfl (fun _ => rfl)
    · refine xe_sn pg_105 3 (fr' := (3, [(0, .int p1)], [.int 4, .int 1, .int p1])) rfl ?_
      apply xe_callq pg_105 103 [.int p1, .int 1, .int 4] (.inl (some (.int 0))) (6, [(0, .int p1)], [.int 0]) rfl (fun _ => rfl)
      · refine xe_sn pg_103 2 (fr' := (2, [(0, .int p1), (1, .int 1), (2, .int 4)], [.int 1, .int p1])) rfl ?_
        refine xe_f2 pg_103 14 rfl rfl (by show ¬ ((p1).toInt < 1); omega) ?_
        refine xe_sn pg_103 2 (fr' := (7, [(0, .int p1), (1, .int 1), (2, .int 4)], [.int 4, .int p1])) rfl ?_
        refine xe_t2 pg_103 14 rfl rfl (by show 4 < (p1).toInt; omega) ?_
        refine xe_sn pg_103 1 (fr' := (15, [(0, .int p1), (1, .int 1), (2, .int 4)], [.int 0])) rfl ?_
        exact xe_end pg_103 rfl
      exact xe_end pg_105 rfl
    refine xe_sn pg_140 4 (fr' := (49, [(0, .ref 165), (1, .int 0), (2, .int p1), (3, .int p2)], [])) rfl ?_
    refine xe_sn pg_140 4 (fr' := (57, [(0, .ref 165), (1, .int 0), (2, .int p1), (3, .int p2)], [.int 0])) rfl ?_
    exact xe_end pg_140 rfl
  · exact ⟨⟨rfl, rfl, rfl, rfl⟩, Nat.le_of_ble_eq_true rfl, Nat.le_of_ble_eq_true rfl, rfl, fun q => absurd q (by decide)⟩

set_option maxRecDepth 100000 in
theorem lf_create_4 (xs : Nat → Int32) (p1 : Int32) (p2 : Int32) (a1 : 1 ≤ p1.toInt) (b1 : p1.toInt ≤ 4) (a2 : p2.toInt < 1) : op_ok xs 161 140 [.ref 0, .int 0, .int p1, .int p2, .ref 189] [.ref 165, .int 0, .int p1, .int p2] := by
  refine ⟨2, 0, ?_⟩
  apply Exists.intro
  apply Exists.intro
  apply And.intro
  · refine xe_sn pg_161 4 (fr' := (5, [(0, .ref 0), (1, .int 0), (2, .int p1), (3, .int p2), (4, .ref 189)], [.int 0, .ref 0, .int 0, .ref 189])) rfl ?_
    refine xe_sn pg_161 2 (fr' := (7, [(0, .ref 0), (1, .int 0), (2, .int p1), (3, .int p2), (4, .ref 189)], [.int p2, .int p1, .int 0, .ref 0, .int 0, .ref 189])) rfl ?_
    apply xe_callq pg_161 74 [.ref 0, .int 0, .int p1, .int p2] (.inr 1) (21, [(0, .ref 0), (1, .int 0), (2, .int p1), (3, .int p2), (4, .ref 189)], []) rfl (fun _ => rfl)
    · refine xe_sn pg_74 1 (fr' := (1, [(0, .ref 0), (1, .int 0), (2, .int p1), (3, .int p2)], [.int 0])) rfl ?_
      apply xe_callq pg_74 92 [.int 0] (.inl none) (4, [(0, .ref 0), (1, .int 0), (2, .int p1), (3, .int p2)], []) rfl (fun _ => rfl)
      · refine xe_sn pg_92 2 (fr' := (2, [(0, .int 0)], [.int 4, .int 0])) rfl ?_
        apply xe_callq pg_92 95 [.int 0, .int 4] (.inl none) (5, [(0, .int 0)], []) rfl (fun _ => rfl)
        · refine xe_sn pg_95 4 (fr' := (6, [(0, .int 0), (1, .int 4)], [.int 4, .int 0])) rfl ?_
          refine xe_sn pg_95 1 (fr' := (17, [(0, .int 0), (1, .int 4)], [])) rfl ?_
          exact xe_end pg_95 rfl
        exact xe_end pg_92 rfl
      refine xe_sn pg_74 1 (fr' := (5, [(0, .ref 0), (1, .int 0), (2, .int p1), (3, .int p2)], [.int p1])) rfl ?_
      apply xe_callq pg_74 93 [.int p1] (.inl none) (8, [(0, .ref 0), (1, .int 0), (2, .int p1), (3, .int p2)], []) rfl (fun _ => rfl)
      · refine xe_sn pg_93 2 (fr' := (2, [(0, .int p1)], [.int 1, .int p1])) rfl ?_
        refine xe_f2 pg_93 10 rfl rfl (by show ¬ ((p1).toInt < 1); omega) ?_
        refine xe_sn pg_93 2 (fr' := (7, [(0, .int p1)], [.int 4, .int p1])) rfl ?_
        refine xe_t2 pg_93 18 rfl rfl (by show (p1).toInt ≤ 4; omega) ?_
        exact xe_end pg_93 rfl
      refine xe_sn pg_74 1 (fr' := (9, [(0, .ref 0), (1, .int 0), (2, .int p1), (3, .int p2)], [.int p2])) rfl ?_
      apply xe_callqx pg_74 96 [.int p2] 1 rfl (fun _ => rfl)
      · refine xe_sn pg_96 2 (fr' := (2, [(0, .int p2)], [.int 1, .int p2])) rfl ?_
        refine xe_t2 pg_96 15 rfl rfl (by show (p2).toInt < 1; omega) ?_
        refine xe_sn pg_96 1 (fr' := (16, [(0, .int p2)], [.int 0])) rfl ?_
        apply xe_callqx pg_96 97 [.int 0] 1 rfl (fun _ => rfl)
        · refine xe_sn pg_97 2 (fr' := (4, [(0, .int 0)], [])) rfl ?_
          exact xe_end pg_97 rfl
    refine xe_sn pg_161 1 (fr' := (22, [(0, .ref 0), (1, .int 0), (2, .int p1), (3, .int p2), (4, .ref 189)], [.int 2])) rfl ?_
    exact xe_end pg_161 rfl
  refine And.intro ⟨rfl, rfl, rfl, rfl⟩ ?_
  apply And.intro
  · refine xe_sn pg_140 2 (fr' := (2, [(0, .ref 165), (1, .int 0), (2, .int p1), (3, .int p2)], [.int 0, .ref 165])) rfl ?_
    apply xe_callq pg_140 104 [.int 0] (.inl (some (.int 1))) (5, [(0, .ref 165), (1, .int 0), (2, .int p1), (3, .int p2)], [.int 1, .ref 165]) rfl (fun _ => rfl)
    · refine xe_sn pg_104 3 (fr' := (3, [(0, .int 0)], [.int 3, .int 0, .int 0])) rfl ?_
      apply xe_callq pg_104 103 [.int 0, .int 0, .int 3] (.inl (some (.int 1))) (6, [(0, .int 0)], [.int 1]) rfl (fun _ => rfl)
      · refine xe_sn pg_103 4 (fr' := (6, [(0, .int 0), (1, .int 0), (2, .int 3)], [.int 0])) rfl ?_
        refine xe_sn pg_103 4 (fr' := (15, [(0, .int 0), (1, .int 0), (2, .int 3)], [.int 1])) rfl ?_
        exact xe_end pg_103 rfl
      exact xe_end pg_104 rfl
    refine xe_sn pg_140 2 (fr' := (9, [(0, .ref 165), (1, .int 0), (2, .int p1), (3, .int p2)], [.int p1, .ref 165])) rfl ?_
    apply xe_callq pg_140 105 [.int p1] (.inl (some (.int 1))) (12, [(0, .ref 165), (1, .int 0), (2, .int p1), (3, .int p2)], [.int 1, .ref 165]) rfl (fun _ => rfl)
    · refine xe_sn pg_105 3 (fr' := (3, [(0, .int p1)], [.int 4, .int 1, .int p1])) rfl ?_
      apply xe_callq pg_105 103 [.int p1, .int 1, .int 4] (.inl (some (.int 1))) (6, [(0, .int p1)], [.int 1]) rfl (fun _ => rfl)
      · refine xe_sn pg_103 2 (fr' := (2, [(0, .int p1), (1, .int 1), (2, .int 4)], [.int 1, .int p1])) rfl ?_
        refine xe_f2 pg_103 14 rfl rfl (by show ¬ ((p1).toInt < 1); omega) ?_
        refine xe_sn pg_103 2 (fr' := (7, [(0, .int p1), (1, .int 1), (2, .int 4)], [.int 4, .int p1])) rfl ?_
        refine xe_f2 pg_103 14 rfl rfl (by show ¬ (4 < (p1).toInt); omega) ?_
        refine xe_sn pg_103 2 (fr' := (15, [(0, .int p1), (1, .int 1), (2, .int 4)], [.int 1])) rfl ?_
        exact xe_end pg_103 rfl
      exact xe_end pg_105 rfl
    refine xe_sn pg_140 4 (fr' := (23, [(0, .ref 165), (1, .int 0), (2, .int p1), (3, .int p2)], [.int 65519, .int 1, .int p2, .ref 165])) rfl ?_
    apply xe_callq pg_140 103 [.int p2, .int 1, .int 65519] (.inl (some (.int 0))) (26, [(0, .ref 165), (1, .int 0), (2, .int p1), (3, .int p2)], [.int 0, .ref 165]) rfl (fun _ => rfl)
    · refine xe_sn pg_103 2 (fr' := (2, [(0, .int p2), (1, .int 1), (2, .int 65519)], [.int 1, .int p2])) rfl ?_
      refine xe_t2 pg_103 14 rfl rfl (by show (p2).toInt < 1; omega) ?_
      refine xe_sn pg_103 1 (fr' := (15, [(0, .int p2), (1, .int 1), (2, .int 65519)], [.int 0])) rfl ?_
      exact xe_end pg_103 rfl
    refine xe_sn pg_140 4 (fr' := (49, [(0, .ref 165), (1, .int 0), (2, .int p1), (3, .int p2)], [])) rfl ?_
    refine xe_sn pg_140 4 (fr' := (57, [(0, .ref 165), (1, .int 0), (2, .int p1), (3, .int p2)], [.int 0])) rfl ?_
    exact xe_end pg_140 rfl
  · exact ⟨⟨rfl, rfl, rfl, rfl⟩, Nat.le_of_ble_eq_true rfl, Nat.le_of_ble_eq_true rfl, rfl, fun q => absurd q (by decide)⟩

set_option maxRecDepth 100000 in
theorem lf_create_5 (xs : Nat → Int32) (p1 : Int32) (p2 : Int32) (a1 : 1 ≤ p1.toInt) (b1 : p1.toInt ≤ 4) (b2 : 65519 < p2.toInt) : op_ok xs 161 140 [.ref 0, .int 0, .int p1, .int p2, .ref 189] [.ref 165, .int 0, .int p1, .int p2] := by
  refine ⟨2, 0, ?_⟩
  apply Exists.intro
  apply Exists.intro
  apply And.intro
  · refine xe_sn pg_161 4 (fr' := (5, [(0, .ref 0), (1, .int 0), (2, .int p1), (3, .int p2), (4, .ref 189)], [.int 0, .ref 0, .int 0, .ref 189])) rfl ?_
    refine xe_sn pg_161 2 (fr' := (7, [(0, .ref 0), (1, .int 0), (2, .int p1), (3, .int p2), (4, .ref 189)], [.int p2, .int p1, .int 0, .ref 0, .int 0, .ref 189])) rfl ?_
    apply xe_callq pg_161 74 [.ref 0, .int 0, .int p1, .int p2] (.inr 1) (21, [(0, .ref 0), (1, .int 0), (2, .int p1), (3, .int p2), (4, .ref 189)], []) rfl (fun _ => rfl)
    · refine xe_sn pg_74 1 (fr' := (1, [(0, .ref 0), (1, .int 0), (2, .int p1), (3, .int p2)], [.int 0])) rfl ?_
      apply xe_callq pg_74 92 [.int 0] (.inl none) (4, [(0, .ref 0), (1, .int 0), (2, .int p1), (3, .int p2)], []) rfl (fun _ => rfl)
      · refine xe_sn pg_92 2 (fr' := (2, [(0, .int 0)], [.int 4, .int 0])) rfl ?_
        apply xe_callq pg_92 95 [.int 0, .int 4] (.inl none) (5, [(0, .int 0)], []) rfl (fun _ => rfl)
        · refine xe_sn pg_95 4 (fr' := (6, [(0, .int 0), (1, .int 4)], [.int 4, .int 0])) rfl ?_
          refine xe_sn pg_95 1 (fr' := (17, [(0, .int 0), (1, .int 4)], [])) rfl ?_
          exact xe_end pg_95 rfl
        exact xe_end pg_92 rfl
      refine xe_sn pg_74 1 (fr' := (5, [(0, .ref 0), (1, .int 0), (2, .int p1), (3, .int p2)], [.int p1])) rfl ?_
      apply xe_callq pg_74 93 [.int p1] (.inl none) (8, [(0, .ref 0), (1, .int 0), (2, .int p1), (3, .int p2)], []) rfl (fun _ => rfl)
      · refine xe_sn pg_93 2 (fr' := (2, [(0, .int p1)], [.int 1, .int p1])) rfl ?_
        refine xe_f2 pg_93 10 rfl rfl (by show ¬ ((p1).toInt < 1); omega) ?_
        refine xe_sn pg_93 2 (fr' := (7, [(0, .int p1)], [.int 4, .int p1])) rfl ?_
        refine xe_t2 pg_93 18 rfl rfl (by show (p1).toInt ≤ 4; omega) ?_
        exact xe_end pg_93 rfl
      refine xe_sn pg_74 1 (fr' := (9, [(0, .ref 0), (1, .int 0), (2, .int p1), (3, .int p2)], [.int p2])) rfl ?_
      apply xe_callqx pg_74 96 [.int p2] 1 rfl (fun _ => rfl)
      · refine xe_sn pg_96 2 (fr' := (2, [(0, .int p2)], [.int 1, .int p2])) rfl ?_
        refine xe_f2 pg_96 15 rfl rfl (by show ¬ ((p2).toInt < 1); omega) ?_
        refine xe_sn pg_96 2 (fr' := (8, [(0, .int p2)], [.int 65519, .int p2])) rfl ?_
        refine xe_t2 pg_96 15 rfl rfl (by show 65519 < (p2).toInt; omega) ?_
        refine xe_sn pg_96 1 (fr' := (16, [(0, .int p2)], [.int 0])) rfl ?_
        apply xe_callqx pg_96 97 [.int 0] 1 rfl (fun _ => rfl)
        · refine xe_sn pg_97 2 (fr' := (4, [(0, .int 0)], [])) rfl ?_
          exact xe_end pg_97 rfl
    refine xe_sn pg_161 1 (fr' := (22, [(0, .ref 0), (1, .int 0), (2, .int p1), (3, .int p2), (4, .ref 189)], [.int 2])) rfl ?_
    exact xe_end pg_161 rfl
  refine And.intro ⟨rfl, rfl, rfl, rfl⟩ ?_
  apply And.intro
  · refine xe_sn pg_140 2 (fr' := (2, [(0, .ref 165), (1, .int 0), (2, .int p1), (3, .int p2)], [.int 0, .ref 165])) rfl ?_
    apply xe_callq pg_140 104 [.int 0] (.inl (some (.int 1))) (5, [(0, .ref 165), (1, .int 0), (2, .int p1), (3, .int p2)], [.int 1, .ref 165]) rfl (fun _ => rfl)
    · refine xe_sn pg_104 3 (fr' := (3, [(0, .int 0)], [.int 3, .int 0, .int 0])) rfl ?_
      apply xe_callq pg_104 103 [.int 0, .int 0, .int 3] (.inl (some (.int 1))) (6, [(0, .int 0)], [.int 1]) rfl (fun _ => rfl)
      · refine xe_sn pg_103 4 (fr' := (6, [(0, .int 0), (1, .int 0), (2, .int 3)], [.int 0])) rfl ?_
        refine xe_sn pg_103 4 (fr' := (15, [(0, .int 0), (1, .int 0), (2, .int 3)], [.int 1])) rfl ?_
        exact xe_end pg_103 rfl
      exact xe_end pg_104 rfl
    refine xe_sn pg_140 2 (fr' := (9, [(0, .ref 165), (1, .int 0), (2, .int p1), (3, .int p2)], [.int p1, .ref 165])) rfl ?_
    apply xe_callq pg_140 105 [.int p1] (.inl (some (.int 1))) (12, [(0, .ref 165), (1, .int 0), (2, .int p1), (3, .int p2)], [.int 1, .ref 165]) rfl (fun _ => rfl)
    · refine xe_sn pg_105 3 (fr' := (3, [(0, .int p1)], [.int 4, .int 1, .int p1])) rfl ?_
      apply xe_callq pg_105 103 [.int p1, .int 1, .int 4] (.inl (some (.int 1))) (6, [(0, .int p1)], [.int 1]) rfl (fun _ => rfl)
      · refine xe_sn pg_103 2 (fr' := (2, [(0, .int p1), (1, .int 1), (2, .int 4)], [.int 1, .int p1])) rfl ?_
        refine xe_f2 pg_103 14 rfl rfl (by show ¬ ((p1).toInt < 1); omega) ?_
        refine xe_sn pg_103 2 (fr' := (7, [(0, .int p1), (1, .int 1), (2, .int 4)], [.int 4, .int p1])) rfl ?_
        refine xe_f2 pg_103 14 rfl rfl (by show ¬ (4 < (p1).toInt); omega) ?_
        refine xe_sn pg_103 2 (fr' := (15, [(0, .int p1), (1, .int 1), (2, .int 4)], [.int 1])) rfl ?_
        exact xe_end pg_103 rfl
      exact xe_end pg_105 rfl
    refine xe_sn pg_140 4 (fr' := (23, [(0, .ref 165), (1, .int 0), (2, .int p1), (3, .int p2)], [.int 65519, .int 1, .int p2, .ref 165])) rfl ?_
    apply xe_callq pg_140 103 [.int p2, .int 1, .int 65519] (.inl (some (.int 0))) (26, [(0, .ref 165), (1, .int 0), (2, .int p1), (3, .int p2)], [.int 0, .ref 165]) rfl (fun _ => rfl)
    · refine xe_sn pg_103 2 (fr' := (2, [(0, .int p2), (1, .int 1), (2, .int 65519)], [.int 1, .int p2])) rfl ?_
      refine xe_f2 pg_103 14 rfl rfl (by show ¬ ((p2).toInt < 1); omega) ?_
      refine xe_sn pg_103 2 (fr' := (7, [(0, .int p2), (1, .int 1), (2, .int 65519)], [.int 65519, .int p2])) rfl ?_
      refine xe_t2 pg_103 14 rfl rfl (by show 65519 < (p2).toInt; omega) ?_
      refine xe_sn pg_103 1 (fr' := (15, [(0, .int p2), (1, .int 1), (2, .int 65519)], [.int 0])) rfl ?_
      exact xe_end pg_103 rfl
    refine xe_sn pg_140 4 (fr' := (49, [(0, .ref 165), (1, .int 0), (2, .int p1), (3, .int p2)], [])) rfl ?_
    refine xe_sn pg_140 4 (fr' := (57, [(0, .ref 165), (1, .int 0), (2, .int p1), (3, .int p2)], [.int 0])) rfl ?_
    exact xe_end pg_140 rfl
  · exact ⟨⟨rfl, rfl, rfl, rfl⟩, Nat.le_of_ble_eq_true rfl, Nat.le_of_ble_eq_true rfl, rfl, fun q => absurd q (by decide)⟩

set_option maxRecDepth 100000 in
theorem lf_create_6 (xs : Nat → Int32) (p1 : Int32) (e2 : Nat) (a1 : 1 ≤ p1.toInt) (b1 : p1.toInt ≤ 4) (c2 : 1 ≤ e2) (d2 : e2 ≤ 65519) : op_ok xs 161 140 [.ref 0, .int 0, .int p1, .int (nI e2), .ref 189] [.ref 165, .int 0, .int p1, .int (nI e2)] := by
  refine ⟨0, 1, ?_⟩
  apply Exists.intro
  apply Exists.intro
  apply And.intro
  · refine xe_sn pg_161 4 (fr' := (5, [(0, .ref 0), (1, .int 0), (2, .int p1), (3, .int (nI e2)), (4, .ref 189)], [.int 0, .ref 0, .int 0, .ref 189])) rfl ?_
    refine xe_sn pg_161 2 (fr' := (7, [(0, .ref 0), (1, .int 0), (2, .int p1), (3, .int (nI e2)), (4, .ref 189)], [.int (nI e2), .int p1, .int 0, .ref 0, .int 0, .ref 189])) rfl ?_
    apply xe_callq pg_161 74 [.ref 0, .int 0, .int p1, .int (nI e2)] (.inl (some (.int 1))) (10, [(0, .ref 0), (1, .int 0), (2, .int p1), (3, .int (nI e2)), (4, .ref 189)], [.int 1, .int 0, .ref 189]) rfl (fun _ => rfl)
    · refine xe_sn pg_74 1 (fr' := (1, [(0, .ref 0), (1, .int 0), (2, .int p1), (3, .int (nI e2))], [.int 0])) rfl ?_
      apply xe_callq pg_74 92 [.int 0] (.inl none) (4, [(0, .ref 0), (1, .int 0), (2, .int p1), (3, .int (nI e2))], []) rfl (fun _ => rfl)
      · refine xe_sn pg_92 2 (fr' := (2, [(0, .int 0)], [.int 4, .int 0])) rfl ?_
        apply xe_callq pg_92 95 [.int 0, .int 4] (.inl none) (5, [(0, .int 0)], []) rfl (fun _ => rfl)
        · refine xe_sn pg_95 4 (fr' := (6, [(0, .int 0), (1, .int 4)], [.int 4, .int 0])) rfl ?_
          refine xe_sn pg_95 1 (fr' := (17, [(0, .int 0), (1, .int 4)], [])) rfl ?_
          exact xe_end pg_95 rfl
        exact xe_end pg_92 rfl
      refine xe_sn pg_74 1 (fr' := (5, [(0, .ref 0), (1, .int 0), (2, .int p1), (3, .int (nI e2))], [.int p1])) rfl ?_
      apply xe_callq pg_74 93 [.int p1] (.inl none) (8, [(0, .ref 0), (1, .int 0), (2, .int p1), (3, .int (nI e2))], []) rfl (fun _ => rfl)
      · refine xe_sn pg_93 2 (fr' := (2, [(0, .int p1)], [.int 1, .int p1])) rfl ?_
        refine xe_f2 pg_93 10 rfl rfl (by show ¬ ((p1).toInt < 1); omega) ?_
        refine xe_sn pg_93 2 (fr' := (7, [(0, .int p1)], [.int 4, .int p1])) rfl ?_
        refine xe_t2 pg_93 18 rfl rfl (by show (p1).toInt ≤ 4; omega) ?_
        exact xe_end pg_93 rfl
      refine xe_sn pg_74 1 (fr' := (9, [(0, .ref 0), (1, .int 0), (2, .int p1), (3, .int (nI e2))], [.int (nI e2)])) rfl ?_
      apply xe_callq pg_74 96 [.int (nI e2)] (.inl none) (12, [(0, .ref 0), (1, .int 0), (2, .int p1), (3, .int (nI e2))], []) rfl (fun _ => rfl)
      · refine xe_sn pg_96 2 (fr' := (2, [(0, .int (nI e2))], [.int 1, .int (nI e2)])) rfl ?_
        refine xe_f2 pg_96 15 rfl rfl (by show ¬ (((nI e2)).toInt < 1); rw [nI_toInt (n := e2) (by omega)]; omega) ?_
        refine xe_sn pg_96 2 (fr' := (8, [(0, .int (nI e2))], [.int 65519, .int (nI e2)])) rfl ?_
        refine xe_f2 pg_96 15 rfl rfl (by show ¬ (65519 < ((nI e2)).toInt); rw [nI_toInt (n := e2) (by omega)]; omega) ?_
        refine xe_sn pg_96 2 (fr' := (16, [(0, .int (nI e2))], [.int 1])) rfl ?_
        apply xe_callq pg_96 97 [.int 1] (.inl none) (19, [(0, .int (nI e2))], []) rfl (fun _ => rfl)
        · refine xe_sn pg_97 2 (fr' := (12, [(0, .int 1)], [])) rfl ?_
          exact xe_end pg_97 rfl
        exact xe_end pg_96 rfl
      refine xe_sn pg_74 4 (fr' := (18, [(0, .ref 0), (1, .int 0), (2, .int p1), (3, .int (nI e2))], [.ref 121])) rfl ?_
      refine xe_sn pg_74 2 (fr' := (22, [(4, .ref 121), (0, .ref 0), (1, .int 0), (2, .int p1), (3, .int (nI e2))], [.ref 121])) rfl ?_
      apply xe_callq pg_74 16 [.ref 121] (.inl (some (.int 0))) (25, [(4, .ref 121), (0, .ref 0), (1, .int 0), (2, .int p1), (3, .int (nI e2))], [.int 0]) rfl (fun _ => rfl)
      · refine xe_sn pg_16 4 (fr' := (8, [(0, .ref 121)], [])) rfl ?_
        refine xe_sn pg_16 4 (fr' := (20, [(0, .ref 121)], [])) rfl ?_
        refine xe_sn pg_16 1 (fr' := (21, [(0, .ref 121)], [.int 0])) rfl ?_
        exact xe_end pg_16 rfl
      refine xe_sn pg_74 3 (fr' := (33, [(4, .ref 121), (0, .ref 0), (1, .int 0), (2, .int p1), (3, .int (nI e2))], [.int 1])) rfl ?_
      apply xe_callq pg_74 98 [.int 1] (.inl none) (36, [(4, .ref 121), (0, .ref 0), (1, .int 0), (2, .int p1), (3, .int (nI e2))], []) rfl (fun _ => rfl)
      · refine xe_sn pg_98 2 (fr' := (12, [(0, .int 1)], [])) rfl ?_
        exact xe_end pg_98 rfl
      refine xe_sn pg_74 3 (fr' := (40, [(4, .ref 121), (0, .ref 0), (1, .int 0), (2, .int p1), (3, .int (nI e2))], [.int (nI e2), .int p1, .ref 121])) rfl ?_
      apply xe_callq pg_74 19 [.ref 121, .int p1, .int (nI e2)] (.inl none) (43, [(4, .ref 121), (0, .ref 0), (1, .int 0), (2, .int p1), (3, .int (nI e2))], []) rfl (fun _ => rfl)
      · refine xe_sn pg_19 4 (fr' := (6, [(0, .ref 121), (1, .int p1), (2, .int (nI e2))], [.ref 121])) rfl ?_
        refine xe_sn pg_19 1 (fr' := (7, [(0, .ref 121), (1, .int p1), (2, .int (nI e2))], [.int 0, .ref 121])) rfl ?_
        apply xe_callq pg_19 31 [.ref 121, .int 0] (.inl none) (10, [(0, .ref 121), (1, .int p1), (2, .int (nI e2))], []) rfl (fun _ => rfl)
        · refine xe_sn pg_31 4 (fr' := (4, [(2, .int 0), (0, .ref 121), (1, .int 0)], [.int 3, .int 0])) rfl ?_
          refine xe_sn pg_31 4 (fr' := (12, [(2, .int 0), (0, .ref 121), (1, .int 0)], [.int 0, .ref 127])) rfl ?_
          refine xe_sn pg_31 4 (fr' := (20, [(2, .int 0), (0, .ref 121), (1, .int 0)], [])) rfl ?_
          refine xe_sn pg_31 4 (fr' := (26, [(2, .int 0), (0, .ref 121), (1, .int 0)], [.ref 129])) rfl ?_
          refine xe_sn pg_31 2 (fr' := (28, [(2, .int 0), (0, .ref 121), (1, .int 0)], [.int 0, .int 0, .ref 129])) rfl ?_
          apply xe_callq pg_31 71 [.ref 129, .int 0, .int 0] (.inl none) (31, [(2, .int 0), (0, .ref 121), (1, .int 0)], []) rfl (fun _ => rfl)
          · refine xe_sn pg_71 4 (fr' := (6, [(0, .ref 129), (1, .int 0), (2, .int 0)], [.ref 129])) rfl ?_
            refine xe_sn pg_71 2 (fr' := (10, [(0, .ref 129), (1, .int 0), (2, .int 0)], [])) rfl ?_
            exact xe_end pg_71 rfl
          refine xe_sn pg_31 4 (fr' := (4, [(2, .int 1), (0, .ref 121), (1, .int 0)], [.int 3, .int 1])) rfl ?_
          refine xe_sn pg_31 4 (fr' := (12, [(2, .int 1), (0, .ref 121), (1, .int 0)], [.int 1, .ref 127])) rfl ?_
          refine xe_sn pg_31 4 (fr' := (20, [(2, .int 1), (0, .ref 121), (1, .int 0)], [])) rfl ?_
          refine xe_sn pg_31 4 (fr' := (26, [(2, .int 1), (0, .ref 121), (1, .int 0)], [.ref 130])) rfl ?_
          refine xe_sn pg_31 2 (fr' := (28, [(2, .int 1), (0, .ref 121), (1, .int 0)], [.int 0, .int 0, .ref 130])) rfl ?_
          apply xe_callq pg_31 71 [.ref 130, .int 0, .int 0] (.inl none) (31, [(2, .int 1), (0, .ref 121), (1, .int 0)], []) rfl (fun _ => rfl)
          · refine xe_sn pg_71 4 (fr' := (6, [(0, .ref 130), (1, .int 0), (2, .int 0)], [.ref 130])) rfl ?_
            refine xe_sn pg_71 2 (fr' := (10, [(0, .ref 130), (1, .int 0), (2, .int 0)], [])) rfl ?_
            exact xe_end pg_71 rfl
          refine xe_sn pg_31 4 (fr' := (4, [(2, .int 2), (0, .ref 121), (1, .int 0)], [.int 3, .int 2])) rfl ?_
          refine xe_sn pg_31 4 (fr' := (12, [(2, .int 2), (0, .ref 121), (1, .int 0)], [.int 2, .ref 127])) rfl ?_
          refine xe_sn pg_31 4 (fr' := (20, [(2, .int 2), (0, .ref 121), (1, .int 0)], [])) rfl ?_
          refine xe_sn pg_31 4 (fr' := (26, [(2, .int 2), (0, .ref 121), (1, .int 0)], [.ref 131])) rfl ?_
          refine xe_sn pg_31 2 (fr' := (28, [(2, .int 2), (0, .ref 121), (1, .int 0)], [.int 0, .int 0, .ref 131])) rfl ?_
          apply xe_callq pg_31 71 [.ref 131, .int 0, .int 0] (.inl none) (31, [(2, .int 2), (0, .ref 121), (1, .int 0)], []) rfl (fun _ => rfl)
          · refine xe_sn pg_71 4 (fr' := (6, [(0, .ref 131), (1, .int 0), (2, .int 0)], [.ref 131])) rfl ?_
            refine xe_sn pg_71 2 (fr' := (10, [(0, .ref 131), (1, .int 0), (2, .int 0)], [])) rfl ?_
            exact xe_end pg_71 rfl
          refine xe_sn pg_31 4 (fr' := (4, [(2, .int 3), (0, .ref 121), (1, .int 0)], [.int 3, .int 3])) rfl ?_
          refine xe_sn pg_31 1 (fr' := (37, [(2, .int 3), (0, .ref 121), (1, .int 0)], [])) rfl ?_
          exact xe_end pg_31 rfl
        refine xe_sn pg_19 4 (fr' := (16, [(0, .ref 121), (1, .int p1), (2, .int (nI e2))], [.ref 121])) rfl ?_
        refine xe_sn pg_19 2 (fr' := (18, [(0, .ref 121), (1, .int p1), (2, .int (nI e2))], [.int (nI e2), .int p1, .ref 121])) rfl ?_
        apply xe_callq pg_19 21 [.ref 121, .int p1, .int (nI e2)] (.inl none) (21, [(0, .ref 121), (1, .int p1), (2, .int (nI e2))], []) rfl (fun _ => rfl)
        · refine xe_sn pg_21 4 (fr' := (6, [(0, .ref 121), (1, .int p1), (2, .int (nI e2))], [.ref 121])) rfl ?_
          refine xe_sn pg_21 4 (fr' := (12, [(0, .ref 121), (1, .int p1), (2, .int (nI e2))], [.int (nI e2), .ref 121])) rfl ?_
          refine xe_sn pg_21 1 (fr' := (15, [(0, .ref 121), (1, .int p1), (2, .int (nI e2))], [])) rfl ?_
          exact xe_end pg_21 rfl
        refine xe_sn pg_19 4 (fr' := (27, [(0, .ref 121), (1, .int p1), (2, .int (nI e2))], [.int p1, .int 0, .ref 1])) rfl ?_
        refine xe_sn pg_19 3 (fr' := (32, [(0, .ref 121), (1, .int p1), (2, .int (nI e2))], [.int 1, .int 0, .int p1, .int 0, .ref 1])) rfl ?_
        apply xe_callq pg_19 68 [.ref 1, .int 0, .int p1, .int 0, .int 1] (.inl (some (.ref 7))) (35, [(0, .ref 121), (1, .int p1), (2, .int (nI e2))], [.ref 7]) rfl (fun _ => rfl)
        · refine xe_sn pg_68 4 (fr' := (7, [(5, .ref 3), (0, .ref 1), (1, .int 0), (2, .int p1), (3, .int 0), (4, .int 1)], [.ref 1])) rfl ?_
          refine xe_sn pg_68 4 (fr' := (16, [(5, .ref 3), (0, .ref 1), (1, .int 0), (2, .int p1), (3, .int 0), (4, .int 1)], [.ref 1])) rfl ?_
          refine xe_sn pg_68 4 (fr' := (24, [(5, .ref 3), (0, .ref 1), (1, .int 0), (2, .int p1), (3, .int 0), (4, .int 1)], [.ref 7])) rfl ?_
          refine xe_sn pg_68 4 (fr' := (31, [(5, .ref 7), (0, .ref 1), (1, .int 0), (2, .int p1), (3, .int 0), (4, .int 1)], [.int 0, .ref 1])) rfl ?_
          refine xe_sn pg_68 4 (fr' := (49, [(5, .ref 7), (0, .ref 1), (1, .int 0), (2, .int p1), (3, .int 0), (4, .int 1)], [])) rfl ?_
          refine xe_sn pg_68 4 (fr' := (54, [(5, .ref 7), (0, .ref 1), (1, .int 0), (2, .int p1), (3, .int 0), (4, .int 1)], [.int 0, .int p1, .int 0, .ref 7])) rfl ?_
          refine xe_sn pg_68 1 (fr' := (56, [(5, .ref 7), (0, .ref 1), (1, .int 0), (2, .int p1), (3, .int 0), (4, .int 1)], [.int 1, .int 0, .int p1, .int 0, .ref 7])) rfl ?_
          apply xe_callq pg_68 6 [.ref 7, .int 0, .int p1, .int 0, .int 1] (.inl none) (59, [(5, .ref 7), (0, .ref 1), (1, .int 0), (2, .int p1), (3, .int 0), (4, .int 1)], []) rfl (fun _ => rfl)
          · refine xe_sn pg_6 4 (fr' := (6, [(0, .ref 7), (1, .int 0), (2, .int p1), (3, .int 0), (4, .int 1)], [.ref 7])) rfl ?_
            refine xe_sn pg_6 4 (fr' := (12, [(0, .ref 7), (1, .int 0), (2, .int p1), (3, .int 0), (4, .int 1)], [.int 0, .ref 7])) rfl ?_
            refine xe_sn pg_6 4 (fr' := (21, [(0, .ref 7), (1, .int 0), (2, .int p1), (3, .int 0), (4, .int 1)], [])) rfl ?_
            refine xe_sn pg_6 4 (fr' := (27, [(0, .ref 7), (1, .int 0), (2, .int p1), (3, .int 0), (4, .int 1)], [.int 0])) rfl ?_
            refine xe_sn pg_6 4 (fr' := (36, [(5, .int 0), (0, .ref 7), (1, .int 0), (2, .int p1), (3, .int 0), (4, .int 1)], [])) rfl ?_
            refine xe_sn pg_6 4 (fr' := (43, [(5, .int 0), (0, .ref 7), (1, .int 0), (2, .int p1), (3, .int 0), (4, .int 1)], [.int 0, .int 0, .ref 8])) rfl ?_
            refine xe_sn pg_6 4 (fr' := (31, [(5, .int 1), (0, .ref 7), (1, .int 0), (2, .int p1), (3, .int 0), (4, .int 1)], [.int 1])) rfl ?_
            refine xe_sn pg_6 4 (fr' := (40, [(5, .int 1), (0, .ref 7), (1, .int 0), (2, .int p1), (3, .int 0), (4, .int 1)], [.ref 8])) rfl ?_
            refine xe_sn pg_6 4 (fr' := (47, [(5, .int 2), (0, .ref 7), (1, .int 0), (2, .int p1), (3, .int 0), (4, .int 1)], [])) rfl ?_
            refine xe_sn pg_6 4 (fr' := (36, [(5, .int 2), (0, .ref 7), (1, .int 0), (2, .int p1), (3, .int 0), (4, .int 1)], [])) rfl ?_
            refine xe_sn pg_6 4 (fr' := (43, [(5, .int 2), (0, .ref 7), (1, .int 0), (2, .int p1), (3, .int 0), (4, .int 1)], [.int 0, .int 2, .ref 8])) rfl ?_
            refine xe_sn pg_6 4 (fr' := (31, [(5, .int 3), (0, .ref 7), (1, .int 0), (2, .int p1), (3, .int 0), (4, .int 1)], [.int 3])) rfl ?_
            refine xe_sn pg_6 4 (fr' := (40, [(5, .int 3), (0, .ref 7), (1, .int 0), (2, .int p1), (3, .int 0), (4, .int 1)], [.ref 8])) rfl ?_
            refine xe_sn pg_6 4 (fr' := (47, [(5, .int 4), (0, .ref 7), (1, .int 0), (2, .int p1), (3, .int 0), (4, .int 1)], [])) rfl ?_
            refine xe_sn pg_6 4 (fr' := (36, [(5, .int 4), (0, .ref 7), (1, .int 0), (2, .int p1), (3, .int 0), (4, .int 1)], [])) rfl ?_
            refine xe_sn pg_6 4 (fr' := (43, [(5, .int 4), (0, .ref 7), (1, .int 0), (2, .int p1), (3, .int 0), (4, .int 1)], [.int 0, .int 4, .ref 8])) rfl ?_
            refine xe_sn pg_6 4 (fr' := (31, [(5, .int 5), (0, .ref 7), (1, .int 0), (2, .int p1), (3, .int 0), (4, .int 1)], [.int 5])) rfl ?_
            refine xe_sn pg_6 4 (fr' := (40, [(5, .int 5), (0, .ref 7), (1, .int 0), (2, .int p1), (3, .int 0), (4, .int 1)], [.ref 8])) rfl ?_
            refine xe_sn pg_6 4 (fr' := (47, [(5, .int 6), (0, .ref 7), (1, .int 0), (2, .int p1), (3, .int 0), (4, .int 1)], [])) rfl ?_
            refine xe_sn pg_6 4 (fr' := (36, [(5, .int 6), (0, .ref 7), (1, .int 0), (2, .int p1), (3, .int 0), (4, .int 1)], [])) rfl ?_
            refine xe_sn pg_6 4 (fr' := (43, [(5, .int 6), (0, .ref 7), (1, .int 0), (2, .int p1), (3, .int 0), (4, .int 1)], [.int 0, .int 6, .ref 8])) rfl ?_
            refine xe_sn pg_6 4 (fr' := (31, [(5, .int 7), (0, .ref 7), (1, .int 0), (2, .int p1), (3, .int 0), (4, .int 1)], [.int 7])) rfl ?_
            refine xe_sn pg_6 4 (fr' := (40, [(5, .int 7), (0, .ref 7), (1, .int 0), (2, .int p1), (3, .int 0), (4, .int 1)], [.ref 8])) rfl ?_
            refine xe_sn pg_6 4 (fr' := (47, [(5, .int 8), (0, .ref 7), (1, .int 0), (2, .int p1), (3, .int 0), (4, .int 1)], [])) rfl ?_
            refine xe_sn pg_6 4 (fr' := (36, [(5, .int 8), (0, .ref 7), (1, .int 0), (2, .int p1), (3, .int 0), (4, .int 1)], [])) rfl ?_
            refine xe_sn pg_6 4 (fr' := (43, [(5, .int 8), (0, .ref 7), (1, .int 0), (2, .int p1), (3, .int 0), (4, .int 1)], [.int 0, .int 8, .ref 8])) rfl ?_
            refine xe_sn pg_6 4 (fr' := (31, [(5, .int 9), (0, .ref 7), (1, .int 0), (2, .int p1), (3, .int 0), (4, .int 1)], [.int 9])) rfl ?_
            refine xe_sn pg_6 4 (fr' := (40, [(5, .int 9), (0, .ref 7), (1, .int 0), (2, .int p1), (3, .int 0), (4, .int 1)], [.ref 8])) rfl ?_
            refine xe_sn pg_6 4 (fr' := (47, [(5, .int 10), (0, .ref 7), (1, .int 0), (2, .int p1), (3, .int 0), (4, .int 1)], [])) rfl ?_
            refine xe_sn pg_6 4 (fr' := (36, [(5, .int 10), (0, .ref 7), (1, .int 0), (2, .int p1), (3, .int 0), (4, .int 1)], [])) rfl ?_
            refine xe_sn pg_6 4 (fr' := (43, [(5, .int 10), (0, .ref 7), (1, .int 0), (2, .int p1), (3, .int 0), (4, .int 1)], [.int 0, .int 10, .ref 8])) rfl ?_
            refine xe_sn pg_6 4 (fr' := (31, [(5, .int 11), (0, .ref 7), (1, .int 0), (2, .int p1), (3, .int 0), (4, .int 1)], [.int 11])) rfl ?_
            refine xe_sn pg_6 4 (fr' := (40, [(5, .int 11), (0, .ref 7), (1, .int 0), (2, .int p1), (3, .int 0), (4, .int 1)], [.ref 8])) rfl ?_
            refine xe_sn pg_6 4 (fr' := (47, [(5, .int 12), (0, .ref 7), (1, .int 0), (2, .int p1), (3, .int 0), (4, .int 1)], [])) rfl ?_
            refine xe_sn pg_6 4 (fr' := (36, [(5, .int 12), (0, .ref 7), (1, .int 0), (2, .int p1), (3, .int 0), (4, .int 1)], [])) rfl ?_
            refine xe_sn pg_6 4 (fr' := (43, [(5, .int 12), (0, .ref 7), (1, .int 0), (2, .int p1), (3, .int 0), (4, .int 1)], [.int 0, .int 12, .ref 8])) rfl ?_
            refine xe_sn pg_6 4 (fr' := (31, [(5, .int 13), (0, .ref 7), (1, .int 0), (2, .int p1), (3, .int 0), (4, .int 1)], [.int 13])) rfl ?_
            refine xe_sn pg_6 4 (fr' := (40, [(5, .int 13), (0, .ref 7), (1, .int 0), (2, .int p1), (3, .int 0), (4, .int 1)], [.ref 8])) rfl ?_
            refine xe_sn pg_6 4 (fr' := (47, [(5, .int 14), (0, .ref 7), (1, .int 0), (2, .int p1), (3, .int 0), (4, .int 1)], [])) rfl ?_
            refine xe_sn pg_6 4 (fr' := (50, [(5, .int 14), (0, .ref 7), (1, .int 0), (2, .int p1), (3, .int 0), (4, .int 1)], [])) rfl ?_
            exact xe_end pg_6 rfl
          refine xe_sn pg_68 1 (fr' := (61, [(5, .ref 7), (0, .ref 1), (1, .int 0), (2, .int p1), (3, .int 0), (4, .int 1)], [.ref 7])) rfl ?_
          exact xe_end pg_68 rfl
        refine xe_sn pg_19 3 (fr' := (39, [(0, .ref 121), (1, .int p1), (2, .int (nI e2))], [.int (nI e2), .int 17, .int 0, .ref 7])) rfl ?_
        apply xe_callq pg_19 0 [.int 17, .int (nI e2)] (.inl (some (.int (nI (17 ^ e2 % 65521))))) (42, [(0, .ref 121), (1, .int p1), (2, .int (nI e2))], [.int (nI (17 ^ e2 % 65521)), .int 0, .ref 7]) rfl (fun _ => rfl)
        · exact c_raise _ (a := 17) (e := e2) (by omega) (by omega) _
        apply xe_callq pg_19 10 [.ref 7, .int 0, .int (nI (17 ^ e2 % 65521))] (.inl none) (45, [(0, .ref 121), (1, .int p1), (2, .int (nI e2))], []) rfl (fun _ => rfl)
        · refine xe_sn pg_10 4 (fr' := (6, [(0, .ref 7), (1, .int 0), (2, .int (nI (17 ^ e2 % 65521)))], [.int (nI (17 ^ e2 % 65521)), .int 0, .ref 8])) rfl ?_
          refine xe_sn pg_10 4 (fr' := (13, [(0, .ref 7), (1, .int 0), (2, .int (nI (17 ^ e2 % 65521)))], [.int (((((nI (17 ^ e2 % 65521))).toUInt32 >>> ((8 : Int32).toUInt32 &&& Int32.toUInt32 31)).toInt32) &&& 255), .int 0, .ref 8])) rfl ?_
          refine xe_sn pg_10 4 (fr' := (19, [(0, .ref 7), (1, .int 0), (2, .int (nI (17 ^ e2 % 65521)))], [.int 0, .ref 8])) rfl ?_
          refine xe_sn pg_10 4 (fr' := (25, [(0, .ref 7), (1, .int 0), (2, .int (nI (17 ^ e2 % 65521)))], [.int 255, .int (nI (17 ^ e2 % 65521)), .int 1, .ref 8])) rfl ?_
          refine xe_sn pg_10 2 (fr' := (27, [(0, .ref 7), (1, .int 0), (2, .int (nI (17 ^ e2 % 65521)))], [])) rfl ?_
          exact xe_end pg_10 rfl
        exact xe_end pg_19 rfl
      refine xe_sn pg_74 3 (fr' := (50, [(4, .ref 121), (0, .ref 0), (1, .int 0), (2, .int p1), (3, .int (nI e2))], [.int 1])) rfl ?_
      exact xe_end pg_74 rfl
    refine xe_sn pg_161 4 (fr' := (28, [(0, .ref 0), (1, .int 0), (2, .int p1), (3, .int (nI e2)), (4, .ref 189)], [.int 0])) rfl ?_
    exact xe_end pg_161 rfl
  refine And.intro ⟨rfl, rfl, rfl, rfl⟩ ?_
  apply And.intro
  · refine xe_sn pg_140 2 (fr' := (2, [(0, .ref 165), (1, .int 0), (2, .int p1), (3, .int (nI e2))], [.int 0, .ref 165])) rfl ?_
    apply xe_callq pg_140 104 [.int 0] (.inl (some (.int 1))) (5, [(0, .ref 165), (1, .int 0), (2, .int p1), (3, .int (nI e2))], [.int 1, .ref 165]) rfl (fun _ => rfl)
    · refine xe_sn pg_104 3 (fr' := (3, [(0, .int 0)], [.int 3, .int 0, .int 0])) rfl ?_
      apply xe_callq pg_104 103 [.int 0, .int 0, .int 3] (.inl (some (.int 1))) (6, [(0, .int 0)], [.int 1]) rfl (fun _ => rfl)
      · refine xe_sn pg_103 4 (fr' := (6, [(0, .int 0), (1, .int 0), (2, .int 3)], [.int 0])) rfl ?_
        refine xe_sn pg_103 4 (fr' := (15, [(0, .int 0), (1, .int 0), (2, .int 3)], [.int 1])) rfl ?_
        exact xe_end pg_103 rfl
      exact xe_end pg_104 rfl
    refine xe_sn pg_140 2 (fr' := (9, [(0, .ref 165), (1, .int 0), (2, .int p1), (3, .int (nI e2))], [.int p1, .ref 165])) rfl ?_
    apply xe_callq pg_140 105 [.int p1] (.inl (some (.int 1))) (12, [(0, .ref 165), (1, .int 0), (2, .int p1), (3, .int (nI e2))], [.int 1, .ref 165]) rfl (fun _ => rfl)
    · refine xe_sn pg_105 3 (fr' := (3, [(0, .int p1)], [.int 4, .int 1, .int p1])) rfl ?_
      apply xe_callq pg_105 103 [.int p1, .int 1, .int 4] (.inl (some (.int 1))) (6, [(0, .int p1)], [.int 1]) rfl (fun _ => rfl)
      · refine xe_sn pg_103 2 (fr' := (2, [(0, .int p1), (1, .int 1), (2, .int 4)], [.int 1, .int p1])) rfl ?_
        refine xe_f2 pg_103 14 rfl rfl (by show ¬ ((p1).toInt < 1); omega) ?_
        refine xe_sn pg_103 2 (fr' := (7, [(0, .int p1), (1, .int 1), (2, .int 4)], [.int 4, .int p1])) rfl ?_
        refine xe_f2 pg_103 14 rfl rfl (by show ¬ (4 < (p1).toInt); omega) ?_
        refine xe_sn pg_103 2 (fr' := (15, [(0, .int p1), (1, .int 1), (2, .int 4)], [.int 1])) rfl ?_
        exact xe_end pg_103 rfl
      exact xe_end pg_105 rfl
    refine xe_sn pg_140 4 (fr' := (23, [(0, .ref 165), (1, .int 0), (2, .int p1), (3, .int (nI e2))], [.int 65519, .int 1, .int (nI e2), .ref 165])) rfl ?_
    apply xe_callq pg_140 103 [.int (nI e2), .int 1, .int 65519] (.inl (some (.int 1))) (26, [(0, .ref 165), (1, .int 0), (2, .int p1), (3, .int (nI e2))], [.int 1, .ref 165]) rfl (fun _ => rfl)
    · refine xe_sn pg_103 2 (fr' := (2, [(0, .int (nI e2)), (1, .int 1), (2, .int 65519)], [.int 1, .int (nI e2)])) rfl ?_
      refine xe_f2 pg_103 14 rfl rfl (by show ¬ (((nI e2)).toInt < 1); rw [nI_toInt (n := e2) (by omega)]; omega) ?_
      refine xe_sn pg_103 2 (fr' := (7, [(0, .int (nI e2)), (1, .int 1), (2, .int 65519)], [.int 65519, .int (nI e2)])) rfl ?_
      refine xe_f2 pg_103 14 rfl rfl (by show ¬ (65519 < ((nI e2)).toInt); rw [nI_toInt (n := e2) (by omega)]; omega) ?_
      refine xe_sn pg_103 2 (fr' := (15, [(0, .int (nI e2)), (1, .int 1), (2, .int 65519)], [.int 1])) rfl ?_
      exact xe_end pg_103 rfl
    refine xe_sn pg_140 3 (fr' := (35, [(0, .ref 165), (1, .int 0), (2, .int p1), (3, .int (nI e2))], [.int 0, .ref 165, .ref 165])) rfl ?_
    apply xe_callq pg_140 145 [.ref 165, .int 0] (.inl (some (.int 0))) (38, [(0, .ref 165), (1, .int 0), (2, .int p1), (3, .int (nI e2))], [.int 0, .ref 165]) rfl (fun _ => rfl)
    · refine xe_sn pg_145 4 (fr' := (6, [(0, .ref 165), (1, .int 0)], [.int 0])) rfl ?_
      refine xe_sn pg_145 4 (fr' := (14, [(0, .ref 165), (1, .int 0)], [.ref 167])) rfl ?_
      refine xe_sn pg_145 4 (fr' := (24, [(0, .ref 165), (1, .int 0)], [])) rfl ?_
      refine xe_sn pg_145 1 (fr' := (25, [(0, .ref 165), (1, .int 0)], [.int 0])) rfl ?_
      exact xe_end pg_145 rfl
    refine xe_sn pg_140 4 (fr' := (50, [(0, .ref 165), (1, .int 0), (2, .int p1), (3, .int (nI e2))], [.ref 165])) rfl ?_
    refine xe_sn pg_140 4 (fr' := (62, [(0, .ref 165), (1, .int 0), (2, .int p1), (3, .int (nI e2))], [.ref 168])) rfl ?_
    refine xe_sn pg_140 4 (fr' := (66, [(0, .ref 165), (1, .int 0), (2, .int p1), (3, .int (nI e2))], [.ref 165])) rfl ?_
    refine xe_sn pg_140 2 (fr' := (68, [(0, .ref 165), (1, .int 0), (2, .int p1), (3, .int (nI e2))], [.int 0, .int 0, .ref 165])) rfl ?_
    apply xe_callq pg_140 120 [.ref 165, .int 0, .int 0] (.inl none) (71, [(0, .ref 165), (1, .int 0), (2, .int p1), (3, .int (nI e2))], []) rfl (fun _ => rfl)
    · refine xe_sn pg_120 4 (fr' := (4, [(3, .int 0), (0, .ref 165), (1, .int 0), (2, .int 0)], [])) rfl ?_
      refine xe_sn pg_120 4 (fr' := (8, [(3, .int 0), (0, .ref 165), (1, .int 0), (2, .int 0)], [.int 0, .int 0])) rfl ?_
      refine xe_sn pg_120 4 (fr' := (14, [(3, .int 0), (0, .ref 165), (1, .int 0), (2, .int 0)], [.ref 165])) rfl ?_
      refine xe_sn pg_120 4 (fr' := (20, [(3, .int 0), (0, .ref 165), (1, .int 0), (2, .int 0)], [.int 0, .int 0])) rfl ?_
      refine xe_sn pg_120 4 (fr' := (28, [(3, .int 0), (0, .ref 165), (1, .int 0), (2, .int 0)], [.int 0, .ref 173])) rfl ?_
      refine xe_sn pg_120 4 (fr' := (34, [(3, .int 0), (0, .ref 165), (1, .int 0), (2, .int 0)], [.ref 175])) rfl ?_
      refine xe_sn pg_120 4 (fr' := (40, [(3, .int 1), (0, .ref 165), (1, .int 0), (2, .int 0)], [])) rfl ?_
      refine xe_sn pg_120 4 (fr' := (7, [(3, .int 1), (0, .ref 165), (1, .int 0), (2, .int 0)], [.int 0, .int 3, .int 1])) rfl ?_
      refine xe_sn pg_120 4 (fr' := (13, [(3, .int 1), (0, .ref 165), (1, .int 0), (2, .int 0)], [])) rfl ?_
      refine xe_sn pg_120 4 (fr' := (19, [(3, .int 1), (0, .ref 165), (1, .int 0), (2, .int 0)], [.int 0])) rfl ?_
      refine xe_sn pg_120 4 (fr' := (27, [(3, .int 1), (0, .ref 165), (1, .int 0), (2, .int 0)], [.ref 173])) rfl ?_
      refine xe_sn pg_120 4 (fr' := (31, [(3, .int 1), (0, .ref 165), (1, .int 0), (2, .int 0)], [.ref 165])) rfl ?_
      refine xe_sn pg_120 4 (fr' := (37, [(3, .int 1), (0, .ref 165), (1, .int 0), (2, .int 0)], [])) rfl ?_
      refine xe_sn pg_120 4 (fr' := (6, [(3, .int 2), (0, .ref 165), (1, .int 0), (2, .int 0)], [.int 3, .int 2])) rfl ?_
      refine xe_sn pg_120 4 (fr' := (10, [(3, .int 2), (0, .ref 165), (1, .int 0), (2, .int 0)], [.int 3, .int 2])) rfl ?_
      refine xe_sn pg_120 4 (fr' := (18, [(3, .int 2), (0, .ref 165), (1, .int 0), (2, .int 0)], [.int 2, .ref 174])) rfl ?_
      refine xe_sn pg_120 4 (fr' := (24, [(3, .int 2), (0, .ref 165), (1, .int 0), (2, .int 0)], [.ref 165])) rfl ?_
      refine xe_sn pg_120 4 (fr' := (30, [(3, .int 2), (0, .ref 165), (1, .int 0), (2, .int 0)], [])) rfl ?_
      refine xe_sn pg_120 4 (fr' := (36, [(3, .int 2), (0, .ref 165), (1, .int 0), (2, .int 0)], [.int 0, .int 2, .ref 175])) rfl ?_
      refine xe_sn pg_120 4 (fr' := (5, [(3, .int 3), (0, .ref 165), (1, .int 0), (2, .int 0)], [.int 3])) rfl ?_
      refine xe_sn pg_120 4 (fr' := (9, [(3, .int 3), (0, .ref 165), (1, .int 0), (2, .int 0)], [.int 3, .int 0, .int 3])) rfl ?_
      refine xe_sn pg_120 2 (fr' := (43, [(3, .int 3), (0, .ref 165), (1, .int 0), (2, .int 0)], [])) rfl ?_
      exact xe_end pg_120 rfl
    refine xe_sn pg_140 4 (fr' := (77, [(0, .ref 165), (1, .int 0), (2, .int p1), (3, .int (nI e2))], [.int 0, .int 0, .ref 176])) rfl ?_
    refine xe_sn pg_140 4 (fr' := (83, [(0, .ref 165), (1, .int 0), (2, .int p1), (3, .int (nI e2))], [.int 0, .ref 171])) rfl ?_
    refine xe_sn pg_140 4 (fr' := (89, [(0, .ref 165), (1, .int 0), (2, .int p1), (3, .int (nI e2))], [.ref 172])) rfl ?_
    refine xe_sn pg_140 4 (fr' := (93, [(0, .ref 165), (1, .int 0), (2, .int p1), (3, .int (nI e2))], [.ref 165])) rfl ?_
    refine xe_sn pg_140 4 (fr' := (99, [(0, .ref 165), (1, .int 0), (2, .int p1), (3, .int (nI e2))], [])) rfl ?_
    refine xe_sn pg_140 1 (fr' := (100, [(0, .ref 165), (1, .int 0), (2, .int p1), (3, .int (nI e2))], [.ref 165])) rfl ?_
    apply xe_callq pg_140 113 [.ref 165] (.inl none) (103, [(0, .ref 165), (1, .int 0), (2, .int p1), (3, .int (nI e2))], []) rfl (fun _ => rfl)
    · refine xe_sn pg_113 4 (fr' := (5, [(1, .int 0), (0, .ref 165)], [.int 14, .int 0])) rfl ?_
      refine xe_sn pg_113 4 (fr' := (13, [(1, .int 0), (0, .ref 165)], [.int 0, .ref 187])) rfl ?_
      refine xe_sn pg_113 4 (fr' := (2, [(1, .int 1), (0, .ref 165)], [])) rfl ?_
      refine xe_sn pg_113 4 (fr' := (9, [(1, .int 1), (0, .ref 165)], [.ref 165])) rfl ?_
      refine xe_sn pg_113 4 (fr' := (15, [(1, .int 1), (0, .ref 165)], [])) rfl ?_
      refine xe_sn pg_113 4 (fr' := (5, [(1, .int 2), (0, .ref 165)], [.int 14, .int 2])) rfl ?_
      refine xe_sn pg_113 4 (fr' := (13, [(1, .int 2), (0, .ref 165)], [.int 2, .ref 187])) rfl ?_
      refine xe_sn pg_113 4 (fr' := (2, [(1, .int 3), (0, .ref 165)], [])) rfl ?_
      refine xe_sn pg_113 4 (fr' := (9, [(1, .int 3), (0, .ref 165)], [.ref 165])) rfl ?_
      refine xe_sn pg_113 4 (fr' := (15, [(1, .int 3), (0, .ref 165)], [])) rfl ?_
      refine xe_sn pg_113 4 (fr' := (5, [(1, .int 4), (0, .ref 165)], [.int 14, .int 4])) rfl ?_
      refine xe_sn pg_113 4 (fr' := (13, [(1, .int 4), (0, .ref 165)], [.int 4, .ref 187])) rfl ?_
      refine xe_sn pg_113 4 (fr' := (2, [(1, .int 5), (0, .ref 165)], [])) rfl ?_
      refine xe_sn pg_113 4 (fr' := (9, [(1, .int 5), (0, .ref 165)], [.ref 165])) rfl ?_
      refine xe_sn pg_113 4 (fr' := (15, [(1, .int 5), (0, .ref 165)], [])) rfl ?_
      refine xe_sn pg_113 4 (fr' := (5, [(1, .int 6), (0, .ref 165)], [.int 14, .int 6])) rfl ?_
      refine xe_sn pg_113 4 (fr' := (13, [(1, .int 6), (0, .ref 165)], [.int 6, .ref 187])) rfl ?_
      refine xe_sn pg_113 4 (fr' := (2, [(1, .int 7), (0, .ref 165)], [])) rfl ?_
      refine xe_sn pg_113 4 (fr' := (9, [(1, .int 7), (0, .ref 165)], [.ref 165])) rfl ?_
      refine xe_sn pg_113 4 (fr' := (15, [(1, .int 7), (0, .ref 165)], [])) rfl ?_
      refine xe_sn pg_113 4 (fr' := (5, [(1, .int 8), (0, .ref 165)], [.int 14, .int 8])) rfl ?_
      refine xe_sn pg_113 4 (fr' := (13, [(1, .int 8), (0, .ref 165)], [.int 8, .ref 187])) rfl ?_
      refine xe_sn pg_113 4 (fr' := (2, [(1, .int 9), (0, .ref 165)], [])) rfl ?_
      refine xe_sn pg_113 4 (fr' := (9, [(1, .int 9), (0, .ref 165)], [.ref 165])) rfl ?_
      refine xe_sn pg_113 4 (fr' := (15, [(1, .int 9), (0, .ref 165)], [])) rfl ?_
      refine xe_sn pg_113 4 (fr' := (5, [(1, .int 10), (0, .ref 165)], [.int 14, .int 10])) rfl ?_
      refine xe_sn pg_113 4 (fr' := (13, [(1, .int 10), (0, .ref 165)], [.int 10, .ref 187])) rfl ?_
      refine xe_sn pg_113 4 (fr' := (2, [(1, .int 11), (0, .ref 165)], [])) rfl ?_
      refine xe_sn pg_113 4 (fr' := (9, [(1, .int 11), (0, .ref 165)], [.ref 165])) rfl ?_
      refine xe_sn pg_113 4 (fr' := (15, [(1, .int 11), (0, .ref 165)], [])) rfl ?_
      refine xe_sn pg_113 4 (fr' := (5, [(1, .int 12), (0, .ref 165)], [.int 14, .int 12])) rfl ?_
      refine xe_sn pg_113 4 (fr' := (13, [(1, .int 12), (0, .ref 165)], [.int 12, .ref 187])) rfl ?_
      refine xe_sn pg_113 4 (fr' := (2, [(1, .int 13), (0, .ref 165)], [])) rfl ?_
      refine xe_sn pg_113 4 (fr' := (9, [(1, .int 13), (0, .ref 165)], [.ref 165])) rfl ?_
      refine xe_sn pg_113 4 (fr' := (15, [(1, .int 13), (0, .ref 165)], [])) rfl ?_
      refine xe_sn pg_113 4 (fr' := (5, [(1, .int 14), (0, .ref 165)], [.int 14, .int 14])) rfl ?_
      refine xe_sn pg_113 1 (fr' := (21, [(1, .int 14), (0, .ref 165)], [])) rfl ?_
      exact xe_end pg_113 rfl
    refine xe_sn pg_140 4 (fr' := (108, [(0, .ref 165), (1, .int 0), (2, .int p1), (3, .int (nI e2))], [.int (nI e2), .int 17, .int 0, .ref 165])) rfl ?_
    apply xe_callq pg_140 106 [.int 17, .int (nI e2)] (.inl (some (.int (nI (17 ^ e2 % 65521))))) (111, [(0, .ref 165), (1, .int 0), (2, .int p1), (3, .int (nI e2))], [.int (nI (17 ^ e2 % 65521)), .int 0, .ref 165]) rfl (fun _ => rfl)
    · exact m_raise _ (a := 17) (e := e2) (by omega) (by omega) _
    apply xe_callq pg_140 112 [.ref 165, .int 0, .int (nI (17 ^ e2 % 65521))] (.inl none) (114, [(0, .ref 165), (1, .int 0), (2, .int p1), (3, .int (nI e2))], []) rfl (fun _ => rfl)
    · refine xe_sn pg_112 4 (fr' := (6, [(0, .ref 165), (1, .int 0), (2, .int (nI (17 ^ e2 % 65521)))], [.int (nI (17 ^ e2 % 65521)), .int 0, .ref 187])) rfl ?_
      refine xe_sn pg_112 4 (fr' := (11, [(0, .ref 165), (1, .int 0), (2, .int (nI (17 ^ e2 % 65521)))], [.ref 165])) rfl ?_
      refine xe_sn pg_112 4 (fr' := (17, [(0, .ref 165), (1, .int 0), (2, .int (nI (17 ^ e2 % 65521)))], [.int 1, .ref 187])) rfl ?_
      refine xe_sn pg_112 4 (fr' := (23, [(0, .ref 165), (1, .int 0), (2, .int (nI (17 ^ e2 % 65521)))], [])) rfl ?_
      exact xe_end pg_112 rfl
    refine xe_sn pg_140 4 (fr' := (118, [(0, .ref 165), (1, .int 0), (2, .int p1), (3, .int (nI e2))], [.int 0, .int p1, .int 0, .ref 165])) rfl ?_
    refine xe_sn pg_140 2 (fr' := (120, [(0, .ref 165), (1, .int 0), (2, .int p1), (3, .int (nI e2))], [.int 0, .int 1, .int 0, .int p1, .int 0, .ref 165])) rfl ?_
    apply xe_callq pg_140 117 [.ref 165, .int 0, .int p1, .int 0, .int 1, .int 0] (.inl none) (123, [(0, .ref 165), (1, .int 0), (2, .int p1), (3, .int (nI e2))], []) rfl (fun _ => rfl)
    · refine xe_sn pg_117 4 (fr' := (20, [(0, .ref 165), (1, .int 0), (2, .int p1), (3, .int 0), (4, .int 1), (5, .int 0)], [])) rfl ?_
      refine xe_sn pg_117 4 (fr' := (27, [(0, .ref 165), (1, .int 0), (2, .int p1), (3, .int 0), (4, .int 1), (5, .int 0)], [.int 0])) rfl ?_
      refine xe_sn pg_117 4 (fr' := (35, [(6, .int 0), (0, .ref 165), (1, .int 0), (2, .int p1), (3, .int 0), (4, .int 1), (5, .int 0)], [.int 0, .ref 166])) rfl ?_
      refine xe_sn pg_117 4 (fr' := (41, [(6, .int 0), (0, .ref 165), (1, .int 0), (2, .int p1), (3, .int 0), (4, .int 1), (5, .int 0)], [.ref 166])) rfl ?_
      refine xe_sn pg_117 4 (fr' := (46, [(6, .int 0), (0, .ref 165), (1, .int 0), (2, .int p1), (3, .int 0), (4, .int 1), (5, .int 0)], [.int p1, .int 1, .ref 166])) rfl ?_
      refine xe_sn pg_117 4 (fr' := (53, [(6, .int 0), (0, .ref 165), (1, .int 0), (2, .int p1), (3, .int 0), (4, .int 1), (5, .int 0)], [.int 0, .ref 166])) rfl ?_
      refine xe_sn pg_117 4 (fr' := (57, [(6, .int 0), (0, .ref 165), (1, .int 0), (2, .int p1), (3, .int 0), (4, .int 1), (5, .int 0)], [])) rfl ?_
      refine xe_sn pg_117 4 (fr' := (64, [(6, .int 0), (0, .ref 165), (1, .int 0), (2, .int p1), (3, .int 0), (4, .int 1), (5, .int 0)], [.int 3, .int 0, .ref 166])) rfl ?_
      refine xe_sn pg_117 4 (fr' := (69, [(6, .int 0), (0, .ref 165), (1, .int 0), (2, .int p1), (3, .int 0), (4, .int 1), (5, .int 0)], [.int 0])) rfl ?_
      refine xe_sn pg_117 4 (fr' := (78, [(7, .int 0), (6, .int 0), (0, .ref 165), (1, .int 0), (2, .int p1), (3, .int 0), (4, .int 1), (5, .int 0)], [])) rfl ?_
      refine xe_sn pg_117 4 (fr' := (85, [(7, .int 0), (6, .int 0), (0, .ref 165), (1, .int 0), (2, .int p1), (3, .int 0), (4, .int 1), (5, .int 0)], [.int 4, .int 0, .ref 166])) rfl ?_
      refine xe_sn pg_117 4 (fr' := (90, [(7, .int 0), (6, .int 0), (0, .ref 165), (1, .int 0), (2, .int p1), (3, .int 0), (4, .int 1), (5, .int 0)], [.ref 165, .int 4, .ref 166])) rfl ?_
      refine xe_sn pg_117 4 (fr' := (97, [(7, .int 0), (6, .int 0), (0, .ref 165), (1, .int 0), (2, .int p1), (3, .int 0), (4, .int 1), (5, .int 0)], [])) rfl ?_
      refine xe_sn pg_117 4 (fr' := (75, [(7, .int 1), (6, .int 0), (0, .ref 165), (1, .int 0), (2, .int p1), (3, .int 0), (4, .int 1), (5, .int 0)], [.int 14, .int 1])) rfl ?_
      refine xe_sn pg_117 4 (fr' := (84, [(7, .int 1), (6, .int 0), (0, .ref 165), (1, .int 0), (2, .int p1), (3, .int 0), (4, .int 1), (5, .int 0)], [.int 0, .ref 166])) rfl ?_
      refine xe_sn pg_117 4 (fr' := (89, [(7, .int 1), (6, .int 0), (0, .ref 165), (1, .int 0), (2, .int p1), (3, .int 0), (4, .int 1), (5, .int 0)], [.int 5, .ref 166])) rfl ?_
      refine xe_sn pg_117 4 (fr' := (96, [(7, .int 1), (6, .int 0), (0, .ref 165), (1, .int 0), (2, .int p1), (3, .int 0), (4, .int 1), (5, .int 0)], [.int ((nI (17 ^ e2 % 65521)) &&& 255), .int 5, .ref 166])) rfl ?_
      refine xe_sn pg_117 4 (fr' := (73, [(7, .int 2), (6, .int 0), (0, .ref 165), (1, .int 0), (2, .int p1), (3, .int 0), (4, .int 1), (5, .int 0)], [.int 2])) rfl ?_
      refine xe_sn pg_117 4 (fr' := (82, [(7, .int 2), (6, .int 0), (0, .ref 165), (1, .int 0), (2, .int p1), (3, .int 0), (4, .int 1), (5, .int 0)], [.ref 166])) rfl ?_
      refine xe_sn pg_117 4 (fr' := (88, [(7, .int 2), (6, .int 0), (0, .ref 165), (1, .int 0), (2, .int p1), (3, .int 0), (4, .int 1), (5, .int 0)], [.int 2, .int 4, .ref 166])) rfl ?_
      refine xe_sn pg_117 4 (fr' := (95, [(7, .int 2), (6, .int 0), (0, .ref 165), (1, .int 0), (2, .int p1), (3, .int 0), (4, .int 1), (5, .int 0)], [.int 2, .ref 187, .int 6, .ref 166])) rfl ?_
      refine xe_sn pg_117 4 (fr' := (71, [(7, .int 3), (6, .int 0), (0, .ref 165), (1, .int 0), (2, .int p1), (3, .int 0), (4, .int 1), (5, .int 0)], [])) rfl ?_
      refine xe_sn pg_117 4 (fr' := (79, [(7, .int 3), (6, .int 0), (0, .ref 165), (1, .int 0), (2, .int p1), (3, .int 0), (4, .int 1), (5, .int 0)], [.ref 165])) rfl ?_
      refine xe_sn pg_117 4 (fr' := (86, [(7, .int 3), (6, .int 0), (0, .ref 165), (1, .int 0), (2, .int p1), (3, .int 0), (4, .int 1), (5, .int 0)], [.int 4, .ref 166])) rfl ?_
      refine xe_sn pg_117 4 (fr' := (93, [(7, .int 3), (6, .int 0), (0, .ref 165), (1, .int 0), (2, .int p1), (3, .int 0), (4, .int 1), (5, .int 0)], [.ref 187, .int 7, .ref 166])) rfl ?_
      refine xe_sn pg_117 4 (fr' := (100, [(7, .int 4), (6, .int 0), (0, .ref 165), (1, .int 0), (2, .int p1), (3, .int 0), (4, .int 1), (5, .int 0)], [])) rfl ?_
      refine xe_sn pg_117 4 (fr' := (78, [(7, .int 4), (6, .int 0), (0, .ref 165), (1, .int 0), (2, .int p1), (3, .int 0), (4, .int 1), (5, .int 0)], [])) rfl ?_
      refine xe_sn pg_117 4 (fr' := (85, [(7, .int 4), (6, .int 0), (0, .ref 165), (1, .int 0), (2, .int p1), (3, .int 0), (4, .int 1), (5, .int 0)], [.int 4, .int 0, .ref 166])) rfl ?_
      refine xe_sn pg_117 4 (fr' := (90, [(7, .int 4), (6, .int 0), (0, .ref 165), (1, .int 0), (2, .int p1), (3, .int 0), (4, .int 1), (5, .int 0)], [.ref 165, .int 8, .ref 166])) rfl ?_
      refine xe_sn pg_117 4 (fr' := (97, [(7, .int 4), (6, .int 0), (0, .ref 165), (1, .int 0), (2, .int p1), (3, .int 0), (4, .int 1), (5, .int 0)], [])) rfl ?_
      refine xe_sn pg_117 4 (fr' := (75, [(7, .int 5), (6, .int 0), (0, .ref 165), (1, .int 0), (2, .int p1), (3, .int 0), (4, .int 1), (5, .int 0)], [.int 14, .int 5])) rfl ?_
      refine xe_sn pg_117 4 (fr' := (84, [(7, .int 5), (6, .int 0), (0, .ref 165), (1, .int 0), (2, .int p1), (3, .int 0), (4, .int 1), (5, .int 0)], [.int 0, .ref 166])) rfl ?_
      refine xe_sn pg_117 4 (fr' := (89, [(7, .int 5), (6, .int 0), (0, .ref 165), (1, .int 0), (2, .int p1), (3, .int 0), (4, .int 1), (5, .int 0)], [.int 9, .ref 166])) rfl ?_
      refine xe_sn pg_117 4 (fr' := (96, [(7, .int 5), (6, .int 0), (0, .ref 165), (1, .int 0), (2, .int p1), (3, .int 0), (4, .int 1), (5, .int 0)], [.int 0, .int 9, .ref 166])) rfl ?_
      refine xe_sn pg_117 4 (fr' := (73, [(7, .int 6), (6, .int 0), (0, .ref 165), (1, .int 0), (2, .int p1), (3, .int 0), (4, .int 1), (5, .int 0)], [.int 6])) rfl ?_
      refine xe_sn pg_117 4 (fr' := (82, [(7, .int 6), (6, .int 0), (0, .ref 165), (1, .int 0), (2, .int p1), (3, .int 0), (4, .int 1), (5, .int 0)], [.ref 166])) rfl ?_
      refine xe_sn pg_117 4 (fr' := (88, [(7, .int 6), (6, .int 0), (0, .ref 165), (1, .int 0), (2, .int p1), (3, .int 0), (4, .int 1), (5, .int 0)], [.int 6, .int 4, .ref 166])) rfl ?_
      refine xe_sn pg_117 4 (fr' := (95, [(7, .int 6), (6, .int 0), (0, .ref 165), (1, .int 0), (2, .int p1), (3, .int 0), (4, .int 1), (5, .int 0)], [.int 6, .ref 187, .int 10, .ref 166])) rfl ?_
      refine xe_sn pg_117 4 (fr' := (71, [(7, .int 7), (6, .int 0), (0, .ref 165), (1, .int 0), (2, .int p1), (3, .int 0), (4, .int 1), (5, .int 0)], [])) rfl ?_
      refine xe_sn pg_117 4 (fr' := (79, [(7, .int 7), (6, .int 0), (0, .ref 165), (1, .int 0), (2, .int p1), (3, .int 0), (4, .int 1), (5, .int 0)], [.ref 165])) rfl ?_
      refine xe_sn pg_117 4 (fr' := (86, [(7, .int 7), (6, .int 0), (0, .ref 165), (1, .int 0), (2, .int p1), (3, .int 0), (4, .int 1), (5, .int 0)], [.int 4, .ref 166])) rfl ?_
      refine xe_sn pg_117 4 (fr' := (93, [(7, .int 7), (6, .int 0), (0, .ref 165), (1, .int 0), (2, .int p1), (3, .int 0), (4, .int 1), (5, .int 0)], [.ref 187, .int 11, .ref 166])) rfl ?_
      refine xe_sn pg_117 4 (fr' := (100, [(7, .int 8), (6, .int 0), (0, .ref 165), (1, .int 0), (2, .int p1), (3, .int 0), (4, .int 1), (5, .int 0)], [])) rfl ?_
      refine xe_sn pg_117 4 (fr' := (78, [(7, .int 8), (6, .int 0), (0, .ref 165), (1, .int 0), (2, .int p1), (3, .int 0), (4, .int 1), (5, .int 0)], [])) rfl ?_
      refine xe_sn pg_117 4 (fr' := (85, [(7, .int 8), (6, .int 0), (0, .ref 165), (1, .int 0), (2, .int p1), (3, .int 0), (4, .int 1), (5, .int 0)], [.int 4, .int 0, .ref 166])) rfl ?_
      refine xe_sn pg_117 4 (fr' := (90, [(7, .int 8), (6, .int 0), (0, .ref 165), (1, .int 0), (2, .int p1), (3, .int 0), (4, .int 1), (5, .int 0)], [.ref 165, .int 12, .ref 166])) rfl ?_
      refine xe_sn pg_117 4 (fr' := (97, [(7, .int 8), (6, .int 0), (0, .ref 165), (1, .int 0), (2, .int p1), (3, .int 0), (4, .int 1), (5, .int 0)], [])) rfl ?_
      refine xe_sn pg_117 4 (fr' := (75, [(7, .int 9), (6, .int 0), (0, .ref 165), (1, .int 0), (2, .int p1), (3, .int 0), (4, .int 1), (5, .int 0)], [.int 14, .int 9])) rfl ?_
      refine xe_sn pg_117 4 (fr' := (84, [(7, .int 9), (6, .int 0), (0, .ref 165), (1, .int 0), (2, .int p1), (3, .int 0), (4, .int 1), (5, .int 0)], [.int 0, .ref 166])) rfl ?_
      refine xe_sn pg_117 4 (fr' := (89, [(7, .int 9), (6, .int 0), (0, .ref 165), (1, .int 0), (2, .int p1), (3, .int 0), (4, .int 1), (5, .int 0)], [.int 13, .ref 166])) rfl ?_
      refine xe_sn pg_117 4 (fr' := (96, [(7, .int 9), (6, .int 0), (0, .ref 165), (1, .int 0), (2, .int p1), (3, .int 0), (4, .int 1), (5, .int 0)], [.int 0, .int 13, .ref 166])) rfl ?_
      refine xe_sn pg_117 4 (fr' := (73, [(7, .int 10), (6, .int 0), (0, .ref 165), (1, .int 0), (2, .int p1), (3, .int 0), (4, .int 1), (5, .int 0)], [.int 10])) rfl ?_
      refine xe_sn pg_117 4 (fr' := (82, [(7, .int 10), (6, .int 0), (0, .ref 165), (1, .int 0), (2, .int p1), (3, .int 0), (4, .int 1), (5, .int 0)], [.ref 166])) rfl ?_
      refine xe_sn pg_117 4 (fr' := (88, [(7, .int 10), (6, .int 0), (0, .ref 165), (1, .int 0), (2, .int p1), (3, .int 0), (4, .int 1), (5, .int 0)], [.int 10, .int 4, .ref 166])) rfl ?_
      refine xe_sn pg_117 4 (fr' := (95, [(7, .int 10), (6, .int 0), (0, .ref 165), (1, .int 0), (2, .int p1), (3, .int 0), (4, .int 1), (5, .int 0)], [.int 10, .ref 187, .int 14, .ref 166])) rfl ?_
      refine xe_sn pg_117 4 (fr' := (71, [(7, .int 11), (6, .int 0), (0, .ref 165), (1, .int 0), (2, .int p1), (3, .int 0), (4, .int 1), (5, .int 0)], [])) rfl ?_
      refine xe_sn pg_117 4 (fr' := (79, [(7, .int 11), (6, .int 0), (0, .ref 165), (1, .int 0), (2, .int p1), (3, .int 0), (4, .int 1), (5, .int 0)], [.ref 165])) rfl ?_
      refine xe_sn pg_117 4 (fr' := (86, [(7, .int 11), (6, .int 0), (0, .ref 165), (1, .int 0), (2, .int p1), (3, .int 0), (4, .int 1), (5, .int 0)], [.int 4, .ref 166])) rfl ?_
      refine xe_sn pg_117 4 (fr' := (93, [(7, .int 11), (6, .int 0), (0, .ref 165), (1, .int 0), (2, .int p1), (3, .int 0), (4, .int 1), (5, .int 0)], [.ref 187, .int 15, .ref 166])) rfl ?_
      refine xe_sn pg_117 4 (fr' := (100, [(7, .int 12), (6, .int 0), (0, .ref 165), (1, .int 0), (2, .int p1), (3, .int 0), (4, .int 1), (5, .int 0)], [])) rfl ?_
      refine xe_sn pg_117 4 (fr' := (78, [(7, .int 12), (6, .int 0), (0, .ref 165), (1, .int 0), (2, .int p1), (3, .int 0), (4, .int 1), (5, .int 0)], [])) rfl ?_
      refine xe_sn pg_117 4 (fr' := (85, [(7, .int 12), (6, .int 0), (0, .ref 165), (1, .int 0), (2, .int p1), (3, .int 0), (4, .int 1), (5, .int 0)], [.int 4, .int 0, .ref 166])) rfl ?_
      refine xe_sn pg_117 4 (fr' := (90, [(7, .int 12), (6, .int 0), (0, .ref 165), (1, .int 0), (2, .int p1), (3, .int 0), (4, .int 1), (5, .int 0)], [.ref 165, .int 16, .ref 166])) rfl ?_
      refine xe_sn pg_117 4 (fr' := (97, [(7, .int 12), (6, .int 0), (0, .ref 165), (1, .int 0), (2, .int p1), (3, .int 0), (4, .int 1), (5, .int 0)], [])) rfl ?_
      refine xe_sn pg_117 4 (fr' := (75, [(7, .int 13), (6, .int 0), (0, .ref 165), (1, .int 0), (2, .int p1), (3, .int 0), (4, .int 1), (5, .int 0)], [.int 14, .int 13])) rfl ?_
      refine xe_sn pg_117 4 (fr' := (84, [(7, .int 13), (6, .int 0), (0, .ref 165), (1, .int 0), (2, .int p1), (3, .int 0), (4, .int 1), (5, .int 0)], [.int 0, .ref 166])) rfl ?_
      refine xe_sn pg_117 4 (fr' := (89, [(7, .int 13), (6, .int 0), (0, .ref 165), (1, .int 0), (2, .int p1), (3, .int 0), (4, .int 1), (5, .int 0)], [.int 17, .ref 166])) rfl ?_
      refine xe_sn pg_117 4 (fr' := (96, [(7, .int 13), (6, .int 0), (0, .ref 165), (1, .int 0), (2, .int p1), (3, .int 0), (4, .int 1), (5, .int 0)], [.int 0, .int 17, .ref 166])) rfl ?_
      refine xe_sn pg_117 4 (fr' := (73, [(7, .int 14), (6, .int 0), (0, .ref 165), (1, .int 0), (2, .int p1), (3, .int 0), (4, .int 1), (5, .int 0)], [.int 14])) rfl ?_
      refine xe_sn pg_117 4 (fr' := (107, [(7, .int 14), (6, .int 0), (0, .ref 165), (1, .int 0), (2, .int p1), (3, .int 0), (4, .int 1), (5, .int 0)], [.ref 166])) rfl ?_
      refine xe_sn pg_117 4 (fr' := (114, [(7, .int 14), (6, .int 0), (0, .ref 165), (1, .int 0), (2, .int p1), (3, .int 0), (4, .int 1), (5, .int 0)], [.int 0, .int 18, .ref 166])) rfl ?_
      refine xe_sn pg_117 4 (fr' := (120, [(7, .int 14), (6, .int 0), (0, .ref 165), (1, .int 0), (2, .int p1), (3, .int 0), (4, .int 1), (5, .int 0)], [.int 0, .ref 165])) rfl ?_
      refine xe_sn pg_117 3 (fr' := (125, [(7, .int 14), (6, .int 0), (0, .ref 165), (1, .int 0), (2, .int p1), (3, .int 0), (4, .int 1), (5, .int 0)], [])) rfl ?_
      exact xe_end pg_117 rfl
    refine xe_sn pg_140 2 (fr' := (127, [(0, .ref 165), (1, .int 0), (2, .int p1), (3, .int (nI e2))], [.int 1])) rfl ?_
    exact xe_end pg_140 rfl
  · exact ⟨⟨rfl, rfl, rfl, rfl⟩, Nat.le_of_ble_eq_true rfl, Nat.le_of_ble_eq_true rfl, rfl, fun _ => rfl⟩

set_option maxRecDepth 100000 in
theorem lf_create_7 (xs : Nat → Int32) (p1 : Int32) (p2 : Int32) (a1 : p1.toInt < 1) : op_ok xs 161 140 [.ref 0, .int 1, .int p1, .int p2, .ref 189] [.ref 165, .int 1, .int p1, .int p2] := by
  refine ⟨1, 0, ?_⟩
  apply Exists.intro
  apply Exists.intro
  apply And.intro
  · refine xe_sn pg_161 4 (fr' := (5, [(0, .ref 0), (1, .int 1), (2, .int p1), (3, .int p2), (4, .ref 189)], [.int 1, .ref 0, .int 0, .ref 189])) rfl ?_
    refine xe_sn pg_161 2 (fr' := (7, [(0, .ref 0), (1, .int 1), (2, .int p1), (3, .int p2), (4, .ref 189)], [.int p2, .int p1, .int 1, .ref 0, .int 0, .ref 189])) rfl ?_
    apply xe_callq pg_161 74 [.ref 0, .int 1, .int p1, .int p2] (.inr 0) (17, [(0, .ref 0), (1, .int 1), (2, .int p1), (3, .int p2), (4, .ref 189)], []) rfl (fun _ => rfl)
    · refine xe_sn pg_74 1 (fr' := (1, [(0, .ref 0), (1, .int 1), (2, .int p1), (3, .int p2)], [.int 1])) rfl ?_
      apply xe_callq pg_74 92 [.int 1] (.inl none) (4, [(0, .ref 0), (1, .int 1), (2, .int p1), (3, .int p2)], []) rfl (fun _ => rfl)
      · refine xe_sn pg_92 2 (fr' := (2, [(0, .int 1)], [.int 4, .int 1])) rfl ?_
        apply xe_callq pg_92 95 [.int 1, .int 4] (.inl none) (5, [(0, .int 1)], []) rfl (fun _ => rfl)
        · refine xe_sn pg_95 4 (fr' := (6, [(0, .int 1), (1, .int 4)], [.int 4, .int 1])) rfl ?_
          refine xe_sn pg_95 1 (fr' := (17, [(0, .int 1), (1, .int 4)], [])) rfl ?_
          exact xe_end pg_95 rfl
        exact xe_end pg_92 rfl
      refine xe_sn pg_74 1 (fr' := (5, [(0, .ref 0), (1, .int 1), (2, .int p1), (3, .int p2)], [.int p1])) rfl ?_
      apply xe_callqx pg_74 93 [.int p1] 0 rfl (fun _ => rfl)
      · refine xe_sn pg_93 2 (fr' := (2, [(0, .int p1)], [.int 1, .int p1])) rfl ?_
        refine xe_t2 pg_93 10 rfl rfl (by show (p1).toInt < 1; omega) ?_
        exact xe_end pg_93 rfl
    refine xe_sn pg_161 1 (fr' := (18, [(0, .ref 0), (1, .int 1), (2, .int p1), (3, .int p2), (4, .ref 189)], [.int 1])) rfl ?_
    exact xe_end pg_161 rfl
  refine And.intro ⟨rfl, rfl, rfl, rfl⟩ ?_
  apply And.intro
  · refine xe_sn pg_140 2 (fr' := (2, [(0, .ref 165), (1, .int 1), (2, .int p1), (3, .int p2)], [.int 1, .ref 165])) rfl ?_
    apply xe_callq pg_140 104 [.int 1] (.inl (some (.int 1))) (5, [(0, .ref 165), (1, .int 1), (2, .int p1), (3, .int p2)], [.int 1, .ref 165]) rfl (fun _ => rfl)
    · refine xe_sn pg_104 3 (fr' := (3, [(0, .int 1)], [.int 3, .int 0, .int 1])) rfl ?_
      apply xe_callq pg_104 103 [.int 1, .int 0, .int 3] (.inl (some (.int 1))) (6, [(0, .int 1)], [.int 1]) rfl (fun _ => rfl)
      · refine xe_sn pg_103 4 (fr' := (6, [(0, .int 1), (1, .int 0), (2, .int 3)], [.int 1])) rfl ?_
        refine xe_sn pg_103 4 (fr' := (15, [(0, .int 1), (1, .int 0), (2, .int 3)], [.int 1])) rfl ?_
        exact xe_end pg_103 rfl
      exact xe_end pg_104 rfl
    refine xe_sn pg_140 2 (fr' := (9, [(0, .ref 165), (1, .int 1), (2, .int p1), (3, .int p2)], [.int p1, .ref 165])) rfl ?_
    apply xe_callq pg_140 105 [.int p1] (.inl (some (.int 0))) (12, [(0, .ref 165), (1, .int 1), (2, .int p1), (3, .int p2)], [.int 0, .ref 165]) rfl (fun _ => rfl)
    · refine xe_sn pg_105 3 (fr' := (3, [(0, .int p1)], [.int 4, .int 1, .int p1])) rfl ?_
      apply xe_callq pg_105 103 [.int p1, .int 1, .int 4] (.inl (some (.int 0))) (6, [(0, .int p1)], [.int 0]) rfl (fun _ => rfl)
      · refine xe_sn pg_103 2 (fr' := (2, [(0, .int p1), (1, .int 1), (2, .int 4)], [.int 1, .int p1])) rfl ?_
        refine xe_t2 pg_103 14 rfl rfl (by show (p1).toInt < 1; omega) ?_
        refine xe_sn pg_103 1 (fr' := (15, [(0, .int p1), (1, .int 1), (2, .int 4)], [.int 0])) rfl ?_
        exact xe_end pg_103 rfl
      exact xe_end pg_105 rfl
    refine xe_sn pg_140 4 (fr' := (49, [(0, .ref 165), (1, .int 1), (2, .int p1), (3, .int p2)], [])) rfl ?_
    refine xe_sn pg_140 4 (fr' := (57, [(0, .ref 165), (1, .int 1), (2, .int p1), (3, .int p2)], [.int 0])) rfl ?_
    exact xe_end pg_140 rfl
  · exact ⟨⟨rfl, rfl, rfl, rfl⟩, Nat.le_of_ble_eq_true rfl, Nat.le_of_ble_eq_true rfl, rfl, fun q => absurd q (by decide)⟩

set_option maxRecDepth 100000 in
theorem lf_create_8 (xs : Nat → Int32) (p1 : Int32) (p2 : Int32) (b1 : 4 < p1.toInt) : op_ok xs 161 140 [.ref 0, .int 1, .int p1, .int p2, .ref 189] [.ref 165, .int 1, .int p1, .int p2] := by
  refine ⟨1, 0, ?_⟩
  apply Exists.intro
  apply Exists.intro
  apply And.intro
  · refine xe_sn pg_161 4 (fr' := (5, [(0, .ref 0), (1, .int 1), (2, .int p1), (3, .int p2), (4, .ref 189)], [.int 1, .ref 0, .int 0, .ref 189])) rfl ?_
    refine xe_sn pg_161 2 (fr' := (7, [(0, .ref 0), (1, .int 1), (2, .int p1), (3, .int p2), (4, .ref 189)], [.int p2, .int p1, .int 1, .ref 0, .int 0, .ref 189])) rfl ?_
    apply xe_callq pg_161 74 [.ref 0, .int 1, .int p1, .int p2] (.inr 0) (17, [(0, .ref 0), (1, .int 1), (2, .int p1), (3, .int p2), (4, .ref 189)], []) rfl (fun _ => rfl)
    · refine xe_sn pg_74 1 (fr' := (1, [(0, .ref 0), (1, .int 1), (2, .int p1), (3, .int p2)], [.int 1])) rfl ?_
      apply xe_callq pg_74 92 [.int 1] (.inl none) (4, [(0, .ref 0), (1, .int 1), (2, .int p1), (3, .int p2)], []) rfl (fun _ => rfl)
      · refine xe_sn pg_92 2 (fr' := (2, [(0, .int 1)], [.int 4, .int 1])) rfl ?_
        apply xe_callq pg_92 95 [.int 1, .int 4] (.inl none) (5, [(0, .int 1)], []) rfl (fun _ => rfl)
        · refine xe_sn pg_95 4 (fr' := (6, [(0, .int 1), (1, .int 4)], [.int 4, .int 1])) rfl ?_
          refine xe_sn pg_95 1 (fr' := (17, [(0, .int 1), (1, .int 4)], [])) rfl ?_
          exact xe_end pg_95 rfl
        exact xe_end pg_92 rfl
      refine xe_sn pg_74 1 (fr' := (5, [(0, .ref 0), (1, .int 1), (2, .int p1), (3, .int p2)], [.int p1])) rfl ?_
      apply xe_callqx pg_74 93 [.int p1] 0 rfl (fun _ => rfl)
      · refine xe_sn pg_93 2 (fr' := (2, [(0, .int p1)], [.int 1, .int p1])) rfl ?_
        refine xe_f2 pg_93 10 rfl rfl (by show ¬ ((p1).toInt < 1); omega) ?_
        refine xe_sn pg_93 2 (fr' := (7, [(0, .int p1)], [.int 4, .int p1])) rfl ?_
        refine xe_f2 pg_93 18 rfl rfl (by show ¬ ((p1).toInt ≤ 4); omega) ?_
        exact xe_end pg_93 rfl
    refine xe_sn pg_161 1 (fr' := (18, [(0, .ref 0), (1, .int 1), (2, .int p1), (3, .int p2), (4, .ref 189)], [.int 1])) rfl ?_
    exact xe_end pg_161 rfl
  refine And.intro ⟨rfl, rfl, rfl, rfl⟩ ?_
  apply And.intro
  · refine xe_sn pg_140 2 (fr' := (2, [(0, .ref 165), (1, .int 1), (2, .int p1), (3, .int p2)], [.int 1, .ref 165])) rfl ?_
    apply xe_callq pg_140 104 [.int 1] (.inl (some (.int 1))) (5, [(0, .ref 165), (1, .int 1), (2, .int p1), (3, .int p2)], [.int 1, .ref 165]) rfl (fun _ => rfl)
    · refine xe_sn pg_104 3 (fr' := (3, [(0, .int 1)], [.int 3, .int 0, .int 1])) rfl ?_
      apply xe_callq pg_104 103 [.int 1, .int 0, .int 3] (.inl (some (.int 1))) (6, [(0, .int 1)], [.int 1]) rfl (fun _ => rfl)
      · refine xe_sn pg_103 4 (fr' := (6, [(0, .int 1), (1, .int 0), (2, .int 3)], [.int 1])) rfl ?_
        refine xe_sn pg_103 4 (fr' := (15, [(0, .int 1), (1, .int 0), (2, .int 3)], [.int 1])) rfl ?_
        exact xe_end pg_103 rfl
      exact xe_end pg_104 rfl
    refine xe_sn pg_140 2 (fr' := (9, [(0, .ref 165), (1, .int 1), (2, .int p1), (3, .int p2)], [.int p1, .ref 165])) rfl ?_
    apply xe_callq pg_140 105 [.int p1] (.inl (some (.int 0))) (12, [(0, .ref 165), (1, .int 1), (2, .int p1), (3, .int p2)], [.int 0, .ref 165]) rfl (fun _ => rfl)
    · refine xe_sn pg_105 3 (fr' := (3, [(0, .int p1)], [.int 4, .int 1, .int p1])) rfl ?_
      apply xe_callq pg_105 103 [.int p1, .int 1, .int 4] (.inl (some (.int 0))) (6, [(0, .int p1)], [.int 0]) rfl (fun _ => rfl)
      · refine xe_sn pg_103 2 (fr' := (2, [(0, .int p1), (1, .int 1), (2, .int 4)], [.int 1, .int p1])) rfl ?_
        refine xe_f2 pg_103 14 rfl rfl (by show ¬ ((p1).toInt < 1); omega) ?_
        refine xe_sn pg_103 2 (fr' := (7, [(0, .int p1), (1, .int 1), (2, .int 4)], [.int 4, .int p1])) rfl ?_
        refine xe_t2 pg_103 14 rfl rfl (by show 4 < (p1).toInt; omega) ?_
        refine xe_sn pg_103 1 (fr' := (15, [(0, .int p1), (1, .int 1), (2, .int 4)], [.int 0])) rfl ?_
        exact xe_end pg_103 rfl
      exact xe_end pg_105 rfl
    refine xe_sn pg_140 4 (fr' := (49, [(0, .ref 165), (1, .int 1), (2, .int p1), (3, .int p2)], [])) rfl ?_
    refine xe_sn pg_140 4 (fr' := (57, [(0, .ref 165), (1, .int 1), (2, .int p1), (3, .int p2)], [.int 0])) rfl ?_
    exact xe_end pg_140 rfl
  · exact ⟨⟨rfl, rfl, rfl, rfl⟩, Nat.le_of_ble_eq_true rfl, Nat.le_of_ble_eq_true rfl, rfl, fun q => absurd q (by decide)⟩

set_option maxRecDepth 100000 in
theorem lf_create_9 (xs : Nat → Int32) (p1 : Int32) (p2 : Int32) (a1 : 1 ≤ p1.toInt) (b1 : p1.toInt ≤ 4) (a2 : p2.toInt < 1) : op_ok xs 161 140 [.ref 0, .int 1, .int p1, .int p2, .ref 189] [.ref 165, .int 1, .int p1, .int p2] := by
  refine ⟨2, 0, ?_⟩
  apply Exists.intro
  apply Exists.intro
  apply And.intro
  · refine xe_sn pg_161 4 (fr' := (5, [(0, .ref 0), (1, .int 1), (2, .int p1), (3, .int p2), (4, .ref 189)], [.int 1, .ref 0, .int 0, .ref 189])) rfl ?_
    refine xe_sn pg_161 2 (fr' := (7, [(0, .ref 0), (1, .int 1), (2, .int p1), (3, .int p2), (4, .ref 189)], [.int p2, .int p1, .int 1, .ref 0, .int 0, .ref 189])) rfl ?_
    apply xe_callq pg_161 74 [.ref 0, .int 1, .int p1, .int p2] (.inr 1) (21, [(0, .ref 0), (1, .int 1), (2, .int p1), (3, .int p2), (4, .ref 189)], []) rfl (fun _ => rfl)
    · refine xe_sn pg_74 1 (fr' := (1, [(0, .ref 0), (1, .int 1), (2, .int p1), (3, .int p2)], [.int 1])) rfl ?_
      apply xe_callq pg_74 92 [.int 1] (.inl none) (4, [(0, .ref 0), (1, .int 1), (2, .int p1), (3, .int p2)], []) rfl (fun _ => rfl)
      · refine xe_sn pg_92 2 (fr' := (2, [(0, .int 1)], [.int 4, .int 1])) rfl ?_
        apply xe_callq pg_92 95 [.int 1, .int 4] (.inl none) (5, [(0, .int 1)], []) rfl (fun _ => rfl)
        · refine xe_sn pg_95 4 (fr' := (6, [(0, .int 1), (1, .int 4)], [.int 4, .int 1])) rfl ?_
          refine xe_sn pg_95 1 (fr' := (17, [(0, .int 1), (1, .int 4)], [])) rfl ?_
          exact xe_end pg_95 rfl
        exact xe_end pg_92 rfl
      refine xe_sn pg_74 1 (fr' := (5, [(0, .ref 0), (1, .int 1), (2, .int p1), (3, .int p2)], [.int p1])) rfl ?_
      apply xe_callq pg_74 93 [.int p1] (.inl none) (8, [(0, .ref 0), (1, .int 1), (2, .int p1), (3, .int p2)], []) rfl (fun _ => rfl)
      · refine xe_sn pg_93 2 (fr' := (2, [(0, .int p1)], [.int 1, .int p1])) rfl ?_
        refine xe_f2 pg_93 10 rfl rfl (by show ¬ ((p1).toInt < 1); omega) ?_
        refine xe_sn pg_93 2 (fr' := (7, [(0, .int p1)], [.int 4, .int p1])) rfl ?_
        refine xe_t2 pg_93 18 rfl rfl (by show (p1).toInt ≤ 4; omega) ?_
        exact xe_end pg_93 rfl
      refine xe_sn pg_74 1 (fr' := (9, [(0, .ref 0), (1, .int 1), (2, .int p1), (3, .int p2)], [.int p2])) rfl ?_
      apply xe_callqx pg_74 96 [.int p2] 1 rfl (fun _ => rfl)
      · refine xe_sn pg_96 2 (fr' := (2, [(0, .int p2)], [.int 1, .int p2])) rfl ?_
        refine xe_t2 pg_96 15 rfl rfl (by show (p2).toInt < 1; omega) ?_
        refine xe_sn pg_96 1 (fr' := (16, [(0, .int p2)], [.int 0])) rfl ?_
        apply xe_callqx pg_96 97 [.int 0] 1 rfl (fun _ => rfl)
        · refine xe_sn pg_97 2 (fr' := (4, [(0, .int 0)], [])) rfl ?_
          exact xe_end pg_97 rfl
    refine xe_sn pg_161 1 (fr' := (22, [(0, .ref 0), (1, .int 1), (2, .int p1), (3, .int p2), (4, .ref 189)], [.int 2])) rfl ?_
    exact xe_end pg_161 rfl
  refine And.intro ⟨rfl, rfl, rfl, rfl⟩ ?_
  apply And.intro
  · refine xe_sn pg_140 2 (fr' := (2, [(0, .ref 165), (1, .int 1), (2, .int p1), (3, .int p2)], [.int 1, .ref 165])) rfl ?_
    apply xe_callq pg_140 104 [.int 1] (.inl (some (.int 1))) (5, [(0, .ref 165), (1, .int 1), (2, .int p1), (3, .int p2)], [.int 1, .ref 165]) rfl (fun _ => rfl)
    · refine xe_sn pg_104 3 (fr' := (3, [(0, .int 1)], [.int 3, .int 0, .int 1])) rfl ?_
      apply xe_callq pg_104 103 [.int 1, .int 0, .int 3] (.inl (some (.int 1))) (6, [(0, .int 1)], [.int 1]) rfl (fun _ => rfl)
      · refine xe_sn pg_103 4 (fr' := (6, [(0, .int 1), (1, .int 0), (2, .int 3)], [.int 1])) rfl ?_
        refine xe_sn pg_103 4 (fr' := (15, [(0, .int 1), (1, .int 0), (2, .int 3)], [.int 1])) rfl ?_
        exact xe_end pg_103 rfl
      exact xe_end pg_104 rfl
    refine xe_sn pg_140 2 (fr' := (9, [(0, .ref 165), (1, .int 1), (2, .int p1), (3, .int p2)], [.int p1, .ref 165])) rfl ?_
    apply xe_callq pg_140 105 [.int p1] (.inl (some (.int 1))) (12, [(0, .ref 165), (1, .int 1), (2, .int p1), (3, .int p2)], [.int 1, .ref 165]) rfl (fun _ => rfl)
    · refine xe_sn pg_105 3 (fr' := (3, [(0, .int p1)], [.int 4, .int 1, .int p1])) rfl ?_
      apply xe_callq pg_105 103 [.int p1, .int 1, .int 4] (.inl (some (.int 1))) (6, [(0, .int p1)], [.int 1]) rfl (fun _ => rfl)
      · refine xe_sn pg_103 2 (fr' := (2, [(0, .int p1), (1, .int 1), (2, .int 4)], [.int 1, .int p1])) rfl ?_
        refine xe_f2 pg_103 14 rfl rfl (by show ¬ ((p1).toInt < 1); omega) ?_
        refine xe_sn pg_103 2 (fr' := (7, [(0, .int p1), (1, .int 1), (2, .int 4)], [.int 4, .int p1])) rfl ?_
        refine xe_f2 pg_103 14 rfl rfl (by show ¬ (4 < (p1).toInt); omega) ?_
        refine xe_sn pg_103 2 (fr' := (15, [(0, .int p1), (1, .int 1), (2, .int 4)], [.int 1])) rfl ?_
        exact xe_end pg_103 rfl
      exact xe_end pg_105 rfl
    refine xe_sn pg_140 4 (fr' := (23, [(0, .ref 165), (1, .int 1), (2, .int p1), (3, .int p2)], [.int 65519, .int 1, .int p2, .ref 165])) rfl ?_
    apply xe_callq pg_140 103 [.int p2, .int 1, .int 65519] (.inl (some (.int 0))) (26, [(0, .ref 165), (1, .int 1), (2, .int p1), (3, .int p2)], [.int 0, .ref 165]) rfl (fun _ => rfl)
    · refine xe_sn pg_103 2 (fr' := (2, [(0, .int p2), (1, .int 1), (2, .int 65519)], [.int 1, .int p2])) rfl ?_
      refine xe_t2 pg_103 14 rfl rfl (by show (p2).toInt < 1; omega) ?_
      refine xe_sn pg_103 1 (fr' := (15, [(0, .int p2), (1, .int 1), (2, .int 65519)], [.int 0])) rfl ?_
      exact xe_end pg_103 rfl
    refine xe_sn pg_140 4 (fr' := (49, [(0, .ref 165), (1, .int 1), (2, .int p1), (3, .int p2)], [])) rfl ?_
    refine xe_sn pg_140 4 (fr' := (57, [(0, .ref 165), (1, .int 1), (2, .int p1), (3, .int p2)], [.int 0])) rfl ?_
    exact xe_end pg_140 rfl
  · exact ⟨⟨rfl, rfl, rfl, rfl⟩, Nat.le_of_ble_eq_true rfl, Nat.le_of_ble_eq_true rfl, rfl, fun q => absurd q (by decide)⟩

set_option maxRecDepth 100000 in
theorem lf_create_10 (xs : Nat → Int32) (p1 : Int32) (p2 : Int32) (a1 : 1 ≤ p1.toInt) (b1 : p1.toInt ≤ 4) (b2 : 65519 < p2.toInt) : op_ok xs 161 140 [.ref 0, .int 1, .int p1, .int p2, .ref 189] [.ref 165, .int 1, .int p1, .int p2] := by
  refine ⟨2, 0, ?_⟩
  apply Exists.intro
  apply Exists.intro
  apply And.intro
  · refine xe_sn pg_161 4 (fr' := (5, [(0, .ref 0), (1, .int 1), (2, .int p1), (3, .int p2), (4, .ref 189)], [.int 1, .ref 0, .int 0, .ref 189])) rfl ?_
    refine xe_sn pg_161 2 (fr' := (7, [(0, .ref 0), (1, .int 1), (2, .int p1), (3, .int p2), (4, .ref 189)], [.int p2, .int p1, .int 1, .ref 0, .int 0, .ref 189])) rfl ?_
    apply xe_callq pg_161 74 [.ref 0, .int 1, .int p1, .int p2] (.inr 1) (21, [(0, .ref 0), (1, .int 1), (2, .int p1), (3, .int p2), (4, .ref 189)], []) rfl (fun _ => rfl)
    · refine xe_sn pg_74 1 (fr' := (1, [(0, .ref 0), (1, .int 1), (2, .int p1), (3, .int p2)], [.int 1])) rfl ?_
      apply xe_callq pg_74 92 [.int 1] (.inl none) (4, [(0, .ref 0), (1, .int 1), (2, .int p1), (3, .int p2)], []) rfl (fun _ => rfl)
      · refine xe_sn pg_92 2 (fr' := (2, [(0, .int 1)], [.int 4, .int 1])) rfl ?_
        apply xe_callq pg_92 95 [.int 1, .int 4] (.inl none) (5, [(0, .int 1)], []) rfl (fun _ => rfl)
        · refine xe_sn pg_95 4 (fr' := (6, [(0, .int 1), (1, .int 4)], [.int 4, .int 1])) rfl ?_
          refine xe_sn pg_95 1 (fr' := (17, [(0, .int 1), (1, .int 4)], [])) rfl ?_
          exact xe_end pg_95 rfl
        exact xe_end pg_92 rfl
      refine xe_sn pg_74 1 (fr' := (5, [(0, .ref 0), (1, .int 1), (2, .int p1), (3, .int p2)], [.int p1])) rfl ?_
      apply xe_callq pg_74 93 [.int p1] (.inl none) (8, [(0, .ref 0), (1, .int 1), (2, .int p1), (3, .int p2)], []) rfl (fun _ => rfl)
      · refine xe_sn pg_93 2 (fr' := (2, [(0, .int p1)], [.int 1, .int p1])) rfl ?_
        refine xe_f2 pg_93 10 rfl rfl (by show ¬ ((p1).toInt < 1); omega) ?_
        refine xe_sn pg_93 2 (fr' := (7, [(0, .int p1)], [.int 4, .int p1])) rfl ?_
        refine xe_t2 pg_93 18 rfl rfl (by show (p1).toInt ≤ 4; omega) ?_
        exact xe_end pg_93 rfl
      refine xe_sn pg_74 1 (fr' := (9, [(0, .ref 0), (1, .int 1), (2, .int p1), (3, .int p2)], [.int p2])) rfl ?_
      apply xe_callqx pg_74 96 [.int p2] 1 rfl (fun _ => rfl)
      · refine xe_sn pg_96 2 (fr' := (2, [(0, .int p2)], [.int 1, .int p2])) rfl ?_
        refine xe_f2 pg_96 15 rfl rfl (by show ¬ ((p2).toInt < 1); omega) ?_
        refine xe_sn pg_96 2 (fr' := (8, [(0, .int p2)], [.int 65519, .int p2])) rfl ?_
        refine xe_t2 pg_96 15 rfl rfl (by show 65519 < (p2).toInt; omega) ?_
        refine xe_sn pg_96 1 (fr' := (16, [(0, .int p2)], [.int 0])) rfl ?_
        apply xe_callqx pg_96 97 [.int 0] 1 rfl (fun _ => rfl)
        · refine xe_sn pg_97 2 (fr' := (4, [(0, .int 0)], [])) rfl ?_
          exact xe_end pg_97 rfl
    refine xe_sn pg_161 1 (fr' := (22, [(0, .ref 0), (1, .int 1), (2, .int p1), (3, .int p2), (4, .ref 189)], [.int 2])) rfl ?_
    exact xe_end pg_161 rfl
  refine And.intro ⟨rfl, rfl, rfl, rfl⟩ ?_
  apply And.intro
  · refine xe_sn pg_140 2 (fr' := (2, [(0, .ref 165), (1, .int 1), (2, .int p1), (3, .int p2)], [.int 1, .ref 165])) rfl ?_
    apply xe_callq pg_140 104 [.int 1] (.inl (some (.int 1))) (5, [(0, .ref 165), (1, .int 1), (2, .int p1), (3, .int p2)], [.int 1, .ref 165]) rfl (fun _ => rfl)
    · refine xe_sn pg_104 3 (fr' := (3, [(0, .int 1)], [.int 3, .int 0, .int 1])) rfl ?_
      apply xe_callq pg_104 103 [.int 1, .int 0, .int 3] (.inl (some (.int 1))) (6, [(0, .int 1)], [.int 1]) rfl (fun _ => rfl)
      · refine xe_sn pg_103 4 (fr' := (6, [(0, .int 1), (1, .int 0), (2, .int 3)], [.int 1])) rfl ?_
        refine xe_sn pg_103 4 (fr' := (15, [(0, .int 1), (1, .int 0), (2, .int 3)], [.int 1])) rfl ?_
        exact xe_end pg_103 rfl
      exact xe_end pg_104 rfl
    refine xe_sn pg_140 2 (fr' := (9, [(0, .ref 165), (1, .int 1), (2, .int p1), (3, .int p2)], [.int p1, .ref 165])) rfl ?_
    apply xe_callq pg_140 105 [.int p1] (.inl (some (.int 1))) (12, [(0, .ref 165), (1, .int 1), (2, .int p1), (3, .int p2)], [.int 1, .ref 165]) rfl (fun _ => rfl)
    · refine xe_sn pg_105 3 (fr' := (3, [(0, .int p1)], [.int 4, .int 1, .int p1])) rfl ?_
      apply xe_callq pg_105 103 [.int p1, .int 1, .int 4] (.inl (some (.int 1))) (6, [(0, .int p1)], [.int 1]) rfl (fun _ => rfl)
      · refine xe_sn pg_103 2 (fr' := (2, [(0, .int p1), (1, .int 1), (2, .int 4)], [.int 1, .int p1])) rfl ?_
        refine xe_f2 pg_103 14 rfl rfl (by show ¬ ((p1).toInt < 1); omega) ?_
        refine xe_sn pg_103 2 (fr' := (7, [(0, .int p1), (1, .int 1), (2, .int 4)], [.int 4, .int p1])) rfl ?_
        refine xe_f2 pg_103 14 rfl rfl (by show ¬ (4 < (p1).toInt); omega) ?_
        refine xe_sn pg_103 2 (fr' := (15, [(0, .int p1), (1, .int 1), (2, .int 4)], [.int 1])) rfl ?_
        exact xe_end pg_103 rfl
      exact xe_end pg_105 rfl
    refine xe_sn pg_140 4 (fr' := (23, [(0, .ref 165), (1, .int 1), (2, .int p1), (3, .int p2)], [.int 65519, .int 1, .int p2, .ref 165])) rfl ?_
    apply xe_callq pg_140 103 [.int p2, .int 1, .int 65519] (.inl (some (.int 0))) (26, [(0, .ref 165), (1, .int 1), (2, .int p1), (3, .int p2)], [.int 0, .ref 165]) rfl (fun _ => rfl)
    · refine xe_sn pg_103 2 (fr' := (2, [(0, .int p2), (1, .int 1), (2, .int 65519)], [.int 1, .int p2])) rfl ?_
      refine xe_f2 pg_103 14 rfl rfl (by show ¬ ((p2).toInt < 1); omega) ?_
      refine xe_sn pg_103 2 (fr' := (7, [(0, .int p2), (1, .int 1), (2, .int 65519)], [.int 65519, .int p2])) rfl ?_
      refine xe_t2 pg_103 14 rfl rfl (by show 65519 < (p2).toInt; omega) ?_
      refine xe_sn pg_103 1 (fr' := (15, [(0, .int p2), (1, .int 1), (2, .int 65519)], [.int 0])) rfl ?_
      exact xe_end pg_103 rfl
    refine xe_sn pg_140 4 (fr' := (49, [(0, .ref 165), (1, .int 1), (2, .int p1), (3, .int p2)], [])) rfl ?_
    refine xe_sn pg_140 4 (fr' := (57, [(0, .ref 165), (1, .int 1), (2, .int p1), (3, .int p2)], [.int 0])) rfl ?_
    exact xe_end pg_140 rfl
  · exact ⟨⟨rfl, rfl, rfl, rfl⟩, Nat.le_of_ble_eq_true rfl, Nat.le_of_ble_eq_true rfl, rfl, fun q => absurd q (by decide)⟩

set_option maxRecDepth 100000 in
theorem lf_create_11 (xs : Nat → Int32) (p1 : Int32) (e2 : Nat) (a1 : 1 ≤ p1.toInt) (b1 : p1.toInt ≤ 4) (c2 : 1 ≤ e2) (d2 : e2 ≤ 65519) : op_ok xs 161 140 [.ref 0, .int 1, .int p1, .int (nI e2), .ref 189] [.ref 165, .int 1, .int p1, .int (nI e2)] := by
  refine ⟨0, 1, ?_⟩
  apply Exists.intro
  apply Exists.intro
  apply And.intro
  · refine xe_sn pg_161 4 (fr' := (5, [(0, .ref 0), (1, .int 1), (2, .int p1), (3, .int (nI e2)), (4, .ref 189)], [.int 1, .ref 0, .int 0, .ref 189])) rfl ?_
    refine xe_sn pg_161 2 (fr' := (7, [(0, .ref 0), (1, .int 1), (2, .int p1), (3, .int (nI e2)), (4, .ref 189)], [.int (nI e2), .int p1, .int 1, .ref 0, .int 0, .ref 189])) rfl ?_
    apply xe_callq pg_161 74 [.ref 0, .int 1, .int p1, .int (nI e2)] (.inl (some (.int 1))) (10, [(0, .ref 0), (1, .int 1), (2, .int p1), (3, .int (nI e2)), (4, .ref 189)], [.int 1, .int 0, .ref 189]) rfl (fun _ => rfl)
    · refine xe_sn pg_74 1 (fr' := (1, [(0, .ref 0), (1, .int 1), (2, .int p1), (3, .int (nI e2))], [.int 1])) rfl ?_
      apply xe_callq pg_74 92 [.int 1] (.inl none) (4, [(0, .ref 0), (1, .int 1), (2, .int p1), (3, .int (nI e2))], []) rfl (fun _ => rfl)
      · refine xe_sn pg_92 2 (fr' := (2, [(0, .int 1)], [.int 4, .int 1])) rfl ?_
        apply xe_callq pg_92 95 [.int 1, .int 4] (.inl none) (5, [(0, .int 1)], []) rfl (fun _ => rfl)
        · refine xe_sn pg_95 4 (fr' := (6, [(0, .int 1), (1, .int 4)], [.int 4, .int 1])) rfl ?_
          refine xe_sn pg_95 1 (fr' := (17, [(0, .int 1), (1, .int 4)], [])) rfl ?_
          exact xe_end pg_95 rfl
        exact xe_end pg_92 rfl
      refine xe_sn pg_74 1 (fr' := (5, [(0, .ref 0), (1, .int 1), (2, .int p1), (3, .int (nI e2))], [.int p1])) rfl ?_
      apply xe_callq pg_74 93 [.int p1] (.inl none) (8, [(0, .ref 0), (1, .int 1), (2, .int p1), (3, .int (nI e2))], []) rfl (fun _ => rfl)
      · refine xe_sn pg_93 2 (fr' := (2, [(0, .int p1)], [.int 1, .int p1])) rfl ?_
        refine xe_f2 pg_93 10 rfl rfl (by show ¬ ((p1).toInt < 1); omega) ?_
        refine xe_sn pg_93 2 (fr' := (7, [(0, .int p1)], [.int 4, .int p1])) rfl ?_
        refine xe_t2 pg_93 18 rfl rfl (by show (p1).toInt ≤ 4; omega) ?_
        exact xe_end pg_93 rfl
      refine xe_sn pg_74 1 (fr' := (9, [(0, .ref 0), (1, .int 1), (2, .int p1), (3, .int (nI e2))], [.int (nI e2)])) rfl ?_
      apply xe_callq pg_74 96 [.int (nI e2)] (.inl none) (12, [(0, .ref 0), (1, .int 1), (2, .int p1), (3, .int (nI e2))], []) rfl (fun _ => rfl)
      · refine xe_sn pg_96 2 (fr' := (2, [(0, .int (nI e2))], [.int 1, .int (nI e2)])) rfl ?_
        refine xe_f2 pg_96 15 rfl rfl (by show ¬ (((nI e2)).toInt < 1); rw [nI_toInt (n := e2) (by omega)]; omega) ?_
        refine xe_sn pg_96 2 (fr' := (8, [(0, .int (nI e2))], [.int 65519, .int (nI e2)])) rfl ?_
        refine xe_f2 pg_96 15 rfl rfl (by show ¬ (65519 < ((nI e2)).toInt); rw [nI_toInt (n := e2) (by omega)]; omega) ?_
        refine xe_sn pg_96 2 (fr' := (16, [(0, .int (nI e2))], [.int 1])) rfl ?_
        apply xe_callq pg_96 97 [.int 1] (.inl none) (19, [(0, .int (nI e2))], []) rfl (fun _ => rfl)
        · refine xe_sn pg_97 2 (fr' := (12, [(0, .int 1)], [])) rfl ?_
          exact xe_end pg_97 rfl
        exact xe_end pg_96 rfl
      refine xe_sn pg_74 4 (fr' := (18, [(0, .ref 0), (1, .int 1), (2, .int p1), (3, .int (nI e2))], [.ref 132])) rfl ?_
      refine xe_sn pg_74 2 (fr' := (22, [(4, .ref 132), (0, .ref 0), (1, .int 1), (2, .int p1), (3, .int (nI e2))], [.ref 132])) rfl ?_
      apply xe_callq pg_74 16 [.ref 132] (.inl (some (.int 0))) (25, [(4, .ref 132), (0, .ref 0), (1, .int 1), (2, .int p1), (3, .int (nI e2))], [.int 0]) rfl (fun _ => rfl)
      · refine xe_sn pg_16 4 (fr' := (8, [(0, .ref 132)], [])) rfl ?_
        refine xe_sn pg_16 4 (fr' := (20, [(0, .ref 132)], [])) rfl ?_
        refine xe_sn pg_16 1 (fr' := (21, [(0, .ref 132)], [.int 0])) rfl ?_
        exact xe_end pg_16 rfl
      refine xe_sn pg_74 3 (fr' := (33, [(4, .ref 132), (0, .ref 0), (1, .int 1), (2, .int p1), (3, .int (nI e2))], [.int 1])) rfl ?_
      apply xe_callq pg_74 98 [.int 1] (.inl none) (36, [(4, .ref 132), (0, .ref 0), (1, .int 1), (2, .int p1), (3, .int (nI e2))], []) rfl (fun _ => rfl)
      · refine xe_sn pg_98 2 (fr' := (12, [(0, .int 1)], [])) rfl ?_
        exact xe_end pg_98 rfl
      refine xe_sn pg_74 3 (fr' := (40, [(4, .ref 132), (0, .ref 0), (1, .int 1), (2, .int p1), (3, .int (nI e2))], [.int (nI e2), .int p1, .ref 132])) rfl ?_
      apply xe_callq pg_74 19 [.ref 132, .int p1, .int (nI e2)] (.inl none) (43, [(4, .ref 132), (0, .ref 0), (1, .int 1), (2, .int p1), (3, .int (nI e2))], []) rfl (fun _ => rfl)
      · refine xe_sn pg_19 4 (fr' := (6, [(0, .ref 132), (1, .int p1), (2, .int (nI e2))], [.ref 132])) rfl ?_
        refine xe_sn pg_19 1 (fr' := (7, [(0, .ref 132), (1, .int p1), (2, .int (nI e2))], [.int 0, .ref 132])) rfl ?_
        apply xe_callq pg_19 31 [.ref 132, .int 0] (.inl none) (10, [(0, .ref 132), (1, .int p1), (2, .int (nI e2))], []) rfl (fun _ => rfl)
        · refine xe_sn pg_31 4 (fr' := (4, [(2, .int 0), (0, .ref 132), (1, .int 0)], [.int 3, .int 0])) rfl ?_
          refine xe_sn pg_31 4 (fr' := (12, [(2, .int 0), (0, .ref 132), (1, .int 0)], [.int 0, .ref 138])) rfl ?_
          refine xe_sn pg_31 4 (fr' := (20, [(2, .int 0), (0, .ref 132), (1, .int 0)], [])) rfl ?_
          refine xe_sn pg_31 4 (fr' := (26, [(2, .int 0), (0, .ref 132), (1, .int 0)], [.ref 140])) rfl ?_
          refine xe_sn pg_31 2 (fr' := (28, [(2, .int 0), (0, .ref 132), (1, .int 0)], [.int 0, .int 0, .ref 140])) rfl ?_
          apply xe_callq pg_31 71 [.ref 140, .int 0, .int 0] (.inl none) (31, [(2, .int 0), (0, .ref 132), (1, .int 0)], []) rfl (fun _ => rfl)
          · refine xe_sn pg_71 4 (fr' := (6, [(0, .ref 140), (1, .int 0), (2, .int 0)], [.ref 140])) rfl ?_
            refine xe_sn pg_71 2 (fr' := (10, [(0, .ref 140), (1, .int 0), (2, .int 0)], [])) rfl ?_
            exact xe_end pg_71 rfl
          refine xe_sn pg_31 4 (fr' := (4, [(2, .int 1), (0, .ref 132), (1, .int 0)], [.int 3, .int 1])) rfl ?_
          refine xe_sn pg_31 4 (fr' := (12, [(2, .int 1), (0, .ref 132), (1, .int 0)], [.int 1, .ref 138])) rfl ?_
          refine xe_sn pg_31 4 (fr' := (20, [(2, .int 1), (0, .ref 132), (1, .int 0)], [])) rfl ?_
          refine xe_sn pg_31 4 (fr' := (26, [(2, .int 1), (0, .ref 132), (1, .int 0)], [.ref 141])) rfl ?_
          refine xe_sn pg_31 2 (fr' := (28, [(2, .int 1), (0, .ref 132), (1, .int 0)], [.int 0, .int 0, .ref 141])) rfl ?_
          apply xe_callq pg_31 71 [.ref 141, .int 0, .int 0] (.inl none) (31, [(2, .int 1), (0, .ref 132), (1, .int 0)], []) rfl (fun _ => rfl)
          · refine xe_sn pg_71 4 (fr' := (6, [(0, .ref 141), (1, .int 0), (2, .int 0)], [.ref 141])) rfl ?_
            refine xe_sn pg_71 2 (fr' := (10, [(0, .ref 141), (1, .int 0), (2, .int 0)], [])) rfl ?_
            exact xe_end pg_71 rfl
          refine xe_sn pg_31 4 (fr' := (4, [(2, .int 2), (0, .ref 132), (1, .int 0)], [.int 3, .int 2])) rfl ?_
          refine xe_sn pg_31 4 (fr' := (12, [(2, .int 2), (0, .ref 132), (1, .int 0)], [.int 2, .ref 138])) rfl ?_
          refine xe_sn pg_31 4 (fr' := (20, [(2, .int 2), (0, .ref 132), (1, .int 0)], [])) rfl ?_
          refine xe_sn pg_31 4 (fr' := (26, [(2, .int 2), (0, .ref 132), (1, .int 0)], [.ref 142])) rfl ?_
          refine xe_sn pg_31 2 (fr' := (28, [(2, .int 2), (0, .ref 132), (1, .int 0)], [.int 0, .int 0, .ref 142])) rfl ?_
          apply xe_callq pg_31 71 [.ref 142, .int 0, .int 0] (.inl none) (31, [(2, .int 2), (0, .ref 132), (1, .int 0)], []) rfl (fun _ => rfl)
          · refine xe_sn pg_71 4 (fr' := (6, [(0, .ref 142), (1, .int 0), (2, .int 0)], [.ref 142])) rfl ?_
            refine xe_sn pg_71 2 (fr' := (10, [(0, .ref 142), (1, .int 0), (2, .int 0)], [])) rfl ?_
            exact xe_end pg_71 rfl
          refine xe_sn pg_31 4 (fr' := (4, [(2, .int 3), (0, .ref 132), (1, .int 0)], [.int 3, .int 3])) rfl ?_
          refine xe_sn pg_31 1 (fr' := (37, [(2, .int 3), (0, .ref 132), (1, .int 0)], [])) rfl ?_
          exact xe_end pg_31 rfl
        refine xe_sn pg_19 4 (fr' := (16, [(0, .ref 132), (1, .int p1), (2, .int (nI e2))], [.ref 132])) rfl ?_
        refine xe_sn pg_19 2 (fr' := (18, [(0, .ref 132), (1, .int p1), (2, .int (nI e2))], [.int (nI e2), .int p1, .ref 132])) rfl ?_
        apply xe_callq pg_19 21 [.ref 132, .int p1, .int (nI e2)] (.inl none) (21, [(0, .ref 132), (1, .int p1), (2, .int (nI e2))], []) rfl (fun _ => rfl)
        · refine xe_sn pg_21 4 (fr' := (6, [(0, .ref 132), (1, .int p1), (2, .int (nI e2))], [.ref 132])) rfl ?_
          refine xe_sn pg_21 4 (fr' := (12, [(0, .ref 132), (1, .int p1), (2, .int (nI e2))], [.int (nI e2), .ref 132])) rfl ?_
          refine xe_sn pg_21 1 (fr' := (15, [(0, .ref 132), (1, .int p1), (2, .int (nI e2))], [])) rfl ?_
          exact xe_end pg_21 rfl
        refine xe_sn pg_19 4 (fr' := (27, [(0, .ref 132), (1, .int p1), (2, .int (nI e2))], [.int p1, .int 0, .ref 1])) rfl ?_
        refine xe_sn pg_19 3 (fr' := (32, [(0, .ref 132), (1, .int p1), (2, .int (nI e2))], [.int 1, .int 1, .int p1, .int 0, .ref 1])) rfl ?_
        apply xe_callq pg_19 68 [.ref 1, .int 0, .int p1, .int 1, .int 1] (.inl (some (.ref 7))) (35, [(0, .ref 132), (1, .int p1), (2, .int (nI e2))], [.ref 7]) rfl (fun _ => rfl)
        · refine xe_sn pg_68 4 (fr' := (7, [(5, .ref 3), (0, .ref 1), (1, .int 0), (2, .int p1), (3, .int 1), (4, .int 1)], [.ref 1])) rfl ?_
          refine xe_sn pg_68 4 (fr' := (16, [(5, .ref 3), (0, .ref 1), (1, .int 0), (2, .int p1), (3, .int 1), (4, .int 1)], [.ref 1])) rfl ?_
          refine xe_sn pg_68 4 (fr' := (24, [(5, .ref 3), (0, .ref 1), (1, .int 0), (2, .int p1), (3, .int 1), (4, .int 1)], [.ref 7])) rfl ?_
          refine xe_sn pg_68 4 (fr' := (31, [(5, .ref 7), (0, .ref 1), (1, .int 0), (2, .int p1), (3, .int 1), (4, .int 1)], [.int 0, .ref 1])) rfl ?_
          refine xe_sn pg_68 4 (fr' := (49, [(5, .ref 7), (0, .ref 1), (1, .int 0), (2, .int p1), (3, .int 1), (4, .int 1)], [])) rfl ?_
          refine xe_sn pg_68 4 (fr' := (54, [(5, .ref 7), (0, .ref 1), (1, .int 0), (2, .int p1), (3, .int 1), (4, .int 1)], [.int 1, .int p1, .int 0, .ref 7])) rfl ?_
          refine xe_sn pg_68 1 (fr' := (56, [(5, .ref 7), (0, .ref 1), (1, .int 0), (2, .int p1), (3, .int 1), (4, .int 1)], [.int 1, .int 1, .int p1, .int 0, .ref 7])) rfl ?_
          apply xe_callq pg_68 6 [.ref 7, .int 0, .int p1, .int 1, .int 1] (.inl none) (59, [(5, .ref 7), (0, .ref 1), (1, .int 0), (2, .int p1), (3, .int 1), (4, .int 1)], []) rfl (fun _ => rfl)
          · refine xe_sn pg_6 4 (fr' := (6, [(0, .ref 7), (1, .int 0), (2, .int p1), (3, .int 1), (4, .int 1)], [.ref 7])) rfl ?_
            refine xe_sn pg_6 4 (fr' := (12, [(0, .ref 7), (1, .int 0), (2, .int p1), (3, .int 1), (4, .int 1)], [.int 1, .ref 7])) rfl ?_
            refine xe_sn pg_6 4 (fr' := (21, [(0, .ref 7), (1, .int 0), (2, .int p1), (3, .int 1), (4, .int 1)], [])) rfl ?_
            refine xe_sn pg_6 4 (fr' := (27, [(0, .ref 7), (1, .int 0), (2, .int p1), (3, .int 1), (4, .int 1)], [.int 0])) rfl ?_
            refine xe_sn pg_6 4 (fr' := (36, [(5, .int 0), (0, .ref 7), (1, .int 0), (2, .int p1), (3, .int 1), (4, .int 1)], [])) rfl ?_
            refine xe_sn pg_6 4 (fr' := (43, [(5, .int 0), (0, .ref 7), (1, .int 0), (2, .int p1), (3, .int 1), (4, .int 1)], [.int 0, .int 0, .ref 8])) rfl ?_
            refine xe_sn pg_6 4 (fr' := (31, [(5, .int 1), (0, .ref 7), (1, .int 0), (2, .int p1), (3, .int 1), (4, .int 1)], [.int 1])) rfl ?_
            refine xe_sn pg_6 4 (fr' := (40, [(5, .int 1), (0, .ref 7), (1, .int 0), (2, .int p1), (3, .int 1), (4, .int 1)], [.ref 8])) rfl ?_
            refine xe_sn pg_6 4 (fr' := (47, [(5, .int 2), (0, .ref 7), (1, .int 0), (2, .int p1), (3, .int 1), (4, .int 1)], [])) rfl ?_
            refine xe_sn pg_6 4 (fr' := (36, [(5, .int 2), (0, .ref 7), (1, .int 0), (2, .int p1), (3, .int 1), (4, .int 1)], [])) rfl ?_
            refine xe_sn pg_6 4 (fr' := (43, [(5, .int 2), (0, .ref 7), (1, .int 0), (2, .int p1), (3, .int 1), (4, .int 1)], [.int 0, .int 2, .ref 8])) rfl ?_
            refine xe_sn pg_6 4 (fr' := (31, [(5, .int 3), (0, .ref 7), (1, .int 0), (2, .int p1), (3, .int 1), (4, .int 1)], [.int 3])) rfl ?_
            refine xe_sn pg_6 4 (fr' := (40, [(5, .int 3), (0, .ref 7), (1, .int 0), (2, .int p1), (3, .int 1), (4, .int 1)], [.ref 8])) rfl ?_
            refine xe_sn pg_6 4 (fr' := (47, [(5, .int 4), (0, .ref 7), (1, .int 0), (2, .int p1), (3, .int 1), (4, .int 1)], [])) rfl ?_
            refine xe_sn pg_6 4 (fr' := (36, [(5, .int 4), (0, .ref 7), (1, .int 0), (2, .int p1), (3, .int 1), (4, .int 1)], [])) rfl ?_
            refine xe_sn pg_6 4 (fr' := (43, [(5, .int 4), (0, .ref 7), (1, .int 0), (2, .int p1), (3, .int 1), (4, .int 1)], [.int 0, .int 4, .ref 8])) rfl ?_
            refine xe_sn pg_6 4 (fr' := (31, [(5, .int 5), (0, .ref 7), (1, .int 0), (2, .int p1), (3, .int 1), (4, .int 1)], [.int 5])) rfl ?_
            refine xe_sn pg_6 4 (fr' := (40, [(5, .int 5), (0, .ref 7), (1, .int 0), (2, .int p1), (3, .int 1), (4, .int 1)], [.ref 8])) rfl ?_
            refine xe_sn pg_6 4 (fr' := (47, [(5, .int 6), (0, .ref 7), (1, .int 0), (2, .int p1), (3, .int 1), (4, .int 1)], [])) rfl ?_
            refine xe_sn pg_6 4 (fr' := (36, [(5, .int 6), (0, .ref 7), (1, .int 0), (2, .int p1), (3, .int 1), (4, .int 1)], [])) rfl ?_
            refine xe_sn pg_6 4 (fr' := (43, [(5, .int 6), (0, .ref 7), (1, .int 0), (2, .int p1), (3, .int 1), (4, .int 1)], [.int 0, .int 6, .ref 8])) rfl ?_
            refine xe_sn pg_6 4 (fr' := (31, [(5, .int 7), (0, .ref 7), (1, .int 0), (2, .int p1), (3, .int 1), (4, .int 1)], [.int 7])) rfl ?_
            refine xe_sn pg_6 4 (fr' := (40, [(5, .int 7), (0, .ref 7), (1, .int 0), (2, .int p1), (3, .int 1), (4, .int 1)], [.ref 8])) rfl ?_
            refine xe_sn pg_6 4 (fr' := (47, [(5, .int 8), (0, .ref 7), (1, .int 0), (2, .int p1), (3, .int 1), (4, .int 1)], [])) rfl ?_
            refine xe_sn pg_6 4 (fr' := (36, [(5, .int 8), (0, .ref 7), (1, .int 0), (2, .int p1), (3, .int 1), (4, .int 1)], [])) rfl ?_
            refine xe_sn pg_6 4 (fr' := (43, [(5, .int 8), (0, .ref 7), (1, .int 0), (2, .int p1), (3, .int 1), (4, .int 1)], [.int 0, .int 8, .ref 8])) rfl ?_
            refine xe_sn pg_6 4 (fr' := (31, [(5, .int 9), (0, .ref 7), (1, .int 0), (2, .int p1), (3, .int 1), (4, .int 1)], [.int 9])) rfl ?_
            refine xe_sn pg_6 4 (fr' := (40, [(5, .int 9), (0, .ref 7), (1, .int 0), (2, .int p1), (3, .int 1), (4, .int 1)], [.ref 8])) rfl ?_
            refine xe_sn pg_6 4 (fr' := (47, [(5, .int 10), (0, .ref 7), (1, .int 0), (2, .int p1), (3, .int 1), (4, .int 1)], [])) rfl ?_
            refine xe_sn pg_6 4 (fr' := (36, [(5, .int 10), (0, .ref 7), (1, .int 0), (2, .int p1), (3, .int 1), (4, .int 1)], [])) rfl ?_
            refine xe_sn pg_6 4 (fr' := (43, [(5, .int 10), (0, .ref 7), (1, .int 0), (2, .int p1), (3, .int 1), (4, .int 1)], [.int 0, .int 10, .ref 8])) rfl ?_
            refine xe_sn pg_6 4 (fr' := (31, [(5, .int 11), (0, .ref 7), (1, .int 0), (2, .int p1), (3, .int 1), (4, .int 1)], [.int 11])) rfl ?_
            refine xe_sn pg_6 4 (fr' := (40, [(5, .int 11), (0, .ref 7), (1, .int 0), (2, .int p1), (3, .int 1), (4, .int 1)], [.ref 8])) rfl ?_
            refine xe_sn pg_6 4 (fr' := (47, [(5, .int 12), (0, .ref 7), (1, .int 0), (2, .int p1), (3, .int 1), (4, .int 1)], [])) rfl ?_
            refine xe_sn pg_6 4 (fr' := (36, [(5, .int 12), (0, .ref 7), (1, .int 0), (2, .int p1), (3, .int 1), (4, .int 1)], [])) rfl ?_
            refine xe_sn pg_6 4 (fr' := (43, [(5, .int 12), (0, .ref 7), (1, .int 0), (2, .int p1), (3, .int 1), (4, .int 1)], [.int 0, .int 12, .ref 8])) rfl ?_
            refine xe_sn pg_6 4 (fr' := (31, [(5, .int 13), (0, .ref 7), (1, .int 0), (2, .int p1), (3, .int 1), (4, .int 1)], [.int 13])) rfl ?_
            refine xe_sn pg_6 4 (fr' := (40, [(5, .int 13), (0, .ref 7), (1, .int 0), (2, .int p1), (3, .int 1), (4, .int 1)], [.ref 8])) rfl ?_
            refine xe_sn pg_6 4 (fr' := (47, [(5, .int 14), (0, .ref 7), (1, .int 0), (2, .int p1), (3, .int 1), (4, .int 1)], [])) rfl ?_
            refine xe_sn pg_6 4 (fr' := (50, [(5, .int 14), (0, .ref 7), (1, .int 0), (2, .int p1), (3, .int 1), (4, .int 1)], [])) rfl ?_
            exact xe_end pg_6 rfl
          refine xe_sn pg_68 1 (fr' := (61, [(5, .ref 7), (0, .ref 1), (1, .int 0), (2, .int p1), (3, .int 1), (4, .int 1)], [.ref 7])) rfl ?_
          exact xe_end pg_68 rfl
        refine xe_sn pg_19 3 (fr' := (39, [(0, .ref 132), (1, .int p1), (2, .int (nI e2))], [.int (nI e2), .int 17, .int 0, .ref 7])) rfl ?_
        apply xe_callq pg_19 0 [.int 17, .int (nI e2)] (.inl (some (.int (nI (17 ^ e2 % 65521))))) (42, [(0, .ref 132), (1, .int p1), (2, .int (nI e2))], [.int (nI (17 ^ e2 % 65521)), .int 0, .ref 7]) rfl (fun _ => rfl)
        · exact c_raise _ (a := 17) (e := e2) (by omega) (by omega) _
        apply xe_callq pg_19 10 [.ref 7, .int 0, .int (nI (17 ^ e2 % 65521))] (.inl none) (45, [(0, .ref 132), (1, .int p1), (2, .int (nI e2))], []) rfl (fun _ => rfl)
        · refine xe_sn pg_10 4 (fr' := (6, [(0, .ref 7), (1, .int 0), (2, .int (nI (17 ^ e2 % 65521)))], [.int (nI (17 ^ e2 % 65521)), .int 0, .ref 8])) rfl ?_
          refine xe_sn pg_10 4 (fr' := (13, [(0, .ref 7), (1, .int 0), (2, .int (nI (17 ^ e2 % 65521)))], [.int (((((nI (17 ^ e2 % 65521))).toUInt32 >>> ((8 : Int32).toUInt32 &&& Int32.toUInt32 31)).toInt32) &&& 255), .int 0, .ref 8])) rfl ?_
          refine xe_sn pg_10 4 (fr' := (19, [(0, .ref 7), (1, .int 0), (2, .int (nI (17 ^ e2 % 65521)))], [.int 0, .ref 8])) rfl ?_
          refine xe_sn pg_10 4 (fr' := (25, [(0, .ref 7), (1, .int 0), (2, .int (nI (17 ^ e2 % 65521)))], [.int 255, .int (nI (17 ^ e2 % 65521)), .int 1, .ref 8])) rfl ?_
          refine xe_sn pg_10 2 (fr' := (27, [(0, .ref 7), (1, .int 0), (2, .int (nI (17 ^ e2 % 65521)))], [])) rfl ?_
          exact xe_end pg_10 rfl
        exact xe_end pg_19 rfl
      refine xe_sn pg_74 3 (fr' := (50, [(4, .ref 132), (0, .ref 0), (1, .int 1), (2, .int p1), (3, .int (nI e2))], [.int 1])) rfl ?_
      exact xe_end pg_74 rfl
    refine xe_sn pg_161 4 (fr' := (28, [(0, .ref 0), (1, .int 1), (2, .int p1), (3, .int (nI e2)), (4, .ref 189)], [.int 0])) rfl ?_
    exact xe_end pg_161 rfl
  refine And.intro ⟨rfl, rfl, rfl, rfl⟩ ?_
  apply And.intro
  · refine xe_sn pg_140 2 (fr' := (2, [(0, .ref 165), (1, .int 1), (2, .int p1), (3, .int (nI e2))], [.int 1, .ref 165])) rfl ?_
    apply xe_callq pg_140 104 [.int 1] (.inl (some (.int 1))) (5, [(0, .ref 165), (1, .int 1), (2, .int p1), (3, .int (nI e2))], [.int 1, .ref 165]) rfl (fun _ => rfl)
    · refine xe_sn pg_104 3 (fr' := (3, [(0, .int 1)], [.int 3, .int 0, .int 1])) rfl ?_
      apply xe_callq pg_104 103 [.int 1, .int 0, .int 3] (.inl (some (.int 1))) (6, [(0, .int 1)], [.int 1]) rfl (fun _ => rfl)
      · refine xe_sn pg_103 4 (fr' := (6, [(0, .int 1), (1, .int 0), (2, .int 3)], [.int 1])) rfl ?_
        refine xe_sn pg_103 4 (fr' := (15, [(0, .int 1), (1, .int 0), (2, .int 3)], [.int 1])) rfl ?_
        exact xe_end pg_103 rfl
      exact xe_end pg_104 rfl
    refine xe_sn pg_140 2 (fr' := (9, [(0, .ref 165), (1, .int 1), (2, .int p1), (3, .int (nI e2))], [.int p1, .ref 165])) rfl ?_
    apply xe_callq pg_140 105 [.int p1] (.inl (some (.int 1))) (12, [(0, .ref 165), (1, .int 1), (2, .int p1), (3, .int (nI e2))], [.int 1, .ref 165]) rfl (fun _ => rfl)
    · refine xe_sn pg_105 3 (fr' := (3, [(0, .int p1)], [.int 4, .int 1, .int p1])) rfl ?_
      apply xe_callq pg_105 103 [.int p1, .int 1, .int 4] (.inl (some (.int 1))) (6, [(0, .int p1)], [.int 1]) rfl (fun _ => rfl)
      · refine xe_sn pg_103 2 (fr' := (2, [(0, .int p1), (1, .int 1), (2, .int 4)], [.int 1, .int p1])) rfl ?_
        refine xe_f2 pg_103 14 rfl rfl (by show ¬ ((p1).toInt < 1); omega) ?_
        refine xe_sn pg_103 2 (fr' := (7, [(0, .int p1), (1, .int 1), (2, .int 4)], [.int 4, .int p1])) rfl ?_
        refine xe_f2 pg_103 14 rfl rfl (by show ¬ (4 < (p1).toInt); omega) ?_
        refine xe_sn pg_103 2 (fr' := (15, [(0, .int p1), (1, .int 1), (2, .int 4)], [.int 1])) rfl ?_
        exact xe_end pg_103 rfl
      exact xe_end pg_105 rfl
    refine xe_sn pg_140 4 (fr' := (23, [(0, .ref 165), (1, .int 1), (2, .int p1), (3, .int (nI e2))], [.int 65519, .int 1, .int (nI e2), .ref 165])) rfl ?_
    apply xe_callq pg_140 103 [.int (nI e2), .int 1, .int 65519] (.inl (some (.int 1))) (26, [(0, .ref 165), (1, .int 1), (2, .int p1), (3, .int (nI e2))], [.int 1, .ref 165]) rfl (fun _ => rfl)
    · refine xe_sn pg_103 2 (fr' := (2, [(0, .int (nI e2)), (1, .int 1), (2, .int 65519)], [.int 1, .int (nI e2)])) rfl ?_
      refine xe_f2 pg_103 14 rfl rfl (by show ¬ (((nI e2)).toInt < 1); rw [nI_toInt (n := e2) (by omega)]; omega) ?_
      refine xe_sn pg_103 2 (fr' := (7, [(0, .int (nI e2)), (1, .int 1), (2, .int 65519)], [.int 65519, .int (nI e2)])) rfl ?_
      refine xe_f2 pg_103 14 rfl rfl (by show ¬ (65519 < ((nI e2)).toInt); rw [nI_toInt (n := e2) (by omega)]; omega) ?_
      refine xe_sn pg_103 2 (fr' := (15, [(0, .int (nI e2)), (1, .int 1), (2, .int 65519)], [.int 1])) rfl ?_
      exact xe_end pg_103 rfl
    refine xe_sn pg_140 3 (fr' := (35, [(0, .ref 165), (1, .int 1), (2, .int p1), (3, .int (nI e2))], [.int 1, .ref 165, .ref 165])) rfl ?_
    apply xe_callq pg_140 145 [.ref 165, .int 1] (.inl (some (.int 0))) (38, [(0, .ref 165), (1, .int 1), (2, .int p1), (3, .int (nI e2))], [.int 0, .ref 165]) rfl (fun _ => rfl)
    · refine xe_sn pg_145 4 (fr' := (6, [(0, .ref 165), (1, .int 1)], [.int 0])) rfl ?_
      refine xe_sn pg_145 4 (fr' := (14, [(0, .ref 165), (1, .int 1)], [.ref 167])) rfl ?_
      refine xe_sn pg_145 4 (fr' := (24, [(0, .ref 165), (1, .int 1)], [])) rfl ?_
      refine xe_sn pg_145 1 (fr' := (25, [(0, .ref 165), (1, .int 1)], [.int 0])) rfl ?_
      exact xe_end pg_145 rfl
    refine xe_sn pg_140 4 (fr' := (50, [(0, .ref 165), (1, .int 1), (2, .int p1), (3, .int (nI e2))], [.ref 165])) rfl ?_
    refine xe_sn pg_140 4 (fr' := (62, [(0, .ref 165), (1, .int 1), (2, .int p1), (3, .int (nI e2))], [.ref 168])) rfl ?_
    refine xe_sn pg_140 4 (fr' := (66, [(0, .ref 165), (1, .int 1), (2, .int p1), (3, .int (nI e2))], [.ref 165])) rfl ?_
    refine xe_sn pg_140 2 (fr' := (68, [(0, .ref 165), (1, .int 1), (2, .int p1), (3, .int (nI e2))], [.int 0, .int 1, .ref 165])) rfl ?_
    apply xe_callq pg_140 120 [.ref 165, .int 1, .int 0] (.inl none) (71, [(0, .ref 165), (1, .int 1), (2, .int p1), (3, .int (nI e2))], []) rfl (fun _ => rfl)
    · refine xe_sn pg_120 4 (fr' := (4, [(3, .int 3), (0, .ref 165), (1, .int 1), (2, .int 0)], [])) rfl ?_
      refine xe_sn pg_120 4 (fr' := (8, [(3, .int 3), (0, .ref 165), (1, .int 1), (2, .int 0)], [.int 3, .int 3])) rfl ?_
      refine xe_sn pg_120 4 (fr' := (14, [(3, .int 3), (0, .ref 165), (1, .int 1), (2, .int 0)], [.ref 165])) rfl ?_
      refine xe_sn pg_120 4 (fr' := (20, [(3, .int 3), (0, .ref 165), (1, .int 1), (2, .int 0)], [.int 0, .int 0])) rfl ?_
      refine xe_sn pg_120 4 (fr' := (28, [(3, .int 3), (0, .ref 165), (1, .int 1), (2, .int 0)], [.int 3, .ref 173])) rfl ?_
      refine xe_sn pg_120 4 (fr' := (34, [(3, .int 3), (0, .ref 165), (1, .int 1), (2, .int 0)], [.ref 175])) rfl ?_
      refine xe_sn pg_120 4 (fr' := (40, [(3, .int 4), (0, .ref 165), (1, .int 1), (2, .int 0)], [])) rfl ?_
      refine xe_sn pg_120 4 (fr' := (7, [(3, .int 4), (0, .ref 165), (1, .int 1), (2, .int 0)], [.int 1, .int 3, .int 4])) rfl ?_
      refine xe_sn pg_120 4 (fr' := (13, [(3, .int 4), (0, .ref 165), (1, .int 1), (2, .int 0)], [])) rfl ?_
      refine xe_sn pg_120 4 (fr' := (19, [(3, .int 4), (0, .ref 165), (1, .int 1), (2, .int 0)], [.int 0])) rfl ?_
      refine xe_sn pg_120 4 (fr' := (27, [(3, .int 4), (0, .ref 165), (1, .int 1), (2, .int 0)], [.ref 173])) rfl ?_
      refine xe_sn pg_120 4 (fr' := (31, [(3, .int 4), (0, .ref 165), (1, .int 1), (2, .int 0)], [.ref 165])) rfl ?_
      refine xe_sn pg_120 4 (fr' := (37, [(3, .int 4), (0, .ref 165), (1, .int 1), (2, .int 0)], [])) rfl ?_
      refine xe_sn pg_120 4 (fr' := (6, [(3, .int 5), (0, .ref 165), (1, .int 1), (2, .int 0)], [.int 3, .int 5])) rfl ?_
      refine xe_sn pg_120 4 (fr' := (10, [(3, .int 5), (0, .ref 165), (1, .int 1), (2, .int 0)], [.int 6, .int 5])) rfl ?_
      refine xe_sn pg_120 4 (fr' := (18, [(3, .int 5), (0, .ref 165), (1, .int 1), (2, .int 0)], [.int 5, .ref 174])) rfl ?_
      refine xe_sn pg_120 4 (fr' := (24, [(3, .int 5), (0, .ref 165), (1, .int 1), (2, .int 0)], [.ref 165])) rfl ?_
      refine xe_sn pg_120 4 (fr' := (30, [(3, .int 5), (0, .ref 165), (1, .int 1), (2, .int 0)], [])) rfl ?_
      refine xe_sn pg_120 4 (fr' := (36, [(3, .int 5), (0, .ref 165), (1, .int 1), (2, .int 0)], [.int 0, .int 5, .ref 175])) rfl ?_
      refine xe_sn pg_120 4 (fr' := (5, [(3, .int 6), (0, .ref 165), (1, .int 1), (2, .int 0)], [.int 6])) rfl ?_
      refine xe_sn pg_120 4 (fr' := (9, [(3, .int 6), (0, .ref 165), (1, .int 1), (2, .int 0)], [.int 3, .int 3, .int 6])) rfl ?_
      refine xe_sn pg_120 2 (fr' := (43, [(3, .int 6), (0, .ref 165), (1, .int 1), (2, .int 0)], [])) rfl ?_
      exact xe_end pg_120 rfl
    refine xe_sn pg_140 4 (fr' := (77, [(0, .ref 165), (1, .int 1), (2, .int p1), (3, .int (nI e2))], [.int 0, .int 1, .ref 176])) rfl ?_
    refine xe_sn pg_140 4 (fr' := (83, [(0, .ref 165), (1, .int 1), (2, .int p1), (3, .int (nI e2))], [.int 1, .ref 171])) rfl ?_
    refine xe_sn pg_140 4 (fr' := (89, [(0, .ref 165), (1, .int 1), (2, .int p1), (3, .int (nI e2))], [.ref 172])) rfl ?_
    refine xe_sn pg_140 4 (fr' := (93, [(0, .ref 165), (1, .int 1), (2, .int p1), (3, .int (nI e2))], [.ref 165])) rfl ?_
    refine xe_sn pg_140 4 (fr' := (99, [(0, .ref 165), (1, .int 1), (2, .int p1), (3, .int (nI e2))], [])) rfl ?_
    refine xe_sn pg_140 1 (fr' := (100, [(0, .ref 165), (1, .int 1), (2, .int p1), (3, .int (nI e2))], [.ref 165])) rfl ?_
    apply xe_callq pg_140 113 [.ref 165] (.inl none) (103, [(0, .ref 165), (1, .int 1), (2, .int p1), (3, .int (nI e2))], []) rfl (fun _ => rfl)
    · refine xe_sn pg_113 4 (fr' := (5, [(1, .int 0), (0, .ref 165)], [.int 14, .int 0])) rfl ?_
      refine xe_sn pg_113 4 (fr' := (13, [(1, .int 0), (0, .ref 165)], [.int 0, .ref 187])) rfl ?_
      refine xe_sn pg_113 4 (fr' := (2, [(1, .int 1), (0, .ref 165)], [])) rfl ?_
      refine xe_sn pg_113 4 (fr' := (9, [(1, .int 1), (0, .ref 165)], [.ref 165])) rfl ?_
      refine xe_sn pg_113 4 (fr' := (15, [(1, .int 1), (0, .ref 165)], [])) rfl ?_
      refine xe_sn pg_113 4 (fr' := (5, [(1, .int 2), (0, .ref 165)], [.int 14, .int 2])) rfl ?_
      refine xe_sn pg_113 4 (fr' := (13, [(1, .int 2), (0, .ref 165)], [.int 2, .ref 187])) rfl ?_
      refine xe_sn pg_113 4 (fr' := (2, [(1, .int 3), (0, .ref 165)], [])) rfl ?_
      refine xe_sn pg_113 4 (fr' := (9, [(1, .int 3), (0, .ref 165)], [.ref 165])) rfl ?_
      refine xe_sn pg_113 4 (fr' := (15, [(1, .int 3), (0, .ref 165)], [])) rfl ?_
      refine xe_sn pg_113 4 (fr' := (5, [(1, .int 4), (0, .ref 165)], [.int 14, .int 4])) rfl ?_
      refine xe_sn pg_113 4 (fr' := (13, [(1, .int 4), (0, .ref 165)], [.int 4, .ref 187])) rfl ?_
      refine xe_sn pg_113 4 (fr' := (2, [(1, .int 5), (0, .ref 165)], [])) rfl ?_
      refine xe_sn pg_113 4 (fr' := (9, [(1, .int 5), (0, .ref 165)], [.ref 165])) rfl ?_
      refine xe_sn pg_113 4 (fr' := (15, [(1, .int 5), (0, .ref 165)], [])) rfl ?_
      refine xe_sn pg_113 4 (fr' := (5, [(1, .int 6), (0, .ref 165)], [.int 14, .int 6])) rfl ?_
      refine xe_sn pg_113 4 (fr' := (13, [(1, .int 6), (0, .ref 165)], [.int 6, .ref 187])) rfl ?_
      refine xe_sn pg_113 4 (fr' := (2, [(1, .int 7), (0, .ref 165)], [])) rfl ?_
      refine xe_sn pg_113 4 (fr' := (9, [(1, .int 7), (0, .ref 165)], [.ref 165])) rfl ?_
      refine xe_sn pg_113 4 (fr' := (15, [(1, .int 7), (0, .ref 165)], [])) rfl ?_
      refine xe_sn pg_113 4 (fr' := (5, [(1, .int 8), (0, .ref 165)], [.int 14, .int 8])) rfl ?_
      refine xe_sn pg_113 4 (fr' := (13, [(1, .int 8), (0, .ref 165)], [.int 8, .ref 187])) rfl ?_
      refine xe_sn pg_113 4 (fr' := (2, [(1, .int 9), (0, .ref 165)], [])) rfl ?_
      refine xe_sn pg_113 4 (fr' := (9, [(1, .int 9), (0, .ref 165)], [.ref 165])) rfl ?_
      refine xe_sn pg_113 4 (fr' := (15, [(1, .int 9), (0, .ref 165)], [])) rfl ?_
      refine xe_sn pg_113 4 (fr' := (5, [(1, .int 10), (0, .ref 165)], [.int 14, .int 10])) rfl ?_
      refine xe_sn pg_113 4 (fr' := (13, [(1, .int 10), (0, .ref 165)], [.int 10, .ref 187])) rfl ?_
      refine xe_sn pg_113 4 (fr' := (2, [(1, .int 11), (0, .ref 165)], [])) rfl ?_
      refine xe_sn pg_113 4 (fr' := (9, [(1, .int 11), (0, .ref 165)], [.ref 165])) rfl ?_
      refine xe_sn pg_113 4 (fr' := (15, [(1, .int 11), (0, .ref 165)], [])) rfl ?_
      refine xe_sn pg_113 4 (fr' := (5, [(1, .int 12), (0, .ref 165)], [.int 14, .int 12])) rfl ?_
      refine xe_sn pg_113 4 (fr' := (13, [(1, .int 12), (0, .ref 165)], [.int 12, .ref 187])) rfl ?_
      refine xe_sn pg_113 4 (fr' := (2, [(1, .int 13), (0, .ref 165)], [])) rfl ?_
      refine xe_sn pg_113 4 (fr' := (9, [(1, .int 13), (0, .ref 165)], [.ref 165])) rfl ?_
      refine xe_sn pg_113 4 (fr' := (15, [(1, .int 13), (0, .ref 165)], [])) rfl ?_
      refine xe_sn pg_113 4 (fr' := (5, [(1, .int 14), (0, .ref 165)], [.int 14, .int 14])) rfl ?_
      refine xe_sn pg_113 1 (fr' := (21, [(1, .int 14), (0, .ref 165)], [])) rfl ?_
      exact xe_end pg_113 rfl
    refine xe_sn pg_140 4 (fr' := (108, [(0, .ref 165), (1, .int 1), (2, .int p1), (3, .int (nI e2))], [.int (nI e2), .int 17, .int 0, .ref 165])) rfl ?_
    apply xe_callq pg_140 106 [.int 17, .int (nI e2)] (.inl (some (.int (nI (17 ^ e2 % 65521))))) (111, [(0, .ref 165), (1, .int 1), (2, .int p1), (3, .int (nI e2))], [.int (nI (17 ^ e2 % 65521)), .int 0, .ref 165]) rfl (fun _ => rfl)
    · exact m_raise _ (a := 17) (e := e2) (by omega) (by omega) _
    apply xe_callq pg_140 112 [.ref 165, .int 0, .int (nI (17 ^ e2 % 65521))] (.inl none) (114, [(0, .ref 165), (1, .int 1), (2, .int p1), (3, .int (nI e2))], []) rfl (fun _ => rfl)
    · refine xe_sn pg_112 4 (fr' := (6, [(0, .ref 165), (1, .int 0), (2, .int (nI (17 ^ e2 % 65521)))], [.int (nI (17 ^ e2 % 65521)), .int 0, .ref 187])) rfl ?_
      refine xe_sn pg_112 4 (fr' := (11, [(0, .ref 165), (1, .int 0), (2, .int (nI (17 ^ e2 % 65521)))], [.ref 165])) rfl ?_
      refine xe_sn pg_112 4 (fr' := (17, [(0, .ref 165), (1, .int 0), (2, .int (nI (17 ^ e2 % 65521)))], [.int 1, .ref 187])) rfl ?_
      refine xe_sn pg_112 4 (fr' := (23, [(0, .ref 165), (1, .int 0), (2, .int (nI (17 ^ e2 % 65521)))], [])) rfl ?_
      exact xe_end pg_112 rfl
    refine xe_sn pg_140 4 (fr' := (118, [(0, .ref 165), (1, .int 1), (2, .int p1), (3, .int (nI e2))], [.int 1, .int p1, .int 0, .ref 165])) rfl ?_
    refine xe_sn pg_140 2 (fr' := (120, [(0, .ref 165), (1, .int 1), (2, .int p1), (3, .int (nI e2))], [.int 0, .int 1, .int 1, .int p1, .int 0, .ref 165])) rfl ?_
    apply xe_callq pg_140 117 [.ref 165, .int 0, .int p1, .int 1, .int 1, .int 0] (.inl none) (123, [(0, .ref 165), (1, .int 1), (2, .int p1), (3, .int (nI e2))], []) rfl (fun _ => rfl)
    · refine xe_sn pg_117 4 (fr' := (20, [(0, .ref 165), (1, .int 0), (2, .int p1), (3, .int 1), (4, .int 1), (5, .int 0)], [])) rfl ?_
      refine xe_sn pg_117 4 (fr' := (27, [(0, .ref 165), (1, .int 0), (2, .int p1), (3, .int 1), (4, .int 1), (5, .int 0)], [.int 0])) rfl ?_
      refine xe_sn pg_117 4 (fr' := (35, [(6, .int 0), (0, .ref 165), (1, .int 0), (2, .int p1), (3, .int 1), (4, .int 1), (5, .int 0)], [.int 0, .ref 166])) rfl ?_
      refine xe_sn pg_117 4 (fr' := (41, [(6, .int 0), (0, .ref 165), (1, .int 0), (2, .int p1), (3, .int 1), (4, .int 1), (5, .int 0)], [.ref 166])) rfl ?_
      refine xe_sn pg_117 4 (fr' := (46, [(6, .int 0), (0, .ref 165), (1, .int 0), (2, .int p1), (3, .int 1), (4, .int 1), (5, .int 0)], [.int p1, .int 1, .ref 166])) rfl ?_
      refine xe_sn pg_117 4 (fr' := (53, [(6, .int 0), (0, .ref 165), (1, .int 0), (2, .int p1), (3, .int 1), (4, .int 1), (5, .int 0)], [.int 0, .ref 166])) rfl ?_
      refine xe_sn pg_117 4 (fr' := (57, [(6, .int 0), (0, .ref 165), (1, .int 0), (2, .int p1), (3, .int 1), (4, .int 1), (5, .int 0)], [])) rfl ?_
      refine xe_sn pg_117 4 (fr' := (64, [(6, .int 0), (0, .ref 165), (1, .int 0), (2, .int p1), (3, .int 1), (4, .int 1), (5, .int 0)], [.int 3, .int 0, .ref 166])) rfl ?_
      refine xe_sn pg_117 4 (fr' := (69, [(6, .int 0), (0, .ref 165), (1, .int 0), (2, .int p1), (3, .int 1), (4, .int 1), (5, .int 0)], [.int 0])) rfl ?_
      refine xe_sn pg_117 4 (fr' := (78, [(7, .int 0), (6, .int 0), (0, .ref 165), (1, .int 0), (2, .int p1), (3, .int 1), (4, .int 1), (5, .int 0)], [])) rfl ?_
      refine xe_sn pg_117 4 (fr' := (85, [(7, .int 0), (6, .int 0), (0, .ref 165), (1, .int 0), (2, .int p1), (3, .int 1), (4, .int 1), (5, .int 0)], [.int 4, .int 0, .ref 166])) rfl ?_
      refine xe_sn pg_117 4 (fr' := (90, [(7, .int 0), (6, .int 0), (0, .ref 165), (1, .int 0), (2, .int p1), (3, .int 1), (4, .int 1), (5, .int 0)], [.ref 165, .int 4, .ref 166])) rfl ?_
      refine xe_sn pg_117 4 (fr' := (97, [(7, .int 0), (6, .int 0), (0, .ref 165), (1, .int 0), (2, .int p1), (3, .int 1), (4, .int 1), (5, .int 0)], [])) rfl ?_
      refine xe_sn pg_117 4 (fr' := (75, [(7, .int 1), (6, .int 0), (0, .ref 165), (1, .int 0), (2, .int p1), (3, .int 1), (4, .int 1), (5, .int 0)], [.int 14, .int 1])) rfl ?_
      refine xe_sn pg_117 4 (fr' := (84, [(7, .int 1), (6, .int 0), (0, .ref 165), (1, .int 0), (2, .int p1), (3, .int 1), (4, .int 1), (5, .int 0)], [.int 0, .ref 166])) rfl ?_
      refine xe_sn pg_117 4 (fr' := (89, [(7, .int 1), (6, .int 0), (0, .ref 165), (1, .int 0), (2, .int p1), (3, .int 1), (4, .int 1), (5, .int 0)], [.int 5, .ref 166])) rfl ?_
      refine xe_sn pg_117 4 (fr' := (96, [(7, .int 1), (6, .int 0), (0, .ref 165), (1, .int 0), (2, .int p1), (3, .int 1), (4, .int 1), (5, .int 0)], [.int ((nI (17 ^ e2 % 65521)) &&& 255), .int 5, .ref 166])) rfl ?_
      refine xe_sn pg_117 4 (fr' := (73, [(7, .int 2), (6, .int 0), (0, .ref 165), (1, .int 0), (2, .int p1), (3, .int 1), (4, .int 1), (5, .int 0)], [.int 2])) rfl ?_
      refine xe_sn pg_117 4 (fr' := (82, [(7, .int 2), (6, .int 0), (0, .ref 165), (1, .int 0), (2, .int p1), (3, .int 1), (4, .int 1), (5, .int 0)], [.ref 166])) rfl ?_
      refine xe_sn pg_117 4 (fr' := (88, [(7, .int 2), (6, .int 0), (0, .ref 165), (1, .int 0), (2, .int p1), (3, .int 1), (4, .int 1), (5, .int 0)], [.int 2, .int 4, .ref 166])) rfl ?_
      refine xe_sn pg_117 4 (fr' := (95, [(7, .int 2), (6, .int 0), (0, .ref 165), (1, .int 0), (2, .int p1), (3, .int 1), (4, .int 1), (5, .int 0)], [.int 2, .ref 187, .int 6, .ref 166])) rfl ?_
      refine xe_sn pg_117 4 (fr' := (71, [(7, .int 3), (6, .int 0), (0, .ref 165), (1, .int 0), (2, .int p1), (3, .int 1), (4, .int 1), (5, .int 0)], [])) rfl ?_
      refine xe_sn pg_117 4 (fr' := (79, [(7, .int 3), (6, .int 0), (0, .ref 165), (1, .int 0), (2, .int p1), (3, .int 1), (4, .int 1), (5, .int 0)], [.ref 165])) rfl ?_
      refine xe_sn pg_117 4 (fr' := (86, [(7, .int 3), (6, .int 0), (0, .ref 165), (1, .int 0), (2, .int p1), (3, .int 1), (4, .int 1), (5, .int 0)], [.int 4, .ref 166])) rfl ?_
      refine xe_sn pg_117 4 (fr' := (93, [(7, .int 3), (6, .int 0), (0, .ref 165), (1, .int 0), (2, .int p1), (3, .int 1), (4, .int 1), (5, .int 0)], [.ref 187, .int 7, .ref 166])) rfl ?_
      refine xe_sn pg_117 4 (fr' := (100, [(7, .int 4), (6, .int 0), (0, .ref 165), (1, .int 0), (2, .int p1), (3, .int 1), (4, .int 1), (5, .int 0)], [])) rfl ?_
      refine xe_sn pg_117 4 (fr' := (78, [(7, .int 4), (6, .int 0), (0, .ref 165), (1, .int 0), (2, .int p1), (3, .int 1), (4, .int 1), (5, .int 0)], [])) rfl ?_
      refine xe_sn pg_117 4 (fr' := (85, [(7, .int 4), (6, .int 0), (0, .ref 165), (1, .int 0), (2, .int p1), (3, .int 1), (4, .int 1), (5, .int 0)], [.int 4, .int 0, .ref 166])) rfl ?_
      refine xe_sn pg_117 4 (fr' := (90, [(7, .int 4), (6, .int 0), (0, .ref 165), (1, .int 0), (2, .int p1), (3, .int 1), (4, .int 1), (5, .int 0)], [.ref 165, .int 8, .ref 166])) rfl ?_
      refine xe_sn pg_117 4 (fr' := (97, [(7, .int 4), (6, .int 0), (0, .ref 165), (1, .int 0), (2, .int p1), (3, .int 1), (4, .int 1), (5, .int 0)], [])) rfl ?_
      refine xe_sn pg_117 4 (fr' := (75, [(7, .int 5), (6, .int 0), (0, .ref 165), (1, .int 0), (2, .int p1), (3, .int 1), (4, .int 1), (5, .int 0)], [.int 14, .int 5])) rfl ?_
      refine xe_sn pg_117 4 (fr' := (84, [(7, .int 5), (6, .int 0), (0, .ref 165), (1, .int 0), (2, .int p1), (3, .int 1), (4, .int 1), (5, .int 0)], [.int 0, .ref 166])) rfl ?_
      refine xe_sn pg_117 4 (fr' := (89, [(7, .int 5), (6, .int 0), (0, .ref 165), (1, .int 0), (2, .int p1), (3, .int 1), (4, .int 1), (5, .int 0)], [.int 9, .ref 166])) rfl ?_
      refine xe_sn pg_117 4 (fr' := (96, [(7, .int 5), (6, .int 0), (0, .ref 165), (1, .int 0), (2, .int p1), (3, .int 1), (4, .int 1), (5, .int 0)], [.int 0, .int 9, .ref 166])) rfl ?_
      refine xe_sn pg_117 4 (fr' := (73, [(7, .int 6), (6, .int 0), (0, .ref 165), (1, .int 0), (2, .int p1), (3, .int 1), (4, .int 1), (5, .int 0)], [.int 6])) rfl ?_
      refine xe_sn pg_117 4 (fr' := (82, [(7, .int 6), (6, .int 0), (0, .ref 165), (1, .int 0), (2, .int p1), (3, .int 1), (4, .int 1), (5, .int 0)], [.ref 166])) rfl ?_
      refine xe_sn pg_117 4 (fr' := (88, [(7, .int 6), (6, .int 0), (0, .ref 165), (1, .int 0), (2, .int p1), (3, .int 1), (4, .int 1), (5, .int 0)], [.int 6, .int 4, .ref 166])) rfl ?_
      refine xe_sn pg_117 4 (fr' := (95, [(7, .int 6), (6, .int 0), (0, .ref 165), (1, .int 0), (2, .int p1), (3, .int 1), (4, .int 1), (5, .int 0)], [.int 6, .ref 187, .int 10, .ref 166])) rfl ?_
      refine xe_sn pg_117 4 (fr' := (71, [(7, .int 7), (6, .int 0), (0, .ref 165), (1, .int 0), (2, .int p1), (3, .int 1), (4, .int 1), (5, .int 0)], [])) rfl ?_
      refine xe_sn pg_117 4 (fr' := (79, [(7, .int 7), (6, .int 0), (0, .ref 165), (1, .int 0), (2, .int p1), (3, .int 1), (4, .int 1), (5, .int 0)], [.ref 165])) rfl ?_
      refine xe_sn pg_117 4 (fr' := (86, [(7, .int 7), (6, .int 0), (0, .ref 165), (1, .int 0), (2, .int p1), (3, .int 1), (4, .int 1), (5, .int 0)], [.int 4, .ref 166])) rfl ?_
      refine xe_sn pg_117 4 (fr' := (93, [(7, .int 7), (6, .int 0), (0, .ref 165), (1, .int 0), (2, .int p1), (3, .int 1), (4, .int 1), (5, .int 0)], [.ref 187, .int 11, .ref 166])) rfl ?_
      refine xe_sn pg_117 4 (fr' := (100, [(7, .int 8), (6, .int 0), (0, .ref 165), (1, .int 0), (2, .int p1), (3, .int 1), (4, .int 1), (5, .int 0)], [])) rfl ?_
      refine xe_sn pg_117 4 (fr' := (78, [(7, .int 8), (6, .int 0), (0, .ref 165), (1, .int 0), (2, .int p1), (3, .int 1), (4, .int 1), (5, .int 0)], [])) rfl ?_
      refine xe_sn pg_117 4 (fr' := (85, [(7, .int 8), (6, .int 0), (0, .ref 165), (1, .int 0), (2, .int p1), (3, .int 1), (4, .int 1), (5, .int 0)], [.int 4, .int 0, .ref 166])) rfl ?_
      refine xe_sn pg_117 4 (fr' := (90, [(7, .int 8), (6, .int 0), (0, .ref 165), (1, .int 0), (2, .int p1), (3, .int 1), (4, .int 1), (5, .int 0)], [.ref 165, .int 12, .ref 166])) rfl ?_
      refine xe_sn pg_117 4 (fr' := (97, [(7, .int 8), (6, .int 0), (0, .ref 165), (1, .int 0), (2, .int p1), (3, .int 1), (4, .int 1), (5, .int 0)], [])) rfl ?_
      refine xe_sn pg_117 4 (fr' := (75, [(7, .int 9), (6, .int 0), (0, .ref 165), (1, .int 0), (2, .int p1), (3, .int 1), (4, .int 1), (5, .int 0)], [.int 14, .int 9])) rfl ?_
      refine xe_sn pg_117 4 (fr' := (84, [(7, .int 9), (6, .int 0), (0, .ref 165), (1, .int 0), (2, .int p1), (3, .int 1), (4, .int 1), (5, .int 0)], [.int 0, .ref 166])) rfl ?_
      refine xe_sn pg_117 4 (fr' := (89, [(7, .int 9), (6, .int 0), (0, .ref 165), (1, .int 0), (2, .int p1), (3, .int 1), (4, .int 1), (5, .int 0)], [.int 13, .ref 166])) rfl ?_
      refine xe_sn pg_117 4 (fr' := (96, [(7, .int 9), (6, .int 0), (0, .ref 165), (1, .int 0), (2, .int p1), (3, .int 1), (4, .int 1), (5, .int 0)], [.int 0, .int 13, .ref 166])) rfl ?_
      refine xe_sn pg_117 4 (fr' := (73, [(7, .int 10), (6, .int 0), (0, .ref 165), (1, .int 0), (2, .int p1), (3, .int 1), (4, .int 1), (5, .int 0)], [.int 10])) rfl ?_
      refine xe_sn pg_117 4 (fr' := (82, [(7, .int 10), (6, .int 0), (0, .ref 165), (1, .int 0), (2, .int p1), (3, .int 1), (4, .int 1), (5, .int 0)], [.ref 166])) rfl ?_
      refine xe_sn pg_117 4 (fr' := (88, [(7, .int 10), (6, .int 0), (0, .ref 165), (1, .int 0), (2, .int p1), (3, .int 1), (4, .int 1), (5, .int 0)], [.int 10, .int 4, .ref 166])) rfl ?_
      refine xe_sn pg_117 4 (fr' := (95, [(7, .int 10), (6, .int 0), (0, .ref 165), (1, .int 0), (2, .int p1), (3, .int 1), (4, .int 1), (5, .int 0)], [.int 10, .ref 187, .int 14, .ref 166])) rfl ?_
      refine xe_sn pg_117 4 (fr' := (71, [(7, .int 11), (6, .int 0), (0, .ref 165), (1, .int 0), (2, .int p1), (3, .int 1), (4, .int 1), (5, .int 0)], [])) rfl ?_
      refine xe_sn pg_117 4 (fr' := (79, [(7, .int 11), (6, .int 0), (0, .ref 165), (1, .int 0), (2, .int p1), (3, .int 1), (4, .int 1), (5, .int 0)], [.ref 165])) rfl ?_
      refine xe_sn pg_117 4 (fr' := (86, [(7, .int 11), (6, .int 0), (0, .ref 165), (1, .int 0), (2, .int p1), (3, .int 1), (4, .int 1), (5, .int 0)], [.int 4, .ref 166])) rfl ?_
      refine xe_sn pg_117 4 (fr' := (93, [(7, .int 11), (6, .int 0), (0, .ref 165), (1, .int 0), (2, .int p1), (3, .int 1), (4, .int 1), (5, .int 0)], [.ref 187, .int 15, .ref 166])) rfl ?_
      refine xe_sn pg_117 4 (fr' := (100, [(7, .int 12), (6, .int 0), (0, .ref 165), (1, .int 0), (2, .int p1), (3, .int 1), (4, .int 1), (5, .int 0)], [])) rfl ?_
      refine xe_sn pg_117 4 (fr' := (78, [(7, .int 12), (6, .int 0), (0, .ref 165), (1, .int 0), (2, .int p1), (3, .int 1), (4, .int 1), (5, .int 0)], [])) rfl ?_
      refine xe_sn pg_117 4 (fr' := (85, [(7, .int 12), (6, .int 0), (0, .ref 165), (1, .int 0), (2, .int p1), (3, .int 1), (4, .int 1), (5, .int 0)], [.int 4, .int 0, .ref 166])) rfl ?_
      refine xe_sn pg_117 4 (fr' := (90, [(7, .int 12), (6, .int 0), (0, .ref 165), (1, .int 0), (2, .int p1), (3, .int 1), (4, .int 1), (5, .int 0)], [.ref 165, .int 16, .ref 166])) rfl ?_
      refine xe_sn pg_117 4 (fr' := (97, [(7, .int 12), (6, .int 0), (0, .ref 165), (1, .int 0), (2, .int p1), (3, .int 1), (4, .int 1), (5, .int 0)], [])) rfl ?_
      refine xe_sn pg_117 4 (fr' := (75, [(7, .int 13), (6, .int 0), (0, .ref 165), (1, .int 0), (2, .int p1), (3, .int 1), (4, .int 1), (5, .int 0)], [.int 14, .int 13])) rfl ?_
      refine xe_sn pg_117 4 (fr' := (84, [(7, .int 13), (6, .int 0), (0, .ref 165), (1, .int 0), (2, .int p1), (3, .int 1), (4, .int 1), (5, .int 0)], [.int 0, .ref 166])) rfl ?_
      refine xe_sn pg_117 4 (fr' := (89, [(7, .int 13), (6, .int 0), (0, .ref 165), (1, .int 0), (2, .int p1), (3, .int 1), (4, .int 1), (5, .int 0)], [.int 17, .ref 166])) rfl ?_
      refine xe_sn pg_117 4 (fr' := (96, [(7, .int 13), (6, .int 0), (0, .ref 165), (1, .int 0), (2, .int p1), (3, .int 1), (4, .int 1), (5, .int 0)], [.int 0, .int 17, .ref 166])) rfl ?_
      refine xe_sn pg_117 4 (fr' := (73, [(7, .int 14), (6, .int 0), (0, .ref 165), (1, .int 0), (2, .int p1), (3, .int 1), (4, .int 1), (5, .int 0)], [.int 14])) rfl ?_
      refine xe_sn pg_117 4 (fr' := (107, [(7, .int 14), (6, .int 0), (0, .ref 165), (1, .int 0), (2, .int p1), (3, .int 1), (4, .int 1), (5, .int 0)], [.ref 166])) rfl ?_
      refine xe_sn pg_117 4 (fr' := (114, [(7, .int 14), (6, .int 0), (0, .ref 165), (1, .int 0), (2, .int p1), (3, .int 1), (4, .int 1), (5, .int 0)], [.int 0, .int 18, .ref 166])) rfl ?_
      refine xe_sn pg_117 4 (fr' := (120, [(7, .int 14), (6, .int 0), (0, .ref 165), (1, .int 0), (2, .int p1), (3, .int 1), (4, .int 1), (5, .int 0)], [.int 0, .ref 165])) rfl ?_
      refine xe_sn pg_117 3 (fr' := (125, [(7, .int 14), (6, .int 0), (0, .ref 165), (1, .int 0), (2, .int p1), (3, .int 1), (4, .int 1), (5, .int 0)], [])) rfl ?_
      exact xe_end pg_117 rfl
    refine xe_sn pg_140 2 (fr' := (127, [(0, .ref 165), (1, .int 1), (2, .int p1), (3, .int (nI e2))], [.int 1])) rfl ?_
    exact xe_end pg_140 rfl
  · exact ⟨⟨rfl, rfl, rfl, rfl⟩, Nat.le_of_ble_eq_true rfl, Nat.le_of_ble_eq_true rfl, rfl, fun _ => rfl⟩

set_option maxRecDepth 100000 in
theorem lf_create_12 (xs : Nat → Int32) (p1 : Int32) (p2 : Int32) (a1 : p1.toInt < 1) : op_ok xs 161 140 [.ref 0, .int 2, .int p1, .int p2, .ref 189] [.ref 165, .int 2, .int p1, .int p2] := by
  refine ⟨1, 0, ?_⟩
  apply Exists.intro
  apply Exists.intro
  apply And.intro
  · refine xe_sn pg_161 4 (fr' := (5, [(0, .ref 0), (1, .int 2), (2, .int p1), (3, .int p2), (4, .ref 189)], [.int 2, .ref 0, .int 0, .ref 189])) rfl ?_
    refine xe_sn pg_161 2 (fr' := (7, [(0, .ref 0), (1, .int 2), (2, .int p1), (3, .int p2), (4, .ref 189)], [.int p2, .int p1, .int 2, .ref 0, .int 0, .ref 189])) rfl ?_
    apply xe_callq pg_161 74 [.ref 0, .int 2, .int p1, .int p2] (.inr 0) (17, [(0, .ref 0), (1, .int 2), (2, .int p1), (3, .int p2), (4, .ref 189)], []) rfl (fun _ => rfl)
    · refine xe_sn pg_74 1 (fr' := (1, [(0, .ref 0), (1, .int 2), (2, .int p1), (3, .int p2)], [.int 2])) rfl ?_
      apply xe_callq pg_74 92 [.int 2] (.inl none) (4, [(0, .ref 0), (1, .int 2), (2, .int p1), (3, .int p2)], []) rfl (fun _ => rfl)
      · refine xe_sn pg_92 2 (fr' := (2, [(0, .int 2)], [.int 4, .int 2])) rfl ?_
        apply xe_callq pg_92 95 [.int 2, .int 4] (.inl none) (5, [(0, .int 2)], []) rfl (fun _ => rfl)
        · refine xe_sn pg_95 4 (fr' := (6, [(0, .int 2), (1, .int 4)], [.int 4, .int 2])) rfl ?_
          refine xe_sn pg_95 1 (fr' := (17, [(0, .int 2), (1, .int 4)], [])) rfl ?_
          exact xe_end pg_95 rfl
        exact xe_end pg_92 rfl
      refine xe_sn pg_74 1 (fr' := (5, [(0, .ref 0), (1, .int 2), (2, .int p1), (3, .int p2)], [.int p1])) rfl ?_
      apply xe_callqx pg_74 93 [.int p1] 0 rfl (fun _ => rfl)
      · refine xe_sn pg_93 2 (fr' := (2, [(0, .int p1)], [.int 1, .int p1])) rfl ?_
        refine xe_t2 pg_93 10 rfl rfl (by show (p1).toInt < 1; omega) ?_
        exact xe_end pg_93 rfl
    refine xe_sn pg_161 1 (fr' := (18, [(0, .ref 0), (1, .int 2), (2, .int p1), (3, .int p2), (4, .ref 189)], [.int 1])) rfl ?_
    exact xe_end pg_161 rfl
  refine And.intro ⟨rfl, rfl, rfl, rfl⟩ ?_
  apply And.intro
  · refine xe_sn pg_140 2 (fr' := (2, [(0, .ref 165), (1, .int 2), (2, .int p1), (3, .int p2)], [.int 2, .ref 165])) rfl ?_
    apply xe_callq pg_140 104 [.int 2] (.inl (some (.int 1))) (5, [(0, .ref 165), (1, .int 2), (2, .int p1), (3, .int p2)], [.int 1, .ref 165]) rfl (fun _ => rfl)
    · refine xe_sn pg_104 3 (fr' := (3, [(0, .int 2)], [.int 3, .int 0, .int 2])) rfl ?_
      apply xe_callq pg_104 103 [.int 2, .int 0, .int 3] (.inl (some (.int 1))) (6, [(0, .int 2)], [.int 1]) rfl (fun _ => rfl)
      · refine xe_sn pg_103 4 (fr' := (6, [(0, .int 2), (1, .int 0), (2, .int 3)], [.int 2])) rfl ?_
        refine xe_sn pg_103 4 (fr' := (15, [(0, .int 2), (1, .int 0), (2, .int 3)], [.int 1])) rfl ?_
        exact xe_end pg_103 rfl
      exact xe_end pg_104 rfl
    refine xe_sn pg_140 2 (fr' := (9, [(0, .ref 165), (1, .int 2), (2, .int p1), (3, .int p2)], [.int p1, .ref 165])) rfl ?_
    apply xe_callq pg_140 105 [.int p1] (.inl (some (.int 0))) (12, [(0, .ref 165), (1, .int 2), (2, .int p1), (3, .int p2)], [.int 0, .ref 165]) rfl (fun _ => rfl)
    · refine xe_sn pg_105 3 (fr' := (3, [(0, .int p1)], [.int 4, .int 1, .int p1])) rfl ?_
      apply xe_callq pg_105 103 [.int p1, .int 1, .int 4] (.inl (some (.int 0))) (6, [(0, .int p1)], [.int 0]) rfl (fun _ => rfl)
      · refine xe_sn pg_103 2 (fr' := (2, [(0, .int p1), (1, .int 1), (2, .int 4)], [.int 1, .int p1])) rfl ?_
        refine xe_t2 pg_103 14 rfl rfl (by show (p1).toInt < 1; omega) ?_
        refine xe_sn pg_103 1 (fr' := (15, [(0, .int p1), (1, .int 1), (2, .int 4)], [.int 0])) rfl ?_
        exact xe_end pg_103 rfl
      exact xe_end pg_105 rfl
    refine xe_sn pg_140 4 (fr' := (49, [(0, .ref 165), (1, .int 2), (2, .int p1), (3, .int p2)], [])) rfl ?_
    refine xe_sn pg_140 4 (fr' := (57, [(0, .ref 165), (1, .int 2), (2, .int p1), (3, .int p2)], [.int 0])) rfl ?_
    exact xe_end pg_140 rfl
  · exact ⟨⟨rfl, rfl, rfl, rfl⟩, Nat.le_of_ble_eq_true rfl, Nat.le_of_ble_eq_true rfl, rfl, fun q => absurd q (by decide)⟩

set_option maxRecDepth 100000 in
theorem lf_create_13 (xs : Nat → Int32) (p1 : Int32) (p2 : Int32) (b1 : 4 < p1.toInt) : op_ok xs 161 140 [.ref 0, .int 2, .int p1, .int p2, .ref 189] [.ref 165, .int 2, .int p1, .int p2] := by
  refine ⟨1, 0, ?_⟩
  apply Exists.intro
  apply Exists.intro
  apply And.intro
  · refine xe_sn pg_161 4 (fr' := (5, [(0, .ref 0), (1, .int 2), (2, .int p1), (3, .int p2), (4, .ref 189)], [.int 2, .ref 0, .int 0, .ref 189])) rfl ?_
    refine xe_sn pg_161 2 (fr' := (7, [(0, .ref 0), (1, .int 2), (2, .int p1), (3, .int p2), (4, .ref 189)], [.int p2, .int p1, .int 2, .ref 0, .int 0, .ref 189])) rfl ?_
    apply xe_callq pg_161 74 [.ref 0, .int 2, .int p1, .int p2] (.inr 0) (17, [(0, .ref 0), (1, .int 2), (2, .int p1), (3, .int p2), (4, .ref 189)], []) rfl (fun _ => rfl)
    · refine xe_sn pg_74 1 (fr' := (1, [(0, .ref 0), (1, .int 2), (2, .int p1), (3, .int p2)], [.int 2])) rfl ?_
      apply xe_callq pg_74 92 [.int 2] (.inl none) (4, [(0, .ref 0), (1, .int 2), (2, .int p1), (3, .int p2)], []) rfl (fun _ => rfl)
      · refine xe_sn pg_92 2 (fr' := (2, [(0, .int 2)], [.int 4, .int 2])) rfl ?_
        apply xe_callq pg_92 95 [.int 2, .int 4] (.inl none) (5, [(0, .int 2)], []) rfl (fun _ => rfl)
        · refine xe_sn pg_95 4 (fr' := (6, [(0, .int 2), (1, .int 4)], [.int 4, .int 2])) rfl ?_
          refine xe_sn pg_95 1 (fr' := (17, [(0, .int 2), (1, .int 4)], [])) rfl ?_
          exact xe_end pg_95 rfl
        exact xe_end pg_92 rfl
      refine xe_sn pg_74 1 (fr' := (5, [(0, .ref 0), (1, .int 2), (2, .int p1), (3, .int p2)], [.int p1])) rfl ?_
      apply xe_callqx pg_74 93 [.int p1] 0 rfl (fun _ => rfl)
      · refine xe_sn pg_93 2 (fr' := (2, [(0, .int p1)], [.int 1, .int p1])) rfl ?_
        refine xe_f2 pg_93 10 rfl rfl (by show ¬ ((p1).toInt < 1); omega) ?_
        refine xe_sn pg_93 2 (fr' := (7, [(0, .int p1)], [.int 4, .int p1])) rfl ?_
        refine xe_f2 pg_93 18 rfl rfl (by show ¬ ((p1).toInt ≤ 4); omega) ?_
        exact xe_end pg_93 rfl
    refine xe_sn pg_161 1 (fr' := (18, [(0, .ref 0), (1, .int 2), (2, .int p1), (3, .int p2), (4, .ref 189)], [.int 1])) rfl ?_
    exact xe_end pg_161 rfl
  refine And.intro ⟨rfl, rfl, rfl, rfl⟩ ?_
  apply And.intro
  · refine xe_sn pg_140 2 (fr' := (2, [(0, .ref 165), (1, .int 2), (2, .int p1), (3, .int p2)], [.int 2, .ref 165])) rfl ?_
    apply xe_callq pg_140 104 [.int 2] (.inl (some (.int 1))) (5, [(0, .ref 165), (1, .int 2), (2, .int p1), (3, .int p2)], [.int 1, .ref 165]) rfl (fun _ => rfl)
    · refine xe_sn pg_104 3 (fr' := (3, [(0, .int 2)], [.int 3, .int 0, .int 2])) rfl ?_
      apply xe_callq pg_104 103 [.int 2, .int 0, .int 3] (.inl (some (.int 1))) (6, [(0, .int 2)], [.int 1]) rfl (fun _ => rfl)
      · refine xe_sn pg_103 4 (fr' := (6, [(0, .int 2), (1, .int 0), (2, .int 3)], [.int 2])) rfl ?_
        refine xe_sn pg_103 4 (fr' := (15, [(0, .int 2), (1, .int 0), (2, .int 3)], [.int 1])) rfl ?_
        exact xe_end pg_103 rfl
      exact xe_end pg_104 rfl
    refine xe_sn pg_140 2 (fr' := (9, [(0, .ref 165), (1, .int 2), (2, .int p1), (3, .int p2)], [.int p1, .ref 165])) rfl ?_
    apply xe_callq pg_140 105 [.int p1] (.inl (some (.int 0))) (12, [(0, .ref 165), (1, .int 2), (2, .int p1), (3, .int p2)], [.int 0, .ref 165]) rfl (fun _ => rfl)
    · refine xe_sn pg_105 3 (fr' := (3, [(0, .int p1)], [.int 4, .int 1, .int p1])) rfl ?_
      apply xe_callq pg_105 103 [.int p1, .int 1, .int 4] (.inl (some (.int 0))) (6, [(0, .int p1)], [.int 0]) rfl (fun _ => rfl)
      · refine xe_sn pg_103 2 (fr' := (2, [(0, .int p1), (1, .int 1), (2, .int 4)], [.int 1, .int p1])) rfl ?_
        refine xe_f2 pg_103 14 rfl rfl (by show ¬ ((p1).toInt < 1); omega) ?_
        refine xe_sn pg_103 2 (fr' := (7, [(0, .int p1), (1, .int 1), (2, .int 4)], [.int 4, .int p1])) rfl ?_
        refine xe_t2 pg_103 14 rfl rfl (by show 4 < (p1).toInt; omega) ?_
        refine xe_sn pg_103 1 (fr' := (15, [(0, .int p1), (1, .int 1), (2, .int 4)], [.int 0])) rfl ?_
        exact xe_end pg_103 rfl
      exact xe_end pg_105 rfl
    refine xe_sn pg_140 4 (fr' := (49, [(0, .ref 165), (1, .int 2), (2, .int p1), (3, .int p2)], [])) rfl ?_
    refine xe_sn pg_140 4 (fr' := (57, [(0, .ref 165), (1, .int 2), (2, .int p1), (3, .int p2)], [.int 0])) rfl ?_
    exact xe_end pg_140 rfl
  · exact ⟨⟨rfl, rfl, rfl, rfl⟩, Nat.le_of_ble_eq_true rfl, Nat.le_of_ble_eq_true rfl, rfl, fun q => absurd q (by decide)⟩

set_option maxRecDepth 100000 in
theorem lf_create_14 (xs : Nat → Int32) (p1 : Int32) (p2 : Int32) (a1 : 1 ≤ p1.toInt) (b1 : p1.toInt ≤ 4) (a2 : p2.toInt < 1) : op_ok xs 161 140 [.ref 0, .int 2, .int p1, .int p2, .ref 189] [.ref 165, .int 2, .int p1, .int p2] := by
  refine ⟨2, 0, ?_⟩
  apply Exists.intro
  apply Exists.intro
  apply And.intro
  · refine xe_sn pg_161 4 (fr' := (5, [(0, .ref 0), (1, .int 2), (2, .int p1), (3, .int p2), (4, .ref 189)], [.int 2, .ref 0, .int 0, .ref 189])) rfl ?_
    refine xe_sn pg_161 2 (fr' := (7, [(0, .ref 0), (1, .int 2), (2, .int p1), (3, .int p2), (4, .ref 189)], [.int p2, .int p1, .int 2, .ref 0, .int 0, .ref 189])) rfl ?_
    apply xe_callq pg_161 74 [.ref 0, .int 2, .int p1, .int p2] (.inr 1) (21, [(0, .ref 0), (1, .int 2), (2, .int p1), (3, .int p2), (4, .ref 189)], []) rfl (fun _ => rfl)
    · refine xe_sn pg_74 1 (fr' := (1, [(0, .ref 0), (1, .int 2), (2, .int p1), (3, .int p2)], [.int 2])) rfl ?_
      apply xe_callq pg_74 92 [.int 2] (.inl none) (4, [(0, .ref 0), (1, .int 2), (2, .int p1), (3, .int p2)], []) rfl (fun _ => rfl)
      · refine xe_sn pg_92 2 (fr' := (2, [(0, .int 2)], [.int 4, .int 2])) rfl ?_
        apply xe_callq pg_92 95 [.int 2, .int 4] (.inl none) (5, [(0, .int 2)], []) rfl (fun _ => rfl)
        · refine xe_sn pg_95 4 (fr' := (6, [(0, .int 2), (1, .int 4)], [.int 4, .int 2])) rfl ?_
          refine xe_sn pg_95 1 (fr' := (17, [(0, .int 2), (1, .int 4)], [])) rfl ?_
          exact xe_end pg_95 rfl
        exact xe_end pg_92 rfl
      refine xe_sn pg_74 1 (fr' := (5, [(0, .ref 0), (1, .int 2), (2, .int p1), (3, .int p2)], [.int p1])) rfl ?_
      apply xe_callq pg_74 93 [.int p1] (.inl none) (8, [(0, .ref 0), (1, .int 2), (2, .int p1), (3, .int p2)], []) rfl (fun _ => rfl)
      · refine xe_sn pg_93 2 (fr' := (2, [(0, .int p1)], [.int 1, .int p1])) rfl ?_
        refine xe_f2 pg_93 10 rfl rfl (by show ¬ ((p1).toInt < 1); omega) ?_
        refine xe_sn pg_93 2 (fr' := (7, [(0, .int p1)], [.int 4, .int p1])) rfl ?_
        refine xe_t2 pg_93 18 rfl rfl (by show (p1).toInt ≤ 4; omega) ?_
        exact xe_end pg_93 rfl
      refine xe_sn pg_74 1 (fr' := (9, [(0, .ref 0), (1, .int 2), (2, .int p1), (3, .int p2)], [.int p2])) rfl ?_
      apply xe_callqx pg_74 96 [.int p2] 1 rfl (fun _ => rfl)
      · refine xe_sn pg_96 2 (fr' := (2, [(0, .int p2)], [.int 1, .int p2])) rfl ?_
        refine xe_t2 pg_96 15 rfl rfl (by show (p2).toInt < 1; omega) ?_
        refine xe_sn pg_96 1 (fr' := (16, [(0, .int p2)], [.int 0])) rfl ?_
        apply xe_callqx pg_96 97 [.int 0] 1 rfl (fun _ => rfl)
        · refine xe_sn pg_97 2 (fr' := (4, [(0, .int 0)], [])) rfl ?_
          exact xe_end pg_97 rfl
    refine xe_sn pg_161 1 (fr' := (22, [(0, .ref 0), (1, .int 2), (2, .int p1), (3, .int p2), (4, .ref 189)], [.int 2])) rfl ?_
    exact xe_end pg_161 rfl
  refine And.intro ⟨rfl, rfl, rfl, rfl⟩ ?_
  apply And.intro
  · refine xe_sn pg_140 2 (fr' := (2, [(0, .ref 165), (1, .int 2), (2, .int p1), (3, .int p2)], [.int 2, .ref 165])) rfl ?_
    apply xe_callq pg_140 104 [.int 2] (.inl (some (.int 1))) (5, [(0, .ref 165), (1, .int 2), (2, .int p1), (3, .int p2)], [.int 1, .ref 165]) rfl (fun _ => rfl)
    · refine xe_sn pg_104 3 (fr' := (3, [(0, .int 2)], [.int 3, .int 0, .int 2])) rfl ?_
      apply xe_callq pg_104 103 [.int 2, .int 0, .int 3] (.inl (some (.int 1))) (6, [(0, .int 2)], [.int 1]) rfl (fun _ => rfl)
      · refine xe_sn pg_103 4 (fr' := (6, [(0, .int 2), (1, .int 0), (2, .int 3)], [.int 2])) rfl ?_
        refine xe_sn pg_103 4 (fr' := (15, [(0, .int 2), (1, .int 0), (2, .int 3)], [.int 1])) rfl ?_
        exact xe_end pg_103 rfl
      exact xe_end pg_104 rfl
    refine xe_sn pg_140 2 (fr' := (9, [(0, .ref 165), (1, .int 2), (2, .int p1), (3, .int p2)], [.int p1, .ref 165])) rfl ?_
    apply xe_callq pg_140 105 [.int p1] (.inl (some (.int 1))) (12, [(0, .ref 165), (1, .int 2), (2, .int p1), (3, .int p2)], [.int 1, .ref 165]) rfl (fun _ => rfl)
    · refine xe_sn pg_105 3 (fr' := (3, [(0, .int p1)], [.int 4, .int 1, .int p1])) rfl ?_
      apply xe_callq pg_105 103 [.int p1, .int 1, .int 4] (.inl (some (.int 1))) (6, [(0, .int p1)], [.int 1]) rfl (fun _ => rfl)
      · refine xe_sn pg_103 2 (fr' := (2, [(0, .int p1), (1, .int 1), (2, .int 4)], [.int 1, .int p1])) rfl ?_
        refine xe_f2 pg_103 14 rfl rfl (by show ¬ ((p1).toInt < 1); omega) ?_
        refine xe_sn pg_103 2 (fr' := (7, [(0, .int p1), (1, .int 1), (2, .int 4)], [.int 4, .int p1])) rfl ?_
        refine xe_f2 pg_103 14 rfl rfl (by show ¬ (4 < (p1).toInt); omega) ?_
        refine xe_sn pg_103 2 (fr' := (15, [(0, .int p1), (1, .int 1), (2, .int 4)], [.int 1])) rfl ?_
        exact xe_end pg_103 rfl
      exact xe_end pg_105 rfl
    refine xe_sn pg_140 4 (fr' := (23, [(0, .ref 165), (1, .int 2), (2, .int p1), (3, .int p2)], [.int 65519, .int 1, .int p2, .ref 165])) rfl ?_
    apply xe_callq pg_140 103 [.int p2, .int 1, .int 65519] (.inl (some (.int 0))) (26, [(0, .ref 165), (1, .int 2), (2, .int p1), (3, .int p2)], [.int 0, .ref 165]) rfl (fun _ => rfl)
    · refine xe_sn pg_103 2 (fr' := (2, [(0, .int p2), (1, .int 1), (2, .int 65519)], [.int 1, .int p2])) rfl ?_
      refine xe_t2 pg_103 14 rfl rfl (by show (p2).toInt < 1; omega) ?_
      refine xe_sn pg_103 1 (fr' := (15, [(0, .int p2), (1, .int 1), (2, .int 65519)], [.int 0])) rfl ?_
      exact xe_end pg_103 rfl
    refine xe_sn pg_140 4 (fr' := (49, [(0, .ref 165), (1, .int 2), (2, .int p1), (3, .int p2)], [])) rfl ?_
    refine xe_sn pg_140 4 (fr' := (57, [(0, .ref 165), (1, .int 2), (2, .int p1), (3, .int p2)], [.int 0])) rfl ?_
    exact xe_end pg_140 rfl
  · exact ⟨⟨rfl, rfl, rfl, rfl⟩, Nat.le_of_ble_eq_true rfl, Nat.le_of_ble_eq_true rfl, rfl, fun q => absurd q (by decide)⟩

set_option maxRecDepth 100000 in
theorem lf_create_15 (xs : Nat → Int32) (p1 : Int32) (p2 : Int32) (a1 : 1 ≤ p1.toInt) (b1 : p1.toInt ≤ 4) (b2 : 65519 < p2.toInt) : op_ok xs 161 140 [.ref 0, .int 2, .int p1, .int p2, .ref 189] [.ref 165, .int 2, .int p1, .int p2] := by
  refine ⟨2, 0, ?_⟩
  apply Exists.intro
  apply Exists.intro
  apply And.intro
  · refine xe_sn pg_161 4 (fr' := (5, [(0, .ref 0), (1, .int 2), (2, .int p1), (3, .int p2), (4, .ref 189)], [.int 2, .ref 0, .int 0, .ref 189])) rfl ?_
    refine xe_sn pg_161 2 (fr' := (7, [(0, .ref 0), (1, .int 2), (2, .int p1), (3, .int p2), (4, .ref 189)], [.int p2, .int p1, .int 2, .ref 0, .int 0, .ref 189])) rfl ?_
    apply xe_callq pg_161 74 [.ref 0, .int 2, .int p1, .int p2] (.inr 1) (21, [(0, .ref 0), (1, .int 2), (2, .int p1), (3, .int p2), (4, .ref 189)], []) rfl (fun _ => rfl)
    · refine xe_sn pg_74 1 (fr' := (1, [(0, .ref 0), (1, .int 2), (2, .int p1), (3, .int p2)], [.int 2])) rfl ?_
      apply xe_callq pg_74 92 [.int 2] (.inl none) (4, [(0, .ref 0), (1, .int 2), (2, .int p1), (3, .int p2)], []) rfl (fun _ => rfl)
      · refine xe_sn pg_92 2 (fr' := (2, [(0, .int 2)], [.int 4, .int 2])) rfl ?_
        apply xe_callq pg_92 95 [.int 2, .int 4] (.inl none) (5, [(0, .int 2)], []) rfl (fun _ => rfl)
        · refine xe_sn pg_95 4 (fr' := (6, [(0, .int 2), (1, .int 4)], [.int 4, .int 2])) rfl ?_
          refine xe_sn pg_95 1 (fr' := (17, [(0, .int 2), (1, .int 4)], [])) rfl ?_
          exact xe_end pg_95 rfl
        exact xe_end pg_92 rfl
      refine xe_sn pg_74 1 (fr' := (5, [(0, .ref 0), (1, .int 2), (2, .int p1), (3, .int p2)], [.int p1])) rfl ?_
      apply xe_callq pg_74 93 [.int p1] (.inl none) (8, [(0, .ref 0), (1, .int 2), (2, .int p1), (3, .int p2)], []) rfl (fun _ => rfl)
      · refine xe_sn pg_93 2 (fr' := (2, [(0, .int p1)], [.int 1, .int p1])) rfl ?_
        refine xe_f2 pg_93 10 rfl rfl (by show ¬ ((p1).toInt < 1); omega) ?_
        refine xe_sn pg_93 2 (fr' := (7, [(0, .int p1)], [.int 4, .int p1])) rfl ?_
        refine xe_t2 pg_93 18 rfl rfl (by show (p1).toInt ≤ 4; omega) ?_
        exact xe_end pg_93 rfl
      refine xe_sn pg_74 1 (fr' := (9, [(0, .ref 0), (1, .int 2), (2, .int p1), (3, .int p2)], [.int p2])) rfl ?_
      apply xe_callqx pg_74 96 [.int p2] 1 rfl (fun _ => rfl)
      · refine xe_sn pg_96 2 (fr' := (2, [(0, .int p2)], [.int 1, .int p2])) rfl ?_
        refine xe_f2 pg_96 15 rfl rfl (by show ¬ ((p2).toInt < 1); omega) ?_
        refine xe_sn pg_96 2 (fr' := (8, [(0, .int p2)], [.int 65519, .int p2])) rfl ?_
        refine xe_t2 pg_96 15 rfl rfl (by show 65519 < (p2).toInt; omega) ?_
        refine xe_sn pg_96 1 (fr' := (16, [(0, .int p2)], [.int 0])) rfl ?_
        apply xe_callqx pg_96 97 [.int 0] 1 rfl (fun _ => rfl)
        · refine xe_sn pg_97 2 (fr' := (4, [(0, .int 0)], [])) rfl ?_
          exact xe_end pg_97 rfl
    refine xe_sn pg_161 1 (fr' := (22, [(0, .ref 0), (1, .int 2), (2, .int p1), (3, .int p2), (4, .ref 189)], [.int 2])) rfl ?_
    exact xe_end pg_161 rfl
  refine And.intro ⟨rfl, rfl, rfl, rfl⟩ ?_
  apply And.intro
  · refine xe_sn pg_140 2 (fr' := (2, [(0, .ref 165), (1, .int 2), (2, .int p1), (3, .int p2)], [.int 2, .ref 165])) rfl ?_
    apply xe_callq pg_140 104 [.int 2] (.inl (some (.int 1))) (5, [(0, .ref 165), (1, .int 2), (2, .int p1), (3, .int p2)], [.int 1, .ref 165]) rfl (fun _ => rfl)
    · refine xe_sn pg_104 3 (fr' := (3, [(0, .int 2)], [.int 3, .int 0, .int 2])) rfl ?_
      apply xe_callq pg_104 103 [.int 2, .int 0, .int 3] (.inl (some (.int 1))) (6, [(0, .int 2)], [.int 1]) rfl (fun _ => rfl)
      · refine xe_sn pg_103 4 (fr' := (6, [(0, .int 2), (1, .int 0), (2, .int 3)], [.int 2])) rfl ?_
        refine xe_sn pg_103 4 (fr' := (15, [(0, .int 2), (1, .int 0), (2, .int 3)], [.int 1])) rfl ?_
        exact xe_end pg_103 rfl
      exact xe_end pg_104 rfl
    refine xe_sn pg_140 2 (fr' := (9, [(0, .ref 165), (1, .int 2), (2, .int p1), (3, .int p2)], [.int p1, .ref 165])) rfl ?_
    apply xe_callq pg_140 105 [.int p1] (.inl (some (.int 1))) (12, [(0, .ref 165), (1, .int 2), (2, .int p1), (3, .int p2)], [.int 1, .ref 165]) rfl (fun _ => rfl)
    · refine xe_sn pg_105 3 (fr' := (3, [(0, .int p1)], [.int 4, .int 1, .int p1])) rfl ?_
      apply xe_callq pg_105 103 [.int p1, .int 1, .int 4] (.inl (some (.int 1))) (6, [(0, .int p1)], [.int 1]) rfl (fun _ => rfl)
      · refine xe_sn pg_103 2 (fr' := (2, [(0, .int p1), (1, .int 1), (2, .int 4)], [.int 1, .int p1])) rfl ?_
        refine xe_f2 pg_103 14 rfl rfl (by show ¬ ((p1).toInt < 1); omega) ?_
        refine xe_sn pg_103 2 (fr' := (7, [(0, .int p1), (1, .int 1), (2, .int 4)], [.int 4, .int p1])) rfl ?_
        refine xe_f2 pg_103 14 rfl rfl (by show ¬ (4 < (p1).toInt); omega) ?_
        refine xe_sn pg_103 2 (fr' := (15, [(0, .int p1), (1, .int 1), (2, .int 4)], [.int 1])) rfl ?_
        exact xe_end pg_103 rfl
      exact xe_end pg_105 rfl
    refine xe_sn pg_140 4 (fr' := (23, [(0, .ref 165), (1, .int 2), (2, .int p1), (3, .int p2)], [.int 65519, .int 1, .int p2, .ref 165])) rfl ?_
    apply xe_callq pg_140 103 [.int p2, .int 1, .int 65519] (.inl (some (.int 0))) (26, [(0, .ref 165), (1, .int 2), (2, .int p1), (3, .int p2)], [.int 0, .ref 165]) rfl (fun _ => rfl)
    · refine xe_sn pg_103 2 (fr' := (2, [(0, .int p2), (1, .int 1), (2, .int 65519)], [.int 1, .int p2])) rfl ?_
      refine xe_f2 pg_103 14 rfl rfl (by show ¬ ((p2).toInt < 1); omega) ?_
      refine xe_sn pg_103 2 (fr' := (7, [(0, .int p2), (1, .int 1), (2, .int 65519)], [.int 65519, .int p2])) rfl ?_
      refine xe_t2 pg_103 14 rfl rfl (by show 65519 < (p2).toInt; omega) ?_
      refine xe_sn pg_103 1 (fr' := (15, [(0, .int p2), (1, .int 1), (2, .int 65519)], [.int 0])) rfl ?_
      exact xe_end pg_103 rfl
    refine xe_sn pg_140 4 (fr' := (49, [(0, .ref 165), (1, .int 2), (2, .int p1), (3, .int p2)], [])) rfl ?_
    refine xe_sn pg_140 4 (fr' := (57, [(0, .ref 165), (1, .int 2), (2, .int p1), (3, .int p2)], [.int 0])) rfl ?_
    exact xe_end pg_140 rfl
  · exact ⟨⟨rfl, rfl, rfl, rfl⟩, Nat.le_of_ble_eq_true rfl, Nat.le_of_ble_eq_true rfl, rfl, fun q => absurd q (by decide)⟩

set_option maxRecDepth 100000 in
theorem lf_create_16 (xs : Nat → Int32) (p1 : Int32) (e2 : Nat) (a1 : 1 ≤ p1.toInt) (b1 : p1.toInt ≤ 4) (c2 : 1 ≤ e2) (d2 : e2 ≤ 65519) : op_ok xs 161 140 [.ref 0, .int 2, .int p1, .int (nI e2), .ref 189] [.ref 165, .int 2, .int p1, .int (nI e2)] := by
  refine ⟨0, 1, ?_⟩
  apply Exists.intro
  apply Exists.intro
  apply And.intro
  · refine xe_sn pg_161 4 (fr' := (5, [(0, .ref 0), (1, .int 2), (2, .int p1), (3, .int (nI e2)), (4, .ref 189)], [.int 2, .ref 0, .int 0, .ref 189])) rfl ?_
    refine xe_sn pg_161 2 (fr' := (7, [(0, .ref 0), (1, .int 2), (2, .int p1), (3, .int (nI e2)), (4, .ref 189)], [.int (nI e2), .int p1, .int 2, .ref 0, .int 0, .ref 189])) rfl ?_
    apply xe_callq pg_161 74 [.ref 0, .int 2, .int p1, .int (nI e2)] (.inl (some (.int 1))) (10, [(0, .ref 0), (1, .int 2), (2, .int p1), (3, .int (nI e2)), (4, .ref 189)], [.int 1, .int 0, .ref 189]) rfl (fun _ => rfl)
    · refine xe_sn pg_74 1 (fr' := (1, [(0, .ref 0), (1, .int 2), (2, .int p1), (3, .int (nI e2))], [.int 2])) rfl ?_
      apply xe_callq pg_74 92 [.int 2] (.inl none) (4, [(0, .ref 0), (1, .int 2), (2, .int p1), (3, .int (nI e2))], []) rfl (fun _ => rfl)
      · refine xe_sn pg_92 2 (fr' := (2, [(0, .int 2)], [.int 4, .int 2])) rfl ?_
        apply xe_callq pg_92 95 [.int 2, .int 4] (.inl none) (5, [(0, .int 2)], []) rfl (fun _ => rfl)
        · refine xe_sn pg_95 4 (fr' := (6, [(0, .int 2), (1, .int 4)], [.int 4, .int 2])) rfl ?_
          refine xe_sn pg_95 1 (fr' := (17, [(0, .int 2), (1, .int 4)], [])) rfl ?_
          exact xe_end pg_95 rfl
        exact xe_end pg_92 rfl
      refine xe_sn pg_74 1 (fr' := (5, [(0, .ref 0), (1, .int 2), (2, .int p1), (3, .int (nI e2))], [.int p1])) rfl ?_
      apply xe_callq pg_74 93 [.int p1] (.inl none) (8, [(0, .ref 0), (1, .int 2), (2, .int p1), (3, .int (nI e2))], []) rfl (fun _ => rfl)
      · refine xe_sn pg_93 2 (fr' := (2, [(0, .int p1)], [.int 1, .int p1])) rfl ?_
        refine xe_f2 pg_93 10 rfl rfl (by show ¬ ((p1).toInt < 1); omega) ?_
        refine xe_sn pg_93 2 (fr' := (7, [(0, .int p1)], [.int 4, .int p1])) rfl ?_
        refine xe_t2 pg_93 18 rfl rfl (by show (p1).toInt ≤ 4; omega) ?_
        exact xe_end pg_93 rfl
      refine xe_sn pg_74 1 (fr' := (9, [(0, .ref 0), (1, .int 2), (2, .int p1), (3, .int (nI e2))], [.int (nI e2)])) rfl ?_
      apply xe_callq pg_74 96 [.int (nI e2)] (.inl none) (12, [(0, .ref 0), (1, .int 2), (2, .int p1), (3, .int (nI e2))], []) rfl (fun _ => rfl)
      · refine xe_sn pg_96 2 (fr' := (2, [(0, .int (nI e2))], [.int 1, .int (nI e2)])) rfl ?_
        refine xe_f2 pg_96 15 rfl rfl (by show ¬ (((nI e2)).toInt < 1); rw [nI_toInt (n := e2) (by omega)]; omega) ?_
        refine xe_sn pg_96 2 (fr' := (8, [(0, .int (nI e2))], [.int 65519, .int (nI e2)])) rfl ?_
        refine xe_f2 pg_96 15 rfl rfl (by show ¬ (65519 < ((nI e2)).toInt); rw [nI_toInt (n := e2) (by omega)]; omega) ?_
        refine xe_sn pg_96 2 (fr' := (16, [(0, .int (nI e2))], [.int 1])) rfl ?_
        apply xe_callq pg_96 97 [.int 1] (.inl none) (19, [(0, .int (nI e2))], []) rfl (fun _ => rfl)
        · refine xe_sn pg_97 2 (fr' := (12, [(0, .int 1)], [])) rfl ?_
          exact xe_end pg_97 rfl
        exact xe_end pg_96 rfl
      refine xe_sn pg_74 4 (fr' := (18, [(0, .ref 0), (1, .int 2), (2, .int p1), (3, .int (nI e2))], [.ref 143])) rfl ?_
      refine xe_sn pg_74 2 (fr' := (22, [(4, .ref 143), (0, .ref 0), (1, .int 2), (2, .int p1), (3, .int (nI e2))], [.ref 143])) rfl ?_
      apply xe_callq pg_74 16 [.ref 143] (.inl (some (.int 0))) (25, [(4, .ref 143), (0, .ref 0), (1, .int 2), (2, .int p1), (3, .int (nI e2))], [.int 0]) rfl (fun _ => rfl)
      · refine xe_sn pg_16 4 (fr' := (8, [(0, .ref 143)], [])) rfl ?_
        refine xe_sn pg_16 4 (fr' := (20, [(0, .ref 143)], [])) rfl ?_
        refine xe_sn pg_16 1 (fr' := (21, [(0, .ref 143)], [.int 0])) rfl ?_
        exact xe_end pg_16 rfl
      refine xe_sn pg_74 3 (fr' := (33, [(4, .ref 143), (0, .ref 0), (1, .int 2), (2, .int p1), (3, .int (nI e2))], [.int 1])) rfl ?_
      apply xe_callq pg_74 98 [.int 1] (.inl none) (36, [(4, .ref 143), (0, .ref 0), (1, .int 2), (2, .int p1), (3, .int (nI e2))], []) rfl (fun _ => rfl)
      · refine xe_sn pg_98 2 (fr' := (12, [(0, .int 1)], [])) rfl ?_
        exact xe_end pg_98 rfl
      refine xe_sn pg_74 3 (fr' := (40, [(4, .ref 143), (0, .ref 0), (1, .int 2), (2, .int p1), (3, .int (nI e2))], [.int (nI e2), .int p1, .ref 143])) rfl ?_
      apply xe_callq pg_74 19 [.ref 143, .int p1, .int (nI e2)] (.inl none) (43, [(4, .ref 143), (0, .ref 0), (1, .int 2), (2, .int p1), (3, .int (nI e2))], []) rfl (fun _ => rfl)
      · refine xe_sn pg_19 4 (fr' := (6, [(0, .ref 143), (1, .int p1), (2, .int (nI e2))], [.ref 143])) rfl ?_
        refine xe_sn pg_19 1 (fr' := (7, [(0, .ref 143), (1, .int p1), (2, .int (nI e2))], [.int 0, .ref 143])) rfl ?_
        apply xe_callq pg_19 31 [.ref 143, .int 0] (.inl none) (10, [(0, .ref 143), (1, .int p1), (2, .int (nI e2))], []) rfl (fun _ => rfl)
        · refine xe_sn pg_31 4 (fr' := (4, [(2, .int 0), (0, .ref 143), (1, .int 0)], [.int 3, .int 0])) rfl ?_
          refine xe_sn pg_31 4 (fr' := (12, [(2, .int 0), (0, .ref 143), (1, .int 0)], [.int 0, .ref 149])) rfl ?_
          refine xe_sn pg_31 4 (fr' := (20, [(2, .int 0), (0, .ref 143), (1, .int 0)], [])) rfl ?_
          refine xe_sn pg_31 4 (fr' := (26, [(2, .int 0), (0, .ref 143), (1, .int 0)], [.ref 151])) rfl ?_
          refine xe_sn pg_31 2 (fr' := (28, [(2, .int 0), (0, .ref 143), (1, .int 0)], [.int 0, .int 0, .ref 151])) rfl ?_
          apply xe_callq pg_31 71 [.ref 151, .int 0, .int 0] (.inl none) (31, [(2, .int 0), (0, .ref 143), (1, .int 0)], []) rfl (fun _ => rfl)
          · refine xe_sn pg_71 4 (fr' := (6, [(0, .ref 151), (1, .int 0), (2, .int 0)], [.ref 151])) rfl ?_
            refine xe_sn pg_71 2 (fr' := (10, [(0, .ref 151), (1, .int 0), (2, .int 0)], [])) rfl ?_
            exact xe_end pg_71 rfl
          refine xe_sn pg_31 4 (fr' := (4, [(2, .int 1), (0, .ref 143), (1, .int 0)], [.int 3, .int 1])) rfl ?_
          refine xe_sn pg_31 4 (fr' := (12, [(2, .int 1), (0, .ref 143), (1, .int 0)], [.int 1, .ref 149])) rfl ?_
          refine xe_sn pg_31 4 (fr' := (20, [(2, .int 1), (0, .ref 143), (1, .int 0)], [])) rfl ?_
          refine xe_sn pg_31 4 (fr' := (26, [(2, .int 1), (0, .ref 143), (1, .int 0)], [.ref 152])) rfl ?_
          refine xe_sn pg_31 2 (fr' := (28, [(2, .int 1), (0, .ref 143), (1, .int 0)], [.int 0, .int 0, .ref 152])) rfl ?_
          apply xe_callq pg_31 71 [.ref 152, .int 0, .int 0] (.inl none) (31, [(2, .int 1), (0, .ref 143), (1, .int 0)], []) rfl (fun _ => rfl)
          · refine xe_sn pg_71 4 (fr' := (6, [(0, .ref 152), (1, .int 0), (2, .int 0)], [.ref 152])) rfl ?_
            refine xe_sn pg_71 2 (fr' := (10, [(0, .ref 152), (1, .int 0), (2, .int 0)], [])) rfl ?_
            exact xe_end pg_71 rfl
          refine xe_sn pg_31 4 (fr' := (4, [(2, .int 2), (0, .ref 143), (1, .int 0)], [.int 3, .int 2])) rfl ?_
          refine xe_sn pg_31 4 (fr' := (12, [(2, .int 2), (0, .ref 143), (1, .int 0)], [.int 2, .ref 149])) rfl ?_
          refine xe_sn pg_31 4 (fr' := (20, [(2, .int 2), (0, .ref 143), (1, .int 0)], [])) rfl ?_
          refine xe_sn pg_31 4 (fr' := (26, [(2, .int 2), (0, .ref 143), (1, .int 0)], [.ref 153])) rfl ?_
          refine xe_sn pg_31 2 (fr' := (28, [(2, .int 2), (0, .ref 143), (1, .int 0)], [.int 0, .int 0, .ref 153])) rfl ?_
          apply xe_callq pg_31 71 [.ref 153, .int 0, .int 0] (.inl none) (31, [(2, .int 2), (0, .ref 143), (1, .int 0)], []) rfl (fun _ => rfl)
          · refine xe_sn pg_71 4 (fr' := (6, [(0, .ref 153), (1, .int 0), (2, .int 0)], [.ref 153])) rfl ?_
            refine xe_sn pg_71 2 (fr' := (10, [(0, .ref 153), (1, .int 0), (2, .int 0)], [])) rfl ?_
            exact xe_end pg_71 rfl
          refine xe_sn pg_31 4 (fr' := (4, [(2, .int 3), (0, .ref 143), (1, .int 0)], [.int 3, .int 3])) rfl ?_
          refine xe_sn pg_31 1 (fr' := (37, [(2, .int 3), (0, .ref 143), (1, .int 0)], [])) rfl ?_
          exact xe_end pg_31 rfl
        refine xe_sn pg_19 4 (fr' := (16, [(0, .ref 143), (1, .int p1), (2, .int (nI e2))], [.ref 143])) rfl ?_
        refine xe_sn pg_19 2 (fr' := (18, [(0, .ref 143), (1, .int p1), (2, .int (nI e2))], [.int (nI e2), .int p1, .ref 143])) rfl ?_
        apply xe_callq pg_19 21 [.ref 143, .int p1, .int (nI e2)] (.inl none) (21, [(0, .ref 143), (1, .int p1), (2, .int (nI e2))], []) rfl (fun _ => rfl)
        · refine xe_sn pg_21 4 (fr' := (6, [(0, .ref 143), (1, .int p1), (2, .int (nI e2))], [.ref 143])) rfl ?_
          refine xe_sn pg_21 4 (fr' := (12, [(0, .ref 143), (1, .int p1), (2, .int (nI e2))], [.int (nI e2), .ref 143])) rfl ?_
          refine xe_sn pg_21 1 (fr' := (15, [(0, .ref 143), (1, .int p1), (2, .int (nI e2))], [])) rfl ?_
          exact xe_end pg_21 rfl
        refine xe_sn pg_19 4 (fr' := (27, [(0, .ref 143), (1, .int p1), (2, .int (nI e2))], [.int p1, .int 0, .ref 1])) rfl ?_
        refine xe_sn pg_19 3 (fr' := (32, [(0, .ref 143), (1, .int p1), (2, .int (nI e2))], [.int 1, .int 2, .int p1, .int 0, .ref 1])) rfl ?_
        apply xe_callq pg_19 68 [.ref 1, .int 0, .int p1, .int 2, .int 1] (.inl (some (.ref 7))) (35, [(0, .ref 143), (1, .int p1), (2, .int (nI e2))], [.ref 7]) rfl (fun _ => rfl)
        · refine xe_sn pg_68 4 (fr' := (7, [(5, .ref 3), (0, .ref 1), (1, .int 0), (2, .int p1), (3, .int 2), (4, .int 1)], [.ref 1])) rfl ?_
          refine xe_sn pg_68 4 (fr' := (16, [(5, .ref 3), (0, .ref 1), (1, .int 0), (2, .int p1), (3, .int 2), (4, .int 1)], [.ref 1])) rfl ?_
          refine xe_sn pg_68 4 (fr' := (24, [(5, .ref 3), (0, .ref 1), (1, .int 0), (2, .int p1), (3, .int 2), (4, .int 1)], [.ref 7])) rfl ?_
          refine xe_sn pg_68 4 (fr' := (31, [(5, .ref 7), (0, .ref 1), (1, .int 0), (2, .int p1), (3, .int 2), (4, .int 1)], [.int 0, .ref 1])) rfl ?_
          refine xe_sn pg_68 4 (fr' := (49, [(5, .ref 7), (0, .ref 1), (1, .int 0), (2, .int p1), (3, .int 2), (4, .int 1)], [])) rfl ?_
          refine xe_sn pg_68 4 (fr' := (54, [(5, .ref 7), (0, .ref 1), (1, .int 0), (2, .int p1), (3, .int 2), (4, .int 1)], [.int 2, .int p1, .int 0, .ref 7])) rfl ?_
          refine xe_sn pg_68 1 (fr' := (56, [(5, .ref 7), (0, .ref 1), (1, .int 0), (2, .int p1), (3, .int 2), (4, .int 1)], [.int 1, .int 2, .int p1, .int 0, .ref 7])) rfl ?_
          apply xe_callq pg_68 6 [.ref 7, .int 0, .int p1, .int 2, .int 1] (.inl none) (59, [(5, .ref 7), (0, .ref 1), (1, .int 0), (2, .int p1), (3, .int 2), (4, .int 1)], []) rfl (fun _ => rfl)
          · refine xe_sn pg_6 4 (fr' := (6, [(0, .ref 7), (1, .int 0), (2, .int p1), (3, .int 2), (4, .int 1)], [.ref 7])) rfl ?_
            refine xe_sn pg_6 4 (fr' := (12, [(0, .ref 7), (1, .int 0), (2, .int p1), (3, .int 2), (4, .int 1)], [.int 2, .ref 7])) rfl ?_
            refine xe_sn pg_6 4 (fr' := (21, [(0, .ref 7), (1, .int 0), (2, .int p1), (3, .int 2), (4, .int 1)], [])) rfl ?_
            refine xe_sn pg_6 4 (fr' := (27, [(0, .ref 7), (1, .int 0), (2, .int p1), (3, .int 2), (4, .int 1)], [.int 0])) rfl ?_
            refine xe_sn pg_6 4 (fr' := (36, [(5, .int 0), (0, .ref 7), (1, .int 0), (2, .int p1), (3, .int 2), (4, .int 1)], [])) rfl ?_
            refine xe_sn pg_6 4 (fr' := (43, [(5, .int 0), (0, .ref 7), (1, .int 0), (2, .int p1), (3, .int 2), (4, .int 1)], [.int 0, .int 0, .ref 8])) rfl ?_
            refine xe_sn pg_6 4 (fr' := (31, [(5, .int 1), (0, .ref 7), (1, .int 0), (2, .int p1), (3, .int 2), (4, .int 1)], [.int 1])) rfl ?_
            refine xe_sn pg_6 4 (fr' := (40, [(5, .int 1), (0, .ref 7), (1, .int 0), (2, .int p1), (3, .int 2), (4, .int 1)], [.ref 8])) rfl ?_
            refine xe_sn pg_6 4 (fr' := (47, [(5, .int 2), (0, .ref 7), (1, .int 0), (2, .int p1), (3, .int 2), (4, .int 1)], [])) rfl ?_
            refine xe_sn pg_6 4 (fr' := (36, [(5, .int 2), (0, .ref 7), (1, .int 0), (2, .int p1), (3, .int 2), (4, .int 1)], [])) rfl ?_
            refine xe_sn pg_6 4 (fr' := (43, [(5, .int 2), (0, .ref 7), (1, .int 0), (2, .int p1), (3, .int 2), (4, .int 1)], [.int 0, .int 2, .ref 8])) rfl ?_
            refine xe_sn pg_6 4 (fr' := (31, [(5, .int 3), (0, .ref 7), (1, .int 0), (2, .int p1), (3, .int 2), (4, .int 1)], [.int 3])) rfl ?_
            refine xe_sn pg_6 4 (fr' := (40, [(5, .int 3), (0, .ref 7), (1, .int 0), (2, .int p1), (3, .int 2), (4, .int 1)], [.ref 8])) rfl ?_
            refine xe_sn pg_6 4 (fr' := (47, [(5, .int 4), (0, .ref 7), (1, .int 0), (2, .int p1), (3, .int 2), (4, .int 1)], [])) rfl ?_
            refine xe_sn pg_6 4 (fr' := (36, [(5, .int 4), (0, .ref 7), (1, .int 0), (2, .int p1), (3, .int 2), (4, .int 1)], [])) rfl ?_
            refine xe_sn pg_6 4 (fr' := (43, [(5, .int 4), (0, .ref 7), (1, .int 0), (2, .int p1), (3, .int 2), (4, .int 1)], [.int 0, .int 4, .ref 8])) rfl ?_
            refine xe_sn pg_6 4 (fr' := (31, [(5, .int 5), (0, .ref 7), (1, .int 0), (2, .int p1), (3, .int 2), (4, .int 1)], [.int 5])) rfl ?_
            refine xe_sn pg_6 4 (fr' := (40, [(5, .int 5), (0, .ref 7), (1, .int 0), (2, .int p1), (3, .int 2), (4, .int 1)], [.ref 8])) rfl ?_
            refine xe_sn pg_6 4 (fr' := (47, [(5, .int 6), (0, .ref 7), (1, .int 0), (2, .int p1), (3, .int 2), (4, .int 1)], [])) rfl ?_
            refine xe_sn pg_6 4 (fr' := (36, [(5, .int 6), (0, .ref 7), (1, .int 0), (2, .int p1), (3, .int 2), (4, .int 1)], [])) rfl ?_
            refine xe_sn pg_6 4 (fr' := (43, [(5, .int 6), (0, .ref 7), (1, .int 0), (2, .int p1), (3, .int 2), (4, .int 1)], [.int 0, .int 6, .ref 8])) rfl ?_
            refine xe_sn pg_6 4 (fr' := (31, [(5, .int 7), (0, .ref 7), (1, .int 0), (2, .int p1), (3, .int 2), (4, .int 1)], [.int 7])) rfl ?_
            refine xe_sn pg_6 4 (fr' := (40, [(5, .int 7), (0, .ref 7), (1, .int 0), (2, .int p1), (3, .int 2), (4, .int 1)], [.ref 8])) rfl ?_
            refine xe_sn pg_6 4 (fr' := (47, [(5, .int 8), (0, .ref 7), (1, .int 0), (2, .int p1), (3, .int 2), (4, .int 1)], [])) rfl ?_
            refine xe_sn pg_6 4 (fr' := (36, [(5, .int 8), (0, .ref 7), (1, .int 0), (2, .int p1), (3, .int 2), (4, .int 1)], [])) rfl ?_
            refine xe_sn pg_6 4 (fr' := (43, [(5, .int 8), (0, .ref 7), (1, .int 0), (2, .int p1), (3, .int 2), (4, .int 1)], [.int 0, .int 8, .ref 8])) rfl ?_
            refine xe_sn pg_6 4 (fr' := (31, [(5, .int 9), (0, .ref 7), (1, .int 0), (2, .int p1), (3, .int 2), (4, .int 1)], [.int 9])) rfl ?_
            refine xe_sn pg_6 4 (fr' := (40, [(5, .int 9), (0, .ref 7), (1, .int 0), (2, .int p1), (3, .int 2), (4, .int 1)], [.ref 8])) rfl ?_
            refine xe_sn pg_6 4 (fr' := (47, [(5, .int 10), (0, .ref 7), (1, .int 0), (2, .int p1), (3, .int 2), (4, .int 1)], [])) rfl ?_
            refine xe_sn pg_6 4 (fr' := (36, [(5, .int 10), (0, .ref 7), (1, .int 0), (2, .int p1), (3, .int 2), (4, .int 1)], [])) rfl ?_
            refine xe_sn pg_6 4 (fr' := (43, [(5, .int 10), (0, .ref 7), (1, .int 0), (2, .int p1), (3, .int 2), (4, .int 1)], [.int 0, .int 10, .ref 8])) rfl ?_
            refine xe_sn pg_6 4 (fr' := (31, [(5, .int 11), (0, .ref 7), (1, .int 0), (2, .int p1), (3, .int 2), (4, .int 1)], [.int 11])) rfl ?_
            refine xe_sn pg_6 4 (fr' := (40, [(5, .int 11), (0, .ref 7), (1, .int 0), (2, .int p1), (3, .int 2), (4, .int 1)], [.ref 8])) rfl ?_
            refine xe_sn pg_6 4 (fr' := (47, [(5, .int 12), (0, .ref 7), (1, .int 0), (2, .int p1), (3, .int 2), (4, .int 1)], [])) rfl ?_
            refine xe_sn pg_6 4 (fr' := (36, [(5, .int 12), (0, .ref 7), (1, .int 0), (2, .int p1), (3, .int 2), (4, .int 1)], [])) rfl ?_
            refine xe_sn pg_6 4 (fr' := (43, [(5, .int 12), (0, .ref 7), (1, .int 0), (2, .int p1), (3, .int 2), (4, .int 1)], [.int 0, .int 12, .ref 8])) rfl ?_
            refine xe_sn pg_6 4 (fr' := (31, [(5, .int 13), (0, .ref 7), (1, .int 0), (2, .int p1), (3, .int 2), (4, .int 1)], [.int 13])) rfl ?_
            refine xe_sn pg_6 4 (fr' := (40, [(5, .int 13), (0, .ref 7), (1, .int 0), (2, .int p1), (3, .int 2), (4, .int 1)], [.ref 8])) rfl ?_
            refine xe_sn pg_6 4 (fr' := (47, [(5, .int 14), (0, .ref 7), (1, .int 0), (2, .int p1), (3, .int 2), (4, .int 1)], [])) rfl ?_
            refine xe_sn pg_6 4 (fr' := (50, [(5, .int 14), (0, .ref 7), (1, .int 0), (2, .int p1), (3, .int 2), (4, .int 1)], [])) rfl ?_
            exact xe_end pg_6 rfl
          refine xe_sn pg_68 1 (fr' := (61, [(5, .ref 7), (0, .ref 1), (1, .int 0), (2, .int p1), (3, .int 2), (4, .int 1)], [.ref 7])) rfl ?_
          exact xe_end pg_68 rfl
        refine xe_sn pg_19 3 (fr' := (39, [(0, .ref 143), (1, .int p1), (2, .int (nI e2))], [.int (nI e2), .int 17, .int 0, .ref 7])) rfl ?_
        apply xe_callq pg_19 0 [.int 17, .int (nI e2)] (.inl (some (.int (nI (17 ^ e2 % 65521))))) (42, [(0, .ref 143), (1, .int p1), (2, .int (nI e2))], [.int (nI (17 ^ e2 % 65521)), .int 0, .ref 7]) rfl (fun _ => rfl)
        · exact c_raise _ (a := 17) (e := e2) (by omega) (by omega) _
        apply xe_callq pg_19 10 [.ref 7, .int 0, .int (nI (17 ^ e2 % 65521))] (.inl none) (45, [(0, .ref 143), (1, .int p1), (2, .int (nI e2))], []) rfl (fun _ => rfl)
        · refine xe_sn pg_10 4 (fr' := (6, [(0, .ref 7), (1, .int 0), (2, .int (nI (17 ^ e2 % 65521)))], [.int (nI (17 ^ e2 % 65521)), .int 0, .ref 8])) rfl ?_
          refine xe_sn pg_10 4 (fr' := (13, [(0, .ref 7), (1, .int 0), (2, .int (nI (17 ^ e2 % 65521)))], [.int (((((nI (17 ^ e2 % 65521))).toUInt32 >>> ((8 : Int32).toUInt32 &&& Int32.toUInt32 31)).toInt32) &&& 255), .int 0, .ref 8])) rfl ?_
          refine xe_sn pg_10 4 (fr' := (19, [(0, .ref 7), (1, .int 0), (2, .int (nI (17 ^ e2 % 65521)))], [.int 0, .ref 8])) rfl ?_
          refine xe_sn pg_10 4 (fr' := (25, [(0, .ref 7), (1, .int 0), (2, .int (nI (17 ^ e2 % 65521)))], [.int 255, .int (nI (17 ^ e2 % 65521)), .int 1, .ref 8])) rfl ?_
          refine xe_sn pg_10 2 (fr' := (27, [(0, .ref 7), (1, .int 0), (2, .int (nI (17 ^ e2 % 65521)))], [])) rfl ?_
          exact xe_end pg_10 rfl
        exact xe_end pg_19 rfl
      refine xe_sn pg_74 3 (fr' := (50, [(4, .ref 143), (0, .ref 0), (1, .int 2), (2, .int p1), (3, .int (nI e2))], [.int 1])) rfl ?_
      exact xe_end pg_74 rfl
    refine xe_sn pg_161 4 (fr' := (28, [(0, .ref 0), (1, .int 2), (2, .int p1), (3, .int (nI e2)), (4, .ref 189)], [.int 0])) rfl ?_
    exact xe_end pg_161 rfl
  refine And.intro ⟨rfl, rfl, rfl, rfl⟩ ?_
  apply And.intro
  · refine xe_sn pg_140 2 (fr' := (2, [(0, .ref 165), (1, .int 2), (2, .int p1), (3, .int (nI e2))], [.int 2, .ref 165])) rfl ?_
    apply xe_callq pg_140 104 [.int 2] (.inl (some (.int 1))) (5, [(0, .ref 165), (1, .int 2), (2, .int p1), (3, .int (nI e2))], [.int 1, .ref 165]) rfl (fun _ => rfl)
    · refine xe_sn pg_104 3 (fr' := (3, [(0, .int 2)], [.int 3, .int 0, .int 2])) rfl ?_
      apply xe_callq pg_104 103 [.int 2, .int 0, .int 3] (.inl (some (.int 1))) (6, [(0, .int 2)], [.int 1]) rfl (fun _ => rfl)
      · refine xe_sn pg_103 4 (fr' := (6, [(0, .int 2), (1, .int 0), (2, .int 3)], [.int 2])) rfl ?_
        refine xe_sn pg_103 4 (fr' := (15, [(0, .int 2), (1, .int 0), (2, .int 3)], [.int 1])) rfl ?_
        exact xe_end pg_103 rfl
      exact xe_end pg_104 rfl
    refine xe_sn pg_140 2 (fr' := (9, [(0, .ref 165), (1, .int 2), (2, .int p1), (3, .int (nI e2))], [.int p1, .ref 165])) rfl ?_
    apply xe_callq pg_140 105 [.int p1] (.inl (some (.int 1))) (12, [(0, .ref 165), (1, .int 2), (2, .int p1), (3, .int (nI e2))], [.int 1, .ref 165]) rfl (fun _ => rfl)
    · refine xe_sn pg_105 3 (fr' := (3, [(0, .int p1)], [.int 4, .int 1, .int p1])) rfl ?_
      apply xe_callq pg_105 103 [.int p1, .int 1, .int 4] (.inl (some (.int 1))) (6, [(0, .int p1)], [.int 1]) rfl (fun _ => rfl)
      · refine xe_sn pg_103 2 (fr' := (2, [(0, .int p1), (1, .int 1), (2, .int 4)], [.int 1, .int p1])) rfl ?_
        refine xe_f2 pg_103 14 rfl rfl (by show ¬ ((p1).toInt < 1); omega) ?_
        refine xe_sn pg_103 2 (fr' := (7, [(0, .int p1), (1, .int 1), (2, .int 4)], [.int 4, .int p1])) rfl ?_
        refine xe_f2 pg_103 14 rfl rfl (by show ¬ (4 < (p1).toInt); omega) ?_
        refine xe_sn pg_103 2 (fr' := (15, [(0, .int p1), (1, .int 1), (2, .int 4)], [.int 1])) rfl ?_
        exact xe_end pg_103 rfl
      exact xe_end pg_105 rfl
    refine xe_sn pg_140 4 (fr' := (23, [(0, .ref 165), (1, .int 2), (2, .int p1), (3, .int (nI e2))], [.int 65519, .int 1, .int (nI e2), .ref 165])) rfl ?_
    apply xe_callq pg_140 103 [.int (nI e2), .int 1, .int 65519] (.inl (some (.int 1))) (26, [(0, .ref 165), (1, .int 2), (2, .int p1), (3, .int (nI e2))], [.int 1, .ref 165]) rfl (fun _ => rfl)
    · refine xe_sn pg_103 2 (fr' := (2, [(0, .int (nI e2)), (1, .int 1), (2, .int 65519)], [.int 1, .int (nI e2)])) rfl ?_
      refine xe_f2 pg_103 14 rfl rfl (by show ¬ (((nI e2)).toInt < 1); rw [nI_toInt (n := e2) (by omega)]; omega) ?_
      refine xe_sn pg_103 2 (fr' := (7, [(0, .int (nI e2)), (1, .int 1), (2, .int 65519)], [.int 65519, .int (nI e2)])) rfl ?_
      refine xe_f2 pg_103 14 rfl rfl (by show ¬ (65519 < ((nI e2)).toInt); rw [nI_toInt (n := e2) (by omega)]; omega) ?_
      refine xe_sn pg_103 2 (fr' := (15, [(0, .int (nI e2)), (1, .int 1), (2, .int 65519)], [.int 1])) rfl ?_
      exact xe_end pg_103 rfl
    refine xe_sn pg_140 3 (fr' := (35, [(0, .ref 165), (1, .int 2), (2, .int p1), (3, .int (nI e2))], [.int 2, .ref 165, .ref 165])) rfl ?_
    apply xe_callq pg_140 145 [.ref 165, .int 2] (.inl (some (.int 0))) (38, [(0, .ref 165), (1, .int 2), (2, .int p1), (3, .int (nI e2))], [.int 0, .ref 165]) rfl (fun _ => rfl)
    · refine xe_sn pg_145 4 (fr' := (6, [(0, .ref 165), (1, .int 2)], [.int 0])) rfl ?_
      refine xe_sn pg_145 4 (fr' := (14, [(0, .ref 165), (1, .int 2)], [.ref 167])) rfl ?_
      refine xe_sn pg_145 4 (fr' := (24, [(0, .ref 165), (1, .int 2)], [])) rfl ?_
      refine xe_sn pg_145 1 (fr' := (25, [(0, .ref 165), (1, .int 2)], [.int 0])) rfl ?_
      exact xe_end pg_145 rfl
    refine xe_sn pg_140 4 (fr' := (50, [(0, .ref 165), (1, .int 2), (2, .int p1), (3, .int (nI e2))], [.ref 165])) rfl ?_
    refine xe_sn pg_140 4 (fr' := (62, [(0, .ref 165), (1, .int 2), (2, .int p1), (3, .int (nI e2))], [.ref 168])) rfl ?_
    refine xe_sn pg_140 4 (fr' := (66, [(0, .ref 165), (1, .int 2), (2, .int p1), (3, .int (nI e2))], [.ref 165])) rfl ?_
    refine xe_sn pg_140 2 (fr' := (68, [(0, .ref 165), (1, .int 2), (2, .int p1), (3, .int (nI e2))], [.int 0, .int 2, .ref 165])) rfl ?_
    apply xe_callq pg_140 120 [.ref 165, .int 2, .int 0] (.inl none) (71, [(0, .ref 165), (1, .int 2), (2, .int p1), (3, .int (nI e2))], []) rfl (fun _ => rfl)
    · refine xe_sn pg_120 4 (fr' := (4, [(3, .int 6), (0, .ref 165), (1, .int 2), (2, .int 0)], [])) rfl ?_
      refine xe_sn pg_120 4 (fr' := (8, [(3, .int 6), (0, .ref 165), (1, .int 2), (2, .int 0)], [.int 6, .int 6])) rfl ?_
      refine xe_sn pg_120 4 (fr' := (14, [(3, .int 6), (0, .ref 165), (1, .int 2), (2, .int 0)], [.ref 165])) rfl ?_
      refine xe_sn pg_120 4 (fr' := (20, [(3, .int 6), (0, .ref 165), (1, .int 2), (2, .int 0)], [.int 0, .int 0])) rfl ?_
      refine xe_sn pg_120 4 (fr' := (28, [(3, .int 6), (0, .ref 165), (1, .int 2), (2, .int 0)], [.int 6, .ref 173])) rfl ?_
      refine xe_sn pg_120 4 (fr' := (34, [(3, .int 6), (0, .ref 165), (1, .int 2), (2, .int 0)], [.ref 175])) rfl ?_
      refine xe_sn pg_120 4 (fr' := (40, [(3, .int 7), (0, .ref 165), (1, .int 2), (2, .int 0)], [])) rfl ?_
      refine xe_sn pg_120 4 (fr' := (7, [(3, .int 7), (0, .ref 165), (1, .int 2), (2, .int 0)], [.int 2, .int 3, .int 7])) rfl ?_
      refine xe_sn pg_120 4 (fr' := (13, [(3, .int 7), (0, .ref 165), (1, .int 2), (2, .int 0)], [])) rfl ?_
      refine xe_sn pg_120 4 (fr' := (19, [(3, .int 7), (0, .ref 165), (1, .int 2), (2, .int 0)], [.int 0])) rfl ?_
      refine xe_sn pg_120 4 (fr' := (27, [(3, .int 7), (0, .ref 165), (1, .int 2), (2, .int 0)], [.ref 173])) rfl ?_
      refine xe_sn pg_120 4 (fr' := (31, [(3, .int 7), (0, .ref 165), (1, .int 2), (2, .int 0)], [.ref 165])) rfl ?_
      refine xe_sn pg_120 4 (fr' := (37, [(3, .int 7), (0, .ref 165), (1, .int 2), (2, .int 0)], [])) rfl ?_
      refine xe_sn pg_120 4 (fr' := (6, [(3, .int 8), (0, .ref 165), (1, .int 2), (2, .int 0)], [.int 3, .int 8])) rfl ?_
      refine xe_sn pg_120 4 (fr' := (10, [(3, .int 8), (0, .ref 165), (1, .int 2), (2, .int 0)], [.int 9, .int 8])) rfl ?_
      refine xe_sn pg_120 4 (fr' := (18, [(3, .int 8), (0, .ref 165), (1, .int 2), (2, .int 0)], [.int 8, .ref 174])) rfl ?_
      refine xe_sn pg_120 4 (fr' := (24, [(3, .int 8), (0, .ref 165), (1, .int 2), (2, .int 0)], [.ref 165])) rfl ?_
      refine xe_sn pg_120 4 (fr' := (30, [(3, .int 8), (0, .ref 165), (1, .int 2), (2, .int 0)], [])) rfl ?_
      refine xe_sn pg_120 4 (fr' := (36, [(3, .int 8), (0, .ref 165), (1, .int 2), (2, .int 0)], [.int 0, .int 8, .ref 175])) rfl ?_
      refine xe_sn pg_120 4 (fr' := (5, [(3, .int 9), (0, .ref 165), (1, .int 2), (2, .int 0)], [.int 9])) rfl ?_
      refine xe_sn pg_120 4 (fr' := (9, [(3, .int 9), (0, .ref 165), (1, .int 2), (2, .int 0)], [.int 3, .int 6, .int 9])) rfl ?_
      refine xe_sn pg_120 2 (fr' := (43, [(3, .int 9), (0, .ref 165), (1, .int 2), (2, .int 0)], [])) rfl ?_
      exact xe_end pg_120 rfl
    refine xe_sn pg_140 4 (fr' := (77, [(0, .ref 165), (1, .int 2), (2, .int p1), (3, .int (nI e2))], [.int 0, .int 2, .ref 176])) rfl ?_
    refine xe_sn pg_140 4 (fr' := (83, [(0, .ref 165), (1, .int 2), (2, .int p1), (3, .int (nI e2))], [.int 2, .ref 171])) rfl ?_
    refine xe_sn pg_140 4 (fr' := (89, [(0, .ref 165), (1, .int 2), (2, .int p1), (3, .int (nI e2))], [.ref 172])) rfl ?_
    refine xe_sn pg_140 4 (fr' := (93, [(0, .ref 165), (1, .int 2), (2, .int p1), (3, .int (nI e2))], [.ref 165])) rfl ?_
    refine xe_sn pg_140 4 (fr' := (99, [(0, .ref 165), (1, .int 2), (2, .int p1), (3, .int (nI e2))], [])) rfl ?_
    refine xe_sn pg_140 1 (fr' := (100, [(0, .ref 165), (1, .int 2), (2, .int p1), (3, .int (nI e2))], [.ref 165])) rfl ?_
    apply xe_callq pg_140 113 [.ref 165] (.inl none) (103, [(0, .ref 165), (1, .int 2), (2, .int p1), (3, .int (nI e2))], []) rfl (fun _ => rfl)
    · refine xe_sn pg_113 4 (fr' := (5, [(1, .int 0), (0, .ref 165)], [.int 14, .int 0])) rfl ?_
      refine xe_sn pg_113 4 (fr' := (13, [(1, .int 0), (0, .ref 165)], [.int 0, .ref 187])) rfl ?_
      refine xe_sn pg_113 4 (fr' := (2, [(1, .int 1), (0, .ref 165)], [])) rfl ?_
      refine xe_sn pg_113 4 (fr' := (9, [(1, .int 1), (0, .ref 165)], [.ref 165])) rfl ?_
      refine xe_sn pg_113 4 (fr' := (15, [(1, .int 1), (0, .ref 165)], [])) rfl ?_
      refine xe_sn pg_113 4 (fr' := (5, [(1, .int 2), (0, .ref 165)], [.int 14, .int 2])) rfl ?_
      refine xe_sn pg_113 4 (fr' := (13, [(1, .int 2), (0, .ref 165)], [.int 2, .ref 187])) rfl ?_
      refine xe_sn pg_113 4 (fr' := (2, [(1, .int 3), (0, .ref 165)], [])) rfl ?_
      refine xe_sn pg_113 4 (fr' := (9, [(1, .int 3), (0, .ref 165)], [.ref 165])) rfl ?_
      refine xe_sn pg_113 4 (fr' := (15, [(1, .int 3), (0, .ref 165)], [])) rfl ?_
      refine xe_sn pg_113 4 (fr' := (5, [(1, .int 4), (0, .ref 165)], [.int 14, .int 4])) rfl ?_
      refine xe_sn pg_113 4 (fr' := (13, [(1, .int 4), (0, .ref 165)], [.int 4, .ref 187])) rfl ?_
      refine xe_sn pg_113 4 (fr' := (2, [(1, .int 5), (0, .ref 165)], [])) rfl ?_
      refine xe_sn pg_113 4 (fr' := (9, [(1, .int 5), (0, .ref 165)], [.ref 165])) rfl ?_
      refine xe_sn pg_113 4 (fr' := (15, [(1, .int 5), (0, .ref 165)], [])) rfl ?_
      refine xe_sn pg_113 4 (fr' := (5, [(1, .int 6), (0, .ref 165)], [.int 14, .int 6])) rfl ?_
      refine xe_sn pg_113 4 (fr' := (13, [(1, .int 6), (0, .ref 165)], [.int 6, .ref 187])) rfl ?_
      refine xe_sn pg_113 4 (fr' := (2, [(1, .int 7), (0, .ref 165)], [])) rfl ?_
      refine xe_sn pg_113 4 (fr' := (9, [(1, .int 7), (0, .ref 165)], [.ref 165])) rfl ?_
      refine xe_sn pg_113 4 (fr' := (15, [(1, .int 7), (0, .ref 165)], [])) rfl ?_
      refine xe_sn pg_113 4 (fr' := (5, [(1, .int 8), (0, .ref 165)], [.int 14, .int 8])) rfl ?_
      refine xe_sn pg_113 4 (fr' := (13, [(1, .int 8), (0, .ref 165)], [.int 8, .ref 187])) rfl ?_
      refine xe_sn pg_113 4 (fr' := (2, [(1, .int 9), (0, .ref 165)], [])) rfl ?_
      refine xe_sn pg_113 4 (fr' := (9, [(1, .int 9), (0, .ref 165)], [.ref 165])) rfl ?_
      refine xe_sn pg_113 4 (fr' := (15, [(1, .int 9), (0, .ref 165)], [])) rfl ?_
      refine xe_sn pg_113 4 (fr' := (5, [(1, .int 10), (0, .ref 165)], [.int 14, .int 10])) rfl ?_
      refine xe_sn pg_113 4 (fr' := (13, [(1, .int 10), (0, .ref 165)], [.int 10, .ref 187])) rfl ?_
      refine xe_sn pg_113 4 (fr' := (2, [(1, .int 11), (0, .ref 165)], [])) rfl ?_
      refine xe_sn pg_113 4 (fr' := (9, [(1, .int 11), (0, .ref 165)], [.ref 165])) rfl ?_
      refine xe_sn pg_113 4 (fr' := (15, [(1, .int 11), (0, .ref 165)], [])) rfl ?_
      refine xe_sn pg_113 4 (fr' := (5, [(1, .int 12), (0, .ref 165)], [.int 14, .int 12])) rfl ?_
      refine xe_sn pg_113 4 (fr' := (13, [(1, .int 12), (0, .ref 165)], [.int 12, .ref 187])) rfl ?_
      refine xe_sn pg_113 4 (fr' := (2, [(1, .int 13), (0, .ref 165)], [])) rfl ?_
      refine xe_sn pg_113 4 (fr' := (9, [(1, .int 13), (0, .ref 165)], [.ref 165])) rfl ?_
      refine xe_sn pg_113 4 (fr' := (15, [(1, .int 13), (0, .ref 165)], [])) rfl ?_
      refine xe_sn pg_113 4 (fr' := (5, [(1, .int 14), (0, .ref 165)], [.int 14, .int 14])) rfl ?_
      refine xe_sn pg_113 1 (fr' := (21, [(1, .int 14), (0, .ref 165)], [])) rfl ?_
      exact xe_end pg_113 rfl
    refine xe_sn pg_140 4 (fr' := (108, [(0, .ref 165), (1, .int 2), (2, .int p1), (3, .int (nI e2))], [.int (nI e2), .int 17, .int 0, .ref 165])) rfl ?_
    apply xe_callq pg_140 106 [.int 17, .int (nI e2)] (.inl (some (.int (nI (17 ^ e2 % 65521))))) (111, [(0, .ref 165), (1, .int 2), (2, .int p1), (3, .int (nI e2))], [.int (nI (17 ^ e2 % 65521)), .int 0, .ref 165]) rfl (fun _ => rfl)
    · exact m_raise _ (a := 17) (e := e2) (by omega) (by omega) _
    apply xe_callq pg_140 112 [.ref 165, .int 0, .int (nI (17 ^ e2 % 65521))] (.inl none) (114, [(0, .ref 165), (1, .int 2), (2, .int p1), (3, .int (nI e2))], []) rfl (fun _ => rfl)
    · refine xe_sn pg_112 4 (fr' := (6, [(0, .ref 165), (1, .int 0), (2, .int (nI (17 ^ e2 % 65521)))], [.int (nI (17 ^ e2 % 65521)), .int 0, .ref 187])) rfl ?_
      refine xe_sn pg_112 4 (fr' := (11, [(0, .ref 165), (1, .int 0), (2, .int (nI (17 ^ e2 % 65521)))], [.ref 165])) rfl ?_
      refine xe_sn pg_112 4 (fr' := (17, [(0, .ref 165), (1, .int 0), (2, .int (nI (17 ^ e2 % 65521)))], [.int 1, .ref 187])) rfl ?_
      refine xe_sn pg_112 4 (fr' := (23, [(0, .ref 165), (1, .int 0), (2, .int (nI (17 ^ e2 % 65521)))], [])) rfl ?_
      exact xe_end pg_112 rfl
    refine xe_sn pg_140 4 (fr' := (118, [(0, .ref 165), (1, .int 2), (2, .int p1), (3, .int (nI e2))], [.int 2, .int p1, .int 0, .ref 165])) rfl ?_
    refine xe_sn pg_140 2 (fr' := (120, [(0, .ref 165), (1, .int 2), (2, .int p1), (3, .int (nI e2))], [.int 0, .int 1, .int 2, .int p1, .int 0, .ref 165])) rfl ?_
    apply xe_callq pg_140 117 [.ref 165, .int 0, .int p1, .int 2, .int 1, .int 0] (.inl none) (123, [(0, .ref 165), (1, .int 2), (2, .int p1), (3, .int (nI e2))], []) rfl (fun _ => rfl)
    · refine xe_sn pg_117 4 (fr' := (20, [(0, .ref 165), (1, .int 0), (2, .int p1), (3, .int 2), (4, .int 1), (5, .int 0)], [])) rfl ?_
      refine xe_sn pg_117 4 (fr' := (27, [(0, .ref 165), (1, .int 0), (2, .int p1), (3, .int 2), (4, .int 1), (5, .int 0)], [.int 0])) rfl ?_
      refine xe_sn pg_117 4 (fr' := (35, [(6, .int 0), (0, .ref 165), (1, .int 0), (2, .int p1), (3, .int 2), (4, .int 1), (5, .int 0)], [.int 0, .ref 166])) rfl ?_
      refine xe_sn pg_117 4 (fr' := (41, [(6, .int 0), (0, .ref 165), (1, .int 0), (2, .int p1), (3, .int 2), (4, .int 1), (5, .int 0)], [.ref 166])) rfl ?_
      refine xe_sn pg_117 4 (fr' := (46, [(6, .int 0), (0, .ref 165), (1, .int 0), (2, .int p1), (3, .int 2), (4, .int 1), (5, .int 0)], [.int p1, .int 1, .ref 166])) rfl ?_
      refine xe_sn pg_117 4 (fr' := (53, [(6, .int 0), (0, .ref 165), (1, .int 0), (2, .int p1), (3, .int 2), (4, .int 1), (5, .int 0)], [.int 0, .ref 166])) rfl ?_
      refine xe_sn pg_117 4 (fr' := (57, [(6, .int 0), (0, .ref 165), (1, .int 0), (2, .int p1), (3, .int 2), (4, .int 1), (5, .int 0)], [])) rfl ?_
      refine xe_sn pg_117 4 (fr' := (64, [(6, .int 0), (0, .ref 165), (1, .int 0), (2, .int p1), (3, .int 2), (4, .int 1), (5, .int 0)], [.int 3, .int 0, .ref 166])) rfl ?_
      refine xe_sn pg_117 4 (fr' := (69, [(6, .int 0), (0, .ref 165), (1, .int 0), (2, .int p1), (3, .int 2), (4, .int 1), (5, .int 0)], [.int 0])) rfl ?_
      refine xe_sn pg_117 4 (fr' := (78, [(7, .int 0), (6, .int 0), (0, .ref 165), (1, .int 0), (2, .int p1), (3, .int 2), (4, .int 1), (5, .int 0)], [])) rfl ?_
      refine xe_sn pg_117 4 (fr' := (85, [(7, .int 0), (6, .int 0), (0, .ref 165), (1, .int 0), (2, .int p1), (3, .int 2), (4, .int 1), (5, .int 0)], [.int 4, .int 0, .ref 166])) rfl ?_
      refine xe_sn pg_117 4 (fr' := (90, [(7, .int 0), (6, .int 0), (0, .ref 165), (1, .int 0), (2, .int p1), (3, .int 2), (4, .int 1), (5, .int 0)], [.ref 165, .int 4, .ref 166])) rfl ?_
      refine xe_sn pg_117 4 (fr' := (97, [(7, .int 0), (6, .int 0), (0, .ref 165), (1, .int 0), (2, .int p1), (3, .int 2), (4, .int 1), (5, .int 0)], [])) rfl ?_
      refine xe_sn pg_117 4 (fr' := (75, [(7, .int 1), (6, .int 0), (0, .ref 165), (1, .int 0), (2, .int p1), (3, .int 2), (4, .int 1), (5, .int 0)], [.int 14, .int 1])) rfl ?_
      refine xe_sn pg_117 4 (fr' := (84, [(7, .int 1), (6, .int 0), (0, .ref 165), (1, .int 0), (2, .int p1), (3, .int 2), (4, .int 1), (5, .int 0)], [.int 0, .ref 166])) rfl ?_
      refine xe_sn pg_117 4 (fr' := (89, [(7, .int 1), (6, .int 0), (0, .ref 165), (1, .int 0), (2, .int p1), (3, .int 2), (4, .int 1), (5, .int 0)], [.int 5, .ref 166])) rfl ?_
      refine xe_sn pg_117 4 (fr' := (96, [(7, .int 1), (6, .int 0), (0, .ref 165), (1, .int 0), (2, .int p1), (3, .int 2), (4, .int 1), (5, .int 0)], [.int ((nI (17 ^ e2 % 65521)) &&& 255), .int 5, .ref 166])) rfl ?_
      refine xe_sn pg_117 4 (fr' := (73, [(7, .int 2), (6, .int 0), (0, .ref 165), (1, .int 0), (2, .int p1), (3, .int 2), (4, .int 1), (5, .int 0)], [.int 2])) rfl ?_
      refine xe_sn pg_117 4 (fr' := (82, [(7, .int 2), (6, .int 0), (0, .ref 165), (1, .int 0), (2, .int p1), (3, .int 2), (4, .int 1), (5, .int 0)], [.ref 166])) rfl ?_
      refine xe_sn pg_117 4 (fr' := (88, [(7, .int 2), (6, .int 0), (0, .ref 165), (1, .int 0), (2, .int p1), (3, .int 2), (4, .int 1), (5, .int 0)], [.int 2, .int 4, .ref 166])) rfl ?_
      refine xe_sn pg_117 4 (fr' := (95, [(7, .int 2), (6, .int 0), (0, .ref 165), (1, .int 0), (2, .int p1), (3, .int 2), (4, .int 1), (5, .int 0)], [.int 2, .ref 187, .int 6, .ref 166])) rfl ?_
      refine xe_sn pg_117 4 (fr' := (71, [(7, .int 3), (6, .int 0), (0, .ref 165), (1, .int 0), (2, .int p1), (3, .int 2), (4, .int 1), (5, .int 0)], [])) rfl ?_
      refine xe_sn pg_117 4 (fr' := (79, [(7, .int 3), (6, .int 0), (0, .ref 165), (1, .int 0), (2, .int p1), (3, .int 2), (4, .int 1), (5, .int 0)], [.ref 165])) rfl ?_
      refine xe_sn pg_117 4 (fr' := (86, [(7, .int 3), (6, .int 0), (0, .ref 165), (1, .int 0), (2, .int p1), (3, .int 2), (4, .int 1), (5, .int 0)], [.int 4, .ref 166])) rfl ?_
      refine xe_sn pg_117 4 (fr' := (93, [(7, .int 3), (6, .int 0), (0, .ref 165), (1, .int 0), (2, .int p1), (3, .int 2), (4, .int 1), (5, .int 0)], [.ref 187, .int 7, .ref 166])) rfl ?_
      refine xe_sn pg_117 4 (fr' := (100, [(7, .int 4), (6, .int 0), (0, .ref 165), (1, .int 0), (2, .int p1), (3, .int 2), (4, .int 1), (5, .int 0)], [])) rfl ?_
      refine xe_sn pg_117 4 (fr' := (78, [(7, .int 4), (6, .int 0), (0, .ref 165), (1, .int 0), (2, .int p1), (3, .int 2), (4, .int 1), (5, .int 0)], [])) rfl ?_
      refine xe_sn pg_117 4 (fr' := (85, [(7, .int 4), (6, .int 0), (0, .ref 165), (1, .int 0), (2, .int p1), (3, .int 2), (4, .int 1), (5, .int 0)], [.int 4, .int 0, .ref 166])) rfl ?_
      refine xe_sn pg_117 4 (fr' := (90, [(7, .int 4), (6, .int 0), (0, .ref 165), (1, .int 0), (2, .int p1), (3, .int 2), (4, .int 1), (5, .int 0)], [.ref 165, .int 8, .ref 166])) rfl ?_
      refine xe_sn pg_117 4 (fr' := (97, [(7, .int 4), (6, .int 0), (0, .ref 165), (1, .int 0), (2, .int p1), (3, .int 2), (4, .int 1), (5, .int 0)], [])) rfl ?_
      refine xe_sn pg_117 4 (fr' := (75, [(7, .int 5), (6, .int 0), (0, .ref 165), (1, .int 0), (2, .int p1), (3, .int 2), (4, .int 1), (5, .int 0)], [.int 14, .int 5])) rfl ?_
      refine xe_sn pg_117 4 (fr' := (84, [(7, .int 5), (6, .int 0), (0, .ref 165), (1, .int 0), (2, .int p1), (3, .int 2), (4, .int 1), (5, .int 0)], [.int 0, .ref 166])) rfl ?_
      refine xe_sn pg_117 4 (fr' := (89, [(7, .int 5), (6, .int 0), (0, .ref 165), (1, .int 0), (2, .int p1), (3, .int 2), (4, .int 1), (5, .int 0)], [.int 9, .ref 166])) rfl ?_
      refine xe_sn pg_117 4 (fr' := (96, [(7, .int 5), (6, .int 0), (0, .ref 165), (1, .int 0), (2, .int p1), (3, .int 2), (4, .int 1), (5, .int 0)], [.int 0, .int 9, .ref 166])) rfl ?_
      refine xe_sn pg_117 4 (fr' := (73, [(7, .int 6), (6, .int 0), (0, .ref 165), (1, .int 0), (2, .int p1), (3, .int 2), (4, .int 1), (5, .int 0)], [.int 6])) rfl ?_
      refine xe_sn pg_117 4 (fr' := (82, [(7, .int 6), (6, .int 0), (0, .ref 165), (1, .int 0), (2, .int p1), (3, .int 2), (4, .int 1), (5, .int 0)], [.ref 166])) rfl ?_
      refine xe_sn pg_117 4 (fr' := (88, [(7, .int 6), (6, .int 0), (0, .ref 165), (1, .int 0), (2, .int p1), (3, .int 2), (4, .int 1), (5, .int 0)], [.int 6, .int 4, .ref 166])) rfl ?_
      refine xe_sn pg_117 4 (fr' := (95, [(7, .int 6), (6, .int 0), (0, .ref 165), (1, .int 0), (2, .int p1), (3, .int 2), (4, .int 1), (5, .int 0)], [.int 6, .ref 187, .int 10, .ref 166])) rfl ?_
      refine xe_sn pg_117 4 (fr' := (71, [(7, .int 7), (6, .int 0), (0, .ref 165), (1, .int 0), (2, .int p1), (3, .int 2), (4, .int 1), (5, .int 0)], [])) rfl ?_
      refine xe_sn pg_117 4 (fr' := (79, [(7, .int 7), (6, .int 0), (0, .ref 165), (1, .int 0), (2, .int p1), (3, .int 2), (4, .int 1), (5, .int 0)], [.ref 165])) rfl ?_
      refine xe_sn pg_117 4 (fr' := (86, [(7, .int 7), (6, .int 0), (0, .ref 165), (1, .int 0), (2, .int p1), (3, .int 2), (4, .int 1), (5, .int 0)], [.int 4, .ref 166])) rfl ?_
      refine xe_sn pg_117 4 (fr' := (93, [(7, .int 7), (6, .int 0), (0, .ref 165), (1, .int 0), (2, .int p1), (3, .int 2), (4, .int 1), (5, .int 0)], [.ref 187, .int 11, .ref 166])) rfl ?_
      refine xe_sn pg_117 4 (fr' := (100, [(7, .int 8), (6, .int 0), (0, .ref 165), (1, .int 0), (2, .int p1), (3, .int 2), (4, .int 1), (5, .int 0)], [])) rfl ?_
      refine xe_sn pg_117 4 (fr' := (78, [(7, .int 8), (6, .int 0), (0, .ref 165), (1, .int 0), (2, .int p1), (3, .int 2), (4, .int 1), (5, .int 0)], [])) rfl ?_
      refine xe_sn pg_117 4 (fr' := (85, [(7, .int 8), (6, .int 0), (0, .ref 165), (1, .int 0), (2, .int p1), (3, .int 2), (4, .int 1), (5, .int 0)], [.int 4, .int 0, .ref 166])) rfl ?_
      refine xe_sn pg_117 4 (fr' := (90, [(7, .int 8), (6, .int 0), (0, .ref 165), (1, .int 0), (2, .int p1), (3, .int 2), (4, .int 1), (5, .int 0)], [.ref 165, .int 12, .ref 166])) rfl ?_
      refine xe_sn pg_117 4 (fr' := (97, [(7, .int 8), (6, .int 0), (0, .ref 165), (1, .int 0), (2, .int p1), (3, .int 2), (4, .int 1), (5, .int 0)], [])) rfl ?_
      refine xe_sn pg_117 4 (fr' := (75, [(7, .int 9), (6, .int 0), (0, .ref 165), (1, .int 0), (2, .int p1), (3, .int 2), (4, .int 1), (5, .int 0)], [.int 14, .int 9])) rfl ?_
      refine xe_sn pg_117 4 (fr' := (84, [(7, .int 9), (6, .int 0), (0, .ref 165), (1, .int 0), (2, .int p1), (3, .int 2), (4, .int 1), (5, .int 0)], [.int 0, .ref 166])) rfl ?_
      refine xe_sn pg_117 4 (fr' := (89, [(7, .int 9), (6, .int 0), (0, .ref 165), (1, .int 0), (2, .int p1), (3, .int 2), (4, .int 1), (5, .int 0)], [.int 13, .ref 166])) rfl ?_
      refine xe_sn pg_117 4 (fr' := (96, [(7, .int 9), (6, .int 0), (0, .ref 165), (1, .int 0), (2, .int p1), (3, .int 2), (4, .int 1), (5, .int 0)], [.int 0, .int 13, .ref 166])) rfl ?_
      refine xe_sn pg_117 4 (fr' := (73, [(7, .int 10), (6, .int 0), (0, .ref 165), (1, .int 0), (2, .int p1), (3, .int 2), (4, .int 1), (5, .int 0)], [.int 10])) rfl ?_
      refine xe_sn pg_117 4 (fr' := (82, [(7, .int 10), (6, .int 0), (0, .ref 165), (1, .int 0), (2, .int p1), (3, .int 2), (4, .int 1), (5, .int 0)], [.ref 166])) rfl ?_
      refine xe_sn pg_117 4 (fr' := (88, [(7, .int 10), (6, .int 0), (0, .ref 165), (1, .int 0), (2, .int p1), (3, .int 2), (4, .int 1), (5, .int 0)], [.int 10, .int 4, .ref 166])) rfl ?_
      refine xe_sn pg_117 4 (fr' := (95, [(7, .int 10), (6, .int 0), (0, .ref 165), (1, .int 0), (2, .int p1), (3, .int 2), (4, .int 1), (5, .int 0)], [.int 10, .ref 187, .int 14, .ref 166])) rfl ?_
      refine xe_sn pg_117 4 (fr' := (71, [(7, .int 11), (6, .int 0), (0, .ref 165), (1, .int 0), (2, .int p1), (3, .int 2), (4, .int 1), (5, .int 0)], [])) rfl ?_
      refine xe_sn pg_117 4 (fr' := (79, [(7, .int 11), (6, .int 0), (0, .ref 165), (1, .int 0), (2, .int p1), (3, .int 2), (4, .int 1), (5, .int 0)], [.ref 165])) rfl ?_
      refine xe_sn pg_117 4 (fr' := (86, [(7, .int 11), (6, .int 0), (0, .ref 165), (1, .int 0), (2, .int p1), (3, .int 2), (4, .int 1), (5, .int 0)], [.int 4, .ref 166])) rfl ?_
      refine xe_sn pg_117 4 (fr' := (93, [(7, .int 11), (6, .int 0), (0, .ref 165), (1, .int 0), (2, .int p1), (3, .int 2), (4, .int 1), (5, .int 0)], [.ref 187, .int 15, .ref 166])) rfl ?_
      refine xe_sn pg_117 4 (fr' := (100, [(7, .int 12), (6, .int 0), (0, .ref 165), (1, .int 0), (2, .int p1), (3, .int 2), (4, .int 1), (5, .int 0)], [])) rfl ?_
      refine xe_sn pg_117 4 (fr' := (78, [(7, .int 12), (6, .int 0), (0, .ref 165), (1, .int 0), (2, .int p1), (3, .int 2), (4, .int 1), (5, .int 0)], [])) rfl ?_
      refine xe_sn pg_117 4 (fr' := (85, [(7, .int 12), (6, .int 0), (0, .ref 165), (1, .int 0), (2, .int p1), (3, .int 2), (4, .int 1), (5, .int 0)], [.int 4, .int 0, .ref 166])) rfl ?_
      refine xe_sn pg_117 4 (fr' := (90, [(7, .int 12), (6, .int 0), (0, .ref 165), (1, .int 0), (2, .int p1), (3, .int 2), (4, .int 1), (5, .int 0)], [.ref 165, .int 16, .ref 166])) rfl ?_
      refine xe_sn pg_117 4 (fr' := (97, [(7, .int 12), (6, .int 0), (0, .ref 165), (1, .int 0), (2, .int p1), (3, .int 2), (4, .int 1), (5, .int 0)], [])) rfl ?_
      refine xe_sn pg_117 4 (fr' := (75, [(7, .int 13), (6, .int 0), (0, .ref 165), (1, .int 0), (2, .int p1), (3, .int 2), (4, .int 1), (5, .int 0)], [.int 14, .int 13])) rfl ?_
      refine xe_sn pg_117 4 (fr' := (84, [(7, .int 13), (6, .int 0), (0, .ref 165), (1, .int 0), (2, .int p1), (3, .int 2), (4, .int 1), (5, .int 0)], [.int 0, .ref 166])) rfl ?_
      refine xe_sn pg_117 4 (fr' := (89, [(7, .int 13), (6, .int 0), (0, .ref 165), (1, .int 0), (2, .int p1), (3, .int 2), (4, .int 1), (5, .int 0)], [.int 17, .ref 166])) rfl ?_
      refine xe_sn pg_117 4 (fr' := (96, [(7, .int 13), (6, .int 0), (0, .ref 165), (1, .int 0), (2, .int p1), (3, .int 2), (4, .int 1), (5, .int 0)], [.int 0, .int 17, .ref 166])) rfl ?_
      refine xe_sn pg_117 4 (fr' := (73, [(7, .int 14), (6, .int 0), (0, .ref 165), (1, .int 0), (2, .int p1), (3, .int 2), (4, .int 1), (5, .int 0)], [.int 14])) rfl ?_
      refine xe_sn pg_117 4 (fr' := (107, [(7, .int 14), (6, .int 0), (0, .ref 165), (1, .int 0), (2, .int p1), (3, .int 2), (4, .int 1), (5, .int 0)], [.ref 166])) rfl ?_
      refine xe_sn pg_117 4 (fr' := (114, [(7, .int 14), (6, .int 0), (0, .ref 165), (1, .int 0), (2, .int p1), (3, .int 2), (4, .int 1), (5, .int 0)], [.int 0, .int 18, .ref 166])) rfl ?_
      refine xe_sn pg_117 4 (fr' := (120, [(7, .int 14), (6, .int 0), (0, .ref 165), (1, .int 0), (2, .int p1), (3, .int 2), (4, .int 1), (5, .int 0)], [.int 0, .ref 165])) rfl ?_
      refine xe_sn pg_117 3 (fr' := (125, [(7, .int 14), (6, .int 0), (0, .ref 165), (1, .int 0), (2, .int p1), (3, .int 2), (4, .int 1), (5, .int 0)], [])) rfl ?_
      exact xe_end pg_117 rfl
    refine xe_sn pg_140 2 (fr' := (127, [(0, .ref 165), (1, .int 2), (2, .int p1), (3, .int (nI e2))], [.int 1])) rfl ?_
    exact xe_end pg_140 rfl
  · exact ⟨⟨rfl, rfl, rfl, rfl⟩, Nat.le_of_ble_eq_true rfl, Nat.le_of_ble_eq_true rfl, rfl, fun _ => rfl⟩

set_option maxRecDepth 100000 in
theorem lf_create_17 (xs : Nat → Int32) (p1 : Int32) (p2 : Int32) (a1 : p1.toInt < 1) : op_ok xs 161 140 [.ref 0, .int 3, .int p1, .int p2, .ref 189] [.ref 165, .int 3, .int p1, .int p2] := by
  refine ⟨1, 0, ?_⟩
  apply Exists.intro
  apply Exists.intro
  apply And.intro
  · refine xe_sn pg_161 4 (fr' := (5, [(0, .ref 0), (1, .int 3), (2, .int p1), (3, .int p2), (4, .ref 189)], [.int 3, .ref 0, .int 0, .ref 189])) rfl ?_
    refine xe_sn pg_161 2 (fr' := (7, [(0, .ref 0), (1, .int 3), (2, .int p1), (3, .int p2), (4, .ref 189)], [.int p2, .int p1, .int 3, .ref 0, .int 0, .ref 189])) rfl ?_
    apply xe_callq pg_161 74 [.ref 0, .int 3, .int p1, .int p2] (.inr 0) (17, [(0, .ref 0), (1, .int 3), (2, .int p1), (3, .int p2), (4, .ref 189)], []) rfl (fun _ => rfl)
    · refine xe_sn pg_74 1 (fr' := (1, [(0, .ref 0), (1, .int 3), (2, .int p1), (3, .int p2)], [.int 3])) rfl ?_
      apply xe_callq pg_74 92 [.int 3] (.inl none) (4, [(0, .ref 0), (1, .int 3), (2, .int p1), (3, .int p2)], []) rfl (fun _ => rfl)
      · refine xe_sn pg_92 2 (fr' := (2, [(0, .int 3)], [.int 4, .int 3])) rfl ?_
        apply xe_callq pg_92 95 [.int 3, .int 4] (.inl none) (5, [(0, .int 3)], []) rfl (fun _ => rfl)
        · refine xe_sn pg_95 4 (fr' := (6, [(0, .int 3), (1, .int 4)], [.int 4, .int 3])) rfl ?_
          refine xe_sn pg_95 1 (fr' := (17, [(0, .int 3), (1, .int 4)], [])) rfl ?_
          exact xe_end pg_95 rfl
        exact xe_end pg_92 rfl
      refine xe_sn pg_74 1 (fr' := (5, [(0, .ref 0), (1, .int 3), (2, .int p1), (3, .int p2)], [.int p1])) rfl ?_
      apply xe_callqx pg_74 93 [.int p1] 0 rfl (fun _ => rfl)
      · refine xe_sn pg_93 2 (fr' := (2, [(0, .int p1)], [.int 1, .int p1])) rfl ?_
        refine xe_t2 pg_93 10 rfl rfl (by show (p1).toInt < 1; omega) ?_
        exact xe_end pg_93 rfl
    refine xe_sn pg_161 1 (fr' := (18, [(0, .ref 0), (1, .int 3), (2, .int p1), (3, .int p2), (4, .ref 189)], [.int 1])) rfl ?_
    exact xe_end pg_161 rfl
  refine And.intro ⟨rfl, rfl, rfl, rfl⟩ ?_
  apply And.intro
  · refine xe_sn pg_140 2 (fr' := (2, [(0, .ref 165), (1, .int 3), (2, .int p1), (3, .int p2)], [.int 3, .ref 165])) rfl ?_
    apply xe_callq pg_140 104 [.int 3] (.inl (some (.int 1))) (5, [(0, .ref 165), (1, .int 3), (2, .int p1), (3, .int p2)], [.int 1, .ref 165]) rfl (fun _ => rfl)
    · refine xe_sn pg_104 3 (fr' := (3, [(0, .int 3)], [.int 3, .int 0, .int 3])) rfl ?_
      apply xe_callq pg_104 103 [.int 3, .int 0, .int 3] (.inl (some (.int 1))) (6, [(0, .int 3)], [.int 1]) rfl (fun _ => rfl)
      · refine xe_sn pg_103 4 (fr' := (6, [(0, .int 3), (1, .int 0), (2, .int 3)], [.int 3])) rfl ?_
        refine xe_sn pg_103 4 (fr' := (15, [(0, .int 3), (1, .int 0), (2, .int 3)], [.int 1])) rfl ?_
        exact xe_end pg_103 rfl
      exact xe_end pg_104 rfl
    refine xe_sn pg_140 2 (fr' := (9, [(0, .ref 165), (1, .int 3), (2, .int p1), (3, .int p2)], [.int p1, .ref 165])) rfl ?_
    apply xe_callq pg_140 105 [.int p1] (.inl (some (.int 0))) (12, [(0, .ref 165), (1, .int 3), (2, .int p1), (3, .int p2)], [.int 0, .ref 165]) rfl (fun _ => rfl)
    · refine xe_sn pg_105 3 (fr' := (3, [(0, .int p1)], [.int 4, .int 1, .int p1])) rfl ?_
      apply xe_callq pg_105 103 [.int p1, .int 1, .int 4] (.inl (some (.int 0))) (6, [(0, .int p1)], [.int 0]) rfl (fun _ => rfl)
      · refine xe_sn pg_103 2 (fr' := (2, [(0, .int p1), (1, .int 1), (2, .int 4)], [.int 1, .int p1])) rfl ?_
        refine xe_t2 pg_103 14 rfl rfl (by show (p1).toInt < 1; omega) ?_
        refine xe_sn pg_103 1 (fr' := (15, [(0, .int p1), (1, .int 1), (2, .int 4)], [.int 0])) rfl ?_
        exact xe_end pg_103 rfl
      exact xe_end pg_105 rfl
    refine xe_sn pg_140 4 (fr' := (49, [(0, .ref 165), (1, .int 3), (2, .int p1), (3, .int p2)], [])) rfl ?_
    refine xe_sn pg_140 4 (fr' := (57, [(0, .ref 165), (1, .int 3), (2, .int p1), (3, .int p2)], [.int 0])) rfl ?_
    exact xe_end pg_140 rfl
  · exact ⟨⟨rfl, rfl, rfl, rfl⟩, Nat.le_of_ble_eq_true rfl, Nat.le_of_ble_eq_true rfl, rfl, fun q => absurd q (by decide)⟩

set_option maxRecDepth 100000 in
theorem lf_create_18 (xs : Nat → Int32) (p1 : Int32) (p2 : Int32) (b1 : 4 < p1.toInt) : op_ok xs 161 140 [.ref 0, .int 3, .int p1, .int p2, .ref 189] [.ref 165, .int 3, .int p1, .int p2] := by
  refine ⟨1, 0, ?_⟩
  apply Exists.intro
  apply Exists.intro
  apply And.intro
  · refine xe_sn pg_161 4 (fr' := (5, [(0, .ref 0), (1, .int 3), (2, .int p1), (3, .int p2), (4, .ref 189)], [.int 3, .ref 0, .int 0, .ref 189])) rfl ?_
    refine xe_sn pg_161 2 (fr' := (7, [(0, .ref 0), (1, .int 3), (2, .int p1), (3, .int p2), (4, .ref 189)], [.int p2, .int p1, .int 3, .ref 0, .int 0, .ref 189])) rfl ?_
    apply xe_callq pg_161 74 [.ref 0, .int 3, .int p1, .int p2] (.inr 0) (17, [(0, .ref 0), (1, .int 3), (2, .int p1), (3, .int p2), (4, .ref 189)], []) rfl (fun _ => rfl)
    · refine xe_sn pg_74 1 (fr' := (1, [(0, .ref 0), (1, .int 3), (2, .int p1), (3, .int p2)], [.int 3])) rfl ?_
      apply xe_callq pg_74 92 [.int 3] (.inl none) (4, [(0, .ref 0), (1, .int 3), (2, .int p1), (3, .int p2)], []) rfl (fun _ => rfl)
      · refine xe_sn pg_92 2 (fr' := (2, [(0, .int 3)], [.int 4, .int 3])) rfl ?_
        apply xe_callq pg_92 95 [.int 3, .int 4] (.inl none) (5, [(0, .int 3)], []) rfl (fun _ => rfl)
        · refine xe_sn pg_95 4 (fr' := (6, [(0, .int 3), (1, .int 4)], [.int 4, .int 3])) rfl ?_
          refine xe_sn pg_95 1 (fr' := (17, [(0, .int 3), (1, .int 4)], [])) rfl ?_
          exact xe_end pg_95 rfl
        exact xe_end pg_92 rfl
      refine xe_sn pg_74 1 (fr' := (5, [(0, .ref 0), (1, .int 3), (2, .int p1), (3, .int p2)], [.int p1])) rfl ?_
      apply xe_callqx pg_74 93 [.int p1] 0 rfl (fun _ => rfl)
      · refine xe_sn pg_93 2 (fr' := (2, [(0, .int p1)], [.int 1, .int p1])) rfl ?_
        refine xe_f2 pg_93 10 rfl rfl (by show ¬ ((p1).toInt < 1); omega) ?_
        refine xe_sn pg_93 2 (fr' := (7, [(0, .int p1)], [.int 4, .int p1])) rfl ?_
        refine xe_f2 pg_93 18 rfl rfl (by show ¬ ((p1).toInt ≤ 4); omega) ?_
        exact xe_end pg_93 rfl
    refine xe_sn pg_161 1 (fr' := (18, [(0, .ref 0), (1, .int 3), (2, .int p1), (3, .int p2), (4, .ref 189)], [.int 1])) rfl ?_
    exact xe_end pg_161 rfl
  refine And.intro ⟨rfl, rfl, rfl, rfl⟩ ?_
  apply And.intro
  · refine xe_sn pg_140 2 (fr' := (2, [(0, .ref 165), (1, .int 3), (2, .int p1), (3, .int p2)], [.int 3, .ref 165])) rfl ?_
    apply xe_callq pg_140 104 [.int 3] (.inl (some (.int 1))) (5, [(0, .ref 165), (1, .int 3), (2, .int p1), (3, .int p2)], [.int 1, .ref 165]) rfl (fun _ => rfl)
    · refine xe_sn pg_104 3 (fr' := (3, [(0, .int 3)], [.int 3, .int 0, .int 3])) rfl ?_
      apply xe_callq pg_104 103 [.int 3, .int 0, .int 3] (.inl (some (.int 1))) (6, [(0, .int 3)], [.int 1]) rfl (fun _ => rfl)
      · refine xe_sn pg_103 4 (fr' := (6, [(0, .int 3), (1, .int 0), (2, .int 3)], [.int 3])) rfl ?_
        refine xe_sn pg_103 4 (fr' := (15, [(0, .int 3), (1, .int 0), (2, .int 3)], [.int 1])) rfl ?_
        exact xe_end pg_103 rfl
      exact xe_end pg_104 rfl
    refine xe_sn pg_140 2 (fr' := (9, [(0, .ref 165), (1, .int 3), (2, .int p1), (3, .int p2)], [.int p1, .ref 165])) rfl ?_
    apply xe_callq pg_140 105 [.int p1] (.inl (some (.int 0))) (12, [(0, .ref 165), (1, .int 3), (2, .int p1), (3, .int p2)], [.int 0, .ref 165]) rfl (fun _ => rfl)
    · refine xe_sn pg_105 3 (fr' := (3, [(0, .int p1)], [.int 4, .int 1, .int p1])) rfl ?_
      apply xe_callq pg_105 103 [.int p1, .int 1, .int 4] (.inl (some (.int 0))) (6, [(0, .int p1)], [.int 0]) rfl (fun _ => rfl)
      · refine xe_sn pg_103 2 (fr' := (2, [(0, .int p1), (1, .int 1), (2, .int 4)], [.int 1, .int p1])) rfl ?_
        refine xe_f2 pg_103 14 rfl rfl (by show ¬ ((p1).toInt < 1); omega) ?_
        refine xe_sn pg_103 2 (fr' := (7, [(0, .int p1), (1, .int 1), (2, .int 4)], [.int 4, .int p1])) rfl ?_
        refine xe_t2 pg_103 14 rfl rfl (by show 4 < (p1).toInt; omega) ?_
        refine xe_sn pg_103 1 (fr' := (15, [(0, .int p1), (1, .int 1), (2, .int 4)], [.int 0])) rfl ?_
        exact xe_end pg_103 rfl
      exact xe_end pg_105 rfl
    refine xe_sn pg_140 4 (fr' := (49, [(0, .ref 165), (1, .int 3), (2, .int p1), (3, .int p2)], [])) rfl ?_
    refine xe_sn pg_140 4 (fr' := (57, [(0, .ref 165), (1, .int 3), (2, .int p1), (3, .int p2)], [.int 0])) rfl ?_
    exact xe_end pg_140 rfl
  · exact ⟨⟨rfl, rfl, rfl, rfl⟩, Nat.le_of_ble_eq_true rfl, Nat.le_of_ble_eq_true rfl, rfl, fun q => absurd q (by decide)⟩

set_option maxRecDepth 100000 in
theorem lf_create_19 (xs : Nat → Int32) (p1 : Int32) (p2 : Int32) (a1 : 1 ≤ p1.toInt) (b1 : p1.toInt ≤ 4) (a2 : p2.toInt < 1) : op_ok xs 161 140 [.ref 0, .int 3, .int p1, .int p2, .ref 189] [.ref 165, .int 3, .int p1, .int p2] := by
  refine ⟨2, 0, ?_⟩
  apply Exists.intro
  apply Exists.intro
  apply And.intro
  · refine xe_sn pg_161 4 (fr' := (5, [(0, .ref 0), (1, .int 3), (2, .int p1), (3, .int p2), (4, .ref 189)], [.int 3, .ref 0, .int 0, .ref 189])) rfl ?_
    refine xe_sn pg_161 2 (fr' := (7, [(0, .ref 0), (1, .int 3), (2, .int p1), (3, .int p2), (4, .ref 189)], [.int p2, .int p1, .int 3, .ref 0, .int 0, .ref 189])) rfl ?_
    apply xe_callq pg_161 74 [.ref 0, .int 3, .int p1, .int p2] (.inr 1) (21, [(0, .ref 0), (1, .int 3), (2, .int p1), (3, .int p2), (4, .ref 189)], []) rfl (fun _ => rfl)
    · refine xe_sn pg_74 1 (fr' := (1, [(0, .ref 0), (1, .int 3), (2, .int p1), (3, .int p2)], [.int 3])) rfl ?_
      apply xe_callq pg_74 92 [.int 3] (.inl none) (4, [(0, .ref 0), (1, .int 3), (2, .int p1), (3, .int p2)], []) rfl (fun _ => rfl)
      · refine xe_sn pg_92 2 (fr' := (2, [(0, .int 3)], [.int 4, .int 3])) rfl ?_
        apply xe_callq pg_92 95 [.int 3, .int 4] (.inl none) (5, [(0, .int 3)], []) rfl (fun _ => rfl)
        · refine xe_sn pg_95 4 (fr' := (6, [(0, .int 3), (1, .int 4)], [.int 4, .int 3])) rfl ?_
          refine xe_sn pg_95 1 (fr' := (17, [(0, .int 3), (1, .int 4)], [])) rfl ?_
          exact xe_end pg_95 rfl
        exact xe_end pg_92 rfl
      refine xe_sn pg_74 1 (fr' := (5, [(0, .ref 0), (1, .int 3), (2, .int p1), (3, .int p2)], [.int p1])) rfl ?_
      apply xe_callq pg_74 93 [.int p1] (.inl none) (8, [(0, .ref 0), (1, .int 3), (2, .int p1), (3, .int p2)], []) rfl (fun _ => rfl)
      · refine xe_sn pg_93 2 (fr' := (2, [(0, .int p1)], [.int 1, .int p1])) rfl ?_
        refine xe_f2 pg_93 10 rfl rfl (by show ¬ ((p1).toInt < 1); omega) ?_
        refine xe_sn pg_93 2 (fr' := (7, [(0, .int p1)], [.int 4, .int p1])) rfl ?_
        refine xe_t2 pg_93 18 rfl rfl (by show (p1).toInt ≤ 4; omega) ?_
        exact xe_end pg_93 rfl
      refine xe_sn pg_74 1 (fr' := (9, [(0, .ref 0), (1, .int 3), (2, .int p1), (3, .int p2)], [.int p2])) rfl ?_
      apply xe_callqx pg_74 96 [.int p2] 1 rfl (fun _ => rfl)
      · refine xe_sn pg_96 2 (fr' := (2, [(0, .int p2)], [.int 1, .int p2])) rfl ?_
        refine xe_t2 pg_96 15 rfl rfl (by show (p2).toInt < 1; omega) ?_
        refine xe_sn pg_96 1 (fr' := (16, [(0, .int p2)], [.int 0])) rfl ?_
        apply xe_callqx pg_96 97 [.int 0] 1 rfl (fun _ => rfl)
        · refine xe_sn pg_97 2 (fr' := (4, [(0, .int 0)], [])) rfl ?_
          exact xe_end pg_97 rfl
    refine xe_sn pg_161 1 (fr' := (22, [(0, .ref 0), (1, .int 3), (2, .int p1), (3, .int p2), (4, .ref 189)], [.int 2])) rfl ?_
    exact xe_end pg_161 rfl
  refine And.intro ⟨rfl, rfl, rfl, rfl⟩ ?_
  apply And.intro
  · refine xe_sn pg_140 2 (fr' := (2, [(0, .ref 165), (1, .int 3), (2, .int p1), (3, .int p2)], [.int 3, .ref 165])) rfl ?_
    apply xe_callq pg_140 104 [.int 3] (.inl (some (.int 1))) (5, [(0, .ref 165), (1, .int 3), (2, .int p1), (3, .int p2)], [.int 1, .ref 165]) rfl (fun _ => rfl)
    · refine xe_sn pg_104 3 (fr' := (3, [(0, .int 3)], [.int 3, .int 0, .int 3])) rfl ?_
      apply xe_callq pg_104 103 [.int 3, .int 0, .int 3] (.inl (some (.int 1))) (6, [(0, .int 3)], [.int 1]) rfl (fun _ => rfl)
      · refine xe_sn pg_103 4 (fr' := (6, [(0, .int 3), (1, .int 0), (2, .int 3)], [.int 3])) rfl ?_
        refine xe_sn pg_103 4 (fr' := (15, [(0, .int 3), (1, .int 0), (2, .int 3)], [.int 1])) rfl ?_
        exact xe_end pg_103 rfl
      exact xe_end pg_104 rfl
    refine xe_sn pg_140 2 (fr' := (9, [(0, .ref 165), (1, .int 3), (2, .int p1), (3, .int p2)], [.int p1, .ref 165])) rfl ?_
    apply xe_callq pg_140 105 [.int p1] (.inl (some (.int 1))) (12, [(0, .ref 165), (1, .int 3), (2, .int p1), (3, .int p2)], [.int 1, .ref 165]) rfl (fun _ => rfl)
    · refine xe_sn pg_105 3 (fr' := (3, [(0, .int p1)], [.int 4, .int 1, .int p1])) rfl ?_
      apply xe_callq pg_105 103 [.int p1, .int 1, .int 4] (.inl (some (.int 1))) (6, [(0, .int p1)], [.int 1]) rfl (fun _ => rfl)
      · refine xe_sn pg_103 2 (fr' := (2, [(0, .int p1), (1, .int 1), (2, .int 4)], [.int 1, .int p1])) rfl ?_
        refine xe_f2 pg_103 14 rfl rfl (by show ¬ ((p1).toInt < 1); omega) ?_
        refine xe_sn pg_103 2 (fr' := (7, [(0, .int p1), (1, .int 1), (2, .int 4)], [.int 4, .int p1])) rfl ?_
        refine xe_f2 pg_103 14 rfl rfl (by show ¬ (4 < (p1).toInt); omega) ?_
        refine xe_sn pg_103 2 (fr' := (15, [(0, .int p1), (1, .int 1), (2, .int 4)], [.int 1])) rfl ?_
        exact xe_end pg_103 rfl
      exact xe_end pg_105 rfl
    refine xe_sn pg_140 4 (fr' := (23, [(0, .ref 165), (1, .int 3), (2, .int p1), (3, .int p2)], [.int 65519, .int 1, .int p2, .ref 165])) rfl ?_
    apply xe_callq pg_140 103 [.int p2, .int 1, .int 65519] (.inl (some (.int 0))) (26, [(0, .ref 165), (1, .int 3), (2, .int p1), (3, .int p2)], [.int 0, .ref 165]) rfl (fun _ => rfl)
    · refine xe_sn pg_103 2 (fr' := (2, [(0, .int p2), (1, .int 1), (2, .int 65519)], [.int 1, .int p2])) rfl ?_
      refine xe_t2 pg_103 14 rfl rfl (by show (p2).toInt < 1; omega) ?_
      refine xe_sn pg_103 1 (fr' := (15, [(0, .int p2), (1, .int 1), (2, .int 65519)], [.int 0])) rfl ?_
      exact xe_end pg_103 rfl
    refine xe_sn pg_140 4 (fr' := (49, [(0, .ref 165), (1, .int 3), (2, .int p1), (3, .int p2)], [])) rfl ?_
    refine xe_sn pg_140 4 (fr' := (57, [(0, .ref 165), (1, .int 3), (2, .int p1), (3, .int p2)], [.int 0])) rfl ?_
    exact xe_end pg_140 rfl
  · exact ⟨⟨rfl, rfl, rfl, rfl⟩, Nat.le_of_ble_eq_true rfl, Nat.le_of_ble_eq_true rfl, rfl, fun q => absurd q (by decide)⟩

set_option maxRecDepth 100000 in
theorem lf_create_20 (xs : Nat → Int32) (p1 : Int32) (p2 : Int32) (a1 : 1 ≤ p1.toInt) (b1 : p1.toInt ≤ 4) (b2 : 65519 < p2.toInt) : op_ok xs 161 140 [.ref 0, .int 3, .int p1, .int p2, .ref 189] [.ref 165, .int 3, .int p1, .int p2] := by
  refine ⟨2, 0, ?_⟩
  apply Exists.intro
  apply Exists.intro
  apply And.intro
  · refine xe_sn pg_161 4 (fr' := (5, [(0, .ref 0), (1, .int 3), (2, .int p1), (3, .int p2), (4, .ref 189)], [.int 3, .ref 0, .int 0, .ref 189])) rfl ?_
    refine xe_sn pg_161 2 (fr' := (7, [(0, .ref 0), (1, .int 3), (2, .int p1), (3, .int p2), (4, .ref 189)], [.int p2, .int p1, .int 3, .ref 0, .int 0, .ref 189])) rfl ?_
    apply xe_callq pg_161 74 [.ref 0, .int 3, .int p1, .int p2] (.inr 1) (21, [(0, .ref 0), (1, .int 3), (2, .int p1), (3, .int p2), (4, .ref 189)], []) rfl (fun _ => rfl)
    · refine xe_sn pg_74 1 (fr' := (1, [(0, .ref 0), (1, .int 3), (2, .int p1), (3, .int p2)], [.int 3])) rfl ?_
      apply xe_callq pg_74 92 [.int 3] (.inl none) (4, [(0, .ref 0), (1, .int 3), (2, .int p1), (3, .int p2)], []) rfl (fun _ => rfl)
      · refine xe_sn pg_92 2 (fr' := (2, [(0, .int 3)], [.int 4, .int 3])) rfl ?_
        apply xe_callq pg_92 95 [.int 3, .int 4] (.inl none) (5, [(0, .int 3)], []) rfl (fun _ => rfl)
        · refine xe_sn pg_95 4 (fr' := (6, [(0, .int 3), (1, .int 4)], [.int 4, .int 3])) rfl ?_
          refine xe_sn pg_95 1 (fr' := (17, [(0, .int 3), (1, .int 4)], [])) rfl ?_
          exact xe_end pg_95 rfl
        exact xe_end pg_92 rfl
      refine xe_sn pg_74 1 (fr' := (5, [(0, .ref 0), (1, .int 3), (2, .int p1), (3, .int p2)], [.int p1])) rfl ?_
      apply xe_callq pg_74 93 [.int p1] (.inl none) (8, [(0, .ref 0), (1, .int 3), (2, .int p1), (3, .int p2)], []) rfl (fun _ => rfl)
      · refine xe_sn pg_93 2 (fr' := (2, [(0, .int p1)], [.int 1, .int p1])) rfl ?_
        refine xe_f2 pg_93 10 rfl rfl (by show ¬ ((p1).toInt < 1); omega) ?_
        refine xe_sn pg_93 2 (fr' := (7, [(0, .int p1)], [.int 4, .int p1])) rfl ?_
        refine xe_t2 pg_93 18 rfl rfl (by show (p1).toInt ≤ 4; omega) ?_
        exact xe_end pg_93 rfl
      refine xe_sn pg_74 1 (fr' := (9, [(0, .ref 0), (1, .int 3), (2, .int p1), (3, .int p2)], [.int p2])) rfl ?_
      apply xe_callqx pg_74 96 [.int p2] 1 rfl (fun _ => rfl)
      · refine xe_sn pg_96 2 (fr' := (2, [(0, .int p2)], [.int 1, .int p2])) rfl ?_
        refine xe_f2 pg_96 15 rfl rfl (by show ¬ ((p2).toInt < 1); omega) ?_
        refine xe_sn pg_96 2 (fr' := (8, [(0, .int p2)], [.int 65519, .int p2])) rfl ?_
        refine xe_t2 pg_96 15 rfl rfl (by show 65519 < (p2).toInt; omega) ?_
        refine xe_sn pg_96 1 (fr' := (16, [(0, .int p2)], [.int 0])) rfl ?_
        apply xe_callqx pg_96 97 [.int 0] 1 rfl (fun _ => rfl)
        · refine xe_sn pg_97 2 (fr' := (4, [(0, .int 0)], [])) rfl ?_
          exact xe_end pg_97 rfl
    refine xe_sn pg_161 1 (fr' := (22, [(0, .ref 0), (1, .int 3), (2, .int p1), (3, .int p2), (4, .ref 189)], [.int 2])) rfl ?_
    exact xe_end pg_161 rfl
  refine And.intro ⟨rfl, rfl, rfl, rfl⟩ ?_
  apply And.intro
  · refine xe_sn pg_140 2 (fr' := (2, [(0, .ref 165), (1, .int 3), (2, .int p1), (3, .int p2)], [.int 3, .ref 165])) rfl ?_
    apply xe_callq pg_140 104 [.int 3] (.inl (some (.int 1))) (5, [(0, .ref 165), (1, .int 3), (2, .int p1), (3, .int p2)], [.int 1, .ref 165]) rfl (fun _ => rfl)
    · refine xe_sn pg_104 3 (fr' := (3, [(0, .int 3)], [.int 3, .int 0, .int 3])) rfl ?_
      apply xe_callq pg_104 103 [.int 3, .int 0, .int 3] (.inl (some (.int 1))) (6, [(0, .int 3)], [.int 1]) rfl (fun _ => rfl)
      · refine xe_sn pg_103 4 (fr' := (6, [(0, .int 3), (1, .int 0), (2, .int 3)], [.int 3])) rfl ?_
        refine xe_sn pg_103 4 (fr' := (15, [(0, .int 3), (1, .int 0), (2, .int 3)], [.int 1])) rfl ?_
        exact xe_end pg_103 rfl
      exact xe_end pg_104 rfl
    refine xe_sn pg_140 2 (fr' := (9, [(0, .ref 165), (1, .int 3), (2, .int p1), (3, .int p2)], [.int p1, .ref 165])) rfl ?_
    apply xe_callq pg_140 105 [.int p1] (.inl (some (.int 1))) (12, [(0, .ref 165), (1, .int 3), (2, .int p1), (3, .int p2)], [.int 1, .ref 165]) rfl (fun _ => rfl)
    · refine xe_sn pg_105 3 (fr' := (3, [(0, .int p1)], [.int 4, .int 1, .int p1])) rfl ?_
      apply xe_callq pg_105 103 [.int p1, .int 1, .int 4] (.inl (some (.int 1))) (6, [(0, .int p1)], [.int 1]) rfl (fun _ => rfl)
      · refine xe_sn pg_103 2 (fr' := (2, [(0, .int p1), (1, .int 1), (2, .int 4)], [.int 1, .int p1])) rfl ?_
        refine xe_f2 pg_103 14 rfl rfl (by show ¬ ((p1).toInt < 1); omega) ?_
        refine xe_sn pg_103 2 (fr' := (7, [(0, .int p1), (1, .int 1), (2, .int 4)], [.int 4, .int p1])) rfl ?_
        refine xe_f2 pg_103 14 rfl rfl (by show ¬ (4 < (p1).toInt); omega) ?_
        refine xe_sn pg_103 2 (fr' := (15, [(0, .int p1), (1, .int 1), (2, .int 4)], [.int 1])) rfl ?_
        exact xe_end pg_103 rfl
      exact xe_end pg_105 rfl
    refine xe_sn pg_140 4 (fr' := (23, [(0, .ref 165), (1, .int 3), (2, .int p1), (3, .int p2)], [.int 65519, .int 1, .int p2, .ref 165])) rfl ?_
    apply xe_callq pg_140 103 [.int p2, .int 1, .int 65519] (.inl (some (.int 0))) (26, [(0, .ref 165), (1, .int 3), (2, .int p1), (3, .int p2)], [.int 0, .ref 165]) rfl (fun _ => rfl)
    · refine xe_sn pg_103 2 (fr' := (2, [(0, .int p2), (1, .int 1), (2, .int 65519)], [.int 1, .int p2])) rfl ?_
      refine xe_f2 pg_103 14 rfl rfl (by show ¬ ((p2).toInt < 1); omega) ?_
      refine xe_sn pg_103 2 (fr' := (7, [(0, .int p2), (1, .int 1), (2, .int 65519)], [.int 65519, .int p2])) rfl ?_
      refine xe_t2 pg_103 14 rfl rfl (by show 65519 < (p2).toInt; omega) ?_
      refine xe_sn pg_103 1 (fr' := (15, [(0, .int p2), (1, .int 1), (2, .int 65519)], [.int 0])) rfl ?_
      exact xe_end pg_103 rfl
    refine xe_sn pg_140 4 (fr' := (49, [(0, .ref 165), (1, .int 3), (2, .int p1), (3, .int p2)], [])) rfl ?_
    refine xe_sn pg_140 4 (fr' := (57, [(0, .ref 165), (1, .int 3), (2, .int p1), (3, .int p2)], [.int 0])) rfl ?_
    exact xe_end pg_140 rfl
  · exact ⟨⟨rfl, rfl, rfl, rfl⟩, Nat.le_of_ble_eq_true rfl, Nat.le_of_ble_eq_true rfl, rfl, fun q => absurd q (by decide)⟩

set_option maxRecDepth 100000 in
theorem lf_create_21 (xs : Nat → Int32) (p1 : Int32) (e2 : Nat) (a1 : 1 ≤ p1.toInt) (b1 : p1.toInt ≤ 4) (c2 : 1 ≤ e2) (d2 : e2 ≤ 65519) : op_ok xs 161 140 [.ref 0, .int 3, .int p1, .int (nI e2), .ref 189] [.ref 165, .int 3, .int p1, .int (nI e2)] := by
  refine ⟨0, 1, ?_⟩
  apply Exists.intro
  apply Exists.intro
  apply And.intro
  · refine xe_sn pg_161 4 (fr' := (5, [(0, .ref 0), (1, .int 3), (2, .int p1), (3, .int (nI e2)), (4, .ref 189)], [.int 3, .ref 0, .int 0, .ref 189])) rfl ?_
    refine xe_sn pg_161 2 (fr' := (7, [(0, .ref 0), (1, .int 3), (2, .int p1), (3, .int (nI e2)), (4, .ref 189)], [.int (nI e2), .int p1, .int 3, .ref 0, .int 0, .ref 189])) rfl ?_
    apply xe_callq pg_161 74 [.ref 0, .int 3, .int p1, .int (nI e2)] (.inl (some (.int 1))) (10, [(0, .ref 0), (1, .int 3), (2, .int p1), (3, .int (nI e2)), (4, .ref 189)], [.int 1, .int 0, .ref 189]) rfl (fun _ => rfl)
    · refine xe_sn pg_74 1 (fr' := (1, [(0, .ref 0), (1, .int 3), (2, .int p1), (3, .int (nI e2))], [.int 3])) rfl ?_
      apply xe_callq pg_74 92 [.int 3] (.inl none) (4, [(0, .ref 0), (1, .int 3), (2, .int p1), (3, .int (nI e2))], []) rfl (fun _ => rfl)
      · refine xe_sn pg_92 2 (fr' := (2, [(0, .int 3)], [.int 4, .int 3])) rfl ?_
        apply xe_callq pg_92 95 [.int 3, .int 4] (.inl none) (5, [(0, .int 3)], []) rfl (fun _ => rfl)
        · refine xe_sn pg_95 4 (fr' := (6, [(0, .int 3), (1, .int 4)], [.int 4, .int 3])) rfl ?_
          refine xe_sn pg_95 1 (fr' := (17, [(0, .int 3), (1, .int 4)], [])) rfl ?_
          exact xe_end pg_95 rfl
        exact xe_end pg_92 rfl
      refine xe_sn pg_74 1 (fr' := (5, [(0, .ref 0), (1, .int 3), (2, .int p1), (3, .int (nI e2))], [.int p1])) rfl ?_
      apply xe_callq pg_74 93 [.int p1] (.inl none) (8, [(0, .ref 0), (1, .int 3), (2, .int p1), (3, .int (nI e2))], []) rfl (fun _ => rfl)
      · refine xe_sn pg_93 2 (fr' := (2, [(0, .int p1)], [.int 1, .int p1])) rfl ?_
        refine xe_f2 pg_93 10 rfl rfl (by show ¬ ((p1).toInt < 1); omega) ?_
        refine xe_sn pg_93 2 (fr' := (7, [(0, .int p1)], [.int 4, .int p1])) rfl ?_
        refine xe_t2 pg_93 18 rfl rfl (by show (p1).toInt ≤ 4; omega) ?_
        exact xe_end pg_93 rfl
      refine xe_sn pg_74 1 (fr' := (9, [(0, .ref 0), (1, .int 3), (2, .int p1), (3, .int (nI e2))], [.int (nI e2)])) rfl ?_
      apply xe_callq pg_74 96 [.int (nI e2)] (.inl none) (12, [(0, .ref 0), (1, .int 3), (2, .int p1), (3, .int (nI e2))], []) rfl (fun _ => rfl)
      · refine xe_sn pg_96 2 (fr' := (2, [(0, .int (nI e2))], [.int 1, .int (nI e2)])) rfl ?_
        refine xe_f2 pg_96 15 rfl rfl (by show ¬ (((nI e2)).toInt < 1); rw [nI_toInt (n := e2) (by omega)]; omega) ?_
        refine xe_sn pg_96 2 (fr' := (8, [(0, .int (nI e2))], [.int 65519, .int (nI e2)])) rfl ?_
        refine xe_f2 pg_96 15 rfl rfl (by show ¬ (65519 < ((nI e2)).toInt); rw [nI_toInt (n := e2) (by omega)]; omega) ?_
        refine xe_sn pg_96 2 (fr' := (16, [(0, .int (nI e2))], [.int 1])) rfl ?_
        apply xe_callq pg_96 97 [.int 1] (.inl none) (19, [(0, .int (nI e2))], []) rfl (fun _ => rfl)
        · refine xe_sn pg_97 2 (fr' := (12, [(0, .int 1)], [])) rfl ?_
          exact xe_end pg_97 rfl
        exact xe_end pg_96 rfl
      refine xe_sn pg_74 4 (fr' := (18, [(0, .ref 0), (1, .int 3), (2, .int p1), (3, .int (nI e2))], [.ref 154])) rfl ?_
      refine xe_sn pg_74 2 (fr' := (22, [(4, .ref 154), (0, .ref 0), (1, .int 3), (2, .int p1), (3, .int (nI e2))], [.ref 154])) rfl ?_
      apply xe_callq pg_74 16 [.ref 154] (.inl (some (.int 0))) (25, [(4, .ref 154), (0, .ref 0), (1, .int 3), (2, .int p1), (3, .int (nI e2))], [.int 0]) rfl (fun _ => rfl)
      · refine xe_sn pg_16 4 (fr' := (8, [(0, .ref 154)], [])) rfl ?_
        refine xe_sn pg_16 4 (fr' := (20, [(0, .ref 154)], [])) rfl ?_
        refine xe_sn pg_16 1 (fr' := (21, [(0, .ref 154)], [.int 0])) rfl ?_
        exact xe_end pg_16 rfl
      refine xe_sn pg_74 3 (fr' := (33, [(4, .ref 154), (0, .ref 0), (1, .int 3), (2, .int p1), (3, .int (nI e2))], [.int 1])) rfl ?_
      apply xe_callq pg_74 98 [.int 1] (.inl none) (36, [(4, .ref 154), (0, .ref 0), (1, .int 3), (2, .int p1), (3, .int (nI e2))], []) rfl (fun _ => rfl)
      · refine xe_sn pg_98 2 (fr' := (12, [(0, .int 1)], [])) rfl ?_
        exact xe_end pg_98 rfl
      refine xe_sn pg_74 3 (fr' := (40, [(4, .ref 154), (0, .ref 0), (1, .int 3), (2, .int p1), (3, .int (nI e2))], [.int (nI e2), .int p1, .ref 154])) rfl ?_
      apply xe_callq pg_74 19 [.ref 154, .int p1, .int (nI e2)] (.inl none) (43, [(4, .ref 154), (0, .ref 0), (1, .int 3), (2, .int p1), (3, .int (nI e2))], []) rfl (fun _ => rfl)
      · refine xe_sn pg_19 4 (fr' := (6, [(0, .ref 154), (1, .int p1), (2, .int (nI e2))], [.ref 154])) rfl ?_
        refine xe_sn pg_19 1 (fr' := (7, [(0, .ref 154), (1, .int p1), (2, .int (nI e2))], [.int 0, .ref 154])) rfl ?_
        apply xe_callq pg_19 31 [.ref 154, .int 0] (.inl none) (10, [(0, .ref 154), (1, .int p1), (2, .int (nI e2))], []) rfl (fun _ => rfl)
        · refine xe_sn pg_31 4 (fr' := (4, [(2, .int 0), (0, .ref 154), (1, .int 0)], [.int 3, .int 0])) rfl ?_
          refine xe_sn pg_31 4 (fr' := (12, [(2, .int 0), (0, .ref 154), (1, .int 0)], [.int 0, .ref 160])) rfl ?_
          refine xe_sn pg_31 4 (fr' := (20, [(2, .int 0), (0, .ref 154), (1, .int 0)], [])) rfl ?_
          refine xe_sn pg_31 4 (fr' := (26, [(2, .int 0), (0, .ref 154), (1, .int 0)], [.ref 162])) rfl ?_
          refine xe_sn pg_31 2 (fr' := (28, [(2, .int 0), (0, .ref 154), (1, .int 0)], [.int 0, .int 0, .ref 162])) rfl ?_
          apply xe_callq pg_31 71 [.ref 162, .int 0, .int 0] (.inl none) (31, [(2, .int 0), (0, .ref 154), (1, .int 0)], []) rfl (fun _ => rfl)
          · refine xe_sn pg_71 4 (fr' := (6, [(0, .ref 162), (1, .int 0), (2, .int 0)], [.ref 162])) rfl ?_
            refine xe_sn pg_71 2 (fr' := (10, [(0, .ref 162), (1, .int 0), (2, .int 0)], [])) rfl ?_
            exact xe_end pg_71 rfl
          refine xe_sn pg_31 4 (fr' := (4, [(2, .int 1), (0, .ref 154), (1, .int 0)], [.int 3, .int 1])) rfl ?_
          refine xe_sn pg_31 4 (fr' := (12, [(2, .int 1), (0, .ref 154), (1, .int 0)], [.int 1, .ref 160])) rfl ?_
          refine xe_sn pg_31 4 (fr' := (20, [(2, .int 1), (0, .ref 154), (1, .int 0)], [])) rfl ?_
          refine xe_sn pg_31 4 (fr' := (26, [(2, .int 1), (0, .ref 154), (1, .int 0)], [.ref 163])) rfl ?_
          refine xe_sn pg_31 2 (fr' := (28, [(2, .int 1), (0, .ref 154), (1, .int 0)], [.int 0, .int 0, .ref 163])) rfl ?_
          apply xe_callq pg_31 71 [.ref 163, .int 0, .int 0] (.inl none) (31, [(2, .int 1), (0, .ref 154), (1, .int 0)], []) rfl (fun _ => rfl)
          · refine xe_sn pg_71 4 (fr' := (6, [(0, .ref 163), (1, .int 0), (2, .int 0)], [.ref 163])) rfl ?_
            refine xe_sn pg_71 2 (fr' := (10, [(0, .ref 163), (1, .int 0), (2, .int 0)], [])) rfl ?_
            exact xe_end pg_71 rfl
          refine xe_sn pg_31 4 (fr' := (4, [(2, .int 2), (0, .ref 154), (1, .int 0)], [.int 3, .int 2])) rfl ?_
          refine xe_sn pg_31 4 (fr' := (12, [(2, .int 2), (0, .ref 154), (1, .int 0)], [.int 2, .ref 160])) rfl ?_
          refine xe_sn pg_31 4 (fr' := (20, [(2, .int 2), (0, .ref 154), (1, .int 0)], [])) rfl ?_
          refine xe_sn pg_31 4 (fr' := (26, [(2, .int 2), (0, .ref 154), (1, .int 0)], [.ref 164])) rfl ?_
          refine xe_sn pg_31 2 (fr' := (28, [(2, .int 2), (0, .ref 154), (1, .int 0)], [.int 0, .int 0, .ref 164])) rfl ?_
          apply xe_callq pg_31 71 [.ref 164, .int 0, .int 0] (.inl none) (31, [(2, .int 2), (0, .ref 154), (1, .int 0)], []) rfl (fun _ => rfl)
          · refine xe_sn pg_71 4 (fr' := (6, [(0, .ref 164), (1, .int 0), (2, .int 0)], [.ref 164])) rfl ?_
            refine xe_sn pg_71 2 (fr' := (10, [(0, .ref 164), (1, .int 0), (2, .int 0)], [])) rfl ?_
            exact xe_end pg_71 rfl
          refine xe_sn pg_31 4 (fr' := (4, [(2, .int 3), (0, .ref 154), (1, .int 0)], [.int 3, .int 3])) rfl ?_
          refine xe_sn pg_31 1 (fr' := (37, [(2, .int 3), (0, .ref 154), (1, .int 0)], [])) rfl ?_
          exact xe_end pg_31 rfl
        refine xe_sn pg_19 4 (fr' := (16, [(0, .ref 154), (1, .int p1), (2, .int (nI e2))], [.ref 154])) rfl ?_
        refine xe_sn pg_19 2 (fr' := (18, [(0, .ref 154), (1, .int p1), (2, .int (nI e2))], [.int (nI e2), .int p1, .ref 154])) rfl ?_
        apply xe_callq pg_19 21 [.ref 154, .int p1, .int (nI e2)] (.inl none) (21, [(0, .ref 154), (1, .int p1), (2, .int (nI e2))], []) rfl (fun _ => rfl)
        · refine xe_sn pg_21 4 (fr' := (6, [(0, .ref 154), (1, .int p1), (2, .int (nI e2))], [.ref 154])) rfl ?_
          refine xe_sn pg_21 4 (fr' := (12, [(0, .ref 154), (1, .int p1), (2, .int (nI e2))], [.int (nI e2), .ref 154])) rfl ?_
          refine xe_sn pg_21 1 (fr' := (15, [(0, .ref 154), (1, .int p1), (2, .int (nI e2))], [])) rfl ?_
          exact xe_end pg_21 rfl
        refine xe_sn pg_19 4 (fr' := (27, [(0, .ref 154), (1, .int p1), (2, .int (nI e2))], [.int p1, .int 0, .ref 1])) rfl ?_
        refine xe_sn pg_19 3 (fr' := (32, [(0, .ref 154), (1, .int p1), (2, .int (nI e2))], [.int 1, .int 3, .int p1, .int 0, .ref 1])) rfl ?_
        apply xe_callq pg_19 68 [.ref 1, .int 0, .int p1, .int 3, .int 1] (.inl (some (.ref 7))) (35, [(0, .ref 154), (1, .int p1), (2, .int (nI e2))], [.ref 7]) rfl (fun _ => rfl)
        · refine xe_sn pg_68 4 (fr' := (7, [(5, .ref 3), (0, .ref 1), (1, .int 0), (2, .int p1), (3, .int 3), (4, .int 1)], [.ref 1])) rfl ?_
          refine xe_sn pg_68 4 (fr' := (16, [(5, .ref 3), (0, .ref 1), (1, .int 0), (2, .int p1), (3, .int 3), (4, .int 1)], [.ref 1])) rfl ?_
          refine xe_sn pg_68 4 (fr' := (24, [(5, .ref 3), (0, .ref 1), (1, .int 0), (2, .int p1), (3, .int 3), (4, .int 1)], [.ref 7])) rfl ?_
          refine xe_sn pg_68 4 (fr' := (31, [(5, .ref 7), (0, .ref 1), (1, .int 0), (2, .int p1), (3, .int 3), (4, .int 1)], [.int 0, .ref 1])) rfl ?_
          refine xe_sn pg_68 4 (fr' := (49, [(5, .ref 7), (0, .ref 1), (1, .int 0), (2, .int p1), (3, .int 3), (4, .int 1)], [])) rfl ?_
          refine xe_sn pg_68 4 (fr' := (54, [(5, .ref 7), (0, .ref 1), (1, .int 0), (2, .int p1), (3, .int 3), (4, .int 1)], [.int 3, .int p1, .int 0, .ref 7])) rfl ?_
          refine xe_sn pg_68 1 (fr' := (56, [(5, .ref 7), (0, .ref 1), (1, .int 0), (2, .int p1), (3, .int 3), (4, .int 1)], [.int 1, .int 3, .int p1, .int 0, .ref 7])) rfl ?_
          apply xe_callq pg_68 6 [.ref 7, .int 0, .int p1, .int 3, .int 1] (.inl none) (59, [(5, .ref 7), (0, .ref 1), (1, .int 0), (2, .int p1), (3, .int 3), (4, .int 1)], []) rfl (fun _ => rfl)
          · refine xe_sn pg_6 4 (fr' := (6, [(0, .ref 7), (1, .int 0), (2, .int p1), (3, .int 3), (4, .int 1)], [.ref 7])) rfl ?_
            refine xe_sn pg_6 4 (fr' := (12, [(0, .ref 7), (1, .int 0), (2, .int p1), (3, .int 3), (4, .int 1)], [.int 3, .ref 7])) rfl ?_
            refine xe_sn pg_6 4 (fr' := (21, [(0, .ref 7), (1, .int 0), (2, .int p1), (3, .int 3), (4, .int 1)], [])) rfl ?_
            refine xe_sn pg_6 4 (fr' := (27, [(0, .ref 7), (1, .int 0), (2, .int p1), (3, .int 3), (4, .int 1)], [.int 0])) rfl ?_
            refine xe_sn pg_6 4 (fr' := (36, [(5, .int 0), (0, .ref 7), (1, .int 0), (2, .int p1), (3, .int 3), (4, .int 1)], [])) rfl ?_
            refine xe_sn pg_6 4 (fr' := (43, [(5, .int 0), (0, .ref 7), (1, .int 0), (2, .int p1), (3, .int 3), (4, .int 1)], [.int 0, .int 0, .ref 8])) rfl ?_
            refine xe_sn pg_6 4 (fr' := (31, [(5, .int 1), (0, .ref 7), (1, .int 0), (2, .int p1), (3, .int 3), (4, .int 1)], [.int 1])) rfl ?_
            refine xe_sn pg_6 4 (fr' := (40, [(5, .int 1), (0, .ref 7), (1, .int 0), (2, .int p1), (3, .int 3), (4, .int 1)], [.ref 8])) rfl ?_
            refine xe_sn pg_6 4 (fr' := (47, [(5, .int 2), (0, .ref 7), (1, .int 0), (2, .int p1), (3, .int 3), (4, .int 1)], [])) rfl ?_
            refine xe_sn pg_6 4 (fr' := (36, [(5, .int 2), (0, .ref 7), (1, .int 0), (2, .int p1), (3, .int 3), (4, .int 1)], [])) rfl ?_
            refine xe_sn pg_6 4 (fr' := (43, [(5, .int 2), (0, .ref 7), (1, .int 0), (2, .int p1), (3, .int 3), (4, .int 1)], [.int 0, .int 2, .ref 8])) rfl ?_
            refine xe_sn pg_6 4 (fr' := (31, [(5, .int 3), (0, .ref 7), (1, .int 0), (2, .int p1), (3, .int 3), (4, .int 1)], [.int 3])) rfl ?_
            refine xe_sn pg_6 4 (fr' := (40, [(5, .int 3), (0, .ref 7), (1, .int 0), (2, .int p1), (3, .int 3), (4, .int 1)], [.ref 8])) rfl ?_
            refine xe_sn pg_6 4 (fr' := (47, [(5, .int 4), (0, .ref 7), (1, .int 0), (2, .int p1), (3, .int 3), (4, .int 1)], [])) rfl ?_
            refine xe_sn pg_6 4 (fr' := (36, [(5, .int 4), (0, .ref 7), (1, .int 0), (2, .int p1), (3, .int 3), (4, .int 1)], [])) rfl ?_
            refine xe_sn pg_6 4 (fr' := (43, [(5, .int 4), (0, .ref 7), (1, .int 0), (2, .int p1), (3, .int 3), (4, .int 1)], [.int 0, .int 4, .ref 8])) rfl ?_
            refine xe_sn pg_6 4 (fr' := (31, [(5, .int 5), (0, .ref 7), (1, .int 0), (2, .int p1), (3, .int 3), (4, .int 1)], [.int 5])) rfl ?_
            refine xe_sn pg_6 4 (fr' := (40, [(5, .int 5), (0, .ref 7), (1, .int 0), (2, .int p1), (3, .int 3), (4, .int 1)], [.ref 8])) rfl ?_
            refine xe_sn pg_6 4 (fr' := (47, [(5, .int 6), (0, .ref 7), (1, .int 0), (2, .int p1), (3, .int 3), (4, .int 1)], [])) rfl ?_
            refine xe_sn pg_6 4 (fr' := (36, [(5, .int 6), (0, .ref 7), (1, .int 0), (2, .int p1), (3, .int 3), (4, .int 1)], [])) rfl ?_
            refine xe_sn pg_6 4 (fr' := (43, [(5, .int 6), (0, .ref 7), (1, .int 0), (2, .int p1), (3, .int 3), (4, .int 1)], [.int 0, .int 6, .ref 8])) rfl ?_
            refine xe_sn pg_6 4 (fr' := (31, [(5, .int 7), (0, .ref 7), (1, .int 0), (2, .int p1), (3, .int 3), (4, .int 1)], [.int 7])) rfl ?_
            refine xe_sn pg_6 4 (fr' := (40, [(5, .int 7), (0, .ref 7), (1, .int 0), (2, .int p1), (3, .int 3), (4, .int 1)], [.ref 8])) rfl ?_
            refine xe_sn pg_6 4 (fr' := (47, [(5, .int 8), (0, .ref 7), (1, .int 0), (2, .int p1), (3, .int 3), (4, .int 1)], [])) rfl ?_
            refine xe_sn pg_6 4 (fr' := (36, [(5, .int 8), (0, .ref 7), (1, .int 0), (2, .int p1), (3, .int 3), (4, .int 1)], [])) rfl ?_
            refine xe_sn pg_6 4 (fr' := (43, [(5, .int 8), (0, .ref 7), (1, .int 0), (2, .int p1), (3, .int 3), (4, .int 1)], [.int 0, .int 8, .ref 8])) rfl ?_
            refine xe_sn pg_6 4 (fr' := (31, [(5, .int 9), (0, .ref 7), (1, .int 0), (2, .int p1), (3, .int 3), (4, .int 1)], [.int 9])) rfl ?_
            refine xe_sn pg_6 4 (fr' := (40, [(5, .int 9), (0, .ref 7), (1, .int 0), (2, .int p1), (3, .int 3), (4, .int 1)], [.ref 8])) rfl ?_
            refine xe_sn pg_6 4 (fr' := (47, [(5, .int 10), (0, .ref 7), (1, .int 0), (2, .int p1), (3, .int 3), (4, .int 1)], [])) rfl ?_
            refine xe_sn pg_6 4 (fr' := (36, [(5, .int 10), (0, .ref 7), (1, .int 0), (2, .int p1), (3, .int 3), (4, .int 1)], [])) rfl ?_
            refine xe_sn pg_6 4 (fr' := (43, [(5, .int 10), (0, .ref 7), (1, .int 0), (2, .int p1), (3, .int 3), (4, .int 1)], [.int 0, .int 10, .ref 8])) rfl ?_
            refine xe_sn pg_6 4 (fr' := (31, [(5, .int 11), (0, .ref 7), (1, .int 0), (2, .int p1), (3, .int 3), (4, .int 1)], [.int 11])) rfl ?_
            refine xe_sn pg_6 4 (fr' := (40, [(5, .int 11), (0, .ref 7), (1, .int 0), (2, .int p1), (3, .int 3), (4, .int 1)], [.ref 8])) rfl ?_
            refine xe_sn pg_6 4 (fr' := (47, [(5, .int 12), (0, .ref 7), (1, .int 0), (2, .int p1), (3, .int 3), (4, .int 1)], [])) rfl ?_
            refine xe_sn pg_6 4 (fr' := (36, [(5, .int 12), (0, .ref 7), (1, .int 0), (2, .int p1), (3, .int 3), (4, .int 1)], [])) rfl ?_
            refine xe_sn pg_6 4 (fr' := (43, [(5, .int 12), (0, .ref 7), (1, .int 0), (2, .int p1), (3, .int 3), (4, .int 1)], [.int 0, .int 12, .ref 8])) rfl ?_
            refine xe_sn pg_6 4 (fr' := (31, [(5, .int 13), (0, .ref 7), (1, .int 0), (2, .int p1), (3, .int 3), (4, .int 1)], [.int 13])) rfl ?_
            refine xe_sn pg_6 4 (fr' := (40, [(5, .int 13), (0, .ref 7), (1, .int 0), (2, .int p1), (3, .int 3), (4, .int 1)], [.ref 8])) rfl ?_
            refine xe_sn pg_6 4 (fr' := (47, [(5, .int 14), (0, .ref 7), (1, .int 0), (2, .int p1), (3, .int 3), (4, .int 1)], [])) rfl ?_
            refine xe_sn pg_6 4 (fr' := (50, [(5, .int 14), (0, .ref 7), (1, .int 0), (2, .int p1), (3, .int 3), (4, .int 1)], [])) rfl ?_
            exact xe_end pg_6 rfl
          refine xe_sn pg_68 1 (fr' := (61, [(5, .ref 7), (0, .ref 1), (1, .int 0), (2, .int p1), (3, .int 3), (4, .int 1)], [.ref 7])) rfl ?_
          exact xe_end pg_68 rfl
        refine xe_sn pg_19 3 (fr' := (39, [(0, .ref 154), (1, .int p1), (2, .int (nI e2))], [.int (nI e2), .int 17, .int 0, .ref 7])) rfl ?_
        apply xe_callq pg_19 0 [.int 17, .int (nI e2)] (.inl (some (.int (nI (17 ^ e2 % 65521))))) (42, [(0, .ref 154), (1, .int p1), (2, .int (nI e2))], [.int (nI (17 ^ e2 % 65521)), .int 0, .ref 7]) rfl (fun _ => rfl)
        · exact c_raise _ (a := 17) (e := e2) (by omega) (by omega) _
        apply xe_callq pg_19 10 [.ref 7, .int 0, .int (nI (17 ^ e2 % 65521))] (.inl none) (45, [(0, .ref 154), (1, .int p1), (2, .int (nI e2))], []) rfl (fun _ => rfl)
        · refine xe_sn pg_10 4 (fr' := (6, [(0, .ref 7), (1, .int 0), (2, .int (nI (17 ^ e2 % 65521)))], [.int (nI (17 ^ e2 % 65521)), .int 0, .ref 8])) rfl ?_
          refine xe_sn pg_10 4 (fr' := (13, [(0, .ref 7), (1, .int 0), (2, .int (nI (17 ^ e2 % 65521)))], [.int (((((nI (17 ^ e2 % 65521))).toUInt32 >>> ((8 : Int32).toUInt32 &&& Int32.toUInt32 31)).toInt32) &&& 255), .int 0, .ref 8])) rfl ?_
          refine xe_sn pg_10 4 (fr' := (19, [(0, .ref 7), (1, .int 0), (2, .int (nI (17 ^ e2 % 65521)))], [.int 0, .ref 8])) rfl ?_
          refine xe_sn pg_10 4 (fr' := (25, [(0, .ref 7), (1, .int 0), (2, .int (nI (17 ^ e2 % 65521)))], [.int 255, .int (nI (17 ^ e2 % 65521)), .int 1, .ref 8])) rfl ?_
          refine xe_sn pg_10 2 (fr' := (27, [(0, .ref 7), (1, .int 0), (2, .int (nI (17 ^ e2 % 65521)))], [])) rfl ?_
          exact xe_end pg_10 rfl
        exact xe_end pg_19 rfl
      refine xe_sn pg_74 3 (fr' := (50, [(4, .ref 154), (0, .ref 0), (1, .int 3), (2, .int p1), (3, .int (nI e2))], [.int 1])) rfl ?_
      exact xe_end pg_74 rfl
    refine xe_sn pg_161 4 (fr' := (28, [(0, .ref 0), (1, .int 3), (2, .int p1), (3, .int (nI e2)), (4, .ref 189)], [.int 0])) rfl ?_
    exact xe_end pg_161 rfl
  refine And.intro ⟨rfl, rfl, rfl, rfl⟩ ?_
  apply And.intro
  · refine xe_sn pg_140 2 (fr' := (2, [(0, .ref 165), (1, .int 3), (2, .int p1), (3, .int (nI e2))], [.int 3, .ref 165])) rfl ?_
    apply xe_callq pg_140 104 [.int 3] (.inl (some (.int 1))) (5, [(0, .ref 165), (1, .int 3), (2, .int p1), (3, .int (nI e2))], [.int 1, .ref 165]) rfl (fun _ => rfl)
    · refine xe_sn pg_104 3 (fr' := (3, [(0, .int 3)], [.int 3, .int 0, .int 3])) rfl ?_
      apply xe_callq pg_104 103 [.int 3, .int 0, .int 3] (.inl (some (.int 1))) (6, [(0, .int 3)], [.int 1]) rfl (fun _ => rfl)
      · refine xe_sn pg_103 4 (fr' := (6, [(0, .int 3), (1, .int 0), (2, .int 3)], [.int 3])) rfl ?_
        refine xe_sn pg_103 4 (fr' := (15, [(0, .int 3), (1, .int 0), (2, .int 3)], [.int 1])) rfl ?_
        exact xe_end pg_103 rfl
      exact xe_end pg_104 rfl
    refine xe_sn pg_140 2 (fr' := (9, [(0, .ref 165), (1, .int 3), (2, .int p1), (3, .int (nI e2))], [.int p1, .ref 165])) rfl ?_
    apply xe_callq pg_140 105 [.int p1] (.inl (some (.int 1))) (12, [(0, .ref 165), (1, .int 3), (2, .int p1), (3, .int (nI e2))], [.int 1, .ref 165]) rfl (fun _ => rfl)
    · refine xe_sn pg_105 3 (fr' := (3, [(0, .int p1)], [.int 4, .int 1, .int p1])) rfl ?_
      apply xe_callq pg_105 103 [.int p1, .int 1, .int 4] (.inl (some (.int 1))) (6, [(0, .int p1)], [.int 1]) rfl (fun _ => rfl)
      · refine xe_sn pg_103 2 (fr' := (2, [(0, .int p1), (1, .int 1), (2, .int 4)], [.int 1, .int p1])) rfl ?_
        refine xe_f2 pg_103 14 rfl rfl (by show ¬ ((p1).toInt < 1); omega) ?_
        refine xe_sn pg_103 2 (fr' := (7, [(0, .int p1), (1, .int 1), (2, .int 4)], [.int 4, .int p1])) rfl ?_
        refine xe_f2 pg_103 14 rfl rfl (by show ¬ (4 < (p1).toInt); omega) ?_
        refine xe_sn pg_103 2 (fr' := (15, [(0, .int p1), (1, .int 1), (2, .int 4)], [.int 1])) rfl ?_
        exact xe_end pg_103 rfl
      exact xe_end pg_105 rfl
    refine xe_sn pg_140 4 (fr' := (23, [(0, .ref 165), (1, .int 3), (2, .int p1), (3, .int (nI e2))], [.int 65519, .int 1, .int (nI e2), .ref 165])) rfl ?_
    apply xe_callq pg_140 103 [.int (nI e2), .int 1, .int 65519] (.inl (some (.int 1))) (26, [(0, .ref 165), (1, .int 3), (2, .int p1), (3, .int (nI e2))], [.int 1, .ref 165]) rfl (fun _ => rfl)
    · refine xe_sn pg_103 2 (fr' := (2, [(0, .int (nI e2)), (1, .int 1), (2, .int 65519)], [.int 1, .int (nI e2)])) rfl ?_
      refine xe_f2 pg_103 14 rfl rfl (by show ¬ (((nI e2)).toInt < 1); rw [nI_toInt (n := e2) (by omega)]; omega) ?_
      refine xe_sn pg_103 2 (fr' := (7, [(0, .int (nI e2)), (1, .int 1), (2, .int 65519)], [.int 65519, .int (nI e2)])) rfl ?_
      refine xe_f2 pg_103 14 rfl rfl (by show ¬ (65519 < ((nI e2)).toInt); rw [nI_toInt (n := e2) (by omega)]; omega) ?_
      refine xe_sn pg_103 2 (fr' := (15, [(0, .int (nI e2)), (1, .int 1), (2, .int 65519)], [.int 1])) rfl ?_
      exact xe_end pg_103 rfl
    refine xe_sn pg_140 3 (fr' := (35, [(0, .ref 165), (1, .int 3), (2, .int p1), (3, .int (nI e2))], [.int 3, .ref 165, .ref 165])) rfl ?_
    apply xe_callq pg_140 145 [.ref 165, .int 3] (.inl (some (.int 0))) (38, [(0, .ref 165), (1, .int 3), (2, .int p1), (3, .int (nI e2))], [.int 0, .ref 165]) rfl (fun _ => rfl)
    · refine xe_sn pg_145 4 (fr' := (6, [(0, .ref 165), (1, .int 3)], [.int 0])) rfl ?_
      refine xe_sn pg_145 4 (fr' := (14, [(0, .ref 165), (1, .int 3)], [.ref 167])) rfl ?_
      refine xe_sn pg_145 4 (fr' := (24, [(0, .ref 165), (1, .int 3)], [])) rfl ?_
      refine xe_sn pg_145 1 (fr' := (25, [(0, .ref 165), (1, .int 3)], [.int 0])) rfl ?_
      exact xe_end pg_145 rfl
    refine xe_sn pg_140 4 (fr' := (50, [(0, .ref 165), (1, .int 3), (2, .int p1), (3, .int (nI e2))], [.ref 165])) rfl ?_
    refine xe_sn pg_140 4 (fr' := (62, [(0, .ref 165), (1, .int 3), (2, .int p1), (3, .int (nI e2))], [.ref 168])) rfl ?_
    refine xe_sn pg_140 4 (fr' := (66, [(0, .ref 165), (1, .int 3), (2, .int p1), (3, .int (nI e2))], [.ref 165])) rfl ?_
    refine xe_sn pg_140 2 (fr' := (68, [(0, .ref 165), (1, .int 3), (2, .int p1), (3, .int (nI e2))], [.int 0, .int 3, .ref 165])) rfl ?_
    apply xe_callq pg_140 120 [.ref 165, .int 3, .int 0] (.inl none) (71, [(0, .ref 165), (1, .int 3), (2, .int p1), (3, .int (nI e2))], []) rfl (fun _ => rfl)
    · refine xe_sn pg_120 4 (fr' := (4, [(3, .int 9), (0, .ref 165), (1, .int 3), (2, .int 0)], [])) rfl ?_
      refine xe_sn pg_120 4 (fr' := (8, [(3, .int 9), (0, .ref 165), (1, .int 3), (2, .int 0)], [.int 9, .int 9])) rfl ?_
      refine xe_sn pg_120 4 (fr' := (14, [(3, .int 9), (0, .ref 165), (1, .int 3), (2, .int 0)], [.ref 165])) rfl ?_
      refine xe_sn pg_120 4 (fr' := (20, [(3, .int 9), (0, .ref 165), (1, .int 3), (2, .int 0)], [.int 0, .int 0])) rfl ?_
      refine xe_sn pg_120 4 (fr' := (28, [(3, .int 9), (0, .ref 165), (1, .int 3), (2, .int 0)], [.int 9, .ref 173])) rfl ?_
      refine xe_sn pg_120 4 (fr' := (34, [(3, .int 9), (0, .ref 165), (1, .int 3), (2, .int 0)], [.ref 175])) rfl ?_
      refine xe_sn pg_120 4 (fr' := (40, [(3, .int 10), (0, .ref 165), (1, .int 3), (2, .int 0)], [])) rfl ?_
      refine xe_sn pg_120 4 (fr' := (7, [(3, .int 10), (0, .ref 165), (1, .int 3), (2, .int 0)], [.int 3, .int 3, .int 10])) rfl ?_
      refine xe_sn pg_120 4 (fr' := (13, [(3, .int 10), (0, .ref 165), (1, .int 3), (2, .int 0)], [])) rfl ?_
      refine xe_sn pg_120 4 (fr' := (19, [(3, .int 10), (0, .ref 165), (1, .int 3), (2, .int 0)], [.int 0])) rfl ?_
      refine xe_sn pg_120 4 (fr' := (27, [(3, .int 10), (0, .ref 165), (1, .int 3), (2, .int 0)], [.ref 173])) rfl ?_
      refine xe_sn pg_120 4 (fr' := (31, [(3, .int 10), (0, .ref 165), (1, .int 3), (2, .int 0)], [.ref 165])) rfl ?_
      refine xe_sn pg_120 4 (fr' := (37, [(3, .int 10), (0, .ref 165), (1, .int 3), (2, .int 0)], [])) rfl ?_
      refine xe_sn pg_120 4 (fr' := (6, [(3, .int 11), (0, .ref 165), (1, .int 3), (2, .int 0)], [.int 3, .int 11])) rfl ?_
      refine xe_sn pg_120 4 (fr' := (10, [(3, .int 11), (0, .ref 165), (1, .int 3), (2, .int 0)], [.int 12, .int 11])) rfl ?_
      refine xe_sn pg_120 4 (fr' := (18, [(3, .int 11), (0, .ref 165), (1, .int 3), (2, .int 0)], [.int 11, .ref 174])) rfl ?_
      refine xe_sn pg_120 4 (fr' := (24, [(3, .int 11), (0, .ref 165), (1, .int 3), (2, .int 0)], [.ref 165])) rfl ?_
      refine xe_sn pg_120 4 (fr' := (30, [(3, .int 11), (0, .ref 165), (1, .int 3), (2, .int 0)], [])) rfl ?_
      refine xe_sn pg_120 4 (fr' := (36, [(3, .int 11), (0, .ref 165), (1, .int 3), (2, .int 0)], [.int 0, .int 11, .ref 175])) rfl ?_
      refine xe_sn pg_120 4 (fr' := (5, [(3, .int 12), (0, .ref 165), (1, .int 3), (2, .int 0)], [.int 12])) rfl ?_
      refine xe_sn pg_120 4 (fr' := (9, [(3, .int 12), (0, .ref 165), (1, .int 3), (2, .int 0)], [.int 3, .int 9, .int 12])) rfl ?_
      refine xe_sn pg_120 2 (fr' := (43, [(3, .int 12), (0, .ref 165), (1, .int 3), (2, .int 0)], [])) rfl ?_
      exact xe_end pg_120 rfl
    refine xe_sn pg_140 4 (fr' := (77, [(0, .ref 165), (1, .int 3), (2, .int p1), (3, .int (nI e2))], [.int 0, .int 3, .ref 176])) rfl ?_
    refine xe_sn pg_140 4 (fr' := (83, [(0, .ref 165), (1, .int 3), (2, .int p1), (3, .int (nI e2))], [.int 3, .ref 171])) rfl ?_
    refine xe_sn pg_140 4 (fr' := (89, [(0, .ref 165), (1, .int 3), (2, .int p1), (3, .int (nI e2))], [.ref 172])) rfl ?_
    refine xe_sn pg_140 4 (fr' := (93, [(0, .ref 165), (1, .int 3), (2, .int p1), (3, .int (nI e2))], [.ref 165])) rfl ?_
    refine xe_sn pg_140 4 (fr' := (99, [(0, .ref 165), (1, .int 3), (2, .int p1), (3, .int (nI e2))], [])) rfl ?_
    refine xe_sn pg_140 1 (fr' := (100, [(0, .ref 165), (1, .int 3), (2, .int p1), (3, .int (nI e2))], [.ref 165])) rfl ?_
    apply xe_callq pg_140 113 [.ref 165] (.inl none) (103, [(0, .ref 165), (1, .int 3), (2, .int p1), (3, .int (nI e2))], []) rfl (fun _ => rfl)
    · refine xe_sn pg_113 4 (fr' := (5, [(1, .int 0), (0, .ref 165)], [.int 14, .int 0])) rfl ?_
      refine xe_sn pg_113 4 (fr' := (13, [(1, .int 0), (0, .ref 165)], [.int 0, .ref 187])) rfl ?_
      refine xe_sn pg_113 4 (fr' := (2, [(1, .int 1), (0, .ref 165)], [])) rfl ?_
      refine xe_sn pg_113 4 (fr' := (9, [(1, .int 1), (0, .ref 165)], [.ref 165])) rfl ?_
      refine xe_sn pg_113 4 (fr' := (15, [(1, .int 1), (0, .ref 165)], [])) rfl ?_
      refine xe_sn pg_113 4 (fr' := (5, [(1, .int 2), (0, .ref 165)], [.int 14, .int 2])) rfl ?_
      refine xe_sn pg_113 4 (fr' := (13, [(1, .int 2), (0, .ref 165)], [.int 2, .ref 187])) rfl ?_
      refine xe_sn pg_113 4 (fr' := (2, [(1, .int 3), (0, .ref 165)], [])) rfl ?_
      refine xe_sn pg_113 4 (fr' := (9, [(1, .int 3), (0, .ref 165)], [.ref 165])) rfl ?_
      refine xe_sn pg_113 4 (fr' := (15, [(1, .int 3), (0, .ref 165)], [])) rfl ?_
      refine xe_sn pg_113 4 (fr' := (5, [(1, .int 4), (0, .ref 165)], [.int 14, .int 4])) rfl ?_
      refine xe_sn pg_113 4 (fr' := (13, [(1, .int 4), (0, .ref 165)], [.int 4, .ref 187])) rfl ?_
      refine xe_sn pg_113 4 (fr' := (2, [(1, .int 5), (0, .ref 165)], [])) rfl ?_
      refine xe_sn pg_113 4 (fr' := (9, [(1, .int 5), (0, .ref 165)], [.ref 165])) rfl ?_
      refine xe_sn pg_113 4 (fr' := (15, [(1, .int 5), (0, .ref 165)], [])) rfl ?_
      refine xe_sn pg_113 4 (fr' := (5, [(1, .int 6), (0, .ref 165)], [.int 14, .int 6])) rfl ?_
      refine xe_sn pg_113 4 (fr' := (13, [(1, .int 6), (0, .ref 165)], [.int 6, .ref 187])) rfl ?_
      refine xe_sn pg_113 4 (fr' := (2, [(1, .int 7), (0, .ref 165)], [])) rfl ?_
      refine xe_sn pg_113 4 (fr' := (9, [(1, .int 7), (0, .ref 165)], [.ref 165])) rfl ?_
      refine xe_sn pg_113 4 (fr' := (15, [(1, .int 7), (0, .ref 165)], [])) rfl ?_
      refine xe_sn pg_113 4 (fr' := (5, [(1, .int 8), (0, .ref 165)], [.int 14, .int 8])) rfl ?_
      refine xe_sn pg_113 4 (fr' := (13, [(1, .int 8), (0, .ref 165)], [.int 8, .ref 187])) rfl ?_
      refine xe_sn pg_113 4 (fr' := (2, [(1, .int 9), (0, .ref 165)], [])) rfl ?_
      refine xe_sn pg_113 4 (fr' := (9, [(1, .int 9), (0, .ref 165)], [.ref 165])) rfl ?_
      refine xe_sn pg_113 4 (fr' := (15, [(1, .int 9), (0, .ref 165)], [])) rfl ?_
      refine xe_sn pg_113 4 (fr' := (5, [(1, .int 10), (0, .ref 165)], [.int 14, .int 10])) rfl ?_
      refine xe_sn pg_113 4 (fr' := (13, [(1, .int 10), (0, .ref 165)], [.int 10, .ref 187])) rfl ?_
      refine xe_sn pg_113 4 (fr' := (2, [(1, .int 11), (0, .ref 165)], [])) rfl ?_
      refine xe_sn pg_113 4 (fr' := (9, [(1, .int 11), (0, .ref 165)], [.ref 165])) rfl ?_
      refine xe_sn pg_113 4 (fr' := (15, [(1, .int 11), (0, .ref 165)], [])) rfl ?_
      refine xe_sn pg_113 4 (fr' := (5, [(1, .int 12), (0, .ref 165)], [.int 14, .int 12])) rfl ?_
      refine xe_sn pg_113 4 (fr' := (13, [(1, .int 12), (0, .ref 165)], [.int 12, .ref 187])) rfl ?_
      refine xe_sn pg_113 4 (fr' := (2, [(1, .int 13), (0, .ref 165)], [])) rfl ?_
      refine xe_sn pg_113 4 (fr' := (9, [(1, .int 13), (0, .ref 165)], [.ref 165])) rfl ?_
      refine xe_sn pg_113 4 (fr' := (15, [(1, .int 13), (0, .ref 165)], [])) rfl ?_
      refine xe_sn pg_113 4 (fr' := (5, [(1, .int 14), (0, .ref 165)], [.int 14, .int 14])) rfl ?_
      refine xe_sn pg_113 1 (fr' := (21, [(1, .int 14), (0, .ref 165)], [])) rfl ?_
      exact xe_end pg_113 rfl
    refine xe_sn pg_140 4 (fr' := (108, [(0, .ref 165), (1, .int 3), (2, .int p1), (3, .int (nI e2))], [.int (nI e2), .int 17, .int 0, .ref 165])) rfl ?_
    apply xe_callq pg_140 106 [.int 17, .int (nI e2)] (.inl (some (.int (nI (17 ^ e2 % 65521))))) (111, [(0, .ref 165), (1, .int 3), (2, .int p1), (3, .int (nI e2))], [.int (nI (17 ^ e2 % 65521)), .int 0, .ref 165]) rfl (fun _ => rfl)
    · exact m_raise _ (a := 17) (e := e2) (by omega) (by omega) _
    apply xe_callq pg_140 112 [.ref 165, .int 0, .int (nI (17 ^ e2 % 65521))] (.inl none) (114, [(0, .ref 165), (1, .int 3), (2, .int p1), (3, .int (nI e2))], []) rfl (fun _ => rfl)
    · refine xe_sn pg_112 4 (fr' := (6, [(0, .ref 165), (1, .int 0), (2, .int (nI (17 ^ e2 % 65521)))], [.int (nI (17 ^ e2 % 65521)), .int 0, .ref 187])) rfl ?_
      refine xe_sn pg_112 4 (fr' := (11, [(0, .ref 165), (1, .int 0), (2, .int (nI (17 ^ e2 % 65521)))], [.ref 165])) rfl ?_
      refine xe_sn pg_112 4 (fr' := (17, [(0, .ref 165), (1, .int 0), (2, .int (nI (17 ^ e2 % 65521)))], [.int 1, .ref 187])) rfl ?_
      refine xe_sn pg_112 4 (fr' := (23, [(0, .ref 165), (1, .int 0), (2, .int (nI (17 ^ e2 % 65521)))], [])) rfl ?_
      exact xe_end pg_112 rfl
    refine xe_sn pg_140 4 (fr' := (118, [(0, .ref 165), (1, .int 3), (2, .int p1), (3, .int (nI e2))], [.int 3, .int p1, .int 0, .ref 165])) rfl ?_
    refine xe_sn pg_140 2 (fr' := (120, [(0, .ref 165), (1, .int 3), (2, .int p1), (3, .int (nI e2))], [.int 0, .int 1, .int 3, .int p1, .int 0, .ref 165])) rfl ?_
    apply xe_callq pg_140 117 [.ref 165, .int 0, .int p1, .int 3, .int 1, .int 0] (.inl none) (123, [(0, .ref 165), (1, .int 3), (2, .int p1), (3, .int (nI e2))], []) rfl (fun _ => rfl)
    · refine xe_sn pg_117 4 (fr' := (20, [(0, .ref 165), (1, .int 0), (2, .int p1), (3, .int 3), (4, .int 1), (5, .int 0)], [])) rfl ?_
      refine xe_sn pg_117 4 (fr' := (27, [(0, .ref 165), (1, .int 0), (2, .int p1), (3, .int 3), (4, .int 1), (5, .int 0)], [.int 0])) rfl ?_
      refine xe_sn pg_117 4 (fr' := (35, [(6, .int 0), (0, .ref 165), (1, .int 0), (2, .int p1), (3, .int 3), (4, .int 1), (5, .int 0)], [.int 0, .ref 166])) rfl ?_
      refine xe_sn pg_117 4 (fr' := (41, [(6, .int 0), (0, .ref 165), (1, .int 0), (2, .int p1), (3, .int 3), (4, .int 1), (5, .int 0)], [.ref 166])) rfl ?_
      refine xe_sn pg_117 4 (fr' := (46, [(6, .int 0), (0, .ref 165), (1, .int 0), (2, .int p1), (3, .int 3), (4, .int 1), (5, .int 0)], [.int p1, .int 1, .ref 166])) rfl ?_
      refine xe_sn pg_117 4 (fr' := (53, [(6, .int 0), (0, .ref 165), (1, .int 0), (2, .int p1), (3, .int 3), (4, .int 1), (5, .int 0)], [.int 0, .ref 166])) rfl ?_
      refine xe_sn pg_117 4 (fr' := (57, [(6, .int 0), (0, .ref 165), (1, .int 0), (2, .int p1), (3, .int 3), (4, .int 1), (5, .int 0)], [])) rfl ?_
      refine xe_sn pg_117 4 (fr' := (64, [(6, .int 0), (0, .ref 165), (1, .int 0), (2, .int p1), (3, .int 3), (4, .int 1), (5, .int 0)], [.int 3, .int 0, .ref 166])) rfl ?_
      refine xe_sn pg_117 4 (fr' := (69, [(6, .int 0), (0, .ref 165), (1, .int 0), (2, .int p1), (3, .int 3), (4, .int 1), (5, .int 0)], [.int 0])) rfl ?_
      refine xe_sn pg_117 4 (fr' := (78, [(7, .int 0), (6, .int 0), (0, .ref 165), (1, .int 0), (2, .int p1), (3, .int 3), (4, .int 1), (5, .int 0)], [])) rfl ?_
      refine xe_sn pg_117 4 (fr' := (85, [(7, .int 0), (6, .int 0), (0, .ref 165), (1, .int 0), (2, .int p1), (3, .int 3), (4, .int 1), (5, .int 0)], [.int 4, .int 0, .ref 166])) rfl ?_
      refine xe_sn pg_117 4 (fr' := (90, [(7, .int 0), (6, .int 0), (0, .ref 165), (1, .int 0), (2, .int p1), (3, .int 3), (4, .int 1), (5, .int 0)], [.ref 165, .int 4, .ref 166])) rfl ?_
      refine xe_sn pg_117 4 (fr' := (97, [(7, .int 0), (6, .int 0), (0, .ref 165), (1, .int 0), (2, .int p1), (3, .int 3), (4, .int 1), (5, .int 0)], [])) rfl ?_
      refine xe_sn pg_117 4 (fr' := (75, [(7, .int 1), (6, .int 0), (0, .ref 165), (1, .int 0), (2, .int p1), (3, .int 3), (4, .int 1), (5, .int 0)], [.int 14, .int 1])) rfl ?_
      refine xe_sn pg_117 4 (fr' := (84, [(7, .int 1), (6, .int 0), (0, .ref 165), (1, .int 0), (2, .int p1), (3, .int 3), (4, .int 1), (5, .int 0)], [.int 0, .ref 166])) rfl ?_
      refine xe_sn pg_117 4 (fr' := (89, [(7, .int 1), (6, .int 0), (0, .ref 165), (1, .int 0), (2, .int p1), (3, .int 3), (4, .int 1), (5, .int 0)], [.int 5, .ref 166])) rfl ?_
      refine xe_sn pg_117 4 (fr' := (96, [(7, .int 1), (6, .int 0), (0, .ref 165), (1, .int 0), (2, .int p1), (3, .int 3), (4, .int 1), (5, .int 0)], [.int ((nI (17 ^ e2 % 65521)) &&& 255), .int 5, .ref 166])) rfl ?_
      refine xe_sn pg_117 4 (fr' := (73, [(7, .int 2), (6, .int 0), (0, .ref 165), (1, .int 0), (2, .int p1), (3, .int 3), (4, .int 1), (5, .int 0)], [.int 2])) rfl ?_
      refine xe_sn pg_117 4 (fr' := (82, [(7, .int 2), (6, .int 0), (0, .ref 165), (1, .int 0), (2, .int p1), (3, .int 3), (4, .int 1), (5, .int 0)], [.ref 166])) rfl ?_
      refine xe_sn pg_117 4 (fr' := (88, [(7, .int 2), (6, .int 0), (0, .ref 165), (1, .int 0), (2, .int p1), (3, .int 3), (4, .int 1), (5, .int 0)], [.int 2, .int 4, .ref 166])) rfl ?_
      refine xe_sn pg_117 4 (fr' := (95, [(7, .int 2), (6, .int 0), (0, .ref 165), (1, .int 0), (2, .int p1), (3, .int 3), (4, .int 1), (5, .int 0)], [.int 2, .ref 187, .int 6, .ref 166])) rfl ?_
      refine xe_sn pg_117 4 (fr' := (71, [(7, .int 3), (6, .int 0), (0, .ref 165), (1, .int 0), (2, .int p1), (3, .int 3), (4, .int 1), (5, .int 0)], [])) rfl ?_
      refine xe_sn pg_117 4 (fr' := (79, [(7, .int 3), (6, .int 0), (0, .ref 165), (1, .int 0), (2, .int p1), (3, .int 3), (4, .int 1), (5, .int 0)], [.ref 165])) rfl ?_
      refine xe_sn pg_117 4 (fr' := (86, [(7, .int 3), (6, .int 0), (0, .ref 165), (1, .int 0), (2, .int p1), (3, .int 3), (4, .int 1), (5, .int 0)], [.int 4, .ref 166])) rfl ?_
      refine xe_sn pg_117 4 (fr' := (93, [(7, .int 3), (6, .int 0), (0, .ref 165), (1, .int 0), (2, .int p1), (3, .int 3), (4, .int 1), (5, .int 0)], [.ref 187, .int 7, .ref 166])) rfl ?_
      refine xe_sn pg_117 4 (fr' := (100, [(7, .int 4), (6, .int 0), (0, .ref 165), (1, .int 0), (2, .int p1), (3, .int 3), (4, .int 1), (5, .int 0)], [])) rfl ?_
      refine xe_sn pg_117 4 (fr' := (78, [(7, .int 4), (6, .int 0), (0, .ref 165), (1, .int 0), (2, .int p1), (3, .int 3), (4, .int 1), (5, .int 0)], [])) rfl ?_
      refine xe_sn pg_117 4 (fr' := (85, [(7, .int 4), (6, .int 0), (0, .ref 165), (1, .int 0), (2, .int p1), (3, .int 3), (4, .int 1), (5, .int 0)], [.int 4, .int 0, .ref 166])) rfl ?_
      refine xe_sn pg_117 4 (fr' := (90, [(7, .int 4), (6, .int 0), (0, .ref 165), (1, .int 0), (2, .int p1), (3, .int 3), (4, .int 1), (5, .int 0)], [.ref 165, .int 8, .ref 166])) rfl ?_
      refine xe_sn pg_117 4 (fr' := (97, [(7, .int 4), (6, .int 0), (0, .ref 165), (1, .int 0), (2, .int p1), (3, .int 3), (4, .int 1), (5, .int 0)], [])) rfl ?_
      refine xe_sn pg_117 4 (fr' := (75, [(7, .int 5), (6, .int 0), (0, .ref 165), (1, .int 0), (2, .int p1), (3, .int 3), (4, .int 1), (5, .int 0)], [.int 14, .int 5])) rfl ?_
      refine xe_sn pg_117 4 (fr' := (84, [(7, .int 5), (6, .int 0), (0, .ref 165), (1, .int 0), (2, .int p1), (3, .int 3), (4, .int 1), (5, .int 0)], [.int 0, .ref 166])) rfl ?_
      refine xe_sn pg_117 4 (fr' := (89, [(7, .int 5), (6, .int 0), (0, .ref 165), (1, .int 0), (2, .int p1), (3, .int 3), (4, .int 1), (5, .int 0)], [.int 9, .ref 166])) rfl ?_
      refine xe_sn pg_117 4 (fr' := (96, [(7, .int 5), (6, .int 0), (0, .ref 165), (1, .int 0), (2, .int p1), (3, .int 3), (4, .int 1), (5, .int 0)], [.int 0, .int 9, .ref 166])) rfl ?_
      refine xe_sn pg_117 4 (fr' := (73, [(7, .int 6), (6, .int 0), (0, .ref 165), (1, .int 0), (2, .int p1), (3, .int 3), (4, .int 1), (5, .int 0)], [.int 6])) rfl ?_
      refine xe_sn pg_117 4 (fr' := (82, [(7, .int 6), (6, .int 0), (0, .ref 165), (1, .int 0), (2, .int p1), (3, .int 3), (4, .int 1), (5, .int 0)], [.ref 166])) rfl ?_
      refine xe_sn pg_117 4 (fr' := (88, [(7, .int 6), (6, .int 0), (0, .ref 165), (1, .int 0), (2, .int p1), (3, .int 3), (4, .int 1), (5, .int 0)], [.int 6, .int 4, .ref 166])) rfl ?_
      refine xe_sn pg_117 4 (fr' := (95, [(7, .int 6), (6, .int 0), (0, .ref 165), (1, .int 0), (2, .int p1), (3, .int 3), (4, .int 1), (5, .int 0)], [.int 6, .ref 187, .int 10, .ref 166])) rfl ?_
      refine xe_sn pg_117 4 (fr' := (71, [(7, .int 7), (6, .int 0), (0, .ref 165), (1, .int 0), (2, .int p1), (3, .int 3), (4, .int 1), (5, .int 0)], [])) rfl ?_
      refine xe_sn pg_117 4 (fr' := (79, [(7, .int 7), (6, .int 0), (0, .ref 165), (1, .int 0), (2, .int p1), (3, .int 3), (4, .int 1), (5, .int 0)], [.ref 165])) rfl ?_
      refine xe_sn pg_117 4 (fr' := (86, [(7, .int 7), (6, .int 0), (0, .ref 165), (1, .int 0), (2, .int p1), (3, .int 3), (4, .int 1), (5, .int 0)], [.int 4, .ref 166])) rfl ?_
      refine xe_sn pg_117 4 (fr' := (93, [(7, .int 7), (6, .int 0), (0, .ref 165), (1, .int 0), (2, .int p1), (3, .int 3), (4, .int 1), (5, .int 0)], [.ref 187, .int 11, .ref 166])) rfl ?_
      refine xe_sn pg_117 4 (fr' := (100, [(7, .int 8), (6, .int 0), (0, .ref 165), (1, .int 0), (2, .int p1), (3, .int 3), (4, .int 1), (5, .int 0)], [])) rfl ?_
      refine xe_sn pg_117 4 (fr' := (78, [(7, .int 8), (6, .int 0), (0, .ref 165), (1, .int 0), (2, .int p1), (3, .int 3), (4, .int 1), (5, .int 0)], [])) rfl ?_
      refine xe_sn pg_117 4 (fr' := (85, [(7, .int 8), (6, .int 0), (0, .ref 165), (1, .int 0), (2, .int p1), (3, .int 3), (4, .int 1), (5, .int 0)], [.int 4, .int 0, .ref 166])) rfl ?_
      refine xe_sn pg_117 4 (fr' := (90, [(7, .int 8), (6, .int 0), (0, .ref 165), (1, .int 0), (2, .int p1), (3, .int 3), (4, .int 1), (5, .int 0)], [.ref 165, .int 12, .ref 166])) rfl ?_
      refine xe_sn pg_117 4 (fr' := (97, [(7, .int 8), (6, .int 0), (0, .ref 165), (1, .int 0), (2, .int p1), (3, .int 3), (4, .int 1), (5, .int 0)], [])) rfl ?_
      refine xe_sn pg_117 4 (fr' := (75, [(7, .int 9), (6, .int 0), (0, .ref 165), (1, .int 0), (2, .int p1), (3, .int 3), (4, .int 1), (5, .int 0)], [.int 14, .int 9])) rfl ?_
      refine xe_sn pg_117 4 (fr' := (84, [(7, .int 9), (6, .int 0), (0, .ref 165), (1, .int 0), (2, .int p1), (3, .int 3), (4, .int 1), (5, .int 0)], [.int 0, .ref 166])) rfl ?_
      refine xe_sn pg_117 4 (fr' := (89, [(7, .int 9), (6, .int 0), (0, .ref 165), (1, .int 0), (2, .int p1), (3, .int 3), (4, .int 1), (5, .int 0)], [.int 13, .ref 166])) rfl ?_
      refine xe_sn pg_117 4 (fr' := (96, [(7, .int 9), (6, .int 0), (0, .ref 165), (1, .int 0), (2, .int p1), (3, .int 3), (4, .int 1), (5, .int 0)], [.int 0, .int 13, .ref 166])) rfl ?_
      refine xe_sn pg_117 4 (fr' := (73, [(7, .int 10), (6, .int 0), (0, .ref 165), (1, .int 0), (2, .int p1), (3, .int 3), (4, .int 1), (5, .int 0)], [.int 10])) rfl ?_
      refine xe_sn pg_117 4 (fr' := (82, [(7, .int 10), (6, .int 0), (0, .ref 165), (1, .int 0), (2, .int p1), (3, .int 3), (4, .int 1), (5, .int 0)], [.ref 166])) rfl ?_
      refine xe_sn pg_117 4 (fr' := (88, [(7, .int 10), (6, .int 0), (0, .ref 165), (1, .int 0), (2, .int p1), (3, .int 3), (4, .int 1), (5, .int 0)], [.int 10, .int 4, .ref 166])) rfl ?_
      refine xe_sn pg_117 4 (fr' := (95, [(7, .int 10), (6, .int 0), (0, .ref 165), (1, .int 0), (2, .int p1), (3, .int 3), (4, .int 1), (5, .int 0)], [.int 10, .ref 187, .int 14, .ref 166])) rfl ?_
      refine xe_sn pg_117 4 (fr' := (71, [(7, .int 11), (6, .int 0), (0, .ref 165), (1, .int 0), (2, .int p1), (3, .int 3), (4, .int 1), (5, .int 0)], [])) rfl ?_
      refine xe_sn pg_117 4 (fr' := (79, [(7, .int 11), (6, .int 0), (0, .ref 165), (1, .int 0), (2, .int p1), (3, .int 3), (4, .int 1), (5, .int 0)], [.ref 165])) rfl ?_
      refine xe_sn pg_117 4 (fr' := (86, [(7, .int 11), (6, .int 0), (0, .ref 165), (1, .int 0), (2, .int p1), (3, .int 3), (4, .int 1), (5, .int 0)], [.int 4, .ref 166])) rfl ?_
      refine xe_sn pg_117 4 (fr' := (93, [(7, .int 11), (6, .int 0), (0, .ref 165), (1, .int 0), (2, .int p1), (3, .int 3), (4, .int 1), (5, .int 0)], [.ref 187, .int 15, .ref 166])) rfl ?_
      refine xe_sn pg_117 4 (fr' := (100, [(7, .int 12), (6, .int 0), (0, .ref 165), (1, .int 0), (2, .int p1), (3, .int 3), (4, .int 1), (5, .int 0)], [])) rfl ?_
      refine xe_sn pg_117 4 (fr' := (78, [(7, .int 12), (6, .int 0), (0, .ref 165), (1, .int 0), (2, .int p1), (3, .int 3), (4, .int 1), (5, .int 0)], [])) rfl ?_
      refine xe_sn pg_117 4 (fr' := (85, [(7, .int 12), (6, .int 0), (0, .ref 165), (1, .int 0), (2, .int p1), (3, .int 3), (4, .int 1), (5, .int 0)], [.int 4, .int 0, .ref 166])) rfl ?_
      refine xe_sn pg_117 4 (fr' := (90, [(7, .int 12), (6, .int 0), (0, .ref 165), (1, .int 0), (2, .int p1), (3, .int 3), (4, .int 1), (5, .int 0)], [.ref 165, .int 16, .ref 166])) rfl ?_
      refine xe_sn pg_117 4 (fr' := (97, [(7, .int 12), (6, .int 0), (0, .ref 165), (1, .int 0), (2, .int p1), (3, .int 3), (4, .int 1), (5, .int 0)], [])) rfl ?_
      refine xe_sn pg_117 4 (fr' := (75, [(7, .int 13), (6, .int 0), (0, .ref 165), (1, .int 0), (2, .int p1), (3, .int 3), (4, .int 1), (5, .int 0)], [.int 14, .int 13])) rfl ?_
      refine xe_sn pg_117 4 (fr' := (84, [(7, .int 13), (6, .int 0), (0, .ref 165), (1, .int 0), (2, .int p1), (3, .int 3), (4, .int 1), (5, .int 0)], [.int 0, .ref 166])) rfl ?_
      refine xe_sn pg_117 4 (fr' := (89, [(7, .int 13), (6, .int 0), (0, .ref 165), (1, .int 0), (2, .int p1), (3, .int 3), (4, .int 1), (5, .int 0)], [.int 17, .ref 166])) rfl ?_
      refine xe_sn pg_117 4 (fr' := (96, [(7, .int 13), (6, .int 0), (0, .ref 165), (1, .int 0), (2, .int p1), (3, .int 3), (4, .int 1), (5, .int 0)], [.int 0, .int 17, .ref 166])) rfl ?_
      refine xe_sn pg_117 4 (fr' := (73, [(7, .int 14), (6, .int 0), (0, .ref 165), (1, .int 0), (2, .int p1), (3, .int 3), (4, .int 1), (5, .int 0)], [.int 14])) rfl ?_
      refine xe_sn pg_117 4 (fr' := (107, [(7, .int 14), (6, .int 0), (0, .ref 165), (1, .int 0), (2, .int p1), (3, .int 3), (4, .int 1), (5, .int 0)], [.ref 166])) rfl ?_
      refine xe_sn pg_117 4 (fr' := (114, [(7, .int 14), (6, .int 0), (0, .ref 165), (1, .int 0), (2, .int p1), (3, .int 3), (4, .int 1), (5, .int 0)], [.int 0, .int 18, .ref 166])) rfl ?_
      refine xe_sn pg_117 4 (fr' := (120, [(7, .int 14), (6, .int 0), (0, .ref 165), (1, .int 0), (2, .int p1), (3, .int 3), (4, .int 1), (5, .int 0)], [.int 0, .ref 165])) rfl ?_
      refine xe_sn pg_117 3 (fr' := (125, [(7, .int 14), (6, .int 0), (0, .ref 165), (1, .int 0), (2, .int p1), (3, .int 3), (4, .int 1), (5, .int 0)], [])) rfl ?_
      exact xe_end pg_117 rfl
    refine xe_sn pg_140 2 (fr' := (127, [(0, .ref 165), (1, .int 3), (2, .int p1), (3, .int (nI e2))], [.int 1])) rfl ?_
    exact xe_end pg_140 rfl
  · exact ⟨⟨rfl, rfl, rfl, rfl⟩, Nat.le_of_ble_eq_true rfl, Nat.le_of_ble_eq_true rfl, rfl, fun _ => rfl⟩
theorem op_create (xs : Nat → Int32) (p0 p1 p2 : Int32) : op_ok xs 161 140 [.ref 0, .int p0, .int p1, .int p2, .ref 189] [.ref 165, .int p0, .int p1, .int p2] := by
  by_cases a0 : p0.toInt < 0
  · exact lf_create_0 xs p0 p1 p2 a0
  by_cases b0 : 3 < p0.toInt
  · exact lf_create_1 xs p0 p1 p2 b0
  replace a0 : 0 ≤ p0.toInt := by omega
  replace b0 : p0.toInt ≤ 3 := by omega
  rcases (by omega : p0.toInt = 0 ∨ p0.toInt = 1 ∨ p0.toInt = 2 ∨ p0.toInt = 3) with q0 | q0 | q0 | q0
  · obtain rfl : p0 = 0 := Int32.toInt_inj.mp (q0.trans (by decide))
    by_cases a1 : p1.toInt < 1
    · exact lf_create_2 xs p1 p2 a1
    by_cases b1 : 4 < p1.toInt
    · exact lf_create_3 xs p1 p2 b1
    replace a1 : 1 ≤ p1.toInt := by omega
    replace b1 : p1.toInt ≤ 4 := by omega
    by_cases a2 : p2.toInt < 1
    · exact lf_create_4 xs p1 p2 a1 b1 a2
    by_cases b2 : 65519 < p2.toInt
    · exact lf_create_5 xs p1 p2 a1 b1 b2
    replace a2 : 1 ≤ p2.toInt := by omega
    replace b2 : p2.toInt ≤ 65519 := by omega
    obtain ⟨e2, c2, d2, rfl⟩ := lf_nat p2 1 65519 a2 b2
    exact lf_create_6 xs p1 e2 a1 b1 c2 d2
  · obtain rfl : p0 = 1 := Int32.toInt_inj.mp (q0.trans (by decide))
    by_cases a1 : p1.toInt < 1
    · exact lf_create_7 xs p1 p2 a1
    by_cases b1 : 4 < p1.toInt
    · exact lf_create_8 xs p1 p2 b1
    replace a1 : 1 ≤ p1.toInt := by omega
    replace b1 : p1.toInt ≤ 4 := by omega
    by_cases a2 : p2.toInt < 1
    · exact lf_create_9 xs p1 p2 a1 b1 a2
    by_cases b2 : 65519 < p2.toInt
    · exact lf_create_10 xs p1 p2 a1 b1 b2
    replace a2 : 1 ≤ p2.toInt := by omega
    replace b2 : p2.toInt ≤ 65519 := by omega
    obtain ⟨e2, c2, d2, rfl⟩ := lf_nat p2 1 65519 a2 b2
    exact lf_create_11 xs p1 e2 a1 b1 c2 d2
  · obtain rfl : p0 = 2 := Int32.toInt_inj.mp (q0.trans (by decide))
    by_cases a1 : p1.toInt < 1
    · exact lf_create_12 xs p1 p2 a1
    by_cases b1 : 4 < p1.toInt
    · exact lf_create_13 xs p1 p2 b1
    replace a1 : 1 ≤ p1.toInt := by omega
    replace b1 : p1.toInt ≤ 4 := by omega
    by_cases a2 : p2.toInt < 1
    · exact lf_create_14 xs p1 p2 a1 b1 a2
    by_cases b2 : 65519 < p2.toInt
    · exact lf_create_15 xs p1 p2 a1 b1 b2
    replace a2 : 1 ≤ p2.toInt := by omega
    replace b2 : p2.toInt ≤ 65519 := by omega
    obtain ⟨e2, c2, d2, rfl⟩ := lf_nat p2 1 65519 a2 b2
    exact lf_create_16 xs p1 e2 a1 b1 c2 d2
  · obtain rfl : p0 = 3 := Int32.toInt_inj.mp (q0.trans (by decide))
    by_cases a1 : p1.toInt < 1
    · exact lf_create_17 xs p1 p2 a1
    by_cases b1 : 4 < p1.toInt
    · exact lf_create_18 xs p1 p2 b1
    replace a1 : 1 ≤ p1.toInt := by omega
    replace b1 : p1.toInt ≤ 4 := by omega
    by_cases a2 : p2.toInt < 1
    · exact lf_create_19 xs p1 p2 a1 b1 a2
    by_cases b2 : 65519 < p2.toInt
    · exact lf_create_20 xs p1 p2 a1 b1 b2
    replace a2 : 1 ≤ p2.toInt := by omega
    replace b2 : p2.toInt ≤ 65519 := by omega
    obtain ⟨e2, c2, d2, rfl⟩ := lf_nat p2 1 65519 a2 b2
    exact lf_create_21 xs p1 e2 a1 b1 c2 d2

